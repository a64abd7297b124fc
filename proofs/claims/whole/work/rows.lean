section
/-- a private method of a class that the tables say can be made, by its rows of tables_1 -/
def lw_okq (q : MethodName × Nat) : Prop := (q.1.cls ≠ "java/lang/invoke/MethodHandle" ∧ q.1.cls ≠ "java/lang/invoke/VarHandle") ∧ Cond.instantiable q.1.cls q.2 ∈ tables_1 ∧ Cond.privateMethod q.1 ∈ tables_1 ∧ Cond.instanceMethod q.1 ∈ tables_1
theorem lw_p0 : lw_okq (⟨"LogRaft", "change", "(LLogRaft$Word;II)I"⟩, 9) := ⟨⟨by decide +kernel, by decide +kernel⟩, List.mem_of_getElem? (i := 24) (by decide +kernel), List.mem_of_getElem? (i := 425) (by decide +kernel), List.mem_of_getElem? (i := 426) (by decide +kernel)⟩
theorem lw_p1 : lw_okq (⟨"LogRaft", "carryOut", "(LLogRaft$Word;II)I"⟩, 9) := ⟨⟨by decide +kernel, by decide +kernel⟩, List.mem_of_getElem? (i := 24) (by decide +kernel), List.mem_of_getElem? (i := 441) (by decide +kernel), List.mem_of_getElem? (i := 442) (by decide +kernel)⟩
theorem lw_p2 : lw_okq (⟨"LogRaft", "letCome", "(I)I"⟩, 9) := ⟨⟨by decide +kernel, by decide +kernel⟩, List.mem_of_getElem? (i := 24) (by decide +kernel), List.mem_of_getElem? (i := 453) (by decide +kernel), List.mem_of_getElem? (i := 454) (by decide +kernel)⟩
theorem lw_p3 : lw_okq (⟨"LogRaft", "refuse", "(II)I"⟩, 9) := ⟨⟨by decide +kernel, by decide +kernel⟩, List.mem_of_getElem? (i := 24) (by decide +kernel), List.mem_of_getElem? (i := 457) (by decide +kernel), List.mem_of_getElem? (i := 458) (by decide +kernel)⟩
theorem lw_p4 : lw_okq (⟨"LogRaft", "letAsk", "(I)I"⟩, 9) := ⟨⟨by decide +kernel, by decide +kernel⟩, List.mem_of_getElem? (i := 24) (by decide +kernel), List.mem_of_getElem? (i := 473) (by decide +kernel), List.mem_of_getElem? (i := 474) (by decide +kernel)⟩
theorem lw_p5 : lw_okq (⟨"LogRaft$Raft", "beginAsking", "(LLogRaft$Driver;I)V"⟩, 10) := ⟨⟨by decide +kernel, by decide +kernel⟩, List.mem_of_getElem? (i := 32) (by decide +kernel), List.mem_of_getElem? (i := 485) (by decide +kernel), List.mem_of_getElem? (i := 486) (by decide +kernel)⟩
theorem lw_p6 : lw_okq (⟨"LogRaft$Raft", "letVote", "(LLogRaft$Driver;I)I"⟩, 10) := ⟨⟨by decide +kernel, by decide +kernel⟩, List.mem_of_getElem? (i := 32) (by decide +kernel), List.mem_of_getElem? (i := 501) (by decide +kernel), List.mem_of_getElem? (i := 502) (by decide +kernel)⟩
theorem lw_p7 : lw_okq (⟨"LogRaft", "letSend", "(I)I"⟩, 9) := ⟨⟨by decide +kernel, by decide +kernel⟩, List.mem_of_getElem? (i := 24) (by decide +kernel), List.mem_of_getElem? (i := 513) (by decide +kernel), List.mem_of_getElem? (i := 514) (by decide +kernel)⟩
theorem lw_p8 : lw_okq (⟨"LogRaft", "letShout", "(II)I"⟩, 9) := ⟨⟨by decide +kernel, by decide +kernel⟩, List.mem_of_getElem? (i := 24) (by decide +kernel), List.mem_of_getElem? (i := 536) (by decide +kernel), List.mem_of_getElem? (i := 537) (by decide +kernel)⟩
theorem lw_p9 : lw_okq (⟨"LogRaft", "washAway", "(I)I"⟩, 9) := ⟨⟨by decide +kernel, by decide +kernel⟩, List.mem_of_getElem? (i := 24) (by decide +kernel), List.mem_of_getElem? (i := 544) (by decide +kernel), List.mem_of_getElem? (i := 545) (by decide +kernel)⟩
theorem lw_p10 : lw_okq (⟨"LogRaft", "bringBack", "(I)I"⟩, 9) := ⟨⟨by decide +kernel, by decide +kernel⟩, List.mem_of_getElem? (i := 24) (by decide +kernel), List.mem_of_getElem? (i := 552) (by decide +kernel), List.mem_of_getElem? (i := 553) (by decide +kernel)⟩
theorem lw_p11 : lw_okq (⟨"LogRaft", "changeRope", "(IIZ)I"⟩, 9) := ⟨⟨by decide +kernel, by decide +kernel⟩, List.mem_of_getElem? (i := 24) (by decide +kernel), List.mem_of_getElem? (i := 556) (by decide +kernel), List.mem_of_getElem? (i := 557) (by decide +kernel)⟩
theorem lw_p12 : lw_okq (⟨"LogRaft$Text", "takeCommand", "()Z"⟩, 4) := ⟨⟨by decide +kernel, by decide +kernel⟩, List.mem_of_getElem? (i := 189) (by decide +kernel), List.mem_of_getElem? (i := 646) (by decide +kernel), List.mem_of_getElem? (i := 647) (by decide +kernel)⟩
theorem lw_p13 : lw_okq (⟨"LogRaft$Text", "takeWord", "()LLogRaft$Word;"⟩, 4) := ⟨⟨by decide +kernel, by decide +kernel⟩, List.mem_of_getElem? (i := 189) (by decide +kernel), List.mem_of_getElem? (i := 650) (by decide +kernel), List.mem_of_getElem? (i := 651) (by decide +kernel)⟩
theorem lw_p14 : lw_okq (⟨"LogRaft$Text", "countFitting", "(Ljava/lang/String;)I"⟩, 4) := ⟨⟨by decide +kernel, by decide +kernel⟩, List.mem_of_getElem? (i := 189) (by decide +kernel), List.mem_of_getElem? (i := 656) (by decide +kernel), List.mem_of_getElem? (i := 657) (by decide +kernel)⟩
theorem lw_p15 : lw_okq (⟨"LogRaft$Text", "isHere", "(IC)Z"⟩, 4) := ⟨⟨by decide +kernel, by decide +kernel⟩, List.mem_of_getElem? (i := 189) (by decide +kernel), List.mem_of_getElem? (i := 687) (by decide +kernel), List.mem_of_getElem? (i := 688) (by decide +kernel)⟩
def lw_privs_1 : List (MethodName × Nat) := [(⟨"LogRaft", "change", "(LLogRaft$Word;II)I"⟩, 9), (⟨"LogRaft", "carryOut", "(LLogRaft$Word;II)I"⟩, 9), (⟨"LogRaft", "letCome", "(I)I"⟩, 9), (⟨"LogRaft", "refuse", "(II)I"⟩, 9), (⟨"LogRaft", "letAsk", "(I)I"⟩, 9), (⟨"LogRaft$Raft", "beginAsking", "(LLogRaft$Driver;I)V"⟩, 10), (⟨"LogRaft$Raft", "letVote", "(LLogRaft$Driver;I)I"⟩, 10), (⟨"LogRaft", "letSend", "(I)I"⟩, 9), (⟨"LogRaft", "letShout", "(II)I"⟩, 9), (⟨"LogRaft", "washAway", "(I)I"⟩, 9), (⟨"LogRaft", "bringBack", "(I)I"⟩, 9), (⟨"LogRaft", "changeRope", "(IIZ)I"⟩, 9), (⟨"LogRaft$Text", "takeCommand", "()Z"⟩, 4), (⟨"LogRaft$Text", "takeWord", "()LLogRaft$Word;"⟩, 4), (⟨"LogRaft$Text", "countFitting", "(Ljava/lang/String;)I"⟩, 4), (⟨"LogRaft$Text", "isHere", "(IC)Z"⟩, 4)]
theorem lw_r1 : ∀ q ∈ lw_privs_1, lw_okq q := List.forall_mem_cons.mpr ⟨lw_p0, List.forall_mem_cons.mpr ⟨lw_p1, List.forall_mem_cons.mpr ⟨lw_p2, List.forall_mem_cons.mpr ⟨lw_p3, List.forall_mem_cons.mpr ⟨lw_p4, List.forall_mem_cons.mpr ⟨lw_p5, List.forall_mem_cons.mpr ⟨lw_p6, List.forall_mem_cons.mpr ⟨lw_p7, List.forall_mem_cons.mpr ⟨lw_p8, List.forall_mem_cons.mpr ⟨lw_p9, List.forall_mem_cons.mpr ⟨lw_p10, List.forall_mem_cons.mpr ⟨lw_p11, List.forall_mem_cons.mpr ⟨lw_p12, List.forall_mem_cons.mpr ⟨lw_p13, List.forall_mem_cons.mpr ⟨lw_p14, List.forall_mem_cons.mpr ⟨lw_p15, fun _ h => absurd h List.not_mem_nil⟩⟩⟩⟩⟩⟩⟩⟩⟩⟩⟩⟩⟩⟩⟩⟩
theorem lw_p16 : lw_okq (⟨"LogRaft$Text", "takeArguments", "(LLogRaft$Command;)Z"⟩, 4) := ⟨⟨by decide +kernel, by decide +kernel⟩, List.mem_of_getElem? (i := 189) (by decide +kernel), List.mem_of_getElem? (i := 702) (by decide +kernel), List.mem_of_getElem? (i := 703) (by decide +kernel)⟩
theorem lw_p17 : lw_okq (⟨"LogRaft$Text", "takeFirst", "(LLogRaft$Command;)Z"⟩, 4) := ⟨⟨by decide +kernel, by decide +kernel⟩, List.mem_of_getElem? (i := 189) (by decide +kernel), List.mem_of_getElem? (i := 708) (by decide +kernel), List.mem_of_getElem? (i := 709) (by decide +kernel)⟩
theorem lw_p18 : lw_okq (⟨"LogRaft$Text", "takeDigit", "()I"⟩, 4) := ⟨⟨by decide +kernel, by decide +kernel⟩, List.mem_of_getElem? (i := 189) (by decide +kernel), List.mem_of_getElem? (i := 712) (by decide +kernel), List.mem_of_getElem? (i := 713) (by decide +kernel)⟩
theorem lw_p19 : lw_okq (⟨"LogRaft$Text", "takeBetween", "(CC)I"⟩, 4) := ⟨⟨by decide +kernel, by decide +kernel⟩, List.mem_of_getElem? (i := 189) (by decide +kernel), List.mem_of_getElem? (i := 716) (by decide +kernel), List.mem_of_getElem? (i := 717) (by decide +kernel)⟩
theorem lw_p20 : lw_okq (⟨"LogRaft$Text", "takeSign", "(C)Z"⟩, 4) := ⟨⟨by decide +kernel, by decide +kernel⟩, List.mem_of_getElem? (i := 189) (by decide +kernel), List.mem_of_getElem? (i := 720) (by decide +kernel), List.mem_of_getElem? (i := 721) (by decide +kernel)⟩
theorem lw_p21 : lw_okq (⟨"LogRaft$Text", "takeLetter", "(LLogRaft$Command;)Z"⟩, 4) := ⟨⟨by decide +kernel, by decide +kernel⟩, List.mem_of_getElem? (i := 189) (by decide +kernel), List.mem_of_getElem? (i := 724) (by decide +kernel), List.mem_of_getElem? (i := 725) (by decide +kernel)⟩
theorem lw_p22 : lw_okq (⟨"LogRaft$Text", "takeSecond", "(LLogRaft$Command;)Z"⟩, 4) := ⟨⟨by decide +kernel, by decide +kernel⟩, List.mem_of_getElem? (i := 189) (by decide +kernel), List.mem_of_getElem? (i := 728) (by decide +kernel), List.mem_of_getElem? (i := 729) (by decide +kernel)⟩
theorem lw_p23 : lw_okq (⟨"LogRaft", "refuseCommand", "(II)I"⟩, 9) := ⟨⟨by decide +kernel, by decide +kernel⟩, List.mem_of_getElem? (i := 24) (by decide +kernel), List.mem_of_getElem? (i := 756) (by decide +kernel), List.mem_of_getElem? (i := 757) (by decide +kernel)⟩
theorem lw_p24 : lw_okq (⟨"LogRaft", "codeOfAsking", "(I)I"⟩, 9) := ⟨⟨by decide +kernel, by decide +kernel⟩, List.mem_of_getElem? (i := 24) (by decide +kernel), List.mem_of_getElem? (i := 811) (by decide +kernel), List.mem_of_getElem? (i := 812) (by decide +kernel)⟩
theorem lw_p25 : lw_okq (⟨"LogRaft$Raft", "isRankedAhead", "(II)Z"⟩, 10) := ⟨⟨by decide +kernel, by decide +kernel⟩, List.mem_of_getElem? (i := 32) (by decide +kernel), List.mem_of_getElem? (i := 869) (by decide +kernel), List.mem_of_getElem? (i := 870) (by decide +kernel)⟩
theorem lw_p26 : lw_okq (⟨"LogRaftModel", "keeps", "()V"⟩, 20) := ⟨⟨by decide +kernel, by decide +kernel⟩, List.mem_of_getElem? (i := 995) (by decide +kernel), List.mem_of_getElem? (i := 1070) (by decide +kernel), List.mem_of_getElem? (i := 1071) (by decide +kernel)⟩
theorem lw_p27 : lw_okq (⟨"LogRaftModel", "comes", "(I)I"⟩, 20) := ⟨⟨by decide +kernel, by decide +kernel⟩, List.mem_of_getElem? (i := 995) (by decide +kernel), List.mem_of_getElem? (i := 1077) (by decide +kernel), List.mem_of_getElem? (i := 1078) (by decide +kernel)⟩
theorem lw_p28 : lw_okq (⟨"LogRaftModel", "isRefused", "(ZII)Z"⟩, 20) := ⟨⟨by decide +kernel, by decide +kernel⟩, List.mem_of_getElem? (i := 995) (by decide +kernel), List.mem_of_getElem? (i := 1084) (by decide +kernel), List.mem_of_getElem? (i := 1085) (by decide +kernel)⟩
theorem lw_p29 : lw_okq (⟨"LogRaftModel", "sets", "(III)V"⟩, 20) := ⟨⟨by decide +kernel, by decide +kernel⟩, List.mem_of_getElem? (i := 995) (by decide +kernel), List.mem_of_getElem? (i := 1088) (by decide +kernel), List.mem_of_getElem? (i := 1089) (by decide +kernel)⟩
theorem lw_p30 : lw_okq (⟨"LogRaftModel", "ends", "(I)I"⟩, 20) := ⟨⟨by decide +kernel, by decide +kernel⟩, List.mem_of_getElem? (i := 995) (by decide +kernel), List.mem_of_getElem? (i := 1095) (by decide +kernel), List.mem_of_getElem? (i := 1096) (by decide +kernel)⟩
theorem lw_p31 : lw_okq (⟨"LogRaftModel", "changed", "()V"⟩, 20) := ⟨⟨by decide +kernel, by decide +kernel⟩, List.mem_of_getElem? (i := 995) (by decide +kernel), List.mem_of_getElem? (i := 1099) (by decide +kernel), List.mem_of_getElem? (i := 1100) (by decide +kernel)⟩
def lw_privs_2 : List (MethodName × Nat) := [(⟨"LogRaft$Text", "takeArguments", "(LLogRaft$Command;)Z"⟩, 4), (⟨"LogRaft$Text", "takeFirst", "(LLogRaft$Command;)Z"⟩, 4), (⟨"LogRaft$Text", "takeDigit", "()I"⟩, 4), (⟨"LogRaft$Text", "takeBetween", "(CC)I"⟩, 4), (⟨"LogRaft$Text", "takeSign", "(C)Z"⟩, 4), (⟨"LogRaft$Text", "takeLetter", "(LLogRaft$Command;)Z"⟩, 4), (⟨"LogRaft$Text", "takeSecond", "(LLogRaft$Command;)Z"⟩, 4), (⟨"LogRaft", "refuseCommand", "(II)I"⟩, 9), (⟨"LogRaft", "codeOfAsking", "(I)I"⟩, 9), (⟨"LogRaft$Raft", "isRankedAhead", "(II)Z"⟩, 10), (⟨"LogRaftModel", "keeps", "()V"⟩, 20), (⟨"LogRaftModel", "comes", "(I)I"⟩, 20), (⟨"LogRaftModel", "isRefused", "(ZII)Z"⟩, 20), (⟨"LogRaftModel", "sets", "(III)V"⟩, 20), (⟨"LogRaftModel", "ends", "(I)I"⟩, 20), (⟨"LogRaftModel", "changed", "()V"⟩, 20)]
theorem lw_r2 : ∀ q ∈ lw_privs_2, lw_okq q := List.forall_mem_cons.mpr ⟨lw_p16, List.forall_mem_cons.mpr ⟨lw_p17, List.forall_mem_cons.mpr ⟨lw_p18, List.forall_mem_cons.mpr ⟨lw_p19, List.forall_mem_cons.mpr ⟨lw_p20, List.forall_mem_cons.mpr ⟨lw_p21, List.forall_mem_cons.mpr ⟨lw_p22, List.forall_mem_cons.mpr ⟨lw_p23, List.forall_mem_cons.mpr ⟨lw_p24, List.forall_mem_cons.mpr ⟨lw_p25, List.forall_mem_cons.mpr ⟨lw_p26, List.forall_mem_cons.mpr ⟨lw_p27, List.forall_mem_cons.mpr ⟨lw_p28, List.forall_mem_cons.mpr ⟨lw_p29, List.forall_mem_cons.mpr ⟨lw_p30, List.forall_mem_cons.mpr ⟨lw_p31, fun _ h => absurd h List.not_mem_nil⟩⟩⟩⟩⟩⟩⟩⟩⟩⟩⟩⟩⟩⟩⟩⟩
theorem lw_p32 : lw_okq (⟨"LogRaftModel", "asks", "(I)I"⟩, 20) := ⟨⟨by decide +kernel, by decide +kernel⟩, List.mem_of_getElem? (i := 995) (by decide +kernel), List.mem_of_getElem? (i := 1107) (by decide +kernel), List.mem_of_getElem? (i := 1108) (by decide +kernel)⟩
theorem lw_p33 : lw_okq (⟨"LogRaftModel", "isDriver", "(I)Z"⟩, 20) := ⟨⟨by decide +kernel, by decide +kernel⟩, List.mem_of_getElem? (i := 995) (by decide +kernel), List.mem_of_getElem? (i := 1111) (by decide +kernel), List.mem_of_getElem? (i := 1112) (by decide +kernel)⟩
theorem lw_p34 : lw_okq (⟨"LogRaftModel", "isWashed", "(I)Z"⟩, 20) := ⟨⟨by decide +kernel, by decide +kernel⟩, List.mem_of_getElem? (i := 995) (by decide +kernel), List.mem_of_getElem? (i := 1115) (by decide +kernel), List.mem_of_getElem? (i := 1116) (by decide +kernel)⟩
theorem lw_p35 : lw_okq (⟨"LogRaftModel", "isAboard", "(I)Z"⟩, 20) := ⟨⟨by decide +kernel, by decide +kernel⟩, List.mem_of_getElem? (i := 995) (by decide +kernel), List.mem_of_getElem? (i := 1119) (by decide +kernel), List.mem_of_getElem? (i := 1120) (by decide +kernel)⟩
theorem lw_p36 : lw_okq (⟨"LogRaftModel", "of", "(II)I"⟩, 20) := ⟨⟨by decide +kernel, by decide +kernel⟩, List.mem_of_getElem? (i := 995) (by decide +kernel), List.mem_of_getElem? (i := 1123) (by decide +kernel), List.mem_of_getElem? (i := 1124) (by decide +kernel)⟩
theorem lw_p37 : lw_okq (⟨"LogRaftModel", "asksNow", "(I)I"⟩, 20) := ⟨⟨by decide +kernel, by decide +kernel⟩, List.mem_of_getElem? (i := 995) (by decide +kernel), List.mem_of_getElem? (i := 1127) (by decide +kernel), List.mem_of_getElem? (i := 1128) (by decide +kernel)⟩
theorem lw_p38 : lw_okq (⟨"LogRaftModel", "isReached", "(II)Z"⟩, 20) := ⟨⟨by decide +kernel, by decide +kernel⟩, List.mem_of_getElem? (i := 995) (by decide +kernel), List.mem_of_getElem? (i := 1131) (by decide +kernel), List.mem_of_getElem? (i := 1132) (by decide +kernel)⟩
theorem lw_p39 : lw_okq (⟨"LogRaftModel", "ropeAt", "(II)I"⟩, 20) := ⟨⟨by decide +kernel, by decide +kernel⟩, List.mem_of_getElem? (i := 995) (by decide +kernel), List.mem_of_getElem? (i := 1135) (by decide +kernel), List.mem_of_getElem? (i := 1136) (by decide +kernel)⟩
theorem lw_p40 : lw_okq (⟨"LogRaftModel", "takesOver", "(II)V"⟩, 20) := ⟨⟨by decide +kernel, by decide +kernel⟩, List.mem_of_getElem? (i := 995) (by decide +kernel), List.mem_of_getElem? (i := 1145) (by decide +kernel), List.mem_of_getElem? (i := 1146) (by decide +kernel)⟩
theorem lw_p41 : lw_okq (⟨"LogRaftModel", "votes", "(II)Z"⟩, 20) := ⟨⟨by decide +kernel, by decide +kernel⟩, List.mem_of_getElem? (i := 995) (by decide +kernel), List.mem_of_getElem? (i := 1149) (by decide +kernel), List.mem_of_getElem? (i := 1150) (by decide +kernel)⟩
theorem lw_p42 : lw_okq (⟨"LogRaftModel", "longerOf", "(II)I"⟩, 20) := ⟨⟨by decide +kernel, by decide +kernel⟩, List.mem_of_getElem? (i := 995) (by decide +kernel), List.mem_of_getElem? (i := 1153) (by decide +kernel), List.mem_of_getElem? (i := 1154) (by decide +kernel)⟩
theorem lw_p43 : lw_okq (⟨"LogRaftModel", "lastTerm", "(I)I"⟩, 20) := ⟨⟨by decide +kernel, by decide +kernel⟩, List.mem_of_getElem? (i := 995) (by decide +kernel), List.mem_of_getElem? (i := 1157) (by decide +kernel), List.mem_of_getElem? (i := 1158) (by decide +kernel)⟩
theorem lw_p44 : lw_okq (⟨"LogRaftModel", "isMajority", "(I)Z"⟩, 20) := ⟨⟨by decide +kernel, by decide +kernel⟩, List.mem_of_getElem? (i := 995) (by decide +kernel), List.mem_of_getElem? (i := 1161) (by decide +kernel), List.mem_of_getElem? (i := 1162) (by decide +kernel)⟩
theorem lw_p45 : lw_okq (⟨"LogRaftModel", "sends", "(I)I"⟩, 20) := ⟨⟨by decide +kernel, by decide +kernel⟩, List.mem_of_getElem? (i := 995) (by decide +kernel), List.mem_of_getElem? (i := 1169) (by decide +kernel), List.mem_of_getElem? (i := 1170) (by decide +kernel)⟩
theorem lw_p46 : lw_okq (⟨"LogRaftModel", "isNoLeader", "(I)Z"⟩, 20) := ⟨⟨by decide +kernel, by decide +kernel⟩, List.mem_of_getElem? (i := 995) (by decide +kernel), List.mem_of_getElem? (i := 1173) (by decide +kernel), List.mem_of_getElem? (i := 1174) (by decide +kernel)⟩
theorem lw_p47 : lw_okq (⟨"LogRaftModel", "sendsNow", "(I)I"⟩, 20) := ⟨⟨by decide +kernel, by decide +kernel⟩, List.mem_of_getElem? (i := 995) (by decide +kernel), List.mem_of_getElem? (i := 1177) (by decide +kernel), List.mem_of_getElem? (i := 1178) (by decide +kernel)⟩
def lw_privs_3 : List (MethodName × Nat) := [(⟨"LogRaftModel", "asks", "(I)I"⟩, 20), (⟨"LogRaftModel", "isDriver", "(I)Z"⟩, 20), (⟨"LogRaftModel", "isWashed", "(I)Z"⟩, 20), (⟨"LogRaftModel", "isAboard", "(I)Z"⟩, 20), (⟨"LogRaftModel", "of", "(II)I"⟩, 20), (⟨"LogRaftModel", "asksNow", "(I)I"⟩, 20), (⟨"LogRaftModel", "isReached", "(II)Z"⟩, 20), (⟨"LogRaftModel", "ropeAt", "(II)I"⟩, 20), (⟨"LogRaftModel", "takesOver", "(II)V"⟩, 20), (⟨"LogRaftModel", "votes", "(II)Z"⟩, 20), (⟨"LogRaftModel", "longerOf", "(II)I"⟩, 20), (⟨"LogRaftModel", "lastTerm", "(I)I"⟩, 20), (⟨"LogRaftModel", "isMajority", "(I)Z"⟩, 20), (⟨"LogRaftModel", "sends", "(I)I"⟩, 20), (⟨"LogRaftModel", "isNoLeader", "(I)Z"⟩, 20), (⟨"LogRaftModel", "sendsNow", "(I)I"⟩, 20)]
theorem lw_r3 : ∀ q ∈ lw_privs_3, lw_okq q := List.forall_mem_cons.mpr ⟨lw_p32, List.forall_mem_cons.mpr ⟨lw_p33, List.forall_mem_cons.mpr ⟨lw_p34, List.forall_mem_cons.mpr ⟨lw_p35, List.forall_mem_cons.mpr ⟨lw_p36, List.forall_mem_cons.mpr ⟨lw_p37, List.forall_mem_cons.mpr ⟨lw_p38, List.forall_mem_cons.mpr ⟨lw_p39, List.forall_mem_cons.mpr ⟨lw_p40, List.forall_mem_cons.mpr ⟨lw_p41, List.forall_mem_cons.mpr ⟨lw_p42, List.forall_mem_cons.mpr ⟨lw_p43, List.forall_mem_cons.mpr ⟨lw_p44, List.forall_mem_cons.mpr ⟨lw_p45, List.forall_mem_cons.mpr ⟨lw_p46, List.forall_mem_cons.mpr ⟨lw_p47, fun _ h => absurd h List.not_mem_nil⟩⟩⟩⟩⟩⟩⟩⟩⟩⟩⟩⟩⟩⟩⟩⟩
theorem lw_p48 : lw_okq (⟨"LogRaftModel", "gets", "(II)V"⟩, 20) := ⟨⟨by decide +kernel, by decide +kernel⟩, List.mem_of_getElem? (i := 995) (by decide +kernel), List.mem_of_getElem? (i := 1181) (by decide +kernel), List.mem_of_getElem? (i := 1182) (by decide +kernel)⟩
theorem lw_p49 : lw_okq (⟨"LogRaftModel", "alikeTo", "(II)I"⟩, 20) := ⟨⟨by decide +kernel, by decide +kernel⟩, List.mem_of_getElem? (i := 995) (by decide +kernel), List.mem_of_getElem? (i := 1185) (by decide +kernel), List.mem_of_getElem? (i := 1186) (by decide +kernel)⟩
theorem lw_p50 : lw_okq (⟨"LogRaftModel", "lastOwn", "(I)I"⟩, 20) := ⟨⟨by decide +kernel, by decide +kernel⟩, List.mem_of_getElem? (i := 995) (by decide +kernel), List.mem_of_getElem? (i := 1189) (by decide +kernel), List.mem_of_getElem? (i := 1190) (by decide +kernel)⟩
theorem lw_p51 : lw_okq (⟨"LogRaftModel", "shouts", "(II)I"⟩, 20) := ⟨⟨by decide +kernel, by decide +kernel⟩, List.mem_of_getElem? (i := 995) (by decide +kernel), List.mem_of_getElem? (i := 1197) (by decide +kernel), List.mem_of_getElem? (i := 1198) (by decide +kernel)⟩
theorem lw_p52 : lw_okq (⟨"LogRaftModel", "washes", "(I)I"⟩, 20) := ⟨⟨by decide +kernel, by decide +kernel⟩, List.mem_of_getElem? (i := 995) (by decide +kernel), List.mem_of_getElem? (i := 1205) (by decide +kernel), List.mem_of_getElem? (i := 1206) (by decide +kernel)⟩
theorem lw_p53 : lw_okq (⟨"LogRaftModel", "aboard", "()I"⟩, 20) := ⟨⟨by decide +kernel, by decide +kernel⟩, List.mem_of_getElem? (i := 995) (by decide +kernel), List.mem_of_getElem? (i := 1209) (by decide +kernel), List.mem_of_getElem? (i := 1210) (by decide +kernel)⟩
theorem lw_p54 : lw_okq (⟨"LogRaftModel", "comesBack", "(I)I"⟩, 20) := ⟨⟨by decide +kernel, by decide +kernel⟩, List.mem_of_getElem? (i := 995) (by decide +kernel), List.mem_of_getElem? (i := 1217) (by decide +kernel), List.mem_of_getElem? (i := 1218) (by decide +kernel)⟩
theorem lw_p55 : lw_okq (⟨"LogRaftModel", "ropes", "(III)I"⟩, 20) := ⟨⟨by decide +kernel, by decide +kernel⟩, List.mem_of_getElem? (i := 995) (by decide +kernel), List.mem_of_getElem? (i := 1225) (by decide +kernel), List.mem_of_getElem? (i := 1226) (by decide +kernel)⟩
theorem lw_p56 : lw_okq (⟨"LogRaftModel", "areDrivers", "(II)Z"⟩, 20) := ⟨⟨by decide +kernel, by decide +kernel⟩, List.mem_of_getElem? (i := 995) (by decide +kernel), List.mem_of_getElem? (i := 1229) (by decide +kernel), List.mem_of_getElem? (i := 1230) (by decide +kernel)⟩
theorem lw_p57 : lw_okq (⟨"LogRaftModel", "ropesCut", "()I"⟩, 20) := ⟨⟨by decide +kernel, by decide +kernel⟩, List.mem_of_getElem? (i := 995) (by decide +kernel), List.mem_of_getElem? (i := 1233) (by decide +kernel), List.mem_of_getElem? (i := 1234) (by decide +kernel)⟩
theorem lw_p58 : lw_okq (⟨"LogRaftModel", "beatsGo", "(I)I"⟩, 20) := ⟨⟨by decide +kernel, by decide +kernel⟩, List.mem_of_getElem? (i := 995) (by decide +kernel), List.mem_of_getElem? (i := 1245) (by decide +kernel), List.mem_of_getElem? (i := 1246) (by decide +kernel)⟩
theorem lw_p59 : lw_okq (⟨"LogRaftModel", "beatGoes", "()V"⟩, 20) := ⟨⟨by decide +kernel, by decide +kernel⟩, List.mem_of_getElem? (i := 995) (by decide +kernel), List.mem_of_getElem? (i := 1249) (by decide +kernel), List.mem_of_getElem? (i := 1250) (by decide +kernel)⟩
theorem lw_p60 : lw_okq (⟨"LogRaftModel", "waits", "(I)V"⟩, 20) := ⟨⟨by decide +kernel, by decide +kernel⟩, List.mem_of_getElem? (i := 995) (by decide +kernel), List.mem_of_getElem? (i := 1253) (by decide +kernel), List.mem_of_getElem? (i := 1254) (by decide +kernel)⟩
theorem lw_p61 : lw_okq (⟨"LogRaftModel", "isText", "()Z"⟩, 20) := ⟨⟨by decide +kernel, by decide +kernel⟩, List.mem_of_getElem? (i := 995) (by decide +kernel), List.mem_of_getElem? (i := 1265) (by decide +kernel), List.mem_of_getElem? (i := 1266) (by decide +kernel)⟩
theorem lw_p62 : lw_okq (⟨"LogRaftModel", "readsCommand", "()Z"⟩, 20) := ⟨⟨by decide +kernel, by decide +kernel⟩, List.mem_of_getElem? (i := 995) (by decide +kernel), List.mem_of_getElem? (i := 1269) (by decide +kernel), List.mem_of_getElem? (i := 1270) (by decide +kernel)⟩
theorem lw_p63 : lw_okq (⟨"LogRaftModel", "isWord", "()Z"⟩, 20) := ⟨⟨by decide +kernel, by decide +kernel⟩, List.mem_of_getElem? (i := 995) (by decide +kernel), List.mem_of_getElem? (i := 1273) (by decide +kernel), List.mem_of_getElem? (i := 1274) (by decide +kernel)⟩
def lw_privs_4 : List (MethodName × Nat) := [(⟨"LogRaftModel", "gets", "(II)V"⟩, 20), (⟨"LogRaftModel", "alikeTo", "(II)I"⟩, 20), (⟨"LogRaftModel", "lastOwn", "(I)I"⟩, 20), (⟨"LogRaftModel", "shouts", "(II)I"⟩, 20), (⟨"LogRaftModel", "washes", "(I)I"⟩, 20), (⟨"LogRaftModel", "aboard", "()I"⟩, 20), (⟨"LogRaftModel", "comesBack", "(I)I"⟩, 20), (⟨"LogRaftModel", "ropes", "(III)I"⟩, 20), (⟨"LogRaftModel", "areDrivers", "(II)Z"⟩, 20), (⟨"LogRaftModel", "ropesCut", "()I"⟩, 20), (⟨"LogRaftModel", "beatsGo", "(I)I"⟩, 20), (⟨"LogRaftModel", "beatGoes", "()V"⟩, 20), (⟨"LogRaftModel", "waits", "(I)V"⟩, 20), (⟨"LogRaftModel", "isText", "()Z"⟩, 20), (⟨"LogRaftModel", "readsCommand", "()Z"⟩, 20), (⟨"LogRaftModel", "isWord", "()Z"⟩, 20)]
theorem lw_r4 : ∀ q ∈ lw_privs_4, lw_okq q := List.forall_mem_cons.mpr ⟨lw_p48, List.forall_mem_cons.mpr ⟨lw_p49, List.forall_mem_cons.mpr ⟨lw_p50, List.forall_mem_cons.mpr ⟨lw_p51, List.forall_mem_cons.mpr ⟨lw_p52, List.forall_mem_cons.mpr ⟨lw_p53, List.forall_mem_cons.mpr ⟨lw_p54, List.forall_mem_cons.mpr ⟨lw_p55, List.forall_mem_cons.mpr ⟨lw_p56, List.forall_mem_cons.mpr ⟨lw_p57, List.forall_mem_cons.mpr ⟨lw_p58, List.forall_mem_cons.mpr ⟨lw_p59, List.forall_mem_cons.mpr ⟨lw_p60, List.forall_mem_cons.mpr ⟨lw_p61, List.forall_mem_cons.mpr ⟨lw_p62, List.forall_mem_cons.mpr ⟨lw_p63, fun _ h => absurd h List.not_mem_nil⟩⟩⟩⟩⟩⟩⟩⟩⟩⟩⟩⟩⟩⟩⟩⟩
theorem lw_p64 : lw_okq (⟨"LogRaftModel", "alikeHere", "(Ljava/lang/String;)I"⟩, 20) := ⟨⟨by decide +kernel, by decide +kernel⟩, List.mem_of_getElem? (i := 995) (by decide +kernel), List.mem_of_getElem? (i := 1289) (by decide +kernel), List.mem_of_getElem? (i := 1290) (by decide +kernel)⟩
theorem lw_p65 : lw_okq (⟨"LogRaftModel", "isDigit", "(I)Z"⟩, 20) := ⟨⟨by decide +kernel, by decide +kernel⟩, List.mem_of_getElem? (i := 995) (by decide +kernel), List.mem_of_getElem? (i := 1295) (by decide +kernel), List.mem_of_getElem? (i := 1296) (by decide +kernel)⟩
theorem lw_p66 : lw_okq (⟨"LogRaftModel", "sign", "()I"⟩, 20) := ⟨⟨by decide +kernel, by decide +kernel⟩, List.mem_of_getElem? (i := 995) (by decide +kernel), List.mem_of_getElem? (i := 1299) (by decide +kernel), List.mem_of_getElem? (i := 1300) (by decide +kernel)⟩
theorem lw_p67 : lw_okq (⟨"LogRaftModel", "isSign", "(I)Z"⟩, 20) := ⟨⟨by decide +kernel, by decide +kernel⟩, List.mem_of_getElem? (i := 995) (by decide +kernel), List.mem_of_getElem? (i := 1303) (by decide +kernel), List.mem_of_getElem? (i := 1304) (by decide +kernel)⟩
theorem lw_p68 : lw_okq (⟨"LogRaftModel", "isLetter", "(I)Z"⟩, 20) := ⟨⟨by decide +kernel, by decide +kernel⟩, List.mem_of_getElem? (i := 995) (by decide +kernel), List.mem_of_getElem? (i := 1307) (by decide +kernel), List.mem_of_getElem? (i := 1308) (by decide +kernel)⟩
theorem lw_p69 : lw_okq (⟨"LogRaftModel", "does", "(I)I"⟩, 20) := ⟨⟨by decide +kernel, by decide +kernel⟩, List.mem_of_getElem? (i := 995) (by decide +kernel), List.mem_of_getElem? (i := 1311) (by decide +kernel), List.mem_of_getElem? (i := 1312) (by decide +kernel)⟩
theorem lw_p70 : lw_okq (⟨"LogRaftModel", "isBehind", "(ZI)V"⟩, 20) := ⟨⟨by decide +kernel, by decide +kernel⟩, List.mem_of_getElem? (i := 995) (by decide +kernel), List.mem_of_getElem? (i := 1315) (by decide +kernel), List.mem_of_getElem? (i := 1316) (by decide +kernel)⟩
theorem lw_p71 : lw_okq (⟨"LogRaftModel", "reachedBy", "(I)I"⟩, 20) := ⟨⟨by decide +kernel, by decide +kernel⟩, List.mem_of_getElem? (i := 995) (by decide +kernel), List.mem_of_getElem? (i := 1331) (by decide +kernel), List.mem_of_getElem? (i := 1332) (by decide +kernel)⟩
theorem lw_p72 : lw_okq (⟨"LogRaftModel", "isLine", "(II)Z"⟩, 20) := ⟨⟨by decide +kernel, by decide +kernel⟩, List.mem_of_getElem? (i := 995) (by decide +kernel), List.mem_of_getElem? (i := 1339) (by decide +kernel), List.mem_of_getElem? (i := 1340) (by decide +kernel)⟩
theorem lw_p73 : lw_okq (⟨"LogRaftModel", "wouldGive", "(II)Z"⟩, 20) := ⟨⟨by decide +kernel, by decide +kernel⟩, List.mem_of_getElem? (i := 995) (by decide +kernel), List.mem_of_getElem? (i := 1359) (by decide +kernel), List.mem_of_getElem? (i := 1360) (by decide +kernel)⟩
theorem lw_p74 : lw_okq (⟨"LogRaftModel", "codeOfAsking", "(I)I"⟩, 20) := ⟨⟨by decide +kernel, by decide +kernel⟩, List.mem_of_getElem? (i := 995) (by decide +kernel), List.mem_of_getElem? (i := 1367) (by decide +kernel), List.mem_of_getElem? (i := 1368) (by decide +kernel)⟩
theorem lw_p75 : lw_okq (⟨"LogRaftModel", "isAhead", "(II)Z"⟩, 20) := ⟨⟨by decide +kernel, by decide +kernel⟩, List.mem_of_getElem? (i := 995) (by decide +kernel), List.mem_of_getElem? (i := 1403) (by decide +kernel), List.mem_of_getElem? (i := 1404) (by decide +kernel)⟩
theorem lw_p76 : lw_okq (⟨"LogRaftModel", "waitsYet", "(I)I"⟩, 20) := ⟨⟨by decide +kernel, by decide +kernel⟩, List.mem_of_getElem? (i := 995) (by decide +kernel), List.mem_of_getElem? (i := 1411) (by decide +kernel), List.mem_of_getElem? (i := 1412) (by decide +kernel)⟩
theorem lw_p77 : lw_okq (⟨"LogRaftModel", "doesWait", "(I)Z"⟩, 20) := ⟨⟨by decide +kernel, by decide +kernel⟩, List.mem_of_getElem? (i := 995) (by decide +kernel), List.mem_of_getElem? (i := 1415) (by decide +kernel), List.mem_of_getElem? (i := 1416) (by decide +kernel)⟩
theorem lw_p78 : lw_okq (⟨"LogRaftModel", "puts", "(I)V"⟩, 20) := ⟨⟨by decide +kernel, by decide +kernel⟩, List.mem_of_getElem? (i := 995) (by decide +kernel), List.mem_of_getElem? (i := 1427) (by decide +kernel), List.mem_of_getElem? (i := 1428) (by decide +kernel)⟩
theorem lw_p79 : lw_okq (⟨"LogRaftModel", "number", "(I)V"⟩, 20) := ⟨⟨by decide +kernel, by decide +kernel⟩, List.mem_of_getElem? (i := 995) (by decide +kernel), List.mem_of_getElem? (i := 1431) (by decide +kernel), List.mem_of_getElem? (i := 1432) (by decide +kernel)⟩
def lw_privs_5 : List (MethodName × Nat) := [(⟨"LogRaftModel", "alikeHere", "(Ljava/lang/String;)I"⟩, 20), (⟨"LogRaftModel", "isDigit", "(I)Z"⟩, 20), (⟨"LogRaftModel", "sign", "()I"⟩, 20), (⟨"LogRaftModel", "isSign", "(I)Z"⟩, 20), (⟨"LogRaftModel", "isLetter", "(I)Z"⟩, 20), (⟨"LogRaftModel", "does", "(I)I"⟩, 20), (⟨"LogRaftModel", "isBehind", "(ZI)V"⟩, 20), (⟨"LogRaftModel", "reachedBy", "(I)I"⟩, 20), (⟨"LogRaftModel", "isLine", "(II)Z"⟩, 20), (⟨"LogRaftModel", "wouldGive", "(II)Z"⟩, 20), (⟨"LogRaftModel", "codeOfAsking", "(I)I"⟩, 20), (⟨"LogRaftModel", "isAhead", "(II)Z"⟩, 20), (⟨"LogRaftModel", "waitsYet", "(I)I"⟩, 20), (⟨"LogRaftModel", "doesWait", "(I)Z"⟩, 20), (⟨"LogRaftModel", "puts", "(I)V"⟩, 20), (⟨"LogRaftModel", "number", "(I)V"⟩, 20)]
theorem lw_r5 : ∀ q ∈ lw_privs_5, lw_okq q := List.forall_mem_cons.mpr ⟨lw_p64, List.forall_mem_cons.mpr ⟨lw_p65, List.forall_mem_cons.mpr ⟨lw_p66, List.forall_mem_cons.mpr ⟨lw_p67, List.forall_mem_cons.mpr ⟨lw_p68, List.forall_mem_cons.mpr ⟨lw_p69, List.forall_mem_cons.mpr ⟨lw_p70, List.forall_mem_cons.mpr ⟨lw_p71, List.forall_mem_cons.mpr ⟨lw_p72, List.forall_mem_cons.mpr ⟨lw_p73, List.forall_mem_cons.mpr ⟨lw_p74, List.forall_mem_cons.mpr ⟨lw_p75, List.forall_mem_cons.mpr ⟨lw_p76, List.forall_mem_cons.mpr ⟨lw_p77, List.forall_mem_cons.mpr ⟨lw_p78, List.forall_mem_cons.mpr ⟨lw_p79, fun _ h => absurd h List.not_mem_nil⟩⟩⟩⟩⟩⟩⟩⟩⟩⟩⟩⟩⟩⟩⟩⟩
theorem lw_p80 : lw_okq (⟨"LogRaftModel", "allOf", "(I)I"⟩, 20) := ⟨⟨by decide +kernel, by decide +kernel⟩, List.mem_of_getElem? (i := 995) (by decide +kernel), List.mem_of_getElem? (i := 1447) (by decide +kernel), List.mem_of_getElem? (i := 1448) (by decide +kernel)⟩
theorem lw_p81 : lw_okq (⟨"LogRaftModel", "greatestTerm", "()I"⟩, 20) := ⟨⟨by decide +kernel, by decide +kernel⟩, List.mem_of_getElem? (i := 995) (by decide +kernel), List.mem_of_getElem? (i := 1459) (by decide +kernel), List.mem_of_getElem? (i := 1460) (by decide +kernel)⟩
def lw_privs_6 : List (MethodName × Nat) := [(⟨"LogRaftModel", "allOf", "(I)I"⟩, 20), (⟨"LogRaftModel", "greatestTerm", "()I"⟩, 20)]
theorem lw_r6 : ∀ q ∈ lw_privs_6, lw_okq q := List.forall_mem_cons.mpr ⟨lw_p80, List.forall_mem_cons.mpr ⟨lw_p81, fun _ h => absurd h List.not_mem_nil⟩⟩
def lw_privs : List (MethodName × Nat) := lw_privs_1 ++ (lw_privs_2 ++ (lw_privs_3 ++ (lw_privs_4 ++ (lw_privs_5 ++ (lw_privs_6)))))
def lw_tbl : List Cond := k2_sels lw_privs ++ tables_1
theorem lw_privs_ok : ∀ q ∈ lw_privs, lw_okq q := by
  show ∀ q ∈ lw_privs_1 ++ (lw_privs_2 ++ (lw_privs_3 ++ (lw_privs_4 ++ (lw_privs_5 ++ (lw_privs_6))))), lw_okq q
  exact List.forall_mem_append.mpr ⟨lw_r1, List.forall_mem_append.mpr ⟨lw_r2, List.forall_mem_append.mpr ⟨lw_r3, List.forall_mem_append.mpr ⟨lw_r4, List.forall_mem_append.mpr ⟨lw_r5, lw_r6⟩⟩⟩⟩⟩
/-- the streams that the claim lets the run draw from -/
abbrev lw_cs : List Choice := [Jvm.Choice.named "NaN.bits"]
theorem lw_bits : nanBits ∈ lw_cs := by first | decide | exact List.mem_cons_self | simp [lw_cs, nanBits]
def RX0 : String := "LogRaft$1"
def TX0 : u_T := fun k => match k with
  | _ => ("", "", "", false)
def tyX0 : Nat → FieldType := fun k => match k with
  | _ => .int
theorem nmX0 : ∀ a, a < 0 → ∀ b, b < 0 → a ≠ b → (TX0 a).2.1 ≠ (TX0 b).2.1 := by decide +kernel
theorem tyX0_ok : ∀ k, k < 0 → parseFieldDescriptor (TX0 k).2.2.1 = some (tyX0 k) := by decide +kernel
def RX1 : String := "LogRaft$Command"
def TX1 : u_T := fun k => match k with
  | 0 => ("LogRaft$Command", "word", "LLogRaft$Word;", false)
  | 1 => ("LogRaft$Command", "first", "I", false)
  | _ => ("LogRaft$Command", "second", "I", false)
def tyX1 : Nat → FieldType := fun k => match k with
  | 0 => .object "LogRaft$Word"
  | 1 => .int
  | _ => .int
theorem nmX1 : ∀ a, a < 3 → ∀ b, b < 3 → a ≠ b → (TX1 a).2.1 ≠ (TX1 b).2.1 := by decide +kernel
theorem tyX1_ok : ∀ k, k < 3 → parseFieldDescriptor (TX1 k).2.2.1 = some (tyX1 k) := by decide +kernel
abbrev cX1_init : ByteArray := prog_3_method_1_code
def yX1_init : MethodName := ⟨RX1, "<init>", "()V"⟩
def RX2 : String := "LogRaft$Driver"
def TX2 : u_T := fun k => match k with
  | 0 => ("LogRaft$Driver", "doing", "I", false)
  | 1 => ("LogRaft$Driver", "term", "I", false)
  | 2 => ("LogRaft$Driver", "patience", "I", false)
  | 3 => ("LogRaft$Driver", "waited", "I", false)
  | 4 => ("LogRaft$Driver", "vote", "I", false)
  | 5 => ("LogRaft$Driver", "lines", "I", false)
  | 6 => ("LogRaft$Driver", "known", "I", false)
  | 7 => ("LogRaft$Driver", "isAboard", "Z", false)
  | 8 => ("LogRaft$Driver", "timesAsked", "I", false)
  | 9 => ("LogRaft$Driver", "timesLed", "I", false)
  | 10 => ("LogRaft$Driver", "terms", "[I", true)
  | _ => ("LogRaft$Driver", "letters", "[C", true)
def tyX2 : Nat → FieldType := fun k => match k with
  | 0 => .int
  | 1 => .int
  | 2 => .int
  | 3 => .int
  | 4 => .int
  | 5 => .int
  | 6 => .int
  | 7 => .boolean
  | 8 => .int
  | 9 => .int
  | 10 => .array .int
  | _ => .array .char
theorem nmX2 : ∀ a, a < 12 → ∀ b, b < 12 → a ≠ b → (TX2 a).2.1 ≠ (TX2 b).2.1 := by decide +kernel
theorem tyX2_ok : ∀ k, k < 12 → parseFieldDescriptor (TX2 k).2.2.1 = some (tyX2 k) := by decide +kernel
abbrev cX2_init : ByteArray := prog_4_method_1_code
def yX2_init : MethodName := ⟨RX2, "<init>", "()V"⟩
abbrev cX2_begin : ByteArray := prog_4_method_2_code
def yX2_begin : MethodName := ⟨RX2, "begin", "(I)V"⟩
abbrev cX2_copyFrom : ByteArray := prog_4_method_3_code
def yX2_copyFrom : MethodName := ⟨RX2, "copyFrom", "(LLogRaft$Driver;)V"⟩
abbrev cX2_copyLines : ByteArray := prog_4_method_4_code
def yX2_copyLines : MethodName := ⟨RX2, "copyLines", "(LLogRaft$Driver;I)V"⟩
abbrev cX2_write : ByteArray := prog_4_method_5_code
def yX2_write : MethodName := ⟨RX2, "write", "(IC)V"⟩
abbrev cX2_isLeading : ByteArray := prog_4_method_6_code
def yX2_isLeading : MethodName := ⟨RX2, "isLeading", "()Z"⟩
abbrev cX2_isWaiting : ByteArray := prog_4_method_7_code
def yX2_isWaiting : MethodName := ⟨RX2, "isWaiting", "()Z"⟩
abbrev cX2_waitBeat : ByteArray := prog_4_method_8_code
def yX2_waitBeat : MethodName := ⟨RX2, "waitBeat", "()Z"⟩
abbrev cX2_beatsLeft : ByteArray := prog_4_method_9_code
def yX2_beatsLeft : MethodName := ⟨RX2, "beatsLeft", "()I"⟩
abbrev cX2_hasLongerTaleThan : ByteArray := prog_4_method_10_code
def yX2_hasLongerTaleThan : MethodName := ⟨RX2, "hasLongerTaleThan", "(LLogRaft$Driver;)Z"⟩
abbrev cX2_countSameLines : ByteArray := prog_4_method_11_code
def yX2_countSameLines : MethodName := ⟨RX2, "countSameLines", "(LLogRaft$Driver;)I"⟩
abbrev cX2_takeOver : ByteArray := prog_4_method_12_code
def yX2_takeOver : MethodName := ⟨RX2, "takeOver", "(I)V"⟩
abbrev cX2_followLeader : ByteArray := prog_4_method_13_code
def yX2_followLeader : MethodName := ⟨RX2, "followLeader", "(LLogRaft$Driver;)I"⟩
abbrev cX2_agreeOwnLines : ByteArray := prog_4_method_14_code
def yX2_agreeOwnLines : MethodName := ⟨RX2, "agreeOwnLines", "()V"⟩
abbrev cX2_writeOn : ByteArray := prog_4_method_15_code
def yX2_writeOn : MethodName := ⟨RX2, "writeOn", "(Ljava/lang/StringBuilder;)V"⟩
def RX3 : String := "LogRaft$Past"
def TX3 : u_T := fun k => match k with
  | 0 => ("LogRaft$Past", "states", "[LLogRaft$Raft;", true)
  | 1 => ("LogRaft$Past", "next", "I", false)
  | _ => ("LogRaft$Past", "count", "I", false)
def tyX3 : Nat → FieldType := fun k => match k with
  | 0 => .array (.object "LogRaft$Raft")
  | 1 => .int
  | _ => .int
theorem nmX3 : ∀ a, a < 3 → ∀ b, b < 3 → a ≠ b → (TX3 a).2.1 ≠ (TX3 b).2.1 := by decide +kernel
theorem tyX3_ok : ∀ k, k < 3 → parseFieldDescriptor (TX3 k).2.2.1 = some (tyX3 k) := by decide +kernel
abbrev cX3_init : ByteArray := prog_5_method_1_code
def yX3_init : MethodName := ⟨RX3, "<init>", "()V"⟩
abbrev cX3_remember : ByteArray := prog_5_method_2_code
def yX3_remember : MethodName := ⟨RX3, "remember", "(LLogRaft$Raft;)V"⟩
abbrev cX3_takeBack : ByteArray := prog_5_method_3_code
def yX3_takeBack : MethodName := ⟨RX3, "takeBack", "(LLogRaft$Raft;)V"⟩
abbrev cX3_forget : ByteArray := prog_5_method_4_code
def yX3_forget : MethodName := ⟨RX3, "forget", "()V"⟩
def RX4 : String := "LogRaft$Raft"
def TX4 : u_T := fun k => match k with
  | 0 => ("LogRaft$Raft", "drivers", "[LLogRaft$Driver;", true)
  | 1 => ("LogRaft$Raft", "cutRopes", "[Z", true)
  | 2 => ("LogRaft$Raft", "count", "I", false)
  | 3 => ("LogRaft$Raft", "beat", "I", false)
  | 4 => ("LogRaft$Raft", "asks", "I", false)
  | 5 => ("LogRaft$Raft", "leads", "I", false)
  | 6 => ("LogRaft$Raft", "shouts", "I", false)
  | 7 => ("LogRaft$Raft", "cutLines", "I", false)
  | 8 => ("LogRaft$Raft", "sendings", "I", false)
  | _ => ("LogRaft$Raft", "votes", "I", false)
def tyX4 : Nat → FieldType := fun k => match k with
  | 0 => .array (.object "LogRaft$Driver")
  | 1 => .array .boolean
  | 2 => .int
  | 3 => .int
  | 4 => .int
  | 5 => .int
  | 6 => .int
  | 7 => .int
  | 8 => .int
  | _ => .int
theorem nmX4 : ∀ a, a < 10 → ∀ b, b < 10 → a ≠ b → (TX4 a).2.1 ≠ (TX4 b).2.1 := by decide +kernel
theorem tyX4_ok : ∀ k, k < 10 → parseFieldDescriptor (TX4 k).2.2.1 = some (tyX4 k) := by decide +kernel
abbrev cX4_init : ByteArray := prog_6_method_1_code
def yX4_init : MethodName := ⟨RX4, "<init>", "()V"⟩
abbrev cX4_empty : ByteArray := prog_6_method_2_code
def yX4_empty : MethodName := ⟨RX4, "empty", "()V"⟩
abbrev cX4_copyFrom : ByteArray := prog_6_method_3_code
def yX4_copyFrom : MethodName := ⟨RX4, "copyFrom", "(LLogRaft$Raft;)V"⟩
abbrev cX4_has : ByteArray := prog_6_method_4_code
def yX4_has : MethodName := ⟨RX4, "has", "(I)Z"⟩
abbrev cX4_hasLine : ByteArray := prog_6_method_5_code
def yX4_hasLine : MethodName := ⟨RX4, "hasLine", "(II)Z"⟩
abbrev cX4_addDriver : ByteArray := prog_6_method_6_code
def yX4_addDriver : MethodName := ⟨RX4, "addDriver", "(I)I"⟩
abbrev cX4_isMajority : ByteArray := prog_6_method_7_code
def yX4_isMajority : MethodName := ⟨RX4, "isMajority", "(I)Z"⟩
abbrev cX4_isRopeCut : ByteArray := prog_6_method_8_code
def yX4_isRopeCut : MethodName := ⟨RX4, "isRopeCut", "(II)Z"⟩
abbrev cX4_setRope : ByteArray := prog_6_method_9_code
def yX4_setRope : MethodName := ⟨RX4, "setRope", "(IIZ)V"⟩
abbrev cX4_canReach : ByteArray := prog_6_method_10_code
def yX4_canReach : MethodName := ⟨RX4, "canReach", "(II)Z"⟩
abbrev cX4_countReached : ByteArray := prog_6_method_11_code
def yX4_countReached : MethodName := ⟨RX4, "countReached", "(I)I"⟩
abbrev cX4_countCutRopes : ByteArray := prog_6_method_12_code
def yX4_countCutRopes : MethodName := ⟨RX4, "countCutRopes", "()I"⟩
abbrev cX4_gatherVotes : ByteArray := prog_6_method_13_code
def yX4_gatherVotes : MethodName := ⟨RX4, "gatherVotes", "(I)I"⟩
abbrev cX4_beginAsking : ByteArray := prog_6_method_14_code
def yX4_beginAsking : MethodName := ⟨RX4, "beginAsking", "(LLogRaft$Driver;I)V"⟩
abbrev cX4_letVote : ByteArray := prog_6_method_15_code
def yX4_letVote : MethodName := ⟨RX4, "letVote", "(LLogRaft$Driver;I)I"⟩
abbrev cX4_wouldGrantVote : ByteArray := prog_6_method_16_code
def yX4_wouldGrantVote : MethodName := ⟨RX4, "wouldGrantVote", "(II)Z"⟩
abbrev cX4_votesToGet : ByteArray := prog_6_method_17_code
def yX4_votesToGet : MethodName := ⟨RX4, "votesToGet", "(I)I"⟩
abbrev cX4_hasVoteOf : ByteArray := prog_6_method_18_code
def yX4_hasVoteOf : MethodName := ⟨RX4, "hasVoteOf", "(II)Z"⟩
abbrev cX4_sendFrom : ByteArray := prog_6_method_19_code
def yX4_sendFrom : MethodName := ⟨RX4, "sendFrom", "(I)I"⟩
abbrev cX4_passBeats : ByteArray := prog_6_method_20_code
def yX4_passBeats : MethodName := ⟨RX4, "passBeats", "(I)I"⟩
abbrev cX4_isConflict : ByteArray := prog_6_method_21_code
def yX4_isConflict : MethodName := ⟨RX4, "isConflict", "(II)Z"⟩
abbrev cX4_countRankedAhead : ByteArray := prog_6_method_22_code
def yX4_countRankedAhead : MethodName := ⟨RX4, "countRankedAhead", "(I)I"⟩
abbrev cX4_isRankedAhead : ByteArray := prog_6_method_23_code
def yX4_isRankedAhead : MethodName := ⟨RX4, "isRankedAhead", "(II)Z"⟩
abbrev cX4_countAskingAhead : ByteArray := prog_6_method_24_code
def yX4_countAskingAhead : MethodName := ⟨RX4, "countAskingAhead", "(I)I"⟩
abbrev cX4_countAboard : ByteArray := prog_6_method_25_code
def yX4_countAboard : MethodName := ⟨RX4, "countAboard", "()I"⟩
abbrev cX4_countLines : ByteArray := prog_6_method_26_code
def yX4_countLines : MethodName := ⟨RX4, "countLines", "()I"⟩
abbrev cX4_countKnownLines : ByteArray := prog_6_method_27_code
def yX4_countKnownLines : MethodName := ⟨RX4, "countKnownLines", "()I"⟩
abbrev cX4_greatestTerm : ByteArray := prog_6_method_28_code
def yX4_greatestTerm : MethodName := ⟨RX4, "greatestTerm", "()I"⟩
def RX5 : String := "LogRaft$Reasons"
def TX5 : u_T := fun k => match k with
  | 0 => ("LogRaft$Reasons", "number", "I", false)
  | 1 => ("LogRaft$Reasons", "detail", "I", false)
  | 2 => ("LogRaft$Reasons", "numberBehind", "I", false)
  | _ => ("LogRaft$Reasons", "detailBehind", "I", false)
def tyX5 : Nat → FieldType := fun k => match k with
  | 0 => .int
  | 1 => .int
  | 2 => .int
  | _ => .int
theorem nmX5 : ∀ a, a < 4 → ∀ b, b < 4 → a ≠ b → (TX5 a).2.1 ≠ (TX5 b).2.1 := by decide +kernel
theorem tyX5_ok : ∀ k, k < 4 → parseFieldDescriptor (TX5 k).2.2.1 = some (tyX5 k) := by decide +kernel
abbrev cX5_init : ByteArray := prog_7_method_1_code
def yX5_init : MethodName := ⟨RX5, "<init>", "()V"⟩
abbrev cX5_put : ByteArray := prog_7_method_2_code
def yX5_put : MethodName := ⟨RX5, "put", "(II)V"⟩
abbrev cX5_putAhead : ByteArray := prog_7_method_3_code
def yX5_putAhead : MethodName := ⟨RX5, "putAhead", "(II)V"⟩
def RX6 : String := "LogRaft$Text"
def TX6 : u_T := fun k => match k with
  | 0 => ("LogRaft$Text", "signs", "Ljava/lang/StringBuilder;", true)
  | 1 => ("LogRaft$Text", "commands", "[LLogRaft$Command;", true)
  | 2 => ("LogRaft$Text", "count", "I", false)
  | _ => ("LogRaft$Text", "position", "I", false)
def tyX6 : Nat → FieldType := fun k => match k with
  | 0 => .object "java/lang/StringBuilder"
  | 1 => .array (.object "LogRaft$Command")
  | 2 => .int
  | _ => .int
theorem nmX6 : ∀ a, a < 4 → ∀ b, b < 4 → a ≠ b → (TX6 a).2.1 ≠ (TX6 b).2.1 := by decide +kernel
theorem tyX6_ok : ∀ k, k < 4 → parseFieldDescriptor (TX6 k).2.2.1 = some (tyX6 k) := by decide +kernel
abbrev cX6_init : ByteArray := prog_8_method_1_code
def yX6_init : MethodName := ⟨RX6, "<init>", "()V"⟩
abbrev cX6_size : ByteArray := prog_8_method_2_code
def yX6_size : MethodName := ⟨RX6, "size", "()I"⟩
abbrev cX6_add : ByteArray := prog_8_method_3_code
def yX6_add : MethodName := ⟨RX6, "add", "(C)Z"⟩
abbrev cX6_empty : ByteArray := prog_8_method_4_code
def yX6_empty : MethodName := ⟨RX6, "empty", "()V"⟩
abbrev cX6_parse : ByteArray := prog_8_method_5_code
def yX6_parse : MethodName := ⟨RX6, "parse", "()Z"⟩
abbrev cX6_takeCommand : ByteArray := prog_8_method_6_code
def yX6_takeCommand : MethodName := ⟨RX6, "takeCommand", "()Z"⟩
abbrev cX6_takeWord : ByteArray := prog_8_method_7_code
def yX6_takeWord : MethodName := ⟨RX6, "takeWord", "()LLogRaft$Word;"⟩
abbrev cX6_countFitting : ByteArray := prog_8_method_8_code
def yX6_countFitting : MethodName := ⟨RX6, "countFitting", "(Ljava/lang/String;)I"⟩
abbrev cX6_isHere : ByteArray := prog_8_method_9_code
def yX6_isHere : MethodName := ⟨RX6, "isHere", "(IC)Z"⟩
abbrev cX6_takeArguments : ByteArray := prog_8_method_10_code
def yX6_takeArguments : MethodName := ⟨RX6, "takeArguments", "(LLogRaft$Command;)Z"⟩
abbrev cX6_takeFirst : ByteArray := prog_8_method_11_code
def yX6_takeFirst : MethodName := ⟨RX6, "takeFirst", "(LLogRaft$Command;)Z"⟩
abbrev cX6_takeSecond : ByteArray := prog_8_method_12_code
def yX6_takeSecond : MethodName := ⟨RX6, "takeSecond", "(LLogRaft$Command;)Z"⟩
abbrev cX6_takeLetter : ByteArray := prog_8_method_13_code
def yX6_takeLetter : MethodName := ⟨RX6, "takeLetter", "(LLogRaft$Command;)Z"⟩
abbrev cX6_takeDigit : ByteArray := prog_8_method_14_code
def yX6_takeDigit : MethodName := ⟨RX6, "takeDigit", "()I"⟩
abbrev cX6_takeSign : ByteArray := prog_8_method_15_code
def yX6_takeSign : MethodName := ⟨RX6, "takeSign", "(C)Z"⟩
abbrev cX6_takeBetween : ByteArray := prog_8_method_16_code
def yX6_takeBetween : MethodName := ⟨RX6, "takeBetween", "(CC)I"⟩
def RX7 : String := "LogRaft$Word"
def TX7 : u_T := fun k => match k with
  | _ => ("", "", "", false)
def tyX7 : Nat → FieldType := fun k => match k with
  | _ => .int
theorem nmX7 : ∀ a, a < 0 → ∀ b, b < 0 → a ≠ b → (TX7 a).2.1 ≠ (TX7 b).2.1 := by decide +kernel
theorem tyX7_ok : ∀ k, k < 0 → parseFieldDescriptor (TX7 k).2.2.1 = some (tyX7 k) := by decide +kernel
def RX8 : String := "LogRaft"
def TX8 : u_T := fun k => match k with
  | 0 => ("LogRaft", "now", "LLogRaft$Raft;", true)
  | 1 => ("LogRaft", "spare", "LLogRaft$Raft;", true)
  | 2 => ("LogRaft", "saved", "LLogRaft$Raft;", true)
  | 3 => ("LogRaft", "past", "LLogRaft$Past;", true)
  | 4 => ("LogRaft", "reasons", "LLogRaft$Reasons;", true)
  | 5 => ("LogRaft", "text", "LLogRaft$Text;", true)
  | 6 => ("LogRaft", "writing", "Ljava/lang/StringBuilder;", true)
  | 7 => ("LogRaft", "isSaved", "Z", false)
  | _ => ("LogRaft", "faultAt", "I", false)
def tyX8 : Nat → FieldType := fun k => match k with
  | 0 => .object "LogRaft$Raft"
  | 1 => .object "LogRaft$Raft"
  | 2 => .object "LogRaft$Raft"
  | 3 => .object "LogRaft$Past"
  | 4 => .object "LogRaft$Reasons"
  | 5 => .object "LogRaft$Text"
  | 6 => .object "java/lang/StringBuilder"
  | 7 => .boolean
  | _ => .int
theorem nmX8 : ∀ a, a < 9 → ∀ b, b < 9 → a ≠ b → (TX8 a).2.1 ≠ (TX8 b).2.1 := by decide +kernel
theorem tyX8_ok : ∀ k, k < 9 → parseFieldDescriptor (TX8 k).2.2.1 = some (tyX8 k) := by decide +kernel
abbrev cX8_init : ByteArray := prog_1_method_1_code
def yX8_init : MethodName := ⟨RX8, "<init>", "()V"⟩
abbrev cX8_clear : ByteArray := prog_1_method_2_code
def yX8_clear : MethodName := ⟨RX8, "clear", "()I"⟩
abbrev cX8_append : ByteArray := prog_1_method_3_code
def yX8_append : MethodName := ⟨RX8, "append", "(C)I"⟩
abbrev cX8_driver : ByteArray := prog_1_method_4_code
def yX8_driver : MethodName := ⟨RX8, "driver", "(I)I"⟩
abbrev cX8_ask : ByteArray := prog_1_method_5_code
def yX8_ask : MethodName := ⟨RX8, "ask", "(I)I"⟩
abbrev cX8_send : ByteArray := prog_1_method_6_code
def yX8_send : MethodName := ⟨RX8, "send", "(I)I"⟩
abbrev cX8_shout : ByteArray := prog_1_method_7_code
def yX8_shout : MethodName := ⟨RX8, "shout", "(IC)I"⟩
abbrev cX8_wash : ByteArray := prog_1_method_8_code
def yX8_wash : MethodName := ⟨RX8, "wash", "(I)I"⟩
abbrev cX8_back : ByteArray := prog_1_method_9_code
def yX8_back : MethodName := ⟨RX8, "back", "(I)I"⟩
abbrev cX8_cut : ByteArray := prog_1_method_10_code
def yX8_cut : MethodName := ⟨RX8, "cut", "(II)I"⟩
abbrev cX8_tie : ByteArray := prog_1_method_11_code
def yX8_tie : MethodName := ⟨RX8, "tie", "(II)I"⟩
abbrev cX8_beats : ByteArray := prog_1_method_12_code
def yX8_beats : MethodName := ⟨RX8, "beats", "(I)I"⟩
abbrev cX8_read : ByteArray := prog_1_method_13_code
def yX8_read : MethodName := ⟨RX8, "read", "()I"⟩
abbrev cX8_change : ByteArray := prog_1_method_14_code
def yX8_change : MethodName := ⟨RX8, "change", "(LLogRaft$Word;II)I"⟩
abbrev cX8_carryOut : ByteArray := prog_1_method_15_code
def yX8_carryOut : MethodName := ⟨RX8, "carryOut", "(LLogRaft$Word;II)I"⟩
abbrev cX8_letCome : ByteArray := prog_1_method_16_code
def yX8_letCome : MethodName := ⟨RX8, "letCome", "(I)I"⟩
abbrev cX8_letAsk : ByteArray := prog_1_method_17_code
def yX8_letAsk : MethodName := ⟨RX8, "letAsk", "(I)I"⟩
abbrev cX8_letSend : ByteArray := prog_1_method_18_code
def yX8_letSend : MethodName := ⟨RX8, "letSend", "(I)I"⟩
abbrev cX8_letShout : ByteArray := prog_1_method_19_code
def yX8_letShout : MethodName := ⟨RX8, "letShout", "(II)I"⟩
abbrev cX8_washAway : ByteArray := prog_1_method_20_code
def yX8_washAway : MethodName := ⟨RX8, "washAway", "(I)I"⟩
abbrev cX8_bringBack : ByteArray := prog_1_method_21_code
def yX8_bringBack : MethodName := ⟨RX8, "bringBack", "(I)I"⟩
abbrev cX8_changeRope : ByteArray := prog_1_method_22_code
def yX8_changeRope : MethodName := ⟨RX8, "changeRope", "(IIZ)I"⟩
abbrev cX8_refuse : ByteArray := prog_1_method_23_code
def yX8_refuse : MethodName := ⟨RX8, "refuse", "(II)I"⟩
abbrev cX8_refuseCommand : ByteArray := prog_1_method_24_code
def yX8_refuseCommand : MethodName := ⟨RX8, "refuseCommand", "(II)I"⟩
abbrev cX8_fault : ByteArray := prog_1_method_25_code
def yX8_fault : MethodName := ⟨RX8, "fault", "()I"⟩
abbrev cX8_reason : ByteArray := prog_1_method_26_code
def yX8_reason : MethodName := ⟨RX8, "reason", "(IZ)I"⟩
abbrev cX8_driverOf : ByteArray := prog_1_method_27_code
def yX8_driverOf : MethodName := ⟨RX8, "driverOf", "(II)I"⟩
abbrev cX8_lineOf : ByteArray := prog_1_method_28_code
def yX8_lineOf : MethodName := ⟨RX8, "lineOf", "(IIZ)I"⟩
abbrev cX8_leader : ByteArray := prog_1_method_29_code
def yX8_leader : MethodName := ⟨RX8, "leader", "()I"⟩
abbrev cX8_reaches : ByteArray := prog_1_method_30_code
def yX8_reaches : MethodName := ⟨RX8, "reaches", "(II)Z"⟩
abbrev cX8_wouldVote : ByteArray := prog_1_method_31_code
def yX8_wouldVote : MethodName := ⟨RX8, "wouldVote", "(II)Z"⟩
abbrev cX8_couldLead : ByteArray := prog_1_method_32_code
def yX8_couldLead : MethodName := ⟨RX8, "couldLead", "(I)I"⟩
abbrev cX8_couldLeadAgain : ByteArray := prog_1_method_33_code
def yX8_couldLeadAgain : MethodName := ⟨RX8, "couldLeadAgain", "(I)I"⟩
abbrev cX8_codeOfAsking : ByteArray := prog_1_method_34_code
def yX8_codeOfAsking : MethodName := ⟨RX8, "codeOfAsking", "(I)I"⟩
abbrev cX8_longer : ByteArray := prog_1_method_35_code
def yX8_longer : MethodName := ⟨RX8, "longer", "(II)I"⟩
abbrev cX8_alike : ByteArray := prog_1_method_36_code
def yX8_alike : MethodName := ⟨RX8, "alike", "(II)I"⟩
abbrev cX8_holders : ByteArray := prog_1_method_37_code
def yX8_holders : MethodName := ⟨RX8, "holders", "(II)I"⟩
abbrev cX8_agreed : ByteArray := prog_1_method_38_code
def yX8_agreed : MethodName := ⟨RX8, "agreed", "()I"⟩
abbrev cX8_agreedAgain : ByteArray := prog_1_method_39_code
def yX8_agreedAgain : MethodName := ⟨RX8, "agreedAgain", "()I"⟩
abbrev cX8_conflicts : ByteArray := prog_1_method_40_code
def yX8_conflicts : MethodName := ⟨RX8, "conflicts", "()I"⟩
abbrev cX8_isSafe : ByteArray := prog_1_method_41_code
def yX8_isSafe : MethodName := ⟨RX8, "isSafe", "()I"⟩
abbrev cX8_ranked : ByteArray := prog_1_method_42_code
def yX8_ranked : MethodName := ⟨RX8, "ranked", "(I)I"⟩
abbrev cX8_oldest : ByteArray := prog_1_method_43_code
def yX8_oldest : MethodName := ⟨RX8, "oldest", "(I)I"⟩
abbrev cX8_quietBeats : ByteArray := prog_1_method_44_code
def yX8_quietBeats : MethodName := ⟨RX8, "quietBeats", "()I"⟩
abbrev cX8_tell : ByteArray := prog_1_method_45_code
def yX8_tell : MethodName := ⟨RX8, "tell", "(I)I"⟩
abbrev cX8_tellVotes : ByteArray := prog_1_method_46_code
def yX8_tellVotes : MethodName := ⟨RX8, "tellVotes", "(I)I"⟩
abbrev cX8_written : ByteArray := prog_1_method_47_code
def yX8_written : MethodName := ⟨RX8, "written", "(I)I"⟩
abbrev cX8_meanTale : ByteArray := prog_1_method_48_code
def yX8_meanTale : MethodName := ⟨RX8, "meanTale", "()F"⟩
abbrev cX8_agreedShare : ByteArray := prog_1_method_49_code
def yX8_agreedShare : MethodName := ⟨RX8, "agreedShare", "()D"⟩
abbrev cX8_account : ByteArray := prog_1_method_50_code
def yX8_account : MethodName := ⟨RX8, "account", "(I)I"⟩
abbrev cX8_undo : ByteArray := prog_1_method_51_code
def yX8_undo : MethodName := ⟨RX8, "undo", "()I"⟩
abbrev cX8_save : ByteArray := prog_1_method_52_code
def yX8_save : MethodName := ⟨RX8, "save", "()I"⟩
abbrev cX8_restore : ByteArray := prog_1_method_53_code
def yX8_restore : MethodName := ⟨RX8, "restore", "()I"⟩
def RX9 : String := "LogRaftModel"
def TX9 : u_T := fun k => match k with
  | 0 => ("LogRaftModel", "s", "[I", true)
  | 1 => ("LogRaftModel", "was", "[I", true)
  | 2 => ("LogRaftModel", "thought", "[I", true)
  | 3 => ("LogRaftModel", "saved", "[I", true)
  | 4 => ("LogRaftModel", "past", "[I", true)
  | 5 => ("LogRaftModel", "changes", "I", false)
  | 6 => ("LogRaftModel", "reason", "I", false)
  | 7 => ("LogRaftModel", "detail", "I", false)
  | 8 => ("LogRaftModel", "behind", "I", false)
  | 9 => ("LogRaftModel", "behindDetail", "I", false)
  | 10 => ("LogRaftModel", "faultAt", "I", false)
  | 11 => ("LogRaftModel", "isSaved", "Z", false)
  | 12 => ("LogRaftModel", "tape", "[I", true)
  | 13 => ("LogRaftModel", "commands", "[I", true)
  | 14 => ("LogRaftModel", "taped", "I", false)
  | 15 => ("LogRaftModel", "here", "I", false)
  | 16 => ("LogRaftModel", "commandMany", "I", false)
  | 17 => ("LogRaftModel", "word", "I", false)
  | 18 => ("LogRaftModel", "line", "[I", true)
  | _ => ("LogRaftModel", "lined", "I", false)
def tyX9 : Nat → FieldType := fun k => match k with
  | 0 => .array .int
  | 1 => .array .int
  | 2 => .array .int
  | 3 => .array .int
  | 4 => .array .int
  | 5 => .int
  | 6 => .int
  | 7 => .int
  | 8 => .int
  | 9 => .int
  | 10 => .int
  | 11 => .boolean
  | 12 => .array .int
  | 13 => .array .int
  | 14 => .int
  | 15 => .int
  | 16 => .int
  | 17 => .int
  | 18 => .array .int
  | _ => .int
theorem nmX9 : ∀ a, a < 20 → ∀ b, b < 20 → a ≠ b → (TX9 a).2.1 ≠ (TX9 b).2.1 := by decide +kernel
theorem tyX9_ok : ∀ k, k < 20 → parseFieldDescriptor (TX9 k).2.2.1 = some (tyX9 k) := by decide +kernel
abbrev cX9_init : ByteArray := prog_11_method_1_code
def yX9_init : MethodName := ⟨RX9, "<init>", "()V"⟩
abbrev cX9_isIn : ByteArray := prog_11_method_2_code
def yX9_isIn : MethodName := ⟨RX9, "isIn", "(III)Z"⟩
abbrev cX9_lesser : ByteArray := prog_11_method_3_code
def yX9_lesser : MethodName := ⟨RX9, "lesser", "(II)I"⟩
abbrev cX9_greater : ByteArray := prog_11_method_4_code
def yX9_greater : MethodName := ⟨RX9, "greater", "(II)I"⟩
abbrev cX9_copies : ByteArray := prog_11_method_5_code
def yX9_copies : MethodName := ⟨RX9, "copies", "([II[II)V"⟩
abbrev cX9_keeps : ByteArray := prog_11_method_6_code
def yX9_keeps : MethodName := ⟨RX9, "keeps", "()V"⟩
abbrev cX9_changed : ByteArray := prog_11_method_7_code
def yX9_changed : MethodName := ⟨RX9, "changed", "()V"⟩
abbrev cX9_ends : ByteArray := prog_11_method_8_code
def yX9_ends : MethodName := ⟨RX9, "ends", "(I)I"⟩
abbrev cX9_isRefused : ByteArray := prog_11_method_9_code
def yX9_isRefused : MethodName := ⟨RX9, "isRefused", "(ZII)Z"⟩
abbrev cX9_at : ByteArray := prog_11_method_10_code
def yX9_at : MethodName := ⟨RX9, "at", "(II)I"⟩
abbrev cX9_of : ByteArray := prog_11_method_11_code
def yX9_of : MethodName := ⟨RX9, "of", "(II)I"⟩
abbrev cX9_sets : ByteArray := prog_11_method_12_code
def yX9_sets : MethodName := ⟨RX9, "sets", "(III)V"⟩
abbrev cX9_isDriver : ByteArray := prog_11_method_13_code
def yX9_isDriver : MethodName := ⟨RX9, "isDriver", "(I)Z"⟩
abbrev cX9_areDrivers : ByteArray := prog_11_method_14_code
def yX9_areDrivers : MethodName := ⟨RX9, "areDrivers", "(II)Z"⟩
abbrev cX9_isAboard : ByteArray := prog_11_method_15_code
def yX9_isAboard : MethodName := ⟨RX9, "isAboard", "(I)Z"⟩
abbrev cX9_ropeAt : ByteArray := prog_11_method_16_code
def yX9_ropeAt : MethodName := ⟨RX9, "ropeAt", "(II)I"⟩
abbrev cX9_isReached : ByteArray := prog_11_method_17_code
def yX9_isReached : MethodName := ⟨RX9, "isReached", "(II)Z"⟩
abbrev cX9_isMajority : ByteArray := prog_11_method_18_code
def yX9_isMajority : MethodName := ⟨RX9, "isMajority", "(I)Z"⟩
abbrev cX9_lastTerm : ByteArray := prog_11_method_19_code
def yX9_lastTerm : MethodName := ⟨RX9, "lastTerm", "(I)I"⟩
abbrev cX9_longerOf : ByteArray := prog_11_method_20_code
def yX9_longerOf : MethodName := ⟨RX9, "longerOf", "(II)I"⟩
abbrev cX9_alikeTo : ByteArray := prog_11_method_21_code
def yX9_alikeTo : MethodName := ⟨RX9, "alikeTo", "(II)I"⟩
abbrev cX9_clear : ByteArray := prog_11_method_22_code
def yX9_clear : MethodName := ⟨RX9, "clear", "()I"⟩
abbrev cX9_comes : ByteArray := prog_11_method_23_code
def yX9_comes : MethodName := ⟨RX9, "comes", "(I)I"⟩
abbrev cX9_driver : ByteArray := prog_11_method_24_code
def yX9_driver : MethodName := ⟨RX9, "driver", "(I)I"⟩
abbrev cX9_takesOver : ByteArray := prog_11_method_25_code
def yX9_takesOver : MethodName := ⟨RX9, "takesOver", "(II)V"⟩
abbrev cX9_votes : ByteArray := prog_11_method_26_code
def yX9_votes : MethodName := ⟨RX9, "votes", "(II)Z"⟩
abbrev cX9_asksNow : ByteArray := prog_11_method_27_code
def yX9_asksNow : MethodName := ⟨RX9, "asksNow", "(I)I"⟩
abbrev cX9_isWashed : ByteArray := prog_11_method_28_code
def yX9_isWashed : MethodName := ⟨RX9, "isWashed", "(I)Z"⟩
abbrev cX9_asks : ByteArray := prog_11_method_29_code
def yX9_asks : MethodName := ⟨RX9, "asks", "(I)I"⟩
abbrev cX9_ask : ByteArray := prog_11_method_30_code
def yX9_ask : MethodName := ⟨RX9, "ask", "(I)I"⟩
abbrev cX9_gets : ByteArray := prog_11_method_31_code
def yX9_gets : MethodName := ⟨RX9, "gets", "(II)V"⟩
abbrev cX9_lastOwn : ByteArray := prog_11_method_32_code
def yX9_lastOwn : MethodName := ⟨RX9, "lastOwn", "(I)I"⟩
abbrev cX9_sendsNow : ByteArray := prog_11_method_33_code
def yX9_sendsNow : MethodName := ⟨RX9, "sendsNow", "(I)I"⟩
abbrev cX9_isNoLeader : ByteArray := prog_11_method_34_code
def yX9_isNoLeader : MethodName := ⟨RX9, "isNoLeader", "(I)Z"⟩
abbrev cX9_sends : ByteArray := prog_11_method_35_code
def yX9_sends : MethodName := ⟨RX9, "sends", "(I)I"⟩
abbrev cX9_send : ByteArray := prog_11_method_36_code
def yX9_send : MethodName := ⟨RX9, "send", "(I)I"⟩
abbrev cX9_shouts : ByteArray := prog_11_method_37_code
def yX9_shouts : MethodName := ⟨RX9, "shouts", "(II)I"⟩
abbrev cX9_shout : ByteArray := prog_11_method_38_code
def yX9_shout : MethodName := ⟨RX9, "shout", "(IC)I"⟩
abbrev cX9_aboard : ByteArray := prog_11_method_39_code
def yX9_aboard : MethodName := ⟨RX9, "aboard", "()I"⟩
abbrev cX9_washes : ByteArray := prog_11_method_40_code
def yX9_washes : MethodName := ⟨RX9, "washes", "(I)I"⟩
abbrev cX9_wash : ByteArray := prog_11_method_41_code
def yX9_wash : MethodName := ⟨RX9, "wash", "(I)I"⟩
abbrev cX9_comesBack : ByteArray := prog_11_method_42_code
def yX9_comesBack : MethodName := ⟨RX9, "comesBack", "(I)I"⟩
abbrev cX9_back : ByteArray := prog_11_method_43_code
def yX9_back : MethodName := ⟨RX9, "back", "(I)I"⟩
abbrev cX9_ropesCut : ByteArray := prog_11_method_44_code
def yX9_ropesCut : MethodName := ⟨RX9, "ropesCut", "()I"⟩
abbrev cX9_ropes : ByteArray := prog_11_method_45_code
def yX9_ropes : MethodName := ⟨RX9, "ropes", "(III)I"⟩
abbrev cX9_cut : ByteArray := prog_11_method_46_code
def yX9_cut : MethodName := ⟨RX9, "cut", "(II)I"⟩
abbrev cX9_tie : ByteArray := prog_11_method_47_code
def yX9_tie : MethodName := ⟨RX9, "tie", "(II)I"⟩
abbrev cX9_waits : ByteArray := prog_11_method_48_code
def yX9_waits : MethodName := ⟨RX9, "waits", "(I)V"⟩
abbrev cX9_beatGoes : ByteArray := prog_11_method_49_code
def yX9_beatGoes : MethodName := ⟨RX9, "beatGoes", "()V"⟩
abbrev cX9_beatsGo : ByteArray := prog_11_method_50_code
def yX9_beatsGo : MethodName := ⟨RX9, "beatsGo", "(I)I"⟩
abbrev cX9_beats : ByteArray := prog_11_method_51_code
def yX9_beats : MethodName := ⟨RX9, "beats", "(I)I"⟩
abbrev cX9_append : ByteArray := prog_11_method_52_code
def yX9_append : MethodName := ⟨RX9, "append", "(C)I"⟩
abbrev cX9_sign : ByteArray := prog_11_method_53_code
def yX9_sign : MethodName := ⟨RX9, "sign", "()I"⟩
abbrev cX9_isSign : ByteArray := prog_11_method_54_code
def yX9_isSign : MethodName := ⟨RX9, "isSign", "(I)Z"⟩
abbrev cX9_wordOf : ByteArray := prog_11_method_55_code
def yX9_wordOf : MethodName := ⟨RX9, "wordOf", "(I)Ljava/lang/String;"⟩
abbrev cX9_alikeHere : ByteArray := prog_11_method_56_code
def yX9_alikeHere : MethodName := ⟨RX9, "alikeHere", "(Ljava/lang/String;)I"⟩
abbrev cX9_isWord : ByteArray := prog_11_method_57_code
def yX9_isWord : MethodName := ⟨RX9, "isWord", "()Z"⟩
abbrev cX9_isDigit : ByteArray := prog_11_method_58_code
def yX9_isDigit : MethodName := ⟨RX9, "isDigit", "(I)Z"⟩
abbrev cX9_isLetter : ByteArray := prog_11_method_59_code
def yX9_isLetter : MethodName := ⟨RX9, "isLetter", "(I)Z"⟩
abbrev cX9_readsCommand : ByteArray := prog_11_method_60_code
def yX9_readsCommand : MethodName := ⟨RX9, "readsCommand", "()Z"⟩
abbrev cX9_isText : ByteArray := prog_11_method_61_code
def yX9_isText : MethodName := ⟨RX9, "isText", "()Z"⟩
abbrev cX9_does : ByteArray := prog_11_method_62_code
def yX9_does : MethodName := ⟨RX9, "does", "(I)I"⟩
abbrev cX9_isBehind : ByteArray := prog_11_method_63_code
def yX9_isBehind : MethodName := ⟨RX9, "isBehind", "(ZI)V"⟩
abbrev cX9_read : ByteArray := prog_11_method_64_code
def yX9_read : MethodName := ⟨RX9, "read", "()I"⟩
abbrev cX9_fault : ByteArray := prog_11_method_65_code
def yX9_fault : MethodName := ⟨RX9, "fault", "()I"⟩
abbrev cX9_reason : ByteArray := prog_11_method_66_code
def yX9_reason : MethodName := ⟨RX9, "reason", "(IZ)I"⟩
abbrev cX9_reachedBy : ByteArray := prog_11_method_67_code
def yX9_reachedBy : MethodName := ⟨RX9, "reachedBy", "(I)I"⟩
abbrev cX9_driverOf : ByteArray := prog_11_method_68_code
def yX9_driverOf : MethodName := ⟨RX9, "driverOf", "(II)I"⟩
abbrev cX9_isLine : ByteArray := prog_11_method_69_code
def yX9_isLine : MethodName := ⟨RX9, "isLine", "(II)Z"⟩
abbrev cX9_lineOf : ByteArray := prog_11_method_70_code
def yX9_lineOf : MethodName := ⟨RX9, "lineOf", "(IIZ)I"⟩
abbrev cX9_leader : ByteArray := prog_11_method_71_code
def yX9_leader : MethodName := ⟨RX9, "leader", "()I"⟩
abbrev cX9_reaches : ByteArray := prog_11_method_72_code
def yX9_reaches : MethodName := ⟨RX9, "reaches", "(II)Z"⟩
abbrev cX9_longer : ByteArray := prog_11_method_73_code
def yX9_longer : MethodName := ⟨RX9, "longer", "(II)I"⟩
abbrev cX9_wouldGive : ByteArray := prog_11_method_74_code
def yX9_wouldGive : MethodName := ⟨RX9, "wouldGive", "(II)Z"⟩
abbrev cX9_wouldVote : ByteArray := prog_11_method_75_code
def yX9_wouldVote : MethodName := ⟨RX9, "wouldVote", "(II)Z"⟩
abbrev cX9_codeOfAsking : ByteArray := prog_11_method_76_code
def yX9_codeOfAsking : MethodName := ⟨RX9, "codeOfAsking", "(I)I"⟩
abbrev cX9_couldLead : ByteArray := prog_11_method_77_code
def yX9_couldLead : MethodName := ⟨RX9, "couldLead", "(I)I"⟩
abbrev cX9_couldLeadAgain : ByteArray := prog_11_method_78_code
def yX9_couldLeadAgain : MethodName := ⟨RX9, "couldLeadAgain", "(I)I"⟩
abbrev cX9_alike : ByteArray := prog_11_method_79_code
def yX9_alike : MethodName := ⟨RX9, "alike", "(II)I"⟩
abbrev cX9_holders : ByteArray := prog_11_method_80_code
def yX9_holders : MethodName := ⟨RX9, "holders", "(II)I"⟩
abbrev cX9_agreed : ByteArray := prog_11_method_81_code
def yX9_agreed : MethodName := ⟨RX9, "agreed", "()I"⟩
abbrev cX9_agreedAgain : ByteArray := prog_11_method_82_code
def yX9_agreedAgain : MethodName := ⟨RX9, "agreedAgain", "()I"⟩
abbrev cX9_conflicts : ByteArray := prog_11_method_83_code
def yX9_conflicts : MethodName := ⟨RX9, "conflicts", "()I"⟩
abbrev cX9_isSafe : ByteArray := prog_11_method_84_code
def yX9_isSafe : MethodName := ⟨RX9, "isSafe", "()I"⟩
abbrev cX9_isAhead : ByteArray := prog_11_method_85_code
def yX9_isAhead : MethodName := ⟨RX9, "isAhead", "(II)Z"⟩
abbrev cX9_ranked : ByteArray := prog_11_method_86_code
def yX9_ranked : MethodName := ⟨RX9, "ranked", "(I)I"⟩
abbrev cX9_doesWait : ByteArray := prog_11_method_87_code
def yX9_doesWait : MethodName := ⟨RX9, "doesWait", "(I)Z"⟩
abbrev cX9_waitsYet : ByteArray := prog_11_method_88_code
def yX9_waitsYet : MethodName := ⟨RX9, "waitsYet", "(I)I"⟩
abbrev cX9_oldest : ByteArray := prog_11_method_89_code
def yX9_oldest : MethodName := ⟨RX9, "oldest", "(I)I"⟩
abbrev cX9_quietBeats : ByteArray := prog_11_method_90_code
def yX9_quietBeats : MethodName := ⟨RX9, "quietBeats", "()I"⟩
abbrev cX9_puts : ByteArray := prog_11_method_91_code
def yX9_puts : MethodName := ⟨RX9, "puts", "(I)V"⟩
abbrev cX9_number : ByteArray := prog_11_method_92_code
def yX9_number : MethodName := ⟨RX9, "number", "(I)V"⟩
abbrev cX9_tell : ByteArray := prog_11_method_93_code
def yX9_tell : MethodName := ⟨RX9, "tell", "(I)I"⟩
abbrev cX9_tellVotes : ByteArray := prog_11_method_94_code
def yX9_tellVotes : MethodName := ⟨RX9, "tellVotes", "(I)I"⟩
abbrev cX9_written : ByteArray := prog_11_method_95_code
def yX9_written : MethodName := ⟨RX9, "written", "(I)I"⟩
abbrev cX9_allOf : ByteArray := prog_11_method_96_code
def yX9_allOf : MethodName := ⟨RX9, "allOf", "(I)I"⟩
abbrev cX9_meanTale : ByteArray := prog_11_method_97_code
def yX9_meanTale : MethodName := ⟨RX9, "meanTale", "()F"⟩
abbrev cX9_agreedShare : ByteArray := prog_11_method_98_code
def yX9_agreedShare : MethodName := ⟨RX9, "agreedShare", "()D"⟩
abbrev cX9_greatestTerm : ByteArray := prog_11_method_99_code
def yX9_greatestTerm : MethodName := ⟨RX9, "greatestTerm", "()I"⟩
abbrev cX9_account : ByteArray := prog_11_method_100_code
def yX9_account : MethodName := ⟨RX9, "account", "(I)I"⟩
abbrev cX9_undo : ByteArray := prog_11_method_101_code
def yX9_undo : MethodName := ⟨RX9, "undo", "()I"⟩
abbrev cX9_save : ByteArray := prog_11_method_102_code
def yX9_save : MethodName := ⟨RX9, "save", "()I"⟩
abbrev cX9_restore : ByteArray := prog_11_method_103_code
def yX9_restore : MethodName := ⟨RX9, "restore", "()I"⟩
def RJ5 : String := "java/lang/AbstractStringBuilder"
def TJ5 : u_T := fun k => match k with
  | _ => ("", "", "", false)
def tyJ5 : Nat → FieldType := fun k => match k with
  | _ => .int
theorem nmJ5 : ∀ a, a < 0 → ∀ b, b < 0 → a ≠ b → (TJ5 a).2.1 ≠ (TJ5 b).2.1 := by decide +kernel
theorem tyJ5_ok : ∀ k, k < 0 → parseFieldDescriptor (TJ5 k).2.2.1 = some (tyJ5 k) := by decide +kernel
abbrev cJ5_init_d00df : ByteArray := prog_12_method_2_code
def yJ5_init_d00df : MethodName := ⟨RJ5, "<init>", "(I)V"⟩
abbrev cJ5_length_8abf5 : ByteArray := prog_12_method_6_code
def yJ5_length_8abf5 : MethodName := ⟨RJ5, "length", "()I"⟩
abbrev cJ5_ensureCapacityInternal_d00df : ByteArray := prog_12_method_9_code
def yJ5_ensureCapacityInternal_d00df : MethodName := ⟨RJ5, "ensureCapacityInternal", "(I)V"⟩
abbrev cJ5_newCapacity_0f7a4 : ByteArray := prog_12_method_10_code
def yJ5_newCapacity_0f7a4 : MethodName := ⟨RJ5, "newCapacity", "(I)I"⟩
abbrev cJ5_inflate_da8c8 : ByteArray := prog_12_method_11_code
def yJ5_inflate_da8c8 : MethodName := ⟨RJ5, "inflate", "()V"⟩
abbrev cJ5_setLength_d00df : ByteArray := prog_12_method_13_code
def yJ5_setLength_d00df : MethodName := ⟨RJ5, "setLength", "(I)V"⟩
abbrev cJ5_charAt_5068e : ByteArray := prog_12_method_14_code
def yJ5_charAt_5068e : MethodName := ⟨RJ5, "charAt", "(I)C"⟩
abbrev cJ5_append_3fe6f : ByteArray := prog_12_method_31_code
def yJ5_append_3fe6f : MethodName := ⟨RJ5, "append", "(C)Ljava/lang/AbstractStringBuilder;"⟩
abbrev cJ5_append_c97b9 : ByteArray := prog_12_method_32_code
def yJ5_append_c97b9 : MethodName := ⟨RJ5, "append", "(I)Ljava/lang/AbstractStringBuilder;"⟩
abbrev cJ5_isLatin1_aae02 : ByteArray := prog_12_method_68_code
def yJ5_isLatin1_aae02 : MethodName := ⟨RJ5, "isLatin1", "()Z"⟩
def RJx8e188 : String := "java/lang/Cloneable"
def TJx8e188 : u_T := fun k => match k with
  | _ => ("", "", "", false)
def tyJx8e188 : Nat → FieldType := fun k => match k with
  | _ => .int
theorem nmJx8e188 : ∀ a, a < 0 → ∀ b, b < 0 → a ≠ b → (TJx8e188 a).2.1 ≠ (TJx8e188 b).2.1 := by decide +kernel
theorem tyJx8e188_ok : ∀ k, k < 0 → parseFieldDescriptor (TJx8e188 k).2.2.1 = some (tyJx8e188 k) := by decide +kernel
def RJx29ce0 : String := "java/lang/Enum"
def TJx29ce0 : u_T := fun k => match k with
  | _ => ("", "", "", false)
def tyJx29ce0 : Nat → FieldType := fun k => match k with
  | _ => .int
theorem nmJx29ce0 : ∀ a, a < 0 → ∀ b, b < 0 → a ≠ b → (TJx29ce0 a).2.1 ≠ (TJx29ce0 b).2.1 := by decide +kernel
theorem tyJx29ce0_ok : ∀ k, k < 0 → parseFieldDescriptor (TJx29ce0 k).2.2.1 = some (tyJx29ce0 k) := by decide +kernel
abbrev cJx29ce0_ordinal_8abf5 : ByteArray := prog_14_method_2_code
def yJx29ce0_ordinal_8abf5 : MethodName := ⟨RJx29ce0, "ordinal", "()I"⟩
def RJ6 : String := "java/lang/Integer"
def TJ6 : u_T := fun k => match k with
  | _ => ("", "", "", false)
def tyJ6 : Nat → FieldType := fun k => match k with
  | _ => .int
theorem nmJ6 : ∀ a, a < 0 → ∀ b, b < 0 → a ≠ b → (TJ6 a).2.1 ≠ (TJ6 b).2.1 := by decide +kernel
theorem tyJ6_ok : ∀ k, k < 0 → parseFieldDescriptor (TJ6 k).2.2.1 = some (tyJ6 k) := by decide +kernel
abbrev cJ6_getChars_ba4f3 : ByteArray := prog_15_method_12_code
def yJ6_getChars_ba4f3 : MethodName := ⟨RJ6, "getChars", "(II[B)I"⟩
abbrev cJ6_stringSize_0f7a4 : ByteArray := prog_15_method_13_code
def yJ6_stringSize_0f7a4 : MethodName := ⟨RJ6, "stringSize", "(I)I"⟩
def RJ9 : String := "java/lang/Math"
def TJ9 : u_T := fun k => match k with
  | _ => ("", "", "", false)
def tyJ9 : Nat → FieldType := fun k => match k with
  | _ => .int
theorem nmJ9 : ∀ a, a < 0 → ∀ b, b < 0 → a ≠ b → (TJ9 a).2.1 ≠ (TJ9 b).2.1 := by decide +kernel
theorem tyJ9_ok : ∀ k, k < 0 → parseFieldDescriptor (TJ9 k).2.2.1 = some (tyJ9 k) := by decide +kernel
abbrev cJ9_max_7cf53 : ByteArray := prog_16_method_65_code
def yJ9_max_7cf53 : MethodName := ⟨RJ9, "max", "(II)I"⟩
abbrev cJ9_min_7cf53 : ByteArray := prog_16_method_69_code
def yJ9_min_7cf53 : MethodName := ⟨RJ9, "min", "(II)I"⟩
def RJ0 : String := "java/lang/String"
def TJ0 : u_T := fun k => match k with
  | _ => ("", "", "", false)
def tyJ0 : Nat → FieldType := fun k => match k with
  | _ => .int
theorem nmJ0 : ∀ a, a < 0 → ∀ b, b < 0 → a ≠ b → (TJ0 a).2.1 ≠ (TJ0 b).2.1 := by decide +kernel
theorem tyJ0_ok : ∀ k, k < 0 → parseFieldDescriptor (TJ0 k).2.2.1 = some (tyJ0 k) := by decide +kernel
abbrev cJ0_length_8abf5 : ByteArray := prog_17_method_54_code
def yJ0_length_8abf5 : MethodName := ⟨RJ0, "length", "()I"⟩
abbrev cJ0_charAt_5068e : ByteArray := prog_17_method_56_code
def yJ0_charAt_5068e : MethodName := ⟨RJ0, "charAt", "(I)C"⟩
abbrev cJ0_coder_7d493 : ByteArray := prog_17_method_152_code
def yJ0_coder_7d493 : MethodName := ⟨RJ0, "coder", "()B"⟩
abbrev cJ0_isLatin1_aae02 : ByteArray := prog_17_method_154_code
def yJ0_isLatin1_aae02 : MethodName := ⟨RJ0, "isLatin1", "()Z"⟩
abbrev cJ0_checkIndex_df160 : ByteArray := prog_17_method_155_code
def yJ0_checkIndex_df160 : MethodName := ⟨RJ0, "checkIndex", "(II)V"⟩
abbrev cJ0_checkBoundsOffCount_cabcc : ByteArray := prog_17_method_157_code
def yJ0_checkBoundsOffCount_cabcc : MethodName := ⟨RJ0, "checkBoundsOffCount", "(III)I"⟩
abbrev cJ0_checkBoundsBeginEnd_23922 : ByteArray := prog_17_method_158_code
def yJ0_checkBoundsBeginEnd_23922 : MethodName := ⟨RJ0, "checkBoundsBeginEnd", "(III)V"⟩
def RJ4 : String := "java/lang/StringBuilder"
def TJ4 : u_T := fun k => match k with
  | 0 => ("java/lang/AbstractStringBuilder", "value", "[B", false)
  | 1 => ("java/lang/AbstractStringBuilder", "coder", "B", false)
  | 2 => ("java/lang/AbstractStringBuilder", "maybeLatin1", "Z", false)
  | _ => ("java/lang/AbstractStringBuilder", "count", "I", false)
def tyJ4 : Nat → FieldType := fun k => match k with
  | 0 => .array .byte
  | 1 => .byte
  | 2 => .boolean
  | _ => .int
theorem nmJ4 : ∀ a, a < 4 → ∀ b, b < 4 → a ≠ b → (TJ4 a).2.1 ≠ (TJ4 b).2.1 := by decide +kernel
theorem tyJ4_ok : ∀ k, k < 4 → parseFieldDescriptor (TJ4 k).2.2.1 = some (tyJ4 k) := by decide +kernel
abbrev cJ4_init_da8c8 : ByteArray := prog_18_method_1_code
def yJ4_init_da8c8 : MethodName := ⟨RJ4, "<init>", "()V"⟩
abbrev cJ4_append_cf468 : ByteArray := prog_18_method_14_code
def yJ4_append_cf468 : MethodName := ⟨RJ4, "append", "(C)Ljava/lang/StringBuilder;"⟩
abbrev cJ4_append_bf812 : ByteArray := prog_18_method_15_code
def yJ4_append_bf812 : MethodName := ⟨RJ4, "append", "(I)Ljava/lang/StringBuilder;"⟩
abbrev cJ4_charAt_5068e : ByteArray := prog_18_method_88_code
def yJ4_charAt_5068e : MethodName := ⟨RJ4, "charAt", "(I)C"⟩
abbrev cJ4_setLength_d00df : ByteArray := prog_18_method_89_code
def yJ4_setLength_d00df : MethodName := ⟨RJ4, "setLength", "(I)V"⟩
abbrev cJ4_length_8abf5 : ByteArray := prog_18_method_93_code
def yJ4_length_8abf5 : MethodName := ⟨RJ4, "length", "()I"⟩
def RJ1 : String := "java/lang/StringLatin1"
def TJ1 : u_T := fun k => match k with
  | _ => ("", "", "", false)
def tyJ1 : Nat → FieldType := fun k => match k with
  | _ => .int
theorem nmJ1 : ∀ a, a < 0 → ∀ b, b < 0 → a ≠ b → (TJ1 a).2.1 ≠ (TJ1 b).2.1 := by decide +kernel
theorem tyJ1_ok : ∀ k, k < 0 → parseFieldDescriptor (TJ1 k).2.2.1 = some (tyJ1 k) := by decide +kernel
abbrev cJ1_charAt_3b067 : ByteArray := prog_19_method_2_code
def yJ1_charAt_3b067 : MethodName := ⟨RJ1, "charAt", "([BI)C"⟩
abbrev cJ1_canEncode_fc78d : ByteArray := prog_19_method_3_code
def yJ1_canEncode_fc78d : MethodName := ⟨RJ1, "canEncode", "(C)Z"⟩
abbrev cJ1_fillNull_b72d1 : ByteArray := prog_19_method_48_code
def yJ1_fillNull_b72d1 : MethodName := ⟨RJ1, "fillNull", "([BII)V"⟩
abbrev cJ1_inflate_0e8fd : ByteArray := prog_19_method_50_code
def yJ1_inflate_0e8fd : MethodName := ⟨RJ1, "inflate", "([BI[BII)V"⟩
def RJ2 : String := "java/lang/StringUTF16"
def TJ2 : u_T := fun k => match k with
  | _ => ("", "", "", false)
def tyJ2 : Nat → FieldType := fun k => match k with
  | _ => .int
theorem nmJ2 : ∀ a, a < 0 → ∀ b, b < 0 → a ≠ b → (TJ2 a).2.1 ≠ (TJ2 b).2.1 := by decide +kernel
theorem tyJ2_ok : ∀ k, k < 0 → parseFieldDescriptor (TJ2 k).2.2.1 = some (tyJ2 k) := by decide +kernel
abbrev cJ2_newBytesFor_77867 : ByteArray := prog_20_method_2_code
def yJ2_newBytesFor_77867 : MethodName := ⟨RJ2, "newBytesFor", "(I)[B"⟩
abbrev cJ2_newBytesLength_0f7a4 : ByteArray := prog_20_method_3_code
def yJ2_newBytesLength_0f7a4 : MethodName := ⟨RJ2, "newBytesLength", "(I)I"⟩
abbrev cJ2_putChar_b72d1 : ByteArray := prog_20_method_4_code
def yJ2_putChar_b72d1 : MethodName := ⟨RJ2, "putChar", "([BII)V"⟩
abbrev cJ2_getChar_3b067 : ByteArray := prog_20_method_5_code
def yJ2_getChar_3b067 : MethodName := ⟨RJ2, "getChar", "([BI)C"⟩
abbrev cJ2_length_9d52b : ByteArray := prog_20_method_6_code
def yJ2_length_9d52b : MethodName := ⟨RJ2, "length", "([B)I"⟩
abbrev cJ2_fillNull_b72d1 : ByteArray := prog_20_method_70_code
def yJ2_fillNull_b72d1 : MethodName := ⟨RJ2, "fillNull", "([BII)V"⟩
abbrev cJ2_putCharSB_b72d1 : ByteArray := prog_20_method_71_code
def yJ2_putCharSB_b72d1 : MethodName := ⟨RJ2, "putCharSB", "([BII)V"⟩
abbrev cJ2_getChars_46870 : ByteArray := prog_20_method_77_code
def yJ2_getChars_46870 : MethodName := ⟨RJ2, "getChars", "(III[B)I"⟩
abbrev cJ2_charAt_3b067 : ByteArray := prog_20_method_83_code
def yJ2_charAt_3b067 : MethodName := ⟨RJ2, "charAt", "([BI)C"⟩
abbrev cJ2_inflate_0e8fd : ByteArray := prog_20_method_86_code
def yJ2_inflate_0e8fd : MethodName := ⟨RJ2, "inflate", "([BI[BII)V"⟩
abbrev cJ2_getChars_ba4f3 : ByteArray := prog_20_method_89_code
def yJ2_getChars_ba4f3 : MethodName := ⟨RJ2, "getChars", "(II[B)I"⟩
abbrev cJ2_checkIndex_2214a : ByteArray := prog_20_method_91_code
def yJ2_checkIndex_2214a : MethodName := ⟨RJ2, "checkIndex", "(I[B)V"⟩
abbrev cJ2_checkBoundsBeginEnd_d044e : ByteArray := prog_20_method_93_code
def yJ2_checkBoundsBeginEnd_d044e : MethodName := ⟨RJ2, "checkBoundsBeginEnd", "(II[B)V"⟩
abbrev cJ2_checkBoundsOffCount_d044e : ByteArray := prog_20_method_94_code
def yJ2_checkBoundsOffCount_d044e : MethodName := ⟨RJ2, "checkBoundsOffCount", "(II[B)V"⟩
def RJ10 : String := "java/lang/System"
def TJ10 : u_T := fun k => match k with
  | _ => ("", "", "", false)
def tyJ10 : Nat → FieldType := fun k => match k with
  | _ => .int
theorem nmJ10 : ∀ a, a < 0 → ∀ b, b < 0 → a ≠ b → (TJ10 a).2.1 ≠ (TJ10 b).2.1 := by decide +kernel
theorem tyJ10_ok : ∀ k, k < 0 → parseFieldDescriptor (TJ10 k).2.2.1 = some (tyJ10 k) := by decide +kernel
def RJ7 : String := "java/util/Arrays"
def TJ7 : u_T := fun k => match k with
  | _ => ("", "", "", false)
def tyJ7 : Nat → FieldType := fun k => match k with
  | _ => .int
theorem nmJ7 : ∀ a, a < 0 → ∀ b, b < 0 → a ≠ b → (TJ7 a).2.1 ≠ (TJ7 b).2.1 := by decide +kernel
theorem tyJ7_ok : ∀ k, k < 0 → parseFieldDescriptor (TJ7 k).2.2.1 = some (tyJ7 k) := by decide +kernel
abbrev cJ7_rangeCheck_23922 : ByteArray := prog_22_method_30_code
def yJ7_rangeCheck_23922 : MethodName := ⟨RJ7, "rangeCheck", "(III)V"⟩
abbrev cJ7_fill_eb02e : ByteArray := prog_22_method_110_code
def yJ7_fill_eb02e : MethodName := ⟨RJ7, "fill", "([BIIB)V"⟩
abbrev cJ7_copyOf_9075b : ByteArray := prog_22_method_121_code
def yJ7_copyOf_9075b : MethodName := ⟨RJ7, "copyOf", "([BI)[B"⟩
def RJ8 : String := "jdk/internal/util/ArraysSupport"
def TJ8 : u_T := fun k => match k with
  | _ => ("", "", "", false)
def tyJ8 : Nat → FieldType := fun k => match k with
  | _ => .int
theorem nmJ8 : ∀ a, a < 0 → ∀ b, b < 0 → a ≠ b → (TJ8 a).2.1 ≠ (TJ8 b).2.1 := by decide +kernel
theorem tyJ8_ok : ∀ k, k < 0 → parseFieldDescriptor (TJ8 k).2.2.1 = some (tyJ8 k) := by decide +kernel
abbrev cJ8_newLength_cabcc : ByteArray := prog_23_method_27_code
def yJ8_newLength_cabcc : MethodName := ⟨RJ8, "newLength", "(III)I"⟩
abbrev cJ8_hugeLength_7cf53 : ByteArray := prog_23_method_28_code
def yJ8_hugeLength_7cf53 : MethodName := ⟨RJ8, "hugeLength", "(II)I"⟩
def RJ3 : String := "jdk/internal/util/Preconditions"
def TJ3 : u_T := fun k => match k with
  | _ => ("", "", "", false)
def tyJ3 : Nat → FieldType := fun k => match k with
  | _ => .int
theorem nmJ3 : ∀ a, a < 0 → ∀ b, b < 0 → a ≠ b → (TJ3 a).2.1 ≠ (TJ3 b).2.1 := by decide +kernel
theorem tyJ3_ok : ∀ k, k < 0 → parseFieldDescriptor (TJ3 k).2.2.1 = some (tyJ3 k) := by decide +kernel
abbrev cJ3_checkIndex_8e157 : ByteArray := prog_24_method_11_code
def yJ3_checkIndex_8e157 : MethodName := ⟨RJ3, "checkIndex", "(IILjava/util/function/BiFunction;)I"⟩
abbrev cJ3_checkFromToIndex_8c36e : ByteArray := prog_24_method_12_code
def yJ3_checkFromToIndex_8c36e : MethodName := ⟨RJ3, "checkFromToIndex", "(IIILjava/util/function/BiFunction;)I"⟩
abbrev cJ3_checkFromIndexSize_8c36e : ByteArray := prog_24_method_13_code
def yJ3_checkFromIndexSize_8c36e : MethodName := ⟨RJ3, "checkFromIndexSize", "(IIILjava/util/function/BiFunction;)I"⟩
def RL : String := "LogRaftLaw"
abbrev cL_law : ByteArray := code
def yL_law : MethodName := ⟨RL, "law", "([I)Z"⟩
abbrev vwCl : List vw_C := [(RJ4, TJ4, 4), (RX1, TX1, 3), (RX2, TX2, 12), (RX3, TX3, 3), (RX4, TX4, 10), (RX5, TX5, 4), (RX6, TX6, 4), (RX8, TX8, 9), (RX9, TX9, 20)]
end
section
theorem dX1_init_0 : decode cX1_init 0 = .ok (.aload_n 0, 1) := by decide +kernel
theorem dX1_init_1 : decode cX1_init 1 = .ok (.invokespecial 1, 3) := by decide +kernel
theorem dX1_init_4 : decode cX1_init 4 = .ok (.return_, 1) := by decide +kernel
theorem dX2_init_0 : decode cX2_init 0 = .ok (.aload_n 0, 1) := by decide +kernel
theorem dX2_init_1 : decode cX2_init 1 = .ok (.invokespecial 3, 3) := by decide +kernel
theorem dX2_init_4 : decode cX2_init 4 = .ok (.aload_n 0, 1) := by decide +kernel
theorem dX2_init_5 : decode cX2_init 5 = .ok (.bipush 12, 2) := by decide +kernel
theorem dX2_init_7 : decode cX2_init 7 = .ok (.newarray .int, 2) := by decide +kernel
theorem dX2_init_9 : decode cX2_init 9 = .ok (.putfield 9, 3) := by decide +kernel
theorem dX2_init_12 : decode cX2_init 12 = .ok (.aload_n 0, 1) := by decide +kernel
theorem dX2_init_13 : decode cX2_init 13 = .ok (.bipush 12, 2) := by decide +kernel
theorem dX2_init_15 : decode cX2_init 15 = .ok (.newarray .char, 2) := by decide +kernel
theorem dX2_init_17 : decode cX2_init 17 = .ok (.putfield 15, 3) := by decide +kernel
theorem dX2_init_20 : decode cX2_init 20 = .ok (.return_, 1) := by decide +kernel
theorem dX2_begin_0 : decode cX2_begin 0 = .ok (.aload_n 0, 1) := by decide +kernel
theorem dX2_begin_1 : decode cX2_begin 1 = .ok (.iconst 0, 1) := by decide +kernel
theorem dX2_begin_2 : decode cX2_begin 2 = .ok (.putfield 19, 3) := by decide +kernel
theorem dX2_begin_5 : decode cX2_begin 5 = .ok (.aload_n 0, 1) := by decide +kernel
theorem dX2_begin_6 : decode cX2_begin 6 = .ok (.iconst 0, 1) := by decide +kernel
theorem dX2_begin_7 : decode cX2_begin 7 = .ok (.putfield 23, 3) := by decide +kernel
theorem dX2_begin_10 : decode cX2_begin 10 = .ok (.aload_n 0, 1) := by decide +kernel
theorem dX2_begin_11 : decode cX2_begin 11 = .ok (.iload_n 1, 1) := by decide +kernel
theorem dX2_begin_12 : decode cX2_begin 12 = .ok (.putfield 26, 3) := by decide +kernel
theorem dX2_begin_15 : decode cX2_begin 15 = .ok (.aload_n 0, 1) := by decide +kernel
theorem dX2_begin_16 : decode cX2_begin 16 = .ok (.iconst 0, 1) := by decide +kernel
theorem dX2_begin_17 : decode cX2_begin 17 = .ok (.putfield 29, 3) := by decide +kernel
theorem dX2_begin_20 : decode cX2_begin 20 = .ok (.aload_n 0, 1) := by decide +kernel
theorem dX2_begin_21 : decode cX2_begin 21 = .ok (.iconst (-1), 1) := by decide +kernel
theorem dX2_begin_22 : decode cX2_begin 22 = .ok (.putfield 32, 3) := by decide +kernel
theorem dX2_begin_25 : decode cX2_begin 25 = .ok (.aload_n 0, 1) := by decide +kernel
theorem dX2_begin_26 : decode cX2_begin 26 = .ok (.iconst 0, 1) := by decide +kernel
theorem dX2_begin_27 : decode cX2_begin 27 = .ok (.putfield 35, 3) := by decide +kernel
theorem dX2_begin_30 : decode cX2_begin 30 = .ok (.aload_n 0, 1) := by decide +kernel
theorem dX2_begin_31 : decode cX2_begin 31 = .ok (.iconst 0, 1) := by decide +kernel
theorem dX2_begin_32 : decode cX2_begin 32 = .ok (.putfield 38, 3) := by decide +kernel
theorem dX2_begin_35 : decode cX2_begin 35 = .ok (.aload_n 0, 1) := by decide +kernel
theorem dX2_begin_36 : decode cX2_begin 36 = .ok (.iconst 1, 1) := by decide +kernel
theorem dX2_begin_37 : decode cX2_begin 37 = .ok (.putfield 41, 3) := by decide +kernel
theorem dX2_begin_40 : decode cX2_begin 40 = .ok (.aload_n 0, 1) := by decide +kernel
theorem dX2_begin_41 : decode cX2_begin 41 = .ok (.iconst 0, 1) := by decide +kernel
theorem dX2_begin_42 : decode cX2_begin 42 = .ok (.putfield 45, 3) := by decide +kernel
theorem dX2_begin_45 : decode cX2_begin 45 = .ok (.aload_n 0, 1) := by decide +kernel
theorem dX2_begin_46 : decode cX2_begin 46 = .ok (.iconst 0, 1) := by decide +kernel
theorem dX2_begin_47 : decode cX2_begin 47 = .ok (.putfield 48, 3) := by decide +kernel
theorem dX2_begin_50 : decode cX2_begin 50 = .ok (.return_, 1) := by decide +kernel
theorem dX2_copyFrom_0 : decode cX2_copyFrom 0 = .ok (.aload_n 0, 1) := by decide +kernel
theorem dX2_copyFrom_1 : decode cX2_copyFrom 1 = .ok (.aload_n 1, 1) := by decide +kernel
theorem dX2_copyFrom_2 : decode cX2_copyFrom 2 = .ok (.getfield 19, 3) := by decide +kernel
theorem dX2_copyFrom_5 : decode cX2_copyFrom 5 = .ok (.putfield 19, 3) := by decide +kernel
theorem dX2_copyFrom_8 : decode cX2_copyFrom 8 = .ok (.aload_n 0, 1) := by decide +kernel
theorem dX2_copyFrom_9 : decode cX2_copyFrom 9 = .ok (.aload_n 1, 1) := by decide +kernel
theorem dX2_copyFrom_10 : decode cX2_copyFrom 10 = .ok (.getfield 23, 3) := by decide +kernel
theorem dX2_copyFrom_13 : decode cX2_copyFrom 13 = .ok (.putfield 23, 3) := by decide +kernel
theorem dX2_copyFrom_16 : decode cX2_copyFrom 16 = .ok (.aload_n 0, 1) := by decide +kernel
theorem dX2_copyFrom_17 : decode cX2_copyFrom 17 = .ok (.aload_n 1, 1) := by decide +kernel
theorem dX2_copyFrom_18 : decode cX2_copyFrom 18 = .ok (.getfield 26, 3) := by decide +kernel
theorem dX2_copyFrom_21 : decode cX2_copyFrom 21 = .ok (.putfield 26, 3) := by decide +kernel
theorem dX2_copyFrom_24 : decode cX2_copyFrom 24 = .ok (.aload_n 0, 1) := by decide +kernel
theorem dX2_copyFrom_25 : decode cX2_copyFrom 25 = .ok (.aload_n 1, 1) := by decide +kernel
theorem dX2_copyFrom_26 : decode cX2_copyFrom 26 = .ok (.getfield 29, 3) := by decide +kernel
theorem dX2_copyFrom_29 : decode cX2_copyFrom 29 = .ok (.putfield 29, 3) := by decide +kernel
theorem dX2_copyFrom_32 : decode cX2_copyFrom 32 = .ok (.aload_n 0, 1) := by decide +kernel
theorem dX2_copyFrom_33 : decode cX2_copyFrom 33 = .ok (.aload_n 1, 1) := by decide +kernel
theorem dX2_copyFrom_34 : decode cX2_copyFrom 34 = .ok (.getfield 32, 3) := by decide +kernel
theorem dX2_copyFrom_37 : decode cX2_copyFrom 37 = .ok (.putfield 32, 3) := by decide +kernel
theorem dX2_copyFrom_40 : decode cX2_copyFrom 40 = .ok (.aload_n 0, 1) := by decide +kernel
theorem dX2_copyFrom_41 : decode cX2_copyFrom 41 = .ok (.aload_n 1, 1) := by decide +kernel
theorem dX2_copyFrom_42 : decode cX2_copyFrom 42 = .ok (.getfield 38, 3) := by decide +kernel
theorem dX2_copyFrom_45 : decode cX2_copyFrom 45 = .ok (.putfield 38, 3) := by decide +kernel
theorem dX2_copyFrom_48 : decode cX2_copyFrom 48 = .ok (.aload_n 0, 1) := by decide +kernel
theorem dX2_copyFrom_49 : decode cX2_copyFrom 49 = .ok (.aload_n 1, 1) := by decide +kernel
theorem dX2_copyFrom_50 : decode cX2_copyFrom 50 = .ok (.getfield 41, 3) := by decide +kernel
theorem dX2_copyFrom_53 : decode cX2_copyFrom 53 = .ok (.putfield 41, 3) := by decide +kernel
theorem dX2_copyFrom_56 : decode cX2_copyFrom 56 = .ok (.aload_n 0, 1) := by decide +kernel
theorem dX2_copyFrom_57 : decode cX2_copyFrom 57 = .ok (.aload_n 1, 1) := by decide +kernel
theorem dX2_copyFrom_58 : decode cX2_copyFrom 58 = .ok (.getfield 45, 3) := by decide +kernel
theorem dX2_copyFrom_61 : decode cX2_copyFrom 61 = .ok (.putfield 45, 3) := by decide +kernel
theorem dX2_copyFrom_64 : decode cX2_copyFrom 64 = .ok (.aload_n 0, 1) := by decide +kernel
theorem dX2_copyFrom_65 : decode cX2_copyFrom 65 = .ok (.aload_n 1, 1) := by decide +kernel
theorem dX2_copyFrom_66 : decode cX2_copyFrom 66 = .ok (.getfield 48, 3) := by decide +kernel
theorem dX2_copyFrom_69 : decode cX2_copyFrom 69 = .ok (.putfield 48, 3) := by decide +kernel
theorem dX2_copyFrom_72 : decode cX2_copyFrom 72 = .ok (.aload_n 0, 1) := by decide +kernel
theorem dX2_copyFrom_73 : decode cX2_copyFrom 73 = .ok (.aload_n 1, 1) := by decide +kernel
theorem dX2_copyFrom_74 : decode cX2_copyFrom 74 = .ok (.iconst 0, 1) := by decide +kernel
theorem dX2_copyFrom_75 : decode cX2_copyFrom 75 = .ok (.invokevirtual 51, 3) := by decide +kernel
theorem dX2_copyFrom_78 : decode cX2_copyFrom 78 = .ok (.return_, 1) := by decide +kernel
theorem dX2_copyLines_0 : decode cX2_copyLines 0 = .ok (.iload_n 2, 1) := by decide +kernel
theorem dX2_copyLines_1 : decode cX2_copyLines 1 = .ok (.istore_n 3, 1) := by decide +kernel
theorem dX2_copyLines_2 : decode cX2_copyLines 2 = .ok (.iload_n 3, 1) := by decide +kernel
theorem dX2_copyLines_3 : decode cX2_copyLines 3 = .ok (.aload_n 1, 1) := by decide +kernel
theorem dX2_copyLines_4 : decode cX2_copyLines 4 = .ok (.getfield 35, 3) := by decide +kernel
theorem dX2_copyLines_7 : decode cX2_copyLines 7 = .ok (.if_icmp .ge 33, 3) := by decide +kernel
theorem dX2_copyLines_10 : decode cX2_copyLines 10 = .ok (.aload_n 0, 1) := by decide +kernel
theorem dX2_copyLines_11 : decode cX2_copyLines 11 = .ok (.getfield 9, 3) := by decide +kernel
theorem dX2_copyLines_14 : decode cX2_copyLines 14 = .ok (.iload_n 3, 1) := by decide +kernel
theorem dX2_copyLines_15 : decode cX2_copyLines 15 = .ok (.aload_n 1, 1) := by decide +kernel
theorem dX2_copyLines_16 : decode cX2_copyLines 16 = .ok (.getfield 9, 3) := by decide +kernel
theorem dX2_copyLines_19 : decode cX2_copyLines 19 = .ok (.iload_n 3, 1) := by decide +kernel
theorem dX2_copyLines_20 : decode cX2_copyLines 20 = .ok (.iaload, 1) := by decide +kernel
theorem dX2_copyLines_21 : decode cX2_copyLines 21 = .ok (.iastore, 1) := by decide +kernel
theorem dX2_copyLines_22 : decode cX2_copyLines 22 = .ok (.aload_n 0, 1) := by decide +kernel
theorem dX2_copyLines_23 : decode cX2_copyLines 23 = .ok (.getfield 15, 3) := by decide +kernel
theorem dX2_copyLines_26 : decode cX2_copyLines 26 = .ok (.iload_n 3, 1) := by decide +kernel
theorem dX2_copyLines_27 : decode cX2_copyLines 27 = .ok (.aload_n 1, 1) := by decide +kernel
theorem dX2_copyLines_28 : decode cX2_copyLines 28 = .ok (.getfield 15, 3) := by decide +kernel
theorem dX2_copyLines_31 : decode cX2_copyLines 31 = .ok (.iload_n 3, 1) := by decide +kernel
theorem dX2_copyLines_32 : decode cX2_copyLines 32 = .ok (.caload, 1) := by decide +kernel
theorem dX2_copyLines_33 : decode cX2_copyLines 33 = .ok (.castore, 1) := by decide +kernel
theorem dX2_copyLines_34 : decode cX2_copyLines 34 = .ok (.iinc 3 1, 3) := by decide +kernel
theorem dX2_copyLines_37 : decode cX2_copyLines 37 = .ok (.goto (-35), 3) := by decide +kernel
theorem dX2_copyLines_40 : decode cX2_copyLines 40 = .ok (.aload_n 0, 1) := by decide +kernel
theorem dX2_copyLines_41 : decode cX2_copyLines 41 = .ok (.aload_n 1, 1) := by decide +kernel
theorem dX2_copyLines_42 : decode cX2_copyLines 42 = .ok (.getfield 35, 3) := by decide +kernel
theorem dX2_copyLines_45 : decode cX2_copyLines 45 = .ok (.putfield 35, 3) := by decide +kernel
theorem dX2_copyLines_48 : decode cX2_copyLines 48 = .ok (.return_, 1) := by decide +kernel
theorem dX2_write_0 : decode cX2_write 0 = .ok (.aload_n 0, 1) := by decide +kernel
theorem dX2_write_1 : decode cX2_write 1 = .ok (.getfield 35, 3) := by decide +kernel
theorem dX2_write_4 : decode cX2_write 4 = .ok (.bipush 12, 2) := by decide +kernel
theorem dX2_write_6 : decode cX2_write 6 = .ok (.if_icmp .ge 33, 3) := by decide +kernel
theorem dX2_write_9 : decode cX2_write 9 = .ok (.aload_n 0, 1) := by decide +kernel
theorem dX2_write_10 : decode cX2_write 10 = .ok (.getfield 9, 3) := by decide +kernel
theorem dX2_write_13 : decode cX2_write 13 = .ok (.aload_n 0, 1) := by decide +kernel
theorem dX2_write_14 : decode cX2_write 14 = .ok (.getfield 35, 3) := by decide +kernel
theorem dX2_write_17 : decode cX2_write 17 = .ok (.iload_n 1, 1) := by decide +kernel
theorem dX2_write_18 : decode cX2_write 18 = .ok (.iastore, 1) := by decide +kernel
theorem dX2_write_19 : decode cX2_write 19 = .ok (.aload_n 0, 1) := by decide +kernel
theorem dX2_write_20 : decode cX2_write 20 = .ok (.getfield 15, 3) := by decide +kernel
theorem dX2_write_23 : decode cX2_write 23 = .ok (.aload_n 0, 1) := by decide +kernel
theorem dX2_write_24 : decode cX2_write 24 = .ok (.getfield 35, 3) := by decide +kernel
theorem dX2_write_27 : decode cX2_write 27 = .ok (.iload_n 2, 1) := by decide +kernel
theorem dX2_write_28 : decode cX2_write 28 = .ok (.castore, 1) := by decide +kernel
theorem dX2_write_29 : decode cX2_write 29 = .ok (.aload_n 0, 1) := by decide +kernel
theorem dX2_write_30 : decode cX2_write 30 = .ok (.dup, 1) := by decide +kernel
theorem dX2_write_31 : decode cX2_write 31 = .ok (.getfield 35, 3) := by decide +kernel
theorem dX2_write_34 : decode cX2_write 34 = .ok (.iconst 1, 1) := by decide +kernel
theorem dX2_write_35 : decode cX2_write 35 = .ok (.iadd, 1) := by decide +kernel
theorem dX2_write_36 : decode cX2_write 36 = .ok (.putfield 35, 3) := by decide +kernel
theorem dX2_write_39 : decode cX2_write 39 = .ok (.return_, 1) := by decide +kernel
theorem dX2_isLeading_0 : decode cX2_isLeading 0 = .ok (.aload_n 0, 1) := by decide +kernel
theorem dX2_isLeading_1 : decode cX2_isLeading 1 = .ok (.getfield 41, 3) := by decide +kernel
theorem dX2_isLeading_4 : decode cX2_isLeading 4 = .ok (.ifCond .eq 15, 3) := by decide +kernel
theorem dX2_isLeading_7 : decode cX2_isLeading 7 = .ok (.aload_n 0, 1) := by decide +kernel
theorem dX2_isLeading_8 : decode cX2_isLeading 8 = .ok (.getfield 19, 3) := by decide +kernel
theorem dX2_isLeading_11 : decode cX2_isLeading 11 = .ok (.iconst 2, 1) := by decide +kernel
theorem dX2_isLeading_12 : decode cX2_isLeading 12 = .ok (.if_icmp .ne 7, 3) := by decide +kernel
theorem dX2_isLeading_15 : decode cX2_isLeading 15 = .ok (.iconst 1, 1) := by decide +kernel
theorem dX2_isLeading_16 : decode cX2_isLeading 16 = .ok (.goto 4, 3) := by decide +kernel
theorem dX2_isLeading_19 : decode cX2_isLeading 19 = .ok (.iconst 0, 1) := by decide +kernel
theorem dX2_isLeading_20 : decode cX2_isLeading 20 = .ok (.ireturn, 1) := by decide +kernel
theorem dX2_isWaiting_0 : decode cX2_isWaiting 0 = .ok (.aload_n 0, 1) := by decide +kernel
theorem dX2_isWaiting_1 : decode cX2_isWaiting 1 = .ok (.getfield 41, 3) := by decide +kernel
theorem dX2_isWaiting_4 : decode cX2_isWaiting 4 = .ok (.ifCond .eq 15, 3) := by decide +kernel
theorem dX2_isWaiting_7 : decode cX2_isWaiting 7 = .ok (.aload_n 0, 1) := by decide +kernel
theorem dX2_isWaiting_8 : decode cX2_isWaiting 8 = .ok (.getfield 19, 3) := by decide +kernel
theorem dX2_isWaiting_11 : decode cX2_isWaiting 11 = .ok (.iconst 2, 1) := by decide +kernel
theorem dX2_isWaiting_12 : decode cX2_isWaiting 12 = .ok (.if_icmp .eq 7, 3) := by decide +kernel
theorem dX2_isWaiting_15 : decode cX2_isWaiting 15 = .ok (.iconst 1, 1) := by decide +kernel
theorem dX2_isWaiting_16 : decode cX2_isWaiting 16 = .ok (.goto 4, 3) := by decide +kernel
theorem dX2_isWaiting_19 : decode cX2_isWaiting 19 = .ok (.iconst 0, 1) := by decide +kernel
theorem dX2_isWaiting_20 : decode cX2_isWaiting 20 = .ok (.ireturn, 1) := by decide +kernel
theorem dX2_waitBeat_0 : decode cX2_waitBeat 0 = .ok (.aload_n 0, 1) := by decide +kernel
theorem dX2_waitBeat_1 : decode cX2_waitBeat 1 = .ok (.getfield 41, 3) := by decide +kernel
theorem dX2_waitBeat_4 : decode cX2_waitBeat 4 = .ok (.ifCond .eq 13, 3) := by decide +kernel
theorem dX2_waitBeat_7 : decode cX2_waitBeat 7 = .ok (.aload_n 0, 1) := by decide +kernel
theorem dX2_waitBeat_8 : decode cX2_waitBeat 8 = .ok (.dup, 1) := by decide +kernel
theorem dX2_waitBeat_9 : decode cX2_waitBeat 9 = .ok (.getfield 29, 3) := by decide +kernel
theorem dX2_waitBeat_12 : decode cX2_waitBeat 12 = .ok (.iconst 1, 1) := by decide +kernel
theorem dX2_waitBeat_13 : decode cX2_waitBeat 13 = .ok (.iadd, 1) := by decide +kernel
theorem dX2_waitBeat_14 : decode cX2_waitBeat 14 = .ok (.putfield 29, 3) := by decide +kernel
theorem dX2_waitBeat_17 : decode cX2_waitBeat 17 = .ok (.aload_n 0, 1) := by decide +kernel
theorem dX2_waitBeat_18 : decode cX2_waitBeat 18 = .ok (.getfield 41, 3) := by decide +kernel
theorem dX2_waitBeat_21 : decode cX2_waitBeat 21 = .ok (.ifCond .eq 18, 3) := by decide +kernel
theorem dX2_waitBeat_24 : decode cX2_waitBeat 24 = .ok (.aload_n 0, 1) := by decide +kernel
theorem dX2_waitBeat_25 : decode cX2_waitBeat 25 = .ok (.getfield 29, 3) := by decide +kernel
theorem dX2_waitBeat_28 : decode cX2_waitBeat 28 = .ok (.aload_n 0, 1) := by decide +kernel
theorem dX2_waitBeat_29 : decode cX2_waitBeat 29 = .ok (.getfield 26, 3) := by decide +kernel
theorem dX2_waitBeat_32 : decode cX2_waitBeat 32 = .ok (.if_icmp .lt 7, 3) := by decide +kernel
theorem dX2_waitBeat_35 : decode cX2_waitBeat 35 = .ok (.iconst 1, 1) := by decide +kernel
theorem dX2_waitBeat_36 : decode cX2_waitBeat 36 = .ok (.goto 4, 3) := by decide +kernel
theorem dX2_waitBeat_39 : decode cX2_waitBeat 39 = .ok (.iconst 0, 1) := by decide +kernel
theorem dX2_waitBeat_40 : decode cX2_waitBeat 40 = .ok (.ireturn, 1) := by decide +kernel
theorem dX2_beatsLeft_0 : decode cX2_beatsLeft 0 = .ok (.aload_n 0, 1) := by decide +kernel
theorem dX2_beatsLeft_1 : decode cX2_beatsLeft 1 = .ok (.getfield 26, 3) := by decide +kernel
theorem dX2_beatsLeft_4 : decode cX2_beatsLeft 4 = .ok (.aload_n 0, 1) := by decide +kernel
theorem dX2_beatsLeft_5 : decode cX2_beatsLeft 5 = .ok (.getfield 29, 3) := by decide +kernel
theorem dX2_beatsLeft_8 : decode cX2_beatsLeft 8 = .ok (.isub, 1) := by decide +kernel
theorem dX2_beatsLeft_9 : decode cX2_beatsLeft 9 = .ok (.ireturn, 1) := by decide +kernel
theorem dX2_hasLongerTaleThan_0 : decode cX2_hasLongerTaleThan 0 = .ok (.aload_n 0, 1) := by decide +kernel
theorem dX2_hasLongerTaleThan_1 : decode cX2_hasLongerTaleThan 1 = .ok (.getfield 35, 3) := by decide +kernel
theorem dX2_hasLongerTaleThan_4 : decode cX2_hasLongerTaleThan 4 = .ok (.ifCond .le 17, 3) := by decide +kernel
theorem dX2_hasLongerTaleThan_7 : decode cX2_hasLongerTaleThan 7 = .ok (.aload_n 0, 1) := by decide +kernel
theorem dX2_hasLongerTaleThan_8 : decode cX2_hasLongerTaleThan 8 = .ok (.getfield 9, 3) := by decide +kernel
theorem dX2_hasLongerTaleThan_11 : decode cX2_hasLongerTaleThan 11 = .ok (.aload_n 0, 1) := by decide +kernel
theorem dX2_hasLongerTaleThan_12 : decode cX2_hasLongerTaleThan 12 = .ok (.getfield 35, 3) := by decide +kernel
theorem dX2_hasLongerTaleThan_15 : decode cX2_hasLongerTaleThan 15 = .ok (.iconst 1, 1) := by decide +kernel
theorem dX2_hasLongerTaleThan_16 : decode cX2_hasLongerTaleThan 16 = .ok (.isub, 1) := by decide +kernel
theorem dX2_hasLongerTaleThan_17 : decode cX2_hasLongerTaleThan 17 = .ok (.iaload, 1) := by decide +kernel
theorem dX2_hasLongerTaleThan_18 : decode cX2_hasLongerTaleThan 18 = .ok (.goto 4, 3) := by decide +kernel
theorem dX2_hasLongerTaleThan_21 : decode cX2_hasLongerTaleThan 21 = .ok (.iconst 0, 1) := by decide +kernel
theorem dX2_hasLongerTaleThan_22 : decode cX2_hasLongerTaleThan 22 = .ok (.istore_n 2, 1) := by decide +kernel
theorem dX2_hasLongerTaleThan_23 : decode cX2_hasLongerTaleThan 23 = .ok (.aload_n 1, 1) := by decide +kernel
theorem dX2_hasLongerTaleThan_24 : decode cX2_hasLongerTaleThan 24 = .ok (.getfield 35, 3) := by decide +kernel
theorem dX2_hasLongerTaleThan_27 : decode cX2_hasLongerTaleThan 27 = .ok (.ifCond .le 17, 3) := by decide +kernel
theorem dX2_hasLongerTaleThan_30 : decode cX2_hasLongerTaleThan 30 = .ok (.aload_n 1, 1) := by decide +kernel
theorem dX2_hasLongerTaleThan_31 : decode cX2_hasLongerTaleThan 31 = .ok (.getfield 9, 3) := by decide +kernel
theorem dX2_hasLongerTaleThan_34 : decode cX2_hasLongerTaleThan 34 = .ok (.aload_n 1, 1) := by decide +kernel
theorem dX2_hasLongerTaleThan_35 : decode cX2_hasLongerTaleThan 35 = .ok (.getfield 35, 3) := by decide +kernel
theorem dX2_hasLongerTaleThan_38 : decode cX2_hasLongerTaleThan 38 = .ok (.iconst 1, 1) := by decide +kernel
theorem dX2_hasLongerTaleThan_39 : decode cX2_hasLongerTaleThan 39 = .ok (.isub, 1) := by decide +kernel
theorem dX2_hasLongerTaleThan_40 : decode cX2_hasLongerTaleThan 40 = .ok (.iaload, 1) := by decide +kernel
theorem dX2_hasLongerTaleThan_41 : decode cX2_hasLongerTaleThan 41 = .ok (.goto 4, 3) := by decide +kernel
theorem dX2_hasLongerTaleThan_44 : decode cX2_hasLongerTaleThan 44 = .ok (.iconst 0, 1) := by decide +kernel
theorem dX2_hasLongerTaleThan_45 : decode cX2_hasLongerTaleThan 45 = .ok (.istore_n 3, 1) := by decide +kernel
theorem dX2_hasLongerTaleThan_46 : decode cX2_hasLongerTaleThan 46 = .ok (.iload_n 2, 1) := by decide +kernel
theorem dX2_hasLongerTaleThan_47 : decode cX2_hasLongerTaleThan 47 = .ok (.iload_n 3, 1) := by decide +kernel
theorem dX2_hasLongerTaleThan_48 : decode cX2_hasLongerTaleThan 48 = .ok (.if_icmp .ne 22, 3) := by decide +kernel
theorem dX2_hasLongerTaleThan_51 : decode cX2_hasLongerTaleThan 51 = .ok (.aload_n 0, 1) := by decide +kernel
theorem dX2_hasLongerTaleThan_52 : decode cX2_hasLongerTaleThan 52 = .ok (.getfield 35, 3) := by decide +kernel
theorem dX2_hasLongerTaleThan_55 : decode cX2_hasLongerTaleThan 55 = .ok (.aload_n 1, 1) := by decide +kernel
theorem dX2_hasLongerTaleThan_56 : decode cX2_hasLongerTaleThan 56 = .ok (.getfield 35, 3) := by decide +kernel
theorem dX2_hasLongerTaleThan_59 : decode cX2_hasLongerTaleThan 59 = .ok (.if_icmp .le 7, 3) := by decide +kernel
theorem dX2_hasLongerTaleThan_62 : decode cX2_hasLongerTaleThan 62 = .ok (.iconst 1, 1) := by decide +kernel
theorem dX2_hasLongerTaleThan_63 : decode cX2_hasLongerTaleThan 63 = .ok (.goto 17, 3) := by decide +kernel
theorem dX2_hasLongerTaleThan_66 : decode cX2_hasLongerTaleThan 66 = .ok (.iconst 0, 1) := by decide +kernel
theorem dX2_hasLongerTaleThan_67 : decode cX2_hasLongerTaleThan 67 = .ok (.goto 13, 3) := by decide +kernel
theorem dX2_hasLongerTaleThan_70 : decode cX2_hasLongerTaleThan 70 = .ok (.iload_n 2, 1) := by decide +kernel
theorem dX2_hasLongerTaleThan_71 : decode cX2_hasLongerTaleThan 71 = .ok (.iload_n 3, 1) := by decide +kernel
theorem dX2_hasLongerTaleThan_72 : decode cX2_hasLongerTaleThan 72 = .ok (.if_icmp .le 7, 3) := by decide +kernel
theorem dX2_hasLongerTaleThan_75 : decode cX2_hasLongerTaleThan 75 = .ok (.iconst 1, 1) := by decide +kernel
theorem dX2_hasLongerTaleThan_76 : decode cX2_hasLongerTaleThan 76 = .ok (.goto 4, 3) := by decide +kernel
theorem dX2_hasLongerTaleThan_79 : decode cX2_hasLongerTaleThan 79 = .ok (.iconst 0, 1) := by decide +kernel
theorem dX2_hasLongerTaleThan_80 : decode cX2_hasLongerTaleThan 80 = .ok (.ireturn, 1) := by decide +kernel
theorem dX2_countSameLines_0 : decode cX2_countSameLines 0 = .ok (.aload_n 0, 1) := by decide +kernel
theorem dX2_countSameLines_1 : decode cX2_countSameLines 1 = .ok (.getfield 35, 3) := by decide +kernel
theorem dX2_countSameLines_4 : decode cX2_countSameLines 4 = .ok (.aload_n 1, 1) := by decide +kernel
theorem dX2_countSameLines_5 : decode cX2_countSameLines 5 = .ok (.getfield 35, 3) := by decide +kernel
theorem dX2_countSameLines_8 : decode cX2_countSameLines 8 = .ok (.invokestatic 55, 3) := by decide +kernel
theorem dX2_countSameLines_11 : decode cX2_countSameLines 11 = .ok (.istore_n 2, 1) := by decide +kernel
theorem dX2_countSameLines_12 : decode cX2_countSameLines 12 = .ok (.iconst 0, 1) := by decide +kernel
theorem dX2_countSameLines_13 : decode cX2_countSameLines 13 = .ok (.istore_n 3, 1) := by decide +kernel
theorem dX2_countSameLines_14 : decode cX2_countSameLines 14 = .ok (.iload_n 3, 1) := by decide +kernel
theorem dX2_countSameLines_15 : decode cX2_countSameLines 15 = .ok (.iload_n 2, 1) := by decide +kernel
theorem dX2_countSameLines_16 : decode cX2_countSameLines 16 = .ok (.if_icmp .ge 39, 3) := by decide +kernel
theorem dX2_countSameLines_19 : decode cX2_countSameLines 19 = .ok (.aload_n 0, 1) := by decide +kernel
theorem dX2_countSameLines_20 : decode cX2_countSameLines 20 = .ok (.getfield 9, 3) := by decide +kernel
theorem dX2_countSameLines_23 : decode cX2_countSameLines 23 = .ok (.iload_n 3, 1) := by decide +kernel
theorem dX2_countSameLines_24 : decode cX2_countSameLines 24 = .ok (.iaload, 1) := by decide +kernel
theorem dX2_countSameLines_25 : decode cX2_countSameLines 25 = .ok (.aload_n 1, 1) := by decide +kernel
theorem dX2_countSameLines_26 : decode cX2_countSameLines 26 = .ok (.getfield 9, 3) := by decide +kernel
theorem dX2_countSameLines_29 : decode cX2_countSameLines 29 = .ok (.iload_n 3, 1) := by decide +kernel
theorem dX2_countSameLines_30 : decode cX2_countSameLines 30 = .ok (.iaload, 1) := by decide +kernel
theorem dX2_countSameLines_31 : decode cX2_countSameLines 31 = .ok (.if_icmp .ne 24, 3) := by decide +kernel
theorem dX2_countSameLines_34 : decode cX2_countSameLines 34 = .ok (.aload_n 0, 1) := by decide +kernel
theorem dX2_countSameLines_35 : decode cX2_countSameLines 35 = .ok (.getfield 15, 3) := by decide +kernel
theorem dX2_countSameLines_38 : decode cX2_countSameLines 38 = .ok (.iload_n 3, 1) := by decide +kernel
theorem dX2_countSameLines_39 : decode cX2_countSameLines 39 = .ok (.caload, 1) := by decide +kernel
theorem dX2_countSameLines_40 : decode cX2_countSameLines 40 = .ok (.aload_n 1, 1) := by decide +kernel
theorem dX2_countSameLines_41 : decode cX2_countSameLines 41 = .ok (.getfield 15, 3) := by decide +kernel
theorem dX2_countSameLines_44 : decode cX2_countSameLines 44 = .ok (.iload_n 3, 1) := by decide +kernel
theorem dX2_countSameLines_45 : decode cX2_countSameLines 45 = .ok (.caload, 1) := by decide +kernel
theorem dX2_countSameLines_46 : decode cX2_countSameLines 46 = .ok (.if_icmp .ne 9, 3) := by decide +kernel
theorem dX2_countSameLines_49 : decode cX2_countSameLines 49 = .ok (.iinc 3 1, 3) := by decide +kernel
theorem dX2_countSameLines_52 : decode cX2_countSameLines 52 = .ok (.goto (-38), 3) := by decide +kernel
theorem dX2_countSameLines_55 : decode cX2_countSameLines 55 = .ok (.iload_n 3, 1) := by decide +kernel
theorem dX2_countSameLines_56 : decode cX2_countSameLines 56 = .ok (.ireturn, 1) := by decide +kernel
theorem dX2_takeOver_0 : decode cX2_takeOver 0 = .ok (.aload_n 0, 1) := by decide +kernel
theorem dX2_takeOver_1 : decode cX2_takeOver 1 = .ok (.iload_n 1, 1) := by decide +kernel
theorem dX2_takeOver_2 : decode cX2_takeOver 2 = .ok (.putfield 23, 3) := by decide +kernel
theorem dX2_takeOver_5 : decode cX2_takeOver 5 = .ok (.aload_n 0, 1) := by decide +kernel
theorem dX2_takeOver_6 : decode cX2_takeOver 6 = .ok (.iconst 0, 1) := by decide +kernel
theorem dX2_takeOver_7 : decode cX2_takeOver 7 = .ok (.putfield 19, 3) := by decide +kernel
theorem dX2_takeOver_10 : decode cX2_takeOver 10 = .ok (.aload_n 0, 1) := by decide +kernel
theorem dX2_takeOver_11 : decode cX2_takeOver 11 = .ok (.iconst (-1), 1) := by decide +kernel
theorem dX2_takeOver_12 : decode cX2_takeOver 12 = .ok (.putfield 32, 3) := by decide +kernel
theorem dX2_takeOver_15 : decode cX2_takeOver 15 = .ok (.return_, 1) := by decide +kernel
theorem dX2_followLeader_0 : decode cX2_followLeader 0 = .ok (.aload_n 0, 1) := by decide +kernel
theorem dX2_followLeader_1 : decode cX2_followLeader 1 = .ok (.getfield 23, 3) := by decide +kernel
theorem dX2_followLeader_4 : decode cX2_followLeader 4 = .ok (.aload_n 1, 1) := by decide +kernel
theorem dX2_followLeader_5 : decode cX2_followLeader 5 = .ok (.getfield 23, 3) := by decide +kernel
theorem dX2_followLeader_8 : decode cX2_followLeader 8 = .ok (.if_icmp .ge 11, 3) := by decide +kernel
theorem dX2_followLeader_11 : decode cX2_followLeader 11 = .ok (.aload_n 0, 1) := by decide +kernel
theorem dX2_followLeader_12 : decode cX2_followLeader 12 = .ok (.aload_n 1, 1) := by decide +kernel
theorem dX2_followLeader_13 : decode cX2_followLeader 13 = .ok (.getfield 23, 3) := by decide +kernel
theorem dX2_followLeader_16 : decode cX2_followLeader 16 = .ok (.invokevirtual 61, 3) := by decide +kernel
theorem dX2_followLeader_19 : decode cX2_followLeader 19 = .ok (.aload_n 0, 1) := by decide +kernel
theorem dX2_followLeader_20 : decode cX2_followLeader 20 = .ok (.iconst 0, 1) := by decide +kernel
theorem dX2_followLeader_21 : decode cX2_followLeader 21 = .ok (.putfield 19, 3) := by decide +kernel
theorem dX2_followLeader_24 : decode cX2_followLeader 24 = .ok (.aload_n 0, 1) := by decide +kernel
theorem dX2_followLeader_25 : decode cX2_followLeader 25 = .ok (.iconst 0, 1) := by decide +kernel
theorem dX2_followLeader_26 : decode cX2_followLeader 26 = .ok (.putfield 29, 3) := by decide +kernel
theorem dX2_followLeader_29 : decode cX2_followLeader 29 = .ok (.aload_n 0, 1) := by decide +kernel
theorem dX2_followLeader_30 : decode cX2_followLeader 30 = .ok (.aload_n 1, 1) := by decide +kernel
theorem dX2_followLeader_31 : decode cX2_followLeader 31 = .ok (.invokevirtual 65, 3) := by decide +kernel
theorem dX2_followLeader_34 : decode cX2_followLeader 34 = .ok (.istore_n 2, 1) := by decide +kernel
theorem dX2_followLeader_35 : decode cX2_followLeader 35 = .ok (.iconst 0, 1) := by decide +kernel
theorem dX2_followLeader_36 : decode cX2_followLeader 36 = .ok (.istore_n 3, 1) := by decide +kernel
theorem dX2_followLeader_37 : decode cX2_followLeader 37 = .ok (.aload_n 1, 1) := by decide +kernel
theorem dX2_followLeader_38 : decode cX2_followLeader 38 = .ok (.getfield 35, 3) := by decide +kernel
theorem dX2_followLeader_41 : decode cX2_followLeader 41 = .ok (.iload_n 2, 1) := by decide +kernel
theorem dX2_followLeader_42 : decode cX2_followLeader 42 = .ok (.if_icmp .le 16, 3) := by decide +kernel
theorem dX2_followLeader_45 : decode cX2_followLeader 45 = .ok (.aload_n 0, 1) := by decide +kernel
theorem dX2_followLeader_46 : decode cX2_followLeader 46 = .ok (.getfield 35, 3) := by decide +kernel
theorem dX2_followLeader_49 : decode cX2_followLeader 49 = .ok (.iload_n 2, 1) := by decide +kernel
theorem dX2_followLeader_50 : decode cX2_followLeader 50 = .ok (.isub, 1) := by decide +kernel
theorem dX2_followLeader_51 : decode cX2_followLeader 51 = .ok (.istore_n 3, 1) := by decide +kernel
theorem dX2_followLeader_52 : decode cX2_followLeader 52 = .ok (.aload_n 0, 1) := by decide +kernel
theorem dX2_followLeader_53 : decode cX2_followLeader 53 = .ok (.aload_n 1, 1) := by decide +kernel
theorem dX2_followLeader_54 : decode cX2_followLeader 54 = .ok (.iload_n 2, 1) := by decide +kernel
theorem dX2_followLeader_55 : decode cX2_followLeader 55 = .ok (.invokevirtual 51, 3) := by decide +kernel
theorem dX2_followLeader_58 : decode cX2_followLeader 58 = .ok (.aload_n 0, 1) := by decide +kernel
theorem dX2_followLeader_59 : decode cX2_followLeader 59 = .ok (.aload_n 0, 1) := by decide +kernel
theorem dX2_followLeader_60 : decode cX2_followLeader 60 = .ok (.getfield 38, 3) := by decide +kernel
theorem dX2_followLeader_63 : decode cX2_followLeader 63 = .ok (.aload_n 1, 1) := by decide +kernel
theorem dX2_followLeader_64 : decode cX2_followLeader 64 = .ok (.getfield 38, 3) := by decide +kernel
theorem dX2_followLeader_67 : decode cX2_followLeader 67 = .ok (.aload_n 0, 1) := by decide +kernel
theorem dX2_followLeader_68 : decode cX2_followLeader 68 = .ok (.getfield 35, 3) := by decide +kernel
theorem dX2_followLeader_71 : decode cX2_followLeader 71 = .ok (.invokestatic 55, 3) := by decide +kernel
theorem dX2_followLeader_74 : decode cX2_followLeader 74 = .ok (.invokestatic 69, 3) := by decide +kernel
theorem dX2_followLeader_77 : decode cX2_followLeader 77 = .ok (.putfield 38, 3) := by decide +kernel
theorem dX2_followLeader_80 : decode cX2_followLeader 80 = .ok (.iload_n 3, 1) := by decide +kernel
theorem dX2_followLeader_81 : decode cX2_followLeader 81 = .ok (.ireturn, 1) := by decide +kernel
theorem dX2_agreeOwnLines_0 : decode cX2_agreeOwnLines 0 = .ok (.aload_n 0, 1) := by decide +kernel
theorem dX2_agreeOwnLines_1 : decode cX2_agreeOwnLines 1 = .ok (.getfield 35, 3) := by decide +kernel
theorem dX2_agreeOwnLines_4 : decode cX2_agreeOwnLines 4 = .ok (.istore_n 1, 1) := by decide +kernel
theorem dX2_agreeOwnLines_5 : decode cX2_agreeOwnLines 5 = .ok (.iload_n 1, 1) := by decide +kernel
theorem dX2_agreeOwnLines_6 : decode cX2_agreeOwnLines 6 = .ok (.aload_n 0, 1) := by decide +kernel
theorem dX2_agreeOwnLines_7 : decode cX2_agreeOwnLines 7 = .ok (.getfield 38, 3) := by decide +kernel
theorem dX2_agreeOwnLines_10 : decode cX2_agreeOwnLines 10 = .ok (.if_icmp .le 30, 3) := by decide +kernel
theorem dX2_agreeOwnLines_13 : decode cX2_agreeOwnLines 13 = .ok (.aload_n 0, 1) := by decide +kernel
theorem dX2_agreeOwnLines_14 : decode cX2_agreeOwnLines 14 = .ok (.getfield 9, 3) := by decide +kernel
theorem dX2_agreeOwnLines_17 : decode cX2_agreeOwnLines 17 = .ok (.iload_n 1, 1) := by decide +kernel
theorem dX2_agreeOwnLines_18 : decode cX2_agreeOwnLines 18 = .ok (.iconst 1, 1) := by decide +kernel
theorem dX2_agreeOwnLines_19 : decode cX2_agreeOwnLines 19 = .ok (.isub, 1) := by decide +kernel
theorem dX2_agreeOwnLines_20 : decode cX2_agreeOwnLines 20 = .ok (.iaload, 1) := by decide +kernel
theorem dX2_agreeOwnLines_21 : decode cX2_agreeOwnLines 21 = .ok (.aload_n 0, 1) := by decide +kernel
theorem dX2_agreeOwnLines_22 : decode cX2_agreeOwnLines 22 = .ok (.getfield 23, 3) := by decide +kernel
theorem dX2_agreeOwnLines_25 : decode cX2_agreeOwnLines 25 = .ok (.if_icmp .ne 9, 3) := by decide +kernel
theorem dX2_agreeOwnLines_28 : decode cX2_agreeOwnLines 28 = .ok (.aload_n 0, 1) := by decide +kernel
theorem dX2_agreeOwnLines_29 : decode cX2_agreeOwnLines 29 = .ok (.iload_n 1, 1) := by decide +kernel
theorem dX2_agreeOwnLines_30 : decode cX2_agreeOwnLines 30 = .ok (.putfield 38, 3) := by decide +kernel
theorem dX2_agreeOwnLines_33 : decode cX2_agreeOwnLines 33 = .ok (.return_, 1) := by decide +kernel
theorem dX2_agreeOwnLines_34 : decode cX2_agreeOwnLines 34 = .ok (.iinc 1 (-1), 3) := by decide +kernel
theorem dX2_agreeOwnLines_37 : decode cX2_agreeOwnLines 37 = .ok (.goto (-32), 3) := by decide +kernel
theorem dX2_agreeOwnLines_40 : decode cX2_agreeOwnLines 40 = .ok (.return_, 1) := by decide +kernel
theorem dX2_writeOn_0 : decode cX2_writeOn 0 = .ok (.aload_n 1, 1) := by decide +kernel
theorem dX2_writeOn_1 : decode cX2_writeOn 1 = .ok (.aload_n 0, 1) := by decide +kernel
theorem dX2_writeOn_2 : decode cX2_writeOn 2 = .ok (.getfield 19, 3) := by decide +kernel
theorem dX2_writeOn_5 : decode cX2_writeOn 5 = .ok (.ifCond .ne 8, 3) := by decide +kernel
theorem dX2_writeOn_8 : decode cX2_writeOn 8 = .ok (.bipush 102, 2) := by decide +kernel
theorem dX2_writeOn_10 : decode cX2_writeOn 10 = .ok (.goto 18, 3) := by decide +kernel
theorem dX2_writeOn_13 : decode cX2_writeOn 13 = .ok (.aload_n 0, 1) := by decide +kernel
theorem dX2_writeOn_14 : decode cX2_writeOn 14 = .ok (.getfield 19, 3) := by decide +kernel
theorem dX2_writeOn_17 : decode cX2_writeOn 17 = .ok (.iconst 1, 1) := by decide +kernel
theorem dX2_writeOn_18 : decode cX2_writeOn 18 = .ok (.if_icmp .ne 8, 3) := by decide +kernel
theorem dX2_writeOn_21 : decode cX2_writeOn 21 = .ok (.bipush 99, 2) := by decide +kernel
theorem dX2_writeOn_23 : decode cX2_writeOn 23 = .ok (.goto 5, 3) := by decide +kernel
theorem dX2_writeOn_26 : decode cX2_writeOn 26 = .ok (.bipush 108, 2) := by decide +kernel
theorem dX2_writeOn_28 : decode cX2_writeOn 28 = .ok (.invokevirtual 72, 3) := by decide +kernel
theorem dX2_writeOn_31 : decode cX2_writeOn 31 = .ok (.pop, 1) := by decide +kernel
theorem dX2_writeOn_32 : decode cX2_writeOn 32 = .ok (.aload_n 1, 1) := by decide +kernel
theorem dX2_writeOn_33 : decode cX2_writeOn 33 = .ok (.aload_n 0, 1) := by decide +kernel
theorem dX2_writeOn_34 : decode cX2_writeOn 34 = .ok (.getfield 23, 3) := by decide +kernel
theorem dX2_writeOn_37 : decode cX2_writeOn 37 = .ok (.invokevirtual 78, 3) := by decide +kernel
theorem dX2_writeOn_40 : decode cX2_writeOn 40 = .ok (.pop, 1) := by decide +kernel
theorem dX2_writeOn_41 : decode cX2_writeOn 41 = .ok (.aload_n 1, 1) := by decide +kernel
theorem dX2_writeOn_42 : decode cX2_writeOn 42 = .ok (.bipush 58, 2) := by decide +kernel
theorem dX2_writeOn_44 : decode cX2_writeOn 44 = .ok (.invokevirtual 72, 3) := by decide +kernel
theorem dX2_writeOn_47 : decode cX2_writeOn 47 = .ok (.pop, 1) := by decide +kernel
theorem dX2_writeOn_48 : decode cX2_writeOn 48 = .ok (.iconst 0, 1) := by decide +kernel
theorem dX2_writeOn_49 : decode cX2_writeOn 49 = .ok (.istore_n 2, 1) := by decide +kernel
theorem dX2_writeOn_50 : decode cX2_writeOn 50 = .ok (.iload_n 2, 1) := by decide +kernel
theorem dX2_writeOn_51 : decode cX2_writeOn 51 = .ok (.aload_n 0, 1) := by decide +kernel
theorem dX2_writeOn_52 : decode cX2_writeOn 52 = .ok (.getfield 35, 3) := by decide +kernel
theorem dX2_writeOn_55 : decode cX2_writeOn 55 = .ok (.if_icmp .ge 46, 3) := by decide +kernel
theorem dX2_writeOn_58 : decode cX2_writeOn 58 = .ok (.iload_n 2, 1) := by decide +kernel
theorem dX2_writeOn_59 : decode cX2_writeOn 59 = .ok (.aload_n 0, 1) := by decide +kernel
theorem dX2_writeOn_60 : decode cX2_writeOn 60 = .ok (.getfield 38, 3) := by decide +kernel
theorem dX2_writeOn_63 : decode cX2_writeOn 63 = .ok (.if_icmp .ne 10, 3) := by decide +kernel
theorem dX2_writeOn_66 : decode cX2_writeOn 66 = .ok (.aload_n 1, 1) := by decide +kernel
theorem dX2_writeOn_67 : decode cX2_writeOn 67 = .ok (.bipush 124, 2) := by decide +kernel
theorem dX2_writeOn_69 : decode cX2_writeOn 69 = .ok (.invokevirtual 72, 3) := by decide +kernel
theorem dX2_writeOn_72 : decode cX2_writeOn 72 = .ok (.pop, 1) := by decide +kernel
theorem dX2_writeOn_73 : decode cX2_writeOn 73 = .ok (.aload_n 1, 1) := by decide +kernel
theorem dX2_writeOn_74 : decode cX2_writeOn 74 = .ok (.aload_n 0, 1) := by decide +kernel
theorem dX2_writeOn_75 : decode cX2_writeOn 75 = .ok (.getfield 15, 3) := by decide +kernel
theorem dX2_writeOn_78 : decode cX2_writeOn 78 = .ok (.iload_n 2, 1) := by decide +kernel
theorem dX2_writeOn_79 : decode cX2_writeOn 79 = .ok (.caload, 1) := by decide +kernel
theorem dX2_writeOn_80 : decode cX2_writeOn 80 = .ok (.invokevirtual 72, 3) := by decide +kernel
theorem dX2_writeOn_83 : decode cX2_writeOn 83 = .ok (.pop, 1) := by decide +kernel
theorem dX2_writeOn_84 : decode cX2_writeOn 84 = .ok (.aload_n 1, 1) := by decide +kernel
theorem dX2_writeOn_85 : decode cX2_writeOn 85 = .ok (.aload_n 0, 1) := by decide +kernel
theorem dX2_writeOn_86 : decode cX2_writeOn 86 = .ok (.getfield 9, 3) := by decide +kernel
theorem dX2_writeOn_89 : decode cX2_writeOn 89 = .ok (.iload_n 2, 1) := by decide +kernel
theorem dX2_writeOn_90 : decode cX2_writeOn 90 = .ok (.iaload, 1) := by decide +kernel
theorem dX2_writeOn_91 : decode cX2_writeOn 91 = .ok (.invokevirtual 78, 3) := by decide +kernel
theorem dX2_writeOn_94 : decode cX2_writeOn 94 = .ok (.pop, 1) := by decide +kernel
theorem dX2_writeOn_95 : decode cX2_writeOn 95 = .ok (.iinc 2 1, 3) := by decide +kernel
theorem dX2_writeOn_98 : decode cX2_writeOn 98 = .ok (.goto (-48), 3) := by decide +kernel
theorem dX2_writeOn_101 : decode cX2_writeOn 101 = .ok (.aload_n 0, 1) := by decide +kernel
theorem dX2_writeOn_102 : decode cX2_writeOn 102 = .ok (.getfield 35, 3) := by decide +kernel
theorem dX2_writeOn_105 : decode cX2_writeOn 105 = .ok (.aload_n 0, 1) := by decide +kernel
theorem dX2_writeOn_106 : decode cX2_writeOn 106 = .ok (.getfield 38, 3) := by decide +kernel
theorem dX2_writeOn_109 : decode cX2_writeOn 109 = .ok (.if_icmp .ne 10, 3) := by decide +kernel
theorem dX2_writeOn_112 : decode cX2_writeOn 112 = .ok (.aload_n 1, 1) := by decide +kernel
theorem dX2_writeOn_113 : decode cX2_writeOn 113 = .ok (.bipush 124, 2) := by decide +kernel
theorem dX2_writeOn_115 : decode cX2_writeOn 115 = .ok (.invokevirtual 72, 3) := by decide +kernel
theorem dX2_writeOn_118 : decode cX2_writeOn 118 = .ok (.pop, 1) := by decide +kernel
theorem dX2_writeOn_119 : decode cX2_writeOn 119 = .ok (.return_, 1) := by decide +kernel
theorem dX3_init_0 : decode cX3_init 0 = .ok (.aload_n 0, 1) := by decide +kernel
theorem dX3_init_1 : decode cX3_init 1 = .ok (.invokespecial 3, 3) := by decide +kernel
theorem dX3_init_4 : decode cX3_init 4 = .ok (.aload_n 0, 1) := by decide +kernel
theorem dX3_init_5 : decode cX3_init 5 = .ok (.bipush 8, 2) := by decide +kernel
theorem dX3_init_7 : decode cX3_init 7 = .ok (.anewarray 9, 3) := by decide +kernel
theorem dX3_init_10 : decode cX3_init 10 = .ok (.putfield 11, 3) := by decide +kernel
theorem dX3_init_13 : decode cX3_init 13 = .ok (.iconst 0, 1) := by decide +kernel
theorem dX3_init_14 : decode cX3_init 14 = .ok (.istore_n 1, 1) := by decide +kernel
theorem dX3_init_15 : decode cX3_init 15 = .ok (.iload_n 1, 1) := by decide +kernel
theorem dX3_init_16 : decode cX3_init 16 = .ok (.aload_n 0, 1) := by decide +kernel
theorem dX3_init_17 : decode cX3_init 17 = .ok (.getfield 11, 3) := by decide +kernel
theorem dX3_init_20 : decode cX3_init 20 = .ok (.arraylength, 1) := by decide +kernel
theorem dX3_init_21 : decode cX3_init 21 = .ok (.if_icmp .ge 22, 3) := by decide +kernel
theorem dX3_init_24 : decode cX3_init 24 = .ok (.aload_n 0, 1) := by decide +kernel
theorem dX3_init_25 : decode cX3_init 25 = .ok (.getfield 11, 3) := by decide +kernel
theorem dX3_init_28 : decode cX3_init 28 = .ok (.iload_n 1, 1) := by decide +kernel
theorem dX3_init_29 : decode cX3_init 29 = .ok (.new 9, 3) := by decide +kernel
theorem dX3_init_32 : decode cX3_init 32 = .ok (.dup, 1) := by decide +kernel
theorem dX3_init_33 : decode cX3_init 33 = .ok (.invokespecial 17, 3) := by decide +kernel
theorem dX3_init_36 : decode cX3_init 36 = .ok (.aastore, 1) := by decide +kernel
theorem dX3_init_37 : decode cX3_init 37 = .ok (.iinc 1 1, 3) := by decide +kernel
theorem dX3_init_40 : decode cX3_init 40 = .ok (.goto (-25), 3) := by decide +kernel
theorem dX3_init_43 : decode cX3_init 43 = .ok (.return_, 1) := by decide +kernel
theorem dX3_remember_0 : decode cX3_remember 0 = .ok (.aload_n 0, 1) := by decide +kernel
theorem dX3_remember_1 : decode cX3_remember 1 = .ok (.getfield 11, 3) := by decide +kernel
theorem dX3_remember_4 : decode cX3_remember 4 = .ok (.aload_n 0, 1) := by decide +kernel
theorem dX3_remember_5 : decode cX3_remember 5 = .ok (.getfield 18, 3) := by decide +kernel
theorem dX3_remember_8 : decode cX3_remember 8 = .ok (.aaload, 1) := by decide +kernel
theorem dX3_remember_9 : decode cX3_remember 9 = .ok (.aload_n 1, 1) := by decide +kernel
theorem dX3_remember_10 : decode cX3_remember 10 = .ok (.invokevirtual 22, 3) := by decide +kernel
theorem dX3_remember_13 : decode cX3_remember 13 = .ok (.aload_n 0, 1) := by decide +kernel
theorem dX3_remember_14 : decode cX3_remember 14 = .ok (.aload_n 0, 1) := by decide +kernel
theorem dX3_remember_15 : decode cX3_remember 15 = .ok (.getfield 18, 3) := by decide +kernel
theorem dX3_remember_18 : decode cX3_remember 18 = .ok (.iconst 1, 1) := by decide +kernel
theorem dX3_remember_19 : decode cX3_remember 19 = .ok (.iadd, 1) := by decide +kernel
theorem dX3_remember_20 : decode cX3_remember 20 = .ok (.bipush 8, 2) := by decide +kernel
theorem dX3_remember_22 : decode cX3_remember 22 = .ok (.irem, 1) := by decide +kernel
theorem dX3_remember_23 : decode cX3_remember 23 = .ok (.putfield 18, 3) := by decide +kernel
theorem dX3_remember_26 : decode cX3_remember 26 = .ok (.aload_n 0, 1) := by decide +kernel
theorem dX3_remember_27 : decode cX3_remember 27 = .ok (.aload_n 0, 1) := by decide +kernel
theorem dX3_remember_28 : decode cX3_remember 28 = .ok (.getfield 26, 3) := by decide +kernel
theorem dX3_remember_31 : decode cX3_remember 31 = .ok (.iconst 1, 1) := by decide +kernel
theorem dX3_remember_32 : decode cX3_remember 32 = .ok (.iadd, 1) := by decide +kernel
theorem dX3_remember_33 : decode cX3_remember 33 = .ok (.bipush 8, 2) := by decide +kernel
theorem dX3_remember_35 : decode cX3_remember 35 = .ok (.invokestatic 29, 3) := by decide +kernel
theorem dX3_remember_38 : decode cX3_remember 38 = .ok (.putfield 26, 3) := by decide +kernel
theorem dX3_remember_41 : decode cX3_remember 41 = .ok (.return_, 1) := by decide +kernel
theorem dX3_takeBack_0 : decode cX3_takeBack 0 = .ok (.aload_n 0, 1) := by decide +kernel
theorem dX3_takeBack_1 : decode cX3_takeBack 1 = .ok (.aload_n 0, 1) := by decide +kernel
theorem dX3_takeBack_2 : decode cX3_takeBack 2 = .ok (.getfield 18, 3) := by decide +kernel
theorem dX3_takeBack_5 : decode cX3_takeBack 5 = .ok (.bipush 8, 2) := by decide +kernel
theorem dX3_takeBack_7 : decode cX3_takeBack 7 = .ok (.iadd, 1) := by decide +kernel
theorem dX3_takeBack_8 : decode cX3_takeBack 8 = .ok (.iconst 1, 1) := by decide +kernel
theorem dX3_takeBack_9 : decode cX3_takeBack 9 = .ok (.isub, 1) := by decide +kernel
theorem dX3_takeBack_10 : decode cX3_takeBack 10 = .ok (.bipush 8, 2) := by decide +kernel
theorem dX3_takeBack_12 : decode cX3_takeBack 12 = .ok (.irem, 1) := by decide +kernel
theorem dX3_takeBack_13 : decode cX3_takeBack 13 = .ok (.putfield 18, 3) := by decide +kernel
theorem dX3_takeBack_16 : decode cX3_takeBack 16 = .ok (.aload_n 1, 1) := by decide +kernel
theorem dX3_takeBack_17 : decode cX3_takeBack 17 = .ok (.aload_n 0, 1) := by decide +kernel
theorem dX3_takeBack_18 : decode cX3_takeBack 18 = .ok (.getfield 11, 3) := by decide +kernel
theorem dX3_takeBack_21 : decode cX3_takeBack 21 = .ok (.aload_n 0, 1) := by decide +kernel
theorem dX3_takeBack_22 : decode cX3_takeBack 22 = .ok (.getfield 18, 3) := by decide +kernel
theorem dX3_takeBack_25 : decode cX3_takeBack 25 = .ok (.aaload, 1) := by decide +kernel
theorem dX3_takeBack_26 : decode cX3_takeBack 26 = .ok (.invokevirtual 22, 3) := by decide +kernel
theorem dX3_takeBack_29 : decode cX3_takeBack 29 = .ok (.aload_n 0, 1) := by decide +kernel
theorem dX3_takeBack_30 : decode cX3_takeBack 30 = .ok (.dup, 1) := by decide +kernel
theorem dX3_takeBack_31 : decode cX3_takeBack 31 = .ok (.getfield 26, 3) := by decide +kernel
theorem dX3_takeBack_34 : decode cX3_takeBack 34 = .ok (.iconst 1, 1) := by decide +kernel
theorem dX3_takeBack_35 : decode cX3_takeBack 35 = .ok (.isub, 1) := by decide +kernel
theorem dX3_takeBack_36 : decode cX3_takeBack 36 = .ok (.putfield 26, 3) := by decide +kernel
theorem dX3_takeBack_39 : decode cX3_takeBack 39 = .ok (.return_, 1) := by decide +kernel
theorem dX3_forget_0 : decode cX3_forget 0 = .ok (.aload_n 0, 1) := by decide +kernel
theorem dX3_forget_1 : decode cX3_forget 1 = .ok (.iconst 0, 1) := by decide +kernel
theorem dX3_forget_2 : decode cX3_forget 2 = .ok (.putfield 26, 3) := by decide +kernel
theorem dX3_forget_5 : decode cX3_forget 5 = .ok (.return_, 1) := by decide +kernel
theorem dX4_init_0 : decode cX4_init 0 = .ok (.aload_n 0, 1) := by decide +kernel
theorem dX4_init_1 : decode cX4_init 1 = .ok (.invokespecial 3, 3) := by decide +kernel
theorem dX4_init_4 : decode cX4_init 4 = .ok (.aload_n 0, 1) := by decide +kernel
theorem dX4_init_5 : decode cX4_init 5 = .ok (.iconst 5, 1) := by decide +kernel
theorem dX4_init_6 : decode cX4_init 6 = .ok (.anewarray 9, 3) := by decide +kernel
theorem dX4_init_9 : decode cX4_init 9 = .ok (.putfield 11, 3) := by decide +kernel
theorem dX4_init_12 : decode cX4_init 12 = .ok (.aload_n 0, 1) := by decide +kernel
theorem dX4_init_13 : decode cX4_init 13 = .ok (.bipush 25, 2) := by decide +kernel
theorem dX4_init_15 : decode cX4_init 15 = .ok (.newarray .boolean, 2) := by decide +kernel
theorem dX4_init_17 : decode cX4_init 17 = .ok (.putfield 17, 3) := by decide +kernel
theorem dX4_init_20 : decode cX4_init 20 = .ok (.iconst 0, 1) := by decide +kernel
theorem dX4_init_21 : decode cX4_init 21 = .ok (.istore_n 1, 1) := by decide +kernel
theorem dX4_init_22 : decode cX4_init 22 = .ok (.iload_n 1, 1) := by decide +kernel
theorem dX4_init_23 : decode cX4_init 23 = .ok (.aload_n 0, 1) := by decide +kernel
theorem dX4_init_24 : decode cX4_init 24 = .ok (.getfield 11, 3) := by decide +kernel
theorem dX4_init_27 : decode cX4_init 27 = .ok (.arraylength, 1) := by decide +kernel
theorem dX4_init_28 : decode cX4_init 28 = .ok (.if_icmp .ge 22, 3) := by decide +kernel
theorem dX4_init_31 : decode cX4_init 31 = .ok (.aload_n 0, 1) := by decide +kernel
theorem dX4_init_32 : decode cX4_init 32 = .ok (.getfield 11, 3) := by decide +kernel
theorem dX4_init_35 : decode cX4_init 35 = .ok (.iload_n 1, 1) := by decide +kernel
theorem dX4_init_36 : decode cX4_init 36 = .ok (.new 9, 3) := by decide +kernel
theorem dX4_init_39 : decode cX4_init 39 = .ok (.dup, 1) := by decide +kernel
theorem dX4_init_40 : decode cX4_init 40 = .ok (.invokespecial 21, 3) := by decide +kernel
theorem dX4_init_43 : decode cX4_init 43 = .ok (.aastore, 1) := by decide +kernel
theorem dX4_init_44 : decode cX4_init 44 = .ok (.iinc 1 1, 3) := by decide +kernel
theorem dX4_init_47 : decode cX4_init 47 = .ok (.goto (-25), 3) := by decide +kernel
theorem dX4_init_50 : decode cX4_init 50 = .ok (.return_, 1) := by decide +kernel
theorem dX4_empty_0 : decode cX4_empty 0 = .ok (.iconst 0, 1) := by decide +kernel
theorem dX4_empty_1 : decode cX4_empty 1 = .ok (.istore_n 1, 1) := by decide +kernel
theorem dX4_empty_2 : decode cX4_empty 2 = .ok (.iload_n 1, 1) := by decide +kernel
theorem dX4_empty_3 : decode cX4_empty 3 = .ok (.aload_n 0, 1) := by decide +kernel
theorem dX4_empty_4 : decode cX4_empty 4 = .ok (.getfield 17, 3) := by decide +kernel
theorem dX4_empty_7 : decode cX4_empty 7 = .ok (.arraylength, 1) := by decide +kernel
theorem dX4_empty_8 : decode cX4_empty 8 = .ok (.if_icmp .ge 16, 3) := by decide +kernel
theorem dX4_empty_11 : decode cX4_empty 11 = .ok (.aload_n 0, 1) := by decide +kernel
theorem dX4_empty_12 : decode cX4_empty 12 = .ok (.getfield 17, 3) := by decide +kernel
theorem dX4_empty_15 : decode cX4_empty 15 = .ok (.iload_n 1, 1) := by decide +kernel
theorem dX4_empty_16 : decode cX4_empty 16 = .ok (.iconst 0, 1) := by decide +kernel
theorem dX4_empty_17 : decode cX4_empty 17 = .ok (.bastore, 1) := by decide +kernel
theorem dX4_empty_18 : decode cX4_empty 18 = .ok (.iinc 1 1, 3) := by decide +kernel
theorem dX4_empty_21 : decode cX4_empty 21 = .ok (.goto (-19), 3) := by decide +kernel
theorem dX4_empty_24 : decode cX4_empty 24 = .ok (.aload_n 0, 1) := by decide +kernel
theorem dX4_empty_25 : decode cX4_empty 25 = .ok (.iconst 0, 1) := by decide +kernel
theorem dX4_empty_26 : decode cX4_empty 26 = .ok (.putfield 22, 3) := by decide +kernel
theorem dX4_empty_29 : decode cX4_empty 29 = .ok (.aload_n 0, 1) := by decide +kernel
theorem dX4_empty_30 : decode cX4_empty 30 = .ok (.iconst 0, 1) := by decide +kernel
theorem dX4_empty_31 : decode cX4_empty 31 = .ok (.putfield 26, 3) := by decide +kernel
theorem dX4_empty_34 : decode cX4_empty 34 = .ok (.aload_n 0, 1) := by decide +kernel
theorem dX4_empty_35 : decode cX4_empty 35 = .ok (.iconst 0, 1) := by decide +kernel
theorem dX4_empty_36 : decode cX4_empty 36 = .ok (.putfield 29, 3) := by decide +kernel
theorem dX4_empty_39 : decode cX4_empty 39 = .ok (.aload_n 0, 1) := by decide +kernel
theorem dX4_empty_40 : decode cX4_empty 40 = .ok (.iconst 0, 1) := by decide +kernel
theorem dX4_empty_41 : decode cX4_empty 41 = .ok (.putfield 32, 3) := by decide +kernel
theorem dX4_empty_44 : decode cX4_empty 44 = .ok (.aload_n 0, 1) := by decide +kernel
theorem dX4_empty_45 : decode cX4_empty 45 = .ok (.iconst 0, 1) := by decide +kernel
theorem dX4_empty_46 : decode cX4_empty 46 = .ok (.putfield 35, 3) := by decide +kernel
theorem dX4_empty_49 : decode cX4_empty 49 = .ok (.aload_n 0, 1) := by decide +kernel
theorem dX4_empty_50 : decode cX4_empty 50 = .ok (.iconst 0, 1) := by decide +kernel
theorem dX4_empty_51 : decode cX4_empty 51 = .ok (.putfield 38, 3) := by decide +kernel
theorem dX4_empty_54 : decode cX4_empty 54 = .ok (.aload_n 0, 1) := by decide +kernel
theorem dX4_empty_55 : decode cX4_empty 55 = .ok (.iconst 0, 1) := by decide +kernel
theorem dX4_empty_56 : decode cX4_empty 56 = .ok (.putfield 41, 3) := by decide +kernel
theorem dX4_empty_59 : decode cX4_empty 59 = .ok (.aload_n 0, 1) := by decide +kernel
theorem dX4_empty_60 : decode cX4_empty 60 = .ok (.iconst 0, 1) := by decide +kernel
theorem dX4_empty_61 : decode cX4_empty 61 = .ok (.putfield 44, 3) := by decide +kernel
theorem dX4_empty_64 : decode cX4_empty 64 = .ok (.return_, 1) := by decide +kernel
theorem dX4_copyFrom_0 : decode cX4_copyFrom 0 = .ok (.iconst 0, 1) := by decide +kernel
theorem dX4_copyFrom_1 : decode cX4_copyFrom 1 = .ok (.istore_n 2, 1) := by decide +kernel
theorem dX4_copyFrom_2 : decode cX4_copyFrom 2 = .ok (.iload_n 2, 1) := by decide +kernel
theorem dX4_copyFrom_3 : decode cX4_copyFrom 3 = .ok (.aload_n 1, 1) := by decide +kernel
theorem dX4_copyFrom_4 : decode cX4_copyFrom 4 = .ok (.getfield 22, 3) := by decide +kernel
theorem dX4_copyFrom_7 : decode cX4_copyFrom 7 = .ok (.if_icmp .ge 24, 3) := by decide +kernel
theorem dX4_copyFrom_10 : decode cX4_copyFrom 10 = .ok (.aload_n 0, 1) := by decide +kernel
theorem dX4_copyFrom_11 : decode cX4_copyFrom 11 = .ok (.getfield 11, 3) := by decide +kernel
theorem dX4_copyFrom_14 : decode cX4_copyFrom 14 = .ok (.iload_n 2, 1) := by decide +kernel
theorem dX4_copyFrom_15 : decode cX4_copyFrom 15 = .ok (.aaload, 1) := by decide +kernel
theorem dX4_copyFrom_16 : decode cX4_copyFrom 16 = .ok (.aload_n 1, 1) := by decide +kernel
theorem dX4_copyFrom_17 : decode cX4_copyFrom 17 = .ok (.getfield 11, 3) := by decide +kernel
theorem dX4_copyFrom_20 : decode cX4_copyFrom 20 = .ok (.iload_n 2, 1) := by decide +kernel
theorem dX4_copyFrom_21 : decode cX4_copyFrom 21 = .ok (.aaload, 1) := by decide +kernel
theorem dX4_copyFrom_22 : decode cX4_copyFrom 22 = .ok (.invokevirtual 47, 3) := by decide +kernel
theorem dX4_copyFrom_25 : decode cX4_copyFrom 25 = .ok (.iinc 2 1, 3) := by decide +kernel
theorem dX4_copyFrom_28 : decode cX4_copyFrom 28 = .ok (.goto (-26), 3) := by decide +kernel
theorem dX4_copyFrom_31 : decode cX4_copyFrom 31 = .ok (.iconst 0, 1) := by decide +kernel
theorem dX4_copyFrom_32 : decode cX4_copyFrom 32 = .ok (.istore_n 2, 1) := by decide +kernel
theorem dX4_copyFrom_33 : decode cX4_copyFrom 33 = .ok (.iload_n 2, 1) := by decide +kernel
theorem dX4_copyFrom_34 : decode cX4_copyFrom 34 = .ok (.aload_n 0, 1) := by decide +kernel
theorem dX4_copyFrom_35 : decode cX4_copyFrom 35 = .ok (.getfield 17, 3) := by decide +kernel
theorem dX4_copyFrom_38 : decode cX4_copyFrom 38 = .ok (.arraylength, 1) := by decide +kernel
theorem dX4_copyFrom_39 : decode cX4_copyFrom 39 = .ok (.if_icmp .ge 21, 3) := by decide +kernel
theorem dX4_copyFrom_42 : decode cX4_copyFrom 42 = .ok (.aload_n 0, 1) := by decide +kernel
theorem dX4_copyFrom_43 : decode cX4_copyFrom 43 = .ok (.getfield 17, 3) := by decide +kernel
theorem dX4_copyFrom_46 : decode cX4_copyFrom 46 = .ok (.iload_n 2, 1) := by decide +kernel
theorem dX4_copyFrom_47 : decode cX4_copyFrom 47 = .ok (.aload_n 1, 1) := by decide +kernel
theorem dX4_copyFrom_48 : decode cX4_copyFrom 48 = .ok (.getfield 17, 3) := by decide +kernel
theorem dX4_copyFrom_51 : decode cX4_copyFrom 51 = .ok (.iload_n 2, 1) := by decide +kernel
theorem dX4_copyFrom_52 : decode cX4_copyFrom 52 = .ok (.baload, 1) := by decide +kernel
theorem dX4_copyFrom_53 : decode cX4_copyFrom 53 = .ok (.bastore, 1) := by decide +kernel
theorem dX4_copyFrom_54 : decode cX4_copyFrom 54 = .ok (.iinc 2 1, 3) := by decide +kernel
theorem dX4_copyFrom_57 : decode cX4_copyFrom 57 = .ok (.goto (-24), 3) := by decide +kernel
theorem dX4_copyFrom_60 : decode cX4_copyFrom 60 = .ok (.aload_n 0, 1) := by decide +kernel
theorem dX4_copyFrom_61 : decode cX4_copyFrom 61 = .ok (.aload_n 1, 1) := by decide +kernel
theorem dX4_copyFrom_62 : decode cX4_copyFrom 62 = .ok (.getfield 22, 3) := by decide +kernel
theorem dX4_copyFrom_65 : decode cX4_copyFrom 65 = .ok (.putfield 22, 3) := by decide +kernel
theorem dX4_copyFrom_68 : decode cX4_copyFrom 68 = .ok (.aload_n 0, 1) := by decide +kernel
theorem dX4_copyFrom_69 : decode cX4_copyFrom 69 = .ok (.aload_n 1, 1) := by decide +kernel
theorem dX4_copyFrom_70 : decode cX4_copyFrom 70 = .ok (.getfield 26, 3) := by decide +kernel
theorem dX4_copyFrom_73 : decode cX4_copyFrom 73 = .ok (.putfield 26, 3) := by decide +kernel
theorem dX4_copyFrom_76 : decode cX4_copyFrom 76 = .ok (.aload_n 0, 1) := by decide +kernel
theorem dX4_copyFrom_77 : decode cX4_copyFrom 77 = .ok (.aload_n 1, 1) := by decide +kernel
theorem dX4_copyFrom_78 : decode cX4_copyFrom 78 = .ok (.getfield 29, 3) := by decide +kernel
theorem dX4_copyFrom_81 : decode cX4_copyFrom 81 = .ok (.putfield 29, 3) := by decide +kernel
theorem dX4_copyFrom_84 : decode cX4_copyFrom 84 = .ok (.aload_n 0, 1) := by decide +kernel
theorem dX4_copyFrom_85 : decode cX4_copyFrom 85 = .ok (.aload_n 1, 1) := by decide +kernel
theorem dX4_copyFrom_86 : decode cX4_copyFrom 86 = .ok (.getfield 32, 3) := by decide +kernel
theorem dX4_copyFrom_89 : decode cX4_copyFrom 89 = .ok (.putfield 32, 3) := by decide +kernel
theorem dX4_copyFrom_92 : decode cX4_copyFrom 92 = .ok (.aload_n 0, 1) := by decide +kernel
theorem dX4_copyFrom_93 : decode cX4_copyFrom 93 = .ok (.aload_n 1, 1) := by decide +kernel
theorem dX4_copyFrom_94 : decode cX4_copyFrom 94 = .ok (.getfield 35, 3) := by decide +kernel
theorem dX4_copyFrom_97 : decode cX4_copyFrom 97 = .ok (.putfield 35, 3) := by decide +kernel
theorem dX4_copyFrom_100 : decode cX4_copyFrom 100 = .ok (.aload_n 0, 1) := by decide +kernel
theorem dX4_copyFrom_101 : decode cX4_copyFrom 101 = .ok (.aload_n 1, 1) := by decide +kernel
theorem dX4_copyFrom_102 : decode cX4_copyFrom 102 = .ok (.getfield 38, 3) := by decide +kernel
theorem dX4_copyFrom_105 : decode cX4_copyFrom 105 = .ok (.putfield 38, 3) := by decide +kernel
theorem dX4_copyFrom_108 : decode cX4_copyFrom 108 = .ok (.aload_n 0, 1) := by decide +kernel
theorem dX4_copyFrom_109 : decode cX4_copyFrom 109 = .ok (.aload_n 1, 1) := by decide +kernel
theorem dX4_copyFrom_110 : decode cX4_copyFrom 110 = .ok (.getfield 41, 3) := by decide +kernel
theorem dX4_copyFrom_113 : decode cX4_copyFrom 113 = .ok (.putfield 41, 3) := by decide +kernel
theorem dX4_copyFrom_116 : decode cX4_copyFrom 116 = .ok (.aload_n 0, 1) := by decide +kernel
theorem dX4_copyFrom_117 : decode cX4_copyFrom 117 = .ok (.aload_n 1, 1) := by decide +kernel
theorem dX4_copyFrom_118 : decode cX4_copyFrom 118 = .ok (.getfield 44, 3) := by decide +kernel
theorem dX4_copyFrom_121 : decode cX4_copyFrom 121 = .ok (.putfield 44, 3) := by decide +kernel
theorem dX4_copyFrom_124 : decode cX4_copyFrom 124 = .ok (.return_, 1) := by decide +kernel
theorem dX4_has_0 : decode cX4_has 0 = .ok (.iload_n 1, 1) := by decide +kernel
theorem dX4_has_1 : decode cX4_has 1 = .ok (.ifCond .lt 15, 3) := by decide +kernel
theorem dX4_has_4 : decode cX4_has 4 = .ok (.iload_n 1, 1) := by decide +kernel
theorem dX4_has_5 : decode cX4_has 5 = .ok (.aload_n 0, 1) := by decide +kernel
theorem dX4_has_6 : decode cX4_has 6 = .ok (.getfield 22, 3) := by decide +kernel
theorem dX4_has_9 : decode cX4_has 9 = .ok (.if_icmp .ge 7, 3) := by decide +kernel
theorem dX4_has_12 : decode cX4_has 12 = .ok (.iconst 1, 1) := by decide +kernel
theorem dX4_has_13 : decode cX4_has 13 = .ok (.goto 4, 3) := by decide +kernel
theorem dX4_has_16 : decode cX4_has 16 = .ok (.iconst 0, 1) := by decide +kernel
theorem dX4_has_17 : decode cX4_has 17 = .ok (.ireturn, 1) := by decide +kernel
theorem dX4_hasLine_0 : decode cX4_hasLine 0 = .ok (.aload_n 0, 1) := by decide +kernel
theorem dX4_hasLine_1 : decode cX4_hasLine 1 = .ok (.iload_n 1, 1) := by decide +kernel
theorem dX4_hasLine_2 : decode cX4_hasLine 2 = .ok (.invokevirtual 51, 3) := by decide +kernel
theorem dX4_hasLine_5 : decode cX4_hasLine 5 = .ok (.ifCond .eq 25, 3) := by decide +kernel
theorem dX4_hasLine_8 : decode cX4_hasLine 8 = .ok (.iload_n 2, 1) := by decide +kernel
theorem dX4_hasLine_9 : decode cX4_hasLine 9 = .ok (.iconst 1, 1) := by decide +kernel
theorem dX4_hasLine_10 : decode cX4_hasLine 10 = .ok (.if_icmp .lt 20, 3) := by decide +kernel
theorem dX4_hasLine_13 : decode cX4_hasLine 13 = .ok (.iload_n 2, 1) := by decide +kernel
theorem dX4_hasLine_14 : decode cX4_hasLine 14 = .ok (.aload_n 0, 1) := by decide +kernel
theorem dX4_hasLine_15 : decode cX4_hasLine 15 = .ok (.getfield 11, 3) := by decide +kernel
theorem dX4_hasLine_18 : decode cX4_hasLine 18 = .ok (.iload_n 1, 1) := by decide +kernel
theorem dX4_hasLine_19 : decode cX4_hasLine 19 = .ok (.aaload, 1) := by decide +kernel
theorem dX4_hasLine_20 : decode cX4_hasLine 20 = .ok (.getfield 55, 3) := by decide +kernel
theorem dX4_hasLine_23 : decode cX4_hasLine 23 = .ok (.if_icmp .gt 7, 3) := by decide +kernel
theorem dX4_hasLine_26 : decode cX4_hasLine 26 = .ok (.iconst 1, 1) := by decide +kernel
theorem dX4_hasLine_27 : decode cX4_hasLine 27 = .ok (.goto 4, 3) := by decide +kernel
theorem dX4_hasLine_30 : decode cX4_hasLine 30 = .ok (.iconst 0, 1) := by decide +kernel
theorem dX4_hasLine_31 : decode cX4_hasLine 31 = .ok (.ireturn, 1) := by decide +kernel
theorem dX4_addDriver_0 : decode cX4_addDriver 0 = .ok (.aload_n 0, 1) := by decide +kernel
theorem dX4_addDriver_1 : decode cX4_addDriver 1 = .ok (.getfield 22, 3) := by decide +kernel
theorem dX4_addDriver_4 : decode cX4_addDriver 4 = .ok (.iconst 5, 1) := by decide +kernel
theorem dX4_addDriver_5 : decode cX4_addDriver 5 = .ok (.if_icmp .lt 5, 3) := by decide +kernel
theorem dX4_addDriver_8 : decode cX4_addDriver 8 = .ok (.iconst (-1), 1) := by decide +kernel
theorem dX4_addDriver_9 : decode cX4_addDriver 9 = .ok (.ireturn, 1) := by decide +kernel
theorem dX4_addDriver_10 : decode cX4_addDriver 10 = .ok (.aload_n 0, 1) := by decide +kernel
theorem dX4_addDriver_11 : decode cX4_addDriver 11 = .ok (.getfield 11, 3) := by decide +kernel
theorem dX4_addDriver_14 : decode cX4_addDriver 14 = .ok (.aload_n 0, 1) := by decide +kernel
theorem dX4_addDriver_15 : decode cX4_addDriver 15 = .ok (.getfield 22, 3) := by decide +kernel
theorem dX4_addDriver_18 : decode cX4_addDriver 18 = .ok (.aaload, 1) := by decide +kernel
theorem dX4_addDriver_19 : decode cX4_addDriver 19 = .ok (.iload_n 1, 1) := by decide +kernel
theorem dX4_addDriver_20 : decode cX4_addDriver 20 = .ok (.invokevirtual 58, 3) := by decide +kernel
theorem dX4_addDriver_23 : decode cX4_addDriver 23 = .ok (.aload_n 0, 1) := by decide +kernel
theorem dX4_addDriver_24 : decode cX4_addDriver 24 = .ok (.dup, 1) := by decide +kernel
theorem dX4_addDriver_25 : decode cX4_addDriver 25 = .ok (.getfield 22, 3) := by decide +kernel
theorem dX4_addDriver_28 : decode cX4_addDriver 28 = .ok (.iconst 1, 1) := by decide +kernel
theorem dX4_addDriver_29 : decode cX4_addDriver 29 = .ok (.iadd, 1) := by decide +kernel
theorem dX4_addDriver_30 : decode cX4_addDriver 30 = .ok (.putfield 22, 3) := by decide +kernel
theorem dX4_addDriver_33 : decode cX4_addDriver 33 = .ok (.aload_n 0, 1) := by decide +kernel
theorem dX4_addDriver_34 : decode cX4_addDriver 34 = .ok (.getfield 22, 3) := by decide +kernel
theorem dX4_addDriver_37 : decode cX4_addDriver 37 = .ok (.iconst 1, 1) := by decide +kernel
theorem dX4_addDriver_38 : decode cX4_addDriver 38 = .ok (.isub, 1) := by decide +kernel
theorem dX4_addDriver_39 : decode cX4_addDriver 39 = .ok (.ireturn, 1) := by decide +kernel
theorem dX4_isMajority_0 : decode cX4_isMajority 0 = .ok (.iload_n 1, 1) := by decide +kernel
theorem dX4_isMajority_1 : decode cX4_isMajority 1 = .ok (.aload_n 0, 1) := by decide +kernel
theorem dX4_isMajority_2 : decode cX4_isMajority 2 = .ok (.getfield 22, 3) := by decide +kernel
theorem dX4_isMajority_5 : decode cX4_isMajority 5 = .ok (.iconst 2, 1) := by decide +kernel
theorem dX4_isMajority_6 : decode cX4_isMajority 6 = .ok (.idiv, 1) := by decide +kernel
theorem dX4_isMajority_7 : decode cX4_isMajority 7 = .ok (.if_icmp .le 7, 3) := by decide +kernel
theorem dX4_isMajority_10 : decode cX4_isMajority 10 = .ok (.iconst 1, 1) := by decide +kernel
theorem dX4_isMajority_11 : decode cX4_isMajority 11 = .ok (.goto 4, 3) := by decide +kernel
theorem dX4_isMajority_14 : decode cX4_isMajority 14 = .ok (.iconst 0, 1) := by decide +kernel
theorem dX4_isMajority_15 : decode cX4_isMajority 15 = .ok (.ireturn, 1) := by decide +kernel
theorem dX4_isRopeCut_0 : decode cX4_isRopeCut 0 = .ok (.aload_n 0, 1) := by decide +kernel
theorem dX4_isRopeCut_1 : decode cX4_isRopeCut 1 = .ok (.getfield 17, 3) := by decide +kernel
theorem dX4_isRopeCut_4 : decode cX4_isRopeCut 4 = .ok (.iload_n 1, 1) := by decide +kernel
theorem dX4_isRopeCut_5 : decode cX4_isRopeCut 5 = .ok (.iconst 5, 1) := by decide +kernel
theorem dX4_isRopeCut_6 : decode cX4_isRopeCut 6 = .ok (.imul, 1) := by decide +kernel
theorem dX4_isRopeCut_7 : decode cX4_isRopeCut 7 = .ok (.iload_n 2, 1) := by decide +kernel
theorem dX4_isRopeCut_8 : decode cX4_isRopeCut 8 = .ok (.iadd, 1) := by decide +kernel
theorem dX4_isRopeCut_9 : decode cX4_isRopeCut 9 = .ok (.baload, 1) := by decide +kernel
theorem dX4_isRopeCut_10 : decode cX4_isRopeCut 10 = .ok (.ireturn, 1) := by decide +kernel
theorem dX4_setRope_0 : decode cX4_setRope 0 = .ok (.aload_n 0, 1) := by decide +kernel
theorem dX4_setRope_1 : decode cX4_setRope 1 = .ok (.getfield 17, 3) := by decide +kernel
theorem dX4_setRope_4 : decode cX4_setRope 4 = .ok (.iload_n 1, 1) := by decide +kernel
theorem dX4_setRope_5 : decode cX4_setRope 5 = .ok (.iconst 5, 1) := by decide +kernel
theorem dX4_setRope_6 : decode cX4_setRope 6 = .ok (.imul, 1) := by decide +kernel
theorem dX4_setRope_7 : decode cX4_setRope 7 = .ok (.iload_n 2, 1) := by decide +kernel
theorem dX4_setRope_8 : decode cX4_setRope 8 = .ok (.iadd, 1) := by decide +kernel
theorem dX4_setRope_9 : decode cX4_setRope 9 = .ok (.iload_n 3, 1) := by decide +kernel
theorem dX4_setRope_10 : decode cX4_setRope 10 = .ok (.bastore, 1) := by decide +kernel
theorem dX4_setRope_11 : decode cX4_setRope 11 = .ok (.aload_n 0, 1) := by decide +kernel
theorem dX4_setRope_12 : decode cX4_setRope 12 = .ok (.getfield 17, 3) := by decide +kernel
theorem dX4_setRope_15 : decode cX4_setRope 15 = .ok (.iload_n 2, 1) := by decide +kernel
theorem dX4_setRope_16 : decode cX4_setRope 16 = .ok (.iconst 5, 1) := by decide +kernel
theorem dX4_setRope_17 : decode cX4_setRope 17 = .ok (.imul, 1) := by decide +kernel
theorem dX4_setRope_18 : decode cX4_setRope 18 = .ok (.iload_n 1, 1) := by decide +kernel
theorem dX4_setRope_19 : decode cX4_setRope 19 = .ok (.iadd, 1) := by decide +kernel
theorem dX4_setRope_20 : decode cX4_setRope 20 = .ok (.iload_n 3, 1) := by decide +kernel
theorem dX4_setRope_21 : decode cX4_setRope 21 = .ok (.bastore, 1) := by decide +kernel
theorem dX4_setRope_22 : decode cX4_setRope 22 = .ok (.return_, 1) := by decide +kernel
theorem dX4_canReach_0 : decode cX4_canReach 0 = .ok (.iload_n 1, 1) := by decide +kernel
theorem dX4_canReach_1 : decode cX4_canReach 1 = .ok (.iload_n 2, 1) := by decide +kernel
theorem dX4_canReach_2 : decode cX4_canReach 2 = .ok (.if_icmp .eq 40, 3) := by decide +kernel
theorem dX4_canReach_5 : decode cX4_canReach 5 = .ok (.aload_n 0, 1) := by decide +kernel
theorem dX4_canReach_6 : decode cX4_canReach 6 = .ok (.getfield 11, 3) := by decide +kernel
theorem dX4_canReach_9 : decode cX4_canReach 9 = .ok (.iload_n 1, 1) := by decide +kernel
theorem dX4_canReach_10 : decode cX4_canReach 10 = .ok (.aaload, 1) := by decide +kernel
theorem dX4_canReach_11 : decode cX4_canReach 11 = .ok (.getfield 62, 3) := by decide +kernel
theorem dX4_canReach_14 : decode cX4_canReach 14 = .ok (.ifCond .eq 28, 3) := by decide +kernel
theorem dX4_canReach_17 : decode cX4_canReach 17 = .ok (.aload_n 0, 1) := by decide +kernel
theorem dX4_canReach_18 : decode cX4_canReach 18 = .ok (.getfield 11, 3) := by decide +kernel
theorem dX4_canReach_21 : decode cX4_canReach 21 = .ok (.iload_n 2, 1) := by decide +kernel
theorem dX4_canReach_22 : decode cX4_canReach 22 = .ok (.aaload, 1) := by decide +kernel
theorem dX4_canReach_23 : decode cX4_canReach 23 = .ok (.getfield 62, 3) := by decide +kernel
theorem dX4_canReach_26 : decode cX4_canReach 26 = .ok (.ifCond .eq 16, 3) := by decide +kernel
theorem dX4_canReach_29 : decode cX4_canReach 29 = .ok (.aload_n 0, 1) := by decide +kernel
theorem dX4_canReach_30 : decode cX4_canReach 30 = .ok (.iload_n 1, 1) := by decide +kernel
theorem dX4_canReach_31 : decode cX4_canReach 31 = .ok (.iload_n 2, 1) := by decide +kernel
theorem dX4_canReach_32 : decode cX4_canReach 32 = .ok (.invokevirtual 66, 3) := by decide +kernel
theorem dX4_canReach_35 : decode cX4_canReach 35 = .ok (.ifCond .ne 7, 3) := by decide +kernel
theorem dX4_canReach_38 : decode cX4_canReach 38 = .ok (.iconst 1, 1) := by decide +kernel
theorem dX4_canReach_39 : decode cX4_canReach 39 = .ok (.goto 4, 3) := by decide +kernel
theorem dX4_canReach_42 : decode cX4_canReach 42 = .ok (.iconst 0, 1) := by decide +kernel
theorem dX4_canReach_43 : decode cX4_canReach 43 = .ok (.ireturn, 1) := by decide +kernel
theorem dX4_countReached_0 : decode cX4_countReached 0 = .ok (.iconst 0, 1) := by decide +kernel
theorem dX4_countReached_1 : decode cX4_countReached 1 = .ok (.istore_n 2, 1) := by decide +kernel
theorem dX4_countReached_2 : decode cX4_countReached 2 = .ok (.iconst 0, 1) := by decide +kernel
theorem dX4_countReached_3 : decode cX4_countReached 3 = .ok (.istore_n 3, 1) := by decide +kernel
theorem dX4_countReached_4 : decode cX4_countReached 4 = .ok (.iload_n 3, 1) := by decide +kernel
theorem dX4_countReached_5 : decode cX4_countReached 5 = .ok (.aload_n 0, 1) := by decide +kernel
theorem dX4_countReached_6 : decode cX4_countReached 6 = .ok (.getfield 22, 3) := by decide +kernel
theorem dX4_countReached_9 : decode cX4_countReached 9 = .ok (.if_icmp .ge 21, 3) := by decide +kernel
theorem dX4_countReached_12 : decode cX4_countReached 12 = .ok (.aload_n 0, 1) := by decide +kernel
theorem dX4_countReached_13 : decode cX4_countReached 13 = .ok (.iload_n 1, 1) := by decide +kernel
theorem dX4_countReached_14 : decode cX4_countReached 14 = .ok (.iload_n 3, 1) := by decide +kernel
theorem dX4_countReached_15 : decode cX4_countReached 15 = .ok (.invokevirtual 70, 3) := by decide +kernel
theorem dX4_countReached_18 : decode cX4_countReached 18 = .ok (.ifCond .eq 6, 3) := by decide +kernel
theorem dX4_countReached_21 : decode cX4_countReached 21 = .ok (.iinc 2 1, 3) := by decide +kernel
theorem dX4_countReached_24 : decode cX4_countReached 24 = .ok (.iinc 3 1, 3) := by decide +kernel
theorem dX4_countReached_27 : decode cX4_countReached 27 = .ok (.goto (-23), 3) := by decide +kernel
theorem dX4_countReached_30 : decode cX4_countReached 30 = .ok (.iload_n 2, 1) := by decide +kernel
theorem dX4_countReached_31 : decode cX4_countReached 31 = .ok (.ireturn, 1) := by decide +kernel
theorem dX4_countCutRopes_0 : decode cX4_countCutRopes 0 = .ok (.iconst 0, 1) := by decide +kernel
theorem dX4_countCutRopes_1 : decode cX4_countCutRopes 1 = .ok (.istore_n 1, 1) := by decide +kernel
theorem dX4_countCutRopes_2 : decode cX4_countCutRopes 2 = .ok (.iconst 0, 1) := by decide +kernel
theorem dX4_countCutRopes_3 : decode cX4_countCutRopes 3 = .ok (.istore_n 2, 1) := by decide +kernel
theorem dX4_countCutRopes_4 : decode cX4_countCutRopes 4 = .ok (.iload_n 2, 1) := by decide +kernel
theorem dX4_countCutRopes_5 : decode cX4_countCutRopes 5 = .ok (.aload_n 0, 1) := by decide +kernel
theorem dX4_countCutRopes_6 : decode cX4_countCutRopes 6 = .ok (.getfield 17, 3) := by decide +kernel
theorem dX4_countCutRopes_9 : decode cX4_countCutRopes 9 = .ok (.arraylength, 1) := by decide +kernel
theorem dX4_countCutRopes_10 : decode cX4_countCutRopes 10 = .ok (.if_icmp .ge 21, 3) := by decide +kernel
theorem dX4_countCutRopes_13 : decode cX4_countCutRopes 13 = .ok (.aload_n 0, 1) := by decide +kernel
theorem dX4_countCutRopes_14 : decode cX4_countCutRopes 14 = .ok (.getfield 17, 3) := by decide +kernel
theorem dX4_countCutRopes_17 : decode cX4_countCutRopes 17 = .ok (.iload_n 2, 1) := by decide +kernel
theorem dX4_countCutRopes_18 : decode cX4_countCutRopes 18 = .ok (.baload, 1) := by decide +kernel
theorem dX4_countCutRopes_19 : decode cX4_countCutRopes 19 = .ok (.ifCond .eq 6, 3) := by decide +kernel
theorem dX4_countCutRopes_22 : decode cX4_countCutRopes 22 = .ok (.iinc 1 1, 3) := by decide +kernel
theorem dX4_countCutRopes_25 : decode cX4_countCutRopes 25 = .ok (.iinc 2 1, 3) := by decide +kernel
theorem dX4_countCutRopes_28 : decode cX4_countCutRopes 28 = .ok (.goto (-24), 3) := by decide +kernel
theorem dX4_countCutRopes_31 : decode cX4_countCutRopes 31 = .ok (.iload_n 1, 1) := by decide +kernel
theorem dX4_countCutRopes_32 : decode cX4_countCutRopes 32 = .ok (.iconst 2, 1) := by decide +kernel
theorem dX4_countCutRopes_33 : decode cX4_countCutRopes 33 = .ok (.idiv, 1) := by decide +kernel
theorem dX4_countCutRopes_34 : decode cX4_countCutRopes 34 = .ok (.ireturn, 1) := by decide +kernel
theorem dX4_gatherVotes_0 : decode cX4_gatherVotes 0 = .ok (.aload_n 0, 1) := by decide +kernel
theorem dX4_gatherVotes_1 : decode cX4_gatherVotes 1 = .ok (.getfield 11, 3) := by decide +kernel
theorem dX4_gatherVotes_4 : decode cX4_gatherVotes 4 = .ok (.iload_n 1, 1) := by decide +kernel
theorem dX4_gatherVotes_5 : decode cX4_gatherVotes 5 = .ok (.aaload, 1) := by decide +kernel
theorem dX4_gatherVotes_6 : decode cX4_gatherVotes 6 = .ok (.astore_n 2, 1) := by decide +kernel
theorem dX4_gatherVotes_7 : decode cX4_gatherVotes 7 = .ok (.aload_n 0, 1) := by decide +kernel
theorem dX4_gatherVotes_8 : decode cX4_gatherVotes 8 = .ok (.aload_n 2, 1) := by decide +kernel
theorem dX4_gatherVotes_9 : decode cX4_gatherVotes 9 = .ok (.iload_n 1, 1) := by decide +kernel
theorem dX4_gatherVotes_10 : decode cX4_gatherVotes 10 = .ok (.invokevirtual 73, 3) := by decide +kernel
theorem dX4_gatherVotes_13 : decode cX4_gatherVotes 13 = .ok (.iconst 1, 1) := by decide +kernel
theorem dX4_gatherVotes_14 : decode cX4_gatherVotes 14 = .ok (.istore_n 3, 1) := by decide +kernel
theorem dX4_gatherVotes_15 : decode cX4_gatherVotes 15 = .ok (.iconst 0, 1) := by decide +kernel
theorem dX4_gatherVotes_16 : decode cX4_gatherVotes 16 = .ok (.istore 4, 2) := by decide +kernel
theorem dX4_gatherVotes_18 : decode cX4_gatherVotes 18 = .ok (.iload 4, 2) := by decide +kernel
theorem dX4_gatherVotes_20 : decode cX4_gatherVotes 20 = .ok (.aload_n 0, 1) := by decide +kernel
theorem dX4_gatherVotes_21 : decode cX4_gatherVotes 21 = .ok (.getfield 22, 3) := by decide +kernel
theorem dX4_gatherVotes_24 : decode cX4_gatherVotes 24 = .ok (.if_icmp .ge 61, 3) := by decide +kernel
theorem dX4_gatherVotes_27 : decode cX4_gatherVotes 27 = .ok (.aload_n 0, 1) := by decide +kernel
theorem dX4_gatherVotes_28 : decode cX4_gatherVotes 28 = .ok (.iload_n 1, 1) := by decide +kernel
theorem dX4_gatherVotes_29 : decode cX4_gatherVotes 29 = .ok (.iload 4, 2) := by decide +kernel
theorem dX4_gatherVotes_31 : decode cX4_gatherVotes 31 = .ok (.invokevirtual 70, 3) := by decide +kernel
theorem dX4_gatherVotes_34 : decode cX4_gatherVotes 34 = .ok (.ifCond .eq 45, 3) := by decide +kernel
theorem dX4_gatherVotes_37 : decode cX4_gatherVotes 37 = .ok (.aload_n 0, 1) := by decide +kernel
theorem dX4_gatherVotes_38 : decode cX4_gatherVotes 38 = .ok (.getfield 11, 3) := by decide +kernel
theorem dX4_gatherVotes_41 : decode cX4_gatherVotes 41 = .ok (.iload 4, 2) := by decide +kernel
theorem dX4_gatherVotes_43 : decode cX4_gatherVotes 43 = .ok (.aaload, 1) := by decide +kernel
theorem dX4_gatherVotes_44 : decode cX4_gatherVotes 44 = .ok (.astore 5, 2) := by decide +kernel
theorem dX4_gatherVotes_46 : decode cX4_gatherVotes 46 = .ok (.aload 5, 2) := by decide +kernel
theorem dX4_gatherVotes_48 : decode cX4_gatherVotes 48 = .ok (.getfield 77, 3) := by decide +kernel
theorem dX4_gatherVotes_51 : decode cX4_gatherVotes 51 = .ok (.aload_n 2, 1) := by decide +kernel
theorem dX4_gatherVotes_52 : decode cX4_gatherVotes 52 = .ok (.getfield 77, 3) := by decide +kernel
theorem dX4_gatherVotes_55 : decode cX4_gatherVotes 55 = .ok (.if_icmp .le 14, 3) := by decide +kernel
theorem dX4_gatherVotes_58 : decode cX4_gatherVotes 58 = .ok (.aload_n 2, 1) := by decide +kernel
theorem dX4_gatherVotes_59 : decode cX4_gatherVotes 59 = .ok (.aload 5, 2) := by decide +kernel
theorem dX4_gatherVotes_61 : decode cX4_gatherVotes 61 = .ok (.getfield 77, 3) := by decide +kernel
theorem dX4_gatherVotes_64 : decode cX4_gatherVotes 64 = .ok (.invokevirtual 80, 3) := by decide +kernel
theorem dX4_gatherVotes_67 : decode cX4_gatherVotes 67 = .ok (.iconst 0, 1) := by decide +kernel
theorem dX4_gatherVotes_68 : decode cX4_gatherVotes 68 = .ok (.ireturn, 1) := by decide +kernel
theorem dX4_gatherVotes_69 : decode cX4_gatherVotes 69 = .ok (.iload_n 3, 1) := by decide +kernel
theorem dX4_gatherVotes_70 : decode cX4_gatherVotes 70 = .ok (.aload_n 0, 1) := by decide +kernel
theorem dX4_gatherVotes_71 : decode cX4_gatherVotes 71 = .ok (.aload 5, 2) := by decide +kernel
theorem dX4_gatherVotes_73 : decode cX4_gatherVotes 73 = .ok (.iload_n 1, 1) := by decide +kernel
theorem dX4_gatherVotes_74 : decode cX4_gatherVotes 74 = .ok (.invokevirtual 83, 3) := by decide +kernel
theorem dX4_gatherVotes_77 : decode cX4_gatherVotes 77 = .ok (.iadd, 1) := by decide +kernel
theorem dX4_gatherVotes_78 : decode cX4_gatherVotes 78 = .ok (.istore_n 3, 1) := by decide +kernel
theorem dX4_gatherVotes_79 : decode cX4_gatherVotes 79 = .ok (.iinc 4 1, 3) := by decide +kernel
theorem dX4_gatherVotes_82 : decode cX4_gatherVotes 82 = .ok (.goto (-64), 3) := by decide +kernel
theorem dX4_gatherVotes_85 : decode cX4_gatherVotes 85 = .ok (.aload_n 0, 1) := by decide +kernel
theorem dX4_gatherVotes_86 : decode cX4_gatherVotes 86 = .ok (.iload_n 3, 1) := by decide +kernel
theorem dX4_gatherVotes_87 : decode cX4_gatherVotes 87 = .ok (.invokevirtual 87, 3) := by decide +kernel
theorem dX4_gatherVotes_90 : decode cX4_gatherVotes 90 = .ok (.ifCond .eq 28, 3) := by decide +kernel
theorem dX4_gatherVotes_93 : decode cX4_gatherVotes 93 = .ok (.aload_n 2, 1) := by decide +kernel
theorem dX4_gatherVotes_94 : decode cX4_gatherVotes 94 = .ok (.iconst 2, 1) := by decide +kernel
theorem dX4_gatherVotes_95 : decode cX4_gatherVotes 95 = .ok (.putfield 90, 3) := by decide +kernel
theorem dX4_gatherVotes_98 : decode cX4_gatherVotes 98 = .ok (.aload_n 2, 1) := by decide +kernel
theorem dX4_gatherVotes_99 : decode cX4_gatherVotes 99 = .ok (.dup, 1) := by decide +kernel
theorem dX4_gatherVotes_100 : decode cX4_gatherVotes 100 = .ok (.getfield 93, 3) := by decide +kernel
theorem dX4_gatherVotes_103 : decode cX4_gatherVotes 103 = .ok (.iconst 1, 1) := by decide +kernel
theorem dX4_gatherVotes_104 : decode cX4_gatherVotes 104 = .ok (.iadd, 1) := by decide +kernel
theorem dX4_gatherVotes_105 : decode cX4_gatherVotes 105 = .ok (.putfield 93, 3) := by decide +kernel
theorem dX4_gatherVotes_108 : decode cX4_gatherVotes 108 = .ok (.aload_n 0, 1) := by decide +kernel
theorem dX4_gatherVotes_109 : decode cX4_gatherVotes 109 = .ok (.dup, 1) := by decide +kernel
theorem dX4_gatherVotes_110 : decode cX4_gatherVotes 110 = .ok (.getfield 32, 3) := by decide +kernel
theorem dX4_gatherVotes_113 : decode cX4_gatherVotes 113 = .ok (.iconst 1, 1) := by decide +kernel
theorem dX4_gatherVotes_114 : decode cX4_gatherVotes 114 = .ok (.iadd, 1) := by decide +kernel
theorem dX4_gatherVotes_115 : decode cX4_gatherVotes 115 = .ok (.putfield 32, 3) := by decide +kernel
theorem dX4_gatherVotes_118 : decode cX4_gatherVotes 118 = .ok (.iload_n 3, 1) := by decide +kernel
theorem dX4_gatherVotes_119 : decode cX4_gatherVotes 119 = .ok (.ireturn, 1) := by decide +kernel
theorem dX4_beginAsking_0 : decode cX4_beginAsking 0 = .ok (.aload_n 1, 1) := by decide +kernel
theorem dX4_beginAsking_1 : decode cX4_beginAsking 1 = .ok (.dup, 1) := by decide +kernel
theorem dX4_beginAsking_2 : decode cX4_beginAsking 2 = .ok (.getfield 77, 3) := by decide +kernel
theorem dX4_beginAsking_5 : decode cX4_beginAsking 5 = .ok (.iconst 1, 1) := by decide +kernel
theorem dX4_beginAsking_6 : decode cX4_beginAsking 6 = .ok (.iadd, 1) := by decide +kernel
theorem dX4_beginAsking_7 : decode cX4_beginAsking 7 = .ok (.putfield 77, 3) := by decide +kernel
theorem dX4_beginAsking_10 : decode cX4_beginAsking 10 = .ok (.aload_n 1, 1) := by decide +kernel
theorem dX4_beginAsking_11 : decode cX4_beginAsking 11 = .ok (.iconst 1, 1) := by decide +kernel
theorem dX4_beginAsking_12 : decode cX4_beginAsking 12 = .ok (.putfield 90, 3) := by decide +kernel
theorem dX4_beginAsking_15 : decode cX4_beginAsking 15 = .ok (.aload_n 1, 1) := by decide +kernel
theorem dX4_beginAsking_16 : decode cX4_beginAsking 16 = .ok (.iload_n 2, 1) := by decide +kernel
theorem dX4_beginAsking_17 : decode cX4_beginAsking 17 = .ok (.putfield 96, 3) := by decide +kernel
theorem dX4_beginAsking_20 : decode cX4_beginAsking 20 = .ok (.aload_n 1, 1) := by decide +kernel
theorem dX4_beginAsking_21 : decode cX4_beginAsking 21 = .ok (.iconst 0, 1) := by decide +kernel
theorem dX4_beginAsking_22 : decode cX4_beginAsking 22 = .ok (.putfield 99, 3) := by decide +kernel
theorem dX4_beginAsking_25 : decode cX4_beginAsking 25 = .ok (.aload_n 1, 1) := by decide +kernel
theorem dX4_beginAsking_26 : decode cX4_beginAsking 26 = .ok (.dup, 1) := by decide +kernel
theorem dX4_beginAsking_27 : decode cX4_beginAsking 27 = .ok (.getfield 102, 3) := by decide +kernel
theorem dX4_beginAsking_30 : decode cX4_beginAsking 30 = .ok (.iconst 1, 1) := by decide +kernel
theorem dX4_beginAsking_31 : decode cX4_beginAsking 31 = .ok (.iadd, 1) := by decide +kernel
theorem dX4_beginAsking_32 : decode cX4_beginAsking 32 = .ok (.putfield 102, 3) := by decide +kernel
theorem dX4_beginAsking_35 : decode cX4_beginAsking 35 = .ok (.aload_n 0, 1) := by decide +kernel
theorem dX4_beginAsking_36 : decode cX4_beginAsking 36 = .ok (.dup, 1) := by decide +kernel
theorem dX4_beginAsking_37 : decode cX4_beginAsking 37 = .ok (.getfield 29, 3) := by decide +kernel
theorem dX4_beginAsking_40 : decode cX4_beginAsking 40 = .ok (.iconst 1, 1) := by decide +kernel
theorem dX4_beginAsking_41 : decode cX4_beginAsking 41 = .ok (.iadd, 1) := by decide +kernel
theorem dX4_beginAsking_42 : decode cX4_beginAsking 42 = .ok (.putfield 29, 3) := by decide +kernel
theorem dX4_beginAsking_45 : decode cX4_beginAsking 45 = .ok (.aload_n 0, 1) := by decide +kernel
theorem dX4_beginAsking_46 : decode cX4_beginAsking 46 = .ok (.dup, 1) := by decide +kernel
theorem dX4_beginAsking_47 : decode cX4_beginAsking 47 = .ok (.getfield 44, 3) := by decide +kernel
theorem dX4_beginAsking_50 : decode cX4_beginAsking 50 = .ok (.iconst 1, 1) := by decide +kernel
theorem dX4_beginAsking_51 : decode cX4_beginAsking 51 = .ok (.iadd, 1) := by decide +kernel
theorem dX4_beginAsking_52 : decode cX4_beginAsking 52 = .ok (.putfield 44, 3) := by decide +kernel
theorem dX4_beginAsking_55 : decode cX4_beginAsking 55 = .ok (.return_, 1) := by decide +kernel
theorem dX4_letVote_0 : decode cX4_letVote 0 = .ok (.aload_n 0, 1) := by decide +kernel
theorem dX4_letVote_1 : decode cX4_letVote 1 = .ok (.getfield 11, 3) := by decide +kernel
theorem dX4_letVote_4 : decode cX4_letVote 4 = .ok (.iload_n 2, 1) := by decide +kernel
theorem dX4_letVote_5 : decode cX4_letVote 5 = .ok (.aaload, 1) := by decide +kernel
theorem dX4_letVote_6 : decode cX4_letVote 6 = .ok (.astore_n 3, 1) := by decide +kernel
theorem dX4_letVote_7 : decode cX4_letVote 7 = .ok (.aload_n 1, 1) := by decide +kernel
theorem dX4_letVote_8 : decode cX4_letVote 8 = .ok (.getfield 77, 3) := by decide +kernel
theorem dX4_letVote_11 : decode cX4_letVote 11 = .ok (.aload_n 3, 1) := by decide +kernel
theorem dX4_letVote_12 : decode cX4_letVote 12 = .ok (.getfield 77, 3) := by decide +kernel
theorem dX4_letVote_15 : decode cX4_letVote 15 = .ok (.if_icmp .ge 11, 3) := by decide +kernel
theorem dX4_letVote_18 : decode cX4_letVote 18 = .ok (.aload_n 1, 1) := by decide +kernel
theorem dX4_letVote_19 : decode cX4_letVote 19 = .ok (.aload_n 3, 1) := by decide +kernel
theorem dX4_letVote_20 : decode cX4_letVote 20 = .ok (.getfield 77, 3) := by decide +kernel
theorem dX4_letVote_23 : decode cX4_letVote 23 = .ok (.invokevirtual 80, 3) := by decide +kernel
theorem dX4_letVote_26 : decode cX4_letVote 26 = .ok (.aload_n 1, 1) := by decide +kernel
theorem dX4_letVote_27 : decode cX4_letVote 27 = .ok (.getfield 96, 3) := by decide +kernel
theorem dX4_letVote_30 : decode cX4_letVote 30 = .ok (.iconst (-1), 1) := by decide +kernel
theorem dX4_letVote_31 : decode cX4_letVote 31 = .ok (.if_icmp .eq 11, 3) := by decide +kernel
theorem dX4_letVote_34 : decode cX4_letVote 34 = .ok (.aload_n 1, 1) := by decide +kernel
theorem dX4_letVote_35 : decode cX4_letVote 35 = .ok (.getfield 96, 3) := by decide +kernel
theorem dX4_letVote_38 : decode cX4_letVote 38 = .ok (.iload_n 2, 1) := by decide +kernel
theorem dX4_letVote_39 : decode cX4_letVote 39 = .ok (.if_icmp .ne 7, 3) := by decide +kernel
theorem dX4_letVote_42 : decode cX4_letVote 42 = .ok (.iconst 1, 1) := by decide +kernel
theorem dX4_letVote_43 : decode cX4_letVote 43 = .ok (.goto 4, 3) := by decide +kernel
theorem dX4_letVote_46 : decode cX4_letVote 46 = .ok (.iconst 0, 1) := by decide +kernel
theorem dX4_letVote_47 : decode cX4_letVote 47 = .ok (.istore 4, 2) := by decide +kernel
theorem dX4_letVote_49 : decode cX4_letVote 49 = .ok (.iload 4, 2) := by decide +kernel
theorem dX4_letVote_51 : decode cX4_letVote 51 = .ok (.ifCond .eq 11, 3) := by decide +kernel
theorem dX4_letVote_54 : decode cX4_letVote 54 = .ok (.aload_n 1, 1) := by decide +kernel
theorem dX4_letVote_55 : decode cX4_letVote 55 = .ok (.aload_n 3, 1) := by decide +kernel
theorem dX4_letVote_56 : decode cX4_letVote 56 = .ok (.invokevirtual 105, 3) := by decide +kernel
theorem dX4_letVote_59 : decode cX4_letVote 59 = .ok (.ifCond .eq 5, 3) := by decide +kernel
theorem dX4_letVote_62 : decode cX4_letVote 62 = .ok (.iconst 0, 1) := by decide +kernel
theorem dX4_letVote_63 : decode cX4_letVote 63 = .ok (.ireturn, 1) := by decide +kernel
theorem dX4_letVote_64 : decode cX4_letVote 64 = .ok (.aload_n 1, 1) := by decide +kernel
theorem dX4_letVote_65 : decode cX4_letVote 65 = .ok (.iload_n 2, 1) := by decide +kernel
theorem dX4_letVote_66 : decode cX4_letVote 66 = .ok (.putfield 96, 3) := by decide +kernel
theorem dX4_letVote_69 : decode cX4_letVote 69 = .ok (.aload_n 1, 1) := by decide +kernel
theorem dX4_letVote_70 : decode cX4_letVote 70 = .ok (.iconst 0, 1) := by decide +kernel
theorem dX4_letVote_71 : decode cX4_letVote 71 = .ok (.putfield 99, 3) := by decide +kernel
theorem dX4_letVote_74 : decode cX4_letVote 74 = .ok (.aload_n 0, 1) := by decide +kernel
theorem dX4_letVote_75 : decode cX4_letVote 75 = .ok (.dup, 1) := by decide +kernel
theorem dX4_letVote_76 : decode cX4_letVote 76 = .ok (.getfield 44, 3) := by decide +kernel
theorem dX4_letVote_79 : decode cX4_letVote 79 = .ok (.iconst 1, 1) := by decide +kernel
theorem dX4_letVote_80 : decode cX4_letVote 80 = .ok (.iadd, 1) := by decide +kernel
theorem dX4_letVote_81 : decode cX4_letVote 81 = .ok (.putfield 44, 3) := by decide +kernel
theorem dX4_letVote_84 : decode cX4_letVote 84 = .ok (.iconst 1, 1) := by decide +kernel
theorem dX4_letVote_85 : decode cX4_letVote 85 = .ok (.ireturn, 1) := by decide +kernel
theorem dX4_wouldGrantVote_0 : decode cX4_wouldGrantVote 0 = .ok (.aload_n 0, 1) := by decide +kernel
theorem dX4_wouldGrantVote_1 : decode cX4_wouldGrantVote 1 = .ok (.getfield 11, 3) := by decide +kernel
theorem dX4_wouldGrantVote_4 : decode cX4_wouldGrantVote 4 = .ok (.iload_n 1, 1) := by decide +kernel
theorem dX4_wouldGrantVote_5 : decode cX4_wouldGrantVote 5 = .ok (.aaload, 1) := by decide +kernel
theorem dX4_wouldGrantVote_6 : decode cX4_wouldGrantVote 6 = .ok (.astore_n 3, 1) := by decide +kernel
theorem dX4_wouldGrantVote_7 : decode cX4_wouldGrantVote 7 = .ok (.aload_n 0, 1) := by decide +kernel
theorem dX4_wouldGrantVote_8 : decode cX4_wouldGrantVote 8 = .ok (.getfield 11, 3) := by decide +kernel
theorem dX4_wouldGrantVote_11 : decode cX4_wouldGrantVote 11 = .ok (.iload_n 2, 1) := by decide +kernel
theorem dX4_wouldGrantVote_12 : decode cX4_wouldGrantVote 12 = .ok (.aaload, 1) := by decide +kernel
theorem dX4_wouldGrantVote_13 : decode cX4_wouldGrantVote 13 = .ok (.astore 4, 2) := by decide +kernel
theorem dX4_wouldGrantVote_15 : decode cX4_wouldGrantVote 15 = .ok (.aload 4, 2) := by decide +kernel
theorem dX4_wouldGrantVote_17 : decode cX4_wouldGrantVote 17 = .ok (.getfield 77, 3) := by decide +kernel
theorem dX4_wouldGrantVote_20 : decode cX4_wouldGrantVote 20 = .ok (.iconst 1, 1) := by decide +kernel
theorem dX4_wouldGrantVote_21 : decode cX4_wouldGrantVote 21 = .ok (.iadd, 1) := by decide +kernel
theorem dX4_wouldGrantVote_22 : decode cX4_wouldGrantVote 22 = .ok (.istore 5, 2) := by decide +kernel
theorem dX4_wouldGrantVote_24 : decode cX4_wouldGrantVote 24 = .ok (.aload_n 3, 1) := by decide +kernel
theorem dX4_wouldGrantVote_25 : decode cX4_wouldGrantVote 25 = .ok (.getfield 77, 3) := by decide +kernel
theorem dX4_wouldGrantVote_28 : decode cX4_wouldGrantVote 28 = .ok (.iload 5, 2) := by decide +kernel
theorem dX4_wouldGrantVote_30 : decode cX4_wouldGrantVote 30 = .ok (.if_icmp .gt 12, 3) := by decide +kernel
theorem dX4_wouldGrantVote_33 : decode cX4_wouldGrantVote 33 = .ok (.aload_n 3, 1) := by decide +kernel
theorem dX4_wouldGrantVote_34 : decode cX4_wouldGrantVote 34 = .ok (.aload 4, 2) := by decide +kernel
theorem dX4_wouldGrantVote_36 : decode cX4_wouldGrantVote 36 = .ok (.invokevirtual 105, 3) := by decide +kernel
theorem dX4_wouldGrantVote_39 : decode cX4_wouldGrantVote 39 = .ok (.ifCond .eq 5, 3) := by decide +kernel
theorem dX4_wouldGrantVote_42 : decode cX4_wouldGrantVote 42 = .ok (.iconst 0, 1) := by decide +kernel
theorem dX4_wouldGrantVote_43 : decode cX4_wouldGrantVote 43 = .ok (.ireturn, 1) := by decide +kernel
theorem dX4_wouldGrantVote_44 : decode cX4_wouldGrantVote 44 = .ok (.aload_n 3, 1) := by decide +kernel
theorem dX4_wouldGrantVote_45 : decode cX4_wouldGrantVote 45 = .ok (.getfield 77, 3) := by decide +kernel
theorem dX4_wouldGrantVote_48 : decode cX4_wouldGrantVote 48 = .ok (.iload 5, 2) := by decide +kernel
theorem dX4_wouldGrantVote_50 : decode cX4_wouldGrantVote 50 = .ok (.if_icmp .lt 19, 3) := by decide +kernel
theorem dX4_wouldGrantVote_53 : decode cX4_wouldGrantVote 53 = .ok (.aload_n 3, 1) := by decide +kernel
theorem dX4_wouldGrantVote_54 : decode cX4_wouldGrantVote 54 = .ok (.getfield 96, 3) := by decide +kernel
theorem dX4_wouldGrantVote_57 : decode cX4_wouldGrantVote 57 = .ok (.iconst (-1), 1) := by decide +kernel
theorem dX4_wouldGrantVote_58 : decode cX4_wouldGrantVote 58 = .ok (.if_icmp .eq 11, 3) := by decide +kernel
theorem dX4_wouldGrantVote_61 : decode cX4_wouldGrantVote 61 = .ok (.aload_n 3, 1) := by decide +kernel
theorem dX4_wouldGrantVote_62 : decode cX4_wouldGrantVote 62 = .ok (.getfield 96, 3) := by decide +kernel
theorem dX4_wouldGrantVote_65 : decode cX4_wouldGrantVote 65 = .ok (.iload_n 2, 1) := by decide +kernel
theorem dX4_wouldGrantVote_66 : decode cX4_wouldGrantVote 66 = .ok (.if_icmp .ne 7, 3) := by decide +kernel
theorem dX4_wouldGrantVote_69 : decode cX4_wouldGrantVote 69 = .ok (.iconst 1, 1) := by decide +kernel
theorem dX4_wouldGrantVote_70 : decode cX4_wouldGrantVote 70 = .ok (.goto 4, 3) := by decide +kernel
theorem dX4_wouldGrantVote_73 : decode cX4_wouldGrantVote 73 = .ok (.iconst 0, 1) := by decide +kernel
theorem dX4_wouldGrantVote_74 : decode cX4_wouldGrantVote 74 = .ok (.ireturn, 1) := by decide +kernel
theorem dX4_votesToGet_0 : decode cX4_votesToGet 0 = .ok (.aload_n 0, 1) := by decide +kernel
theorem dX4_votesToGet_1 : decode cX4_votesToGet 1 = .ok (.getfield 11, 3) := by decide +kernel
theorem dX4_votesToGet_4 : decode cX4_votesToGet 4 = .ok (.iload_n 1, 1) := by decide +kernel
theorem dX4_votesToGet_5 : decode cX4_votesToGet 5 = .ok (.aaload, 1) := by decide +kernel
theorem dX4_votesToGet_6 : decode cX4_votesToGet 6 = .ok (.getfield 77, 3) := by decide +kernel
theorem dX4_votesToGet_9 : decode cX4_votesToGet 9 = .ok (.iconst 1, 1) := by decide +kernel
theorem dX4_votesToGet_10 : decode cX4_votesToGet 10 = .ok (.iadd, 1) := by decide +kernel
theorem dX4_votesToGet_11 : decode cX4_votesToGet 11 = .ok (.istore_n 2, 1) := by decide +kernel
theorem dX4_votesToGet_12 : decode cX4_votesToGet 12 = .ok (.iconst 1, 1) := by decide +kernel
theorem dX4_votesToGet_13 : decode cX4_votesToGet 13 = .ok (.istore_n 3, 1) := by decide +kernel
theorem dX4_votesToGet_14 : decode cX4_votesToGet 14 = .ok (.iconst 0, 1) := by decide +kernel
theorem dX4_votesToGet_15 : decode cX4_votesToGet 15 = .ok (.istore 4, 2) := by decide +kernel
theorem dX4_votesToGet_17 : decode cX4_votesToGet 17 = .ok (.iload 4, 2) := by decide +kernel
theorem dX4_votesToGet_19 : decode cX4_votesToGet 19 = .ok (.aload_n 0, 1) := by decide +kernel
theorem dX4_votesToGet_20 : decode cX4_votesToGet 20 = .ok (.getfield 22, 3) := by decide +kernel
theorem dX4_votesToGet_23 : decode cX4_votesToGet 23 = .ok (.if_icmp .ge 48, 3) := by decide +kernel
theorem dX4_votesToGet_26 : decode cX4_votesToGet 26 = .ok (.aload_n 0, 1) := by decide +kernel
theorem dX4_votesToGet_27 : decode cX4_votesToGet 27 = .ok (.iload_n 1, 1) := by decide +kernel
theorem dX4_votesToGet_28 : decode cX4_votesToGet 28 = .ok (.iload 4, 2) := by decide +kernel
theorem dX4_votesToGet_30 : decode cX4_votesToGet 30 = .ok (.invokevirtual 70, 3) := by decide +kernel
theorem dX4_votesToGet_33 : decode cX4_votesToGet 33 = .ok (.ifCond .eq 32, 3) := by decide +kernel
theorem dX4_votesToGet_36 : decode cX4_votesToGet 36 = .ok (.aload_n 0, 1) := by decide +kernel
theorem dX4_votesToGet_37 : decode cX4_votesToGet 37 = .ok (.getfield 11, 3) := by decide +kernel
theorem dX4_votesToGet_40 : decode cX4_votesToGet 40 = .ok (.iload 4, 2) := by decide +kernel
theorem dX4_votesToGet_42 : decode cX4_votesToGet 42 = .ok (.aaload, 1) := by decide +kernel
theorem dX4_votesToGet_43 : decode cX4_votesToGet 43 = .ok (.getfield 77, 3) := by decide +kernel
theorem dX4_votesToGet_46 : decode cX4_votesToGet 46 = .ok (.iload_n 2, 1) := by decide +kernel
theorem dX4_votesToGet_47 : decode cX4_votesToGet 47 = .ok (.if_icmp .le 5, 3) := by decide +kernel
theorem dX4_votesToGet_50 : decode cX4_votesToGet 50 = .ok (.iconst 0, 1) := by decide +kernel
theorem dX4_votesToGet_51 : decode cX4_votesToGet 51 = .ok (.ireturn, 1) := by decide +kernel
theorem dX4_votesToGet_52 : decode cX4_votesToGet 52 = .ok (.aload_n 0, 1) := by decide +kernel
theorem dX4_votesToGet_53 : decode cX4_votesToGet 53 = .ok (.iload 4, 2) := by decide +kernel
theorem dX4_votesToGet_55 : decode cX4_votesToGet 55 = .ok (.iload_n 1, 1) := by decide +kernel
theorem dX4_votesToGet_56 : decode cX4_votesToGet 56 = .ok (.invokevirtual 109, 3) := by decide +kernel
theorem dX4_votesToGet_59 : decode cX4_votesToGet 59 = .ok (.ifCond .eq 6, 3) := by decide +kernel
theorem dX4_votesToGet_62 : decode cX4_votesToGet 62 = .ok (.iinc 3 1, 3) := by decide +kernel
theorem dX4_votesToGet_65 : decode cX4_votesToGet 65 = .ok (.iinc 4 1, 3) := by decide +kernel
theorem dX4_votesToGet_68 : decode cX4_votesToGet 68 = .ok (.goto (-51), 3) := by decide +kernel
theorem dX4_votesToGet_71 : decode cX4_votesToGet 71 = .ok (.iload_n 3, 1) := by decide +kernel
theorem dX4_votesToGet_72 : decode cX4_votesToGet 72 = .ok (.ireturn, 1) := by decide +kernel
theorem dX4_hasVoteOf_0 : decode cX4_hasVoteOf 0 = .ok (.aload_n 0, 1) := by decide +kernel
theorem dX4_hasVoteOf_1 : decode cX4_hasVoteOf 1 = .ok (.getfield 11, 3) := by decide +kernel
theorem dX4_hasVoteOf_4 : decode cX4_hasVoteOf 4 = .ok (.iload_n 2, 1) := by decide +kernel
theorem dX4_hasVoteOf_5 : decode cX4_hasVoteOf 5 = .ok (.aaload, 1) := by decide +kernel
theorem dX4_hasVoteOf_6 : decode cX4_hasVoteOf 6 = .ok (.getfield 77, 3) := by decide +kernel
theorem dX4_hasVoteOf_9 : decode cX4_hasVoteOf 9 = .ok (.aload_n 0, 1) := by decide +kernel
theorem dX4_hasVoteOf_10 : decode cX4_hasVoteOf 10 = .ok (.getfield 11, 3) := by decide +kernel
theorem dX4_hasVoteOf_13 : decode cX4_hasVoteOf 13 = .ok (.iload_n 1, 1) := by decide +kernel
theorem dX4_hasVoteOf_14 : decode cX4_hasVoteOf 14 = .ok (.aaload, 1) := by decide +kernel
theorem dX4_hasVoteOf_15 : decode cX4_hasVoteOf 15 = .ok (.getfield 77, 3) := by decide +kernel
theorem dX4_hasVoteOf_18 : decode cX4_hasVoteOf 18 = .ok (.if_icmp .ne 20, 3) := by decide +kernel
theorem dX4_hasVoteOf_21 : decode cX4_hasVoteOf 21 = .ok (.aload_n 0, 1) := by decide +kernel
theorem dX4_hasVoteOf_22 : decode cX4_hasVoteOf 22 = .ok (.getfield 11, 3) := by decide +kernel
theorem dX4_hasVoteOf_25 : decode cX4_hasVoteOf 25 = .ok (.iload_n 2, 1) := by decide +kernel
theorem dX4_hasVoteOf_26 : decode cX4_hasVoteOf 26 = .ok (.aaload, 1) := by decide +kernel
theorem dX4_hasVoteOf_27 : decode cX4_hasVoteOf 27 = .ok (.getfield 96, 3) := by decide +kernel
theorem dX4_hasVoteOf_30 : decode cX4_hasVoteOf 30 = .ok (.iload_n 1, 1) := by decide +kernel
theorem dX4_hasVoteOf_31 : decode cX4_hasVoteOf 31 = .ok (.if_icmp .ne 7, 3) := by decide +kernel
theorem dX4_hasVoteOf_34 : decode cX4_hasVoteOf 34 = .ok (.iconst 1, 1) := by decide +kernel
theorem dX4_hasVoteOf_35 : decode cX4_hasVoteOf 35 = .ok (.goto 4, 3) := by decide +kernel
theorem dX4_hasVoteOf_38 : decode cX4_hasVoteOf 38 = .ok (.iconst 0, 1) := by decide +kernel
theorem dX4_hasVoteOf_39 : decode cX4_hasVoteOf 39 = .ok (.ireturn, 1) := by decide +kernel
theorem dX4_sendFrom_0 : decode cX4_sendFrom 0 = .ok (.aload_n 0, 1) := by decide +kernel
theorem dX4_sendFrom_1 : decode cX4_sendFrom 1 = .ok (.getfield 11, 3) := by decide +kernel
theorem dX4_sendFrom_4 : decode cX4_sendFrom 4 = .ok (.iload_n 1, 1) := by decide +kernel
theorem dX4_sendFrom_5 : decode cX4_sendFrom 5 = .ok (.aaload, 1) := by decide +kernel
theorem dX4_sendFrom_6 : decode cX4_sendFrom 6 = .ok (.astore_n 2, 1) := by decide +kernel
theorem dX4_sendFrom_7 : decode cX4_sendFrom 7 = .ok (.aload_n 0, 1) := by decide +kernel
theorem dX4_sendFrom_8 : decode cX4_sendFrom 8 = .ok (.dup, 1) := by decide +kernel
theorem dX4_sendFrom_9 : decode cX4_sendFrom 9 = .ok (.getfield 41, 3) := by decide +kernel
theorem dX4_sendFrom_12 : decode cX4_sendFrom 12 = .ok (.iconst 1, 1) := by decide +kernel
theorem dX4_sendFrom_13 : decode cX4_sendFrom 13 = .ok (.iadd, 1) := by decide +kernel
theorem dX4_sendFrom_14 : decode cX4_sendFrom 14 = .ok (.putfield 41, 3) := by decide +kernel
theorem dX4_sendFrom_17 : decode cX4_sendFrom 17 = .ok (.iconst 1, 1) := by decide +kernel
theorem dX4_sendFrom_18 : decode cX4_sendFrom 18 = .ok (.istore_n 3, 1) := by decide +kernel
theorem dX4_sendFrom_19 : decode cX4_sendFrom 19 = .ok (.iconst 0, 1) := by decide +kernel
theorem dX4_sendFrom_20 : decode cX4_sendFrom 20 = .ok (.istore 4, 2) := by decide +kernel
theorem dX4_sendFrom_22 : decode cX4_sendFrom 22 = .ok (.iload 4, 2) := by decide +kernel
theorem dX4_sendFrom_24 : decode cX4_sendFrom 24 = .ok (.aload_n 0, 1) := by decide +kernel
theorem dX4_sendFrom_25 : decode cX4_sendFrom 25 = .ok (.getfield 22, 3) := by decide +kernel
theorem dX4_sendFrom_28 : decode cX4_sendFrom 28 = .ok (.if_icmp .ge 69, 3) := by decide +kernel
theorem dX4_sendFrom_31 : decode cX4_sendFrom 31 = .ok (.aload_n 0, 1) := by decide +kernel
theorem dX4_sendFrom_32 : decode cX4_sendFrom 32 = .ok (.iload_n 1, 1) := by decide +kernel
theorem dX4_sendFrom_33 : decode cX4_sendFrom 33 = .ok (.iload 4, 2) := by decide +kernel
theorem dX4_sendFrom_35 : decode cX4_sendFrom 35 = .ok (.invokevirtual 70, 3) := by decide +kernel
theorem dX4_sendFrom_38 : decode cX4_sendFrom 38 = .ok (.ifCond .eq 53, 3) := by decide +kernel
theorem dX4_sendFrom_41 : decode cX4_sendFrom 41 = .ok (.aload_n 0, 1) := by decide +kernel
theorem dX4_sendFrom_42 : decode cX4_sendFrom 42 = .ok (.getfield 11, 3) := by decide +kernel
theorem dX4_sendFrom_45 : decode cX4_sendFrom 45 = .ok (.iload 4, 2) := by decide +kernel
theorem dX4_sendFrom_47 : decode cX4_sendFrom 47 = .ok (.aaload, 1) := by decide +kernel
theorem dX4_sendFrom_48 : decode cX4_sendFrom 48 = .ok (.astore 5, 2) := by decide +kernel
theorem dX4_sendFrom_50 : decode cX4_sendFrom 50 = .ok (.aload 5, 2) := by decide +kernel
theorem dX4_sendFrom_52 : decode cX4_sendFrom 52 = .ok (.getfield 77, 3) := by decide +kernel
theorem dX4_sendFrom_55 : decode cX4_sendFrom 55 = .ok (.aload_n 2, 1) := by decide +kernel
theorem dX4_sendFrom_56 : decode cX4_sendFrom 56 = .ok (.getfield 77, 3) := by decide +kernel
theorem dX4_sendFrom_59 : decode cX4_sendFrom 59 = .ok (.if_icmp .le 14, 3) := by decide +kernel
theorem dX4_sendFrom_62 : decode cX4_sendFrom 62 = .ok (.aload_n 2, 1) := by decide +kernel
theorem dX4_sendFrom_63 : decode cX4_sendFrom 63 = .ok (.aload 5, 2) := by decide +kernel
theorem dX4_sendFrom_65 : decode cX4_sendFrom 65 = .ok (.getfield 77, 3) := by decide +kernel
theorem dX4_sendFrom_68 : decode cX4_sendFrom 68 = .ok (.invokevirtual 80, 3) := by decide +kernel
theorem dX4_sendFrom_71 : decode cX4_sendFrom 71 = .ok (.iconst 0, 1) := by decide +kernel
theorem dX4_sendFrom_72 : decode cX4_sendFrom 72 = .ok (.ireturn, 1) := by decide +kernel
theorem dX4_sendFrom_73 : decode cX4_sendFrom 73 = .ok (.aload_n 0, 1) := by decide +kernel
theorem dX4_sendFrom_74 : decode cX4_sendFrom 74 = .ok (.dup, 1) := by decide +kernel
theorem dX4_sendFrom_75 : decode cX4_sendFrom 75 = .ok (.getfield 38, 3) := by decide +kernel
theorem dX4_sendFrom_78 : decode cX4_sendFrom 78 = .ok (.aload 5, 2) := by decide +kernel
theorem dX4_sendFrom_80 : decode cX4_sendFrom 80 = .ok (.aload_n 2, 1) := by decide +kernel
theorem dX4_sendFrom_81 : decode cX4_sendFrom 81 = .ok (.invokevirtual 112, 3) := by decide +kernel
theorem dX4_sendFrom_84 : decode cX4_sendFrom 84 = .ok (.iadd, 1) := by decide +kernel
theorem dX4_sendFrom_85 : decode cX4_sendFrom 85 = .ok (.putfield 38, 3) := by decide +kernel
theorem dX4_sendFrom_88 : decode cX4_sendFrom 88 = .ok (.iinc 3 1, 3) := by decide +kernel
theorem dX4_sendFrom_91 : decode cX4_sendFrom 91 = .ok (.iinc 4 1, 3) := by decide +kernel
theorem dX4_sendFrom_94 : decode cX4_sendFrom 94 = .ok (.goto (-72), 3) := by decide +kernel
theorem dX4_sendFrom_97 : decode cX4_sendFrom 97 = .ok (.aload_n 0, 1) := by decide +kernel
theorem dX4_sendFrom_98 : decode cX4_sendFrom 98 = .ok (.iload_n 3, 1) := by decide +kernel
theorem dX4_sendFrom_99 : decode cX4_sendFrom 99 = .ok (.invokevirtual 87, 3) := by decide +kernel
theorem dX4_sendFrom_102 : decode cX4_sendFrom 102 = .ok (.ifCond .eq 7, 3) := by decide +kernel
theorem dX4_sendFrom_105 : decode cX4_sendFrom 105 = .ok (.aload_n 2, 1) := by decide +kernel
theorem dX4_sendFrom_106 : decode cX4_sendFrom 106 = .ok (.invokevirtual 116, 3) := by decide +kernel
theorem dX4_sendFrom_109 : decode cX4_sendFrom 109 = .ok (.iload_n 3, 1) := by decide +kernel
theorem dX4_sendFrom_110 : decode cX4_sendFrom 110 = .ok (.ireturn, 1) := by decide +kernel
theorem dX4_passBeats_0 : decode cX4_passBeats 0 = .ok (.aload_n 0, 1) := by decide +kernel
theorem dX4_passBeats_1 : decode cX4_passBeats 1 = .ok (.getfield 29, 3) := by decide +kernel
theorem dX4_passBeats_4 : decode cX4_passBeats 4 = .ok (.istore_n 2, 1) := by decide +kernel
theorem dX4_passBeats_5 : decode cX4_passBeats 5 = .ok (.iconst 0, 1) := by decide +kernel
theorem dX4_passBeats_6 : decode cX4_passBeats 6 = .ok (.istore_n 3, 1) := by decide +kernel
theorem dX4_passBeats_7 : decode cX4_passBeats 7 = .ok (.iload_n 3, 1) := by decide +kernel
theorem dX4_passBeats_8 : decode cX4_passBeats 8 = .ok (.iload_n 1, 1) := by decide +kernel
theorem dX4_passBeats_9 : decode cX4_passBeats 9 = .ok (.if_icmp .ge 80, 3) := by decide +kernel
theorem dX4_passBeats_12 : decode cX4_passBeats 12 = .ok (.iconst 0, 1) := by decide +kernel
theorem dX4_passBeats_13 : decode cX4_passBeats 13 = .ok (.istore 4, 2) := by decide +kernel
theorem dX4_passBeats_15 : decode cX4_passBeats 15 = .ok (.iload 4, 2) := by decide +kernel
theorem dX4_passBeats_17 : decode cX4_passBeats 17 = .ok (.aload_n 0, 1) := by decide +kernel
theorem dX4_passBeats_18 : decode cX4_passBeats 18 = .ok (.getfield 22, 3) := by decide +kernel
theorem dX4_passBeats_21 : decode cX4_passBeats 21 = .ok (.if_icmp .ge 52, 3) := by decide +kernel
theorem dX4_passBeats_24 : decode cX4_passBeats 24 = .ok (.aload_n 0, 1) := by decide +kernel
theorem dX4_passBeats_25 : decode cX4_passBeats 25 = .ok (.getfield 11, 3) := by decide +kernel
theorem dX4_passBeats_28 : decode cX4_passBeats 28 = .ok (.iload 4, 2) := by decide +kernel
theorem dX4_passBeats_30 : decode cX4_passBeats 30 = .ok (.aaload, 1) := by decide +kernel
theorem dX4_passBeats_31 : decode cX4_passBeats 31 = .ok (.invokevirtual 119, 3) := by decide +kernel
theorem dX4_passBeats_34 : decode cX4_passBeats 34 = .ok (.ifCond .eq 13, 3) := by decide +kernel
theorem dX4_passBeats_37 : decode cX4_passBeats 37 = .ok (.aload_n 0, 1) := by decide +kernel
theorem dX4_passBeats_38 : decode cX4_passBeats 38 = .ok (.iload 4, 2) := by decide +kernel
theorem dX4_passBeats_40 : decode cX4_passBeats 40 = .ok (.invokevirtual 123, 3) := by decide +kernel
theorem dX4_passBeats_43 : decode cX4_passBeats 43 = .ok (.pop, 1) := by decide +kernel
theorem dX4_passBeats_44 : decode cX4_passBeats 44 = .ok (.goto 23, 3) := by decide +kernel
theorem dX4_passBeats_47 : decode cX4_passBeats 47 = .ok (.aload_n 0, 1) := by decide +kernel
theorem dX4_passBeats_48 : decode cX4_passBeats 48 = .ok (.getfield 11, 3) := by decide +kernel
theorem dX4_passBeats_51 : decode cX4_passBeats 51 = .ok (.iload 4, 2) := by decide +kernel
theorem dX4_passBeats_53 : decode cX4_passBeats 53 = .ok (.aaload, 1) := by decide +kernel
theorem dX4_passBeats_54 : decode cX4_passBeats 54 = .ok (.invokevirtual 127, 3) := by decide +kernel
theorem dX4_passBeats_57 : decode cX4_passBeats 57 = .ok (.ifCond .eq 10, 3) := by decide +kernel
theorem dX4_passBeats_60 : decode cX4_passBeats 60 = .ok (.aload_n 0, 1) := by decide +kernel
theorem dX4_passBeats_61 : decode cX4_passBeats 61 = .ok (.iload 4, 2) := by decide +kernel
theorem dX4_passBeats_63 : decode cX4_passBeats 63 = .ok (.invokevirtual 130, 3) := by decide +kernel
theorem dX4_passBeats_66 : decode cX4_passBeats 66 = .ok (.pop, 1) := by decide +kernel
theorem dX4_passBeats_67 : decode cX4_passBeats 67 = .ok (.iinc 4 1, 3) := by decide +kernel
theorem dX4_passBeats_70 : decode cX4_passBeats 70 = .ok (.goto (-55), 3) := by decide +kernel
theorem dX4_passBeats_73 : decode cX4_passBeats 73 = .ok (.aload_n 0, 1) := by decide +kernel
theorem dX4_passBeats_74 : decode cX4_passBeats 74 = .ok (.dup, 1) := by decide +kernel
theorem dX4_passBeats_75 : decode cX4_passBeats 75 = .ok (.getfield 26, 3) := by decide +kernel
theorem dX4_passBeats_78 : decode cX4_passBeats 78 = .ok (.iconst 1, 1) := by decide +kernel
theorem dX4_passBeats_79 : decode cX4_passBeats 79 = .ok (.iadd, 1) := by decide +kernel
theorem dX4_passBeats_80 : decode cX4_passBeats 80 = .ok (.putfield 26, 3) := by decide +kernel
theorem dX4_passBeats_83 : decode cX4_passBeats 83 = .ok (.iinc 3 1, 3) := by decide +kernel
theorem dX4_passBeats_86 : decode cX4_passBeats 86 = .ok (.goto (-79), 3) := by decide +kernel
theorem dX4_passBeats_89 : decode cX4_passBeats 89 = .ok (.aload_n 0, 1) := by decide +kernel
theorem dX4_passBeats_90 : decode cX4_passBeats 90 = .ok (.getfield 29, 3) := by decide +kernel
theorem dX4_passBeats_93 : decode cX4_passBeats 93 = .ok (.iload_n 2, 1) := by decide +kernel
theorem dX4_passBeats_94 : decode cX4_passBeats 94 = .ok (.isub, 1) := by decide +kernel
theorem dX4_passBeats_95 : decode cX4_passBeats 95 = .ok (.ireturn, 1) := by decide +kernel
theorem dX4_isConflict_0 : decode cX4_isConflict 0 = .ok (.aload_n 0, 1) := by decide +kernel
theorem dX4_isConflict_1 : decode cX4_isConflict 1 = .ok (.getfield 11, 3) := by decide +kernel
theorem dX4_isConflict_4 : decode cX4_isConflict 4 = .ok (.iload_n 1, 1) := by decide +kernel
theorem dX4_isConflict_5 : decode cX4_isConflict 5 = .ok (.aaload, 1) := by decide +kernel
theorem dX4_isConflict_6 : decode cX4_isConflict 6 = .ok (.getfield 55, 3) := by decide +kernel
theorem dX4_isConflict_9 : decode cX4_isConflict 9 = .ok (.aload_n 0, 1) := by decide +kernel
theorem dX4_isConflict_10 : decode cX4_isConflict 10 = .ok (.getfield 11, 3) := by decide +kernel
theorem dX4_isConflict_13 : decode cX4_isConflict 13 = .ok (.iload_n 2, 1) := by decide +kernel
theorem dX4_isConflict_14 : decode cX4_isConflict 14 = .ok (.aaload, 1) := by decide +kernel
theorem dX4_isConflict_15 : decode cX4_isConflict 15 = .ok (.getfield 55, 3) := by decide +kernel
theorem dX4_isConflict_18 : decode cX4_isConflict 18 = .ok (.invokestatic 133, 3) := by decide +kernel
theorem dX4_isConflict_21 : decode cX4_isConflict 21 = .ok (.istore_n 3, 1) := by decide +kernel
theorem dX4_isConflict_22 : decode cX4_isConflict 22 = .ok (.aload_n 0, 1) := by decide +kernel
theorem dX4_isConflict_23 : decode cX4_isConflict 23 = .ok (.getfield 11, 3) := by decide +kernel
theorem dX4_isConflict_26 : decode cX4_isConflict 26 = .ok (.iload_n 1, 1) := by decide +kernel
theorem dX4_isConflict_27 : decode cX4_isConflict 27 = .ok (.aaload, 1) := by decide +kernel
theorem dX4_isConflict_28 : decode cX4_isConflict 28 = .ok (.aload_n 0, 1) := by decide +kernel
theorem dX4_isConflict_29 : decode cX4_isConflict 29 = .ok (.getfield 11, 3) := by decide +kernel
theorem dX4_isConflict_32 : decode cX4_isConflict 32 = .ok (.iload_n 2, 1) := by decide +kernel
theorem dX4_isConflict_33 : decode cX4_isConflict 33 = .ok (.aaload, 1) := by decide +kernel
theorem dX4_isConflict_34 : decode cX4_isConflict 34 = .ok (.invokevirtual 139, 3) := by decide +kernel
theorem dX4_isConflict_37 : decode cX4_isConflict 37 = .ok (.iload_n 3, 1) := by decide +kernel
theorem dX4_isConflict_38 : decode cX4_isConflict 38 = .ok (.if_icmp .ge 7, 3) := by decide +kernel
theorem dX4_isConflict_41 : decode cX4_isConflict 41 = .ok (.iconst 1, 1) := by decide +kernel
theorem dX4_isConflict_42 : decode cX4_isConflict 42 = .ok (.goto 4, 3) := by decide +kernel
theorem dX4_isConflict_45 : decode cX4_isConflict 45 = .ok (.iconst 0, 1) := by decide +kernel
theorem dX4_isConflict_46 : decode cX4_isConflict 46 = .ok (.ireturn, 1) := by decide +kernel
theorem dX4_countRankedAhead_0 : decode cX4_countRankedAhead 0 = .ok (.iconst 0, 1) := by decide +kernel
theorem dX4_countRankedAhead_1 : decode cX4_countRankedAhead 1 = .ok (.istore_n 2, 1) := by decide +kernel
theorem dX4_countRankedAhead_2 : decode cX4_countRankedAhead 2 = .ok (.iconst 0, 1) := by decide +kernel
theorem dX4_countRankedAhead_3 : decode cX4_countRankedAhead 3 = .ok (.istore_n 3, 1) := by decide +kernel
theorem dX4_countRankedAhead_4 : decode cX4_countRankedAhead 4 = .ok (.iload_n 3, 1) := by decide +kernel
theorem dX4_countRankedAhead_5 : decode cX4_countRankedAhead 5 = .ok (.aload_n 0, 1) := by decide +kernel
theorem dX4_countRankedAhead_6 : decode cX4_countRankedAhead 6 = .ok (.getfield 22, 3) := by decide +kernel
theorem dX4_countRankedAhead_9 : decode cX4_countRankedAhead 9 = .ok (.if_icmp .ge 26, 3) := by decide +kernel
theorem dX4_countRankedAhead_12 : decode cX4_countRankedAhead 12 = .ok (.iload_n 3, 1) := by decide +kernel
theorem dX4_countRankedAhead_13 : decode cX4_countRankedAhead 13 = .ok (.iload_n 1, 1) := by decide +kernel
theorem dX4_countRankedAhead_14 : decode cX4_countRankedAhead 14 = .ok (.if_icmp .eq 15, 3) := by decide +kernel
theorem dX4_countRankedAhead_17 : decode cX4_countRankedAhead 17 = .ok (.aload_n 0, 1) := by decide +kernel
theorem dX4_countRankedAhead_18 : decode cX4_countRankedAhead 18 = .ok (.iload_n 3, 1) := by decide +kernel
theorem dX4_countRankedAhead_19 : decode cX4_countRankedAhead 19 = .ok (.iload_n 1, 1) := by decide +kernel
theorem dX4_countRankedAhead_20 : decode cX4_countRankedAhead 20 = .ok (.invokevirtual 142, 3) := by decide +kernel
theorem dX4_countRankedAhead_23 : decode cX4_countRankedAhead 23 = .ok (.ifCond .eq 6, 3) := by decide +kernel
theorem dX4_countRankedAhead_26 : decode cX4_countRankedAhead 26 = .ok (.iinc 2 1, 3) := by decide +kernel
theorem dX4_countRankedAhead_29 : decode cX4_countRankedAhead 29 = .ok (.iinc 3 1, 3) := by decide +kernel
theorem dX4_countRankedAhead_32 : decode cX4_countRankedAhead 32 = .ok (.goto (-28), 3) := by decide +kernel
theorem dX4_countRankedAhead_35 : decode cX4_countRankedAhead 35 = .ok (.iload_n 2, 1) := by decide +kernel
theorem dX4_countRankedAhead_36 : decode cX4_countRankedAhead 36 = .ok (.ireturn, 1) := by decide +kernel
theorem dX4_isRankedAhead_0 : decode cX4_isRankedAhead 0 = .ok (.aload_n 0, 1) := by decide +kernel
theorem dX4_isRankedAhead_1 : decode cX4_isRankedAhead 1 = .ok (.getfield 11, 3) := by decide +kernel
theorem dX4_isRankedAhead_4 : decode cX4_isRankedAhead 4 = .ok (.iload_n 1, 1) := by decide +kernel
theorem dX4_isRankedAhead_5 : decode cX4_isRankedAhead 5 = .ok (.aaload, 1) := by decide +kernel
theorem dX4_isRankedAhead_6 : decode cX4_isRankedAhead 6 = .ok (.astore_n 3, 1) := by decide +kernel
theorem dX4_isRankedAhead_7 : decode cX4_isRankedAhead 7 = .ok (.aload_n 0, 1) := by decide +kernel
theorem dX4_isRankedAhead_8 : decode cX4_isRankedAhead 8 = .ok (.getfield 11, 3) := by decide +kernel
theorem dX4_isRankedAhead_11 : decode cX4_isRankedAhead 11 = .ok (.iload_n 2, 1) := by decide +kernel
theorem dX4_isRankedAhead_12 : decode cX4_isRankedAhead 12 = .ok (.aaload, 1) := by decide +kernel
theorem dX4_isRankedAhead_13 : decode cX4_isRankedAhead 13 = .ok (.astore 4, 2) := by decide +kernel
theorem dX4_isRankedAhead_15 : decode cX4_isRankedAhead 15 = .ok (.aload_n 3, 1) := by decide +kernel
theorem dX4_isRankedAhead_16 : decode cX4_isRankedAhead 16 = .ok (.aload 4, 2) := by decide +kernel
theorem dX4_isRankedAhead_18 : decode cX4_isRankedAhead 18 = .ok (.invokevirtual 105, 3) := by decide +kernel
theorem dX4_isRankedAhead_21 : decode cX4_isRankedAhead 21 = .ok (.ifCond .eq 5, 3) := by decide +kernel
theorem dX4_isRankedAhead_24 : decode cX4_isRankedAhead 24 = .ok (.iconst 1, 1) := by decide +kernel
theorem dX4_isRankedAhead_25 : decode cX4_isRankedAhead 25 = .ok (.ireturn, 1) := by decide +kernel
theorem dX4_isRankedAhead_26 : decode cX4_isRankedAhead 26 = .ok (.aload 4, 2) := by decide +kernel
theorem dX4_isRankedAhead_28 : decode cX4_isRankedAhead 28 = .ok (.aload_n 3, 1) := by decide +kernel
theorem dX4_isRankedAhead_29 : decode cX4_isRankedAhead 29 = .ok (.invokevirtual 105, 3) := by decide +kernel
theorem dX4_isRankedAhead_32 : decode cX4_isRankedAhead 32 = .ok (.ifCond .eq 5, 3) := by decide +kernel
theorem dX4_isRankedAhead_35 : decode cX4_isRankedAhead 35 = .ok (.iconst 0, 1) := by decide +kernel
theorem dX4_isRankedAhead_36 : decode cX4_isRankedAhead 36 = .ok (.ireturn, 1) := by decide +kernel
theorem dX4_isRankedAhead_37 : decode cX4_isRankedAhead 37 = .ok (.aload_n 3, 1) := by decide +kernel
theorem dX4_isRankedAhead_38 : decode cX4_isRankedAhead 38 = .ok (.getfield 77, 3) := by decide +kernel
theorem dX4_isRankedAhead_41 : decode cX4_isRankedAhead 41 = .ok (.aload 4, 2) := by decide +kernel
theorem dX4_isRankedAhead_43 : decode cX4_isRankedAhead 43 = .ok (.getfield 77, 3) := by decide +kernel
theorem dX4_isRankedAhead_46 : decode cX4_isRankedAhead 46 = .ok (.if_icmp .ne 16, 3) := by decide +kernel
theorem dX4_isRankedAhead_49 : decode cX4_isRankedAhead 49 = .ok (.iload_n 1, 1) := by decide +kernel
theorem dX4_isRankedAhead_50 : decode cX4_isRankedAhead 50 = .ok (.iload_n 2, 1) := by decide +kernel
theorem dX4_isRankedAhead_51 : decode cX4_isRankedAhead 51 = .ok (.if_icmp .ge 7, 3) := by decide +kernel
theorem dX4_isRankedAhead_54 : decode cX4_isRankedAhead 54 = .ok (.iconst 1, 1) := by decide +kernel
theorem dX4_isRankedAhead_55 : decode cX4_isRankedAhead 55 = .ok (.goto 24, 3) := by decide +kernel
theorem dX4_isRankedAhead_58 : decode cX4_isRankedAhead 58 = .ok (.iconst 0, 1) := by decide +kernel
theorem dX4_isRankedAhead_59 : decode cX4_isRankedAhead 59 = .ok (.goto 20, 3) := by decide +kernel
theorem dX4_isRankedAhead_62 : decode cX4_isRankedAhead 62 = .ok (.aload_n 3, 1) := by decide +kernel
theorem dX4_isRankedAhead_63 : decode cX4_isRankedAhead 63 = .ok (.getfield 77, 3) := by decide +kernel
theorem dX4_isRankedAhead_66 : decode cX4_isRankedAhead 66 = .ok (.aload 4, 2) := by decide +kernel
theorem dX4_isRankedAhead_68 : decode cX4_isRankedAhead 68 = .ok (.getfield 77, 3) := by decide +kernel
theorem dX4_isRankedAhead_71 : decode cX4_isRankedAhead 71 = .ok (.if_icmp .le 7, 3) := by decide +kernel
theorem dX4_isRankedAhead_74 : decode cX4_isRankedAhead 74 = .ok (.iconst 1, 1) := by decide +kernel
theorem dX4_isRankedAhead_75 : decode cX4_isRankedAhead 75 = .ok (.goto 4, 3) := by decide +kernel
theorem dX4_isRankedAhead_78 : decode cX4_isRankedAhead 78 = .ok (.iconst 0, 1) := by decide +kernel
theorem dX4_isRankedAhead_79 : decode cX4_isRankedAhead 79 = .ok (.ireturn, 1) := by decide +kernel
theorem dX4_countAskingAhead_0 : decode cX4_countAskingAhead 0 = .ok (.iconst 0, 1) := by decide +kernel
theorem dX4_countAskingAhead_1 : decode cX4_countAskingAhead 1 = .ok (.istore_n 2, 1) := by decide +kernel
theorem dX4_countAskingAhead_2 : decode cX4_countAskingAhead 2 = .ok (.aload_n 0, 1) := by decide +kernel
theorem dX4_countAskingAhead_3 : decode cX4_countAskingAhead 3 = .ok (.getfield 11, 3) := by decide +kernel
theorem dX4_countAskingAhead_6 : decode cX4_countAskingAhead 6 = .ok (.iload_n 1, 1) := by decide +kernel
theorem dX4_countAskingAhead_7 : decode cX4_countAskingAhead 7 = .ok (.aaload, 1) := by decide +kernel
theorem dX4_countAskingAhead_8 : decode cX4_countAskingAhead 8 = .ok (.invokevirtual 145, 3) := by decide +kernel
theorem dX4_countAskingAhead_11 : decode cX4_countAskingAhead 11 = .ok (.istore_n 3, 1) := by decide +kernel
theorem dX4_countAskingAhead_12 : decode cX4_countAskingAhead 12 = .ok (.iconst 0, 1) := by decide +kernel
theorem dX4_countAskingAhead_13 : decode cX4_countAskingAhead 13 = .ok (.istore 4, 2) := by decide +kernel
theorem dX4_countAskingAhead_15 : decode cX4_countAskingAhead 15 = .ok (.iload 4, 2) := by decide +kernel
theorem dX4_countAskingAhead_17 : decode cX4_countAskingAhead 17 = .ok (.aload_n 0, 1) := by decide +kernel
theorem dX4_countAskingAhead_18 : decode cX4_countAskingAhead 18 = .ok (.getfield 22, 3) := by decide +kernel
theorem dX4_countAskingAhead_21 : decode cX4_countAskingAhead 21 = .ok (.if_icmp .ge 75, 3) := by decide +kernel
theorem dX4_countAskingAhead_24 : decode cX4_countAskingAhead 24 = .ok (.aload_n 0, 1) := by decide +kernel
theorem dX4_countAskingAhead_25 : decode cX4_countAskingAhead 25 = .ok (.getfield 11, 3) := by decide +kernel
theorem dX4_countAskingAhead_28 : decode cX4_countAskingAhead 28 = .ok (.iload 4, 2) := by decide +kernel
theorem dX4_countAskingAhead_30 : decode cX4_countAskingAhead 30 = .ok (.aaload, 1) := by decide +kernel
theorem dX4_countAskingAhead_31 : decode cX4_countAskingAhead 31 = .ok (.invokevirtual 145, 3) := by decide +kernel
theorem dX4_countAskingAhead_34 : decode cX4_countAskingAhead 34 = .ok (.istore 5, 2) := by decide +kernel
theorem dX4_countAskingAhead_36 : decode cX4_countAskingAhead 36 = .ok (.iload 5, 2) := by decide +kernel
theorem dX4_countAskingAhead_38 : decode cX4_countAskingAhead 38 = .ok (.iload_n 3, 1) := by decide +kernel
theorem dX4_countAskingAhead_39 : decode cX4_countAskingAhead 39 = .ok (.if_icmp .ne 17, 3) := by decide +kernel
theorem dX4_countAskingAhead_42 : decode cX4_countAskingAhead 42 = .ok (.iload 4, 2) := by decide +kernel
theorem dX4_countAskingAhead_44 : decode cX4_countAskingAhead 44 = .ok (.iload_n 1, 1) := by decide +kernel
theorem dX4_countAskingAhead_45 : decode cX4_countAskingAhead 45 = .ok (.if_icmp .ge 7, 3) := by decide +kernel
theorem dX4_countAskingAhead_48 : decode cX4_countAskingAhead 48 = .ok (.iconst 1, 1) := by decide +kernel
theorem dX4_countAskingAhead_49 : decode cX4_countAskingAhead 49 = .ok (.goto 18, 3) := by decide +kernel
theorem dX4_countAskingAhead_52 : decode cX4_countAskingAhead 52 = .ok (.iconst 0, 1) := by decide +kernel
theorem dX4_countAskingAhead_53 : decode cX4_countAskingAhead 53 = .ok (.goto 14, 3) := by decide +kernel
theorem dX4_countAskingAhead_56 : decode cX4_countAskingAhead 56 = .ok (.iload 5, 2) := by decide +kernel
theorem dX4_countAskingAhead_58 : decode cX4_countAskingAhead 58 = .ok (.iload_n 3, 1) := by decide +kernel
theorem dX4_countAskingAhead_59 : decode cX4_countAskingAhead 59 = .ok (.if_icmp .ge 7, 3) := by decide +kernel
theorem dX4_countAskingAhead_62 : decode cX4_countAskingAhead 62 = .ok (.iconst 1, 1) := by decide +kernel
theorem dX4_countAskingAhead_63 : decode cX4_countAskingAhead 63 = .ok (.goto 4, 3) := by decide +kernel
theorem dX4_countAskingAhead_66 : decode cX4_countAskingAhead 66 = .ok (.iconst 0, 1) := by decide +kernel
theorem dX4_countAskingAhead_67 : decode cX4_countAskingAhead 67 = .ok (.istore 6, 2) := by decide +kernel
theorem dX4_countAskingAhead_69 : decode cX4_countAskingAhead 69 = .ok (.aload_n 0, 1) := by decide +kernel
theorem dX4_countAskingAhead_70 : decode cX4_countAskingAhead 70 = .ok (.getfield 11, 3) := by decide +kernel
theorem dX4_countAskingAhead_73 : decode cX4_countAskingAhead 73 = .ok (.iload 4, 2) := by decide +kernel
theorem dX4_countAskingAhead_75 : decode cX4_countAskingAhead 75 = .ok (.aaload, 1) := by decide +kernel
theorem dX4_countAskingAhead_76 : decode cX4_countAskingAhead 76 = .ok (.invokevirtual 149, 3) := by decide +kernel
theorem dX4_countAskingAhead_79 : decode cX4_countAskingAhead 79 = .ok (.ifCond .eq 11, 3) := by decide +kernel
theorem dX4_countAskingAhead_82 : decode cX4_countAskingAhead 82 = .ok (.iload 6, 2) := by decide +kernel
theorem dX4_countAskingAhead_84 : decode cX4_countAskingAhead 84 = .ok (.ifCond .eq 6, 3) := by decide +kernel
theorem dX4_countAskingAhead_87 : decode cX4_countAskingAhead 87 = .ok (.iinc 2 1, 3) := by decide +kernel
theorem dX4_countAskingAhead_90 : decode cX4_countAskingAhead 90 = .ok (.iinc 4 1, 3) := by decide +kernel
theorem dX4_countAskingAhead_93 : decode cX4_countAskingAhead 93 = .ok (.goto (-78), 3) := by decide +kernel
theorem dX4_countAskingAhead_96 : decode cX4_countAskingAhead 96 = .ok (.iload_n 2, 1) := by decide +kernel
theorem dX4_countAskingAhead_97 : decode cX4_countAskingAhead 97 = .ok (.ireturn, 1) := by decide +kernel
theorem dX4_countAboard_0 : decode cX4_countAboard 0 = .ok (.iconst 0, 1) := by decide +kernel
theorem dX4_countAboard_1 : decode cX4_countAboard 1 = .ok (.istore_n 1, 1) := by decide +kernel
theorem dX4_countAboard_2 : decode cX4_countAboard 2 = .ok (.iconst 0, 1) := by decide +kernel
theorem dX4_countAboard_3 : decode cX4_countAboard 3 = .ok (.istore_n 2, 1) := by decide +kernel
theorem dX4_countAboard_4 : decode cX4_countAboard 4 = .ok (.iload_n 2, 1) := by decide +kernel
theorem dX4_countAboard_5 : decode cX4_countAboard 5 = .ok (.aload_n 0, 1) := by decide +kernel
theorem dX4_countAboard_6 : decode cX4_countAboard 6 = .ok (.getfield 22, 3) := by decide +kernel
theorem dX4_countAboard_9 : decode cX4_countAboard 9 = .ok (.if_icmp .ge 24, 3) := by decide +kernel
theorem dX4_countAboard_12 : decode cX4_countAboard 12 = .ok (.aload_n 0, 1) := by decide +kernel
theorem dX4_countAboard_13 : decode cX4_countAboard 13 = .ok (.getfield 11, 3) := by decide +kernel
theorem dX4_countAboard_16 : decode cX4_countAboard 16 = .ok (.iload_n 2, 1) := by decide +kernel
theorem dX4_countAboard_17 : decode cX4_countAboard 17 = .ok (.aaload, 1) := by decide +kernel
theorem dX4_countAboard_18 : decode cX4_countAboard 18 = .ok (.getfield 62, 3) := by decide +kernel
theorem dX4_countAboard_21 : decode cX4_countAboard 21 = .ok (.ifCond .eq 6, 3) := by decide +kernel
theorem dX4_countAboard_24 : decode cX4_countAboard 24 = .ok (.iinc 1 1, 3) := by decide +kernel
theorem dX4_countAboard_27 : decode cX4_countAboard 27 = .ok (.iinc 2 1, 3) := by decide +kernel
theorem dX4_countAboard_30 : decode cX4_countAboard 30 = .ok (.goto (-26), 3) := by decide +kernel
theorem dX4_countAboard_33 : decode cX4_countAboard 33 = .ok (.iload_n 1, 1) := by decide +kernel
theorem dX4_countAboard_34 : decode cX4_countAboard 34 = .ok (.ireturn, 1) := by decide +kernel
theorem dX4_countLines_0 : decode cX4_countLines 0 = .ok (.iconst 0, 1) := by decide +kernel
theorem dX4_countLines_1 : decode cX4_countLines 1 = .ok (.istore_n 1, 1) := by decide +kernel
theorem dX4_countLines_2 : decode cX4_countLines 2 = .ok (.iconst 0, 1) := by decide +kernel
theorem dX4_countLines_3 : decode cX4_countLines 3 = .ok (.istore_n 2, 1) := by decide +kernel
theorem dX4_countLines_4 : decode cX4_countLines 4 = .ok (.iload_n 2, 1) := by decide +kernel
theorem dX4_countLines_5 : decode cX4_countLines 5 = .ok (.aload_n 0, 1) := by decide +kernel
theorem dX4_countLines_6 : decode cX4_countLines 6 = .ok (.getfield 22, 3) := by decide +kernel
theorem dX4_countLines_9 : decode cX4_countLines 9 = .ok (.if_icmp .ge 21, 3) := by decide +kernel
theorem dX4_countLines_12 : decode cX4_countLines 12 = .ok (.iload_n 1, 1) := by decide +kernel
theorem dX4_countLines_13 : decode cX4_countLines 13 = .ok (.aload_n 0, 1) := by decide +kernel
theorem dX4_countLines_14 : decode cX4_countLines 14 = .ok (.getfield 11, 3) := by decide +kernel
theorem dX4_countLines_17 : decode cX4_countLines 17 = .ok (.iload_n 2, 1) := by decide +kernel
theorem dX4_countLines_18 : decode cX4_countLines 18 = .ok (.aaload, 1) := by decide +kernel
theorem dX4_countLines_19 : decode cX4_countLines 19 = .ok (.getfield 55, 3) := by decide +kernel
theorem dX4_countLines_22 : decode cX4_countLines 22 = .ok (.iadd, 1) := by decide +kernel
theorem dX4_countLines_23 : decode cX4_countLines 23 = .ok (.istore_n 1, 1) := by decide +kernel
theorem dX4_countLines_24 : decode cX4_countLines 24 = .ok (.iinc 2 1, 3) := by decide +kernel
theorem dX4_countLines_27 : decode cX4_countLines 27 = .ok (.goto (-23), 3) := by decide +kernel
theorem dX4_countLines_30 : decode cX4_countLines 30 = .ok (.iload_n 1, 1) := by decide +kernel
theorem dX4_countLines_31 : decode cX4_countLines 31 = .ok (.ireturn, 1) := by decide +kernel
theorem dX4_countKnownLines_0 : decode cX4_countKnownLines 0 = .ok (.iconst 0, 1) := by decide +kernel
theorem dX4_countKnownLines_1 : decode cX4_countKnownLines 1 = .ok (.istore_n 1, 1) := by decide +kernel
theorem dX4_countKnownLines_2 : decode cX4_countKnownLines 2 = .ok (.iconst 0, 1) := by decide +kernel
theorem dX4_countKnownLines_3 : decode cX4_countKnownLines 3 = .ok (.istore_n 2, 1) := by decide +kernel
theorem dX4_countKnownLines_4 : decode cX4_countKnownLines 4 = .ok (.iload_n 2, 1) := by decide +kernel
theorem dX4_countKnownLines_5 : decode cX4_countKnownLines 5 = .ok (.aload_n 0, 1) := by decide +kernel
theorem dX4_countKnownLines_6 : decode cX4_countKnownLines 6 = .ok (.getfield 22, 3) := by decide +kernel
theorem dX4_countKnownLines_9 : decode cX4_countKnownLines 9 = .ok (.if_icmp .ge 21, 3) := by decide +kernel
theorem dX4_countKnownLines_12 : decode cX4_countKnownLines 12 = .ok (.iload_n 1, 1) := by decide +kernel
theorem dX4_countKnownLines_13 : decode cX4_countKnownLines 13 = .ok (.aload_n 0, 1) := by decide +kernel
theorem dX4_countKnownLines_14 : decode cX4_countKnownLines 14 = .ok (.getfield 11, 3) := by decide +kernel
theorem dX4_countKnownLines_17 : decode cX4_countKnownLines 17 = .ok (.iload_n 2, 1) := by decide +kernel
theorem dX4_countKnownLines_18 : decode cX4_countKnownLines 18 = .ok (.aaload, 1) := by decide +kernel
theorem dX4_countKnownLines_19 : decode cX4_countKnownLines 19 = .ok (.getfield 152, 3) := by decide +kernel
theorem dX4_countKnownLines_22 : decode cX4_countKnownLines 22 = .ok (.iadd, 1) := by decide +kernel
theorem dX4_countKnownLines_23 : decode cX4_countKnownLines 23 = .ok (.istore_n 1, 1) := by decide +kernel
theorem dX4_countKnownLines_24 : decode cX4_countKnownLines 24 = .ok (.iinc 2 1, 3) := by decide +kernel
theorem dX4_countKnownLines_27 : decode cX4_countKnownLines 27 = .ok (.goto (-23), 3) := by decide +kernel
theorem dX4_countKnownLines_30 : decode cX4_countKnownLines 30 = .ok (.iload_n 1, 1) := by decide +kernel
theorem dX4_countKnownLines_31 : decode cX4_countKnownLines 31 = .ok (.ireturn, 1) := by decide +kernel
theorem dX4_greatestTerm_0 : decode cX4_greatestTerm 0 = .ok (.iconst 0, 1) := by decide +kernel
theorem dX4_greatestTerm_1 : decode cX4_greatestTerm 1 = .ok (.istore_n 1, 1) := by decide +kernel
theorem dX4_greatestTerm_2 : decode cX4_greatestTerm 2 = .ok (.iconst 0, 1) := by decide +kernel
theorem dX4_greatestTerm_3 : decode cX4_greatestTerm 3 = .ok (.istore_n 2, 1) := by decide +kernel
theorem dX4_greatestTerm_4 : decode cX4_greatestTerm 4 = .ok (.iload_n 2, 1) := by decide +kernel
theorem dX4_greatestTerm_5 : decode cX4_greatestTerm 5 = .ok (.aload_n 0, 1) := by decide +kernel
theorem dX4_greatestTerm_6 : decode cX4_greatestTerm 6 = .ok (.getfield 22, 3) := by decide +kernel
theorem dX4_greatestTerm_9 : decode cX4_greatestTerm 9 = .ok (.if_icmp .ge 23, 3) := by decide +kernel
theorem dX4_greatestTerm_12 : decode cX4_greatestTerm 12 = .ok (.iload_n 1, 1) := by decide +kernel
theorem dX4_greatestTerm_13 : decode cX4_greatestTerm 13 = .ok (.aload_n 0, 1) := by decide +kernel
theorem dX4_greatestTerm_14 : decode cX4_greatestTerm 14 = .ok (.getfield 11, 3) := by decide +kernel
theorem dX4_greatestTerm_17 : decode cX4_greatestTerm 17 = .ok (.iload_n 2, 1) := by decide +kernel
theorem dX4_greatestTerm_18 : decode cX4_greatestTerm 18 = .ok (.aaload, 1) := by decide +kernel
theorem dX4_greatestTerm_19 : decode cX4_greatestTerm 19 = .ok (.getfield 77, 3) := by decide +kernel
theorem dX4_greatestTerm_22 : decode cX4_greatestTerm 22 = .ok (.invokestatic 155, 3) := by decide +kernel
theorem dX4_greatestTerm_25 : decode cX4_greatestTerm 25 = .ok (.istore_n 1, 1) := by decide +kernel
theorem dX4_greatestTerm_26 : decode cX4_greatestTerm 26 = .ok (.iinc 2 1, 3) := by decide +kernel
theorem dX4_greatestTerm_29 : decode cX4_greatestTerm 29 = .ok (.goto (-25), 3) := by decide +kernel
theorem dX4_greatestTerm_32 : decode cX4_greatestTerm 32 = .ok (.iload_n 1, 1) := by decide +kernel
theorem dX4_greatestTerm_33 : decode cX4_greatestTerm 33 = .ok (.ireturn, 1) := by decide +kernel
theorem dX5_init_0 : decode cX5_init 0 = .ok (.aload_n 0, 1) := by decide +kernel
theorem dX5_init_1 : decode cX5_init 1 = .ok (.invokespecial 1, 3) := by decide +kernel
theorem dX5_init_4 : decode cX5_init 4 = .ok (.return_, 1) := by decide +kernel
theorem dX5_put_0 : decode cX5_put 0 = .ok (.aload_n 0, 1) := by decide +kernel
theorem dX5_put_1 : decode cX5_put 1 = .ok (.iload_n 1, 1) := by decide +kernel
theorem dX5_put_2 : decode cX5_put 2 = .ok (.putfield 7, 3) := by decide +kernel
theorem dX5_put_5 : decode cX5_put 5 = .ok (.aload_n 0, 1) := by decide +kernel
theorem dX5_put_6 : decode cX5_put 6 = .ok (.iload_n 2, 1) := by decide +kernel
theorem dX5_put_7 : decode cX5_put 7 = .ok (.putfield 13, 3) := by decide +kernel
theorem dX5_put_10 : decode cX5_put 10 = .ok (.aload_n 0, 1) := by decide +kernel
theorem dX5_put_11 : decode cX5_put 11 = .ok (.iconst 0, 1) := by decide +kernel
theorem dX5_put_12 : decode cX5_put 12 = .ok (.putfield 16, 3) := by decide +kernel
theorem dX5_put_15 : decode cX5_put 15 = .ok (.aload_n 0, 1) := by decide +kernel
theorem dX5_put_16 : decode cX5_put 16 = .ok (.iconst 0, 1) := by decide +kernel
theorem dX5_put_17 : decode cX5_put 17 = .ok (.putfield 19, 3) := by decide +kernel
theorem dX5_put_20 : decode cX5_put 20 = .ok (.return_, 1) := by decide +kernel
theorem dX5_putAhead_0 : decode cX5_putAhead 0 = .ok (.aload_n 0, 1) := by decide +kernel
theorem dX5_putAhead_1 : decode cX5_putAhead 1 = .ok (.aload_n 0, 1) := by decide +kernel
theorem dX5_putAhead_2 : decode cX5_putAhead 2 = .ok (.getfield 7, 3) := by decide +kernel
theorem dX5_putAhead_5 : decode cX5_putAhead 5 = .ok (.putfield 16, 3) := by decide +kernel
theorem dX5_putAhead_8 : decode cX5_putAhead 8 = .ok (.aload_n 0, 1) := by decide +kernel
theorem dX5_putAhead_9 : decode cX5_putAhead 9 = .ok (.aload_n 0, 1) := by decide +kernel
theorem dX5_putAhead_10 : decode cX5_putAhead 10 = .ok (.getfield 13, 3) := by decide +kernel
theorem dX5_putAhead_13 : decode cX5_putAhead 13 = .ok (.putfield 19, 3) := by decide +kernel
theorem dX5_putAhead_16 : decode cX5_putAhead 16 = .ok (.aload_n 0, 1) := by decide +kernel
theorem dX5_putAhead_17 : decode cX5_putAhead 17 = .ok (.iload_n 1, 1) := by decide +kernel
theorem dX5_putAhead_18 : decode cX5_putAhead 18 = .ok (.putfield 7, 3) := by decide +kernel
theorem dX5_putAhead_21 : decode cX5_putAhead 21 = .ok (.aload_n 0, 1) := by decide +kernel
theorem dX5_putAhead_22 : decode cX5_putAhead 22 = .ok (.iload_n 2, 1) := by decide +kernel
theorem dX5_putAhead_23 : decode cX5_putAhead 23 = .ok (.putfield 13, 3) := by decide +kernel
theorem dX5_putAhead_26 : decode cX5_putAhead 26 = .ok (.return_, 1) := by decide +kernel
theorem dX6_init_0 : decode cX6_init 0 = .ok (.aload_n 0, 1) := by decide +kernel
theorem dX6_init_1 : decode cX6_init 1 = .ok (.invokespecial 3, 3) := by decide +kernel
theorem dX6_init_4 : decode cX6_init 4 = .ok (.aload_n 0, 1) := by decide +kernel
theorem dX6_init_5 : decode cX6_init 5 = .ok (.new 9, 3) := by decide +kernel
theorem dX6_init_8 : decode cX6_init 8 = .ok (.dup, 1) := by decide +kernel
theorem dX6_init_9 : decode cX6_init 9 = .ok (.invokespecial 11, 3) := by decide +kernel
theorem dX6_init_12 : decode cX6_init 12 = .ok (.putfield 12, 3) := by decide +kernel
theorem dX6_init_15 : decode cX6_init 15 = .ok (.aload_n 0, 1) := by decide +kernel
theorem dX6_init_16 : decode cX6_init 16 = .ok (.bipush 12, 2) := by decide +kernel
theorem dX6_init_18 : decode cX6_init 18 = .ok (.anewarray 18, 3) := by decide +kernel
theorem dX6_init_21 : decode cX6_init 21 = .ok (.putfield 20, 3) := by decide +kernel
theorem dX6_init_24 : decode cX6_init 24 = .ok (.iconst 0, 1) := by decide +kernel
theorem dX6_init_25 : decode cX6_init 25 = .ok (.istore_n 1, 1) := by decide +kernel
theorem dX6_init_26 : decode cX6_init 26 = .ok (.iload_n 1, 1) := by decide +kernel
theorem dX6_init_27 : decode cX6_init 27 = .ok (.aload_n 0, 1) := by decide +kernel
theorem dX6_init_28 : decode cX6_init 28 = .ok (.getfield 20, 3) := by decide +kernel
theorem dX6_init_31 : decode cX6_init 31 = .ok (.arraylength, 1) := by decide +kernel
theorem dX6_init_32 : decode cX6_init 32 = .ok (.if_icmp .ge 22, 3) := by decide +kernel
theorem dX6_init_35 : decode cX6_init 35 = .ok (.aload_n 0, 1) := by decide +kernel
theorem dX6_init_36 : decode cX6_init 36 = .ok (.getfield 20, 3) := by decide +kernel
theorem dX6_init_39 : decode cX6_init 39 = .ok (.iload_n 1, 1) := by decide +kernel
theorem dX6_init_40 : decode cX6_init 40 = .ok (.new 18, 3) := by decide +kernel
theorem dX6_init_43 : decode cX6_init 43 = .ok (.dup, 1) := by decide +kernel
theorem dX6_init_44 : decode cX6_init 44 = .ok (.invokespecial 24, 3) := by decide +kernel
theorem dX6_init_47 : decode cX6_init 47 = .ok (.aastore, 1) := by decide +kernel
theorem dX6_init_48 : decode cX6_init 48 = .ok (.iinc 1 1, 3) := by decide +kernel
theorem dX6_init_51 : decode cX6_init 51 = .ok (.goto (-25), 3) := by decide +kernel
theorem dX6_init_54 : decode cX6_init 54 = .ok (.return_, 1) := by decide +kernel
theorem dX6_size_0 : decode cX6_size 0 = .ok (.aload_n 0, 1) := by decide +kernel
theorem dX6_size_1 : decode cX6_size 1 = .ok (.getfield 12, 3) := by decide +kernel
theorem dX6_size_4 : decode cX6_size 4 = .ok (.invokevirtual 25, 3) := by decide +kernel
theorem dX6_size_7 : decode cX6_size 7 = .ok (.ireturn, 1) := by decide +kernel
theorem dX6_add_0 : decode cX6_add 0 = .ok (.iload_n 1, 1) := by decide +kernel
theorem dX6_add_1 : decode cX6_add 1 = .ok (.bipush 32, 2) := by decide +kernel
theorem dX6_add_3 : decode cX6_add 3 = .ok (.if_icmp .lt 21, 3) := by decide +kernel
theorem dX6_add_6 : decode cX6_add 6 = .ok (.iload_n 1, 1) := by decide +kernel
theorem dX6_add_7 : decode cX6_add 7 = .ok (.bipush 126, 2) := by decide +kernel
theorem dX6_add_9 : decode cX6_add 9 = .ok (.if_icmp .gt 15, 3) := by decide +kernel
theorem dX6_add_12 : decode cX6_add 12 = .ok (.aload_n 0, 1) := by decide +kernel
theorem dX6_add_13 : decode cX6_add 13 = .ok (.getfield 12, 3) := by decide +kernel
theorem dX6_add_16 : decode cX6_add 16 = .ok (.invokevirtual 25, 3) := by decide +kernel
theorem dX6_add_19 : decode cX6_add 19 = .ok (.bipush 60, 2) := by decide +kernel
theorem dX6_add_21 : decode cX6_add 21 = .ok (.if_icmp .lt 5, 3) := by decide +kernel
theorem dX6_add_24 : decode cX6_add 24 = .ok (.iconst 0, 1) := by decide +kernel
theorem dX6_add_25 : decode cX6_add 25 = .ok (.ireturn, 1) := by decide +kernel
theorem dX6_add_26 : decode cX6_add 26 = .ok (.aload_n 0, 1) := by decide +kernel
theorem dX6_add_27 : decode cX6_add 27 = .ok (.getfield 12, 3) := by decide +kernel
theorem dX6_add_30 : decode cX6_add 30 = .ok (.iload_n 1, 1) := by decide +kernel
theorem dX6_add_31 : decode cX6_add 31 = .ok (.invokevirtual 29, 3) := by decide +kernel
theorem dX6_add_34 : decode cX6_add 34 = .ok (.pop, 1) := by decide +kernel
theorem dX6_add_35 : decode cX6_add 35 = .ok (.iconst 1, 1) := by decide +kernel
theorem dX6_add_36 : decode cX6_add 36 = .ok (.ireturn, 1) := by decide +kernel
theorem dX6_empty_0 : decode cX6_empty 0 = .ok (.aload_n 0, 1) := by decide +kernel
theorem dX6_empty_1 : decode cX6_empty 1 = .ok (.getfield 12, 3) := by decide +kernel
theorem dX6_empty_4 : decode cX6_empty 4 = .ok (.iconst 0, 1) := by decide +kernel
theorem dX6_empty_5 : decode cX6_empty 5 = .ok (.invokevirtual 33, 3) := by decide +kernel
theorem dX6_empty_8 : decode cX6_empty 8 = .ok (.return_, 1) := by decide +kernel
theorem dX6_parse_0 : decode cX6_parse 0 = .ok (.aload_n 0, 1) := by decide +kernel
theorem dX6_parse_1 : decode cX6_parse 1 = .ok (.iconst 0, 1) := by decide +kernel
theorem dX6_parse_2 : decode cX6_parse 2 = .ok (.putfield 37, 3) := by decide +kernel
theorem dX6_parse_5 : decode cX6_parse 5 = .ok (.aload_n 0, 1) := by decide +kernel
theorem dX6_parse_6 : decode cX6_parse 6 = .ok (.iconst 0, 1) := by decide +kernel
theorem dX6_parse_7 : decode cX6_parse 7 = .ok (.putfield 41, 3) := by decide +kernel
theorem dX6_parse_10 : decode cX6_parse 10 = .ok (.aload_n 0, 1) := by decide +kernel
theorem dX6_parse_11 : decode cX6_parse 11 = .ok (.invokevirtual 44, 3) := by decide +kernel
theorem dX6_parse_14 : decode cX6_parse 14 = .ok (.istore_n 1, 1) := by decide +kernel
theorem dX6_parse_15 : decode cX6_parse 15 = .ok (.iconst 0, 1) := by decide +kernel
theorem dX6_parse_16 : decode cX6_parse 16 = .ok (.istore_n 2, 1) := by decide +kernel
theorem dX6_parse_17 : decode cX6_parse 17 = .ok (.iload_n 2, 1) := by decide +kernel
theorem dX6_parse_18 : decode cX6_parse 18 = .ok (.bipush 12, 2) := by decide +kernel
theorem dX6_parse_20 : decode cX6_parse 20 = .ok (.if_icmp .ge 49, 3) := by decide +kernel
theorem dX6_parse_23 : decode cX6_parse 23 = .ok (.iload_n 1, 1) := by decide +kernel
theorem dX6_parse_24 : decode cX6_parse 24 = .ok (.ifCond .eq 45, 3) := by decide +kernel
theorem dX6_parse_27 : decode cX6_parse 27 = .ok (.aload_n 0, 1) := by decide +kernel
theorem dX6_parse_28 : decode cX6_parse 28 = .ok (.getfield 41, 3) := by decide +kernel
theorem dX6_parse_31 : decode cX6_parse 31 = .ok (.aload_n 0, 1) := by decide +kernel
theorem dX6_parse_32 : decode cX6_parse 32 = .ok (.getfield 12, 3) := by decide +kernel
theorem dX6_parse_35 : decode cX6_parse 35 = .ok (.invokevirtual 25, 3) := by decide +kernel
theorem dX6_parse_38 : decode cX6_parse 38 = .ok (.if_icmp .ge 31, 3) := by decide +kernel
theorem dX6_parse_41 : decode cX6_parse 41 = .ok (.aload_n 0, 1) := by decide +kernel
theorem dX6_parse_42 : decode cX6_parse 42 = .ok (.bipush 59, 2) := by decide +kernel
theorem dX6_parse_44 : decode cX6_parse 44 = .ok (.invokevirtual 48, 3) := by decide +kernel
theorem dX6_parse_47 : decode cX6_parse 47 = .ok (.ifCond .eq 14, 3) := by decide +kernel
theorem dX6_parse_50 : decode cX6_parse 50 = .ok (.aload_n 0, 1) := by decide +kernel
theorem dX6_parse_51 : decode cX6_parse 51 = .ok (.invokevirtual 44, 3) := by decide +kernel
theorem dX6_parse_54 : decode cX6_parse 54 = .ok (.ifCond .eq 7, 3) := by decide +kernel
theorem dX6_parse_57 : decode cX6_parse 57 = .ok (.iconst 1, 1) := by decide +kernel
theorem dX6_parse_58 : decode cX6_parse 58 = .ok (.goto 4, 3) := by decide +kernel
theorem dX6_parse_61 : decode cX6_parse 61 = .ok (.iconst 0, 1) := by decide +kernel
theorem dX6_parse_62 : decode cX6_parse 62 = .ok (.istore_n 1, 1) := by decide +kernel
theorem dX6_parse_63 : decode cX6_parse 63 = .ok (.iinc 2 1, 3) := by decide +kernel
theorem dX6_parse_66 : decode cX6_parse 66 = .ok (.goto (-49), 3) := by decide +kernel
theorem dX6_parse_69 : decode cX6_parse 69 = .ok (.iload_n 1, 1) := by decide +kernel
theorem dX6_parse_70 : decode cX6_parse 70 = .ok (.ireturn, 1) := by decide +kernel
theorem dX6_takeCommand_0 : decode cX6_takeCommand 0 = .ok (.aload_n 0, 1) := by decide +kernel
theorem dX6_takeCommand_1 : decode cX6_takeCommand 1 = .ok (.invokevirtual 52, 3) := by decide +kernel
theorem dX6_takeCommand_4 : decode cX6_takeCommand 4 = .ok (.astore_n 1, 1) := by decide +kernel
theorem dX6_takeCommand_5 : decode cX6_takeCommand 5 = .ok (.aload_n 1, 1) := by decide +kernel
theorem dX6_takeCommand_6 : decode cX6_takeCommand 6 = .ok (.ifnull 15, 3) := by decide +kernel
theorem dX6_takeCommand_9 : decode cX6_takeCommand 9 = .ok (.aload_n 0, 1) := by decide +kernel
theorem dX6_takeCommand_10 : decode cX6_takeCommand 10 = .ok (.getfield 37, 3) := by decide +kernel
theorem dX6_takeCommand_13 : decode cX6_takeCommand 13 = .ok (.aload_n 0, 1) := by decide +kernel
theorem dX6_takeCommand_14 : decode cX6_takeCommand 14 = .ok (.getfield 20, 3) := by decide +kernel
theorem dX6_takeCommand_17 : decode cX6_takeCommand 17 = .ok (.arraylength, 1) := by decide +kernel
theorem dX6_takeCommand_18 : decode cX6_takeCommand 18 = .ok (.if_icmp .lt 5, 3) := by decide +kernel
theorem dX6_takeCommand_21 : decode cX6_takeCommand 21 = .ok (.iconst 0, 1) := by decide +kernel
theorem dX6_takeCommand_22 : decode cX6_takeCommand 22 = .ok (.ireturn, 1) := by decide +kernel
theorem dX6_takeCommand_23 : decode cX6_takeCommand 23 = .ok (.aload_n 0, 1) := by decide +kernel
theorem dX6_takeCommand_24 : decode cX6_takeCommand 24 = .ok (.getfield 20, 3) := by decide +kernel
theorem dX6_takeCommand_27 : decode cX6_takeCommand 27 = .ok (.aload_n 0, 1) := by decide +kernel
theorem dX6_takeCommand_28 : decode cX6_takeCommand 28 = .ok (.getfield 37, 3) := by decide +kernel
theorem dX6_takeCommand_31 : decode cX6_takeCommand 31 = .ok (.aaload, 1) := by decide +kernel
theorem dX6_takeCommand_32 : decode cX6_takeCommand 32 = .ok (.astore_n 2, 1) := by decide +kernel
theorem dX6_takeCommand_33 : decode cX6_takeCommand 33 = .ok (.aload_n 2, 1) := by decide +kernel
theorem dX6_takeCommand_34 : decode cX6_takeCommand 34 = .ok (.aload_n 1, 1) := by decide +kernel
theorem dX6_takeCommand_35 : decode cX6_takeCommand 35 = .ok (.putfield 56, 3) := by decide +kernel
theorem dX6_takeCommand_38 : decode cX6_takeCommand 38 = .ok (.aload_n 2, 1) := by decide +kernel
theorem dX6_takeCommand_39 : decode cX6_takeCommand 39 = .ok (.iconst 0, 1) := by decide +kernel
theorem dX6_takeCommand_40 : decode cX6_takeCommand 40 = .ok (.putfield 60, 3) := by decide +kernel
theorem dX6_takeCommand_43 : decode cX6_takeCommand 43 = .ok (.aload_n 0, 1) := by decide +kernel
theorem dX6_takeCommand_44 : decode cX6_takeCommand 44 = .ok (.aload_n 2, 1) := by decide +kernel
theorem dX6_takeCommand_45 : decode cX6_takeCommand 45 = .ok (.invokevirtual 63, 3) := by decide +kernel
theorem dX6_takeCommand_48 : decode cX6_takeCommand 48 = .ok (.ifCond .ne 5, 3) := by decide +kernel
theorem dX6_takeCommand_51 : decode cX6_takeCommand 51 = .ok (.iconst 0, 1) := by decide +kernel
theorem dX6_takeCommand_52 : decode cX6_takeCommand 52 = .ok (.ireturn, 1) := by decide +kernel
theorem dX6_takeCommand_53 : decode cX6_takeCommand 53 = .ok (.aload_n 0, 1) := by decide +kernel
theorem dX6_takeCommand_54 : decode cX6_takeCommand 54 = .ok (.dup, 1) := by decide +kernel
theorem dX6_takeCommand_55 : decode cX6_takeCommand 55 = .ok (.getfield 37, 3) := by decide +kernel
theorem dX6_takeCommand_58 : decode cX6_takeCommand 58 = .ok (.iconst 1, 1) := by decide +kernel
theorem dX6_takeCommand_59 : decode cX6_takeCommand 59 = .ok (.iadd, 1) := by decide +kernel
theorem dX6_takeCommand_60 : decode cX6_takeCommand 60 = .ok (.putfield 37, 3) := by decide +kernel
theorem dX6_takeCommand_63 : decode cX6_takeCommand 63 = .ok (.iconst 1, 1) := by decide +kernel
theorem dX6_takeCommand_64 : decode cX6_takeCommand 64 = .ok (.ireturn, 1) := by decide +kernel
theorem dX6_takeWord_0 : decode cX6_takeWord 0 = .ok (.aconst_null, 1) := by decide +kernel
theorem dX6_takeWord_1 : decode cX6_takeWord 1 = .ok (.astore_n 1, 1) := by decide +kernel
theorem dX6_takeWord_2 : decode cX6_takeWord 2 = .ok (.iconst 0, 1) := by decide +kernel
theorem dX6_takeWord_3 : decode cX6_takeWord 3 = .ok (.istore_n 2, 1) := by decide +kernel
theorem dX6_takeWord_4 : decode cX6_takeWord 4 = .ok (.iconst 0, 1) := by decide +kernel
theorem dX6_takeWord_5 : decode cX6_takeWord 5 = .ok (.istore_n 3, 1) := by decide +kernel
theorem dX6_takeWord_6 : decode cX6_takeWord 6 = .ok (.iload_n 3, 1) := by decide +kernel
theorem dX6_takeWord_7 : decode cX6_takeWord 7 = .ok (.getstatic 67, 3) := by decide +kernel
theorem dX6_takeWord_10 : decode cX6_takeWord 10 = .ok (.arraylength, 1) := by decide +kernel
theorem dX6_takeWord_11 : decode cX6_takeWord 11 = .ok (.if_icmp .ge 52, 3) := by decide +kernel
theorem dX6_takeWord_14 : decode cX6_takeWord 14 = .ok (.aload_n 0, 1) := by decide +kernel
theorem dX6_takeWord_15 : decode cX6_takeWord 15 = .ok (.getstatic 67, 3) := by decide +kernel
theorem dX6_takeWord_18 : decode cX6_takeWord 18 = .ok (.iload_n 3, 1) := by decide +kernel
theorem dX6_takeWord_19 : decode cX6_takeWord 19 = .ok (.aaload, 1) := by decide +kernel
theorem dX6_takeWord_20 : decode cX6_takeWord 20 = .ok (.getfield 71, 3) := by decide +kernel
theorem dX6_takeWord_23 : decode cX6_takeWord 23 = .ok (.invokevirtual 76, 3) := by decide +kernel
theorem dX6_takeWord_26 : decode cX6_takeWord 26 = .ok (.istore 4, 2) := by decide +kernel
theorem dX6_takeWord_28 : decode cX6_takeWord 28 = .ok (.iload_n 2, 1) := by decide +kernel
theorem dX6_takeWord_29 : decode cX6_takeWord 29 = .ok (.iload 4, 2) := by decide +kernel
theorem dX6_takeWord_31 : decode cX6_takeWord 31 = .ok (.invokestatic 80, 3) := by decide +kernel
theorem dX6_takeWord_34 : decode cX6_takeWord 34 = .ok (.istore_n 2, 1) := by decide +kernel
theorem dX6_takeWord_35 : decode cX6_takeWord 35 = .ok (.iload 4, 2) := by decide +kernel
theorem dX6_takeWord_37 : decode cX6_takeWord 37 = .ok (.getstatic 67, 3) := by decide +kernel
theorem dX6_takeWord_40 : decode cX6_takeWord 40 = .ok (.iload_n 3, 1) := by decide +kernel
theorem dX6_takeWord_41 : decode cX6_takeWord 41 = .ok (.aaload, 1) := by decide +kernel
theorem dX6_takeWord_42 : decode cX6_takeWord 42 = .ok (.getfield 71, 3) := by decide +kernel
theorem dX6_takeWord_45 : decode cX6_takeWord 45 = .ok (.invokevirtual 86, 3) := by decide +kernel
theorem dX6_takeWord_48 : decode cX6_takeWord 48 = .ok (.if_icmp .ne 9, 3) := by decide +kernel
theorem dX6_takeWord_51 : decode cX6_takeWord 51 = .ok (.getstatic 67, 3) := by decide +kernel
theorem dX6_takeWord_54 : decode cX6_takeWord 54 = .ok (.iload_n 3, 1) := by decide +kernel
theorem dX6_takeWord_55 : decode cX6_takeWord 55 = .ok (.aaload, 1) := by decide +kernel
theorem dX6_takeWord_56 : decode cX6_takeWord 56 = .ok (.astore_n 1, 1) := by decide +kernel
theorem dX6_takeWord_57 : decode cX6_takeWord 57 = .ok (.iinc 3 1, 3) := by decide +kernel
theorem dX6_takeWord_60 : decode cX6_takeWord 60 = .ok (.goto (-54), 3) := by decide +kernel
theorem dX6_takeWord_63 : decode cX6_takeWord 63 = .ok (.aload_n 0, 1) := by decide +kernel
theorem dX6_takeWord_64 : decode cX6_takeWord 64 = .ok (.dup, 1) := by decide +kernel
theorem dX6_takeWord_65 : decode cX6_takeWord 65 = .ok (.getfield 41, 3) := by decide +kernel
theorem dX6_takeWord_68 : decode cX6_takeWord 68 = .ok (.iload_n 2, 1) := by decide +kernel
theorem dX6_takeWord_69 : decode cX6_takeWord 69 = .ok (.iadd, 1) := by decide +kernel
theorem dX6_takeWord_70 : decode cX6_takeWord 70 = .ok (.putfield 41, 3) := by decide +kernel
theorem dX6_takeWord_73 : decode cX6_takeWord 73 = .ok (.aload_n 1, 1) := by decide +kernel
theorem dX6_takeWord_74 : decode cX6_takeWord 74 = .ok (.areturn, 1) := by decide +kernel
theorem dX6_countFitting_0 : decode cX6_countFitting 0 = .ok (.iconst 0, 1) := by decide +kernel
theorem dX6_countFitting_1 : decode cX6_countFitting 1 = .ok (.istore_n 2, 1) := by decide +kernel
theorem dX6_countFitting_2 : decode cX6_countFitting 2 = .ok (.iload_n 2, 1) := by decide +kernel
theorem dX6_countFitting_3 : decode cX6_countFitting 3 = .ok (.aload_n 1, 1) := by decide +kernel
theorem dX6_countFitting_4 : decode cX6_countFitting 4 = .ok (.invokevirtual 86, 3) := by decide +kernel
theorem dX6_countFitting_7 : decode cX6_countFitting 7 = .ok (.if_icmp .ge 22, 3) := by decide +kernel
theorem dX6_countFitting_10 : decode cX6_countFitting 10 = .ok (.aload_n 0, 1) := by decide +kernel
theorem dX6_countFitting_11 : decode cX6_countFitting 11 = .ok (.iload_n 2, 1) := by decide +kernel
theorem dX6_countFitting_12 : decode cX6_countFitting 12 = .ok (.aload_n 1, 1) := by decide +kernel
theorem dX6_countFitting_13 : decode cX6_countFitting 13 = .ok (.iload_n 2, 1) := by decide +kernel
theorem dX6_countFitting_14 : decode cX6_countFitting 14 = .ok (.invokevirtual 89, 3) := by decide +kernel
theorem dX6_countFitting_17 : decode cX6_countFitting 17 = .ok (.invokevirtual 93, 3) := by decide +kernel
theorem dX6_countFitting_20 : decode cX6_countFitting 20 = .ok (.ifCond .eq 9, 3) := by decide +kernel
theorem dX6_countFitting_23 : decode cX6_countFitting 23 = .ok (.iinc 2 1, 3) := by decide +kernel
theorem dX6_countFitting_26 : decode cX6_countFitting 26 = .ok (.goto (-24), 3) := by decide +kernel
theorem dX6_countFitting_29 : decode cX6_countFitting 29 = .ok (.iload_n 2, 1) := by decide +kernel
theorem dX6_countFitting_30 : decode cX6_countFitting 30 = .ok (.ireturn, 1) := by decide +kernel
theorem dX6_isHere_0 : decode cX6_isHere 0 = .ok (.aload_n 0, 1) := by decide +kernel
theorem dX6_isHere_1 : decode cX6_isHere 1 = .ok (.getfield 41, 3) := by decide +kernel
theorem dX6_isHere_4 : decode cX6_isHere 4 = .ok (.iload_n 1, 1) := by decide +kernel
theorem dX6_isHere_5 : decode cX6_isHere 5 = .ok (.iadd, 1) := by decide +kernel
theorem dX6_isHere_6 : decode cX6_isHere 6 = .ok (.istore_n 3, 1) := by decide +kernel
theorem dX6_isHere_7 : decode cX6_isHere 7 = .ok (.iload_n 3, 1) := by decide +kernel
theorem dX6_isHere_8 : decode cX6_isHere 8 = .ok (.ifCond .lt 30, 3) := by decide +kernel
theorem dX6_isHere_11 : decode cX6_isHere 11 = .ok (.iload_n 3, 1) := by decide +kernel
theorem dX6_isHere_12 : decode cX6_isHere 12 = .ok (.aload_n 0, 1) := by decide +kernel
theorem dX6_isHere_13 : decode cX6_isHere 13 = .ok (.getfield 12, 3) := by decide +kernel
theorem dX6_isHere_16 : decode cX6_isHere 16 = .ok (.invokevirtual 25, 3) := by decide +kernel
theorem dX6_isHere_19 : decode cX6_isHere 19 = .ok (.if_icmp .ge 19, 3) := by decide +kernel
theorem dX6_isHere_22 : decode cX6_isHere 22 = .ok (.aload_n 0, 1) := by decide +kernel
theorem dX6_isHere_23 : decode cX6_isHere 23 = .ok (.getfield 12, 3) := by decide +kernel
theorem dX6_isHere_26 : decode cX6_isHere 26 = .ok (.iload_n 3, 1) := by decide +kernel
theorem dX6_isHere_27 : decode cX6_isHere 27 = .ok (.invokevirtual 97, 3) := by decide +kernel
theorem dX6_isHere_30 : decode cX6_isHere 30 = .ok (.iload_n 2, 1) := by decide +kernel
theorem dX6_isHere_31 : decode cX6_isHere 31 = .ok (.if_icmp .ne 7, 3) := by decide +kernel
theorem dX6_isHere_34 : decode cX6_isHere 34 = .ok (.iconst 1, 1) := by decide +kernel
theorem dX6_isHere_35 : decode cX6_isHere 35 = .ok (.goto 4, 3) := by decide +kernel
theorem dX6_isHere_38 : decode cX6_isHere 38 = .ok (.iconst 0, 1) := by decide +kernel
theorem dX6_isHere_39 : decode cX6_isHere 39 = .ok (.ireturn, 1) := by decide +kernel
theorem dX6_takeArguments_0 : decode cX6_takeArguments 0 = .ok (.getstatic 98, 3) := by decide +kernel
theorem dX6_takeArguments_3 : decode cX6_takeArguments 3 = .ok (.aload_n 1, 1) := by decide +kernel
theorem dX6_takeArguments_4 : decode cX6_takeArguments 4 = .ok (.getfield 56, 3) := by decide +kernel
theorem dX6_takeArguments_7 : decode cX6_takeArguments 7 = .ok (.invokevirtual 104, 3) := by decide +kernel
theorem dX6_takeArguments_10 : decode cX6_takeArguments 10 = .ok (.iaload, 1) := by decide +kernel
theorem dX6_takeArguments_11 : decode cX6_takeArguments 11 = .ok (.tableswitch 118 4 9 #[37, 118, 118, 68, 68, 90], 37) := by decide +kernel
theorem dX6_takeArguments_48 : decode cX6_takeArguments 48 = .ok (.aload_n 0, 1) := by decide +kernel
theorem dX6_takeArguments_49 : decode cX6_takeArguments 49 = .ok (.aload_n 1, 1) := by decide +kernel
theorem dX6_takeArguments_50 : decode cX6_takeArguments 50 = .ok (.invokevirtual 107, 3) := by decide +kernel
theorem dX6_takeArguments_53 : decode cX6_takeArguments 53 = .ok (.ifCond .eq 24, 3) := by decide +kernel
theorem dX6_takeArguments_56 : decode cX6_takeArguments 56 = .ok (.aload_n 0, 1) := by decide +kernel
theorem dX6_takeArguments_57 : decode cX6_takeArguments 57 = .ok (.bipush 32, 2) := by decide +kernel
theorem dX6_takeArguments_59 : decode cX6_takeArguments 59 = .ok (.invokevirtual 48, 3) := by decide +kernel
theorem dX6_takeArguments_62 : decode cX6_takeArguments 62 = .ok (.ifCond .eq 15, 3) := by decide +kernel
theorem dX6_takeArguments_65 : decode cX6_takeArguments 65 = .ok (.aload_n 0, 1) := by decide +kernel
theorem dX6_takeArguments_66 : decode cX6_takeArguments 66 = .ok (.aload_n 1, 1) := by decide +kernel
theorem dX6_takeArguments_67 : decode cX6_takeArguments 67 = .ok (.invokevirtual 110, 3) := by decide +kernel
theorem dX6_takeArguments_70 : decode cX6_takeArguments 70 = .ok (.ifCond .eq 7, 3) := by decide +kernel
theorem dX6_takeArguments_73 : decode cX6_takeArguments 73 = .ok (.iconst 1, 1) := by decide +kernel
theorem dX6_takeArguments_74 : decode cX6_takeArguments 74 = .ok (.goto 4, 3) := by decide +kernel
theorem dX6_takeArguments_77 : decode cX6_takeArguments 77 = .ok (.iconst 0, 1) := by decide +kernel
theorem dX6_takeArguments_78 : decode cX6_takeArguments 78 = .ok (.ireturn, 1) := by decide +kernel
theorem dX6_takeArguments_79 : decode cX6_takeArguments 79 = .ok (.aload_n 0, 1) := by decide +kernel
theorem dX6_takeArguments_80 : decode cX6_takeArguments 80 = .ok (.aload_n 1, 1) := by decide +kernel
theorem dX6_takeArguments_81 : decode cX6_takeArguments 81 = .ok (.invokevirtual 107, 3) := by decide +kernel
theorem dX6_takeArguments_84 : decode cX6_takeArguments 84 = .ok (.ifCond .eq 15, 3) := by decide +kernel
theorem dX6_takeArguments_87 : decode cX6_takeArguments 87 = .ok (.aload_n 0, 1) := by decide +kernel
theorem dX6_takeArguments_88 : decode cX6_takeArguments 88 = .ok (.aload_n 1, 1) := by decide +kernel
theorem dX6_takeArguments_89 : decode cX6_takeArguments 89 = .ok (.invokevirtual 113, 3) := by decide +kernel
theorem dX6_takeArguments_92 : decode cX6_takeArguments 92 = .ok (.ifCond .eq 7, 3) := by decide +kernel
theorem dX6_takeArguments_95 : decode cX6_takeArguments 95 = .ok (.iconst 1, 1) := by decide +kernel
theorem dX6_takeArguments_96 : decode cX6_takeArguments 96 = .ok (.goto 4, 3) := by decide +kernel
theorem dX6_takeArguments_99 : decode cX6_takeArguments 99 = .ok (.iconst 0, 1) := by decide +kernel
theorem dX6_takeArguments_100 : decode cX6_takeArguments 100 = .ok (.ireturn, 1) := by decide +kernel
theorem dX6_takeArguments_101 : decode cX6_takeArguments 101 = .ok (.aload_n 1, 1) := by decide +kernel
theorem dX6_takeArguments_102 : decode cX6_takeArguments 102 = .ok (.iconst 1, 1) := by decide +kernel
theorem dX6_takeArguments_103 : decode cX6_takeArguments 103 = .ok (.putfield 116, 3) := by decide +kernel
theorem dX6_takeArguments_106 : decode cX6_takeArguments 106 = .ok (.aload_n 0, 1) := by decide +kernel
theorem dX6_takeArguments_107 : decode cX6_takeArguments 107 = .ok (.bipush 32, 2) := by decide +kernel
theorem dX6_takeArguments_109 : decode cX6_takeArguments 109 = .ok (.invokevirtual 48, 3) := by decide +kernel
theorem dX6_takeArguments_112 : decode cX6_takeArguments 112 = .ok (.ifCond .eq 11, 3) := by decide +kernel
theorem dX6_takeArguments_115 : decode cX6_takeArguments 115 = .ok (.aload_n 0, 1) := by decide +kernel
theorem dX6_takeArguments_116 : decode cX6_takeArguments 116 = .ok (.aload_n 1, 1) := by decide +kernel
theorem dX6_takeArguments_117 : decode cX6_takeArguments 117 = .ok (.invokevirtual 107, 3) := by decide +kernel
theorem dX6_takeArguments_120 : decode cX6_takeArguments 120 = .ok (.ifCond .eq 7, 3) := by decide +kernel
theorem dX6_takeArguments_123 : decode cX6_takeArguments 123 = .ok (.iconst 1, 1) := by decide +kernel
theorem dX6_takeArguments_124 : decode cX6_takeArguments 124 = .ok (.goto 4, 3) := by decide +kernel
theorem dX6_takeArguments_127 : decode cX6_takeArguments 127 = .ok (.iconst 0, 1) := by decide +kernel
theorem dX6_takeArguments_128 : decode cX6_takeArguments 128 = .ok (.ireturn, 1) := by decide +kernel
theorem dX6_takeArguments_129 : decode cX6_takeArguments 129 = .ok (.aload_n 0, 1) := by decide +kernel
theorem dX6_takeArguments_130 : decode cX6_takeArguments 130 = .ok (.aload_n 1, 1) := by decide +kernel
theorem dX6_takeArguments_131 : decode cX6_takeArguments 131 = .ok (.invokevirtual 107, 3) := by decide +kernel
theorem dX6_takeArguments_134 : decode cX6_takeArguments 134 = .ok (.ireturn, 1) := by decide +kernel
theorem dX6_takeFirst_0 : decode cX6_takeFirst 0 = .ok (.aload_n 1, 1) := by decide +kernel
theorem dX6_takeFirst_1 : decode cX6_takeFirst 1 = .ok (.aload_n 0, 1) := by decide +kernel
theorem dX6_takeFirst_2 : decode cX6_takeFirst 2 = .ok (.invokevirtual 119, 3) := by decide +kernel
theorem dX6_takeFirst_5 : decode cX6_takeFirst 5 = .ok (.putfield 116, 3) := by decide +kernel
theorem dX6_takeFirst_8 : decode cX6_takeFirst 8 = .ok (.aload_n 1, 1) := by decide +kernel
theorem dX6_takeFirst_9 : decode cX6_takeFirst 9 = .ok (.getfield 116, 3) := by decide +kernel
theorem dX6_takeFirst_12 : decode cX6_takeFirst 12 = .ok (.ifCond .lt 7, 3) := by decide +kernel
theorem dX6_takeFirst_15 : decode cX6_takeFirst 15 = .ok (.iconst 1, 1) := by decide +kernel
theorem dX6_takeFirst_16 : decode cX6_takeFirst 16 = .ok (.goto 4, 3) := by decide +kernel
theorem dX6_takeFirst_19 : decode cX6_takeFirst 19 = .ok (.iconst 0, 1) := by decide +kernel
theorem dX6_takeFirst_20 : decode cX6_takeFirst 20 = .ok (.ireturn, 1) := by decide +kernel
theorem dX6_takeSecond_0 : decode cX6_takeSecond 0 = .ok (.aload_n 1, 1) := by decide +kernel
theorem dX6_takeSecond_1 : decode cX6_takeSecond 1 = .ok (.aload_n 0, 1) := by decide +kernel
theorem dX6_takeSecond_2 : decode cX6_takeSecond 2 = .ok (.invokevirtual 119, 3) := by decide +kernel
theorem dX6_takeSecond_5 : decode cX6_takeSecond 5 = .ok (.putfield 60, 3) := by decide +kernel
theorem dX6_takeSecond_8 : decode cX6_takeSecond 8 = .ok (.aload_n 1, 1) := by decide +kernel
theorem dX6_takeSecond_9 : decode cX6_takeSecond 9 = .ok (.getfield 60, 3) := by decide +kernel
theorem dX6_takeSecond_12 : decode cX6_takeSecond 12 = .ok (.ifCond .lt 7, 3) := by decide +kernel
theorem dX6_takeSecond_15 : decode cX6_takeSecond 15 = .ok (.iconst 1, 1) := by decide +kernel
theorem dX6_takeSecond_16 : decode cX6_takeSecond 16 = .ok (.goto 4, 3) := by decide +kernel
theorem dX6_takeSecond_19 : decode cX6_takeSecond 19 = .ok (.iconst 0, 1) := by decide +kernel
theorem dX6_takeSecond_20 : decode cX6_takeSecond 20 = .ok (.ireturn, 1) := by decide +kernel
theorem dX6_takeLetter_0 : decode cX6_takeLetter 0 = .ok (.aload_n 1, 1) := by decide +kernel
theorem dX6_takeLetter_1 : decode cX6_takeLetter 1 = .ok (.aload_n 0, 1) := by decide +kernel
theorem dX6_takeLetter_2 : decode cX6_takeLetter 2 = .ok (.bipush 97, 2) := by decide +kernel
theorem dX6_takeLetter_4 : decode cX6_takeLetter 4 = .ok (.bipush 122, 2) := by decide +kernel
theorem dX6_takeLetter_6 : decode cX6_takeLetter 6 = .ok (.invokevirtual 122, 3) := by decide +kernel
theorem dX6_takeLetter_9 : decode cX6_takeLetter 9 = .ok (.putfield 60, 3) := by decide +kernel
theorem dX6_takeLetter_12 : decode cX6_takeLetter 12 = .ok (.aload_n 1, 1) := by decide +kernel
theorem dX6_takeLetter_13 : decode cX6_takeLetter 13 = .ok (.getfield 60, 3) := by decide +kernel
theorem dX6_takeLetter_16 : decode cX6_takeLetter 16 = .ok (.ifCond .lt 7, 3) := by decide +kernel
theorem dX6_takeLetter_19 : decode cX6_takeLetter 19 = .ok (.iconst 1, 1) := by decide +kernel
theorem dX6_takeLetter_20 : decode cX6_takeLetter 20 = .ok (.goto 4, 3) := by decide +kernel
theorem dX6_takeLetter_23 : decode cX6_takeLetter 23 = .ok (.iconst 0, 1) := by decide +kernel
theorem dX6_takeLetter_24 : decode cX6_takeLetter 24 = .ok (.ireturn, 1) := by decide +kernel
theorem dX6_takeDigit_0 : decode cX6_takeDigit 0 = .ok (.aload_n 0, 1) := by decide +kernel
theorem dX6_takeDigit_1 : decode cX6_takeDigit 1 = .ok (.bipush 48, 2) := by decide +kernel
theorem dX6_takeDigit_3 : decode cX6_takeDigit 3 = .ok (.bipush 57, 2) := by decide +kernel
theorem dX6_takeDigit_5 : decode cX6_takeDigit 5 = .ok (.invokevirtual 122, 3) := by decide +kernel
theorem dX6_takeDigit_8 : decode cX6_takeDigit 8 = .ok (.istore_n 1, 1) := by decide +kernel
theorem dX6_takeDigit_9 : decode cX6_takeDigit 9 = .ok (.iload_n 1, 1) := by decide +kernel
theorem dX6_takeDigit_10 : decode cX6_takeDigit 10 = .ok (.ifCond .ge 7, 3) := by decide +kernel
theorem dX6_takeDigit_13 : decode cX6_takeDigit 13 = .ok (.iconst (-1), 1) := by decide +kernel
theorem dX6_takeDigit_14 : decode cX6_takeDigit 14 = .ok (.goto 7, 3) := by decide +kernel
theorem dX6_takeDigit_17 : decode cX6_takeDigit 17 = .ok (.iload_n 1, 1) := by decide +kernel
theorem dX6_takeDigit_18 : decode cX6_takeDigit 18 = .ok (.bipush 48, 2) := by decide +kernel
theorem dX6_takeDigit_20 : decode cX6_takeDigit 20 = .ok (.isub, 1) := by decide +kernel
theorem dX6_takeDigit_21 : decode cX6_takeDigit 21 = .ok (.ireturn, 1) := by decide +kernel
theorem dX6_takeSign_0 : decode cX6_takeSign 0 = .ok (.aload_n 0, 1) := by decide +kernel
theorem dX6_takeSign_1 : decode cX6_takeSign 1 = .ok (.iload_n 1, 1) := by decide +kernel
theorem dX6_takeSign_2 : decode cX6_takeSign 2 = .ok (.iload_n 1, 1) := by decide +kernel
theorem dX6_takeSign_3 : decode cX6_takeSign 3 = .ok (.invokevirtual 122, 3) := by decide +kernel
theorem dX6_takeSign_6 : decode cX6_takeSign 6 = .ok (.ifCond .lt 7, 3) := by decide +kernel
theorem dX6_takeSign_9 : decode cX6_takeSign 9 = .ok (.iconst 1, 1) := by decide +kernel
theorem dX6_takeSign_10 : decode cX6_takeSign 10 = .ok (.goto 4, 3) := by decide +kernel
theorem dX6_takeSign_13 : decode cX6_takeSign 13 = .ok (.iconst 0, 1) := by decide +kernel
theorem dX6_takeSign_14 : decode cX6_takeSign 14 = .ok (.ireturn, 1) := by decide +kernel
theorem dX6_takeBetween_0 : decode cX6_takeBetween 0 = .ok (.aload_n 0, 1) := by decide +kernel
theorem dX6_takeBetween_1 : decode cX6_takeBetween 1 = .ok (.getfield 41, 3) := by decide +kernel
theorem dX6_takeBetween_4 : decode cX6_takeBetween 4 = .ok (.ifCond .lt 17, 3) := by decide +kernel
theorem dX6_takeBetween_7 : decode cX6_takeBetween 7 = .ok (.aload_n 0, 1) := by decide +kernel
theorem dX6_takeBetween_8 : decode cX6_takeBetween 8 = .ok (.getfield 41, 3) := by decide +kernel
theorem dX6_takeBetween_11 : decode cX6_takeBetween 11 = .ok (.aload_n 0, 1) := by decide +kernel
theorem dX6_takeBetween_12 : decode cX6_takeBetween 12 = .ok (.getfield 12, 3) := by decide +kernel
theorem dX6_takeBetween_15 : decode cX6_takeBetween 15 = .ok (.invokevirtual 25, 3) := by decide +kernel
theorem dX6_takeBetween_18 : decode cX6_takeBetween 18 = .ok (.if_icmp .lt 5, 3) := by decide +kernel
theorem dX6_takeBetween_21 : decode cX6_takeBetween 21 = .ok (.iconst (-1), 1) := by decide +kernel
theorem dX6_takeBetween_22 : decode cX6_takeBetween 22 = .ok (.ireturn, 1) := by decide +kernel
theorem dX6_takeBetween_23 : decode cX6_takeBetween 23 = .ok (.aload_n 0, 1) := by decide +kernel
theorem dX6_takeBetween_24 : decode cX6_takeBetween 24 = .ok (.getfield 12, 3) := by decide +kernel
theorem dX6_takeBetween_27 : decode cX6_takeBetween 27 = .ok (.aload_n 0, 1) := by decide +kernel
theorem dX6_takeBetween_28 : decode cX6_takeBetween 28 = .ok (.getfield 41, 3) := by decide +kernel
theorem dX6_takeBetween_31 : decode cX6_takeBetween 31 = .ok (.invokevirtual 97, 3) := by decide +kernel
theorem dX6_takeBetween_34 : decode cX6_takeBetween 34 = .ok (.istore_n 3, 1) := by decide +kernel
theorem dX6_takeBetween_35 : decode cX6_takeBetween 35 = .ok (.iload_n 3, 1) := by decide +kernel
theorem dX6_takeBetween_36 : decode cX6_takeBetween 36 = .ok (.iload_n 1, 1) := by decide +kernel
theorem dX6_takeBetween_37 : decode cX6_takeBetween 37 = .ok (.if_icmp .lt 8, 3) := by decide +kernel
theorem dX6_takeBetween_40 : decode cX6_takeBetween 40 = .ok (.iload_n 3, 1) := by decide +kernel
theorem dX6_takeBetween_41 : decode cX6_takeBetween 41 = .ok (.iload_n 2, 1) := by decide +kernel
theorem dX6_takeBetween_42 : decode cX6_takeBetween 42 = .ok (.if_icmp .le 5, 3) := by decide +kernel
theorem dX6_takeBetween_45 : decode cX6_takeBetween 45 = .ok (.iconst (-1), 1) := by decide +kernel
theorem dX6_takeBetween_46 : decode cX6_takeBetween 46 = .ok (.ireturn, 1) := by decide +kernel
theorem dX6_takeBetween_47 : decode cX6_takeBetween 47 = .ok (.aload_n 0, 1) := by decide +kernel
theorem dX6_takeBetween_48 : decode cX6_takeBetween 48 = .ok (.dup, 1) := by decide +kernel
theorem dX6_takeBetween_49 : decode cX6_takeBetween 49 = .ok (.getfield 41, 3) := by decide +kernel
theorem dX6_takeBetween_52 : decode cX6_takeBetween 52 = .ok (.iconst 1, 1) := by decide +kernel
theorem dX6_takeBetween_53 : decode cX6_takeBetween 53 = .ok (.iadd, 1) := by decide +kernel
theorem dX6_takeBetween_54 : decode cX6_takeBetween 54 = .ok (.putfield 41, 3) := by decide +kernel
theorem dX6_takeBetween_57 : decode cX6_takeBetween 57 = .ok (.iload_n 3, 1) := by decide +kernel
theorem dX6_takeBetween_58 : decode cX6_takeBetween 58 = .ok (.ireturn, 1) := by decide +kernel
end
section
theorem dX8_init_0 : decode cX8_init 0 = .ok (.aload_n 0, 1) := by decide +kernel
theorem dX8_init_1 : decode cX8_init 1 = .ok (.invokespecial 3, 3) := by decide +kernel
theorem dX8_init_4 : decode cX8_init 4 = .ok (.aload_n 0, 1) := by decide +kernel
theorem dX8_init_5 : decode cX8_init 5 = .ok (.new 9, 3) := by decide +kernel
theorem dX8_init_8 : decode cX8_init 8 = .ok (.dup, 1) := by decide +kernel
theorem dX8_init_9 : decode cX8_init 9 = .ok (.invokespecial 11, 3) := by decide +kernel
theorem dX8_init_12 : decode cX8_init 12 = .ok (.putfield 12, 3) := by decide +kernel
theorem dX8_init_15 : decode cX8_init 15 = .ok (.aload_n 0, 1) := by decide +kernel
theorem dX8_init_16 : decode cX8_init 16 = .ok (.new 9, 3) := by decide +kernel
theorem dX8_init_19 : decode cX8_init 19 = .ok (.dup, 1) := by decide +kernel
theorem dX8_init_20 : decode cX8_init 20 = .ok (.invokespecial 11, 3) := by decide +kernel
theorem dX8_init_23 : decode cX8_init 23 = .ok (.putfield 16, 3) := by decide +kernel
theorem dX8_init_26 : decode cX8_init 26 = .ok (.aload_n 0, 1) := by decide +kernel
theorem dX8_init_27 : decode cX8_init 27 = .ok (.new 9, 3) := by decide +kernel
theorem dX8_init_30 : decode cX8_init 30 = .ok (.dup, 1) := by decide +kernel
theorem dX8_init_31 : decode cX8_init 31 = .ok (.invokespecial 11, 3) := by decide +kernel
theorem dX8_init_34 : decode cX8_init 34 = .ok (.putfield 19, 3) := by decide +kernel
theorem dX8_init_37 : decode cX8_init 37 = .ok (.aload_n 0, 1) := by decide +kernel
theorem dX8_init_38 : decode cX8_init 38 = .ok (.new 22, 3) := by decide +kernel
theorem dX8_init_41 : decode cX8_init 41 = .ok (.dup, 1) := by decide +kernel
theorem dX8_init_42 : decode cX8_init 42 = .ok (.invokespecial 24, 3) := by decide +kernel
theorem dX8_init_45 : decode cX8_init 45 = .ok (.putfield 25, 3) := by decide +kernel
theorem dX8_init_48 : decode cX8_init 48 = .ok (.aload_n 0, 1) := by decide +kernel
theorem dX8_init_49 : decode cX8_init 49 = .ok (.new 29, 3) := by decide +kernel
theorem dX8_init_52 : decode cX8_init 52 = .ok (.dup, 1) := by decide +kernel
theorem dX8_init_53 : decode cX8_init 53 = .ok (.invokespecial 31, 3) := by decide +kernel
theorem dX8_init_56 : decode cX8_init 56 = .ok (.putfield 32, 3) := by decide +kernel
theorem dX8_init_59 : decode cX8_init 59 = .ok (.aload_n 0, 1) := by decide +kernel
theorem dX8_init_60 : decode cX8_init 60 = .ok (.new 36, 3) := by decide +kernel
theorem dX8_init_63 : decode cX8_init 63 = .ok (.dup, 1) := by decide +kernel
theorem dX8_init_64 : decode cX8_init 64 = .ok (.invokespecial 38, 3) := by decide +kernel
theorem dX8_init_67 : decode cX8_init 67 = .ok (.putfield 39, 3) := by decide +kernel
theorem dX8_init_70 : decode cX8_init 70 = .ok (.aload_n 0, 1) := by decide +kernel
theorem dX8_init_71 : decode cX8_init 71 = .ok (.new 43, 3) := by decide +kernel
theorem dX8_init_74 : decode cX8_init 74 = .ok (.dup, 1) := by decide +kernel
theorem dX8_init_75 : decode cX8_init 75 = .ok (.invokespecial 45, 3) := by decide +kernel
theorem dX8_init_78 : decode cX8_init 78 = .ok (.putfield 46, 3) := by decide +kernel
theorem dX8_init_81 : decode cX8_init 81 = .ok (.aload_n 0, 1) := by decide +kernel
theorem dX8_init_82 : decode cX8_init 82 = .ok (.bipush (-4), 2) := by decide +kernel
theorem dX8_init_84 : decode cX8_init 84 = .ok (.putfield 50, 3) := by decide +kernel
theorem dX8_init_87 : decode cX8_init 87 = .ok (.return_, 1) := by decide +kernel
theorem dX8_clear_0 : decode cX8_clear 0 = .ok (.aload_n 0, 1) := by decide +kernel
theorem dX8_clear_1 : decode cX8_clear 1 = .ok (.getfield 12, 3) := by decide +kernel
theorem dX8_clear_4 : decode cX8_clear 4 = .ok (.getfield 54, 3) := by decide +kernel
theorem dX8_clear_7 : decode cX8_clear 7 = .ok (.istore_n 1, 1) := by decide +kernel
theorem dX8_clear_8 : decode cX8_clear 8 = .ok (.aload_n 0, 1) := by decide +kernel
theorem dX8_clear_9 : decode cX8_clear 9 = .ok (.getfield 12, 3) := by decide +kernel
theorem dX8_clear_12 : decode cX8_clear 12 = .ok (.invokevirtual 57, 3) := by decide +kernel
theorem dX8_clear_15 : decode cX8_clear 15 = .ok (.aload_n 0, 1) := by decide +kernel
theorem dX8_clear_16 : decode cX8_clear 16 = .ok (.getfield 25, 3) := by decide +kernel
theorem dX8_clear_19 : decode cX8_clear 19 = .ok (.invokevirtual 60, 3) := by decide +kernel
theorem dX8_clear_22 : decode cX8_clear 22 = .ok (.iload_n 1, 1) := by decide +kernel
theorem dX8_clear_23 : decode cX8_clear 23 = .ok (.ireturn, 1) := by decide +kernel
theorem dX8_append_0 : decode cX8_append 0 = .ok (.aload_n 0, 1) := by decide +kernel
theorem dX8_append_1 : decode cX8_append 1 = .ok (.getfield 39, 3) := by decide +kernel
theorem dX8_append_4 : decode cX8_append 4 = .ok (.iload_n 1, 1) := by decide +kernel
theorem dX8_append_5 : decode cX8_append 5 = .ok (.invokevirtual 63, 3) := by decide +kernel
theorem dX8_append_8 : decode cX8_append 8 = .ok (.ifCond .eq 13, 3) := by decide +kernel
theorem dX8_append_11 : decode cX8_append 11 = .ok (.aload_n 0, 1) := by decide +kernel
theorem dX8_append_12 : decode cX8_append 12 = .ok (.getfield 39, 3) := by decide +kernel
theorem dX8_append_15 : decode cX8_append 15 = .ok (.invokevirtual 67, 3) := by decide +kernel
theorem dX8_append_18 : decode cX8_append 18 = .ok (.goto 5, 3) := by decide +kernel
theorem dX8_append_21 : decode cX8_append 21 = .ok (.bipush (-2), 2) := by decide +kernel
theorem dX8_append_23 : decode cX8_append 23 = .ok (.ireturn, 1) := by decide +kernel
theorem dX8_driver_0 : decode cX8_driver 0 = .ok (.aload_n 0, 1) := by decide +kernel
theorem dX8_driver_1 : decode cX8_driver 1 = .ok (.getstatic 71, 3) := by decide +kernel
theorem dX8_driver_4 : decode cX8_driver 4 = .ok (.iload_n 1, 1) := by decide +kernel
theorem dX8_driver_5 : decode cX8_driver 5 = .ok (.iconst 0, 1) := by decide +kernel
theorem dX8_driver_6 : decode cX8_driver 6 = .ok (.invokevirtual 77, 3) := by decide +kernel
theorem dX8_driver_9 : decode cX8_driver 9 = .ok (.ireturn, 1) := by decide +kernel
theorem dX8_ask_0 : decode cX8_ask 0 = .ok (.aload_n 0, 1) := by decide +kernel
theorem dX8_ask_1 : decode cX8_ask 1 = .ok (.getstatic 81, 3) := by decide +kernel
theorem dX8_ask_4 : decode cX8_ask 4 = .ok (.iload_n 1, 1) := by decide +kernel
theorem dX8_ask_5 : decode cX8_ask 5 = .ok (.iconst 0, 1) := by decide +kernel
theorem dX8_ask_6 : decode cX8_ask 6 = .ok (.invokevirtual 77, 3) := by decide +kernel
theorem dX8_ask_9 : decode cX8_ask 9 = .ok (.ireturn, 1) := by decide +kernel
theorem dX8_send_0 : decode cX8_send 0 = .ok (.aload_n 0, 1) := by decide +kernel
theorem dX8_send_1 : decode cX8_send 1 = .ok (.getstatic 84, 3) := by decide +kernel
theorem dX8_send_4 : decode cX8_send 4 = .ok (.iload_n 1, 1) := by decide +kernel
theorem dX8_send_5 : decode cX8_send 5 = .ok (.iconst 0, 1) := by decide +kernel
theorem dX8_send_6 : decode cX8_send 6 = .ok (.invokevirtual 77, 3) := by decide +kernel
theorem dX8_send_9 : decode cX8_send 9 = .ok (.ireturn, 1) := by decide +kernel
theorem dX8_shout_0 : decode cX8_shout 0 = .ok (.aload_n 0, 1) := by decide +kernel
theorem dX8_shout_1 : decode cX8_shout 1 = .ok (.getstatic 87, 3) := by decide +kernel
theorem dX8_shout_4 : decode cX8_shout 4 = .ok (.iload_n 1, 1) := by decide +kernel
theorem dX8_shout_5 : decode cX8_shout 5 = .ok (.iload_n 2, 1) := by decide +kernel
theorem dX8_shout_6 : decode cX8_shout 6 = .ok (.invokevirtual 77, 3) := by decide +kernel
theorem dX8_shout_9 : decode cX8_shout 9 = .ok (.ireturn, 1) := by decide +kernel
theorem dX8_wash_0 : decode cX8_wash 0 = .ok (.aload_n 0, 1) := by decide +kernel
theorem dX8_wash_1 : decode cX8_wash 1 = .ok (.getstatic 90, 3) := by decide +kernel
theorem dX8_wash_4 : decode cX8_wash 4 = .ok (.iload_n 1, 1) := by decide +kernel
theorem dX8_wash_5 : decode cX8_wash 5 = .ok (.iconst 0, 1) := by decide +kernel
theorem dX8_wash_6 : decode cX8_wash 6 = .ok (.invokevirtual 77, 3) := by decide +kernel
theorem dX8_wash_9 : decode cX8_wash 9 = .ok (.ireturn, 1) := by decide +kernel
theorem dX8_back_0 : decode cX8_back 0 = .ok (.aload_n 0, 1) := by decide +kernel
theorem dX8_back_1 : decode cX8_back 1 = .ok (.getstatic 93, 3) := by decide +kernel
theorem dX8_back_4 : decode cX8_back 4 = .ok (.iload_n 1, 1) := by decide +kernel
theorem dX8_back_5 : decode cX8_back 5 = .ok (.iconst 0, 1) := by decide +kernel
theorem dX8_back_6 : decode cX8_back 6 = .ok (.invokevirtual 77, 3) := by decide +kernel
theorem dX8_back_9 : decode cX8_back 9 = .ok (.ireturn, 1) := by decide +kernel
theorem dX8_cut_0 : decode cX8_cut 0 = .ok (.aload_n 0, 1) := by decide +kernel
theorem dX8_cut_1 : decode cX8_cut 1 = .ok (.getstatic 96, 3) := by decide +kernel
theorem dX8_cut_4 : decode cX8_cut 4 = .ok (.iload_n 1, 1) := by decide +kernel
theorem dX8_cut_5 : decode cX8_cut 5 = .ok (.iload_n 2, 1) := by decide +kernel
theorem dX8_cut_6 : decode cX8_cut 6 = .ok (.invokevirtual 77, 3) := by decide +kernel
theorem dX8_cut_9 : decode cX8_cut 9 = .ok (.ireturn, 1) := by decide +kernel
theorem dX8_tie_0 : decode cX8_tie 0 = .ok (.aload_n 0, 1) := by decide +kernel
theorem dX8_tie_1 : decode cX8_tie 1 = .ok (.getstatic 99, 3) := by decide +kernel
theorem dX8_tie_4 : decode cX8_tie 4 = .ok (.iload_n 1, 1) := by decide +kernel
theorem dX8_tie_5 : decode cX8_tie 5 = .ok (.iload_n 2, 1) := by decide +kernel
theorem dX8_tie_6 : decode cX8_tie 6 = .ok (.invokevirtual 77, 3) := by decide +kernel
theorem dX8_tie_9 : decode cX8_tie 9 = .ok (.ireturn, 1) := by decide +kernel
theorem dX8_beats_0 : decode cX8_beats 0 = .ok (.aload_n 0, 1) := by decide +kernel
theorem dX8_beats_1 : decode cX8_beats 1 = .ok (.getstatic 102, 3) := by decide +kernel
theorem dX8_beats_4 : decode cX8_beats 4 = .ok (.iload_n 1, 1) := by decide +kernel
theorem dX8_beats_5 : decode cX8_beats 5 = .ok (.iconst 0, 1) := by decide +kernel
theorem dX8_beats_6 : decode cX8_beats 6 = .ok (.invokevirtual 77, 3) := by decide +kernel
theorem dX8_beats_9 : decode cX8_beats 9 = .ok (.ireturn, 1) := by decide +kernel
theorem dX8_read_0 : decode cX8_read 0 = .ok (.aload_n 0, 1) := by decide +kernel
theorem dX8_read_1 : decode cX8_read 1 = .ok (.getfield 39, 3) := by decide +kernel
theorem dX8_read_4 : decode cX8_read 4 = .ok (.invokevirtual 105, 3) := by decide +kernel
theorem dX8_read_7 : decode cX8_read 7 = .ok (.istore_n 1, 1) := by decide +kernel
theorem dX8_read_8 : decode cX8_read 8 = .ok (.aload_n 0, 1) := by decide +kernel
theorem dX8_read_9 : decode cX8_read 9 = .ok (.getfield 39, 3) := by decide +kernel
theorem dX8_read_12 : decode cX8_read 12 = .ok (.invokevirtual 109, 3) := by decide +kernel
theorem dX8_read_15 : decode cX8_read 15 = .ok (.iload_n 1, 1) := by decide +kernel
theorem dX8_read_16 : decode cX8_read 16 = .ok (.ifCond .ne 17, 3) := by decide +kernel
theorem dX8_read_19 : decode cX8_read 19 = .ok (.aload_n 0, 1) := by decide +kernel
theorem dX8_read_20 : decode cX8_read 20 = .ok (.aload_n 0, 1) := by decide +kernel
theorem dX8_read_21 : decode cX8_read 21 = .ok (.getfield 39, 3) := by decide +kernel
theorem dX8_read_24 : decode cX8_read 24 = .ok (.getfield 110, 3) := by decide +kernel
theorem dX8_read_27 : decode cX8_read 27 = .ok (.putfield 50, 3) := by decide +kernel
theorem dX8_read_30 : decode cX8_read 30 = .ok (.bipush (-2), 2) := by decide +kernel
theorem dX8_read_32 : decode cX8_read 32 = .ok (.ireturn, 1) := by decide +kernel
theorem dX8_read_33 : decode cX8_read 33 = .ok (.aload_n 0, 1) := by decide +kernel
theorem dX8_read_34 : decode cX8_read 34 = .ok (.getfield 16, 3) := by decide +kernel
theorem dX8_read_37 : decode cX8_read 37 = .ok (.aload_n 0, 1) := by decide +kernel
theorem dX8_read_38 : decode cX8_read 38 = .ok (.getfield 12, 3) := by decide +kernel
theorem dX8_read_41 : decode cX8_read 41 = .ok (.invokevirtual 113, 3) := by decide +kernel
theorem dX8_read_44 : decode cX8_read 44 = .ok (.iconst 0, 1) := by decide +kernel
theorem dX8_read_45 : decode cX8_read 45 = .ok (.istore_n 2, 1) := by decide +kernel
theorem dX8_read_46 : decode cX8_read 46 = .ok (.iload_n 2, 1) := by decide +kernel
theorem dX8_read_47 : decode cX8_read 47 = .ok (.aload_n 0, 1) := by decide +kernel
theorem dX8_read_48 : decode cX8_read 48 = .ok (.getfield 39, 3) := by decide +kernel
theorem dX8_read_51 : decode cX8_read 51 = .ok (.getfield 117, 3) := by decide +kernel
theorem dX8_read_54 : decode cX8_read 54 = .ok (.if_icmp .ge 61, 3) := by decide +kernel
theorem dX8_read_57 : decode cX8_read 57 = .ok (.aload_n 0, 1) := by decide +kernel
theorem dX8_read_58 : decode cX8_read 58 = .ok (.getfield 39, 3) := by decide +kernel
theorem dX8_read_61 : decode cX8_read 61 = .ok (.getfield 118, 3) := by decide +kernel
theorem dX8_read_64 : decode cX8_read 64 = .ok (.iload_n 2, 1) := by decide +kernel
theorem dX8_read_65 : decode cX8_read 65 = .ok (.aaload, 1) := by decide +kernel
theorem dX8_read_66 : decode cX8_read 66 = .ok (.astore_n 3, 1) := by decide +kernel
theorem dX8_read_67 : decode cX8_read 67 = .ok (.aload_n 0, 1) := by decide +kernel
theorem dX8_read_68 : decode cX8_read 68 = .ok (.aload_n 3, 1) := by decide +kernel
theorem dX8_read_69 : decode cX8_read 69 = .ok (.getfield 122, 3) := by decide +kernel
theorem dX8_read_72 : decode cX8_read 72 = .ok (.aload_n 3, 1) := by decide +kernel
theorem dX8_read_73 : decode cX8_read 73 = .ok (.getfield 127, 3) := by decide +kernel
theorem dX8_read_76 : decode cX8_read 76 = .ok (.aload_n 3, 1) := by decide +kernel
theorem dX8_read_77 : decode cX8_read 77 = .ok (.getfield 130, 3) := by decide +kernel
theorem dX8_read_80 : decode cX8_read 80 = .ok (.invokevirtual 133, 3) := by decide +kernel
theorem dX8_read_83 : decode cX8_read 83 = .ok (.istore 4, 2) := by decide +kernel
theorem dX8_read_85 : decode cX8_read 85 = .ok (.iload 4, 2) := by decide +kernel
theorem dX8_read_87 : decode cX8_read 87 = .ok (.ifCond .ge 22, 3) := by decide +kernel
theorem dX8_read_90 : decode cX8_read 90 = .ok (.aload_n 0, 1) := by decide +kernel
theorem dX8_read_91 : decode cX8_read 91 = .ok (.getfield 12, 3) := by decide +kernel
theorem dX8_read_94 : decode cX8_read 94 = .ok (.aload_n 0, 1) := by decide +kernel
theorem dX8_read_95 : decode cX8_read 95 = .ok (.getfield 16, 3) := by decide +kernel
theorem dX8_read_98 : decode cX8_read 98 = .ok (.invokevirtual 113, 3) := by decide +kernel
theorem dX8_read_101 : decode cX8_read 101 = .ok (.aload_n 0, 1) := by decide +kernel
theorem dX8_read_102 : decode cX8_read 102 = .ok (.iload_n 2, 1) := by decide +kernel
theorem dX8_read_103 : decode cX8_read 103 = .ok (.iload 4, 2) := by decide +kernel
theorem dX8_read_105 : decode cX8_read 105 = .ok (.invokevirtual 136, 3) := by decide +kernel
theorem dX8_read_108 : decode cX8_read 108 = .ok (.ireturn, 1) := by decide +kernel
theorem dX8_read_109 : decode cX8_read 109 = .ok (.iinc 2 1, 3) := by decide +kernel
theorem dX8_read_112 : decode cX8_read 112 = .ok (.goto (-66), 3) := by decide +kernel
theorem dX8_read_115 : decode cX8_read 115 = .ok (.aload_n 0, 1) := by decide +kernel
theorem dX8_read_116 : decode cX8_read 116 = .ok (.getfield 25, 3) := by decide +kernel
theorem dX8_read_119 : decode cX8_read 119 = .ok (.aload_n 0, 1) := by decide +kernel
theorem dX8_read_120 : decode cX8_read 120 = .ok (.getfield 16, 3) := by decide +kernel
theorem dX8_read_123 : decode cX8_read 123 = .ok (.invokevirtual 140, 3) := by decide +kernel
theorem dX8_read_126 : decode cX8_read 126 = .ok (.aload_n 0, 1) := by decide +kernel
theorem dX8_read_127 : decode cX8_read 127 = .ok (.getfield 39, 3) := by decide +kernel
theorem dX8_read_130 : decode cX8_read 130 = .ok (.getfield 117, 3) := by decide +kernel
theorem dX8_read_133 : decode cX8_read 133 = .ok (.ireturn, 1) := by decide +kernel
theorem dX8_change_0 : decode cX8_change 0 = .ok (.aload_n 0, 1) := by decide +kernel
theorem dX8_change_1 : decode cX8_change 1 = .ok (.getfield 16, 3) := by decide +kernel
theorem dX8_change_4 : decode cX8_change 4 = .ok (.aload_n 0, 1) := by decide +kernel
theorem dX8_change_5 : decode cX8_change 5 = .ok (.getfield 12, 3) := by decide +kernel
theorem dX8_change_8 : decode cX8_change 8 = .ok (.invokevirtual 113, 3) := by decide +kernel
theorem dX8_change_11 : decode cX8_change 11 = .ok (.aload_n 0, 1) := by decide +kernel
theorem dX8_change_12 : decode cX8_change 12 = .ok (.aload_n 1, 1) := by decide +kernel
theorem dX8_change_13 : decode cX8_change 13 = .ok (.iload_n 2, 1) := by decide +kernel
theorem dX8_change_14 : decode cX8_change 14 = .ok (.iload_n 3, 1) := by decide +kernel
theorem dX8_change_15 : decode cX8_change 15 = .ok (.invokevirtual 133, 3) := by decide +kernel
theorem dX8_change_18 : decode cX8_change 18 = .ok (.istore 4, 2) := by decide +kernel
theorem dX8_change_20 : decode cX8_change 20 = .ok (.iload 4, 2) := by decide +kernel
theorem dX8_change_22 : decode cX8_change 22 = .ok (.ifCond .lt 14, 3) := by decide +kernel
theorem dX8_change_25 : decode cX8_change 25 = .ok (.aload_n 0, 1) := by decide +kernel
theorem dX8_change_26 : decode cX8_change 26 = .ok (.getfield 25, 3) := by decide +kernel
theorem dX8_change_29 : decode cX8_change 29 = .ok (.aload_n 0, 1) := by decide +kernel
theorem dX8_change_30 : decode cX8_change 30 = .ok (.getfield 16, 3) := by decide +kernel
theorem dX8_change_33 : decode cX8_change 33 = .ok (.invokevirtual 140, 3) := by decide +kernel
theorem dX8_change_36 : decode cX8_change 36 = .ok (.iload 4, 2) := by decide +kernel
theorem dX8_change_38 : decode cX8_change 38 = .ok (.ireturn, 1) := by decide +kernel
theorem dX8_carryOut_0 : decode cX8_carryOut 0 = .ok (.aload_n 1, 1) := by decide +kernel
theorem dX8_carryOut_1 : decode cX8_carryOut 1 = .ok (.ifnonnull 5, 3) := by decide +kernel
theorem dX8_carryOut_4 : decode cX8_carryOut 4 = .ok (.iconst (-1), 1) := by decide +kernel
theorem dX8_carryOut_5 : decode cX8_carryOut 5 = .ok (.ireturn, 1) := by decide +kernel
theorem dX8_carryOut_6 : decode cX8_carryOut 6 = .ok (.getstatic 143, 3) := by decide +kernel
theorem dX8_carryOut_9 : decode cX8_carryOut 9 = .ok (.aload_n 1, 1) := by decide +kernel
theorem dX8_carryOut_10 : decode cX8_carryOut 10 = .ok (.invokevirtual 149, 3) := by decide +kernel
theorem dX8_carryOut_13 : decode cX8_carryOut 13 = .ok (.iaload, 1) := by decide +kernel
theorem dX8_carryOut_14 : decode cX8_carryOut 14 = .ok (.tableswitch 99 1 8 #[46, 52, 58, 64, 71, 77, 83, 91], 46) := by decide +kernel
theorem dX8_carryOut_60 : decode cX8_carryOut 60 = .ok (.aload_n 0, 1) := by decide +kernel
theorem dX8_carryOut_61 : decode cX8_carryOut 61 = .ok (.iload_n 2, 1) := by decide +kernel
theorem dX8_carryOut_62 : decode cX8_carryOut 62 = .ok (.invokevirtual 152, 3) := by decide +kernel
theorem dX8_carryOut_65 : decode cX8_carryOut 65 = .ok (.ireturn, 1) := by decide +kernel
theorem dX8_carryOut_66 : decode cX8_carryOut 66 = .ok (.aload_n 0, 1) := by decide +kernel
theorem dX8_carryOut_67 : decode cX8_carryOut 67 = .ok (.iload_n 2, 1) := by decide +kernel
theorem dX8_carryOut_68 : decode cX8_carryOut 68 = .ok (.invokevirtual 156, 3) := by decide +kernel
theorem dX8_carryOut_71 : decode cX8_carryOut 71 = .ok (.ireturn, 1) := by decide +kernel
theorem dX8_carryOut_72 : decode cX8_carryOut 72 = .ok (.aload_n 0, 1) := by decide +kernel
theorem dX8_carryOut_73 : decode cX8_carryOut 73 = .ok (.iload_n 2, 1) := by decide +kernel
theorem dX8_carryOut_74 : decode cX8_carryOut 74 = .ok (.invokevirtual 159, 3) := by decide +kernel
theorem dX8_carryOut_77 : decode cX8_carryOut 77 = .ok (.ireturn, 1) := by decide +kernel
theorem dX8_carryOut_78 : decode cX8_carryOut 78 = .ok (.aload_n 0, 1) := by decide +kernel
theorem dX8_carryOut_79 : decode cX8_carryOut 79 = .ok (.iload_n 2, 1) := by decide +kernel
theorem dX8_carryOut_80 : decode cX8_carryOut 80 = .ok (.iload_n 3, 1) := by decide +kernel
theorem dX8_carryOut_81 : decode cX8_carryOut 81 = .ok (.invokevirtual 162, 3) := by decide +kernel
theorem dX8_carryOut_84 : decode cX8_carryOut 84 = .ok (.ireturn, 1) := by decide +kernel
theorem dX8_carryOut_85 : decode cX8_carryOut 85 = .ok (.aload_n 0, 1) := by decide +kernel
theorem dX8_carryOut_86 : decode cX8_carryOut 86 = .ok (.iload_n 2, 1) := by decide +kernel
theorem dX8_carryOut_87 : decode cX8_carryOut 87 = .ok (.invokevirtual 165, 3) := by decide +kernel
theorem dX8_carryOut_90 : decode cX8_carryOut 90 = .ok (.ireturn, 1) := by decide +kernel
theorem dX8_carryOut_91 : decode cX8_carryOut 91 = .ok (.aload_n 0, 1) := by decide +kernel
theorem dX8_carryOut_92 : decode cX8_carryOut 92 = .ok (.iload_n 2, 1) := by decide +kernel
theorem dX8_carryOut_93 : decode cX8_carryOut 93 = .ok (.invokevirtual 168, 3) := by decide +kernel
theorem dX8_carryOut_96 : decode cX8_carryOut 96 = .ok (.ireturn, 1) := by decide +kernel
theorem dX8_carryOut_97 : decode cX8_carryOut 97 = .ok (.aload_n 0, 1) := by decide +kernel
theorem dX8_carryOut_98 : decode cX8_carryOut 98 = .ok (.iload_n 2, 1) := by decide +kernel
theorem dX8_carryOut_99 : decode cX8_carryOut 99 = .ok (.iload_n 3, 1) := by decide +kernel
theorem dX8_carryOut_100 : decode cX8_carryOut 100 = .ok (.iconst 1, 1) := by decide +kernel
theorem dX8_carryOut_101 : decode cX8_carryOut 101 = .ok (.invokevirtual 171, 3) := by decide +kernel
theorem dX8_carryOut_104 : decode cX8_carryOut 104 = .ok (.ireturn, 1) := by decide +kernel
theorem dX8_carryOut_105 : decode cX8_carryOut 105 = .ok (.aload_n 0, 1) := by decide +kernel
theorem dX8_carryOut_106 : decode cX8_carryOut 106 = .ok (.iload_n 2, 1) := by decide +kernel
theorem dX8_carryOut_107 : decode cX8_carryOut 107 = .ok (.iload_n 3, 1) := by decide +kernel
theorem dX8_carryOut_108 : decode cX8_carryOut 108 = .ok (.iconst 0, 1) := by decide +kernel
theorem dX8_carryOut_109 : decode cX8_carryOut 109 = .ok (.invokevirtual 171, 3) := by decide +kernel
theorem dX8_carryOut_112 : decode cX8_carryOut 112 = .ok (.ireturn, 1) := by decide +kernel
theorem dX8_carryOut_113 : decode cX8_carryOut 113 = .ok (.iload_n 2, 1) := by decide +kernel
theorem dX8_carryOut_114 : decode cX8_carryOut 114 = .ok (.iconst 1, 1) := by decide +kernel
theorem dX8_carryOut_115 : decode cX8_carryOut 115 = .ok (.if_icmp .lt 20, 3) := by decide +kernel
theorem dX8_carryOut_118 : decode cX8_carryOut 118 = .ok (.iload_n 2, 1) := by decide +kernel
theorem dX8_carryOut_119 : decode cX8_carryOut 119 = .ok (.bipush 20, 2) := by decide +kernel
theorem dX8_carryOut_121 : decode cX8_carryOut 121 = .ok (.if_icmp .gt 14, 3) := by decide +kernel
theorem dX8_carryOut_124 : decode cX8_carryOut 124 = .ok (.aload_n 0, 1) := by decide +kernel
theorem dX8_carryOut_125 : decode cX8_carryOut 125 = .ok (.getfield 12, 3) := by decide +kernel
theorem dX8_carryOut_128 : decode cX8_carryOut 128 = .ok (.iload_n 2, 1) := by decide +kernel
theorem dX8_carryOut_129 : decode cX8_carryOut 129 = .ok (.invokevirtual 175, 3) := by decide +kernel
theorem dX8_carryOut_132 : decode cX8_carryOut 132 = .ok (.goto 5, 3) := by decide +kernel
theorem dX8_carryOut_135 : decode cX8_carryOut 135 = .ok (.bipush (-2), 2) := by decide +kernel
theorem dX8_carryOut_137 : decode cX8_carryOut 137 = .ok (.ireturn, 1) := by decide +kernel
theorem dX8_letCome_0 : decode cX8_letCome 0 = .ok (.iload_n 1, 1) := by decide +kernel
theorem dX8_letCome_1 : decode cX8_letCome 1 = .ok (.iconst 1, 1) := by decide +kernel
theorem dX8_letCome_2 : decode cX8_letCome 2 = .ok (.if_icmp .lt 9, 3) := by decide +kernel
theorem dX8_letCome_5 : decode cX8_letCome 5 = .ok (.iload_n 1, 1) := by decide +kernel
theorem dX8_letCome_6 : decode cX8_letCome 6 = .ok (.bipush 9, 2) := by decide +kernel
theorem dX8_letCome_8 : decode cX8_letCome 8 = .ok (.if_icmp .le 6, 3) := by decide +kernel
theorem dX8_letCome_11 : decode cX8_letCome 11 = .ok (.bipush (-2), 2) := by decide +kernel
theorem dX8_letCome_13 : decode cX8_letCome 13 = .ok (.ireturn, 1) := by decide +kernel
theorem dX8_letCome_14 : decode cX8_letCome 14 = .ok (.aload_n 0, 1) := by decide +kernel
theorem dX8_letCome_15 : decode cX8_letCome 15 = .ok (.getfield 12, 3) := by decide +kernel
theorem dX8_letCome_18 : decode cX8_letCome 18 = .ok (.getfield 178, 3) := by decide +kernel
theorem dX8_letCome_21 : decode cX8_letCome 21 = .ok (.ifCond .le 17, 3) := by decide +kernel
theorem dX8_letCome_24 : decode cX8_letCome 24 = .ok (.aload_n 0, 1) := by decide +kernel
theorem dX8_letCome_25 : decode cX8_letCome 25 = .ok (.bipush 7, 2) := by decide +kernel
theorem dX8_letCome_27 : decode cX8_letCome 27 = .ok (.aload_n 0, 1) := by decide +kernel
theorem dX8_letCome_28 : decode cX8_letCome 28 = .ok (.getfield 12, 3) := by decide +kernel
theorem dX8_letCome_31 : decode cX8_letCome 31 = .ok (.getfield 178, 3) := by decide +kernel
theorem dX8_letCome_34 : decode cX8_letCome 34 = .ok (.invokevirtual 181, 3) := by decide +kernel
theorem dX8_letCome_37 : decode cX8_letCome 37 = .ok (.ireturn, 1) := by decide +kernel
theorem dX8_letCome_38 : decode cX8_letCome 38 = .ok (.aload_n 0, 1) := by decide +kernel
theorem dX8_letCome_39 : decode cX8_letCome 39 = .ok (.getfield 12, 3) := by decide +kernel
theorem dX8_letCome_42 : decode cX8_letCome 42 = .ok (.getfield 54, 3) := by decide +kernel
theorem dX8_letCome_45 : decode cX8_letCome 45 = .ok (.iconst 5, 1) := by decide +kernel
theorem dX8_letCome_46 : decode cX8_letCome 46 = .ok (.if_icmp .lt 10, 3) := by decide +kernel
theorem dX8_letCome_49 : decode cX8_letCome 49 = .ok (.aload_n 0, 1) := by decide +kernel
theorem dX8_letCome_50 : decode cX8_letCome 50 = .ok (.iconst 1, 1) := by decide +kernel
theorem dX8_letCome_51 : decode cX8_letCome 51 = .ok (.iconst 5, 1) := by decide +kernel
theorem dX8_letCome_52 : decode cX8_letCome 52 = .ok (.invokevirtual 181, 3) := by decide +kernel
theorem dX8_letCome_55 : decode cX8_letCome 55 = .ok (.ireturn, 1) := by decide +kernel
theorem dX8_letCome_56 : decode cX8_letCome 56 = .ok (.aload_n 0, 1) := by decide +kernel
theorem dX8_letCome_57 : decode cX8_letCome 57 = .ok (.getfield 12, 3) := by decide +kernel
theorem dX8_letCome_60 : decode cX8_letCome 60 = .ok (.iload_n 1, 1) := by decide +kernel
theorem dX8_letCome_61 : decode cX8_letCome 61 = .ok (.invokevirtual 184, 3) := by decide +kernel
theorem dX8_letCome_64 : decode cX8_letCome 64 = .ok (.ireturn, 1) := by decide +kernel
theorem dX8_letAsk_0 : decode cX8_letAsk 0 = .ok (.aload_n 0, 1) := by decide +kernel
theorem dX8_letAsk_1 : decode cX8_letAsk 1 = .ok (.getfield 12, 3) := by decide +kernel
theorem dX8_letAsk_4 : decode cX8_letAsk 4 = .ok (.iload_n 1, 1) := by decide +kernel
theorem dX8_letAsk_5 : decode cX8_letAsk 5 = .ok (.invokevirtual 187, 3) := by decide +kernel
theorem dX8_letAsk_8 : decode cX8_letAsk 8 = .ok (.ifCond .ne 5, 3) := by decide +kernel
theorem dX8_letAsk_11 : decode cX8_letAsk 11 = .ok (.iconst (-1), 1) := by decide +kernel
theorem dX8_letAsk_12 : decode cX8_letAsk 12 = .ok (.ireturn, 1) := by decide +kernel
theorem dX8_letAsk_13 : decode cX8_letAsk 13 = .ok (.aload_n 0, 1) := by decide +kernel
theorem dX8_letAsk_14 : decode cX8_letAsk 14 = .ok (.getfield 12, 3) := by decide +kernel
theorem dX8_letAsk_17 : decode cX8_letAsk 17 = .ok (.getfield 191, 3) := by decide +kernel
theorem dX8_letAsk_20 : decode cX8_letAsk 20 = .ok (.iload_n 1, 1) := by decide +kernel
theorem dX8_letAsk_21 : decode cX8_letAsk 21 = .ok (.aaload, 1) := by decide +kernel
theorem dX8_letAsk_22 : decode cX8_letAsk 22 = .ok (.astore_n 2, 1) := by decide +kernel
theorem dX8_letAsk_23 : decode cX8_letAsk 23 = .ok (.aload_n 2, 1) := by decide +kernel
theorem dX8_letAsk_24 : decode cX8_letAsk 24 = .ok (.getfield 195, 3) := by decide +kernel
theorem dX8_letAsk_27 : decode cX8_letAsk 27 = .ok (.ifCond .ne 10, 3) := by decide +kernel
theorem dX8_letAsk_30 : decode cX8_letAsk 30 = .ok (.aload_n 0, 1) := by decide +kernel
theorem dX8_letAsk_31 : decode cX8_letAsk 31 = .ok (.iconst 2, 1) := by decide +kernel
theorem dX8_letAsk_32 : decode cX8_letAsk 32 = .ok (.iload_n 1, 1) := by decide +kernel
theorem dX8_letAsk_33 : decode cX8_letAsk 33 = .ok (.invokevirtual 181, 3) := by decide +kernel
theorem dX8_letAsk_36 : decode cX8_letAsk 36 = .ok (.ireturn, 1) := by decide +kernel
theorem dX8_letAsk_37 : decode cX8_letAsk 37 = .ok (.aload_n 2, 1) := by decide +kernel
theorem dX8_letAsk_38 : decode cX8_letAsk 38 = .ok (.getfield 201, 3) := by decide +kernel
theorem dX8_letAsk_41 : decode cX8_letAsk 41 = .ok (.iconst 2, 1) := by decide +kernel
theorem dX8_letAsk_42 : decode cX8_letAsk 42 = .ok (.if_icmp .ne 13, 3) := by decide +kernel
theorem dX8_letAsk_45 : decode cX8_letAsk 45 = .ok (.aload_n 0, 1) := by decide +kernel
theorem dX8_letAsk_46 : decode cX8_letAsk 46 = .ok (.iconst 3, 1) := by decide +kernel
theorem dX8_letAsk_47 : decode cX8_letAsk 47 = .ok (.aload_n 2, 1) := by decide +kernel
theorem dX8_letAsk_48 : decode cX8_letAsk 48 = .ok (.getfield 204, 3) := by decide +kernel
theorem dX8_letAsk_51 : decode cX8_letAsk 51 = .ok (.invokevirtual 181, 3) := by decide +kernel
theorem dX8_letAsk_54 : decode cX8_letAsk 54 = .ok (.ireturn, 1) := by decide +kernel
theorem dX8_letAsk_55 : decode cX8_letAsk 55 = .ok (.aload_n 0, 1) := by decide +kernel
theorem dX8_letAsk_56 : decode cX8_letAsk 56 = .ok (.getfield 12, 3) := by decide +kernel
theorem dX8_letAsk_59 : decode cX8_letAsk 59 = .ok (.iload_n 1, 1) := by decide +kernel
theorem dX8_letAsk_60 : decode cX8_letAsk 60 = .ok (.invokevirtual 207, 3) := by decide +kernel
theorem dX8_letAsk_63 : decode cX8_letAsk 63 = .ok (.ireturn, 1) := by decide +kernel
theorem dX8_letSend_0 : decode cX8_letSend 0 = .ok (.aload_n 0, 1) := by decide +kernel
theorem dX8_letSend_1 : decode cX8_letSend 1 = .ok (.getfield 12, 3) := by decide +kernel
theorem dX8_letSend_4 : decode cX8_letSend 4 = .ok (.iload_n 1, 1) := by decide +kernel
theorem dX8_letSend_5 : decode cX8_letSend 5 = .ok (.invokevirtual 187, 3) := by decide +kernel
theorem dX8_letSend_8 : decode cX8_letSend 8 = .ok (.ifCond .ne 5, 3) := by decide +kernel
theorem dX8_letSend_11 : decode cX8_letSend 11 = .ok (.iconst (-1), 1) := by decide +kernel
theorem dX8_letSend_12 : decode cX8_letSend 12 = .ok (.ireturn, 1) := by decide +kernel
theorem dX8_letSend_13 : decode cX8_letSend 13 = .ok (.aload_n 0, 1) := by decide +kernel
theorem dX8_letSend_14 : decode cX8_letSend 14 = .ok (.getfield 12, 3) := by decide +kernel
theorem dX8_letSend_17 : decode cX8_letSend 17 = .ok (.getfield 191, 3) := by decide +kernel
theorem dX8_letSend_20 : decode cX8_letSend 20 = .ok (.iload_n 1, 1) := by decide +kernel
theorem dX8_letSend_21 : decode cX8_letSend 21 = .ok (.aaload, 1) := by decide +kernel
theorem dX8_letSend_22 : decode cX8_letSend 22 = .ok (.astore_n 2, 1) := by decide +kernel
theorem dX8_letSend_23 : decode cX8_letSend 23 = .ok (.aload_n 2, 1) := by decide +kernel
theorem dX8_letSend_24 : decode cX8_letSend 24 = .ok (.getfield 195, 3) := by decide +kernel
theorem dX8_letSend_27 : decode cX8_letSend 27 = .ok (.ifCond .ne 10, 3) := by decide +kernel
theorem dX8_letSend_30 : decode cX8_letSend 30 = .ok (.aload_n 0, 1) := by decide +kernel
theorem dX8_letSend_31 : decode cX8_letSend 31 = .ok (.iconst 2, 1) := by decide +kernel
theorem dX8_letSend_32 : decode cX8_letSend 32 = .ok (.iload_n 1, 1) := by decide +kernel
theorem dX8_letSend_33 : decode cX8_letSend 33 = .ok (.invokevirtual 181, 3) := by decide +kernel
theorem dX8_letSend_36 : decode cX8_letSend 36 = .ok (.ireturn, 1) := by decide +kernel
theorem dX8_letSend_37 : decode cX8_letSend 37 = .ok (.aload_n 2, 1) := by decide +kernel
theorem dX8_letSend_38 : decode cX8_letSend 38 = .ok (.getfield 201, 3) := by decide +kernel
theorem dX8_letSend_41 : decode cX8_letSend 41 = .ok (.iconst 2, 1) := by decide +kernel
theorem dX8_letSend_42 : decode cX8_letSend 42 = .ok (.if_icmp .eq 13, 3) := by decide +kernel
theorem dX8_letSend_45 : decode cX8_letSend 45 = .ok (.aload_n 0, 1) := by decide +kernel
theorem dX8_letSend_46 : decode cX8_letSend 46 = .ok (.iconst 4, 1) := by decide +kernel
theorem dX8_letSend_47 : decode cX8_letSend 47 = .ok (.aload_n 2, 1) := by decide +kernel
theorem dX8_letSend_48 : decode cX8_letSend 48 = .ok (.getfield 204, 3) := by decide +kernel
theorem dX8_letSend_51 : decode cX8_letSend 51 = .ok (.invokevirtual 181, 3) := by decide +kernel
theorem dX8_letSend_54 : decode cX8_letSend 54 = .ok (.ireturn, 1) := by decide +kernel
theorem dX8_letSend_55 : decode cX8_letSend 55 = .ok (.aload_n 0, 1) := by decide +kernel
theorem dX8_letSend_56 : decode cX8_letSend 56 = .ok (.getfield 12, 3) := by decide +kernel
theorem dX8_letSend_59 : decode cX8_letSend 59 = .ok (.iload_n 1, 1) := by decide +kernel
theorem dX8_letSend_60 : decode cX8_letSend 60 = .ok (.invokevirtual 210, 3) := by decide +kernel
theorem dX8_letSend_63 : decode cX8_letSend 63 = .ok (.ireturn, 1) := by decide +kernel
theorem dX8_letShout_0 : decode cX8_letShout 0 = .ok (.aload_n 0, 1) := by decide +kernel
theorem dX8_letShout_1 : decode cX8_letShout 1 = .ok (.getfield 12, 3) := by decide +kernel
theorem dX8_letShout_4 : decode cX8_letShout 4 = .ok (.iload_n 1, 1) := by decide +kernel
theorem dX8_letShout_5 : decode cX8_letShout 5 = .ok (.invokevirtual 187, 3) := by decide +kernel
theorem dX8_letShout_8 : decode cX8_letShout 8 = .ok (.ifCond .ne 5, 3) := by decide +kernel
theorem dX8_letShout_11 : decode cX8_letShout 11 = .ok (.iconst (-1), 1) := by decide +kernel
theorem dX8_letShout_12 : decode cX8_letShout 12 = .ok (.ireturn, 1) := by decide +kernel
theorem dX8_letShout_13 : decode cX8_letShout 13 = .ok (.iload_n 2, 1) := by decide +kernel
theorem dX8_letShout_14 : decode cX8_letShout 14 = .ok (.bipush 97, 2) := by decide +kernel
theorem dX8_letShout_16 : decode cX8_letShout 16 = .ok (.if_icmp .lt 9, 3) := by decide +kernel
theorem dX8_letShout_19 : decode cX8_letShout 19 = .ok (.iload_n 2, 1) := by decide +kernel
theorem dX8_letShout_20 : decode cX8_letShout 20 = .ok (.bipush 122, 2) := by decide +kernel
theorem dX8_letShout_22 : decode cX8_letShout 22 = .ok (.if_icmp .le 6, 3) := by decide +kernel
theorem dX8_letShout_25 : decode cX8_letShout 25 = .ok (.bipush (-2), 2) := by decide +kernel
theorem dX8_letShout_27 : decode cX8_letShout 27 = .ok (.ireturn, 1) := by decide +kernel
theorem dX8_letShout_28 : decode cX8_letShout 28 = .ok (.aload_n 0, 1) := by decide +kernel
theorem dX8_letShout_29 : decode cX8_letShout 29 = .ok (.getfield 12, 3) := by decide +kernel
theorem dX8_letShout_32 : decode cX8_letShout 32 = .ok (.getfield 191, 3) := by decide +kernel
theorem dX8_letShout_35 : decode cX8_letShout 35 = .ok (.iload_n 1, 1) := by decide +kernel
theorem dX8_letShout_36 : decode cX8_letShout 36 = .ok (.aaload, 1) := by decide +kernel
theorem dX8_letShout_37 : decode cX8_letShout 37 = .ok (.astore_n 3, 1) := by decide +kernel
theorem dX8_letShout_38 : decode cX8_letShout 38 = .ok (.aload_n 3, 1) := by decide +kernel
theorem dX8_letShout_39 : decode cX8_letShout 39 = .ok (.getfield 195, 3) := by decide +kernel
theorem dX8_letShout_42 : decode cX8_letShout 42 = .ok (.ifCond .ne 10, 3) := by decide +kernel
theorem dX8_letShout_45 : decode cX8_letShout 45 = .ok (.aload_n 0, 1) := by decide +kernel
theorem dX8_letShout_46 : decode cX8_letShout 46 = .ok (.iconst 2, 1) := by decide +kernel
theorem dX8_letShout_47 : decode cX8_letShout 47 = .ok (.iload_n 1, 1) := by decide +kernel
theorem dX8_letShout_48 : decode cX8_letShout 48 = .ok (.invokevirtual 181, 3) := by decide +kernel
theorem dX8_letShout_51 : decode cX8_letShout 51 = .ok (.ireturn, 1) := by decide +kernel
theorem dX8_letShout_52 : decode cX8_letShout 52 = .ok (.aload_n 3, 1) := by decide +kernel
theorem dX8_letShout_53 : decode cX8_letShout 53 = .ok (.getfield 201, 3) := by decide +kernel
theorem dX8_letShout_56 : decode cX8_letShout 56 = .ok (.iconst 2, 1) := by decide +kernel
theorem dX8_letShout_57 : decode cX8_letShout 57 = .ok (.if_icmp .eq 13, 3) := by decide +kernel
theorem dX8_letShout_60 : decode cX8_letShout 60 = .ok (.aload_n 0, 1) := by decide +kernel
theorem dX8_letShout_61 : decode cX8_letShout 61 = .ok (.iconst 4, 1) := by decide +kernel
theorem dX8_letShout_62 : decode cX8_letShout 62 = .ok (.aload_n 3, 1) := by decide +kernel
theorem dX8_letShout_63 : decode cX8_letShout 63 = .ok (.getfield 204, 3) := by decide +kernel
theorem dX8_letShout_66 : decode cX8_letShout 66 = .ok (.invokevirtual 181, 3) := by decide +kernel
theorem dX8_letShout_69 : decode cX8_letShout 69 = .ok (.ireturn, 1) := by decide +kernel
theorem dX8_letShout_70 : decode cX8_letShout 70 = .ok (.aload_n 3, 1) := by decide +kernel
theorem dX8_letShout_71 : decode cX8_letShout 71 = .ok (.getfield 213, 3) := by decide +kernel
theorem dX8_letShout_74 : decode cX8_letShout 74 = .ok (.bipush 12, 2) := by decide +kernel
theorem dX8_letShout_76 : decode cX8_letShout 76 = .ok (.if_icmp .lt 11, 3) := by decide +kernel
theorem dX8_letShout_79 : decode cX8_letShout 79 = .ok (.aload_n 0, 1) := by decide +kernel
theorem dX8_letShout_80 : decode cX8_letShout 80 = .ok (.iconst 1, 1) := by decide +kernel
theorem dX8_letShout_81 : decode cX8_letShout 81 = .ok (.bipush 12, 2) := by decide +kernel
theorem dX8_letShout_83 : decode cX8_letShout 83 = .ok (.invokevirtual 181, 3) := by decide +kernel
theorem dX8_letShout_86 : decode cX8_letShout 86 = .ok (.ireturn, 1) := by decide +kernel
theorem dX8_letShout_87 : decode cX8_letShout 87 = .ok (.aload_n 0, 1) := by decide +kernel
theorem dX8_letShout_88 : decode cX8_letShout 88 = .ok (.getfield 12, 3) := by decide +kernel
theorem dX8_letShout_91 : decode cX8_letShout 91 = .ok (.dup, 1) := by decide +kernel
theorem dX8_letShout_92 : decode cX8_letShout 92 = .ok (.getfield 216, 3) := by decide +kernel
theorem dX8_letShout_95 : decode cX8_letShout 95 = .ok (.iconst 1, 1) := by decide +kernel
theorem dX8_letShout_96 : decode cX8_letShout 96 = .ok (.iadd, 1) := by decide +kernel
theorem dX8_letShout_97 : decode cX8_letShout 97 = .ok (.putfield 216, 3) := by decide +kernel
theorem dX8_letShout_100 : decode cX8_letShout 100 = .ok (.aload_n 3, 1) := by decide +kernel
theorem dX8_letShout_101 : decode cX8_letShout 101 = .ok (.aload_n 3, 1) := by decide +kernel
theorem dX8_letShout_102 : decode cX8_letShout 102 = .ok (.getfield 204, 3) := by decide +kernel
theorem dX8_letShout_105 : decode cX8_letShout 105 = .ok (.iload_n 2, 1) := by decide +kernel
theorem dX8_letShout_106 : decode cX8_letShout 106 = .ok (.i2c, 1) := by decide +kernel
theorem dX8_letShout_107 : decode cX8_letShout 107 = .ok (.invokevirtual 219, 3) := by decide +kernel
theorem dX8_letShout_110 : decode cX8_letShout 110 = .ok (.aload_n 3, 1) := by decide +kernel
theorem dX8_letShout_111 : decode cX8_letShout 111 = .ok (.getfield 213, 3) := by decide +kernel
theorem dX8_letShout_114 : decode cX8_letShout 114 = .ok (.ireturn, 1) := by decide +kernel
theorem dX8_washAway_0 : decode cX8_washAway 0 = .ok (.aload_n 0, 1) := by decide +kernel
theorem dX8_washAway_1 : decode cX8_washAway 1 = .ok (.getfield 12, 3) := by decide +kernel
theorem dX8_washAway_4 : decode cX8_washAway 4 = .ok (.iload_n 1, 1) := by decide +kernel
theorem dX8_washAway_5 : decode cX8_washAway 5 = .ok (.invokevirtual 187, 3) := by decide +kernel
theorem dX8_washAway_8 : decode cX8_washAway 8 = .ok (.ifCond .ne 5, 3) := by decide +kernel
theorem dX8_washAway_11 : decode cX8_washAway 11 = .ok (.iconst (-1), 1) := by decide +kernel
theorem dX8_washAway_12 : decode cX8_washAway 12 = .ok (.ireturn, 1) := by decide +kernel
theorem dX8_washAway_13 : decode cX8_washAway 13 = .ok (.aload_n 0, 1) := by decide +kernel
theorem dX8_washAway_14 : decode cX8_washAway 14 = .ok (.getfield 12, 3) := by decide +kernel
theorem dX8_washAway_17 : decode cX8_washAway 17 = .ok (.getfield 191, 3) := by decide +kernel
theorem dX8_washAway_20 : decode cX8_washAway 20 = .ok (.iload_n 1, 1) := by decide +kernel
theorem dX8_washAway_21 : decode cX8_washAway 21 = .ok (.aaload, 1) := by decide +kernel
theorem dX8_washAway_22 : decode cX8_washAway 22 = .ok (.astore_n 2, 1) := by decide +kernel
theorem dX8_washAway_23 : decode cX8_washAway 23 = .ok (.aload_n 2, 1) := by decide +kernel
theorem dX8_washAway_24 : decode cX8_washAway 24 = .ok (.getfield 195, 3) := by decide +kernel
theorem dX8_washAway_27 : decode cX8_washAway 27 = .ok (.ifCond .ne 10, 3) := by decide +kernel
theorem dX8_washAway_30 : decode cX8_washAway 30 = .ok (.aload_n 0, 1) := by decide +kernel
theorem dX8_washAway_31 : decode cX8_washAway 31 = .ok (.iconst 2, 1) := by decide +kernel
theorem dX8_washAway_32 : decode cX8_washAway 32 = .ok (.iload_n 1, 1) := by decide +kernel
theorem dX8_washAway_33 : decode cX8_washAway 33 = .ok (.invokevirtual 181, 3) := by decide +kernel
theorem dX8_washAway_36 : decode cX8_washAway 36 = .ok (.ireturn, 1) := by decide +kernel
theorem dX8_washAway_37 : decode cX8_washAway 37 = .ok (.aload_n 2, 1) := by decide +kernel
theorem dX8_washAway_38 : decode cX8_washAway 38 = .ok (.iconst 0, 1) := by decide +kernel
theorem dX8_washAway_39 : decode cX8_washAway 39 = .ok (.putfield 195, 3) := by decide +kernel
theorem dX8_washAway_42 : decode cX8_washAway 42 = .ok (.aload_n 2, 1) := by decide +kernel
theorem dX8_washAway_43 : decode cX8_washAway 43 = .ok (.iconst 0, 1) := by decide +kernel
theorem dX8_washAway_44 : decode cX8_washAway 44 = .ok (.putfield 201, 3) := by decide +kernel
theorem dX8_washAway_47 : decode cX8_washAway 47 = .ok (.aload_n 0, 1) := by decide +kernel
theorem dX8_washAway_48 : decode cX8_washAway 48 = .ok (.getfield 12, 3) := by decide +kernel
theorem dX8_washAway_51 : decode cX8_washAway 51 = .ok (.invokevirtual 223, 3) := by decide +kernel
theorem dX8_washAway_54 : decode cX8_washAway 54 = .ok (.ireturn, 1) := by decide +kernel
theorem dX8_bringBack_0 : decode cX8_bringBack 0 = .ok (.aload_n 0, 1) := by decide +kernel
theorem dX8_bringBack_1 : decode cX8_bringBack 1 = .ok (.getfield 12, 3) := by decide +kernel
theorem dX8_bringBack_4 : decode cX8_bringBack 4 = .ok (.iload_n 1, 1) := by decide +kernel
theorem dX8_bringBack_5 : decode cX8_bringBack 5 = .ok (.invokevirtual 187, 3) := by decide +kernel
theorem dX8_bringBack_8 : decode cX8_bringBack 8 = .ok (.ifCond .ne 5, 3) := by decide +kernel
theorem dX8_bringBack_11 : decode cX8_bringBack 11 = .ok (.iconst (-1), 1) := by decide +kernel
theorem dX8_bringBack_12 : decode cX8_bringBack 12 = .ok (.ireturn, 1) := by decide +kernel
theorem dX8_bringBack_13 : decode cX8_bringBack 13 = .ok (.aload_n 0, 1) := by decide +kernel
theorem dX8_bringBack_14 : decode cX8_bringBack 14 = .ok (.getfield 12, 3) := by decide +kernel
theorem dX8_bringBack_17 : decode cX8_bringBack 17 = .ok (.getfield 191, 3) := by decide +kernel
theorem dX8_bringBack_20 : decode cX8_bringBack 20 = .ok (.iload_n 1, 1) := by decide +kernel
theorem dX8_bringBack_21 : decode cX8_bringBack 21 = .ok (.aaload, 1) := by decide +kernel
theorem dX8_bringBack_22 : decode cX8_bringBack 22 = .ok (.astore_n 2, 1) := by decide +kernel
theorem dX8_bringBack_23 : decode cX8_bringBack 23 = .ok (.aload_n 2, 1) := by decide +kernel
theorem dX8_bringBack_24 : decode cX8_bringBack 24 = .ok (.getfield 195, 3) := by decide +kernel
theorem dX8_bringBack_27 : decode cX8_bringBack 27 = .ok (.ifCond .eq 11, 3) := by decide +kernel
theorem dX8_bringBack_30 : decode cX8_bringBack 30 = .ok (.aload_n 0, 1) := by decide +kernel
theorem dX8_bringBack_31 : decode cX8_bringBack 31 = .ok (.bipush 6, 2) := by decide +kernel
theorem dX8_bringBack_33 : decode cX8_bringBack 33 = .ok (.iload_n 1, 1) := by decide +kernel
theorem dX8_bringBack_34 : decode cX8_bringBack 34 = .ok (.invokevirtual 181, 3) := by decide +kernel
theorem dX8_bringBack_37 : decode cX8_bringBack 37 = .ok (.ireturn, 1) := by decide +kernel
theorem dX8_bringBack_38 : decode cX8_bringBack 38 = .ok (.aload_n 2, 1) := by decide +kernel
theorem dX8_bringBack_39 : decode cX8_bringBack 39 = .ok (.iconst 1, 1) := by decide +kernel
theorem dX8_bringBack_40 : decode cX8_bringBack 40 = .ok (.putfield 195, 3) := by decide +kernel
theorem dX8_bringBack_43 : decode cX8_bringBack 43 = .ok (.aload_n 2, 1) := by decide +kernel
theorem dX8_bringBack_44 : decode cX8_bringBack 44 = .ok (.iconst 0, 1) := by decide +kernel
theorem dX8_bringBack_45 : decode cX8_bringBack 45 = .ok (.putfield 226, 3) := by decide +kernel
theorem dX8_bringBack_48 : decode cX8_bringBack 48 = .ok (.aload_n 0, 1) := by decide +kernel
theorem dX8_bringBack_49 : decode cX8_bringBack 49 = .ok (.getfield 12, 3) := by decide +kernel
theorem dX8_bringBack_52 : decode cX8_bringBack 52 = .ok (.invokevirtual 223, 3) := by decide +kernel
theorem dX8_bringBack_55 : decode cX8_bringBack 55 = .ok (.ireturn, 1) := by decide +kernel
theorem dX8_changeRope_0 : decode cX8_changeRope 0 = .ok (.aload_n 0, 1) := by decide +kernel
theorem dX8_changeRope_1 : decode cX8_changeRope 1 = .ok (.getfield 12, 3) := by decide +kernel
theorem dX8_changeRope_4 : decode cX8_changeRope 4 = .ok (.iload_n 1, 1) := by decide +kernel
theorem dX8_changeRope_5 : decode cX8_changeRope 5 = .ok (.invokevirtual 187, 3) := by decide +kernel
theorem dX8_changeRope_8 : decode cX8_changeRope 8 = .ok (.ifCond .eq 14, 3) := by decide +kernel
theorem dX8_changeRope_11 : decode cX8_changeRope 11 = .ok (.aload_n 0, 1) := by decide +kernel
theorem dX8_changeRope_12 : decode cX8_changeRope 12 = .ok (.getfield 12, 3) := by decide +kernel
theorem dX8_changeRope_15 : decode cX8_changeRope 15 = .ok (.iload_n 2, 1) := by decide +kernel
theorem dX8_changeRope_16 : decode cX8_changeRope 16 = .ok (.invokevirtual 187, 3) := by decide +kernel
theorem dX8_changeRope_19 : decode cX8_changeRope 19 = .ok (.ifCond .ne 5, 3) := by decide +kernel
theorem dX8_changeRope_22 : decode cX8_changeRope 22 = .ok (.iconst (-1), 1) := by decide +kernel
theorem dX8_changeRope_23 : decode cX8_changeRope 23 = .ok (.ireturn, 1) := by decide +kernel
theorem dX8_changeRope_24 : decode cX8_changeRope 24 = .ok (.iload_n 1, 1) := by decide +kernel
theorem dX8_changeRope_25 : decode cX8_changeRope 25 = .ok (.iload_n 2, 1) := by decide +kernel
theorem dX8_changeRope_26 : decode cX8_changeRope 26 = .ok (.if_icmp .ne 10, 3) := by decide +kernel
theorem dX8_changeRope_29 : decode cX8_changeRope 29 = .ok (.aload_n 0, 1) := by decide +kernel
theorem dX8_changeRope_30 : decode cX8_changeRope 30 = .ok (.iconst 5, 1) := by decide +kernel
theorem dX8_changeRope_31 : decode cX8_changeRope 31 = .ok (.iload_n 1, 1) := by decide +kernel
theorem dX8_changeRope_32 : decode cX8_changeRope 32 = .ok (.invokevirtual 181, 3) := by decide +kernel
theorem dX8_changeRope_35 : decode cX8_changeRope 35 = .ok (.ireturn, 1) := by decide +kernel
theorem dX8_changeRope_36 : decode cX8_changeRope 36 = .ok (.aload_n 0, 1) := by decide +kernel
theorem dX8_changeRope_37 : decode cX8_changeRope 37 = .ok (.getfield 12, 3) := by decide +kernel
theorem dX8_changeRope_40 : decode cX8_changeRope 40 = .ok (.iload_n 1, 1) := by decide +kernel
theorem dX8_changeRope_41 : decode cX8_changeRope 41 = .ok (.iload_n 2, 1) := by decide +kernel
theorem dX8_changeRope_42 : decode cX8_changeRope 42 = .ok (.invokevirtual 229, 3) := by decide +kernel
theorem dX8_changeRope_45 : decode cX8_changeRope 45 = .ok (.iload_n 3, 1) := by decide +kernel
theorem dX8_changeRope_46 : decode cX8_changeRope 46 = .ok (.if_icmp .ne 15, 3) := by decide +kernel
theorem dX8_changeRope_49 : decode cX8_changeRope 49 = .ok (.aload_n 0, 1) := by decide +kernel
theorem dX8_changeRope_50 : decode cX8_changeRope 50 = .ok (.bipush 6, 2) := by decide +kernel
theorem dX8_changeRope_52 : decode cX8_changeRope 52 = .ok (.iload_n 1, 1) := by decide +kernel
theorem dX8_changeRope_53 : decode cX8_changeRope 53 = .ok (.iload_n 2, 1) := by decide +kernel
theorem dX8_changeRope_54 : decode cX8_changeRope 54 = .ok (.invokestatic 233, 3) := by decide +kernel
theorem dX8_changeRope_57 : decode cX8_changeRope 57 = .ok (.invokevirtual 181, 3) := by decide +kernel
theorem dX8_changeRope_60 : decode cX8_changeRope 60 = .ok (.ireturn, 1) := by decide +kernel
theorem dX8_changeRope_61 : decode cX8_changeRope 61 = .ok (.aload_n 0, 1) := by decide +kernel
theorem dX8_changeRope_62 : decode cX8_changeRope 62 = .ok (.getfield 12, 3) := by decide +kernel
theorem dX8_changeRope_65 : decode cX8_changeRope 65 = .ok (.iload_n 1, 1) := by decide +kernel
theorem dX8_changeRope_66 : decode cX8_changeRope 66 = .ok (.iload_n 2, 1) := by decide +kernel
theorem dX8_changeRope_67 : decode cX8_changeRope 67 = .ok (.iload_n 3, 1) := by decide +kernel
theorem dX8_changeRope_68 : decode cX8_changeRope 68 = .ok (.invokevirtual 238, 3) := by decide +kernel
theorem dX8_changeRope_71 : decode cX8_changeRope 71 = .ok (.aload_n 0, 1) := by decide +kernel
theorem dX8_changeRope_72 : decode cX8_changeRope 72 = .ok (.getfield 12, 3) := by decide +kernel
theorem dX8_changeRope_75 : decode cX8_changeRope 75 = .ok (.invokevirtual 242, 3) := by decide +kernel
theorem dX8_changeRope_78 : decode cX8_changeRope 78 = .ok (.ireturn, 1) := by decide +kernel
theorem dX8_refuse_0 : decode cX8_refuse 0 = .ok (.aload_n 0, 1) := by decide +kernel
theorem dX8_refuse_1 : decode cX8_refuse 1 = .ok (.getfield 32, 3) := by decide +kernel
theorem dX8_refuse_4 : decode cX8_refuse 4 = .ok (.iload_n 1, 1) := by decide +kernel
theorem dX8_refuse_5 : decode cX8_refuse 5 = .ok (.iload_n 2, 1) := by decide +kernel
theorem dX8_refuse_6 : decode cX8_refuse 6 = .ok (.invokevirtual 245, 3) := by decide +kernel
theorem dX8_refuse_9 : decode cX8_refuse 9 = .ok (.bipush (-3), 2) := by decide +kernel
theorem dX8_refuse_11 : decode cX8_refuse 11 = .ok (.ireturn, 1) := by decide +kernel
theorem dX8_refuseCommand_0 : decode cX8_refuseCommand 0 = .ok (.iload_n 2, 1) := by decide +kernel
theorem dX8_refuseCommand_1 : decode cX8_refuseCommand 1 = .ok (.bipush (-3), 2) := by decide +kernel
theorem dX8_refuseCommand_3 : decode cX8_refuseCommand 3 = .ok (.if_icmp .ne 16, 3) := by decide +kernel
theorem dX8_refuseCommand_6 : decode cX8_refuseCommand 6 = .ok (.aload_n 0, 1) := by decide +kernel
theorem dX8_refuseCommand_7 : decode cX8_refuseCommand 7 = .ok (.getfield 32, 3) := by decide +kernel
theorem dX8_refuseCommand_10 : decode cX8_refuseCommand 10 = .ok (.bipush 8, 2) := by decide +kernel
theorem dX8_refuseCommand_12 : decode cX8_refuseCommand 12 = .ok (.iload_n 1, 1) := by decide +kernel
theorem dX8_refuseCommand_13 : decode cX8_refuseCommand 13 = .ok (.invokevirtual 249, 3) := by decide +kernel
theorem dX8_refuseCommand_16 : decode cX8_refuseCommand 16 = .ok (.goto 13, 3) := by decide +kernel
theorem dX8_refuseCommand_19 : decode cX8_refuseCommand 19 = .ok (.aload_n 0, 1) := by decide +kernel
theorem dX8_refuseCommand_20 : decode cX8_refuseCommand 20 = .ok (.getfield 32, 3) := by decide +kernel
theorem dX8_refuseCommand_23 : decode cX8_refuseCommand 23 = .ok (.bipush 9, 2) := by decide +kernel
theorem dX8_refuseCommand_25 : decode cX8_refuseCommand 25 = .ok (.iload_n 1, 1) := by decide +kernel
theorem dX8_refuseCommand_26 : decode cX8_refuseCommand 26 = .ok (.invokevirtual 245, 3) := by decide +kernel
theorem dX8_refuseCommand_29 : decode cX8_refuseCommand 29 = .ok (.bipush (-3), 2) := by decide +kernel
theorem dX8_refuseCommand_31 : decode cX8_refuseCommand 31 = .ok (.ireturn, 1) := by decide +kernel
theorem dX8_fault_0 : decode cX8_fault 0 = .ok (.aload_n 0, 1) := by decide +kernel
theorem dX8_fault_1 : decode cX8_fault 1 = .ok (.getfield 50, 3) := by decide +kernel
theorem dX8_fault_4 : decode cX8_fault 4 = .ok (.ireturn, 1) := by decide +kernel
theorem dX8_reason_0 : decode cX8_reason 0 = .ok (.iload_n 1, 1) := by decide +kernel
theorem dX8_reason_1 : decode cX8_reason 1 = .ok (.ifCond .lt 8, 3) := by decide +kernel
theorem dX8_reason_4 : decode cX8_reason 4 = .ok (.iload_n 1, 1) := by decide +kernel
theorem dX8_reason_5 : decode cX8_reason 5 = .ok (.iconst 1, 1) := by decide +kernel
theorem dX8_reason_6 : decode cX8_reason 6 = .ok (.if_icmp .le 6, 3) := by decide +kernel
theorem dX8_reason_9 : decode cX8_reason 9 = .ok (.bipush (-2), 2) := by decide +kernel
theorem dX8_reason_11 : decode cX8_reason 11 = .ok (.ireturn, 1) := by decide +kernel
theorem dX8_reason_12 : decode cX8_reason 12 = .ok (.iload_n 1, 1) := by decide +kernel
theorem dX8_reason_13 : decode cX8_reason 13 = .ok (.ifCond .ne 13, 3) := by decide +kernel
theorem dX8_reason_16 : decode cX8_reason 16 = .ok (.aload_n 0, 1) := by decide +kernel
theorem dX8_reason_17 : decode cX8_reason 17 = .ok (.getfield 32, 3) := by decide +kernel
theorem dX8_reason_20 : decode cX8_reason 20 = .ok (.getfield 252, 3) := by decide +kernel
theorem dX8_reason_23 : decode cX8_reason 23 = .ok (.goto 10, 3) := by decide +kernel
theorem dX8_reason_26 : decode cX8_reason 26 = .ok (.aload_n 0, 1) := by decide +kernel
theorem dX8_reason_27 : decode cX8_reason 27 = .ok (.getfield 32, 3) := by decide +kernel
theorem dX8_reason_30 : decode cX8_reason 30 = .ok (.getfield 255, 3) := by decide +kernel
theorem dX8_reason_33 : decode cX8_reason 33 = .ok (.istore_n 3, 1) := by decide +kernel
theorem dX8_reason_34 : decode cX8_reason 34 = .ok (.iload_n 3, 1) := by decide +kernel
theorem dX8_reason_35 : decode cX8_reason 35 = .ok (.ifCond .ne 6, 3) := by decide +kernel
theorem dX8_reason_38 : decode cX8_reason 38 = .ok (.bipush (-4), 2) := by decide +kernel
theorem dX8_reason_40 : decode cX8_reason 40 = .ok (.ireturn, 1) := by decide +kernel
theorem dX8_reason_41 : decode cX8_reason 41 = .ok (.iload_n 2, 1) := by decide +kernel
theorem dX8_reason_42 : decode cX8_reason 42 = .ok (.ifCond .ne 5, 3) := by decide +kernel
theorem dX8_reason_45 : decode cX8_reason 45 = .ok (.iload_n 3, 1) := by decide +kernel
theorem dX8_reason_46 : decode cX8_reason 46 = .ok (.ireturn, 1) := by decide +kernel
theorem dX8_reason_47 : decode cX8_reason 47 = .ok (.iload_n 1, 1) := by decide +kernel
theorem dX8_reason_48 : decode cX8_reason 48 = .ok (.ifCond .ne 13, 3) := by decide +kernel
theorem dX8_reason_51 : decode cX8_reason 51 = .ok (.aload_n 0, 1) := by decide +kernel
theorem dX8_reason_52 : decode cX8_reason 52 = .ok (.getfield 32, 3) := by decide +kernel
theorem dX8_reason_55 : decode cX8_reason 55 = .ok (.getfield 258, 3) := by decide +kernel
theorem dX8_reason_58 : decode cX8_reason 58 = .ok (.goto 10, 3) := by decide +kernel
theorem dX8_reason_61 : decode cX8_reason 61 = .ok (.aload_n 0, 1) := by decide +kernel
theorem dX8_reason_62 : decode cX8_reason 62 = .ok (.getfield 32, 3) := by decide +kernel
theorem dX8_reason_65 : decode cX8_reason 65 = .ok (.getfield 261, 3) := by decide +kernel
theorem dX8_reason_68 : decode cX8_reason 68 = .ok (.ireturn, 1) := by decide +kernel
theorem dX8_driverOf_0 : decode cX8_driverOf 0 = .ok (.aload_n 0, 1) := by decide +kernel
theorem dX8_driverOf_1 : decode cX8_driverOf 1 = .ok (.getfield 12, 3) := by decide +kernel
theorem dX8_driverOf_4 : decode cX8_driverOf 4 = .ok (.iload_n 1, 1) := by decide +kernel
theorem dX8_driverOf_5 : decode cX8_driverOf 5 = .ok (.invokevirtual 187, 3) := by decide +kernel
theorem dX8_driverOf_8 : decode cX8_driverOf 8 = .ok (.ifCond .ne 5, 3) := by decide +kernel
theorem dX8_driverOf_11 : decode cX8_driverOf 11 = .ok (.iconst (-1), 1) := by decide +kernel
theorem dX8_driverOf_12 : decode cX8_driverOf 12 = .ok (.ireturn, 1) := by decide +kernel
theorem dX8_driverOf_13 : decode cX8_driverOf 13 = .ok (.aload_n 0, 1) := by decide +kernel
theorem dX8_driverOf_14 : decode cX8_driverOf 14 = .ok (.getfield 12, 3) := by decide +kernel
theorem dX8_driverOf_17 : decode cX8_driverOf 17 = .ok (.getfield 191, 3) := by decide +kernel
theorem dX8_driverOf_20 : decode cX8_driverOf 20 = .ok (.iload_n 1, 1) := by decide +kernel
theorem dX8_driverOf_21 : decode cX8_driverOf 21 = .ok (.aaload, 1) := by decide +kernel
theorem dX8_driverOf_22 : decode cX8_driverOf 22 = .ok (.astore_n 3, 1) := by decide +kernel
theorem dX8_driverOf_23 : decode cX8_driverOf 23 = .ok (.iload_n 2, 1) := by decide +kernel
theorem dX8_driverOf_24 : decode cX8_driverOf 24 = .ok (.tableswitch 127 0 10 #[60, 65, 70, 75, 80, 85, 90, 95, 108, 117, 122], 60) := by decide +kernel
theorem dX8_driverOf_84 : decode cX8_driverOf 84 = .ok (.aload_n 3, 1) := by decide +kernel
theorem dX8_driverOf_85 : decode cX8_driverOf 85 = .ok (.getfield 201, 3) := by decide +kernel
theorem dX8_driverOf_88 : decode cX8_driverOf 88 = .ok (.ireturn, 1) := by decide +kernel
theorem dX8_driverOf_89 : decode cX8_driverOf 89 = .ok (.aload_n 3, 1) := by decide +kernel
theorem dX8_driverOf_90 : decode cX8_driverOf 90 = .ok (.getfield 204, 3) := by decide +kernel
theorem dX8_driverOf_93 : decode cX8_driverOf 93 = .ok (.ireturn, 1) := by decide +kernel
theorem dX8_driverOf_94 : decode cX8_driverOf 94 = .ok (.aload_n 3, 1) := by decide +kernel
theorem dX8_driverOf_95 : decode cX8_driverOf 95 = .ok (.getfield 264, 3) := by decide +kernel
theorem dX8_driverOf_98 : decode cX8_driverOf 98 = .ok (.ireturn, 1) := by decide +kernel
theorem dX8_driverOf_99 : decode cX8_driverOf 99 = .ok (.aload_n 3, 1) := by decide +kernel
theorem dX8_driverOf_100 : decode cX8_driverOf 100 = .ok (.getfield 226, 3) := by decide +kernel
theorem dX8_driverOf_103 : decode cX8_driverOf 103 = .ok (.ireturn, 1) := by decide +kernel
theorem dX8_driverOf_104 : decode cX8_driverOf 104 = .ok (.aload_n 3, 1) := by decide +kernel
theorem dX8_driverOf_105 : decode cX8_driverOf 105 = .ok (.getfield 267, 3) := by decide +kernel
theorem dX8_driverOf_108 : decode cX8_driverOf 108 = .ok (.ireturn, 1) := by decide +kernel
theorem dX8_driverOf_109 : decode cX8_driverOf 109 = .ok (.aload_n 3, 1) := by decide +kernel
theorem dX8_driverOf_110 : decode cX8_driverOf 110 = .ok (.getfield 213, 3) := by decide +kernel
theorem dX8_driverOf_113 : decode cX8_driverOf 113 = .ok (.ireturn, 1) := by decide +kernel
theorem dX8_driverOf_114 : decode cX8_driverOf 114 = .ok (.aload_n 3, 1) := by decide +kernel
theorem dX8_driverOf_115 : decode cX8_driverOf 115 = .ok (.getfield 270, 3) := by decide +kernel
theorem dX8_driverOf_118 : decode cX8_driverOf 118 = .ok (.ireturn, 1) := by decide +kernel
theorem dX8_driverOf_119 : decode cX8_driverOf 119 = .ok (.aload_n 3, 1) := by decide +kernel
theorem dX8_driverOf_120 : decode cX8_driverOf 120 = .ok (.getfield 195, 3) := by decide +kernel
theorem dX8_driverOf_123 : decode cX8_driverOf 123 = .ok (.ifCond .eq 7, 3) := by decide +kernel
theorem dX8_driverOf_126 : decode cX8_driverOf 126 = .ok (.iconst 1, 1) := by decide +kernel
theorem dX8_driverOf_127 : decode cX8_driverOf 127 = .ok (.goto 4, 3) := by decide +kernel
theorem dX8_driverOf_130 : decode cX8_driverOf 130 = .ok (.iconst 0, 1) := by decide +kernel
theorem dX8_driverOf_131 : decode cX8_driverOf 131 = .ok (.ireturn, 1) := by decide +kernel
theorem dX8_driverOf_132 : decode cX8_driverOf 132 = .ok (.aload_n 0, 1) := by decide +kernel
theorem dX8_driverOf_133 : decode cX8_driverOf 133 = .ok (.getfield 12, 3) := by decide +kernel
theorem dX8_driverOf_136 : decode cX8_driverOf 136 = .ok (.iload_n 1, 1) := by decide +kernel
theorem dX8_driverOf_137 : decode cX8_driverOf 137 = .ok (.invokevirtual 273, 3) := by decide +kernel
theorem dX8_driverOf_140 : decode cX8_driverOf 140 = .ok (.ireturn, 1) := by decide +kernel
theorem dX8_driverOf_141 : decode cX8_driverOf 141 = .ok (.aload_n 3, 1) := by decide +kernel
theorem dX8_driverOf_142 : decode cX8_driverOf 142 = .ok (.getfield 276, 3) := by decide +kernel
theorem dX8_driverOf_145 : decode cX8_driverOf 145 = .ok (.ireturn, 1) := by decide +kernel
theorem dX8_driverOf_146 : decode cX8_driverOf 146 = .ok (.aload_n 3, 1) := by decide +kernel
theorem dX8_driverOf_147 : decode cX8_driverOf 147 = .ok (.getfield 279, 3) := by decide +kernel
theorem dX8_driverOf_150 : decode cX8_driverOf 150 = .ok (.ireturn, 1) := by decide +kernel
theorem dX8_driverOf_151 : decode cX8_driverOf 151 = .ok (.bipush (-2), 2) := by decide +kernel
theorem dX8_driverOf_153 : decode cX8_driverOf 153 = .ok (.ireturn, 1) := by decide +kernel
theorem dX8_lineOf_0 : decode cX8_lineOf 0 = .ok (.aload_n 0, 1) := by decide +kernel
theorem dX8_lineOf_1 : decode cX8_lineOf 1 = .ok (.getfield 12, 3) := by decide +kernel
theorem dX8_lineOf_4 : decode cX8_lineOf 4 = .ok (.iload_n 1, 1) := by decide +kernel
theorem dX8_lineOf_5 : decode cX8_lineOf 5 = .ok (.iload_n 2, 1) := by decide +kernel
theorem dX8_lineOf_6 : decode cX8_lineOf 6 = .ok (.invokevirtual 282, 3) := by decide +kernel
theorem dX8_lineOf_9 : decode cX8_lineOf 9 = .ok (.ifCond .ne 5, 3) := by decide +kernel
theorem dX8_lineOf_12 : decode cX8_lineOf 12 = .ok (.iconst (-1), 1) := by decide +kernel
theorem dX8_lineOf_13 : decode cX8_lineOf 13 = .ok (.ireturn, 1) := by decide +kernel
theorem dX8_lineOf_14 : decode cX8_lineOf 14 = .ok (.aload_n 0, 1) := by decide +kernel
theorem dX8_lineOf_15 : decode cX8_lineOf 15 = .ok (.getfield 12, 3) := by decide +kernel
theorem dX8_lineOf_18 : decode cX8_lineOf 18 = .ok (.getfield 191, 3) := by decide +kernel
theorem dX8_lineOf_21 : decode cX8_lineOf 21 = .ok (.iload_n 1, 1) := by decide +kernel
theorem dX8_lineOf_22 : decode cX8_lineOf 22 = .ok (.aaload, 1) := by decide +kernel
theorem dX8_lineOf_23 : decode cX8_lineOf 23 = .ok (.astore 4, 2) := by decide +kernel
theorem dX8_lineOf_25 : decode cX8_lineOf 25 = .ok (.iload_n 3, 1) := by decide +kernel
theorem dX8_lineOf_26 : decode cX8_lineOf 26 = .ok (.ifCond .eq 15, 3) := by decide +kernel
theorem dX8_lineOf_29 : decode cX8_lineOf 29 = .ok (.aload 4, 2) := by decide +kernel
theorem dX8_lineOf_31 : decode cX8_lineOf 31 = .ok (.getfield 285, 3) := by decide +kernel
theorem dX8_lineOf_34 : decode cX8_lineOf 34 = .ok (.iload_n 2, 1) := by decide +kernel
theorem dX8_lineOf_35 : decode cX8_lineOf 35 = .ok (.iconst 1, 1) := by decide +kernel
theorem dX8_lineOf_36 : decode cX8_lineOf 36 = .ok (.isub, 1) := by decide +kernel
theorem dX8_lineOf_37 : decode cX8_lineOf 37 = .ok (.caload, 1) := by decide +kernel
theorem dX8_lineOf_38 : decode cX8_lineOf 38 = .ok (.goto 12, 3) := by decide +kernel
theorem dX8_lineOf_41 : decode cX8_lineOf 41 = .ok (.aload 4, 2) := by decide +kernel
theorem dX8_lineOf_43 : decode cX8_lineOf 43 = .ok (.getfield 289, 3) := by decide +kernel
theorem dX8_lineOf_46 : decode cX8_lineOf 46 = .ok (.iload_n 2, 1) := by decide +kernel
theorem dX8_lineOf_47 : decode cX8_lineOf 47 = .ok (.iconst 1, 1) := by decide +kernel
theorem dX8_lineOf_48 : decode cX8_lineOf 48 = .ok (.isub, 1) := by decide +kernel
theorem dX8_lineOf_49 : decode cX8_lineOf 49 = .ok (.iaload, 1) := by decide +kernel
theorem dX8_lineOf_50 : decode cX8_lineOf 50 = .ok (.ireturn, 1) := by decide +kernel
theorem dX8_leader_0 : decode cX8_leader 0 = .ok (.bipush (-4), 2) := by decide +kernel
theorem dX8_leader_2 : decode cX8_leader 2 = .ok (.istore_n 1, 1) := by decide +kernel
theorem dX8_leader_3 : decode cX8_leader 3 = .ok (.iconst 0, 1) := by decide +kernel
theorem dX8_leader_4 : decode cX8_leader 4 = .ok (.istore_n 2, 1) := by decide +kernel
theorem dX8_leader_5 : decode cX8_leader 5 = .ok (.iconst 0, 1) := by decide +kernel
theorem dX8_leader_6 : decode cX8_leader 6 = .ok (.istore_n 3, 1) := by decide +kernel
theorem dX8_leader_7 : decode cX8_leader 7 = .ok (.iload_n 3, 1) := by decide +kernel
theorem dX8_leader_8 : decode cX8_leader 8 = .ok (.aload_n 0, 1) := by decide +kernel
theorem dX8_leader_9 : decode cX8_leader 9 = .ok (.getfield 12, 3) := by decide +kernel
theorem dX8_leader_12 : decode cX8_leader 12 = .ok (.getfield 54, 3) := by decide +kernel
theorem dX8_leader_15 : decode cX8_leader 15 = .ok (.if_icmp .ge 51, 3) := by decide +kernel
theorem dX8_leader_18 : decode cX8_leader 18 = .ok (.aload_n 0, 1) := by decide +kernel
theorem dX8_leader_19 : decode cX8_leader 19 = .ok (.getfield 12, 3) := by decide +kernel
theorem dX8_leader_22 : decode cX8_leader 22 = .ok (.getfield 191, 3) := by decide +kernel
theorem dX8_leader_25 : decode cX8_leader 25 = .ok (.iload_n 3, 1) := by decide +kernel
theorem dX8_leader_26 : decode cX8_leader 26 = .ok (.aaload, 1) := by decide +kernel
theorem dX8_leader_27 : decode cX8_leader 27 = .ok (.astore 4, 2) := by decide +kernel
theorem dX8_leader_29 : decode cX8_leader 29 = .ok (.aload 4, 2) := by decide +kernel
theorem dX8_leader_31 : decode cX8_leader 31 = .ok (.invokevirtual 292, 3) := by decide +kernel
theorem dX8_leader_34 : decode cX8_leader 34 = .ok (.ifCond .eq 26, 3) := by decide +kernel
theorem dX8_leader_37 : decode cX8_leader 37 = .ok (.iload_n 1, 1) := by decide +kernel
theorem dX8_leader_38 : decode cX8_leader 38 = .ok (.bipush (-4), 2) := by decide +kernel
theorem dX8_leader_40 : decode cX8_leader 40 = .ok (.if_icmp .eq 12, 3) := by decide +kernel
theorem dX8_leader_43 : decode cX8_leader 43 = .ok (.aload 4, 2) := by decide +kernel
theorem dX8_leader_45 : decode cX8_leader 45 = .ok (.getfield 204, 3) := by decide +kernel
theorem dX8_leader_48 : decode cX8_leader 48 = .ok (.iload_n 2, 1) := by decide +kernel
theorem dX8_leader_49 : decode cX8_leader 49 = .ok (.if_icmp .le 11, 3) := by decide +kernel
theorem dX8_leader_52 : decode cX8_leader 52 = .ok (.iload_n 3, 1) := by decide +kernel
theorem dX8_leader_53 : decode cX8_leader 53 = .ok (.istore_n 1, 1) := by decide +kernel
theorem dX8_leader_54 : decode cX8_leader 54 = .ok (.aload 4, 2) := by decide +kernel
theorem dX8_leader_56 : decode cX8_leader 56 = .ok (.getfield 204, 3) := by decide +kernel
theorem dX8_leader_59 : decode cX8_leader 59 = .ok (.istore_n 2, 1) := by decide +kernel
theorem dX8_leader_60 : decode cX8_leader 60 = .ok (.iinc 3 1, 3) := by decide +kernel
theorem dX8_leader_63 : decode cX8_leader 63 = .ok (.goto (-56), 3) := by decide +kernel
theorem dX8_leader_66 : decode cX8_leader 66 = .ok (.iload_n 1, 1) := by decide +kernel
theorem dX8_leader_67 : decode cX8_leader 67 = .ok (.ireturn, 1) := by decide +kernel
theorem dX8_reaches_0 : decode cX8_reaches 0 = .ok (.aload_n 0, 1) := by decide +kernel
theorem dX8_reaches_1 : decode cX8_reaches 1 = .ok (.getfield 12, 3) := by decide +kernel
theorem dX8_reaches_4 : decode cX8_reaches 4 = .ok (.iload_n 1, 1) := by decide +kernel
theorem dX8_reaches_5 : decode cX8_reaches 5 = .ok (.invokevirtual 187, 3) := by decide +kernel
theorem dX8_reaches_8 : decode cX8_reaches 8 = .ok (.ifCond .eq 30, 3) := by decide +kernel
theorem dX8_reaches_11 : decode cX8_reaches 11 = .ok (.aload_n 0, 1) := by decide +kernel
theorem dX8_reaches_12 : decode cX8_reaches 12 = .ok (.getfield 12, 3) := by decide +kernel
theorem dX8_reaches_15 : decode cX8_reaches 15 = .ok (.iload_n 2, 1) := by decide +kernel
theorem dX8_reaches_16 : decode cX8_reaches 16 = .ok (.invokevirtual 187, 3) := by decide +kernel
theorem dX8_reaches_19 : decode cX8_reaches 19 = .ok (.ifCond .eq 19, 3) := by decide +kernel
theorem dX8_reaches_22 : decode cX8_reaches 22 = .ok (.aload_n 0, 1) := by decide +kernel
theorem dX8_reaches_23 : decode cX8_reaches 23 = .ok (.getfield 12, 3) := by decide +kernel
theorem dX8_reaches_26 : decode cX8_reaches 26 = .ok (.iload_n 1, 1) := by decide +kernel
theorem dX8_reaches_27 : decode cX8_reaches 27 = .ok (.iload_n 2, 1) := by decide +kernel
theorem dX8_reaches_28 : decode cX8_reaches 28 = .ok (.invokevirtual 295, 3) := by decide +kernel
theorem dX8_reaches_31 : decode cX8_reaches 31 = .ok (.ifCond .eq 7, 3) := by decide +kernel
theorem dX8_reaches_34 : decode cX8_reaches 34 = .ok (.iconst 1, 1) := by decide +kernel
theorem dX8_reaches_35 : decode cX8_reaches 35 = .ok (.goto 4, 3) := by decide +kernel
theorem dX8_reaches_38 : decode cX8_reaches 38 = .ok (.iconst 0, 1) := by decide +kernel
theorem dX8_reaches_39 : decode cX8_reaches 39 = .ok (.ireturn, 1) := by decide +kernel
theorem dX8_wouldVote_0 : decode cX8_wouldVote 0 = .ok (.aload_n 0, 1) := by decide +kernel
theorem dX8_wouldVote_1 : decode cX8_wouldVote 1 = .ok (.getfield 12, 3) := by decide +kernel
theorem dX8_wouldVote_4 : decode cX8_wouldVote 4 = .ok (.iload_n 1, 1) := by decide +kernel
theorem dX8_wouldVote_5 : decode cX8_wouldVote 5 = .ok (.invokevirtual 187, 3) := by decide +kernel
theorem dX8_wouldVote_8 : decode cX8_wouldVote 8 = .ok (.ifCond .eq 14, 3) := by decide +kernel
theorem dX8_wouldVote_11 : decode cX8_wouldVote 11 = .ok (.aload_n 0, 1) := by decide +kernel
theorem dX8_wouldVote_12 : decode cX8_wouldVote 12 = .ok (.getfield 12, 3) := by decide +kernel
theorem dX8_wouldVote_15 : decode cX8_wouldVote 15 = .ok (.iload_n 2, 1) := by decide +kernel
theorem dX8_wouldVote_16 : decode cX8_wouldVote 16 = .ok (.invokevirtual 187, 3) := by decide +kernel
theorem dX8_wouldVote_19 : decode cX8_wouldVote 19 = .ok (.ifCond .ne 5, 3) := by decide +kernel
theorem dX8_wouldVote_22 : decode cX8_wouldVote 22 = .ok (.iconst 0, 1) := by decide +kernel
theorem dX8_wouldVote_23 : decode cX8_wouldVote 23 = .ok (.ireturn, 1) := by decide +kernel
theorem dX8_wouldVote_24 : decode cX8_wouldVote 24 = .ok (.iload_n 1, 1) := by decide +kernel
theorem dX8_wouldVote_25 : decode cX8_wouldVote 25 = .ok (.iload_n 2, 1) := by decide +kernel
theorem dX8_wouldVote_26 : decode cX8_wouldVote 26 = .ok (.if_icmp .eq 15, 3) := by decide +kernel
theorem dX8_wouldVote_29 : decode cX8_wouldVote 29 = .ok (.aload_n 0, 1) := by decide +kernel
theorem dX8_wouldVote_30 : decode cX8_wouldVote 30 = .ok (.getfield 12, 3) := by decide +kernel
theorem dX8_wouldVote_33 : decode cX8_wouldVote 33 = .ok (.iload_n 1, 1) := by decide +kernel
theorem dX8_wouldVote_34 : decode cX8_wouldVote 34 = .ok (.iload_n 2, 1) := by decide +kernel
theorem dX8_wouldVote_35 : decode cX8_wouldVote 35 = .ok (.invokevirtual 298, 3) := by decide +kernel
theorem dX8_wouldVote_38 : decode cX8_wouldVote 38 = .ok (.ifCond .eq 7, 3) := by decide +kernel
theorem dX8_wouldVote_41 : decode cX8_wouldVote 41 = .ok (.iconst 1, 1) := by decide +kernel
theorem dX8_wouldVote_42 : decode cX8_wouldVote 42 = .ok (.goto 4, 3) := by decide +kernel
theorem dX8_wouldVote_45 : decode cX8_wouldVote 45 = .ok (.iconst 0, 1) := by decide +kernel
theorem dX8_wouldVote_46 : decode cX8_wouldVote 46 = .ok (.ireturn, 1) := by decide +kernel
theorem dX8_couldLead_0 : decode cX8_couldLead 0 = .ok (.aload_n 0, 1) := by decide +kernel
theorem dX8_couldLead_1 : decode cX8_couldLead 1 = .ok (.iload_n 1, 1) := by decide +kernel
theorem dX8_couldLead_2 : decode cX8_couldLead 2 = .ok (.invokevirtual 301, 3) := by decide +kernel
theorem dX8_couldLead_5 : decode cX8_couldLead 5 = .ok (.istore_n 2, 1) := by decide +kernel
theorem dX8_couldLead_6 : decode cX8_couldLead 6 = .ok (.iload_n 2, 1) := by decide +kernel
theorem dX8_couldLead_7 : decode cX8_couldLead 7 = .ok (.ifCond .ge 7, 3) := by decide +kernel
theorem dX8_couldLead_10 : decode cX8_couldLead 10 = .ok (.iload_n 2, 1) := by decide +kernel
theorem dX8_couldLead_11 : decode cX8_couldLead 11 = .ok (.goto 11, 3) := by decide +kernel
theorem dX8_couldLead_14 : decode cX8_couldLead 14 = .ok (.aload_n 0, 1) := by decide +kernel
theorem dX8_couldLead_15 : decode cX8_couldLead 15 = .ok (.getfield 12, 3) := by decide +kernel
theorem dX8_couldLead_18 : decode cX8_couldLead 18 = .ok (.iload_n 1, 1) := by decide +kernel
theorem dX8_couldLead_19 : decode cX8_couldLead 19 = .ok (.invokevirtual 304, 3) := by decide +kernel
theorem dX8_couldLead_22 : decode cX8_couldLead 22 = .ok (.ireturn, 1) := by decide +kernel
theorem dX8_couldLeadAgain_0 : decode cX8_couldLeadAgain 0 = .ok (.aload_n 0, 1) := by decide +kernel
theorem dX8_couldLeadAgain_1 : decode cX8_couldLeadAgain 1 = .ok (.iload_n 1, 1) := by decide +kernel
theorem dX8_couldLeadAgain_2 : decode cX8_couldLeadAgain 2 = .ok (.invokevirtual 301, 3) := by decide +kernel
theorem dX8_couldLeadAgain_5 : decode cX8_couldLeadAgain 5 = .ok (.istore_n 2, 1) := by decide +kernel
theorem dX8_couldLeadAgain_6 : decode cX8_couldLeadAgain 6 = .ok (.iload_n 2, 1) := by decide +kernel
theorem dX8_couldLeadAgain_7 : decode cX8_couldLeadAgain 7 = .ok (.ifCond .ge 5, 3) := by decide +kernel
theorem dX8_couldLeadAgain_10 : decode cX8_couldLeadAgain 10 = .ok (.iload_n 2, 1) := by decide +kernel
theorem dX8_couldLeadAgain_11 : decode cX8_couldLeadAgain 11 = .ok (.ireturn, 1) := by decide +kernel
theorem dX8_couldLeadAgain_12 : decode cX8_couldLeadAgain 12 = .ok (.aload_n 0, 1) := by decide +kernel
theorem dX8_couldLeadAgain_13 : decode cX8_couldLeadAgain 13 = .ok (.getfield 16, 3) := by decide +kernel
theorem dX8_couldLeadAgain_16 : decode cX8_couldLeadAgain 16 = .ok (.aload_n 0, 1) := by decide +kernel
theorem dX8_couldLeadAgain_17 : decode cX8_couldLeadAgain 17 = .ok (.getfield 12, 3) := by decide +kernel
theorem dX8_couldLeadAgain_20 : decode cX8_couldLeadAgain 20 = .ok (.invokevirtual 113, 3) := by decide +kernel
theorem dX8_couldLeadAgain_23 : decode cX8_couldLeadAgain 23 = .ok (.aload_n 0, 1) := by decide +kernel
theorem dX8_couldLeadAgain_24 : decode cX8_couldLeadAgain 24 = .ok (.getfield 12, 3) := by decide +kernel
theorem dX8_couldLeadAgain_27 : decode cX8_couldLeadAgain 27 = .ok (.iload_n 1, 1) := by decide +kernel
theorem dX8_couldLeadAgain_28 : decode cX8_couldLeadAgain 28 = .ok (.invokevirtual 207, 3) := by decide +kernel
theorem dX8_couldLeadAgain_31 : decode cX8_couldLeadAgain 31 = .ok (.istore_n 3, 1) := by decide +kernel
theorem dX8_couldLeadAgain_32 : decode cX8_couldLeadAgain 32 = .ok (.aload_n 0, 1) := by decide +kernel
theorem dX8_couldLeadAgain_33 : decode cX8_couldLeadAgain 33 = .ok (.getfield 12, 3) := by decide +kernel
theorem dX8_couldLeadAgain_36 : decode cX8_couldLeadAgain 36 = .ok (.aload_n 0, 1) := by decide +kernel
theorem dX8_couldLeadAgain_37 : decode cX8_couldLeadAgain 37 = .ok (.getfield 16, 3) := by decide +kernel
theorem dX8_couldLeadAgain_40 : decode cX8_couldLeadAgain 40 = .ok (.invokevirtual 113, 3) := by decide +kernel
theorem dX8_couldLeadAgain_43 : decode cX8_couldLeadAgain 43 = .ok (.iload_n 3, 1) := by decide +kernel
theorem dX8_couldLeadAgain_44 : decode cX8_couldLeadAgain 44 = .ok (.ireturn, 1) := by decide +kernel
theorem dX8_codeOfAsking_0 : decode cX8_codeOfAsking 0 = .ok (.aload_n 0, 1) := by decide +kernel
theorem dX8_codeOfAsking_1 : decode cX8_codeOfAsking 1 = .ok (.getfield 12, 3) := by decide +kernel
theorem dX8_codeOfAsking_4 : decode cX8_codeOfAsking 4 = .ok (.iload_n 1, 1) := by decide +kernel
theorem dX8_codeOfAsking_5 : decode cX8_codeOfAsking 5 = .ok (.invokevirtual 187, 3) := by decide +kernel
theorem dX8_codeOfAsking_8 : decode cX8_codeOfAsking 8 = .ok (.ifCond .ne 5, 3) := by decide +kernel
theorem dX8_codeOfAsking_11 : decode cX8_codeOfAsking 11 = .ok (.iconst (-1), 1) := by decide +kernel
theorem dX8_codeOfAsking_12 : decode cX8_codeOfAsking 12 = .ok (.ireturn, 1) := by decide +kernel
theorem dX8_codeOfAsking_13 : decode cX8_codeOfAsking 13 = .ok (.aload_n 0, 1) := by decide +kernel
theorem dX8_codeOfAsking_14 : decode cX8_codeOfAsking 14 = .ok (.getfield 12, 3) := by decide +kernel
theorem dX8_codeOfAsking_17 : decode cX8_codeOfAsking 17 = .ok (.getfield 191, 3) := by decide +kernel
theorem dX8_codeOfAsking_20 : decode cX8_codeOfAsking 20 = .ok (.iload_n 1, 1) := by decide +kernel
theorem dX8_codeOfAsking_21 : decode cX8_codeOfAsking 21 = .ok (.aaload, 1) := by decide +kernel
theorem dX8_codeOfAsking_22 : decode cX8_codeOfAsking 22 = .ok (.astore_n 2, 1) := by decide +kernel
theorem dX8_codeOfAsking_23 : decode cX8_codeOfAsking 23 = .ok (.aload_n 2, 1) := by decide +kernel
theorem dX8_codeOfAsking_24 : decode cX8_codeOfAsking 24 = .ok (.getfield 195, 3) := by decide +kernel
theorem dX8_codeOfAsking_27 : decode cX8_codeOfAsking 27 = .ok (.ifCond .eq 15, 3) := by decide +kernel
theorem dX8_codeOfAsking_30 : decode cX8_codeOfAsking 30 = .ok (.aload_n 2, 1) := by decide +kernel
theorem dX8_codeOfAsking_31 : decode cX8_codeOfAsking 31 = .ok (.getfield 201, 3) := by decide +kernel
theorem dX8_codeOfAsking_34 : decode cX8_codeOfAsking 34 = .ok (.iconst 2, 1) := by decide +kernel
theorem dX8_codeOfAsking_35 : decode cX8_codeOfAsking 35 = .ok (.if_icmp .eq 7, 3) := by decide +kernel
theorem dX8_codeOfAsking_38 : decode cX8_codeOfAsking 38 = .ok (.iconst 0, 1) := by decide +kernel
theorem dX8_codeOfAsking_39 : decode cX8_codeOfAsking 39 = .ok (.goto 5, 3) := by decide +kernel
theorem dX8_codeOfAsking_42 : decode cX8_codeOfAsking 42 = .ok (.bipush (-4), 2) := by decide +kernel
theorem dX8_codeOfAsking_44 : decode cX8_codeOfAsking 44 = .ok (.ireturn, 1) := by decide +kernel
theorem dX8_longer_0 : decode cX8_longer 0 = .ok (.aload_n 0, 1) := by decide +kernel
theorem dX8_longer_1 : decode cX8_longer 1 = .ok (.getfield 12, 3) := by decide +kernel
theorem dX8_longer_4 : decode cX8_longer 4 = .ok (.iload_n 1, 1) := by decide +kernel
theorem dX8_longer_5 : decode cX8_longer 5 = .ok (.invokevirtual 187, 3) := by decide +kernel
theorem dX8_longer_8 : decode cX8_longer 8 = .ok (.ifCond .eq 14, 3) := by decide +kernel
theorem dX8_longer_11 : decode cX8_longer 11 = .ok (.aload_n 0, 1) := by decide +kernel
theorem dX8_longer_12 : decode cX8_longer 12 = .ok (.getfield 12, 3) := by decide +kernel
theorem dX8_longer_15 : decode cX8_longer 15 = .ok (.iload_n 2, 1) := by decide +kernel
theorem dX8_longer_16 : decode cX8_longer 16 = .ok (.invokevirtual 187, 3) := by decide +kernel
theorem dX8_longer_19 : decode cX8_longer 19 = .ok (.ifCond .ne 6, 3) := by decide +kernel
theorem dX8_longer_22 : decode cX8_longer 22 = .ok (.bipush (-4), 2) := by decide +kernel
theorem dX8_longer_24 : decode cX8_longer 24 = .ok (.ireturn, 1) := by decide +kernel
theorem dX8_longer_25 : decode cX8_longer 25 = .ok (.aload_n 0, 1) := by decide +kernel
theorem dX8_longer_26 : decode cX8_longer 26 = .ok (.getfield 12, 3) := by decide +kernel
theorem dX8_longer_29 : decode cX8_longer 29 = .ok (.getfield 191, 3) := by decide +kernel
theorem dX8_longer_32 : decode cX8_longer 32 = .ok (.iload_n 1, 1) := by decide +kernel
theorem dX8_longer_33 : decode cX8_longer 33 = .ok (.aaload, 1) := by decide +kernel
theorem dX8_longer_34 : decode cX8_longer 34 = .ok (.aload_n 0, 1) := by decide +kernel
theorem dX8_longer_35 : decode cX8_longer 35 = .ok (.getfield 12, 3) := by decide +kernel
theorem dX8_longer_38 : decode cX8_longer 38 = .ok (.getfield 191, 3) := by decide +kernel
theorem dX8_longer_41 : decode cX8_longer 41 = .ok (.iload_n 2, 1) := by decide +kernel
theorem dX8_longer_42 : decode cX8_longer 42 = .ok (.aaload, 1) := by decide +kernel
theorem dX8_longer_43 : decode cX8_longer 43 = .ok (.invokevirtual 307, 3) := by decide +kernel
theorem dX8_longer_46 : decode cX8_longer 46 = .ok (.ifCond .eq 5, 3) := by decide +kernel
theorem dX8_longer_49 : decode cX8_longer 49 = .ok (.iconst 1, 1) := by decide +kernel
theorem dX8_longer_50 : decode cX8_longer 50 = .ok (.ireturn, 1) := by decide +kernel
theorem dX8_longer_51 : decode cX8_longer 51 = .ok (.aload_n 0, 1) := by decide +kernel
theorem dX8_longer_52 : decode cX8_longer 52 = .ok (.getfield 12, 3) := by decide +kernel
theorem dX8_longer_55 : decode cX8_longer 55 = .ok (.getfield 191, 3) := by decide +kernel
theorem dX8_longer_58 : decode cX8_longer 58 = .ok (.iload_n 2, 1) := by decide +kernel
theorem dX8_longer_59 : decode cX8_longer 59 = .ok (.aaload, 1) := by decide +kernel
theorem dX8_longer_60 : decode cX8_longer 60 = .ok (.aload_n 0, 1) := by decide +kernel
theorem dX8_longer_61 : decode cX8_longer 61 = .ok (.getfield 12, 3) := by decide +kernel
theorem dX8_longer_64 : decode cX8_longer 64 = .ok (.getfield 191, 3) := by decide +kernel
theorem dX8_longer_67 : decode cX8_longer 67 = .ok (.iload_n 1, 1) := by decide +kernel
theorem dX8_longer_68 : decode cX8_longer 68 = .ok (.aaload, 1) := by decide +kernel
theorem dX8_longer_69 : decode cX8_longer 69 = .ok (.invokevirtual 307, 3) := by decide +kernel
theorem dX8_longer_72 : decode cX8_longer 72 = .ok (.ifCond .eq 7, 3) := by decide +kernel
theorem dX8_longer_75 : decode cX8_longer 75 = .ok (.iconst (-1), 1) := by decide +kernel
theorem dX8_longer_76 : decode cX8_longer 76 = .ok (.goto 4, 3) := by decide +kernel
theorem dX8_longer_79 : decode cX8_longer 79 = .ok (.iconst 0, 1) := by decide +kernel
theorem dX8_longer_80 : decode cX8_longer 80 = .ok (.ireturn, 1) := by decide +kernel
theorem dX8_alike_0 : decode cX8_alike 0 = .ok (.aload_n 0, 1) := by decide +kernel
theorem dX8_alike_1 : decode cX8_alike 1 = .ok (.getfield 12, 3) := by decide +kernel
theorem dX8_alike_4 : decode cX8_alike 4 = .ok (.iload_n 1, 1) := by decide +kernel
theorem dX8_alike_5 : decode cX8_alike 5 = .ok (.invokevirtual 187, 3) := by decide +kernel
theorem dX8_alike_8 : decode cX8_alike 8 = .ok (.ifCond .eq 14, 3) := by decide +kernel
theorem dX8_alike_11 : decode cX8_alike 11 = .ok (.aload_n 0, 1) := by decide +kernel
theorem dX8_alike_12 : decode cX8_alike 12 = .ok (.getfield 12, 3) := by decide +kernel
theorem dX8_alike_15 : decode cX8_alike 15 = .ok (.iload_n 2, 1) := by decide +kernel
theorem dX8_alike_16 : decode cX8_alike 16 = .ok (.invokevirtual 187, 3) := by decide +kernel
theorem dX8_alike_19 : decode cX8_alike 19 = .ok (.ifCond .ne 5, 3) := by decide +kernel
theorem dX8_alike_22 : decode cX8_alike 22 = .ok (.iconst (-1), 1) := by decide +kernel
theorem dX8_alike_23 : decode cX8_alike 23 = .ok (.ireturn, 1) := by decide +kernel
theorem dX8_alike_24 : decode cX8_alike 24 = .ok (.aload_n 0, 1) := by decide +kernel
theorem dX8_alike_25 : decode cX8_alike 25 = .ok (.getfield 12, 3) := by decide +kernel
theorem dX8_alike_28 : decode cX8_alike 28 = .ok (.getfield 191, 3) := by decide +kernel
theorem dX8_alike_31 : decode cX8_alike 31 = .ok (.iload_n 1, 1) := by decide +kernel
theorem dX8_alike_32 : decode cX8_alike 32 = .ok (.aaload, 1) := by decide +kernel
theorem dX8_alike_33 : decode cX8_alike 33 = .ok (.aload_n 0, 1) := by decide +kernel
theorem dX8_alike_34 : decode cX8_alike 34 = .ok (.getfield 12, 3) := by decide +kernel
theorem dX8_alike_37 : decode cX8_alike 37 = .ok (.getfield 191, 3) := by decide +kernel
theorem dX8_alike_40 : decode cX8_alike 40 = .ok (.iload_n 2, 1) := by decide +kernel
theorem dX8_alike_41 : decode cX8_alike 41 = .ok (.aaload, 1) := by decide +kernel
theorem dX8_alike_42 : decode cX8_alike 42 = .ok (.invokevirtual 311, 3) := by decide +kernel
theorem dX8_alike_45 : decode cX8_alike 45 = .ok (.ireturn, 1) := by decide +kernel
theorem dX8_holders_0 : decode cX8_holders 0 = .ok (.aload_n 0, 1) := by decide +kernel
theorem dX8_holders_1 : decode cX8_holders 1 = .ok (.getfield 12, 3) := by decide +kernel
theorem dX8_holders_4 : decode cX8_holders 4 = .ok (.iload_n 1, 1) := by decide +kernel
theorem dX8_holders_5 : decode cX8_holders 5 = .ok (.iload_n 2, 1) := by decide +kernel
theorem dX8_holders_6 : decode cX8_holders 6 = .ok (.invokevirtual 282, 3) := by decide +kernel
theorem dX8_holders_9 : decode cX8_holders 9 = .ok (.ifCond .ne 5, 3) := by decide +kernel
theorem dX8_holders_12 : decode cX8_holders 12 = .ok (.iconst (-1), 1) := by decide +kernel
theorem dX8_holders_13 : decode cX8_holders 13 = .ok (.ireturn, 1) := by decide +kernel
theorem dX8_holders_14 : decode cX8_holders 14 = .ok (.iconst 0, 1) := by decide +kernel
theorem dX8_holders_15 : decode cX8_holders 15 = .ok (.istore_n 3, 1) := by decide +kernel
theorem dX8_holders_16 : decode cX8_holders 16 = .ok (.iconst 0, 1) := by decide +kernel
theorem dX8_holders_17 : decode cX8_holders 17 = .ok (.istore 4, 2) := by decide +kernel
theorem dX8_holders_19 : decode cX8_holders 19 = .ok (.iload 4, 2) := by decide +kernel
theorem dX8_holders_21 : decode cX8_holders 21 = .ok (.aload_n 0, 1) := by decide +kernel
theorem dX8_holders_22 : decode cX8_holders 22 = .ok (.getfield 12, 3) := by decide +kernel
theorem dX8_holders_25 : decode cX8_holders 25 = .ok (.getfield 54, 3) := by decide +kernel
theorem dX8_holders_28 : decode cX8_holders 28 = .ok (.if_icmp .ge 38, 3) := by decide +kernel
theorem dX8_holders_31 : decode cX8_holders 31 = .ok (.aload_n 0, 1) := by decide +kernel
theorem dX8_holders_32 : decode cX8_holders 32 = .ok (.getfield 12, 3) := by decide +kernel
theorem dX8_holders_35 : decode cX8_holders 35 = .ok (.getfield 191, 3) := by decide +kernel
theorem dX8_holders_38 : decode cX8_holders 38 = .ok (.iload 4, 2) := by decide +kernel
theorem dX8_holders_40 : decode cX8_holders 40 = .ok (.aaload, 1) := by decide +kernel
theorem dX8_holders_41 : decode cX8_holders 41 = .ok (.aload_n 0, 1) := by decide +kernel
theorem dX8_holders_42 : decode cX8_holders 42 = .ok (.getfield 12, 3) := by decide +kernel
theorem dX8_holders_45 : decode cX8_holders 45 = .ok (.getfield 191, 3) := by decide +kernel
theorem dX8_holders_48 : decode cX8_holders 48 = .ok (.iload_n 1, 1) := by decide +kernel
theorem dX8_holders_49 : decode cX8_holders 49 = .ok (.aaload, 1) := by decide +kernel
theorem dX8_holders_50 : decode cX8_holders 50 = .ok (.invokevirtual 311, 3) := by decide +kernel
theorem dX8_holders_53 : decode cX8_holders 53 = .ok (.iload_n 2, 1) := by decide +kernel
theorem dX8_holders_54 : decode cX8_holders 54 = .ok (.if_icmp .lt 6, 3) := by decide +kernel
theorem dX8_holders_57 : decode cX8_holders 57 = .ok (.iinc 3 1, 3) := by decide +kernel
theorem dX8_holders_60 : decode cX8_holders 60 = .ok (.iinc 4 1, 3) := by decide +kernel
theorem dX8_holders_63 : decode cX8_holders 63 = .ok (.goto (-44), 3) := by decide +kernel
theorem dX8_holders_66 : decode cX8_holders 66 = .ok (.iload_n 3, 1) := by decide +kernel
theorem dX8_holders_67 : decode cX8_holders 67 = .ok (.ireturn, 1) := by decide +kernel
theorem dX8_agreed_0 : decode cX8_agreed 0 = .ok (.iconst 0, 1) := by decide +kernel
theorem dX8_agreed_1 : decode cX8_agreed 1 = .ok (.istore_n 1, 1) := by decide +kernel
theorem dX8_agreed_2 : decode cX8_agreed 2 = .ok (.iconst 0, 1) := by decide +kernel
theorem dX8_agreed_3 : decode cX8_agreed 3 = .ok (.istore_n 2, 1) := by decide +kernel
theorem dX8_agreed_4 : decode cX8_agreed 4 = .ok (.iload_n 2, 1) := by decide +kernel
theorem dX8_agreed_5 : decode cX8_agreed 5 = .ok (.aload_n 0, 1) := by decide +kernel
theorem dX8_agreed_6 : decode cX8_agreed 6 = .ok (.getfield 12, 3) := by decide +kernel
theorem dX8_agreed_9 : decode cX8_agreed 9 = .ok (.getfield 54, 3) := by decide +kernel
theorem dX8_agreed_12 : decode cX8_agreed 12 = .ok (.if_icmp .ge 26, 3) := by decide +kernel
theorem dX8_agreed_15 : decode cX8_agreed 15 = .ok (.iload_n 1, 1) := by decide +kernel
theorem dX8_agreed_16 : decode cX8_agreed 16 = .ok (.aload_n 0, 1) := by decide +kernel
theorem dX8_agreed_17 : decode cX8_agreed 17 = .ok (.getfield 12, 3) := by decide +kernel
theorem dX8_agreed_20 : decode cX8_agreed 20 = .ok (.getfield 191, 3) := by decide +kernel
theorem dX8_agreed_23 : decode cX8_agreed 23 = .ok (.iload_n 2, 1) := by decide +kernel
theorem dX8_agreed_24 : decode cX8_agreed 24 = .ok (.aaload, 1) := by decide +kernel
theorem dX8_agreed_25 : decode cX8_agreed 25 = .ok (.getfield 270, 3) := by decide +kernel
theorem dX8_agreed_28 : decode cX8_agreed 28 = .ok (.invokestatic 233, 3) := by decide +kernel
theorem dX8_agreed_31 : decode cX8_agreed 31 = .ok (.istore_n 1, 1) := by decide +kernel
theorem dX8_agreed_32 : decode cX8_agreed 32 = .ok (.iinc 2 1, 3) := by decide +kernel
theorem dX8_agreed_35 : decode cX8_agreed 35 = .ok (.goto (-31), 3) := by decide +kernel
theorem dX8_agreed_38 : decode cX8_agreed 38 = .ok (.iload_n 1, 1) := by decide +kernel
theorem dX8_agreed_39 : decode cX8_agreed 39 = .ok (.ireturn, 1) := by decide +kernel
theorem dX8_agreedAgain_0 : decode cX8_agreedAgain 0 = .ok (.iconst (-1), 1) := by decide +kernel
theorem dX8_agreedAgain_1 : decode cX8_agreedAgain 1 = .ok (.istore_n 1, 1) := by decide +kernel
theorem dX8_agreedAgain_2 : decode cX8_agreedAgain 2 = .ok (.iconst 0, 1) := by decide +kernel
theorem dX8_agreedAgain_3 : decode cX8_agreedAgain 3 = .ok (.istore_n 2, 1) := by decide +kernel
theorem dX8_agreedAgain_4 : decode cX8_agreedAgain 4 = .ok (.iload_n 2, 1) := by decide +kernel
theorem dX8_agreedAgain_5 : decode cX8_agreedAgain 5 = .ok (.aload_n 0, 1) := by decide +kernel
theorem dX8_agreedAgain_6 : decode cX8_agreedAgain 6 = .ok (.getfield 12, 3) := by decide +kernel
theorem dX8_agreedAgain_9 : decode cX8_agreedAgain 9 = .ok (.getfield 54, 3) := by decide +kernel
theorem dX8_agreedAgain_12 : decode cX8_agreedAgain 12 = .ok (.if_icmp .ge 43, 3) := by decide +kernel
theorem dX8_agreedAgain_15 : decode cX8_agreedAgain 15 = .ok (.iload_n 1, 1) := by decide +kernel
theorem dX8_agreedAgain_16 : decode cX8_agreedAgain 16 = .ok (.iconst (-1), 1) := by decide +kernel
theorem dX8_agreedAgain_17 : decode cX8_agreedAgain 17 = .ok (.if_icmp .eq 30, 3) := by decide +kernel
theorem dX8_agreedAgain_20 : decode cX8_agreedAgain 20 = .ok (.aload_n 0, 1) := by decide +kernel
theorem dX8_agreedAgain_21 : decode cX8_agreedAgain 21 = .ok (.getfield 12, 3) := by decide +kernel
theorem dX8_agreedAgain_24 : decode cX8_agreedAgain 24 = .ok (.getfield 191, 3) := by decide +kernel
theorem dX8_agreedAgain_27 : decode cX8_agreedAgain 27 = .ok (.iload_n 2, 1) := by decide +kernel
theorem dX8_agreedAgain_28 : decode cX8_agreedAgain 28 = .ok (.aaload, 1) := by decide +kernel
theorem dX8_agreedAgain_29 : decode cX8_agreedAgain 29 = .ok (.getfield 270, 3) := by decide +kernel
theorem dX8_agreedAgain_32 : decode cX8_agreedAgain 32 = .ok (.aload_n 0, 1) := by decide +kernel
theorem dX8_agreedAgain_33 : decode cX8_agreedAgain 33 = .ok (.getfield 12, 3) := by decide +kernel
theorem dX8_agreedAgain_36 : decode cX8_agreedAgain 36 = .ok (.getfield 191, 3) := by decide +kernel
theorem dX8_agreedAgain_39 : decode cX8_agreedAgain 39 = .ok (.iload_n 1, 1) := by decide +kernel
theorem dX8_agreedAgain_40 : decode cX8_agreedAgain 40 = .ok (.aaload, 1) := by decide +kernel
theorem dX8_agreedAgain_41 : decode cX8_agreedAgain 41 = .ok (.getfield 270, 3) := by decide +kernel
theorem dX8_agreedAgain_44 : decode cX8_agreedAgain 44 = .ok (.if_icmp .le 5, 3) := by decide +kernel
theorem dX8_agreedAgain_47 : decode cX8_agreedAgain 47 = .ok (.iload_n 2, 1) := by decide +kernel
theorem dX8_agreedAgain_48 : decode cX8_agreedAgain 48 = .ok (.istore_n 1, 1) := by decide +kernel
theorem dX8_agreedAgain_49 : decode cX8_agreedAgain 49 = .ok (.iinc 2 1, 3) := by decide +kernel
theorem dX8_agreedAgain_52 : decode cX8_agreedAgain 52 = .ok (.goto (-48), 3) := by decide +kernel
theorem dX8_agreedAgain_55 : decode cX8_agreedAgain 55 = .ok (.iload_n 1, 1) := by decide +kernel
theorem dX8_agreedAgain_56 : decode cX8_agreedAgain 56 = .ok (.iconst (-1), 1) := by decide +kernel
theorem dX8_agreedAgain_57 : decode cX8_agreedAgain 57 = .ok (.if_icmp .ne 7, 3) := by decide +kernel
theorem dX8_agreedAgain_60 : decode cX8_agreedAgain 60 = .ok (.iconst 0, 1) := by decide +kernel
theorem dX8_agreedAgain_61 : decode cX8_agreedAgain 61 = .ok (.goto 15, 3) := by decide +kernel
theorem dX8_agreedAgain_64 : decode cX8_agreedAgain 64 = .ok (.aload_n 0, 1) := by decide +kernel
theorem dX8_agreedAgain_65 : decode cX8_agreedAgain 65 = .ok (.getfield 12, 3) := by decide +kernel
theorem dX8_agreedAgain_68 : decode cX8_agreedAgain 68 = .ok (.getfield 191, 3) := by decide +kernel
theorem dX8_agreedAgain_71 : decode cX8_agreedAgain 71 = .ok (.iload_n 1, 1) := by decide +kernel
theorem dX8_agreedAgain_72 : decode cX8_agreedAgain 72 = .ok (.aaload, 1) := by decide +kernel
theorem dX8_agreedAgain_73 : decode cX8_agreedAgain 73 = .ok (.getfield 270, 3) := by decide +kernel
theorem dX8_agreedAgain_76 : decode cX8_agreedAgain 76 = .ok (.ireturn, 1) := by decide +kernel
theorem dX8_conflicts_0 : decode cX8_conflicts 0 = .ok (.iconst 0, 1) := by decide +kernel
theorem dX8_conflicts_1 : decode cX8_conflicts 1 = .ok (.istore_n 1, 1) := by decide +kernel
theorem dX8_conflicts_2 : decode cX8_conflicts 2 = .ok (.iconst 0, 1) := by decide +kernel
theorem dX8_conflicts_3 : decode cX8_conflicts 3 = .ok (.istore_n 2, 1) := by decide +kernel
theorem dX8_conflicts_4 : decode cX8_conflicts 4 = .ok (.iload_n 2, 1) := by decide +kernel
theorem dX8_conflicts_5 : decode cX8_conflicts 5 = .ok (.aload_n 0, 1) := by decide +kernel
theorem dX8_conflicts_6 : decode cX8_conflicts 6 = .ok (.getfield 12, 3) := by decide +kernel
theorem dX8_conflicts_9 : decode cX8_conflicts 9 = .ok (.getfield 54, 3) := by decide +kernel
theorem dX8_conflicts_12 : decode cX8_conflicts 12 = .ok (.if_icmp .ge 37, 3) := by decide +kernel
theorem dX8_conflicts_15 : decode cX8_conflicts 15 = .ok (.iconst 0, 1) := by decide +kernel
theorem dX8_conflicts_16 : decode cX8_conflicts 16 = .ok (.istore_n 3, 1) := by decide +kernel
theorem dX8_conflicts_17 : decode cX8_conflicts 17 = .ok (.iload_n 3, 1) := by decide +kernel
theorem dX8_conflicts_18 : decode cX8_conflicts 18 = .ok (.iload_n 2, 1) := by decide +kernel
theorem dX8_conflicts_19 : decode cX8_conflicts 19 = .ok (.if_icmp .ge 24, 3) := by decide +kernel
theorem dX8_conflicts_22 : decode cX8_conflicts 22 = .ok (.aload_n 0, 1) := by decide +kernel
theorem dX8_conflicts_23 : decode cX8_conflicts 23 = .ok (.getfield 12, 3) := by decide +kernel
theorem dX8_conflicts_26 : decode cX8_conflicts 26 = .ok (.iload_n 2, 1) := by decide +kernel
theorem dX8_conflicts_27 : decode cX8_conflicts 27 = .ok (.iload_n 3, 1) := by decide +kernel
theorem dX8_conflicts_28 : decode cX8_conflicts 28 = .ok (.invokevirtual 315, 3) := by decide +kernel
theorem dX8_conflicts_31 : decode cX8_conflicts 31 = .ok (.ifCond .eq 6, 3) := by decide +kernel
theorem dX8_conflicts_34 : decode cX8_conflicts 34 = .ok (.iinc 1 1, 3) := by decide +kernel
theorem dX8_conflicts_37 : decode cX8_conflicts 37 = .ok (.iinc 3 1, 3) := by decide +kernel
theorem dX8_conflicts_40 : decode cX8_conflicts 40 = .ok (.goto (-23), 3) := by decide +kernel
theorem dX8_conflicts_43 : decode cX8_conflicts 43 = .ok (.iinc 2 1, 3) := by decide +kernel
theorem dX8_conflicts_46 : decode cX8_conflicts 46 = .ok (.goto (-42), 3) := by decide +kernel
theorem dX8_conflicts_49 : decode cX8_conflicts 49 = .ok (.iload_n 1, 1) := by decide +kernel
theorem dX8_conflicts_50 : decode cX8_conflicts 50 = .ok (.ireturn, 1) := by decide +kernel
theorem dX8_isSafe_0 : decode cX8_isSafe 0 = .ok (.iconst 0, 1) := by decide +kernel
theorem dX8_isSafe_1 : decode cX8_isSafe 1 = .ok (.istore_n 1, 1) := by decide +kernel
theorem dX8_isSafe_2 : decode cX8_isSafe 2 = .ok (.iload_n 1, 1) := by decide +kernel
theorem dX8_isSafe_3 : decode cX8_isSafe 3 = .ok (.aload_n 0, 1) := by decide +kernel
theorem dX8_isSafe_4 : decode cX8_isSafe 4 = .ok (.getfield 12, 3) := by decide +kernel
theorem dX8_isSafe_7 : decode cX8_isSafe 7 = .ok (.getfield 54, 3) := by decide +kernel
theorem dX8_isSafe_10 : decode cX8_isSafe 10 = .ok (.if_icmp .ge 66, 3) := by decide +kernel
theorem dX8_isSafe_13 : decode cX8_isSafe 13 = .ok (.iconst 0, 1) := by decide +kernel
theorem dX8_isSafe_14 : decode cX8_isSafe 14 = .ok (.istore_n 2, 1) := by decide +kernel
theorem dX8_isSafe_15 : decode cX8_isSafe 15 = .ok (.iload_n 2, 1) := by decide +kernel
theorem dX8_isSafe_16 : decode cX8_isSafe 16 = .ok (.iload_n 1, 1) := by decide +kernel
theorem dX8_isSafe_17 : decode cX8_isSafe 17 = .ok (.if_icmp .ge 53, 3) := by decide +kernel
theorem dX8_isSafe_20 : decode cX8_isSafe 20 = .ok (.aload_n 0, 1) := by decide +kernel
theorem dX8_isSafe_21 : decode cX8_isSafe 21 = .ok (.getfield 12, 3) := by decide +kernel
theorem dX8_isSafe_24 : decode cX8_isSafe 24 = .ok (.getfield 191, 3) := by decide +kernel
theorem dX8_isSafe_27 : decode cX8_isSafe 27 = .ok (.iload_n 1, 1) := by decide +kernel
theorem dX8_isSafe_28 : decode cX8_isSafe 28 = .ok (.aaload, 1) := by decide +kernel
theorem dX8_isSafe_29 : decode cX8_isSafe 29 = .ok (.astore_n 3, 1) := by decide +kernel
theorem dX8_isSafe_30 : decode cX8_isSafe 30 = .ok (.aload_n 0, 1) := by decide +kernel
theorem dX8_isSafe_31 : decode cX8_isSafe 31 = .ok (.getfield 12, 3) := by decide +kernel
theorem dX8_isSafe_34 : decode cX8_isSafe 34 = .ok (.getfield 191, 3) := by decide +kernel
theorem dX8_isSafe_37 : decode cX8_isSafe 37 = .ok (.iload_n 2, 1) := by decide +kernel
theorem dX8_isSafe_38 : decode cX8_isSafe 38 = .ok (.aaload, 1) := by decide +kernel
theorem dX8_isSafe_39 : decode cX8_isSafe 39 = .ok (.astore 4, 2) := by decide +kernel
theorem dX8_isSafe_41 : decode cX8_isSafe 41 = .ok (.aload_n 3, 1) := by decide +kernel
theorem dX8_isSafe_42 : decode cX8_isSafe 42 = .ok (.aload 4, 2) := by decide +kernel
theorem dX8_isSafe_44 : decode cX8_isSafe 44 = .ok (.invokevirtual 311, 3) := by decide +kernel
theorem dX8_isSafe_47 : decode cX8_isSafe 47 = .ok (.aload_n 3, 1) := by decide +kernel
theorem dX8_isSafe_48 : decode cX8_isSafe 48 = .ok (.getfield 270, 3) := by decide +kernel
theorem dX8_isSafe_51 : decode cX8_isSafe 51 = .ok (.aload 4, 2) := by decide +kernel
theorem dX8_isSafe_53 : decode cX8_isSafe 53 = .ok (.getfield 270, 3) := by decide +kernel
theorem dX8_isSafe_56 : decode cX8_isSafe 56 = .ok (.invokestatic 318, 3) := by decide +kernel
theorem dX8_isSafe_59 : decode cX8_isSafe 59 = .ok (.if_icmp .ge 5, 3) := by decide +kernel
theorem dX8_isSafe_62 : decode cX8_isSafe 62 = .ok (.iconst 0, 1) := by decide +kernel
theorem dX8_isSafe_63 : decode cX8_isSafe 63 = .ok (.ireturn, 1) := by decide +kernel
theorem dX8_isSafe_64 : decode cX8_isSafe 64 = .ok (.iinc 2 1, 3) := by decide +kernel
theorem dX8_isSafe_67 : decode cX8_isSafe 67 = .ok (.goto (-52), 3) := by decide +kernel
theorem dX8_isSafe_70 : decode cX8_isSafe 70 = .ok (.iinc 1 1, 3) := by decide +kernel
theorem dX8_isSafe_73 : decode cX8_isSafe 73 = .ok (.goto (-71), 3) := by decide +kernel
theorem dX8_isSafe_76 : decode cX8_isSafe 76 = .ok (.iconst 1, 1) := by decide +kernel
theorem dX8_isSafe_77 : decode cX8_isSafe 77 = .ok (.ireturn, 1) := by decide +kernel
theorem dX8_ranked_0 : decode cX8_ranked 0 = .ok (.iconst 0, 1) := by decide +kernel
theorem dX8_ranked_1 : decode cX8_ranked 1 = .ok (.istore_n 2, 1) := by decide +kernel
theorem dX8_ranked_2 : decode cX8_ranked 2 = .ok (.iload_n 2, 1) := by decide +kernel
theorem dX8_ranked_3 : decode cX8_ranked 3 = .ok (.aload_n 0, 1) := by decide +kernel
theorem dX8_ranked_4 : decode cX8_ranked 4 = .ok (.getfield 12, 3) := by decide +kernel
theorem dX8_ranked_7 : decode cX8_ranked 7 = .ok (.getfield 54, 3) := by decide +kernel
theorem dX8_ranked_10 : decode cX8_ranked 10 = .ok (.if_icmp .ge 23, 3) := by decide +kernel
theorem dX8_ranked_13 : decode cX8_ranked 13 = .ok (.aload_n 0, 1) := by decide +kernel
theorem dX8_ranked_14 : decode cX8_ranked 14 = .ok (.getfield 12, 3) := by decide +kernel
theorem dX8_ranked_17 : decode cX8_ranked 17 = .ok (.iload_n 2, 1) := by decide +kernel
theorem dX8_ranked_18 : decode cX8_ranked 18 = .ok (.invokevirtual 321, 3) := by decide +kernel
theorem dX8_ranked_21 : decode cX8_ranked 21 = .ok (.iload_n 1, 1) := by decide +kernel
theorem dX8_ranked_22 : decode cX8_ranked 22 = .ok (.if_icmp .ne 5, 3) := by decide +kernel
theorem dX8_ranked_25 : decode cX8_ranked 25 = .ok (.iload_n 2, 1) := by decide +kernel
theorem dX8_ranked_26 : decode cX8_ranked 26 = .ok (.ireturn, 1) := by decide +kernel
theorem dX8_ranked_27 : decode cX8_ranked 27 = .ok (.iinc 2 1, 3) := by decide +kernel
theorem dX8_ranked_30 : decode cX8_ranked 30 = .ok (.goto (-28), 3) := by decide +kernel
theorem dX8_ranked_33 : decode cX8_ranked 33 = .ok (.iconst (-1), 1) := by decide +kernel
theorem dX8_ranked_34 : decode cX8_ranked 34 = .ok (.ireturn, 1) := by decide +kernel
theorem dX8_oldest_0 : decode cX8_oldest 0 = .ok (.iconst 0, 1) := by decide +kernel
theorem dX8_oldest_1 : decode cX8_oldest 1 = .ok (.istore_n 2, 1) := by decide +kernel
theorem dX8_oldest_2 : decode cX8_oldest 2 = .ok (.iload_n 2, 1) := by decide +kernel
theorem dX8_oldest_3 : decode cX8_oldest 3 = .ok (.aload_n 0, 1) := by decide +kernel
theorem dX8_oldest_4 : decode cX8_oldest 4 = .ok (.getfield 12, 3) := by decide +kernel
theorem dX8_oldest_7 : decode cX8_oldest 7 = .ok (.getfield 54, 3) := by decide +kernel
theorem dX8_oldest_10 : decode cX8_oldest 10 = .ok (.if_icmp .ge 38, 3) := by decide +kernel
theorem dX8_oldest_13 : decode cX8_oldest 13 = .ok (.aload_n 0, 1) := by decide +kernel
theorem dX8_oldest_14 : decode cX8_oldest 14 = .ok (.getfield 12, 3) := by decide +kernel
theorem dX8_oldest_17 : decode cX8_oldest 17 = .ok (.getfield 191, 3) := by decide +kernel
theorem dX8_oldest_20 : decode cX8_oldest 20 = .ok (.iload_n 2, 1) := by decide +kernel
theorem dX8_oldest_21 : decode cX8_oldest 21 = .ok (.aaload, 1) := by decide +kernel
theorem dX8_oldest_22 : decode cX8_oldest 22 = .ok (.invokevirtual 324, 3) := by decide +kernel
theorem dX8_oldest_25 : decode cX8_oldest 25 = .ok (.ifCond .eq 17, 3) := by decide +kernel
theorem dX8_oldest_28 : decode cX8_oldest 28 = .ok (.aload_n 0, 1) := by decide +kernel
theorem dX8_oldest_29 : decode cX8_oldest 29 = .ok (.getfield 12, 3) := by decide +kernel
theorem dX8_oldest_32 : decode cX8_oldest 32 = .ok (.iload_n 2, 1) := by decide +kernel
theorem dX8_oldest_33 : decode cX8_oldest 33 = .ok (.invokevirtual 327, 3) := by decide +kernel
theorem dX8_oldest_36 : decode cX8_oldest 36 = .ok (.iload_n 1, 1) := by decide +kernel
theorem dX8_oldest_37 : decode cX8_oldest 37 = .ok (.if_icmp .ne 5, 3) := by decide +kernel
theorem dX8_oldest_40 : decode cX8_oldest 40 = .ok (.iload_n 2, 1) := by decide +kernel
theorem dX8_oldest_41 : decode cX8_oldest 41 = .ok (.ireturn, 1) := by decide +kernel
theorem dX8_oldest_42 : decode cX8_oldest 42 = .ok (.iinc 2 1, 3) := by decide +kernel
theorem dX8_oldest_45 : decode cX8_oldest 45 = .ok (.goto (-43), 3) := by decide +kernel
theorem dX8_oldest_48 : decode cX8_oldest 48 = .ok (.iconst (-1), 1) := by decide +kernel
theorem dX8_oldest_49 : decode cX8_oldest 49 = .ok (.ireturn, 1) := by decide +kernel
theorem dX8_quietBeats_0 : decode cX8_quietBeats 0 = .ok (.aload_n 0, 1) := by decide +kernel
theorem dX8_quietBeats_1 : decode cX8_quietBeats 1 = .ok (.getfield 16, 3) := by decide +kernel
theorem dX8_quietBeats_4 : decode cX8_quietBeats 4 = .ok (.aload_n 0, 1) := by decide +kernel
theorem dX8_quietBeats_5 : decode cX8_quietBeats 5 = .ok (.getfield 12, 3) := by decide +kernel
theorem dX8_quietBeats_8 : decode cX8_quietBeats 8 = .ok (.invokevirtual 113, 3) := by decide +kernel
theorem dX8_quietBeats_11 : decode cX8_quietBeats 11 = .ok (.iconst 1, 1) := by decide +kernel
theorem dX8_quietBeats_12 : decode cX8_quietBeats 12 = .ok (.istore_n 1, 1) := by decide +kernel
theorem dX8_quietBeats_13 : decode cX8_quietBeats 13 = .ok (.iload_n 1, 1) := by decide +kernel
theorem dX8_quietBeats_14 : decode cX8_quietBeats 14 = .ok (.bipush 9, 2) := by decide +kernel
theorem dX8_quietBeats_16 : decode cX8_quietBeats 16 = .ok (.if_icmp .gt 22, 3) := by decide +kernel
theorem dX8_quietBeats_19 : decode cX8_quietBeats 19 = .ok (.aload_n 0, 1) := by decide +kernel
theorem dX8_quietBeats_20 : decode cX8_quietBeats 20 = .ok (.getfield 16, 3) := by decide +kernel
theorem dX8_quietBeats_23 : decode cX8_quietBeats 23 = .ok (.iconst 1, 1) := by decide +kernel
theorem dX8_quietBeats_24 : decode cX8_quietBeats 24 = .ok (.invokevirtual 175, 3) := by decide +kernel
theorem dX8_quietBeats_27 : decode cX8_quietBeats 27 = .ok (.ifCond .le 5, 3) := by decide +kernel
theorem dX8_quietBeats_30 : decode cX8_quietBeats 30 = .ok (.iload_n 1, 1) := by decide +kernel
theorem dX8_quietBeats_31 : decode cX8_quietBeats 31 = .ok (.ireturn, 1) := by decide +kernel
theorem dX8_quietBeats_32 : decode cX8_quietBeats 32 = .ok (.iinc 1 1, 3) := by decide +kernel
theorem dX8_quietBeats_35 : decode cX8_quietBeats 35 = .ok (.goto (-22), 3) := by decide +kernel
theorem dX8_quietBeats_38 : decode cX8_quietBeats 38 = .ok (.bipush (-4), 2) := by decide +kernel
theorem dX8_quietBeats_40 : decode cX8_quietBeats 40 = .ok (.ireturn, 1) := by decide +kernel
theorem dX8_tell_0 : decode cX8_tell 0 = .ok (.aload_n 0, 1) := by decide +kernel
theorem dX8_tell_1 : decode cX8_tell 1 = .ok (.getfield 12, 3) := by decide +kernel
theorem dX8_tell_4 : decode cX8_tell 4 = .ok (.iload_n 1, 1) := by decide +kernel
theorem dX8_tell_5 : decode cX8_tell 5 = .ok (.invokevirtual 187, 3) := by decide +kernel
theorem dX8_tell_8 : decode cX8_tell 8 = .ok (.ifCond .ne 5, 3) := by decide +kernel
theorem dX8_tell_11 : decode cX8_tell 11 = .ok (.iconst (-1), 1) := by decide +kernel
theorem dX8_tell_12 : decode cX8_tell 12 = .ok (.ireturn, 1) := by decide +kernel
theorem dX8_tell_13 : decode cX8_tell 13 = .ok (.aload_n 0, 1) := by decide +kernel
theorem dX8_tell_14 : decode cX8_tell 14 = .ok (.getfield 46, 3) := by decide +kernel
theorem dX8_tell_17 : decode cX8_tell 17 = .ok (.iconst 0, 1) := by decide +kernel
theorem dX8_tell_18 : decode cX8_tell 18 = .ok (.invokevirtual 330, 3) := by decide +kernel
theorem dX8_tell_21 : decode cX8_tell 21 = .ok (.aload_n 0, 1) := by decide +kernel
theorem dX8_tell_22 : decode cX8_tell 22 = .ok (.getfield 12, 3) := by decide +kernel
theorem dX8_tell_25 : decode cX8_tell 25 = .ok (.getfield 191, 3) := by decide +kernel
theorem dX8_tell_28 : decode cX8_tell 28 = .ok (.iload_n 1, 1) := by decide +kernel
theorem dX8_tell_29 : decode cX8_tell 29 = .ok (.aaload, 1) := by decide +kernel
theorem dX8_tell_30 : decode cX8_tell 30 = .ok (.aload_n 0, 1) := by decide +kernel
theorem dX8_tell_31 : decode cX8_tell 31 = .ok (.getfield 46, 3) := by decide +kernel
theorem dX8_tell_34 : decode cX8_tell 34 = .ok (.invokevirtual 334, 3) := by decide +kernel
theorem dX8_tell_37 : decode cX8_tell 37 = .ok (.aload_n 0, 1) := by decide +kernel
theorem dX8_tell_38 : decode cX8_tell 38 = .ok (.getfield 46, 3) := by decide +kernel
theorem dX8_tell_41 : decode cX8_tell 41 = .ok (.invokevirtual 338, 3) := by decide +kernel
theorem dX8_tell_44 : decode cX8_tell 44 = .ok (.ireturn, 1) := by decide +kernel
theorem dX8_tellVotes_0 : decode cX8_tellVotes 0 = .ok (.aload_n 0, 1) := by decide +kernel
theorem dX8_tellVotes_1 : decode cX8_tellVotes 1 = .ok (.getfield 12, 3) := by decide +kernel
theorem dX8_tellVotes_4 : decode cX8_tellVotes 4 = .ok (.iload_n 1, 1) := by decide +kernel
theorem dX8_tellVotes_5 : decode cX8_tellVotes 5 = .ok (.invokevirtual 187, 3) := by decide +kernel
theorem dX8_tellVotes_8 : decode cX8_tellVotes 8 = .ok (.ifCond .ne 5, 3) := by decide +kernel
theorem dX8_tellVotes_11 : decode cX8_tellVotes 11 = .ok (.iconst (-1), 1) := by decide +kernel
theorem dX8_tellVotes_12 : decode cX8_tellVotes 12 = .ok (.ireturn, 1) := by decide +kernel
theorem dX8_tellVotes_13 : decode cX8_tellVotes 13 = .ok (.aload_n 0, 1) := by decide +kernel
theorem dX8_tellVotes_14 : decode cX8_tellVotes 14 = .ok (.getfield 46, 3) := by decide +kernel
theorem dX8_tellVotes_17 : decode cX8_tellVotes 17 = .ok (.iconst 0, 1) := by decide +kernel
theorem dX8_tellVotes_18 : decode cX8_tellVotes 18 = .ok (.invokevirtual 330, 3) := by decide +kernel
theorem dX8_tellVotes_21 : decode cX8_tellVotes 21 = .ok (.iconst 0, 1) := by decide +kernel
theorem dX8_tellVotes_22 : decode cX8_tellVotes 22 = .ok (.istore_n 2, 1) := by decide +kernel
theorem dX8_tellVotes_23 : decode cX8_tellVotes 23 = .ok (.iload_n 2, 1) := by decide +kernel
theorem dX8_tellVotes_24 : decode cX8_tellVotes 24 = .ok (.aload_n 0, 1) := by decide +kernel
theorem dX8_tellVotes_25 : decode cX8_tellVotes 25 = .ok (.getfield 12, 3) := by decide +kernel
theorem dX8_tellVotes_28 : decode cX8_tellVotes 28 = .ok (.getfield 54, 3) := by decide +kernel
theorem dX8_tellVotes_31 : decode cX8_tellVotes 31 = .ok (.if_icmp .ge 50, 3) := by decide +kernel
theorem dX8_tellVotes_34 : decode cX8_tellVotes 34 = .ok (.aload_n 0, 1) := by decide +kernel
theorem dX8_tellVotes_35 : decode cX8_tellVotes 35 = .ok (.getfield 12, 3) := by decide +kernel
theorem dX8_tellVotes_38 : decode cX8_tellVotes 38 = .ok (.iload_n 1, 1) := by decide +kernel
theorem dX8_tellVotes_39 : decode cX8_tellVotes 39 = .ok (.iload_n 2, 1) := by decide +kernel
theorem dX8_tellVotes_40 : decode cX8_tellVotes 40 = .ok (.invokevirtual 341, 3) := by decide +kernel
theorem dX8_tellVotes_43 : decode cX8_tellVotes 43 = .ok (.ifCond .eq 32, 3) := by decide +kernel
theorem dX8_tellVotes_46 : decode cX8_tellVotes 46 = .ok (.aload_n 0, 1) := by decide +kernel
theorem dX8_tellVotes_47 : decode cX8_tellVotes 47 = .ok (.getfield 46, 3) := by decide +kernel
theorem dX8_tellVotes_50 : decode cX8_tellVotes 50 = .ok (.invokevirtual 338, 3) := by decide +kernel
theorem dX8_tellVotes_53 : decode cX8_tellVotes 53 = .ok (.ifCond .le 13, 3) := by decide +kernel
theorem dX8_tellVotes_56 : decode cX8_tellVotes 56 = .ok (.aload_n 0, 1) := by decide +kernel
theorem dX8_tellVotes_57 : decode cX8_tellVotes 57 = .ok (.getfield 46, 3) := by decide +kernel
theorem dX8_tellVotes_60 : decode cX8_tellVotes 60 = .ok (.bipush 44, 2) := by decide +kernel
theorem dX8_tellVotes_62 : decode cX8_tellVotes 62 = .ok (.invokevirtual 344, 3) := by decide +kernel
theorem dX8_tellVotes_65 : decode cX8_tellVotes 65 = .ok (.pop, 1) := by decide +kernel
theorem dX8_tellVotes_66 : decode cX8_tellVotes 66 = .ok (.aload_n 0, 1) := by decide +kernel
theorem dX8_tellVotes_67 : decode cX8_tellVotes 67 = .ok (.getfield 46, 3) := by decide +kernel
theorem dX8_tellVotes_70 : decode cX8_tellVotes 70 = .ok (.iload_n 2, 1) := by decide +kernel
theorem dX8_tellVotes_71 : decode cX8_tellVotes 71 = .ok (.invokevirtual 348, 3) := by decide +kernel
theorem dX8_tellVotes_74 : decode cX8_tellVotes 74 = .ok (.pop, 1) := by decide +kernel
theorem dX8_tellVotes_75 : decode cX8_tellVotes 75 = .ok (.iinc 2 1, 3) := by decide +kernel
theorem dX8_tellVotes_78 : decode cX8_tellVotes 78 = .ok (.goto (-55), 3) := by decide +kernel
theorem dX8_tellVotes_81 : decode cX8_tellVotes 81 = .ok (.aload_n 0, 1) := by decide +kernel
theorem dX8_tellVotes_82 : decode cX8_tellVotes 82 = .ok (.getfield 46, 3) := by decide +kernel
theorem dX8_tellVotes_85 : decode cX8_tellVotes 85 = .ok (.invokevirtual 338, 3) := by decide +kernel
theorem dX8_tellVotes_88 : decode cX8_tellVotes 88 = .ok (.ifCond .ne 13, 3) := by decide +kernel
theorem dX8_tellVotes_91 : decode cX8_tellVotes 91 = .ok (.aload_n 0, 1) := by decide +kernel
theorem dX8_tellVotes_92 : decode cX8_tellVotes 92 = .ok (.getfield 46, 3) := by decide +kernel
theorem dX8_tellVotes_95 : decode cX8_tellVotes 95 = .ok (.bipush 45, 2) := by decide +kernel
theorem dX8_tellVotes_97 : decode cX8_tellVotes 97 = .ok (.invokevirtual 344, 3) := by decide +kernel
theorem dX8_tellVotes_100 : decode cX8_tellVotes 100 = .ok (.pop, 1) := by decide +kernel
theorem dX8_tellVotes_101 : decode cX8_tellVotes 101 = .ok (.aload_n 0, 1) := by decide +kernel
theorem dX8_tellVotes_102 : decode cX8_tellVotes 102 = .ok (.getfield 46, 3) := by decide +kernel
theorem dX8_tellVotes_105 : decode cX8_tellVotes 105 = .ok (.invokevirtual 338, 3) := by decide +kernel
theorem dX8_tellVotes_108 : decode cX8_tellVotes 108 = .ok (.ireturn, 1) := by decide +kernel
theorem dX8_written_0 : decode cX8_written 0 = .ok (.iload_n 1, 1) := by decide +kernel
theorem dX8_written_1 : decode cX8_written 1 = .ok (.ifCond .lt 25, 3) := by decide +kernel
theorem dX8_written_4 : decode cX8_written 4 = .ok (.iload_n 1, 1) := by decide +kernel
theorem dX8_written_5 : decode cX8_written 5 = .ok (.aload_n 0, 1) := by decide +kernel
theorem dX8_written_6 : decode cX8_written 6 = .ok (.getfield 46, 3) := by decide +kernel
theorem dX8_written_9 : decode cX8_written 9 = .ok (.invokevirtual 338, 3) := by decide +kernel
theorem dX8_written_12 : decode cX8_written 12 = .ok (.if_icmp .ge 14, 3) := by decide +kernel
theorem dX8_written_15 : decode cX8_written 15 = .ok (.aload_n 0, 1) := by decide +kernel
theorem dX8_written_16 : decode cX8_written 16 = .ok (.getfield 46, 3) := by decide +kernel
theorem dX8_written_19 : decode cX8_written 19 = .ok (.iload_n 1, 1) := by decide +kernel
theorem dX8_written_20 : decode cX8_written 20 = .ok (.invokevirtual 351, 3) := by decide +kernel
theorem dX8_written_23 : decode cX8_written 23 = .ok (.goto 4, 3) := by decide +kernel
theorem dX8_written_26 : decode cX8_written 26 = .ok (.iconst (-1), 1) := by decide +kernel
theorem dX8_written_27 : decode cX8_written 27 = .ok (.ireturn, 1) := by decide +kernel
theorem dX8_meanTale_0 : decode cX8_meanTale 0 = .ok (.aload_n 0, 1) := by decide +kernel
theorem dX8_meanTale_1 : decode cX8_meanTale 1 = .ok (.getfield 12, 3) := by decide +kernel
theorem dX8_meanTale_4 : decode cX8_meanTale 4 = .ok (.getfield 54, 3) := by decide +kernel
theorem dX8_meanTale_7 : decode cX8_meanTale 7 = .ok (.ifCond .ne 5, 3) := by decide +kernel
theorem dX8_meanTale_10 : decode cX8_meanTale 10 = .ok (.fconst 0, 1) := by decide +kernel
theorem dX8_meanTale_11 : decode cX8_meanTale 11 = .ok (.freturn, 1) := by decide +kernel
theorem dX8_meanTale_12 : decode cX8_meanTale 12 = .ok (.aload_n 0, 1) := by decide +kernel
theorem dX8_meanTale_13 : decode cX8_meanTale 13 = .ok (.getfield 12, 3) := by decide +kernel
theorem dX8_meanTale_16 : decode cX8_meanTale 16 = .ok (.invokevirtual 355, 3) := by decide +kernel
theorem dX8_meanTale_19 : decode cX8_meanTale 19 = .ok (.i2f, 1) := by decide +kernel
theorem dX8_meanTale_20 : decode cX8_meanTale 20 = .ok (.aload_n 0, 1) := by decide +kernel
theorem dX8_meanTale_21 : decode cX8_meanTale 21 = .ok (.getfield 12, 3) := by decide +kernel
theorem dX8_meanTale_24 : decode cX8_meanTale 24 = .ok (.getfield 54, 3) := by decide +kernel
theorem dX8_meanTale_27 : decode cX8_meanTale 27 = .ok (.i2f, 1) := by decide +kernel
theorem dX8_meanTale_28 : decode cX8_meanTale 28 = .ok (.fdiv, 1) := by decide +kernel
theorem dX8_meanTale_29 : decode cX8_meanTale 29 = .ok (.freturn, 1) := by decide +kernel
theorem dX8_agreedShare_0 : decode cX8_agreedShare 0 = .ok (.aload_n 0, 1) := by decide +kernel
theorem dX8_agreedShare_1 : decode cX8_agreedShare 1 = .ok (.getfield 12, 3) := by decide +kernel
theorem dX8_agreedShare_4 : decode cX8_agreedShare 4 = .ok (.invokevirtual 355, 3) := by decide +kernel
theorem dX8_agreedShare_7 : decode cX8_agreedShare 7 = .ok (.istore_n 1, 1) := by decide +kernel
theorem dX8_agreedShare_8 : decode cX8_agreedShare 8 = .ok (.iload_n 1, 1) := by decide +kernel
theorem dX8_agreedShare_9 : decode cX8_agreedShare 9 = .ok (.ifCond .ne 5, 3) := by decide +kernel
theorem dX8_agreedShare_12 : decode cX8_agreedShare 12 = .ok (.dconst 0, 1) := by decide +kernel
theorem dX8_agreedShare_13 : decode cX8_agreedShare 13 = .ok (.dreturn, 1) := by decide +kernel
theorem dX8_agreedShare_14 : decode cX8_agreedShare 14 = .ok (.aload_n 0, 1) := by decide +kernel
theorem dX8_agreedShare_15 : decode cX8_agreedShare 15 = .ok (.getfield 12, 3) := by decide +kernel
theorem dX8_agreedShare_18 : decode cX8_agreedShare 18 = .ok (.invokevirtual 358, 3) := by decide +kernel
theorem dX8_agreedShare_21 : decode cX8_agreedShare 21 = .ok (.i2d, 1) := by decide +kernel
theorem dX8_agreedShare_22 : decode cX8_agreedShare 22 = .ok (.iload_n 1, 1) := by decide +kernel
theorem dX8_agreedShare_23 : decode cX8_agreedShare 23 = .ok (.i2d, 1) := by decide +kernel
theorem dX8_agreedShare_24 : decode cX8_agreedShare 24 = .ok (.ddiv, 1) := by decide +kernel
theorem dX8_agreedShare_25 : decode cX8_agreedShare 25 = .ok (.dreturn, 1) := by decide +kernel
theorem dX8_account_0 : decode cX8_account 0 = .ok (.iload_n 1, 1) := by decide +kernel
theorem dX8_account_1 : decode cX8_account 1 = .ok (.tableswitch 171 0 12 #[67, 75, 83, 91, 99, 107, 115, 123, 131, 139, 147, 155, 163], 67) := by decide +kernel
theorem dX8_account_68 : decode cX8_account 68 = .ok (.aload_n 0, 1) := by decide +kernel
theorem dX8_account_69 : decode cX8_account 69 = .ok (.getfield 12, 3) := by decide +kernel
theorem dX8_account_72 : decode cX8_account 72 = .ok (.getfield 361, 3) := by decide +kernel
theorem dX8_account_75 : decode cX8_account 75 = .ok (.ireturn, 1) := by decide +kernel
theorem dX8_account_76 : decode cX8_account 76 = .ok (.aload_n 0, 1) := by decide +kernel
theorem dX8_account_77 : decode cX8_account 77 = .ok (.getfield 12, 3) := by decide +kernel
theorem dX8_account_80 : decode cX8_account 80 = .ok (.getfield 54, 3) := by decide +kernel
theorem dX8_account_83 : decode cX8_account 83 = .ok (.ireturn, 1) := by decide +kernel
theorem dX8_account_84 : decode cX8_account 84 = .ok (.aload_n 0, 1) := by decide +kernel
theorem dX8_account_85 : decode cX8_account 85 = .ok (.getfield 12, 3) := by decide +kernel
theorem dX8_account_88 : decode cX8_account 88 = .ok (.invokevirtual 223, 3) := by decide +kernel
theorem dX8_account_91 : decode cX8_account 91 = .ok (.ireturn, 1) := by decide +kernel
theorem dX8_account_92 : decode cX8_account 92 = .ok (.aload_n 0, 1) := by decide +kernel
theorem dX8_account_93 : decode cX8_account 93 = .ok (.getfield 12, 3) := by decide +kernel
theorem dX8_account_96 : decode cX8_account 96 = .ok (.invokevirtual 242, 3) := by decide +kernel
theorem dX8_account_99 : decode cX8_account 99 = .ok (.ireturn, 1) := by decide +kernel
theorem dX8_account_100 : decode cX8_account 100 = .ok (.aload_n 0, 1) := by decide +kernel
theorem dX8_account_101 : decode cX8_account 101 = .ok (.getfield 12, 3) := by decide +kernel
theorem dX8_account_104 : decode cX8_account 104 = .ok (.invokevirtual 364, 3) := by decide +kernel
theorem dX8_account_107 : decode cX8_account 107 = .ok (.ireturn, 1) := by decide +kernel
theorem dX8_account_108 : decode cX8_account 108 = .ok (.aload_n 0, 1) := by decide +kernel
theorem dX8_account_109 : decode cX8_account 109 = .ok (.getfield 12, 3) := by decide +kernel
theorem dX8_account_112 : decode cX8_account 112 = .ok (.getfield 178, 3) := by decide +kernel
theorem dX8_account_115 : decode cX8_account 115 = .ok (.ireturn, 1) := by decide +kernel
theorem dX8_account_116 : decode cX8_account 116 = .ok (.aload_n 0, 1) := by decide +kernel
theorem dX8_account_117 : decode cX8_account 117 = .ok (.getfield 12, 3) := by decide +kernel
theorem dX8_account_120 : decode cX8_account 120 = .ok (.getfield 367, 3) := by decide +kernel
theorem dX8_account_123 : decode cX8_account 123 = .ok (.ireturn, 1) := by decide +kernel
theorem dX8_account_124 : decode cX8_account 124 = .ok (.aload_n 0, 1) := by decide +kernel
theorem dX8_account_125 : decode cX8_account 125 = .ok (.getfield 12, 3) := by decide +kernel
theorem dX8_account_128 : decode cX8_account 128 = .ok (.getfield 216, 3) := by decide +kernel
theorem dX8_account_131 : decode cX8_account 131 = .ok (.ireturn, 1) := by decide +kernel
theorem dX8_account_132 : decode cX8_account 132 = .ok (.aload_n 0, 1) := by decide +kernel
theorem dX8_account_133 : decode cX8_account 133 = .ok (.getfield 12, 3) := by decide +kernel
theorem dX8_account_136 : decode cX8_account 136 = .ok (.getfield 370, 3) := by decide +kernel
theorem dX8_account_139 : decode cX8_account 139 = .ok (.ireturn, 1) := by decide +kernel
theorem dX8_account_140 : decode cX8_account 140 = .ok (.aload_n 0, 1) := by decide +kernel
theorem dX8_account_141 : decode cX8_account 141 = .ok (.getfield 12, 3) := by decide +kernel
theorem dX8_account_144 : decode cX8_account 144 = .ok (.getfield 373, 3) := by decide +kernel
theorem dX8_account_147 : decode cX8_account 147 = .ok (.ireturn, 1) := by decide +kernel
theorem dX8_account_148 : decode cX8_account 148 = .ok (.aload_n 0, 1) := by decide +kernel
theorem dX8_account_149 : decode cX8_account 149 = .ok (.getfield 12, 3) := by decide +kernel
theorem dX8_account_152 : decode cX8_account 152 = .ok (.getfield 376, 3) := by decide +kernel
theorem dX8_account_155 : decode cX8_account 155 = .ok (.ireturn, 1) := by decide +kernel
theorem dX8_account_156 : decode cX8_account 156 = .ok (.aload_n 0, 1) := by decide +kernel
theorem dX8_account_157 : decode cX8_account 157 = .ok (.getfield 39, 3) := by decide +kernel
theorem dX8_account_160 : decode cX8_account 160 = .ok (.invokevirtual 67, 3) := by decide +kernel
theorem dX8_account_163 : decode cX8_account 163 = .ok (.ireturn, 1) := by decide +kernel
theorem dX8_account_164 : decode cX8_account 164 = .ok (.aload_n 0, 1) := by decide +kernel
theorem dX8_account_165 : decode cX8_account 165 = .ok (.getfield 25, 3) := by decide +kernel
theorem dX8_account_168 : decode cX8_account 168 = .ok (.getfield 379, 3) := by decide +kernel
theorem dX8_account_171 : decode cX8_account 171 = .ok (.ireturn, 1) := by decide +kernel
theorem dX8_account_172 : decode cX8_account 172 = .ok (.bipush (-2), 2) := by decide +kernel
theorem dX8_account_174 : decode cX8_account 174 = .ok (.ireturn, 1) := by decide +kernel
theorem dX8_undo_0 : decode cX8_undo 0 = .ok (.aload_n 0, 1) := by decide +kernel
theorem dX8_undo_1 : decode cX8_undo 1 = .ok (.getfield 25, 3) := by decide +kernel
theorem dX8_undo_4 : decode cX8_undo 4 = .ok (.getfield 379, 3) := by decide +kernel
theorem dX8_undo_7 : decode cX8_undo 7 = .ok (.ifCond .ne 6, 3) := by decide +kernel
theorem dX8_undo_10 : decode cX8_undo 10 = .ok (.bipush (-4), 2) := by decide +kernel
theorem dX8_undo_12 : decode cX8_undo 12 = .ok (.ireturn, 1) := by decide +kernel
theorem dX8_undo_13 : decode cX8_undo 13 = .ok (.aload_n 0, 1) := by decide +kernel
theorem dX8_undo_14 : decode cX8_undo 14 = .ok (.getfield 25, 3) := by decide +kernel
theorem dX8_undo_17 : decode cX8_undo 17 = .ok (.aload_n 0, 1) := by decide +kernel
theorem dX8_undo_18 : decode cX8_undo 18 = .ok (.getfield 12, 3) := by decide +kernel
theorem dX8_undo_21 : decode cX8_undo 21 = .ok (.invokevirtual 380, 3) := by decide +kernel
theorem dX8_undo_24 : decode cX8_undo 24 = .ok (.aload_n 0, 1) := by decide +kernel
theorem dX8_undo_25 : decode cX8_undo 25 = .ok (.getfield 25, 3) := by decide +kernel
theorem dX8_undo_28 : decode cX8_undo 28 = .ok (.getfield 379, 3) := by decide +kernel
theorem dX8_undo_31 : decode cX8_undo 31 = .ok (.ireturn, 1) := by decide +kernel
theorem dX8_save_0 : decode cX8_save 0 = .ok (.aload_n 0, 1) := by decide +kernel
theorem dX8_save_1 : decode cX8_save 1 = .ok (.getfield 19, 3) := by decide +kernel
theorem dX8_save_4 : decode cX8_save 4 = .ok (.aload_n 0, 1) := by decide +kernel
theorem dX8_save_5 : decode cX8_save 5 = .ok (.getfield 12, 3) := by decide +kernel
theorem dX8_save_8 : decode cX8_save 8 = .ok (.invokevirtual 113, 3) := by decide +kernel
theorem dX8_save_11 : decode cX8_save 11 = .ok (.aload_n 0, 1) := by decide +kernel
theorem dX8_save_12 : decode cX8_save 12 = .ok (.iconst 1, 1) := by decide +kernel
theorem dX8_save_13 : decode cX8_save 13 = .ok (.putfield 383, 3) := by decide +kernel
theorem dX8_save_16 : decode cX8_save 16 = .ok (.aload_n 0, 1) := by decide +kernel
theorem dX8_save_17 : decode cX8_save 17 = .ok (.getfield 12, 3) := by decide +kernel
theorem dX8_save_20 : decode cX8_save 20 = .ok (.getfield 361, 3) := by decide +kernel
theorem dX8_save_23 : decode cX8_save 23 = .ok (.ireturn, 1) := by decide +kernel
theorem dX8_restore_0 : decode cX8_restore 0 = .ok (.aload_n 0, 1) := by decide +kernel
theorem dX8_restore_1 : decode cX8_restore 1 = .ok (.getfield 383, 3) := by decide +kernel
theorem dX8_restore_4 : decode cX8_restore 4 = .ok (.ifCond .ne 6, 3) := by decide +kernel
theorem dX8_restore_7 : decode cX8_restore 7 = .ok (.bipush (-4), 2) := by decide +kernel
theorem dX8_restore_9 : decode cX8_restore 9 = .ok (.ireturn, 1) := by decide +kernel
theorem dX8_restore_10 : decode cX8_restore 10 = .ok (.aload_n 0, 1) := by decide +kernel
theorem dX8_restore_11 : decode cX8_restore 11 = .ok (.getfield 12, 3) := by decide +kernel
theorem dX8_restore_14 : decode cX8_restore 14 = .ok (.aload_n 0, 1) := by decide +kernel
theorem dX8_restore_15 : decode cX8_restore 15 = .ok (.getfield 19, 3) := by decide +kernel
theorem dX8_restore_18 : decode cX8_restore 18 = .ok (.invokevirtual 113, 3) := by decide +kernel
theorem dX8_restore_21 : decode cX8_restore 21 = .ok (.aload_n 0, 1) := by decide +kernel
theorem dX8_restore_22 : decode cX8_restore 22 = .ok (.getfield 25, 3) := by decide +kernel
theorem dX8_restore_25 : decode cX8_restore 25 = .ok (.invokevirtual 60, 3) := by decide +kernel
theorem dX8_restore_28 : decode cX8_restore 28 = .ok (.aload_n 0, 1) := by decide +kernel
theorem dX8_restore_29 : decode cX8_restore 29 = .ok (.getfield 12, 3) := by decide +kernel
theorem dX8_restore_32 : decode cX8_restore 32 = .ok (.getfield 361, 3) := by decide +kernel
theorem dX8_restore_35 : decode cX8_restore 35 = .ok (.ireturn, 1) := by decide +kernel
end
section
theorem dX9_init_0 : decode cX9_init 0 = .ok (.aload_n 0, 1) := by decide +kernel
theorem dX9_init_1 : decode cX9_init 1 = .ok (.invokespecial 3, 3) := by decide +kernel
theorem dX9_init_4 : decode cX9_init 4 = .ok (.aload_n 0, 1) := by decide +kernel
theorem dX9_init_5 : decode cX9_init 5 = .ok (.sipush 203, 3) := by decide +kernel
theorem dX9_init_8 : decode cX9_init 8 = .ok (.newarray .int, 2) := by decide +kernel
theorem dX9_init_10 : decode cX9_init 10 = .ok (.putfield 9, 3) := by decide +kernel
theorem dX9_init_13 : decode cX9_init 13 = .ok (.aload_n 0, 1) := by decide +kernel
theorem dX9_init_14 : decode cX9_init 14 = .ok (.sipush 203, 3) := by decide +kernel
theorem dX9_init_17 : decode cX9_init 17 = .ok (.newarray .int, 2) := by decide +kernel
theorem dX9_init_19 : decode cX9_init 19 = .ok (.putfield 13, 3) := by decide +kernel
theorem dX9_init_22 : decode cX9_init 22 = .ok (.aload_n 0, 1) := by decide +kernel
theorem dX9_init_23 : decode cX9_init 23 = .ok (.sipush 203, 3) := by decide +kernel
theorem dX9_init_26 : decode cX9_init 26 = .ok (.newarray .int, 2) := by decide +kernel
theorem dX9_init_28 : decode cX9_init 28 = .ok (.putfield 16, 3) := by decide +kernel
theorem dX9_init_31 : decode cX9_init 31 = .ok (.aload_n 0, 1) := by decide +kernel
theorem dX9_init_32 : decode cX9_init 32 = .ok (.sipush 203, 3) := by decide +kernel
theorem dX9_init_35 : decode cX9_init 35 = .ok (.newarray .int, 2) := by decide +kernel
theorem dX9_init_37 : decode cX9_init 37 = .ok (.putfield 19, 3) := by decide +kernel
theorem dX9_init_40 : decode cX9_init 40 = .ok (.aload_n 0, 1) := by decide +kernel
theorem dX9_init_41 : decode cX9_init 41 = .ok (.sipush 1624, 3) := by decide +kernel
theorem dX9_init_44 : decode cX9_init 44 = .ok (.newarray .int, 2) := by decide +kernel
theorem dX9_init_46 : decode cX9_init 46 = .ok (.putfield 22, 3) := by decide +kernel
theorem dX9_init_49 : decode cX9_init 49 = .ok (.aload_n 0, 1) := by decide +kernel
theorem dX9_init_50 : decode cX9_init 50 = .ok (.bipush (-4), 2) := by decide +kernel
theorem dX9_init_52 : decode cX9_init 52 = .ok (.putfield 25, 3) := by decide +kernel
theorem dX9_init_55 : decode cX9_init 55 = .ok (.aload_n 0, 1) := by decide +kernel
theorem dX9_init_56 : decode cX9_init 56 = .ok (.bipush 60, 2) := by decide +kernel
theorem dX9_init_58 : decode cX9_init 58 = .ok (.newarray .int, 2) := by decide +kernel
theorem dX9_init_60 : decode cX9_init 60 = .ok (.putfield 29, 3) := by decide +kernel
theorem dX9_init_63 : decode cX9_init 63 = .ok (.aload_n 0, 1) := by decide +kernel
theorem dX9_init_64 : decode cX9_init 64 = .ok (.bipush 39, 2) := by decide +kernel
theorem dX9_init_66 : decode cX9_init 66 = .ok (.newarray .int, 2) := by decide +kernel
theorem dX9_init_68 : decode cX9_init 68 = .ok (.putfield 32, 3) := by decide +kernel
theorem dX9_init_71 : decode cX9_init 71 = .ok (.aload_n 0, 1) := by decide +kernel
theorem dX9_init_72 : decode cX9_init 72 = .ok (.bipush 120, 2) := by decide +kernel
theorem dX9_init_74 : decode cX9_init 74 = .ok (.newarray .int, 2) := by decide +kernel
theorem dX9_init_76 : decode cX9_init 76 = .ok (.putfield 35, 3) := by decide +kernel
theorem dX9_init_79 : decode cX9_init 79 = .ok (.return_, 1) := by decide +kernel
theorem dX9_isIn_0 : decode cX9_isIn 0 = .ok (.iload_n 0, 1) := by decide +kernel
theorem dX9_isIn_1 : decode cX9_isIn 1 = .ok (.iload_n 1, 1) := by decide +kernel
theorem dX9_isIn_2 : decode cX9_isIn 2 = .ok (.if_icmp .lt 12, 3) := by decide +kernel
theorem dX9_isIn_5 : decode cX9_isIn 5 = .ok (.iload_n 0, 1) := by decide +kernel
theorem dX9_isIn_6 : decode cX9_isIn 6 = .ok (.iload_n 2, 1) := by decide +kernel
theorem dX9_isIn_7 : decode cX9_isIn 7 = .ok (.if_icmp .gt 7, 3) := by decide +kernel
theorem dX9_isIn_10 : decode cX9_isIn 10 = .ok (.iconst 1, 1) := by decide +kernel
theorem dX9_isIn_11 : decode cX9_isIn 11 = .ok (.goto 4, 3) := by decide +kernel
theorem dX9_isIn_14 : decode cX9_isIn 14 = .ok (.iconst 0, 1) := by decide +kernel
theorem dX9_isIn_15 : decode cX9_isIn 15 = .ok (.ireturn, 1) := by decide +kernel
theorem dX9_lesser_0 : decode cX9_lesser 0 = .ok (.iload_n 0, 1) := by decide +kernel
theorem dX9_lesser_1 : decode cX9_lesser 1 = .ok (.iload_n 1, 1) := by decide +kernel
theorem dX9_lesser_2 : decode cX9_lesser 2 = .ok (.if_icmp .ge 7, 3) := by decide +kernel
theorem dX9_lesser_5 : decode cX9_lesser 5 = .ok (.iload_n 0, 1) := by decide +kernel
theorem dX9_lesser_6 : decode cX9_lesser 6 = .ok (.goto 4, 3) := by decide +kernel
theorem dX9_lesser_9 : decode cX9_lesser 9 = .ok (.iload_n 1, 1) := by decide +kernel
theorem dX9_lesser_10 : decode cX9_lesser 10 = .ok (.ireturn, 1) := by decide +kernel
theorem dX9_greater_0 : decode cX9_greater 0 = .ok (.iload_n 0, 1) := by decide +kernel
theorem dX9_greater_1 : decode cX9_greater 1 = .ok (.iload_n 1, 1) := by decide +kernel
theorem dX9_greater_2 : decode cX9_greater 2 = .ok (.if_icmp .le 7, 3) := by decide +kernel
theorem dX9_greater_5 : decode cX9_greater 5 = .ok (.iload_n 0, 1) := by decide +kernel
theorem dX9_greater_6 : decode cX9_greater 6 = .ok (.goto 4, 3) := by decide +kernel
theorem dX9_greater_9 : decode cX9_greater 9 = .ok (.iload_n 1, 1) := by decide +kernel
theorem dX9_greater_10 : decode cX9_greater 10 = .ok (.ireturn, 1) := by decide +kernel
theorem dX9_copies_0 : decode cX9_copies 0 = .ok (.iconst 0, 1) := by decide +kernel
theorem dX9_copies_1 : decode cX9_copies 1 = .ok (.istore 4, 2) := by decide +kernel
theorem dX9_copies_3 : decode cX9_copies 3 = .ok (.iload 4, 2) := by decide +kernel
theorem dX9_copies_5 : decode cX9_copies 5 = .ok (.sipush 203, 3) := by decide +kernel
theorem dX9_copies_8 : decode cX9_copies 8 = .ok (.if_icmp .ge 21, 3) := by decide +kernel
theorem dX9_copies_11 : decode cX9_copies 11 = .ok (.aload_n 2, 1) := by decide +kernel
theorem dX9_copies_12 : decode cX9_copies 12 = .ok (.iload_n 3, 1) := by decide +kernel
theorem dX9_copies_13 : decode cX9_copies 13 = .ok (.iload 4, 2) := by decide +kernel
theorem dX9_copies_15 : decode cX9_copies 15 = .ok (.iadd, 1) := by decide +kernel
theorem dX9_copies_16 : decode cX9_copies 16 = .ok (.aload_n 0, 1) := by decide +kernel
theorem dX9_copies_17 : decode cX9_copies 17 = .ok (.iload_n 1, 1) := by decide +kernel
theorem dX9_copies_18 : decode cX9_copies 18 = .ok (.iload 4, 2) := by decide +kernel
theorem dX9_copies_20 : decode cX9_copies 20 = .ok (.iadd, 1) := by decide +kernel
theorem dX9_copies_21 : decode cX9_copies 21 = .ok (.iaload, 1) := by decide +kernel
theorem dX9_copies_22 : decode cX9_copies 22 = .ok (.iastore, 1) := by decide +kernel
theorem dX9_copies_23 : decode cX9_copies 23 = .ok (.iinc 4 1, 3) := by decide +kernel
theorem dX9_copies_26 : decode cX9_copies 26 = .ok (.goto (-23), 3) := by decide +kernel
theorem dX9_copies_29 : decode cX9_copies 29 = .ok (.return_, 1) := by decide +kernel
theorem dX9_keeps_0 : decode cX9_keeps 0 = .ok (.aload_n 0, 1) := by decide +kernel
theorem dX9_keeps_1 : decode cX9_keeps 1 = .ok (.getfield 9, 3) := by decide +kernel
theorem dX9_keeps_4 : decode cX9_keeps 4 = .ok (.iconst 0, 1) := by decide +kernel
theorem dX9_keeps_5 : decode cX9_keeps 5 = .ok (.aload_n 0, 1) := by decide +kernel
theorem dX9_keeps_6 : decode cX9_keeps 6 = .ok (.getfield 13, 3) := by decide +kernel
theorem dX9_keeps_9 : decode cX9_keeps 9 = .ok (.iconst 0, 1) := by decide +kernel
theorem dX9_keeps_10 : decode cX9_keeps 10 = .ok (.invokestatic 38, 3) := by decide +kernel
theorem dX9_keeps_13 : decode cX9_keeps 13 = .ok (.return_, 1) := by decide +kernel
theorem dX9_changed_0 : decode cX9_changed 0 = .ok (.aload_n 0, 1) := by decide +kernel
theorem dX9_changed_1 : decode cX9_changed 1 = .ok (.getfield 42, 3) := by decide +kernel
theorem dX9_changed_4 : decode cX9_changed 4 = .ok (.bipush 8, 2) := by decide +kernel
theorem dX9_changed_6 : decode cX9_changed 6 = .ok (.if_icmp .ne 50, 3) := by decide +kernel
theorem dX9_changed_9 : decode cX9_changed 9 = .ok (.iconst 1, 1) := by decide +kernel
theorem dX9_changed_10 : decode cX9_changed 10 = .ok (.istore_n 1, 1) := by decide +kernel
theorem dX9_changed_11 : decode cX9_changed 11 = .ok (.iload_n 1, 1) := by decide +kernel
theorem dX9_changed_12 : decode cX9_changed 12 = .ok (.bipush 8, 2) := by decide +kernel
theorem dX9_changed_14 : decode cX9_changed 14 = .ok (.if_icmp .ge 32, 3) := by decide +kernel
theorem dX9_changed_17 : decode cX9_changed 17 = .ok (.aload_n 0, 1) := by decide +kernel
theorem dX9_changed_18 : decode cX9_changed 18 = .ok (.getfield 22, 3) := by decide +kernel
theorem dX9_changed_21 : decode cX9_changed 21 = .ok (.sipush 203, 3) := by decide +kernel
theorem dX9_changed_24 : decode cX9_changed 24 = .ok (.iload_n 1, 1) := by decide +kernel
theorem dX9_changed_25 : decode cX9_changed 25 = .ok (.imul, 1) := by decide +kernel
theorem dX9_changed_26 : decode cX9_changed 26 = .ok (.aload_n 0, 1) := by decide +kernel
theorem dX9_changed_27 : decode cX9_changed 27 = .ok (.getfield 22, 3) := by decide +kernel
theorem dX9_changed_30 : decode cX9_changed 30 = .ok (.sipush 203, 3) := by decide +kernel
theorem dX9_changed_33 : decode cX9_changed 33 = .ok (.iload_n 1, 1) := by decide +kernel
theorem dX9_changed_34 : decode cX9_changed 34 = .ok (.iconst 1, 1) := by decide +kernel
theorem dX9_changed_35 : decode cX9_changed 35 = .ok (.isub, 1) := by decide +kernel
theorem dX9_changed_36 : decode cX9_changed 36 = .ok (.imul, 1) := by decide +kernel
theorem dX9_changed_37 : decode cX9_changed 37 = .ok (.invokestatic 38, 3) := by decide +kernel
theorem dX9_changed_40 : decode cX9_changed 40 = .ok (.iinc 1 1, 3) := by decide +kernel
theorem dX9_changed_43 : decode cX9_changed 43 = .ok (.goto (-32), 3) := by decide +kernel
theorem dX9_changed_46 : decode cX9_changed 46 = .ok (.aload_n 0, 1) := by decide +kernel
theorem dX9_changed_47 : decode cX9_changed 47 = .ok (.dup, 1) := by decide +kernel
theorem dX9_changed_48 : decode cX9_changed 48 = .ok (.getfield 42, 3) := by decide +kernel
theorem dX9_changed_51 : decode cX9_changed 51 = .ok (.iconst 1, 1) := by decide +kernel
theorem dX9_changed_52 : decode cX9_changed 52 = .ok (.isub, 1) := by decide +kernel
theorem dX9_changed_53 : decode cX9_changed 53 = .ok (.putfield 42, 3) := by decide +kernel
theorem dX9_changed_56 : decode cX9_changed 56 = .ok (.aload_n 0, 1) := by decide +kernel
theorem dX9_changed_57 : decode cX9_changed 57 = .ok (.getfield 13, 3) := by decide +kernel
theorem dX9_changed_60 : decode cX9_changed 60 = .ok (.iconst 0, 1) := by decide +kernel
theorem dX9_changed_61 : decode cX9_changed 61 = .ok (.aload_n 0, 1) := by decide +kernel
theorem dX9_changed_62 : decode cX9_changed 62 = .ok (.getfield 22, 3) := by decide +kernel
theorem dX9_changed_65 : decode cX9_changed 65 = .ok (.sipush 203, 3) := by decide +kernel
theorem dX9_changed_68 : decode cX9_changed 68 = .ok (.aload_n 0, 1) := by decide +kernel
theorem dX9_changed_69 : decode cX9_changed 69 = .ok (.getfield 42, 3) := by decide +kernel
theorem dX9_changed_72 : decode cX9_changed 72 = .ok (.imul, 1) := by decide +kernel
theorem dX9_changed_73 : decode cX9_changed 73 = .ok (.invokestatic 38, 3) := by decide +kernel
theorem dX9_changed_76 : decode cX9_changed 76 = .ok (.aload_n 0, 1) := by decide +kernel
theorem dX9_changed_77 : decode cX9_changed 77 = .ok (.dup, 1) := by decide +kernel
theorem dX9_changed_78 : decode cX9_changed 78 = .ok (.getfield 42, 3) := by decide +kernel
theorem dX9_changed_81 : decode cX9_changed 81 = .ok (.iconst 1, 1) := by decide +kernel
theorem dX9_changed_82 : decode cX9_changed 82 = .ok (.iadd, 1) := by decide +kernel
theorem dX9_changed_83 : decode cX9_changed 83 = .ok (.putfield 42, 3) := by decide +kernel
theorem dX9_changed_86 : decode cX9_changed 86 = .ok (.return_, 1) := by decide +kernel
theorem dX9_ends_0 : decode cX9_ends 0 = .ok (.iload_n 1, 1) := by decide +kernel
theorem dX9_ends_1 : decode cX9_ends 1 = .ok (.ifCond .lt 7, 3) := by decide +kernel
theorem dX9_ends_4 : decode cX9_ends 4 = .ok (.aload_n 0, 1) := by decide +kernel
theorem dX9_ends_5 : decode cX9_ends 5 = .ok (.invokevirtual 45, 3) := by decide +kernel
theorem dX9_ends_8 : decode cX9_ends 8 = .ok (.iload_n 1, 1) := by decide +kernel
theorem dX9_ends_9 : decode cX9_ends 9 = .ok (.ireturn, 1) := by decide +kernel
theorem dX9_isRefused_0 : decode cX9_isRefused 0 = .ok (.iload_n 1, 1) := by decide +kernel
theorem dX9_isRefused_1 : decode cX9_isRefused 1 = .ok (.ifCond .eq 18, 3) := by decide +kernel
theorem dX9_isRefused_4 : decode cX9_isRefused 4 = .ok (.aload_n 0, 1) := by decide +kernel
theorem dX9_isRefused_5 : decode cX9_isRefused 5 = .ok (.iload_n 2, 1) := by decide +kernel
theorem dX9_isRefused_6 : decode cX9_isRefused 6 = .ok (.putfield 48, 3) := by decide +kernel
theorem dX9_isRefused_9 : decode cX9_isRefused 9 = .ok (.aload_n 0, 1) := by decide +kernel
theorem dX9_isRefused_10 : decode cX9_isRefused 10 = .ok (.iload_n 3, 1) := by decide +kernel
theorem dX9_isRefused_11 : decode cX9_isRefused 11 = .ok (.putfield 51, 3) := by decide +kernel
theorem dX9_isRefused_14 : decode cX9_isRefused 14 = .ok (.aload_n 0, 1) := by decide +kernel
theorem dX9_isRefused_15 : decode cX9_isRefused 15 = .ok (.iconst 0, 1) := by decide +kernel
theorem dX9_isRefused_16 : decode cX9_isRefused 16 = .ok (.putfield 54, 3) := by decide +kernel
theorem dX9_isRefused_19 : decode cX9_isRefused 19 = .ok (.iload_n 1, 1) := by decide +kernel
theorem dX9_isRefused_20 : decode cX9_isRefused 20 = .ok (.ireturn, 1) := by decide +kernel
theorem dX9_at_0 : decode cX9_at 0 = .ok (.bipush 33, 2) := by decide +kernel
theorem dX9_at_2 : decode cX9_at 2 = .ok (.bipush 34, 2) := by decide +kernel
theorem dX9_at_4 : decode cX9_at 4 = .ok (.iload_n 0, 1) := by decide +kernel
theorem dX9_at_5 : decode cX9_at 5 = .ok (.imul, 1) := by decide +kernel
theorem dX9_at_6 : decode cX9_at 6 = .ok (.iadd, 1) := by decide +kernel
theorem dX9_at_7 : decode cX9_at 7 = .ok (.iload_n 1, 1) := by decide +kernel
theorem dX9_at_8 : decode cX9_at 8 = .ok (.iadd, 1) := by decide +kernel
theorem dX9_at_9 : decode cX9_at 9 = .ok (.ireturn, 1) := by decide +kernel
theorem dX9_of_0 : decode cX9_of 0 = .ok (.aload_n 0, 1) := by decide +kernel
theorem dX9_of_1 : decode cX9_of 1 = .ok (.getfield 9, 3) := by decide +kernel
theorem dX9_of_4 : decode cX9_of 4 = .ok (.iload_n 1, 1) := by decide +kernel
theorem dX9_of_5 : decode cX9_of 5 = .ok (.iload_n 2, 1) := by decide +kernel
theorem dX9_of_6 : decode cX9_of 6 = .ok (.invokestatic 57, 3) := by decide +kernel
theorem dX9_of_9 : decode cX9_of 9 = .ok (.iaload, 1) := by decide +kernel
theorem dX9_of_10 : decode cX9_of 10 = .ok (.ireturn, 1) := by decide +kernel
theorem dX9_sets_0 : decode cX9_sets 0 = .ok (.aload_n 0, 1) := by decide +kernel
theorem dX9_sets_1 : decode cX9_sets 1 = .ok (.getfield 9, 3) := by decide +kernel
theorem dX9_sets_4 : decode cX9_sets 4 = .ok (.iload_n 1, 1) := by decide +kernel
theorem dX9_sets_5 : decode cX9_sets 5 = .ok (.iload_n 2, 1) := by decide +kernel
theorem dX9_sets_6 : decode cX9_sets 6 = .ok (.invokestatic 57, 3) := by decide +kernel
theorem dX9_sets_9 : decode cX9_sets 9 = .ok (.iload_n 3, 1) := by decide +kernel
theorem dX9_sets_10 : decode cX9_sets 10 = .ok (.iastore, 1) := by decide +kernel
theorem dX9_sets_11 : decode cX9_sets 11 = .ok (.return_, 1) := by decide +kernel
theorem dX9_isDriver_0 : decode cX9_isDriver 0 = .ok (.iload_n 1, 1) := by decide +kernel
theorem dX9_isDriver_1 : decode cX9_isDriver 1 = .ok (.iconst 0, 1) := by decide +kernel
theorem dX9_isDriver_2 : decode cX9_isDriver 2 = .ok (.aload_n 0, 1) := by decide +kernel
theorem dX9_isDriver_3 : decode cX9_isDriver 3 = .ok (.getfield 9, 3) := by decide +kernel
theorem dX9_isDriver_6 : decode cX9_isDriver 6 = .ok (.iconst 1, 1) := by decide +kernel
theorem dX9_isDriver_7 : decode cX9_isDriver 7 = .ok (.iaload, 1) := by decide +kernel
theorem dX9_isDriver_8 : decode cX9_isDriver 8 = .ok (.iconst 1, 1) := by decide +kernel
theorem dX9_isDriver_9 : decode cX9_isDriver 9 = .ok (.isub, 1) := by decide +kernel
theorem dX9_isDriver_10 : decode cX9_isDriver 10 = .ok (.invokestatic 61, 3) := by decide +kernel
theorem dX9_isDriver_13 : decode cX9_isDriver 13 = .ok (.ireturn, 1) := by decide +kernel
theorem dX9_areDrivers_0 : decode cX9_areDrivers 0 = .ok (.aload_n 0, 1) := by decide +kernel
theorem dX9_areDrivers_1 : decode cX9_areDrivers 1 = .ok (.iload_n 1, 1) := by decide +kernel
theorem dX9_areDrivers_2 : decode cX9_areDrivers 2 = .ok (.invokevirtual 65, 3) := by decide +kernel
theorem dX9_areDrivers_5 : decode cX9_areDrivers 5 = .ok (.ifCond .eq 15, 3) := by decide +kernel
theorem dX9_areDrivers_8 : decode cX9_areDrivers 8 = .ok (.aload_n 0, 1) := by decide +kernel
theorem dX9_areDrivers_9 : decode cX9_areDrivers 9 = .ok (.iload_n 2, 1) := by decide +kernel
theorem dX9_areDrivers_10 : decode cX9_areDrivers 10 = .ok (.invokevirtual 65, 3) := by decide +kernel
theorem dX9_areDrivers_13 : decode cX9_areDrivers 13 = .ok (.ifCond .eq 7, 3) := by decide +kernel
theorem dX9_areDrivers_16 : decode cX9_areDrivers 16 = .ok (.iconst 1, 1) := by decide +kernel
theorem dX9_areDrivers_17 : decode cX9_areDrivers 17 = .ok (.goto 4, 3) := by decide +kernel
theorem dX9_areDrivers_20 : decode cX9_areDrivers 20 = .ok (.iconst 0, 1) := by decide +kernel
theorem dX9_areDrivers_21 : decode cX9_areDrivers 21 = .ok (.ireturn, 1) := by decide +kernel
theorem dX9_isAboard_0 : decode cX9_isAboard 0 = .ok (.aload_n 0, 1) := by decide +kernel
theorem dX9_isAboard_1 : decode cX9_isAboard 1 = .ok (.iload_n 1, 1) := by decide +kernel
theorem dX9_isAboard_2 : decode cX9_isAboard 2 = .ok (.bipush 7, 2) := by decide +kernel
theorem dX9_isAboard_4 : decode cX9_isAboard 4 = .ok (.invokevirtual 69, 3) := by decide +kernel
theorem dX9_isAboard_7 : decode cX9_isAboard 7 = .ok (.iconst 1, 1) := by decide +kernel
theorem dX9_isAboard_8 : decode cX9_isAboard 8 = .ok (.if_icmp .ne 7, 3) := by decide +kernel
theorem dX9_isAboard_11 : decode cX9_isAboard 11 = .ok (.iconst 1, 1) := by decide +kernel
theorem dX9_isAboard_12 : decode cX9_isAboard 12 = .ok (.goto 4, 3) := by decide +kernel
theorem dX9_isAboard_15 : decode cX9_isAboard 15 = .ok (.iconst 0, 1) := by decide +kernel
theorem dX9_isAboard_16 : decode cX9_isAboard 16 = .ok (.ireturn, 1) := by decide +kernel
theorem dX9_ropeAt_0 : decode cX9_ropeAt 0 = .ok (.bipush 8, 2) := by decide +kernel
theorem dX9_ropeAt_2 : decode cX9_ropeAt 2 = .ok (.iconst 5, 1) := by decide +kernel
theorem dX9_ropeAt_3 : decode cX9_ropeAt 3 = .ok (.iload_n 1, 1) := by decide +kernel
theorem dX9_ropeAt_4 : decode cX9_ropeAt 4 = .ok (.iload_n 2, 1) := by decide +kernel
theorem dX9_ropeAt_5 : decode cX9_ropeAt 5 = .ok (.invokestatic 72, 3) := by decide +kernel
theorem dX9_ropeAt_8 : decode cX9_ropeAt 8 = .ok (.imul, 1) := by decide +kernel
theorem dX9_ropeAt_9 : decode cX9_ropeAt 9 = .ok (.iadd, 1) := by decide +kernel
theorem dX9_ropeAt_10 : decode cX9_ropeAt 10 = .ok (.iload_n 1, 1) := by decide +kernel
theorem dX9_ropeAt_11 : decode cX9_ropeAt 11 = .ok (.iload_n 2, 1) := by decide +kernel
theorem dX9_ropeAt_12 : decode cX9_ropeAt 12 = .ok (.invokestatic 75, 3) := by decide +kernel
theorem dX9_ropeAt_15 : decode cX9_ropeAt 15 = .ok (.iadd, 1) := by decide +kernel
theorem dX9_ropeAt_16 : decode cX9_ropeAt 16 = .ok (.ireturn, 1) := by decide +kernel
theorem dX9_isReached_0 : decode cX9_isReached 0 = .ok (.iload_n 1, 1) := by decide +kernel
theorem dX9_isReached_1 : decode cX9_isReached 1 = .ok (.iload_n 2, 1) := by decide +kernel
theorem dX9_isReached_2 : decode cX9_isReached 2 = .ok (.if_icmp .eq 37, 3) := by decide +kernel
theorem dX9_isReached_5 : decode cX9_isReached 5 = .ok (.aload_n 0, 1) := by decide +kernel
theorem dX9_isReached_6 : decode cX9_isReached 6 = .ok (.iload_n 1, 1) := by decide +kernel
theorem dX9_isReached_7 : decode cX9_isReached 7 = .ok (.invokevirtual 78, 3) := by decide +kernel
theorem dX9_isReached_10 : decode cX9_isReached 10 = .ok (.ifCond .eq 29, 3) := by decide +kernel
theorem dX9_isReached_13 : decode cX9_isReached 13 = .ok (.aload_n 0, 1) := by decide +kernel
theorem dX9_isReached_14 : decode cX9_isReached 14 = .ok (.iload_n 2, 1) := by decide +kernel
theorem dX9_isReached_15 : decode cX9_isReached 15 = .ok (.invokevirtual 78, 3) := by decide +kernel
theorem dX9_isReached_18 : decode cX9_isReached 18 = .ok (.ifCond .eq 21, 3) := by decide +kernel
theorem dX9_isReached_21 : decode cX9_isReached 21 = .ok (.aload_n 0, 1) := by decide +kernel
theorem dX9_isReached_22 : decode cX9_isReached 22 = .ok (.getfield 9, 3) := by decide +kernel
theorem dX9_isReached_25 : decode cX9_isReached 25 = .ok (.aload_n 0, 1) := by decide +kernel
theorem dX9_isReached_26 : decode cX9_isReached 26 = .ok (.iload_n 1, 1) := by decide +kernel
theorem dX9_isReached_27 : decode cX9_isReached 27 = .ok (.iload_n 2, 1) := by decide +kernel
theorem dX9_isReached_28 : decode cX9_isReached 28 = .ok (.invokevirtual 81, 3) := by decide +kernel
theorem dX9_isReached_31 : decode cX9_isReached 31 = .ok (.iaload, 1) := by decide +kernel
theorem dX9_isReached_32 : decode cX9_isReached 32 = .ok (.ifCond .ne 7, 3) := by decide +kernel
theorem dX9_isReached_35 : decode cX9_isReached 35 = .ok (.iconst 1, 1) := by decide +kernel
theorem dX9_isReached_36 : decode cX9_isReached 36 = .ok (.goto 4, 3) := by decide +kernel
theorem dX9_isReached_39 : decode cX9_isReached 39 = .ok (.iconst 0, 1) := by decide +kernel
theorem dX9_isReached_40 : decode cX9_isReached 40 = .ok (.ireturn, 1) := by decide +kernel
theorem dX9_isMajority_0 : decode cX9_isMajority 0 = .ok (.iconst 2, 1) := by decide +kernel
theorem dX9_isMajority_1 : decode cX9_isMajority 1 = .ok (.iload_n 1, 1) := by decide +kernel
theorem dX9_isMajority_2 : decode cX9_isMajority 2 = .ok (.imul, 1) := by decide +kernel
theorem dX9_isMajority_3 : decode cX9_isMajority 3 = .ok (.aload_n 0, 1) := by decide +kernel
theorem dX9_isMajority_4 : decode cX9_isMajority 4 = .ok (.getfield 9, 3) := by decide +kernel
theorem dX9_isMajority_7 : decode cX9_isMajority 7 = .ok (.iconst 1, 1) := by decide +kernel
theorem dX9_isMajority_8 : decode cX9_isMajority 8 = .ok (.iaload, 1) := by decide +kernel
theorem dX9_isMajority_9 : decode cX9_isMajority 9 = .ok (.if_icmp .le 7, 3) := by decide +kernel
theorem dX9_isMajority_12 : decode cX9_isMajority 12 = .ok (.iconst 1, 1) := by decide +kernel
theorem dX9_isMajority_13 : decode cX9_isMajority 13 = .ok (.goto 4, 3) := by decide +kernel
theorem dX9_isMajority_16 : decode cX9_isMajority 16 = .ok (.iconst 0, 1) := by decide +kernel
theorem dX9_isMajority_17 : decode cX9_isMajority 17 = .ok (.ireturn, 1) := by decide +kernel
theorem dX9_lastTerm_0 : decode cX9_lastTerm 0 = .ok (.aload_n 0, 1) := by decide +kernel
theorem dX9_lastTerm_1 : decode cX9_lastTerm 1 = .ok (.iload_n 1, 1) := by decide +kernel
theorem dX9_lastTerm_2 : decode cX9_lastTerm 2 = .ok (.iconst 5, 1) := by decide +kernel
theorem dX9_lastTerm_3 : decode cX9_lastTerm 3 = .ok (.invokevirtual 69, 3) := by decide +kernel
theorem dX9_lastTerm_6 : decode cX9_lastTerm 6 = .ok (.istore_n 2, 1) := by decide +kernel
theorem dX9_lastTerm_7 : decode cX9_lastTerm 7 = .ok (.iload_n 2, 1) := by decide +kernel
theorem dX9_lastTerm_8 : decode cX9_lastTerm 8 = .ok (.ifCond .ne 7, 3) := by decide +kernel
theorem dX9_lastTerm_11 : decode cX9_lastTerm 11 = .ok (.iconst 0, 1) := by decide +kernel
theorem dX9_lastTerm_12 : decode cX9_lastTerm 12 = .ok (.goto 14, 3) := by decide +kernel
theorem dX9_lastTerm_15 : decode cX9_lastTerm 15 = .ok (.aload_n 0, 1) := by decide +kernel
theorem dX9_lastTerm_16 : decode cX9_lastTerm 16 = .ok (.iload_n 1, 1) := by decide +kernel
theorem dX9_lastTerm_17 : decode cX9_lastTerm 17 = .ok (.bipush 10, 2) := by decide +kernel
theorem dX9_lastTerm_19 : decode cX9_lastTerm 19 = .ok (.iload_n 2, 1) := by decide +kernel
theorem dX9_lastTerm_20 : decode cX9_lastTerm 20 = .ok (.iadd, 1) := by decide +kernel
theorem dX9_lastTerm_21 : decode cX9_lastTerm 21 = .ok (.iconst 1, 1) := by decide +kernel
theorem dX9_lastTerm_22 : decode cX9_lastTerm 22 = .ok (.isub, 1) := by decide +kernel
theorem dX9_lastTerm_23 : decode cX9_lastTerm 23 = .ok (.invokevirtual 69, 3) := by decide +kernel
theorem dX9_lastTerm_26 : decode cX9_lastTerm 26 = .ok (.ireturn, 1) := by decide +kernel
theorem dX9_longerOf_0 : decode cX9_longerOf 0 = .ok (.aload_n 0, 1) := by decide +kernel
theorem dX9_longerOf_1 : decode cX9_longerOf 1 = .ok (.iload_n 1, 1) := by decide +kernel
theorem dX9_longerOf_2 : decode cX9_longerOf 2 = .ok (.invokevirtual 84, 3) := by decide +kernel
theorem dX9_longerOf_5 : decode cX9_longerOf 5 = .ok (.aload_n 0, 1) := by decide +kernel
theorem dX9_longerOf_6 : decode cX9_longerOf 6 = .ok (.iload_n 2, 1) := by decide +kernel
theorem dX9_longerOf_7 : decode cX9_longerOf 7 = .ok (.invokevirtual 84, 3) := by decide +kernel
theorem dX9_longerOf_10 : decode cX9_longerOf 10 = .ok (.isub, 1) := by decide +kernel
theorem dX9_longerOf_11 : decode cX9_longerOf 11 = .ok (.istore_n 3, 1) := by decide +kernel
theorem dX9_longerOf_12 : decode cX9_longerOf 12 = .ok (.iload_n 3, 1) := by decide +kernel
theorem dX9_longerOf_13 : decode cX9_longerOf 13 = .ok (.ifCond .eq 7, 3) := by decide +kernel
theorem dX9_longerOf_16 : decode cX9_longerOf 16 = .ok (.iload_n 3, 1) := by decide +kernel
theorem dX9_longerOf_17 : decode cX9_longerOf 17 = .ok (.goto 16, 3) := by decide +kernel
theorem dX9_longerOf_20 : decode cX9_longerOf 20 = .ok (.aload_n 0, 1) := by decide +kernel
theorem dX9_longerOf_21 : decode cX9_longerOf 21 = .ok (.iload_n 1, 1) := by decide +kernel
theorem dX9_longerOf_22 : decode cX9_longerOf 22 = .ok (.iconst 5, 1) := by decide +kernel
theorem dX9_longerOf_23 : decode cX9_longerOf 23 = .ok (.invokevirtual 69, 3) := by decide +kernel
theorem dX9_longerOf_26 : decode cX9_longerOf 26 = .ok (.aload_n 0, 1) := by decide +kernel
theorem dX9_longerOf_27 : decode cX9_longerOf 27 = .ok (.iload_n 2, 1) := by decide +kernel
theorem dX9_longerOf_28 : decode cX9_longerOf 28 = .ok (.iconst 5, 1) := by decide +kernel
theorem dX9_longerOf_29 : decode cX9_longerOf 29 = .ok (.invokevirtual 69, 3) := by decide +kernel
theorem dX9_longerOf_32 : decode cX9_longerOf 32 = .ok (.isub, 1) := by decide +kernel
theorem dX9_longerOf_33 : decode cX9_longerOf 33 = .ok (.istore_n 3, 1) := by decide +kernel
theorem dX9_longerOf_34 : decode cX9_longerOf 34 = .ok (.iload_n 3, 1) := by decide +kernel
theorem dX9_longerOf_35 : decode cX9_longerOf 35 = .ok (.ifCond .le 7, 3) := by decide +kernel
theorem dX9_longerOf_38 : decode cX9_longerOf 38 = .ok (.iconst 1, 1) := by decide +kernel
theorem dX9_longerOf_39 : decode cX9_longerOf 39 = .ok (.goto 12, 3) := by decide +kernel
theorem dX9_longerOf_42 : decode cX9_longerOf 42 = .ok (.iload_n 3, 1) := by decide +kernel
theorem dX9_longerOf_43 : decode cX9_longerOf 43 = .ok (.ifCond .ge 7, 3) := by decide +kernel
theorem dX9_longerOf_46 : decode cX9_longerOf 46 = .ok (.iconst (-1), 1) := by decide +kernel
theorem dX9_longerOf_47 : decode cX9_longerOf 47 = .ok (.goto 4, 3) := by decide +kernel
theorem dX9_longerOf_50 : decode cX9_longerOf 50 = .ok (.iconst 0, 1) := by decide +kernel
theorem dX9_longerOf_51 : decode cX9_longerOf 51 = .ok (.ireturn, 1) := by decide +kernel
theorem dX9_alikeTo_0 : decode cX9_alikeTo 0 = .ok (.aload_n 0, 1) := by decide +kernel
theorem dX9_alikeTo_1 : decode cX9_alikeTo 1 = .ok (.iload_n 1, 1) := by decide +kernel
theorem dX9_alikeTo_2 : decode cX9_alikeTo 2 = .ok (.iconst 5, 1) := by decide +kernel
theorem dX9_alikeTo_3 : decode cX9_alikeTo 3 = .ok (.invokevirtual 69, 3) := by decide +kernel
theorem dX9_alikeTo_6 : decode cX9_alikeTo 6 = .ok (.aload_n 0, 1) := by decide +kernel
theorem dX9_alikeTo_7 : decode cX9_alikeTo 7 = .ok (.iload_n 2, 1) := by decide +kernel
theorem dX9_alikeTo_8 : decode cX9_alikeTo 8 = .ok (.iconst 5, 1) := by decide +kernel
theorem dX9_alikeTo_9 : decode cX9_alikeTo 9 = .ok (.invokevirtual 69, 3) := by decide +kernel
theorem dX9_alikeTo_12 : decode cX9_alikeTo 12 = .ok (.invokestatic 72, 3) := by decide +kernel
theorem dX9_alikeTo_15 : decode cX9_alikeTo 15 = .ok (.istore_n 3, 1) := by decide +kernel
theorem dX9_alikeTo_16 : decode cX9_alikeTo 16 = .ok (.iconst 0, 1) := by decide +kernel
theorem dX9_alikeTo_17 : decode cX9_alikeTo 17 = .ok (.istore 4, 2) := by decide +kernel
theorem dX9_alikeTo_19 : decode cX9_alikeTo 19 = .ok (.iload 4, 2) := by decide +kernel
theorem dX9_alikeTo_21 : decode cX9_alikeTo 21 = .ok (.iload_n 3, 1) := by decide +kernel
theorem dX9_alikeTo_22 : decode cX9_alikeTo 22 = .ok (.if_icmp .ge 55, 3) := by decide +kernel
theorem dX9_alikeTo_25 : decode cX9_alikeTo 25 = .ok (.aload_n 0, 1) := by decide +kernel
theorem dX9_alikeTo_26 : decode cX9_alikeTo 26 = .ok (.iload_n 1, 1) := by decide +kernel
theorem dX9_alikeTo_27 : decode cX9_alikeTo 27 = .ok (.bipush 10, 2) := by decide +kernel
theorem dX9_alikeTo_29 : decode cX9_alikeTo 29 = .ok (.iload 4, 2) := by decide +kernel
theorem dX9_alikeTo_31 : decode cX9_alikeTo 31 = .ok (.iadd, 1) := by decide +kernel
theorem dX9_alikeTo_32 : decode cX9_alikeTo 32 = .ok (.invokevirtual 69, 3) := by decide +kernel
theorem dX9_alikeTo_35 : decode cX9_alikeTo 35 = .ok (.aload_n 0, 1) := by decide +kernel
theorem dX9_alikeTo_36 : decode cX9_alikeTo 36 = .ok (.iload_n 2, 1) := by decide +kernel
theorem dX9_alikeTo_37 : decode cX9_alikeTo 37 = .ok (.bipush 10, 2) := by decide +kernel
theorem dX9_alikeTo_39 : decode cX9_alikeTo 39 = .ok (.iload 4, 2) := by decide +kernel
theorem dX9_alikeTo_41 : decode cX9_alikeTo 41 = .ok (.iadd, 1) := by decide +kernel
theorem dX9_alikeTo_42 : decode cX9_alikeTo 42 = .ok (.invokevirtual 69, 3) := by decide +kernel
theorem dX9_alikeTo_45 : decode cX9_alikeTo 45 = .ok (.if_icmp .ne 32, 3) := by decide +kernel
theorem dX9_alikeTo_48 : decode cX9_alikeTo 48 = .ok (.aload_n 0, 1) := by decide +kernel
theorem dX9_alikeTo_49 : decode cX9_alikeTo 49 = .ok (.iload_n 1, 1) := by decide +kernel
theorem dX9_alikeTo_50 : decode cX9_alikeTo 50 = .ok (.bipush 22, 2) := by decide +kernel
theorem dX9_alikeTo_52 : decode cX9_alikeTo 52 = .ok (.iload 4, 2) := by decide +kernel
theorem dX9_alikeTo_54 : decode cX9_alikeTo 54 = .ok (.iadd, 1) := by decide +kernel
theorem dX9_alikeTo_55 : decode cX9_alikeTo 55 = .ok (.invokevirtual 69, 3) := by decide +kernel
theorem dX9_alikeTo_58 : decode cX9_alikeTo 58 = .ok (.aload_n 0, 1) := by decide +kernel
theorem dX9_alikeTo_59 : decode cX9_alikeTo 59 = .ok (.iload_n 2, 1) := by decide +kernel
theorem dX9_alikeTo_60 : decode cX9_alikeTo 60 = .ok (.bipush 22, 2) := by decide +kernel
theorem dX9_alikeTo_62 : decode cX9_alikeTo 62 = .ok (.iload 4, 2) := by decide +kernel
theorem dX9_alikeTo_64 : decode cX9_alikeTo 64 = .ok (.iadd, 1) := by decide +kernel
theorem dX9_alikeTo_65 : decode cX9_alikeTo 65 = .ok (.invokevirtual 69, 3) := by decide +kernel
theorem dX9_alikeTo_68 : decode cX9_alikeTo 68 = .ok (.if_icmp .ne 9, 3) := by decide +kernel
theorem dX9_alikeTo_71 : decode cX9_alikeTo 71 = .ok (.iinc 4 1, 3) := by decide +kernel
theorem dX9_alikeTo_74 : decode cX9_alikeTo 74 = .ok (.goto (-55), 3) := by decide +kernel
theorem dX9_alikeTo_77 : decode cX9_alikeTo 77 = .ok (.iload 4, 2) := by decide +kernel
theorem dX9_alikeTo_79 : decode cX9_alikeTo 79 = .ok (.ireturn, 1) := by decide +kernel
theorem dX9_clear_0 : decode cX9_clear 0 = .ok (.aload_n 0, 1) := by decide +kernel
theorem dX9_clear_1 : decode cX9_clear 1 = .ok (.getfield 9, 3) := by decide +kernel
theorem dX9_clear_4 : decode cX9_clear 4 = .ok (.iconst 1, 1) := by decide +kernel
theorem dX9_clear_5 : decode cX9_clear 5 = .ok (.iaload, 1) := by decide +kernel
theorem dX9_clear_6 : decode cX9_clear 6 = .ok (.istore_n 1, 1) := by decide +kernel
theorem dX9_clear_7 : decode cX9_clear 7 = .ok (.iconst 0, 1) := by decide +kernel
theorem dX9_clear_8 : decode cX9_clear 8 = .ok (.istore_n 2, 1) := by decide +kernel
theorem dX9_clear_9 : decode cX9_clear 9 = .ok (.iload_n 2, 1) := by decide +kernel
theorem dX9_clear_10 : decode cX9_clear 10 = .ok (.sipush 203, 3) := by decide +kernel
theorem dX9_clear_13 : decode cX9_clear 13 = .ok (.if_icmp .ge 16, 3) := by decide +kernel
theorem dX9_clear_16 : decode cX9_clear 16 = .ok (.aload_n 0, 1) := by decide +kernel
theorem dX9_clear_17 : decode cX9_clear 17 = .ok (.getfield 9, 3) := by decide +kernel
theorem dX9_clear_20 : decode cX9_clear 20 = .ok (.iload_n 2, 1) := by decide +kernel
theorem dX9_clear_21 : decode cX9_clear 21 = .ok (.iconst 0, 1) := by decide +kernel
theorem dX9_clear_22 : decode cX9_clear 22 = .ok (.iastore, 1) := by decide +kernel
theorem dX9_clear_23 : decode cX9_clear 23 = .ok (.iinc 2 1, 3) := by decide +kernel
theorem dX9_clear_26 : decode cX9_clear 26 = .ok (.goto (-17), 3) := by decide +kernel
theorem dX9_clear_29 : decode cX9_clear 29 = .ok (.aload_n 0, 1) := by decide +kernel
theorem dX9_clear_30 : decode cX9_clear 30 = .ok (.iconst 0, 1) := by decide +kernel
theorem dX9_clear_31 : decode cX9_clear 31 = .ok (.putfield 42, 3) := by decide +kernel
theorem dX9_clear_34 : decode cX9_clear 34 = .ok (.iload_n 1, 1) := by decide +kernel
theorem dX9_clear_35 : decode cX9_clear 35 = .ok (.ireturn, 1) := by decide +kernel
theorem dX9_comes_0 : decode cX9_comes 0 = .ok (.iload_n 1, 1) := by decide +kernel
theorem dX9_comes_1 : decode cX9_comes 1 = .ok (.iconst 1, 1) := by decide +kernel
theorem dX9_comes_2 : decode cX9_comes 2 = .ok (.bipush 9, 2) := by decide +kernel
theorem dX9_comes_4 : decode cX9_comes 4 = .ok (.invokestatic 61, 3) := by decide +kernel
theorem dX9_comes_7 : decode cX9_comes 7 = .ok (.ifCond .ne 6, 3) := by decide +kernel
theorem dX9_comes_10 : decode cX9_comes 10 = .ok (.bipush (-2), 2) := by decide +kernel
theorem dX9_comes_12 : decode cX9_comes 12 = .ok (.ireturn, 1) := by decide +kernel
theorem dX9_comes_13 : decode cX9_comes 13 = .ok (.aload_n 0, 1) := by decide +kernel
theorem dX9_comes_14 : decode cX9_comes 14 = .ok (.aload_n 0, 1) := by decide +kernel
theorem dX9_comes_15 : decode cX9_comes 15 = .ok (.getfield 9, 3) := by decide +kernel
theorem dX9_comes_18 : decode cX9_comes 18 = .ok (.iconst 2, 1) := by decide +kernel
theorem dX9_comes_19 : decode cX9_comes 19 = .ok (.iaload, 1) := by decide +kernel
theorem dX9_comes_20 : decode cX9_comes 20 = .ok (.ifCond .le 7, 3) := by decide +kernel
theorem dX9_comes_23 : decode cX9_comes 23 = .ok (.iconst 1, 1) := by decide +kernel
theorem dX9_comes_24 : decode cX9_comes 24 = .ok (.goto 4, 3) := by decide +kernel
theorem dX9_comes_27 : decode cX9_comes 27 = .ok (.iconst 0, 1) := by decide +kernel
theorem dX9_comes_28 : decode cX9_comes 28 = .ok (.bipush 7, 2) := by decide +kernel
theorem dX9_comes_30 : decode cX9_comes 30 = .ok (.aload_n 0, 1) := by decide +kernel
theorem dX9_comes_31 : decode cX9_comes 31 = .ok (.getfield 9, 3) := by decide +kernel
theorem dX9_comes_34 : decode cX9_comes 34 = .ok (.iconst 2, 1) := by decide +kernel
theorem dX9_comes_35 : decode cX9_comes 35 = .ok (.iaload, 1) := by decide +kernel
theorem dX9_comes_36 : decode cX9_comes 36 = .ok (.invokevirtual 88, 3) := by decide +kernel
theorem dX9_comes_39 : decode cX9_comes 39 = .ok (.ifCond .ne 27, 3) := by decide +kernel
theorem dX9_comes_42 : decode cX9_comes 42 = .ok (.aload_n 0, 1) := by decide +kernel
theorem dX9_comes_43 : decode cX9_comes 43 = .ok (.aload_n 0, 1) := by decide +kernel
theorem dX9_comes_44 : decode cX9_comes 44 = .ok (.getfield 9, 3) := by decide +kernel
theorem dX9_comes_47 : decode cX9_comes 47 = .ok (.iconst 1, 1) := by decide +kernel
theorem dX9_comes_48 : decode cX9_comes 48 = .ok (.iaload, 1) := by decide +kernel
theorem dX9_comes_49 : decode cX9_comes 49 = .ok (.iconst 5, 1) := by decide +kernel
theorem dX9_comes_50 : decode cX9_comes 50 = .ok (.if_icmp .ne 7, 3) := by decide +kernel
theorem dX9_comes_53 : decode cX9_comes 53 = .ok (.iconst 1, 1) := by decide +kernel
theorem dX9_comes_54 : decode cX9_comes 54 = .ok (.goto 4, 3) := by decide +kernel
theorem dX9_comes_57 : decode cX9_comes 57 = .ok (.iconst 0, 1) := by decide +kernel
theorem dX9_comes_58 : decode cX9_comes 58 = .ok (.iconst 1, 1) := by decide +kernel
theorem dX9_comes_59 : decode cX9_comes 59 = .ok (.iconst 5, 1) := by decide +kernel
theorem dX9_comes_60 : decode cX9_comes 60 = .ok (.invokevirtual 88, 3) := by decide +kernel
theorem dX9_comes_63 : decode cX9_comes 63 = .ok (.ifCond .eq 6, 3) := by decide +kernel
theorem dX9_comes_66 : decode cX9_comes 66 = .ok (.bipush (-3), 2) := by decide +kernel
theorem dX9_comes_68 : decode cX9_comes 68 = .ok (.ireturn, 1) := by decide +kernel
theorem dX9_comes_69 : decode cX9_comes 69 = .ok (.aload_n 0, 1) := by decide +kernel
theorem dX9_comes_70 : decode cX9_comes 70 = .ok (.getfield 9, 3) := by decide +kernel
theorem dX9_comes_73 : decode cX9_comes 73 = .ok (.iconst 1, 1) := by decide +kernel
theorem dX9_comes_74 : decode cX9_comes 74 = .ok (.iaload, 1) := by decide +kernel
theorem dX9_comes_75 : decode cX9_comes 75 = .ok (.istore_n 2, 1) := by decide +kernel
theorem dX9_comes_76 : decode cX9_comes 76 = .ok (.aload_n 0, 1) := by decide +kernel
theorem dX9_comes_77 : decode cX9_comes 77 = .ok (.iload_n 2, 1) := by decide +kernel
theorem dX9_comes_78 : decode cX9_comes 78 = .ok (.iconst 2, 1) := by decide +kernel
theorem dX9_comes_79 : decode cX9_comes 79 = .ok (.iload_n 1, 1) := by decide +kernel
theorem dX9_comes_80 : decode cX9_comes 80 = .ok (.invokevirtual 92, 3) := by decide +kernel
theorem dX9_comes_83 : decode cX9_comes 83 = .ok (.aload_n 0, 1) := by decide +kernel
theorem dX9_comes_84 : decode cX9_comes 84 = .ok (.iload_n 2, 1) := by decide +kernel
theorem dX9_comes_85 : decode cX9_comes 85 = .ok (.iconst 4, 1) := by decide +kernel
theorem dX9_comes_86 : decode cX9_comes 86 = .ok (.iconst (-1), 1) := by decide +kernel
theorem dX9_comes_87 : decode cX9_comes 87 = .ok (.invokevirtual 92, 3) := by decide +kernel
theorem dX9_comes_90 : decode cX9_comes 90 = .ok (.aload_n 0, 1) := by decide +kernel
theorem dX9_comes_91 : decode cX9_comes 91 = .ok (.iload_n 2, 1) := by decide +kernel
theorem dX9_comes_92 : decode cX9_comes 92 = .ok (.bipush 7, 2) := by decide +kernel
theorem dX9_comes_94 : decode cX9_comes 94 = .ok (.iconst 1, 1) := by decide +kernel
theorem dX9_comes_95 : decode cX9_comes 95 = .ok (.invokevirtual 92, 3) := by decide +kernel
theorem dX9_comes_98 : decode cX9_comes 98 = .ok (.aload_n 0, 1) := by decide +kernel
theorem dX9_comes_99 : decode cX9_comes 99 = .ok (.getfield 9, 3) := by decide +kernel
theorem dX9_comes_102 : decode cX9_comes 102 = .ok (.iconst 1, 1) := by decide +kernel
theorem dX9_comes_103 : decode cX9_comes 103 = .ok (.dup2, 1) := by decide +kernel
theorem dX9_comes_104 : decode cX9_comes 104 = .ok (.iaload, 1) := by decide +kernel
theorem dX9_comes_105 : decode cX9_comes 105 = .ok (.iconst 1, 1) := by decide +kernel
theorem dX9_comes_106 : decode cX9_comes 106 = .ok (.iadd, 1) := by decide +kernel
theorem dX9_comes_107 : decode cX9_comes 107 = .ok (.iastore, 1) := by decide +kernel
theorem dX9_comes_108 : decode cX9_comes 108 = .ok (.iload_n 2, 1) := by decide +kernel
theorem dX9_comes_109 : decode cX9_comes 109 = .ok (.ireturn, 1) := by decide +kernel
theorem dX9_driver_0 : decode cX9_driver 0 = .ok (.aload_n 0, 1) := by decide +kernel
theorem dX9_driver_1 : decode cX9_driver 1 = .ok (.invokevirtual 96, 3) := by decide +kernel
theorem dX9_driver_4 : decode cX9_driver 4 = .ok (.aload_n 0, 1) := by decide +kernel
theorem dX9_driver_5 : decode cX9_driver 5 = .ok (.aload_n 0, 1) := by decide +kernel
theorem dX9_driver_6 : decode cX9_driver 6 = .ok (.iload_n 1, 1) := by decide +kernel
theorem dX9_driver_7 : decode cX9_driver 7 = .ok (.invokevirtual 99, 3) := by decide +kernel
theorem dX9_driver_10 : decode cX9_driver 10 = .ok (.invokevirtual 102, 3) := by decide +kernel
theorem dX9_driver_13 : decode cX9_driver 13 = .ok (.ireturn, 1) := by decide +kernel
theorem dX9_takesOver_0 : decode cX9_takesOver 0 = .ok (.aload_n 0, 1) := by decide +kernel
theorem dX9_takesOver_1 : decode cX9_takesOver 1 = .ok (.iload_n 1, 1) := by decide +kernel
theorem dX9_takesOver_2 : decode cX9_takesOver 2 = .ok (.iconst 1, 1) := by decide +kernel
theorem dX9_takesOver_3 : decode cX9_takesOver 3 = .ok (.iload_n 2, 1) := by decide +kernel
theorem dX9_takesOver_4 : decode cX9_takesOver 4 = .ok (.invokevirtual 92, 3) := by decide +kernel
theorem dX9_takesOver_7 : decode cX9_takesOver 7 = .ok (.aload_n 0, 1) := by decide +kernel
theorem dX9_takesOver_8 : decode cX9_takesOver 8 = .ok (.iload_n 1, 1) := by decide +kernel
theorem dX9_takesOver_9 : decode cX9_takesOver 9 = .ok (.iconst 0, 1) := by decide +kernel
theorem dX9_takesOver_10 : decode cX9_takesOver 10 = .ok (.iconst 0, 1) := by decide +kernel
theorem dX9_takesOver_11 : decode cX9_takesOver 11 = .ok (.invokevirtual 92, 3) := by decide +kernel
theorem dX9_takesOver_14 : decode cX9_takesOver 14 = .ok (.aload_n 0, 1) := by decide +kernel
theorem dX9_takesOver_15 : decode cX9_takesOver 15 = .ok (.iload_n 1, 1) := by decide +kernel
theorem dX9_takesOver_16 : decode cX9_takesOver 16 = .ok (.iconst 4, 1) := by decide +kernel
theorem dX9_takesOver_17 : decode cX9_takesOver 17 = .ok (.iconst (-1), 1) := by decide +kernel
theorem dX9_takesOver_18 : decode cX9_takesOver 18 = .ok (.invokevirtual 92, 3) := by decide +kernel
theorem dX9_takesOver_21 : decode cX9_takesOver 21 = .ok (.return_, 1) := by decide +kernel
theorem dX9_votes_0 : decode cX9_votes 0 = .ok (.aload_n 0, 1) := by decide +kernel
theorem dX9_votes_1 : decode cX9_votes 1 = .ok (.iload_n 1, 1) := by decide +kernel
theorem dX9_votes_2 : decode cX9_votes 2 = .ok (.iconst 1, 1) := by decide +kernel
theorem dX9_votes_3 : decode cX9_votes 3 = .ok (.invokevirtual 69, 3) := by decide +kernel
theorem dX9_votes_6 : decode cX9_votes 6 = .ok (.aload_n 0, 1) := by decide +kernel
theorem dX9_votes_7 : decode cX9_votes 7 = .ok (.iload_n 2, 1) := by decide +kernel
theorem dX9_votes_8 : decode cX9_votes 8 = .ok (.iconst 1, 1) := by decide +kernel
theorem dX9_votes_9 : decode cX9_votes 9 = .ok (.invokevirtual 69, 3) := by decide +kernel
theorem dX9_votes_12 : decode cX9_votes 12 = .ok (.if_icmp .ne 36, 3) := by decide +kernel
theorem dX9_votes_15 : decode cX9_votes 15 = .ok (.aload_n 0, 1) := by decide +kernel
theorem dX9_votes_16 : decode cX9_votes 16 = .ok (.iload_n 1, 1) := by decide +kernel
theorem dX9_votes_17 : decode cX9_votes 17 = .ok (.iconst 4, 1) := by decide +kernel
theorem dX9_votes_18 : decode cX9_votes 18 = .ok (.invokevirtual 69, 3) := by decide +kernel
theorem dX9_votes_21 : decode cX9_votes 21 = .ok (.iconst (-1), 1) := by decide +kernel
theorem dX9_votes_22 : decode cX9_votes 22 = .ok (.if_icmp .eq 13, 3) := by decide +kernel
theorem dX9_votes_25 : decode cX9_votes 25 = .ok (.aload_n 0, 1) := by decide +kernel
theorem dX9_votes_26 : decode cX9_votes 26 = .ok (.iload_n 1, 1) := by decide +kernel
theorem dX9_votes_27 : decode cX9_votes 27 = .ok (.iconst 4, 1) := by decide +kernel
theorem dX9_votes_28 : decode cX9_votes 28 = .ok (.invokevirtual 69, 3) := by decide +kernel
theorem dX9_votes_31 : decode cX9_votes 31 = .ok (.iload_n 2, 1) := by decide +kernel
theorem dX9_votes_32 : decode cX9_votes 32 = .ok (.if_icmp .ne 16, 3) := by decide +kernel
theorem dX9_votes_35 : decode cX9_votes 35 = .ok (.aload_n 0, 1) := by decide +kernel
theorem dX9_votes_36 : decode cX9_votes 36 = .ok (.iload_n 1, 1) := by decide +kernel
theorem dX9_votes_37 : decode cX9_votes 37 = .ok (.iload_n 2, 1) := by decide +kernel
theorem dX9_votes_38 : decode cX9_votes 38 = .ok (.invokevirtual 105, 3) := by decide +kernel
theorem dX9_votes_41 : decode cX9_votes 41 = .ok (.ifCond .gt 7, 3) := by decide +kernel
theorem dX9_votes_44 : decode cX9_votes 44 = .ok (.iconst 1, 1) := by decide +kernel
theorem dX9_votes_45 : decode cX9_votes 45 = .ok (.goto 4, 3) := by decide +kernel
theorem dX9_votes_48 : decode cX9_votes 48 = .ok (.iconst 0, 1) := by decide +kernel
theorem dX9_votes_49 : decode cX9_votes 49 = .ok (.istore_n 3, 1) := by decide +kernel
theorem dX9_votes_50 : decode cX9_votes 50 = .ok (.iload_n 3, 1) := by decide +kernel
theorem dX9_votes_51 : decode cX9_votes 51 = .ok (.ifCond .eq 28, 3) := by decide +kernel
theorem dX9_votes_54 : decode cX9_votes 54 = .ok (.aload_n 0, 1) := by decide +kernel
theorem dX9_votes_55 : decode cX9_votes 55 = .ok (.iload_n 1, 1) := by decide +kernel
theorem dX9_votes_56 : decode cX9_votes 56 = .ok (.iconst 4, 1) := by decide +kernel
theorem dX9_votes_57 : decode cX9_votes 57 = .ok (.iload_n 2, 1) := by decide +kernel
theorem dX9_votes_58 : decode cX9_votes 58 = .ok (.invokevirtual 92, 3) := by decide +kernel
theorem dX9_votes_61 : decode cX9_votes 61 = .ok (.aload_n 0, 1) := by decide +kernel
theorem dX9_votes_62 : decode cX9_votes 62 = .ok (.iload_n 1, 1) := by decide +kernel
theorem dX9_votes_63 : decode cX9_votes 63 = .ok (.iconst 3, 1) := by decide +kernel
theorem dX9_votes_64 : decode cX9_votes 64 = .ok (.iconst 0, 1) := by decide +kernel
theorem dX9_votes_65 : decode cX9_votes 65 = .ok (.invokevirtual 92, 3) := by decide +kernel
theorem dX9_votes_68 : decode cX9_votes 68 = .ok (.aload_n 0, 1) := by decide +kernel
theorem dX9_votes_69 : decode cX9_votes 69 = .ok (.getfield 9, 3) := by decide +kernel
theorem dX9_votes_72 : decode cX9_votes 72 = .ok (.bipush 7, 2) := by decide +kernel
theorem dX9_votes_74 : decode cX9_votes 74 = .ok (.dup2, 1) := by decide +kernel
theorem dX9_votes_75 : decode cX9_votes 75 = .ok (.iaload, 1) := by decide +kernel
theorem dX9_votes_76 : decode cX9_votes 76 = .ok (.iconst 1, 1) := by decide +kernel
theorem dX9_votes_77 : decode cX9_votes 77 = .ok (.iadd, 1) := by decide +kernel
theorem dX9_votes_78 : decode cX9_votes 78 = .ok (.iastore, 1) := by decide +kernel
theorem dX9_votes_79 : decode cX9_votes 79 = .ok (.iload_n 3, 1) := by decide +kernel
theorem dX9_votes_80 : decode cX9_votes 80 = .ok (.ireturn, 1) := by decide +kernel
theorem dX9_asksNow_0 : decode cX9_asksNow 0 = .ok (.aload_n 0, 1) := by decide +kernel
theorem dX9_asksNow_1 : decode cX9_asksNow 1 = .ok (.iload_n 1, 1) := by decide +kernel
theorem dX9_asksNow_2 : decode cX9_asksNow 2 = .ok (.iconst 1, 1) := by decide +kernel
theorem dX9_asksNow_3 : decode cX9_asksNow 3 = .ok (.aload_n 0, 1) := by decide +kernel
theorem dX9_asksNow_4 : decode cX9_asksNow 4 = .ok (.iload_n 1, 1) := by decide +kernel
theorem dX9_asksNow_5 : decode cX9_asksNow 5 = .ok (.iconst 1, 1) := by decide +kernel
theorem dX9_asksNow_6 : decode cX9_asksNow 6 = .ok (.invokevirtual 69, 3) := by decide +kernel
theorem dX9_asksNow_9 : decode cX9_asksNow 9 = .ok (.iconst 1, 1) := by decide +kernel
theorem dX9_asksNow_10 : decode cX9_asksNow 10 = .ok (.iadd, 1) := by decide +kernel
theorem dX9_asksNow_11 : decode cX9_asksNow 11 = .ok (.invokevirtual 92, 3) := by decide +kernel
theorem dX9_asksNow_14 : decode cX9_asksNow 14 = .ok (.aload_n 0, 1) := by decide +kernel
theorem dX9_asksNow_15 : decode cX9_asksNow 15 = .ok (.iload_n 1, 1) := by decide +kernel
theorem dX9_asksNow_16 : decode cX9_asksNow 16 = .ok (.iconst 0, 1) := by decide +kernel
theorem dX9_asksNow_17 : decode cX9_asksNow 17 = .ok (.iconst 1, 1) := by decide +kernel
theorem dX9_asksNow_18 : decode cX9_asksNow 18 = .ok (.invokevirtual 92, 3) := by decide +kernel
theorem dX9_asksNow_21 : decode cX9_asksNow 21 = .ok (.aload_n 0, 1) := by decide +kernel
theorem dX9_asksNow_22 : decode cX9_asksNow 22 = .ok (.iload_n 1, 1) := by decide +kernel
theorem dX9_asksNow_23 : decode cX9_asksNow 23 = .ok (.iconst 4, 1) := by decide +kernel
theorem dX9_asksNow_24 : decode cX9_asksNow 24 = .ok (.iload_n 1, 1) := by decide +kernel
theorem dX9_asksNow_25 : decode cX9_asksNow 25 = .ok (.invokevirtual 92, 3) := by decide +kernel
theorem dX9_asksNow_28 : decode cX9_asksNow 28 = .ok (.aload_n 0, 1) := by decide +kernel
theorem dX9_asksNow_29 : decode cX9_asksNow 29 = .ok (.iload_n 1, 1) := by decide +kernel
theorem dX9_asksNow_30 : decode cX9_asksNow 30 = .ok (.iconst 3, 1) := by decide +kernel
theorem dX9_asksNow_31 : decode cX9_asksNow 31 = .ok (.iconst 0, 1) := by decide +kernel
theorem dX9_asksNow_32 : decode cX9_asksNow 32 = .ok (.invokevirtual 92, 3) := by decide +kernel
theorem dX9_asksNow_35 : decode cX9_asksNow 35 = .ok (.aload_n 0, 1) := by decide +kernel
theorem dX9_asksNow_36 : decode cX9_asksNow 36 = .ok (.iload_n 1, 1) := by decide +kernel
theorem dX9_asksNow_37 : decode cX9_asksNow 37 = .ok (.bipush 8, 2) := by decide +kernel
theorem dX9_asksNow_39 : decode cX9_asksNow 39 = .ok (.aload_n 0, 1) := by decide +kernel
theorem dX9_asksNow_40 : decode cX9_asksNow 40 = .ok (.iload_n 1, 1) := by decide +kernel
theorem dX9_asksNow_41 : decode cX9_asksNow 41 = .ok (.bipush 8, 2) := by decide +kernel
theorem dX9_asksNow_43 : decode cX9_asksNow 43 = .ok (.invokevirtual 69, 3) := by decide +kernel
theorem dX9_asksNow_46 : decode cX9_asksNow 46 = .ok (.iconst 1, 1) := by decide +kernel
theorem dX9_asksNow_47 : decode cX9_asksNow 47 = .ok (.iadd, 1) := by decide +kernel
theorem dX9_asksNow_48 : decode cX9_asksNow 48 = .ok (.invokevirtual 92, 3) := by decide +kernel
theorem dX9_asksNow_51 : decode cX9_asksNow 51 = .ok (.aload_n 0, 1) := by decide +kernel
theorem dX9_asksNow_52 : decode cX9_asksNow 52 = .ok (.getfield 9, 3) := by decide +kernel
theorem dX9_asksNow_55 : decode cX9_asksNow 55 = .ok (.iconst 2, 1) := by decide +kernel
theorem dX9_asksNow_56 : decode cX9_asksNow 56 = .ok (.dup2, 1) := by decide +kernel
theorem dX9_asksNow_57 : decode cX9_asksNow 57 = .ok (.iaload, 1) := by decide +kernel
theorem dX9_asksNow_58 : decode cX9_asksNow 58 = .ok (.iconst 1, 1) := by decide +kernel
theorem dX9_asksNow_59 : decode cX9_asksNow 59 = .ok (.iadd, 1) := by decide +kernel
theorem dX9_asksNow_60 : decode cX9_asksNow 60 = .ok (.iastore, 1) := by decide +kernel
theorem dX9_asksNow_61 : decode cX9_asksNow 61 = .ok (.aload_n 0, 1) := by decide +kernel
theorem dX9_asksNow_62 : decode cX9_asksNow 62 = .ok (.getfield 9, 3) := by decide +kernel
theorem dX9_asksNow_65 : decode cX9_asksNow 65 = .ok (.bipush 7, 2) := by decide +kernel
theorem dX9_asksNow_67 : decode cX9_asksNow 67 = .ok (.dup2, 1) := by decide +kernel
theorem dX9_asksNow_68 : decode cX9_asksNow 68 = .ok (.iaload, 1) := by decide +kernel
theorem dX9_asksNow_69 : decode cX9_asksNow 69 = .ok (.iconst 1, 1) := by decide +kernel
theorem dX9_asksNow_70 : decode cX9_asksNow 70 = .ok (.iadd, 1) := by decide +kernel
theorem dX9_asksNow_71 : decode cX9_asksNow 71 = .ok (.iastore, 1) := by decide +kernel
theorem dX9_asksNow_72 : decode cX9_asksNow 72 = .ok (.iconst 1, 1) := by decide +kernel
theorem dX9_asksNow_73 : decode cX9_asksNow 73 = .ok (.istore_n 2, 1) := by decide +kernel
theorem dX9_asksNow_74 : decode cX9_asksNow 74 = .ok (.iconst 0, 1) := by decide +kernel
theorem dX9_asksNow_75 : decode cX9_asksNow 75 = .ok (.istore_n 3, 1) := by decide +kernel
theorem dX9_asksNow_76 : decode cX9_asksNow 76 = .ok (.iload_n 3, 1) := by decide +kernel
theorem dX9_asksNow_77 : decode cX9_asksNow 77 = .ok (.aload_n 0, 1) := by decide +kernel
theorem dX9_asksNow_78 : decode cX9_asksNow 78 = .ok (.getfield 9, 3) := by decide +kernel
theorem dX9_asksNow_81 : decode cX9_asksNow 81 = .ok (.iconst 1, 1) := by decide +kernel
theorem dX9_asksNow_82 : decode cX9_asksNow 82 = .ok (.iaload, 1) := by decide +kernel
theorem dX9_asksNow_83 : decode cX9_asksNow 83 = .ok (.if_icmp .ge 92, 3) := by decide +kernel
theorem dX9_asksNow_86 : decode cX9_asksNow 86 = .ok (.aload_n 0, 1) := by decide +kernel
theorem dX9_asksNow_87 : decode cX9_asksNow 87 = .ok (.iload_n 1, 1) := by decide +kernel
theorem dX9_asksNow_88 : decode cX9_asksNow 88 = .ok (.iload_n 3, 1) := by decide +kernel
theorem dX9_asksNow_89 : decode cX9_asksNow 89 = .ok (.invokevirtual 108, 3) := by decide +kernel
theorem dX9_asksNow_92 : decode cX9_asksNow 92 = .ok (.ifCond .ne 6, 3) := by decide +kernel
theorem dX9_asksNow_95 : decode cX9_asksNow 95 = .ok (.goto 74, 3) := by decide +kernel
theorem dX9_asksNow_98 : decode cX9_asksNow 98 = .ok (.aload_n 0, 1) := by decide +kernel
theorem dX9_asksNow_99 : decode cX9_asksNow 99 = .ok (.iload_n 3, 1) := by decide +kernel
theorem dX9_asksNow_100 : decode cX9_asksNow 100 = .ok (.iconst 1, 1) := by decide +kernel
theorem dX9_asksNow_101 : decode cX9_asksNow 101 = .ok (.invokevirtual 69, 3) := by decide +kernel
theorem dX9_asksNow_104 : decode cX9_asksNow 104 = .ok (.aload_n 0, 1) := by decide +kernel
theorem dX9_asksNow_105 : decode cX9_asksNow 105 = .ok (.iload_n 1, 1) := by decide +kernel
theorem dX9_asksNow_106 : decode cX9_asksNow 106 = .ok (.iconst 1, 1) := by decide +kernel
theorem dX9_asksNow_107 : decode cX9_asksNow 107 = .ok (.invokevirtual 69, 3) := by decide +kernel
theorem dX9_asksNow_110 : decode cX9_asksNow 110 = .ok (.if_icmp .le 16, 3) := by decide +kernel
theorem dX9_asksNow_113 : decode cX9_asksNow 113 = .ok (.aload_n 0, 1) := by decide +kernel
theorem dX9_asksNow_114 : decode cX9_asksNow 114 = .ok (.iload_n 1, 1) := by decide +kernel
theorem dX9_asksNow_115 : decode cX9_asksNow 115 = .ok (.aload_n 0, 1) := by decide +kernel
theorem dX9_asksNow_116 : decode cX9_asksNow 116 = .ok (.iload_n 3, 1) := by decide +kernel
theorem dX9_asksNow_117 : decode cX9_asksNow 117 = .ok (.iconst 1, 1) := by decide +kernel
theorem dX9_asksNow_118 : decode cX9_asksNow 118 = .ok (.invokevirtual 69, 3) := by decide +kernel
theorem dX9_asksNow_121 : decode cX9_asksNow 121 = .ok (.invokevirtual 112, 3) := by decide +kernel
theorem dX9_asksNow_124 : decode cX9_asksNow 124 = .ok (.iconst 0, 1) := by decide +kernel
theorem dX9_asksNow_125 : decode cX9_asksNow 125 = .ok (.ireturn, 1) := by decide +kernel
theorem dX9_asksNow_126 : decode cX9_asksNow 126 = .ok (.aload_n 0, 1) := by decide +kernel
theorem dX9_asksNow_127 : decode cX9_asksNow 127 = .ok (.iload_n 3, 1) := by decide +kernel
theorem dX9_asksNow_128 : decode cX9_asksNow 128 = .ok (.iconst 1, 1) := by decide +kernel
theorem dX9_asksNow_129 : decode cX9_asksNow 129 = .ok (.invokevirtual 69, 3) := by decide +kernel
theorem dX9_asksNow_132 : decode cX9_asksNow 132 = .ok (.aload_n 0, 1) := by decide +kernel
theorem dX9_asksNow_133 : decode cX9_asksNow 133 = .ok (.iload_n 1, 1) := by decide +kernel
theorem dX9_asksNow_134 : decode cX9_asksNow 134 = .ok (.iconst 1, 1) := by decide +kernel
theorem dX9_asksNow_135 : decode cX9_asksNow 135 = .ok (.invokevirtual 69, 3) := by decide +kernel
theorem dX9_asksNow_138 : decode cX9_asksNow 138 = .ok (.if_icmp .ge 14, 3) := by decide +kernel
theorem dX9_asksNow_141 : decode cX9_asksNow 141 = .ok (.aload_n 0, 1) := by decide +kernel
theorem dX9_asksNow_142 : decode cX9_asksNow 142 = .ok (.iload_n 3, 1) := by decide +kernel
theorem dX9_asksNow_143 : decode cX9_asksNow 143 = .ok (.aload_n 0, 1) := by decide +kernel
theorem dX9_asksNow_144 : decode cX9_asksNow 144 = .ok (.iload_n 1, 1) := by decide +kernel
theorem dX9_asksNow_145 : decode cX9_asksNow 145 = .ok (.iconst 1, 1) := by decide +kernel
theorem dX9_asksNow_146 : decode cX9_asksNow 146 = .ok (.invokevirtual 69, 3) := by decide +kernel
theorem dX9_asksNow_149 : decode cX9_asksNow 149 = .ok (.invokevirtual 112, 3) := by decide +kernel
theorem dX9_asksNow_152 : decode cX9_asksNow 152 = .ok (.iload_n 2, 1) := by decide +kernel
theorem dX9_asksNow_153 : decode cX9_asksNow 153 = .ok (.aload_n 0, 1) := by decide +kernel
theorem dX9_asksNow_154 : decode cX9_asksNow 154 = .ok (.iload_n 3, 1) := by decide +kernel
theorem dX9_asksNow_155 : decode cX9_asksNow 155 = .ok (.iload_n 1, 1) := by decide +kernel
theorem dX9_asksNow_156 : decode cX9_asksNow 156 = .ok (.invokevirtual 116, 3) := by decide +kernel
theorem dX9_asksNow_159 : decode cX9_asksNow 159 = .ok (.ifCond .eq 7, 3) := by decide +kernel
theorem dX9_asksNow_162 : decode cX9_asksNow 162 = .ok (.iconst 1, 1) := by decide +kernel
theorem dX9_asksNow_163 : decode cX9_asksNow 163 = .ok (.goto 4, 3) := by decide +kernel
theorem dX9_asksNow_166 : decode cX9_asksNow 166 = .ok (.iconst 0, 1) := by decide +kernel
theorem dX9_asksNow_167 : decode cX9_asksNow 167 = .ok (.iadd, 1) := by decide +kernel
theorem dX9_asksNow_168 : decode cX9_asksNow 168 = .ok (.istore_n 2, 1) := by decide +kernel
theorem dX9_asksNow_169 : decode cX9_asksNow 169 = .ok (.iinc 3 1, 3) := by decide +kernel
theorem dX9_asksNow_172 : decode cX9_asksNow 172 = .ok (.goto (-96), 3) := by decide +kernel
theorem dX9_asksNow_175 : decode cX9_asksNow 175 = .ok (.aload_n 0, 1) := by decide +kernel
theorem dX9_asksNow_176 : decode cX9_asksNow 176 = .ok (.iload_n 2, 1) := by decide +kernel
theorem dX9_asksNow_177 : decode cX9_asksNow 177 = .ok (.invokevirtual 119, 3) := by decide +kernel
theorem dX9_asksNow_180 : decode cX9_asksNow 180 = .ok (.ifCond .eq 36, 3) := by decide +kernel
theorem dX9_asksNow_183 : decode cX9_asksNow 183 = .ok (.aload_n 0, 1) := by decide +kernel
theorem dX9_asksNow_184 : decode cX9_asksNow 184 = .ok (.iload_n 1, 1) := by decide +kernel
theorem dX9_asksNow_185 : decode cX9_asksNow 185 = .ok (.iconst 0, 1) := by decide +kernel
theorem dX9_asksNow_186 : decode cX9_asksNow 186 = .ok (.iconst 2, 1) := by decide +kernel
theorem dX9_asksNow_187 : decode cX9_asksNow 187 = .ok (.invokevirtual 92, 3) := by decide +kernel
theorem dX9_asksNow_190 : decode cX9_asksNow 190 = .ok (.aload_n 0, 1) := by decide +kernel
theorem dX9_asksNow_191 : decode cX9_asksNow 191 = .ok (.iload_n 1, 1) := by decide +kernel
theorem dX9_asksNow_192 : decode cX9_asksNow 192 = .ok (.bipush 9, 2) := by decide +kernel
theorem dX9_asksNow_194 : decode cX9_asksNow 194 = .ok (.aload_n 0, 1) := by decide +kernel
theorem dX9_asksNow_195 : decode cX9_asksNow 195 = .ok (.iload_n 1, 1) := by decide +kernel
theorem dX9_asksNow_196 : decode cX9_asksNow 196 = .ok (.bipush 9, 2) := by decide +kernel
theorem dX9_asksNow_198 : decode cX9_asksNow 198 = .ok (.invokevirtual 69, 3) := by decide +kernel
theorem dX9_asksNow_201 : decode cX9_asksNow 201 = .ok (.iconst 1, 1) := by decide +kernel
theorem dX9_asksNow_202 : decode cX9_asksNow 202 = .ok (.iadd, 1) := by decide +kernel
theorem dX9_asksNow_203 : decode cX9_asksNow 203 = .ok (.invokevirtual 92, 3) := by decide +kernel
theorem dX9_asksNow_206 : decode cX9_asksNow 206 = .ok (.aload_n 0, 1) := by decide +kernel
theorem dX9_asksNow_207 : decode cX9_asksNow 207 = .ok (.getfield 9, 3) := by decide +kernel
theorem dX9_asksNow_210 : decode cX9_asksNow 210 = .ok (.iconst 3, 1) := by decide +kernel
theorem dX9_asksNow_211 : decode cX9_asksNow 211 = .ok (.dup2, 1) := by decide +kernel
theorem dX9_asksNow_212 : decode cX9_asksNow 212 = .ok (.iaload, 1) := by decide +kernel
theorem dX9_asksNow_213 : decode cX9_asksNow 213 = .ok (.iconst 1, 1) := by decide +kernel
theorem dX9_asksNow_214 : decode cX9_asksNow 214 = .ok (.iadd, 1) := by decide +kernel
theorem dX9_asksNow_215 : decode cX9_asksNow 215 = .ok (.iastore, 1) := by decide +kernel
theorem dX9_asksNow_216 : decode cX9_asksNow 216 = .ok (.iload_n 2, 1) := by decide +kernel
theorem dX9_asksNow_217 : decode cX9_asksNow 217 = .ok (.ireturn, 1) := by decide +kernel
theorem dX9_isWashed_0 : decode cX9_isWashed 0 = .ok (.aload_n 0, 1) := by decide +kernel
theorem dX9_isWashed_1 : decode cX9_isWashed 1 = .ok (.aload_n 0, 1) := by decide +kernel
theorem dX9_isWashed_2 : decode cX9_isWashed 2 = .ok (.iload_n 1, 1) := by decide +kernel
theorem dX9_isWashed_3 : decode cX9_isWashed 3 = .ok (.invokevirtual 78, 3) := by decide +kernel
theorem dX9_isWashed_6 : decode cX9_isWashed 6 = .ok (.ifCond .ne 7, 3) := by decide +kernel
theorem dX9_isWashed_9 : decode cX9_isWashed 9 = .ok (.iconst 1, 1) := by decide +kernel
theorem dX9_isWashed_10 : decode cX9_isWashed 10 = .ok (.goto 4, 3) := by decide +kernel
theorem dX9_isWashed_13 : decode cX9_isWashed 13 = .ok (.iconst 0, 1) := by decide +kernel
theorem dX9_isWashed_14 : decode cX9_isWashed 14 = .ok (.iconst 2, 1) := by decide +kernel
theorem dX9_isWashed_15 : decode cX9_isWashed 15 = .ok (.iload_n 1, 1) := by decide +kernel
theorem dX9_isWashed_16 : decode cX9_isWashed 16 = .ok (.invokevirtual 88, 3) := by decide +kernel
theorem dX9_isWashed_19 : decode cX9_isWashed 19 = .ok (.ireturn, 1) := by decide +kernel
theorem dX9_asks_0 : decode cX9_asks 0 = .ok (.aload_n 0, 1) := by decide +kernel
theorem dX9_asks_1 : decode cX9_asks 1 = .ok (.iload_n 1, 1) := by decide +kernel
theorem dX9_asks_2 : decode cX9_asks 2 = .ok (.invokevirtual 65, 3) := by decide +kernel
theorem dX9_asks_5 : decode cX9_asks 5 = .ok (.ifCond .ne 5, 3) := by decide +kernel
theorem dX9_asks_8 : decode cX9_asks 8 = .ok (.iconst (-1), 1) := by decide +kernel
theorem dX9_asks_9 : decode cX9_asks 9 = .ok (.ireturn, 1) := by decide +kernel
theorem dX9_asks_10 : decode cX9_asks 10 = .ok (.aload_n 0, 1) := by decide +kernel
theorem dX9_asks_11 : decode cX9_asks 11 = .ok (.iload_n 1, 1) := by decide +kernel
theorem dX9_asks_12 : decode cX9_asks 12 = .ok (.invokevirtual 122, 3) := by decide +kernel
theorem dX9_asks_15 : decode cX9_asks 15 = .ok (.ifCond .ne 32, 3) := by decide +kernel
theorem dX9_asks_18 : decode cX9_asks 18 = .ok (.aload_n 0, 1) := by decide +kernel
theorem dX9_asks_19 : decode cX9_asks 19 = .ok (.aload_n 0, 1) := by decide +kernel
theorem dX9_asks_20 : decode cX9_asks 20 = .ok (.iload_n 1, 1) := by decide +kernel
theorem dX9_asks_21 : decode cX9_asks 21 = .ok (.iconst 0, 1) := by decide +kernel
theorem dX9_asks_22 : decode cX9_asks 22 = .ok (.invokevirtual 69, 3) := by decide +kernel
theorem dX9_asks_25 : decode cX9_asks 25 = .ok (.iconst 2, 1) := by decide +kernel
theorem dX9_asks_26 : decode cX9_asks 26 = .ok (.if_icmp .ne 7, 3) := by decide +kernel
theorem dX9_asks_29 : decode cX9_asks 29 = .ok (.iconst 1, 1) := by decide +kernel
theorem dX9_asks_30 : decode cX9_asks 30 = .ok (.goto 4, 3) := by decide +kernel
theorem dX9_asks_33 : decode cX9_asks 33 = .ok (.iconst 0, 1) := by decide +kernel
theorem dX9_asks_34 : decode cX9_asks 34 = .ok (.iconst 3, 1) := by decide +kernel
theorem dX9_asks_35 : decode cX9_asks 35 = .ok (.aload_n 0, 1) := by decide +kernel
theorem dX9_asks_36 : decode cX9_asks 36 = .ok (.iload_n 1, 1) := by decide +kernel
theorem dX9_asks_37 : decode cX9_asks 37 = .ok (.iconst 1, 1) := by decide +kernel
theorem dX9_asks_38 : decode cX9_asks 38 = .ok (.invokevirtual 69, 3) := by decide +kernel
theorem dX9_asks_41 : decode cX9_asks 41 = .ok (.invokevirtual 88, 3) := by decide +kernel
theorem dX9_asks_44 : decode cX9_asks 44 = .ok (.ifCond .eq 6, 3) := by decide +kernel
theorem dX9_asks_47 : decode cX9_asks 47 = .ok (.bipush (-3), 2) := by decide +kernel
theorem dX9_asks_49 : decode cX9_asks 49 = .ok (.ireturn, 1) := by decide +kernel
theorem dX9_asks_50 : decode cX9_asks 50 = .ok (.aload_n 0, 1) := by decide +kernel
theorem dX9_asks_51 : decode cX9_asks 51 = .ok (.iload_n 1, 1) := by decide +kernel
theorem dX9_asks_52 : decode cX9_asks 52 = .ok (.invokevirtual 125, 3) := by decide +kernel
theorem dX9_asks_55 : decode cX9_asks 55 = .ok (.ireturn, 1) := by decide +kernel
theorem dX9_ask_0 : decode cX9_ask 0 = .ok (.aload_n 0, 1) := by decide +kernel
theorem dX9_ask_1 : decode cX9_ask 1 = .ok (.invokevirtual 96, 3) := by decide +kernel
theorem dX9_ask_4 : decode cX9_ask 4 = .ok (.aload_n 0, 1) := by decide +kernel
theorem dX9_ask_5 : decode cX9_ask 5 = .ok (.aload_n 0, 1) := by decide +kernel
theorem dX9_ask_6 : decode cX9_ask 6 = .ok (.iload_n 1, 1) := by decide +kernel
theorem dX9_ask_7 : decode cX9_ask 7 = .ok (.invokevirtual 128, 3) := by decide +kernel
theorem dX9_ask_10 : decode cX9_ask 10 = .ok (.invokevirtual 102, 3) := by decide +kernel
theorem dX9_ask_13 : decode cX9_ask 13 = .ok (.ireturn, 1) := by decide +kernel
theorem dX9_gets_0 : decode cX9_gets 0 = .ok (.aload_n 0, 1) := by decide +kernel
theorem dX9_gets_1 : decode cX9_gets 1 = .ok (.iload_n 1, 1) := by decide +kernel
theorem dX9_gets_2 : decode cX9_gets 2 = .ok (.iconst 1, 1) := by decide +kernel
theorem dX9_gets_3 : decode cX9_gets 3 = .ok (.invokevirtual 69, 3) := by decide +kernel
theorem dX9_gets_6 : decode cX9_gets 6 = .ok (.aload_n 0, 1) := by decide +kernel
theorem dX9_gets_7 : decode cX9_gets 7 = .ok (.iload_n 2, 1) := by decide +kernel
theorem dX9_gets_8 : decode cX9_gets 8 = .ok (.iconst 1, 1) := by decide +kernel
theorem dX9_gets_9 : decode cX9_gets 9 = .ok (.invokevirtual 69, 3) := by decide +kernel
theorem dX9_gets_12 : decode cX9_gets 12 = .ok (.if_icmp .ge 14, 3) := by decide +kernel
theorem dX9_gets_15 : decode cX9_gets 15 = .ok (.aload_n 0, 1) := by decide +kernel
theorem dX9_gets_16 : decode cX9_gets 16 = .ok (.iload_n 1, 1) := by decide +kernel
theorem dX9_gets_17 : decode cX9_gets 17 = .ok (.aload_n 0, 1) := by decide +kernel
theorem dX9_gets_18 : decode cX9_gets 18 = .ok (.iload_n 2, 1) := by decide +kernel
theorem dX9_gets_19 : decode cX9_gets 19 = .ok (.iconst 1, 1) := by decide +kernel
theorem dX9_gets_20 : decode cX9_gets 20 = .ok (.invokevirtual 69, 3) := by decide +kernel
theorem dX9_gets_23 : decode cX9_gets 23 = .ok (.invokevirtual 112, 3) := by decide +kernel
theorem dX9_gets_26 : decode cX9_gets 26 = .ok (.aload_n 0, 1) := by decide +kernel
theorem dX9_gets_27 : decode cX9_gets 27 = .ok (.iload_n 1, 1) := by decide +kernel
theorem dX9_gets_28 : decode cX9_gets 28 = .ok (.iconst 0, 1) := by decide +kernel
theorem dX9_gets_29 : decode cX9_gets 29 = .ok (.iconst 0, 1) := by decide +kernel
theorem dX9_gets_30 : decode cX9_gets 30 = .ok (.invokevirtual 92, 3) := by decide +kernel
theorem dX9_gets_33 : decode cX9_gets 33 = .ok (.aload_n 0, 1) := by decide +kernel
theorem dX9_gets_34 : decode cX9_gets 34 = .ok (.iload_n 1, 1) := by decide +kernel
theorem dX9_gets_35 : decode cX9_gets 35 = .ok (.iconst 3, 1) := by decide +kernel
theorem dX9_gets_36 : decode cX9_gets 36 = .ok (.iconst 0, 1) := by decide +kernel
theorem dX9_gets_37 : decode cX9_gets 37 = .ok (.invokevirtual 92, 3) := by decide +kernel
theorem dX9_gets_40 : decode cX9_gets 40 = .ok (.aload_n 0, 1) := by decide +kernel
theorem dX9_gets_41 : decode cX9_gets 41 = .ok (.iload_n 1, 1) := by decide +kernel
theorem dX9_gets_42 : decode cX9_gets 42 = .ok (.iload_n 2, 1) := by decide +kernel
theorem dX9_gets_43 : decode cX9_gets 43 = .ok (.invokevirtual 131, 3) := by decide +kernel
theorem dX9_gets_46 : decode cX9_gets 46 = .ok (.istore_n 3, 1) := by decide +kernel
theorem dX9_gets_47 : decode cX9_gets 47 = .ok (.aload_n 0, 1) := by decide +kernel
theorem dX9_gets_48 : decode cX9_gets 48 = .ok (.iload_n 2, 1) := by decide +kernel
theorem dX9_gets_49 : decode cX9_gets 49 = .ok (.iconst 5, 1) := by decide +kernel
theorem dX9_gets_50 : decode cX9_gets 50 = .ok (.invokevirtual 69, 3) := by decide +kernel
theorem dX9_gets_53 : decode cX9_gets 53 = .ok (.iload_n 3, 1) := by decide +kernel
theorem dX9_gets_54 : decode cX9_gets 54 = .ok (.if_icmp .le 124, 3) := by decide +kernel
theorem dX9_gets_57 : decode cX9_gets 57 = .ok (.aload_n 0, 1) := by decide +kernel
theorem dX9_gets_58 : decode cX9_gets 58 = .ok (.getfield 9, 3) := by decide +kernel
theorem dX9_gets_61 : decode cX9_gets 61 = .ok (.iconst 5, 1) := by decide +kernel
theorem dX9_gets_62 : decode cX9_gets 62 = .ok (.dup2, 1) := by decide +kernel
theorem dX9_gets_63 : decode cX9_gets 63 = .ok (.iaload, 1) := by decide +kernel
theorem dX9_gets_64 : decode cX9_gets 64 = .ok (.aload_n 0, 1) := by decide +kernel
theorem dX9_gets_65 : decode cX9_gets 65 = .ok (.iload_n 1, 1) := by decide +kernel
theorem dX9_gets_66 : decode cX9_gets 66 = .ok (.iconst 5, 1) := by decide +kernel
theorem dX9_gets_67 : decode cX9_gets 67 = .ok (.invokevirtual 69, 3) := by decide +kernel
theorem dX9_gets_70 : decode cX9_gets 70 = .ok (.iload_n 3, 1) := by decide +kernel
theorem dX9_gets_71 : decode cX9_gets 71 = .ok (.isub, 1) := by decide +kernel
theorem dX9_gets_72 : decode cX9_gets 72 = .ok (.iadd, 1) := by decide +kernel
theorem dX9_gets_73 : decode cX9_gets 73 = .ok (.iastore, 1) := by decide +kernel
theorem dX9_gets_74 : decode cX9_gets 74 = .ok (.iconst 0, 1) := by decide +kernel
theorem dX9_gets_75 : decode cX9_gets 75 = .ok (.istore 4, 2) := by decide +kernel
theorem dX9_gets_77 : decode cX9_gets 77 = .ok (.iload 4, 2) := by decide +kernel
theorem dX9_gets_79 : decode cX9_gets 79 = .ok (.bipush 12, 2) := by decide +kernel
theorem dX9_gets_81 : decode cX9_gets 81 = .ok (.if_icmp .ge 85, 3) := by decide +kernel
theorem dX9_gets_84 : decode cX9_gets 84 = .ok (.iload 4, 2) := by decide +kernel
theorem dX9_gets_86 : decode cX9_gets 86 = .ok (.aload_n 0, 1) := by decide +kernel
theorem dX9_gets_87 : decode cX9_gets 87 = .ok (.iload_n 2, 1) := by decide +kernel
theorem dX9_gets_88 : decode cX9_gets 88 = .ok (.iconst 5, 1) := by decide +kernel
theorem dX9_gets_89 : decode cX9_gets 89 = .ok (.invokevirtual 69, 3) := by decide +kernel
theorem dX9_gets_92 : decode cX9_gets 92 = .ok (.if_icmp .ge 7, 3) := by decide +kernel
theorem dX9_gets_95 : decode cX9_gets 95 = .ok (.iconst 1, 1) := by decide +kernel
theorem dX9_gets_96 : decode cX9_gets 96 = .ok (.goto 4, 3) := by decide +kernel
theorem dX9_gets_99 : decode cX9_gets 99 = .ok (.iconst 0, 1) := by decide +kernel
theorem dX9_gets_100 : decode cX9_gets 100 = .ok (.istore 5, 2) := by decide +kernel
theorem dX9_gets_102 : decode cX9_gets 102 = .ok (.aload_n 0, 1) := by decide +kernel
theorem dX9_gets_103 : decode cX9_gets 103 = .ok (.iload_n 1, 1) := by decide +kernel
theorem dX9_gets_104 : decode cX9_gets 104 = .ok (.bipush 10, 2) := by decide +kernel
theorem dX9_gets_106 : decode cX9_gets 106 = .ok (.iload 4, 2) := by decide +kernel
theorem dX9_gets_108 : decode cX9_gets 108 = .ok (.iadd, 1) := by decide +kernel
theorem dX9_gets_109 : decode cX9_gets 109 = .ok (.iload 5, 2) := by decide +kernel
theorem dX9_gets_111 : decode cX9_gets 111 = .ok (.ifCond .eq 16, 3) := by decide +kernel
theorem dX9_gets_114 : decode cX9_gets 114 = .ok (.aload_n 0, 1) := by decide +kernel
theorem dX9_gets_115 : decode cX9_gets 115 = .ok (.iload_n 2, 1) := by decide +kernel
theorem dX9_gets_116 : decode cX9_gets 116 = .ok (.bipush 10, 2) := by decide +kernel
theorem dX9_gets_118 : decode cX9_gets 118 = .ok (.iload 4, 2) := by decide +kernel
theorem dX9_gets_120 : decode cX9_gets 120 = .ok (.iadd, 1) := by decide +kernel
theorem dX9_gets_121 : decode cX9_gets 121 = .ok (.invokevirtual 69, 3) := by decide +kernel
theorem dX9_gets_124 : decode cX9_gets 124 = .ok (.goto 4, 3) := by decide +kernel
theorem dX9_gets_127 : decode cX9_gets 127 = .ok (.iconst 0, 1) := by decide +kernel
theorem dX9_gets_128 : decode cX9_gets 128 = .ok (.invokevirtual 92, 3) := by decide +kernel
theorem dX9_gets_131 : decode cX9_gets 131 = .ok (.aload_n 0, 1) := by decide +kernel
theorem dX9_gets_132 : decode cX9_gets 132 = .ok (.iload_n 1, 1) := by decide +kernel
theorem dX9_gets_133 : decode cX9_gets 133 = .ok (.bipush 22, 2) := by decide +kernel
theorem dX9_gets_135 : decode cX9_gets 135 = .ok (.iload 4, 2) := by decide +kernel
theorem dX9_gets_137 : decode cX9_gets 137 = .ok (.iadd, 1) := by decide +kernel
theorem dX9_gets_138 : decode cX9_gets 138 = .ok (.iload 5, 2) := by decide +kernel
theorem dX9_gets_140 : decode cX9_gets 140 = .ok (.ifCond .eq 16, 3) := by decide +kernel
theorem dX9_gets_143 : decode cX9_gets 143 = .ok (.aload_n 0, 1) := by decide +kernel
theorem dX9_gets_144 : decode cX9_gets 144 = .ok (.iload_n 2, 1) := by decide +kernel
theorem dX9_gets_145 : decode cX9_gets 145 = .ok (.bipush 22, 2) := by decide +kernel
theorem dX9_gets_147 : decode cX9_gets 147 = .ok (.iload 4, 2) := by decide +kernel
theorem dX9_gets_149 : decode cX9_gets 149 = .ok (.iadd, 1) := by decide +kernel
theorem dX9_gets_150 : decode cX9_gets 150 = .ok (.invokevirtual 69, 3) := by decide +kernel
theorem dX9_gets_153 : decode cX9_gets 153 = .ok (.goto 4, 3) := by decide +kernel
theorem dX9_gets_156 : decode cX9_gets 156 = .ok (.iconst 0, 1) := by decide +kernel
theorem dX9_gets_157 : decode cX9_gets 157 = .ok (.invokevirtual 92, 3) := by decide +kernel
theorem dX9_gets_160 : decode cX9_gets 160 = .ok (.iinc 4 1, 3) := by decide +kernel
theorem dX9_gets_163 : decode cX9_gets 163 = .ok (.goto (-86), 3) := by decide +kernel
theorem dX9_gets_166 : decode cX9_gets 166 = .ok (.aload_n 0, 1) := by decide +kernel
theorem dX9_gets_167 : decode cX9_gets 167 = .ok (.iload_n 1, 1) := by decide +kernel
theorem dX9_gets_168 : decode cX9_gets 168 = .ok (.iconst 5, 1) := by decide +kernel
theorem dX9_gets_169 : decode cX9_gets 169 = .ok (.aload_n 0, 1) := by decide +kernel
theorem dX9_gets_170 : decode cX9_gets 170 = .ok (.iload_n 2, 1) := by decide +kernel
theorem dX9_gets_171 : decode cX9_gets 171 = .ok (.iconst 5, 1) := by decide +kernel
theorem dX9_gets_172 : decode cX9_gets 172 = .ok (.invokevirtual 69, 3) := by decide +kernel
theorem dX9_gets_175 : decode cX9_gets 175 = .ok (.invokevirtual 92, 3) := by decide +kernel
theorem dX9_gets_178 : decode cX9_gets 178 = .ok (.aload_n 0, 1) := by decide +kernel
theorem dX9_gets_179 : decode cX9_gets 179 = .ok (.iload_n 2, 1) := by decide +kernel
theorem dX9_gets_180 : decode cX9_gets 180 = .ok (.bipush 6, 2) := by decide +kernel
theorem dX9_gets_182 : decode cX9_gets 182 = .ok (.invokevirtual 69, 3) := by decide +kernel
theorem dX9_gets_185 : decode cX9_gets 185 = .ok (.aload_n 0, 1) := by decide +kernel
theorem dX9_gets_186 : decode cX9_gets 186 = .ok (.iload_n 1, 1) := by decide +kernel
theorem dX9_gets_187 : decode cX9_gets 187 = .ok (.iconst 5, 1) := by decide +kernel
theorem dX9_gets_188 : decode cX9_gets 188 = .ok (.invokevirtual 69, 3) := by decide +kernel
theorem dX9_gets_191 : decode cX9_gets 191 = .ok (.invokestatic 72, 3) := by decide +kernel
theorem dX9_gets_194 : decode cX9_gets 194 = .ok (.istore 4, 2) := by decide +kernel
theorem dX9_gets_196 : decode cX9_gets 196 = .ok (.aload_n 0, 1) := by decide +kernel
theorem dX9_gets_197 : decode cX9_gets 197 = .ok (.iload_n 1, 1) := by decide +kernel
theorem dX9_gets_198 : decode cX9_gets 198 = .ok (.bipush 6, 2) := by decide +kernel
theorem dX9_gets_200 : decode cX9_gets 200 = .ok (.aload_n 0, 1) := by decide +kernel
theorem dX9_gets_201 : decode cX9_gets 201 = .ok (.iload_n 1, 1) := by decide +kernel
theorem dX9_gets_202 : decode cX9_gets 202 = .ok (.bipush 6, 2) := by decide +kernel
theorem dX9_gets_204 : decode cX9_gets 204 = .ok (.invokevirtual 69, 3) := by decide +kernel
theorem dX9_gets_207 : decode cX9_gets 207 = .ok (.iload 4, 2) := by decide +kernel
theorem dX9_gets_209 : decode cX9_gets 209 = .ok (.invokestatic 75, 3) := by decide +kernel
theorem dX9_gets_212 : decode cX9_gets 212 = .ok (.invokevirtual 92, 3) := by decide +kernel
theorem dX9_gets_215 : decode cX9_gets 215 = .ok (.return_, 1) := by decide +kernel
theorem dX9_lastOwn_0 : decode cX9_lastOwn 0 = .ok (.aload_n 0, 1) := by decide +kernel
theorem dX9_lastOwn_1 : decode cX9_lastOwn 1 = .ok (.iload_n 1, 1) := by decide +kernel
theorem dX9_lastOwn_2 : decode cX9_lastOwn 2 = .ok (.iconst 5, 1) := by decide +kernel
theorem dX9_lastOwn_3 : decode cX9_lastOwn 3 = .ok (.invokevirtual 69, 3) := by decide +kernel
theorem dX9_lastOwn_6 : decode cX9_lastOwn 6 = .ok (.istore_n 2, 1) := by decide +kernel
theorem dX9_lastOwn_7 : decode cX9_lastOwn 7 = .ok (.iload_n 2, 1) := by decide +kernel
theorem dX9_lastOwn_8 : decode cX9_lastOwn 8 = .ok (.ifCond .le 29, 3) := by decide +kernel
theorem dX9_lastOwn_11 : decode cX9_lastOwn 11 = .ok (.aload_n 0, 1) := by decide +kernel
theorem dX9_lastOwn_12 : decode cX9_lastOwn 12 = .ok (.iload_n 1, 1) := by decide +kernel
theorem dX9_lastOwn_13 : decode cX9_lastOwn 13 = .ok (.bipush 10, 2) := by decide +kernel
theorem dX9_lastOwn_15 : decode cX9_lastOwn 15 = .ok (.iload_n 2, 1) := by decide +kernel
theorem dX9_lastOwn_16 : decode cX9_lastOwn 16 = .ok (.iadd, 1) := by decide +kernel
theorem dX9_lastOwn_17 : decode cX9_lastOwn 17 = .ok (.iconst 1, 1) := by decide +kernel
theorem dX9_lastOwn_18 : decode cX9_lastOwn 18 = .ok (.isub, 1) := by decide +kernel
theorem dX9_lastOwn_19 : decode cX9_lastOwn 19 = .ok (.invokevirtual 69, 3) := by decide +kernel
theorem dX9_lastOwn_22 : decode cX9_lastOwn 22 = .ok (.aload_n 0, 1) := by decide +kernel
theorem dX9_lastOwn_23 : decode cX9_lastOwn 23 = .ok (.iload_n 1, 1) := by decide +kernel
theorem dX9_lastOwn_24 : decode cX9_lastOwn 24 = .ok (.iconst 1, 1) := by decide +kernel
theorem dX9_lastOwn_25 : decode cX9_lastOwn 25 = .ok (.invokevirtual 69, 3) := by decide +kernel
theorem dX9_lastOwn_28 : decode cX9_lastOwn 28 = .ok (.if_icmp .eq 9, 3) := by decide +kernel
theorem dX9_lastOwn_31 : decode cX9_lastOwn 31 = .ok (.iinc 2 (-1), 3) := by decide +kernel
theorem dX9_lastOwn_34 : decode cX9_lastOwn 34 = .ok (.goto (-27), 3) := by decide +kernel
theorem dX9_lastOwn_37 : decode cX9_lastOwn 37 = .ok (.iload_n 2, 1) := by decide +kernel
theorem dX9_lastOwn_38 : decode cX9_lastOwn 38 = .ok (.ireturn, 1) := by decide +kernel
theorem dX9_sendsNow_0 : decode cX9_sendsNow 0 = .ok (.aload_n 0, 1) := by decide +kernel
theorem dX9_sendsNow_1 : decode cX9_sendsNow 1 = .ok (.getfield 9, 3) := by decide +kernel
theorem dX9_sendsNow_4 : decode cX9_sendsNow 4 = .ok (.bipush 6, 2) := by decide +kernel
theorem dX9_sendsNow_6 : decode cX9_sendsNow 6 = .ok (.dup2, 1) := by decide +kernel
theorem dX9_sendsNow_7 : decode cX9_sendsNow 7 = .ok (.iaload, 1) := by decide +kernel
theorem dX9_sendsNow_8 : decode cX9_sendsNow 8 = .ok (.iconst 1, 1) := by decide +kernel
theorem dX9_sendsNow_9 : decode cX9_sendsNow 9 = .ok (.iadd, 1) := by decide +kernel
theorem dX9_sendsNow_10 : decode cX9_sendsNow 10 = .ok (.iastore, 1) := by decide +kernel
theorem dX9_sendsNow_11 : decode cX9_sendsNow 11 = .ok (.iconst 1, 1) := by decide +kernel
theorem dX9_sendsNow_12 : decode cX9_sendsNow 12 = .ok (.istore_n 2, 1) := by decide +kernel
theorem dX9_sendsNow_13 : decode cX9_sendsNow 13 = .ok (.iconst 0, 1) := by decide +kernel
theorem dX9_sendsNow_14 : decode cX9_sendsNow 14 = .ok (.istore_n 3, 1) := by decide +kernel
theorem dX9_sendsNow_15 : decode cX9_sendsNow 15 = .ok (.iload_n 3, 1) := by decide +kernel
theorem dX9_sendsNow_16 : decode cX9_sendsNow 16 = .ok (.aload_n 0, 1) := by decide +kernel
theorem dX9_sendsNow_17 : decode cX9_sendsNow 17 = .ok (.getfield 9, 3) := by decide +kernel
theorem dX9_sendsNow_20 : decode cX9_sendsNow 20 = .ok (.iconst 1, 1) := by decide +kernel
theorem dX9_sendsNow_21 : decode cX9_sendsNow 21 = .ok (.iaload, 1) := by decide +kernel
theorem dX9_sendsNow_22 : decode cX9_sendsNow 22 = .ok (.if_icmp .ge 58, 3) := by decide +kernel
theorem dX9_sendsNow_25 : decode cX9_sendsNow 25 = .ok (.aload_n 0, 1) := by decide +kernel
theorem dX9_sendsNow_26 : decode cX9_sendsNow 26 = .ok (.iload_n 1, 1) := by decide +kernel
theorem dX9_sendsNow_27 : decode cX9_sendsNow 27 = .ok (.iload_n 3, 1) := by decide +kernel
theorem dX9_sendsNow_28 : decode cX9_sendsNow 28 = .ok (.invokevirtual 108, 3) := by decide +kernel
theorem dX9_sendsNow_31 : decode cX9_sendsNow 31 = .ok (.ifCond .ne 6, 3) := by decide +kernel
theorem dX9_sendsNow_34 : decode cX9_sendsNow 34 = .ok (.goto 40, 3) := by decide +kernel
theorem dX9_sendsNow_37 : decode cX9_sendsNow 37 = .ok (.aload_n 0, 1) := by decide +kernel
theorem dX9_sendsNow_38 : decode cX9_sendsNow 38 = .ok (.iload_n 3, 1) := by decide +kernel
theorem dX9_sendsNow_39 : decode cX9_sendsNow 39 = .ok (.iconst 1, 1) := by decide +kernel
theorem dX9_sendsNow_40 : decode cX9_sendsNow 40 = .ok (.invokevirtual 69, 3) := by decide +kernel
theorem dX9_sendsNow_43 : decode cX9_sendsNow 43 = .ok (.aload_n 0, 1) := by decide +kernel
theorem dX9_sendsNow_44 : decode cX9_sendsNow 44 = .ok (.iload_n 1, 1) := by decide +kernel
theorem dX9_sendsNow_45 : decode cX9_sendsNow 45 = .ok (.iconst 1, 1) := by decide +kernel
theorem dX9_sendsNow_46 : decode cX9_sendsNow 46 = .ok (.invokevirtual 69, 3) := by decide +kernel
theorem dX9_sendsNow_49 : decode cX9_sendsNow 49 = .ok (.if_icmp .le 16, 3) := by decide +kernel
theorem dX9_sendsNow_52 : decode cX9_sendsNow 52 = .ok (.aload_n 0, 1) := by decide +kernel
theorem dX9_sendsNow_53 : decode cX9_sendsNow 53 = .ok (.iload_n 1, 1) := by decide +kernel
theorem dX9_sendsNow_54 : decode cX9_sendsNow 54 = .ok (.aload_n 0, 1) := by decide +kernel
theorem dX9_sendsNow_55 : decode cX9_sendsNow 55 = .ok (.iload_n 3, 1) := by decide +kernel
theorem dX9_sendsNow_56 : decode cX9_sendsNow 56 = .ok (.iconst 1, 1) := by decide +kernel
theorem dX9_sendsNow_57 : decode cX9_sendsNow 57 = .ok (.invokevirtual 69, 3) := by decide +kernel
theorem dX9_sendsNow_60 : decode cX9_sendsNow 60 = .ok (.invokevirtual 112, 3) := by decide +kernel
theorem dX9_sendsNow_63 : decode cX9_sendsNow 63 = .ok (.iconst 0, 1) := by decide +kernel
theorem dX9_sendsNow_64 : decode cX9_sendsNow 64 = .ok (.ireturn, 1) := by decide +kernel
theorem dX9_sendsNow_65 : decode cX9_sendsNow 65 = .ok (.aload_n 0, 1) := by decide +kernel
theorem dX9_sendsNow_66 : decode cX9_sendsNow 66 = .ok (.iload_n 3, 1) := by decide +kernel
theorem dX9_sendsNow_67 : decode cX9_sendsNow 67 = .ok (.iload_n 1, 1) := by decide +kernel
theorem dX9_sendsNow_68 : decode cX9_sendsNow 68 = .ok (.invokevirtual 134, 3) := by decide +kernel
theorem dX9_sendsNow_71 : decode cX9_sendsNow 71 = .ok (.iinc 2 1, 3) := by decide +kernel
theorem dX9_sendsNow_74 : decode cX9_sendsNow 74 = .ok (.iinc 3 1, 3) := by decide +kernel
theorem dX9_sendsNow_77 : decode cX9_sendsNow 77 = .ok (.goto (-62), 3) := by decide +kernel
theorem dX9_sendsNow_80 : decode cX9_sendsNow 80 = .ok (.aload_n 0, 1) := by decide +kernel
theorem dX9_sendsNow_81 : decode cX9_sendsNow 81 = .ok (.iload_n 2, 1) := by decide +kernel
theorem dX9_sendsNow_82 : decode cX9_sendsNow 82 = .ok (.invokevirtual 119, 3) := by decide +kernel
theorem dX9_sendsNow_85 : decode cX9_sendsNow 85 = .ok (.ifCond .eq 25, 3) := by decide +kernel
theorem dX9_sendsNow_88 : decode cX9_sendsNow 88 = .ok (.aload_n 0, 1) := by decide +kernel
theorem dX9_sendsNow_89 : decode cX9_sendsNow 89 = .ok (.iload_n 1, 1) := by decide +kernel
theorem dX9_sendsNow_90 : decode cX9_sendsNow 90 = .ok (.bipush 6, 2) := by decide +kernel
theorem dX9_sendsNow_92 : decode cX9_sendsNow 92 = .ok (.aload_n 0, 1) := by decide +kernel
theorem dX9_sendsNow_93 : decode cX9_sendsNow 93 = .ok (.iload_n 1, 1) := by decide +kernel
theorem dX9_sendsNow_94 : decode cX9_sendsNow 94 = .ok (.bipush 6, 2) := by decide +kernel
theorem dX9_sendsNow_96 : decode cX9_sendsNow 96 = .ok (.invokevirtual 69, 3) := by decide +kernel
theorem dX9_sendsNow_99 : decode cX9_sendsNow 99 = .ok (.aload_n 0, 1) := by decide +kernel
theorem dX9_sendsNow_100 : decode cX9_sendsNow 100 = .ok (.iload_n 1, 1) := by decide +kernel
theorem dX9_sendsNow_101 : decode cX9_sendsNow 101 = .ok (.invokevirtual 137, 3) := by decide +kernel
theorem dX9_sendsNow_104 : decode cX9_sendsNow 104 = .ok (.invokestatic 75, 3) := by decide +kernel
theorem dX9_sendsNow_107 : decode cX9_sendsNow 107 = .ok (.invokevirtual 92, 3) := by decide +kernel
theorem dX9_sendsNow_110 : decode cX9_sendsNow 110 = .ok (.iload_n 2, 1) := by decide +kernel
theorem dX9_sendsNow_111 : decode cX9_sendsNow 111 = .ok (.ireturn, 1) := by decide +kernel
theorem dX9_isNoLeader_0 : decode cX9_isNoLeader 0 = .ok (.aload_n 0, 1) := by decide +kernel
theorem dX9_isNoLeader_1 : decode cX9_isNoLeader 1 = .ok (.iload_n 1, 1) := by decide +kernel
theorem dX9_isNoLeader_2 : decode cX9_isNoLeader 2 = .ok (.invokevirtual 122, 3) := by decide +kernel
theorem dX9_isNoLeader_5 : decode cX9_isNoLeader 5 = .ok (.ifCond .ne 32, 3) := by decide +kernel
theorem dX9_isNoLeader_8 : decode cX9_isNoLeader 8 = .ok (.aload_n 0, 1) := by decide +kernel
theorem dX9_isNoLeader_9 : decode cX9_isNoLeader 9 = .ok (.aload_n 0, 1) := by decide +kernel
theorem dX9_isNoLeader_10 : decode cX9_isNoLeader 10 = .ok (.iload_n 1, 1) := by decide +kernel
theorem dX9_isNoLeader_11 : decode cX9_isNoLeader 11 = .ok (.iconst 0, 1) := by decide +kernel
theorem dX9_isNoLeader_12 : decode cX9_isNoLeader 12 = .ok (.invokevirtual 69, 3) := by decide +kernel
theorem dX9_isNoLeader_15 : decode cX9_isNoLeader 15 = .ok (.iconst 2, 1) := by decide +kernel
theorem dX9_isNoLeader_16 : decode cX9_isNoLeader 16 = .ok (.if_icmp .eq 7, 3) := by decide +kernel
theorem dX9_isNoLeader_19 : decode cX9_isNoLeader 19 = .ok (.iconst 1, 1) := by decide +kernel
theorem dX9_isNoLeader_20 : decode cX9_isNoLeader 20 = .ok (.goto 4, 3) := by decide +kernel
theorem dX9_isNoLeader_23 : decode cX9_isNoLeader 23 = .ok (.iconst 0, 1) := by decide +kernel
theorem dX9_isNoLeader_24 : decode cX9_isNoLeader 24 = .ok (.iconst 4, 1) := by decide +kernel
theorem dX9_isNoLeader_25 : decode cX9_isNoLeader 25 = .ok (.aload_n 0, 1) := by decide +kernel
theorem dX9_isNoLeader_26 : decode cX9_isNoLeader 26 = .ok (.iload_n 1, 1) := by decide +kernel
theorem dX9_isNoLeader_27 : decode cX9_isNoLeader 27 = .ok (.iconst 1, 1) := by decide +kernel
theorem dX9_isNoLeader_28 : decode cX9_isNoLeader 28 = .ok (.invokevirtual 69, 3) := by decide +kernel
theorem dX9_isNoLeader_31 : decode cX9_isNoLeader 31 = .ok (.invokevirtual 88, 3) := by decide +kernel
theorem dX9_isNoLeader_34 : decode cX9_isNoLeader 34 = .ok (.ifCond .eq 7, 3) := by decide +kernel
theorem dX9_isNoLeader_37 : decode cX9_isNoLeader 37 = .ok (.iconst 1, 1) := by decide +kernel
theorem dX9_isNoLeader_38 : decode cX9_isNoLeader 38 = .ok (.goto 4, 3) := by decide +kernel
theorem dX9_isNoLeader_41 : decode cX9_isNoLeader 41 = .ok (.iconst 0, 1) := by decide +kernel
theorem dX9_isNoLeader_42 : decode cX9_isNoLeader 42 = .ok (.ireturn, 1) := by decide +kernel
theorem dX9_sends_0 : decode cX9_sends 0 = .ok (.aload_n 0, 1) := by decide +kernel
theorem dX9_sends_1 : decode cX9_sends 1 = .ok (.iload_n 1, 1) := by decide +kernel
theorem dX9_sends_2 : decode cX9_sends 2 = .ok (.invokevirtual 65, 3) := by decide +kernel
theorem dX9_sends_5 : decode cX9_sends 5 = .ok (.ifCond .ne 5, 3) := by decide +kernel
theorem dX9_sends_8 : decode cX9_sends 8 = .ok (.iconst (-1), 1) := by decide +kernel
theorem dX9_sends_9 : decode cX9_sends 9 = .ok (.ireturn, 1) := by decide +kernel
theorem dX9_sends_10 : decode cX9_sends 10 = .ok (.aload_n 0, 1) := by decide +kernel
theorem dX9_sends_11 : decode cX9_sends 11 = .ok (.iload_n 1, 1) := by decide +kernel
theorem dX9_sends_12 : decode cX9_sends 12 = .ok (.invokevirtual 140, 3) := by decide +kernel
theorem dX9_sends_15 : decode cX9_sends 15 = .ok (.ifCond .eq 8, 3) := by decide +kernel
theorem dX9_sends_18 : decode cX9_sends 18 = .ok (.bipush (-3), 2) := by decide +kernel
theorem dX9_sends_20 : decode cX9_sends 20 = .ok (.goto 8, 3) := by decide +kernel
theorem dX9_sends_23 : decode cX9_sends 23 = .ok (.aload_n 0, 1) := by decide +kernel
theorem dX9_sends_24 : decode cX9_sends 24 = .ok (.iload_n 1, 1) := by decide +kernel
theorem dX9_sends_25 : decode cX9_sends 25 = .ok (.invokevirtual 143, 3) := by decide +kernel
theorem dX9_sends_28 : decode cX9_sends 28 = .ok (.ireturn, 1) := by decide +kernel
theorem dX9_send_0 : decode cX9_send 0 = .ok (.aload_n 0, 1) := by decide +kernel
theorem dX9_send_1 : decode cX9_send 1 = .ok (.invokevirtual 96, 3) := by decide +kernel
theorem dX9_send_4 : decode cX9_send 4 = .ok (.aload_n 0, 1) := by decide +kernel
theorem dX9_send_5 : decode cX9_send 5 = .ok (.aload_n 0, 1) := by decide +kernel
theorem dX9_send_6 : decode cX9_send 6 = .ok (.iload_n 1, 1) := by decide +kernel
theorem dX9_send_7 : decode cX9_send 7 = .ok (.invokevirtual 146, 3) := by decide +kernel
theorem dX9_send_10 : decode cX9_send 10 = .ok (.invokevirtual 102, 3) := by decide +kernel
theorem dX9_send_13 : decode cX9_send 13 = .ok (.ireturn, 1) := by decide +kernel
theorem dX9_shouts_0 : decode cX9_shouts 0 = .ok (.aload_n 0, 1) := by decide +kernel
theorem dX9_shouts_1 : decode cX9_shouts 1 = .ok (.iload_n 1, 1) := by decide +kernel
theorem dX9_shouts_2 : decode cX9_shouts 2 = .ok (.invokevirtual 65, 3) := by decide +kernel
theorem dX9_shouts_5 : decode cX9_shouts 5 = .ok (.ifCond .ne 5, 3) := by decide +kernel
theorem dX9_shouts_8 : decode cX9_shouts 8 = .ok (.iconst (-1), 1) := by decide +kernel
theorem dX9_shouts_9 : decode cX9_shouts 9 = .ok (.ireturn, 1) := by decide +kernel
theorem dX9_shouts_10 : decode cX9_shouts 10 = .ok (.iload_n 2, 1) := by decide +kernel
theorem dX9_shouts_11 : decode cX9_shouts 11 = .ok (.bipush 97, 2) := by decide +kernel
theorem dX9_shouts_13 : decode cX9_shouts 13 = .ok (.bipush 122, 2) := by decide +kernel
theorem dX9_shouts_15 : decode cX9_shouts 15 = .ok (.invokestatic 61, 3) := by decide +kernel
theorem dX9_shouts_18 : decode cX9_shouts 18 = .ok (.ifCond .ne 6, 3) := by decide +kernel
theorem dX9_shouts_21 : decode cX9_shouts 21 = .ok (.bipush (-2), 2) := by decide +kernel
theorem dX9_shouts_23 : decode cX9_shouts 23 = .ok (.ireturn, 1) := by decide +kernel
theorem dX9_shouts_24 : decode cX9_shouts 24 = .ok (.aload_n 0, 1) := by decide +kernel
theorem dX9_shouts_25 : decode cX9_shouts 25 = .ok (.iload_n 1, 1) := by decide +kernel
theorem dX9_shouts_26 : decode cX9_shouts 26 = .ok (.iconst 5, 1) := by decide +kernel
theorem dX9_shouts_27 : decode cX9_shouts 27 = .ok (.invokevirtual 69, 3) := by decide +kernel
theorem dX9_shouts_30 : decode cX9_shouts 30 = .ok (.istore_n 3, 1) := by decide +kernel
theorem dX9_shouts_31 : decode cX9_shouts 31 = .ok (.aload_n 0, 1) := by decide +kernel
theorem dX9_shouts_32 : decode cX9_shouts 32 = .ok (.iload_n 1, 1) := by decide +kernel
theorem dX9_shouts_33 : decode cX9_shouts 33 = .ok (.invokevirtual 140, 3) := by decide +kernel
theorem dX9_shouts_36 : decode cX9_shouts 36 = .ok (.ifCond .ne 24, 3) := by decide +kernel
theorem dX9_shouts_39 : decode cX9_shouts 39 = .ok (.aload_n 0, 1) := by decide +kernel
theorem dX9_shouts_40 : decode cX9_shouts 40 = .ok (.iload_n 3, 1) := by decide +kernel
theorem dX9_shouts_41 : decode cX9_shouts 41 = .ok (.bipush 12, 2) := by decide +kernel
theorem dX9_shouts_43 : decode cX9_shouts 43 = .ok (.if_icmp .ne 7, 3) := by decide +kernel
theorem dX9_shouts_46 : decode cX9_shouts 46 = .ok (.iconst 1, 1) := by decide +kernel
theorem dX9_shouts_47 : decode cX9_shouts 47 = .ok (.goto 4, 3) := by decide +kernel
theorem dX9_shouts_50 : decode cX9_shouts 50 = .ok (.iconst 0, 1) := by decide +kernel
theorem dX9_shouts_51 : decode cX9_shouts 51 = .ok (.iconst 1, 1) := by decide +kernel
theorem dX9_shouts_52 : decode cX9_shouts 52 = .ok (.bipush 12, 2) := by decide +kernel
theorem dX9_shouts_54 : decode cX9_shouts 54 = .ok (.invokevirtual 88, 3) := by decide +kernel
theorem dX9_shouts_57 : decode cX9_shouts 57 = .ok (.ifCond .eq 6, 3) := by decide +kernel
theorem dX9_shouts_60 : decode cX9_shouts 60 = .ok (.bipush (-3), 2) := by decide +kernel
theorem dX9_shouts_62 : decode cX9_shouts 62 = .ok (.ireturn, 1) := by decide +kernel
theorem dX9_shouts_63 : decode cX9_shouts 63 = .ok (.aload_n 0, 1) := by decide +kernel
theorem dX9_shouts_64 : decode cX9_shouts 64 = .ok (.iload_n 1, 1) := by decide +kernel
theorem dX9_shouts_65 : decode cX9_shouts 65 = .ok (.bipush 10, 2) := by decide +kernel
theorem dX9_shouts_67 : decode cX9_shouts 67 = .ok (.iload_n 3, 1) := by decide +kernel
theorem dX9_shouts_68 : decode cX9_shouts 68 = .ok (.iadd, 1) := by decide +kernel
theorem dX9_shouts_69 : decode cX9_shouts 69 = .ok (.aload_n 0, 1) := by decide +kernel
theorem dX9_shouts_70 : decode cX9_shouts 70 = .ok (.iload_n 1, 1) := by decide +kernel
theorem dX9_shouts_71 : decode cX9_shouts 71 = .ok (.iconst 1, 1) := by decide +kernel
theorem dX9_shouts_72 : decode cX9_shouts 72 = .ok (.invokevirtual 69, 3) := by decide +kernel
theorem dX9_shouts_75 : decode cX9_shouts 75 = .ok (.invokevirtual 92, 3) := by decide +kernel
theorem dX9_shouts_78 : decode cX9_shouts 78 = .ok (.aload_n 0, 1) := by decide +kernel
theorem dX9_shouts_79 : decode cX9_shouts 79 = .ok (.iload_n 1, 1) := by decide +kernel
theorem dX9_shouts_80 : decode cX9_shouts 80 = .ok (.bipush 22, 2) := by decide +kernel
theorem dX9_shouts_82 : decode cX9_shouts 82 = .ok (.iload_n 3, 1) := by decide +kernel
theorem dX9_shouts_83 : decode cX9_shouts 83 = .ok (.iadd, 1) := by decide +kernel
theorem dX9_shouts_84 : decode cX9_shouts 84 = .ok (.iload_n 2, 1) := by decide +kernel
theorem dX9_shouts_85 : decode cX9_shouts 85 = .ok (.invokevirtual 92, 3) := by decide +kernel
theorem dX9_shouts_88 : decode cX9_shouts 88 = .ok (.aload_n 0, 1) := by decide +kernel
theorem dX9_shouts_89 : decode cX9_shouts 89 = .ok (.iload_n 1, 1) := by decide +kernel
theorem dX9_shouts_90 : decode cX9_shouts 90 = .ok (.iconst 5, 1) := by decide +kernel
theorem dX9_shouts_91 : decode cX9_shouts 91 = .ok (.iload_n 3, 1) := by decide +kernel
theorem dX9_shouts_92 : decode cX9_shouts 92 = .ok (.iconst 1, 1) := by decide +kernel
theorem dX9_shouts_93 : decode cX9_shouts 93 = .ok (.iadd, 1) := by decide +kernel
theorem dX9_shouts_94 : decode cX9_shouts 94 = .ok (.invokevirtual 92, 3) := by decide +kernel
theorem dX9_shouts_97 : decode cX9_shouts 97 = .ok (.aload_n 0, 1) := by decide +kernel
theorem dX9_shouts_98 : decode cX9_shouts 98 = .ok (.getfield 9, 3) := by decide +kernel
theorem dX9_shouts_101 : decode cX9_shouts 101 = .ok (.iconst 4, 1) := by decide +kernel
theorem dX9_shouts_102 : decode cX9_shouts 102 = .ok (.dup2, 1) := by decide +kernel
theorem dX9_shouts_103 : decode cX9_shouts 103 = .ok (.iaload, 1) := by decide +kernel
theorem dX9_shouts_104 : decode cX9_shouts 104 = .ok (.iconst 1, 1) := by decide +kernel
theorem dX9_shouts_105 : decode cX9_shouts 105 = .ok (.iadd, 1) := by decide +kernel
theorem dX9_shouts_106 : decode cX9_shouts 106 = .ok (.iastore, 1) := by decide +kernel
theorem dX9_shouts_107 : decode cX9_shouts 107 = .ok (.iload_n 3, 1) := by decide +kernel
theorem dX9_shouts_108 : decode cX9_shouts 108 = .ok (.iconst 1, 1) := by decide +kernel
theorem dX9_shouts_109 : decode cX9_shouts 109 = .ok (.iadd, 1) := by decide +kernel
theorem dX9_shouts_110 : decode cX9_shouts 110 = .ok (.ireturn, 1) := by decide +kernel
theorem dX9_shout_0 : decode cX9_shout 0 = .ok (.aload_n 0, 1) := by decide +kernel
theorem dX9_shout_1 : decode cX9_shout 1 = .ok (.invokevirtual 96, 3) := by decide +kernel
theorem dX9_shout_4 : decode cX9_shout 4 = .ok (.aload_n 0, 1) := by decide +kernel
theorem dX9_shout_5 : decode cX9_shout 5 = .ok (.aload_n 0, 1) := by decide +kernel
theorem dX9_shout_6 : decode cX9_shout 6 = .ok (.iload_n 1, 1) := by decide +kernel
theorem dX9_shout_7 : decode cX9_shout 7 = .ok (.iload_n 2, 1) := by decide +kernel
theorem dX9_shout_8 : decode cX9_shout 8 = .ok (.invokevirtual 149, 3) := by decide +kernel
theorem dX9_shout_11 : decode cX9_shout 11 = .ok (.invokevirtual 102, 3) := by decide +kernel
theorem dX9_shout_14 : decode cX9_shout 14 = .ok (.ireturn, 1) := by decide +kernel
theorem dX9_aboard_0 : decode cX9_aboard 0 = .ok (.iconst 0, 1) := by decide +kernel
theorem dX9_aboard_1 : decode cX9_aboard 1 = .ok (.istore_n 1, 1) := by decide +kernel
theorem dX9_aboard_2 : decode cX9_aboard 2 = .ok (.iconst 0, 1) := by decide +kernel
theorem dX9_aboard_3 : decode cX9_aboard 3 = .ok (.istore_n 2, 1) := by decide +kernel
theorem dX9_aboard_4 : decode cX9_aboard 4 = .ok (.iload_n 2, 1) := by decide +kernel
theorem dX9_aboard_5 : decode cX9_aboard 5 = .ok (.aload_n 0, 1) := by decide +kernel
theorem dX9_aboard_6 : decode cX9_aboard 6 = .ok (.getfield 9, 3) := by decide +kernel
theorem dX9_aboard_9 : decode cX9_aboard 9 = .ok (.iconst 1, 1) := by decide +kernel
theorem dX9_aboard_10 : decode cX9_aboard 10 = .ok (.iaload, 1) := by decide +kernel
theorem dX9_aboard_11 : decode cX9_aboard 11 = .ok (.if_icmp .ge 19, 3) := by decide +kernel
theorem dX9_aboard_14 : decode cX9_aboard 14 = .ok (.iload_n 1, 1) := by decide +kernel
theorem dX9_aboard_15 : decode cX9_aboard 15 = .ok (.aload_n 0, 1) := by decide +kernel
theorem dX9_aboard_16 : decode cX9_aboard 16 = .ok (.iload_n 2, 1) := by decide +kernel
theorem dX9_aboard_17 : decode cX9_aboard 17 = .ok (.bipush 7, 2) := by decide +kernel
theorem dX9_aboard_19 : decode cX9_aboard 19 = .ok (.invokevirtual 69, 3) := by decide +kernel
theorem dX9_aboard_22 : decode cX9_aboard 22 = .ok (.iadd, 1) := by decide +kernel
theorem dX9_aboard_23 : decode cX9_aboard 23 = .ok (.istore_n 1, 1) := by decide +kernel
theorem dX9_aboard_24 : decode cX9_aboard 24 = .ok (.iinc 2 1, 3) := by decide +kernel
theorem dX9_aboard_27 : decode cX9_aboard 27 = .ok (.goto (-23), 3) := by decide +kernel
theorem dX9_aboard_30 : decode cX9_aboard 30 = .ok (.iload_n 1, 1) := by decide +kernel
theorem dX9_aboard_31 : decode cX9_aboard 31 = .ok (.ireturn, 1) := by decide +kernel
theorem dX9_washes_0 : decode cX9_washes 0 = .ok (.aload_n 0, 1) := by decide +kernel
theorem dX9_washes_1 : decode cX9_washes 1 = .ok (.iload_n 1, 1) := by decide +kernel
theorem dX9_washes_2 : decode cX9_washes 2 = .ok (.invokevirtual 65, 3) := by decide +kernel
theorem dX9_washes_5 : decode cX9_washes 5 = .ok (.ifCond .ne 5, 3) := by decide +kernel
theorem dX9_washes_8 : decode cX9_washes 8 = .ok (.iconst (-1), 1) := by decide +kernel
theorem dX9_washes_9 : decode cX9_washes 9 = .ok (.ireturn, 1) := by decide +kernel
theorem dX9_washes_10 : decode cX9_washes 10 = .ok (.aload_n 0, 1) := by decide +kernel
theorem dX9_washes_11 : decode cX9_washes 11 = .ok (.iload_n 1, 1) := by decide +kernel
theorem dX9_washes_12 : decode cX9_washes 12 = .ok (.invokevirtual 122, 3) := by decide +kernel
theorem dX9_washes_15 : decode cX9_washes 15 = .ok (.ifCond .eq 6, 3) := by decide +kernel
theorem dX9_washes_18 : decode cX9_washes 18 = .ok (.bipush (-3), 2) := by decide +kernel
theorem dX9_washes_20 : decode cX9_washes 20 = .ok (.ireturn, 1) := by decide +kernel
theorem dX9_washes_21 : decode cX9_washes 21 = .ok (.aload_n 0, 1) := by decide +kernel
theorem dX9_washes_22 : decode cX9_washes 22 = .ok (.iload_n 1, 1) := by decide +kernel
theorem dX9_washes_23 : decode cX9_washes 23 = .ok (.bipush 7, 2) := by decide +kernel
theorem dX9_washes_25 : decode cX9_washes 25 = .ok (.iconst 0, 1) := by decide +kernel
theorem dX9_washes_26 : decode cX9_washes 26 = .ok (.invokevirtual 92, 3) := by decide +kernel
theorem dX9_washes_29 : decode cX9_washes 29 = .ok (.aload_n 0, 1) := by decide +kernel
theorem dX9_washes_30 : decode cX9_washes 30 = .ok (.iload_n 1, 1) := by decide +kernel
theorem dX9_washes_31 : decode cX9_washes 31 = .ok (.iconst 0, 1) := by decide +kernel
theorem dX9_washes_32 : decode cX9_washes 32 = .ok (.iconst 0, 1) := by decide +kernel
theorem dX9_washes_33 : decode cX9_washes 33 = .ok (.invokevirtual 92, 3) := by decide +kernel
theorem dX9_washes_36 : decode cX9_washes 36 = .ok (.aload_n 0, 1) := by decide +kernel
theorem dX9_washes_37 : decode cX9_washes 37 = .ok (.invokevirtual 152, 3) := by decide +kernel
theorem dX9_washes_40 : decode cX9_washes 40 = .ok (.ireturn, 1) := by decide +kernel
theorem dX9_wash_0 : decode cX9_wash 0 = .ok (.aload_n 0, 1) := by decide +kernel
theorem dX9_wash_1 : decode cX9_wash 1 = .ok (.invokevirtual 96, 3) := by decide +kernel
theorem dX9_wash_4 : decode cX9_wash 4 = .ok (.aload_n 0, 1) := by decide +kernel
theorem dX9_wash_5 : decode cX9_wash 5 = .ok (.aload_n 0, 1) := by decide +kernel
theorem dX9_wash_6 : decode cX9_wash 6 = .ok (.iload_n 1, 1) := by decide +kernel
theorem dX9_wash_7 : decode cX9_wash 7 = .ok (.invokevirtual 156, 3) := by decide +kernel
theorem dX9_wash_10 : decode cX9_wash 10 = .ok (.invokevirtual 102, 3) := by decide +kernel
theorem dX9_wash_13 : decode cX9_wash 13 = .ok (.ireturn, 1) := by decide +kernel
theorem dX9_comesBack_0 : decode cX9_comesBack 0 = .ok (.aload_n 0, 1) := by decide +kernel
theorem dX9_comesBack_1 : decode cX9_comesBack 1 = .ok (.iload_n 1, 1) := by decide +kernel
theorem dX9_comesBack_2 : decode cX9_comesBack 2 = .ok (.invokevirtual 65, 3) := by decide +kernel
theorem dX9_comesBack_5 : decode cX9_comesBack 5 = .ok (.ifCond .ne 5, 3) := by decide +kernel
theorem dX9_comesBack_8 : decode cX9_comesBack 8 = .ok (.iconst (-1), 1) := by decide +kernel
theorem dX9_comesBack_9 : decode cX9_comesBack 9 = .ok (.ireturn, 1) := by decide +kernel
theorem dX9_comesBack_10 : decode cX9_comesBack 10 = .ok (.aload_n 0, 1) := by decide +kernel
theorem dX9_comesBack_11 : decode cX9_comesBack 11 = .ok (.aload_n 0, 1) := by decide +kernel
theorem dX9_comesBack_12 : decode cX9_comesBack 12 = .ok (.iload_n 1, 1) := by decide +kernel
theorem dX9_comesBack_13 : decode cX9_comesBack 13 = .ok (.invokevirtual 78, 3) := by decide +kernel
theorem dX9_comesBack_16 : decode cX9_comesBack 16 = .ok (.bipush 6, 2) := by decide +kernel
theorem dX9_comesBack_18 : decode cX9_comesBack 18 = .ok (.iload_n 1, 1) := by decide +kernel
theorem dX9_comesBack_19 : decode cX9_comesBack 19 = .ok (.invokevirtual 88, 3) := by decide +kernel
theorem dX9_comesBack_22 : decode cX9_comesBack 22 = .ok (.ifCond .eq 6, 3) := by decide +kernel
theorem dX9_comesBack_25 : decode cX9_comesBack 25 = .ok (.bipush (-3), 2) := by decide +kernel
theorem dX9_comesBack_27 : decode cX9_comesBack 27 = .ok (.ireturn, 1) := by decide +kernel
theorem dX9_comesBack_28 : decode cX9_comesBack 28 = .ok (.aload_n 0, 1) := by decide +kernel
theorem dX9_comesBack_29 : decode cX9_comesBack 29 = .ok (.iload_n 1, 1) := by decide +kernel
theorem dX9_comesBack_30 : decode cX9_comesBack 30 = .ok (.bipush 7, 2) := by decide +kernel
theorem dX9_comesBack_32 : decode cX9_comesBack 32 = .ok (.iconst 1, 1) := by decide +kernel
theorem dX9_comesBack_33 : decode cX9_comesBack 33 = .ok (.invokevirtual 92, 3) := by decide +kernel
theorem dX9_comesBack_36 : decode cX9_comesBack 36 = .ok (.aload_n 0, 1) := by decide +kernel
theorem dX9_comesBack_37 : decode cX9_comesBack 37 = .ok (.iload_n 1, 1) := by decide +kernel
theorem dX9_comesBack_38 : decode cX9_comesBack 38 = .ok (.iconst 0, 1) := by decide +kernel
theorem dX9_comesBack_39 : decode cX9_comesBack 39 = .ok (.iconst 0, 1) := by decide +kernel
theorem dX9_comesBack_40 : decode cX9_comesBack 40 = .ok (.invokevirtual 92, 3) := by decide +kernel
theorem dX9_comesBack_43 : decode cX9_comesBack 43 = .ok (.aload_n 0, 1) := by decide +kernel
theorem dX9_comesBack_44 : decode cX9_comesBack 44 = .ok (.iload_n 1, 1) := by decide +kernel
theorem dX9_comesBack_45 : decode cX9_comesBack 45 = .ok (.iconst 3, 1) := by decide +kernel
theorem dX9_comesBack_46 : decode cX9_comesBack 46 = .ok (.iconst 0, 1) := by decide +kernel
theorem dX9_comesBack_47 : decode cX9_comesBack 47 = .ok (.invokevirtual 92, 3) := by decide +kernel
theorem dX9_comesBack_50 : decode cX9_comesBack 50 = .ok (.aload_n 0, 1) := by decide +kernel
theorem dX9_comesBack_51 : decode cX9_comesBack 51 = .ok (.invokevirtual 152, 3) := by decide +kernel
theorem dX9_comesBack_54 : decode cX9_comesBack 54 = .ok (.ireturn, 1) := by decide +kernel
theorem dX9_back_0 : decode cX9_back 0 = .ok (.aload_n 0, 1) := by decide +kernel
theorem dX9_back_1 : decode cX9_back 1 = .ok (.invokevirtual 96, 3) := by decide +kernel
theorem dX9_back_4 : decode cX9_back 4 = .ok (.aload_n 0, 1) := by decide +kernel
theorem dX9_back_5 : decode cX9_back 5 = .ok (.aload_n 0, 1) := by decide +kernel
theorem dX9_back_6 : decode cX9_back 6 = .ok (.iload_n 1, 1) := by decide +kernel
theorem dX9_back_7 : decode cX9_back 7 = .ok (.invokevirtual 159, 3) := by decide +kernel
theorem dX9_back_10 : decode cX9_back 10 = .ok (.invokevirtual 102, 3) := by decide +kernel
theorem dX9_back_13 : decode cX9_back 13 = .ok (.ireturn, 1) := by decide +kernel
theorem dX9_ropesCut_0 : decode cX9_ropesCut 0 = .ok (.iconst 0, 1) := by decide +kernel
theorem dX9_ropesCut_1 : decode cX9_ropesCut 1 = .ok (.istore_n 1, 1) := by decide +kernel
theorem dX9_ropesCut_2 : decode cX9_ropesCut 2 = .ok (.iconst 0, 1) := by decide +kernel
theorem dX9_ropesCut_3 : decode cX9_ropesCut 3 = .ok (.istore_n 2, 1) := by decide +kernel
theorem dX9_ropesCut_4 : decode cX9_ropesCut 4 = .ok (.iload_n 2, 1) := by decide +kernel
theorem dX9_ropesCut_5 : decode cX9_ropesCut 5 = .ok (.bipush 25, 2) := by decide +kernel
theorem dX9_ropesCut_7 : decode cX9_ropesCut 7 = .ok (.if_icmp .ge 21, 3) := by decide +kernel
theorem dX9_ropesCut_10 : decode cX9_ropesCut 10 = .ok (.iload_n 1, 1) := by decide +kernel
theorem dX9_ropesCut_11 : decode cX9_ropesCut 11 = .ok (.aload_n 0, 1) := by decide +kernel
theorem dX9_ropesCut_12 : decode cX9_ropesCut 12 = .ok (.getfield 9, 3) := by decide +kernel
theorem dX9_ropesCut_15 : decode cX9_ropesCut 15 = .ok (.bipush 8, 2) := by decide +kernel
theorem dX9_ropesCut_17 : decode cX9_ropesCut 17 = .ok (.iload_n 2, 1) := by decide +kernel
theorem dX9_ropesCut_18 : decode cX9_ropesCut 18 = .ok (.iadd, 1) := by decide +kernel
theorem dX9_ropesCut_19 : decode cX9_ropesCut 19 = .ok (.iaload, 1) := by decide +kernel
theorem dX9_ropesCut_20 : decode cX9_ropesCut 20 = .ok (.iadd, 1) := by decide +kernel
theorem dX9_ropesCut_21 : decode cX9_ropesCut 21 = .ok (.istore_n 1, 1) := by decide +kernel
theorem dX9_ropesCut_22 : decode cX9_ropesCut 22 = .ok (.iinc 2 1, 3) := by decide +kernel
theorem dX9_ropesCut_25 : decode cX9_ropesCut 25 = .ok (.goto (-21), 3) := by decide +kernel
theorem dX9_ropesCut_28 : decode cX9_ropesCut 28 = .ok (.iload_n 1, 1) := by decide +kernel
theorem dX9_ropesCut_29 : decode cX9_ropesCut 29 = .ok (.ireturn, 1) := by decide +kernel
theorem dX9_ropes_0 : decode cX9_ropes 0 = .ok (.aload_n 0, 1) := by decide +kernel
theorem dX9_ropes_1 : decode cX9_ropes 1 = .ok (.iload_n 1, 1) := by decide +kernel
theorem dX9_ropes_2 : decode cX9_ropes 2 = .ok (.iload_n 2, 1) := by decide +kernel
theorem dX9_ropes_3 : decode cX9_ropes 3 = .ok (.invokevirtual 162, 3) := by decide +kernel
theorem dX9_ropes_6 : decode cX9_ropes 6 = .ok (.ifCond .ne 5, 3) := by decide +kernel
theorem dX9_ropes_9 : decode cX9_ropes 9 = .ok (.iconst (-1), 1) := by decide +kernel
theorem dX9_ropes_10 : decode cX9_ropes 10 = .ok (.ireturn, 1) := by decide +kernel
theorem dX9_ropes_11 : decode cX9_ropes 11 = .ok (.aload_n 0, 1) := by decide +kernel
theorem dX9_ropes_12 : decode cX9_ropes 12 = .ok (.iload_n 1, 1) := by decide +kernel
theorem dX9_ropes_13 : decode cX9_ropes 13 = .ok (.iload_n 2, 1) := by decide +kernel
theorem dX9_ropes_14 : decode cX9_ropes 14 = .ok (.if_icmp .ne 7, 3) := by decide +kernel
theorem dX9_ropes_17 : decode cX9_ropes 17 = .ok (.iconst 1, 1) := by decide +kernel
theorem dX9_ropes_18 : decode cX9_ropes 18 = .ok (.goto 4, 3) := by decide +kernel
theorem dX9_ropes_21 : decode cX9_ropes 21 = .ok (.iconst 0, 1) := by decide +kernel
theorem dX9_ropes_22 : decode cX9_ropes 22 = .ok (.iconst 5, 1) := by decide +kernel
theorem dX9_ropes_23 : decode cX9_ropes 23 = .ok (.iload_n 1, 1) := by decide +kernel
theorem dX9_ropes_24 : decode cX9_ropes 24 = .ok (.invokevirtual 88, 3) := by decide +kernel
theorem dX9_ropes_27 : decode cX9_ropes 27 = .ok (.ifCond .ne 37, 3) := by decide +kernel
theorem dX9_ropes_30 : decode cX9_ropes 30 = .ok (.aload_n 0, 1) := by decide +kernel
theorem dX9_ropes_31 : decode cX9_ropes 31 = .ok (.aload_n 0, 1) := by decide +kernel
theorem dX9_ropes_32 : decode cX9_ropes 32 = .ok (.getfield 9, 3) := by decide +kernel
theorem dX9_ropes_35 : decode cX9_ropes 35 = .ok (.aload_n 0, 1) := by decide +kernel
theorem dX9_ropes_36 : decode cX9_ropes 36 = .ok (.iload_n 1, 1) := by decide +kernel
theorem dX9_ropes_37 : decode cX9_ropes 37 = .ok (.iload_n 2, 1) := by decide +kernel
theorem dX9_ropes_38 : decode cX9_ropes 38 = .ok (.invokevirtual 81, 3) := by decide +kernel
theorem dX9_ropes_41 : decode cX9_ropes 41 = .ok (.iaload, 1) := by decide +kernel
theorem dX9_ropes_42 : decode cX9_ropes 42 = .ok (.iload_n 3, 1) := by decide +kernel
theorem dX9_ropes_43 : decode cX9_ropes 43 = .ok (.if_icmp .ne 7, 3) := by decide +kernel
theorem dX9_ropes_46 : decode cX9_ropes 46 = .ok (.iconst 1, 1) := by decide +kernel
theorem dX9_ropes_47 : decode cX9_ropes 47 = .ok (.goto 4, 3) := by decide +kernel
theorem dX9_ropes_50 : decode cX9_ropes 50 = .ok (.iconst 0, 1) := by decide +kernel
theorem dX9_ropes_51 : decode cX9_ropes 51 = .ok (.bipush 6, 2) := by decide +kernel
theorem dX9_ropes_53 : decode cX9_ropes 53 = .ok (.iload_n 1, 1) := by decide +kernel
theorem dX9_ropes_54 : decode cX9_ropes 54 = .ok (.iload_n 2, 1) := by decide +kernel
theorem dX9_ropes_55 : decode cX9_ropes 55 = .ok (.invokestatic 75, 3) := by decide +kernel
theorem dX9_ropes_58 : decode cX9_ropes 58 = .ok (.invokevirtual 88, 3) := by decide +kernel
theorem dX9_ropes_61 : decode cX9_ropes 61 = .ok (.ifCond .eq 6, 3) := by decide +kernel
theorem dX9_ropes_64 : decode cX9_ropes 64 = .ok (.bipush (-3), 2) := by decide +kernel
theorem dX9_ropes_66 : decode cX9_ropes 66 = .ok (.ireturn, 1) := by decide +kernel
theorem dX9_ropes_67 : decode cX9_ropes 67 = .ok (.aload_n 0, 1) := by decide +kernel
theorem dX9_ropes_68 : decode cX9_ropes 68 = .ok (.getfield 9, 3) := by decide +kernel
theorem dX9_ropes_71 : decode cX9_ropes 71 = .ok (.aload_n 0, 1) := by decide +kernel
theorem dX9_ropes_72 : decode cX9_ropes 72 = .ok (.iload_n 1, 1) := by decide +kernel
theorem dX9_ropes_73 : decode cX9_ropes 73 = .ok (.iload_n 2, 1) := by decide +kernel
theorem dX9_ropes_74 : decode cX9_ropes 74 = .ok (.invokevirtual 81, 3) := by decide +kernel
theorem dX9_ropes_77 : decode cX9_ropes 77 = .ok (.iload_n 3, 1) := by decide +kernel
theorem dX9_ropes_78 : decode cX9_ropes 78 = .ok (.iastore, 1) := by decide +kernel
theorem dX9_ropes_79 : decode cX9_ropes 79 = .ok (.aload_n 0, 1) := by decide +kernel
theorem dX9_ropes_80 : decode cX9_ropes 80 = .ok (.invokevirtual 165, 3) := by decide +kernel
theorem dX9_ropes_83 : decode cX9_ropes 83 = .ok (.ireturn, 1) := by decide +kernel
theorem dX9_cut_0 : decode cX9_cut 0 = .ok (.aload_n 0, 1) := by decide +kernel
theorem dX9_cut_1 : decode cX9_cut 1 = .ok (.invokevirtual 96, 3) := by decide +kernel
theorem dX9_cut_4 : decode cX9_cut 4 = .ok (.aload_n 0, 1) := by decide +kernel
theorem dX9_cut_5 : decode cX9_cut 5 = .ok (.aload_n 0, 1) := by decide +kernel
theorem dX9_cut_6 : decode cX9_cut 6 = .ok (.iload_n 1, 1) := by decide +kernel
theorem dX9_cut_7 : decode cX9_cut 7 = .ok (.iload_n 2, 1) := by decide +kernel
theorem dX9_cut_8 : decode cX9_cut 8 = .ok (.iconst 1, 1) := by decide +kernel
theorem dX9_cut_9 : decode cX9_cut 9 = .ok (.invokevirtual 168, 3) := by decide +kernel
theorem dX9_cut_12 : decode cX9_cut 12 = .ok (.invokevirtual 102, 3) := by decide +kernel
theorem dX9_cut_15 : decode cX9_cut 15 = .ok (.ireturn, 1) := by decide +kernel
theorem dX9_tie_0 : decode cX9_tie 0 = .ok (.aload_n 0, 1) := by decide +kernel
theorem dX9_tie_1 : decode cX9_tie 1 = .ok (.invokevirtual 96, 3) := by decide +kernel
theorem dX9_tie_4 : decode cX9_tie 4 = .ok (.aload_n 0, 1) := by decide +kernel
theorem dX9_tie_5 : decode cX9_tie 5 = .ok (.aload_n 0, 1) := by decide +kernel
theorem dX9_tie_6 : decode cX9_tie 6 = .ok (.iload_n 1, 1) := by decide +kernel
theorem dX9_tie_7 : decode cX9_tie 7 = .ok (.iload_n 2, 1) := by decide +kernel
theorem dX9_tie_8 : decode cX9_tie 8 = .ok (.iconst 0, 1) := by decide +kernel
theorem dX9_tie_9 : decode cX9_tie 9 = .ok (.invokevirtual 168, 3) := by decide +kernel
theorem dX9_tie_12 : decode cX9_tie 12 = .ok (.invokevirtual 102, 3) := by decide +kernel
theorem dX9_tie_15 : decode cX9_tie 15 = .ok (.ireturn, 1) := by decide +kernel
theorem dX9_waits_0 : decode cX9_waits 0 = .ok (.aload_n 0, 1) := by decide +kernel
theorem dX9_waits_1 : decode cX9_waits 1 = .ok (.iload_n 1, 1) := by decide +kernel
theorem dX9_waits_2 : decode cX9_waits 2 = .ok (.iconst 3, 1) := by decide +kernel
theorem dX9_waits_3 : decode cX9_waits 3 = .ok (.aload_n 0, 1) := by decide +kernel
theorem dX9_waits_4 : decode cX9_waits 4 = .ok (.iload_n 1, 1) := by decide +kernel
theorem dX9_waits_5 : decode cX9_waits 5 = .ok (.iconst 3, 1) := by decide +kernel
theorem dX9_waits_6 : decode cX9_waits 6 = .ok (.invokevirtual 69, 3) := by decide +kernel
theorem dX9_waits_9 : decode cX9_waits 9 = .ok (.iconst 1, 1) := by decide +kernel
theorem dX9_waits_10 : decode cX9_waits 10 = .ok (.iadd, 1) := by decide +kernel
theorem dX9_waits_11 : decode cX9_waits 11 = .ok (.invokevirtual 92, 3) := by decide +kernel
theorem dX9_waits_14 : decode cX9_waits 14 = .ok (.aload_n 0, 1) := by decide +kernel
theorem dX9_waits_15 : decode cX9_waits 15 = .ok (.iload_n 1, 1) := by decide +kernel
theorem dX9_waits_16 : decode cX9_waits 16 = .ok (.iconst 3, 1) := by decide +kernel
theorem dX9_waits_17 : decode cX9_waits 17 = .ok (.invokevirtual 69, 3) := by decide +kernel
theorem dX9_waits_20 : decode cX9_waits 20 = .ok (.aload_n 0, 1) := by decide +kernel
theorem dX9_waits_21 : decode cX9_waits 21 = .ok (.iload_n 1, 1) := by decide +kernel
theorem dX9_waits_22 : decode cX9_waits 22 = .ok (.iconst 2, 1) := by decide +kernel
theorem dX9_waits_23 : decode cX9_waits 23 = .ok (.invokevirtual 69, 3) := by decide +kernel
theorem dX9_waits_26 : decode cX9_waits 26 = .ok (.if_icmp .lt 27, 3) := by decide +kernel
theorem dX9_waits_29 : decode cX9_waits 29 = .ok (.aload_n 0, 1) := by decide +kernel
theorem dX9_waits_30 : decode cX9_waits 30 = .ok (.iload_n 1, 1) := by decide +kernel
theorem dX9_waits_31 : decode cX9_waits 31 = .ok (.invokevirtual 125, 3) := by decide +kernel
theorem dX9_waits_34 : decode cX9_waits 34 = .ok (.istore_n 2, 1) := by decide +kernel
theorem dX9_waits_35 : decode cX9_waits 35 = .ok (.aload_n 0, 1) := by decide +kernel
theorem dX9_waits_36 : decode cX9_waits 36 = .ok (.getfield 9, 3) := by decide +kernel
theorem dX9_waits_39 : decode cX9_waits 39 = .ok (.iconst 0, 1) := by decide +kernel
theorem dX9_waits_40 : decode cX9_waits 40 = .ok (.dup2, 1) := by decide +kernel
theorem dX9_waits_41 : decode cX9_waits 41 = .ok (.iaload, 1) := by decide +kernel
theorem dX9_waits_42 : decode cX9_waits 42 = .ok (.iload_n 2, 1) := by decide +kernel
theorem dX9_waits_43 : decode cX9_waits 43 = .ok (.ifCond .ge 7, 3) := by decide +kernel
theorem dX9_waits_46 : decode cX9_waits 46 = .ok (.iload_n 2, 1) := by decide +kernel
theorem dX9_waits_47 : decode cX9_waits 47 = .ok (.goto 4, 3) := by decide +kernel
theorem dX9_waits_50 : decode cX9_waits 50 = .ok (.iconst 0, 1) := by decide +kernel
theorem dX9_waits_51 : decode cX9_waits 51 = .ok (.iadd, 1) := by decide +kernel
theorem dX9_waits_52 : decode cX9_waits 52 = .ok (.iastore, 1) := by decide +kernel
theorem dX9_waits_53 : decode cX9_waits 53 = .ok (.return_, 1) := by decide +kernel
theorem dX9_beatGoes_0 : decode cX9_beatGoes 0 = .ok (.iconst 0, 1) := by decide +kernel
theorem dX9_beatGoes_1 : decode cX9_beatGoes 1 = .ok (.istore_n 1, 1) := by decide +kernel
theorem dX9_beatGoes_2 : decode cX9_beatGoes 2 = .ok (.iload_n 1, 1) := by decide +kernel
theorem dX9_beatGoes_3 : decode cX9_beatGoes 3 = .ok (.aload_n 0, 1) := by decide +kernel
theorem dX9_beatGoes_4 : decode cX9_beatGoes 4 = .ok (.getfield 9, 3) := by decide +kernel
theorem dX9_beatGoes_7 : decode cX9_beatGoes 7 = .ok (.iconst 1, 1) := by decide +kernel
theorem dX9_beatGoes_8 : decode cX9_beatGoes 8 = .ok (.iaload, 1) := by decide +kernel
theorem dX9_beatGoes_9 : decode cX9_beatGoes 9 = .ok (.if_icmp .ge 62, 3) := by decide +kernel
theorem dX9_beatGoes_12 : decode cX9_beatGoes 12 = .ok (.aload_n 0, 1) := by decide +kernel
theorem dX9_beatGoes_13 : decode cX9_beatGoes 13 = .ok (.iload_n 1, 1) := by decide +kernel
theorem dX9_beatGoes_14 : decode cX9_beatGoes 14 = .ok (.invokevirtual 78, 3) := by decide +kernel
theorem dX9_beatGoes_17 : decode cX9_beatGoes 17 = .ok (.ifCond .ne 6, 3) := by decide +kernel
theorem dX9_beatGoes_20 : decode cX9_beatGoes 20 = .ok (.goto 45, 3) := by decide +kernel
theorem dX9_beatGoes_23 : decode cX9_beatGoes 23 = .ok (.aload_n 0, 1) := by decide +kernel
theorem dX9_beatGoes_24 : decode cX9_beatGoes 24 = .ok (.iload_n 1, 1) := by decide +kernel
theorem dX9_beatGoes_25 : decode cX9_beatGoes 25 = .ok (.iconst 0, 1) := by decide +kernel
theorem dX9_beatGoes_26 : decode cX9_beatGoes 26 = .ok (.invokevirtual 69, 3) := by decide +kernel
theorem dX9_beatGoes_29 : decode cX9_beatGoes 29 = .ok (.iconst 2, 1) := by decide +kernel
theorem dX9_beatGoes_30 : decode cX9_beatGoes 30 = .ok (.if_icmp .ne 30, 3) := by decide +kernel
theorem dX9_beatGoes_33 : decode cX9_beatGoes 33 = .ok (.aload_n 0, 1) := by decide +kernel
theorem dX9_beatGoes_34 : decode cX9_beatGoes 34 = .ok (.iload_n 1, 1) := by decide +kernel
theorem dX9_beatGoes_35 : decode cX9_beatGoes 35 = .ok (.invokevirtual 143, 3) := by decide +kernel
theorem dX9_beatGoes_38 : decode cX9_beatGoes 38 = .ok (.istore_n 2, 1) := by decide +kernel
theorem dX9_beatGoes_39 : decode cX9_beatGoes 39 = .ok (.aload_n 0, 1) := by decide +kernel
theorem dX9_beatGoes_40 : decode cX9_beatGoes 40 = .ok (.getfield 9, 3) := by decide +kernel
theorem dX9_beatGoes_43 : decode cX9_beatGoes 43 = .ok (.iconst 0, 1) := by decide +kernel
theorem dX9_beatGoes_44 : decode cX9_beatGoes 44 = .ok (.dup2, 1) := by decide +kernel
theorem dX9_beatGoes_45 : decode cX9_beatGoes 45 = .ok (.iaload, 1) := by decide +kernel
theorem dX9_beatGoes_46 : decode cX9_beatGoes 46 = .ok (.iload_n 2, 1) := by decide +kernel
theorem dX9_beatGoes_47 : decode cX9_beatGoes 47 = .ok (.ifCond .ge 7, 3) := by decide +kernel
theorem dX9_beatGoes_50 : decode cX9_beatGoes 50 = .ok (.iload_n 2, 1) := by decide +kernel
theorem dX9_beatGoes_51 : decode cX9_beatGoes 51 = .ok (.goto 4, 3) := by decide +kernel
theorem dX9_beatGoes_54 : decode cX9_beatGoes 54 = .ok (.iconst 0, 1) := by decide +kernel
theorem dX9_beatGoes_55 : decode cX9_beatGoes 55 = .ok (.iadd, 1) := by decide +kernel
theorem dX9_beatGoes_56 : decode cX9_beatGoes 56 = .ok (.iastore, 1) := by decide +kernel
theorem dX9_beatGoes_57 : decode cX9_beatGoes 57 = .ok (.goto 8, 3) := by decide +kernel
theorem dX9_beatGoes_60 : decode cX9_beatGoes 60 = .ok (.aload_n 0, 1) := by decide +kernel
theorem dX9_beatGoes_61 : decode cX9_beatGoes 61 = .ok (.iload_n 1, 1) := by decide +kernel
theorem dX9_beatGoes_62 : decode cX9_beatGoes 62 = .ok (.invokevirtual 172, 3) := by decide +kernel
theorem dX9_beatGoes_65 : decode cX9_beatGoes 65 = .ok (.iinc 1 1, 3) := by decide +kernel
theorem dX9_beatGoes_68 : decode cX9_beatGoes 68 = .ok (.goto (-66), 3) := by decide +kernel
theorem dX9_beatGoes_71 : decode cX9_beatGoes 71 = .ok (.aload_n 0, 1) := by decide +kernel
theorem dX9_beatGoes_72 : decode cX9_beatGoes 72 = .ok (.getfield 9, 3) := by decide +kernel
theorem dX9_beatGoes_75 : decode cX9_beatGoes 75 = .ok (.iconst 0, 1) := by decide +kernel
theorem dX9_beatGoes_76 : decode cX9_beatGoes 76 = .ok (.dup2, 1) := by decide +kernel
theorem dX9_beatGoes_77 : decode cX9_beatGoes 77 = .ok (.iaload, 1) := by decide +kernel
theorem dX9_beatGoes_78 : decode cX9_beatGoes 78 = .ok (.iconst 1, 1) := by decide +kernel
theorem dX9_beatGoes_79 : decode cX9_beatGoes 79 = .ok (.iadd, 1) := by decide +kernel
theorem dX9_beatGoes_80 : decode cX9_beatGoes 80 = .ok (.iastore, 1) := by decide +kernel
theorem dX9_beatGoes_81 : decode cX9_beatGoes 81 = .ok (.return_, 1) := by decide +kernel
theorem dX9_beatsGo_0 : decode cX9_beatsGo 0 = .ok (.iload_n 1, 1) := by decide +kernel
theorem dX9_beatsGo_1 : decode cX9_beatsGo 1 = .ok (.iconst 1, 1) := by decide +kernel
theorem dX9_beatsGo_2 : decode cX9_beatsGo 2 = .ok (.bipush 20, 2) := by decide +kernel
theorem dX9_beatsGo_4 : decode cX9_beatsGo 4 = .ok (.invokestatic 61, 3) := by decide +kernel
theorem dX9_beatsGo_7 : decode cX9_beatsGo 7 = .ok (.ifCond .ne 6, 3) := by decide +kernel
theorem dX9_beatsGo_10 : decode cX9_beatsGo 10 = .ok (.bipush (-2), 2) := by decide +kernel
theorem dX9_beatsGo_12 : decode cX9_beatsGo 12 = .ok (.ireturn, 1) := by decide +kernel
theorem dX9_beatsGo_13 : decode cX9_beatsGo 13 = .ok (.aload_n 0, 1) := by decide +kernel
theorem dX9_beatsGo_14 : decode cX9_beatsGo 14 = .ok (.getfield 9, 3) := by decide +kernel
theorem dX9_beatsGo_17 : decode cX9_beatsGo 17 = .ok (.iconst 2, 1) := by decide +kernel
theorem dX9_beatsGo_18 : decode cX9_beatsGo 18 = .ok (.iaload, 1) := by decide +kernel
theorem dX9_beatsGo_19 : decode cX9_beatsGo 19 = .ok (.istore_n 2, 1) := by decide +kernel
theorem dX9_beatsGo_20 : decode cX9_beatsGo 20 = .ok (.iconst 0, 1) := by decide +kernel
theorem dX9_beatsGo_21 : decode cX9_beatsGo 21 = .ok (.istore_n 3, 1) := by decide +kernel
theorem dX9_beatsGo_22 : decode cX9_beatsGo 22 = .ok (.iload_n 3, 1) := by decide +kernel
theorem dX9_beatsGo_23 : decode cX9_beatsGo 23 = .ok (.iload_n 1, 1) := by decide +kernel
theorem dX9_beatsGo_24 : decode cX9_beatsGo 24 = .ok (.if_icmp .ge 13, 3) := by decide +kernel
theorem dX9_beatsGo_27 : decode cX9_beatsGo 27 = .ok (.aload_n 0, 1) := by decide +kernel
theorem dX9_beatsGo_28 : decode cX9_beatsGo 28 = .ok (.invokevirtual 176, 3) := by decide +kernel
theorem dX9_beatsGo_31 : decode cX9_beatsGo 31 = .ok (.iinc 3 1, 3) := by decide +kernel
theorem dX9_beatsGo_34 : decode cX9_beatsGo 34 = .ok (.goto (-12), 3) := by decide +kernel
theorem dX9_beatsGo_37 : decode cX9_beatsGo 37 = .ok (.aload_n 0, 1) := by decide +kernel
theorem dX9_beatsGo_38 : decode cX9_beatsGo 38 = .ok (.getfield 9, 3) := by decide +kernel
theorem dX9_beatsGo_41 : decode cX9_beatsGo 41 = .ok (.iconst 2, 1) := by decide +kernel
theorem dX9_beatsGo_42 : decode cX9_beatsGo 42 = .ok (.iaload, 1) := by decide +kernel
theorem dX9_beatsGo_43 : decode cX9_beatsGo 43 = .ok (.iload_n 2, 1) := by decide +kernel
theorem dX9_beatsGo_44 : decode cX9_beatsGo 44 = .ok (.isub, 1) := by decide +kernel
theorem dX9_beatsGo_45 : decode cX9_beatsGo 45 = .ok (.ireturn, 1) := by decide +kernel
theorem dX9_beats_0 : decode cX9_beats 0 = .ok (.aload_n 0, 1) := by decide +kernel
theorem dX9_beats_1 : decode cX9_beats 1 = .ok (.invokevirtual 96, 3) := by decide +kernel
theorem dX9_beats_4 : decode cX9_beats 4 = .ok (.aload_n 0, 1) := by decide +kernel
theorem dX9_beats_5 : decode cX9_beats 5 = .ok (.aload_n 0, 1) := by decide +kernel
theorem dX9_beats_6 : decode cX9_beats 6 = .ok (.iload_n 1, 1) := by decide +kernel
theorem dX9_beats_7 : decode cX9_beats 7 = .ok (.invokevirtual 179, 3) := by decide +kernel
theorem dX9_beats_10 : decode cX9_beats 10 = .ok (.invokevirtual 102, 3) := by decide +kernel
theorem dX9_beats_13 : decode cX9_beats 13 = .ok (.ireturn, 1) := by decide +kernel
theorem dX9_append_0 : decode cX9_append 0 = .ok (.iload_n 1, 1) := by decide +kernel
theorem dX9_append_1 : decode cX9_append 1 = .ok (.bipush 32, 2) := by decide +kernel
theorem dX9_append_3 : decode cX9_append 3 = .ok (.bipush 126, 2) := by decide +kernel
theorem dX9_append_5 : decode cX9_append 5 = .ok (.invokestatic 61, 3) := by decide +kernel
theorem dX9_append_8 : decode cX9_append 8 = .ok (.ifCond .eq 12, 3) := by decide +kernel
theorem dX9_append_11 : decode cX9_append 11 = .ok (.aload_n 0, 1) := by decide +kernel
theorem dX9_append_12 : decode cX9_append 12 = .ok (.getfield 182, 3) := by decide +kernel
theorem dX9_append_15 : decode cX9_append 15 = .ok (.bipush 60, 2) := by decide +kernel
theorem dX9_append_17 : decode cX9_append 17 = .ok (.if_icmp .ne 6, 3) := by decide +kernel
theorem dX9_append_20 : decode cX9_append 20 = .ok (.bipush (-2), 2) := by decide +kernel
theorem dX9_append_22 : decode cX9_append 22 = .ok (.ireturn, 1) := by decide +kernel
theorem dX9_append_23 : decode cX9_append 23 = .ok (.aload_n 0, 1) := by decide +kernel
theorem dX9_append_24 : decode cX9_append 24 = .ok (.getfield 29, 3) := by decide +kernel
theorem dX9_append_27 : decode cX9_append 27 = .ok (.aload_n 0, 1) := by decide +kernel
theorem dX9_append_28 : decode cX9_append 28 = .ok (.getfield 182, 3) := by decide +kernel
theorem dX9_append_31 : decode cX9_append 31 = .ok (.iload_n 1, 1) := by decide +kernel
theorem dX9_append_32 : decode cX9_append 32 = .ok (.iastore, 1) := by decide +kernel
theorem dX9_append_33 : decode cX9_append 33 = .ok (.aload_n 0, 1) := by decide +kernel
theorem dX9_append_34 : decode cX9_append 34 = .ok (.dup, 1) := by decide +kernel
theorem dX9_append_35 : decode cX9_append 35 = .ok (.getfield 182, 3) := by decide +kernel
theorem dX9_append_38 : decode cX9_append 38 = .ok (.iconst 1, 1) := by decide +kernel
theorem dX9_append_39 : decode cX9_append 39 = .ok (.iadd, 1) := by decide +kernel
theorem dX9_append_40 : decode cX9_append 40 = .ok (.putfield 182, 3) := by decide +kernel
theorem dX9_append_43 : decode cX9_append 43 = .ok (.aload_n 0, 1) := by decide +kernel
theorem dX9_append_44 : decode cX9_append 44 = .ok (.getfield 182, 3) := by decide +kernel
theorem dX9_append_47 : decode cX9_append 47 = .ok (.ireturn, 1) := by decide +kernel
theorem dX9_sign_0 : decode cX9_sign 0 = .ok (.aload_n 0, 1) := by decide +kernel
theorem dX9_sign_1 : decode cX9_sign 1 = .ok (.getfield 185, 3) := by decide +kernel
theorem dX9_sign_4 : decode cX9_sign 4 = .ok (.aload_n 0, 1) := by decide +kernel
theorem dX9_sign_5 : decode cX9_sign 5 = .ok (.getfield 182, 3) := by decide +kernel
theorem dX9_sign_8 : decode cX9_sign 8 = .ok (.if_icmp .ge 15, 3) := by decide +kernel
theorem dX9_sign_11 : decode cX9_sign 11 = .ok (.aload_n 0, 1) := by decide +kernel
theorem dX9_sign_12 : decode cX9_sign 12 = .ok (.getfield 29, 3) := by decide +kernel
theorem dX9_sign_15 : decode cX9_sign 15 = .ok (.aload_n 0, 1) := by decide +kernel
theorem dX9_sign_16 : decode cX9_sign 16 = .ok (.getfield 185, 3) := by decide +kernel
theorem dX9_sign_19 : decode cX9_sign 19 = .ok (.iaload, 1) := by decide +kernel
theorem dX9_sign_20 : decode cX9_sign 20 = .ok (.goto 4, 3) := by decide +kernel
theorem dX9_sign_23 : decode cX9_sign 23 = .ok (.iconst (-1), 1) := by decide +kernel
theorem dX9_sign_24 : decode cX9_sign 24 = .ok (.ireturn, 1) := by decide +kernel
theorem dX9_isSign_0 : decode cX9_isSign 0 = .ok (.aload_n 0, 1) := by decide +kernel
theorem dX9_isSign_1 : decode cX9_isSign 1 = .ok (.invokevirtual 188, 3) := by decide +kernel
theorem dX9_isSign_4 : decode cX9_isSign 4 = .ok (.iload_n 1, 1) := by decide +kernel
theorem dX9_isSign_5 : decode cX9_isSign 5 = .ok (.if_icmp .ne 7, 3) := by decide +kernel
theorem dX9_isSign_8 : decode cX9_isSign 8 = .ok (.iconst 1, 1) := by decide +kernel
theorem dX9_isSign_9 : decode cX9_isSign 9 = .ok (.goto 4, 3) := by decide +kernel
theorem dX9_isSign_12 : decode cX9_isSign 12 = .ok (.iconst 0, 1) := by decide +kernel
theorem dX9_isSign_13 : decode cX9_isSign 13 = .ok (.istore_n 2, 1) := by decide +kernel
theorem dX9_isSign_14 : decode cX9_isSign 14 = .ok (.aload_n 0, 1) := by decide +kernel
theorem dX9_isSign_15 : decode cX9_isSign 15 = .ok (.dup, 1) := by decide +kernel
theorem dX9_isSign_16 : decode cX9_isSign 16 = .ok (.getfield 185, 3) := by decide +kernel
theorem dX9_isSign_19 : decode cX9_isSign 19 = .ok (.iload_n 2, 1) := by decide +kernel
theorem dX9_isSign_20 : decode cX9_isSign 20 = .ok (.ifCond .eq 7, 3) := by decide +kernel
theorem dX9_isSign_23 : decode cX9_isSign 23 = .ok (.iconst 1, 1) := by decide +kernel
theorem dX9_isSign_24 : decode cX9_isSign 24 = .ok (.goto 4, 3) := by decide +kernel
theorem dX9_isSign_27 : decode cX9_isSign 27 = .ok (.iconst 0, 1) := by decide +kernel
theorem dX9_isSign_28 : decode cX9_isSign 28 = .ok (.iadd, 1) := by decide +kernel
theorem dX9_isSign_29 : decode cX9_isSign 29 = .ok (.putfield 185, 3) := by decide +kernel
theorem dX9_isSign_32 : decode cX9_isSign 32 = .ok (.iload_n 2, 1) := by decide +kernel
theorem dX9_isSign_33 : decode cX9_isSign 33 = .ok (.ireturn, 1) := by decide +kernel
theorem dX9_wordOf_0 : decode cX9_wordOf 0 = .ok (.iload_n 0, 1) := by decide +kernel
theorem dX9_wordOf_1 : decode cX9_wordOf 1 = .ok (.tableswitch 71 0 7 #[47, 50, 53, 56, 59, 62, 65, 68], 47) := by decide +kernel
theorem dX9_wordOf_48 : decode cX9_wordOf 48 = .ok (.ldc 191, 2) := by decide +kernel
theorem dX9_wordOf_50 : decode cX9_wordOf 50 = .ok (.areturn, 1) := by decide +kernel
theorem dX9_wordOf_51 : decode cX9_wordOf 51 = .ok (.ldc 193, 2) := by decide +kernel
theorem dX9_wordOf_53 : decode cX9_wordOf 53 = .ok (.areturn, 1) := by decide +kernel
theorem dX9_wordOf_54 : decode cX9_wordOf 54 = .ok (.ldc 195, 2) := by decide +kernel
theorem dX9_wordOf_56 : decode cX9_wordOf 56 = .ok (.areturn, 1) := by decide +kernel
theorem dX9_wordOf_57 : decode cX9_wordOf 57 = .ok (.ldc 197, 2) := by decide +kernel
theorem dX9_wordOf_59 : decode cX9_wordOf 59 = .ok (.areturn, 1) := by decide +kernel
theorem dX9_wordOf_60 : decode cX9_wordOf 60 = .ok (.ldc 199, 2) := by decide +kernel
theorem dX9_wordOf_62 : decode cX9_wordOf 62 = .ok (.areturn, 1) := by decide +kernel
theorem dX9_wordOf_63 : decode cX9_wordOf 63 = .ok (.ldc 201, 2) := by decide +kernel
theorem dX9_wordOf_65 : decode cX9_wordOf 65 = .ok (.areturn, 1) := by decide +kernel
theorem dX9_wordOf_66 : decode cX9_wordOf 66 = .ok (.ldc 203, 2) := by decide +kernel
theorem dX9_wordOf_68 : decode cX9_wordOf 68 = .ok (.areturn, 1) := by decide +kernel
theorem dX9_wordOf_69 : decode cX9_wordOf 69 = .ok (.ldc 205, 2) := by decide +kernel
theorem dX9_wordOf_71 : decode cX9_wordOf 71 = .ok (.areturn, 1) := by decide +kernel
theorem dX9_wordOf_72 : decode cX9_wordOf 72 = .ok (.ldc 207, 2) := by decide +kernel
theorem dX9_wordOf_74 : decode cX9_wordOf 74 = .ok (.areturn, 1) := by decide +kernel
theorem dX9_alikeHere_0 : decode cX9_alikeHere 0 = .ok (.iconst 0, 1) := by decide +kernel
theorem dX9_alikeHere_1 : decode cX9_alikeHere 1 = .ok (.istore_n 2, 1) := by decide +kernel
theorem dX9_alikeHere_2 : decode cX9_alikeHere 2 = .ok (.iload_n 2, 1) := by decide +kernel
theorem dX9_alikeHere_3 : decode cX9_alikeHere 3 = .ok (.aload_n 1, 1) := by decide +kernel
theorem dX9_alikeHere_4 : decode cX9_alikeHere 4 = .ok (.invokevirtual 209, 3) := by decide +kernel
theorem dX9_alikeHere_7 : decode cX9_alikeHere 7 = .ok (.if_icmp .ge 41, 3) := by decide +kernel
theorem dX9_alikeHere_10 : decode cX9_alikeHere 10 = .ok (.aload_n 0, 1) := by decide +kernel
theorem dX9_alikeHere_11 : decode cX9_alikeHere 11 = .ok (.getfield 185, 3) := by decide +kernel
theorem dX9_alikeHere_14 : decode cX9_alikeHere 14 = .ok (.iload_n 2, 1) := by decide +kernel
theorem dX9_alikeHere_15 : decode cX9_alikeHere 15 = .ok (.iadd, 1) := by decide +kernel
theorem dX9_alikeHere_16 : decode cX9_alikeHere 16 = .ok (.aload_n 0, 1) := by decide +kernel
theorem dX9_alikeHere_17 : decode cX9_alikeHere 17 = .ok (.getfield 182, 3) := by decide +kernel
theorem dX9_alikeHere_20 : decode cX9_alikeHere 20 = .ok (.if_icmp .ge 28, 3) := by decide +kernel
theorem dX9_alikeHere_23 : decode cX9_alikeHere 23 = .ok (.aload_n 0, 1) := by decide +kernel
theorem dX9_alikeHere_24 : decode cX9_alikeHere 24 = .ok (.getfield 29, 3) := by decide +kernel
theorem dX9_alikeHere_27 : decode cX9_alikeHere 27 = .ok (.aload_n 0, 1) := by decide +kernel
theorem dX9_alikeHere_28 : decode cX9_alikeHere 28 = .ok (.getfield 185, 3) := by decide +kernel
theorem dX9_alikeHere_31 : decode cX9_alikeHere 31 = .ok (.iload_n 2, 1) := by decide +kernel
theorem dX9_alikeHere_32 : decode cX9_alikeHere 32 = .ok (.iadd, 1) := by decide +kernel
theorem dX9_alikeHere_33 : decode cX9_alikeHere 33 = .ok (.iaload, 1) := by decide +kernel
theorem dX9_alikeHere_34 : decode cX9_alikeHere 34 = .ok (.aload_n 1, 1) := by decide +kernel
theorem dX9_alikeHere_35 : decode cX9_alikeHere 35 = .ok (.iload_n 2, 1) := by decide +kernel
theorem dX9_alikeHere_36 : decode cX9_alikeHere 36 = .ok (.invokevirtual 214, 3) := by decide +kernel
theorem dX9_alikeHere_39 : decode cX9_alikeHere 39 = .ok (.if_icmp .ne 9, 3) := by decide +kernel
theorem dX9_alikeHere_42 : decode cX9_alikeHere 42 = .ok (.iinc 2 1, 3) := by decide +kernel
theorem dX9_alikeHere_45 : decode cX9_alikeHere 45 = .ok (.goto (-43), 3) := by decide +kernel
theorem dX9_alikeHere_48 : decode cX9_alikeHere 48 = .ok (.iload_n 2, 1) := by decide +kernel
theorem dX9_alikeHere_49 : decode cX9_alikeHere 49 = .ok (.ireturn, 1) := by decide +kernel
theorem dX9_isWord_0 : decode cX9_isWord 0 = .ok (.iconst 0, 1) := by decide +kernel
theorem dX9_isWord_1 : decode cX9_isWord 1 = .ok (.istore_n 1, 1) := by decide +kernel
theorem dX9_isWord_2 : decode cX9_isWord 2 = .ok (.iconst 0, 1) := by decide +kernel
theorem dX9_isWord_3 : decode cX9_isWord 3 = .ok (.istore_n 2, 1) := by decide +kernel
theorem dX9_isWord_4 : decode cX9_isWord 4 = .ok (.iload_n 2, 1) := by decide +kernel
theorem dX9_isWord_5 : decode cX9_isWord 5 = .ok (.bipush 8, 2) := by decide +kernel
theorem dX9_isWord_7 : decode cX9_isWord 7 = .ok (.if_icmp .gt 52, 3) := by decide +kernel
theorem dX9_isWord_10 : decode cX9_isWord 10 = .ok (.aload_n 0, 1) := by decide +kernel
theorem dX9_isWord_11 : decode cX9_isWord 11 = .ok (.iload_n 2, 1) := by decide +kernel
theorem dX9_isWord_12 : decode cX9_isWord 12 = .ok (.invokestatic 218, 3) := by decide +kernel
theorem dX9_isWord_15 : decode cX9_isWord 15 = .ok (.invokevirtual 222, 3) := by decide +kernel
theorem dX9_isWord_18 : decode cX9_isWord 18 = .ok (.istore_n 3, 1) := by decide +kernel
theorem dX9_isWord_19 : decode cX9_isWord 19 = .ok (.iload_n 3, 1) := by decide +kernel
theorem dX9_isWord_20 : decode cX9_isWord 20 = .ok (.iload_n 2, 1) := by decide +kernel
theorem dX9_isWord_21 : decode cX9_isWord 21 = .ok (.invokestatic 218, 3) := by decide +kernel
theorem dX9_isWord_24 : decode cX9_isWord 24 = .ok (.invokevirtual 209, 3) := by decide +kernel
theorem dX9_isWord_27 : decode cX9_isWord 27 = .ok (.if_icmp .ne 20, 3) := by decide +kernel
theorem dX9_isWord_30 : decode cX9_isWord 30 = .ok (.aload_n 0, 1) := by decide +kernel
theorem dX9_isWord_31 : decode cX9_isWord 31 = .ok (.iload_n 2, 1) := by decide +kernel
theorem dX9_isWord_32 : decode cX9_isWord 32 = .ok (.putfield 226, 3) := by decide +kernel
theorem dX9_isWord_35 : decode cX9_isWord 35 = .ok (.aload_n 0, 1) := by decide +kernel
theorem dX9_isWord_36 : decode cX9_isWord 36 = .ok (.dup, 1) := by decide +kernel
theorem dX9_isWord_37 : decode cX9_isWord 37 = .ok (.getfield 185, 3) := by decide +kernel
theorem dX9_isWord_40 : decode cX9_isWord 40 = .ok (.iload_n 3, 1) := by decide +kernel
theorem dX9_isWord_41 : decode cX9_isWord 41 = .ok (.iadd, 1) := by decide +kernel
theorem dX9_isWord_42 : decode cX9_isWord 42 = .ok (.putfield 185, 3) := by decide +kernel
theorem dX9_isWord_45 : decode cX9_isWord 45 = .ok (.iconst 1, 1) := by decide +kernel
theorem dX9_isWord_46 : decode cX9_isWord 46 = .ok (.ireturn, 1) := by decide +kernel
theorem dX9_isWord_47 : decode cX9_isWord 47 = .ok (.iload_n 1, 1) := by decide +kernel
theorem dX9_isWord_48 : decode cX9_isWord 48 = .ok (.iload_n 3, 1) := by decide +kernel
theorem dX9_isWord_49 : decode cX9_isWord 49 = .ok (.invokestatic 75, 3) := by decide +kernel
theorem dX9_isWord_52 : decode cX9_isWord 52 = .ok (.istore_n 1, 1) := by decide +kernel
theorem dX9_isWord_53 : decode cX9_isWord 53 = .ok (.iinc 2 1, 3) := by decide +kernel
theorem dX9_isWord_56 : decode cX9_isWord 56 = .ok (.goto (-52), 3) := by decide +kernel
theorem dX9_isWord_59 : decode cX9_isWord 59 = .ok (.aload_n 0, 1) := by decide +kernel
theorem dX9_isWord_60 : decode cX9_isWord 60 = .ok (.dup, 1) := by decide +kernel
theorem dX9_isWord_61 : decode cX9_isWord 61 = .ok (.getfield 185, 3) := by decide +kernel
theorem dX9_isWord_64 : decode cX9_isWord 64 = .ok (.iload_n 1, 1) := by decide +kernel
theorem dX9_isWord_65 : decode cX9_isWord 65 = .ok (.iadd, 1) := by decide +kernel
theorem dX9_isWord_66 : decode cX9_isWord 66 = .ok (.putfield 185, 3) := by decide +kernel
theorem dX9_isWord_69 : decode cX9_isWord 69 = .ok (.iconst 0, 1) := by decide +kernel
theorem dX9_isWord_70 : decode cX9_isWord 70 = .ok (.ireturn, 1) := by decide +kernel
theorem dX9_isDigit_0 : decode cX9_isDigit 0 = .ok (.aload_n 0, 1) := by decide +kernel
theorem dX9_isDigit_1 : decode cX9_isDigit 1 = .ok (.invokevirtual 188, 3) := by decide +kernel
theorem dX9_isDigit_4 : decode cX9_isDigit 4 = .ok (.istore_n 2, 1) := by decide +kernel
theorem dX9_isDigit_5 : decode cX9_isDigit 5 = .ok (.iload_n 2, 1) := by decide +kernel
theorem dX9_isDigit_6 : decode cX9_isDigit 6 = .ok (.bipush 48, 2) := by decide +kernel
theorem dX9_isDigit_8 : decode cX9_isDigit 8 = .ok (.bipush 57, 2) := by decide +kernel
theorem dX9_isDigit_10 : decode cX9_isDigit 10 = .ok (.invokestatic 61, 3) := by decide +kernel
theorem dX9_isDigit_13 : decode cX9_isDigit 13 = .ok (.istore_n 3, 1) := by decide +kernel
theorem dX9_isDigit_14 : decode cX9_isDigit 14 = .ok (.aload_n 0, 1) := by decide +kernel
theorem dX9_isDigit_15 : decode cX9_isDigit 15 = .ok (.getfield 32, 3) := by decide +kernel
theorem dX9_isDigit_18 : decode cX9_isDigit 18 = .ok (.iload_n 1, 1) := by decide +kernel
theorem dX9_isDigit_19 : decode cX9_isDigit 19 = .ok (.iload_n 2, 1) := by decide +kernel
theorem dX9_isDigit_20 : decode cX9_isDigit 20 = .ok (.bipush 48, 2) := by decide +kernel
theorem dX9_isDigit_22 : decode cX9_isDigit 22 = .ok (.isub, 1) := by decide +kernel
theorem dX9_isDigit_23 : decode cX9_isDigit 23 = .ok (.iastore, 1) := by decide +kernel
theorem dX9_isDigit_24 : decode cX9_isDigit 24 = .ok (.aload_n 0, 1) := by decide +kernel
theorem dX9_isDigit_25 : decode cX9_isDigit 25 = .ok (.dup, 1) := by decide +kernel
theorem dX9_isDigit_26 : decode cX9_isDigit 26 = .ok (.getfield 185, 3) := by decide +kernel
theorem dX9_isDigit_29 : decode cX9_isDigit 29 = .ok (.iload_n 3, 1) := by decide +kernel
theorem dX9_isDigit_30 : decode cX9_isDigit 30 = .ok (.ifCond .eq 7, 3) := by decide +kernel
theorem dX9_isDigit_33 : decode cX9_isDigit 33 = .ok (.iconst 1, 1) := by decide +kernel
theorem dX9_isDigit_34 : decode cX9_isDigit 34 = .ok (.goto 4, 3) := by decide +kernel
theorem dX9_isDigit_37 : decode cX9_isDigit 37 = .ok (.iconst 0, 1) := by decide +kernel
theorem dX9_isDigit_38 : decode cX9_isDigit 38 = .ok (.iadd, 1) := by decide +kernel
theorem dX9_isDigit_39 : decode cX9_isDigit 39 = .ok (.putfield 185, 3) := by decide +kernel
theorem dX9_isDigit_42 : decode cX9_isDigit 42 = .ok (.iload_n 3, 1) := by decide +kernel
theorem dX9_isDigit_43 : decode cX9_isDigit 43 = .ok (.ireturn, 1) := by decide +kernel
theorem dX9_isLetter_0 : decode cX9_isLetter 0 = .ok (.aload_n 0, 1) := by decide +kernel
theorem dX9_isLetter_1 : decode cX9_isLetter 1 = .ok (.invokevirtual 188, 3) := by decide +kernel
theorem dX9_isLetter_4 : decode cX9_isLetter 4 = .ok (.istore_n 2, 1) := by decide +kernel
theorem dX9_isLetter_5 : decode cX9_isLetter 5 = .ok (.iload_n 2, 1) := by decide +kernel
theorem dX9_isLetter_6 : decode cX9_isLetter 6 = .ok (.bipush 97, 2) := by decide +kernel
theorem dX9_isLetter_8 : decode cX9_isLetter 8 = .ok (.bipush 122, 2) := by decide +kernel
theorem dX9_isLetter_10 : decode cX9_isLetter 10 = .ok (.invokestatic 61, 3) := by decide +kernel
theorem dX9_isLetter_13 : decode cX9_isLetter 13 = .ok (.istore_n 3, 1) := by decide +kernel
theorem dX9_isLetter_14 : decode cX9_isLetter 14 = .ok (.aload_n 0, 1) := by decide +kernel
theorem dX9_isLetter_15 : decode cX9_isLetter 15 = .ok (.getfield 32, 3) := by decide +kernel
theorem dX9_isLetter_18 : decode cX9_isLetter 18 = .ok (.iload_n 1, 1) := by decide +kernel
theorem dX9_isLetter_19 : decode cX9_isLetter 19 = .ok (.iload_n 2, 1) := by decide +kernel
theorem dX9_isLetter_20 : decode cX9_isLetter 20 = .ok (.iastore, 1) := by decide +kernel
theorem dX9_isLetter_21 : decode cX9_isLetter 21 = .ok (.aload_n 0, 1) := by decide +kernel
theorem dX9_isLetter_22 : decode cX9_isLetter 22 = .ok (.dup, 1) := by decide +kernel
theorem dX9_isLetter_23 : decode cX9_isLetter 23 = .ok (.getfield 185, 3) := by decide +kernel
theorem dX9_isLetter_26 : decode cX9_isLetter 26 = .ok (.iload_n 3, 1) := by decide +kernel
theorem dX9_isLetter_27 : decode cX9_isLetter 27 = .ok (.ifCond .eq 7, 3) := by decide +kernel
theorem dX9_isLetter_30 : decode cX9_isLetter 30 = .ok (.iconst 1, 1) := by decide +kernel
theorem dX9_isLetter_31 : decode cX9_isLetter 31 = .ok (.goto 4, 3) := by decide +kernel
theorem dX9_isLetter_34 : decode cX9_isLetter 34 = .ok (.iconst 0, 1) := by decide +kernel
theorem dX9_isLetter_35 : decode cX9_isLetter 35 = .ok (.iadd, 1) := by decide +kernel
theorem dX9_isLetter_36 : decode cX9_isLetter 36 = .ok (.putfield 185, 3) := by decide +kernel
theorem dX9_isLetter_39 : decode cX9_isLetter 39 = .ok (.iload_n 3, 1) := by decide +kernel
theorem dX9_isLetter_40 : decode cX9_isLetter 40 = .ok (.ireturn, 1) := by decide +kernel
theorem dX9_readsCommand_0 : decode cX9_readsCommand 0 = .ok (.aload_n 0, 1) := by decide +kernel
theorem dX9_readsCommand_1 : decode cX9_readsCommand 1 = .ok (.invokevirtual 229, 3) := by decide +kernel
theorem dX9_readsCommand_4 : decode cX9_readsCommand 4 = .ok (.ifCond .ne 5, 3) := by decide +kernel
theorem dX9_readsCommand_7 : decode cX9_readsCommand 7 = .ok (.iconst 0, 1) := by decide +kernel
theorem dX9_readsCommand_8 : decode cX9_readsCommand 8 = .ok (.ireturn, 1) := by decide +kernel
theorem dX9_readsCommand_9 : decode cX9_readsCommand 9 = .ok (.iconst 3, 1) := by decide +kernel
theorem dX9_readsCommand_10 : decode cX9_readsCommand 10 = .ok (.aload_n 0, 1) := by decide +kernel
theorem dX9_readsCommand_11 : decode cX9_readsCommand 11 = .ok (.getfield 233, 3) := by decide +kernel
theorem dX9_readsCommand_14 : decode cX9_readsCommand 14 = .ok (.imul, 1) := by decide +kernel
theorem dX9_readsCommand_15 : decode cX9_readsCommand 15 = .ok (.istore_n 1, 1) := by decide +kernel
theorem dX9_readsCommand_16 : decode cX9_readsCommand 16 = .ok (.aload_n 0, 1) := by decide +kernel
theorem dX9_readsCommand_17 : decode cX9_readsCommand 17 = .ok (.getfield 32, 3) := by decide +kernel
theorem dX9_readsCommand_20 : decode cX9_readsCommand 20 = .ok (.iload_n 1, 1) := by decide +kernel
theorem dX9_readsCommand_21 : decode cX9_readsCommand 21 = .ok (.aload_n 0, 1) := by decide +kernel
theorem dX9_readsCommand_22 : decode cX9_readsCommand 22 = .ok (.getfield 226, 3) := by decide +kernel
theorem dX9_readsCommand_25 : decode cX9_readsCommand 25 = .ok (.iastore, 1) := by decide +kernel
theorem dX9_readsCommand_26 : decode cX9_readsCommand 26 = .ok (.aload_n 0, 1) := by decide +kernel
theorem dX9_readsCommand_27 : decode cX9_readsCommand 27 = .ok (.dup, 1) := by decide +kernel
theorem dX9_readsCommand_28 : decode cX9_readsCommand 28 = .ok (.getfield 233, 3) := by decide +kernel
theorem dX9_readsCommand_31 : decode cX9_readsCommand 31 = .ok (.iconst 1, 1) := by decide +kernel
theorem dX9_readsCommand_32 : decode cX9_readsCommand 32 = .ok (.iadd, 1) := by decide +kernel
theorem dX9_readsCommand_33 : decode cX9_readsCommand 33 = .ok (.putfield 233, 3) := by decide +kernel
theorem dX9_readsCommand_36 : decode cX9_readsCommand 36 = .ok (.aload_n 0, 1) := by decide +kernel
theorem dX9_readsCommand_37 : decode cX9_readsCommand 37 = .ok (.getfield 226, 3) := by decide +kernel
theorem dX9_readsCommand_40 : decode cX9_readsCommand 40 = .ok (.tableswitch 135 3 8 #[40, 135, 135, 75, 75, 101], 40) := by decide +kernel
theorem dX9_readsCommand_80 : decode cX9_readsCommand 80 = .ok (.aload_n 0, 1) := by decide +kernel
theorem dX9_readsCommand_81 : decode cX9_readsCommand 81 = .ok (.iload_n 1, 1) := by decide +kernel
theorem dX9_readsCommand_82 : decode cX9_readsCommand 82 = .ok (.iconst 1, 1) := by decide +kernel
theorem dX9_readsCommand_83 : decode cX9_readsCommand 83 = .ok (.iadd, 1) := by decide +kernel
theorem dX9_readsCommand_84 : decode cX9_readsCommand 84 = .ok (.invokevirtual 236, 3) := by decide +kernel
theorem dX9_readsCommand_87 : decode cX9_readsCommand 87 = .ok (.ifCond .eq 26, 3) := by decide +kernel
theorem dX9_readsCommand_90 : decode cX9_readsCommand 90 = .ok (.aload_n 0, 1) := by decide +kernel
theorem dX9_readsCommand_91 : decode cX9_readsCommand 91 = .ok (.bipush 32, 2) := by decide +kernel
theorem dX9_readsCommand_93 : decode cX9_readsCommand 93 = .ok (.invokevirtual 239, 3) := by decide +kernel
theorem dX9_readsCommand_96 : decode cX9_readsCommand 96 = .ok (.ifCond .eq 17, 3) := by decide +kernel
theorem dX9_readsCommand_99 : decode cX9_readsCommand 99 = .ok (.aload_n 0, 1) := by decide +kernel
theorem dX9_readsCommand_100 : decode cX9_readsCommand 100 = .ok (.iload_n 1, 1) := by decide +kernel
theorem dX9_readsCommand_101 : decode cX9_readsCommand 101 = .ok (.iconst 2, 1) := by decide +kernel
theorem dX9_readsCommand_102 : decode cX9_readsCommand 102 = .ok (.iadd, 1) := by decide +kernel
theorem dX9_readsCommand_103 : decode cX9_readsCommand 103 = .ok (.invokevirtual 242, 3) := by decide +kernel
theorem dX9_readsCommand_106 : decode cX9_readsCommand 106 = .ok (.ifCond .eq 7, 3) := by decide +kernel
theorem dX9_readsCommand_109 : decode cX9_readsCommand 109 = .ok (.iconst 1, 1) := by decide +kernel
theorem dX9_readsCommand_110 : decode cX9_readsCommand 110 = .ok (.goto 4, 3) := by decide +kernel
theorem dX9_readsCommand_113 : decode cX9_readsCommand 113 = .ok (.iconst 0, 1) := by decide +kernel
theorem dX9_readsCommand_114 : decode cX9_readsCommand 114 = .ok (.ireturn, 1) := by decide +kernel
theorem dX9_readsCommand_115 : decode cX9_readsCommand 115 = .ok (.aload_n 0, 1) := by decide +kernel
theorem dX9_readsCommand_116 : decode cX9_readsCommand 116 = .ok (.iload_n 1, 1) := by decide +kernel
theorem dX9_readsCommand_117 : decode cX9_readsCommand 117 = .ok (.iconst 1, 1) := by decide +kernel
theorem dX9_readsCommand_118 : decode cX9_readsCommand 118 = .ok (.iadd, 1) := by decide +kernel
theorem dX9_readsCommand_119 : decode cX9_readsCommand 119 = .ok (.invokevirtual 236, 3) := by decide +kernel
theorem dX9_readsCommand_122 : decode cX9_readsCommand 122 = .ok (.ifCond .eq 17, 3) := by decide +kernel
theorem dX9_readsCommand_125 : decode cX9_readsCommand 125 = .ok (.aload_n 0, 1) := by decide +kernel
theorem dX9_readsCommand_126 : decode cX9_readsCommand 126 = .ok (.iload_n 1, 1) := by decide +kernel
theorem dX9_readsCommand_127 : decode cX9_readsCommand 127 = .ok (.iconst 2, 1) := by decide +kernel
theorem dX9_readsCommand_128 : decode cX9_readsCommand 128 = .ok (.iadd, 1) := by decide +kernel
theorem dX9_readsCommand_129 : decode cX9_readsCommand 129 = .ok (.invokevirtual 236, 3) := by decide +kernel
theorem dX9_readsCommand_132 : decode cX9_readsCommand 132 = .ok (.ifCond .eq 7, 3) := by decide +kernel
theorem dX9_readsCommand_135 : decode cX9_readsCommand 135 = .ok (.iconst 1, 1) := by decide +kernel
theorem dX9_readsCommand_136 : decode cX9_readsCommand 136 = .ok (.goto 4, 3) := by decide +kernel
theorem dX9_readsCommand_139 : decode cX9_readsCommand 139 = .ok (.iconst 0, 1) := by decide +kernel
theorem dX9_readsCommand_140 : decode cX9_readsCommand 140 = .ok (.ireturn, 1) := by decide +kernel
theorem dX9_readsCommand_141 : decode cX9_readsCommand 141 = .ok (.aload_n 0, 1) := by decide +kernel
theorem dX9_readsCommand_142 : decode cX9_readsCommand 142 = .ok (.getfield 32, 3) := by decide +kernel
theorem dX9_readsCommand_145 : decode cX9_readsCommand 145 = .ok (.iload_n 1, 1) := by decide +kernel
theorem dX9_readsCommand_146 : decode cX9_readsCommand 146 = .ok (.iconst 1, 1) := by decide +kernel
theorem dX9_readsCommand_147 : decode cX9_readsCommand 147 = .ok (.iadd, 1) := by decide +kernel
theorem dX9_readsCommand_148 : decode cX9_readsCommand 148 = .ok (.iconst 1, 1) := by decide +kernel
theorem dX9_readsCommand_149 : decode cX9_readsCommand 149 = .ok (.iastore, 1) := by decide +kernel
theorem dX9_readsCommand_150 : decode cX9_readsCommand 150 = .ok (.aload_n 0, 1) := by decide +kernel
theorem dX9_readsCommand_151 : decode cX9_readsCommand 151 = .ok (.bipush 32, 2) := by decide +kernel
theorem dX9_readsCommand_153 : decode cX9_readsCommand 153 = .ok (.invokevirtual 239, 3) := by decide +kernel
theorem dX9_readsCommand_156 : decode cX9_readsCommand 156 = .ok (.ifCond .eq 13, 3) := by decide +kernel
theorem dX9_readsCommand_159 : decode cX9_readsCommand 159 = .ok (.aload_n 0, 1) := by decide +kernel
theorem dX9_readsCommand_160 : decode cX9_readsCommand 160 = .ok (.iload_n 1, 1) := by decide +kernel
theorem dX9_readsCommand_161 : decode cX9_readsCommand 161 = .ok (.iconst 1, 1) := by decide +kernel
theorem dX9_readsCommand_162 : decode cX9_readsCommand 162 = .ok (.iadd, 1) := by decide +kernel
theorem dX9_readsCommand_163 : decode cX9_readsCommand 163 = .ok (.invokevirtual 236, 3) := by decide +kernel
theorem dX9_readsCommand_166 : decode cX9_readsCommand 166 = .ok (.ifCond .eq 7, 3) := by decide +kernel
theorem dX9_readsCommand_169 : decode cX9_readsCommand 169 = .ok (.iconst 1, 1) := by decide +kernel
theorem dX9_readsCommand_170 : decode cX9_readsCommand 170 = .ok (.goto 4, 3) := by decide +kernel
theorem dX9_readsCommand_173 : decode cX9_readsCommand 173 = .ok (.iconst 0, 1) := by decide +kernel
theorem dX9_readsCommand_174 : decode cX9_readsCommand 174 = .ok (.ireturn, 1) := by decide +kernel
theorem dX9_readsCommand_175 : decode cX9_readsCommand 175 = .ok (.aload_n 0, 1) := by decide +kernel
theorem dX9_readsCommand_176 : decode cX9_readsCommand 176 = .ok (.iload_n 1, 1) := by decide +kernel
theorem dX9_readsCommand_177 : decode cX9_readsCommand 177 = .ok (.iconst 1, 1) := by decide +kernel
theorem dX9_readsCommand_178 : decode cX9_readsCommand 178 = .ok (.iadd, 1) := by decide +kernel
theorem dX9_readsCommand_179 : decode cX9_readsCommand 179 = .ok (.invokevirtual 236, 3) := by decide +kernel
theorem dX9_readsCommand_182 : decode cX9_readsCommand 182 = .ok (.ireturn, 1) := by decide +kernel
theorem dX9_isText_0 : decode cX9_isText 0 = .ok (.aload_n 0, 1) := by decide +kernel
theorem dX9_isText_1 : decode cX9_isText 1 = .ok (.iconst 0, 1) := by decide +kernel
theorem dX9_isText_2 : decode cX9_isText 2 = .ok (.putfield 185, 3) := by decide +kernel
theorem dX9_isText_5 : decode cX9_isText 5 = .ok (.aload_n 0, 1) := by decide +kernel
theorem dX9_isText_6 : decode cX9_isText 6 = .ok (.iconst 0, 1) := by decide +kernel
theorem dX9_isText_7 : decode cX9_isText 7 = .ok (.putfield 233, 3) := by decide +kernel
theorem dX9_isText_10 : decode cX9_isText 10 = .ok (.aload_n 0, 1) := by decide +kernel
theorem dX9_isText_11 : decode cX9_isText 11 = .ok (.invokevirtual 245, 3) := by decide +kernel
theorem dX9_isText_14 : decode cX9_isText 14 = .ok (.istore_n 1, 1) := by decide +kernel
theorem dX9_isText_15 : decode cX9_isText 15 = .ok (.iload_n 1, 1) := by decide +kernel
theorem dX9_isText_16 : decode cX9_isText 16 = .ok (.ifCond .eq 20, 3) := by decide +kernel
theorem dX9_isText_19 : decode cX9_isText 19 = .ok (.aload_n 0, 1) := by decide +kernel
theorem dX9_isText_20 : decode cX9_isText 20 = .ok (.bipush 59, 2) := by decide +kernel
theorem dX9_isText_22 : decode cX9_isText 22 = .ok (.invokevirtual 239, 3) := by decide +kernel
theorem dX9_isText_25 : decode cX9_isText 25 = .ok (.ifCond .eq 11, 3) := by decide +kernel
theorem dX9_isText_28 : decode cX9_isText 28 = .ok (.aload_n 0, 1) := by decide +kernel
theorem dX9_isText_29 : decode cX9_isText 29 = .ok (.invokevirtual 245, 3) := by decide +kernel
theorem dX9_isText_32 : decode cX9_isText 32 = .ok (.istore_n 1, 1) := by decide +kernel
theorem dX9_isText_33 : decode cX9_isText 33 = .ok (.goto (-18), 3) := by decide +kernel
theorem dX9_isText_36 : decode cX9_isText 36 = .ok (.iload_n 1, 1) := by decide +kernel
theorem dX9_isText_37 : decode cX9_isText 37 = .ok (.ifCond .eq 18, 3) := by decide +kernel
theorem dX9_isText_40 : decode cX9_isText 40 = .ok (.aload_n 0, 1) := by decide +kernel
theorem dX9_isText_41 : decode cX9_isText 41 = .ok (.getfield 185, 3) := by decide +kernel
theorem dX9_isText_44 : decode cX9_isText 44 = .ok (.aload_n 0, 1) := by decide +kernel
theorem dX9_isText_45 : decode cX9_isText 45 = .ok (.getfield 182, 3) := by decide +kernel
theorem dX9_isText_48 : decode cX9_isText 48 = .ok (.if_icmp .ne 7, 3) := by decide +kernel
theorem dX9_isText_51 : decode cX9_isText 51 = .ok (.iconst 1, 1) := by decide +kernel
theorem dX9_isText_52 : decode cX9_isText 52 = .ok (.goto 4, 3) := by decide +kernel
theorem dX9_isText_55 : decode cX9_isText 55 = .ok (.iconst 0, 1) := by decide +kernel
theorem dX9_isText_56 : decode cX9_isText 56 = .ok (.ireturn, 1) := by decide +kernel
theorem dX9_does_0 : decode cX9_does 0 = .ok (.aload_n 0, 1) := by decide +kernel
theorem dX9_does_1 : decode cX9_does 1 = .ok (.getfield 32, 3) := by decide +kernel
theorem dX9_does_4 : decode cX9_does 4 = .ok (.iload_n 1, 1) := by decide +kernel
theorem dX9_does_5 : decode cX9_does 5 = .ok (.iconst 1, 1) := by decide +kernel
theorem dX9_does_6 : decode cX9_does 6 = .ok (.iadd, 1) := by decide +kernel
theorem dX9_does_7 : decode cX9_does 7 = .ok (.iaload, 1) := by decide +kernel
theorem dX9_does_8 : decode cX9_does 8 = .ok (.istore_n 2, 1) := by decide +kernel
theorem dX9_does_9 : decode cX9_does 9 = .ok (.aload_n 0, 1) := by decide +kernel
theorem dX9_does_10 : decode cX9_does 10 = .ok (.getfield 32, 3) := by decide +kernel
theorem dX9_does_13 : decode cX9_does 13 = .ok (.iload_n 1, 1) := by decide +kernel
theorem dX9_does_14 : decode cX9_does 14 = .ok (.iconst 2, 1) := by decide +kernel
theorem dX9_does_15 : decode cX9_does 15 = .ok (.iadd, 1) := by decide +kernel
theorem dX9_does_16 : decode cX9_does 16 = .ok (.iaload, 1) := by decide +kernel
theorem dX9_does_17 : decode cX9_does 17 = .ok (.istore_n 3, 1) := by decide +kernel
theorem dX9_does_18 : decode cX9_does 18 = .ok (.aload_n 0, 1) := by decide +kernel
theorem dX9_does_19 : decode cX9_does 19 = .ok (.getfield 32, 3) := by decide +kernel
theorem dX9_does_22 : decode cX9_does 22 = .ok (.iload_n 1, 1) := by decide +kernel
theorem dX9_does_23 : decode cX9_does 23 = .ok (.iaload, 1) := by decide +kernel
theorem dX9_does_24 : decode cX9_does 24 = .ok (.tableswitch 101 0 7 #[48, 54, 60, 66, 73, 79, 85, 93], 48) := by decide +kernel
theorem dX9_does_72 : decode cX9_does 72 = .ok (.aload_n 0, 1) := by decide +kernel
theorem dX9_does_73 : decode cX9_does 73 = .ok (.iload_n 2, 1) := by decide +kernel
theorem dX9_does_74 : decode cX9_does 74 = .ok (.invokevirtual 99, 3) := by decide +kernel
theorem dX9_does_77 : decode cX9_does 77 = .ok (.ireturn, 1) := by decide +kernel
theorem dX9_does_78 : decode cX9_does 78 = .ok (.aload_n 0, 1) := by decide +kernel
theorem dX9_does_79 : decode cX9_does 79 = .ok (.iload_n 2, 1) := by decide +kernel
theorem dX9_does_80 : decode cX9_does 80 = .ok (.invokevirtual 128, 3) := by decide +kernel
theorem dX9_does_83 : decode cX9_does 83 = .ok (.ireturn, 1) := by decide +kernel
theorem dX9_does_84 : decode cX9_does 84 = .ok (.aload_n 0, 1) := by decide +kernel
theorem dX9_does_85 : decode cX9_does 85 = .ok (.iload_n 2, 1) := by decide +kernel
theorem dX9_does_86 : decode cX9_does 86 = .ok (.invokevirtual 146, 3) := by decide +kernel
theorem dX9_does_89 : decode cX9_does 89 = .ok (.ireturn, 1) := by decide +kernel
theorem dX9_does_90 : decode cX9_does 90 = .ok (.aload_n 0, 1) := by decide +kernel
theorem dX9_does_91 : decode cX9_does 91 = .ok (.iload_n 2, 1) := by decide +kernel
theorem dX9_does_92 : decode cX9_does 92 = .ok (.iload_n 3, 1) := by decide +kernel
theorem dX9_does_93 : decode cX9_does 93 = .ok (.invokevirtual 149, 3) := by decide +kernel
theorem dX9_does_96 : decode cX9_does 96 = .ok (.ireturn, 1) := by decide +kernel
theorem dX9_does_97 : decode cX9_does 97 = .ok (.aload_n 0, 1) := by decide +kernel
theorem dX9_does_98 : decode cX9_does 98 = .ok (.iload_n 2, 1) := by decide +kernel
theorem dX9_does_99 : decode cX9_does 99 = .ok (.invokevirtual 156, 3) := by decide +kernel
theorem dX9_does_102 : decode cX9_does 102 = .ok (.ireturn, 1) := by decide +kernel
theorem dX9_does_103 : decode cX9_does 103 = .ok (.aload_n 0, 1) := by decide +kernel
theorem dX9_does_104 : decode cX9_does 104 = .ok (.iload_n 2, 1) := by decide +kernel
theorem dX9_does_105 : decode cX9_does 105 = .ok (.invokevirtual 159, 3) := by decide +kernel
theorem dX9_does_108 : decode cX9_does 108 = .ok (.ireturn, 1) := by decide +kernel
theorem dX9_does_109 : decode cX9_does 109 = .ok (.aload_n 0, 1) := by decide +kernel
theorem dX9_does_110 : decode cX9_does 110 = .ok (.iload_n 2, 1) := by decide +kernel
theorem dX9_does_111 : decode cX9_does 111 = .ok (.iload_n 3, 1) := by decide +kernel
theorem dX9_does_112 : decode cX9_does 112 = .ok (.iconst 1, 1) := by decide +kernel
theorem dX9_does_113 : decode cX9_does 113 = .ok (.invokevirtual 168, 3) := by decide +kernel
theorem dX9_does_116 : decode cX9_does 116 = .ok (.ireturn, 1) := by decide +kernel
theorem dX9_does_117 : decode cX9_does 117 = .ok (.aload_n 0, 1) := by decide +kernel
theorem dX9_does_118 : decode cX9_does 118 = .ok (.iload_n 2, 1) := by decide +kernel
theorem dX9_does_119 : decode cX9_does 119 = .ok (.iload_n 3, 1) := by decide +kernel
theorem dX9_does_120 : decode cX9_does 120 = .ok (.iconst 0, 1) := by decide +kernel
theorem dX9_does_121 : decode cX9_does 121 = .ok (.invokevirtual 168, 3) := by decide +kernel
theorem dX9_does_124 : decode cX9_does 124 = .ok (.ireturn, 1) := by decide +kernel
theorem dX9_does_125 : decode cX9_does 125 = .ok (.aload_n 0, 1) := by decide +kernel
theorem dX9_does_126 : decode cX9_does 126 = .ok (.iload_n 2, 1) := by decide +kernel
theorem dX9_does_127 : decode cX9_does 127 = .ok (.invokevirtual 179, 3) := by decide +kernel
theorem dX9_does_130 : decode cX9_does 130 = .ok (.ireturn, 1) := by decide +kernel
theorem dX9_isBehind_0 : decode cX9_isBehind 0 = .ok (.aload_n 0, 1) := by decide +kernel
theorem dX9_isBehind_1 : decode cX9_isBehind 1 = .ok (.iload_n 1, 1) := by decide +kernel
theorem dX9_isBehind_2 : decode cX9_isBehind 2 = .ok (.ifCond .eq 10, 3) := by decide +kernel
theorem dX9_isBehind_5 : decode cX9_isBehind 5 = .ok (.aload_n 0, 1) := by decide +kernel
theorem dX9_isBehind_6 : decode cX9_isBehind 6 = .ok (.getfield 48, 3) := by decide +kernel
theorem dX9_isBehind_9 : decode cX9_isBehind 9 = .ok (.goto 4, 3) := by decide +kernel
theorem dX9_isBehind_12 : decode cX9_isBehind 12 = .ok (.iconst 0, 1) := by decide +kernel
theorem dX9_isBehind_13 : decode cX9_isBehind 13 = .ok (.putfield 54, 3) := by decide +kernel
theorem dX9_isBehind_16 : decode cX9_isBehind 16 = .ok (.aload_n 0, 1) := by decide +kernel
theorem dX9_isBehind_17 : decode cX9_isBehind 17 = .ok (.iload_n 1, 1) := by decide +kernel
theorem dX9_isBehind_18 : decode cX9_isBehind 18 = .ok (.ifCond .eq 10, 3) := by decide +kernel
theorem dX9_isBehind_21 : decode cX9_isBehind 21 = .ok (.aload_n 0, 1) := by decide +kernel
theorem dX9_isBehind_22 : decode cX9_isBehind 22 = .ok (.getfield 51, 3) := by decide +kernel
theorem dX9_isBehind_25 : decode cX9_isBehind 25 = .ok (.goto 4, 3) := by decide +kernel
theorem dX9_isBehind_28 : decode cX9_isBehind 28 = .ok (.iconst 0, 1) := by decide +kernel
theorem dX9_isBehind_29 : decode cX9_isBehind 29 = .ok (.putfield 248, 3) := by decide +kernel
theorem dX9_isBehind_32 : decode cX9_isBehind 32 = .ok (.aload_n 0, 1) := by decide +kernel
theorem dX9_isBehind_33 : decode cX9_isBehind 33 = .ok (.iload_n 1, 1) := by decide +kernel
theorem dX9_isBehind_34 : decode cX9_isBehind 34 = .ok (.ifCond .eq 8, 3) := by decide +kernel
theorem dX9_isBehind_37 : decode cX9_isBehind 37 = .ok (.bipush 8, 2) := by decide +kernel
theorem dX9_isBehind_39 : decode cX9_isBehind 39 = .ok (.goto 5, 3) := by decide +kernel
theorem dX9_isBehind_42 : decode cX9_isBehind 42 = .ok (.bipush 9, 2) := by decide +kernel
theorem dX9_isBehind_44 : decode cX9_isBehind 44 = .ok (.putfield 48, 3) := by decide +kernel
theorem dX9_isBehind_47 : decode cX9_isBehind 47 = .ok (.aload_n 0, 1) := by decide +kernel
theorem dX9_isBehind_48 : decode cX9_isBehind 48 = .ok (.iload_n 2, 1) := by decide +kernel
theorem dX9_isBehind_49 : decode cX9_isBehind 49 = .ok (.putfield 51, 3) := by decide +kernel
theorem dX9_isBehind_52 : decode cX9_isBehind 52 = .ok (.return_, 1) := by decide +kernel
theorem dX9_read_0 : decode cX9_read 0 = .ok (.aload_n 0, 1) := by decide +kernel
theorem dX9_read_1 : decode cX9_read 1 = .ok (.invokevirtual 251, 3) := by decide +kernel
theorem dX9_read_4 : decode cX9_read 4 = .ok (.istore_n 1, 1) := by decide +kernel
theorem dX9_read_5 : decode cX9_read 5 = .ok (.aload_n 0, 1) := by decide +kernel
theorem dX9_read_6 : decode cX9_read 6 = .ok (.iconst 0, 1) := by decide +kernel
theorem dX9_read_7 : decode cX9_read 7 = .ok (.putfield 182, 3) := by decide +kernel
theorem dX9_read_10 : decode cX9_read 10 = .ok (.iload_n 1, 1) := by decide +kernel
theorem dX9_read_11 : decode cX9_read 11 = .ok (.ifCond .ne 14, 3) := by decide +kernel
theorem dX9_read_14 : decode cX9_read 14 = .ok (.aload_n 0, 1) := by decide +kernel
theorem dX9_read_15 : decode cX9_read 15 = .ok (.aload_n 0, 1) := by decide +kernel
theorem dX9_read_16 : decode cX9_read 16 = .ok (.getfield 185, 3) := by decide +kernel
theorem dX9_read_19 : decode cX9_read 19 = .ok (.putfield 25, 3) := by decide +kernel
theorem dX9_read_22 : decode cX9_read 22 = .ok (.bipush (-2), 2) := by decide +kernel
theorem dX9_read_24 : decode cX9_read 24 = .ok (.ireturn, 1) := by decide +kernel
theorem dX9_read_25 : decode cX9_read 25 = .ok (.aload_n 0, 1) := by decide +kernel
theorem dX9_read_26 : decode cX9_read 26 = .ok (.invokevirtual 96, 3) := by decide +kernel
theorem dX9_read_29 : decode cX9_read 29 = .ok (.iconst 0, 1) := by decide +kernel
theorem dX9_read_30 : decode cX9_read 30 = .ok (.istore_n 2, 1) := by decide +kernel
theorem dX9_read_31 : decode cX9_read 31 = .ok (.iload_n 2, 1) := by decide +kernel
theorem dX9_read_32 : decode cX9_read 32 = .ok (.aload_n 0, 1) := by decide +kernel
theorem dX9_read_33 : decode cX9_read 33 = .ok (.getfield 233, 3) := by decide +kernel
theorem dX9_read_36 : decode cX9_read 36 = .ok (.if_icmp .ge 53, 3) := by decide +kernel
theorem dX9_read_39 : decode cX9_read 39 = .ok (.aload_n 0, 1) := by decide +kernel
theorem dX9_read_40 : decode cX9_read 40 = .ok (.iconst 3, 1) := by decide +kernel
theorem dX9_read_41 : decode cX9_read 41 = .ok (.iload_n 2, 1) := by decide +kernel
theorem dX9_read_42 : decode cX9_read 42 = .ok (.imul, 1) := by decide +kernel
theorem dX9_read_43 : decode cX9_read 43 = .ok (.invokevirtual 254, 3) := by decide +kernel
theorem dX9_read_46 : decode cX9_read 46 = .ok (.istore_n 3, 1) := by decide +kernel
theorem dX9_read_47 : decode cX9_read 47 = .ok (.iload_n 3, 1) := by decide +kernel
theorem dX9_read_48 : decode cX9_read 48 = .ok (.ifCond .ge 35, 3) := by decide +kernel
theorem dX9_read_51 : decode cX9_read 51 = .ok (.aload_n 0, 1) := by decide +kernel
theorem dX9_read_52 : decode cX9_read 52 = .ok (.iload_n 3, 1) := by decide +kernel
theorem dX9_read_53 : decode cX9_read 53 = .ok (.bipush (-3), 2) := by decide +kernel
theorem dX9_read_55 : decode cX9_read 55 = .ok (.if_icmp .ne 7, 3) := by decide +kernel
theorem dX9_read_58 : decode cX9_read 58 = .ok (.iconst 1, 1) := by decide +kernel
theorem dX9_read_59 : decode cX9_read 59 = .ok (.goto 4, 3) := by decide +kernel
theorem dX9_read_62 : decode cX9_read 62 = .ok (.iconst 0, 1) := by decide +kernel
theorem dX9_read_63 : decode cX9_read 63 = .ok (.iload_n 2, 1) := by decide +kernel
theorem dX9_read_64 : decode cX9_read 64 = .ok (.invokevirtual 257, 3) := by decide +kernel
theorem dX9_read_67 : decode cX9_read 67 = .ok (.aload_n 0, 1) := by decide +kernel
theorem dX9_read_68 : decode cX9_read 68 = .ok (.getfield 13, 3) := by decide +kernel
theorem dX9_read_71 : decode cX9_read 71 = .ok (.iconst 0, 1) := by decide +kernel
theorem dX9_read_72 : decode cX9_read 72 = .ok (.aload_n 0, 1) := by decide +kernel
theorem dX9_read_73 : decode cX9_read 73 = .ok (.getfield 9, 3) := by decide +kernel
theorem dX9_read_76 : decode cX9_read 76 = .ok (.iconst 0, 1) := by decide +kernel
theorem dX9_read_77 : decode cX9_read 77 = .ok (.invokestatic 38, 3) := by decide +kernel
theorem dX9_read_80 : decode cX9_read 80 = .ok (.bipush (-3), 2) := by decide +kernel
theorem dX9_read_82 : decode cX9_read 82 = .ok (.ireturn, 1) := by decide +kernel
theorem dX9_read_83 : decode cX9_read 83 = .ok (.iinc 2 1, 3) := by decide +kernel
theorem dX9_read_86 : decode cX9_read 86 = .ok (.goto (-55), 3) := by decide +kernel
theorem dX9_read_89 : decode cX9_read 89 = .ok (.aload_n 0, 1) := by decide +kernel
theorem dX9_read_90 : decode cX9_read 90 = .ok (.aload_n 0, 1) := by decide +kernel
theorem dX9_read_91 : decode cX9_read 91 = .ok (.getfield 233, 3) := by decide +kernel
theorem dX9_read_94 : decode cX9_read 94 = .ok (.invokevirtual 102, 3) := by decide +kernel
theorem dX9_read_97 : decode cX9_read 97 = .ok (.ireturn, 1) := by decide +kernel
theorem dX9_fault_0 : decode cX9_fault 0 = .ok (.aload_n 0, 1) := by decide +kernel
theorem dX9_fault_1 : decode cX9_fault 1 = .ok (.getfield 25, 3) := by decide +kernel
theorem dX9_fault_4 : decode cX9_fault 4 = .ok (.ireturn, 1) := by decide +kernel
theorem dX9_reason_0 : decode cX9_reason 0 = .ok (.iload_n 1, 1) := by decide +kernel
theorem dX9_reason_1 : decode cX9_reason 1 = .ok (.iconst 0, 1) := by decide +kernel
theorem dX9_reason_2 : decode cX9_reason 2 = .ok (.iconst 1, 1) := by decide +kernel
theorem dX9_reason_3 : decode cX9_reason 3 = .ok (.invokestatic 61, 3) := by decide +kernel
theorem dX9_reason_6 : decode cX9_reason 6 = .ok (.ifCond .ne 6, 3) := by decide +kernel
theorem dX9_reason_9 : decode cX9_reason 9 = .ok (.bipush (-2), 2) := by decide +kernel
theorem dX9_reason_11 : decode cX9_reason 11 = .ok (.ireturn, 1) := by decide +kernel
theorem dX9_reason_12 : decode cX9_reason 12 = .ok (.iload_n 1, 1) := by decide +kernel
theorem dX9_reason_13 : decode cX9_reason 13 = .ok (.ifCond .ne 13, 3) := by decide +kernel
theorem dX9_reason_16 : decode cX9_reason 16 = .ok (.aload_n 0, 1) := by decide +kernel
theorem dX9_reason_17 : decode cX9_reason 17 = .ok (.getfield 48, 3) := by decide +kernel
theorem dX9_reason_20 : decode cX9_reason 20 = .ok (.ifCond .ne 16, 3) := by decide +kernel
theorem dX9_reason_23 : decode cX9_reason 23 = .ok (.goto 10, 3) := by decide +kernel
theorem dX9_reason_26 : decode cX9_reason 26 = .ok (.aload_n 0, 1) := by decide +kernel
theorem dX9_reason_27 : decode cX9_reason 27 = .ok (.getfield 54, 3) := by decide +kernel
theorem dX9_reason_30 : decode cX9_reason 30 = .ok (.ifCond .ne 6, 3) := by decide +kernel
theorem dX9_reason_33 : decode cX9_reason 33 = .ok (.bipush (-4), 2) := by decide +kernel
theorem dX9_reason_35 : decode cX9_reason 35 = .ok (.ireturn, 1) := by decide +kernel
theorem dX9_reason_36 : decode cX9_reason 36 = .ok (.iload_n 1, 1) := by decide +kernel
theorem dX9_reason_37 : decode cX9_reason 37 = .ok (.ifCond .ne 21, 3) := by decide +kernel
theorem dX9_reason_40 : decode cX9_reason 40 = .ok (.iload_n 2, 1) := by decide +kernel
theorem dX9_reason_41 : decode cX9_reason 41 = .ok (.ifCond .eq 10, 3) := by decide +kernel
theorem dX9_reason_44 : decode cX9_reason 44 = .ok (.aload_n 0, 1) := by decide +kernel
theorem dX9_reason_45 : decode cX9_reason 45 = .ok (.getfield 51, 3) := by decide +kernel
theorem dX9_reason_48 : decode cX9_reason 48 = .ok (.goto 25, 3) := by decide +kernel
theorem dX9_reason_51 : decode cX9_reason 51 = .ok (.aload_n 0, 1) := by decide +kernel
theorem dX9_reason_52 : decode cX9_reason 52 = .ok (.getfield 48, 3) := by decide +kernel
theorem dX9_reason_55 : decode cX9_reason 55 = .ok (.goto 18, 3) := by decide +kernel
theorem dX9_reason_58 : decode cX9_reason 58 = .ok (.iload_n 2, 1) := by decide +kernel
theorem dX9_reason_59 : decode cX9_reason 59 = .ok (.ifCond .eq 10, 3) := by decide +kernel
theorem dX9_reason_62 : decode cX9_reason 62 = .ok (.aload_n 0, 1) := by decide +kernel
theorem dX9_reason_63 : decode cX9_reason 63 = .ok (.getfield 248, 3) := by decide +kernel
theorem dX9_reason_66 : decode cX9_reason 66 = .ok (.goto 7, 3) := by decide +kernel
theorem dX9_reason_69 : decode cX9_reason 69 = .ok (.aload_n 0, 1) := by decide +kernel
theorem dX9_reason_70 : decode cX9_reason 70 = .ok (.getfield 54, 3) := by decide +kernel
theorem dX9_reason_73 : decode cX9_reason 73 = .ok (.ireturn, 1) := by decide +kernel
theorem dX9_reachedBy_0 : decode cX9_reachedBy 0 = .ok (.iconst 0, 1) := by decide +kernel
theorem dX9_reachedBy_1 : decode cX9_reachedBy 1 = .ok (.istore_n 2, 1) := by decide +kernel
theorem dX9_reachedBy_2 : decode cX9_reachedBy 2 = .ok (.iconst 0, 1) := by decide +kernel
theorem dX9_reachedBy_3 : decode cX9_reachedBy 3 = .ok (.istore_n 3, 1) := by decide +kernel
theorem dX9_reachedBy_4 : decode cX9_reachedBy 4 = .ok (.iload_n 3, 1) := by decide +kernel
theorem dX9_reachedBy_5 : decode cX9_reachedBy 5 = .ok (.aload_n 0, 1) := by decide +kernel
theorem dX9_reachedBy_6 : decode cX9_reachedBy 6 = .ok (.getfield 9, 3) := by decide +kernel
theorem dX9_reachedBy_9 : decode cX9_reachedBy 9 = .ok (.iconst 1, 1) := by decide +kernel
theorem dX9_reachedBy_10 : decode cX9_reachedBy 10 = .ok (.iaload, 1) := by decide +kernel
theorem dX9_reachedBy_11 : decode cX9_reachedBy 11 = .ok (.if_icmp .ge 26, 3) := by decide +kernel
theorem dX9_reachedBy_14 : decode cX9_reachedBy 14 = .ok (.iload_n 2, 1) := by decide +kernel
theorem dX9_reachedBy_15 : decode cX9_reachedBy 15 = .ok (.aload_n 0, 1) := by decide +kernel
theorem dX9_reachedBy_16 : decode cX9_reachedBy 16 = .ok (.iload_n 1, 1) := by decide +kernel
theorem dX9_reachedBy_17 : decode cX9_reachedBy 17 = .ok (.iload_n 3, 1) := by decide +kernel
theorem dX9_reachedBy_18 : decode cX9_reachedBy 18 = .ok (.invokevirtual 108, 3) := by decide +kernel
theorem dX9_reachedBy_21 : decode cX9_reachedBy 21 = .ok (.ifCond .eq 7, 3) := by decide +kernel
theorem dX9_reachedBy_24 : decode cX9_reachedBy 24 = .ok (.iconst 1, 1) := by decide +kernel
theorem dX9_reachedBy_25 : decode cX9_reachedBy 25 = .ok (.goto 4, 3) := by decide +kernel
theorem dX9_reachedBy_28 : decode cX9_reachedBy 28 = .ok (.iconst 0, 1) := by decide +kernel
theorem dX9_reachedBy_29 : decode cX9_reachedBy 29 = .ok (.iadd, 1) := by decide +kernel
theorem dX9_reachedBy_30 : decode cX9_reachedBy 30 = .ok (.istore_n 2, 1) := by decide +kernel
theorem dX9_reachedBy_31 : decode cX9_reachedBy 31 = .ok (.iinc 3 1, 3) := by decide +kernel
theorem dX9_reachedBy_34 : decode cX9_reachedBy 34 = .ok (.goto (-30), 3) := by decide +kernel
theorem dX9_reachedBy_37 : decode cX9_reachedBy 37 = .ok (.iload_n 2, 1) := by decide +kernel
theorem dX9_reachedBy_38 : decode cX9_reachedBy 38 = .ok (.ireturn, 1) := by decide +kernel
theorem dX9_driverOf_0 : decode cX9_driverOf 0 = .ok (.aload_n 0, 1) := by decide +kernel
theorem dX9_driverOf_1 : decode cX9_driverOf 1 = .ok (.iload_n 1, 1) := by decide +kernel
theorem dX9_driverOf_2 : decode cX9_driverOf 2 = .ok (.invokevirtual 65, 3) := by decide +kernel
theorem dX9_driverOf_5 : decode cX9_driverOf 5 = .ok (.ifCond .ne 5, 3) := by decide +kernel
theorem dX9_driverOf_8 : decode cX9_driverOf 8 = .ok (.iconst (-1), 1) := by decide +kernel
theorem dX9_driverOf_9 : decode cX9_driverOf 9 = .ok (.ireturn, 1) := by decide +kernel
theorem dX9_driverOf_10 : decode cX9_driverOf 10 = .ok (.iload_n 2, 1) := by decide +kernel
theorem dX9_driverOf_11 : decode cX9_driverOf 11 = .ok (.tableswitch 44 8 10 #[25, 31, 31], 25) := by decide +kernel
theorem dX9_driverOf_36 : decode cX9_driverOf 36 = .ok (.aload_n 0, 1) := by decide +kernel
theorem dX9_driverOf_37 : decode cX9_driverOf 37 = .ok (.iload_n 1, 1) := by decide +kernel
theorem dX9_driverOf_38 : decode cX9_driverOf 38 = .ok (.invokevirtual 261, 3) := by decide +kernel
theorem dX9_driverOf_41 : decode cX9_driverOf 41 = .ok (.ireturn, 1) := by decide +kernel
theorem dX9_driverOf_42 : decode cX9_driverOf 42 = .ok (.aload_n 0, 1) := by decide +kernel
theorem dX9_driverOf_43 : decode cX9_driverOf 43 = .ok (.iload_n 1, 1) := by decide +kernel
theorem dX9_driverOf_44 : decode cX9_driverOf 44 = .ok (.iload_n 2, 1) := by decide +kernel
theorem dX9_driverOf_45 : decode cX9_driverOf 45 = .ok (.bipush 9, 2) := by decide +kernel
theorem dX9_driverOf_47 : decode cX9_driverOf 47 = .ok (.isub, 1) := by decide +kernel
theorem dX9_driverOf_48 : decode cX9_driverOf 48 = .ok (.bipush 8, 2) := by decide +kernel
theorem dX9_driverOf_50 : decode cX9_driverOf 50 = .ok (.iadd, 1) := by decide +kernel
theorem dX9_driverOf_51 : decode cX9_driverOf 51 = .ok (.invokevirtual 69, 3) := by decide +kernel
theorem dX9_driverOf_54 : decode cX9_driverOf 54 = .ok (.ireturn, 1) := by decide +kernel
theorem dX9_driverOf_55 : decode cX9_driverOf 55 = .ok (.iload_n 2, 1) := by decide +kernel
theorem dX9_driverOf_56 : decode cX9_driverOf 56 = .ok (.iconst 0, 1) := by decide +kernel
theorem dX9_driverOf_57 : decode cX9_driverOf 57 = .ok (.bipush 7, 2) := by decide +kernel
theorem dX9_driverOf_59 : decode cX9_driverOf 59 = .ok (.invokestatic 61, 3) := by decide +kernel
theorem dX9_driverOf_62 : decode cX9_driverOf 62 = .ok (.ifCond .eq 12, 3) := by decide +kernel
theorem dX9_driverOf_65 : decode cX9_driverOf 65 = .ok (.aload_n 0, 1) := by decide +kernel
theorem dX9_driverOf_66 : decode cX9_driverOf 66 = .ok (.iload_n 1, 1) := by decide +kernel
theorem dX9_driverOf_67 : decode cX9_driverOf 67 = .ok (.iload_n 2, 1) := by decide +kernel
theorem dX9_driverOf_68 : decode cX9_driverOf 68 = .ok (.invokevirtual 69, 3) := by decide +kernel
theorem dX9_driverOf_71 : decode cX9_driverOf 71 = .ok (.goto 5, 3) := by decide +kernel
theorem dX9_driverOf_74 : decode cX9_driverOf 74 = .ok (.bipush (-2), 2) := by decide +kernel
theorem dX9_driverOf_76 : decode cX9_driverOf 76 = .ok (.ireturn, 1) := by decide +kernel
theorem dX9_isLine_0 : decode cX9_isLine 0 = .ok (.aload_n 0, 1) := by decide +kernel
theorem dX9_isLine_1 : decode cX9_isLine 1 = .ok (.iload_n 1, 1) := by decide +kernel
theorem dX9_isLine_2 : decode cX9_isLine 2 = .ok (.invokevirtual 65, 3) := by decide +kernel
theorem dX9_isLine_5 : decode cX9_isLine 5 = .ok (.ifCond .eq 21, 3) := by decide +kernel
theorem dX9_isLine_8 : decode cX9_isLine 8 = .ok (.iload_n 2, 1) := by decide +kernel
theorem dX9_isLine_9 : decode cX9_isLine 9 = .ok (.iconst 1, 1) := by decide +kernel
theorem dX9_isLine_10 : decode cX9_isLine 10 = .ok (.aload_n 0, 1) := by decide +kernel
theorem dX9_isLine_11 : decode cX9_isLine 11 = .ok (.iload_n 1, 1) := by decide +kernel
theorem dX9_isLine_12 : decode cX9_isLine 12 = .ok (.iconst 5, 1) := by decide +kernel
theorem dX9_isLine_13 : decode cX9_isLine 13 = .ok (.invokevirtual 69, 3) := by decide +kernel
theorem dX9_isLine_16 : decode cX9_isLine 16 = .ok (.invokestatic 61, 3) := by decide +kernel
theorem dX9_isLine_19 : decode cX9_isLine 19 = .ok (.ifCond .eq 7, 3) := by decide +kernel
theorem dX9_isLine_22 : decode cX9_isLine 22 = .ok (.iconst 1, 1) := by decide +kernel
theorem dX9_isLine_23 : decode cX9_isLine 23 = .ok (.goto 4, 3) := by decide +kernel
theorem dX9_isLine_26 : decode cX9_isLine 26 = .ok (.iconst 0, 1) := by decide +kernel
theorem dX9_isLine_27 : decode cX9_isLine 27 = .ok (.ireturn, 1) := by decide +kernel
theorem dX9_lineOf_0 : decode cX9_lineOf 0 = .ok (.aload_n 0, 1) := by decide +kernel
theorem dX9_lineOf_1 : decode cX9_lineOf 1 = .ok (.iload_n 1, 1) := by decide +kernel
theorem dX9_lineOf_2 : decode cX9_lineOf 2 = .ok (.iload_n 2, 1) := by decide +kernel
theorem dX9_lineOf_3 : decode cX9_lineOf 3 = .ok (.invokevirtual 264, 3) := by decide +kernel
theorem dX9_lineOf_6 : decode cX9_lineOf 6 = .ok (.ifCond .ne 5, 3) := by decide +kernel
theorem dX9_lineOf_9 : decode cX9_lineOf 9 = .ok (.iconst (-1), 1) := by decide +kernel
theorem dX9_lineOf_10 : decode cX9_lineOf 10 = .ok (.ireturn, 1) := by decide +kernel
theorem dX9_lineOf_11 : decode cX9_lineOf 11 = .ok (.aload_n 0, 1) := by decide +kernel
theorem dX9_lineOf_12 : decode cX9_lineOf 12 = .ok (.iload_n 1, 1) := by decide +kernel
theorem dX9_lineOf_13 : decode cX9_lineOf 13 = .ok (.iload_n 3, 1) := by decide +kernel
theorem dX9_lineOf_14 : decode cX9_lineOf 14 = .ok (.ifCond .eq 8, 3) := by decide +kernel
theorem dX9_lineOf_17 : decode cX9_lineOf 17 = .ok (.bipush 22, 2) := by decide +kernel
theorem dX9_lineOf_19 : decode cX9_lineOf 19 = .ok (.goto 5, 3) := by decide +kernel
theorem dX9_lineOf_22 : decode cX9_lineOf 22 = .ok (.bipush 10, 2) := by decide +kernel
theorem dX9_lineOf_24 : decode cX9_lineOf 24 = .ok (.iload_n 2, 1) := by decide +kernel
theorem dX9_lineOf_25 : decode cX9_lineOf 25 = .ok (.iadd, 1) := by decide +kernel
theorem dX9_lineOf_26 : decode cX9_lineOf 26 = .ok (.iconst 1, 1) := by decide +kernel
theorem dX9_lineOf_27 : decode cX9_lineOf 27 = .ok (.isub, 1) := by decide +kernel
theorem dX9_lineOf_28 : decode cX9_lineOf 28 = .ok (.invokevirtual 69, 3) := by decide +kernel
theorem dX9_lineOf_31 : decode cX9_lineOf 31 = .ok (.ireturn, 1) := by decide +kernel
theorem dX9_leader_0 : decode cX9_leader 0 = .ok (.bipush (-4), 2) := by decide +kernel
theorem dX9_leader_2 : decode cX9_leader 2 = .ok (.istore_n 1, 1) := by decide +kernel
theorem dX9_leader_3 : decode cX9_leader 3 = .ok (.iconst 0, 1) := by decide +kernel
theorem dX9_leader_4 : decode cX9_leader 4 = .ok (.istore_n 2, 1) := by decide +kernel
theorem dX9_leader_5 : decode cX9_leader 5 = .ok (.iload_n 2, 1) := by decide +kernel
theorem dX9_leader_6 : decode cX9_leader 6 = .ok (.aload_n 0, 1) := by decide +kernel
theorem dX9_leader_7 : decode cX9_leader 7 = .ok (.getfield 9, 3) := by decide +kernel
theorem dX9_leader_10 : decode cX9_leader 10 = .ok (.iconst 1, 1) := by decide +kernel
theorem dX9_leader_11 : decode cX9_leader 11 = .ok (.iaload, 1) := by decide +kernel
theorem dX9_leader_12 : decode cX9_leader 12 = .ok (.if_icmp .ge 64, 3) := by decide +kernel
theorem dX9_leader_15 : decode cX9_leader 15 = .ok (.aload_n 0, 1) := by decide +kernel
theorem dX9_leader_16 : decode cX9_leader 16 = .ok (.iload_n 2, 1) := by decide +kernel
theorem dX9_leader_17 : decode cX9_leader 17 = .ok (.iconst 0, 1) := by decide +kernel
theorem dX9_leader_18 : decode cX9_leader 18 = .ok (.invokevirtual 69, 3) := by decide +kernel
theorem dX9_leader_21 : decode cX9_leader 21 = .ok (.iconst 2, 1) := by decide +kernel
theorem dX9_leader_22 : decode cX9_leader 22 = .ok (.if_icmp .ne 15, 3) := by decide +kernel
theorem dX9_leader_25 : decode cX9_leader 25 = .ok (.aload_n 0, 1) := by decide +kernel
theorem dX9_leader_26 : decode cX9_leader 26 = .ok (.iload_n 2, 1) := by decide +kernel
theorem dX9_leader_27 : decode cX9_leader 27 = .ok (.invokevirtual 78, 3) := by decide +kernel
theorem dX9_leader_30 : decode cX9_leader 30 = .ok (.ifCond .eq 7, 3) := by decide +kernel
theorem dX9_leader_33 : decode cX9_leader 33 = .ok (.iconst 1, 1) := by decide +kernel
theorem dX9_leader_34 : decode cX9_leader 34 = .ok (.goto 4, 3) := by decide +kernel
theorem dX9_leader_37 : decode cX9_leader 37 = .ok (.iconst 0, 1) := by decide +kernel
theorem dX9_leader_38 : decode cX9_leader 38 = .ok (.istore_n 3, 1) := by decide +kernel
theorem dX9_leader_39 : decode cX9_leader 39 = .ok (.iload_n 3, 1) := by decide +kernel
theorem dX9_leader_40 : decode cX9_leader 40 = .ok (.ifCond .eq 28, 3) := by decide +kernel
theorem dX9_leader_43 : decode cX9_leader 43 = .ok (.iload_n 1, 1) := by decide +kernel
theorem dX9_leader_44 : decode cX9_leader 44 = .ok (.bipush (-4), 2) := by decide +kernel
theorem dX9_leader_46 : decode cX9_leader 46 = .ok (.if_icmp .eq 18, 3) := by decide +kernel
theorem dX9_leader_49 : decode cX9_leader 49 = .ok (.aload_n 0, 1) := by decide +kernel
theorem dX9_leader_50 : decode cX9_leader 50 = .ok (.iload_n 2, 1) := by decide +kernel
theorem dX9_leader_51 : decode cX9_leader 51 = .ok (.iconst 1, 1) := by decide +kernel
theorem dX9_leader_52 : decode cX9_leader 52 = .ok (.invokevirtual 69, 3) := by decide +kernel
theorem dX9_leader_55 : decode cX9_leader 55 = .ok (.aload_n 0, 1) := by decide +kernel
theorem dX9_leader_56 : decode cX9_leader 56 = .ok (.iload_n 1, 1) := by decide +kernel
theorem dX9_leader_57 : decode cX9_leader 57 = .ok (.iconst 1, 1) := by decide +kernel
theorem dX9_leader_58 : decode cX9_leader 58 = .ok (.invokevirtual 69, 3) := by decide +kernel
theorem dX9_leader_61 : decode cX9_leader 61 = .ok (.if_icmp .le 7, 3) := by decide +kernel
theorem dX9_leader_64 : decode cX9_leader 64 = .ok (.iload_n 2, 1) := by decide +kernel
theorem dX9_leader_65 : decode cX9_leader 65 = .ok (.goto 4, 3) := by decide +kernel
theorem dX9_leader_68 : decode cX9_leader 68 = .ok (.iload_n 1, 1) := by decide +kernel
theorem dX9_leader_69 : decode cX9_leader 69 = .ok (.istore_n 1, 1) := by decide +kernel
theorem dX9_leader_70 : decode cX9_leader 70 = .ok (.iinc 2 1, 3) := by decide +kernel
theorem dX9_leader_73 : decode cX9_leader 73 = .ok (.goto (-68), 3) := by decide +kernel
theorem dX9_leader_76 : decode cX9_leader 76 = .ok (.iload_n 1, 1) := by decide +kernel
theorem dX9_leader_77 : decode cX9_leader 77 = .ok (.ireturn, 1) := by decide +kernel
theorem dX9_reaches_0 : decode cX9_reaches 0 = .ok (.aload_n 0, 1) := by decide +kernel
theorem dX9_reaches_1 : decode cX9_reaches 1 = .ok (.iload_n 1, 1) := by decide +kernel
theorem dX9_reaches_2 : decode cX9_reaches 2 = .ok (.iload_n 2, 1) := by decide +kernel
theorem dX9_reaches_3 : decode cX9_reaches 3 = .ok (.invokevirtual 162, 3) := by decide +kernel
theorem dX9_reaches_6 : decode cX9_reaches 6 = .ok (.ifCond .eq 16, 3) := by decide +kernel
theorem dX9_reaches_9 : decode cX9_reaches 9 = .ok (.aload_n 0, 1) := by decide +kernel
theorem dX9_reaches_10 : decode cX9_reaches 10 = .ok (.iload_n 1, 1) := by decide +kernel
theorem dX9_reaches_11 : decode cX9_reaches 11 = .ok (.iload_n 2, 1) := by decide +kernel
theorem dX9_reaches_12 : decode cX9_reaches 12 = .ok (.invokevirtual 108, 3) := by decide +kernel
theorem dX9_reaches_15 : decode cX9_reaches 15 = .ok (.ifCond .eq 7, 3) := by decide +kernel
theorem dX9_reaches_18 : decode cX9_reaches 18 = .ok (.iconst 1, 1) := by decide +kernel
theorem dX9_reaches_19 : decode cX9_reaches 19 = .ok (.goto 4, 3) := by decide +kernel
theorem dX9_reaches_22 : decode cX9_reaches 22 = .ok (.iconst 0, 1) := by decide +kernel
theorem dX9_reaches_23 : decode cX9_reaches 23 = .ok (.ireturn, 1) := by decide +kernel
theorem dX9_longer_0 : decode cX9_longer 0 = .ok (.aload_n 0, 1) := by decide +kernel
theorem dX9_longer_1 : decode cX9_longer 1 = .ok (.iload_n 1, 1) := by decide +kernel
theorem dX9_longer_2 : decode cX9_longer 2 = .ok (.iload_n 2, 1) := by decide +kernel
theorem dX9_longer_3 : decode cX9_longer 3 = .ok (.invokevirtual 162, 3) := by decide +kernel
theorem dX9_longer_6 : decode cX9_longer 6 = .ok (.ifCond .eq 12, 3) := by decide +kernel
theorem dX9_longer_9 : decode cX9_longer 9 = .ok (.aload_n 0, 1) := by decide +kernel
theorem dX9_longer_10 : decode cX9_longer 10 = .ok (.iload_n 1, 1) := by decide +kernel
theorem dX9_longer_11 : decode cX9_longer 11 = .ok (.iload_n 2, 1) := by decide +kernel
theorem dX9_longer_12 : decode cX9_longer 12 = .ok (.invokevirtual 105, 3) := by decide +kernel
theorem dX9_longer_15 : decode cX9_longer 15 = .ok (.goto 5, 3) := by decide +kernel
theorem dX9_longer_18 : decode cX9_longer 18 = .ok (.bipush (-4), 2) := by decide +kernel
theorem dX9_longer_20 : decode cX9_longer 20 = .ok (.ireturn, 1) := by decide +kernel
theorem dX9_wouldGive_0 : decode cX9_wouldGive 0 = .ok (.iload_n 1, 1) := by decide +kernel
theorem dX9_wouldGive_1 : decode cX9_wouldGive 1 = .ok (.iload_n 2, 1) := by decide +kernel
theorem dX9_wouldGive_2 : decode cX9_wouldGive 2 = .ok (.if_icmp .ne 5, 3) := by decide +kernel
theorem dX9_wouldGive_5 : decode cX9_wouldGive 5 = .ok (.iconst 1, 1) := by decide +kernel
theorem dX9_wouldGive_6 : decode cX9_wouldGive 6 = .ok (.ireturn, 1) := by decide +kernel
theorem dX9_wouldGive_7 : decode cX9_wouldGive 7 = .ok (.aload_n 0, 1) := by decide +kernel
theorem dX9_wouldGive_8 : decode cX9_wouldGive 8 = .ok (.iload_n 2, 1) := by decide +kernel
theorem dX9_wouldGive_9 : decode cX9_wouldGive 9 = .ok (.iconst 1, 1) := by decide +kernel
theorem dX9_wouldGive_10 : decode cX9_wouldGive 10 = .ok (.invokevirtual 69, 3) := by decide +kernel
theorem dX9_wouldGive_13 : decode cX9_wouldGive 13 = .ok (.iconst 1, 1) := by decide +kernel
theorem dX9_wouldGive_14 : decode cX9_wouldGive 14 = .ok (.iadd, 1) := by decide +kernel
theorem dX9_wouldGive_15 : decode cX9_wouldGive 15 = .ok (.istore_n 3, 1) := by decide +kernel
theorem dX9_wouldGive_16 : decode cX9_wouldGive 16 = .ok (.aload_n 0, 1) := by decide +kernel
theorem dX9_wouldGive_17 : decode cX9_wouldGive 17 = .ok (.iload_n 1, 1) := by decide +kernel
theorem dX9_wouldGive_18 : decode cX9_wouldGive 18 = .ok (.iconst 1, 1) := by decide +kernel
theorem dX9_wouldGive_19 : decode cX9_wouldGive 19 = .ok (.invokevirtual 69, 3) := by decide +kernel
theorem dX9_wouldGive_22 : decode cX9_wouldGive 22 = .ok (.iload_n 3, 1) := by decide +kernel
theorem dX9_wouldGive_23 : decode cX9_wouldGive 23 = .ok (.if_icmp .lt 23, 3) := by decide +kernel
theorem dX9_wouldGive_26 : decode cX9_wouldGive 26 = .ok (.aload_n 0, 1) := by decide +kernel
theorem dX9_wouldGive_27 : decode cX9_wouldGive 27 = .ok (.iload_n 1, 1) := by decide +kernel
theorem dX9_wouldGive_28 : decode cX9_wouldGive 28 = .ok (.iconst 1, 1) := by decide +kernel
theorem dX9_wouldGive_29 : decode cX9_wouldGive 29 = .ok (.invokevirtual 69, 3) := by decide +kernel
theorem dX9_wouldGive_32 : decode cX9_wouldGive 32 = .ok (.iload_n 3, 1) := by decide +kernel
theorem dX9_wouldGive_33 : decode cX9_wouldGive 33 = .ok (.if_icmp .ne 17, 3) := by decide +kernel
theorem dX9_wouldGive_36 : decode cX9_wouldGive 36 = .ok (.aload_n 0, 1) := by decide +kernel
theorem dX9_wouldGive_37 : decode cX9_wouldGive 37 = .ok (.iload_n 1, 1) := by decide +kernel
theorem dX9_wouldGive_38 : decode cX9_wouldGive 38 = .ok (.iconst 4, 1) := by decide +kernel
theorem dX9_wouldGive_39 : decode cX9_wouldGive 39 = .ok (.invokevirtual 69, 3) := by decide +kernel
theorem dX9_wouldGive_42 : decode cX9_wouldGive 42 = .ok (.iconst (-1), 1) := by decide +kernel
theorem dX9_wouldGive_43 : decode cX9_wouldGive 43 = .ok (.if_icmp .ne 7, 3) := by decide +kernel
theorem dX9_wouldGive_46 : decode cX9_wouldGive 46 = .ok (.iconst 1, 1) := by decide +kernel
theorem dX9_wouldGive_47 : decode cX9_wouldGive 47 = .ok (.goto 4, 3) := by decide +kernel
theorem dX9_wouldGive_50 : decode cX9_wouldGive 50 = .ok (.iconst 0, 1) := by decide +kernel
theorem dX9_wouldGive_51 : decode cX9_wouldGive 51 = .ok (.istore 4, 2) := by decide +kernel
theorem dX9_wouldGive_53 : decode cX9_wouldGive 53 = .ok (.iload 4, 2) := by decide +kernel
theorem dX9_wouldGive_55 : decode cX9_wouldGive 55 = .ok (.ifCond .eq 16, 3) := by decide +kernel
theorem dX9_wouldGive_58 : decode cX9_wouldGive 58 = .ok (.aload_n 0, 1) := by decide +kernel
theorem dX9_wouldGive_59 : decode cX9_wouldGive 59 = .ok (.iload_n 1, 1) := by decide +kernel
theorem dX9_wouldGive_60 : decode cX9_wouldGive 60 = .ok (.iload_n 2, 1) := by decide +kernel
theorem dX9_wouldGive_61 : decode cX9_wouldGive 61 = .ok (.invokevirtual 105, 3) := by decide +kernel
theorem dX9_wouldGive_64 : decode cX9_wouldGive 64 = .ok (.ifCond .gt 7, 3) := by decide +kernel
theorem dX9_wouldGive_67 : decode cX9_wouldGive 67 = .ok (.iconst 1, 1) := by decide +kernel
theorem dX9_wouldGive_68 : decode cX9_wouldGive 68 = .ok (.goto 4, 3) := by decide +kernel
theorem dX9_wouldGive_71 : decode cX9_wouldGive 71 = .ok (.iconst 0, 1) := by decide +kernel
theorem dX9_wouldGive_72 : decode cX9_wouldGive 72 = .ok (.ireturn, 1) := by decide +kernel
theorem dX9_wouldVote_0 : decode cX9_wouldVote 0 = .ok (.aload_n 0, 1) := by decide +kernel
theorem dX9_wouldVote_1 : decode cX9_wouldVote 1 = .ok (.iload_n 1, 1) := by decide +kernel
theorem dX9_wouldVote_2 : decode cX9_wouldVote 2 = .ok (.iload_n 2, 1) := by decide +kernel
theorem dX9_wouldVote_3 : decode cX9_wouldVote 3 = .ok (.invokevirtual 162, 3) := by decide +kernel
theorem dX9_wouldVote_6 : decode cX9_wouldVote 6 = .ok (.ifCond .eq 16, 3) := by decide +kernel
theorem dX9_wouldVote_9 : decode cX9_wouldVote 9 = .ok (.aload_n 0, 1) := by decide +kernel
theorem dX9_wouldVote_10 : decode cX9_wouldVote 10 = .ok (.iload_n 1, 1) := by decide +kernel
theorem dX9_wouldVote_11 : decode cX9_wouldVote 11 = .ok (.iload_n 2, 1) := by decide +kernel
theorem dX9_wouldVote_12 : decode cX9_wouldVote 12 = .ok (.invokevirtual 267, 3) := by decide +kernel
theorem dX9_wouldVote_15 : decode cX9_wouldVote 15 = .ok (.ifCond .eq 7, 3) := by decide +kernel
theorem dX9_wouldVote_18 : decode cX9_wouldVote 18 = .ok (.iconst 1, 1) := by decide +kernel
theorem dX9_wouldVote_19 : decode cX9_wouldVote 19 = .ok (.goto 4, 3) := by decide +kernel
theorem dX9_wouldVote_22 : decode cX9_wouldVote 22 = .ok (.iconst 0, 1) := by decide +kernel
theorem dX9_wouldVote_23 : decode cX9_wouldVote 23 = .ok (.ireturn, 1) := by decide +kernel
theorem dX9_codeOfAsking_0 : decode cX9_codeOfAsking 0 = .ok (.aload_n 0, 1) := by decide +kernel
theorem dX9_codeOfAsking_1 : decode cX9_codeOfAsking 1 = .ok (.iload_n 1, 1) := by decide +kernel
theorem dX9_codeOfAsking_2 : decode cX9_codeOfAsking 2 = .ok (.invokevirtual 65, 3) := by decide +kernel
theorem dX9_codeOfAsking_5 : decode cX9_codeOfAsking 5 = .ok (.ifCond .ne 7, 3) := by decide +kernel
theorem dX9_codeOfAsking_8 : decode cX9_codeOfAsking 8 = .ok (.iconst (-1), 1) := by decide +kernel
theorem dX9_codeOfAsking_9 : decode cX9_codeOfAsking 9 = .ok (.goto 27, 3) := by decide +kernel
theorem dX9_codeOfAsking_12 : decode cX9_codeOfAsking 12 = .ok (.aload_n 0, 1) := by decide +kernel
theorem dX9_codeOfAsking_13 : decode cX9_codeOfAsking 13 = .ok (.iload_n 1, 1) := by decide +kernel
theorem dX9_codeOfAsking_14 : decode cX9_codeOfAsking 14 = .ok (.invokevirtual 78, 3) := by decide +kernel
theorem dX9_codeOfAsking_17 : decode cX9_codeOfAsking 17 = .ok (.ifCond .eq 13, 3) := by decide +kernel
theorem dX9_codeOfAsking_20 : decode cX9_codeOfAsking 20 = .ok (.aload_n 0, 1) := by decide +kernel
theorem dX9_codeOfAsking_21 : decode cX9_codeOfAsking 21 = .ok (.iload_n 1, 1) := by decide +kernel
theorem dX9_codeOfAsking_22 : decode cX9_codeOfAsking 22 = .ok (.iconst 0, 1) := by decide +kernel
theorem dX9_codeOfAsking_23 : decode cX9_codeOfAsking 23 = .ok (.invokevirtual 69, 3) := by decide +kernel
theorem dX9_codeOfAsking_26 : decode cX9_codeOfAsking 26 = .ok (.iconst 2, 1) := by decide +kernel
theorem dX9_codeOfAsking_27 : decode cX9_codeOfAsking 27 = .ok (.if_icmp .ne 8, 3) := by decide +kernel
theorem dX9_codeOfAsking_30 : decode cX9_codeOfAsking 30 = .ok (.bipush (-4), 2) := by decide +kernel
theorem dX9_codeOfAsking_32 : decode cX9_codeOfAsking 32 = .ok (.goto 4, 3) := by decide +kernel
theorem dX9_codeOfAsking_35 : decode cX9_codeOfAsking 35 = .ok (.iconst 0, 1) := by decide +kernel
theorem dX9_codeOfAsking_36 : decode cX9_codeOfAsking 36 = .ok (.ireturn, 1) := by decide +kernel
theorem dX9_couldLead_0 : decode cX9_couldLead 0 = .ok (.aload_n 0, 1) := by decide +kernel
theorem dX9_couldLead_1 : decode cX9_couldLead 1 = .ok (.iload_n 1, 1) := by decide +kernel
theorem dX9_couldLead_2 : decode cX9_couldLead 2 = .ok (.invokevirtual 270, 3) := by decide +kernel
theorem dX9_couldLead_5 : decode cX9_couldLead 5 = .ok (.istore_n 2, 1) := by decide +kernel
theorem dX9_couldLead_6 : decode cX9_couldLead 6 = .ok (.iload_n 2, 1) := by decide +kernel
theorem dX9_couldLead_7 : decode cX9_couldLead 7 = .ok (.ifCond .eq 5, 3) := by decide +kernel
theorem dX9_couldLead_10 : decode cX9_couldLead 10 = .ok (.iload_n 2, 1) := by decide +kernel
theorem dX9_couldLead_11 : decode cX9_couldLead 11 = .ok (.ireturn, 1) := by decide +kernel
theorem dX9_couldLead_12 : decode cX9_couldLead 12 = .ok (.iconst 1, 1) := by decide +kernel
theorem dX9_couldLead_13 : decode cX9_couldLead 13 = .ok (.istore_n 3, 1) := by decide +kernel
theorem dX9_couldLead_14 : decode cX9_couldLead 14 = .ok (.iconst 0, 1) := by decide +kernel
theorem dX9_couldLead_15 : decode cX9_couldLead 15 = .ok (.istore 4, 2) := by decide +kernel
theorem dX9_couldLead_17 : decode cX9_couldLead 17 = .ok (.iload 4, 2) := by decide +kernel
theorem dX9_couldLead_19 : decode cX9_couldLead 19 = .ok (.aload_n 0, 1) := by decide +kernel
theorem dX9_couldLead_20 : decode cX9_couldLead 20 = .ok (.getfield 9, 3) := by decide +kernel
theorem dX9_couldLead_23 : decode cX9_couldLead 23 = .ok (.iconst 1, 1) := by decide +kernel
theorem dX9_couldLead_24 : decode cX9_couldLead 24 = .ok (.iaload, 1) := by decide +kernel
theorem dX9_couldLead_25 : decode cX9_couldLead 25 = .ok (.if_icmp .ge 57, 3) := by decide +kernel
theorem dX9_couldLead_28 : decode cX9_couldLead 28 = .ok (.aload_n 0, 1) := by decide +kernel
theorem dX9_couldLead_29 : decode cX9_couldLead 29 = .ok (.iload_n 1, 1) := by decide +kernel
theorem dX9_couldLead_30 : decode cX9_couldLead 30 = .ok (.iload 4, 2) := by decide +kernel
theorem dX9_couldLead_32 : decode cX9_couldLead 32 = .ok (.invokevirtual 108, 3) := by decide +kernel
theorem dX9_couldLead_35 : decode cX9_couldLead 35 = .ok (.ifCond .eq 41, 3) := by decide +kernel
theorem dX9_couldLead_38 : decode cX9_couldLead 38 = .ok (.aload_n 0, 1) := by decide +kernel
theorem dX9_couldLead_39 : decode cX9_couldLead 39 = .ok (.iload 4, 2) := by decide +kernel
theorem dX9_couldLead_41 : decode cX9_couldLead 41 = .ok (.iconst 1, 1) := by decide +kernel
theorem dX9_couldLead_42 : decode cX9_couldLead 42 = .ok (.invokevirtual 69, 3) := by decide +kernel
theorem dX9_couldLead_45 : decode cX9_couldLead 45 = .ok (.aload_n 0, 1) := by decide +kernel
theorem dX9_couldLead_46 : decode cX9_couldLead 46 = .ok (.iload_n 1, 1) := by decide +kernel
theorem dX9_couldLead_47 : decode cX9_couldLead 47 = .ok (.iconst 1, 1) := by decide +kernel
theorem dX9_couldLead_48 : decode cX9_couldLead 48 = .ok (.invokevirtual 69, 3) := by decide +kernel
theorem dX9_couldLead_51 : decode cX9_couldLead 51 = .ok (.iconst 1, 1) := by decide +kernel
theorem dX9_couldLead_52 : decode cX9_couldLead 52 = .ok (.iadd, 1) := by decide +kernel
theorem dX9_couldLead_53 : decode cX9_couldLead 53 = .ok (.if_icmp .le 5, 3) := by decide +kernel
theorem dX9_couldLead_56 : decode cX9_couldLead 56 = .ok (.iconst 0, 1) := by decide +kernel
theorem dX9_couldLead_57 : decode cX9_couldLead 57 = .ok (.ireturn, 1) := by decide +kernel
theorem dX9_couldLead_58 : decode cX9_couldLead 58 = .ok (.iload_n 3, 1) := by decide +kernel
theorem dX9_couldLead_59 : decode cX9_couldLead 59 = .ok (.aload_n 0, 1) := by decide +kernel
theorem dX9_couldLead_60 : decode cX9_couldLead 60 = .ok (.iload 4, 2) := by decide +kernel
theorem dX9_couldLead_62 : decode cX9_couldLead 62 = .ok (.iload_n 1, 1) := by decide +kernel
theorem dX9_couldLead_63 : decode cX9_couldLead 63 = .ok (.invokevirtual 267, 3) := by decide +kernel
theorem dX9_couldLead_66 : decode cX9_couldLead 66 = .ok (.ifCond .eq 7, 3) := by decide +kernel
theorem dX9_couldLead_69 : decode cX9_couldLead 69 = .ok (.iconst 1, 1) := by decide +kernel
theorem dX9_couldLead_70 : decode cX9_couldLead 70 = .ok (.goto 4, 3) := by decide +kernel
theorem dX9_couldLead_73 : decode cX9_couldLead 73 = .ok (.iconst 0, 1) := by decide +kernel
theorem dX9_couldLead_74 : decode cX9_couldLead 74 = .ok (.iadd, 1) := by decide +kernel
theorem dX9_couldLead_75 : decode cX9_couldLead 75 = .ok (.istore_n 3, 1) := by decide +kernel
theorem dX9_couldLead_76 : decode cX9_couldLead 76 = .ok (.iinc 4 1, 3) := by decide +kernel
theorem dX9_couldLead_79 : decode cX9_couldLead 79 = .ok (.goto (-62), 3) := by decide +kernel
theorem dX9_couldLead_82 : decode cX9_couldLead 82 = .ok (.iload_n 3, 1) := by decide +kernel
theorem dX9_couldLead_83 : decode cX9_couldLead 83 = .ok (.ireturn, 1) := by decide +kernel
theorem dX9_couldLeadAgain_0 : decode cX9_couldLeadAgain 0 = .ok (.aload_n 0, 1) := by decide +kernel
theorem dX9_couldLeadAgain_1 : decode cX9_couldLeadAgain 1 = .ok (.iload_n 1, 1) := by decide +kernel
theorem dX9_couldLeadAgain_2 : decode cX9_couldLeadAgain 2 = .ok (.invokevirtual 270, 3) := by decide +kernel
theorem dX9_couldLeadAgain_5 : decode cX9_couldLeadAgain 5 = .ok (.istore_n 2, 1) := by decide +kernel
theorem dX9_couldLeadAgain_6 : decode cX9_couldLeadAgain 6 = .ok (.iload_n 2, 1) := by decide +kernel
theorem dX9_couldLeadAgain_7 : decode cX9_couldLeadAgain 7 = .ok (.ifCond .eq 5, 3) := by decide +kernel
theorem dX9_couldLeadAgain_10 : decode cX9_couldLeadAgain 10 = .ok (.iload_n 2, 1) := by decide +kernel
theorem dX9_couldLeadAgain_11 : decode cX9_couldLeadAgain 11 = .ok (.ireturn, 1) := by decide +kernel
theorem dX9_couldLeadAgain_12 : decode cX9_couldLeadAgain 12 = .ok (.aload_n 0, 1) := by decide +kernel
theorem dX9_couldLeadAgain_13 : decode cX9_couldLeadAgain 13 = .ok (.getfield 9, 3) := by decide +kernel
theorem dX9_couldLeadAgain_16 : decode cX9_couldLeadAgain 16 = .ok (.iconst 0, 1) := by decide +kernel
theorem dX9_couldLeadAgain_17 : decode cX9_couldLeadAgain 17 = .ok (.aload_n 0, 1) := by decide +kernel
theorem dX9_couldLeadAgain_18 : decode cX9_couldLeadAgain 18 = .ok (.getfield 16, 3) := by decide +kernel
theorem dX9_couldLeadAgain_21 : decode cX9_couldLeadAgain 21 = .ok (.iconst 0, 1) := by decide +kernel
theorem dX9_couldLeadAgain_22 : decode cX9_couldLeadAgain 22 = .ok (.invokestatic 38, 3) := by decide +kernel
theorem dX9_couldLeadAgain_25 : decode cX9_couldLeadAgain 25 = .ok (.aload_n 0, 1) := by decide +kernel
theorem dX9_couldLeadAgain_26 : decode cX9_couldLeadAgain 26 = .ok (.iload_n 1, 1) := by decide +kernel
theorem dX9_couldLeadAgain_27 : decode cX9_couldLeadAgain 27 = .ok (.invokevirtual 125, 3) := by decide +kernel
theorem dX9_couldLeadAgain_30 : decode cX9_couldLeadAgain 30 = .ok (.istore_n 3, 1) := by decide +kernel
theorem dX9_couldLeadAgain_31 : decode cX9_couldLeadAgain 31 = .ok (.aload_n 0, 1) := by decide +kernel
theorem dX9_couldLeadAgain_32 : decode cX9_couldLeadAgain 32 = .ok (.getfield 16, 3) := by decide +kernel
theorem dX9_couldLeadAgain_35 : decode cX9_couldLeadAgain 35 = .ok (.iconst 0, 1) := by decide +kernel
theorem dX9_couldLeadAgain_36 : decode cX9_couldLeadAgain 36 = .ok (.aload_n 0, 1) := by decide +kernel
theorem dX9_couldLeadAgain_37 : decode cX9_couldLeadAgain 37 = .ok (.getfield 9, 3) := by decide +kernel
theorem dX9_couldLeadAgain_40 : decode cX9_couldLeadAgain 40 = .ok (.iconst 0, 1) := by decide +kernel
theorem dX9_couldLeadAgain_41 : decode cX9_couldLeadAgain 41 = .ok (.invokestatic 38, 3) := by decide +kernel
theorem dX9_couldLeadAgain_44 : decode cX9_couldLeadAgain 44 = .ok (.iload_n 3, 1) := by decide +kernel
theorem dX9_couldLeadAgain_45 : decode cX9_couldLeadAgain 45 = .ok (.ireturn, 1) := by decide +kernel
theorem dX9_alike_0 : decode cX9_alike 0 = .ok (.aload_n 0, 1) := by decide +kernel
theorem dX9_alike_1 : decode cX9_alike 1 = .ok (.iload_n 1, 1) := by decide +kernel
theorem dX9_alike_2 : decode cX9_alike 2 = .ok (.iload_n 2, 1) := by decide +kernel
theorem dX9_alike_3 : decode cX9_alike 3 = .ok (.invokevirtual 162, 3) := by decide +kernel
theorem dX9_alike_6 : decode cX9_alike 6 = .ok (.ifCond .eq 12, 3) := by decide +kernel
theorem dX9_alike_9 : decode cX9_alike 9 = .ok (.aload_n 0, 1) := by decide +kernel
theorem dX9_alike_10 : decode cX9_alike 10 = .ok (.iload_n 1, 1) := by decide +kernel
theorem dX9_alike_11 : decode cX9_alike 11 = .ok (.iload_n 2, 1) := by decide +kernel
theorem dX9_alike_12 : decode cX9_alike 12 = .ok (.invokevirtual 131, 3) := by decide +kernel
theorem dX9_alike_15 : decode cX9_alike 15 = .ok (.goto 4, 3) := by decide +kernel
theorem dX9_alike_18 : decode cX9_alike 18 = .ok (.iconst (-1), 1) := by decide +kernel
theorem dX9_alike_19 : decode cX9_alike 19 = .ok (.ireturn, 1) := by decide +kernel
theorem dX9_holders_0 : decode cX9_holders 0 = .ok (.aload_n 0, 1) := by decide +kernel
theorem dX9_holders_1 : decode cX9_holders 1 = .ok (.iload_n 1, 1) := by decide +kernel
theorem dX9_holders_2 : decode cX9_holders 2 = .ok (.iload_n 2, 1) := by decide +kernel
theorem dX9_holders_3 : decode cX9_holders 3 = .ok (.invokevirtual 264, 3) := by decide +kernel
theorem dX9_holders_6 : decode cX9_holders 6 = .ok (.ifCond .ne 5, 3) := by decide +kernel
theorem dX9_holders_9 : decode cX9_holders 9 = .ok (.iconst (-1), 1) := by decide +kernel
theorem dX9_holders_10 : decode cX9_holders 10 = .ok (.ireturn, 1) := by decide +kernel
theorem dX9_holders_11 : decode cX9_holders 11 = .ok (.iconst 0, 1) := by decide +kernel
theorem dX9_holders_12 : decode cX9_holders 12 = .ok (.istore_n 3, 1) := by decide +kernel
theorem dX9_holders_13 : decode cX9_holders 13 = .ok (.iconst 0, 1) := by decide +kernel
theorem dX9_holders_14 : decode cX9_holders 14 = .ok (.istore 4, 2) := by decide +kernel
theorem dX9_holders_16 : decode cX9_holders 16 = .ok (.iload 4, 2) := by decide +kernel
theorem dX9_holders_18 : decode cX9_holders 18 = .ok (.aload_n 0, 1) := by decide +kernel
theorem dX9_holders_19 : decode cX9_holders 19 = .ok (.getfield 9, 3) := by decide +kernel
theorem dX9_holders_22 : decode cX9_holders 22 = .ok (.iconst 1, 1) := by decide +kernel
theorem dX9_holders_23 : decode cX9_holders 23 = .ok (.iaload, 1) := by decide +kernel
theorem dX9_holders_24 : decode cX9_holders 24 = .ok (.if_icmp .ge 28, 3) := by decide +kernel
theorem dX9_holders_27 : decode cX9_holders 27 = .ok (.iload_n 3, 1) := by decide +kernel
theorem dX9_holders_28 : decode cX9_holders 28 = .ok (.aload_n 0, 1) := by decide +kernel
theorem dX9_holders_29 : decode cX9_holders 29 = .ok (.iload_n 1, 1) := by decide +kernel
theorem dX9_holders_30 : decode cX9_holders 30 = .ok (.iload 4, 2) := by decide +kernel
theorem dX9_holders_32 : decode cX9_holders 32 = .ok (.invokevirtual 131, 3) := by decide +kernel
theorem dX9_holders_35 : decode cX9_holders 35 = .ok (.iload_n 2, 1) := by decide +kernel
theorem dX9_holders_36 : decode cX9_holders 36 = .ok (.if_icmp .lt 7, 3) := by decide +kernel
theorem dX9_holders_39 : decode cX9_holders 39 = .ok (.iconst 1, 1) := by decide +kernel
theorem dX9_holders_40 : decode cX9_holders 40 = .ok (.goto 4, 3) := by decide +kernel
theorem dX9_holders_43 : decode cX9_holders 43 = .ok (.iconst 0, 1) := by decide +kernel
theorem dX9_holders_44 : decode cX9_holders 44 = .ok (.iadd, 1) := by decide +kernel
theorem dX9_holders_45 : decode cX9_holders 45 = .ok (.istore_n 3, 1) := by decide +kernel
theorem dX9_holders_46 : decode cX9_holders 46 = .ok (.iinc 4 1, 3) := by decide +kernel
theorem dX9_holders_49 : decode cX9_holders 49 = .ok (.goto (-33), 3) := by decide +kernel
theorem dX9_holders_52 : decode cX9_holders 52 = .ok (.iload_n 3, 1) := by decide +kernel
theorem dX9_holders_53 : decode cX9_holders 53 = .ok (.ireturn, 1) := by decide +kernel
theorem dX9_agreed_0 : decode cX9_agreed 0 = .ok (.iconst 0, 1) := by decide +kernel
theorem dX9_agreed_1 : decode cX9_agreed 1 = .ok (.istore_n 1, 1) := by decide +kernel
theorem dX9_agreed_2 : decode cX9_agreed 2 = .ok (.iconst 0, 1) := by decide +kernel
theorem dX9_agreed_3 : decode cX9_agreed 3 = .ok (.istore_n 2, 1) := by decide +kernel
theorem dX9_agreed_4 : decode cX9_agreed 4 = .ok (.iload_n 2, 1) := by decide +kernel
theorem dX9_agreed_5 : decode cX9_agreed 5 = .ok (.aload_n 0, 1) := by decide +kernel
theorem dX9_agreed_6 : decode cX9_agreed 6 = .ok (.getfield 9, 3) := by decide +kernel
theorem dX9_agreed_9 : decode cX9_agreed 9 = .ok (.iconst 1, 1) := by decide +kernel
theorem dX9_agreed_10 : decode cX9_agreed 10 = .ok (.iaload, 1) := by decide +kernel
theorem dX9_agreed_11 : decode cX9_agreed 11 = .ok (.if_icmp .ge 21, 3) := by decide +kernel
theorem dX9_agreed_14 : decode cX9_agreed 14 = .ok (.iload_n 1, 1) := by decide +kernel
theorem dX9_agreed_15 : decode cX9_agreed 15 = .ok (.aload_n 0, 1) := by decide +kernel
theorem dX9_agreed_16 : decode cX9_agreed 16 = .ok (.iload_n 2, 1) := by decide +kernel
theorem dX9_agreed_17 : decode cX9_agreed 17 = .ok (.bipush 6, 2) := by decide +kernel
theorem dX9_agreed_19 : decode cX9_agreed 19 = .ok (.invokevirtual 69, 3) := by decide +kernel
theorem dX9_agreed_22 : decode cX9_agreed 22 = .ok (.invokestatic 75, 3) := by decide +kernel
theorem dX9_agreed_25 : decode cX9_agreed 25 = .ok (.istore_n 1, 1) := by decide +kernel
theorem dX9_agreed_26 : decode cX9_agreed 26 = .ok (.iinc 2 1, 3) := by decide +kernel
theorem dX9_agreed_29 : decode cX9_agreed 29 = .ok (.goto (-25), 3) := by decide +kernel
theorem dX9_agreed_32 : decode cX9_agreed 32 = .ok (.iload_n 1, 1) := by decide +kernel
theorem dX9_agreed_33 : decode cX9_agreed 33 = .ok (.ireturn, 1) := by decide +kernel
theorem dX9_agreedAgain_0 : decode cX9_agreedAgain 0 = .ok (.bipush 12, 2) := by decide +kernel
theorem dX9_agreedAgain_2 : decode cX9_agreedAgain 2 = .ok (.istore_n 1, 1) := by decide +kernel
theorem dX9_agreedAgain_3 : decode cX9_agreedAgain 3 = .ok (.iload_n 1, 1) := by decide +kernel
theorem dX9_agreedAgain_4 : decode cX9_agreedAgain 4 = .ok (.ifCond .le 40, 3) := by decide +kernel
theorem dX9_agreedAgain_7 : decode cX9_agreedAgain 7 = .ok (.iconst 0, 1) := by decide +kernel
theorem dX9_agreedAgain_8 : decode cX9_agreedAgain 8 = .ok (.istore_n 2, 1) := by decide +kernel
theorem dX9_agreedAgain_9 : decode cX9_agreedAgain 9 = .ok (.iload_n 2, 1) := by decide +kernel
theorem dX9_agreedAgain_10 : decode cX9_agreedAgain 10 = .ok (.aload_n 0, 1) := by decide +kernel
theorem dX9_agreedAgain_11 : decode cX9_agreedAgain 11 = .ok (.getfield 9, 3) := by decide +kernel
theorem dX9_agreedAgain_14 : decode cX9_agreedAgain 14 = .ok (.iconst 1, 1) := by decide +kernel
theorem dX9_agreedAgain_15 : decode cX9_agreedAgain 15 = .ok (.iaload, 1) := by decide +kernel
theorem dX9_agreedAgain_16 : decode cX9_agreedAgain 16 = .ok (.if_icmp .ge 22, 3) := by decide +kernel
theorem dX9_agreedAgain_19 : decode cX9_agreedAgain 19 = .ok (.aload_n 0, 1) := by decide +kernel
theorem dX9_agreedAgain_20 : decode cX9_agreedAgain 20 = .ok (.iload_n 2, 1) := by decide +kernel
theorem dX9_agreedAgain_21 : decode cX9_agreedAgain 21 = .ok (.bipush 6, 2) := by decide +kernel
theorem dX9_agreedAgain_23 : decode cX9_agreedAgain 23 = .ok (.invokevirtual 69, 3) := by decide +kernel
theorem dX9_agreedAgain_26 : decode cX9_agreedAgain 26 = .ok (.iload_n 1, 1) := by decide +kernel
theorem dX9_agreedAgain_27 : decode cX9_agreedAgain 27 = .ok (.if_icmp .ne 5, 3) := by decide +kernel
theorem dX9_agreedAgain_30 : decode cX9_agreedAgain 30 = .ok (.iload_n 1, 1) := by decide +kernel
theorem dX9_agreedAgain_31 : decode cX9_agreedAgain 31 = .ok (.ireturn, 1) := by decide +kernel
theorem dX9_agreedAgain_32 : decode cX9_agreedAgain 32 = .ok (.iinc 2 1, 3) := by decide +kernel
theorem dX9_agreedAgain_35 : decode cX9_agreedAgain 35 = .ok (.goto (-26), 3) := by decide +kernel
theorem dX9_agreedAgain_38 : decode cX9_agreedAgain 38 = .ok (.iinc 1 (-1), 3) := by decide +kernel
theorem dX9_agreedAgain_41 : decode cX9_agreedAgain 41 = .ok (.goto (-38), 3) := by decide +kernel
theorem dX9_agreedAgain_44 : decode cX9_agreedAgain 44 = .ok (.iconst 0, 1) := by decide +kernel
theorem dX9_agreedAgain_45 : decode cX9_agreedAgain 45 = .ok (.ireturn, 1) := by decide +kernel
theorem dX9_conflicts_0 : decode cX9_conflicts 0 = .ok (.iconst 0, 1) := by decide +kernel
theorem dX9_conflicts_1 : decode cX9_conflicts 1 = .ok (.istore_n 1, 1) := by decide +kernel
theorem dX9_conflicts_2 : decode cX9_conflicts 2 = .ok (.iconst 0, 1) := by decide +kernel
theorem dX9_conflicts_3 : decode cX9_conflicts 3 = .ok (.istore_n 2, 1) := by decide +kernel
theorem dX9_conflicts_4 : decode cX9_conflicts 4 = .ok (.iload_n 2, 1) := by decide +kernel
theorem dX9_conflicts_5 : decode cX9_conflicts 5 = .ok (.aload_n 0, 1) := by decide +kernel
theorem dX9_conflicts_6 : decode cX9_conflicts 6 = .ok (.getfield 9, 3) := by decide +kernel
theorem dX9_conflicts_9 : decode cX9_conflicts 9 = .ok (.iconst 1, 1) := by decide +kernel
theorem dX9_conflicts_10 : decode cX9_conflicts 10 = .ok (.iaload, 1) := by decide +kernel
theorem dX9_conflicts_11 : decode cX9_conflicts 11 = .ok (.if_icmp .ge 54, 3) := by decide +kernel
theorem dX9_conflicts_14 : decode cX9_conflicts 14 = .ok (.iconst 0, 1) := by decide +kernel
theorem dX9_conflicts_15 : decode cX9_conflicts 15 = .ok (.istore_n 3, 1) := by decide +kernel
theorem dX9_conflicts_16 : decode cX9_conflicts 16 = .ok (.iload_n 3, 1) := by decide +kernel
theorem dX9_conflicts_17 : decode cX9_conflicts 17 = .ok (.iload_n 2, 1) := by decide +kernel
theorem dX9_conflicts_18 : decode cX9_conflicts 18 = .ok (.if_icmp .ge 41, 3) := by decide +kernel
theorem dX9_conflicts_21 : decode cX9_conflicts 21 = .ok (.iload_n 1, 1) := by decide +kernel
theorem dX9_conflicts_22 : decode cX9_conflicts 22 = .ok (.aload_n 0, 1) := by decide +kernel
theorem dX9_conflicts_23 : decode cX9_conflicts 23 = .ok (.iload_n 2, 1) := by decide +kernel
theorem dX9_conflicts_24 : decode cX9_conflicts 24 = .ok (.iload_n 3, 1) := by decide +kernel
theorem dX9_conflicts_25 : decode cX9_conflicts 25 = .ok (.invokevirtual 131, 3) := by decide +kernel
theorem dX9_conflicts_28 : decode cX9_conflicts 28 = .ok (.aload_n 0, 1) := by decide +kernel
theorem dX9_conflicts_29 : decode cX9_conflicts 29 = .ok (.iload_n 2, 1) := by decide +kernel
theorem dX9_conflicts_30 : decode cX9_conflicts 30 = .ok (.iconst 5, 1) := by decide +kernel
theorem dX9_conflicts_31 : decode cX9_conflicts 31 = .ok (.invokevirtual 69, 3) := by decide +kernel
theorem dX9_conflicts_34 : decode cX9_conflicts 34 = .ok (.aload_n 0, 1) := by decide +kernel
theorem dX9_conflicts_35 : decode cX9_conflicts 35 = .ok (.iload_n 3, 1) := by decide +kernel
theorem dX9_conflicts_36 : decode cX9_conflicts 36 = .ok (.iconst 5, 1) := by decide +kernel
theorem dX9_conflicts_37 : decode cX9_conflicts 37 = .ok (.invokevirtual 69, 3) := by decide +kernel
theorem dX9_conflicts_40 : decode cX9_conflicts 40 = .ok (.invokestatic 72, 3) := by decide +kernel
theorem dX9_conflicts_43 : decode cX9_conflicts 43 = .ok (.if_icmp .ge 7, 3) := by decide +kernel
theorem dX9_conflicts_46 : decode cX9_conflicts 46 = .ok (.iconst 1, 1) := by decide +kernel
theorem dX9_conflicts_47 : decode cX9_conflicts 47 = .ok (.goto 4, 3) := by decide +kernel
theorem dX9_conflicts_50 : decode cX9_conflicts 50 = .ok (.iconst 0, 1) := by decide +kernel
theorem dX9_conflicts_51 : decode cX9_conflicts 51 = .ok (.iadd, 1) := by decide +kernel
theorem dX9_conflicts_52 : decode cX9_conflicts 52 = .ok (.istore_n 1, 1) := by decide +kernel
theorem dX9_conflicts_53 : decode cX9_conflicts 53 = .ok (.iinc 3 1, 3) := by decide +kernel
theorem dX9_conflicts_56 : decode cX9_conflicts 56 = .ok (.goto (-40), 3) := by decide +kernel
theorem dX9_conflicts_59 : decode cX9_conflicts 59 = .ok (.iinc 2 1, 3) := by decide +kernel
theorem dX9_conflicts_62 : decode cX9_conflicts 62 = .ok (.goto (-58), 3) := by decide +kernel
theorem dX9_conflicts_65 : decode cX9_conflicts 65 = .ok (.iload_n 1, 1) := by decide +kernel
theorem dX9_conflicts_66 : decode cX9_conflicts 66 = .ok (.ireturn, 1) := by decide +kernel
theorem dX9_isSafe_0 : decode cX9_isSafe 0 = .ok (.iconst 0, 1) := by decide +kernel
theorem dX9_isSafe_1 : decode cX9_isSafe 1 = .ok (.istore_n 1, 1) := by decide +kernel
theorem dX9_isSafe_2 : decode cX9_isSafe 2 = .ok (.iload_n 1, 1) := by decide +kernel
theorem dX9_isSafe_3 : decode cX9_isSafe 3 = .ok (.aload_n 0, 1) := by decide +kernel
theorem dX9_isSafe_4 : decode cX9_isSafe 4 = .ok (.getfield 9, 3) := by decide +kernel
theorem dX9_isSafe_7 : decode cX9_isSafe 7 = .ok (.iconst 1, 1) := by decide +kernel
theorem dX9_isSafe_8 : decode cX9_isSafe 8 = .ok (.iaload, 1) := by decide +kernel
theorem dX9_isSafe_9 : decode cX9_isSafe 9 = .ok (.if_icmp .ge 50, 3) := by decide +kernel
theorem dX9_isSafe_12 : decode cX9_isSafe 12 = .ok (.iconst 0, 1) := by decide +kernel
theorem dX9_isSafe_13 : decode cX9_isSafe 13 = .ok (.istore_n 2, 1) := by decide +kernel
theorem dX9_isSafe_14 : decode cX9_isSafe 14 = .ok (.iload_n 2, 1) := by decide +kernel
theorem dX9_isSafe_15 : decode cX9_isSafe 15 = .ok (.iload_n 1, 1) := by decide +kernel
theorem dX9_isSafe_16 : decode cX9_isSafe 16 = .ok (.if_icmp .ge 37, 3) := by decide +kernel
theorem dX9_isSafe_19 : decode cX9_isSafe 19 = .ok (.aload_n 0, 1) := by decide +kernel
theorem dX9_isSafe_20 : decode cX9_isSafe 20 = .ok (.iload_n 1, 1) := by decide +kernel
theorem dX9_isSafe_21 : decode cX9_isSafe 21 = .ok (.iload_n 2, 1) := by decide +kernel
theorem dX9_isSafe_22 : decode cX9_isSafe 22 = .ok (.invokevirtual 131, 3) := by decide +kernel
theorem dX9_isSafe_25 : decode cX9_isSafe 25 = .ok (.aload_n 0, 1) := by decide +kernel
theorem dX9_isSafe_26 : decode cX9_isSafe 26 = .ok (.iload_n 1, 1) := by decide +kernel
theorem dX9_isSafe_27 : decode cX9_isSafe 27 = .ok (.bipush 6, 2) := by decide +kernel
theorem dX9_isSafe_29 : decode cX9_isSafe 29 = .ok (.invokevirtual 69, 3) := by decide +kernel
theorem dX9_isSafe_32 : decode cX9_isSafe 32 = .ok (.aload_n 0, 1) := by decide +kernel
theorem dX9_isSafe_33 : decode cX9_isSafe 33 = .ok (.iload_n 2, 1) := by decide +kernel
theorem dX9_isSafe_34 : decode cX9_isSafe 34 = .ok (.bipush 6, 2) := by decide +kernel
theorem dX9_isSafe_36 : decode cX9_isSafe 36 = .ok (.invokevirtual 69, 3) := by decide +kernel
theorem dX9_isSafe_39 : decode cX9_isSafe 39 = .ok (.invokestatic 72, 3) := by decide +kernel
theorem dX9_isSafe_42 : decode cX9_isSafe 42 = .ok (.if_icmp .ge 5, 3) := by decide +kernel
theorem dX9_isSafe_45 : decode cX9_isSafe 45 = .ok (.iconst 0, 1) := by decide +kernel
theorem dX9_isSafe_46 : decode cX9_isSafe 46 = .ok (.ireturn, 1) := by decide +kernel
theorem dX9_isSafe_47 : decode cX9_isSafe 47 = .ok (.iinc 2 1, 3) := by decide +kernel
theorem dX9_isSafe_50 : decode cX9_isSafe 50 = .ok (.goto (-36), 3) := by decide +kernel
theorem dX9_isSafe_53 : decode cX9_isSafe 53 = .ok (.iinc 1 1, 3) := by decide +kernel
theorem dX9_isSafe_56 : decode cX9_isSafe 56 = .ok (.goto (-54), 3) := by decide +kernel
theorem dX9_isSafe_59 : decode cX9_isSafe 59 = .ok (.iconst 1, 1) := by decide +kernel
theorem dX9_isSafe_60 : decode cX9_isSafe 60 = .ok (.ireturn, 1) := by decide +kernel
theorem dX9_isAhead_0 : decode cX9_isAhead 0 = .ok (.aload_n 0, 1) := by decide +kernel
theorem dX9_isAhead_1 : decode cX9_isAhead 1 = .ok (.iload_n 1, 1) := by decide +kernel
theorem dX9_isAhead_2 : decode cX9_isAhead 2 = .ok (.iload_n 2, 1) := by decide +kernel
theorem dX9_isAhead_3 : decode cX9_isAhead 3 = .ok (.invokevirtual 105, 3) := by decide +kernel
theorem dX9_isAhead_6 : decode cX9_isAhead 6 = .ok (.istore_n 3, 1) := by decide +kernel
theorem dX9_isAhead_7 : decode cX9_isAhead 7 = .ok (.iload_n 3, 1) := by decide +kernel
theorem dX9_isAhead_8 : decode cX9_isAhead 8 = .ok (.ifCond .eq 13, 3) := by decide +kernel
theorem dX9_isAhead_11 : decode cX9_isAhead 11 = .ok (.iload_n 3, 1) := by decide +kernel
theorem dX9_isAhead_12 : decode cX9_isAhead 12 = .ok (.ifCond .le 7, 3) := by decide +kernel
theorem dX9_isAhead_15 : decode cX9_isAhead 15 = .ok (.iconst 1, 1) := by decide +kernel
theorem dX9_isAhead_16 : decode cX9_isAhead 16 = .ok (.goto 4, 3) := by decide +kernel
theorem dX9_isAhead_19 : decode cX9_isAhead 19 = .ok (.iconst 0, 1) := by decide +kernel
theorem dX9_isAhead_20 : decode cX9_isAhead 20 = .ok (.ireturn, 1) := by decide +kernel
theorem dX9_isAhead_21 : decode cX9_isAhead 21 = .ok (.aload_n 0, 1) := by decide +kernel
theorem dX9_isAhead_22 : decode cX9_isAhead 22 = .ok (.iload_n 1, 1) := by decide +kernel
theorem dX9_isAhead_23 : decode cX9_isAhead 23 = .ok (.iconst 1, 1) := by decide +kernel
theorem dX9_isAhead_24 : decode cX9_isAhead 24 = .ok (.invokevirtual 69, 3) := by decide +kernel
theorem dX9_isAhead_27 : decode cX9_isAhead 27 = .ok (.aload_n 0, 1) := by decide +kernel
theorem dX9_isAhead_28 : decode cX9_isAhead 28 = .ok (.iload_n 2, 1) := by decide +kernel
theorem dX9_isAhead_29 : decode cX9_isAhead 29 = .ok (.iconst 1, 1) := by decide +kernel
theorem dX9_isAhead_30 : decode cX9_isAhead 30 = .ok (.invokevirtual 69, 3) := by decide +kernel
theorem dX9_isAhead_33 : decode cX9_isAhead 33 = .ok (.isub, 1) := by decide +kernel
theorem dX9_isAhead_34 : decode cX9_isAhead 34 = .ok (.istore 4, 2) := by decide +kernel
theorem dX9_isAhead_36 : decode cX9_isAhead 36 = .ok (.iload 4, 2) := by decide +kernel
theorem dX9_isAhead_38 : decode cX9_isAhead 38 = .ok (.ifCond .eq 16, 3) := by decide +kernel
theorem dX9_isAhead_41 : decode cX9_isAhead 41 = .ok (.iload 4, 2) := by decide +kernel
theorem dX9_isAhead_43 : decode cX9_isAhead 43 = .ok (.ifCond .le 7, 3) := by decide +kernel
theorem dX9_isAhead_46 : decode cX9_isAhead 46 = .ok (.iconst 1, 1) := by decide +kernel
theorem dX9_isAhead_47 : decode cX9_isAhead 47 = .ok (.goto 17, 3) := by decide +kernel
theorem dX9_isAhead_50 : decode cX9_isAhead 50 = .ok (.iconst 0, 1) := by decide +kernel
theorem dX9_isAhead_51 : decode cX9_isAhead 51 = .ok (.goto 13, 3) := by decide +kernel
theorem dX9_isAhead_54 : decode cX9_isAhead 54 = .ok (.iload_n 1, 1) := by decide +kernel
theorem dX9_isAhead_55 : decode cX9_isAhead 55 = .ok (.iload_n 2, 1) := by decide +kernel
theorem dX9_isAhead_56 : decode cX9_isAhead 56 = .ok (.if_icmp .ge 7, 3) := by decide +kernel
theorem dX9_isAhead_59 : decode cX9_isAhead 59 = .ok (.iconst 1, 1) := by decide +kernel
theorem dX9_isAhead_60 : decode cX9_isAhead 60 = .ok (.goto 4, 3) := by decide +kernel
theorem dX9_isAhead_63 : decode cX9_isAhead 63 = .ok (.iconst 0, 1) := by decide +kernel
theorem dX9_isAhead_64 : decode cX9_isAhead 64 = .ok (.ireturn, 1) := by decide +kernel
theorem dX9_ranked_0 : decode cX9_ranked 0 = .ok (.iconst 0, 1) := by decide +kernel
theorem dX9_ranked_1 : decode cX9_ranked 1 = .ok (.istore_n 2, 1) := by decide +kernel
theorem dX9_ranked_2 : decode cX9_ranked 2 = .ok (.iload_n 2, 1) := by decide +kernel
theorem dX9_ranked_3 : decode cX9_ranked 3 = .ok (.aload_n 0, 1) := by decide +kernel
theorem dX9_ranked_4 : decode cX9_ranked 4 = .ok (.getfield 9, 3) := by decide +kernel
theorem dX9_ranked_7 : decode cX9_ranked 7 = .ok (.iconst 1, 1) := by decide +kernel
theorem dX9_ranked_8 : decode cX9_ranked 8 = .ok (.iaload, 1) := by decide +kernel
theorem dX9_ranked_9 : decode cX9_ranked 9 = .ok (.if_icmp .ge 62, 3) := by decide +kernel
theorem dX9_ranked_12 : decode cX9_ranked 12 = .ok (.iconst 0, 1) := by decide +kernel
theorem dX9_ranked_13 : decode cX9_ranked 13 = .ok (.istore_n 3, 1) := by decide +kernel
theorem dX9_ranked_14 : decode cX9_ranked 14 = .ok (.iconst 0, 1) := by decide +kernel
theorem dX9_ranked_15 : decode cX9_ranked 15 = .ok (.istore 4, 2) := by decide +kernel
theorem dX9_ranked_17 : decode cX9_ranked 17 = .ok (.iload 4, 2) := by decide +kernel
theorem dX9_ranked_19 : decode cX9_ranked 19 = .ok (.aload_n 0, 1) := by decide +kernel
theorem dX9_ranked_20 : decode cX9_ranked 20 = .ok (.getfield 9, 3) := by decide +kernel
theorem dX9_ranked_23 : decode cX9_ranked 23 = .ok (.iconst 1, 1) := by decide +kernel
theorem dX9_ranked_24 : decode cX9_ranked 24 = .ok (.iaload, 1) := by decide +kernel
theorem dX9_ranked_25 : decode cX9_ranked 25 = .ok (.if_icmp .ge 33, 3) := by decide +kernel
theorem dX9_ranked_28 : decode cX9_ranked 28 = .ok (.iload_n 3, 1) := by decide +kernel
theorem dX9_ranked_29 : decode cX9_ranked 29 = .ok (.iload 4, 2) := by decide +kernel
theorem dX9_ranked_31 : decode cX9_ranked 31 = .ok (.iload_n 2, 1) := by decide +kernel
theorem dX9_ranked_32 : decode cX9_ranked 32 = .ok (.if_icmp .eq 17, 3) := by decide +kernel
theorem dX9_ranked_35 : decode cX9_ranked 35 = .ok (.aload_n 0, 1) := by decide +kernel
theorem dX9_ranked_36 : decode cX9_ranked 36 = .ok (.iload 4, 2) := by decide +kernel
theorem dX9_ranked_38 : decode cX9_ranked 38 = .ok (.iload_n 2, 1) := by decide +kernel
theorem dX9_ranked_39 : decode cX9_ranked 39 = .ok (.invokevirtual 273, 3) := by decide +kernel
theorem dX9_ranked_42 : decode cX9_ranked 42 = .ok (.ifCond .eq 7, 3) := by decide +kernel
theorem dX9_ranked_45 : decode cX9_ranked 45 = .ok (.iconst 1, 1) := by decide +kernel
theorem dX9_ranked_46 : decode cX9_ranked 46 = .ok (.goto 4, 3) := by decide +kernel
theorem dX9_ranked_49 : decode cX9_ranked 49 = .ok (.iconst 0, 1) := by decide +kernel
theorem dX9_ranked_50 : decode cX9_ranked 50 = .ok (.iadd, 1) := by decide +kernel
theorem dX9_ranked_51 : decode cX9_ranked 51 = .ok (.istore_n 3, 1) := by decide +kernel
theorem dX9_ranked_52 : decode cX9_ranked 52 = .ok (.iinc 4 1, 3) := by decide +kernel
theorem dX9_ranked_55 : decode cX9_ranked 55 = .ok (.goto (-38), 3) := by decide +kernel
theorem dX9_ranked_58 : decode cX9_ranked 58 = .ok (.iload_n 3, 1) := by decide +kernel
theorem dX9_ranked_59 : decode cX9_ranked 59 = .ok (.iload_n 1, 1) := by decide +kernel
theorem dX9_ranked_60 : decode cX9_ranked 60 = .ok (.if_icmp .ne 5, 3) := by decide +kernel
theorem dX9_ranked_63 : decode cX9_ranked 63 = .ok (.iload_n 2, 1) := by decide +kernel
theorem dX9_ranked_64 : decode cX9_ranked 64 = .ok (.ireturn, 1) := by decide +kernel
theorem dX9_ranked_65 : decode cX9_ranked 65 = .ok (.iinc 2 1, 3) := by decide +kernel
theorem dX9_ranked_68 : decode cX9_ranked 68 = .ok (.goto (-66), 3) := by decide +kernel
theorem dX9_ranked_71 : decode cX9_ranked 71 = .ok (.iconst (-1), 1) := by decide +kernel
theorem dX9_ranked_72 : decode cX9_ranked 72 = .ok (.ireturn, 1) := by decide +kernel
theorem dX9_doesWait_0 : decode cX9_doesWait 0 = .ok (.aload_n 0, 1) := by decide +kernel
theorem dX9_doesWait_1 : decode cX9_doesWait 1 = .ok (.iload_n 1, 1) := by decide +kernel
theorem dX9_doesWait_2 : decode cX9_doesWait 2 = .ok (.invokevirtual 78, 3) := by decide +kernel
theorem dX9_doesWait_5 : decode cX9_doesWait 5 = .ok (.ifCond .eq 17, 3) := by decide +kernel
theorem dX9_doesWait_8 : decode cX9_doesWait 8 = .ok (.aload_n 0, 1) := by decide +kernel
theorem dX9_doesWait_9 : decode cX9_doesWait 9 = .ok (.iload_n 1, 1) := by decide +kernel
theorem dX9_doesWait_10 : decode cX9_doesWait 10 = .ok (.iconst 0, 1) := by decide +kernel
theorem dX9_doesWait_11 : decode cX9_doesWait 11 = .ok (.invokevirtual 69, 3) := by decide +kernel
theorem dX9_doesWait_14 : decode cX9_doesWait 14 = .ok (.iconst 2, 1) := by decide +kernel
theorem dX9_doesWait_15 : decode cX9_doesWait 15 = .ok (.if_icmp .eq 7, 3) := by decide +kernel
theorem dX9_doesWait_18 : decode cX9_doesWait 18 = .ok (.iconst 1, 1) := by decide +kernel
theorem dX9_doesWait_19 : decode cX9_doesWait 19 = .ok (.goto 4, 3) := by decide +kernel
theorem dX9_doesWait_22 : decode cX9_doesWait 22 = .ok (.iconst 0, 1) := by decide +kernel
theorem dX9_doesWait_23 : decode cX9_doesWait 23 = .ok (.ireturn, 1) := by decide +kernel
theorem dX9_waitsYet_0 : decode cX9_waitsYet 0 = .ok (.aload_n 0, 1) := by decide +kernel
theorem dX9_waitsYet_1 : decode cX9_waitsYet 1 = .ok (.iload_n 1, 1) := by decide +kernel
theorem dX9_waitsYet_2 : decode cX9_waitsYet 2 = .ok (.iconst 2, 1) := by decide +kernel
theorem dX9_waitsYet_3 : decode cX9_waitsYet 3 = .ok (.invokevirtual 69, 3) := by decide +kernel
theorem dX9_waitsYet_6 : decode cX9_waitsYet 6 = .ok (.aload_n 0, 1) := by decide +kernel
theorem dX9_waitsYet_7 : decode cX9_waitsYet 7 = .ok (.iload_n 1, 1) := by decide +kernel
theorem dX9_waitsYet_8 : decode cX9_waitsYet 8 = .ok (.iconst 3, 1) := by decide +kernel
theorem dX9_waitsYet_9 : decode cX9_waitsYet 9 = .ok (.invokevirtual 69, 3) := by decide +kernel
theorem dX9_waitsYet_12 : decode cX9_waitsYet 12 = .ok (.isub, 1) := by decide +kernel
theorem dX9_waitsYet_13 : decode cX9_waitsYet 13 = .ok (.ireturn, 1) := by decide +kernel
theorem dX9_oldest_0 : decode cX9_oldest 0 = .ok (.iconst 0, 1) := by decide +kernel
theorem dX9_oldest_1 : decode cX9_oldest 1 = .ok (.istore_n 2, 1) := by decide +kernel
theorem dX9_oldest_2 : decode cX9_oldest 2 = .ok (.iload_n 2, 1) := by decide +kernel
theorem dX9_oldest_3 : decode cX9_oldest 3 = .ok (.aload_n 0, 1) := by decide +kernel
theorem dX9_oldest_4 : decode cX9_oldest 4 = .ok (.getfield 9, 3) := by decide +kernel
theorem dX9_oldest_7 : decode cX9_oldest 7 = .ok (.iconst 1, 1) := by decide +kernel
theorem dX9_oldest_8 : decode cX9_oldest 8 = .ok (.iaload, 1) := by decide +kernel
theorem dX9_oldest_9 : decode cX9_oldest 9 = .ok (.if_icmp .ge 115, 3) := by decide +kernel
theorem dX9_oldest_12 : decode cX9_oldest 12 = .ok (.iconst 0, 1) := by decide +kernel
theorem dX9_oldest_13 : decode cX9_oldest 13 = .ok (.istore_n 3, 1) := by decide +kernel
theorem dX9_oldest_14 : decode cX9_oldest 14 = .ok (.iconst 0, 1) := by decide +kernel
theorem dX9_oldest_15 : decode cX9_oldest 15 = .ok (.istore 4, 2) := by decide +kernel
theorem dX9_oldest_17 : decode cX9_oldest 17 = .ok (.iload 4, 2) := by decide +kernel
theorem dX9_oldest_19 : decode cX9_oldest 19 = .ok (.aload_n 0, 1) := by decide +kernel
theorem dX9_oldest_20 : decode cX9_oldest 20 = .ok (.getfield 9, 3) := by decide +kernel
theorem dX9_oldest_23 : decode cX9_oldest 23 = .ok (.iconst 1, 1) := by decide +kernel
theorem dX9_oldest_24 : decode cX9_oldest 24 = .ok (.iaload, 1) := by decide +kernel
theorem dX9_oldest_25 : decode cX9_oldest 25 = .ok (.if_icmp .ge 78, 3) := by decide +kernel
theorem dX9_oldest_28 : decode cX9_oldest 28 = .ok (.aload_n 0, 1) := by decide +kernel
theorem dX9_oldest_29 : decode cX9_oldest 29 = .ok (.iload 4, 2) := by decide +kernel
theorem dX9_oldest_31 : decode cX9_oldest 31 = .ok (.invokevirtual 276, 3) := by decide +kernel
theorem dX9_oldest_34 : decode cX9_oldest 34 = .ok (.aload_n 0, 1) := by decide +kernel
theorem dX9_oldest_35 : decode cX9_oldest 35 = .ok (.iload_n 2, 1) := by decide +kernel
theorem dX9_oldest_36 : decode cX9_oldest 36 = .ok (.invokevirtual 276, 3) := by decide +kernel
theorem dX9_oldest_39 : decode cX9_oldest 39 = .ok (.if_icmp .lt 23, 3) := by decide +kernel
theorem dX9_oldest_42 : decode cX9_oldest 42 = .ok (.aload_n 0, 1) := by decide +kernel
theorem dX9_oldest_43 : decode cX9_oldest 43 = .ok (.iload 4, 2) := by decide +kernel
theorem dX9_oldest_45 : decode cX9_oldest 45 = .ok (.invokevirtual 276, 3) := by decide +kernel
theorem dX9_oldest_48 : decode cX9_oldest 48 = .ok (.aload_n 0, 1) := by decide +kernel
theorem dX9_oldest_49 : decode cX9_oldest 49 = .ok (.iload_n 2, 1) := by decide +kernel
theorem dX9_oldest_50 : decode cX9_oldest 50 = .ok (.invokevirtual 276, 3) := by decide +kernel
theorem dX9_oldest_53 : decode cX9_oldest 53 = .ok (.if_icmp .ne 13, 3) := by decide +kernel
theorem dX9_oldest_56 : decode cX9_oldest 56 = .ok (.iload 4, 2) := by decide +kernel
theorem dX9_oldest_58 : decode cX9_oldest 58 = .ok (.iload_n 2, 1) := by decide +kernel
theorem dX9_oldest_59 : decode cX9_oldest 59 = .ok (.if_icmp .ge 7, 3) := by decide +kernel
theorem dX9_oldest_62 : decode cX9_oldest 62 = .ok (.iconst 1, 1) := by decide +kernel
theorem dX9_oldest_63 : decode cX9_oldest 63 = .ok (.goto 4, 3) := by decide +kernel
theorem dX9_oldest_66 : decode cX9_oldest 66 = .ok (.iconst 0, 1) := by decide +kernel
theorem dX9_oldest_67 : decode cX9_oldest 67 = .ok (.istore 5, 2) := by decide +kernel
theorem dX9_oldest_69 : decode cX9_oldest 69 = .ok (.iload_n 3, 1) := by decide +kernel
theorem dX9_oldest_70 : decode cX9_oldest 70 = .ok (.iload 4, 2) := by decide +kernel
theorem dX9_oldest_72 : decode cX9_oldest 72 = .ok (.iload_n 2, 1) := by decide +kernel
theorem dX9_oldest_73 : decode cX9_oldest 73 = .ok (.if_icmp .eq 21, 3) := by decide +kernel
theorem dX9_oldest_76 : decode cX9_oldest 76 = .ok (.aload_n 0, 1) := by decide +kernel
theorem dX9_oldest_77 : decode cX9_oldest 77 = .ok (.iload 4, 2) := by decide +kernel
theorem dX9_oldest_79 : decode cX9_oldest 79 = .ok (.invokevirtual 279, 3) := by decide +kernel
theorem dX9_oldest_82 : decode cX9_oldest 82 = .ok (.ifCond .eq 12, 3) := by decide +kernel
theorem dX9_oldest_85 : decode cX9_oldest 85 = .ok (.iload 5, 2) := by decide +kernel
theorem dX9_oldest_87 : decode cX9_oldest 87 = .ok (.ifCond .eq 7, 3) := by decide +kernel
theorem dX9_oldest_90 : decode cX9_oldest 90 = .ok (.iconst 1, 1) := by decide +kernel
theorem dX9_oldest_91 : decode cX9_oldest 91 = .ok (.goto 4, 3) := by decide +kernel
theorem dX9_oldest_94 : decode cX9_oldest 94 = .ok (.iconst 0, 1) := by decide +kernel
theorem dX9_oldest_95 : decode cX9_oldest 95 = .ok (.iadd, 1) := by decide +kernel
theorem dX9_oldest_96 : decode cX9_oldest 96 = .ok (.istore_n 3, 1) := by decide +kernel
theorem dX9_oldest_97 : decode cX9_oldest 97 = .ok (.iinc 4 1, 3) := by decide +kernel
theorem dX9_oldest_100 : decode cX9_oldest 100 = .ok (.goto (-83), 3) := by decide +kernel
theorem dX9_oldest_103 : decode cX9_oldest 103 = .ok (.aload_n 0, 1) := by decide +kernel
theorem dX9_oldest_104 : decode cX9_oldest 104 = .ok (.iload_n 2, 1) := by decide +kernel
theorem dX9_oldest_105 : decode cX9_oldest 105 = .ok (.invokevirtual 279, 3) := by decide +kernel
theorem dX9_oldest_108 : decode cX9_oldest 108 = .ok (.ifCond .eq 10, 3) := by decide +kernel
theorem dX9_oldest_111 : decode cX9_oldest 111 = .ok (.iload_n 3, 1) := by decide +kernel
theorem dX9_oldest_112 : decode cX9_oldest 112 = .ok (.iload_n 1, 1) := by decide +kernel
theorem dX9_oldest_113 : decode cX9_oldest 113 = .ok (.if_icmp .ne 5, 3) := by decide +kernel
theorem dX9_oldest_116 : decode cX9_oldest 116 = .ok (.iload_n 2, 1) := by decide +kernel
theorem dX9_oldest_117 : decode cX9_oldest 117 = .ok (.ireturn, 1) := by decide +kernel
theorem dX9_oldest_118 : decode cX9_oldest 118 = .ok (.iinc 2 1, 3) := by decide +kernel
theorem dX9_oldest_121 : decode cX9_oldest 121 = .ok (.goto (-119), 3) := by decide +kernel
theorem dX9_oldest_124 : decode cX9_oldest 124 = .ok (.iconst (-1), 1) := by decide +kernel
theorem dX9_oldest_125 : decode cX9_oldest 125 = .ok (.ireturn, 1) := by decide +kernel
theorem dX9_quietBeats_0 : decode cX9_quietBeats 0 = .ok (.aload_n 0, 1) := by decide +kernel
theorem dX9_quietBeats_1 : decode cX9_quietBeats 1 = .ok (.getfield 9, 3) := by decide +kernel
theorem dX9_quietBeats_4 : decode cX9_quietBeats 4 = .ok (.iconst 0, 1) := by decide +kernel
theorem dX9_quietBeats_5 : decode cX9_quietBeats 5 = .ok (.aload_n 0, 1) := by decide +kernel
theorem dX9_quietBeats_6 : decode cX9_quietBeats 6 = .ok (.getfield 16, 3) := by decide +kernel
theorem dX9_quietBeats_9 : decode cX9_quietBeats 9 = .ok (.iconst 0, 1) := by decide +kernel
theorem dX9_quietBeats_10 : decode cX9_quietBeats 10 = .ok (.invokestatic 38, 3) := by decide +kernel
theorem dX9_quietBeats_13 : decode cX9_quietBeats 13 = .ok (.iconst 0, 1) := by decide +kernel
theorem dX9_quietBeats_14 : decode cX9_quietBeats 14 = .ok (.istore_n 1, 1) := by decide +kernel
theorem dX9_quietBeats_15 : decode cX9_quietBeats 15 = .ok (.iload_n 1, 1) := by decide +kernel
theorem dX9_quietBeats_16 : decode cX9_quietBeats 16 = .ok (.bipush 9, 2) := by decide +kernel
theorem dX9_quietBeats_18 : decode cX9_quietBeats 18 = .ok (.if_icmp .ge 28, 3) := by decide +kernel
theorem dX9_quietBeats_21 : decode cX9_quietBeats 21 = .ok (.aload_n 0, 1) := by decide +kernel
theorem dX9_quietBeats_22 : decode cX9_quietBeats 22 = .ok (.getfield 9, 3) := by decide +kernel
theorem dX9_quietBeats_25 : decode cX9_quietBeats 25 = .ok (.iconst 2, 1) := by decide +kernel
theorem dX9_quietBeats_26 : decode cX9_quietBeats 26 = .ok (.iaload, 1) := by decide +kernel
theorem dX9_quietBeats_27 : decode cX9_quietBeats 27 = .ok (.aload_n 0, 1) := by decide +kernel
theorem dX9_quietBeats_28 : decode cX9_quietBeats 28 = .ok (.getfield 16, 3) := by decide +kernel
theorem dX9_quietBeats_31 : decode cX9_quietBeats 31 = .ok (.iconst 2, 1) := by decide +kernel
theorem dX9_quietBeats_32 : decode cX9_quietBeats 32 = .ok (.iaload, 1) := by decide +kernel
theorem dX9_quietBeats_33 : decode cX9_quietBeats 33 = .ok (.if_icmp .ne 13, 3) := by decide +kernel
theorem dX9_quietBeats_36 : decode cX9_quietBeats 36 = .ok (.aload_n 0, 1) := by decide +kernel
theorem dX9_quietBeats_37 : decode cX9_quietBeats 37 = .ok (.invokevirtual 176, 3) := by decide +kernel
theorem dX9_quietBeats_40 : decode cX9_quietBeats 40 = .ok (.iinc 1 1, 3) := by decide +kernel
theorem dX9_quietBeats_43 : decode cX9_quietBeats 43 = .ok (.goto (-28), 3) := by decide +kernel
theorem dX9_quietBeats_46 : decode cX9_quietBeats 46 = .ok (.aload_n 0, 1) := by decide +kernel
theorem dX9_quietBeats_47 : decode cX9_quietBeats 47 = .ok (.getfield 9, 3) := by decide +kernel
theorem dX9_quietBeats_50 : decode cX9_quietBeats 50 = .ok (.iconst 2, 1) := by decide +kernel
theorem dX9_quietBeats_51 : decode cX9_quietBeats 51 = .ok (.iaload, 1) := by decide +kernel
theorem dX9_quietBeats_52 : decode cX9_quietBeats 52 = .ok (.aload_n 0, 1) := by decide +kernel
theorem dX9_quietBeats_53 : decode cX9_quietBeats 53 = .ok (.getfield 16, 3) := by decide +kernel
theorem dX9_quietBeats_56 : decode cX9_quietBeats 56 = .ok (.iconst 2, 1) := by decide +kernel
theorem dX9_quietBeats_57 : decode cX9_quietBeats 57 = .ok (.iaload, 1) := by decide +kernel
theorem dX9_quietBeats_58 : decode cX9_quietBeats 58 = .ok (.if_icmp .eq 7, 3) := by decide +kernel
theorem dX9_quietBeats_61 : decode cX9_quietBeats 61 = .ok (.iconst 1, 1) := by decide +kernel
theorem dX9_quietBeats_62 : decode cX9_quietBeats 62 = .ok (.goto 4, 3) := by decide +kernel
theorem dX9_quietBeats_65 : decode cX9_quietBeats 65 = .ok (.iconst 0, 1) := by decide +kernel
theorem dX9_quietBeats_66 : decode cX9_quietBeats 66 = .ok (.istore_n 2, 1) := by decide +kernel
theorem dX9_quietBeats_67 : decode cX9_quietBeats 67 = .ok (.aload_n 0, 1) := by decide +kernel
theorem dX9_quietBeats_68 : decode cX9_quietBeats 68 = .ok (.getfield 16, 3) := by decide +kernel
theorem dX9_quietBeats_71 : decode cX9_quietBeats 71 = .ok (.iconst 0, 1) := by decide +kernel
theorem dX9_quietBeats_72 : decode cX9_quietBeats 72 = .ok (.aload_n 0, 1) := by decide +kernel
theorem dX9_quietBeats_73 : decode cX9_quietBeats 73 = .ok (.getfield 9, 3) := by decide +kernel
theorem dX9_quietBeats_76 : decode cX9_quietBeats 76 = .ok (.iconst 0, 1) := by decide +kernel
theorem dX9_quietBeats_77 : decode cX9_quietBeats 77 = .ok (.invokestatic 38, 3) := by decide +kernel
theorem dX9_quietBeats_80 : decode cX9_quietBeats 80 = .ok (.iload_n 2, 1) := by decide +kernel
theorem dX9_quietBeats_81 : decode cX9_quietBeats 81 = .ok (.ifCond .eq 7, 3) := by decide +kernel
theorem dX9_quietBeats_84 : decode cX9_quietBeats 84 = .ok (.iload_n 1, 1) := by decide +kernel
theorem dX9_quietBeats_85 : decode cX9_quietBeats 85 = .ok (.goto 5, 3) := by decide +kernel
theorem dX9_quietBeats_88 : decode cX9_quietBeats 88 = .ok (.bipush (-4), 2) := by decide +kernel
theorem dX9_quietBeats_90 : decode cX9_quietBeats 90 = .ok (.ireturn, 1) := by decide +kernel
theorem dX9_puts_0 : decode cX9_puts 0 = .ok (.aload_n 0, 1) := by decide +kernel
theorem dX9_puts_1 : decode cX9_puts 1 = .ok (.getfield 35, 3) := by decide +kernel
theorem dX9_puts_4 : decode cX9_puts 4 = .ok (.aload_n 0, 1) := by decide +kernel
theorem dX9_puts_5 : decode cX9_puts 5 = .ok (.getfield 282, 3) := by decide +kernel
theorem dX9_puts_8 : decode cX9_puts 8 = .ok (.iload_n 1, 1) := by decide +kernel
theorem dX9_puts_9 : decode cX9_puts 9 = .ok (.iastore, 1) := by decide +kernel
theorem dX9_puts_10 : decode cX9_puts 10 = .ok (.aload_n 0, 1) := by decide +kernel
theorem dX9_puts_11 : decode cX9_puts 11 = .ok (.dup, 1) := by decide +kernel
theorem dX9_puts_12 : decode cX9_puts 12 = .ok (.getfield 282, 3) := by decide +kernel
theorem dX9_puts_15 : decode cX9_puts 15 = .ok (.iconst 1, 1) := by decide +kernel
theorem dX9_puts_16 : decode cX9_puts 16 = .ok (.iadd, 1) := by decide +kernel
theorem dX9_puts_17 : decode cX9_puts 17 = .ok (.putfield 282, 3) := by decide +kernel
theorem dX9_puts_20 : decode cX9_puts 20 = .ok (.return_, 1) := by decide +kernel
theorem dX9_number_0 : decode cX9_number 0 = .ok (.iload_n 1, 1) := by decide +kernel
theorem dX9_number_1 : decode cX9_number 1 = .ok (.bipush 10, 2) := by decide +kernel
theorem dX9_number_3 : decode cX9_number 3 = .ok (.if_icmp .lt 11, 3) := by decide +kernel
theorem dX9_number_6 : decode cX9_number 6 = .ok (.aload_n 0, 1) := by decide +kernel
theorem dX9_number_7 : decode cX9_number 7 = .ok (.iload_n 1, 1) := by decide +kernel
theorem dX9_number_8 : decode cX9_number 8 = .ok (.bipush 10, 2) := by decide +kernel
theorem dX9_number_10 : decode cX9_number 10 = .ok (.idiv, 1) := by decide +kernel
theorem dX9_number_11 : decode cX9_number 11 = .ok (.invokevirtual 285, 3) := by decide +kernel
theorem dX9_number_14 : decode cX9_number 14 = .ok (.aload_n 0, 1) := by decide +kernel
theorem dX9_number_15 : decode cX9_number 15 = .ok (.bipush 48, 2) := by decide +kernel
theorem dX9_number_17 : decode cX9_number 17 = .ok (.iload_n 1, 1) := by decide +kernel
theorem dX9_number_18 : decode cX9_number 18 = .ok (.bipush 10, 2) := by decide +kernel
theorem dX9_number_20 : decode cX9_number 20 = .ok (.irem, 1) := by decide +kernel
theorem dX9_number_21 : decode cX9_number 21 = .ok (.iadd, 1) := by decide +kernel
theorem dX9_number_22 : decode cX9_number 22 = .ok (.invokevirtual 288, 3) := by decide +kernel
theorem dX9_number_25 : decode cX9_number 25 = .ok (.return_, 1) := by decide +kernel
theorem dX9_tell_0 : decode cX9_tell 0 = .ok (.aload_n 0, 1) := by decide +kernel
theorem dX9_tell_1 : decode cX9_tell 1 = .ok (.iload_n 1, 1) := by decide +kernel
theorem dX9_tell_2 : decode cX9_tell 2 = .ok (.invokevirtual 65, 3) := by decide +kernel
theorem dX9_tell_5 : decode cX9_tell 5 = .ok (.ifCond .ne 5, 3) := by decide +kernel
theorem dX9_tell_8 : decode cX9_tell 8 = .ok (.iconst (-1), 1) := by decide +kernel
theorem dX9_tell_9 : decode cX9_tell 9 = .ok (.ireturn, 1) := by decide +kernel
theorem dX9_tell_10 : decode cX9_tell 10 = .ok (.aload_n 0, 1) := by decide +kernel
theorem dX9_tell_11 : decode cX9_tell 11 = .ok (.iconst 0, 1) := by decide +kernel
theorem dX9_tell_12 : decode cX9_tell 12 = .ok (.putfield 282, 3) := by decide +kernel
theorem dX9_tell_15 : decode cX9_tell 15 = .ok (.aload_n 0, 1) := by decide +kernel
theorem dX9_tell_16 : decode cX9_tell 16 = .ok (.iload_n 1, 1) := by decide +kernel
theorem dX9_tell_17 : decode cX9_tell 17 = .ok (.iconst 0, 1) := by decide +kernel
theorem dX9_tell_18 : decode cX9_tell 18 = .ok (.invokevirtual 69, 3) := by decide +kernel
theorem dX9_tell_21 : decode cX9_tell 21 = .ok (.istore_n 2, 1) := by decide +kernel
theorem dX9_tell_22 : decode cX9_tell 22 = .ok (.aload_n 0, 1) := by decide +kernel
theorem dX9_tell_23 : decode cX9_tell 23 = .ok (.iload_n 2, 1) := by decide +kernel
theorem dX9_tell_24 : decode cX9_tell 24 = .ok (.ifCond .ne 8, 3) := by decide +kernel
theorem dX9_tell_27 : decode cX9_tell 27 = .ok (.bipush 102, 2) := by decide +kernel
theorem dX9_tell_29 : decode cX9_tell 29 = .ok (.goto 15, 3) := by decide +kernel
theorem dX9_tell_32 : decode cX9_tell 32 = .ok (.iload_n 2, 1) := by decide +kernel
theorem dX9_tell_33 : decode cX9_tell 33 = .ok (.iconst 1, 1) := by decide +kernel
theorem dX9_tell_34 : decode cX9_tell 34 = .ok (.if_icmp .ne 8, 3) := by decide +kernel
theorem dX9_tell_37 : decode cX9_tell 37 = .ok (.bipush 99, 2) := by decide +kernel
theorem dX9_tell_39 : decode cX9_tell 39 = .ok (.goto 5, 3) := by decide +kernel
theorem dX9_tell_42 : decode cX9_tell 42 = .ok (.bipush 108, 2) := by decide +kernel
theorem dX9_tell_44 : decode cX9_tell 44 = .ok (.invokevirtual 288, 3) := by decide +kernel
theorem dX9_tell_47 : decode cX9_tell 47 = .ok (.aload_n 0, 1) := by decide +kernel
theorem dX9_tell_48 : decode cX9_tell 48 = .ok (.aload_n 0, 1) := by decide +kernel
theorem dX9_tell_49 : decode cX9_tell 49 = .ok (.iload_n 1, 1) := by decide +kernel
theorem dX9_tell_50 : decode cX9_tell 50 = .ok (.iconst 1, 1) := by decide +kernel
theorem dX9_tell_51 : decode cX9_tell 51 = .ok (.invokevirtual 69, 3) := by decide +kernel
theorem dX9_tell_54 : decode cX9_tell 54 = .ok (.invokevirtual 285, 3) := by decide +kernel
theorem dX9_tell_57 : decode cX9_tell 57 = .ok (.aload_n 0, 1) := by decide +kernel
theorem dX9_tell_58 : decode cX9_tell 58 = .ok (.bipush 58, 2) := by decide +kernel
theorem dX9_tell_60 : decode cX9_tell 60 = .ok (.invokevirtual 288, 3) := by decide +kernel
theorem dX9_tell_63 : decode cX9_tell 63 = .ok (.iconst 0, 1) := by decide +kernel
theorem dX9_tell_64 : decode cX9_tell 64 = .ok (.istore_n 3, 1) := by decide +kernel
theorem dX9_tell_65 : decode cX9_tell 65 = .ok (.iload_n 3, 1) := by decide +kernel
theorem dX9_tell_66 : decode cX9_tell 66 = .ok (.aload_n 0, 1) := by decide +kernel
theorem dX9_tell_67 : decode cX9_tell 67 = .ok (.iload_n 1, 1) := by decide +kernel
theorem dX9_tell_68 : decode cX9_tell 68 = .ok (.iconst 5, 1) := by decide +kernel
theorem dX9_tell_69 : decode cX9_tell 69 = .ok (.invokevirtual 69, 3) := by decide +kernel
theorem dX9_tell_72 : decode cX9_tell 72 = .ok (.if_icmp .gt 62, 3) := by decide +kernel
theorem dX9_tell_75 : decode cX9_tell 75 = .ok (.iload_n 3, 1) := by decide +kernel
theorem dX9_tell_76 : decode cX9_tell 76 = .ok (.aload_n 0, 1) := by decide +kernel
theorem dX9_tell_77 : decode cX9_tell 77 = .ok (.iload_n 1, 1) := by decide +kernel
theorem dX9_tell_78 : decode cX9_tell 78 = .ok (.bipush 6, 2) := by decide +kernel
theorem dX9_tell_80 : decode cX9_tell 80 = .ok (.invokevirtual 69, 3) := by decide +kernel
theorem dX9_tell_83 : decode cX9_tell 83 = .ok (.if_icmp .ne 9, 3) := by decide +kernel
theorem dX9_tell_86 : decode cX9_tell 86 = .ok (.aload_n 0, 1) := by decide +kernel
theorem dX9_tell_87 : decode cX9_tell 87 = .ok (.bipush 124, 2) := by decide +kernel
theorem dX9_tell_89 : decode cX9_tell 89 = .ok (.invokevirtual 288, 3) := by decide +kernel
theorem dX9_tell_92 : decode cX9_tell 92 = .ok (.iload_n 3, 1) := by decide +kernel
theorem dX9_tell_93 : decode cX9_tell 93 = .ok (.aload_n 0, 1) := by decide +kernel
theorem dX9_tell_94 : decode cX9_tell 94 = .ok (.iload_n 1, 1) := by decide +kernel
theorem dX9_tell_95 : decode cX9_tell 95 = .ok (.iconst 5, 1) := by decide +kernel
theorem dX9_tell_96 : decode cX9_tell 96 = .ok (.invokevirtual 69, 3) := by decide +kernel
theorem dX9_tell_99 : decode cX9_tell 99 = .ok (.if_icmp .ge 29, 3) := by decide +kernel
theorem dX9_tell_102 : decode cX9_tell 102 = .ok (.aload_n 0, 1) := by decide +kernel
theorem dX9_tell_103 : decode cX9_tell 103 = .ok (.aload_n 0, 1) := by decide +kernel
theorem dX9_tell_104 : decode cX9_tell 104 = .ok (.iload_n 1, 1) := by decide +kernel
theorem dX9_tell_105 : decode cX9_tell 105 = .ok (.bipush 22, 2) := by decide +kernel
theorem dX9_tell_107 : decode cX9_tell 107 = .ok (.iload_n 3, 1) := by decide +kernel
theorem dX9_tell_108 : decode cX9_tell 108 = .ok (.iadd, 1) := by decide +kernel
theorem dX9_tell_109 : decode cX9_tell 109 = .ok (.invokevirtual 69, 3) := by decide +kernel
theorem dX9_tell_112 : decode cX9_tell 112 = .ok (.invokevirtual 288, 3) := by decide +kernel
theorem dX9_tell_115 : decode cX9_tell 115 = .ok (.aload_n 0, 1) := by decide +kernel
theorem dX9_tell_116 : decode cX9_tell 116 = .ok (.aload_n 0, 1) := by decide +kernel
theorem dX9_tell_117 : decode cX9_tell 117 = .ok (.iload_n 1, 1) := by decide +kernel
theorem dX9_tell_118 : decode cX9_tell 118 = .ok (.bipush 10, 2) := by decide +kernel
theorem dX9_tell_120 : decode cX9_tell 120 = .ok (.iload_n 3, 1) := by decide +kernel
theorem dX9_tell_121 : decode cX9_tell 121 = .ok (.iadd, 1) := by decide +kernel
theorem dX9_tell_122 : decode cX9_tell 122 = .ok (.invokevirtual 69, 3) := by decide +kernel
theorem dX9_tell_125 : decode cX9_tell 125 = .ok (.invokevirtual 285, 3) := by decide +kernel
theorem dX9_tell_128 : decode cX9_tell 128 = .ok (.iinc 3 1, 3) := by decide +kernel
theorem dX9_tell_131 : decode cX9_tell 131 = .ok (.goto (-66), 3) := by decide +kernel
theorem dX9_tell_134 : decode cX9_tell 134 = .ok (.aload_n 0, 1) := by decide +kernel
theorem dX9_tell_135 : decode cX9_tell 135 = .ok (.getfield 282, 3) := by decide +kernel
theorem dX9_tell_138 : decode cX9_tell 138 = .ok (.ireturn, 1) := by decide +kernel
theorem dX9_tellVotes_0 : decode cX9_tellVotes 0 = .ok (.aload_n 0, 1) := by decide +kernel
theorem dX9_tellVotes_1 : decode cX9_tellVotes 1 = .ok (.iload_n 1, 1) := by decide +kernel
theorem dX9_tellVotes_2 : decode cX9_tellVotes 2 = .ok (.invokevirtual 65, 3) := by decide +kernel
theorem dX9_tellVotes_5 : decode cX9_tellVotes 5 = .ok (.ifCond .ne 5, 3) := by decide +kernel
theorem dX9_tellVotes_8 : decode cX9_tellVotes 8 = .ok (.iconst (-1), 1) := by decide +kernel
theorem dX9_tellVotes_9 : decode cX9_tellVotes 9 = .ok (.ireturn, 1) := by decide +kernel
theorem dX9_tellVotes_10 : decode cX9_tellVotes 10 = .ok (.aload_n 0, 1) := by decide +kernel
theorem dX9_tellVotes_11 : decode cX9_tellVotes 11 = .ok (.iconst 0, 1) := by decide +kernel
theorem dX9_tellVotes_12 : decode cX9_tellVotes 12 = .ok (.putfield 282, 3) := by decide +kernel
theorem dX9_tellVotes_15 : decode cX9_tellVotes 15 = .ok (.iconst 0, 1) := by decide +kernel
theorem dX9_tellVotes_16 : decode cX9_tellVotes 16 = .ok (.istore_n 2, 1) := by decide +kernel
theorem dX9_tellVotes_17 : decode cX9_tellVotes 17 = .ok (.iload_n 2, 1) := by decide +kernel
theorem dX9_tellVotes_18 : decode cX9_tellVotes 18 = .ok (.aload_n 0, 1) := by decide +kernel
theorem dX9_tellVotes_19 : decode cX9_tellVotes 19 = .ok (.getfield 9, 3) := by decide +kernel
theorem dX9_tellVotes_22 : decode cX9_tellVotes 22 = .ok (.iconst 1, 1) := by decide +kernel
theorem dX9_tellVotes_23 : decode cX9_tellVotes 23 = .ok (.iaload, 1) := by decide +kernel
theorem dX9_tellVotes_24 : decode cX9_tellVotes 24 = .ok (.if_icmp .ge 55, 3) := by decide +kernel
theorem dX9_tellVotes_27 : decode cX9_tellVotes 27 = .ok (.aload_n 0, 1) := by decide +kernel
theorem dX9_tellVotes_28 : decode cX9_tellVotes 28 = .ok (.iload_n 2, 1) := by decide +kernel
theorem dX9_tellVotes_29 : decode cX9_tellVotes 29 = .ok (.iconst 4, 1) := by decide +kernel
theorem dX9_tellVotes_30 : decode cX9_tellVotes 30 = .ok (.invokevirtual 69, 3) := by decide +kernel
theorem dX9_tellVotes_33 : decode cX9_tellVotes 33 = .ok (.iload_n 1, 1) := by decide +kernel
theorem dX9_tellVotes_34 : decode cX9_tellVotes 34 = .ok (.if_icmp .ne 39, 3) := by decide +kernel
theorem dX9_tellVotes_37 : decode cX9_tellVotes 37 = .ok (.aload_n 0, 1) := by decide +kernel
theorem dX9_tellVotes_38 : decode cX9_tellVotes 38 = .ok (.iload_n 2, 1) := by decide +kernel
theorem dX9_tellVotes_39 : decode cX9_tellVotes 39 = .ok (.iconst 1, 1) := by decide +kernel
theorem dX9_tellVotes_40 : decode cX9_tellVotes 40 = .ok (.invokevirtual 69, 3) := by decide +kernel
theorem dX9_tellVotes_43 : decode cX9_tellVotes 43 = .ok (.aload_n 0, 1) := by decide +kernel
theorem dX9_tellVotes_44 : decode cX9_tellVotes 44 = .ok (.iload_n 1, 1) := by decide +kernel
theorem dX9_tellVotes_45 : decode cX9_tellVotes 45 = .ok (.iconst 1, 1) := by decide +kernel
theorem dX9_tellVotes_46 : decode cX9_tellVotes 46 = .ok (.invokevirtual 69, 3) := by decide +kernel
theorem dX9_tellVotes_49 : decode cX9_tellVotes 49 = .ok (.if_icmp .ne 24, 3) := by decide +kernel
theorem dX9_tellVotes_52 : decode cX9_tellVotes 52 = .ok (.aload_n 0, 1) := by decide +kernel
theorem dX9_tellVotes_53 : decode cX9_tellVotes 53 = .ok (.getfield 282, 3) := by decide +kernel
theorem dX9_tellVotes_56 : decode cX9_tellVotes 56 = .ok (.ifCond .le 9, 3) := by decide +kernel
theorem dX9_tellVotes_59 : decode cX9_tellVotes 59 = .ok (.aload_n 0, 1) := by decide +kernel
theorem dX9_tellVotes_60 : decode cX9_tellVotes 60 = .ok (.bipush 44, 2) := by decide +kernel
theorem dX9_tellVotes_62 : decode cX9_tellVotes 62 = .ok (.invokevirtual 288, 3) := by decide +kernel
theorem dX9_tellVotes_65 : decode cX9_tellVotes 65 = .ok (.aload_n 0, 1) := by decide +kernel
theorem dX9_tellVotes_66 : decode cX9_tellVotes 66 = .ok (.bipush 48, 2) := by decide +kernel
theorem dX9_tellVotes_68 : decode cX9_tellVotes 68 = .ok (.iload_n 2, 1) := by decide +kernel
theorem dX9_tellVotes_69 : decode cX9_tellVotes 69 = .ok (.iadd, 1) := by decide +kernel
theorem dX9_tellVotes_70 : decode cX9_tellVotes 70 = .ok (.invokevirtual 288, 3) := by decide +kernel
theorem dX9_tellVotes_73 : decode cX9_tellVotes 73 = .ok (.iinc 2 1, 3) := by decide +kernel
theorem dX9_tellVotes_76 : decode cX9_tellVotes 76 = .ok (.goto (-59), 3) := by decide +kernel
theorem dX9_tellVotes_79 : decode cX9_tellVotes 79 = .ok (.aload_n 0, 1) := by decide +kernel
theorem dX9_tellVotes_80 : decode cX9_tellVotes 80 = .ok (.getfield 282, 3) := by decide +kernel
theorem dX9_tellVotes_83 : decode cX9_tellVotes 83 = .ok (.ifCond .ne 9, 3) := by decide +kernel
theorem dX9_tellVotes_86 : decode cX9_tellVotes 86 = .ok (.aload_n 0, 1) := by decide +kernel
theorem dX9_tellVotes_87 : decode cX9_tellVotes 87 = .ok (.bipush 45, 2) := by decide +kernel
theorem dX9_tellVotes_89 : decode cX9_tellVotes 89 = .ok (.invokevirtual 288, 3) := by decide +kernel
theorem dX9_tellVotes_92 : decode cX9_tellVotes 92 = .ok (.aload_n 0, 1) := by decide +kernel
theorem dX9_tellVotes_93 : decode cX9_tellVotes 93 = .ok (.getfield 282, 3) := by decide +kernel
theorem dX9_tellVotes_96 : decode cX9_tellVotes 96 = .ok (.ireturn, 1) := by decide +kernel
theorem dX9_written_0 : decode cX9_written 0 = .ok (.iload_n 1, 1) := by decide +kernel
theorem dX9_written_1 : decode cX9_written 1 = .ok (.iconst 0, 1) := by decide +kernel
theorem dX9_written_2 : decode cX9_written 2 = .ok (.aload_n 0, 1) := by decide +kernel
theorem dX9_written_3 : decode cX9_written 3 = .ok (.getfield 282, 3) := by decide +kernel
theorem dX9_written_6 : decode cX9_written 6 = .ok (.iconst 1, 1) := by decide +kernel
theorem dX9_written_7 : decode cX9_written 7 = .ok (.isub, 1) := by decide +kernel
theorem dX9_written_8 : decode cX9_written 8 = .ok (.invokestatic 61, 3) := by decide +kernel
theorem dX9_written_11 : decode cX9_written 11 = .ok (.ifCond .eq 12, 3) := by decide +kernel
theorem dX9_written_14 : decode cX9_written 14 = .ok (.aload_n 0, 1) := by decide +kernel
theorem dX9_written_15 : decode cX9_written 15 = .ok (.getfield 35, 3) := by decide +kernel
theorem dX9_written_18 : decode cX9_written 18 = .ok (.iload_n 1, 1) := by decide +kernel
theorem dX9_written_19 : decode cX9_written 19 = .ok (.iaload, 1) := by decide +kernel
theorem dX9_written_20 : decode cX9_written 20 = .ok (.goto 4, 3) := by decide +kernel
theorem dX9_written_23 : decode cX9_written 23 = .ok (.iconst (-1), 1) := by decide +kernel
theorem dX9_written_24 : decode cX9_written 24 = .ok (.ireturn, 1) := by decide +kernel
theorem dX9_allOf_0 : decode cX9_allOf 0 = .ok (.iconst 0, 1) := by decide +kernel
theorem dX9_allOf_1 : decode cX9_allOf 1 = .ok (.istore_n 2, 1) := by decide +kernel
theorem dX9_allOf_2 : decode cX9_allOf 2 = .ok (.iconst 0, 1) := by decide +kernel
theorem dX9_allOf_3 : decode cX9_allOf 3 = .ok (.istore_n 3, 1) := by decide +kernel
theorem dX9_allOf_4 : decode cX9_allOf 4 = .ok (.iload_n 3, 1) := by decide +kernel
theorem dX9_allOf_5 : decode cX9_allOf 5 = .ok (.aload_n 0, 1) := by decide +kernel
theorem dX9_allOf_6 : decode cX9_allOf 6 = .ok (.getfield 9, 3) := by decide +kernel
theorem dX9_allOf_9 : decode cX9_allOf 9 = .ok (.iconst 1, 1) := by decide +kernel
theorem dX9_allOf_10 : decode cX9_allOf 10 = .ok (.iaload, 1) := by decide +kernel
theorem dX9_allOf_11 : decode cX9_allOf 11 = .ok (.if_icmp .ge 18, 3) := by decide +kernel
theorem dX9_allOf_14 : decode cX9_allOf 14 = .ok (.iload_n 2, 1) := by decide +kernel
theorem dX9_allOf_15 : decode cX9_allOf 15 = .ok (.aload_n 0, 1) := by decide +kernel
theorem dX9_allOf_16 : decode cX9_allOf 16 = .ok (.iload_n 3, 1) := by decide +kernel
theorem dX9_allOf_17 : decode cX9_allOf 17 = .ok (.iload_n 1, 1) := by decide +kernel
theorem dX9_allOf_18 : decode cX9_allOf 18 = .ok (.invokevirtual 69, 3) := by decide +kernel
theorem dX9_allOf_21 : decode cX9_allOf 21 = .ok (.iadd, 1) := by decide +kernel
theorem dX9_allOf_22 : decode cX9_allOf 22 = .ok (.istore_n 2, 1) := by decide +kernel
theorem dX9_allOf_23 : decode cX9_allOf 23 = .ok (.iinc 3 1, 3) := by decide +kernel
theorem dX9_allOf_26 : decode cX9_allOf 26 = .ok (.goto (-22), 3) := by decide +kernel
theorem dX9_allOf_29 : decode cX9_allOf 29 = .ok (.iload_n 2, 1) := by decide +kernel
theorem dX9_allOf_30 : decode cX9_allOf 30 = .ok (.ireturn, 1) := by decide +kernel
theorem dX9_meanTale_0 : decode cX9_meanTale 0 = .ok (.aload_n 0, 1) := by decide +kernel
theorem dX9_meanTale_1 : decode cX9_meanTale 1 = .ok (.getfield 9, 3) := by decide +kernel
theorem dX9_meanTale_4 : decode cX9_meanTale 4 = .ok (.iconst 1, 1) := by decide +kernel
theorem dX9_meanTale_5 : decode cX9_meanTale 5 = .ok (.iaload, 1) := by decide +kernel
theorem dX9_meanTale_6 : decode cX9_meanTale 6 = .ok (.ifCond .ne 7, 3) := by decide +kernel
theorem dX9_meanTale_9 : decode cX9_meanTale 9 = .ok (.fconst 0, 1) := by decide +kernel
theorem dX9_meanTale_10 : decode cX9_meanTale 10 = .ok (.goto 17, 3) := by decide +kernel
theorem dX9_meanTale_13 : decode cX9_meanTale 13 = .ok (.aload_n 0, 1) := by decide +kernel
theorem dX9_meanTale_14 : decode cX9_meanTale 14 = .ok (.iconst 5, 1) := by decide +kernel
theorem dX9_meanTale_15 : decode cX9_meanTale 15 = .ok (.invokevirtual 291, 3) := by decide +kernel
theorem dX9_meanTale_18 : decode cX9_meanTale 18 = .ok (.i2f, 1) := by decide +kernel
theorem dX9_meanTale_19 : decode cX9_meanTale 19 = .ok (.aload_n 0, 1) := by decide +kernel
theorem dX9_meanTale_20 : decode cX9_meanTale 20 = .ok (.getfield 9, 3) := by decide +kernel
theorem dX9_meanTale_23 : decode cX9_meanTale 23 = .ok (.iconst 1, 1) := by decide +kernel
theorem dX9_meanTale_24 : decode cX9_meanTale 24 = .ok (.iaload, 1) := by decide +kernel
theorem dX9_meanTale_25 : decode cX9_meanTale 25 = .ok (.i2f, 1) := by decide +kernel
theorem dX9_meanTale_26 : decode cX9_meanTale 26 = .ok (.fdiv, 1) := by decide +kernel
theorem dX9_meanTale_27 : decode cX9_meanTale 27 = .ok (.freturn, 1) := by decide +kernel
theorem dX9_agreedShare_0 : decode cX9_agreedShare 0 = .ok (.aload_n 0, 1) := by decide +kernel
theorem dX9_agreedShare_1 : decode cX9_agreedShare 1 = .ok (.iconst 5, 1) := by decide +kernel
theorem dX9_agreedShare_2 : decode cX9_agreedShare 2 = .ok (.invokevirtual 291, 3) := by decide +kernel
theorem dX9_agreedShare_5 : decode cX9_agreedShare 5 = .ok (.istore_n 1, 1) := by decide +kernel
theorem dX9_agreedShare_6 : decode cX9_agreedShare 6 = .ok (.iload_n 1, 1) := by decide +kernel
theorem dX9_agreedShare_7 : decode cX9_agreedShare 7 = .ok (.ifCond .ne 7, 3) := by decide +kernel
theorem dX9_agreedShare_10 : decode cX9_agreedShare 10 = .ok (.dconst 0, 1) := by decide +kernel
theorem dX9_agreedShare_11 : decode cX9_agreedShare 11 = .ok (.goto 13, 3) := by decide +kernel
theorem dX9_agreedShare_14 : decode cX9_agreedShare 14 = .ok (.aload_n 0, 1) := by decide +kernel
theorem dX9_agreedShare_15 : decode cX9_agreedShare 15 = .ok (.bipush 6, 2) := by decide +kernel
theorem dX9_agreedShare_17 : decode cX9_agreedShare 17 = .ok (.invokevirtual 291, 3) := by decide +kernel
theorem dX9_agreedShare_20 : decode cX9_agreedShare 20 = .ok (.i2d, 1) := by decide +kernel
theorem dX9_agreedShare_21 : decode cX9_agreedShare 21 = .ok (.iload_n 1, 1) := by decide +kernel
theorem dX9_agreedShare_22 : decode cX9_agreedShare 22 = .ok (.i2d, 1) := by decide +kernel
theorem dX9_agreedShare_23 : decode cX9_agreedShare 23 = .ok (.ddiv, 1) := by decide +kernel
theorem dX9_agreedShare_24 : decode cX9_agreedShare 24 = .ok (.dreturn, 1) := by decide +kernel
theorem dX9_greatestTerm_0 : decode cX9_greatestTerm 0 = .ok (.iconst 0, 1) := by decide +kernel
theorem dX9_greatestTerm_1 : decode cX9_greatestTerm 1 = .ok (.istore_n 1, 1) := by decide +kernel
theorem dX9_greatestTerm_2 : decode cX9_greatestTerm 2 = .ok (.iconst 0, 1) := by decide +kernel
theorem dX9_greatestTerm_3 : decode cX9_greatestTerm 3 = .ok (.istore_n 2, 1) := by decide +kernel
theorem dX9_greatestTerm_4 : decode cX9_greatestTerm 4 = .ok (.iload_n 2, 1) := by decide +kernel
theorem dX9_greatestTerm_5 : decode cX9_greatestTerm 5 = .ok (.aload_n 0, 1) := by decide +kernel
theorem dX9_greatestTerm_6 : decode cX9_greatestTerm 6 = .ok (.getfield 9, 3) := by decide +kernel
theorem dX9_greatestTerm_9 : decode cX9_greatestTerm 9 = .ok (.iconst 1, 1) := by decide +kernel
theorem dX9_greatestTerm_10 : decode cX9_greatestTerm 10 = .ok (.iaload, 1) := by decide +kernel
theorem dX9_greatestTerm_11 : decode cX9_greatestTerm 11 = .ok (.if_icmp .ge 20, 3) := by decide +kernel
theorem dX9_greatestTerm_14 : decode cX9_greatestTerm 14 = .ok (.iload_n 1, 1) := by decide +kernel
theorem dX9_greatestTerm_15 : decode cX9_greatestTerm 15 = .ok (.aload_n 0, 1) := by decide +kernel
theorem dX9_greatestTerm_16 : decode cX9_greatestTerm 16 = .ok (.iload_n 2, 1) := by decide +kernel
theorem dX9_greatestTerm_17 : decode cX9_greatestTerm 17 = .ok (.iconst 1, 1) := by decide +kernel
theorem dX9_greatestTerm_18 : decode cX9_greatestTerm 18 = .ok (.invokevirtual 69, 3) := by decide +kernel
theorem dX9_greatestTerm_21 : decode cX9_greatestTerm 21 = .ok (.invokestatic 75, 3) := by decide +kernel
theorem dX9_greatestTerm_24 : decode cX9_greatestTerm 24 = .ok (.istore_n 1, 1) := by decide +kernel
theorem dX9_greatestTerm_25 : decode cX9_greatestTerm 25 = .ok (.iinc 2 1, 3) := by decide +kernel
theorem dX9_greatestTerm_28 : decode cX9_greatestTerm 28 = .ok (.goto (-24), 3) := by decide +kernel
theorem dX9_greatestTerm_31 : decode cX9_greatestTerm 31 = .ok (.iload_n 1, 1) := by decide +kernel
theorem dX9_greatestTerm_32 : decode cX9_greatestTerm 32 = .ok (.ireturn, 1) := by decide +kernel
theorem dX9_account_0 : decode cX9_account 0 = .ok (.iload_n 1, 1) := by decide +kernel
theorem dX9_account_1 : decode cX9_account 1 = .ok (.tableswitch 110 0 12 #[67, 67, 74, 79, 84, 89, 89, 89, 89, 89, 89, 100, 105], 67) := by decide +kernel
theorem dX9_account_68 : decode cX9_account 68 = .ok (.aload_n 0, 1) := by decide +kernel
theorem dX9_account_69 : decode cX9_account 69 = .ok (.getfield 9, 3) := by decide +kernel
theorem dX9_account_72 : decode cX9_account 72 = .ok (.iload_n 1, 1) := by decide +kernel
theorem dX9_account_73 : decode cX9_account 73 = .ok (.iaload, 1) := by decide +kernel
theorem dX9_account_74 : decode cX9_account 74 = .ok (.ireturn, 1) := by decide +kernel
theorem dX9_account_75 : decode cX9_account 75 = .ok (.aload_n 0, 1) := by decide +kernel
theorem dX9_account_76 : decode cX9_account 76 = .ok (.invokevirtual 152, 3) := by decide +kernel
theorem dX9_account_79 : decode cX9_account 79 = .ok (.ireturn, 1) := by decide +kernel
theorem dX9_account_80 : decode cX9_account 80 = .ok (.aload_n 0, 1) := by decide +kernel
theorem dX9_account_81 : decode cX9_account 81 = .ok (.invokevirtual 165, 3) := by decide +kernel
theorem dX9_account_84 : decode cX9_account 84 = .ok (.ireturn, 1) := by decide +kernel
theorem dX9_account_85 : decode cX9_account 85 = .ok (.aload_n 0, 1) := by decide +kernel
theorem dX9_account_86 : decode cX9_account 86 = .ok (.invokevirtual 294, 3) := by decide +kernel
theorem dX9_account_89 : decode cX9_account 89 = .ok (.ireturn, 1) := by decide +kernel
theorem dX9_account_90 : decode cX9_account 90 = .ok (.aload_n 0, 1) := by decide +kernel
theorem dX9_account_91 : decode cX9_account 91 = .ok (.getfield 9, 3) := by decide +kernel
theorem dX9_account_94 : decode cX9_account 94 = .ok (.iload_n 1, 1) := by decide +kernel
theorem dX9_account_95 : decode cX9_account 95 = .ok (.iconst 5, 1) := by decide +kernel
theorem dX9_account_96 : decode cX9_account 96 = .ok (.isub, 1) := by decide +kernel
theorem dX9_account_97 : decode cX9_account 97 = .ok (.iconst 2, 1) := by decide +kernel
theorem dX9_account_98 : decode cX9_account 98 = .ok (.iadd, 1) := by decide +kernel
theorem dX9_account_99 : decode cX9_account 99 = .ok (.iaload, 1) := by decide +kernel
theorem dX9_account_100 : decode cX9_account 100 = .ok (.ireturn, 1) := by decide +kernel
theorem dX9_account_101 : decode cX9_account 101 = .ok (.aload_n 0, 1) := by decide +kernel
theorem dX9_account_102 : decode cX9_account 102 = .ok (.getfield 182, 3) := by decide +kernel
theorem dX9_account_105 : decode cX9_account 105 = .ok (.ireturn, 1) := by decide +kernel
theorem dX9_account_106 : decode cX9_account 106 = .ok (.aload_n 0, 1) := by decide +kernel
theorem dX9_account_107 : decode cX9_account 107 = .ok (.getfield 42, 3) := by decide +kernel
theorem dX9_account_110 : decode cX9_account 110 = .ok (.ireturn, 1) := by decide +kernel
theorem dX9_account_111 : decode cX9_account 111 = .ok (.bipush (-2), 2) := by decide +kernel
theorem dX9_account_113 : decode cX9_account 113 = .ok (.ireturn, 1) := by decide +kernel
theorem dX9_undo_0 : decode cX9_undo 0 = .ok (.aload_n 0, 1) := by decide +kernel
theorem dX9_undo_1 : decode cX9_undo 1 = .ok (.getfield 42, 3) := by decide +kernel
theorem dX9_undo_4 : decode cX9_undo 4 = .ok (.ifCond .ne 6, 3) := by decide +kernel
theorem dX9_undo_7 : decode cX9_undo 7 = .ok (.bipush (-4), 2) := by decide +kernel
theorem dX9_undo_9 : decode cX9_undo 9 = .ok (.ireturn, 1) := by decide +kernel
theorem dX9_undo_10 : decode cX9_undo 10 = .ok (.aload_n 0, 1) := by decide +kernel
theorem dX9_undo_11 : decode cX9_undo 11 = .ok (.dup, 1) := by decide +kernel
theorem dX9_undo_12 : decode cX9_undo 12 = .ok (.getfield 42, 3) := by decide +kernel
theorem dX9_undo_15 : decode cX9_undo 15 = .ok (.iconst 1, 1) := by decide +kernel
theorem dX9_undo_16 : decode cX9_undo 16 = .ok (.isub, 1) := by decide +kernel
theorem dX9_undo_17 : decode cX9_undo 17 = .ok (.putfield 42, 3) := by decide +kernel
theorem dX9_undo_20 : decode cX9_undo 20 = .ok (.aload_n 0, 1) := by decide +kernel
theorem dX9_undo_21 : decode cX9_undo 21 = .ok (.getfield 22, 3) := by decide +kernel
theorem dX9_undo_24 : decode cX9_undo 24 = .ok (.sipush 203, 3) := by decide +kernel
theorem dX9_undo_27 : decode cX9_undo 27 = .ok (.aload_n 0, 1) := by decide +kernel
theorem dX9_undo_28 : decode cX9_undo 28 = .ok (.getfield 42, 3) := by decide +kernel
theorem dX9_undo_31 : decode cX9_undo 31 = .ok (.imul, 1) := by decide +kernel
theorem dX9_undo_32 : decode cX9_undo 32 = .ok (.aload_n 0, 1) := by decide +kernel
theorem dX9_undo_33 : decode cX9_undo 33 = .ok (.getfield 9, 3) := by decide +kernel
theorem dX9_undo_36 : decode cX9_undo 36 = .ok (.iconst 0, 1) := by decide +kernel
theorem dX9_undo_37 : decode cX9_undo 37 = .ok (.invokestatic 38, 3) := by decide +kernel
theorem dX9_undo_40 : decode cX9_undo 40 = .ok (.aload_n 0, 1) := by decide +kernel
theorem dX9_undo_41 : decode cX9_undo 41 = .ok (.getfield 42, 3) := by decide +kernel
theorem dX9_undo_44 : decode cX9_undo 44 = .ok (.ireturn, 1) := by decide +kernel
theorem dX9_save_0 : decode cX9_save 0 = .ok (.aload_n 0, 1) := by decide +kernel
theorem dX9_save_1 : decode cX9_save 1 = .ok (.getfield 9, 3) := by decide +kernel
theorem dX9_save_4 : decode cX9_save 4 = .ok (.iconst 0, 1) := by decide +kernel
theorem dX9_save_5 : decode cX9_save 5 = .ok (.aload_n 0, 1) := by decide +kernel
theorem dX9_save_6 : decode cX9_save 6 = .ok (.getfield 19, 3) := by decide +kernel
theorem dX9_save_9 : decode cX9_save 9 = .ok (.iconst 0, 1) := by decide +kernel
theorem dX9_save_10 : decode cX9_save 10 = .ok (.invokestatic 38, 3) := by decide +kernel
theorem dX9_save_13 : decode cX9_save 13 = .ok (.aload_n 0, 1) := by decide +kernel
theorem dX9_save_14 : decode cX9_save 14 = .ok (.iconst 1, 1) := by decide +kernel
theorem dX9_save_15 : decode cX9_save 15 = .ok (.putfield 297, 3) := by decide +kernel
theorem dX9_save_18 : decode cX9_save 18 = .ok (.aload_n 0, 1) := by decide +kernel
theorem dX9_save_19 : decode cX9_save 19 = .ok (.getfield 9, 3) := by decide +kernel
theorem dX9_save_22 : decode cX9_save 22 = .ok (.iconst 0, 1) := by decide +kernel
theorem dX9_save_23 : decode cX9_save 23 = .ok (.iaload, 1) := by decide +kernel
theorem dX9_save_24 : decode cX9_save 24 = .ok (.ireturn, 1) := by decide +kernel
theorem dX9_restore_0 : decode cX9_restore 0 = .ok (.aload_n 0, 1) := by decide +kernel
theorem dX9_restore_1 : decode cX9_restore 1 = .ok (.getfield 297, 3) := by decide +kernel
theorem dX9_restore_4 : decode cX9_restore 4 = .ok (.ifCond .ne 6, 3) := by decide +kernel
theorem dX9_restore_7 : decode cX9_restore 7 = .ok (.bipush (-4), 2) := by decide +kernel
theorem dX9_restore_9 : decode cX9_restore 9 = .ok (.ireturn, 1) := by decide +kernel
theorem dX9_restore_10 : decode cX9_restore 10 = .ok (.aload_n 0, 1) := by decide +kernel
theorem dX9_restore_11 : decode cX9_restore 11 = .ok (.getfield 19, 3) := by decide +kernel
theorem dX9_restore_14 : decode cX9_restore 14 = .ok (.iconst 0, 1) := by decide +kernel
theorem dX9_restore_15 : decode cX9_restore 15 = .ok (.aload_n 0, 1) := by decide +kernel
theorem dX9_restore_16 : decode cX9_restore 16 = .ok (.getfield 9, 3) := by decide +kernel
theorem dX9_restore_19 : decode cX9_restore 19 = .ok (.iconst 0, 1) := by decide +kernel
theorem dX9_restore_20 : decode cX9_restore 20 = .ok (.invokestatic 38, 3) := by decide +kernel
theorem dX9_restore_23 : decode cX9_restore 23 = .ok (.aload_n 0, 1) := by decide +kernel
theorem dX9_restore_24 : decode cX9_restore 24 = .ok (.iconst 0, 1) := by decide +kernel
theorem dX9_restore_25 : decode cX9_restore 25 = .ok (.putfield 42, 3) := by decide +kernel
theorem dX9_restore_28 : decode cX9_restore 28 = .ok (.aload_n 0, 1) := by decide +kernel
theorem dX9_restore_29 : decode cX9_restore 29 = .ok (.getfield 9, 3) := by decide +kernel
theorem dX9_restore_32 : decode cX9_restore 32 = .ok (.iconst 0, 1) := by decide +kernel
theorem dX9_restore_33 : decode cX9_restore 33 = .ok (.iaload, 1) := by decide +kernel
theorem dX9_restore_34 : decode cX9_restore 34 = .ok (.ireturn, 1) := by decide +kernel
end
section
theorem dJ5_init_d00df_0 : decode cJ5_init_d00df 0 = .ok (.aload_n 0, 1) := by decide +kernel
theorem dJ5_init_d00df_1 : decode cJ5_init_d00df 1 = .ok (.invokespecial 3, 3) := by decide +kernel
theorem dJ5_init_d00df_4 : decode cJ5_init_d00df 4 = .ok (.getstatic 18, 3) := by decide +kernel
theorem dJ5_init_d00df_7 : decode cJ5_init_d00df 7 = .ok (.ifCond .eq 18, 3) := by decide +kernel
theorem dJ5_init_d00df_10 : decode cJ5_init_d00df 10 = .ok (.aload_n 0, 1) := by decide +kernel
theorem dJ5_init_d00df_11 : decode cJ5_init_d00df 11 = .ok (.iload_n 1, 1) := by decide +kernel
theorem dJ5_init_d00df_12 : decode cJ5_init_d00df 12 = .ok (.newarray .byte, 2) := by decide +kernel
theorem dJ5_init_d00df_14 : decode cJ5_init_d00df 14 = .ok (.putfield 15, 3) := by decide +kernel
theorem dJ5_init_d00df_17 : decode cJ5_init_d00df 17 = .ok (.aload_n 0, 1) := by decide +kernel
theorem dJ5_init_d00df_18 : decode cJ5_init_d00df 18 = .ok (.iconst 0, 1) := by decide +kernel
theorem dJ5_init_d00df_19 : decode cJ5_init_d00df 19 = .ok (.putfield 22, 3) := by decide +kernel
theorem dJ5_init_d00df_22 : decode cJ5_init_d00df 22 = .ok (.goto 16, 3) := by decide +kernel
theorem dJ5_init_d00df_25 : decode cJ5_init_d00df 25 = .ok (.aload_n 0, 1) := by decide +kernel
theorem dJ5_init_d00df_26 : decode cJ5_init_d00df 26 = .ok (.iload_n 1, 1) := by decide +kernel
theorem dJ5_init_d00df_27 : decode cJ5_init_d00df 27 = .ok (.invokestatic 26, 3) := by decide +kernel
theorem dJ5_init_d00df_30 : decode cJ5_init_d00df 30 = .ok (.putfield 15, 3) := by decide +kernel
theorem dJ5_init_d00df_33 : decode cJ5_init_d00df 33 = .ok (.aload_n 0, 1) := by decide +kernel
theorem dJ5_init_d00df_34 : decode cJ5_init_d00df 34 = .ok (.iconst 1, 1) := by decide +kernel
theorem dJ5_init_d00df_35 : decode cJ5_init_d00df 35 = .ok (.putfield 22, 3) := by decide +kernel
theorem dJ5_init_d00df_38 : decode cJ5_init_d00df 38 = .ok (.return_, 1) := by decide +kernel
theorem dJ5_length_8abf5_0 : decode cJ5_length_8abf5 0 = .ok (.aload_n 0, 1) := by decide +kernel
theorem dJ5_length_8abf5_1 : decode cJ5_length_8abf5 1 = .ok (.getfield 79, 3) := by decide +kernel
theorem dJ5_length_8abf5_4 : decode cJ5_length_8abf5 4 = .ok (.ireturn, 1) := by decide +kernel
theorem dJ5_ensureCapacityInternal_d00df_0 : decode cJ5_ensureCapacityInternal_d00df 0 = .ok (.aload_n 0, 1) := by decide +kernel
theorem dJ5_ensureCapacityInternal_d00df_1 : decode cJ5_ensureCapacityInternal_d00df 1 = .ok (.getfield 15, 3) := by decide +kernel
theorem dJ5_ensureCapacityInternal_d00df_4 : decode cJ5_ensureCapacityInternal_d00df 4 = .ok (.arraylength, 1) := by decide +kernel
theorem dJ5_ensureCapacityInternal_d00df_5 : decode cJ5_ensureCapacityInternal_d00df 5 = .ok (.aload_n 0, 1) := by decide +kernel
theorem dJ5_ensureCapacityInternal_d00df_6 : decode cJ5_ensureCapacityInternal_d00df 6 = .ok (.getfield 22, 3) := by decide +kernel
theorem dJ5_ensureCapacityInternal_d00df_9 : decode cJ5_ensureCapacityInternal_d00df 9 = .ok (.ishr, 1) := by decide +kernel
theorem dJ5_ensureCapacityInternal_d00df_10 : decode cJ5_ensureCapacityInternal_d00df 10 = .ok (.istore_n 2, 1) := by decide +kernel
theorem dJ5_ensureCapacityInternal_d00df_11 : decode cJ5_ensureCapacityInternal_d00df 11 = .ok (.iload_n 1, 1) := by decide +kernel
theorem dJ5_ensureCapacityInternal_d00df_12 : decode cJ5_ensureCapacityInternal_d00df 12 = .ok (.iload_n 2, 1) := by decide +kernel
theorem dJ5_ensureCapacityInternal_d00df_13 : decode cJ5_ensureCapacityInternal_d00df 13 = .ok (.isub, 1) := by decide +kernel
theorem dJ5_ensureCapacityInternal_d00df_14 : decode cJ5_ensureCapacityInternal_d00df 14 = .ok (.ifCond .le 24, 3) := by decide +kernel
theorem dJ5_ensureCapacityInternal_d00df_17 : decode cJ5_ensureCapacityInternal_d00df 17 = .ok (.aload_n 0, 1) := by decide +kernel
theorem dJ5_ensureCapacityInternal_d00df_18 : decode cJ5_ensureCapacityInternal_d00df 18 = .ok (.aload_n 0, 1) := by decide +kernel
theorem dJ5_ensureCapacityInternal_d00df_19 : decode cJ5_ensureCapacityInternal_d00df 19 = .ok (.getfield 15, 3) := by decide +kernel
theorem dJ5_ensureCapacityInternal_d00df_22 : decode cJ5_ensureCapacityInternal_d00df 22 = .ok (.aload_n 0, 1) := by decide +kernel
theorem dJ5_ensureCapacityInternal_d00df_23 : decode cJ5_ensureCapacityInternal_d00df 23 = .ok (.iload_n 1, 1) := by decide +kernel
theorem dJ5_ensureCapacityInternal_d00df_24 : decode cJ5_ensureCapacityInternal_d00df 24 = .ok (.invokevirtual 104, 3) := by decide +kernel
theorem dJ5_ensureCapacityInternal_d00df_27 : decode cJ5_ensureCapacityInternal_d00df 27 = .ok (.aload_n 0, 1) := by decide +kernel
theorem dJ5_ensureCapacityInternal_d00df_28 : decode cJ5_ensureCapacityInternal_d00df 28 = .ok (.getfield 22, 3) := by decide +kernel
theorem dJ5_ensureCapacityInternal_d00df_31 : decode cJ5_ensureCapacityInternal_d00df 31 = .ok (.ishl, 1) := by decide +kernel
theorem dJ5_ensureCapacityInternal_d00df_32 : decode cJ5_ensureCapacityInternal_d00df 32 = .ok (.invokestatic 108, 3) := by decide +kernel
theorem dJ5_ensureCapacityInternal_d00df_35 : decode cJ5_ensureCapacityInternal_d00df 35 = .ok (.putfield 15, 3) := by decide +kernel
theorem dJ5_ensureCapacityInternal_d00df_38 : decode cJ5_ensureCapacityInternal_d00df 38 = .ok (.return_, 1) := by decide +kernel
theorem dJ5_newCapacity_0f7a4_0 : decode cJ5_newCapacity_0f7a4 0 = .ok (.aload_n 0, 1) := by decide +kernel
theorem dJ5_newCapacity_0f7a4_1 : decode cJ5_newCapacity_0f7a4 1 = .ok (.getfield 15, 3) := by decide +kernel
theorem dJ5_newCapacity_0f7a4_4 : decode cJ5_newCapacity_0f7a4 4 = .ok (.arraylength, 1) := by decide +kernel
theorem dJ5_newCapacity_0f7a4_5 : decode cJ5_newCapacity_0f7a4 5 = .ok (.istore_n 2, 1) := by decide +kernel
theorem dJ5_newCapacity_0f7a4_6 : decode cJ5_newCapacity_0f7a4 6 = .ok (.iload_n 1, 1) := by decide +kernel
theorem dJ5_newCapacity_0f7a4_7 : decode cJ5_newCapacity_0f7a4 7 = .ok (.aload_n 0, 1) := by decide +kernel
theorem dJ5_newCapacity_0f7a4_8 : decode cJ5_newCapacity_0f7a4 8 = .ok (.getfield 22, 3) := by decide +kernel
theorem dJ5_newCapacity_0f7a4_11 : decode cJ5_newCapacity_0f7a4 11 = .ok (.ishl, 1) := by decide +kernel
theorem dJ5_newCapacity_0f7a4_12 : decode cJ5_newCapacity_0f7a4 12 = .ok (.istore_n 3, 1) := by decide +kernel
theorem dJ5_newCapacity_0f7a4_13 : decode cJ5_newCapacity_0f7a4 13 = .ok (.iload_n 3, 1) := by decide +kernel
theorem dJ5_newCapacity_0f7a4_14 : decode cJ5_newCapacity_0f7a4 14 = .ok (.iload_n 2, 1) := by decide +kernel
theorem dJ5_newCapacity_0f7a4_15 : decode cJ5_newCapacity_0f7a4 15 = .ok (.isub, 1) := by decide +kernel
theorem dJ5_newCapacity_0f7a4_16 : decode cJ5_newCapacity_0f7a4 16 = .ok (.istore 4, 2) := by decide +kernel
theorem dJ5_newCapacity_0f7a4_18 : decode cJ5_newCapacity_0f7a4 18 = .ok (.iload_n 2, 1) := by decide +kernel
theorem dJ5_newCapacity_0f7a4_19 : decode cJ5_newCapacity_0f7a4 19 = .ok (.iload 4, 2) := by decide +kernel
theorem dJ5_newCapacity_0f7a4_21 : decode cJ5_newCapacity_0f7a4 21 = .ok (.iload_n 2, 1) := by decide +kernel
theorem dJ5_newCapacity_0f7a4_22 : decode cJ5_newCapacity_0f7a4 22 = .ok (.iconst 2, 1) := by decide +kernel
theorem dJ5_newCapacity_0f7a4_23 : decode cJ5_newCapacity_0f7a4 23 = .ok (.aload_n 0, 1) := by decide +kernel
theorem dJ5_newCapacity_0f7a4_24 : decode cJ5_newCapacity_0f7a4 24 = .ok (.getfield 22, 3) := by decide +kernel
theorem dJ5_newCapacity_0f7a4_27 : decode cJ5_newCapacity_0f7a4 27 = .ok (.ishl, 1) := by decide +kernel
theorem dJ5_newCapacity_0f7a4_28 : decode cJ5_newCapacity_0f7a4 28 = .ok (.iadd, 1) := by decide +kernel
theorem dJ5_newCapacity_0f7a4_29 : decode cJ5_newCapacity_0f7a4 29 = .ok (.invokestatic 114, 3) := by decide +kernel
theorem dJ5_newCapacity_0f7a4_32 : decode cJ5_newCapacity_0f7a4 32 = .ok (.istore 5, 2) := by decide +kernel
theorem dJ5_newCapacity_0f7a4_34 : decode cJ5_newCapacity_0f7a4 34 = .ok (.iload 5, 2) := by decide +kernel
theorem dJ5_newCapacity_0f7a4_36 : decode cJ5_newCapacity_0f7a4 36 = .ok (.ldc 39, 2) := by decide +kernel
theorem dJ5_newCapacity_0f7a4_38 : decode cJ5_newCapacity_0f7a4 38 = .ok (.if_icmp .ne 13, 3) := by decide +kernel
theorem dJ5_newCapacity_0f7a4_41 : decode cJ5_newCapacity_0f7a4 41 = .ok (.new 120, 3) := by decide +kernel
theorem dJ5_newCapacity_0f7a4_44 : decode cJ5_newCapacity_0f7a4 44 = .ok (.dup, 1) := by decide +kernel
theorem dJ5_newCapacity_0f7a4_45 : decode cJ5_newCapacity_0f7a4 45 = .ok (.ldc 122, 2) := by decide +kernel
theorem dJ5_newCapacity_0f7a4_47 : decode cJ5_newCapacity_0f7a4 47 = .ok (.invokespecial 124, 3) := by decide +kernel
theorem dJ5_newCapacity_0f7a4_50 : decode cJ5_newCapacity_0f7a4 50 = .ok (.athrow, 1) := by decide +kernel
theorem dJ5_newCapacity_0f7a4_51 : decode cJ5_newCapacity_0f7a4 51 = .ok (.iload 5, 2) := by decide +kernel
theorem dJ5_newCapacity_0f7a4_53 : decode cJ5_newCapacity_0f7a4 53 = .ok (.aload_n 0, 1) := by decide +kernel
theorem dJ5_newCapacity_0f7a4_54 : decode cJ5_newCapacity_0f7a4 54 = .ok (.getfield 22, 3) := by decide +kernel
theorem dJ5_newCapacity_0f7a4_57 : decode cJ5_newCapacity_0f7a4 57 = .ok (.ishr, 1) := by decide +kernel
theorem dJ5_newCapacity_0f7a4_58 : decode cJ5_newCapacity_0f7a4 58 = .ok (.ireturn, 1) := by decide +kernel
theorem dJ5_inflate_da8c8_0 : decode cJ5_inflate_da8c8 0 = .ok (.aload_n 0, 1) := by decide +kernel
theorem dJ5_inflate_da8c8_1 : decode cJ5_inflate_da8c8 1 = .ok (.invokevirtual 83, 3) := by decide +kernel
theorem dJ5_inflate_da8c8_4 : decode cJ5_inflate_da8c8 4 = .ok (.ifCond .ne 4, 3) := by decide +kernel
theorem dJ5_inflate_da8c8_7 : decode cJ5_inflate_da8c8 7 = .ok (.return_, 1) := by decide +kernel
theorem dJ5_inflate_da8c8_8 : decode cJ5_inflate_da8c8 8 = .ok (.aload_n 0, 1) := by decide +kernel
theorem dJ5_inflate_da8c8_9 : decode cJ5_inflate_da8c8 9 = .ok (.getfield 15, 3) := by decide +kernel
theorem dJ5_inflate_da8c8_12 : decode cJ5_inflate_da8c8 12 = .ok (.arraylength, 1) := by decide +kernel
theorem dJ5_inflate_da8c8_13 : decode cJ5_inflate_da8c8 13 = .ok (.invokestatic 26, 3) := by decide +kernel
theorem dJ5_inflate_da8c8_16 : decode cJ5_inflate_da8c8 16 = .ok (.astore_n 1, 1) := by decide +kernel
theorem dJ5_inflate_da8c8_17 : decode cJ5_inflate_da8c8 17 = .ok (.aload_n 0, 1) := by decide +kernel
theorem dJ5_inflate_da8c8_18 : decode cJ5_inflate_da8c8 18 = .ok (.getfield 15, 3) := by decide +kernel
theorem dJ5_inflate_da8c8_21 : decode cJ5_inflate_da8c8 21 = .ok (.iconst 0, 1) := by decide +kernel
theorem dJ5_inflate_da8c8_22 : decode cJ5_inflate_da8c8 22 = .ok (.aload_n 1, 1) := by decide +kernel
theorem dJ5_inflate_da8c8_23 : decode cJ5_inflate_da8c8 23 = .ok (.iconst 0, 1) := by decide +kernel
theorem dJ5_inflate_da8c8_24 : decode cJ5_inflate_da8c8 24 = .ok (.aload_n 0, 1) := by decide +kernel
theorem dJ5_inflate_da8c8_25 : decode cJ5_inflate_da8c8 25 = .ok (.getfield 79, 3) := by decide +kernel
theorem dJ5_inflate_da8c8_28 : decode cJ5_inflate_da8c8 28 = .ok (.invokestatic 125, 3) := by decide +kernel
theorem dJ5_inflate_da8c8_31 : decode cJ5_inflate_da8c8 31 = .ok (.aload_n 0, 1) := by decide +kernel
theorem dJ5_inflate_da8c8_32 : decode cJ5_inflate_da8c8 32 = .ok (.aload_n 1, 1) := by decide +kernel
theorem dJ5_inflate_da8c8_33 : decode cJ5_inflate_da8c8 33 = .ok (.putfield 15, 3) := by decide +kernel
theorem dJ5_inflate_da8c8_36 : decode cJ5_inflate_da8c8 36 = .ok (.aload_n 0, 1) := by decide +kernel
theorem dJ5_inflate_da8c8_37 : decode cJ5_inflate_da8c8 37 = .ok (.iconst 1, 1) := by decide +kernel
theorem dJ5_inflate_da8c8_38 : decode cJ5_inflate_da8c8 38 = .ok (.putfield 22, 3) := by decide +kernel
theorem dJ5_inflate_da8c8_41 : decode cJ5_inflate_da8c8 41 = .ok (.return_, 1) := by decide +kernel
theorem dJ5_setLength_d00df_0 : decode cJ5_setLength_d00df 0 = .ok (.iload_n 1, 1) := by decide +kernel
theorem dJ5_setLength_d00df_1 : decode cJ5_setLength_d00df 1 = .ok (.ifCond .ge 12, 3) := by decide +kernel
theorem dJ5_setLength_d00df_4 : decode cJ5_setLength_d00df 4 = .ok (.new 129, 3) := by decide +kernel
theorem dJ5_setLength_d00df_7 : decode cJ5_setLength_d00df 7 = .ok (.dup, 1) := by decide +kernel
theorem dJ5_setLength_d00df_8 : decode cJ5_setLength_d00df 8 = .ok (.iload_n 1, 1) := by decide +kernel
theorem dJ5_setLength_d00df_9 : decode cJ5_setLength_d00df 9 = .ok (.invokespecial 131, 3) := by decide +kernel
theorem dJ5_setLength_d00df_12 : decode cJ5_setLength_d00df 12 = .ok (.athrow, 1) := by decide +kernel
theorem dJ5_setLength_d00df_13 : decode cJ5_setLength_d00df 13 = .ok (.aload_n 0, 1) := by decide +kernel
theorem dJ5_setLength_d00df_14 : decode cJ5_setLength_d00df 14 = .ok (.iload_n 1, 1) := by decide +kernel
theorem dJ5_setLength_d00df_15 : decode cJ5_setLength_d00df 15 = .ok (.invokevirtual 100, 3) := by decide +kernel
theorem dJ5_setLength_d00df_18 : decode cJ5_setLength_d00df 18 = .ok (.aload_n 0, 1) := by decide +kernel
theorem dJ5_setLength_d00df_19 : decode cJ5_setLength_d00df 19 = .ok (.getfield 79, 3) := by decide +kernel
theorem dJ5_setLength_d00df_22 : decode cJ5_setLength_d00df 22 = .ok (.iload_n 1, 1) := by decide +kernel
theorem dJ5_setLength_d00df_23 : decode cJ5_setLength_d00df 23 = .ok (.if_icmp .ge 40, 3) := by decide +kernel
theorem dJ5_setLength_d00df_26 : decode cJ5_setLength_d00df 26 = .ok (.aload_n 0, 1) := by decide +kernel
theorem dJ5_setLength_d00df_27 : decode cJ5_setLength_d00df 27 = .ok (.invokevirtual 83, 3) := by decide +kernel
theorem dJ5_setLength_d00df_30 : decode cJ5_setLength_d00df 30 = .ok (.ifCond .eq 18, 3) := by decide +kernel
theorem dJ5_setLength_d00df_33 : decode cJ5_setLength_d00df 33 = .ok (.aload_n 0, 1) := by decide +kernel
theorem dJ5_setLength_d00df_34 : decode cJ5_setLength_d00df 34 = .ok (.getfield 15, 3) := by decide +kernel
theorem dJ5_setLength_d00df_37 : decode cJ5_setLength_d00df 37 = .ok (.aload_n 0, 1) := by decide +kernel
theorem dJ5_setLength_d00df_38 : decode cJ5_setLength_d00df 38 = .ok (.getfield 79, 3) := by decide +kernel
theorem dJ5_setLength_d00df_41 : decode cJ5_setLength_d00df 41 = .ok (.iload_n 1, 1) := by decide +kernel
theorem dJ5_setLength_d00df_42 : decode cJ5_setLength_d00df 42 = .ok (.invokestatic 133, 3) := by decide +kernel
theorem dJ5_setLength_d00df_45 : decode cJ5_setLength_d00df 45 = .ok (.goto 31, 3) := by decide +kernel
theorem dJ5_setLength_d00df_48 : decode cJ5_setLength_d00df 48 = .ok (.aload_n 0, 1) := by decide +kernel
theorem dJ5_setLength_d00df_49 : decode cJ5_setLength_d00df 49 = .ok (.getfield 15, 3) := by decide +kernel
theorem dJ5_setLength_d00df_52 : decode cJ5_setLength_d00df 52 = .ok (.aload_n 0, 1) := by decide +kernel
theorem dJ5_setLength_d00df_53 : decode cJ5_setLength_d00df 53 = .ok (.getfield 79, 3) := by decide +kernel
theorem dJ5_setLength_d00df_56 : decode cJ5_setLength_d00df 56 = .ok (.iload_n 1, 1) := by decide +kernel
theorem dJ5_setLength_d00df_57 : decode cJ5_setLength_d00df 57 = .ok (.invokestatic 137, 3) := by decide +kernel
theorem dJ5_setLength_d00df_60 : decode cJ5_setLength_d00df 60 = .ok (.goto 16, 3) := by decide +kernel
theorem dJ5_setLength_d00df_63 : decode cJ5_setLength_d00df 63 = .ok (.aload_n 0, 1) := by decide +kernel
theorem dJ5_setLength_d00df_64 : decode cJ5_setLength_d00df 64 = .ok (.getfield 79, 3) := by decide +kernel
theorem dJ5_setLength_d00df_67 : decode cJ5_setLength_d00df 67 = .ok (.iload_n 1, 1) := by decide +kernel
theorem dJ5_setLength_d00df_68 : decode cJ5_setLength_d00df 68 = .ok (.if_icmp .le 8, 3) := by decide +kernel
theorem dJ5_setLength_d00df_71 : decode cJ5_setLength_d00df 71 = .ok (.aload_n 0, 1) := by decide +kernel
theorem dJ5_setLength_d00df_72 : decode cJ5_setLength_d00df 72 = .ok (.iconst 1, 1) := by decide +kernel
theorem dJ5_setLength_d00df_73 : decode cJ5_setLength_d00df 73 = .ok (.putfield 73, 3) := by decide +kernel
theorem dJ5_setLength_d00df_76 : decode cJ5_setLength_d00df 76 = .ok (.aload_n 0, 1) := by decide +kernel
theorem dJ5_setLength_d00df_77 : decode cJ5_setLength_d00df 77 = .ok (.iload_n 1, 1) := by decide +kernel
theorem dJ5_setLength_d00df_78 : decode cJ5_setLength_d00df 78 = .ok (.putfield 79, 3) := by decide +kernel
theorem dJ5_setLength_d00df_81 : decode cJ5_setLength_d00df 81 = .ok (.return_, 1) := by decide +kernel
theorem dJ5_charAt_5068e_0 : decode cJ5_charAt_5068e 0 = .ok (.aload_n 0, 1) := by decide +kernel
theorem dJ5_charAt_5068e_1 : decode cJ5_charAt_5068e 1 = .ok (.getfield 22, 3) := by decide +kernel
theorem dJ5_charAt_5068e_4 : decode cJ5_charAt_5068e 4 = .ok (.istore_n 2, 1) := by decide +kernel
theorem dJ5_charAt_5068e_5 : decode cJ5_charAt_5068e 5 = .ok (.aload_n 0, 1) := by decide +kernel
theorem dJ5_charAt_5068e_6 : decode cJ5_charAt_5068e 6 = .ok (.getfield 15, 3) := by decide +kernel
theorem dJ5_charAt_5068e_9 : decode cJ5_charAt_5068e 9 = .ok (.astore_n 3, 1) := by decide +kernel
theorem dJ5_charAt_5068e_10 : decode cJ5_charAt_5068e 10 = .ok (.aload_n 0, 1) := by decide +kernel
theorem dJ5_charAt_5068e_11 : decode cJ5_charAt_5068e 11 = .ok (.getfield 79, 3) := by decide +kernel
theorem dJ5_charAt_5068e_14 : decode cJ5_charAt_5068e 14 = .ok (.aload_n 3, 1) := by decide +kernel
theorem dJ5_charAt_5068e_15 : decode cJ5_charAt_5068e 15 = .ok (.arraylength, 1) := by decide +kernel
theorem dJ5_charAt_5068e_16 : decode cJ5_charAt_5068e 16 = .ok (.iload_n 2, 1) := by decide +kernel
theorem dJ5_charAt_5068e_17 : decode cJ5_charAt_5068e 17 = .ok (.ishr, 1) := by decide +kernel
theorem dJ5_charAt_5068e_18 : decode cJ5_charAt_5068e 18 = .ok (.invokestatic 138, 3) := by decide +kernel
theorem dJ5_charAt_5068e_21 : decode cJ5_charAt_5068e 21 = .ok (.istore 4, 2) := by decide +kernel
theorem dJ5_charAt_5068e_23 : decode cJ5_charAt_5068e 23 = .ok (.iload_n 1, 1) := by decide +kernel
theorem dJ5_charAt_5068e_24 : decode cJ5_charAt_5068e 24 = .ok (.iload 4, 2) := by decide +kernel
theorem dJ5_charAt_5068e_26 : decode cJ5_charAt_5068e 26 = .ok (.invokestatic 144, 3) := by decide +kernel
theorem dJ5_charAt_5068e_29 : decode cJ5_charAt_5068e 29 = .ok (.iload_n 2, 1) := by decide +kernel
theorem dJ5_charAt_5068e_30 : decode cJ5_charAt_5068e 30 = .ok (.ifCond .ne 12, 3) := by decide +kernel
theorem dJ5_charAt_5068e_33 : decode cJ5_charAt_5068e 33 = .ok (.aload_n 3, 1) := by decide +kernel
theorem dJ5_charAt_5068e_34 : decode cJ5_charAt_5068e 34 = .ok (.iload_n 1, 1) := by decide +kernel
theorem dJ5_charAt_5068e_35 : decode cJ5_charAt_5068e 35 = .ok (.baload, 1) := by decide +kernel
theorem dJ5_charAt_5068e_36 : decode cJ5_charAt_5068e 36 = .ok (.sipush 255, 3) := by decide +kernel
theorem dJ5_charAt_5068e_39 : decode cJ5_charAt_5068e 39 = .ok (.iand, 1) := by decide +kernel
theorem dJ5_charAt_5068e_40 : decode cJ5_charAt_5068e 40 = .ok (.i2c, 1) := by decide +kernel
theorem dJ5_charAt_5068e_41 : decode cJ5_charAt_5068e 41 = .ok (.ireturn, 1) := by decide +kernel
theorem dJ5_charAt_5068e_42 : decode cJ5_charAt_5068e 42 = .ok (.aload_n 3, 1) := by decide +kernel
theorem dJ5_charAt_5068e_43 : decode cJ5_charAt_5068e 43 = .ok (.iload_n 1, 1) := by decide +kernel
theorem dJ5_charAt_5068e_44 : decode cJ5_charAt_5068e 44 = .ok (.invokestatic 148, 3) := by decide +kernel
theorem dJ5_charAt_5068e_47 : decode cJ5_charAt_5068e 47 = .ok (.ireturn, 1) := by decide +kernel
theorem dJ5_append_3fe6f_0 : decode cJ5_append_3fe6f 0 = .ok (.aload_n 0, 1) := by decide +kernel
theorem dJ5_append_3fe6f_1 : decode cJ5_append_3fe6f 1 = .ok (.aload_n 0, 1) := by decide +kernel
theorem dJ5_append_3fe6f_2 : decode cJ5_append_3fe6f 2 = .ok (.getfield 79, 3) := by decide +kernel
theorem dJ5_append_3fe6f_5 : decode cJ5_append_3fe6f 5 = .ok (.iconst 1, 1) := by decide +kernel
theorem dJ5_append_3fe6f_6 : decode cJ5_append_3fe6f 6 = .ok (.iadd, 1) := by decide +kernel
theorem dJ5_append_3fe6f_7 : decode cJ5_append_3fe6f 7 = .ok (.invokevirtual 100, 3) := by decide +kernel
theorem dJ5_append_3fe6f_10 : decode cJ5_append_3fe6f 10 = .ok (.aload_n 0, 1) := by decide +kernel
theorem dJ5_append_3fe6f_11 : decode cJ5_append_3fe6f 11 = .ok (.invokevirtual 83, 3) := by decide +kernel
theorem dJ5_append_3fe6f_14 : decode cJ5_append_3fe6f 14 = .ok (.ifCond .eq 31, 3) := by decide +kernel
theorem dJ5_append_3fe6f_17 : decode cJ5_append_3fe6f 17 = .ok (.iload_n 1, 1) := by decide +kernel
theorem dJ5_append_3fe6f_18 : decode cJ5_append_3fe6f 18 = .ok (.invokestatic 191, 3) := by decide +kernel
theorem dJ5_append_3fe6f_21 : decode cJ5_append_3fe6f 21 = .ok (.ifCond .eq 24, 3) := by decide +kernel
theorem dJ5_append_3fe6f_24 : decode cJ5_append_3fe6f 24 = .ok (.aload_n 0, 1) := by decide +kernel
theorem dJ5_append_3fe6f_25 : decode cJ5_append_3fe6f 25 = .ok (.getfield 15, 3) := by decide +kernel
theorem dJ5_append_3fe6f_28 : decode cJ5_append_3fe6f 28 = .ok (.aload_n 0, 1) := by decide +kernel
theorem dJ5_append_3fe6f_29 : decode cJ5_append_3fe6f 29 = .ok (.dup, 1) := by decide +kernel
theorem dJ5_append_3fe6f_30 : decode cJ5_append_3fe6f 30 = .ok (.getfield 79, 3) := by decide +kernel
theorem dJ5_append_3fe6f_33 : decode cJ5_append_3fe6f 33 = .ok (.dup_x1, 1) := by decide +kernel
theorem dJ5_append_3fe6f_34 : decode cJ5_append_3fe6f 34 = .ok (.iconst 1, 1) := by decide +kernel
theorem dJ5_append_3fe6f_35 : decode cJ5_append_3fe6f 35 = .ok (.iadd, 1) := by decide +kernel
theorem dJ5_append_3fe6f_36 : decode cJ5_append_3fe6f 36 = .ok (.putfield 79, 3) := by decide +kernel
theorem dJ5_append_3fe6f_39 : decode cJ5_append_3fe6f 39 = .ok (.iload_n 1, 1) := by decide +kernel
theorem dJ5_append_3fe6f_40 : decode cJ5_append_3fe6f 40 = .ok (.i2b, 1) := by decide +kernel
theorem dJ5_append_3fe6f_41 : decode cJ5_append_3fe6f 41 = .ok (.bastore, 1) := by decide +kernel
theorem dJ5_append_3fe6f_42 : decode cJ5_append_3fe6f 42 = .ok (.goto 33, 3) := by decide +kernel
theorem dJ5_append_3fe6f_45 : decode cJ5_append_3fe6f 45 = .ok (.aload_n 0, 1) := by decide +kernel
theorem dJ5_append_3fe6f_46 : decode cJ5_append_3fe6f 46 = .ok (.invokevirtual 83, 3) := by decide +kernel
theorem dJ5_append_3fe6f_49 : decode cJ5_append_3fe6f 49 = .ok (.ifCond .eq 7, 3) := by decide +kernel
theorem dJ5_append_3fe6f_52 : decode cJ5_append_3fe6f 52 = .ok (.aload_n 0, 1) := by decide +kernel
theorem dJ5_append_3fe6f_53 : decode cJ5_append_3fe6f 53 = .ok (.invokevirtual 195, 3) := by decide +kernel
theorem dJ5_append_3fe6f_56 : decode cJ5_append_3fe6f 56 = .ok (.aload_n 0, 1) := by decide +kernel
theorem dJ5_append_3fe6f_57 : decode cJ5_append_3fe6f 57 = .ok (.getfield 15, 3) := by decide +kernel
theorem dJ5_append_3fe6f_60 : decode cJ5_append_3fe6f 60 = .ok (.aload_n 0, 1) := by decide +kernel
theorem dJ5_append_3fe6f_61 : decode cJ5_append_3fe6f 61 = .ok (.dup, 1) := by decide +kernel
theorem dJ5_append_3fe6f_62 : decode cJ5_append_3fe6f 62 = .ok (.getfield 79, 3) := by decide +kernel
theorem dJ5_append_3fe6f_65 : decode cJ5_append_3fe6f 65 = .ok (.dup_x1, 1) := by decide +kernel
theorem dJ5_append_3fe6f_66 : decode cJ5_append_3fe6f 66 = .ok (.iconst 1, 1) := by decide +kernel
theorem dJ5_append_3fe6f_67 : decode cJ5_append_3fe6f 67 = .ok (.iadd, 1) := by decide +kernel
theorem dJ5_append_3fe6f_68 : decode cJ5_append_3fe6f 68 = .ok (.putfield 79, 3) := by decide +kernel
theorem dJ5_append_3fe6f_71 : decode cJ5_append_3fe6f 71 = .ok (.iload_n 1, 1) := by decide +kernel
theorem dJ5_append_3fe6f_72 : decode cJ5_append_3fe6f 72 = .ok (.invokestatic 197, 3) := by decide +kernel
theorem dJ5_append_3fe6f_75 : decode cJ5_append_3fe6f 75 = .ok (.aload_n 0, 1) := by decide +kernel
theorem dJ5_append_3fe6f_76 : decode cJ5_append_3fe6f 76 = .ok (.areturn, 1) := by decide +kernel
theorem dJ5_append_c97b9_0 : decode cJ5_append_c97b9 0 = .ok (.aload_n 0, 1) := by decide +kernel
theorem dJ5_append_c97b9_1 : decode cJ5_append_c97b9 1 = .ok (.getfield 79, 3) := by decide +kernel
theorem dJ5_append_c97b9_4 : decode cJ5_append_c97b9 4 = .ok (.istore_n 2, 1) := by decide +kernel
theorem dJ5_append_c97b9_5 : decode cJ5_append_c97b9 5 = .ok (.iload_n 2, 1) := by decide +kernel
theorem dJ5_append_c97b9_6 : decode cJ5_append_c97b9 6 = .ok (.iload_n 1, 1) := by decide +kernel
theorem dJ5_append_c97b9_7 : decode cJ5_append_c97b9 7 = .ok (.invokestatic 245, 3) := by decide +kernel
theorem dJ5_append_c97b9_10 : decode cJ5_append_c97b9 10 = .ok (.iadd, 1) := by decide +kernel
theorem dJ5_append_c97b9_11 : decode cJ5_append_c97b9 11 = .ok (.istore_n 3, 1) := by decide +kernel
theorem dJ5_append_c97b9_12 : decode cJ5_append_c97b9 12 = .ok (.aload_n 0, 1) := by decide +kernel
theorem dJ5_append_c97b9_13 : decode cJ5_append_c97b9 13 = .ok (.iload_n 3, 1) := by decide +kernel
theorem dJ5_append_c97b9_14 : decode cJ5_append_c97b9 14 = .ok (.invokevirtual 100, 3) := by decide +kernel
theorem dJ5_append_c97b9_17 : decode cJ5_append_c97b9 17 = .ok (.aload_n 0, 1) := by decide +kernel
theorem dJ5_append_c97b9_18 : decode cJ5_append_c97b9 18 = .ok (.invokevirtual 83, 3) := by decide +kernel
theorem dJ5_append_c97b9_21 : decode cJ5_append_c97b9 21 = .ok (.ifCond .eq 16, 3) := by decide +kernel
theorem dJ5_append_c97b9_24 : decode cJ5_append_c97b9 24 = .ok (.iload_n 1, 1) := by decide +kernel
theorem dJ5_append_c97b9_25 : decode cJ5_append_c97b9 25 = .ok (.iload_n 3, 1) := by decide +kernel
theorem dJ5_append_c97b9_26 : decode cJ5_append_c97b9 26 = .ok (.aload_n 0, 1) := by decide +kernel
theorem dJ5_append_c97b9_27 : decode cJ5_append_c97b9 27 = .ok (.getfield 15, 3) := by decide +kernel
theorem dJ5_append_c97b9_30 : decode cJ5_append_c97b9 30 = .ok (.invokestatic 248, 3) := by decide +kernel
theorem dJ5_append_c97b9_33 : decode cJ5_append_c97b9 33 = .ok (.pop, 1) := by decide +kernel
theorem dJ5_append_c97b9_34 : decode cJ5_append_c97b9 34 = .ok (.goto 14, 3) := by decide +kernel
theorem dJ5_append_c97b9_37 : decode cJ5_append_c97b9 37 = .ok (.iload_n 1, 1) := by decide +kernel
theorem dJ5_append_c97b9_38 : decode cJ5_append_c97b9 38 = .ok (.iload_n 2, 1) := by decide +kernel
theorem dJ5_append_c97b9_39 : decode cJ5_append_c97b9 39 = .ok (.iload_n 3, 1) := by decide +kernel
theorem dJ5_append_c97b9_40 : decode cJ5_append_c97b9 40 = .ok (.aload_n 0, 1) := by decide +kernel
theorem dJ5_append_c97b9_41 : decode cJ5_append_c97b9 41 = .ok (.getfield 15, 3) := by decide +kernel
theorem dJ5_append_c97b9_44 : decode cJ5_append_c97b9 44 = .ok (.invokestatic 251, 3) := by decide +kernel
theorem dJ5_append_c97b9_47 : decode cJ5_append_c97b9 47 = .ok (.pop, 1) := by decide +kernel
theorem dJ5_append_c97b9_48 : decode cJ5_append_c97b9 48 = .ok (.aload_n 0, 1) := by decide +kernel
theorem dJ5_append_c97b9_49 : decode cJ5_append_c97b9 49 = .ok (.iload_n 3, 1) := by decide +kernel
theorem dJ5_append_c97b9_50 : decode cJ5_append_c97b9 50 = .ok (.putfield 79, 3) := by decide +kernel
theorem dJ5_append_c97b9_53 : decode cJ5_append_c97b9 53 = .ok (.aload_n 0, 1) := by decide +kernel
theorem dJ5_append_c97b9_54 : decode cJ5_append_c97b9 54 = .ok (.areturn, 1) := by decide +kernel
theorem dJ5_isLatin1_aae02_0 : decode cJ5_isLatin1_aae02 0 = .ok (.getstatic 18, 3) := by decide +kernel
theorem dJ5_isLatin1_aae02_3 : decode cJ5_isLatin1_aae02 3 = .ok (.ifCond .eq 14, 3) := by decide +kernel
theorem dJ5_isLatin1_aae02_6 : decode cJ5_isLatin1_aae02 6 = .ok (.aload_n 0, 1) := by decide +kernel
theorem dJ5_isLatin1_aae02_7 : decode cJ5_isLatin1_aae02 7 = .ok (.getfield 22, 3) := by decide +kernel
theorem dJ5_isLatin1_aae02_10 : decode cJ5_isLatin1_aae02 10 = .ok (.ifCond .ne 7, 3) := by decide +kernel
theorem dJ5_isLatin1_aae02_13 : decode cJ5_isLatin1_aae02 13 = .ok (.iconst 1, 1) := by decide +kernel
theorem dJ5_isLatin1_aae02_14 : decode cJ5_isLatin1_aae02 14 = .ok (.goto 4, 3) := by decide +kernel
theorem dJ5_isLatin1_aae02_17 : decode cJ5_isLatin1_aae02 17 = .ok (.iconst 0, 1) := by decide +kernel
theorem dJ5_isLatin1_aae02_18 : decode cJ5_isLatin1_aae02 18 = .ok (.ireturn, 1) := by decide +kernel
theorem dJx29ce0_ordinal_8abf5_0 : decode cJx29ce0_ordinal_8abf5 0 = .ok (.aload_n 0, 1) := by decide +kernel
theorem dJx29ce0_ordinal_8abf5_1 : decode cJx29ce0_ordinal_8abf5 1 = .ok (.getfield 7, 3) := by decide +kernel
theorem dJx29ce0_ordinal_8abf5_4 : decode cJx29ce0_ordinal_8abf5 4 = .ok (.ireturn, 1) := by decide +kernel
theorem dJ6_getChars_ba4f3_0 : decode cJ6_getChars_ba4f3 0 = .ok (.iload_n 1, 1) := by decide +kernel
theorem dJ6_getChars_ba4f3_1 : decode cJ6_getChars_ba4f3 1 = .ok (.istore 5, 2) := by decide +kernel
theorem dJ6_getChars_ba4f3_3 : decode cJ6_getChars_ba4f3 3 = .ok (.iload_n 0, 1) := by decide +kernel
theorem dJ6_getChars_ba4f3_4 : decode cJ6_getChars_ba4f3 4 = .ok (.ifCond .ge 7, 3) := by decide +kernel
theorem dJ6_getChars_ba4f3_7 : decode cJ6_getChars_ba4f3 7 = .ok (.iconst 1, 1) := by decide +kernel
theorem dJ6_getChars_ba4f3_8 : decode cJ6_getChars_ba4f3 8 = .ok (.goto 4, 3) := by decide +kernel
theorem dJ6_getChars_ba4f3_11 : decode cJ6_getChars_ba4f3 11 = .ok (.iconst 0, 1) := by decide +kernel
theorem dJ6_getChars_ba4f3_12 : decode cJ6_getChars_ba4f3 12 = .ok (.istore 6, 2) := by decide +kernel
theorem dJ6_getChars_ba4f3_14 : decode cJ6_getChars_ba4f3 14 = .ok (.iload 6, 2) := by decide +kernel
theorem dJ6_getChars_ba4f3_16 : decode cJ6_getChars_ba4f3 16 = .ok (.ifCond .ne 6, 3) := by decide +kernel
theorem dJ6_getChars_ba4f3_19 : decode cJ6_getChars_ba4f3 19 = .ok (.iload_n 0, 1) := by decide +kernel
theorem dJ6_getChars_ba4f3_20 : decode cJ6_getChars_ba4f3 20 = .ok (.ineg, 1) := by decide +kernel
theorem dJ6_getChars_ba4f3_21 : decode cJ6_getChars_ba4f3 21 = .ok (.istore_n 0, 1) := by decide +kernel
theorem dJ6_getChars_ba4f3_22 : decode cJ6_getChars_ba4f3 22 = .ok (.iload_n 0, 1) := by decide +kernel
theorem dJ6_getChars_ba4f3_23 : decode cJ6_getChars_ba4f3 23 = .ok (.bipush (-100), 2) := by decide +kernel
theorem dJ6_getChars_ba4f3_25 : decode cJ6_getChars_ba4f3 25 = .ok (.if_icmp .gt 47, 3) := by decide +kernel
theorem dJ6_getChars_ba4f3_28 : decode cJ6_getChars_ba4f3 28 = .ok (.iload_n 0, 1) := by decide +kernel
theorem dJ6_getChars_ba4f3_29 : decode cJ6_getChars_ba4f3 29 = .ok (.bipush 100, 2) := by decide +kernel
theorem dJ6_getChars_ba4f3_31 : decode cJ6_getChars_ba4f3 31 = .ok (.idiv, 1) := by decide +kernel
theorem dJ6_getChars_ba4f3_32 : decode cJ6_getChars_ba4f3 32 = .ok (.istore_n 3, 1) := by decide +kernel
theorem dJ6_getChars_ba4f3_33 : decode cJ6_getChars_ba4f3 33 = .ok (.iload_n 3, 1) := by decide +kernel
theorem dJ6_getChars_ba4f3_34 : decode cJ6_getChars_ba4f3 34 = .ok (.bipush 100, 2) := by decide +kernel
theorem dJ6_getChars_ba4f3_36 : decode cJ6_getChars_ba4f3 36 = .ok (.imul, 1) := by decide +kernel
theorem dJ6_getChars_ba4f3_37 : decode cJ6_getChars_ba4f3 37 = .ok (.iload_n 0, 1) := by decide +kernel
theorem dJ6_getChars_ba4f3_38 : decode cJ6_getChars_ba4f3 38 = .ok (.isub, 1) := by decide +kernel
theorem dJ6_getChars_ba4f3_39 : decode cJ6_getChars_ba4f3 39 = .ok (.istore 4, 2) := by decide +kernel
theorem dJ6_getChars_ba4f3_41 : decode cJ6_getChars_ba4f3 41 = .ok (.iload_n 3, 1) := by decide +kernel
theorem dJ6_getChars_ba4f3_42 : decode cJ6_getChars_ba4f3 42 = .ok (.istore_n 0, 1) := by decide +kernel
theorem dJ6_getChars_ba4f3_43 : decode cJ6_getChars_ba4f3 43 = .ok (.aload_n 2, 1) := by decide +kernel
theorem dJ6_getChars_ba4f3_44 : decode cJ6_getChars_ba4f3 44 = .ok (.iinc 5 (-1), 3) := by decide +kernel
theorem dJ6_getChars_ba4f3_47 : decode cJ6_getChars_ba4f3 47 = .ok (.iload 5, 2) := by decide +kernel
theorem dJ6_getChars_ba4f3_49 : decode cJ6_getChars_ba4f3 49 = .ok (.getstatic 83, 3) := by decide +kernel
theorem dJ6_getChars_ba4f3_52 : decode cJ6_getChars_ba4f3 52 = .ok (.iload 4, 2) := by decide +kernel
theorem dJ6_getChars_ba4f3_54 : decode cJ6_getChars_ba4f3 54 = .ok (.baload, 1) := by decide +kernel
theorem dJ6_getChars_ba4f3_55 : decode cJ6_getChars_ba4f3 55 = .ok (.bastore, 1) := by decide +kernel
theorem dJ6_getChars_ba4f3_56 : decode cJ6_getChars_ba4f3 56 = .ok (.aload_n 2, 1) := by decide +kernel
theorem dJ6_getChars_ba4f3_57 : decode cJ6_getChars_ba4f3 57 = .ok (.iinc 5 (-1), 3) := by decide +kernel
theorem dJ6_getChars_ba4f3_60 : decode cJ6_getChars_ba4f3 60 = .ok (.iload 5, 2) := by decide +kernel
theorem dJ6_getChars_ba4f3_62 : decode cJ6_getChars_ba4f3 62 = .ok (.getstatic 87, 3) := by decide +kernel
theorem dJ6_getChars_ba4f3_65 : decode cJ6_getChars_ba4f3 65 = .ok (.iload 4, 2) := by decide +kernel
theorem dJ6_getChars_ba4f3_67 : decode cJ6_getChars_ba4f3 67 = .ok (.baload, 1) := by decide +kernel
theorem dJ6_getChars_ba4f3_68 : decode cJ6_getChars_ba4f3 68 = .ok (.bastore, 1) := by decide +kernel
theorem dJ6_getChars_ba4f3_69 : decode cJ6_getChars_ba4f3 69 = .ok (.goto (-47), 3) := by decide +kernel
theorem dJ6_getChars_ba4f3_72 : decode cJ6_getChars_ba4f3 72 = .ok (.aload_n 2, 1) := by decide +kernel
theorem dJ6_getChars_ba4f3_73 : decode cJ6_getChars_ba4f3 73 = .ok (.iinc 5 (-1), 3) := by decide +kernel
theorem dJ6_getChars_ba4f3_76 : decode cJ6_getChars_ba4f3 76 = .ok (.iload 5, 2) := by decide +kernel
theorem dJ6_getChars_ba4f3_78 : decode cJ6_getChars_ba4f3 78 = .ok (.getstatic 83, 3) := by decide +kernel
theorem dJ6_getChars_ba4f3_81 : decode cJ6_getChars_ba4f3 81 = .ok (.iload_n 0, 1) := by decide +kernel
theorem dJ6_getChars_ba4f3_82 : decode cJ6_getChars_ba4f3 82 = .ok (.ineg, 1) := by decide +kernel
theorem dJ6_getChars_ba4f3_83 : decode cJ6_getChars_ba4f3 83 = .ok (.baload, 1) := by decide +kernel
theorem dJ6_getChars_ba4f3_84 : decode cJ6_getChars_ba4f3 84 = .ok (.bastore, 1) := by decide +kernel
theorem dJ6_getChars_ba4f3_85 : decode cJ6_getChars_ba4f3 85 = .ok (.iload_n 0, 1) := by decide +kernel
theorem dJ6_getChars_ba4f3_86 : decode cJ6_getChars_ba4f3 86 = .ok (.bipush (-9), 2) := by decide +kernel
theorem dJ6_getChars_ba4f3_88 : decode cJ6_getChars_ba4f3 88 = .ok (.if_icmp .ge 16, 3) := by decide +kernel
theorem dJ6_getChars_ba4f3_91 : decode cJ6_getChars_ba4f3 91 = .ok (.aload_n 2, 1) := by decide +kernel
theorem dJ6_getChars_ba4f3_92 : decode cJ6_getChars_ba4f3 92 = .ok (.iinc 5 (-1), 3) := by decide +kernel
theorem dJ6_getChars_ba4f3_95 : decode cJ6_getChars_ba4f3 95 = .ok (.iload 5, 2) := by decide +kernel
theorem dJ6_getChars_ba4f3_97 : decode cJ6_getChars_ba4f3 97 = .ok (.getstatic 87, 3) := by decide +kernel
theorem dJ6_getChars_ba4f3_100 : decode cJ6_getChars_ba4f3 100 = .ok (.iload_n 0, 1) := by decide +kernel
theorem dJ6_getChars_ba4f3_101 : decode cJ6_getChars_ba4f3 101 = .ok (.ineg, 1) := by decide +kernel
theorem dJ6_getChars_ba4f3_102 : decode cJ6_getChars_ba4f3 102 = .ok (.baload, 1) := by decide +kernel
theorem dJ6_getChars_ba4f3_103 : decode cJ6_getChars_ba4f3 103 = .ok (.bastore, 1) := by decide +kernel
theorem dJ6_getChars_ba4f3_104 : decode cJ6_getChars_ba4f3 104 = .ok (.iload 6, 2) := by decide +kernel
theorem dJ6_getChars_ba4f3_106 : decode cJ6_getChars_ba4f3 106 = .ok (.ifCond .eq 12, 3) := by decide +kernel
theorem dJ6_getChars_ba4f3_109 : decode cJ6_getChars_ba4f3 109 = .ok (.aload_n 2, 1) := by decide +kernel
theorem dJ6_getChars_ba4f3_110 : decode cJ6_getChars_ba4f3 110 = .ok (.iinc 5 (-1), 3) := by decide +kernel
theorem dJ6_getChars_ba4f3_113 : decode cJ6_getChars_ba4f3 113 = .ok (.iload 5, 2) := by decide +kernel
theorem dJ6_getChars_ba4f3_115 : decode cJ6_getChars_ba4f3 115 = .ok (.bipush 45, 2) := by decide +kernel
theorem dJ6_getChars_ba4f3_117 : decode cJ6_getChars_ba4f3 117 = .ok (.bastore, 1) := by decide +kernel
theorem dJ6_getChars_ba4f3_118 : decode cJ6_getChars_ba4f3 118 = .ok (.iload 5, 2) := by decide +kernel
theorem dJ6_getChars_ba4f3_120 : decode cJ6_getChars_ba4f3 120 = .ok (.ireturn, 1) := by decide +kernel
theorem dJ6_stringSize_0f7a4_0 : decode cJ6_stringSize_0f7a4 0 = .ok (.iconst 1, 1) := by decide +kernel
theorem dJ6_stringSize_0f7a4_1 : decode cJ6_stringSize_0f7a4 1 = .ok (.istore_n 1, 1) := by decide +kernel
theorem dJ6_stringSize_0f7a4_2 : decode cJ6_stringSize_0f7a4 2 = .ok (.iload_n 0, 1) := by decide +kernel
theorem dJ6_stringSize_0f7a4_3 : decode cJ6_stringSize_0f7a4 3 = .ok (.ifCond .lt 8, 3) := by decide +kernel
theorem dJ6_stringSize_0f7a4_6 : decode cJ6_stringSize_0f7a4 6 = .ok (.iconst 0, 1) := by decide +kernel
theorem dJ6_stringSize_0f7a4_7 : decode cJ6_stringSize_0f7a4 7 = .ok (.istore_n 1, 1) := by decide +kernel
theorem dJ6_stringSize_0f7a4_8 : decode cJ6_stringSize_0f7a4 8 = .ok (.iload_n 0, 1) := by decide +kernel
theorem dJ6_stringSize_0f7a4_9 : decode cJ6_stringSize_0f7a4 9 = .ok (.ineg, 1) := by decide +kernel
theorem dJ6_stringSize_0f7a4_10 : decode cJ6_stringSize_0f7a4 10 = .ok (.istore_n 0, 1) := by decide +kernel
theorem dJ6_stringSize_0f7a4_11 : decode cJ6_stringSize_0f7a4 11 = .ok (.bipush (-10), 2) := by decide +kernel
theorem dJ6_stringSize_0f7a4_13 : decode cJ6_stringSize_0f7a4 13 = .ok (.istore_n 2, 1) := by decide +kernel
theorem dJ6_stringSize_0f7a4_14 : decode cJ6_stringSize_0f7a4 14 = .ok (.iconst 1, 1) := by decide +kernel
theorem dJ6_stringSize_0f7a4_15 : decode cJ6_stringSize_0f7a4 15 = .ok (.istore_n 3, 1) := by decide +kernel
theorem dJ6_stringSize_0f7a4_16 : decode cJ6_stringSize_0f7a4 16 = .ok (.iload_n 3, 1) := by decide +kernel
theorem dJ6_stringSize_0f7a4_17 : decode cJ6_stringSize_0f7a4 17 = .ok (.bipush 10, 2) := by decide +kernel
theorem dJ6_stringSize_0f7a4_19 : decode cJ6_stringSize_0f7a4 19 = .ok (.if_icmp .ge 23, 3) := by decide +kernel
theorem dJ6_stringSize_0f7a4_22 : decode cJ6_stringSize_0f7a4 22 = .ok (.iload_n 0, 1) := by decide +kernel
theorem dJ6_stringSize_0f7a4_23 : decode cJ6_stringSize_0f7a4 23 = .ok (.iload_n 2, 1) := by decide +kernel
theorem dJ6_stringSize_0f7a4_24 : decode cJ6_stringSize_0f7a4 24 = .ok (.if_icmp .le 7, 3) := by decide +kernel
theorem dJ6_stringSize_0f7a4_27 : decode cJ6_stringSize_0f7a4 27 = .ok (.iload_n 3, 1) := by decide +kernel
theorem dJ6_stringSize_0f7a4_28 : decode cJ6_stringSize_0f7a4 28 = .ok (.iload_n 1, 1) := by decide +kernel
theorem dJ6_stringSize_0f7a4_29 : decode cJ6_stringSize_0f7a4 29 = .ok (.iadd, 1) := by decide +kernel
theorem dJ6_stringSize_0f7a4_30 : decode cJ6_stringSize_0f7a4 30 = .ok (.ireturn, 1) := by decide +kernel
theorem dJ6_stringSize_0f7a4_31 : decode cJ6_stringSize_0f7a4 31 = .ok (.bipush 10, 2) := by decide +kernel
theorem dJ6_stringSize_0f7a4_33 : decode cJ6_stringSize_0f7a4 33 = .ok (.iload_n 2, 1) := by decide +kernel
theorem dJ6_stringSize_0f7a4_34 : decode cJ6_stringSize_0f7a4 34 = .ok (.imul, 1) := by decide +kernel
theorem dJ6_stringSize_0f7a4_35 : decode cJ6_stringSize_0f7a4 35 = .ok (.istore_n 2, 1) := by decide +kernel
theorem dJ6_stringSize_0f7a4_36 : decode cJ6_stringSize_0f7a4 36 = .ok (.iinc 3 1, 3) := by decide +kernel
theorem dJ6_stringSize_0f7a4_39 : decode cJ6_stringSize_0f7a4 39 = .ok (.goto (-23), 3) := by decide +kernel
theorem dJ6_stringSize_0f7a4_42 : decode cJ6_stringSize_0f7a4 42 = .ok (.bipush 10, 2) := by decide +kernel
theorem dJ6_stringSize_0f7a4_44 : decode cJ6_stringSize_0f7a4 44 = .ok (.iload_n 1, 1) := by decide +kernel
theorem dJ6_stringSize_0f7a4_45 : decode cJ6_stringSize_0f7a4 45 = .ok (.iadd, 1) := by decide +kernel
theorem dJ6_stringSize_0f7a4_46 : decode cJ6_stringSize_0f7a4 46 = .ok (.ireturn, 1) := by decide +kernel
theorem dJ9_max_7cf53_0 : decode cJ9_max_7cf53 0 = .ok (.iload_n 0, 1) := by decide +kernel
theorem dJ9_max_7cf53_1 : decode cJ9_max_7cf53 1 = .ok (.iload_n 1, 1) := by decide +kernel
theorem dJ9_max_7cf53_2 : decode cJ9_max_7cf53 2 = .ok (.if_icmp .lt 7, 3) := by decide +kernel
theorem dJ9_max_7cf53_5 : decode cJ9_max_7cf53 5 = .ok (.iload_n 0, 1) := by decide +kernel
theorem dJ9_max_7cf53_6 : decode cJ9_max_7cf53 6 = .ok (.goto 4, 3) := by decide +kernel
theorem dJ9_max_7cf53_9 : decode cJ9_max_7cf53 9 = .ok (.iload_n 1, 1) := by decide +kernel
theorem dJ9_max_7cf53_10 : decode cJ9_max_7cf53 10 = .ok (.ireturn, 1) := by decide +kernel
theorem dJ9_min_7cf53_0 : decode cJ9_min_7cf53 0 = .ok (.iload_n 0, 1) := by decide +kernel
theorem dJ9_min_7cf53_1 : decode cJ9_min_7cf53 1 = .ok (.iload_n 1, 1) := by decide +kernel
theorem dJ9_min_7cf53_2 : decode cJ9_min_7cf53 2 = .ok (.if_icmp .gt 7, 3) := by decide +kernel
theorem dJ9_min_7cf53_5 : decode cJ9_min_7cf53 5 = .ok (.iload_n 0, 1) := by decide +kernel
theorem dJ9_min_7cf53_6 : decode cJ9_min_7cf53 6 = .ok (.goto 4, 3) := by decide +kernel
theorem dJ9_min_7cf53_9 : decode cJ9_min_7cf53 9 = .ok (.iload_n 1, 1) := by decide +kernel
theorem dJ9_min_7cf53_10 : decode cJ9_min_7cf53 10 = .ok (.ireturn, 1) := by decide +kernel
theorem dJ0_length_8abf5_0 : decode cJ0_length_8abf5 0 = .ok (.aload_n 0, 1) := by decide +kernel
theorem dJ0_length_8abf5_1 : decode cJ0_length_8abf5 1 = .ok (.getfield 9, 3) := by decide +kernel
theorem dJ0_length_8abf5_4 : decode cJ0_length_8abf5 4 = .ok (.arraylength, 1) := by decide +kernel
theorem dJ0_length_8abf5_5 : decode cJ0_length_8abf5 5 = .ok (.aload_n 0, 1) := by decide +kernel
theorem dJ0_length_8abf5_6 : decode cJ0_length_8abf5 6 = .ok (.invokevirtual 335, 3) := by decide +kernel
theorem dJ0_length_8abf5_9 : decode cJ0_length_8abf5 9 = .ok (.ishr, 1) := by decide +kernel
theorem dJ0_length_8abf5_10 : decode cJ0_length_8abf5 10 = .ok (.ireturn, 1) := by decide +kernel
theorem dJ0_charAt_5068e_0 : decode cJ0_charAt_5068e 0 = .ok (.aload_n 0, 1) := by decide +kernel
theorem dJ0_charAt_5068e_1 : decode cJ0_charAt_5068e 1 = .ok (.invokevirtual 492, 3) := by decide +kernel
theorem dJ0_charAt_5068e_4 : decode cJ0_charAt_5068e 4 = .ok (.ifCond .eq 12, 3) := by decide +kernel
theorem dJ0_charAt_5068e_7 : decode cJ0_charAt_5068e 7 = .ok (.aload_n 0, 1) := by decide +kernel
theorem dJ0_charAt_5068e_8 : decode cJ0_charAt_5068e 8 = .ok (.getfield 9, 3) := by decide +kernel
theorem dJ0_charAt_5068e_11 : decode cJ0_charAt_5068e 11 = .ok (.iload_n 1, 1) := by decide +kernel
theorem dJ0_charAt_5068e_12 : decode cJ0_charAt_5068e 12 = .ok (.invokestatic 495, 3) := by decide +kernel
theorem dJ0_charAt_5068e_15 : decode cJ0_charAt_5068e 15 = .ok (.ireturn, 1) := by decide +kernel
theorem dJ0_charAt_5068e_16 : decode cJ0_charAt_5068e 16 = .ok (.aload_n 0, 1) := by decide +kernel
theorem dJ0_charAt_5068e_17 : decode cJ0_charAt_5068e 17 = .ok (.getfield 9, 3) := by decide +kernel
theorem dJ0_charAt_5068e_20 : decode cJ0_charAt_5068e 20 = .ok (.iload_n 1, 1) := by decide +kernel
theorem dJ0_charAt_5068e_21 : decode cJ0_charAt_5068e 21 = .ok (.invokestatic 498, 3) := by decide +kernel
theorem dJ0_charAt_5068e_24 : decode cJ0_charAt_5068e 24 = .ok (.ireturn, 1) := by decide +kernel
theorem dJ0_coder_7d493_0 : decode cJ0_coder_7d493 0 = .ok (.getstatic 38, 3) := by decide +kernel
theorem dJ0_coder_7d493_3 : decode cJ0_coder_7d493 3 = .ok (.ifCond .eq 10, 3) := by decide +kernel
theorem dJ0_coder_7d493_6 : decode cJ0_coder_7d493 6 = .ok (.aload_n 0, 1) := by decide +kernel
theorem dJ0_coder_7d493_7 : decode cJ0_coder_7d493 7 = .ok (.getfield 15, 3) := by decide +kernel
theorem dJ0_coder_7d493_10 : decode cJ0_coder_7d493 10 = .ok (.goto 4, 3) := by decide +kernel
theorem dJ0_coder_7d493_13 : decode cJ0_coder_7d493 13 = .ok (.iconst 1, 1) := by decide +kernel
theorem dJ0_coder_7d493_14 : decode cJ0_coder_7d493 14 = .ok (.ireturn, 1) := by decide +kernel
theorem dJ0_isLatin1_aae02_0 : decode cJ0_isLatin1_aae02 0 = .ok (.getstatic 38, 3) := by decide +kernel
theorem dJ0_isLatin1_aae02_3 : decode cJ0_isLatin1_aae02 3 = .ok (.ifCond .eq 14, 3) := by decide +kernel
theorem dJ0_isLatin1_aae02_6 : decode cJ0_isLatin1_aae02 6 = .ok (.aload_n 0, 1) := by decide +kernel
theorem dJ0_isLatin1_aae02_7 : decode cJ0_isLatin1_aae02 7 = .ok (.getfield 15, 3) := by decide +kernel
theorem dJ0_isLatin1_aae02_10 : decode cJ0_isLatin1_aae02 10 = .ok (.ifCond .ne 7, 3) := by decide +kernel
theorem dJ0_isLatin1_aae02_13 : decode cJ0_isLatin1_aae02 13 = .ok (.iconst 1, 1) := by decide +kernel
theorem dJ0_isLatin1_aae02_14 : decode cJ0_isLatin1_aae02 14 = .ok (.goto 4, 3) := by decide +kernel
theorem dJ0_isLatin1_aae02_17 : decode cJ0_isLatin1_aae02 17 = .ok (.iconst 0, 1) := by decide +kernel
theorem dJ0_isLatin1_aae02_18 : decode cJ0_isLatin1_aae02 18 = .ok (.ireturn, 1) := by decide +kernel
theorem dJ0_checkIndex_df160_0 : decode cJ0_checkIndex_df160 0 = .ok (.iload_n 0, 1) := by decide +kernel
theorem dJ0_checkIndex_df160_1 : decode cJ0_checkIndex_df160 1 = .ok (.iload_n 1, 1) := by decide +kernel
theorem dJ0_checkIndex_df160_2 : decode cJ0_checkIndex_df160 2 = .ok (.getstatic 1053, 3) := by decide +kernel
theorem dJ0_checkIndex_df160_5 : decode cJ0_checkIndex_df160 5 = .ok (.invokestatic 1059, 3) := by decide +kernel
theorem dJ0_checkIndex_df160_8 : decode cJ0_checkIndex_df160 8 = .ok (.pop, 1) := by decide +kernel
theorem dJ0_checkIndex_df160_9 : decode cJ0_checkIndex_df160 9 = .ok (.return_, 1) := by decide +kernel
theorem dJ0_checkBoundsOffCount_cabcc_0 : decode cJ0_checkBoundsOffCount_cabcc 0 = .ok (.iload_n 0, 1) := by decide +kernel
theorem dJ0_checkBoundsOffCount_cabcc_1 : decode cJ0_checkBoundsOffCount_cabcc 1 = .ok (.iload_n 1, 1) := by decide +kernel
theorem dJ0_checkBoundsOffCount_cabcc_2 : decode cJ0_checkBoundsOffCount_cabcc 2 = .ok (.iload_n 2, 1) := by decide +kernel
theorem dJ0_checkBoundsOffCount_cabcc_3 : decode cJ0_checkBoundsOffCount_cabcc 3 = .ok (.getstatic 1053, 3) := by decide +kernel
theorem dJ0_checkBoundsOffCount_cabcc_6 : decode cJ0_checkBoundsOffCount_cabcc 6 = .ok (.invokestatic 1065, 3) := by decide +kernel
theorem dJ0_checkBoundsOffCount_cabcc_9 : decode cJ0_checkBoundsOffCount_cabcc 9 = .ok (.ireturn, 1) := by decide +kernel
theorem dJ0_checkBoundsBeginEnd_23922_0 : decode cJ0_checkBoundsBeginEnd_23922 0 = .ok (.iload_n 0, 1) := by decide +kernel
theorem dJ0_checkBoundsBeginEnd_23922_1 : decode cJ0_checkBoundsBeginEnd_23922 1 = .ok (.iload_n 1, 1) := by decide +kernel
theorem dJ0_checkBoundsBeginEnd_23922_2 : decode cJ0_checkBoundsBeginEnd_23922 2 = .ok (.iload_n 2, 1) := by decide +kernel
theorem dJ0_checkBoundsBeginEnd_23922_3 : decode cJ0_checkBoundsBeginEnd_23922 3 = .ok (.getstatic 1053, 3) := by decide +kernel
theorem dJ0_checkBoundsBeginEnd_23922_6 : decode cJ0_checkBoundsBeginEnd_23922 6 = .ok (.invokestatic 1062, 3) := by decide +kernel
theorem dJ0_checkBoundsBeginEnd_23922_9 : decode cJ0_checkBoundsBeginEnd_23922 9 = .ok (.pop, 1) := by decide +kernel
theorem dJ0_checkBoundsBeginEnd_23922_10 : decode cJ0_checkBoundsBeginEnd_23922 10 = .ok (.return_, 1) := by decide +kernel
theorem dJ4_init_da8c8_0 : decode cJ4_init_da8c8 0 = .ok (.aload_n 0, 1) := by decide +kernel
theorem dJ4_init_da8c8_1 : decode cJ4_init_da8c8 1 = .ok (.bipush 16, 2) := by decide +kernel
theorem dJ4_init_da8c8_3 : decode cJ4_init_da8c8 3 = .ok (.invokespecial 1, 3) := by decide +kernel
theorem dJ4_init_da8c8_6 : decode cJ4_init_da8c8 6 = .ok (.return_, 1) := by decide +kernel
theorem dJ4_append_cf468_0 : decode cJ4_append_cf468 0 = .ok (.aload_n 0, 1) := by decide +kernel
theorem dJ4_append_cf468_1 : decode cJ4_append_cf468 1 = .ok (.iload_n 1, 1) := by decide +kernel
theorem dJ4_append_cf468_2 : decode cJ4_append_cf468 2 = .ok (.invokespecial 50, 3) := by decide +kernel
theorem dJ4_append_cf468_5 : decode cJ4_append_cf468 5 = .ok (.pop, 1) := by decide +kernel
theorem dJ4_append_cf468_6 : decode cJ4_append_cf468 6 = .ok (.aload_n 0, 1) := by decide +kernel
theorem dJ4_append_cf468_7 : decode cJ4_append_cf468 7 = .ok (.areturn, 1) := by decide +kernel
theorem dJ4_append_bf812_0 : decode cJ4_append_bf812 0 = .ok (.aload_n 0, 1) := by decide +kernel
theorem dJ4_append_bf812_1 : decode cJ4_append_bf812 1 = .ok (.iload_n 1, 1) := by decide +kernel
theorem dJ4_append_bf812_2 : decode cJ4_append_bf812 2 = .ok (.invokespecial 53, 3) := by decide +kernel
theorem dJ4_append_bf812_5 : decode cJ4_append_bf812 5 = .ok (.pop, 1) := by decide +kernel
theorem dJ4_append_bf812_6 : decode cJ4_append_bf812 6 = .ok (.aload_n 0, 1) := by decide +kernel
theorem dJ4_append_bf812_7 : decode cJ4_append_bf812 7 = .ok (.areturn, 1) := by decide +kernel
theorem dJ4_charAt_5068e_0 : decode cJ4_charAt_5068e 0 = .ok (.aload_n 0, 1) := by decide +kernel
theorem dJ4_charAt_5068e_1 : decode cJ4_charAt_5068e 1 = .ok (.iload_n 1, 1) := by decide +kernel
theorem dJ4_charAt_5068e_2 : decode cJ4_charAt_5068e 2 = .ok (.invokespecial 329, 3) := by decide +kernel
theorem dJ4_charAt_5068e_5 : decode cJ4_charAt_5068e 5 = .ok (.ireturn, 1) := by decide +kernel
theorem dJ4_setLength_d00df_0 : decode cJ4_setLength_d00df 0 = .ok (.aload_n 0, 1) := by decide +kernel
theorem dJ4_setLength_d00df_1 : decode cJ4_setLength_d00df 1 = .ok (.iload_n 1, 1) := by decide +kernel
theorem dJ4_setLength_d00df_2 : decode cJ4_setLength_d00df 2 = .ok (.invokespecial 333, 3) := by decide +kernel
theorem dJ4_setLength_d00df_5 : decode cJ4_setLength_d00df 5 = .ok (.return_, 1) := by decide +kernel
theorem dJ4_length_8abf5_0 : decode cJ4_length_8abf5 0 = .ok (.aload_n 0, 1) := by decide +kernel
theorem dJ4_length_8abf5_1 : decode cJ4_length_8abf5 1 = .ok (.invokespecial 343, 3) := by decide +kernel
theorem dJ4_length_8abf5_4 : decode cJ4_length_8abf5 4 = .ok (.ireturn, 1) := by decide +kernel
theorem dJ1_charAt_3b067_0 : decode cJ1_charAt_3b067 0 = .ok (.iload_n 1, 1) := by decide +kernel
theorem dJ1_charAt_3b067_1 : decode cJ1_charAt_3b067 1 = .ok (.aload_n 0, 1) := by decide +kernel
theorem dJ1_charAt_3b067_2 : decode cJ1_charAt_3b067 2 = .ok (.arraylength, 1) := by decide +kernel
theorem dJ1_charAt_3b067_3 : decode cJ1_charAt_3b067 3 = .ok (.invokestatic 9, 3) := by decide +kernel
theorem dJ1_charAt_3b067_6 : decode cJ1_charAt_3b067 6 = .ok (.aload_n 0, 1) := by decide +kernel
theorem dJ1_charAt_3b067_7 : decode cJ1_charAt_3b067 7 = .ok (.iload_n 1, 1) := by decide +kernel
theorem dJ1_charAt_3b067_8 : decode cJ1_charAt_3b067 8 = .ok (.baload, 1) := by decide +kernel
theorem dJ1_charAt_3b067_9 : decode cJ1_charAt_3b067 9 = .ok (.sipush 255, 3) := by decide +kernel
theorem dJ1_charAt_3b067_12 : decode cJ1_charAt_3b067 12 = .ok (.iand, 1) := by decide +kernel
theorem dJ1_charAt_3b067_13 : decode cJ1_charAt_3b067 13 = .ok (.i2c, 1) := by decide +kernel
theorem dJ1_charAt_3b067_14 : decode cJ1_charAt_3b067 14 = .ok (.ireturn, 1) := by decide +kernel
theorem dJ1_canEncode_fc78d_0 : decode cJ1_canEncode_fc78d 0 = .ok (.iload_n 0, 1) := by decide +kernel
theorem dJ1_canEncode_fc78d_1 : decode cJ1_canEncode_fc78d 1 = .ok (.sipush 255, 3) := by decide +kernel
theorem dJ1_canEncode_fc78d_4 : decode cJ1_canEncode_fc78d 4 = .ok (.if_icmp .gt 7, 3) := by decide +kernel
theorem dJ1_canEncode_fc78d_7 : decode cJ1_canEncode_fc78d 7 = .ok (.iconst 1, 1) := by decide +kernel
theorem dJ1_canEncode_fc78d_8 : decode cJ1_canEncode_fc78d 8 = .ok (.goto 4, 3) := by decide +kernel
theorem dJ1_canEncode_fc78d_11 : decode cJ1_canEncode_fc78d 11 = .ok (.iconst 0, 1) := by decide +kernel
theorem dJ1_canEncode_fc78d_12 : decode cJ1_canEncode_fc78d 12 = .ok (.ireturn, 1) := by decide +kernel
theorem dJ1_fillNull_b72d1_0 : decode cJ1_fillNull_b72d1 0 = .ok (.aload_n 0, 1) := by decide +kernel
theorem dJ1_fillNull_b72d1_1 : decode cJ1_fillNull_b72d1 1 = .ok (.iload_n 1, 1) := by decide +kernel
theorem dJ1_fillNull_b72d1_2 : decode cJ1_fillNull_b72d1 2 = .ok (.iload_n 2, 1) := by decide +kernel
theorem dJ1_fillNull_b72d1_3 : decode cJ1_fillNull_b72d1 3 = .ok (.iconst 0, 1) := by decide +kernel
theorem dJ1_fillNull_b72d1_4 : decode cJ1_fillNull_b72d1 4 = .ok (.invokestatic 236, 3) := by decide +kernel
theorem dJ1_fillNull_b72d1_7 : decode cJ1_fillNull_b72d1 7 = .ok (.return_, 1) := by decide +kernel
theorem dJ1_inflate_0e8fd_0 : decode cJ1_inflate_0e8fd 0 = .ok (.aload_n 0, 1) := by decide +kernel
theorem dJ1_inflate_0e8fd_1 : decode cJ1_inflate_0e8fd 1 = .ok (.iload_n 1, 1) := by decide +kernel
theorem dJ1_inflate_0e8fd_2 : decode cJ1_inflate_0e8fd 2 = .ok (.aload_n 2, 1) := by decide +kernel
theorem dJ1_inflate_0e8fd_3 : decode cJ1_inflate_0e8fd 3 = .ok (.iload_n 3, 1) := by decide +kernel
theorem dJ1_inflate_0e8fd_4 : decode cJ1_inflate_0e8fd 4 = .ok (.iload 4, 2) := by decide +kernel
theorem dJ1_inflate_0e8fd_6 : decode cJ1_inflate_0e8fd 6 = .ok (.invokestatic 240, 3) := by decide +kernel
theorem dJ1_inflate_0e8fd_9 : decode cJ1_inflate_0e8fd 9 = .ok (.return_, 1) := by decide +kernel
theorem dJ2_newBytesFor_77867_0 : decode cJ2_newBytesFor_77867 0 = .ok (.iload_n 0, 1) := by decide +kernel
theorem dJ2_newBytesFor_77867_1 : decode cJ2_newBytesFor_77867 1 = .ok (.invokestatic 11, 3) := by decide +kernel
theorem dJ2_newBytesFor_77867_4 : decode cJ2_newBytesFor_77867 4 = .ok (.newarray .byte, 2) := by decide +kernel
theorem dJ2_newBytesFor_77867_6 : decode cJ2_newBytesFor_77867 6 = .ok (.areturn, 1) := by decide +kernel
theorem dJ2_newBytesLength_0f7a4_0 : decode cJ2_newBytesLength_0f7a4 0 = .ok (.iload_n 0, 1) := by decide +kernel
theorem dJ2_newBytesLength_0f7a4_1 : decode cJ2_newBytesLength_0f7a4 1 = .ok (.ifCond .ge 11, 3) := by decide +kernel
theorem dJ2_newBytesLength_0f7a4_4 : decode cJ2_newBytesLength_0f7a4 4 = .ok (.new 17, 3) := by decide +kernel
theorem dJ2_newBytesLength_0f7a4_7 : decode cJ2_newBytesLength_0f7a4 7 = .ok (.dup, 1) := by decide +kernel
theorem dJ2_newBytesLength_0f7a4_8 : decode cJ2_newBytesLength_0f7a4 8 = .ok (.invokespecial 19, 3) := by decide +kernel
theorem dJ2_newBytesLength_0f7a4_11 : decode cJ2_newBytesLength_0f7a4 11 = .ok (.athrow, 1) := by decide +kernel
theorem dJ2_newBytesLength_0f7a4_12 : decode cJ2_newBytesLength_0f7a4 12 = .ok (.iload_n 0, 1) := by decide +kernel
theorem dJ2_newBytesLength_0f7a4_13 : decode cJ2_newBytesLength_0f7a4 13 = .ok (.ldc 20, 2) := by decide +kernel
theorem dJ2_newBytesLength_0f7a4_15 : decode cJ2_newBytesLength_0f7a4 15 = .ok (.if_icmp .lt 40, 3) := by decide +kernel
theorem dJ2_newBytesLength_0f7a4_18 : decode cJ2_newBytesLength_0f7a4 18 = .ok (.new 21, 3) := by decide +kernel
theorem dJ2_newBytesLength_0f7a4_21 : decode cJ2_newBytesLength_0f7a4 21 = .ok (.dup, 1) := by decide +kernel
theorem dJ2_newBytesLength_0f7a4_22 : decode cJ2_newBytesLength_0f7a4 22 = .ok (.new 23, 3) := by decide +kernel
theorem dJ2_newBytesLength_0f7a4_25 : decode cJ2_newBytesLength_0f7a4 25 = .ok (.dup, 1) := by decide +kernel
theorem dJ2_newBytesLength_0f7a4_26 : decode cJ2_newBytesLength_0f7a4 26 = .ok (.invokespecial 25, 3) := by decide +kernel
theorem dJ2_newBytesLength_0f7a4_29 : decode cJ2_newBytesLength_0f7a4 29 = .ok (.ldc 26, 2) := by decide +kernel
theorem dJ2_newBytesLength_0f7a4_31 : decode cJ2_newBytesLength_0f7a4 31 = .ok (.invokevirtual 28, 3) := by decide +kernel
theorem dJ2_newBytesLength_0f7a4_34 : decode cJ2_newBytesLength_0f7a4 34 = .ok (.iload_n 0, 1) := by decide +kernel
theorem dJ2_newBytesLength_0f7a4_35 : decode cJ2_newBytesLength_0f7a4 35 = .ok (.invokevirtual 32, 3) := by decide +kernel
theorem dJ2_newBytesLength_0f7a4_38 : decode cJ2_newBytesLength_0f7a4 38 = .ok (.ldc 35, 2) := by decide +kernel
theorem dJ2_newBytesLength_0f7a4_40 : decode cJ2_newBytesLength_0f7a4 40 = .ok (.invokevirtual 28, 3) := by decide +kernel
theorem dJ2_newBytesLength_0f7a4_43 : decode cJ2_newBytesLength_0f7a4 43 = .ok (.ldc 20, 2) := by decide +kernel
theorem dJ2_newBytesLength_0f7a4_45 : decode cJ2_newBytesLength_0f7a4 45 = .ok (.invokevirtual 32, 3) := by decide +kernel
theorem dJ2_newBytesLength_0f7a4_48 : decode cJ2_newBytesLength_0f7a4 48 = .ok (.invokevirtual 37, 3) := by decide +kernel
theorem dJ2_newBytesLength_0f7a4_51 : decode cJ2_newBytesLength_0f7a4 51 = .ok (.invokespecial 41, 3) := by decide +kernel
theorem dJ2_newBytesLength_0f7a4_54 : decode cJ2_newBytesLength_0f7a4 54 = .ok (.athrow, 1) := by decide +kernel
theorem dJ2_newBytesLength_0f7a4_55 : decode cJ2_newBytesLength_0f7a4 55 = .ok (.iload_n 0, 1) := by decide +kernel
theorem dJ2_newBytesLength_0f7a4_56 : decode cJ2_newBytesLength_0f7a4 56 = .ok (.iconst 1, 1) := by decide +kernel
theorem dJ2_newBytesLength_0f7a4_57 : decode cJ2_newBytesLength_0f7a4 57 = .ok (.ishl, 1) := by decide +kernel
theorem dJ2_newBytesLength_0f7a4_58 : decode cJ2_newBytesLength_0f7a4 58 = .ok (.ireturn, 1) := by decide +kernel
theorem dJ2_putChar_b72d1_0 : decode cJ2_putChar_b72d1 0 = .ok (.getstatic 44, 3) := by decide +kernel
theorem dJ2_putChar_b72d1_3 : decode cJ2_putChar_b72d1 3 = .ok (.ifCond .ne 25, 3) := by decide +kernel
theorem dJ2_putChar_b72d1_6 : decode cJ2_putChar_b72d1 6 = .ok (.iload_n 1, 1) := by decide +kernel
theorem dJ2_putChar_b72d1_7 : decode cJ2_putChar_b72d1 7 = .ok (.ifCond .lt 11, 3) := by decide +kernel
theorem dJ2_putChar_b72d1_10 : decode cJ2_putChar_b72d1 10 = .ok (.iload_n 1, 1) := by decide +kernel
theorem dJ2_putChar_b72d1_11 : decode cJ2_putChar_b72d1 11 = .ok (.aload_n 0, 1) := by decide +kernel
theorem dJ2_putChar_b72d1_12 : decode cJ2_putChar_b72d1 12 = .ok (.invokestatic 48, 3) := by decide +kernel
theorem dJ2_putChar_b72d1_15 : decode cJ2_putChar_b72d1 15 = .ok (.if_icmp .lt 13, 3) := by decide +kernel
theorem dJ2_putChar_b72d1_18 : decode cJ2_putChar_b72d1 18 = .ok (.new 52, 3) := by decide +kernel
theorem dJ2_putChar_b72d1_21 : decode cJ2_putChar_b72d1 21 = .ok (.dup, 1) := by decide +kernel
theorem dJ2_putChar_b72d1_22 : decode cJ2_putChar_b72d1 22 = .ok (.ldc 54, 2) := by decide +kernel
theorem dJ2_putChar_b72d1_24 : decode cJ2_putChar_b72d1 24 = .ok (.invokespecial 56, 3) := by decide +kernel
theorem dJ2_putChar_b72d1_27 : decode cJ2_putChar_b72d1 27 = .ok (.athrow, 1) := by decide +kernel
theorem dJ2_putChar_b72d1_28 : decode cJ2_putChar_b72d1 28 = .ok (.iload_n 1, 1) := by decide +kernel
theorem dJ2_putChar_b72d1_29 : decode cJ2_putChar_b72d1 29 = .ok (.iconst 1, 1) := by decide +kernel
theorem dJ2_putChar_b72d1_30 : decode cJ2_putChar_b72d1 30 = .ok (.ishl, 1) := by decide +kernel
theorem dJ2_putChar_b72d1_31 : decode cJ2_putChar_b72d1 31 = .ok (.istore_n 1, 1) := by decide +kernel
theorem dJ2_putChar_b72d1_32 : decode cJ2_putChar_b72d1 32 = .ok (.aload_n 0, 1) := by decide +kernel
theorem dJ2_putChar_b72d1_33 : decode cJ2_putChar_b72d1 33 = .ok (.iload_n 1, 1) := by decide +kernel
theorem dJ2_putChar_b72d1_34 : decode cJ2_putChar_b72d1 34 = .ok (.iinc 1 1, 3) := by decide +kernel
theorem dJ2_putChar_b72d1_37 : decode cJ2_putChar_b72d1 37 = .ok (.iload_n 2, 1) := by decide +kernel
theorem dJ2_putChar_b72d1_38 : decode cJ2_putChar_b72d1 38 = .ok (.getstatic 59, 3) := by decide +kernel
theorem dJ2_putChar_b72d1_41 : decode cJ2_putChar_b72d1 41 = .ok (.ishr, 1) := by decide +kernel
theorem dJ2_putChar_b72d1_42 : decode cJ2_putChar_b72d1 42 = .ok (.i2b, 1) := by decide +kernel
theorem dJ2_putChar_b72d1_43 : decode cJ2_putChar_b72d1 43 = .ok (.bastore, 1) := by decide +kernel
theorem dJ2_putChar_b72d1_44 : decode cJ2_putChar_b72d1 44 = .ok (.aload_n 0, 1) := by decide +kernel
theorem dJ2_putChar_b72d1_45 : decode cJ2_putChar_b72d1 45 = .ok (.iload_n 1, 1) := by decide +kernel
theorem dJ2_putChar_b72d1_46 : decode cJ2_putChar_b72d1 46 = .ok (.iload_n 2, 1) := by decide +kernel
theorem dJ2_putChar_b72d1_47 : decode cJ2_putChar_b72d1 47 = .ok (.getstatic 63, 3) := by decide +kernel
theorem dJ2_putChar_b72d1_50 : decode cJ2_putChar_b72d1 50 = .ok (.ishr, 1) := by decide +kernel
theorem dJ2_putChar_b72d1_51 : decode cJ2_putChar_b72d1 51 = .ok (.i2b, 1) := by decide +kernel
theorem dJ2_putChar_b72d1_52 : decode cJ2_putChar_b72d1 52 = .ok (.bastore, 1) := by decide +kernel
theorem dJ2_putChar_b72d1_53 : decode cJ2_putChar_b72d1 53 = .ok (.return_, 1) := by decide +kernel
theorem dJ2_getChar_3b067_0 : decode cJ2_getChar_3b067 0 = .ok (.getstatic 44, 3) := by decide +kernel
theorem dJ2_getChar_3b067_3 : decode cJ2_getChar_3b067 3 = .ok (.ifCond .ne 25, 3) := by decide +kernel
theorem dJ2_getChar_3b067_6 : decode cJ2_getChar_3b067 6 = .ok (.iload_n 1, 1) := by decide +kernel
theorem dJ2_getChar_3b067_7 : decode cJ2_getChar_3b067 7 = .ok (.ifCond .lt 11, 3) := by decide +kernel
theorem dJ2_getChar_3b067_10 : decode cJ2_getChar_3b067 10 = .ok (.iload_n 1, 1) := by decide +kernel
theorem dJ2_getChar_3b067_11 : decode cJ2_getChar_3b067 11 = .ok (.aload_n 0, 1) := by decide +kernel
theorem dJ2_getChar_3b067_12 : decode cJ2_getChar_3b067 12 = .ok (.invokestatic 48, 3) := by decide +kernel
theorem dJ2_getChar_3b067_15 : decode cJ2_getChar_3b067 15 = .ok (.if_icmp .lt 13, 3) := by decide +kernel
theorem dJ2_getChar_3b067_18 : decode cJ2_getChar_3b067 18 = .ok (.new 52, 3) := by decide +kernel
theorem dJ2_getChar_3b067_21 : decode cJ2_getChar_3b067 21 = .ok (.dup, 1) := by decide +kernel
theorem dJ2_getChar_3b067_22 : decode cJ2_getChar_3b067 22 = .ok (.ldc 54, 2) := by decide +kernel
theorem dJ2_getChar_3b067_24 : decode cJ2_getChar_3b067 24 = .ok (.invokespecial 56, 3) := by decide +kernel
theorem dJ2_getChar_3b067_27 : decode cJ2_getChar_3b067 27 = .ok (.athrow, 1) := by decide +kernel
theorem dJ2_getChar_3b067_28 : decode cJ2_getChar_3b067 28 = .ok (.iload_n 1, 1) := by decide +kernel
theorem dJ2_getChar_3b067_29 : decode cJ2_getChar_3b067 29 = .ok (.iconst 1, 1) := by decide +kernel
theorem dJ2_getChar_3b067_30 : decode cJ2_getChar_3b067 30 = .ok (.ishl, 1) := by decide +kernel
theorem dJ2_getChar_3b067_31 : decode cJ2_getChar_3b067 31 = .ok (.istore_n 1, 1) := by decide +kernel
theorem dJ2_getChar_3b067_32 : decode cJ2_getChar_3b067 32 = .ok (.aload_n 0, 1) := by decide +kernel
theorem dJ2_getChar_3b067_33 : decode cJ2_getChar_3b067 33 = .ok (.iload_n 1, 1) := by decide +kernel
theorem dJ2_getChar_3b067_34 : decode cJ2_getChar_3b067 34 = .ok (.iinc 1 1, 3) := by decide +kernel
theorem dJ2_getChar_3b067_37 : decode cJ2_getChar_3b067 37 = .ok (.baload, 1) := by decide +kernel
theorem dJ2_getChar_3b067_38 : decode cJ2_getChar_3b067 38 = .ok (.sipush 255, 3) := by decide +kernel
theorem dJ2_getChar_3b067_41 : decode cJ2_getChar_3b067 41 = .ok (.iand, 1) := by decide +kernel
theorem dJ2_getChar_3b067_42 : decode cJ2_getChar_3b067 42 = .ok (.getstatic 59, 3) := by decide +kernel
theorem dJ2_getChar_3b067_45 : decode cJ2_getChar_3b067 45 = .ok (.ishl, 1) := by decide +kernel
theorem dJ2_getChar_3b067_46 : decode cJ2_getChar_3b067 46 = .ok (.aload_n 0, 1) := by decide +kernel
theorem dJ2_getChar_3b067_47 : decode cJ2_getChar_3b067 47 = .ok (.iload_n 1, 1) := by decide +kernel
theorem dJ2_getChar_3b067_48 : decode cJ2_getChar_3b067 48 = .ok (.baload, 1) := by decide +kernel
theorem dJ2_getChar_3b067_49 : decode cJ2_getChar_3b067 49 = .ok (.sipush 255, 3) := by decide +kernel
theorem dJ2_getChar_3b067_52 : decode cJ2_getChar_3b067 52 = .ok (.iand, 1) := by decide +kernel
theorem dJ2_getChar_3b067_53 : decode cJ2_getChar_3b067 53 = .ok (.getstatic 63, 3) := by decide +kernel
theorem dJ2_getChar_3b067_56 : decode cJ2_getChar_3b067 56 = .ok (.ishl, 1) := by decide +kernel
theorem dJ2_getChar_3b067_57 : decode cJ2_getChar_3b067 57 = .ok (.ior, 1) := by decide +kernel
theorem dJ2_getChar_3b067_58 : decode cJ2_getChar_3b067 58 = .ok (.i2c, 1) := by decide +kernel
theorem dJ2_getChar_3b067_59 : decode cJ2_getChar_3b067 59 = .ok (.ireturn, 1) := by decide +kernel
theorem dJ2_length_9d52b_0 : decode cJ2_length_9d52b 0 = .ok (.aload_n 0, 1) := by decide +kernel
theorem dJ2_length_9d52b_1 : decode cJ2_length_9d52b 1 = .ok (.arraylength, 1) := by decide +kernel
theorem dJ2_length_9d52b_2 : decode cJ2_length_9d52b 2 = .ok (.iconst 1, 1) := by decide +kernel
theorem dJ2_length_9d52b_3 : decode cJ2_length_9d52b 3 = .ok (.ishr, 1) := by decide +kernel
theorem dJ2_length_9d52b_4 : decode cJ2_length_9d52b 4 = .ok (.ireturn, 1) := by decide +kernel
theorem dJ2_fillNull_b72d1_0 : decode cJ2_fillNull_b72d1 0 = .ok (.aload_n 0, 1) := by decide +kernel
theorem dJ2_fillNull_b72d1_1 : decode cJ2_fillNull_b72d1 1 = .ok (.iload_n 1, 1) := by decide +kernel
theorem dJ2_fillNull_b72d1_2 : decode cJ2_fillNull_b72d1 2 = .ok (.iconst 1, 1) := by decide +kernel
theorem dJ2_fillNull_b72d1_3 : decode cJ2_fillNull_b72d1 3 = .ok (.ishl, 1) := by decide +kernel
theorem dJ2_fillNull_b72d1_4 : decode cJ2_fillNull_b72d1 4 = .ok (.iload_n 2, 1) := by decide +kernel
theorem dJ2_fillNull_b72d1_5 : decode cJ2_fillNull_b72d1 5 = .ok (.iconst 1, 1) := by decide +kernel
theorem dJ2_fillNull_b72d1_6 : decode cJ2_fillNull_b72d1 6 = .ok (.ishl, 1) := by decide +kernel
theorem dJ2_fillNull_b72d1_7 : decode cJ2_fillNull_b72d1 7 = .ok (.iconst 0, 1) := by decide +kernel
theorem dJ2_fillNull_b72d1_8 : decode cJ2_fillNull_b72d1 8 = .ok (.invokestatic 380, 3) := by decide +kernel
theorem dJ2_fillNull_b72d1_11 : decode cJ2_fillNull_b72d1 11 = .ok (.return_, 1) := by decide +kernel
theorem dJ2_putCharSB_b72d1_0 : decode cJ2_putCharSB_b72d1 0 = .ok (.iload_n 1, 1) := by decide +kernel
theorem dJ2_putCharSB_b72d1_1 : decode cJ2_putCharSB_b72d1 1 = .ok (.aload_n 0, 1) := by decide +kernel
theorem dJ2_putCharSB_b72d1_2 : decode cJ2_putCharSB_b72d1 2 = .ok (.invokestatic 67, 3) := by decide +kernel
theorem dJ2_putCharSB_b72d1_5 : decode cJ2_putCharSB_b72d1 5 = .ok (.aload_n 0, 1) := by decide +kernel
theorem dJ2_putCharSB_b72d1_6 : decode cJ2_putCharSB_b72d1 6 = .ok (.iload_n 1, 1) := by decide +kernel
theorem dJ2_putCharSB_b72d1_7 : decode cJ2_putCharSB_b72d1 7 = .ok (.iload_n 2, 1) := by decide +kernel
theorem dJ2_putCharSB_b72d1_8 : decode cJ2_putCharSB_b72d1 8 = .ok (.invokestatic 111, 3) := by decide +kernel
theorem dJ2_putCharSB_b72d1_11 : decode cJ2_putCharSB_b72d1 11 = .ok (.return_, 1) := by decide +kernel
theorem dJ2_getChars_46870_0 : decode cJ2_getChars_46870 0 = .ok (.iload_n 1, 1) := by decide +kernel
theorem dJ2_getChars_46870_1 : decode cJ2_getChars_46870 1 = .ok (.iload_n 2, 1) := by decide +kernel
theorem dJ2_getChars_46870_2 : decode cJ2_getChars_46870 2 = .ok (.aload_n 3, 1) := by decide +kernel
theorem dJ2_getChars_46870_3 : decode cJ2_getChars_46870 3 = .ok (.invokestatic 96, 3) := by decide +kernel
theorem dJ2_getChars_46870_6 : decode cJ2_getChars_46870 6 = .ok (.iload_n 0, 1) := by decide +kernel
theorem dJ2_getChars_46870_7 : decode cJ2_getChars_46870 7 = .ok (.iload_n 2, 1) := by decide +kernel
theorem dJ2_getChars_46870_8 : decode cJ2_getChars_46870 8 = .ok (.aload_n 3, 1) := by decide +kernel
theorem dJ2_getChars_46870_9 : decode cJ2_getChars_46870 9 = .ok (.invokestatic 393, 3) := by decide +kernel
theorem dJ2_getChars_46870_12 : decode cJ2_getChars_46870 12 = .ok (.istore 4, 2) := by decide +kernel
theorem dJ2_getChars_46870_14 : decode cJ2_getChars_46870 14 = .ok (.getstatic 44, 3) := by decide +kernel
theorem dJ2_getChars_46870_17 : decode cJ2_getChars_46870 17 = .ok (.ifCond .ne 17, 3) := by decide +kernel
theorem dJ2_getChars_46870_20 : decode cJ2_getChars_46870 20 = .ok (.iload_n 1, 1) := by decide +kernel
theorem dJ2_getChars_46870_21 : decode cJ2_getChars_46870 21 = .ok (.iload 4, 2) := by decide +kernel
theorem dJ2_getChars_46870_23 : decode cJ2_getChars_46870 23 = .ok (.if_icmp .eq 11, 3) := by decide +kernel
theorem dJ2_getChars_46870_26 : decode cJ2_getChars_46870 26 = .ok (.new 52, 3) := by decide +kernel
theorem dJ2_getChars_46870_29 : decode cJ2_getChars_46870 29 = .ok (.dup, 1) := by decide +kernel
theorem dJ2_getChars_46870_30 : decode cJ2_getChars_46870 30 = .ok (.invokespecial 66, 3) := by decide +kernel
theorem dJ2_getChars_46870_33 : decode cJ2_getChars_46870 33 = .ok (.athrow, 1) := by decide +kernel
theorem dJ2_getChars_46870_34 : decode cJ2_getChars_46870 34 = .ok (.iload 4, 2) := by decide +kernel
theorem dJ2_getChars_46870_36 : decode cJ2_getChars_46870 36 = .ok (.ireturn, 1) := by decide +kernel
theorem dJ2_charAt_3b067_0 : decode cJ2_charAt_3b067 0 = .ok (.iload_n 1, 1) := by decide +kernel
theorem dJ2_charAt_3b067_1 : decode cJ2_charAt_3b067 1 = .ok (.aload_n 0, 1) := by decide +kernel
theorem dJ2_charAt_3b067_2 : decode cJ2_charAt_3b067 2 = .ok (.invokestatic 67, 3) := by decide +kernel
theorem dJ2_charAt_3b067_5 : decode cJ2_charAt_3b067 5 = .ok (.aload_n 0, 1) := by decide +kernel
theorem dJ2_charAt_3b067_6 : decode cJ2_charAt_3b067 6 = .ok (.iload_n 1, 1) := by decide +kernel
theorem dJ2_charAt_3b067_7 : decode cJ2_charAt_3b067 7 = .ok (.invokestatic 71, 3) := by decide +kernel
theorem dJ2_charAt_3b067_10 : decode cJ2_charAt_3b067 10 = .ok (.ireturn, 1) := by decide +kernel
theorem dJ2_inflate_0e8fd_0 : decode cJ2_inflate_0e8fd 0 = .ok (.iload_n 3, 1) := by decide +kernel
theorem dJ2_inflate_0e8fd_1 : decode cJ2_inflate_0e8fd 1 = .ok (.iload 4, 2) := by decide +kernel
theorem dJ2_inflate_0e8fd_3 : decode cJ2_inflate_0e8fd 3 = .ok (.aload_n 2, 1) := by decide +kernel
theorem dJ2_inflate_0e8fd_4 : decode cJ2_inflate_0e8fd 4 = .ok (.invokestatic 173, 3) := by decide +kernel
theorem dJ2_inflate_0e8fd_7 : decode cJ2_inflate_0e8fd 7 = .ok (.iconst 0, 1) := by decide +kernel
theorem dJ2_inflate_0e8fd_8 : decode cJ2_inflate_0e8fd 8 = .ok (.istore 5, 2) := by decide +kernel
theorem dJ2_inflate_0e8fd_10 : decode cJ2_inflate_0e8fd 10 = .ok (.iload 5, 2) := by decide +kernel
theorem dJ2_inflate_0e8fd_12 : decode cJ2_inflate_0e8fd 12 = .ok (.iload 4, 2) := by decide +kernel
theorem dJ2_inflate_0e8fd_14 : decode cJ2_inflate_0e8fd 14 = .ok (.if_icmp .ge 27, 3) := by decide +kernel
theorem dJ2_inflate_0e8fd_17 : decode cJ2_inflate_0e8fd 17 = .ok (.aload_n 2, 1) := by decide +kernel
theorem dJ2_inflate_0e8fd_18 : decode cJ2_inflate_0e8fd 18 = .ok (.iload_n 3, 1) := by decide +kernel
theorem dJ2_inflate_0e8fd_19 : decode cJ2_inflate_0e8fd 19 = .ok (.iinc 3 1, 3) := by decide +kernel
theorem dJ2_inflate_0e8fd_22 : decode cJ2_inflate_0e8fd 22 = .ok (.aload_n 0, 1) := by decide +kernel
theorem dJ2_inflate_0e8fd_23 : decode cJ2_inflate_0e8fd 23 = .ok (.iload_n 1, 1) := by decide +kernel
theorem dJ2_inflate_0e8fd_24 : decode cJ2_inflate_0e8fd 24 = .ok (.iinc 1 1, 3) := by decide +kernel
theorem dJ2_inflate_0e8fd_27 : decode cJ2_inflate_0e8fd 27 = .ok (.baload, 1) := by decide +kernel
theorem dJ2_inflate_0e8fd_28 : decode cJ2_inflate_0e8fd 28 = .ok (.sipush 255, 3) := by decide +kernel
theorem dJ2_inflate_0e8fd_31 : decode cJ2_inflate_0e8fd 31 = .ok (.iand, 1) := by decide +kernel
theorem dJ2_inflate_0e8fd_32 : decode cJ2_inflate_0e8fd 32 = .ok (.invokestatic 111, 3) := by decide +kernel
theorem dJ2_inflate_0e8fd_35 : decode cJ2_inflate_0e8fd 35 = .ok (.iinc 5 1, 3) := by decide +kernel
theorem dJ2_inflate_0e8fd_38 : decode cJ2_inflate_0e8fd 38 = .ok (.goto (-28), 3) := by decide +kernel
theorem dJ2_inflate_0e8fd_41 : decode cJ2_inflate_0e8fd 41 = .ok (.return_, 1) := by decide +kernel
theorem dJ2_getChars_ba4f3_0 : decode cJ2_getChars_ba4f3 0 = .ok (.iload_n 1, 1) := by decide +kernel
theorem dJ2_getChars_ba4f3_1 : decode cJ2_getChars_ba4f3 1 = .ok (.istore 5, 2) := by decide +kernel
theorem dJ2_getChars_ba4f3_3 : decode cJ2_getChars_ba4f3 3 = .ok (.iload_n 0, 1) := by decide +kernel
theorem dJ2_getChars_ba4f3_4 : decode cJ2_getChars_ba4f3 4 = .ok (.ifCond .ge 7, 3) := by decide +kernel
theorem dJ2_getChars_ba4f3_7 : decode cJ2_getChars_ba4f3 7 = .ok (.iconst 1, 1) := by decide +kernel
theorem dJ2_getChars_ba4f3_8 : decode cJ2_getChars_ba4f3 8 = .ok (.goto 4, 3) := by decide +kernel
theorem dJ2_getChars_ba4f3_11 : decode cJ2_getChars_ba4f3 11 = .ok (.iconst 0, 1) := by decide +kernel
theorem dJ2_getChars_ba4f3_12 : decode cJ2_getChars_ba4f3 12 = .ok (.istore 6, 2) := by decide +kernel
theorem dJ2_getChars_ba4f3_14 : decode cJ2_getChars_ba4f3 14 = .ok (.iload 6, 2) := by decide +kernel
theorem dJ2_getChars_ba4f3_16 : decode cJ2_getChars_ba4f3 16 = .ok (.ifCond .ne 6, 3) := by decide +kernel
theorem dJ2_getChars_ba4f3_19 : decode cJ2_getChars_ba4f3 19 = .ok (.iload_n 0, 1) := by decide +kernel
theorem dJ2_getChars_ba4f3_20 : decode cJ2_getChars_ba4f3 20 = .ok (.ineg, 1) := by decide +kernel
theorem dJ2_getChars_ba4f3_21 : decode cJ2_getChars_ba4f3 21 = .ok (.istore_n 0, 1) := by decide +kernel
theorem dJ2_getChars_ba4f3_22 : decode cJ2_getChars_ba4f3 22 = .ok (.iload_n 0, 1) := by decide +kernel
theorem dJ2_getChars_ba4f3_23 : decode cJ2_getChars_ba4f3 23 = .ok (.bipush (-100), 2) := by decide +kernel
theorem dJ2_getChars_ba4f3_25 : decode cJ2_getChars_ba4f3 25 = .ok (.if_icmp .gt 51, 3) := by decide +kernel
theorem dJ2_getChars_ba4f3_28 : decode cJ2_getChars_ba4f3 28 = .ok (.iload_n 0, 1) := by decide +kernel
theorem dJ2_getChars_ba4f3_29 : decode cJ2_getChars_ba4f3 29 = .ok (.bipush 100, 2) := by decide +kernel
theorem dJ2_getChars_ba4f3_31 : decode cJ2_getChars_ba4f3 31 = .ok (.idiv, 1) := by decide +kernel
theorem dJ2_getChars_ba4f3_32 : decode cJ2_getChars_ba4f3 32 = .ok (.istore_n 3, 1) := by decide +kernel
theorem dJ2_getChars_ba4f3_33 : decode cJ2_getChars_ba4f3 33 = .ok (.iload_n 3, 1) := by decide +kernel
theorem dJ2_getChars_ba4f3_34 : decode cJ2_getChars_ba4f3 34 = .ok (.bipush 100, 2) := by decide +kernel
theorem dJ2_getChars_ba4f3_36 : decode cJ2_getChars_ba4f3 36 = .ok (.imul, 1) := by decide +kernel
theorem dJ2_getChars_ba4f3_37 : decode cJ2_getChars_ba4f3 37 = .ok (.iload_n 0, 1) := by decide +kernel
theorem dJ2_getChars_ba4f3_38 : decode cJ2_getChars_ba4f3 38 = .ok (.isub, 1) := by decide +kernel
theorem dJ2_getChars_ba4f3_39 : decode cJ2_getChars_ba4f3 39 = .ok (.istore 4, 2) := by decide +kernel
theorem dJ2_getChars_ba4f3_41 : decode cJ2_getChars_ba4f3 41 = .ok (.iload_n 3, 1) := by decide +kernel
theorem dJ2_getChars_ba4f3_42 : decode cJ2_getChars_ba4f3 42 = .ok (.istore_n 0, 1) := by decide +kernel
theorem dJ2_getChars_ba4f3_43 : decode cJ2_getChars_ba4f3 43 = .ok (.aload_n 2, 1) := by decide +kernel
theorem dJ2_getChars_ba4f3_44 : decode cJ2_getChars_ba4f3 44 = .ok (.iinc 5 (-1), 3) := by decide +kernel
theorem dJ2_getChars_ba4f3_47 : decode cJ2_getChars_ba4f3 47 = .ok (.iload 5, 2) := by decide +kernel
theorem dJ2_getChars_ba4f3_49 : decode cJ2_getChars_ba4f3 49 = .ok (.getstatic 403, 3) := by decide +kernel
theorem dJ2_getChars_ba4f3_52 : decode cJ2_getChars_ba4f3 52 = .ok (.iload 4, 2) := by decide +kernel
theorem dJ2_getChars_ba4f3_54 : decode cJ2_getChars_ba4f3 54 = .ok (.baload, 1) := by decide +kernel
theorem dJ2_getChars_ba4f3_55 : decode cJ2_getChars_ba4f3 55 = .ok (.invokestatic 111, 3) := by decide +kernel
theorem dJ2_getChars_ba4f3_58 : decode cJ2_getChars_ba4f3 58 = .ok (.aload_n 2, 1) := by decide +kernel
theorem dJ2_getChars_ba4f3_59 : decode cJ2_getChars_ba4f3 59 = .ok (.iinc 5 (-1), 3) := by decide +kernel
theorem dJ2_getChars_ba4f3_62 : decode cJ2_getChars_ba4f3 62 = .ok (.iload 5, 2) := by decide +kernel
theorem dJ2_getChars_ba4f3_64 : decode cJ2_getChars_ba4f3 64 = .ok (.getstatic 407, 3) := by decide +kernel
theorem dJ2_getChars_ba4f3_67 : decode cJ2_getChars_ba4f3 67 = .ok (.iload 4, 2) := by decide +kernel
theorem dJ2_getChars_ba4f3_69 : decode cJ2_getChars_ba4f3 69 = .ok (.baload, 1) := by decide +kernel
theorem dJ2_getChars_ba4f3_70 : decode cJ2_getChars_ba4f3 70 = .ok (.invokestatic 111, 3) := by decide +kernel
theorem dJ2_getChars_ba4f3_73 : decode cJ2_getChars_ba4f3 73 = .ok (.goto (-51), 3) := by decide +kernel
theorem dJ2_getChars_ba4f3_76 : decode cJ2_getChars_ba4f3 76 = .ok (.aload_n 2, 1) := by decide +kernel
theorem dJ2_getChars_ba4f3_77 : decode cJ2_getChars_ba4f3 77 = .ok (.iinc 5 (-1), 3) := by decide +kernel
theorem dJ2_getChars_ba4f3_80 : decode cJ2_getChars_ba4f3 80 = .ok (.iload 5, 2) := by decide +kernel
theorem dJ2_getChars_ba4f3_82 : decode cJ2_getChars_ba4f3 82 = .ok (.getstatic 403, 3) := by decide +kernel
theorem dJ2_getChars_ba4f3_85 : decode cJ2_getChars_ba4f3 85 = .ok (.iload_n 0, 1) := by decide +kernel
theorem dJ2_getChars_ba4f3_86 : decode cJ2_getChars_ba4f3 86 = .ok (.ineg, 1) := by decide +kernel
theorem dJ2_getChars_ba4f3_87 : decode cJ2_getChars_ba4f3 87 = .ok (.baload, 1) := by decide +kernel
theorem dJ2_getChars_ba4f3_88 : decode cJ2_getChars_ba4f3 88 = .ok (.invokestatic 111, 3) := by decide +kernel
theorem dJ2_getChars_ba4f3_91 : decode cJ2_getChars_ba4f3 91 = .ok (.iload_n 0, 1) := by decide +kernel
theorem dJ2_getChars_ba4f3_92 : decode cJ2_getChars_ba4f3 92 = .ok (.bipush (-9), 2) := by decide +kernel
theorem dJ2_getChars_ba4f3_94 : decode cJ2_getChars_ba4f3 94 = .ok (.if_icmp .ge 18, 3) := by decide +kernel
theorem dJ2_getChars_ba4f3_97 : decode cJ2_getChars_ba4f3 97 = .ok (.aload_n 2, 1) := by decide +kernel
theorem dJ2_getChars_ba4f3_98 : decode cJ2_getChars_ba4f3 98 = .ok (.iinc 5 (-1), 3) := by decide +kernel
theorem dJ2_getChars_ba4f3_101 : decode cJ2_getChars_ba4f3 101 = .ok (.iload 5, 2) := by decide +kernel
theorem dJ2_getChars_ba4f3_103 : decode cJ2_getChars_ba4f3 103 = .ok (.getstatic 407, 3) := by decide +kernel
theorem dJ2_getChars_ba4f3_106 : decode cJ2_getChars_ba4f3 106 = .ok (.iload_n 0, 1) := by decide +kernel
theorem dJ2_getChars_ba4f3_107 : decode cJ2_getChars_ba4f3 107 = .ok (.ineg, 1) := by decide +kernel
theorem dJ2_getChars_ba4f3_108 : decode cJ2_getChars_ba4f3 108 = .ok (.baload, 1) := by decide +kernel
theorem dJ2_getChars_ba4f3_109 : decode cJ2_getChars_ba4f3 109 = .ok (.invokestatic 111, 3) := by decide +kernel
theorem dJ2_getChars_ba4f3_112 : decode cJ2_getChars_ba4f3 112 = .ok (.iload 6, 2) := by decide +kernel
theorem dJ2_getChars_ba4f3_114 : decode cJ2_getChars_ba4f3 114 = .ok (.ifCond .eq 14, 3) := by decide +kernel
theorem dJ2_getChars_ba4f3_117 : decode cJ2_getChars_ba4f3 117 = .ok (.aload_n 2, 1) := by decide +kernel
theorem dJ2_getChars_ba4f3_118 : decode cJ2_getChars_ba4f3 118 = .ok (.iinc 5 (-1), 3) := by decide +kernel
theorem dJ2_getChars_ba4f3_121 : decode cJ2_getChars_ba4f3 121 = .ok (.iload 5, 2) := by decide +kernel
theorem dJ2_getChars_ba4f3_123 : decode cJ2_getChars_ba4f3 123 = .ok (.bipush 45, 2) := by decide +kernel
theorem dJ2_getChars_ba4f3_125 : decode cJ2_getChars_ba4f3 125 = .ok (.invokestatic 111, 3) := by decide +kernel
theorem dJ2_getChars_ba4f3_128 : decode cJ2_getChars_ba4f3 128 = .ok (.iload 5, 2) := by decide +kernel
theorem dJ2_getChars_ba4f3_130 : decode cJ2_getChars_ba4f3 130 = .ok (.ireturn, 1) := by decide +kernel
theorem dJ2_checkIndex_2214a_0 : decode cJ2_checkIndex_2214a 0 = .ok (.iload_n 0, 1) := by decide +kernel
theorem dJ2_checkIndex_2214a_1 : decode cJ2_checkIndex_2214a 1 = .ok (.aload_n 1, 1) := by decide +kernel
theorem dJ2_checkIndex_2214a_2 : decode cJ2_checkIndex_2214a 2 = .ok (.invokestatic 48, 3) := by decide +kernel
theorem dJ2_checkIndex_2214a_5 : decode cJ2_checkIndex_2214a 5 = .ok (.invokestatic 414, 3) := by decide +kernel
theorem dJ2_checkIndex_2214a_8 : decode cJ2_checkIndex_2214a 8 = .ok (.return_, 1) := by decide +kernel
theorem dJ2_checkBoundsBeginEnd_d044e_0 : decode cJ2_checkBoundsBeginEnd_d044e 0 = .ok (.iload_n 0, 1) := by decide +kernel
theorem dJ2_checkBoundsBeginEnd_d044e_1 : decode cJ2_checkBoundsBeginEnd_d044e 1 = .ok (.iload_n 1, 1) := by decide +kernel
theorem dJ2_checkBoundsBeginEnd_d044e_2 : decode cJ2_checkBoundsBeginEnd_d044e 2 = .ok (.aload_n 2, 1) := by decide +kernel
theorem dJ2_checkBoundsBeginEnd_d044e_3 : decode cJ2_checkBoundsBeginEnd_d044e 3 = .ok (.invokestatic 48, 3) := by decide +kernel
theorem dJ2_checkBoundsBeginEnd_d044e_6 : decode cJ2_checkBoundsBeginEnd_d044e 6 = .ok (.invokestatic 241, 3) := by decide +kernel
theorem dJ2_checkBoundsBeginEnd_d044e_9 : decode cJ2_checkBoundsBeginEnd_d044e 9 = .ok (.return_, 1) := by decide +kernel
theorem dJ2_checkBoundsOffCount_d044e_0 : decode cJ2_checkBoundsOffCount_d044e 0 = .ok (.iload_n 0, 1) := by decide +kernel
theorem dJ2_checkBoundsOffCount_d044e_1 : decode cJ2_checkBoundsOffCount_d044e 1 = .ok (.iload_n 1, 1) := by decide +kernel
theorem dJ2_checkBoundsOffCount_d044e_2 : decode cJ2_checkBoundsOffCount_d044e 2 = .ok (.aload_n 2, 1) := by decide +kernel
theorem dJ2_checkBoundsOffCount_d044e_3 : decode cJ2_checkBoundsOffCount_d044e 3 = .ok (.invokestatic 48, 3) := by decide +kernel
theorem dJ2_checkBoundsOffCount_d044e_6 : decode cJ2_checkBoundsOffCount_d044e 6 = .ok (.invokestatic 419, 3) := by decide +kernel
theorem dJ2_checkBoundsOffCount_d044e_9 : decode cJ2_checkBoundsOffCount_d044e 9 = .ok (.pop, 1) := by decide +kernel
theorem dJ2_checkBoundsOffCount_d044e_10 : decode cJ2_checkBoundsOffCount_d044e 10 = .ok (.return_, 1) := by decide +kernel
theorem dJ7_rangeCheck_23922_0 : decode cJ7_rangeCheck_23922 0 = .ok (.iload_n 1, 1) := by decide +kernel
theorem dJ7_rangeCheck_23922_1 : decode cJ7_rangeCheck_23922 1 = .ok (.iload_n 2, 1) := by decide +kernel
theorem dJ7_rangeCheck_23922_2 : decode cJ7_rangeCheck_23922 2 = .ok (.if_icmp .le 44, 3) := by decide +kernel
theorem dJ7_rangeCheck_23922_5 : decode cJ7_rangeCheck_23922 5 = .ok (.new 43, 3) := by decide +kernel
theorem dJ7_rangeCheck_23922_8 : decode cJ7_rangeCheck_23922 8 = .ok (.dup, 1) := by decide +kernel
theorem dJ7_rangeCheck_23922_9 : decode cJ7_rangeCheck_23922 9 = .ok (.new 45, 3) := by decide +kernel
theorem dJ7_rangeCheck_23922_12 : decode cJ7_rangeCheck_23922 12 = .ok (.dup, 1) := by decide +kernel
theorem dJ7_rangeCheck_23922_13 : decode cJ7_rangeCheck_23922 13 = .ok (.invokespecial 47, 3) := by decide +kernel
theorem dJ7_rangeCheck_23922_16 : decode cJ7_rangeCheck_23922 16 = .ok (.ldc 48, 2) := by decide +kernel
theorem dJ7_rangeCheck_23922_18 : decode cJ7_rangeCheck_23922 18 = .ok (.invokevirtual 50, 3) := by decide +kernel
theorem dJ7_rangeCheck_23922_21 : decode cJ7_rangeCheck_23922 21 = .ok (.iload_n 1, 1) := by decide +kernel
theorem dJ7_rangeCheck_23922_22 : decode cJ7_rangeCheck_23922 22 = .ok (.invokevirtual 54, 3) := by decide +kernel
theorem dJ7_rangeCheck_23922_25 : decode cJ7_rangeCheck_23922 25 = .ok (.ldc 57, 2) := by decide +kernel
theorem dJ7_rangeCheck_23922_27 : decode cJ7_rangeCheck_23922 27 = .ok (.invokevirtual 50, 3) := by decide +kernel
theorem dJ7_rangeCheck_23922_30 : decode cJ7_rangeCheck_23922 30 = .ok (.iload_n 2, 1) := by decide +kernel
theorem dJ7_rangeCheck_23922_31 : decode cJ7_rangeCheck_23922 31 = .ok (.invokevirtual 54, 3) := by decide +kernel
theorem dJ7_rangeCheck_23922_34 : decode cJ7_rangeCheck_23922 34 = .ok (.ldc 59, 2) := by decide +kernel
theorem dJ7_rangeCheck_23922_36 : decode cJ7_rangeCheck_23922 36 = .ok (.invokevirtual 50, 3) := by decide +kernel
theorem dJ7_rangeCheck_23922_39 : decode cJ7_rangeCheck_23922 39 = .ok (.invokevirtual 61, 3) := by decide +kernel
theorem dJ7_rangeCheck_23922_42 : decode cJ7_rangeCheck_23922 42 = .ok (.invokespecial 65, 3) := by decide +kernel
theorem dJ7_rangeCheck_23922_45 : decode cJ7_rangeCheck_23922 45 = .ok (.athrow, 1) := by decide +kernel
theorem dJ7_rangeCheck_23922_46 : decode cJ7_rangeCheck_23922 46 = .ok (.iload_n 1, 1) := by decide +kernel
theorem dJ7_rangeCheck_23922_47 : decode cJ7_rangeCheck_23922 47 = .ok (.ifCond .ge 12, 3) := by decide +kernel
theorem dJ7_rangeCheck_23922_50 : decode cJ7_rangeCheck_23922 50 = .ok (.new 68, 3) := by decide +kernel
theorem dJ7_rangeCheck_23922_53 : decode cJ7_rangeCheck_23922 53 = .ok (.dup, 1) := by decide +kernel
theorem dJ7_rangeCheck_23922_54 : decode cJ7_rangeCheck_23922 54 = .ok (.iload_n 1, 1) := by decide +kernel
theorem dJ7_rangeCheck_23922_55 : decode cJ7_rangeCheck_23922 55 = .ok (.invokespecial 70, 3) := by decide +kernel
theorem dJ7_rangeCheck_23922_58 : decode cJ7_rangeCheck_23922 58 = .ok (.athrow, 1) := by decide +kernel
theorem dJ7_rangeCheck_23922_59 : decode cJ7_rangeCheck_23922 59 = .ok (.iload_n 2, 1) := by decide +kernel
theorem dJ7_rangeCheck_23922_60 : decode cJ7_rangeCheck_23922 60 = .ok (.iload_n 0, 1) := by decide +kernel
theorem dJ7_rangeCheck_23922_61 : decode cJ7_rangeCheck_23922 61 = .ok (.if_icmp .le 12, 3) := by decide +kernel
theorem dJ7_rangeCheck_23922_64 : decode cJ7_rangeCheck_23922 64 = .ok (.new 68, 3) := by decide +kernel
theorem dJ7_rangeCheck_23922_67 : decode cJ7_rangeCheck_23922 67 = .ok (.dup, 1) := by decide +kernel
theorem dJ7_rangeCheck_23922_68 : decode cJ7_rangeCheck_23922 68 = .ok (.iload_n 2, 1) := by decide +kernel
theorem dJ7_rangeCheck_23922_69 : decode cJ7_rangeCheck_23922 69 = .ok (.invokespecial 70, 3) := by decide +kernel
theorem dJ7_rangeCheck_23922_72 : decode cJ7_rangeCheck_23922 72 = .ok (.athrow, 1) := by decide +kernel
theorem dJ7_rangeCheck_23922_73 : decode cJ7_rangeCheck_23922 73 = .ok (.return_, 1) := by decide +kernel
theorem dJ7_fill_eb02e_0 : decode cJ7_fill_eb02e 0 = .ok (.aload_n 0, 1) := by decide +kernel
theorem dJ7_fill_eb02e_1 : decode cJ7_fill_eb02e 1 = .ok (.arraylength, 1) := by decide +kernel
theorem dJ7_fill_eb02e_2 : decode cJ7_fill_eb02e 2 = .ok (.iload_n 1, 1) := by decide +kernel
theorem dJ7_fill_eb02e_3 : decode cJ7_fill_eb02e 3 = .ok (.iload_n 2, 1) := by decide +kernel
theorem dJ7_fill_eb02e_4 : decode cJ7_fill_eb02e 4 = .ok (.invokestatic 13, 3) := by decide +kernel
theorem dJ7_fill_eb02e_7 : decode cJ7_fill_eb02e 7 = .ok (.iload_n 1, 1) := by decide +kernel
theorem dJ7_fill_eb02e_8 : decode cJ7_fill_eb02e 8 = .ok (.istore 4, 2) := by decide +kernel
theorem dJ7_fill_eb02e_10 : decode cJ7_fill_eb02e 10 = .ok (.iload 4, 2) := by decide +kernel
theorem dJ7_fill_eb02e_12 : decode cJ7_fill_eb02e 12 = .ok (.iload_n 2, 1) := by decide +kernel
theorem dJ7_fill_eb02e_13 : decode cJ7_fill_eb02e 13 = .ok (.if_icmp .ge 14, 3) := by decide +kernel
theorem dJ7_fill_eb02e_16 : decode cJ7_fill_eb02e 16 = .ok (.aload_n 0, 1) := by decide +kernel
theorem dJ7_fill_eb02e_17 : decode cJ7_fill_eb02e 17 = .ok (.iload 4, 2) := by decide +kernel
theorem dJ7_fill_eb02e_19 : decode cJ7_fill_eb02e 19 = .ok (.iload_n 3, 1) := by decide +kernel
theorem dJ7_fill_eb02e_20 : decode cJ7_fill_eb02e 20 = .ok (.bastore, 1) := by decide +kernel
theorem dJ7_fill_eb02e_21 : decode cJ7_fill_eb02e 21 = .ok (.iinc 4 1, 3) := by decide +kernel
theorem dJ7_fill_eb02e_24 : decode cJ7_fill_eb02e 24 = .ok (.goto (-14), 3) := by decide +kernel
theorem dJ7_fill_eb02e_27 : decode cJ7_fill_eb02e 27 = .ok (.return_, 1) := by decide +kernel
theorem dJ7_copyOf_9075b_0 : decode cJ7_copyOf_9075b 0 = .ok (.iload_n 1, 1) := by decide +kernel
theorem dJ7_copyOf_9075b_1 : decode cJ7_copyOf_9075b 1 = .ok (.aload_n 0, 1) := by decide +kernel
theorem dJ7_copyOf_9075b_2 : decode cJ7_copyOf_9075b 2 = .ok (.arraylength, 1) := by decide +kernel
theorem dJ7_copyOf_9075b_3 : decode cJ7_copyOf_9075b 3 = .ok (.if_icmp .ne 11, 3) := by decide +kernel
theorem dJ7_copyOf_9075b_6 : decode cJ7_copyOf_9075b 6 = .ok (.aload_n 0, 1) := by decide +kernel
theorem dJ7_copyOf_9075b_7 : decode cJ7_copyOf_9075b 7 = .ok (.invokevirtual 310, 3) := by decide +kernel
theorem dJ7_copyOf_9075b_10 : decode cJ7_copyOf_9075b 10 = .ok (.checkcast 311, 3) := by decide +kernel
theorem dJ7_copyOf_9075b_13 : decode cJ7_copyOf_9075b 13 = .ok (.areturn, 1) := by decide +kernel
theorem dJ7_copyOf_9075b_14 : decode cJ7_copyOf_9075b 14 = .ok (.iload_n 1, 1) := by decide +kernel
theorem dJ7_copyOf_9075b_15 : decode cJ7_copyOf_9075b 15 = .ok (.newarray .byte, 2) := by decide +kernel
theorem dJ7_copyOf_9075b_17 : decode cJ7_copyOf_9075b 17 = .ok (.astore_n 2, 1) := by decide +kernel
theorem dJ7_copyOf_9075b_18 : decode cJ7_copyOf_9075b 18 = .ok (.aload_n 0, 1) := by decide +kernel
theorem dJ7_copyOf_9075b_19 : decode cJ7_copyOf_9075b 19 = .ok (.iconst 0, 1) := by decide +kernel
theorem dJ7_copyOf_9075b_20 : decode cJ7_copyOf_9075b 20 = .ok (.aload_n 2, 1) := by decide +kernel
theorem dJ7_copyOf_9075b_21 : decode cJ7_copyOf_9075b 21 = .ok (.iconst 0, 1) := by decide +kernel
theorem dJ7_copyOf_9075b_22 : decode cJ7_copyOf_9075b 22 = .ok (.aload_n 0, 1) := by decide +kernel
theorem dJ7_copyOf_9075b_23 : decode cJ7_copyOf_9075b 23 = .ok (.arraylength, 1) := by decide +kernel
theorem dJ7_copyOf_9075b_24 : decode cJ7_copyOf_9075b 24 = .ok (.iload_n 1, 1) := by decide +kernel
theorem dJ7_copyOf_9075b_25 : decode cJ7_copyOf_9075b 25 = .ok (.invokestatic 304, 3) := by decide +kernel
theorem dJ7_copyOf_9075b_28 : decode cJ7_copyOf_9075b 28 = .ok (.invokestatic 150, 3) := by decide +kernel
theorem dJ7_copyOf_9075b_31 : decode cJ7_copyOf_9075b 31 = .ok (.aload_n 2, 1) := by decide +kernel
theorem dJ7_copyOf_9075b_32 : decode cJ7_copyOf_9075b 32 = .ok (.areturn, 1) := by decide +kernel
theorem dJ8_newLength_cabcc_0 : decode cJ8_newLength_cabcc 0 = .ok (.iload_n 0, 1) := by decide +kernel
theorem dJ8_newLength_cabcc_1 : decode cJ8_newLength_cabcc 1 = .ok (.iload_n 1, 1) := by decide +kernel
theorem dJ8_newLength_cabcc_2 : decode cJ8_newLength_cabcc 2 = .ok (.iload_n 2, 1) := by decide +kernel
theorem dJ8_newLength_cabcc_3 : decode cJ8_newLength_cabcc 3 = .ok (.invokestatic 194, 3) := by decide +kernel
theorem dJ8_newLength_cabcc_6 : decode cJ8_newLength_cabcc 6 = .ok (.iadd, 1) := by decide +kernel
theorem dJ8_newLength_cabcc_7 : decode cJ8_newLength_cabcc 7 = .ok (.istore_n 3, 1) := by decide +kernel
theorem dJ8_newLength_cabcc_8 : decode cJ8_newLength_cabcc 8 = .ok (.iconst 0, 1) := by decide +kernel
theorem dJ8_newLength_cabcc_9 : decode cJ8_newLength_cabcc 9 = .ok (.iload_n 3, 1) := by decide +kernel
theorem dJ8_newLength_cabcc_10 : decode cJ8_newLength_cabcc 10 = .ok (.if_icmp .ge 11, 3) := by decide +kernel
theorem dJ8_newLength_cabcc_13 : decode cJ8_newLength_cabcc 13 = .ok (.iload_n 3, 1) := by decide +kernel
theorem dJ8_newLength_cabcc_14 : decode cJ8_newLength_cabcc 14 = .ok (.ldc 200, 2) := by decide +kernel
theorem dJ8_newLength_cabcc_16 : decode cJ8_newLength_cabcc 16 = .ok (.if_icmp .gt 5, 3) := by decide +kernel
theorem dJ8_newLength_cabcc_19 : decode cJ8_newLength_cabcc 19 = .ok (.iload_n 3, 1) := by decide +kernel
theorem dJ8_newLength_cabcc_20 : decode cJ8_newLength_cabcc 20 = .ok (.ireturn, 1) := by decide +kernel
theorem dJ8_newLength_cabcc_21 : decode cJ8_newLength_cabcc 21 = .ok (.iload_n 0, 1) := by decide +kernel
theorem dJ8_newLength_cabcc_22 : decode cJ8_newLength_cabcc 22 = .ok (.iload_n 1, 1) := by decide +kernel
theorem dJ8_newLength_cabcc_23 : decode cJ8_newLength_cabcc 23 = .ok (.invokestatic 201, 3) := by decide +kernel
theorem dJ8_newLength_cabcc_26 : decode cJ8_newLength_cabcc 26 = .ok (.ireturn, 1) := by decide +kernel
theorem dJ8_hugeLength_7cf53_0 : decode cJ8_hugeLength_7cf53 0 = .ok (.iload_n 0, 1) := by decide +kernel
theorem dJ8_hugeLength_7cf53_1 : decode cJ8_hugeLength_7cf53 1 = .ok (.iload_n 1, 1) := by decide +kernel
theorem dJ8_hugeLength_7cf53_2 : decode cJ8_hugeLength_7cf53 2 = .ok (.iadd, 1) := by decide +kernel
theorem dJ8_hugeLength_7cf53_3 : decode cJ8_hugeLength_7cf53 3 = .ok (.istore_n 2, 1) := by decide +kernel
theorem dJ8_hugeLength_7cf53_4 : decode cJ8_hugeLength_7cf53 4 = .ok (.iload_n 2, 1) := by decide +kernel
theorem dJ8_hugeLength_7cf53_5 : decode cJ8_hugeLength_7cf53 5 = .ok (.ifCond .ge 44, 3) := by decide +kernel
theorem dJ8_hugeLength_7cf53_8 : decode cJ8_hugeLength_7cf53 8 = .ok (.new 204, 3) := by decide +kernel
theorem dJ8_hugeLength_7cf53_11 : decode cJ8_hugeLength_7cf53 11 = .ok (.dup, 1) := by decide +kernel
theorem dJ8_hugeLength_7cf53_12 : decode cJ8_hugeLength_7cf53 12 = .ok (.new 89, 3) := by decide +kernel
theorem dJ8_hugeLength_7cf53_15 : decode cJ8_hugeLength_7cf53 15 = .ok (.dup, 1) := by decide +kernel
theorem dJ8_hugeLength_7cf53_16 : decode cJ8_hugeLength_7cf53 16 = .ok (.invokespecial 91, 3) := by decide +kernel
theorem dJ8_hugeLength_7cf53_19 : decode cJ8_hugeLength_7cf53 19 = .ok (.ldc 206, 2) := by decide +kernel
theorem dJ8_hugeLength_7cf53_21 : decode cJ8_hugeLength_7cf53 21 = .ok (.invokevirtual 94, 3) := by decide +kernel
theorem dJ8_hugeLength_7cf53_24 : decode cJ8_hugeLength_7cf53 24 = .ok (.iload_n 0, 1) := by decide +kernel
theorem dJ8_hugeLength_7cf53_25 : decode cJ8_hugeLength_7cf53 25 = .ok (.invokevirtual 98, 3) := by decide +kernel
theorem dJ8_hugeLength_7cf53_28 : decode cJ8_hugeLength_7cf53 28 = .ok (.ldc 208, 2) := by decide +kernel
theorem dJ8_hugeLength_7cf53_30 : decode cJ8_hugeLength_7cf53 30 = .ok (.invokevirtual 94, 3) := by decide +kernel
theorem dJ8_hugeLength_7cf53_33 : decode cJ8_hugeLength_7cf53 33 = .ok (.iload_n 1, 1) := by decide +kernel
theorem dJ8_hugeLength_7cf53_34 : decode cJ8_hugeLength_7cf53 34 = .ok (.invokevirtual 98, 3) := by decide +kernel
theorem dJ8_hugeLength_7cf53_37 : decode cJ8_hugeLength_7cf53 37 = .ok (.ldc 210, 2) := by decide +kernel
theorem dJ8_hugeLength_7cf53_39 : decode cJ8_hugeLength_7cf53 39 = .ok (.invokevirtual 94, 3) := by decide +kernel
theorem dJ8_hugeLength_7cf53_42 : decode cJ8_hugeLength_7cf53 42 = .ok (.invokevirtual 101, 3) := by decide +kernel
theorem dJ8_hugeLength_7cf53_45 : decode cJ8_hugeLength_7cf53 45 = .ok (.invokespecial 212, 3) := by decide +kernel
theorem dJ8_hugeLength_7cf53_48 : decode cJ8_hugeLength_7cf53 48 = .ok (.athrow, 1) := by decide +kernel
theorem dJ8_hugeLength_7cf53_49 : decode cJ8_hugeLength_7cf53 49 = .ok (.iload_n 2, 1) := by decide +kernel
theorem dJ8_hugeLength_7cf53_50 : decode cJ8_hugeLength_7cf53 50 = .ok (.ldc 200, 2) := by decide +kernel
theorem dJ8_hugeLength_7cf53_52 : decode cJ8_hugeLength_7cf53 52 = .ok (.if_icmp .gt 6, 3) := by decide +kernel
theorem dJ8_hugeLength_7cf53_55 : decode cJ8_hugeLength_7cf53 55 = .ok (.ldc 200, 2) := by decide +kernel
theorem dJ8_hugeLength_7cf53_57 : decode cJ8_hugeLength_7cf53 57 = .ok (.ireturn, 1) := by decide +kernel
theorem dJ8_hugeLength_7cf53_58 : decode cJ8_hugeLength_7cf53 58 = .ok (.iload_n 2, 1) := by decide +kernel
theorem dJ8_hugeLength_7cf53_59 : decode cJ8_hugeLength_7cf53 59 = .ok (.ireturn, 1) := by decide +kernel
theorem dJ3_checkIndex_8e157_0 : decode cJ3_checkIndex_8e157 0 = .ok (.iload_n 0, 1) := by decide +kernel
theorem dJ3_checkIndex_8e157_1 : decode cJ3_checkIndex_8e157 1 = .ok (.ifCond .lt 8, 3) := by decide +kernel
theorem dJ3_checkIndex_8e157_4 : decode cJ3_checkIndex_8e157 4 = .ok (.iload_n 0, 1) := by decide +kernel
theorem dJ3_checkIndex_8e157_5 : decode cJ3_checkIndex_8e157 5 = .ok (.iload_n 1, 1) := by decide +kernel
theorem dJ3_checkIndex_8e157_6 : decode cJ3_checkIndex_8e157 6 = .ok (.if_icmp .lt 10, 3) := by decide +kernel
theorem dJ3_checkIndex_8e157_9 : decode cJ3_checkIndex_8e157 9 = .ok (.aload_n 2, 1) := by decide +kernel
theorem dJ3_checkIndex_8e157_10 : decode cJ3_checkIndex_8e157 10 = .ok (.iload_n 0, 1) := by decide +kernel
theorem dJ3_checkIndex_8e157_11 : decode cJ3_checkIndex_8e157 11 = .ok (.iload_n 1, 1) := by decide +kernel
theorem dJ3_checkIndex_8e157_12 : decode cJ3_checkIndex_8e157 12 = .ok (.invokestatic 95, 3) := by decide +kernel
theorem dJ3_checkIndex_8e157_15 : decode cJ3_checkIndex_8e157 15 = .ok (.athrow, 1) := by decide +kernel
theorem dJ3_checkIndex_8e157_16 : decode cJ3_checkIndex_8e157 16 = .ok (.iload_n 0, 1) := by decide +kernel
theorem dJ3_checkIndex_8e157_17 : decode cJ3_checkIndex_8e157 17 = .ok (.ireturn, 1) := by decide +kernel
theorem dJ3_checkFromToIndex_8c36e_0 : decode cJ3_checkFromToIndex_8c36e 0 = .ok (.iload_n 0, 1) := by decide +kernel
theorem dJ3_checkFromToIndex_8c36e_1 : decode cJ3_checkFromToIndex_8c36e 1 = .ok (.ifCond .lt 13, 3) := by decide +kernel
theorem dJ3_checkFromToIndex_8c36e_4 : decode cJ3_checkFromToIndex_8c36e 4 = .ok (.iload_n 0, 1) := by decide +kernel
theorem dJ3_checkFromToIndex_8c36e_5 : decode cJ3_checkFromToIndex_8c36e 5 = .ok (.iload_n 1, 1) := by decide +kernel
theorem dJ3_checkFromToIndex_8c36e_6 : decode cJ3_checkFromToIndex_8c36e 6 = .ok (.if_icmp .gt 8, 3) := by decide +kernel
theorem dJ3_checkFromToIndex_8c36e_9 : decode cJ3_checkFromToIndex_8c36e 9 = .ok (.iload_n 1, 1) := by decide +kernel
theorem dJ3_checkFromToIndex_8c36e_10 : decode cJ3_checkFromToIndex_8c36e 10 = .ok (.iload_n 2, 1) := by decide +kernel
theorem dJ3_checkFromToIndex_8c36e_11 : decode cJ3_checkFromToIndex_8c36e 11 = .ok (.if_icmp .le 11, 3) := by decide +kernel
theorem dJ3_checkFromToIndex_8c36e_14 : decode cJ3_checkFromToIndex_8c36e 14 = .ok (.aload_n 3, 1) := by decide +kernel
theorem dJ3_checkFromToIndex_8c36e_15 : decode cJ3_checkFromToIndex_8c36e 15 = .ok (.iload_n 0, 1) := by decide +kernel
theorem dJ3_checkFromToIndex_8c36e_16 : decode cJ3_checkFromToIndex_8c36e 16 = .ok (.iload_n 1, 1) := by decide +kernel
theorem dJ3_checkFromToIndex_8c36e_17 : decode cJ3_checkFromToIndex_8c36e 17 = .ok (.iload_n 2, 1) := by decide +kernel
theorem dJ3_checkFromToIndex_8c36e_18 : decode cJ3_checkFromToIndex_8c36e 18 = .ok (.invokestatic 99, 3) := by decide +kernel
theorem dJ3_checkFromToIndex_8c36e_21 : decode cJ3_checkFromToIndex_8c36e 21 = .ok (.athrow, 1) := by decide +kernel
theorem dJ3_checkFromToIndex_8c36e_22 : decode cJ3_checkFromToIndex_8c36e 22 = .ok (.iload_n 0, 1) := by decide +kernel
theorem dJ3_checkFromToIndex_8c36e_23 : decode cJ3_checkFromToIndex_8c36e 23 = .ok (.ireturn, 1) := by decide +kernel
theorem dJ3_checkFromIndexSize_8c36e_0 : decode cJ3_checkFromIndexSize_8c36e 0 = .ok (.iload_n 2, 1) := by decide +kernel
theorem dJ3_checkFromIndexSize_8c36e_1 : decode cJ3_checkFromIndexSize_8c36e 1 = .ok (.iload_n 0, 1) := by decide +kernel
theorem dJ3_checkFromIndexSize_8c36e_2 : decode cJ3_checkFromIndexSize_8c36e 2 = .ok (.ior, 1) := by decide +kernel
theorem dJ3_checkFromIndexSize_8c36e_3 : decode cJ3_checkFromIndexSize_8c36e 3 = .ok (.iload_n 1, 1) := by decide +kernel
theorem dJ3_checkFromIndexSize_8c36e_4 : decode cJ3_checkFromIndexSize_8c36e 4 = .ok (.ior, 1) := by decide +kernel
theorem dJ3_checkFromIndexSize_8c36e_5 : decode cJ3_checkFromIndexSize_8c36e 5 = .ok (.ifCond .lt 10, 3) := by decide +kernel
theorem dJ3_checkFromIndexSize_8c36e_8 : decode cJ3_checkFromIndexSize_8c36e 8 = .ok (.iload_n 1, 1) := by decide +kernel
theorem dJ3_checkFromIndexSize_8c36e_9 : decode cJ3_checkFromIndexSize_8c36e 9 = .ok (.iload_n 2, 1) := by decide +kernel
theorem dJ3_checkFromIndexSize_8c36e_10 : decode cJ3_checkFromIndexSize_8c36e 10 = .ok (.iload_n 0, 1) := by decide +kernel
theorem dJ3_checkFromIndexSize_8c36e_11 : decode cJ3_checkFromIndexSize_8c36e 11 = .ok (.isub, 1) := by decide +kernel
theorem dJ3_checkFromIndexSize_8c36e_12 : decode cJ3_checkFromIndexSize_8c36e 12 = .ok (.if_icmp .le 11, 3) := by decide +kernel
theorem dJ3_checkFromIndexSize_8c36e_15 : decode cJ3_checkFromIndexSize_8c36e 15 = .ok (.aload_n 3, 1) := by decide +kernel
theorem dJ3_checkFromIndexSize_8c36e_16 : decode cJ3_checkFromIndexSize_8c36e 16 = .ok (.iload_n 0, 1) := by decide +kernel
theorem dJ3_checkFromIndexSize_8c36e_17 : decode cJ3_checkFromIndexSize_8c36e 17 = .ok (.iload_n 1, 1) := by decide +kernel
theorem dJ3_checkFromIndexSize_8c36e_18 : decode cJ3_checkFromIndexSize_8c36e 18 = .ok (.iload_n 2, 1) := by decide +kernel
theorem dJ3_checkFromIndexSize_8c36e_19 : decode cJ3_checkFromIndexSize_8c36e 19 = .ok (.invokestatic 103, 3) := by decide +kernel
theorem dJ3_checkFromIndexSize_8c36e_22 : decode cJ3_checkFromIndexSize_8c36e 22 = .ok (.athrow, 1) := by decide +kernel
theorem dJ3_checkFromIndexSize_8c36e_23 : decode cJ3_checkFromIndexSize_8c36e 23 = .ok (.iload_n 0, 1) := by decide +kernel
theorem dJ3_checkFromIndexSize_8c36e_24 : decode cJ3_checkFromIndexSize_8c36e 24 = .ok (.ireturn, 1) := by decide +kernel
end
section
/-! ===== the words that hold at every entry ===== -/
def TW : List Cond := lw_tbl.filter goodWord
theorem tw_of {w : Cond} {i : Nat} (h : lw_tbl[i]? = some w) (hg : goodWord w = true) : w ∈ TW := List.mem_filter.mpr ⟨List.mem_of_getElem? h, hg⟩
theorem tw_good : GoodIn TW TW := fun w h => ⟨h, good_of_word (List.mem_filter.mp h).2⟩
theorem tw_sub : ∀ w ∈ TW, w ∈ lw_tbl := fun w h => (List.mem_filter.mp h).1
/-! ===== the memory: banks of ints; places of objects and arrays; what stands at a place ===== -/
abbrev Mem : Type := Nat → Nat → Int32
def up (S : Mem) (b j : Nat) (x : Int32) : Mem := fun b' j' => if b' = b ∧ j' = j then x else S b' j'
theorem up_same (S : Mem) (b j : Nat) (x : Int32) : up S b j x b j = x := by simp [up]
theorem up_ne (S : Mem) {b j b' j' : Nat} (x : Int32) (h : ¬ (b' = b ∧ j' = j)) : up S b j x b' j' = S b' j' := by simp [up, h]
/-- the fixed data of a run: classes; array classes; the places' addresses; where the law's cells begin; addresses of constants; what is known of the constants -/
abbrev EV : Type := va_G × (Nat → ClassId) × (Nat → Nat) × Nat × (Nat → Nat)
abbrev eD (v : EV) : va_G := v.1
abbrev eC (v : EV) : Nat → ClassId := v.2.1
abbrev eA (v : EV) : Nat → Nat := v.2.2.1
abbrev eN (v : EV) : Nat := v.2.2.2.1
abbrev eT (v : EV) : Nat → Nat := v.2.2.2.2
abbrev eG (v : EV) : Nat → Prop := fun q => eN v ≤ q
abbrev FS : Type := Nat × Nat × Nat
abbrev DS : Type := (Nat × List FS) ⊕ (Nat × Nat × Nat × Nat × Nat)
def wv (v : EV) (x : Int32) : Value := if x = 0 then .null else .ref (eT v (x - 1).toNatClampNeg)
def fv (v : EV) (da : Nat → Nat) (S : Mem) (f : FS) : Value :=
  if f.1 = 0 then .int (S f.2.1 f.2.2) else if f.1 = 1 then .ref (eA v f.2.1) else if f.1 = 2 then wv v (S f.2.1 f.2.2) else if f.1 = 3 then .ref (da f.2.1) else .int (Int32.ofNat f.2.1)
def ce (v : EV) (da : Nat → Nat) (S : Mem) : DS → va_E
  | .inl (ci, fs) => .inr (ci, fs.map (fv v da S))
  | .inr (t, n, 0, b, st) => .inl (eC v t, n, .inl (fun j => if j < n then S b (st + j) else 0))
  | .inr (t, n, _, x, y) => .inl (eC v t, n, .inr (.inr (.inr (.inr (fun j => if j < n then some (eA v (x + y * j)) else none)))))
def pR (k : Nat) : Nat := 18 * k
def pD (k i : Nat) : Nat := 18 * k + 3 + 3 * i
def layRaft (k r : Nat) : DS :=
  if r = 0 then .inl (4, [(1, 18 * k + 1, 0), (1, 18 * k + 2, 0), (0, k, 1), (0, k, 0), (0, k, 2), (0, k, 3), (0, k, 4), (0, k, 5), (0, k, 6), (0, k, 7)])
  else if r = 1 then .inr (4, 5, 1, 18 * k + 3, 3)
  else if r = 2 then .inr (2, 25, 0, k, 8)
  else if (r - 3) % 3 = 0 then .inl (2, [(0, k, 33 + 34 * ((r - 3) / 3)), (0, k, 33 + 34 * ((r - 3) / 3) + 1), (0, k, 33 + 34 * ((r - 3) / 3) + 2), (0, k, 33 + 34 * ((r - 3) / 3) + 3), (0, k, 33 + 34 * ((r - 3) / 3) + 4), (0, k, 33 + 34 * ((r - 3) / 3) + 5), (0, k, 33 + 34 * ((r - 3) / 3) + 6), (0, k, 33 + 34 * ((r - 3) / 3) + 7), (0, k, 33 + 34 * ((r - 3) / 3) + 8), (0, k, 33 + 34 * ((r - 3) / 3) + 9), (1, 18 * k + 4 + 3 * ((r - 3) / 3), 0), (1, 18 * k + 5 + 3 * ((r - 3) / 3), 0)])
  else if (r - 3) % 3 = 1 then .inr (0, 12, 0, k, 33 + 34 * ((r - 3) / 3) + 10)
  else .inr (1, 12, 0, k, 33 + 34 * ((r - 3) / 3) + 22)
def layRest : Nat → DS
  | 0 => .inl (7, [(1, 0, 0), (1, 18, 0), (1, 36, 0), (1, 199, 0), (1, 201, 0), (1, 202, 0), (1, 217, 0), (0, 11, 0), (0, 11, 1)])
  | 1 => .inl (3, [(1, 200, 0), (0, 11, 2), (0, 11, 3)])
  | 2 => .inr (5, 8, 1, 54, 18)
  | 3 => .inl (5, [(0, 11, 4), (0, 11, 5), (0, 11, 6), (0, 11, 7)])
  | 4 => .inl (6, [(1, 203, 0), (1, 204, 0), (0, 11, 8), (0, 11, 9)])
  | 5 => .inl (0, [(3, 0, 0), (4, 0, 0), (0, 13, 2), (0, 13, 0)])
  | 6 => .inr (6, 12, 1, 205, 1)
  | 19 => .inl (0, [(3, 1, 0), (4, 0, 0), (0, 15, 2), (0, 15, 0)])
  | 20 => .inl (8, [(1, 219, 0), (1, 220, 0), (1, 221, 0), (1, 222, 0), (1, 223, 0), (0, 28, 5), (0, 28, 6), (0, 28, 7), (0, 28, 8), (0, 28, 9), (0, 28, 10), (0, 28, 11), (1, 224, 0), (1, 225, 0), (0, 28, 14), (0, 28, 15), (0, 28, 16), (0, 28, 17), (1, 226, 0), (0, 28, 19)])
  | 21 => .inr (0, 203, 0, 20, 0)
  | 22 => .inr (0, 203, 0, 21, 0)
  | 23 => .inr (0, 203, 0, 22, 0)
  | 24 => .inr (0, 203, 0, 23, 0)
  | 25 => .inr (0, 1624, 0, 24, 0)
  | 26 => .inr (0, 60, 0, 25, 0)
  | 27 => .inr (0, 39, 0, 26, 0)
  | 28 => .inr (0, 120, 0, 27, 0)
  | n => .inl (1, [(2, 12, 3 * (n - 7)), (0, 12, 3 * (n - 7) + 1), (0, 12, 3 * (n - 7) + 2)])
def layF (p : Nat) : DS := if p < 198 then layRaft (p / 18) (p % 18) else layRest (p - 198)
def layN : Nat := 227
/-- which place a cell of the memory belongs to -/
def ownr (b j : Nat) : Nat :=
  if b < 11 then (if j < 8 then 18 * b else if j < 33 then 18 * b + 2 else 18 * b + 3 + 3 * ((j - 33) / 34) + (if (j - 33) % 34 < 10 then 0 else if (j - 33) % 34 < 22 then 1 else 2))
  else if b = 11 then (if j < 2 then 198 else if j < 4 then 199 else if j < 8 then 201 else 202)
  else if b = 12 then 205 + j / 3
  else if b = 13 then 203 else if b = 15 then 217 else if b = 28 then 218 else 199 + b
def srcs : DS → List (Nat × Nat)
  | .inl (_, fs) => fs.filterMap (fun f => if f.1 = 0 ∨ f.1 = 2 then some (f.2.1, f.2.2) else none)
  | .inr (_, n, 0, b, st) => (List.range n).map (fun j => (b, st + j))
  | .inr _ => []
theorem own_all : ∀ p, p < layN → (srcs (layF p)).all (fun q => ownr q.1 q.2 == p) = true := by decide +kernel
theorem own_ok {p : Nat} (hp : p < layN) {q : Nat × Nat} (h : q ∈ srcs (layF p)) : ownr q.1 q.2 = p := eq_of_beq (List.all_eq_true.mp (own_all p hp) q h)
theorem fv_up {v : EV} {da : Nat → Nat} {S : Mem} {b j : Nat} {x : Int32} {f : FS} (h : (f.1 = 0 ∨ f.1 = 2) → ¬ (f.2.1 = b ∧ f.2.2 = j)) : fv v da (up S b j x) f = fv v da S f := by
  unfold fv
  by_cases h0 : f.1 = 0
  · rw [if_pos h0, if_pos h0, up_ne S x (h (Or.inl h0))]
  · rw [if_neg h0, if_neg h0]
    by_cases h1 : f.1 = 1
    · rw [if_pos h1, if_pos h1]
    · rw [if_neg h1, if_neg h1]
      by_cases h2 : f.1 = 2
      · rw [if_pos h2, if_pos h2, up_ne S x (h (Or.inr h2))]
      · rw [if_neg h2, if_neg h2]
theorem ce_up {v : EV} {da : Nat → Nat} {S : Mem} {b j : Nat} {x : Int32} {d : DS} (h : (b, j) ∉ srcs d) : ce v da (up S b j x) d = ce v da S d := by
  match d, h with
  | .inl (ci, fs), h =>
    show Sum.inr (ci, _) = Sum.inr (ci, _)
    refine congrArg (fun l => Sum.inr (ci, l)) (List.map_congr_left fun f hf => fv_up fun ht e => h ?_)
    exact List.mem_filterMap.mpr ⟨f, hf, by rw [if_pos ht, e.1, e.2]⟩
  | .inr (t, n, 0, b', st), h =>
    refine congrArg (fun g => Sum.inl (eC v t, n, Sum.inl g)) (funext fun k => ?_)
    by_cases hk : k < n
    · rw [if_pos hk, if_pos hk]
      refine up_ne S x fun e => h ?_
      exact List.mem_map.mpr ⟨k, List.mem_range.mpr hk, by rw [← e.1, ← e.2]⟩
    · rw [if_neg hk, if_neg hk]
  | .inr (t, n, k + 1, y, z), h => rfl
/-! ===== the world ===== -/
def wsL (v : EV) (da : Nat → Nat) (S : Mem) : va_W := (List.range layN).map (fun p => (eA v p, ce v da S (layF p)))
def capN (S : Mem) (b : Nat) : Nat := (S b 1).toNatClampNeg
def wsD (v : EV) (da : Nat → Nat) (S : Mem) : va_W := [(da 0, .inl (eC v 3, capN S 13, .inl (S 14))), (da 1, .inl (eC v 3, capN S 15, .inl (S 16)))]
def wsW (v : EV) (da : Nat → Nat) (S : Mem) : va_W := wsL v da S ++ wsD v da S
def WDa (v : EV) (da : Nat → Nat) (S : Mem) (H : Heap) : Prop := va_P (eD v) vwCl (wsW v da S) H ∧ va_D (eG v) (wsW v da S)
def WD (v : EV) (S : Mem) (H : Heap) : Prop := ∃ da : Nat → Nat, WDa v da S H
theorem wsL_len (v : EV) (da : Nat → Nat) (S : Mem) : (wsL v da S).length = layN := by simp [wsL]
theorem wsW_at {v : EV} {da : Nat → Nat} {S : Mem} {p : Nat} (hp : p < layN) : (wsW v da S)[p]? = some (eA v p, ce v da S (layF p)) := by
  unfold wsW
  rw [List.getElem?_append_left (by rw [wsL_len]; exact hp)]
  simp [wsL, hp]
theorem wsL_set {v : EV} {da : Nat → Nat} {S S' : Mem} {p : Nat} {e : va_E} (hp : p < layN) (h1 : ce v da S' (layF p) = e) (h2 : ∀ q, q < layN → q ≠ p → ce v da S' (layF q) = ce v da S (layF q)) : (wsL v da S).set p (eA v p, e) = wsL v da S' := by
  refine List.ext_getElem? fun q => ?_
  rw [List.getElem?_set, wsL_len]
  by_cases hq : p = q
  · subst hq
    rw [if_pos rfl, if_pos hp]
    simp [wsL, hp, h1]
  · rw [if_neg hq]
    by_cases hl : q < layN
    · simp [wsL, hl, h2 q hl (fun z => hq z.symm)]
    · simp [wsL, hl]
/-- a cell of the memory that no builder's row holds -/
def plainB (b j : Nat) : Prop := b ≠ 14 ∧ b ≠ 16 ∧ ¬ (b = 13 ∧ j = 1) ∧ ¬ (b = 15 ∧ j = 1)
theorem wsW_up {v : EV} {da : Nat → Nat} {S : Mem} {p b j : Nat} {x : Int32} {e : va_E} (hp : p < layN) (hb : plainB b j) (ho : ownr b j = p) (h1 : ce v da (up S b j x) (layF p) = e) : (wsW v da S).set p (eA v p, e) = wsW v da (up S b j x) := by
  unfold wsW
  rw [List.set_append_left _ _ (by rw [wsL_len]; exact hp), wsL_set hp h1 (fun q hq hn => ce_up fun hm => hn ?_)]
  · unfold wsD capN
    rw [up_ne S x (fun z => hb.2.2.1 ⟨z.1.symm, z.2.symm⟩), up_ne S x (fun z => hb.2.2.2 ⟨z.1.symm, z.2.symm⟩)]
    rw [show up S b j x 14 = S 14 from funext fun k => up_ne S x (fun z => hb.1 z.1.symm), show up S b j x 16 = S 16 from funext fun k => up_ne S x (fun z => hb.2.1 z.1.symm)]
  · have := own_ok hq hm
    dsimp only at this
    rw [← this, ho]
/-! ===== what holds in a method's frame; the judgement; the contract ===== -/
def tysOf (v : EV) : List (ClassId × FieldType) := [(eC v 0, .int), (eC v 1, .char), (eC v 2, .boolean), (eC v 3, .byte), (eC v 4, .object "LogRaft$Driver"), (eC v 5, .object "LogRaft$Raft"), (eC v 6, .object "LogRaft$Command")]
def tyOf : Nat → FieldType
  | 0 => .int
  | 1 => .char
  | 2 => .boolean
  | 3 => .byte
  | 4 => .object "LogRaft$Driver"
  | 5 => .object "LogRaft$Raft"
  | _ => .object "LogRaft$Command"
theorem tysOf_at (v : EV) {t : Nat} (h : t < 7) : (tysOf v)[t]? = some (eC v t, tyOf t) := by
  match t, h with
  | 0, _ => rfl
  | 1, _ => rfl
  | 2, _ => rfl
  | 3, _ => rfl
  | 4, _ => rfl
  | 5, _ => rfl
  | 6, _ => rfl
  | n + 7, h => omega
/-! ===== the constants: the words of the enum, the literals, the tables ===== -/
def wNm : List String := ["DRIVER", "ASK", "SEND", "SHOUT", "WASH", "BACK", "CUT", "TIE", "BEAT"]
def wTx : List String := ["driver ", "ask ", "send ", "shout ", "wash ", "back ", "cut ", "tie ", "beat"]
def wLen : List Nat := [7, 4, 5, 6, 5, 5, 4, 4, 4]
def wByt : List (List Int32) := [[100, 114, 105, 118, 101, 114, 32], [97, 115, 107, 32], [115, 101, 110, 100, 32], [115, 104, 111, 117, 116, 32], [119, 97, 115, 104, 32], [98, 97, 99, 107, 32], [99, 117, 116, 32], [116, 105, 101, 32], [98, 101, 97, 116]]
def dgO (j : Nat) : Int32 := Int32.ofNat (48 + j % 10)
def dgT (j : Nat) : Int32 := Int32.ofNat (48 + j / 10)
def eF (v : EV) (U : State) : Prop :=
  va_En "LogRaft$Word" "LLogRaft$Word;" wNm [("java/lang/Enum", "ordinal", "I", [0, 1, 2, 3, 4, 5, 6, 7, 8])] (eT v) (eG v) U U.heap
  ∧ va_Ef 9 "LogRaft$Word" "signs" "Ljava/lang/String;" (fun i => .ref (eT v (10 + i))) (eT v) (eG v) U U.heap
  ∧ vk_S 9 wLen wByt (fun i => eT v (10 + i)) (fun i => eT v (20 + i)) (eG v) U U.heap
  ∧ (∀ i, i < 9 → vk_R "LogRaftModel" (191 + 2 * i) (wTx.getD i "") (eT v (10 + i)) U)
  ∧ va_Z "LogRaft" "WORDS" "[LLogRaft$Word;" (.ref (eT v 31)) (eG v) U U.heap
  ∧ va_T (.object "LogRaft$Word") (eT v 31) 9 (fun j => .ref (eT v j)) (eG v) U U.heap
  ∧ va_Z "LogRaft$1" "$SwitchMap$LogRaft$Word" "[I" (.ref (eT v 30)) (eG v) U U.heap
  ∧ va_T .int (eT v 30) 9 (fun j => .int (Int32.ofNat (j + 1))) (eG v) U U.heap
  ∧ va_Z "java/lang/String" "COMPACT_STRINGS" "Z" (.int 1) (eG v) U U.heap
  ∧ va_Z "java/lang/Integer" "DigitOnes" "[B" (.ref (eT v 32)) (eG v) U U.heap
  ∧ va_T .byte (eT v 32) 100 (fun j => .int (dgO j)) (eG v) U U.heap
  ∧ va_Z "java/lang/Integer" "DigitTens" "[B" (.ref (eT v 33)) (eG v) U U.heap
  ∧ va_T .byte (eT v 33) 100 (fun j => .int (dgT j)) (eG v) U U.heap
  ∧ (∃ q, (∃ a : Nat, q = Value.ref a) ∧ va_Z "jdk/internal/util/Preconditions" "SIOOBE_FORMATTER" "Ljava/util/function/BiFunction;" q (eG v) U U.heap ∨ q = Value.null ∧ va_Z "jdk/internal/util/Preconditions" "SIOOBE_FORMATTER" "Ljava/util/function/BiFunction;" q (eG v) U U.heap)
  ∧ va_Nw (.fieldLinkNest "LogRaft$Text" 67 "LogRaft" "WORDS" "[LLogRaft$Word;" "LogRaft") U
  ∧ va_Nw (.methodLinkNest "LogRaft$Raft" 21 ⟨"LogRaft$Driver", "<init>", "()V"⟩ "LogRaft") U
  ∧ va_Nw (.declares ⟨"java/lang/Enum", "ordinal", "()I"⟩) U
/-- what is known of the constants stays, however the law's own cells change -/
def Stb (v : EV) : Prop := ∀ s U : State, eF v s → (s.vm = U.vm ∨ s.WarmedH U.vm) → (∀ q : Nat, q < s.heap.size → ¬ eG v q → U.heap[q]? = s.heap[q]?) → eF v U
theorem stb_all (v : EV) : Stb v := by
  intro s U h hvm hq
  have hal : s.vm.Alike U.vm := by
    rcases hvm with e | e
    · rw [e]; exact Vm.Alike.refl _
    · exact e.alike
  obtain ⟨a1, a2, a3, a4, a5, a6, a7, a8, a9, a10, a11, a12, a13, a14, a15, a16, a17⟩ := h
  refine ⟨(a1.kept hq).moved hal, (a2.kept hq).moved hal, (a3.kept hq).moved hal, fun i hi => ?_, (a5.kept hq).moved hal, (a6.kept hq).moved hal, (a7.kept hq).moved hal, (a8.kept hq).moved hal, (a9.kept hq).moved hal, (a10.kept hq).moved hal, (a11.kept hq).moved hal, (a12.kept hq).moved hal, (a13.kept hq).moved hal, ?_, ?_, ?_, ?_⟩
  · rcases hvm with e | e
    · exact (a4 i hi).same e.symm
    · exact (a4 i hi).warm e
  · obtain ⟨q, h⟩ := a14
    exact ⟨q, h.imp (fun h => ⟨h.1, (h.2.kept hq).moved hal⟩) (fun h => ⟨h.1, (h.2.kept hq).moved hal⟩)⟩
  · rcases hvm with e | e
    · exact va_Nw.same rfl e a15
    · exact va_Nw.warmF e a15
  · rcases hvm with e | e
    · exact va_Nw.same rfl e a16
    · exact va_Nw.warmM e a16
  · rcases hvm with e | e
    · exact va_Nw.same rfl e a17
    · exact va_Nw.warmD e a17
def Cx (v : EV) (p : Program) (l : Launch) (e : Env) (s : State) (m : MethodId) (args : Array Value) (meth : Method) (c : Code) (own : String) (cc : ByteArray) (nL : Nat) (ret : Option FieldType) : Prop :=
  p.tables.exec = Jvm.exec ∧ c.code = cc ∧ c.maxLocals = nL ∧ s.vm.findClass own = some m.cls ∧ (∀ w ∈ TW, w.before args s = true) ∧ va_K (eD v) vwCl (tysOf v) s ∧ eF v s ∧ Stb v ∧ eN v ≤ s.heap.size ∧ meth.sig.returnType = ret ∧ meth.locks = false
/-- the judgement: from the frame at pc, with the memory S in the heap, at most qb further growths -/
def Mw (Wd : Mem → Heap → Prop) (v : EV) (p : Program) (l : Launch) (e : Env) (R : Room) (s : State) (m : MethodId) (args : Array Value) (below : List Frame) (meth : Method) (c : Code) (nL : Nat) (Q : State → Prop) (qb : Nat) (S : Mem) (pc : Nat) (lv : List (Nat × Value)) (st : List Value) : Prop :=
  ∀ (H : Heap) (locs : List Loc) (ls : Array Slot) (cells slots : Nat), (cells + qb ≤ R.cells ∧ slots + 160 * qb ≤ R.slots) → Wd S H → va_S (eG v) s.heap H locs → lv_has ls nL lv → W p l e R s m args below meth c H locs cells slots Q (F0 m pc ls st)
abbrev Mj (v : EV) (p : Program) (l : Launch) (e : Env) (R : Room) (s : State) (m : MethodId) (args : Array Value) (below : List Frame) (meth : Method) (c : Code) (nL : Nat) (Q : State → Prop) (qb : Nat) (S : Mem) (pc : Nat) (lv : List (Nat × Value)) (st : List Value) : Prop :=
  Mw (WD v) v p l e R s m args below meth c nL Q qb S pc lv st
def Qc (v : EV) (rv : Option Value) (S' : Mem) : Array Value → State → Outcome → State → Prop := fun _ st o t => o = .returned rv ∧ WD v S' t.heap ∧ va_F (eG v) st t
def Pe (v : EV) (av : List Value) (S : Mem) : Array Value → State → Prop := va_Pc av (fun U => eN v ≤ U.heap.size ∧ va_K (eD v) vwCl (tysOf v) U ∧ eF v U ∧ WD v S U.heap)
def rmF (F L : Nat) : Room := { frames := F, cells := 0, slots := 0, locals := L }
def rmK (K F L : Nat) : Room := { frames := F, cells := K, slots := 160 * K, locals := L }
def ConK (K : Nat) (v : EV) (l : Launch) (y : MethodName) (cc : ByteArray) (nL : Nat) (ret : Option FieldType) (F L : Nat) (av : List Value) (S : Mem) (rv : Option Value) (S' : Mem) : Prop :=
  Met l y (.code y cc nL ret :: TW) (rmK K F L) (Pe v av S) (Qc v rv S') K (160 * K) (eG v)
abbrev Con (v : EV) (l : Launch) (y : MethodName) (cc : ByteArray) (nL : Nat) (ret : Option FieldType) (F L : Nat) (av : List Value) (S : Mem) (rv : Option Value) (S' : Mem) : Prop := ConK 0 v l y cc nL ret F L av S rv S'
/-! ===== locals ===== -/
def lk : List (Nat × Value) → Nat → Option Value
  | [], _ => none
  | (j, x) :: l, i => bif Nat.beq j i then some x else lk l i
theorem lk_mem {lv : List (Nat × Value)} {i : Nat} {x : Value} (h : lk lv i = some x) : (i, x) ∈ lv := by
  induction lv with
  | nil => cases h
  | cons q l ih =>
    obtain ⟨j, y⟩ := q
    unfold lk at h
    by_cases hj : Nat.beq j i = true
    · rw [hj] at h
      obtain rfl := Option.some.inj h
      rw [Nat.eq_of_beq_eq_true hj]
      exact List.mem_cons_self
    · rw [Bool.eq_false_iff.mpr hj] at h
      exact List.mem_cons_of_mem _ (ih h)
theorem lk_has {ls : Array Slot} {nL : Nat} {lv : List (Nat × Value)} {i : Nat} {x : Value} (h : lv_has ls nL lv) (hk : lk lv i = some x) : ls[i]? = some (.val x) := h.2.2 (i, x) (lk_mem hk)
def lst (lv : List (Nat × Value)) (i : Nat) (x : Value) : List (Nat × Value) := (i, x) :: lv.filter (fun q => !(q.1 == i) && !(q.1 + 1 == i && q.2.category == 2))
def subl (lv : List (Nat × Value)) : List (Nat × Value) → Prop
  | [] => True
  | q :: l => lk lv q.1 = some q.2 ∧ subl lv l
theorem subl_has {ls : Array Slot} {nL : Nat} {lv lv' : List (Nat × Value)} (h : lv_has ls nL lv) (hs : subl lv lv') : lv_has ls nL lv' := by
  refine ⟨h.1, h.2.1, ?_⟩
  induction lv' with
  | nil => intro q hq; cases hq
  | cons a l ih =>
    intro q hq
    rcases List.mem_cons.mp hq with rfl | hq
    · exact h.2.2 _ (lk_mem hs.1)
    · exact ih hs.2 q hq
end
section
section RULES
variable {v : EV} {p : Program} {l : Launch} {e : Env} {R : Room} {s : State} {m : MethodId} {args : Array Value} {below : List Frame} {meth : Method} {c : Code} {own : String} {cc : ByteArray} {nL : Nat} {ret : Option FieldType} {Q : State → Prop} {qb : Nat} {Wd : Mem → Heap → Prop} {da : Nat → Nat} {S : Mem} {pc : Nat} {lv : List (Nat × Value)} {st : List Value}
theorem i_iconst (hC : Cx v p l e s m args meth c own cc nL ret) {n : Int} {x : Int32} (hdg : decode cc pc = .ok (.iconst n, 1)) (hv : Int32.ofInt n = x) (k : Mw Wd v p l e R s m args below meth c nL Q qb S (pc + 1) lv (.int x :: st)) : Mw Wd v p l e R s m args below meth c nL Q qb S pc lv (st) := fun H locs ls cells slots hbu hW hS hl => lv_iconst hC.1 hC.2.1 hdg hv (k H locs ls cells slots hbu hW hS hl)
theorem i_bipush (hC : Cx v p l e s m args meth c own cc nL ret) {n : Int} {x : Int32} (hdg : decode cc pc = .ok (.bipush n, 2)) (hv : (Int8.ofInt n).toInt32 = x) (k : Mw Wd v p l e R s m args below meth c nL Q qb S (pc + 2) lv (.int x :: st)) : Mw Wd v p l e R s m args below meth c nL Q qb S pc lv (st) := fun H locs ls cells slots hbu hW hS hl => lv_bipush hC.1 hC.2.1 hdg hv (k H locs ls cells slots hbu hW hS hl)
theorem i_sipush (hC : Cx v p l e s m args meth c own cc nL ret) {n : Int} {x : Int32} (hdg : decode cc pc = .ok (.sipush n, 3)) (hv : (Int16.ofInt n).toInt32 = x) (k : Mw Wd v p l e R s m args below meth c nL Q qb S (pc + 3) lv (.int x :: st)) : Mw Wd v p l e R s m args below meth c nL Q qb S pc lv (st) := fun H locs ls cells slots hbu hW hS hl => lv_sipush hC.1 hC.2.1 hdg hv (k H locs ls cells slots hbu hW hS hl)
theorem i_iadd (hC : Cx v p l e s m args meth c own cc nL ret) {x y : Int32} (hdg : decode cc pc = .ok (.iadd, 1)) (k : Mw Wd v p l e R s m args below meth c nL Q qb S (pc + 1) lv (.int (x + y) :: st)) : Mw Wd v p l e R s m args below meth c nL Q qb S pc lv (.int y :: .int x :: st) := fun H locs ls cells slots hbu hW hS hl => lv_iadd hC.1 hC.2.1 hdg (k H locs ls cells slots hbu hW hS hl)
theorem i_isub (hC : Cx v p l e s m args meth c own cc nL ret) {x y : Int32} (hdg : decode cc pc = .ok (.isub, 1)) (k : Mw Wd v p l e R s m args below meth c nL Q qb S (pc + 1) lv (.int (x - y) :: st)) : Mw Wd v p l e R s m args below meth c nL Q qb S pc lv (.int y :: .int x :: st) := fun H locs ls cells slots hbu hW hS hl => lv_isub hC.1 hC.2.1 hdg (k H locs ls cells slots hbu hW hS hl)
theorem i_imul (hC : Cx v p l e s m args meth c own cc nL ret) {x y : Int32} (hdg : decode cc pc = .ok (.imul, 1)) (k : Mw Wd v p l e R s m args below meth c nL Q qb S (pc + 1) lv (.int (x * y) :: st)) : Mw Wd v p l e R s m args below meth c nL Q qb S pc lv (.int y :: .int x :: st) := fun H locs ls cells slots hbu hW hS hl => lv_imul hC.1 hC.2.1 hdg (k H locs ls cells slots hbu hW hS hl)
theorem i_iand (hC : Cx v p l e s m args meth c own cc nL ret) {x y : Int32} (hdg : decode cc pc = .ok (.iand, 1)) (k : Mw Wd v p l e R s m args below meth c nL Q qb S (pc + 1) lv (.int (x &&& y) :: st)) : Mw Wd v p l e R s m args below meth c nL Q qb S pc lv (.int y :: .int x :: st) := fun H locs ls cells slots hbu hW hS hl => lv_iand hC.1 hC.2.1 hdg (k H locs ls cells slots hbu hW hS hl)
theorem i_idiv (hC : Cx v p l e s m args meth c own cc nL ret) {x y : Int32} (hdg : decode cc pc = .ok (.idiv, 1)) (hne : ¬ y = 0) (k : Mw Wd v p l e R s m args below meth c nL Q qb S (pc + 1) lv (.int (x / y) :: st)) : Mw Wd v p l e R s m args below meth c nL Q qb S pc lv (.int y :: .int x :: st) := fun H locs ls cells slots hbu hW hS hl => lv_idiv hC.1 hC.2.1 hdg hne (k H locs ls cells slots hbu hW hS hl)
theorem i_irem (hC : Cx v p l e s m args meth c own cc nL ret) {x y : Int32} (hdg : decode cc pc = .ok (.irem, 1)) (hne : ¬ y = 0) (k : Mw Wd v p l e R s m args below meth c nL Q qb S (pc + 1) lv (.int (x - x / y * y) :: st)) : Mw Wd v p l e R s m args below meth c nL Q qb S pc lv (.int y :: .int x :: st) := fun H locs ls cells slots hbu hW hS hl => lv_irem hC.1 hC.2.1 hdg hne (k H locs ls cells slots hbu hW hS hl)
theorem i_dup (hC : Cx v p l e s m args meth c own cc nL ret) {x : Value} (hdg : decode cc pc = .ok (.dup, 1)) (hc : x.category = 1) (k : Mw Wd v p l e R s m args below meth c nL Q qb S (pc + 1) lv (x :: x :: st)) : Mw Wd v p l e R s m args below meth c nL Q qb S pc lv (x :: st) := fun H locs ls cells slots hbu hW hS hl => lv_dup hC.1 hC.2.1 hdg hc (k H locs ls cells slots hbu hW hS hl)
theorem i_pop (hC : Cx v p l e s m args meth c own cc nL ret) {x : Value} (hdg : decode cc pc = .ok (.pop, 1)) (hc : x.category = 1) (k : Mw Wd v p l e R s m args below meth c nL Q qb S (pc + 1) lv (st)) : Mw Wd v p l e R s m args below meth c nL Q qb S pc lv (x :: st) := fun H locs ls cells slots hbu hW hS hl => lv_pop hC.1 hC.2.1 hdg hc (k H locs ls cells slots hbu hW hS hl)
theorem i_dup2 (hC : Cx v p l e s m args meth c own cc nL ret) {x y : Value} (hdg : decode cc pc = .ok (.dup2, 1)) (hc : x.category = 1) (hc2 : y.category = 1) (k : Mw Wd v p l e R s m args below meth c nL Q qb S (pc + 1) lv (x :: y :: x :: y :: st)) : Mw Wd v p l e R s m args below meth c nL Q qb S pc lv (x :: y :: st) := fun H locs ls cells slots hbu hW hS hl => lv_dup2_11 hC.1 hC.2.1 hdg hc hc2 (k H locs ls cells slots hbu hW hS hl)
theorem i_i2c (hC : Cx v p l e s m args meth c own cc nL ret) {x : Int32} (hdg : decode cc pc = .ok (.i2c, 1)) (k : Mw Wd v p l e R s m args below meth c nL Q qb S (pc + 1) lv (.int ((x.toUInt32 % 65536).toInt32) :: st)) : Mw Wd v p l e R s m args below meth c nL Q qb S pc lv (.int x :: st) := fun H locs ls cells slots hbu hW hS hl => lv_i2c hC.1 hC.2.1 hdg rfl (k H locs ls cells slots hbu hW hS hl)
theorem i_iload_n (hC : Cx v p l e s m args meth c own cc nL ret) {q : Fin 4} {x : Int32} (hdg : decode cc pc = .ok (.iload_n q, 1)) (hk : lk lv q = some (.int x)) (k : Mw Wd v p l e R s m args below meth c nL Q qb S (pc + 1) lv (.int x :: st)) : Mw Wd v p l e R s m args below meth c nL Q qb S pc lv st := fun H locs ls cells slots hbu hW hS hl => lv_iload_n hC.1 hC.2.1 hdg rfl (lk_has hl hk) (k H locs ls cells slots hbu hW hS hl)
theorem i_iload (hC : Cx v p l e s m args meth c own cc nL ret) {i : Nat} {x : Int32} (hdg : decode cc pc = .ok (.iload i, 2)) (hk : lk lv i = some (.int x)) (k : Mw Wd v p l e R s m args below meth c nL Q qb S (pc + 2) lv (.int x :: st)) : Mw Wd v p l e R s m args below meth c nL Q qb S pc lv st := fun H locs ls cells slots hbu hW hS hl => lv_iload hC.1 hC.2.1 hdg (lk_has hl hk) (k H locs ls cells slots hbu hW hS hl)
theorem i_aload_n (hC : Cx v p l e s m args meth c own cc nL ret) {q : Fin 4} {x : Nat} (hdg : decode cc pc = .ok (.aload_n q, 1)) (hk : lk lv q = some (.ref x)) (k : Mw Wd v p l e R s m args below meth c nL Q qb S (pc + 1) lv (.ref x :: st)) : Mw Wd v p l e R s m args below meth c nL Q qb S pc lv st := fun H locs ls cells slots hbu hW hS hl => lv_aload_n hC.1 hC.2.1 hdg rfl (lk_has hl hk) (k H locs ls cells slots hbu hW hS hl)
theorem i_aload (hC : Cx v p l e s m args meth c own cc nL ret) {i : Nat} {x : Nat} (hdg : decode cc pc = .ok (.aload i, 2)) (hk : lk lv i = some (.ref x)) (k : Mw Wd v p l e R s m args below meth c nL Q qb S (pc + 2) lv (.ref x :: st)) : Mw Wd v p l e R s m args below meth c nL Q qb S pc lv st := fun H locs ls cells slots hbu hW hS hl => lv_aload hC.1 hC.2.1 hdg (lk_has hl hk) (k H locs ls cells slots hbu hW hS hl)
theorem i_istore_n (hC : Cx v p l e s m args meth c own cc nL ret) {q : Fin 4} {x : Int32} (hdg : decode cc pc = .ok (.istore_n q, 1)) (hn : (q : Nat) < nL) (k : Mw Wd v p l e R s m args below meth c nL Q qb S (pc + 1) (lst lv q (.int x)) st) : Mw Wd v p l e R s m args below meth c nL Q qb S pc lv (.int x :: st) := fun H locs ls cells slots hbu hW hS hl => lv_istore_n hC.1 hC.2.1 hdg rfl hl hn rfl (fun ls hl => k H locs ls cells slots hbu hW hS hl)
theorem i_istore (hC : Cx v p l e s m args meth c own cc nL ret) {i : Nat} {x : Int32} (hdg : decode cc pc = .ok (.istore i, 2)) (hn : i < nL) (k : Mw Wd v p l e R s m args below meth c nL Q qb S (pc + 2) (lst lv i (.int x)) st) : Mw Wd v p l e R s m args below meth c nL Q qb S pc lv (.int x :: st) := fun H locs ls cells slots hbu hW hS hl => lv_istore hC.1 hC.2.1 hdg hl hn rfl (fun ls hl => k H locs ls cells slots hbu hW hS hl)
theorem i_astore_n (hC : Cx v p l e s m args meth c own cc nL ret) {q : Fin 4} {x : Nat} (hdg : decode cc pc = .ok (.astore_n q, 1)) (hn : (q : Nat) < nL) (k : Mw Wd v p l e R s m args below meth c nL Q qb S (pc + 1) (lst lv q (.ref x)) st) : Mw Wd v p l e R s m args below meth c nL Q qb S pc lv (.ref x :: st) := fun H locs ls cells slots hbu hW hS hl => lv_astore_n hC.1 hC.2.1 hdg rfl hl hn rfl (fun ls hl => k H locs ls cells slots hbu hW hS hl)
theorem i_astore (hC : Cx v p l e s m args meth c own cc nL ret) {i : Nat} {x : Nat} (hdg : decode cc pc = .ok (.astore i, 2)) (hn : i < nL) (k : Mw Wd v p l e R s m args below meth c nL Q qb S (pc + 2) (lst lv i (.ref x)) st) : Mw Wd v p l e R s m args below meth c nL Q qb S pc lv (.ref x :: st) := fun H locs ls cells slots hbu hW hS hl => lv_astore hC.1 hC.2.1 hdg hl hn rfl (fun ls hl => k H locs ls cells slots hbu hW hS hl)
theorem i_iinc (hC : Cx v p l e s m args meth c own cc nL ret) {i : Nat} {n : Int} {x y : Int32} (hdg : decode cc pc = .ok (.iinc i n, 3)) (hk : lk lv i = some (.int x)) (hv : Int32.ofInt n = y) (hn : i < nL) (k : Mw Wd v p l e R s m args below meth c nL Q qb S (pc + 3) (lst lv i (.int (x + y))) st) : Mw Wd v p l e R s m args below meth c nL Q qb S pc lv st := by
  intro H locs ls cells slots hbu hW hS hl
  obtain ⟨j, hj⟩ := List.getElem?_of_mem (lk_mem hk)
  exact lv_iinc hC.1 hC.2.1 hdg hl hj (by rw [hv]) hn rfl (fun ls hl => k H locs ls cells slots hbu hW hS hl)
theorem i_goto (hC : Cx v p l e s m args meth c own cc nL ret) {off : Int} {tgt : Nat} (hdg : decode cc pc = .ok (.goto off, 3)) (ht : (pc : Int) + off = (tgt : Int)) (k : Mw Wd v p l e R s m args below meth c nL Q qb S tgt lv st) : Mw Wd v p l e R s m args below meth c nL Q qb S pc lv st := fun H locs ls cells slots hbu hW hS hl => lv_goto hC.1 hC.2.1 hdg ht (k H locs ls cells slots hbu hW hS hl)
theorem i_if_eq (hC : Cx v p l e s m args meth c own cc nL ret) {x : Int32} {off : Int} {tgt : Nat} (hdg : decode cc pc = .ok (.ifCond .eq off, 3)) (ht : (pc : Int) + off = (tgt : Int)) (kt : x = 0 → Mw Wd v p l e R s m args below meth c nL Q qb S tgt lv st) (kf : ¬ x = 0 → Mw Wd v p l e R s m args below meth c nL Q qb S (pc + 3) lv st) : Mw Wd v p l e R s m args below meth c nL Q qb S pc lv (.int x :: st) := fun H locs ls cells slots hbu hW hS hl => lv_if_eq hC.1 hC.2.1 hdg ht (fun q => kt q H locs ls cells slots hbu hW hS hl) (fun q => kf q H locs ls cells slots hbu hW hS hl)
theorem i_icmp_eq (hC : Cx v p l e s m args meth c own cc nL ret) {x y : Int32} {off : Int} {tgt : Nat} (hdg : decode cc pc = .ok (.if_icmp .eq off, 3)) (ht : (pc : Int) + off = (tgt : Int)) (kt : x = y → Mw Wd v p l e R s m args below meth c nL Q qb S tgt lv st) (kf : ¬ x = y → Mw Wd v p l e R s m args below meth c nL Q qb S (pc + 3) lv st) : Mw Wd v p l e R s m args below meth c nL Q qb S pc lv (.int y :: .int x :: st) := fun H locs ls cells slots hbu hW hS hl => lv_icmp_eq hC.1 hC.2.1 hdg ht (fun q => kt q H locs ls cells slots hbu hW hS hl) (fun q => kf q H locs ls cells slots hbu hW hS hl)
theorem i_if_ne (hC : Cx v p l e s m args meth c own cc nL ret) {x : Int32} {off : Int} {tgt : Nat} (hdg : decode cc pc = .ok (.ifCond .ne off, 3)) (ht : (pc : Int) + off = (tgt : Int)) (kt : ¬ x = 0 → Mw Wd v p l e R s m args below meth c nL Q qb S tgt lv st) (kf : x = 0 → Mw Wd v p l e R s m args below meth c nL Q qb S (pc + 3) lv st) : Mw Wd v p l e R s m args below meth c nL Q qb S pc lv (.int x :: st) := fun H locs ls cells slots hbu hW hS hl => lv_if_ne hC.1 hC.2.1 hdg ht (fun q => kt q H locs ls cells slots hbu hW hS hl) (fun q => kf q H locs ls cells slots hbu hW hS hl)
theorem i_icmp_ne (hC : Cx v p l e s m args meth c own cc nL ret) {x y : Int32} {off : Int} {tgt : Nat} (hdg : decode cc pc = .ok (.if_icmp .ne off, 3)) (ht : (pc : Int) + off = (tgt : Int)) (kt : ¬ x = y → Mw Wd v p l e R s m args below meth c nL Q qb S tgt lv st) (kf : x = y → Mw Wd v p l e R s m args below meth c nL Q qb S (pc + 3) lv st) : Mw Wd v p l e R s m args below meth c nL Q qb S pc lv (.int y :: .int x :: st) := fun H locs ls cells slots hbu hW hS hl => lv_icmp_ne hC.1 hC.2.1 hdg ht (fun q => kt q H locs ls cells slots hbu hW hS hl) (fun q => kf q H locs ls cells slots hbu hW hS hl)
theorem i_if_lt (hC : Cx v p l e s m args meth c own cc nL ret) {x : Int32} {off : Int} {tgt : Nat} (hdg : decode cc pc = .ok (.ifCond .lt off, 3)) (ht : (pc : Int) + off = (tgt : Int)) (kt : x < 0 → Mw Wd v p l e R s m args below meth c nL Q qb S tgt lv st) (kf : ¬ x < 0 → Mw Wd v p l e R s m args below meth c nL Q qb S (pc + 3) lv st) : Mw Wd v p l e R s m args below meth c nL Q qb S pc lv (.int x :: st) := fun H locs ls cells slots hbu hW hS hl => lv_if_lt hC.1 hC.2.1 hdg ht (fun q => kt q H locs ls cells slots hbu hW hS hl) (fun q => kf q H locs ls cells slots hbu hW hS hl)
theorem i_icmp_lt (hC : Cx v p l e s m args meth c own cc nL ret) {x y : Int32} {off : Int} {tgt : Nat} (hdg : decode cc pc = .ok (.if_icmp .lt off, 3)) (ht : (pc : Int) + off = (tgt : Int)) (kt : x < y → Mw Wd v p l e R s m args below meth c nL Q qb S tgt lv st) (kf : ¬ x < y → Mw Wd v p l e R s m args below meth c nL Q qb S (pc + 3) lv st) : Mw Wd v p l e R s m args below meth c nL Q qb S pc lv (.int y :: .int x :: st) := fun H locs ls cells slots hbu hW hS hl => lv_icmp_lt hC.1 hC.2.1 hdg ht (fun q => kt q H locs ls cells slots hbu hW hS hl) (fun q => kf q H locs ls cells slots hbu hW hS hl)
theorem i_if_ge (hC : Cx v p l e s m args meth c own cc nL ret) {x : Int32} {off : Int} {tgt : Nat} (hdg : decode cc pc = .ok (.ifCond .ge off, 3)) (ht : (pc : Int) + off = (tgt : Int)) (kt : 0 ≤ x → Mw Wd v p l e R s m args below meth c nL Q qb S tgt lv st) (kf : ¬ 0 ≤ x → Mw Wd v p l e R s m args below meth c nL Q qb S (pc + 3) lv st) : Mw Wd v p l e R s m args below meth c nL Q qb S pc lv (.int x :: st) := fun H locs ls cells slots hbu hW hS hl => lv_if_ge hC.1 hC.2.1 hdg ht (fun q => kt q H locs ls cells slots hbu hW hS hl) (fun q => kf q H locs ls cells slots hbu hW hS hl)
theorem i_icmp_ge (hC : Cx v p l e s m args meth c own cc nL ret) {x y : Int32} {off : Int} {tgt : Nat} (hdg : decode cc pc = .ok (.if_icmp .ge off, 3)) (ht : (pc : Int) + off = (tgt : Int)) (kt : y ≤ x → Mw Wd v p l e R s m args below meth c nL Q qb S tgt lv st) (kf : ¬ y ≤ x → Mw Wd v p l e R s m args below meth c nL Q qb S (pc + 3) lv st) : Mw Wd v p l e R s m args below meth c nL Q qb S pc lv (.int y :: .int x :: st) := fun H locs ls cells slots hbu hW hS hl => lv_icmp_ge hC.1 hC.2.1 hdg ht (fun q => kt q H locs ls cells slots hbu hW hS hl) (fun q => kf q H locs ls cells slots hbu hW hS hl)
theorem i_if_gt (hC : Cx v p l e s m args meth c own cc nL ret) {x : Int32} {off : Int} {tgt : Nat} (hdg : decode cc pc = .ok (.ifCond .gt off, 3)) (ht : (pc : Int) + off = (tgt : Int)) (kt : 0 < x → Mw Wd v p l e R s m args below meth c nL Q qb S tgt lv st) (kf : ¬ 0 < x → Mw Wd v p l e R s m args below meth c nL Q qb S (pc + 3) lv st) : Mw Wd v p l e R s m args below meth c nL Q qb S pc lv (.int x :: st) := fun H locs ls cells slots hbu hW hS hl => lv_if_gt hC.1 hC.2.1 hdg ht (fun q => kt q H locs ls cells slots hbu hW hS hl) (fun q => kf q H locs ls cells slots hbu hW hS hl)
theorem i_icmp_gt (hC : Cx v p l e s m args meth c own cc nL ret) {x y : Int32} {off : Int} {tgt : Nat} (hdg : decode cc pc = .ok (.if_icmp .gt off, 3)) (ht : (pc : Int) + off = (tgt : Int)) (kt : y < x → Mw Wd v p l e R s m args below meth c nL Q qb S tgt lv st) (kf : ¬ y < x → Mw Wd v p l e R s m args below meth c nL Q qb S (pc + 3) lv st) : Mw Wd v p l e R s m args below meth c nL Q qb S pc lv (.int y :: .int x :: st) := fun H locs ls cells slots hbu hW hS hl => lv_icmp_gt hC.1 hC.2.1 hdg ht (fun q => kt q H locs ls cells slots hbu hW hS hl) (fun q => kf q H locs ls cells slots hbu hW hS hl)
theorem i_if_le (hC : Cx v p l e s m args meth c own cc nL ret) {x : Int32} {off : Int} {tgt : Nat} (hdg : decode cc pc = .ok (.ifCond .le off, 3)) (ht : (pc : Int) + off = (tgt : Int)) (kt : x ≤ 0 → Mw Wd v p l e R s m args below meth c nL Q qb S tgt lv st) (kf : ¬ x ≤ 0 → Mw Wd v p l e R s m args below meth c nL Q qb S (pc + 3) lv st) : Mw Wd v p l e R s m args below meth c nL Q qb S pc lv (.int x :: st) := fun H locs ls cells slots hbu hW hS hl => lv_if_le hC.1 hC.2.1 hdg ht (fun q => kt q H locs ls cells slots hbu hW hS hl) (fun q => kf q H locs ls cells slots hbu hW hS hl)
theorem i_icmp_le (hC : Cx v p l e s m args meth c own cc nL ret) {x y : Int32} {off : Int} {tgt : Nat} (hdg : decode cc pc = .ok (.if_icmp .le off, 3)) (ht : (pc : Int) + off = (tgt : Int)) (kt : x ≤ y → Mw Wd v p l e R s m args below meth c nL Q qb S tgt lv st) (kf : ¬ x ≤ y → Mw Wd v p l e R s m args below meth c nL Q qb S (pc + 3) lv st) : Mw Wd v p l e R s m args below meth c nL Q qb S pc lv (.int y :: .int x :: st) := fun H locs ls cells slots hbu hW hS hl => lv_icmp_le hC.1 hC.2.1 hdg ht (fun q => kt q H locs ls cells slots hbu hW hS hl) (fun q => kf q H locs ls cells slots hbu hW hS hl)
theorem Mj.sub {lv2 : List (Nat × Value)} (hs : subl lv lv2) (k : Mw Wd v p l e R s m args below meth c nL Q qb S pc lv2 st) : Mw Wd v p l e R s m args below meth c nL Q qb S pc lv st := fun H locs ls cells slots hbu hW hS hl => k H locs ls cells slots hbu hW hS (subl_has hl hs)
theorem Mj.to {lv2 : List (Nat × Value)} (k : Mw Wd v p l e R s m args below meth c nL Q qb S pc lv2 st) (hs : subl lv lv2) : Mw Wd v p l e R s m args below meth c nL Q qb S pc lv st := Mj.sub hs k
theorem va_S.free {A : Nat → Prop} {H0 H : Heap} {locs : List Loc} (h : va_S A H0 H locs) : ∀ q ∈ locs, A q.base := h.2.2
theorem r_iret (hw : ∀ S H, Wd S H → WD v S H) (hC : Cx v p l e s m args meth c own cc nL (some .int)) {x : Int32} (hdg : decode cc pc = .ok (.ireturn, 1)) : Mw Wd v p l e R s m args below meth c nL (MQ below (Qc v (some (.int x)) S) args s R.cells R.slots (eG v)) qb S pc lv [.int x] := by
  intro H locs ls cells slots hbu hW hS hl
  obtain ⟨hx, hb, -, -, -, -, -, -, -, hr, hk⟩ := hC
  refine W.widen (k := R.cells) (n := R.slots) (by omega) (by omega) ?_
  exact W.iret hx hb hr (fun t ht hW' => ⟨rfl, by rw [ht]; exact hw S H hW, hS.F ht⟩) hS.free hdg hk
theorem r_zret (hw : ∀ S H, Wd S H → WD v S H) {ty : FieldType} (hC : Cx v p l e s m args meth c own cc nL (some ty)) {x : Int32} (hdg : decode cc pc = .ok (.ireturn, 1)) (hn : narrow ty (.int x) = .int x) : Mw Wd v p l e R s m args below meth c nL (MQ below (Qc v (some (.int x)) S) args s R.cells R.slots (eG v)) qb S pc lv [.int x] := by
  intro H locs ls cells slots hbu hW hS hl
  obtain ⟨hx, hb, -, -, -, -, -, -, -, hr, hk⟩ := hC
  refine W.widen (k := R.cells) (n := R.slots) (by omega) (by omega) ?_
  exact W.zret hx hb hr hn (fun t ht hW' => ⟨rfl, by rw [ht]; exact hw S H hW, hS.F ht⟩) hS.free hdg hk
theorem r_vret (hw : ∀ S H, Wd S H → WD v S H) (hC : Cx v p l e s m args meth c own cc nL none) (hdg : decode cc pc = .ok (.return_, 1)) : Mw Wd v p l e R s m args below meth c nL (MQ below (Qc v none S) args s R.cells R.slots (eG v)) qb S pc lv [] := by
  intro H locs ls cells slots hbu hW hS hl
  obtain ⟨hx, hb, -, -, -, -, -, -, -, hr, hk⟩ := hC
  refine W.widen (k := R.cells) (n := R.slots) (by omega) (by omega) ?_
  exact W.vret hx hb hr (fun t ht hW' => ⟨rfl, by rw [ht]; exact hw S H hW, hS.F ht⟩) hS.free hdg hk
theorem i_iret (hC : Cx v p l e s m args meth c own cc nL (some .int)) {x : Int32} (hdg : decode cc pc = .ok (.ireturn, 1)) : Mj v p l e R s m args below meth c nL (MQ below (Qc v (some (.int x)) S) args s R.cells R.slots (eG v)) qb S pc lv [.int x] := r_iret (fun _ _ h => h) hC hdg
theorem i_zret {ty : FieldType} (hC : Cx v p l e s m args meth c own cc nL (some ty)) {x : Int32} (hdg : decode cc pc = .ok (.ireturn, 1)) (hn : narrow ty (.int x) = .int x) : Mj v p l e R s m args below meth c nL (MQ below (Qc v (some (.int x)) S) args s R.cells R.slots (eG v)) qb S pc lv [.int x] := r_zret (fun _ _ h => h) hC hdg hn
theorem i_vret (hC : Cx v p l e s m args meth c own cc nL none) (hdg : decode cc pc = .ok (.return_, 1)) : Mj v p l e R s m args below meth c nL (MQ below (Qc v none S) args s R.cells R.slots (eG v)) qb S pc lv [] := r_vret (fun _ _ h => h) hC hdg
theorem ex_da (h : ∀ da, Mw (WDa v da) v p l e R s m args below meth c nL Q qb S pc lv st) : Mj v p l e R s m args below meth c nL Q qb S pc lv st := fun H locs ls cells slots hbu hW hS hl => hW.elim fun da hW => h da H locs ls cells slots hbu hW hS hl
theorem to_da (h : Mj v p l e R s m args below meth c nL Q qb S pc lv st) : Mw (WDa v da) v p l e R s m args below meth c nL Q qb S pc lv st := fun H locs ls cells slots hbu hW hS hl => h H locs ls cells slots hbu ⟨da, hW⟩ hS hl
theorem va_dummy : True := trivial
/-- a field link of the tables: class, place among the fields, and the words -/
def FL (own : String) (idx ci k : Nat) (fin : Bool) (ty : FieldType) : Prop := ∃ (C : String) (T : u_T) (N : Nat) (ty0 : Nat → FieldType), vwCl[ci]? = some (C, T, N) ∧ k < N ∧ Cond.fieldLink own idx (T k).1 (T k).2.1 (T k).2.2.1 ∈ TW ∧ (∀ w ∈ u_ws C T N, w ∈ TW) ∧ (∀ k, k < N → parseFieldDescriptor (T k).2.2.1 = some (ty0 k)) ∧ (∀ a, a < N → ∀ b, b < N → a ≠ b → (T a).2.1 ≠ (T b).2.1) ∧ (T k).2.2.2 = fin ∧ parseFieldDescriptor (T k).2.2.1 = some ty
theorem m_get (hC : Cx v p l e s m args meth c own cc nL ret) {idx ci k : Nat} {fin : Bool} {ty : FieldType} (hF : FL own idx ci k fin ty) {H : Heap} {cells slots : Nat} {locs : List Loc} {ls : Array Slot} {q : Nat} {fs : List FS} {f : FS} (hP : va_P (eD v) vwCl (wsW v da S) H) (hq : q < layN) (hy : layF q = .inl (ci, fs)) (hf : fs[k]? = some f) (hdg : decode cc pc = .ok (.getfield idx, 3))
    (kk : W p l e R s m args below meth c H locs cells slots Q (F0 m (pc + 3) ls (fv v da S f :: st))) : W p l e R s m args below meth c H locs cells slots Q (F0 m pc ls (.ref (eA v q) :: st)) := by
  obtain ⟨K, T, N, ty0, hc, hk, hl, hin, -⟩ := hF
  refine va_get hC.1 hC.2.1 hC.2.2.2.2.1 hin hC.2.2.2.1 hC.2.2.2.2.2.1 hP q (fs := fs.map (fv v da S)) (by rw [wsW_at hq, hy]; rfl) hc k hk (hC.2.2.2.2.1 _ hl) (fun _ h => h) (by rw [List.getElem?_map, hf]; rfl) hdg kk
theorem j_getI (hC : Cx v p l e s m args meth c own cc nL ret) {idx ci k : Nat} {fin : Bool} {ty : FieldType} (hF : FL own idx ci k fin ty) {q : Nat} {fs : List FS} {b j : Nat} (hq : q < layN) (hy : layF q = .inl (ci, fs)) (hf : fs[k]? = some (0, b, j)) (hdg : decode cc pc = .ok (.getfield idx, 3))
    (k2 : Mw (WDa v da) v p l e R s m args below meth c nL Q qb S (pc + 3) lv (.int (S b j) :: st)) : Mw (WDa v da) v p l e R s m args below meth c nL Q qb S pc lv (.ref (eA v q) :: st) := by
  intro H locs ls cells slots hbu hW hS hl
  have hP := hW.1
  exact m_get hC hF hP hq hy hf hdg (k2 H locs ls cells slots hbu hW hS hl)
theorem j_getR (hC : Cx v p l e s m args meth c own cc nL ret) {idx ci k : Nat} {fin : Bool} {ty : FieldType} (hF : FL own idx ci k fin ty) {q : Nat} {fs : List FS} {x y : Nat} (hq : q < layN) (hy : layF q = .inl (ci, fs)) (hf : fs[k]? = some (1, x, y)) (hdg : decode cc pc = .ok (.getfield idx, 3))
    (k2 : Mw (WDa v da) v p l e R s m args below meth c nL Q qb S (pc + 3) lv (.ref (eA v x) :: st)) : Mw (WDa v da) v p l e R s m args below meth c nL Q qb S pc lv (.ref (eA v q) :: st) := by
  intro H locs ls cells slots hbu hW hS hl
  have hP := hW.1
  exact m_get hC hF hP hq hy hf hdg (k2 H locs ls cells slots hbu hW hS hl)

theorem fv_new {v : EV} {da : Nat → Nat} {S : Mem} {b j : Nat} {x : Int32} : fv v da (up S b j x) (0, b, j) = .int x := by
  unfold fv
  rw [if_pos rfl, up_same]
theorem map_set_up {v : EV} {da : Nat → Nat} {S : Mem} {fs : List FS} {k b j : Nat} {x : Int32} (hf : fs[k]? = some (0, b, j)) (hu : ∀ i f, fs[i]? = some f → i ≠ k → (f.1 = 0 ∨ f.1 = 2) → ¬ (f.2.1 = b ∧ f.2.2 = j)) : fs.map (fv v da (up S b j x)) = (fs.map (fv v da S)).set k (.int x) := by
  refine List.ext_getElem? fun i => ?_
  rw [List.getElem?_set, List.getElem?_map, List.getElem?_map, List.length_map]
  have hk : k < fs.length := (List.getElem?_eq_some_iff.mp hf).1
  by_cases hi : k = i
  · subst hi
    rw [if_pos rfl, if_pos hk, hf, Option.map_some, fv_new]
  · rw [if_neg hi]
    cases h : fs[i]? with
    | none => rw [Option.map_none, Option.map_none]
    | some f => rw [Option.map_some, Option.map_some, fv_up (hu i f h (fun z => hi z.symm))]
/-- the sources of one object's fields are apart -/
def apf (fs : List FS) : Bool := (List.range fs.length).all fun i => (List.range fs.length).all fun k => match fs[i]?, fs[k]? with
  | some f, some h => i == k || !(f.1 == 0 || f.1 == 2) || !(h.1 == 0 || h.1 == 2) || !(f.2.1 == h.2.1 && f.2.2 == h.2.2)
  | _, _ => true
theorem apf_all : ∀ p, p < layN → (match layF p with
  | .inl (_, fs) => apf fs
  | _ => true) = true := by decide +kernel
theorem apf_ok {q ci : Nat} {fs : List FS} (hq : q < layN) (hy : layF q = .inl (ci, fs)) {k b j : Nat} (hf : fs[k]? = some (0, b, j)) : ∀ i f, fs[i]? = some f → i ≠ k → (f.1 = 0 ∨ f.1 = 2) → ¬ (f.2.1 = b ∧ f.2.2 = j) := by
  intro i f hi hne ht he
  have h := apf_all q hq
  rw [hy] at h
  have hi' : i < fs.length := (List.getElem?_eq_some_iff.mp hi).1
  have hk' : k < fs.length := (List.getElem?_eq_some_iff.mp hf).1
  have h1 := List.all_eq_true.mp (List.all_eq_true.mp h i (List.mem_range.mpr hi')) k (List.mem_range.mpr hk')
  rw [hi, hf] at h1
  obtain ⟨t, y, z⟩ := f
  dsimp only at ht he h1
  obtain ⟨rfl, rfl⟩ := he
  rcases ht with rfl | rfl <;> simp [hne] at h1
theorem j_putI (hC : Cx v p l e s m args meth c own cc nL ret) {idx ci k : Nat} {ty : FieldType} (hF : FL own idx ci k false ty) {q : Nat} {fs : List FS} {b j : Nat} {x : Int32} (hq : q < layN) (hy : layF q = .inl (ci, fs)) (hf : fs[k]? = some (0, b, j)) (hb : plainB b j) (hn : narrow ty (.int x) = .int x ∧ fits ty (.int x) = true) (hdg : decode cc pc = .ok (.putfield idx, 3))
    (k2 : Mw (WDa v da) v p l e R s m args below meth c nL Q qb (up S b j x) (pc + 3) lv st) : Mw (WDa v da) v p l e R s m args below meth c nL Q qb S pc lv (.int x :: .ref (eA v q) :: st) := by
  intro H locs ls cells slots hbu hW hS hl
  obtain ⟨hP, hD⟩ := hW
  obtain ⟨K, T, N, ty0, hc, hk, hlk, hin, hty, hnm, hfin, hd⟩ := hF
  have ho : ownr b j = q := own_ok hq (q := (b, j)) (by rw [hy]; exact List.mem_filterMap.mpr ⟨(0, b, j), List.mem_of_getElem? hf, by simp⟩)
  have hset : (wsW v da S).set q (eA v q, .inr (ci, (fs.map (fv v da S)).set k (.int x))) = wsW v da (up S b j x) := wsW_up hq hb ho (by rw [hy]; exact congrArg (fun z => Sum.inr (ci, z)) (map_set_up hf (apf_ok hq hy hf)))
  refine va_put hC.1 hC.2.1 hC.2.2.2.2.1 hin ty0 hty hnm hC.2.2.2.1 hC.2.2.2.2.2.1 hP hD hS q (fs := fs.map (fv v da S)) (by rw [wsW_at hq, hy]; rfl) hc k hk (hC.2.2.2.2.1 _ hlk) (fun _ h => h) hfin hd hn.1 hn.2 (by rw [List.length_map]; exact (List.getElem?_eq_some_iff.mp hf).1) hdg fun H1 locs1 hP1 hD1 hS1 => ?_
  rw [hset] at hP1 hD1
  exact k2 H1 locs1 ls cells slots hbu ⟨hP1, hD1⟩ hS1 hl
theorem j_iald (hC : Cx v p l e s m args meth c own cc nL ret) {q n b b0 j0 : Nat} {i : Int32} (hq : q < layN) (hy : layF q = .inr (0, n, 0, b, b0)) (hin : vp_in i n) (hj : b0 + i.toNatClampNeg = j0) (hdg : decode cc pc = .ok (.iaload, 1)) (k2 : Mw (WDa v da) v p l e R s m args below meth c nL Q qb S (pc + 1) lv (.int (S b j0) :: st)) : Mw (WDa v da) v p l e R s m args below meth c nL Q qb S pc lv (.int i :: .ref (eA v q) :: st) := by
  subst hj
  intro H locs ls cells slots hbu hW hS hl
  have hP := hW.1
  have hlt : i.toNatClampNeg < n := Nat.not_le.mp fun z => hin (Or.inr z)
  refine va_iald hC.1 hC.2.1 hC.2.2.2.2.2.1 hP q 0 (n := n) (f := fun j => if j < n then S b (b0 + j) else 0) (by rw [wsW_at hq, hy]; rfl) (tysOf_at v (by decide)) hin hdg ?_
  rw [if_pos hlt]
  exact k2 H locs ls cells slots hbu hW hS hl
theorem j_cald (hC : Cx v p l e s m args meth c own cc nL ret) {q n b b0 j0 : Nat} {i : Int32} (hq : q < layN) (hy : layF q = .inr (1, n, 0, b, b0)) (hin : vp_in i n) (hj : b0 + i.toNatClampNeg = j0) (hdg : decode cc pc = .ok (.caload, 1)) (k2 : Mw (WDa v da) v p l e R s m args below meth c nL Q qb S (pc + 1) lv (.int (S b j0) :: st)) : Mw (WDa v da) v p l e R s m args below meth c nL Q qb S pc lv (.int i :: .ref (eA v q) :: st) := by
  subst hj
  intro H locs ls cells slots hbu hW hS hl
  have hP := hW.1
  have hlt : i.toNatClampNeg < n := Nat.not_le.mp fun z => hin (Or.inr z)
  refine va_cald hC.1 hC.2.1 hC.2.2.2.2.2.1 hP q 1 (n := n) (f := fun j => if j < n then S b (b0 + j) else 0) (by rw [wsW_at hq, hy]; rfl) (tysOf_at v (by decide)) hin hdg ?_
  rw [if_pos hlt]
  exact k2 H locs ls cells slots hbu hW hS hl
theorem j_zald (hC : Cx v p l e s m args meth c own cc nL ret) {q n b b0 j0 : Nat} {i : Int32} (hq : q < layN) (hy : layF q = .inr (2, n, 0, b, b0)) (hin : vp_in i n) (hj : b0 + i.toNatClampNeg = j0) (hdg : decode cc pc = .ok (.baload, 1)) (k2 : Mw (WDa v da) v p l e R s m args below meth c nL Q qb S (pc + 1) lv (.int (S b j0) :: st)) : Mw (WDa v da) v p l e R s m args below meth c nL Q qb S pc lv (.int i :: .ref (eA v q) :: st) := by
  subst hj
  intro H locs ls cells slots hbu hW hS hl
  have hP := hW.1
  have hlt : i.toNatClampNeg < n := Nat.not_le.mp fun z => hin (Or.inr z)
  refine va_zald hC.1 hC.2.1 hC.2.2.2.2.2.1 hP q 2 (n := n) (f := fun j => if j < n then S b (b0 + j) else 0) (by rw [wsW_at hq, hy]; rfl) (tysOf_at v (by decide)) hin hdg ?_
  rw [if_pos hlt]
  exact k2 H locs ls cells slots hbu hW hS hl
theorem j_iast (hC : Cx v p l e s m args meth c own cc nL ret) {q n b b0 j0 : Nat} {i x : Int32} (hq : q < layN) (hy : layF q = .inr (0, n, 0, b, b0)) (hb : plainB b j0) (hin : vp_in i n) (hj : b0 + i.toNatClampNeg = j0) (hdg : decode cc pc = .ok (.iastore, 1)) (k2 : Mw (WDa v da) v p l e R s m args below meth c nL Q qb (up S b j0 (x)) (pc + 1) lv st) : Mw (WDa v da) v p l e R s m args below meth c nL Q qb S pc lv (.int x :: .int i :: .ref (eA v q) :: st) := by
  subst hj
  intro H locs ls cells slots hbu hW hS hl
  obtain ⟨hP, hD⟩ := hW
  have hlt : i.toNatClampNeg < n := Nat.not_le.mp fun z => hin (Or.inr z)
  have ho : ownr b (b0 + i.toNatClampNeg) = q := own_ok hq (q := (b, b0 + i.toNatClampNeg)) (by rw [hy]; exact List.mem_map.mpr ⟨_, List.mem_range.mpr hlt, rfl⟩)
  have hset : (wsW v da S).set q (eA v q, .inl (eC v 0, n, .inl (upd (fun j => if j < n then S b (b0 + j) else 0) i.toNatClampNeg (x)))) = wsW v da (up S b (b0 + i.toNatClampNeg) (x)) := by
    refine wsW_up hq hb ho ?_
    rw [hy]
    refine congrArg (fun z => Sum.inl (eC v 0, n, Sum.inl z)) (funext fun j => ?_)
    by_cases hj : j = i.toNatClampNeg
    · subst hj
      rw [if_pos hlt, up_same]; exact (if_pos rfl).symm
    · rw [show upd (fun j => if j < n then S b (b0 + j) else 0) i.toNatClampNeg (x) j = if j < n then S b (b0 + j) else 0 from if_neg hj]
      rw [up_ne S _ (fun z => hj (Nat.add_left_cancel z.2))]
  refine va_iast hC.1 hC.2.1 hC.2.2.2.2.2.1 hP hD hS q 0 (n := n) (f := fun j => if j < n then S b (b0 + j) else 0) (by rw [wsW_at hq, hy]; rfl) (tysOf_at v (by decide)) hin hdg fun H1 locs1 hP1 hD1 hS1 => ?_
  rw [hset] at hP1 hD1
  exact k2 H1 locs1 ls cells slots hbu ⟨hP1, hD1⟩ hS1 hl
theorem j_cast (hC : Cx v p l e s m args meth c own cc nL ret) {q n b b0 j0 : Nat} {i x : Int32} (hq : q < layN) (hy : layF q = .inr (1, n, 0, b, b0)) (hb : plainB b j0) (hin : vp_in i n) (hj : b0 + i.toNatClampNeg = j0) (hdg : decode cc pc = .ok (.castore, 1)) (k2 : Mw (WDa v da) v p l e R s m args below meth c nL Q qb (up S b j0 (vp_nar .char x)) (pc + 1) lv st) : Mw (WDa v da) v p l e R s m args below meth c nL Q qb S pc lv (.int x :: .int i :: .ref (eA v q) :: st) := by
  subst hj
  intro H locs ls cells slots hbu hW hS hl
  obtain ⟨hP, hD⟩ := hW
  have hlt : i.toNatClampNeg < n := Nat.not_le.mp fun z => hin (Or.inr z)
  have ho : ownr b (b0 + i.toNatClampNeg) = q := own_ok hq (q := (b, b0 + i.toNatClampNeg)) (by rw [hy]; exact List.mem_map.mpr ⟨_, List.mem_range.mpr hlt, rfl⟩)
  have hset : (wsW v da S).set q (eA v q, .inl (eC v 1, n, .inl (upd (fun j => if j < n then S b (b0 + j) else 0) i.toNatClampNeg (vp_nar .char x)))) = wsW v da (up S b (b0 + i.toNatClampNeg) (vp_nar .char x)) := by
    refine wsW_up hq hb ho ?_
    rw [hy]
    refine congrArg (fun z => Sum.inl (eC v 1, n, Sum.inl z)) (funext fun j => ?_)
    by_cases hj : j = i.toNatClampNeg
    · subst hj
      rw [if_pos hlt, up_same]; exact (if_pos rfl).symm
    · rw [show upd (fun j => if j < n then S b (b0 + j) else 0) i.toNatClampNeg (vp_nar .char x) j = if j < n then S b (b0 + j) else 0 from if_neg hj]
      rw [up_ne S _ (fun z => hj (Nat.add_left_cancel z.2))]
  refine va_cast hC.1 hC.2.1 hC.2.2.2.2.2.1 hP hD hS q 1 (n := n) (f := fun j => if j < n then S b (b0 + j) else 0) (by rw [wsW_at hq, hy]; rfl) (tysOf_at v (by decide)) hin hdg fun H1 locs1 hP1 hD1 hS1 => ?_
  rw [hset] at hP1 hD1
  exact k2 H1 locs1 ls cells slots hbu ⟨hP1, hD1⟩ hS1 hl
theorem j_zast (hC : Cx v p l e s m args meth c own cc nL ret) {q n b b0 j0 : Nat} {i x : Int32} (hq : q < layN) (hy : layF q = .inr (2, n, 0, b, b0)) (hb : plainB b j0) (hin : vp_in i n) (hj : b0 + i.toNatClampNeg = j0) (hdg : decode cc pc = .ok (.bastore, 1)) (k2 : Mw (WDa v da) v p l e R s m args below meth c nL Q qb (up S b j0 (vp_nar .boolean x)) (pc + 1) lv st) : Mw (WDa v da) v p l e R s m args below meth c nL Q qb S pc lv (.int x :: .int i :: .ref (eA v q) :: st) := by
  subst hj
  intro H locs ls cells slots hbu hW hS hl
  obtain ⟨hP, hD⟩ := hW
  have hlt : i.toNatClampNeg < n := Nat.not_le.mp fun z => hin (Or.inr z)
  have ho : ownr b (b0 + i.toNatClampNeg) = q := own_ok hq (q := (b, b0 + i.toNatClampNeg)) (by rw [hy]; exact List.mem_map.mpr ⟨_, List.mem_range.mpr hlt, rfl⟩)
  have hset : (wsW v da S).set q (eA v q, .inl (eC v 2, n, .inl (upd (fun j => if j < n then S b (b0 + j) else 0) i.toNatClampNeg (vp_nar .boolean x)))) = wsW v da (up S b (b0 + i.toNatClampNeg) (vp_nar .boolean x)) := by
    refine wsW_up hq hb ho ?_
    rw [hy]
    refine congrArg (fun z => Sum.inl (eC v 2, n, Sum.inl z)) (funext fun j => ?_)
    by_cases hj : j = i.toNatClampNeg
    · subst hj
      rw [if_pos hlt, up_same]; exact (if_pos rfl).symm
    · rw [show upd (fun j => if j < n then S b (b0 + j) else 0) i.toNatClampNeg (vp_nar .boolean x) j = if j < n then S b (b0 + j) else 0 from if_neg hj]
      rw [up_ne S _ (fun z => hj (Nat.add_left_cancel z.2))]
  refine va_zast hC.1 hC.2.1 hC.2.2.2.2.2.1 hP hD hS q 2 (n := n) (f := fun j => if j < n then S b (b0 + j) else 0) (by rw [wsW_at hq, hy]; rfl) (tysOf_at v (by decide)) hin hdg fun H1 locs1 hP1 hD1 hS1 => ?_
  rw [hset] at hP1 hD1
  exact k2 H1 locs1 ls cells slots hbu ⟨hP1, hD1⟩ hS1 hl
theorem j_aald (hC : Cx v p l e s m args meth c own cc nL ret) {q t n x y : Nat} {i : Int32} (hq : q < layN) (hy : layF q = .inr (t, n, 1, x, y)) (ht : 4 ≤ t ∧ t < 7) (hin : vp_in i n) (hdg : decode cc pc = .ok (.aaload, 1)) (k2 : Mw (WDa v da) v p l e R s m args below meth c nL Q qb S (pc + 1) lv (.ref (eA v (x + y * i.toNatClampNeg)) :: st)) : Mw (WDa v da) v p l e R s m args below meth c nL Q qb S pc lv (.int i :: .ref (eA v q) :: st) := by
  intro H locs ls cells slots hbu hW hS hl
  have hP := hW.1
  have hlt : i.toNatClampNeg < n := Nat.not_le.mp fun z => hin (Or.inr z)
  have hobj : ∃ K, tyOf t = .object K := by
    obtain ⟨h1, h2⟩ := ht
    match t, h1, h2 with
    | 4, _, _ => exact ⟨_, rfl⟩
    | 5, _, _ => exact ⟨_, rfl⟩
    | 6, _, _ => exact ⟨_, rfl⟩
  obtain ⟨K, hK⟩ := hobj
  refine va_aldq hC.1 hC.2.1 hC.2.2.2.2.2.1 hP q t (n := n) (C := K) (f := fun j => if j < n then some (eA v (x + y * j)) else none) (by rw [wsW_at hq, hy]; rfl) (by rw [tysOf_at v ht.2, hK]) hin hdg ?_
  rw [if_pos hlt]
  exact k2 H locs ls cells slots hbu hW hS hl
theorem j_alen (hC : Cx v p l e s m args meth c own cc nL ret) {q t n k x y : Nat} {z : Int32} (hq : q < layN) (hy : layF q = .inr (t, n, k, x, y)) (ht : t < 7) (hv : Int32.ofNat n = z) (hdg : decode cc pc = .ok (.arraylength, 1)) (k2 : Mw (WDa v da) v p l e R s m args below meth c nL Q qb S (pc + 1) lv (.int z :: st)) : Mw (WDa v da) v p l e R s m args below meth c nL Q qb S pc lv (.ref (eA v q) :: st) := by
  intro H locs ls cells slots hbu hW hS hl
  have hP := hW.1
  match k, hy with
  | 0, hy => exact va_alen hC.1 hC.2.1 hC.2.2.2.2.2.1 hP q t (x := (n, .inl (fun j => if j < n then S x (y + j) else 0))) (by rw [wsW_at hq, hy]; rfl) (tysOf_at v ht) hv hdg (k2 H locs ls cells slots hbu hW hS hl)
  | k + 1, hy => exact va_alen hC.1 hC.2.1 hC.2.2.2.2.2.1 hP q t (x := (n, .inr (.inr (.inr (.inr (fun j => if j < n then some (eA v (x + y * j)) else none)))))) (by rw [wsW_at hq, hy]; rfl) (tysOf_at v ht) hv hdg (k2 H locs ls cells slots hbu hW hS hl)
theorem i_tabIn (hC : Cx v p l e s m args meth c own cc nL ret) {dflt lo hi a : Int} {offs : Array Int} {len : Nat} {x k : Int32} {off : Int} {tgt : Nat} (hdg : decode cc pc = .ok (.tableswitch dflt lo hi offs, len)) (hx : x = k) (hk : k.toInt = a) (h1 : ¬ a < lo) (h2 : ¬ hi < a) (ho : offs[(a - lo).toNat]? = some off) (ht : (pc : Int) + off = (tgt : Int)) (k2 : Mw Wd v p l e R s m args below meth c nL Q qb S tgt lv st) : Mw Wd v p l e R s m args below meth c nL Q qb S pc lv (.int x :: st) := by
  subst hx
  subst hk
  exact fun H locs ls cells slots hbu hW hS hl => lv_tableIn hC.1 hC.2.1 hdg h1 h2 ho ht (k2 H locs ls cells slots hbu hW hS hl)
theorem i_tabOut (hC : Cx v p l e s m args meth c own cc nL ret) {dflt lo hi : Int} {offs : Array Int} {len : Nat} {x : Int32} {tgt : Nat} (hdg : decode cc pc = .ok (.tableswitch dflt lo hi offs, len)) (h : x.toInt < lo ∨ hi < x.toInt) (ht : (pc : Int) + dflt = (tgt : Int)) (k2 : Mw Wd v p l e R s m args below meth c nL Q qb S tgt lv st) : Mw Wd v p l e R s m args below meth c nL Q qb S pc lv (.int x :: st) := fun H locs ls cells slots hbu hW hS hl => lv_tableOut hC.1 hC.2.1 hdg h ht (k2 H locs ls cells slots hbu hW hS hl)
theorem i_getI (hC : Cx v p l e s m args meth c own cc nL ret) {idx ci k : Nat} {fin : Bool} {ty : FieldType} (hF : FL own idx ci k fin ty) {q : Nat} {fs : List FS} {b j : Nat} (hq : q < layN) (hy : layF q = .inl (ci, fs)) (hf : fs[k]? = some (0, b, j)) (hdg : decode cc pc = .ok (.getfield idx, 3)) (k2 : Mj v p l e R s m args below meth c nL Q qb S (pc + 3) lv (.int (S b j) :: st)) : Mj v p l e R s m args below meth c nL Q qb S pc lv (.ref (eA v q) :: st) := ex_da fun da => j_getI hC hF hq hy hf hdg (to_da k2)
theorem i_getR (hC : Cx v p l e s m args meth c own cc nL ret) {idx ci k : Nat} {fin : Bool} {ty : FieldType} (hF : FL own idx ci k fin ty) {q : Nat} {fs : List FS} {x y : Nat} (hq : q < layN) (hy : layF q = .inl (ci, fs)) (hf : fs[k]? = some (1, x, y)) (hdg : decode cc pc = .ok (.getfield idx, 3)) (k2 : Mj v p l e R s m args below meth c nL Q qb S (pc + 3) lv (.ref (eA v x) :: st)) : Mj v p l e R s m args below meth c nL Q qb S pc lv (.ref (eA v q) :: st) := ex_da fun da => j_getR hC hF hq hy hf hdg (to_da k2)
theorem i_putI (hC : Cx v p l e s m args meth c own cc nL ret) {idx ci k : Nat} {ty : FieldType} (hF : FL own idx ci k false ty) {q : Nat} {fs : List FS} {b j : Nat} {x : Int32} (hq : q < layN) (hy : layF q = .inl (ci, fs)) (hf : fs[k]? = some (0, b, j)) (hb : plainB b j) (hn : narrow ty (.int x) = .int x ∧ fits ty (.int x) = true) (hdg : decode cc pc = .ok (.putfield idx, 3)) (k2 : Mj v p l e R s m args below meth c nL Q qb (up S b j x) (pc + 3) lv st) : Mj v p l e R s m args below meth c nL Q qb S pc lv (.int x :: .ref (eA v q) :: st) := ex_da fun da => j_putI hC hF hq hy hf hb hn hdg (to_da k2)
theorem i_iald (hC : Cx v p l e s m args meth c own cc nL ret) {q n b b0 j0 : Nat} {i : Int32} (hq : q < layN) (hy : layF q = .inr (0, n, 0, b, b0)) (hin : vp_in i n) (hj : b0 + i.toNatClampNeg = j0) (hdg : decode cc pc = .ok (.iaload, 1)) (k2 : Mj v p l e R s m args below meth c nL Q qb S (pc + 1) lv (.int (S b j0) :: st)) : Mj v p l e R s m args below meth c nL Q qb S pc lv (.int i :: .ref (eA v q) :: st) := ex_da fun da => j_iald hC hq hy hin hj hdg (to_da k2)
theorem i_cald (hC : Cx v p l e s m args meth c own cc nL ret) {q n b b0 j0 : Nat} {i : Int32} (hq : q < layN) (hy : layF q = .inr (1, n, 0, b, b0)) (hin : vp_in i n) (hj : b0 + i.toNatClampNeg = j0) (hdg : decode cc pc = .ok (.caload, 1)) (k2 : Mj v p l e R s m args below meth c nL Q qb S (pc + 1) lv (.int (S b j0) :: st)) : Mj v p l e R s m args below meth c nL Q qb S pc lv (.int i :: .ref (eA v q) :: st) := ex_da fun da => j_cald hC hq hy hin hj hdg (to_da k2)
theorem i_zald (hC : Cx v p l e s m args meth c own cc nL ret) {q n b b0 j0 : Nat} {i : Int32} (hq : q < layN) (hy : layF q = .inr (2, n, 0, b, b0)) (hin : vp_in i n) (hj : b0 + i.toNatClampNeg = j0) (hdg : decode cc pc = .ok (.baload, 1)) (k2 : Mj v p l e R s m args below meth c nL Q qb S (pc + 1) lv (.int (S b j0) :: st)) : Mj v p l e R s m args below meth c nL Q qb S pc lv (.int i :: .ref (eA v q) :: st) := ex_da fun da => j_zald hC hq hy hin hj hdg (to_da k2)
theorem i_iast (hC : Cx v p l e s m args meth c own cc nL ret) {q n b b0 j0 : Nat} {i x : Int32} (hq : q < layN) (hy : layF q = .inr (0, n, 0, b, b0)) (hb : plainB b j0) (hin : vp_in i n) (hj : b0 + i.toNatClampNeg = j0) (hdg : decode cc pc = .ok (.iastore, 1)) (k2 : Mj v p l e R s m args below meth c nL Q qb (up S b j0 (x)) (pc + 1) lv st) : Mj v p l e R s m args below meth c nL Q qb S pc lv (.int x :: .int i :: .ref (eA v q) :: st) := ex_da fun da => j_iast hC hq hy hb hin hj hdg (to_da k2)
theorem i_cast (hC : Cx v p l e s m args meth c own cc nL ret) {q n b b0 j0 : Nat} {i x : Int32} (hq : q < layN) (hy : layF q = .inr (1, n, 0, b, b0)) (hb : plainB b j0) (hin : vp_in i n) (hj : b0 + i.toNatClampNeg = j0) (hdg : decode cc pc = .ok (.castore, 1)) (k2 : Mj v p l e R s m args below meth c nL Q qb (up S b j0 (vp_nar .char x)) (pc + 1) lv st) : Mj v p l e R s m args below meth c nL Q qb S pc lv (.int x :: .int i :: .ref (eA v q) :: st) := ex_da fun da => j_cast hC hq hy hb hin hj hdg (to_da k2)
theorem i_zast (hC : Cx v p l e s m args meth c own cc nL ret) {q n b b0 j0 : Nat} {i x : Int32} (hq : q < layN) (hy : layF q = .inr (2, n, 0, b, b0)) (hb : plainB b j0) (hin : vp_in i n) (hj : b0 + i.toNatClampNeg = j0) (hdg : decode cc pc = .ok (.bastore, 1)) (k2 : Mj v p l e R s m args below meth c nL Q qb (up S b j0 (vp_nar .boolean x)) (pc + 1) lv st) : Mj v p l e R s m args below meth c nL Q qb S pc lv (.int x :: .int i :: .ref (eA v q) :: st) := ex_da fun da => j_zast hC hq hy hb hin hj hdg (to_da k2)
theorem i_aald (hC : Cx v p l e s m args meth c own cc nL ret) {q t n x y : Nat} {i : Int32} (hq : q < layN) (hy : layF q = .inr (t, n, 1, x, y)) (ht : 4 ≤ t ∧ t < 7) (hin : vp_in i n) (hdg : decode cc pc = .ok (.aaload, 1)) (k2 : Mj v p l e R s m args below meth c nL Q qb S (pc + 1) lv (.ref (eA v (x + y * i.toNatClampNeg)) :: st)) : Mj v p l e R s m args below meth c nL Q qb S pc lv (.int i :: .ref (eA v q) :: st) := ex_da fun da => j_aald hC hq hy ht hin hdg (to_da k2)
theorem i_alen (hC : Cx v p l e s m args meth c own cc nL ret) {q t n k x y : Nat} {z : Int32} (hq : q < layN) (hy : layF q = .inr (t, n, k, x, y)) (ht : t < 7) (hv : Int32.ofNat n = z) (hdg : decode cc pc = .ok (.arraylength, 1)) (k2 : Mj v p l e R s m args below meth c nL Q qb S (pc + 1) lv (.int z :: st)) : Mj v p l e R s m args below meth c nL Q qb S pc lv (.ref (eA v q) :: st) := ex_da fun da => j_alen hC hq hy ht hv hdg (to_da k2)
end RULES
end
section
section CALLS
variable {v : EV} {p : Program} {l : Launch} {e : Env} {R : Room} {s : State} {m : MethodId} {args : Array Value} {below : List Frame} {meth : Method} {c : Code} {own : String} {cc : ByteArray} {nL : Nat} {ret : Option FieldType} {Q : State → Prop} {qb : Nat} {Wd Wd1 : Mem → Heap → Prop} {da : Nat → Nat} {S S1 : Mem} {pc : Nat} {lv : List (Nat × Value)} {st : List Value}
theorem gi_nil : GoodIn TW [] := fun _ h => absurd h List.not_mem_nil
theorem gi_cons {w : Cond} {ws : List Cond} (h : w ∈ TW) (hr : GoodIn TW ws) : GoodIn TW (w :: ws) := fun x hx => (List.mem_cons.mp hx).elim (fun e => by rw [e]; exact tw_good w h) (hr x)
theorem pe_blind {av : List Value} (hst : Stb v) : FrameBlind (Pe v av S) := fun a U g mk h => ⟨h.1, h.2.1, va_K.moved (u := U) (U := U.calling g mk a) (Vm.Alike.refl U.vm) h.2.2.1, hst U (U.calling g mk a) h.2.2.2.1 (Or.inl rfl) (fun _ _ _ => rfl), h.2.2.2.2⟩
theorem pe_of (hC : Cx v p l e s m args meth c own cc nL ret) {av : List Value} {H : Heap} {locs : List Loc} (hW : WD v S H) (hS : va_S (eG v) s.heap H locs) {U : State} (hU : U.heap = H) (hU2 : s.WarmedH U.vm) : Pe v av S av.toArray U := by
  obtain ⟨-, -, -, -, -, hK, hF, hst, hn, -⟩ := hC
  refine ⟨rfl, by rw [hU]; exact Nat.le_trans hn hS.1, va_K.moved hU2.alike hK, hst s U hF (Or.inr hU2) (fun q h1 h2 => by rw [hU]; exact hS.2.1 q h1 h2), by rw [hU]; exact hW⟩
theorem r_run {a : Array Value} {rest : List Value} {rv : Option Value} {K q2 : Nat} (hq2 : qb = q2 + K) (hr : ∀ (H : Heap) (locs : List Loc) (ls : Array Slot) (cells slots : Nat), (cells + K ≤ R.cells ∧ slots + 160 * K ≤ R.slots) → Wd S H → va_S (eG v) s.heap H locs → lv_has ls nL lv → va_Run p l e R s m args below meth c H locs cells slots K (160 * K) (F0 m pc ls st) rest (Qc v rv S1 a) (eG v)) (k : Mj v p l e R s m args below meth c nL Q q2 S1 (pc + 3) lv (rv.toList ++ rest)) : Mw Wd v p l e R s m args below meth c nL Q qb S pc lv st := by
  intro H locs ls cells slots hbu hW hS hl T hT X
  obtain ⟨v', st₀, t, T', L, h0, X', hL, e1, e2, ⟨hv, hWd, hz, hk⟩, stp⟩ := hr H locs ls cells slots (by omega) hW hS hl T hT X
  cases hv
  rw [h0] at hz hk
  have hS' : va_S (eG v) s.heap T'.heap (locs ++ L) := by
    refine ⟨Nat.le_trans hS.1 (by rw [e1]; exact hz), fun q h1 h2 => by rw [e1, hk q (Nat.lt_of_lt_of_le h1 hS.1) h2]; exact hS.2.1 q h1 h2, fun q hq => ?_⟩
    rcases List.mem_append.mp hq with h | h
    · exact hS.2.2 q h
    · exact hL q h
  obtain ⟨t2, a1, b1⟩ := k T'.heap (locs ++ L) ls (cells + K) (slots + 160 * K) (by omega) (by rw [e1]; exact hWd) hS' hl T' rfl X'
  exact ⟨t2, stp t2 a1, b1⟩
/-- a call of a method of an object: what the tables say -/
def MV (own : String) (idx : Nat) (y : MethodName) (cy : ByteArray) (nLy : Nat) (rety : Option FieldType) (n : Nat) : Prop :=
  GoodIn TW (wsV own idx y.cls y (.code y cy nLy rety :: TW)) ∧ (y.cls ≠ "java/lang/invoke/MethodHandle" ∧ y.cls ≠ "java/lang/invoke/VarHandle" ∧ (parseMethodDescriptor y.desc).map (fun d => d.parameters.length) = some n)
def MS (own : String) (idx : Nat) (y : MethodName) (cy : ByteArray) (nLy : Nat) (rety : Option FieldType) (n : Nat) : Prop :=
  GoodIn TW (va_wsS own idx y (.code y cy nLy rety :: TW)) ∧ (y.cls ≠ "java/lang/invoke/MethodHandle" ∧ y.cls ≠ "java/lang/invoke/VarHandle" ∧ (parseMethodDescriptor y.desc).map (fun d => d.parameters.length) = some n)
theorem i_callV (hC : Cx v p l e s m args meth c own cc nL ret) {K q2 idx : Nat} {y : MethodName} {cy : ByteArray} {nLy F L n : Nat} {rety : Option FieldType} {As rest : List Value} {rv : Option Value} {q ci : Nat} {fs : List FS} {T : u_T} {N : Nat}
    (hV : MV own idx y cy nLy rety n) (hM : ConK K v l y cy nLy rety F L (.ref (eA v q) :: As) S rv S1) (hq : q < layN) (hy : layF q = .inl (ci, fs)) (hc : vwCl[ci]? = some (y.cls, T, N)) (hn : As.length = n) (hst : st = As.reverse ++ .ref (eA v q) :: rest)
    (hq2 : qb = q2 + K) (hR : F + 1 ≤ R.frames ∧ 8 + (nLy + 11) + L ≤ R.locals) (hr : (rest.map fun v => v.category).sum ≤ 8) (hdg : decode cc pc = .ok (.invokevirtual idx, 3)) (k : Mj v p l e R s m args below meth c nL Q q2 S1 (pc + 3) lv (rv.toList ++ rest)) : Mj v p l e R s m args below meth c nL Q qb S pc lv st := by
  refine ex_da fun da => r_run hq2 (rest := rest) (a := (Value.ref (eA v q) :: As).toArray) (fun H locs ls cells slots hbu hW hS hl => ?_) k
  exact va_runV (As := As) (rest := rest) ⟨hC.1, hC.2.1, hC.2.2.1, hC.2.2.2.1, hC.2.2.2.2.1⟩ hM (cwV n hC.2.2.2.2.1 hV.1 rfl rfl rfl ⟨rfl, hV.2⟩ hR) ⟨pe_blind hC.2.2.2.2.2.2.2.1, va_recv hC.2.2.2.2.2.1 hW.1 (ci := ci) (q0 := q) hc (by rw [wsW_at hq, hy]; rfl), fun U hU hU2 => pe_of hC ⟨da, hW⟩ hS hU hU2⟩ rfl hn hl.1 hst (lv_room hr) hdg hbu
theorem i_callS (hC : Cx v p l e s m args meth c own cc nL ret) {K q2 idx : Nat} {y : MethodName} {cy : ByteArray} {nLy F L n : Nat} {rety : Option FieldType} {As rest : List Value} {rv : Option Value}
    (hV : MS own idx y cy nLy rety n) (hM : ConK K v l y cy nLy rety F L As S rv S1) (hn : As.length = n) (hst : st = As.reverse ++ rest)
    (hq2 : qb = q2 + K) (hR : F + 1 ≤ R.frames ∧ 8 + (nLy + 11) + L ≤ R.locals) (hr : (rest.map fun v => v.category).sum ≤ 8) (hdg : decode cc pc = .ok (.invokestatic idx, 3)) (k : Mj v p l e R s m args below meth c nL Q q2 S1 (pc + 3) lv (rv.toList ++ rest)) : Mj v p l e R s m args below meth c nL Q qb S pc lv st := by
  refine r_run hq2 (rest := rest) (a := As.toArray) (fun H locs ls cells slots hbu hW hS hl => ?_) k
  exact va_runS (As := As) (rest := rest) ⟨hC.1, hC.2.1, hC.2.2.1, hC.2.2.2.1, hC.2.2.2.2.1⟩ hM (va_cwS n hC.2.2.2.2.1 hV.1 rfl rfl rfl hV.2 hR) ⟨pe_blind hC.2.2.2.2.2.2.2.1, fun U hU hU2 => pe_of hC hW hS hU hU2⟩ rfl hn hl.1 hst (lv_room hr) hdg hbu
theorem i_callVi (hC : Cx v p l e s m args meth c own cc nL ret) {K q2 idx : Nat} {y : MethodName} {cy : ByteArray} {nLy F L n : Nat} {rety : Option FieldType} {As rest : List Value} {u : Value} {q ci : Nat} {fs : List FS} {T : u_T} {N : Nat}
    (hV : MV own idx y cy nLy rety n) (hM : ConK K v l y cy nLy rety F L (.ref (eA v q) :: As) S (some u) S1) (hq : q < layN) (hy : layF q = .inl (ci, fs)) (hc : vwCl[ci]? = some (y.cls, T, N)) (hn : As.length = n) (hst : st = As.reverse ++ .ref (eA v q) :: rest)
    (hq2 : qb = q2 + K) (hR : F + 1 ≤ R.frames ∧ 8 + (nLy + 11) + L ≤ R.locals) (hr : (rest.map fun v => v.category).sum ≤ 8) (hdg : decode cc pc = .ok (.invokevirtual idx, 3)) (k : Mj v p l e R s m args below meth c nL Q q2 S1 (pc + 3) lv (u :: rest)) : Mj v p l e R s m args below meth c nL Q qb S pc lv st :=
  i_callV hC hV hM hq hy hc hn hst hq2 hR hr hdg k
theorem i_callVv (hC : Cx v p l e s m args meth c own cc nL ret) {K q2 idx : Nat} {y : MethodName} {cy : ByteArray} {nLy F L n : Nat} {rety : Option FieldType} {As rest : List Value} {q ci : Nat} {fs : List FS} {T : u_T} {N : Nat}
    (hV : MV own idx y cy nLy rety n) (hM : ConK K v l y cy nLy rety F L (.ref (eA v q) :: As) S none S1) (hq : q < layN) (hy : layF q = .inl (ci, fs)) (hc : vwCl[ci]? = some (y.cls, T, N)) (hn : As.length = n) (hst : st = As.reverse ++ .ref (eA v q) :: rest)
    (hq2 : qb = q2 + K) (hR : F + 1 ≤ R.frames ∧ 8 + (nLy + 11) + L ≤ R.locals) (hr : (rest.map fun v => v.category).sum ≤ 8) (hdg : decode cc pc = .ok (.invokevirtual idx, 3)) (k : Mj v p l e R s m args below meth c nL Q q2 S1 (pc + 3) lv rest) : Mj v p l e R s m args below meth c nL Q qb S pc lv st :=
  i_callV hC hV hM hq hy hc hn hst hq2 hR hr hdg k
theorem i_callSi (hC : Cx v p l e s m args meth c own cc nL ret) {K q2 idx : Nat} {y : MethodName} {cy : ByteArray} {nLy F L n : Nat} {rety : Option FieldType} {As rest : List Value} {u : Value}
    (hV : MS own idx y cy nLy rety n) (hM : ConK K v l y cy nLy rety F L As S (some u) S1) (hn : As.length = n) (hst : st = As.reverse ++ rest)
    (hq2 : qb = q2 + K) (hR : F + 1 ≤ R.frames ∧ 8 + (nLy + 11) + L ≤ R.locals) (hr : (rest.map fun v => v.category).sum ≤ 8) (hdg : decode cc pc = .ok (.invokestatic idx, 3)) (k : Mj v p l e R s m args below meth c nL Q q2 S1 (pc + 3) lv (u :: rest)) : Mj v p l e R s m args below meth c nL Q qb S pc lv st :=
  i_callS hC hV hM hn hst hq2 hR hr hdg k
theorem i_callSv (hC : Cx v p l e s m args meth c own cc nL ret) {K q2 idx : Nat} {y : MethodName} {cy : ByteArray} {nLy F L n : Nat} {rety : Option FieldType} {As rest : List Value}
    (hV : MS own idx y cy nLy rety n) (hM : ConK K v l y cy nLy rety F L As S none S1) (hn : As.length = n) (hst : st = As.reverse ++ rest)
    (hq2 : qb = q2 + K) (hR : F + 1 ≤ R.frames ∧ 8 + (nLy + 11) + L ≤ R.locals) (hr : (rest.map fun v => v.category).sum ≤ 8) (hdg : decode cc pc = .ok (.invokestatic idx, 3)) (k : Mj v p l e R s m args below meth c nL Q q2 S1 (pc + 3) lv rest) : Mj v p l e R s m args below meth c nL Q qb S pc lv st :=
  i_callS hC hV hM hn hst hq2 hR hr hdg k
theorem con_ofK {K : Nat} {y : MethodName} {F L : Nat} {av : List Value} {rv : Option Value} (hy : plainName y.cls = true) (hst : Stb v) (hn : (lg_sl av).length ≤ nL) (h : ∀ (p : Program) (e : Env) (s : State) (m : MethodId) (args : Array Value) (below : List Frame) (meth : Method) (c : Code), Cx v p l e s m args meth c y.cls cc nL ret → Mj v p l e (rmK K F L) s m args below meth c nL (MQ below (Qc v rv S1) args s K (160 * K) (eG v)) K S 0 (lv_args 0 av) []) : ConK K v l y cc nL ret F L av S rv S1 := by
  refine Met.ofW hy rfl ?_
  intro p e s m args below meth c s₁ B hml hv
  obtain ⟨rfl, hsz, hK, hF, hW⟩ := hv
  have hts := atoms_spec (ws := .code y cc nL ret :: TW) B.pre
  have C : Cx v p l e s m av.toArray meth c y.cls cc nL ret := ⟨B.exec, B.bytes, hml, findClass_of_methodNamed B.named, fun w hw => hts w (List.mem_cons_of_mem _ hw), hK, hF, hst, hsz, B.returns, B.notSynchronized⟩
  rw [lg_entry_eq]
  exact h p e s m av.toArray below meth c C s.heap [] _ 0 0 ⟨by rw [Nat.zero_add]; exact Nat.le_refl _, by rw [Nat.zero_add]; exact Nat.le_refl _⟩ hW va_S.rf (lv_entry av hn)
theorem con_of {y : MethodName} {F L : Nat} {av : List Value} {rv : Option Value} (hy : plainName y.cls = true) (hst : Stb v) (hn : (lg_sl av).length ≤ nL) (h : ∀ (p : Program) (e : Env) (s : State) (m : MethodId) (args : Array Value) (below : List Frame) (meth : Method) (c : Code), Cx v p l e s m args meth c y.cls cc nL ret → Mj v p l e (rmF F L) s m args below meth c nL (MQ below (Qc v rv S1) args s 0 0 (eG v)) 0 S 0 (lv_args 0 av) []) : Con v l y cc nL ret F L av S rv S1 := con_ofK hy hst hn h
end CALLS
/-! ===== the mechanical functions: checks, steps, loops ===== -/
def ck {α : Type} (b : Bool) (k : Option α) : Option α := if b = true then k else none
theorem ck_of {α : Type} {b : Bool} {k : Option α} {r : α} (h : ck b k = some r) : b = true ∧ k = some r := by
  unfold ck at h
  by_cases hb : b = true
  · rw [if_pos hb] at h
    exact ⟨hb, h⟩
  · rw [if_neg hb] at h
    cases h
theorem ck_t {α : Type} {b : Bool} (k : Option α) (h : b = true) : ck b k = k := if_pos h
theorem bd_of {α β : Type} {x : Option α} {k : α → Option β} {r : β} (h : x.bind k = some r) : ∃ y, x = some y ∧ k y = some r := by
  cases x with
  | none => cases h
  | some y => exact ⟨y, rfl, h⟩
def lp {σ ρ : Type} (b : (σ → Option ρ) → σ → Option ρ) : Nat → σ → Option ρ
  | 0 => fun _ => none
  | n + 1 => b (lp b n)
theorem lp_ind {σ ρ : Type} {b : (σ → Option ρ) → σ → Option ρ} {P : σ → Prop} {r : ρ} (hs : ∀ (ih : σ → Option ρ) (s : σ), (∀ s', ih s' = some r → P s') → b ih s = some r → P s) : ∀ (n : Nat) (s : σ), lp b n s = some r → P s := by
  intro n
  induction n with
  | zero => intro s h; cases h
  | succ n ih => intro s h; exact hs (lp b n) s ih h
def bd1 {α β : Type} (x : Option α) (k : α → Option β) : Option β := x.bind k
def bd2 {α γ β : Type} (x : Option (α × γ)) (k : α → γ → Option β) : Option β := x.bind fun y => k y.1 y.2
theorem bd1_of {α β : Type} {x : Option α} {k : α → Option β} {r : β} (h : bd1 x k = some r) : ∃ y, x = some y ∧ k y = some r := bd_of h
theorem bd2_of {α γ β : Type} {x : Option (α × γ)} {k : α → γ → Option β} {r : β} (h : bd2 x k = some r) : ∃ y z, x = some (y, z) ∧ k y z = some r := by
  obtain ⟨⟨y, z⟩, h1, h2⟩ := bd_of h
  exact ⟨y, z, h1, h2⟩
/-- an index within -/
def inb (x : Int32) (n : Nat) : Bool := decide (0 ≤ x) && decide (x.toNatClampNeg < n)
theorem inb_in {x : Int32} {n : Nat} (h : inb x n = true) : vp_in x n := by
  unfold inb at h
  simp only [Bool.and_eq_true, decide_eq_true_eq] at h
  intro z
  rcases z with z | z
  · exact absurd h.1 (Int32.not_le.mpr z)
  · omega
theorem inb_lt {x : Int32} {n : Nat} (h : inb x n = true) : x.toNatClampNeg < n := by
  unfold inb at h
  simp only [Bool.and_eq_true, decide_eq_true_eq] at h
  exact h.2
/-- a truth value -/
def isb (x : Int32) : Bool := decide (x = 0) || decide (x = 1)
theorem isb_z {x : Int32} (h : isb x = true) : narrow .boolean (.int x) = .int x ∧ fits .boolean (.int x) = true := by
  unfold isb at h
  simp only [Bool.or_eq_true, decide_eq_true_eq] at h
  rcases h with rfl | rfl
  · exact ⟨by decide +kernel, by decide +kernel⟩
  · exact ⟨by decide +kernel, by decide +kernel⟩
theorem nf_int (x : Int32) : narrow .int (.int x) = .int x ∧ fits .int (.int x) = true := ⟨rfl, rfl⟩
theorem nn_of {α : Type} {r : α} {P : Prop} (h : (none : Option α) = some r) : P := by cases h
/-- a char -/
def isc (x : Int32) : Bool := decide (x = (x.toUInt32 % 65536).toInt32)
theorem isc_n {x : Int32} (h : isc x = true) : narrow .char (.int x) = .int x := by
  have e : x = (x.toUInt32 % 65536).toInt32 := of_decide_eq_true h
  rw [e]
  exact pk_nc x
def isy (x : Int32) : Bool := decide (x = x.toInt8.toInt32)
theorem isy_n {x : Int32} (h : isy x = true) : narrow .byte (.int x) = .int x := by
  have e : x = x.toInt8.toInt32 := of_decide_eq_true h
  rw [e]
  exact pk_nb x
def nz (y : Int32) : Bool := !decide (y = 0)
theorem nz_ne {y : Int32} (h : nz y = true) : ¬ y = 0 := by
  unfold nz at h
  simp only [Bool.not_eq_true', decide_eq_false_iff_not] at h
  exact h
/-! ===== the layout, by kinds ===== -/
theorem lay_R {k : Nat} (h : k < 11) : layF (pR k) = .inl (4, [(1, 18 * k + 1, 0), (1, 18 * k + 2, 0), (0, k, 1), (0, k, 0), (0, k, 2), (0, k, 3), (0, k, 4), (0, k, 5), (0, k, 6), (0, k, 7)]) := by
  show layF (18 * k) = _
  unfold layF
  rw [if_pos (by omega), show (18 * k) / 18 = k by omega, show (18 * k) % 18 = 0 by omega]
  rfl
theorem lay_AD {k : Nat} (h : k < 11) : layF (18 * k + 1) = .inr (4, 5, 1, 18 * k + 3, 3) := by
  show layF (18 * k + 1) = _
  unfold layF
  rw [if_pos (by omega), show (18 * k + 1) / 18 = k by omega, show (18 * k + 1) % 18 = 1 by omega]
  rfl
theorem lay_AZ {k : Nat} (h : k < 11) : layF (18 * k + 2) = .inr (2, 25, 0, k, 8) := by
  show layF (18 * k + 2) = _
  unfold layF
  rw [if_pos (by omega), show (18 * k + 2) / 18 = k by omega, show (18 * k + 2) % 18 = 2 by omega]
  rfl
theorem lay_D {k i : Nat} (h : k < 11 ∧ i < 5) : layF (pD k i) = .inl (2, [(0, k, 33 + 34 * i), (0, k, 33 + 34 * i + 1), (0, k, 33 + 34 * i + 2), (0, k, 33 + 34 * i + 3), (0, k, 33 + 34 * i + 4), (0, k, 33 + 34 * i + 5), (0, k, 33 + 34 * i + 6), (0, k, 33 + 34 * i + 7), (0, k, 33 + 34 * i + 8), (0, k, 33 + 34 * i + 9), (1, 18 * k + 4 + 3 * i, 0), (1, 18 * k + 5 + 3 * i, 0)]) := by
  obtain ⟨h1, h2⟩ := h
  show layF (18 * k + 3 + 3 * i) = _
  unfold layF
  rw [if_pos (by omega), show (18 * k + 3 + 3 * i) / 18 = k by omega, show (18 * k + 3 + 3 * i) % 18 = 3 + 3 * i by omega]
  unfold layRaft
  rw [if_neg (by omega), if_neg (by omega), if_neg (by omega), if_pos (by omega), show (3 + 3 * i - 3) / 3 = i by omega]
theorem lay_AT {k i : Nat} (h : k < 11 ∧ i < 5) : layF (18 * k + 4 + 3 * i) = .inr (0, 12, 0, k, 33 + 34 * i + 10) := by
  obtain ⟨h1, h2⟩ := h
  show layF (18 * k + 4 + 3 * i) = _
  unfold layF
  rw [if_pos (by omega), show (18 * k + 4 + 3 * i) / 18 = k by omega, show (18 * k + 4 + 3 * i) % 18 = 4 + 3 * i by omega]
  unfold layRaft
  rw [if_neg (by omega), if_neg (by omega), if_neg (by omega), if_neg (by omega), if_pos (by omega), show (4 + 3 * i - 3) / 3 = i by omega]
theorem lay_AL {k i : Nat} (h : k < 11 ∧ i < 5) : layF (18 * k + 5 + 3 * i) = .inr (1, 12, 0, k, 33 + 34 * i + 22) := by
  obtain ⟨h1, h2⟩ := h
  show layF (18 * k + 5 + 3 * i) = _
  unfold layF
  rw [if_pos (by omega), show (18 * k + 5 + 3 * i) / 18 = k by omega, show (18 * k + 5 + 3 * i) % 18 = 5 + 3 * i by omega]
  unfold layRaft
  rw [if_neg (by omega), if_neg (by omega), if_neg (by omega), if_neg (by omega), if_neg (by omega), show (5 + 3 * i - 3) / 3 = i by omega]
def pC (c : Nat) : Nat := 205 + 1 * c
theorem lay_C {c : Nat} (h : c < 12) : layF (pC c) = .inl (1, [(2, 12, 3 * c), (0, 12, 3 * c + 1), (0, 12, 3 * c + 2)]) := by
  show layF (205 + 1 * c) = _
  match c, h with
  | 0, _ => rfl
  | 1, _ => rfl
  | 2, _ => rfl
  | 3, _ => rfl
  | 4, _ => rfl
  | 5, _ => rfl
  | 6, _ => rfl
  | 7, _ => rfl
  | 8, _ => rfl
  | 9, _ => rfl
  | 10, _ => rfl
  | 11, _ => rfl
  | n + 12, h => omega
def pM (b : Nat) : Nat := 199 + b
def lenM (b : Nat) : Nat := if b < 24 then 203 else 1624
theorem lay_M {b : Nat} (h : 20 ≤ b ∧ b < 25) : layF (pM b) = .inr (0, lenM b, 0, b, 0) := by
  obtain ⟨h1, h2⟩ := h
  have : b = 20 ∨ b = 21 ∨ b = 22 ∨ b = 23 ∨ b = 24 := by omega
  rcases this with rfl | rfl | rfl | rfl | rfl <;> rfl
theorem pl_R {k : Nat} (h : k < 11) : pR k < layN := by unfold pR layN; omega
theorem pl_AD {k : Nat} (h : k < 11) : 18 * k + 1 < layN := by unfold layN; omega
theorem pl_AZ {k : Nat} (h : k < 11) : 18 * k + 2 < layN := by unfold layN; omega
theorem pl_D {k i : Nat} (h : k < 11 ∧ i < 5) : pD k i < layN := by unfold pD layN; omega
theorem pl_AT {k i : Nat} (h : k < 11 ∧ i < 5) : 18 * k + 4 + 3 * i < layN := by unfold layN; omega
theorem pl_AL {k i : Nat} (h : k < 11 ∧ i < 5) : 18 * k + 5 + 3 * i < layN := by unfold layN; omega
theorem pl_C {c : Nat} (h : c < 12) : pC c < layN := by unfold pC layN; omega
theorem pl_M {b : Nat} (h : 20 ≤ b ∧ b < 25) : pM b < layN := by unfold pM layN; omega
theorem pln {q : Nat} (h : Nat.ble 227 q = false) : q < layN := by
  unfold layN
  rcases Nat.lt_or_ge q 227 with z | z
  · exact z
  · rw [Nat.ble_eq_true_of_le z] at h; cases h
theorem bk_k {k j : Nat} (h : k < 11) : plainB k j := by unfold plainB; omega
theorem bk_M {b j : Nat} (h : 20 ≤ b ∧ b < 25) : plainB b j := by unfold plainB; omega
theorem bk_l {b j : Nat} (h : Nat.beq b 14 = false ∧ Nat.beq b 16 = false ∧ Nat.beq b 13 = false ∧ Nat.beq b 15 = false) : plainB b j := by
  obtain ⟨h1, h2, h3, h4⟩ := h
  have e1 := Nat.ne_of_beq_eq_false h1
  have e2 := Nat.ne_of_beq_eq_false h2
  have e3 := Nat.ne_of_beq_eq_false h3
  have e4 := Nat.ne_of_beq_eq_false h4
  unfold plainB; omega
theorem lay_p198 : layF 198 = .inl (7, [(1, 0, 0), (1, 18, 0), (1, 36, 0), (1, 199, 0), (1, 201, 0), (1, 202, 0), (1, 217, 0), (0, 11, 0), (0, 11, 1)]) := rfl
theorem lay_p199 : layF 199 = .inl (3, [(1, 200, 0), (0, 11, 2), (0, 11, 3)]) := rfl
theorem lay_p200 : layF 200 = .inr (5, 8, 1, 54, 18) := rfl
theorem lay_p201 : layF 201 = .inl (5, [(0, 11, 4), (0, 11, 5), (0, 11, 6), (0, 11, 7)]) := rfl
theorem lay_p202 : layF 202 = .inl (6, [(1, 203, 0), (1, 204, 0), (0, 11, 8), (0, 11, 9)]) := rfl
theorem lay_p204 : layF 204 = .inr (6, 12, 1, 205, 1) := rfl
theorem lay_p218 : layF 218 = .inl (8, [(1, 219, 0), (1, 220, 0), (1, 221, 0), (1, 222, 0), (1, 223, 0), (0, 28, 5), (0, 28, 6), (0, 28, 7), (0, 28, 8), (0, 28, 9), (0, 28, 10), (0, 28, 11), (1, 224, 0), (1, 225, 0), (0, 28, 14), (0, 28, 15), (0, 28, 16), (0, 28, 17), (1, 226, 0), (0, 28, 19)]) := rfl
theorem lay_p219 : layF 219 = .inr (0, 203, 0, 20, 0) := rfl
theorem lay_p220 : layF 220 = .inr (0, 203, 0, 21, 0) := rfl
theorem lay_p221 : layF 221 = .inr (0, 203, 0, 22, 0) := rfl
theorem lay_p222 : layF 222 = .inr (0, 203, 0, 23, 0) := rfl
theorem lay_p223 : layF 223 = .inr (0, 1624, 0, 24, 0) := rfl
theorem lay_p224 : layF 224 = .inr (0, 60, 0, 25, 0) := rfl
theorem lay_p225 : layF 225 = .inr (0, 39, 0, 26, 0) := rfl
theorem lay_p226 : layF 226 = .inr (0, 120, 0, 27, 0) := rfl
end
section
section CONSTS
variable {v : EV} {p : Program} {l : Launch} {e : Env} {R : Room} {s : State} {m : MethodId} {args : Array Value} {below : List Frame} {meth : Method} {c : Code} {own : String} {cc : ByteArray} {nL : Nat} {ret : Option FieldType} {Q : State → Prop} {qb : Nat} {Wd Wd1 : Mem → Heap → Prop} {da : Nat → Nat} {S S1 : Mem} {pc : Nat} {lv : List (Nat × Value)} {st : List Value}
def mx (x y : Int32) : Int32 := if x < y then y else x
def mn (x y : Int32) : Int32 := if y < x then y else x
theorem i_mmax (hC : Cx v p l e s m args meth c own cc nL ret) {idx : Nat} {x y : Int32} (w1 : Cond.methodLink own idx Lib.Math.max.name ∈ TW) (w2 : Cond.static Lib.Math.max.name ∈ TW) (w3 : Cond.initialized "java/lang/Math" ∈ TW) (w4 : Cond.code Lib.Math.max.name Lib.Math.max.code 2 (some .int) ∈ TW) (hR : 1 ≤ R.frames ∧ (st.map fun v => v.category).sum + 13 ≤ R.locals) (hdg : decode cc pc = .ok (.invokestatic idx, 3))
    (k : Mw Wd v p l e R s m args below meth c nL Q qb S (pc + 3) lv (.int (mx x y) :: st)) : Mw Wd v p l e R s m args below meth c nL Q qb S pc lv (.int y :: .int x :: st) := fun H locs ls cells slots hbu hW hS hl => va_mmax hC.1 hC.2.1 (hC.2.2.1.trans hl.1.symm) hC.2.2.2.1 (hC.2.2.2.2.1 _ w1) (hC.2.2.2.2.1 _ w2) (hC.2.2.2.2.1 _ w3) (hC.2.2.2.2.1 _ w4) hR.1 hR.2 (by omega) (by omega) hdg (k H locs ls cells slots hbu hW hS hl)
theorem i_mmin (hC : Cx v p l e s m args meth c own cc nL ret) {idx : Nat} {x y : Int32} (w1 : Cond.methodLink own idx Lib.Math.min.name ∈ TW) (w2 : Cond.static Lib.Math.min.name ∈ TW) (w3 : Cond.initialized "java/lang/Math" ∈ TW) (w4 : Cond.code Lib.Math.min.name Lib.Math.min.code 2 (some .int) ∈ TW) (hR : 1 ≤ R.frames ∧ (st.map fun v => v.category).sum + 13 ≤ R.locals) (hdg : decode cc pc = .ok (.invokestatic idx, 3))
    (k : Mw Wd v p l e R s m args below meth c nL Q qb S (pc + 3) lv (.int (mn x y) :: st)) : Mw Wd v p l e R s m args below meth c nL Q qb S pc lv (.int y :: .int x :: st) := fun H locs ls cells slots hbu hW hS hl => va_mmin hC.1 hC.2.1 (hC.2.2.1.trans hl.1.symm) hC.2.2.2.1 (hC.2.2.2.2.1 _ w1) (hC.2.2.2.2.1 _ w2) (hC.2.2.2.2.1 _ w3) (hC.2.2.2.2.1 _ w4) hR.1 hR.2 (by omega) (by omega) hdg (k H locs ls cells slots hbu hW hS hl)
/-! references of any kind: null, or an address -/
def isR (u : Value) : Prop := u = .null ∨ ∃ a : Nat, u = .ref a
theorem isR_r (a : Nat) : isR (.ref a) := Or.inr ⟨a, rfl⟩
theorem isR_cat {u : Value} (h : isR u) : u.category = 1 := by
  rcases h with rfl | ⟨a, rfl⟩ <;> rfl
theorem i_aloadG_n (hC : Cx v p l e s m args meth c own cc nL ret) {q : Fin 4} {u : Value} (hu : isR u) (hdg : decode cc pc = .ok (.aload_n q, 1)) (hk : lk lv q = some u) (k : Mw Wd v p l e R s m args below meth c nL Q qb S (pc + 1) lv (u :: st)) : Mw Wd v p l e R s m args below meth c nL Q qb S pc lv st := by
  rcases hu with rfl | ⟨a, rfl⟩
  · exact fun H locs ls cells slots hbu hW hS hl => lv_aload_nN hC.1 hC.2.1 hdg rfl (lk_has hl hk) (k H locs ls cells slots hbu hW hS hl)
  · exact i_aload_n hC hdg hk k
theorem i_aloadG (hC : Cx v p l e s m args meth c own cc nL ret) {i : Nat} {u : Value} (hu : isR u) (hdg : decode cc pc = .ok (.aload i, 2)) (hk : lk lv i = some u) (k : Mw Wd v p l e R s m args below meth c nL Q qb S (pc + 2) lv (u :: st)) : Mw Wd v p l e R s m args below meth c nL Q qb S pc lv st := by
  rcases hu with rfl | ⟨a, rfl⟩
  · exact fun H locs ls cells slots hbu hW hS hl => lv_aloadN hC.1 hC.2.1 hdg (lk_has hl hk) (k H locs ls cells slots hbu hW hS hl)
  · exact i_aload hC hdg hk k
theorem i_astoreG_n (hC : Cx v p l e s m args meth c own cc nL ret) {q : Fin 4} {u : Value} (hu : isR u) (hdg : decode cc pc = .ok (.astore_n q, 1)) (hn : (q : Nat) < nL) (k : Mw Wd v p l e R s m args below meth c nL Q qb S (pc + 1) (lst lv q u) st) : Mw Wd v p l e R s m args below meth c nL Q qb S pc lv (u :: st) := by
  rcases hu with rfl | ⟨a, rfl⟩
  · exact fun H locs ls cells slots hbu hW hS hl => lv_astore_nN hC.1 hC.2.1 hdg rfl hl hn rfl (fun ls hl => k H locs ls cells slots hbu hW hS hl)
  · exact i_astore_n hC hdg hn k
theorem i_astoreG (hC : Cx v p l e s m args meth c own cc nL ret) {i : Nat} {u : Value} (hu : isR u) (hdg : decode cc pc = .ok (.astore i, 2)) (hn : i < nL) (k : Mw Wd v p l e R s m args below meth c nL Q qb S (pc + 2) (lst lv i u) st) : Mw Wd v p l e R s m args below meth c nL Q qb S pc lv (u :: st) := by
  rcases hu with rfl | ⟨a, rfl⟩
  · exact fun H locs ls cells slots hbu hW hS hl => lv_astoreN hC.1 hC.2.1 hdg hl hn rfl (fun ls hl => k H locs ls cells slots hbu hW hS hl)
  · exact i_astore hC hdg hn k
theorem r_aretG (hw : ∀ S H, Wd S H → WD v S H) {C : String} (hC : Cx v p l e s m args meth c own cc nL (some (.object C))) {u : Value} (hu : isR u) (hdg : decode cc pc = .ok (.areturn, 1)) : Mw Wd v p l e R s m args below meth c nL (MQ below (Qc v (some u) S) args s R.cells R.slots (eG v)) qb S pc lv [u] := by
  intro H locs ls cells slots hbu hW hS hl
  obtain ⟨hx, hb, -, -, -, -, -, -, -, hr, hk⟩ := hC
  refine W.widen (k := R.cells) (n := R.slots) (by omega) (by omega) ?_
  exact W.aret hx hb hr (Or.inl ⟨_, rfl⟩) hu (fun t ht hW' => ⟨rfl, by rw [ht]; exact hw S H hW, hS.F ht⟩) hS.free hdg hk
theorem i_aretG {C : String} (hC : Cx v p l e s m args meth c own cc nL (some (.object C))) {u : Value} (hu : isR u) (hdg : decode cc pc = .ok (.areturn, 1)) : Mj v p l e R s m args below meth c nL (MQ below (Qc v (some u) S) args s R.cells R.slots (eG v)) qb S pc lv [u] := r_aretG (fun _ _ h => h) hC hu hdg
theorem i_acnull (hC : Cx v p l e s m args meth c own cc nL ret) (hdg : decode cc pc = .ok (.aconst_null, 1)) (k : Mw Wd v p l e R s m args below meth c nL Q qb S (pc + 1) lv (.null :: st)) : Mw Wd v p l e R s m args below meth c nL Q qb S pc lv st := fun H locs ls cells slots hbu hW hS hl => lv_null hC.1 hC.2.1 hdg (k H locs ls cells slots hbu hW hS hl)

theorem wv_R (v : EV) (x : Int32) : isR (wv v x) := by
  unfold wv isR
  by_cases h : x = 0
  · rw [if_pos h]; exact Or.inl rfl
  · rw [if_neg h]; exact Or.inr ⟨_, rfl⟩
theorem wv_0 (v : EV) : wv v 0 = .null := if_pos rfl
theorem i_acnullW (hC : Cx v p l e s m args meth c own cc nL ret) (hdg : decode cc pc = .ok (.aconst_null, 1)) (k : Mw Wd v p l e R s m args below meth c nL Q qb S (pc + 1) lv (wv v 0 :: st)) : Mw Wd v p l e R s m args below meth c nL Q qb S pc lv st := by
  rw [wv_0] at k
  exact i_acnull hC hdg k
/-- a code of a word -/
def isw (x : Int32) : Bool := decide (0 < x) && decide (x ≤ 9)
theorem isw_n {x : Int32} (h : isw x = true) : ∃ i : Nat, i < 9 ∧ x = Int32.ofNat (i + 1) := by
  unfold isw at h
  simp only [Bool.and_eq_true, decide_eq_true_eq] at h
  have h1 := Int32.lt_iff_toInt_lt.mp h.1
  have h2 := Int32.le_iff_toInt_le.mp h.2
  rw [Int32.toInt_zero] at h1
  have h9 : (9 : Int32).toInt = 9 := by decide
  rw [h9] at h2
  refine ⟨x.toInt.toNat - 1, by omega, ?_⟩
  rw [show x.toInt.toNat - 1 + 1 = x.toInt.toNat by omega]
  exact Int32.toInt_inj.mp (by rw [Int32.toInt_ofNat_small (by omega)]; omega)
theorem wv_s (v : EV) : ∀ i, i < 9 → wv v (Int32.ofNat (i + 1)) = .ref (eT v i) := by
  intro i hi
  unfold wv
  have : i = 0 ∨ i = 1 ∨ i = 2 ∨ i = 3 ∨ i = 4 ∨ i = 5 ∨ i = 6 ∨ i = 7 ∨ i = 8 := by omega
  rcases this with rfl | rfl | rfl | rfl | rfl | rfl | rfl | rfl | rfl <;> exact if_neg (by decide)
theorem cn_sub : ∀ i, i < 9 → Int32.ofNat (i + 1) - 1 = Int32.ofNat i := by
  intro i hi
  have : i = 0 ∨ i = 1 ∨ i = 2 ∨ i = 3 ∨ i = 4 ∨ i = 5 ∨ i = 6 ∨ i = 7 ∨ i = 8 := by omega
  rcases this with rfl | rfl | rfl | rfl | rfl | rfl | rfl | rfl | rfl <;> decide
theorem i_enum (hC : Cx v p l e s m args meth c own cc nL ret) {idx i : Nat} (hi : i < 9) (w1 : Cond.fieldLink own idx "LogRaft$Word" (wNm.getD i "") "LLogRaft$Word;" ∈ TW) (hdg : decode cc pc = .ok (.getstatic idx, 3)) (k : Mw Wd v p l e R s m args below meth c nL Q qb S (pc + 3) lv (wv v (Int32.ofNat (i + 1)) :: st)) : Mw Wd v p l e R s m args below meth c nL Q qb S pc lv st := by
  rw [wv_s v i hi] at k
  exact fun H locs ls cells slots hbu hW hS hl => va_gets hC.1 hC.2.1 (hC.2.2.2.2.2.2.1.1.1 i hi).1 hS hC.2.2.2.1 (hC.2.2.2.2.1 _ w1) (fun _ h => h) hdg (k H locs ls cells slots hbu hW hS hl)
theorem j_getW (hC : Cx v p l e s m args meth c own cc nL ret) {idx ci k : Nat} {fin : Bool} {ty : FieldType} (hF : FL own idx ci k fin ty) {q : Nat} {fs : List FS} {b j : Nat} (hq : q < layN) (hy : layF q = .inl (ci, fs)) (hf : fs[k]? = some (2, b, j)) (hdg : decode cc pc = .ok (.getfield idx, 3))
    (k2 : Mw (WDa v da) v p l e R s m args below meth c nL Q qb S (pc + 3) lv (wv v (S b j) :: st)) : Mw (WDa v da) v p l e R s m args below meth c nL Q qb S pc lv (.ref (eA v q) :: st) := by
  intro H locs ls cells slots hbu hW hS hl
  have hP := hW.1
  exact m_get hC hF hP hq hy hf hdg (k2 H locs ls cells slots hbu hW hS hl)
theorem i_getW (hC : Cx v p l e s m args meth c own cc nL ret) {idx ci k : Nat} {fin : Bool} {ty : FieldType} (hF : FL own idx ci k fin ty) {q : Nat} {fs : List FS} {b j : Nat} (hq : q < layN) (hy : layF q = .inl (ci, fs)) (hf : fs[k]? = some (2, b, j)) (hdg : decode cc pc = .ok (.getfield idx, 3))
    (k2 : Mj v p l e R s m args below meth c nL Q qb S (pc + 3) lv (wv v (S b j) :: st)) : Mj v p l e R s m args below meth c nL Q qb S pc lv (.ref (eA v q) :: st) := ex_da fun da => j_getW hC hF hq hy hf hdg (to_da k2)
theorem fv_new2 {da : Nat → Nat} {b j : Nat} {x : Int32} : fv v da (up S b j x) (2, b, j) = wv v x := by
  unfold fv
  rw [if_neg (show ¬ (2 : Nat) = 0 by decide), if_neg (show ¬ (2 : Nat) = 1 by decide), if_pos rfl, up_same]
theorem map_set_up2 {da : Nat → Nat} {fs : List FS} {k b j : Nat} {x : Int32} (hf : fs[k]? = some (2, b, j)) (hu : ∀ i f, fs[i]? = some f → i ≠ k → (f.1 = 0 ∨ f.1 = 2) → ¬ (f.2.1 = b ∧ f.2.2 = j)) : fs.map (fv v da (up S b j x)) = (fs.map (fv v da S)).set k (wv v x) := by
  refine List.ext_getElem? fun i => ?_
  rw [List.getElem?_set, List.getElem?_map, List.getElem?_map, List.length_map]
  have hk : k < fs.length := (List.getElem?_eq_some_iff.mp hf).1
  by_cases hi : k = i
  · subst hi
    rw [if_pos rfl, if_pos hk, hf, Option.map_some, fv_new2]
  · rw [if_neg hi]
    cases h : fs[i]? with
    | none => rw [Option.map_none, Option.map_none]
    | some f => rw [Option.map_some, Option.map_some, fv_up (hu i f h (fun z => hi z.symm))]
theorem apf_ok2 {q ci : Nat} {fs : List FS} (hq : q < layN) (hy : layF q = .inl (ci, fs)) {k b j : Nat} (hf : fs[k]? = some (2, b, j)) : ∀ i f, fs[i]? = some f → i ≠ k → (f.1 = 0 ∨ f.1 = 2) → ¬ (f.2.1 = b ∧ f.2.2 = j) := by
  intro i f hi hne ht he
  have h := apf_all q hq
  rw [hy] at h
  have hi' : i < fs.length := (List.getElem?_eq_some_iff.mp hi).1
  have hk' : k < fs.length := (List.getElem?_eq_some_iff.mp hf).1
  have h1 := List.all_eq_true.mp (List.all_eq_true.mp h i (List.mem_range.mpr hi')) k (List.mem_range.mpr hk')
  rw [hi, hf] at h1
  obtain ⟨t, y, z⟩ := f
  dsimp only at ht he h1
  obtain ⟨rfl, rfl⟩ := he
  rcases ht with rfl | rfl <;> simp [hne] at h1
theorem j_putW (hC : Cx v p l e s m args meth c own cc nL ret) {idx ci k : Nat} {C : String} (hF : FL own idx ci k false (.object C)) {q : Nat} {fs : List FS} {b j : Nat} {x : Int32} (hq : q < layN) (hy : layF q = .inl (ci, fs)) (hf : fs[k]? = some (2, b, j)) (hb : plainB b j) (hdg : decode cc pc = .ok (.putfield idx, 3))
    (k2 : Mw (WDa v da) v p l e R s m args below meth c nL Q qb (up S b j x) (pc + 3) lv st) : Mw (WDa v da) v p l e R s m args below meth c nL Q qb S pc lv (wv v x :: .ref (eA v q) :: st) := by
  intro H locs ls cells slots hbu hW hS hl
  obtain ⟨hP, hD⟩ := hW
  obtain ⟨K, T, N, ty0, hc, hk, hlk, hin, hty, hnm, hfin, hd⟩ := hF
  have ho : ownr b j = q := own_ok hq (q := (b, j)) (by rw [hy]; exact List.mem_filterMap.mpr ⟨(2, b, j), List.mem_of_getElem? hf, by simp⟩)
  have hset : (wsW v da S).set q (eA v q, .inr (ci, (fs.map (fv v da S)).set k (wv v x))) = wsW v da (up S b j x) := wsW_up hq hb ho (by rw [hy]; exact congrArg (fun z => Sum.inr (ci, z)) (map_set_up2 hf (apf_ok2 hq hy hf)))
  have hn : narrow (.object C) (wv v x) = wv v x ∧ fits (.object C) (wv v x) = true := by
    rcases wv_R v x with e | ⟨a, e⟩ <;> rw [e] <;> exact ⟨rfl, rfl⟩
  refine va_put hC.1 hC.2.1 hC.2.2.2.2.1 hin ty0 hty hnm hC.2.2.2.1 hC.2.2.2.2.2.1 hP hD hS q (fs := fs.map (fv v da S)) (by rw [wsW_at hq, hy]; rfl) hc k hk (hC.2.2.2.2.1 _ hlk) (fun _ h => h) hfin hd hn.1 hn.2 (by rw [List.length_map]; exact (List.getElem?_eq_some_iff.mp hf).1) hdg fun H1 locs1 hP1 hD1 hS1 => ?_
  rw [hset] at hP1 hD1
  exact k2 H1 locs1 ls cells slots hbu ⟨hP1, hD1⟩ hS1 hl
theorem i_putW (hC : Cx v p l e s m args meth c own cc nL ret) {idx ci k : Nat} {C : String} (hF : FL own idx ci k false (.object C)) {q : Nat} {fs : List FS} {b j : Nat} {x : Int32} (hq : q < layN) (hy : layF q = .inl (ci, fs)) (hf : fs[k]? = some (2, b, j)) (hb : plainB b j) (hdg : decode cc pc = .ok (.putfield idx, 3))
    (k2 : Mj v p l e R s m args below meth c nL Q qb (up S b j x) (pc + 3) lv st) : Mj v p l e R s m args below meth c nL Q qb S pc lv (wv v x :: .ref (eA v q) :: st) := ex_da fun da => j_putW hC hF hq hy hf hb hdg (to_da k2)
theorem i_ifnullW (hC : Cx v p l e s m args meth c own cc nL ret) {x : Int32} {off : Int} {tgt : Nat} (hdg : decode cc pc = .ok (.ifnull off, 3)) (ht : (pc : Int) + off = (tgt : Int)) (kt : x = 0 → Mw Wd v p l e R s m args below meth c nL Q qb S tgt lv st) (kf : ¬ x = 0 → Mw Wd v p l e R s m args below meth c nL Q qb S (pc + 3) lv st) : Mw Wd v p l e R s m args below meth c nL Q qb S pc lv (wv v x :: st) := by
  unfold wv
  by_cases h : x = 0
  · rw [if_pos h]
    exact fun H locs ls cells slots hbu hW hS hl => lv_ifnullN hC.1 hC.2.1 hdg ht (kt h H locs ls cells slots hbu hW hS hl)
  · rw [if_neg h]
    exact fun H locs ls cells slots hbu hW hS hl => lv_ifnull hC.1 hC.2.1 hdg (kf h H locs ls cells slots hbu hW hS hl)
theorem i_ifnonnullW (hC : Cx v p l e s m args meth c own cc nL ret) {x : Int32} {off : Int} {tgt : Nat} (hdg : decode cc pc = .ok (.ifnonnull off, 3)) (ht : (pc : Int) + off = (tgt : Int)) (kt : ¬ x = 0 → Mw Wd v p l e R s m args below meth c nL Q qb S tgt lv st) (kf : x = 0 → Mw Wd v p l e R s m args below meth c nL Q qb S (pc + 3) lv st) : Mw Wd v p l e R s m args below meth c nL Q qb S pc lv (wv v x :: st) := by
  unfold wv
  by_cases h : x = 0
  · rw [if_pos h]
    exact fun H locs ls cells slots hbu hW hS hl => lv_ifnonnullN hC.1 hC.2.1 hdg (kf h H locs ls cells slots hbu hW hS hl)
  · rw [if_neg h]
    exact fun H locs ls cells slots hbu hW hS hl => lv_ifnonnull hC.1 hC.2.1 hdg ht (kt h H locs ls cells slots hbu hW hS hl)
/-- Enum.ordinal -/
theorem c_ordinal (hst : Stb v) {i : Nat} (hi : i < 9) (w1 : Cond.fieldLink RJx29ce0 7 "java/lang/Enum" "ordinal" "I" ∈ TW) : Con v l yJx29ce0_ordinal_8abf5 cJx29ce0_ordinal_8abf5 1 (some .int) 1 12 [.ref (eT v i)] S (some (.int (Int32.ofNat i))) S := con_of (by decide) hst (Nat.le_of_ble_eq_true rfl) (fun p e s m args below meth c hC => by
  refine i_aload_n hC (x := eT v i) (show decode cJx29ce0_ordinal_8abf5 0 = .ok (.aload_n 0, 1) by decide +kernel) rfl ?_
  intro H locs ls cells slots hbu hW hS hl
  refine va_getE hC.1 hC.2.1 hC.2.2.2.2.2.2.1.1 hi hS hC.2.2.2.1 (q := ("java/lang/Enum", "ordinal", "I", [0, 1, 2, 3, 4, 5, 6, 7, 8])) List.mem_cons_self (hC.2.2.2.2.1 _ w1) (fun _ h => h) (show decode cJx29ce0_ordinal_8abf5 1 = .ok (.getfield 7, 3) by decide +kernel) ?_
  have e : ([0, 1, 2, 3, 4, 5, 6, 7, 8] : List Int32).getD i 0 = Int32.ofNat i := by
    have : i = 0 ∨ i = 1 ∨ i = 2 ∨ i = 3 ∨ i = 4 ∨ i = 5 ∨ i = 6 ∨ i = 7 ∨ i = 8 := by omega
    rcases this with rfl | rfl | rfl | rfl | rfl | rfl | rfl | rfl | rfl <;> rfl
  dsimp only
  rw [e]
  exact i_iret hC (show decode cJx29ce0_ordinal_8abf5 4 = .ok (.ireturn, 1) by decide +kernel) H locs ls cells slots hbu hW hS hl)
def yWord_ordinal : MethodName := ⟨RX7, "ordinal", "()I"⟩
theorem i_ordinal (hC : Cx v p l e s m args meth c own cc nL ret) {idx : Nat} {x : Int32} (hw : isw x = true) (w1 : Cond.fieldLink RJx29ce0 7 "java/lang/Enum" "ordinal" "I" ∈ TW) (hG : GoodIn TW (va_wsU own idx RX7 "java/lang/Enum" yWord_ordinal yJx29ce0_ordinal_8abf5 (.code yJx29ce0_ordinal_8abf5 cJx29ce0_ordinal_8abf5 1 (some .int) :: TW)))
    (hR : 1 + 1 ≤ R.frames ∧ 8 + (1 + 11) + 12 ≤ R.locals) (hr : (st.map fun v => v.category).sum ≤ 8) (hdg : decode cc pc = .ok (.invokevirtual idx, 3)) (k : Mj v p l e R s m args below meth c nL Q qb S (pc + 3) lv (.int (x - 1) :: st)) : Mj v p l e R s m args below meth c nL Q qb S pc lv (wv v x :: st) := by
  obtain ⟨i, hi, rfl⟩ := isw_n hw
  rw [wv_s v i hi]
  rw [cn_sub i hi] at k
  refine r_run (K := 0) (q2 := qb) rfl (rest := st) (rv := some (.int (Int32.ofNat i))) (a := (Value.ref (eT v i) :: []).toArray) (fun H locs ls cells slots hbu hW hS hl => ?_) k
  exact va_runU (As := []) (rest := st) ⟨hC.1, hC.2.1, hC.2.2.1, hC.2.2.2.1, hC.2.2.2.2.1⟩ (c_ordinal hC.2.2.2.2.2.2.2.1 hi w1) (va_cwU 0 hC.2.2.2.2.1 hG rfl rfl rfl rfl (by decide +kernel) hR) ⟨pe_blind hC.2.2.2.2.2.2.2.1, va_recvE hC.2.2.2.2.2.2.1.1 hi hS, fun U hU hU2 => pe_of hC hW hS hU hU2⟩ rfl rfl hl.1 rfl (lv_room hr) hdg hbu
/-! the switch table -/
theorem i_swm (hC : Cx v p l e s m args meth c own cc nL ret) {idx : Nat} (w1 : Cond.fieldLink own idx "LogRaft$1" "$SwitchMap$LogRaft$Word" "[I" ∈ TW) (hdg : decode cc pc = .ok (.getstatic idx, 3)) (k : Mw Wd v p l e R s m args below meth c nL Q qb S (pc + 3) lv (.ref (eT v 30) :: st)) : Mw Wd v p l e R s m args below meth c nL Q qb S pc lv st :=
  fun H locs ls cells slots hbu hW hS hl => va_gets hC.1 hC.2.1 hC.2.2.2.2.2.2.1.2.2.2.2.2.2.1 hS hC.2.2.2.1 (hC.2.2.2.2.1 _ w1) (fun _ h => h) hdg (k H locs ls cells slots hbu hW hS hl)
theorem i_swmld (hC : Cx v p l e s m args meth c own cc nL ret) {i : Int32} (hin : vp_in i 9) (hdg : decode cc pc = .ok (.iaload, 1)) (k : Mw Wd v p l e R s m args below meth c nL Q qb S (pc + 1) lv (.int (Int32.ofNat (i.toNatClampNeg + 1)) :: st)) : Mw Wd v p l e R s m args below meth c nL Q qb S pc lv (.int i :: .ref (eT v 30) :: st) :=
  fun H locs ls cells slots hbu hW hS hl => va_ti hC.1 hC.2.1 hC.2.2.2.2.2.2.1.2.2.2.2.2.2.2.1 hS hin rfl hdg (k H locs ls cells slots hbu hW hS hl)
/-! the row of words -/
theorem i_wordsN (hC : Cx v p l e s m args meth c RX6 cc nL ret) (hdg : decode cc pc = .ok (.getstatic 67, 3)) (k : Mw Wd v p l e R s m args below meth c nL Q qb S (pc + 3) lv (.ref (eT v 31) :: st)) : Mw Wd v p l e R s m args below meth c nL Q qb S pc lv st :=
  fun H locs ls cells slots hbu hW hS hl => va_getsN hC.1 hC.2.1 hC.2.2.2.2.2.2.1.2.2.2.2.1 hS hC.2.2.2.1 (va_Nw.use rfl hC.2.2.2.2.2.2.1.2.2.2.2.2.2.2.2.2.2.2.2.2.2.1) (fun _ h => h) hdg (k H locs ls cells slots hbu hW hS hl)
theorem i_wordsLen (hC : Cx v p l e s m args meth c own cc nL ret) (hdg : decode cc pc = .ok (.arraylength, 1)) (k : Mw Wd v p l e R s m args below meth c nL Q qb S (pc + 1) lv (.int 9 :: st)) : Mw Wd v p l e R s m args below meth c nL Q qb S pc lv (.ref (eT v 31) :: st) :=
  fun H locs ls cells slots hbu hW hS hl => va_tlen hC.1 hC.2.1 hC.2.2.2.2.2.2.1.2.2.2.2.2.1 hS (show Int32.ofNat 9 = 9 by decide) hdg (k H locs ls cells slots hbu hW hS hl)
theorem inb9_n {x : Int32} (h : inb x 9 = true) : ∃ i : Nat, i < 9 ∧ x = Int32.ofNat i := by
  obtain ⟨j, hj, e⟩ := vp_in_of (inb_in h) (by decide)
  exact ⟨j, hj, e⟩
theorem i_wordsLd (hC : Cx v p l e s m args meth c own cc nL ret) {i : Int32} (hin : inb i 9 = true) (hdg : decode cc pc = .ok (.aaload, 1)) (k : Mw Wd v p l e R s m args below meth c nL Q qb S (pc + 1) lv (wv v (i + 1) :: st)) : Mw Wd v p l e R s m args below meth c nL Q qb S pc lv (.int i :: .ref (eT v 31) :: st) := by
  obtain ⟨n, hn, rfl⟩ := inb9_n hin
  rw [← inc_ofNat, wv_s v n hn] at k
  exact fun H locs ls cells slots hbu hW hS hl => vb_tq hC.1 hC.2.1 hC.2.2.2.2.2.2.1.2.2.2.2.2.1 hS (inb_in hin) (by rw [show (Int32.ofNat n).toNatClampNeg = n from nI_clamp (by omega)]) hdg (k H locs ls cells slots hbu hW hS hl)
theorem i_signs (hC : Cx v p l e s m args meth c own cc nL ret) {idx : Nat} {x : Int32} (hw : isw x = true) (w1 : Cond.fieldLink own idx "LogRaft$Word" "signs" "Ljava/lang/String;" ∈ TW) (hdg : decode cc pc = .ok (.getfield idx, 3)) (k : Mw Wd v p l e R s m args below meth c nL Q qb S (pc + 3) lv (.ref (eT v (10 + (x - 1).toNatClampNeg)) :: st)) : Mw Wd v p l e R s m args below meth c nL Q qb S pc lv (wv v x :: st) := by
  obtain ⟨i, hi, rfl⟩ := isw_n hw
  rw [cn_sub i hi, show (Int32.ofNat i).toNatClampNeg = i from nI_clamp (by omega)] at k
  rw [wv_s v i hi]
  exact fun H locs ls cells slots hbu hW hS hl => va_getX hC.1 hC.2.1 hC.2.2.2.2.2.2.1.2.1 hi hS hC.2.2.2.1 (hC.2.2.2.2.1 _ w1) (fun _ h => h) hdg (k H locs ls cells slots hbu hW hS hl)
theorem isw_t {x : Int32} (hw : isw x = true) : (x - 1).toNatClampNeg < 9 := by
  obtain ⟨i, hi, rfl⟩ := isw_n hw
  rw [cn_sub i hi, show (Int32.ofNat i).toNatClampNeg = i from nI_clamp (by omega)]
  exact hi
theorem i_ldcS (hC : Cx v p l e s m args meth c RX9 cc nL ret) {i idx : Nat} (hi : i < 9) (he : 191 + 2 * i = idx) (hdg : decode cc pc = .ok (.ldc idx, 2)) (k : Mw Wd v p l e R s m args below meth c nL Q qb S (pc + 2) lv (.ref (eT v (10 + i)) :: st)) : Mw Wd v p l e R s m args below meth c nL Q qb S pc lv st := by
  subst he
  exact fun H locs ls cells slots hbu hW hS hl => va_ldcS hC.1 hC.2.1 hC.2.2.2.1 (hC.2.2.2.2.2.2.1.2.2.2.1 i hi) hdg (k H locs ls cells slots hbu hW hS hl)
/-! literals -/
def lenT (t : Nat) : Nat := wLen.getD t 0
def chT (t : Nat) (i : Int32) : Int32 := ((wByt.getD t []).getD i.toNatClampNeg 0)
theorem i_strV (hC : Cx v p l e s m args meth c own cc nL ret) {idx t : Nat} (ht : t < 9) (w1 : Cond.fieldLink own idx "java/lang/String" "value" "[B" ∈ TW) (hdg : decode cc pc = .ok (.getfield idx, 3)) (k : Mw Wd v p l e R s m args below meth c nL Q qb S (pc + 3) lv (.ref (eT v (20 + t)) :: st)) : Mw Wd v p l e R s m args below meth c nL Q qb S pc lv (.ref (eT v (10 + t)) :: st) :=
  fun H locs ls cells slots hbu hW hS hl => vk_getf hC.1 hC.2.1 (hC.2.2.2.2.2.2.1.2.2.1.1 t ht).2.2.1 hS hC.2.2.2.1 (hC.2.2.2.2.1 _ w1) (fun _ h => h) hdg (k H locs ls cells slots hbu hW hS hl)
theorem i_strC (hC : Cx v p l e s m args meth c own cc nL ret) {idx t : Nat} (ht : t < 9) (w1 : Cond.fieldLink own idx "java/lang/String" "coder" "B" ∈ TW) (hdg : decode cc pc = .ok (.getfield idx, 3)) (k : Mw Wd v p l e R s m args below meth c nL Q qb S (pc + 3) lv (.int 0 :: st)) : Mw Wd v p l e R s m args below meth c nL Q qb S pc lv (.ref (eT v (10 + t)) :: st) :=
  fun H locs ls cells slots hbu hW hS hl => vk_getf hC.1 hC.2.1 (hC.2.2.2.2.2.2.1.2.2.1.1 t ht).2.1 hS hC.2.2.2.1 (hC.2.2.2.2.1 _ w1) (fun _ h => h) hdg (k H locs ls cells slots hbu hW hS hl)
theorem i_svLen (hC : Cx v p l e s m args meth c own cc nL ret) {t : Nat} (ht : t < 9) (hdg : decode cc pc = .ok (.arraylength, 1)) (k : Mw Wd v p l e R s m args below meth c nL Q qb S (pc + 1) lv (.int (Int32.ofNat (lenT t)) :: st)) : Mw Wd v p l e R s m args below meth c nL Q qb S pc lv (.ref (eT v (20 + t)) :: st) :=
  fun H locs ls cells slots hbu hW hS hl => va_tlen hC.1 hC.2.1 (hC.2.2.2.2.2.2.1.2.2.1.1 t ht).2.2.2 hS rfl hdg (k H locs ls cells slots hbu hW hS hl)
theorem i_svLd (hC : Cx v p l e s m args meth c own cc nL ret) {t : Nat} {i : Int32} (ht : t < 9) (hin : vp_in i (lenT t)) (hdg : decode cc pc = .ok (.baload, 1)) (k : Mw Wd v p l e R s m args below meth c nL Q qb S (pc + 1) lv (.int (chT t i) :: st)) : Mw Wd v p l e R s m args below meth c nL Q qb S pc lv (.int i :: .ref (eT v (20 + t)) :: st) :=
  fun H locs ls cells slots hbu hW hS hl => va_tb hC.1 hC.2.1 (hC.2.2.2.2.2.2.1.2.2.1.1 t ht).2.2.2 hS hin rfl hdg (k H locs ls cells slots hbu hW hS hl)
theorem str_recv (hC : Cx v p l e s m args meth c own cc nL ret) {t : Nat} (ht : t < 9) {H : Heap} {locs : List Loc} (hS : va_S (eG v) s.heap H locs) : ∃ cell : Cell, H[eT v (10 + t)]? = some cell ∧ cell.vm.isStatics = false ∧ s.vm.findClass "java/lang/String" = some cell.cls := vk_recv (adK := fun i => eT v (10 + i)) (i := t) hC.2.2.2.2.2.2.1.2.2.1 ht hS
theorem i_callT (hC : Cx v p l e s m args meth c own cc nL ret) {idx : Nat} {y : MethodName} {cy : ByteArray} {nLy F L n : Nat} {rety : Option FieldType} {As rest : List Value} {u : Value} {t : Nat} (ht : t < 9)
    (hV : MV own idx y cy nLy rety n) (hM : Con v l y cy nLy rety F L (.ref (eT v (10 + t)) :: As) S (some u) S1) (hc : y.cls = "java/lang/String") (hn : As.length = n) (hst : st = As.reverse ++ .ref (eT v (10 + t)) :: rest)
    (hR : F + 1 ≤ R.frames ∧ 8 + (nLy + 11) + L ≤ R.locals) (hr : (rest.map fun v => v.category).sum ≤ 8) (hdg : decode cc pc = .ok (.invokevirtual idx, 3)) (k : Mj v p l e R s m args below meth c nL Q qb S1 (pc + 3) lv (u :: rest)) : Mj v p l e R s m args below meth c nL Q qb S pc lv st := by
  refine r_run (K := 0) (q2 := qb) rfl (rest := rest) (rv := some u) (a := (Value.ref (eT v (10 + t)) :: As).toArray) (fun H locs ls cells slots hbu hW hS hl => ?_) k
  exact va_runV (As := As) (rest := rest) ⟨hC.1, hC.2.1, hC.2.2.1, hC.2.2.2.1, hC.2.2.2.2.1⟩ hM (cwV n hC.2.2.2.2.1 hV.1 rfl rfl rfl ⟨rfl, hV.2⟩ hR) ⟨pe_blind hC.2.2.2.2.2.2.2.1, by rw [hc]; exact str_recv (t := t) hC ht hS, fun U hU hU2 => pe_of hC hW hS hU hU2⟩ rfl hn hl.1 hst (lv_room hr) hdg hbu
theorem i_compact (hC : Cx v p l e s m args meth c own cc nL ret) {idx : Nat} (w1 : Cond.fieldLink own idx "java/lang/String" "COMPACT_STRINGS" "Z" ∈ TW) (hdg : decode cc pc = .ok (.getstatic idx, 3)) (k : Mw Wd v p l e R s m args below meth c nL Q qb S (pc + 3) lv (.int 1 :: st)) : Mw Wd v p l e R s m args below meth c nL Q qb S pc lv st :=
  fun H locs ls cells slots hbu hW hS hl => va_gets hC.1 hC.2.1 hC.2.2.2.2.2.2.1.2.2.2.2.2.2.2.2.1 hS hC.2.2.2.1 (hC.2.2.2.2.1 _ w1) (fun _ h => h) hdg (k H locs ls cells slots hbu hW hS hl)
theorem i_form (hC : Cx v p l e s m args meth c own cc nL ret) {idx : Nat} (w1 : Cond.fieldLink own idx "jdk/internal/util/Preconditions" "SIOOBE_FORMATTER" "Ljava/util/function/BiFunction;" ∈ TW) (hdg : decode cc pc = .ok (.getstatic idx, 3)) (k : ∀ u : Value, isR u → Mw Wd v p l e R s m args below meth c nL Q qb S (pc + 3) lv (u :: st)) : Mw Wd v p l e R s m args below meth c nL Q qb S pc lv st := by
  intro H locs ls cells slots hbu hW hS hl
  obtain ⟨q, ⟨hq, hZ⟩ | ⟨hq, hZ⟩⟩ := hC.2.2.2.2.2.2.1.2.2.2.2.2.2.2.2.2.2.2.2.2.1
  · exact va_gets hC.1 hC.2.1 hZ hS hC.2.2.2.1 (hC.2.2.2.2.1 _ w1) (fun _ h => h) hdg (k q (Or.inr hq) H locs ls cells slots hbu hW hS hl)
  · exact va_gets hC.1 hC.2.1 hZ hS hC.2.2.2.1 (hC.2.2.2.2.1 _ w1) (fun _ h => h) hdg (k q (Or.inl hq) H locs ls cells slots hbu hW hS hl)
theorem i_ishr (hC : Cx v p l e s m args meth c own cc nL ret) {x y : Int32} (hdg : decode cc pc = .ok (.ishr, 1)) (k : Mw Wd v p l e R s m args below meth c nL Q qb S (pc + 1) lv (.int (x >>> (y &&& 31)) :: st)) : Mw Wd v p l e R s m args below meth c nL Q qb S pc lv (.int y :: .int x :: st) := fun H locs ls cells slots hbu hW hS hl => lv_ishr hC.1 hC.2.1 hdg (k H locs ls cells slots hbu hW hS hl)
theorem cat_i (x : Int32) : (Value.int x).category = 1 := rfl
theorem cat_r (a : Nat) : (Value.ref a).category = 1 := rfl
theorem lk_w {lv : List (Nat × Value)} {i j : Nat} {u x : Value} (hc : u.category = 1) (hne : ¬ i = j) (h : lk lv j = some u) : lk (lst lv i x) j = some u := by
  have h1 : lk (lst lv i x) j = lk (lv.filter (fun q => !(q.1 == i) && !(q.1 + 1 == i && q.2.category == 2))) j := by
    show (bif Nat.beq i j then some x else lk _ j) = _
    rw [show Nat.beq i j = false from by
      cases hb : Nat.beq i j with
      | false => rfl
      | true => exact absurd (Nat.eq_of_beq_eq_true hb) hne]
    rfl
  rw [h1]
  clear h1
  induction lv with
  | nil => cases h
  | cons q l ih =>
    obtain ⟨n, y⟩ := q
    by_cases hn : Nat.beq n j = true
    · have e : n = j := Nat.eq_of_beq_eq_true hn
      unfold lk at h
      rw [hn] at h
      obtain rfl := Option.some.inj h
      have hp : (!(n == i) && !(n + 1 == i && y.category == 2)) = true := by
        rw [hc, e]
        have : (j == i) = false := by simpa using fun z => hne z.symm
        simp [this]
      rw [List.filter_cons, if_pos hp]
      unfold lk
      rw [hn]
      rfl
    · have hn' : Nat.beq n j = false := Bool.eq_false_iff.mpr hn
      unfold lk at h
      rw [hn'] at h
      by_cases hp : (!(n == i) && !(n + 1 == i && y.category == 2)) = true
      · rw [List.filter_cons, if_pos hp]
        unfold lk
        rw [hn']
        exact ih h
      · rw [List.filter_cons, if_neg hp]
        exact ih h
end CONSTS
end
section
/-! ===== contracts between worlds of any kind; the builders' rows ===== -/
def Qg (v : EV) (rv : Option Value) (W1 : Heap → Prop) : Array Value → State → Outcome → State → Prop := fun _ st o t => o = .returned rv ∧ W1 t.heap ∧ va_F (eG v) st t
def Pg (v : EV) (av : List Value) (W0 : Heap → Prop) : Array Value → State → Prop := va_Pc av (fun U => eN v ≤ U.heap.size ∧ va_K (eD v) vwCl (tysOf v) U ∧ eF v U ∧ W0 U.heap)
def ConG (K : Nat) (v : EV) (l : Launch) (y : MethodName) (cc : ByteArray) (nL : Nat) (ret : Option FieldType) (F L : Nat) (av : List Value) (W0 : Heap → Prop) (rv : Option Value) (W1 : Heap → Prop) : Prop :=
  Met l y (.code y cc nL ret :: TW) (rmK K F L) (Pg v av W0) (Qg v rv W1) K (160 * K) (eG v)
section GEN
variable {v : EV} {p : Program} {l : Launch} {e : Env} {R : Room} {s : State} {m : MethodId} {args : Array Value} {below : List Frame} {meth : Method} {c : Code} {own : String} {cc : ByteArray} {nL : Nat} {ret : Option FieldType} {Q : State → Prop} {qb : Nat} {Wd Wd1 : Mem → Heap → Prop} {W0 W1 : Heap → Prop} {da : Nat → Nat} {S S1 : Mem} {pc : Nat} {lv : List (Nat × Value)} {st : List Value}
theorem q_iret (hw : ∀ H, Wd S H → W1 H) (hC : Cx v p l e s m args meth c own cc nL (some .int)) {x : Int32} (hdg : decode cc pc = .ok (.ireturn, 1)) : Mw Wd v p l e R s m args below meth c nL (MQ below (Qg v (some (.int x)) W1) args s R.cells R.slots (eG v)) qb S pc lv [.int x] := by
  intro H locs ls cells slots hbu hW hS hl
  obtain ⟨hx, hb, -, -, -, -, -, -, -, hr, hk⟩ := hC
  refine W.widen (k := R.cells) (n := R.slots) (by omega) (by omega) ?_
  exact W.iret hx hb hr (fun t ht hW' => ⟨rfl, by rw [ht]; exact hw H hW, hS.F ht⟩) hS.free hdg hk
theorem q_zret {ty : FieldType} (hw : ∀ H, Wd S H → W1 H) (hC : Cx v p l e s m args meth c own cc nL (some ty)) {x : Int32} (hdg : decode cc pc = .ok (.ireturn, 1)) (hn : narrow ty (.int x) = .int x) : Mw Wd v p l e R s m args below meth c nL (MQ below (Qg v (some (.int x)) W1) args s R.cells R.slots (eG v)) qb S pc lv [.int x] := by
  intro H locs ls cells slots hbu hW hS hl
  obtain ⟨hx, hb, -, -, -, -, -, -, -, hr, hk⟩ := hC
  refine W.widen (k := R.cells) (n := R.slots) (by omega) (by omega) ?_
  exact W.zret hx hb hr hn (fun t ht hW' => ⟨rfl, by rw [ht]; exact hw H hW, hS.F ht⟩) hS.free hdg hk
theorem q_vret (hw : ∀ H, Wd S H → W1 H) (hC : Cx v p l e s m args meth c own cc nL none) (hdg : decode cc pc = .ok (.return_, 1)) : Mw Wd v p l e R s m args below meth c nL (MQ below (Qg v none W1) args s R.cells R.slots (eG v)) qb S pc lv [] := by
  intro H locs ls cells slots hbu hW hS hl
  obtain ⟨hx, hb, -, -, -, -, -, -, -, hr, hk⟩ := hC
  refine W.widen (k := R.cells) (n := R.slots) (by omega) (by omega) ?_
  exact W.vret hx hb hr (fun t ht hW' => ⟨rfl, by rw [ht]; exact hw H hW, hS.F ht⟩) hS.free hdg hk
theorem q_aret (hw : ∀ H, Wd S H → W1 H) {C : String} (hC : Cx v p l e s m args meth c own cc nL (some (.object C))) {u : Value} (hu : isR u) (hdg : decode cc pc = .ok (.areturn, 1)) : Mw Wd v p l e R s m args below meth c nL (MQ below (Qg v (some u) W1) args s R.cells R.slots (eG v)) qb S pc lv [u] := by
  intro H locs ls cells slots hbu hW hS hl
  obtain ⟨hx, hb, -, -, -, -, -, -, -, hr, hk⟩ := hC
  refine W.widen (k := R.cells) (n := R.slots) (by omega) (by omega) ?_
  exact W.aret hx hb hr (Or.inl ⟨_, rfl⟩) hu (fun t ht hW' => ⟨rfl, by rw [ht]; exact hw H hW, hS.F ht⟩) hS.free hdg hk
theorem pg_blind {av : List Value} (hst : Stb v) : FrameBlind (Pg v av W0) := fun a U g mk h => ⟨h.1, h.2.1, va_K.moved (u := U) (U := U.calling g mk a) (Vm.Alike.refl U.vm) h.2.2.1, hst U (U.calling g mk a) h.2.2.2.1 (Or.inl rfl) (fun _ _ _ => rfl), h.2.2.2.2⟩
theorem pg_of (hC : Cx v p l e s m args meth c own cc nL ret) {av : List Value} {H : Heap} {locs : List Loc} (hW : W0 H) (hS : va_S (eG v) s.heap H locs) {U : State} (hU : U.heap = H) (hU2 : s.WarmedH U.vm) : Pg v av W0 av.toArray U := by
  obtain ⟨-, -, -, -, -, hK, hF, hst, hn, -⟩ := hC
  refine ⟨rfl, by rw [hU]; exact Nat.le_trans hn hS.1, va_K.moved hU2.alike hK, hst s U hF (Or.inr hU2) (fun q h1 h2 => by rw [hU]; exact hS.2.1 q h1 h2), by rw [hU]; exact hW⟩
theorem g_run {a : Array Value} {rest : List Value} {rv : Option Value} {K q2 : Nat} (hq2 : qb = q2 + K) (hw : ∀ H, W1 H → Wd1 S1 H) (hr : ∀ (H : Heap) (locs : List Loc) (ls : Array Slot) (cells slots : Nat), (cells + K ≤ R.cells ∧ slots + 160 * K ≤ R.slots) → Wd S H → va_S (eG v) s.heap H locs → lv_has ls nL lv → va_Run p l e R s m args below meth c H locs cells slots K (160 * K) (F0 m pc ls st) rest (Qg v rv W1 a) (eG v)) (k : Mw Wd1 v p l e R s m args below meth c nL Q q2 S1 (pc + 3) lv (rv.toList ++ rest)) : Mw Wd v p l e R s m args below meth c nL Q qb S pc lv st := by
  intro H locs ls cells slots hbu hW hS hl T hT X
  obtain ⟨v', st₀, t, T', L, h0, X', hL, e1, e2, ⟨hv, hWd, hz, hk⟩, stp⟩ := hr H locs ls cells slots (by omega) hW hS hl T hT X
  cases hv
  rw [h0] at hz hk
  have hS' : va_S (eG v) s.heap T'.heap (locs ++ L) := by
    refine ⟨Nat.le_trans hS.1 (by rw [e1]; exact hz), fun q h1 h2 => by rw [e1, hk q (Nat.lt_of_lt_of_le h1 hS.1) h2]; exact hS.2.1 q h1 h2, fun q hq => ?_⟩
    rcases List.mem_append.mp hq with h | h
    · exact hS.2.2 q h
    · exact hL q h
  obtain ⟨t2, a1, b1⟩ := k T'.heap (locs ++ L) ls (cells + K) (slots + 160 * K) (by omega) (hw _ (by rw [e1]; exact hWd)) hS' hl T' rfl X'
  exact ⟨t2, stp t2 a1, b1⟩
theorem g_callS (hC : Cx v p l e s m args meth c own cc nL ret) {K q2 idx : Nat} {y : MethodName} {cy : ByteArray} {nLy F L n : Nat} {rety : Option FieldType} {As rest : List Value} {rv : Option Value} (hV : MS own idx y cy nLy rety n) (hM : ConG K v l y cy nLy rety F L As W0 rv W1) (h0 : ∀ H, Wd S H → W0 H) (h1 : ∀ H, W1 H → Wd1 S1 H) (hn : As.length = n) (hst : st = As.reverse ++ rest)
    (hq2 : qb = q2 + K) (hR : F + 1 ≤ R.frames ∧ 8 + (nLy + 11) + L ≤ R.locals) (hr : (rest.map fun v => v.category).sum ≤ 8) (hdg : decode cc pc = .ok (.invokestatic idx, 3)) (k : Mw Wd1 v p l e R s m args below meth c nL Q q2 S1 (pc + 3) lv (rv.toList ++ rest)) : Mw Wd v p l e R s m args below meth c nL Q qb S pc lv st := by
  refine g_run hq2 h1 (rest := rest) (a := As.toArray) (fun H locs ls cells slots hbu hW hS hl => ?_) k
  exact va_runS (As := As) (rest := rest) ⟨hC.1, hC.2.1, hC.2.2.1, hC.2.2.2.1, hC.2.2.2.2.1⟩ hM (va_cwS n hC.2.2.2.2.1 hV.1 rfl rfl rfl hV.2 hR) ⟨pg_blind hC.2.2.2.2.2.2.2.1, fun U hU hU2 => pg_of hC (h0 H hW) hS hU hU2⟩ rfl hn hl.1 hst (lv_room hr) hdg hbu
/-- a builder's place -/
def pB (b : Nat) : Nat := 203 + 14 * b
theorem pl_B {b : Nat} (h : b < 2) : pB b < layN := by unfold pB layN; omega
theorem lay_B {b : Nat} (h : b < 2) : layF (pB b) = .inl (0, [(3, b, 0), (4, 0, 0), (0, 13 + 2 * b, 2), (0, 13 + 2 * b, 0)]) := by
  match b, h with
  | 0, _ => rfl
  | 1, _ => rfl
  | n + 2, h => omega
theorem wsW_dy {b : Nat} (h : b < 2) : (wsW v da S)[layN + b]? = some (da b, .inl (eC v 3, capN S (13 + 2 * b), .inl (S (14 + 2 * b)))) := by
  unfold wsW
  rw [List.getElem?_append_right (by rw [wsL_len]; omega), wsL_len, Nat.add_sub_cancel_left]
  match b, h with
  | 0, _ => rfl
  | 1, _ => rfl
  | n + 2, h => omega
theorem recv_B (hC : Cx v p l e s m args meth c own cc nL ret) {b : Nat} (hb : b < 2) {H : Heap} (hW : WDa v da S H) : ∃ cell : Cell, H[eA v (pB b)]? = some cell ∧ cell.vm.isStatics = false ∧ s.vm.findClass RJ4 = some cell.cls := va_recv hC.2.2.2.2.2.1 hW.1 (ci := 0) (q0 := pB b) (q := (RJ4, TJ4, 4)) rfl (by rw [wsW_at (pl_B hb), lay_B hb]; rfl)
def MU (own : String) (idx : Nat) (y : MethodName) (cy : ByteArray) (nLy : Nat) (rety : Option FieldType) (n : Nat) : Prop :=
  GoodIn TW (va_wsU own idx RJ4 y.cls y y (.code y cy nLy rety :: TW)) ∧ (y.cls ≠ "java/lang/invoke/MethodHandle" ∧ y.cls ≠ "java/lang/invoke/VarHandle" ∧ (parseMethodDescriptor y.desc).map (fun d => d.parameters.length) = some n)
def MP (own : String) (idx : Nat) (y : MethodName) (cy : ByteArray) (nLy : Nat) (rety : Option FieldType) (n : Nat) : Prop :=
  GoodIn TW (va_wsSU own idx y (.code y cy nLy rety :: TW)) ∧ (y.name ≠ "<init>" ∧ (parseMethodDescriptor y.desc).map (fun d => d.parameters.length) = some n)
/-- a call of a method that the builder inherits -/
theorem g_callU (hC : Cx v p l e s m args meth c own cc nL ret) {K q2 idx b : Nat} {y : MethodName} {cy : ByteArray} {nLy F L n : Nat} {rety : Option FieldType} {As rest : List Value} {rv : Option Value} (hb : b < 2) (hV : MU own idx y cy nLy rety n) (hM : ConG K v l y cy nLy rety F L (.ref (eA v (pB b)) :: As) (WDa v da S) rv W1) (h1 : ∀ H, W1 H → Wd1 S1 H) (hn : As.length = n) (hst : st = As.reverse ++ .ref (eA v (pB b)) :: rest)
    (hq2 : qb = q2 + K) (hR : F + 1 ≤ R.frames ∧ 8 + (nLy + 11) + L ≤ R.locals) (hr : (rest.map fun v => v.category).sum ≤ 8) (hdg : decode cc pc = .ok (.invokevirtual idx, 3)) (k : Mw Wd1 v p l e R s m args below meth c nL Q q2 S1 (pc + 3) lv (rv.toList ++ rest)) : Mw (WDa v da) v p l e R s m args below meth c nL Q qb S pc lv st := by
  refine g_run hq2 h1 (rest := rest) (a := (Value.ref (eA v (pB b)) :: As).toArray) (fun H locs ls cells slots hbu hW hS hl => ?_) k
  exact va_runU (As := As) (rest := rest) ⟨hC.1, hC.2.1, hC.2.2.1, hC.2.2.2.1, hC.2.2.2.2.1⟩ hM (va_cwU n hC.2.2.2.2.1 hV.1 rfl rfl rfl rfl hV.2 hR) ⟨pg_blind hC.2.2.2.2.2.2.2.1, recv_B hC hb hW, fun U hU hU2 => pg_of hC hW hS hU hU2⟩ rfl hn hl.1 hst (lv_room hr) hdg hbu
/-- super's method -/
theorem g_callP (hC : Cx v p l e s m args meth c own cc nL ret) {K q2 idx b : Nat} {y : MethodName} {cy : ByteArray} {nLy F L n : Nat} {rety : Option FieldType} {As rest : List Value} {rv : Option Value} (hb : b < 2) (hV : MP own idx y cy nLy rety n) (hM : ConG K v l y cy nLy rety F L (.ref (eA v (pB b)) :: As) (WDa v da S) rv W1) (h1 : ∀ H, W1 H → Wd1 S1 H) (hn : As.length = n) (hst : st = As.reverse ++ .ref (eA v (pB b)) :: rest)
    (hq2 : qb = q2 + K) (hR : F + 1 ≤ R.frames ∧ 8 + (nLy + 11) + L ≤ R.locals) (hr : (rest.map fun v => v.category).sum ≤ 8) (hdg : decode cc pc = .ok (.invokespecial idx, 3)) (k : Mw Wd1 v p l e R s m args below meth c nL Q q2 S1 (pc + 3) lv (rv.toList ++ rest)) : Mw (WDa v da) v p l e R s m args below meth c nL Q qb S pc lv st := by
  refine g_run hq2 h1 (rest := rest) (a := (Value.ref (eA v (pB b)) :: As).toArray) (fun H locs ls cells slots hbu hW hS hl => ?_) k
  exact va_runSU (C := RJ4) (cC := (eD v).1 0) (As := As) (rest := rest) (hC.2.2.2.2.2.1.1 0 (RJ4, TJ4, 4) rfl).2 ⟨hC.1, hC.2.1, hC.2.2.1, hC.2.2.2.1, hC.2.2.2.2.1⟩ hM (va_cwSU n hC.2.2.2.2.1 hV.1 rfl rfl rfl hV.2 hR) ⟨pg_blind hC.2.2.2.2.2.2.2.1, recv_B hC hb hW, fun U hU hU2 => pg_of hC hW hS hU hU2⟩ rfl hn hl.1 hst (lv_room hr) hdg hbu
/-- a method of the builder's own class -/
theorem g_callB (hC : Cx v p l e s m args meth c own cc nL ret) {K q2 idx b : Nat} {y : MethodName} {cy : ByteArray} {nLy F L n : Nat} {rety : Option FieldType} {As rest : List Value} {rv : Option Value} (hb : b < 2) (hy : y.cls = RJ4) (hV : MV own idx y cy nLy rety n) (hM : ConG K v l y cy nLy rety F L (.ref (eA v (pB b)) :: As) (WD v S) rv W1) (h1 : ∀ H, W1 H → Wd1 S1 H) (hn : As.length = n) (hst : st = As.reverse ++ .ref (eA v (pB b)) :: rest)
    (hq2 : qb = q2 + K) (hR : F + 1 ≤ R.frames ∧ 8 + (nLy + 11) + L ≤ R.locals) (hr : (rest.map fun v => v.category).sum ≤ 8) (hdg : decode cc pc = .ok (.invokevirtual idx, 3)) (k : Mw Wd1 v p l e R s m args below meth c nL Q q2 S1 (pc + 3) lv (rv.toList ++ rest)) : Mj v p l e R s m args below meth c nL Q qb S pc lv st := by
  refine ex_da fun da => g_run hq2 h1 (rest := rest) (a := (Value.ref (eA v (pB b)) :: As).toArray) (fun H locs ls cells slots hbu hW hS hl => ?_) k
  exact va_runV (As := As) (rest := rest) ⟨hC.1, hC.2.1, hC.2.2.1, hC.2.2.2.1, hC.2.2.2.2.1⟩ hM (cwV n hC.2.2.2.2.1 hV.1 rfl rfl rfl ⟨rfl, hV.2⟩ hR) ⟨pg_blind hC.2.2.2.2.2.2.2.1, by rw [hy]; exact recv_B hC hb hW, fun U hU hU2 => pg_of hC ⟨da, hW⟩ hS hU hU2⟩ rfl hn hl.1 hst (lv_room hr) hdg hbu
theorem con_ofG {K : Nat} {y : MethodName} {F L : Nat} {av : List Value} {rv : Option Value} (hy : plainName y.cls = true) (hst : Stb v) (hn : (lg_sl av).length ≤ nL) (hw : ∀ H, W0 H → ∃ da, WDa v da S H) (h : ∀ (da : Nat → Nat) (p : Program) (e : Env) (s : State) (m : MethodId) (args : Array Value) (below : List Frame) (meth : Method) (c : Code), Cx v p l e s m args meth c y.cls cc nL ret → Mw (fun S H => WDa v da S H ∧ W0 H) v p l e (rmK K F L) s m args below meth c nL (MQ below (Qg v rv W1) args s K (160 * K) (eG v)) K S 0 (lv_args 0 av) []) : ConG K v l y cc nL ret F L av W0 rv W1 := by
  refine Met.ofW hy rfl ?_
  intro p e s m args below meth c s₁ B hml hv
  obtain ⟨rfl, hsz, hK, hF, hW⟩ := hv
  have hts := atoms_spec (ws := .code y cc nL ret :: TW) B.pre
  have C : Cx v p l e s m av.toArray meth c y.cls cc nL ret := ⟨B.exec, B.bytes, hml, findClass_of_methodNamed B.named, fun w hw => hts w (List.mem_cons_of_mem _ hw), hK, hF, hst, hsz, B.returns, B.notSynchronized⟩
  rw [lg_entry_eq]
  obtain ⟨da, hda⟩ := hw _ hW
  exact h da p e s m av.toArray below meth c C s.heap [] _ 0 0 ⟨by rw [Nat.zero_add]; exact Nat.le_refl _, by rw [Nat.zero_add]; exact Nat.le_refl _⟩ ⟨hda, hW⟩ va_S.rf (lv_entry av hn)
theorem Mw.mono {Wd' : Mem → Heap → Prop} (h : ∀ H, Wd S H → Wd' S H) (k : Mw Wd' v p l e R s m args below meth c nL Q qb S pc lv st) : Mw Wd v p l e R s m args below meth c nL Q qb S pc lv st := fun H locs ls cells slots hbu hW hS hl => k H locs ls cells slots hbu (h H hW) hS hl
theorem con_ofA {K : Nat} {y : MethodName} {F L : Nat} {av : List Value} {rv : Option Value} (hy : plainName y.cls = true) (hst : Stb v) (hn : (lg_sl av).length ≤ nL) (h : ∀ (p : Program) (e : Env) (s : State) (m : MethodId) (args : Array Value) (below : List Frame) (meth : Method) (c : Code), Cx v p l e s m args meth c y.cls cc nL ret → Mw (WDa v da) v p l e (rmK K F L) s m args below meth c nL (MQ below (Qg v rv W1) args s K (160 * K) (eG v)) K S 0 (lv_args 0 av) []) : ConG K v l y cc nL ret F L av (WDa v da S) rv W1 := by
  refine Met.ofW hy rfl ?_
  intro p e s m args below meth c s₁ B hml hv
  obtain ⟨rfl, hsz, hK, hF, hW⟩ := hv
  have hts := atoms_spec (ws := .code y cc nL ret :: TW) B.pre
  have C : Cx v p l e s m av.toArray meth c y.cls cc nL ret := ⟨B.exec, B.bytes, hml, findClass_of_methodNamed B.named, fun w hw => hts w (List.mem_cons_of_mem _ hw), hK, hF, hst, hsz, B.returns, B.notSynchronized⟩
  rw [lg_entry_eq]
  exact h p e s m av.toArray below meth c C s.heap [] _ 0 0 ⟨by rw [Nat.zero_add]; exact Nat.le_refl _, by rw [Nat.zero_add]; exact Nat.le_refl _⟩ hW va_S.rf (lv_entry av hn)
/-! the builder's fields and row -/
theorem j_getV (hC : Cx v p l e s m args meth c own cc nL ret) {idx b : Nat} {fin : Bool} {ty : FieldType} (hb : b < 2) (hF : FL own idx 0 0 fin ty) (hdg : decode cc pc = .ok (.getfield idx, 3)) (k2 : Mw (WDa v da) v p l e R s m args below meth c nL Q qb S (pc + 3) lv (.ref (da b) :: st)) : Mw (WDa v da) v p l e R s m args below meth c nL Q qb S pc lv (.ref (eA v (pB b)) :: st) := by
  intro H locs ls cells slots hbu hW hS hl
  exact m_get hC hF hW.1 (pl_B hb) (lay_B hb) (f := (3, b, 0)) rfl hdg (k2 H locs ls cells slots hbu hW hS hl)
theorem j_getK (hC : Cx v p l e s m args meth c own cc nL ret) {idx b : Nat} {fin : Bool} {ty : FieldType} (hb : b < 2) (hF : FL own idx 0 1 fin ty) (hdg : decode cc pc = .ok (.getfield idx, 3)) (k2 : Mw (WDa v da) v p l e R s m args below meth c nL Q qb S (pc + 3) lv (.int 0 :: st)) : Mw (WDa v da) v p l e R s m args below meth c nL Q qb S pc lv (.ref (eA v (pB b)) :: st) := by
  intro H locs ls cells slots hbu hW hS hl
  exact m_get hC hF hW.1 (pl_B hb) (lay_B hb) (f := (4, 0, 0)) rfl hdg (k2 H locs ls cells slots hbu hW hS hl)
theorem j_vlen (hC : Cx v p l e s m args meth c own cc nL ret) {b : Nat} (hb : b < 2) (hdg : decode cc pc = .ok (.arraylength, 1)) (k2 : Mw (WDa v da) v p l e R s m args below meth c nL Q qb S (pc + 1) lv (.int (Int32.ofNat (capN S (13 + 2 * b))) :: st)) : Mw (WDa v da) v p l e R s m args below meth c nL Q qb S pc lv (.ref (da b) :: st) := by
  intro H locs ls cells slots hbu hW hS hl
  exact va_alen hC.1 hC.2.1 hC.2.2.2.2.2.1 hW.1 (layN + b) 3 (wsW_dy hb) (tysOf_at v (by decide)) rfl hdg (k2 H locs ls cells slots hbu hW hS hl)
theorem j_vld (hC : Cx v p l e s m args meth c own cc nL ret) {b : Nat} {i : Int32} (hb : b < 2) (hin : vp_in i (capN S (13 + 2 * b))) (hdg : decode cc pc = .ok (.baload, 1)) (k2 : Mw (WDa v da) v p l e R s m args below meth c nL Q qb S (pc + 1) lv (.int (S (14 + 2 * b) i.toNatClampNeg) :: st)) : Mw (WDa v da) v p l e R s m args below meth c nL Q qb S pc lv (.int i :: .ref (da b) :: st) := by
  intro H locs ls cells slots hbu hW hS hl
  exact va_bald hC.1 hC.2.1 hC.2.2.2.2.2.1 hW.1 (layN + b) 3 (wsW_dy hb) (tysOf_at v (by decide)) hin hdg (k2 H locs ls cells slots hbu hW hS hl)
theorem wsW_vst {b j : Nat} {x : Int32} (hb : b < 2) : (wsW v da S).set (layN + b) (da b, .inl (eC v 3, capN S (13 + 2 * b), .inl (upd (S (14 + 2 * b)) j x))) = wsW v da (up S (14 + 2 * b) j x) := by
  have e0 : wsL v da (up S (14 + 2 * b) j x) = wsL v da S := by
    refine List.ext_getElem? fun q => ?_
    by_cases hq : q < layN
    · simp only [wsL, List.getElem?_map, List.getElem?_range hq, Option.map_some]
      refine congrArg (fun z => some (eA v q, z)) (ce_up fun hm => ?_)
      have := own_ok hq hm
      have h2 : ∀ p, p < layN → (srcs (layF p)).all (fun z => !(z.1 == 14) && !(z.1 == 16)) = true := by decide +kernel
      have h3 := List.all_eq_true.mp (h2 q hq) _ hm
      match b, hb with
      | 0, _ => simp at h3
      | 1, _ => simp at h3
      | n + 2, h => omega
    · rw [List.getElem?_eq_none (by rw [wsL_len]; omega), List.getElem?_eq_none (by rw [wsL_len]; omega)]
  unfold wsW
  rw [List.set_append_right _ _ (by rw [wsL_len]; omega), wsL_len, Nat.add_sub_cancel_left, e0]
  refine congrArg (fun z => wsL v da S ++ z) ?_
  match b, hb with
  | 0, _ =>
    show [(da 0, _), (da 1, _)] = [(da 0, _), (da 1, _)]
    have e1 : capN (up S 14 j x) 13 = capN S 13 := by unfold capN; rw [up_ne S x (by omega)]
    have e2 : capN (up S 14 j x) 15 = capN S 15 := by unfold capN; rw [up_ne S x (by omega)]
    have e3 : up S 14 j x 16 = S 16 := funext fun k => up_ne S x (by omega)
    have e4 : up S 14 j x 14 = upd (S 14) j x := funext fun k => by
      by_cases hk : k = j
      · subst hk; rw [up_same]; exact (if_pos rfl).symm
      · rw [up_ne S x (by omega)]; exact (if_neg hk).symm
    rw [e1, e2, e3, e4]
  | 1, _ =>
    show [(da 0, _), (da 1, _)] = [(da 0, _), (da 1, _)]
    have e1 : capN (up S 16 j x) 13 = capN S 13 := by unfold capN; rw [up_ne S x (by omega)]
    have e2 : capN (up S 16 j x) 15 = capN S 15 := by unfold capN; rw [up_ne S x (by omega)]
    have e3 : up S 16 j x 14 = S 14 := funext fun k => up_ne S x (by omega)
    have e4 : up S 16 j x 16 = upd (S 16) j x := funext fun k => by
      by_cases hk : k = j
      · subst hk; rw [up_same]; exact (if_pos rfl).symm
      · rw [up_ne S x (by omega)]; exact (if_neg hk).symm
    rw [e1, e2, e3, e4]
  | n + 2, h => omega
theorem j_vst (hC : Cx v p l e s m args meth c own cc nL ret) {b : Nat} {i x : Int32} (hb : b < 2) (hin : vp_in i (capN S (13 + 2 * b))) (hdg : decode cc pc = .ok (.bastore, 1)) (k2 : Mw (WDa v da) v p l e R s m args below meth c nL Q qb (up S (14 + 2 * b) i.toNatClampNeg (vp_nar .byte x)) (pc + 1) lv st) : Mw (WDa v da) v p l e R s m args below meth c nL Q qb S pc lv (.int x :: .int i :: .ref (da b) :: st) := by
  intro H locs ls cells slots hbu hW hS hl
  refine va_bast hC.1 hC.2.1 hC.2.2.2.2.2.1 hW.1 hW.2 hS (layN + b) 3 (wsW_dy hb) (tysOf_at v (by decide)) hin hdg fun H1 locs1 hP1 hD1 hS1 => ?_
  rw [wsW_vst hb] at hP1 hD1
  exact k2 H1 locs1 ls cells slots hbu ⟨hP1, hD1⟩ hS1 hl
theorem i_i2b (hC : Cx v p l e s m args meth c own cc nL ret) {x : Int32} (hdg : decode cc pc = .ok (.i2b, 1)) (k : Mw Wd v p l e R s m args below meth c nL Q qb S (pc + 1) lv (.int x.toInt8.toInt32 :: st)) : Mw Wd v p l e R s m args below meth c nL Q qb S pc lv (.int x :: st) := fun H locs ls cells slots hbu hW hS hl => lv_i2b hC.1 hC.2.1 hdg rfl (k H locs ls cells slots hbu hW hS hl)
theorem i_ineg (hC : Cx v p l e s m args meth c own cc nL ret) {x : Int32} (hdg : decode cc pc = .ok (.ineg, 1)) (k : Mw Wd v p l e R s m args below meth c nL Q qb S (pc + 1) lv (.int (-x) :: st)) : Mw Wd v p l e R s m args below meth c nL Q qb S pc lv (.int x :: st) := fun H locs ls cells slots hbu hW hS hl => lv_ineg hC.1 hC.2.1 hdg (k H locs ls cells slots hbu hW hS hl)
theorem i_dup_x1 (hC : Cx v p l e s m args meth c own cc nL ret) {x y : Value} (hdg : decode cc pc = .ok (.dup_x1, 1)) (hx : x.category = 1) (hy : y.category = 1) (k : Mw Wd v p l e R s m args below meth c nL Q qb S (pc + 1) lv (x :: y :: x :: st)) : Mw Wd v p l e R s m args below meth c nL Q qb S pc lv (x :: y :: st) := fun H locs ls cells slots hbu hW hS hl => lv_dup_x1 hC.1 hC.2.1 hdg hx hy (k H locs ls cells slots hbu hW hS hl)
theorem i_ishl (hC : Cx v p l e s m args meth c own cc nL ret) {x y : Int32} (hdg : decode cc pc = .ok (.ishl, 1)) (k : Mw Wd v p l e R s m args below meth c nL Q qb S (pc + 1) lv (.int (x <<< (y &&& 31)) :: st)) : Mw Wd v p l e R s m args below meth c nL Q qb S pc lv (.int y :: .int x :: st) := fun H locs ls cells slots hbu hW hS hl => lv_ishl hC.1 hC.2.1 hdg (k H locs ls cells slots hbu hW hS hl)
end GEN
end
