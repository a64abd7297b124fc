/-- a private method of a class that the tables say can be made, by its rows of tables_1 -/
def lw_okq (q : MethodName × Nat) : Prop := (q.1.cls ≠ "java/lang/invoke/MethodHandle" ∧ q.1.cls ≠ "java/lang/invoke/VarHandle") ∧ Cond.instantiable q.1.cls q.2 ∈ tables_1 ∧ Cond.privateMethod q.1 ∈ tables_1 ∧ Cond.instanceMethod q.1 ∈ tables_1
theorem lw_p0 : lw_okq (⟨"LogRaft", "change", "(LLogRaft$Word;II)I"⟩, 9) := ⟨⟨by decide +kernel, by decide +kernel⟩, List.mem_of_getElem? (i := 31) (by decide +kernel), List.mem_of_getElem? (i := 29) (by decide +kernel), List.mem_of_getElem? (i := 30) (by decide +kernel)⟩
theorem lw_p1 : lw_okq (⟨"LogRaft", "carryOut", "(LLogRaft$Word;II)I"⟩, 9) := ⟨⟨by decide +kernel, by decide +kernel⟩, List.mem_of_getElem? (i := 31) (by decide +kernel), List.mem_of_getElem? (i := 46) (by decide +kernel), List.mem_of_getElem? (i := 47) (by decide +kernel)⟩
theorem lw_p2 : lw_okq (⟨"LogRaft", "letCome", "(I)I"⟩, 9) := ⟨⟨by decide +kernel, by decide +kernel⟩, List.mem_of_getElem? (i := 31) (by decide +kernel), List.mem_of_getElem? (i := 58) (by decide +kernel), List.mem_of_getElem? (i := 59) (by decide +kernel)⟩
theorem lw_p3 : lw_okq (⟨"LogRaft", "refuse", "(II)I"⟩, 9) := ⟨⟨by decide +kernel, by decide +kernel⟩, List.mem_of_getElem? (i := 31) (by decide +kernel), List.mem_of_getElem? (i := 62) (by decide +kernel), List.mem_of_getElem? (i := 63) (by decide +kernel)⟩
theorem lw_p4 : lw_okq (⟨"LogRaft", "letAsk", "(I)I"⟩, 9) := ⟨⟨by decide +kernel, by decide +kernel⟩, List.mem_of_getElem? (i := 31) (by decide +kernel), List.mem_of_getElem? (i := 78) (by decide +kernel), List.mem_of_getElem? (i := 79) (by decide +kernel)⟩
theorem lw_p5 : lw_okq (⟨"LogRaft$Raft", "beginAsking", "(LLogRaft$Driver;I)V"⟩, 10) := ⟨⟨by decide +kernel, by decide +kernel⟩, List.mem_of_getElem? (i := 92) (by decide +kernel), List.mem_of_getElem? (i := 90) (by decide +kernel), List.mem_of_getElem? (i := 91) (by decide +kernel)⟩
theorem lw_p6 : lw_okq (⟨"LogRaft$Raft", "letVote", "(LLogRaft$Driver;I)I"⟩, 10) := ⟨⟨by decide +kernel, by decide +kernel⟩, List.mem_of_getElem? (i := 92) (by decide +kernel), List.mem_of_getElem? (i := 107) (by decide +kernel), List.mem_of_getElem? (i := 108) (by decide +kernel)⟩
theorem lw_p7 : lw_okq (⟨"LogRaft", "letSend", "(I)I"⟩, 9) := ⟨⟨by decide +kernel, by decide +kernel⟩, List.mem_of_getElem? (i := 31) (by decide +kernel), List.mem_of_getElem? (i := 119) (by decide +kernel), List.mem_of_getElem? (i := 120) (by decide +kernel)⟩
theorem lw_p8 : lw_okq (⟨"LogRaft", "letShout", "(II)I"⟩, 9) := ⟨⟨by decide +kernel, by decide +kernel⟩, List.mem_of_getElem? (i := 31) (by decide +kernel), List.mem_of_getElem? (i := 146) (by decide +kernel), List.mem_of_getElem? (i := 147) (by decide +kernel)⟩
theorem lw_p9 : lw_okq (⟨"LogRaft", "washAway", "(I)I"⟩, 9) := ⟨⟨by decide +kernel, by decide +kernel⟩, List.mem_of_getElem? (i := 31) (by decide +kernel), List.mem_of_getElem? (i := 154) (by decide +kernel), List.mem_of_getElem? (i := 155) (by decide +kernel)⟩
theorem lw_p10 : lw_okq (⟨"LogRaft", "bringBack", "(I)I"⟩, 9) := ⟨⟨by decide +kernel, by decide +kernel⟩, List.mem_of_getElem? (i := 31) (by decide +kernel), List.mem_of_getElem? (i := 162) (by decide +kernel), List.mem_of_getElem? (i := 163) (by decide +kernel)⟩
theorem lw_p11 : lw_okq (⟨"LogRaft", "changeRope", "(IIZ)I"⟩, 9) := ⟨⟨by decide +kernel, by decide +kernel⟩, List.mem_of_getElem? (i := 31) (by decide +kernel), List.mem_of_getElem? (i := 166) (by decide +kernel), List.mem_of_getElem? (i := 167) (by decide +kernel)⟩
theorem lw_p12 : lw_okq (⟨"LogRaft", "codeOfAsking", "(I)I"⟩, 9) := ⟨⟨by decide +kernel, by decide +kernel⟩, List.mem_of_getElem? (i := 31) (by decide +kernel), List.mem_of_getElem? (i := 224) (by decide +kernel), List.mem_of_getElem? (i := 225) (by decide +kernel)⟩
theorem lw_p13 : lw_okq (⟨"LogRaft$Text", "takeCommand", "()Z"⟩, 4) := ⟨⟨by decide +kernel, by decide +kernel⟩, List.mem_of_getElem? (i := 465) (by decide +kernel), List.mem_of_getElem? (i := 871) (by decide +kernel), List.mem_of_getElem? (i := 872) (by decide +kernel)⟩
theorem lw_p14 : lw_okq (⟨"LogRaft$Text", "takeWord", "()LLogRaft$Word;"⟩, 4) := ⟨⟨by decide +kernel, by decide +kernel⟩, List.mem_of_getElem? (i := 465) (by decide +kernel), List.mem_of_getElem? (i := 875) (by decide +kernel), List.mem_of_getElem? (i := 876) (by decide +kernel)⟩
theorem lw_p15 : lw_okq (⟨"LogRaft$Text", "countFitting", "(Ljava/lang/String;)I"⟩, 4) := ⟨⟨by decide +kernel, by decide +kernel⟩, List.mem_of_getElem? (i := 465) (by decide +kernel), List.mem_of_getElem? (i := 881) (by decide +kernel), List.mem_of_getElem? (i := 882) (by decide +kernel)⟩
def lw_privs_1 : List (MethodName × Nat) := [(⟨"LogRaft", "change", "(LLogRaft$Word;II)I"⟩, 9), (⟨"LogRaft", "carryOut", "(LLogRaft$Word;II)I"⟩, 9), (⟨"LogRaft", "letCome", "(I)I"⟩, 9), (⟨"LogRaft", "refuse", "(II)I"⟩, 9), (⟨"LogRaft", "letAsk", "(I)I"⟩, 9), (⟨"LogRaft$Raft", "beginAsking", "(LLogRaft$Driver;I)V"⟩, 10), (⟨"LogRaft$Raft", "letVote", "(LLogRaft$Driver;I)I"⟩, 10), (⟨"LogRaft", "letSend", "(I)I"⟩, 9), (⟨"LogRaft", "letShout", "(II)I"⟩, 9), (⟨"LogRaft", "washAway", "(I)I"⟩, 9), (⟨"LogRaft", "bringBack", "(I)I"⟩, 9), (⟨"LogRaft", "changeRope", "(IIZ)I"⟩, 9), (⟨"LogRaft", "codeOfAsking", "(I)I"⟩, 9), (⟨"LogRaft$Text", "takeCommand", "()Z"⟩, 4), (⟨"LogRaft$Text", "takeWord", "()LLogRaft$Word;"⟩, 4), (⟨"LogRaft$Text", "countFitting", "(Ljava/lang/String;)I"⟩, 4)]
theorem lw_r1 : ∀ q ∈ lw_privs_1, lw_okq q := List.forall_mem_cons.mpr ⟨lw_p0, List.forall_mem_cons.mpr ⟨lw_p1, List.forall_mem_cons.mpr ⟨lw_p2, List.forall_mem_cons.mpr ⟨lw_p3, List.forall_mem_cons.mpr ⟨lw_p4, List.forall_mem_cons.mpr ⟨lw_p5, List.forall_mem_cons.mpr ⟨lw_p6, List.forall_mem_cons.mpr ⟨lw_p7, List.forall_mem_cons.mpr ⟨lw_p8, List.forall_mem_cons.mpr ⟨lw_p9, List.forall_mem_cons.mpr ⟨lw_p10, List.forall_mem_cons.mpr ⟨lw_p11, List.forall_mem_cons.mpr ⟨lw_p12, List.forall_mem_cons.mpr ⟨lw_p13, List.forall_mem_cons.mpr ⟨lw_p14, List.forall_mem_cons.mpr ⟨lw_p15, fun _ h => absurd h List.not_mem_nil⟩⟩⟩⟩⟩⟩⟩⟩⟩⟩⟩⟩⟩⟩⟩⟩
theorem lw_p16 : lw_okq (⟨"LogRaft$Text", "isHere", "(IC)Z"⟩, 4) := ⟨⟨by decide +kernel, by decide +kernel⟩, List.mem_of_getElem? (i := 465) (by decide +kernel), List.mem_of_getElem? (i := 887) (by decide +kernel), List.mem_of_getElem? (i := 888) (by decide +kernel)⟩
theorem lw_p17 : lw_okq (⟨"LogRaft$Text", "takeArguments", "(LLogRaft$Command;)Z"⟩, 4) := ⟨⟨by decide +kernel, by decide +kernel⟩, List.mem_of_getElem? (i := 465) (by decide +kernel), List.mem_of_getElem? (i := 902) (by decide +kernel), List.mem_of_getElem? (i := 903) (by decide +kernel)⟩
theorem lw_p18 : lw_okq (⟨"LogRaft$Text", "takeFirst", "(LLogRaft$Command;)Z"⟩, 4) := ⟨⟨by decide +kernel, by decide +kernel⟩, List.mem_of_getElem? (i := 465) (by decide +kernel), List.mem_of_getElem? (i := 908) (by decide +kernel), List.mem_of_getElem? (i := 909) (by decide +kernel)⟩
theorem lw_p19 : lw_okq (⟨"LogRaft$Text", "takeDigit", "()I"⟩, 4) := ⟨⟨by decide +kernel, by decide +kernel⟩, List.mem_of_getElem? (i := 465) (by decide +kernel), List.mem_of_getElem? (i := 912) (by decide +kernel), List.mem_of_getElem? (i := 913) (by decide +kernel)⟩
theorem lw_p20 : lw_okq (⟨"LogRaft$Text", "takeBetween", "(CC)I"⟩, 4) := ⟨⟨by decide +kernel, by decide +kernel⟩, List.mem_of_getElem? (i := 465) (by decide +kernel), List.mem_of_getElem? (i := 916) (by decide +kernel), List.mem_of_getElem? (i := 917) (by decide +kernel)⟩
theorem lw_p21 : lw_okq (⟨"LogRaft$Text", "takeSign", "(C)Z"⟩, 4) := ⟨⟨by decide +kernel, by decide +kernel⟩, List.mem_of_getElem? (i := 465) (by decide +kernel), List.mem_of_getElem? (i := 920) (by decide +kernel), List.mem_of_getElem? (i := 921) (by decide +kernel)⟩
theorem lw_p22 : lw_okq (⟨"LogRaft$Text", "takeLetter", "(LLogRaft$Command;)Z"⟩, 4) := ⟨⟨by decide +kernel, by decide +kernel⟩, List.mem_of_getElem? (i := 465) (by decide +kernel), List.mem_of_getElem? (i := 924) (by decide +kernel), List.mem_of_getElem? (i := 925) (by decide +kernel)⟩
theorem lw_p23 : lw_okq (⟨"LogRaft$Text", "takeSecond", "(LLogRaft$Command;)Z"⟩, 4) := ⟨⟨by decide +kernel, by decide +kernel⟩, List.mem_of_getElem? (i := 465) (by decide +kernel), List.mem_of_getElem? (i := 928) (by decide +kernel), List.mem_of_getElem? (i := 929) (by decide +kernel)⟩
theorem lw_p24 : lw_okq (⟨"LogRaft", "refuseCommand", "(II)I"⟩, 9) := ⟨⟨by decide +kernel, by decide +kernel⟩, List.mem_of_getElem? (i := 31) (by decide +kernel), List.mem_of_getElem? (i := 956) (by decide +kernel), List.mem_of_getElem? (i := 957) (by decide +kernel)⟩
def lw_privs_2 : List (MethodName × Nat) := [(⟨"LogRaft$Text", "isHere", "(IC)Z"⟩, 4), (⟨"LogRaft$Text", "takeArguments", "(LLogRaft$Command;)Z"⟩, 4), (⟨"LogRaft$Text", "takeFirst", "(LLogRaft$Command;)Z"⟩, 4), (⟨"LogRaft$Text", "takeDigit", "()I"⟩, 4), (⟨"LogRaft$Text", "takeBetween", "(CC)I"⟩, 4), (⟨"LogRaft$Text", "takeSign", "(C)Z"⟩, 4), (⟨"LogRaft$Text", "takeLetter", "(LLogRaft$Command;)Z"⟩, 4), (⟨"LogRaft$Text", "takeSecond", "(LLogRaft$Command;)Z"⟩, 4), (⟨"LogRaft", "refuseCommand", "(II)I"⟩, 9)]
theorem lw_r2 : ∀ q ∈ lw_privs_2, lw_okq q := List.forall_mem_cons.mpr ⟨lw_p16, List.forall_mem_cons.mpr ⟨lw_p17, List.forall_mem_cons.mpr ⟨lw_p18, List.forall_mem_cons.mpr ⟨lw_p19, List.forall_mem_cons.mpr ⟨lw_p20, List.forall_mem_cons.mpr ⟨lw_p21, List.forall_mem_cons.mpr ⟨lw_p22, List.forall_mem_cons.mpr ⟨lw_p23, List.forall_mem_cons.mpr ⟨lw_p24, fun _ h => absurd h List.not_mem_nil⟩⟩⟩⟩⟩⟩⟩⟩⟩
def lw_privs : List (MethodName × Nat) := lw_privs_1 ++ (lw_privs_2)
def lw_tbl : List Cond := k2_sels lw_privs ++ tables_1
theorem lw_privs_ok : ∀ q ∈ lw_privs, lw_okq q := by
  show ∀ q ∈ lw_privs_1 ++ (lw_privs_2), lw_okq q
  exact List.forall_mem_append.mpr ⟨lw_r1, lw_r2⟩
def RX0 : String := "LogRaft$1"
def TX0 : u_T := fun k => match k with
  | _ => ("", "", "", false)
def tyX0 : Nat → FieldType := fun k => match k with
  | _ => .int
theorem nmX0 : ∀ a, a < 0 → ∀ b, b < 0 → a ≠ b → (TX0 a).2.1 ≠ (TX0 b).2.1 := by decide +kernel
theorem tyX0_ok : ∀ k, k < 0 → parseFieldDescriptor (TX0 k).2.2.1 = some (tyX0 k) := by decide +kernel
def RX1 : String := "LogRaft$Command"
def TX1 : u_T := fun k => match k with
  | 0 => ("LogRaft$Command", "word", "LLogRaft$Word;", false)
  | 1 => ("LogRaft$Command", "first", "I", false)
  | _ => ("LogRaft$Command", "second", "I", false)
def tyX1 : Nat → FieldType := fun k => match k with
  | 0 => .object "LogRaft$Word"
  | 1 => .int
  | _ => .int
theorem nmX1 : ∀ a, a < 3 → ∀ b, b < 3 → a ≠ b → (TX1 a).2.1 ≠ (TX1 b).2.1 := by decide +kernel
theorem tyX1_ok : ∀ k, k < 3 → parseFieldDescriptor (TX1 k).2.2.1 = some (tyX1 k) := by decide +kernel
abbrev cX1_init : ByteArray := prog_3_method_1_code
def yX1_init : MethodName := ⟨RX1, "<init>", "()V"⟩
def RX2 : String := "LogRaft$Driver"
def TX2 : u_T := fun k => match k with
  | 0 => ("LogRaft$Driver", "doing", "I", false)
  | 1 => ("LogRaft$Driver", "term", "I", false)
  | 2 => ("LogRaft$Driver", "patience", "I", false)
  | 3 => ("LogRaft$Driver", "waited", "I", false)
  | 4 => ("LogRaft$Driver", "vote", "I", false)
  | 5 => ("LogRaft$Driver", "lines", "I", false)
  | 6 => ("LogRaft$Driver", "known", "I", false)
  | 7 => ("LogRaft$Driver", "isAboard", "Z", false)
  | 8 => ("LogRaft$Driver", "timesAsked", "I", false)
  | 9 => ("LogRaft$Driver", "timesLed", "I", false)
  | 10 => ("LogRaft$Driver", "terms", "[I", true)
  | _ => ("LogRaft$Driver", "letters", "[C", true)
def tyX2 : Nat → FieldType := fun k => match k with
  | 0 => .int
  | 1 => .int
  | 2 => .int
  | 3 => .int
  | 4 => .int
  | 5 => .int
  | 6 => .int
  | 7 => .boolean
  | 8 => .int
  | 9 => .int
  | 10 => .array .int
  | _ => .array .char
theorem nmX2 : ∀ a, a < 12 → ∀ b, b < 12 → a ≠ b → (TX2 a).2.1 ≠ (TX2 b).2.1 := by decide +kernel
theorem tyX2_ok : ∀ k, k < 12 → parseFieldDescriptor (TX2 k).2.2.1 = some (tyX2 k) := by decide +kernel
abbrev cX2_init : ByteArray := prog_4_method_1_code
def yX2_init : MethodName := ⟨RX2, "<init>", "()V"⟩
abbrev cX2_begin : ByteArray := prog_4_method_2_code
def yX2_begin : MethodName := ⟨RX2, "begin", "(I)V"⟩
abbrev cX2_copyFrom : ByteArray := prog_4_method_3_code
def yX2_copyFrom : MethodName := ⟨RX2, "copyFrom", "(LLogRaft$Driver;)V"⟩
abbrev cX2_copyLines : ByteArray := prog_4_method_4_code
def yX2_copyLines : MethodName := ⟨RX2, "copyLines", "(LLogRaft$Driver;I)V"⟩
abbrev cX2_write : ByteArray := prog_4_method_5_code
def yX2_write : MethodName := ⟨RX2, "write", "(IC)V"⟩
abbrev cX2_isLeading : ByteArray := prog_4_method_6_code
def yX2_isLeading : MethodName := ⟨RX2, "isLeading", "()Z"⟩
abbrev cX2_waitBeat : ByteArray := prog_4_method_8_code
def yX2_waitBeat : MethodName := ⟨RX2, "waitBeat", "()Z"⟩
abbrev cX2_hasLongerTaleThan : ByteArray := prog_4_method_10_code
def yX2_hasLongerTaleThan : MethodName := ⟨RX2, "hasLongerTaleThan", "(LLogRaft$Driver;)Z"⟩
abbrev cX2_countSameLines : ByteArray := prog_4_method_11_code
def yX2_countSameLines : MethodName := ⟨RX2, "countSameLines", "(LLogRaft$Driver;)I"⟩
abbrev cX2_takeOver : ByteArray := prog_4_method_12_code
def yX2_takeOver : MethodName := ⟨RX2, "takeOver", "(I)V"⟩
abbrev cX2_followLeader : ByteArray := prog_4_method_13_code
def yX2_followLeader : MethodName := ⟨RX2, "followLeader", "(LLogRaft$Driver;)I"⟩
abbrev cX2_agreeOwnLines : ByteArray := prog_4_method_14_code
def yX2_agreeOwnLines : MethodName := ⟨RX2, "agreeOwnLines", "()V"⟩
def RX3 : String := "LogRaft$Past"
def TX3 : u_T := fun k => match k with
  | 0 => ("LogRaft$Past", "states", "[LLogRaft$Raft;", true)
  | 1 => ("LogRaft$Past", "next", "I", false)
  | _ => ("LogRaft$Past", "count", "I", false)
def tyX3 : Nat → FieldType := fun k => match k with
  | 0 => .array (.object "LogRaft$Raft")
  | 1 => .int
  | _ => .int
theorem nmX3 : ∀ a, a < 3 → ∀ b, b < 3 → a ≠ b → (TX3 a).2.1 ≠ (TX3 b).2.1 := by decide +kernel
theorem tyX3_ok : ∀ k, k < 3 → parseFieldDescriptor (TX3 k).2.2.1 = some (tyX3 k) := by decide +kernel
abbrev cX3_init : ByteArray := prog_5_method_1_code
def yX3_init : MethodName := ⟨RX3, "<init>", "()V"⟩
abbrev cX3_remember : ByteArray := prog_5_method_2_code
def yX3_remember : MethodName := ⟨RX3, "remember", "(LLogRaft$Raft;)V"⟩
abbrev cX3_takeBack : ByteArray := prog_5_method_3_code
def yX3_takeBack : MethodName := ⟨RX3, "takeBack", "(LLogRaft$Raft;)V"⟩
abbrev cX3_forget : ByteArray := prog_5_method_4_code
def yX3_forget : MethodName := ⟨RX3, "forget", "()V"⟩
def RX4 : String := "LogRaft$Raft"
def TX4 : u_T := fun k => match k with
  | 0 => ("LogRaft$Raft", "drivers", "[LLogRaft$Driver;", true)
  | 1 => ("LogRaft$Raft", "cutRopes", "[Z", true)
  | 2 => ("LogRaft$Raft", "count", "I", false)
  | 3 => ("LogRaft$Raft", "beat", "I", false)
  | 4 => ("LogRaft$Raft", "asks", "I", false)
  | 5 => ("LogRaft$Raft", "leads", "I", false)
  | 6 => ("LogRaft$Raft", "shouts", "I", false)
  | 7 => ("LogRaft$Raft", "cutLines", "I", false)
  | 8 => ("LogRaft$Raft", "sendings", "I", false)
  | _ => ("LogRaft$Raft", "votes", "I", false)
def tyX4 : Nat → FieldType := fun k => match k with
  | 0 => .array (.object "LogRaft$Driver")
  | 1 => .array .boolean
  | 2 => .int
  | 3 => .int
  | 4 => .int
  | 5 => .int
  | 6 => .int
  | 7 => .int
  | 8 => .int
  | _ => .int
theorem nmX4 : ∀ a, a < 10 → ∀ b, b < 10 → a ≠ b → (TX4 a).2.1 ≠ (TX4 b).2.1 := by decide +kernel
theorem tyX4_ok : ∀ k, k < 10 → parseFieldDescriptor (TX4 k).2.2.1 = some (tyX4 k) := by decide +kernel
abbrev cX4_init : ByteArray := prog_6_method_1_code
def yX4_init : MethodName := ⟨RX4, "<init>", "()V"⟩
abbrev cX4_copyFrom : ByteArray := prog_6_method_3_code
def yX4_copyFrom : MethodName := ⟨RX4, "copyFrom", "(LLogRaft$Raft;)V"⟩
abbrev cX4_has : ByteArray := prog_6_method_4_code
def yX4_has : MethodName := ⟨RX4, "has", "(I)Z"⟩
abbrev cX4_hasLine : ByteArray := prog_6_method_5_code
def yX4_hasLine : MethodName := ⟨RX4, "hasLine", "(II)Z"⟩
abbrev cX4_addDriver : ByteArray := prog_6_method_6_code
def yX4_addDriver : MethodName := ⟨RX4, "addDriver", "(I)I"⟩
abbrev cX4_isMajority : ByteArray := prog_6_method_7_code
def yX4_isMajority : MethodName := ⟨RX4, "isMajority", "(I)Z"⟩
abbrev cX4_isRopeCut : ByteArray := prog_6_method_8_code
def yX4_isRopeCut : MethodName := ⟨RX4, "isRopeCut", "(II)Z"⟩
abbrev cX4_setRope : ByteArray := prog_6_method_9_code
def yX4_setRope : MethodName := ⟨RX4, "setRope", "(IIZ)V"⟩
abbrev cX4_canReach : ByteArray := prog_6_method_10_code
def yX4_canReach : MethodName := ⟨RX4, "canReach", "(II)Z"⟩
abbrev cX4_countReached : ByteArray := prog_6_method_11_code
def yX4_countReached : MethodName := ⟨RX4, "countReached", "(I)I"⟩
abbrev cX4_countCutRopes : ByteArray := prog_6_method_12_code
def yX4_countCutRopes : MethodName := ⟨RX4, "countCutRopes", "()I"⟩
abbrev cX4_gatherVotes : ByteArray := prog_6_method_13_code
def yX4_gatherVotes : MethodName := ⟨RX4, "gatherVotes", "(I)I"⟩
abbrev cX4_beginAsking : ByteArray := prog_6_method_14_code
def yX4_beginAsking : MethodName := ⟨RX4, "beginAsking", "(LLogRaft$Driver;I)V"⟩
abbrev cX4_letVote : ByteArray := prog_6_method_15_code
def yX4_letVote : MethodName := ⟨RX4, "letVote", "(LLogRaft$Driver;I)I"⟩
abbrev cX4_wouldGrantVote : ByteArray := prog_6_method_16_code
def yX4_wouldGrantVote : MethodName := ⟨RX4, "wouldGrantVote", "(II)Z"⟩
abbrev cX4_votesToGet : ByteArray := prog_6_method_17_code
def yX4_votesToGet : MethodName := ⟨RX4, "votesToGet", "(I)I"⟩
abbrev cX4_sendFrom : ByteArray := prog_6_method_19_code
def yX4_sendFrom : MethodName := ⟨RX4, "sendFrom", "(I)I"⟩
abbrev cX4_passBeats : ByteArray := prog_6_method_20_code
def yX4_passBeats : MethodName := ⟨RX4, "passBeats", "(I)I"⟩
abbrev cX4_isConflict : ByteArray := prog_6_method_21_code
def yX4_isConflict : MethodName := ⟨RX4, "isConflict", "(II)Z"⟩
abbrev cX4_countAboard : ByteArray := prog_6_method_25_code
def yX4_countAboard : MethodName := ⟨RX4, "countAboard", "()I"⟩
abbrev cX4_greatestTerm : ByteArray := prog_6_method_28_code
def yX4_greatestTerm : MethodName := ⟨RX4, "greatestTerm", "()I"⟩
def RX5 : String := "LogRaft$Reasons"
def TX5 : u_T := fun k => match k with
  | 0 => ("LogRaft$Reasons", "number", "I", false)
  | 1 => ("LogRaft$Reasons", "detail", "I", false)
  | 2 => ("LogRaft$Reasons", "numberBehind", "I", false)
  | _ => ("LogRaft$Reasons", "detailBehind", "I", false)
def tyX5 : Nat → FieldType := fun k => match k with
  | 0 => .int
  | 1 => .int
  | 2 => .int
  | _ => .int
theorem nmX5 : ∀ a, a < 4 → ∀ b, b < 4 → a ≠ b → (TX5 a).2.1 ≠ (TX5 b).2.1 := by decide +kernel
theorem tyX5_ok : ∀ k, k < 4 → parseFieldDescriptor (TX5 k).2.2.1 = some (tyX5 k) := by decide +kernel
abbrev cX5_init : ByteArray := prog_7_method_1_code
def yX5_init : MethodName := ⟨RX5, "<init>", "()V"⟩
abbrev cX5_put : ByteArray := prog_7_method_2_code
def yX5_put : MethodName := ⟨RX5, "put", "(II)V"⟩
abbrev cX5_putAhead : ByteArray := prog_7_method_3_code
def yX5_putAhead : MethodName := ⟨RX5, "putAhead", "(II)V"⟩
def RX6 : String := "LogRaft$Text"
def TX6 : u_T := fun k => match k with
  | 0 => ("LogRaft$Text", "signs", "Ljava/lang/StringBuilder;", true)
  | 1 => ("LogRaft$Text", "commands", "[LLogRaft$Command;", true)
  | 2 => ("LogRaft$Text", "count", "I", false)
  | _ => ("LogRaft$Text", "position", "I", false)
def tyX6 : Nat → FieldType := fun k => match k with
  | 0 => .object "java/lang/StringBuilder"
  | 1 => .array (.object "LogRaft$Command")
  | 2 => .int
  | _ => .int
theorem nmX6 : ∀ a, a < 4 → ∀ b, b < 4 → a ≠ b → (TX6 a).2.1 ≠ (TX6 b).2.1 := by decide +kernel
theorem tyX6_ok : ∀ k, k < 4 → parseFieldDescriptor (TX6 k).2.2.1 = some (tyX6 k) := by decide +kernel
abbrev cX6_init : ByteArray := prog_8_method_1_code
def yX6_init : MethodName := ⟨RX6, "<init>", "()V"⟩
abbrev cX6_size : ByteArray := prog_8_method_2_code
def yX6_size : MethodName := ⟨RX6, "size", "()I"⟩
abbrev cX6_add : ByteArray := prog_8_method_3_code
def yX6_add : MethodName := ⟨RX6, "add", "(C)Z"⟩
abbrev cX6_empty : ByteArray := prog_8_method_4_code
def yX6_empty : MethodName := ⟨RX6, "empty", "()V"⟩
abbrev cX6_parse : ByteArray := prog_8_method_5_code
def yX6_parse : MethodName := ⟨RX6, "parse", "()Z"⟩
abbrev cX6_takeCommand : ByteArray := prog_8_method_6_code
def yX6_takeCommand : MethodName := ⟨RX6, "takeCommand", "()Z"⟩
abbrev cX6_takeWord : ByteArray := prog_8_method_7_code
def yX6_takeWord : MethodName := ⟨RX6, "takeWord", "()LLogRaft$Word;"⟩
abbrev cX6_countFitting : ByteArray := prog_8_method_8_code
def yX6_countFitting : MethodName := ⟨RX6, "countFitting", "(Ljava/lang/String;)I"⟩
abbrev cX6_isHere : ByteArray := prog_8_method_9_code
def yX6_isHere : MethodName := ⟨RX6, "isHere", "(IC)Z"⟩
abbrev cX6_takeArguments : ByteArray := prog_8_method_10_code
def yX6_takeArguments : MethodName := ⟨RX6, "takeArguments", "(LLogRaft$Command;)Z"⟩
abbrev cX6_takeFirst : ByteArray := prog_8_method_11_code
def yX6_takeFirst : MethodName := ⟨RX6, "takeFirst", "(LLogRaft$Command;)Z"⟩
abbrev cX6_takeSecond : ByteArray := prog_8_method_12_code
def yX6_takeSecond : MethodName := ⟨RX6, "takeSecond", "(LLogRaft$Command;)Z"⟩
abbrev cX6_takeLetter : ByteArray := prog_8_method_13_code
def yX6_takeLetter : MethodName := ⟨RX6, "takeLetter", "(LLogRaft$Command;)Z"⟩
abbrev cX6_takeDigit : ByteArray := prog_8_method_14_code
def yX6_takeDigit : MethodName := ⟨RX6, "takeDigit", "()I"⟩
abbrev cX6_takeSign : ByteArray := prog_8_method_15_code
def yX6_takeSign : MethodName := ⟨RX6, "takeSign", "(C)Z"⟩
abbrev cX6_takeBetween : ByteArray := prog_8_method_16_code
def yX6_takeBetween : MethodName := ⟨RX6, "takeBetween", "(CC)I"⟩
def RX7 : String := "LogRaft$Word"
def TX7 : u_T := fun k => match k with
  | _ => ("", "", "", false)
def tyX7 : Nat → FieldType := fun k => match k with
  | _ => .int
theorem nmX7 : ∀ a, a < 0 → ∀ b, b < 0 → a ≠ b → (TX7 a).2.1 ≠ (TX7 b).2.1 := by decide +kernel
theorem tyX7_ok : ∀ k, k < 0 → parseFieldDescriptor (TX7 k).2.2.1 = some (tyX7 k) := by decide +kernel
def RX8 : String := "LogRaft"
def TX8 : u_T := fun k => match k with
  | 0 => ("LogRaft", "now", "LLogRaft$Raft;", true)
  | 1 => ("LogRaft", "spare", "LLogRaft$Raft;", true)
  | 2 => ("LogRaft", "saved", "LLogRaft$Raft;", true)
  | 3 => ("LogRaft", "past", "LLogRaft$Past;", true)
  | 4 => ("LogRaft", "reasons", "LLogRaft$Reasons;", true)
  | 5 => ("LogRaft", "text", "LLogRaft$Text;", true)
  | 6 => ("LogRaft", "writing", "Ljava/lang/StringBuilder;", true)
  | 7 => ("LogRaft", "isSaved", "Z", false)
  | _ => ("LogRaft", "faultAt", "I", false)
def tyX8 : Nat → FieldType := fun k => match k with
  | 0 => .object "LogRaft$Raft"
  | 1 => .object "LogRaft$Raft"
  | 2 => .object "LogRaft$Raft"
  | 3 => .object "LogRaft$Past"
  | 4 => .object "LogRaft$Reasons"
  | 5 => .object "LogRaft$Text"
  | 6 => .object "java/lang/StringBuilder"
  | 7 => .boolean
  | _ => .int
theorem nmX8 : ∀ a, a < 9 → ∀ b, b < 9 → a ≠ b → (TX8 a).2.1 ≠ (TX8 b).2.1 := by decide +kernel
theorem tyX8_ok : ∀ k, k < 9 → parseFieldDescriptor (TX8 k).2.2.1 = some (tyX8 k) := by decide +kernel
abbrev cX8_init : ByteArray := prog_1_method_1_code
def yX8_init : MethodName := ⟨RX8, "<init>", "()V"⟩
abbrev cX8_append : ByteArray := prog_1_method_3_code
def yX8_append : MethodName := ⟨RX8, "append", "(C)I"⟩
abbrev cX8_driver : ByteArray := prog_1_method_4_code
def yX8_driver : MethodName := ⟨RX8, "driver", "(I)I"⟩
abbrev cX8_ask : ByteArray := prog_1_method_5_code
def yX8_ask : MethodName := ⟨RX8, "ask", "(I)I"⟩
abbrev cX8_send : ByteArray := prog_1_method_6_code
def yX8_send : MethodName := ⟨RX8, "send", "(I)I"⟩
abbrev cX8_shout : ByteArray := prog_1_method_7_code
def yX8_shout : MethodName := ⟨RX8, "shout", "(IC)I"⟩
abbrev cX8_wash : ByteArray := prog_1_method_8_code
def yX8_wash : MethodName := ⟨RX8, "wash", "(I)I"⟩
abbrev cX8_back : ByteArray := prog_1_method_9_code
def yX8_back : MethodName := ⟨RX8, "back", "(I)I"⟩
abbrev cX8_cut : ByteArray := prog_1_method_10_code
def yX8_cut : MethodName := ⟨RX8, "cut", "(II)I"⟩
abbrev cX8_tie : ByteArray := prog_1_method_11_code
def yX8_tie : MethodName := ⟨RX8, "tie", "(II)I"⟩
abbrev cX8_beats : ByteArray := prog_1_method_12_code
def yX8_beats : MethodName := ⟨RX8, "beats", "(I)I"⟩
abbrev cX8_read : ByteArray := prog_1_method_13_code
def yX8_read : MethodName := ⟨RX8, "read", "()I"⟩
abbrev cX8_change : ByteArray := prog_1_method_14_code
def yX8_change : MethodName := ⟨RX8, "change", "(LLogRaft$Word;II)I"⟩
abbrev cX8_carryOut : ByteArray := prog_1_method_15_code
def yX8_carryOut : MethodName := ⟨RX8, "carryOut", "(LLogRaft$Word;II)I"⟩
abbrev cX8_letCome : ByteArray := prog_1_method_16_code
def yX8_letCome : MethodName := ⟨RX8, "letCome", "(I)I"⟩
abbrev cX8_letAsk : ByteArray := prog_1_method_17_code
def yX8_letAsk : MethodName := ⟨RX8, "letAsk", "(I)I"⟩
abbrev cX8_letSend : ByteArray := prog_1_method_18_code
def yX8_letSend : MethodName := ⟨RX8, "letSend", "(I)I"⟩
abbrev cX8_letShout : ByteArray := prog_1_method_19_code
def yX8_letShout : MethodName := ⟨RX8, "letShout", "(II)I"⟩
abbrev cX8_washAway : ByteArray := prog_1_method_20_code
def yX8_washAway : MethodName := ⟨RX8, "washAway", "(I)I"⟩
abbrev cX8_bringBack : ByteArray := prog_1_method_21_code
def yX8_bringBack : MethodName := ⟨RX8, "bringBack", "(I)I"⟩
abbrev cX8_changeRope : ByteArray := prog_1_method_22_code
def yX8_changeRope : MethodName := ⟨RX8, "changeRope", "(IIZ)I"⟩
abbrev cX8_refuse : ByteArray := prog_1_method_23_code
def yX8_refuse : MethodName := ⟨RX8, "refuse", "(II)I"⟩
abbrev cX8_refuseCommand : ByteArray := prog_1_method_24_code
def yX8_refuseCommand : MethodName := ⟨RX8, "refuseCommand", "(II)I"⟩
abbrev cX8_driverOf : ByteArray := prog_1_method_27_code
def yX8_driverOf : MethodName := ⟨RX8, "driverOf", "(II)I"⟩
abbrev cX8_lineOf : ByteArray := prog_1_method_28_code
def yX8_lineOf : MethodName := ⟨RX8, "lineOf", "(IIZ)I"⟩
abbrev cX8_leader : ByteArray := prog_1_method_29_code
def yX8_leader : MethodName := ⟨RX8, "leader", "()I"⟩
abbrev cX8_reaches : ByteArray := prog_1_method_30_code
def yX8_reaches : MethodName := ⟨RX8, "reaches", "(II)Z"⟩
abbrev cX8_couldLead : ByteArray := prog_1_method_32_code
def yX8_couldLead : MethodName := ⟨RX8, "couldLead", "(I)I"⟩
abbrev cX8_couldLeadAgain : ByteArray := prog_1_method_33_code
def yX8_couldLeadAgain : MethodName := ⟨RX8, "couldLeadAgain", "(I)I"⟩
abbrev cX8_codeOfAsking : ByteArray := prog_1_method_34_code
def yX8_codeOfAsking : MethodName := ⟨RX8, "codeOfAsking", "(I)I"⟩
abbrev cX8_longer : ByteArray := prog_1_method_35_code
def yX8_longer : MethodName := ⟨RX8, "longer", "(II)I"⟩
abbrev cX8_alike : ByteArray := prog_1_method_36_code
def yX8_alike : MethodName := ⟨RX8, "alike", "(II)I"⟩
abbrev cX8_agreed : ByteArray := prog_1_method_38_code
def yX8_agreed : MethodName := ⟨RX8, "agreed", "()I"⟩
abbrev cX8_agreedAgain : ByteArray := prog_1_method_39_code
def yX8_agreedAgain : MethodName := ⟨RX8, "agreedAgain", "()I"⟩
abbrev cX8_conflicts : ByteArray := prog_1_method_40_code
def yX8_conflicts : MethodName := ⟨RX8, "conflicts", "()I"⟩
abbrev cX8_isSafe : ByteArray := prog_1_method_41_code
def yX8_isSafe : MethodName := ⟨RX8, "isSafe", "()I"⟩
abbrev cX8_quietBeats : ByteArray := prog_1_method_44_code
def yX8_quietBeats : MethodName := ⟨RX8, "quietBeats", "()I"⟩
abbrev cX8_account : ByteArray := prog_1_method_50_code
def yX8_account : MethodName := ⟨RX8, "account", "(I)I"⟩
abbrev cX8_undo : ByteArray := prog_1_method_51_code
def yX8_undo : MethodName := ⟨RX8, "undo", "()I"⟩
abbrev cX8_save : ByteArray := prog_1_method_52_code
def yX8_save : MethodName := ⟨RX8, "save", "()I"⟩
abbrev cX8_restore : ByteArray := prog_1_method_53_code
def yX8_restore : MethodName := ⟨RX8, "restore", "()I"⟩
def RX9 : String := "LogRaftModel"
def TX9 : u_T := fun k => match k with
  | _ => ("", "", "", false)
def tyX9 : Nat → FieldType := fun k => match k with
  | _ => .int
theorem nmX9 : ∀ a, a < 0 → ∀ b, b < 0 → a ≠ b → (TX9 a).2.1 ≠ (TX9 b).2.1 := by decide +kernel
theorem tyX9_ok : ∀ k, k < 0 → parseFieldDescriptor (TX9 k).2.2.1 = some (tyX9 k) := by decide +kernel
def RJ5 : String := "java/lang/AbstractStringBuilder"
def TJ5 : u_T := fun k => match k with
  | _ => ("", "", "", false)
def tyJ5 : Nat → FieldType := fun k => match k with
  | _ => .int
theorem nmJ5 : ∀ a, a < 0 → ∀ b, b < 0 → a ≠ b → (TJ5 a).2.1 ≠ (TJ5 b).2.1 := by decide +kernel
theorem tyJ5_ok : ∀ k, k < 0 → parseFieldDescriptor (TJ5 k).2.2.1 = some (tyJ5 k) := by decide +kernel
abbrev cJ5_init_d00df : ByteArray := prog_12_method_2_code
def yJ5_init_d00df : MethodName := ⟨RJ5, "<init>", "(I)V"⟩
abbrev cJ5_length_8abf5 : ByteArray := prog_12_method_6_code
def yJ5_length_8abf5 : MethodName := ⟨RJ5, "length", "()I"⟩
abbrev cJ5_ensureCapacityInternal_d00df : ByteArray := prog_12_method_9_code
def yJ5_ensureCapacityInternal_d00df : MethodName := ⟨RJ5, "ensureCapacityInternal", "(I)V"⟩
abbrev cJ5_newCapacity_0f7a4 : ByteArray := prog_12_method_10_code
def yJ5_newCapacity_0f7a4 : MethodName := ⟨RJ5, "newCapacity", "(I)I"⟩
abbrev cJ5_inflate_da8c8 : ByteArray := prog_12_method_11_code
def yJ5_inflate_da8c8 : MethodName := ⟨RJ5, "inflate", "()V"⟩
abbrev cJ5_setLength_d00df : ByteArray := prog_12_method_13_code
def yJ5_setLength_d00df : MethodName := ⟨RJ5, "setLength", "(I)V"⟩
abbrev cJ5_charAt_5068e : ByteArray := prog_12_method_14_code
def yJ5_charAt_5068e : MethodName := ⟨RJ5, "charAt", "(I)C"⟩
abbrev cJ5_append_cf1ce : ByteArray := prog_12_method_22_code
def yJ5_append_cf1ce : MethodName := ⟨RJ5, "append", "(Ljava/lang/String;)Ljava/lang/AbstractStringBuilder;"⟩
abbrev cJ5_appendNull_278bc : ByteArray := prog_12_method_26_code
def yJ5_appendNull_278bc : MethodName := ⟨RJ5, "appendNull", "()Ljava/lang/AbstractStringBuilder;"⟩
abbrev cJ5_append_3fe6f : ByteArray := prog_12_method_31_code
def yJ5_append_3fe6f : MethodName := ⟨RJ5, "append", "(C)Ljava/lang/AbstractStringBuilder;"⟩
abbrev cJ5_append_c97b9 : ByteArray := prog_12_method_32_code
def yJ5_append_c97b9 : MethodName := ⟨RJ5, "append", "(I)Ljava/lang/AbstractStringBuilder;"⟩
abbrev cJ5_getValue_6d5f1 : ByteArray := prog_12_method_64_code
def yJ5_getValue_6d5f1 : MethodName := ⟨RJ5, "getValue", "()[B"⟩
abbrev cJ5_isLatin1_aae02 : ByteArray := prog_12_method_68_code
def yJ5_isLatin1_aae02 : MethodName := ⟨RJ5, "isLatin1", "()Z"⟩
abbrev cJ5_inflateIfNeededFor_a7421 : ByteArray := prog_12_method_71_code
def yJ5_inflateIfNeededFor_a7421 : MethodName := ⟨RJ5, "inflateIfNeededFor", "(Ljava/lang/String;)V"⟩
abbrev cJ5_putStringAt_47b60 : ByteArray := prog_12_method_73_code
def yJ5_putStringAt_47b60 : MethodName := ⟨RJ5, "putStringAt", "(ILjava/lang/String;)V"⟩
def RJx8e188 : String := "java/lang/Cloneable"
def TJx8e188 : u_T := fun k => match k with
  | _ => ("", "", "", false)
def tyJx8e188 : Nat → FieldType := fun k => match k with
  | _ => .int
theorem nmJx8e188 : ∀ a, a < 0 → ∀ b, b < 0 → a ≠ b → (TJx8e188 a).2.1 ≠ (TJx8e188 b).2.1 := by decide +kernel
theorem tyJx8e188_ok : ∀ k, k < 0 → parseFieldDescriptor (TJx8e188 k).2.2.1 = some (tyJx8e188 k) := by decide +kernel
def RJx29ce0 : String := "java/lang/Enum"
def TJx29ce0 : u_T := fun k => match k with
  | _ => ("", "", "", false)
def tyJx29ce0 : Nat → FieldType := fun k => match k with
  | _ => .int
theorem nmJx29ce0 : ∀ a, a < 0 → ∀ b, b < 0 → a ≠ b → (TJx29ce0 a).2.1 ≠ (TJx29ce0 b).2.1 := by decide +kernel
theorem tyJx29ce0_ok : ∀ k, k < 0 → parseFieldDescriptor (TJx29ce0 k).2.2.1 = some (tyJx29ce0 k) := by decide +kernel
abbrev cJx29ce0_ordinal_8abf5 : ByteArray := prog_14_method_2_code
def yJx29ce0_ordinal_8abf5 : MethodName := ⟨RJx29ce0, "ordinal", "()I"⟩
def RJ6 : String := "java/lang/Integer"
def TJ6 : u_T := fun k => match k with
  | _ => ("", "", "", false)
def tyJ6 : Nat → FieldType := fun k => match k with
  | _ => .int
theorem nmJ6 : ∀ a, a < 0 → ∀ b, b < 0 → a ≠ b → (TJ6 a).2.1 ≠ (TJ6 b).2.1 := by decide +kernel
theorem tyJ6_ok : ∀ k, k < 0 → parseFieldDescriptor (TJ6 k).2.2.1 = some (tyJ6 k) := by decide +kernel
abbrev cJ6_getChars_ba4f3 : ByteArray := prog_15_method_12_code
def yJ6_getChars_ba4f3 : MethodName := ⟨RJ6, "getChars", "(II[B)I"⟩
abbrev cJ6_stringSize_0f7a4 : ByteArray := prog_15_method_13_code
def yJ6_stringSize_0f7a4 : MethodName := ⟨RJ6, "stringSize", "(I)I"⟩
def RJ9 : String := "java/lang/Math"
def TJ9 : u_T := fun k => match k with
  | _ => ("", "", "", false)
def tyJ9 : Nat → FieldType := fun k => match k with
  | _ => .int
theorem nmJ9 : ∀ a, a < 0 → ∀ b, b < 0 → a ≠ b → (TJ9 a).2.1 ≠ (TJ9 b).2.1 := by decide +kernel
theorem tyJ9_ok : ∀ k, k < 0 → parseFieldDescriptor (TJ9 k).2.2.1 = some (tyJ9 k) := by decide +kernel
abbrev cJ9_max_7cf53 : ByteArray := prog_16_method_65_code
def yJ9_max_7cf53 : MethodName := ⟨RJ9, "max", "(II)I"⟩
abbrev cJ9_min_7cf53 : ByteArray := prog_16_method_69_code
def yJ9_min_7cf53 : MethodName := ⟨RJ9, "min", "(II)I"⟩
def RJ0 : String := "java/lang/String"
def TJ0 : u_T := fun k => match k with
  | 0 => ("java/lang/String", "value", "[B", true)
  | 1 => ("java/lang/String", "coder", "B", true)
  | 2 => ("java/lang/String", "hash", "I", false)
  | _ => ("java/lang/String", "hashIsZero", "Z", false)
def tyJ0 : Nat → FieldType := fun k => match k with
  | 0 => .array .byte
  | 1 => .byte
  | 2 => .int
  | _ => .boolean
theorem nmJ0 : ∀ a, a < 4 → ∀ b, b < 4 → a ≠ b → (TJ0 a).2.1 ≠ (TJ0 b).2.1 := by decide +kernel
theorem tyJ0_ok : ∀ k, k < 4 → parseFieldDescriptor (TJ0 k).2.2.1 = some (tyJ0 k) := by decide +kernel
abbrev cJ0_init_81219 : ByteArray := prog_17_method_53_code
def yJ0_init_81219 : MethodName := ⟨RJ0, "<init>", "(Ljava/lang/StringBuilder;)V"⟩
abbrev cJ0_length_8abf5 : ByteArray := prog_17_method_54_code
def yJ0_length_8abf5 : MethodName := ⟨RJ0, "length", "()I"⟩
abbrev cJ0_charAt_5068e : ByteArray := prog_17_method_56_code
def yJ0_charAt_5068e : MethodName := ⟨RJ0, "charAt", "(I)C"⟩
abbrev cJ0_getBytes_840e7 : ByteArray := prog_17_method_147_code
def yJ0_getBytes_840e7 : MethodName := ⟨RJ0, "getBytes", "([BIB)V"⟩
abbrev cJ0_init_db425 : ByteArray := prog_17_method_150_code
def yJ0_init_db425 : MethodName := ⟨RJ0, "<init>", "(Ljava/lang/AbstractStringBuilder;Ljava/lang/Void;)V"⟩
abbrev cJ0_coder_7d493 : ByteArray := prog_17_method_152_code
def yJ0_coder_7d493 : MethodName := ⟨RJ0, "coder", "()B"⟩
abbrev cJ0_isLatin1_aae02 : ByteArray := prog_17_method_154_code
def yJ0_isLatin1_aae02 : MethodName := ⟨RJ0, "isLatin1", "()Z"⟩
abbrev cJ0_checkIndex_df160 : ByteArray := prog_17_method_155_code
def yJ0_checkIndex_df160 : MethodName := ⟨RJ0, "checkIndex", "(II)V"⟩
abbrev cJ0_checkBoundsOffCount_cabcc : ByteArray := prog_17_method_157_code
def yJ0_checkBoundsOffCount_cabcc : MethodName := ⟨RJ0, "checkBoundsOffCount", "(III)I"⟩
abbrev cJ0_checkBoundsBeginEnd_23922 : ByteArray := prog_17_method_158_code
def yJ0_checkBoundsBeginEnd_23922 : MethodName := ⟨RJ0, "checkBoundsBeginEnd", "(III)V"⟩
def RJ4 : String := "java/lang/StringBuilder"
def TJ4 : u_T := fun k => match k with
  | 0 => ("java/lang/AbstractStringBuilder", "value", "[B", false)
  | 1 => ("java/lang/AbstractStringBuilder", "coder", "B", false)
  | 2 => ("java/lang/AbstractStringBuilder", "maybeLatin1", "Z", false)
  | _ => ("java/lang/AbstractStringBuilder", "count", "I", false)
def tyJ4 : Nat → FieldType := fun k => match k with
  | 0 => .array .byte
  | 1 => .byte
  | 2 => .boolean
  | _ => .int
theorem nmJ4 : ∀ a, a < 4 → ∀ b, b < 4 → a ≠ b → (TJ4 a).2.1 ≠ (TJ4 b).2.1 := by decide +kernel
theorem tyJ4_ok : ∀ k, k < 4 → parseFieldDescriptor (TJ4 k).2.2.1 = some (tyJ4 k) := by decide +kernel
abbrev cJ4_init_da8c8 : ByteArray := prog_18_method_1_code
def yJ4_init_da8c8 : MethodName := ⟨RJ4, "<init>", "()V"⟩
abbrev cJ4_append_15ec4 : ByteArray := prog_18_method_7_code
def yJ4_append_15ec4 : MethodName := ⟨RJ4, "append", "(Ljava/lang/String;)Ljava/lang/StringBuilder;"⟩
abbrev cJ4_append_cf468 : ByteArray := prog_18_method_14_code
def yJ4_append_cf468 : MethodName := ⟨RJ4, "append", "(C)Ljava/lang/StringBuilder;"⟩
abbrev cJ4_append_bf812 : ByteArray := prog_18_method_15_code
def yJ4_append_bf812 : MethodName := ⟨RJ4, "append", "(I)Ljava/lang/StringBuilder;"⟩
abbrev cJ4_toString_0e30d : ByteArray := prog_18_method_42_code
def yJ4_toString_0e30d : MethodName := ⟨RJ4, "toString", "()Ljava/lang/String;"⟩
abbrev cJ4_charAt_5068e : ByteArray := prog_18_method_88_code
def yJ4_charAt_5068e : MethodName := ⟨RJ4, "charAt", "(I)C"⟩
abbrev cJ4_setLength_d00df : ByteArray := prog_18_method_89_code
def yJ4_setLength_d00df : MethodName := ⟨RJ4, "setLength", "(I)V"⟩
abbrev cJ4_length_8abf5 : ByteArray := prog_18_method_93_code
def yJ4_length_8abf5 : MethodName := ⟨RJ4, "length", "()I"⟩
def RJ1 : String := "java/lang/StringLatin1"
def TJ1 : u_T := fun k => match k with
  | _ => ("", "", "", false)
def tyJ1 : Nat → FieldType := fun k => match k with
  | _ => .int
theorem nmJ1 : ∀ a, a < 0 → ∀ b, b < 0 → a ≠ b → (TJ1 a).2.1 ≠ (TJ1 b).2.1 := by decide +kernel
theorem tyJ1_ok : ∀ k, k < 0 → parseFieldDescriptor (TJ1 k).2.2.1 = some (tyJ1 k) := by decide +kernel
abbrev cJ1_charAt_3b067 : ByteArray := prog_19_method_2_code
def yJ1_charAt_3b067 : MethodName := ⟨RJ1, "charAt", "([BI)C"⟩
abbrev cJ1_canEncode_fc78d : ByteArray := prog_19_method_3_code
def yJ1_canEncode_fc78d : MethodName := ⟨RJ1, "canEncode", "(C)Z"⟩
abbrev cJ1_fillNull_b72d1 : ByteArray := prog_19_method_48_code
def yJ1_fillNull_b72d1 : MethodName := ⟨RJ1, "fillNull", "([BII)V"⟩
abbrev cJ1_inflate_0e8fd : ByteArray := prog_19_method_50_code
def yJ1_inflate_0e8fd : MethodName := ⟨RJ1, "inflate", "([BI[BII)V"⟩
def RJ2 : String := "java/lang/StringUTF16"
def TJ2 : u_T := fun k => match k with
  | _ => ("", "", "", false)
def tyJ2 : Nat → FieldType := fun k => match k with
  | _ => .int
theorem nmJ2 : ∀ a, a < 0 → ∀ b, b < 0 → a ≠ b → (TJ2 a).2.1 ≠ (TJ2 b).2.1 := by decide +kernel
theorem tyJ2_ok : ∀ k, k < 0 → parseFieldDescriptor (TJ2 k).2.2.1 = some (tyJ2 k) := by decide +kernel
abbrev cJ2_newBytesFor_77867 : ByteArray := prog_20_method_2_code
def yJ2_newBytesFor_77867 : MethodName := ⟨RJ2, "newBytesFor", "(I)[B"⟩
abbrev cJ2_newBytesLength_0f7a4 : ByteArray := prog_20_method_3_code
def yJ2_newBytesLength_0f7a4 : MethodName := ⟨RJ2, "newBytesLength", "(I)I"⟩
abbrev cJ2_putChar_b72d1 : ByteArray := prog_20_method_4_code
def yJ2_putChar_b72d1 : MethodName := ⟨RJ2, "putChar", "([BII)V"⟩
abbrev cJ2_getChar_3b067 : ByteArray := prog_20_method_5_code
def yJ2_getChar_3b067 : MethodName := ⟨RJ2, "getChar", "([BI)C"⟩
abbrev cJ2_length_9d52b : ByteArray := prog_20_method_6_code
def yJ2_length_9d52b : MethodName := ⟨RJ2, "length", "([B)I"⟩
abbrev cJ2_coderFromArrayLen_85cad : ByteArray := prog_20_method_15_code
def yJ2_coderFromArrayLen_85cad : MethodName := ⟨RJ2, "coderFromArrayLen", "([BI)B"⟩
abbrev cJ2_compress_39247 : ByteArray := prog_20_method_17_code
def yJ2_compress_39247 : MethodName := ⟨RJ2, "compress", "([BII)[B"⟩
abbrev cJ2_compress_5af95 : ByteArray := prog_20_method_22_code
def yJ2_compress_5af95 : MethodName := ⟨RJ2, "compress", "([BI[BII)I"⟩
abbrev cJ2_fillNull_b72d1 : ByteArray := prog_20_method_70_code
def yJ2_fillNull_b72d1 : MethodName := ⟨RJ2, "fillNull", "([BII)V"⟩
abbrev cJ2_putCharSB_b72d1 : ByteArray := prog_20_method_71_code
def yJ2_putCharSB_b72d1 : MethodName := ⟨RJ2, "putCharSB", "([BII)V"⟩
abbrev cJ2_getChars_46870 : ByteArray := prog_20_method_77_code
def yJ2_getChars_46870 : MethodName := ⟨RJ2, "getChars", "(III[B)I"⟩
abbrev cJ2_putCharsAt_cd4e5 : ByteArray := prog_20_method_81_code
def yJ2_putCharsAt_cd4e5 : MethodName := ⟨RJ2, "putCharsAt", "([BICCCC)I"⟩
abbrev cJ2_charAt_3b067 : ByteArray := prog_20_method_83_code
def yJ2_charAt_3b067 : MethodName := ⟨RJ2, "charAt", "([BI)C"⟩
abbrev cJ2_inflate_0e8fd : ByteArray := prog_20_method_86_code
def yJ2_inflate_0e8fd : MethodName := ⟨RJ2, "inflate", "([BI[BII)V"⟩
abbrev cJ2_getChars_ba4f3 : ByteArray := prog_20_method_89_code
def yJ2_getChars_ba4f3 : MethodName := ⟨RJ2, "getChars", "(II[B)I"⟩
abbrev cJ2_checkIndex_2214a : ByteArray := prog_20_method_91_code
def yJ2_checkIndex_2214a : MethodName := ⟨RJ2, "checkIndex", "(I[B)V"⟩
abbrev cJ2_checkBoundsBeginEnd_d044e : ByteArray := prog_20_method_93_code
def yJ2_checkBoundsBeginEnd_d044e : MethodName := ⟨RJ2, "checkBoundsBeginEnd", "(II[B)V"⟩
abbrev cJ2_checkBoundsOffCount_d044e : ByteArray := prog_20_method_94_code
def yJ2_checkBoundsOffCount_d044e : MethodName := ⟨RJ2, "checkBoundsOffCount", "(II[B)V"⟩
def RJ10 : String := "java/lang/System"
def TJ10 : u_T := fun k => match k with
  | _ => ("", "", "", false)
def tyJ10 : Nat → FieldType := fun k => match k with
  | _ => .int
theorem nmJ10 : ∀ a, a < 0 → ∀ b, b < 0 → a ≠ b → (TJ10 a).2.1 ≠ (TJ10 b).2.1 := by decide +kernel
theorem tyJ10_ok : ∀ k, k < 0 → parseFieldDescriptor (TJ10 k).2.2.1 = some (tyJ10 k) := by decide +kernel
def RJ7 : String := "java/util/Arrays"
def TJ7 : u_T := fun k => match k with
  | _ => ("", "", "", false)
def tyJ7 : Nat → FieldType := fun k => match k with
  | _ => .int
theorem nmJ7 : ∀ a, a < 0 → ∀ b, b < 0 → a ≠ b → (TJ7 a).2.1 ≠ (TJ7 b).2.1 := by decide +kernel
theorem tyJ7_ok : ∀ k, k < 0 → parseFieldDescriptor (TJ7 k).2.2.1 = some (tyJ7 k) := by decide +kernel
abbrev cJ7_rangeCheck_23922 : ByteArray := prog_22_method_30_code
def yJ7_rangeCheck_23922 : MethodName := ⟨RJ7, "rangeCheck", "(III)V"⟩
abbrev cJ7_fill_eb02e : ByteArray := prog_22_method_110_code
def yJ7_fill_eb02e : MethodName := ⟨RJ7, "fill", "([BIIB)V"⟩
abbrev cJ7_copyOf_9075b : ByteArray := prog_22_method_121_code
def yJ7_copyOf_9075b : MethodName := ⟨RJ7, "copyOf", "([BI)[B"⟩
abbrev cJ7_checkLength_df160 : ByteArray := prog_22_method_131_code
def yJ7_checkLength_df160 : MethodName := ⟨RJ7, "checkLength", "(II)V"⟩
abbrev cJ7_copyOfRange_39247 : ByteArray := prog_22_method_132_code
def yJ7_copyOfRange_39247 : MethodName := ⟨RJ7, "copyOfRange", "([BII)[B"⟩
abbrev cJ7_copyOfRangeByte_39247 : ByteArray := prog_22_method_133_code
def yJ7_copyOfRangeByte_39247 : MethodName := ⟨RJ7, "copyOfRangeByte", "([BII)[B"⟩
def RJ8 : String := "jdk/internal/util/ArraysSupport"
def TJ8 : u_T := fun k => match k with
  | _ => ("", "", "", false)
def tyJ8 : Nat → FieldType := fun k => match k with
  | _ => .int
theorem nmJ8 : ∀ a, a < 0 → ∀ b, b < 0 → a ≠ b → (TJ8 a).2.1 ≠ (TJ8 b).2.1 := by decide +kernel
theorem tyJ8_ok : ∀ k, k < 0 → parseFieldDescriptor (TJ8 k).2.2.1 = some (tyJ8 k) := by decide +kernel
abbrev cJ8_newLength_cabcc : ByteArray := prog_23_method_27_code
def yJ8_newLength_cabcc : MethodName := ⟨RJ8, "newLength", "(III)I"⟩
abbrev cJ8_hugeLength_7cf53 : ByteArray := prog_23_method_28_code
def yJ8_hugeLength_7cf53 : MethodName := ⟨RJ8, "hugeLength", "(II)I"⟩
def RJ3 : String := "jdk/internal/util/Preconditions"
def TJ3 : u_T := fun k => match k with
  | _ => ("", "", "", false)
def tyJ3 : Nat → FieldType := fun k => match k with
  | _ => .int
theorem nmJ3 : ∀ a, a < 0 → ∀ b, b < 0 → a ≠ b → (TJ3 a).2.1 ≠ (TJ3 b).2.1 := by decide +kernel
theorem tyJ3_ok : ∀ k, k < 0 → parseFieldDescriptor (TJ3 k).2.2.1 = some (tyJ3 k) := by decide +kernel
abbrev cJ3_checkIndex_8e157 : ByteArray := prog_24_method_11_code
def yJ3_checkIndex_8e157 : MethodName := ⟨RJ3, "checkIndex", "(IILjava/util/function/BiFunction;)I"⟩
abbrev cJ3_checkFromToIndex_8c36e : ByteArray := prog_24_method_12_code
def yJ3_checkFromToIndex_8c36e : MethodName := ⟨RJ3, "checkFromToIndex", "(IIILjava/util/function/BiFunction;)I"⟩
abbrev cJ3_checkFromIndexSize_8c36e : ByteArray := prog_24_method_13_code
def yJ3_checkFromIndexSize_8c36e : MethodName := ⟨RJ3, "checkFromIndexSize", "(IIILjava/util/function/BiFunction;)I"⟩
def RL : String := "LogRaftLaw"
abbrev cL_cell : ByteArray := method_2_code
def yL_cell : MethodName := ⟨RL, "cell", "([II)I"⟩
abbrev cL_in : ByteArray := method_3_code
def yL_in : MethodName := ⟨RL, "in", "([III)I"⟩
abbrev cL_reads : ByteArray := method_4_code
def yL_reads : MethodName := ⟨RL, "reads", "(LLogRaft;Ljava/lang/String;)I"⟩
abbrev cL_begun : ByteArray := method_5_code
def yL_begun : MethodName := ⟨RL, "begun", "([I)LLogRaft;"⟩
abbrev cL_does : ByteArray := method_6_code
def yL_does : MethodName := ⟨RL, "does", "(LLogRaft;[II)I"⟩
abbrev cL_seen : ByteArray := method_7_code
def yL_seen : MethodName := ⟨RL, "seen", "(LLogRaft;)[I"⟩
abbrev cL_areAlike : ByteArray := method_8_code
def yL_areAlike : MethodName := ⟨RL, "areAlike", "([I[I)Z"⟩
abbrev cL_isWell : ByteArray := method_9_code
def yL_isWell : MethodName := ⟨RL, "isWell", "(LLogRaft;)Z"⟩
abbrev cL_law : ByteArray := code
def yL_law : MethodName := ⟨RL, "law", "([I)Z"⟩
abbrev vwCl : List vw_C := [(RJ4, TJ4, 4), (RX1, TX1, 3), (RX2, TX2, 12), (RX3, TX3, 3), (RX4, TX4, 10), (RX5, TX5, 4), (RX6, TX6, 4), (RX8, TX8, 9), (RJ0, TJ0, 4)]
