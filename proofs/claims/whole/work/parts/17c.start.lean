/-! ===== what the Statement gives of the start ===== -/
def gFL : List Cond := flatC (Jvm.Cond.and given_1 narrow_1)
def wSx : List Nat := [55, 61, 64, 67, 70, 73, 76, 79, 82]
abbrev tmS (i : Nat) : Term := .string "LogRaftModel" (191 + 2 * i)
abbrev tmW (i : Nat) : Term := .string "LogRaft$Word" (wSx.getD i 0)
abbrev tmE (i : Nat) : Term := .static "LogRaft$Word" (wNm.getD i "") "LLogRaft$Word;"
theorem g_at {n : Nat} {w : Cond} (h : gFL[n]? = some w) : w ∈ gFL := List.mem_of_getElem? h
set_option maxRecDepth 100000 in
theorem m_sx : ∀ i, i < 9 → gFL[([334, 345, 354, 365, 378, 391, 405, 419, 434] : List Nat).getD i 0]? = some (Cond.exactly (tmS i) "java/lang/String") := by decide +kernel
set_option maxRecDepth 100000 in
theorem m_sc : ∀ i, i < 9 → gFL[([335, 346, 355, 366, 379, 392, 406, 420, 435] : List Nat).getD i 0]? = some (Cond.eq (.field (tmS i) "java/lang/String" "coder" "B") (.int 0)) := by decide +kernel
set_option maxRecDepth 100000 in
theorem m_sa : ∀ i, i < 9 → gFL[([336, 347, 356, 367, 380, 393, 407, 421, 436] : List Nat).getD i 0]? = some (Cond.arrayOf (.field (tmS i) "java/lang/String" "value" "[B") .byte) := by decide +kernel
set_option maxRecDepth 100000 in
theorem m_sl : ∀ i, i < 9 → gFL[([337, 348, 357, 368, 381, 394, 408, 422, 437] : List Nat).getD i 0]? = some (Cond.eq (.length (.field (tmS i) "java/lang/String" "value" "[B")) (.int (Int32.ofNat (wLen.getD i 0)))) := by decide +kernel
set_option maxRecDepth 100000 in
theorem m_se : ∀ i, i < 9 → ∀ j, j < wLen.getD i 0 → gFL[([338, 349, 358, 369, 382, 395, 409, 423, 438] : List Nat).getD i 0 + j]? = some (Cond.eq (.elem (.field (tmS i) "java/lang/String" "value" "[B") (.int (Int32.ofNat j))) (.int ((wByt.getD i []).getD j 0))) := by decide +kernel
set_option maxRecDepth 100000 in
theorem m_sn : ∀ i, i < 9 → ∀ j, j < 9 → i < j → gFL[([0, 353, 363, 375, 387, 400, 413, 427, 442, 0, 0, 364, 376, 388, 401, 414, 428, 443, 0, 0, 0, 377, 389, 402, 415, 429, 444, 0, 0, 0, 0, 390, 403, 416, 430, 445, 0, 0, 0, 0, 0, 404, 417, 431, 446, 0, 0, 0, 0, 0, 0, 418, 432, 447, 0, 0, 0, 0, 0, 0, 0, 433, 448, 0, 0, 0, 0, 0, 0, 0, 0, 449, 0, 0, 0, 0, 0, 0, 0, 0, 0] : List Nat).getD (9 * i + j) 0]? = some (Cond.not (.eq (tmS i) (tmS j))) := by decide +kernel
set_option maxRecDepth 100000 in
theorem m_sw : ∀ i, i < 9 → gFL[([461, 479, 499, 521, 543, 566, 589, 613, 638] : List Nat).getD i 0]? = some (Cond.eq (tmS i) (tmW i)) := by decide +kernel
set_option maxRecDepth 100000 in
theorem m_ex : ∀ i, i < 9 → gFL[([9, 24, 28, 33, 39, 46, 54, 63, 73] : List Nat).getD i 0]? = some (Cond.exactly (tmE i) "LogRaft$Word") := by decide +kernel
set_option maxRecDepth 100000 in
theorem m_eo : ∀ i, i < 9 → gFL[([10, 25, 29, 34, 40, 47, 55, 64, 74] : List Nat).getD i 0]? = some (Cond.eq (.field (tmE i) "java/lang/Enum" "ordinal" "I") (.int (([0, 1, 2, 3, 4, 5, 6, 7, 8] : List Int32).getD i 0))) := by decide +kernel
set_option maxRecDepth 100000 in
theorem m_es : ∀ i, i < 9 → gFL[([11, 26, 30, 35, 41, 48, 56, 65, 75] : List Nat).getD i 0]? = some (Cond.eq (.field (tmE i) "LogRaft$Word" "signs" "Ljava/lang/String;") (tmW i)) := by decide +kernel
set_option maxRecDepth 100000 in
theorem m_en : ∀ i, i < 9 → ∀ j, j < 9 → i < j → gFL[([0, 27, 31, 36, 42, 49, 57, 66, 76, 0, 0, 32, 37, 43, 50, 58, 67, 77, 0, 0, 0, 38, 44, 51, 59, 68, 78, 0, 0, 0, 0, 45, 52, 60, 69, 79, 0, 0, 0, 0, 0, 53, 61, 70, 80, 0, 0, 0, 0, 0, 0, 62, 71, 81, 0, 0, 0, 0, 0, 0, 0, 72, 82, 0, 0, 0, 0, 0, 0, 0, 0, 83, 0, 0, 0, 0, 0, 0, 0, 0, 0] : List Nat).getD (9 * i + j) 0]? = some (Cond.not (.eq (tmE i) (tmE j))) := by decide +kernel
set_option maxRecDepth 100000 in
theorem m_we : ∀ i, i < 9 → gFL[([89, 90, 91, 92, 93, 94, 95, 96, 97] : List Nat).getD i 0]? = some (Cond.eq (.elem (.static "LogRaft" "WORDS" "[LLogRaft$Word;") (.int (Int32.ofNat i))) (tmE i)) := by decide +kernel
set_option maxRecDepth 100000 in
theorem m_wa : gFL[86]? = some (Cond.arrayOf (.static "LogRaft" "WORDS" "[LLogRaft$Word;") (.object "LogRaft$Word")) := by decide +kernel
set_option maxRecDepth 100000 in
theorem m_wl : gFL[87]? = some (Cond.eq (.length (.static "LogRaft" "WORDS" "[LLogRaft$Word;")) (.int (Int32.ofNat 9))) := by decide +kernel
set_option maxRecDepth 100000 in
theorem m_me : ∀ i, i < 9 → gFL[([15, 16, 17, 18, 19, 20, 21, 22, 23] : List Nat).getD i 0]? = some (Cond.eq (.elem (.static "LogRaft$1" "$SwitchMap$LogRaft$Word" "[I") (.int (Int32.ofNat i))) (.int (Int32.ofNat (i + 1)))) := by decide +kernel
set_option maxRecDepth 100000 in
theorem m_ma : gFL[13]? = some (Cond.arrayOf (.static "LogRaft$1" "$SwitchMap$LogRaft$Word" "[I") .int) := by decide +kernel
set_option maxRecDepth 100000 in
theorem m_ml : gFL[14]? = some (Cond.eq (.length (.static "LogRaft$1" "$SwitchMap$LogRaft$Word" "[I")) (.int (Int32.ofNat 9))) := by decide +kernel
set_option maxRecDepth 100000 in
theorem m_oe : (List.range 100).map (fun j => Cond.eq (.elem (.static "java/lang/Integer" "DigitOnes" "[B") (.int (Int32.ofNat j))) (.int (dgO j))) = (gFL.drop 101).take 100 := by decide +kernel
set_option maxRecDepth 100000 in
theorem m_oa : gFL[99]? = some (Cond.arrayOf (.static "java/lang/Integer" "DigitOnes" "[B") .byte) := by decide +kernel
set_option maxRecDepth 100000 in
theorem m_ol : gFL[100]? = some (Cond.eq (.length (.static "java/lang/Integer" "DigitOnes" "[B")) (.int (Int32.ofNat 100))) := by decide +kernel
set_option maxRecDepth 100000 in
theorem m_te : (List.range 100).map (fun j => Cond.eq (.elem (.static "java/lang/Integer" "DigitTens" "[B") (.int (Int32.ofNat j))) (.int (dgT j))) = (gFL.drop 204).take 100 := by decide +kernel
set_option maxRecDepth 100000 in
theorem m_ta : gFL[202]? = some (Cond.arrayOf (.static "java/lang/Integer" "DigitTens" "[B") .byte) := by decide +kernel
set_option maxRecDepth 100000 in
theorem m_tl : gFL[203]? = some (Cond.eq (.length (.static "java/lang/Integer" "DigitTens" "[B")) (.int (Int32.ofNat 100))) := by decide +kernel
set_option maxRecDepth 100000 in
theorem m_c1 : gFL[4]? = some (Cond.eq (.static "java/lang/String" "COMPACT_STRINGS" "Z") (.int 1)) := by decide +kernel
set_option maxRecDepth 100000 in
theorem m_c2 : gFL[5]? = some (Cond.isRef (.static "jdk/internal/util/Preconditions" "SIOOBE_FORMATTER" "Ljava/util/function/BiFunction;")) := by decide +kernel
set_option maxRecDepth 100000 in
theorem t_l1 : ∀ i, i < 9 → lw_tbl[([505, 676, 682, 688, 694, 700, 706, 712, 718] : List Nat).getD i 0]? = some (Cond.laysStatic "LogRaft$Word" (wNm.getD i "") "LLogRaft$Word;") := by decide +kernel
set_option maxRecDepth 100000 in
theorem t_l2 : ∀ i, i < 9 → lw_tbl[([1361, 1362, 1363, 1364, 1365, 1366, 1367, 1368, 1369] : List Nat).getD i 0]? = some (Cond.stringRef "LogRaftModel" (191 + 2 * i) (wTx.getD i "")) := by decide +kernel
theorem tl_iw : Cond.initialized "LogRaft$Word" ∈ lw_tbl := List.mem_of_getElem? (i := 102) (by decide +kernel)
theorem tl_il : Cond.initialized "LogRaft" ∈ lw_tbl := List.mem_of_getElem? (i := 83) (by decide +kernel)
theorem tl_i1 : Cond.initialized "LogRaft$1" ∈ lw_tbl := List.mem_of_getElem? (i := 103) (by decide +kernel)
theorem tl_is : Cond.initialized "java/lang/String" ∈ lw_tbl := List.mem_of_getElem? (i := 91) (by decide +kernel)
theorem tl_ii : Cond.initialized "java/lang/Integer" ∈ lw_tbl := List.mem_of_getElem? (i := 104) (by decide +kernel)
theorem tl_ip : Cond.initialized "jdk/internal/util/Preconditions" ∈ lw_tbl := List.mem_of_getElem? (i := 100) (by decide +kernel)
theorem tl_sw : Cond.laysStatic "LogRaft" "WORDS" "[LLogRaft$Word;" ∈ lw_tbl := List.mem_of_getElem? (i := 736) (by decide +kernel)
theorem tl_s1 : Cond.laysStatic "LogRaft$1" "$SwitchMap$LogRaft$Word" "[I" ∈ lw_tbl := List.mem_of_getElem? (i := 527) (by decide +kernel)
theorem tl_sc : Cond.laysStatic "java/lang/String" "COMPACT_STRINGS" "Z" ∈ lw_tbl := List.mem_of_getElem? (i := 286) (by decide +kernel)
theorem tl_so : Cond.laysStatic "java/lang/Integer" "DigitOnes" "[B" ∈ lw_tbl := List.mem_of_getElem? (i := 999) (by decide +kernel)
theorem tl_st : Cond.laysStatic "java/lang/Integer" "DigitTens" "[B" ∈ lw_tbl := List.mem_of_getElem? (i := 1001) (by decide +kernel)
theorem tl_sp : Cond.laysStatic "jdk/internal/util/Preconditions" "SIOOBE_FORMATTER" "Ljava/util/function/BiFunction;" ∈ lw_tbl := List.mem_of_getElem? (i := 471) (by decide +kernel)
theorem tl_nf : Cond.fieldLinkNest "LogRaft$Text" 67 "LogRaft" "WORDS" "[LLogRaft$Word;" "LogRaft" ∈ lw_tbl := List.mem_of_getElem? (i := 735) (by decide +kernel)
theorem tl_n1 : Cond.methodLinkNest "LogRaft$Raft" 21 ⟨"LogRaft$Driver", "<init>", "()V"⟩ "LogRaft" ∈ lw_tbl := List.mem_of_getElem? (i := 122) (by decide +kernel)
theorem tl_n2 : Cond.methodLinkNest "LogRaft" 31 ⟨"LogRaft$Reasons", "<init>", "()V"⟩ "LogRaft" ∈ lw_tbl := List.mem_of_getElem? (i := 249) (by decide +kernel)
theorem tl_n3 : Cond.methodLinkNest "LogRaft$Text" 24 ⟨"LogRaft$Command", "<init>", "()V"⟩ "LogRaft" ∈ lw_tbl := List.mem_of_getElem? (i := 311) (by decide +kernel)
theorem tl_de : Cond.declares ⟨"java/lang/Enum", "ordinal", "()I"⟩ ∈ lw_tbl := List.mem_of_getElem? (i := 530) (by decide +kernel)
theorem tl_a4 : Cond.arrayOver (.object "LogRaft$Driver") ∈ lw_tbl := List.mem_of_getElem? (i := 120) (by decide +kernel)
theorem tl_a5 : Cond.arrayOver (.object "LogRaft$Raft") ∈ lw_tbl := List.mem_of_getElem? (i := 234) (by decide +kernel)
theorem tl_a6 : Cond.arrayOver (.object "LogRaft$Command") ∈ lw_tbl := List.mem_of_getElem? (i := 309) (by decide +kernel)
theorem tl_a0 : Cond.arrayClass .int ∈ lw_tbl := List.mem_of_getElem? (i := 185) (by decide +kernel)
theorem tl_a1 : Cond.arrayClass .char ∈ lw_tbl := List.mem_of_getElem? (i := 186) (by decide +kernel)
theorem tl_a2 : Cond.arrayClass .boolean ∈ lw_tbl := List.mem_of_getElem? (i := 184) (by decide +kernel)
theorem tl_a3 : Cond.arrayClass .byte ∈ lw_tbl := List.mem_of_getElem? (i := 307) (by decide +kernel)
theorem tl_p1 : Cond.privateMethod yJ5_newCapacity_0f7a4 ∈ lw_tbl := List.mem_of_getElem? (i := 413) (by decide +kernel)
theorem tl_p2 : Cond.instanceMethod yJ5_newCapacity_0f7a4 ∈ lw_tbl := List.mem_of_getElem? (i := 414) (by decide +kernel)
theorem tl_p3 : Cond.privateMethod yJ5_ensureCapacityInternal_d00df ∈ lw_tbl := List.mem_of_getElem? (i := 409) (by decide +kernel)
theorem tl_p4 : Cond.instanceMethod yJ5_ensureCapacityInternal_d00df ∈ lw_tbl := List.mem_of_getElem? (i := 410) (by decide +kernel)
theorem tl_p5 : Cond.selects RJ4 yJ5_isLatin1_aae02 yJ5_isLatin1_aae02 ∈ lw_tbl := List.mem_of_getElem? (i := 446) (by decide +kernel)
theorem tl_p6 : Cond.instanceMethod yJ5_isLatin1_aae02 ∈ lw_tbl := List.mem_of_getElem? (i := 444) (by decide +kernel)
theorem tl_cJ4 : Cond.instantiable RJ4 4 ∈ lw_tbl := List.mem_of_getElem? (i := 277) (by decide +kernel)
theorem tl_cX1 : Cond.instantiable RX1 3 ∈ lw_tbl := List.mem_of_getElem? (i := 310) (by decide +kernel)
theorem tl_cX2 : Cond.instantiable RX2 12 ∈ lw_tbl := List.mem_of_getElem? (i := 121) (by decide +kernel)
theorem tl_cX3 : Cond.instantiable RX3 3 ∈ lw_tbl := List.mem_of_getElem? (i := 228) (by decide +kernel)
theorem tl_cX4 : Cond.instantiable RX4 10 ∈ lw_tbl := List.mem_of_getElem? (i := 114) (by decide +kernel)
theorem tl_cX5 : Cond.instantiable RX5 4 ∈ lw_tbl := List.mem_of_getElem? (i := 248) (by decide +kernel)
theorem tl_cX6 : Cond.instantiable RX6 4 ∈ lw_tbl := List.mem_of_getElem? (i := 271) (by decide +kernel)
theorem tl_cX8 : Cond.instantiable RX8 9 ∈ lw_tbl := List.mem_of_getElem? (i := 106) (by decide +kernel)
theorem tl_cX9 : Cond.instantiable RX9 20 ∈ lw_tbl := List.mem_of_getElem? (i := 1077) (by decide +kernel)
