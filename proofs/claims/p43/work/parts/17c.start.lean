/-! ===== what the Statement gives of the start ===== -/
def gFL : List Cond := flatC (Jvm.Cond.and given_1 narrow_1)
def wSx : List Nat := [55, 61, 64, 67, 70, 73, 76, 79, 82]
abbrev tmS (i : Nat) : Term := .string "LogRaft$Word" (wSx.getD i 0)
abbrev tmL (i : Nat) : Term := .string "LogRaftLaw" (lIx.getD i 0)
abbrev tmE (i : Nat) : Term := .static "LogRaft$Word" (wNm.getD i "") "LLogRaft$Word;"
theorem g_at {n : Nat} {w : Cond} (h : gFL[n]? = some w) : w ∈ gFL := List.mem_of_getElem? h
set_option maxRecDepth 100000 in
theorem m_sx : ∀ i, i < 9 → gFL[([429, 386, 448, 466, 399, 486, 506, 526, 414] : List Nat).getD i 0]? = some (Cond.exactly (tmS i) "java/lang/String") := by decide +kernel
set_option maxRecDepth 100000 in
theorem m_sc : ∀ i, i < 9 → gFL[([430, 387, 449, 467, 400, 487, 507, 527, 415] : List Nat).getD i 0]? = some (Cond.eq (.field (tmS i) "java/lang/String" "coder" "B") (.int 0)) := by decide +kernel
set_option maxRecDepth 100000 in
theorem m_sa : ∀ i, i < 9 → gFL[([431, 388, 450, 468, 401, 488, 508, 528, 416] : List Nat).getD i 0]? = some (Cond.arrayOf (.field (tmS i) "java/lang/String" "value" "[B") .byte) := by decide +kernel
set_option maxRecDepth 100000 in
theorem m_sl : ∀ i, i < 9 → gFL[([432, 389, 451, 469, 402, 489, 509, 529, 417] : List Nat).getD i 0]? = some (Cond.eq (.length (.field (tmS i) "java/lang/String" "value" "[B")) (.int (Int32.ofNat (wLen.getD i 0)))) := by decide +kernel
set_option maxRecDepth 100000 in
theorem m_se : ∀ i, i < 9 → ∀ j, j < wLen.getD i 0 → gFL[([433, 390, 452, 470, 403, 490, 510, 530, 418] : List Nat).getD i 0 + j]? = some (Cond.eq (.elem (.field (tmS i) "java/lang/String" "value" "[B") (.int (Int32.ofNat j))) (.int ((wByt.getD i []).getD j 0))) := by decide +kernel
set_option maxRecDepth 100000 in
theorem m_sn : ∀ i, i < 9 → ∀ j, j < 9 → i < j → gFL[([0, 445, 465, 484, 446, 503, 522, 542, 447, 0, 0, 462, 481, 413, 500, 519, 539, 427, 0, 0, 0, 485, 463, 504, 523, 543, 464, 0, 0, 0, 0, 482, 505, 524, 544, 483, 0, 0, 0, 0, 0, 501, 520, 540, 428, 0, 0, 0, 0, 0, 0, 525, 545, 502, 0, 0, 0, 0, 0, 0, 0, 546, 521, 0, 0, 0, 0, 0, 0, 0, 0, 541, 0, 0, 0, 0, 0, 0, 0, 0, 0] : List Nat).getD (9 * i + j) 0]? = some (if ([1, 0, 1, 1, 0, 1, 1, 1, 0, 1, 1, 1, 1, 1, 1, 1, 1, 1, 1, 1, 1, 1, 0, 1, 1, 1, 0, 1, 1, 1, 1, 0, 1, 1, 1, 0, 1, 1, 1, 1, 1, 1, 1, 1, 1, 1, 1, 1, 1, 1, 1, 1, 1, 0, 1, 1, 1, 1, 1, 1, 1, 1, 0, 1, 1, 1, 1, 1, 1, 1, 1, 0, 1, 1, 1, 1, 1, 1, 1, 1, 1] : List Nat).getD (9 * i + j) 0 = 1 then Cond.not (.eq (tmS i) (tmS j)) else Cond.not (.eq (tmS j) (tmS i))) := by decide +kernel
set_option maxRecDepth 100000 in
theorem m_zx : ∀ i, i < 5 → gFL[([331, 340, 350, 362, 376] : List Nat).getD i 0]? = some (Cond.exactly (tmL i) "java/lang/String") := by decide +kernel
set_option maxRecDepth 100000 in
theorem m_zc : ∀ i, i < 5 → gFL[([332, 341, 351, 363, 377] : List Nat).getD i 0]? = some (Cond.eq (.field (tmL i) "java/lang/String" "coder" "B") (.int 0)) := by decide +kernel
set_option maxRecDepth 100000 in
theorem m_za : ∀ i, i < 5 → gFL[([333, 342, 352, 364, 378] : List Nat).getD i 0]? = some (Cond.arrayOf (.field (tmL i) "java/lang/String" "value" "[B") .byte) := by decide +kernel
set_option maxRecDepth 100000 in
theorem m_zl : ∀ i, i < 5 → gFL[([334, 343, 353, 365, 379] : List Nat).getD i 0]? = some (Cond.eq (.length (.field (tmL i) "java/lang/String" "value" "[B")) (.int (Int32.ofNat (lLen.getD i 0)))) := by decide +kernel
set_option maxRecDepth 100000 in
theorem m_ze : ∀ i, i < 5 → ∀ j, j < lLen.getD i 0 → gFL[([335, 344, 354, 366, 380] : List Nat).getD i 0 + j]? = some (Cond.eq (.elem (.field (tmL i) "java/lang/String" "value" "[B") (.int (Int32.ofNat j))) (.int ((lByt.getD i []).getD j 0))) := by decide +kernel
set_option maxRecDepth 100000 in
theorem m_zn : ∀ i, i < 5 → ∀ j, j < 5 → i < j → gFL[([0, 349, 360, 373, 382, 0, 0, 361, 374, 383, 0, 0, 0, 375, 384, 0, 0, 0, 0, 385, 0, 0, 0, 0, 0] : List Nat).getD (5 * i + j) 0]? = some (if ([1, 1, 1, 1, 1, 1, 1, 1, 1, 1, 1, 1, 1, 1, 1, 1, 1, 1, 1, 1, 1, 1, 1, 1, 1] : List Nat).getD (5 * i + j) 0 = 1 then Cond.not (.eq (tmL i) (tmL j)) else Cond.not (.eq (tmL j) (tmL i))) := by decide +kernel
set_option maxRecDepth 100000 in
theorem m_ex : ∀ i, i < 9 → gFL[([29, 4, 35, 42, 19, 50, 59, 69, 23] : List Nat).getD i 0]? = some (Cond.exactly (tmE i) "LogRaft$Word") := by decide +kernel
set_option maxRecDepth 100000 in
theorem m_eo : ∀ i, i < 9 → gFL[([30, 5, 36, 43, 20, 51, 60, 70, 24] : List Nat).getD i 0]? = some (Cond.eq (.field (tmE i) "java/lang/Enum" "ordinal" "I") (.int (([0, 1, 2, 3, 4, 5, 6, 7, 8] : List Int32).getD i 0))) := by decide +kernel
set_option maxRecDepth 100000 in
theorem m_es : ∀ i, i < 9 → gFL[([31, 6, 37, 44, 21, 52, 61, 71, 25] : List Nat).getD i 0]? = some (Cond.eq (.field (tmE i) "LogRaft$Word" "signs" "Ljava/lang/String;") (tmS i)) := by decide +kernel
set_option maxRecDepth 100000 in
theorem m_en : ∀ i, i < 9 → ∀ j, j < 9 → i < j → gFL[([0, 32, 41, 48, 33, 56, 65, 75, 34, 0, 0, 38, 45, 22, 53, 62, 72, 26, 0, 0, 0, 49, 39, 57, 66, 76, 40, 0, 0, 0, 0, 46, 58, 67, 77, 47, 0, 0, 0, 0, 0, 54, 63, 73, 27, 0, 0, 0, 0, 0, 0, 68, 78, 55, 0, 0, 0, 0, 0, 0, 0, 79, 64, 0, 0, 0, 0, 0, 0, 0, 0, 74, 0, 0, 0, 0, 0, 0, 0, 0, 0] : List Nat).getD (9 * i + j) 0]? = some (if ([1, 0, 1, 1, 0, 1, 1, 1, 0, 1, 1, 1, 1, 1, 1, 1, 1, 1, 1, 1, 1, 1, 0, 1, 1, 1, 0, 1, 1, 1, 1, 0, 1, 1, 1, 0, 1, 1, 1, 1, 1, 1, 1, 1, 1, 1, 1, 1, 1, 1, 1, 1, 1, 0, 1, 1, 1, 1, 1, 1, 1, 1, 0, 1, 1, 1, 1, 1, 1, 1, 1, 0, 1, 1, 1, 1, 1, 1, 1, 1, 1] : List Nat).getD (9 * i + j) 0 = 1 then Cond.not (.eq (tmE i) (tmE j)) else Cond.not (.eq (tmE j) (tmE i))) := by decide +kernel
set_option maxRecDepth 100000 in
theorem m_we : ∀ i, i < 9 → gFL[295 + i]? = some (Cond.eq (.elem (.static "LogRaft" "WORDS" "[LLogRaft$Word;") (.int (Int32.ofNat i))) (tmE i)) := by decide +kernel
set_option maxRecDepth 100000 in
theorem m_wa : gFL[292]? = some (Cond.arrayOf (.static "LogRaft" "WORDS" "[LLogRaft$Word;") (.object "LogRaft$Word")) := by decide +kernel
set_option maxRecDepth 100000 in
theorem m_wl : gFL[293]? = some (Cond.eq (.length (.static "LogRaft" "WORDS" "[LLogRaft$Word;")) (.int (Int32.ofNat 9))) := by decide +kernel
set_option maxRecDepth 100000 in
theorem m_me : ∀ i, i < 9 → gFL[10 + i]? = some (Cond.eq (.elem (.static "LogRaft$1" "$SwitchMap$LogRaft$Word" "[I") (.int (Int32.ofNat i))) (.int (Int32.ofNat (i + 1)))) := by decide +kernel
set_option maxRecDepth 100000 in
theorem m_ma : gFL[8]? = some (Cond.arrayOf (.static "LogRaft$1" "$SwitchMap$LogRaft$Word" "[I") .int) := by decide +kernel
set_option maxRecDepth 100000 in
theorem m_ml : gFL[9]? = some (Cond.eq (.length (.static "LogRaft$1" "$SwitchMap$LogRaft$Word" "[I")) (.int (Int32.ofNat 9))) := by decide +kernel
set_option maxRecDepth 100000 in
theorem m_oe : (List.range 100).map (fun j => Cond.eq (.elem (.static "java/lang/Integer" "DigitOnes" "[B") (.int (Int32.ofNat j))) (.int (dgO j))) = (gFL.drop 87).take 100 := by decide +kernel
set_option maxRecDepth 100000 in
theorem m_oa : gFL[85]? = some (Cond.arrayOf (.static "java/lang/Integer" "DigitOnes" "[B") .byte) := by decide +kernel
set_option maxRecDepth 100000 in
theorem m_ol : gFL[86]? = some (Cond.eq (.length (.static "java/lang/Integer" "DigitOnes" "[B")) (.int (Int32.ofNat 100))) := by decide +kernel
set_option maxRecDepth 100000 in
theorem m_te : (List.range 100).map (fun j => Cond.eq (.elem (.static "java/lang/Integer" "DigitTens" "[B") (.int (Int32.ofNat j))) (.int (dgT j))) = (gFL.drop 190).take 100 := by decide +kernel
set_option maxRecDepth 100000 in
theorem m_ta : gFL[188]? = some (Cond.arrayOf (.static "java/lang/Integer" "DigitTens" "[B") .byte) := by decide +kernel
set_option maxRecDepth 100000 in
theorem m_tl : gFL[189]? = some (Cond.eq (.length (.static "java/lang/Integer" "DigitTens" "[B")) (.int (Int32.ofNat 100))) := by decide +kernel
set_option maxRecDepth 100000 in
theorem m_c1 : gFL[28]? = some (Cond.eq (.static "java/lang/String" "COMPACT_STRINGS" "Z") (.int 1)) := by decide +kernel
set_option maxRecDepth 100000 in
theorem m_c2 : gFL[80]? = some (Cond.isRef (.static "jdk/internal/util/Preconditions" "SIOOBE_FORMATTER" "Ljava/util/function/BiFunction;")) := by decide +kernel
set_option maxRecDepth 100000 in
theorem t_l1 : ∀ i, i < 9 → lw_tbl[([598, 52, 612, 618, 229, 624, 630, 636, 235] : List Nat).getD i 0]? = some (Cond.laysStatic "LogRaft$Word" (wNm.getD i "") "LLogRaft$Word;") := by decide +kernel
set_option maxRecDepth 100000 in
theorem t_l2 : ∀ i, i < 5 → lw_tbl[([639, 781, 782, 836, 837] : List Nat).getD i 0]? = some (Cond.stringRef "LogRaftLaw" (lIx.getD i 0) (lTx.getD i "")) := by decide +kernel
theorem tl_iw : Cond.initialized "LogRaft$Word" ∈ lw_tbl := List.mem_of_getElem? (i := 38) (by decide +kernel)
theorem tl_il : Cond.initialized "LogRaft" ∈ lw_tbl := List.mem_of_getElem? (i := 26) (by decide +kernel)
theorem tl_i1 : Cond.initialized "LogRaft$1" ∈ lw_tbl := List.mem_of_getElem? (i := 39) (by decide +kernel)
theorem tl_is : Cond.initialized "java/lang/String" ∈ lw_tbl := List.mem_of_getElem? (i := 34) (by decide +kernel)
theorem tl_ii : Cond.initialized "java/lang/Integer" ∈ lw_tbl := List.mem_of_getElem? (i := 46) (by decide +kernel)
theorem tl_ip : Cond.initialized "jdk/internal/util/Preconditions" ∈ lw_tbl := List.mem_of_getElem? (i := 44) (by decide +kernel)
theorem tl_sw : Cond.laysStatic "LogRaft" "WORDS" "[LLogRaft$Word;" ∈ lw_tbl := List.mem_of_getElem? (i := 904) (by decide +kernel)
theorem tl_s1 : Cond.laysStatic "LogRaft$1" "$SwitchMap$LogRaft$Word" "[I" ∈ lw_tbl := List.mem_of_getElem? (i := 75) (by decide +kernel)
theorem tl_sc : Cond.laysStatic "java/lang/String" "COMPACT_STRINGS" "Z" ∈ lw_tbl := List.mem_of_getElem? (i := 505) (by decide +kernel)
theorem tl_so : Cond.laysStatic "java/lang/Integer" "DigitOnes" "[B" ∈ lw_tbl := List.mem_of_getElem? (i := 770) (by decide +kernel)
theorem tl_st : Cond.laysStatic "java/lang/Integer" "DigitTens" "[B" ∈ lw_tbl := List.mem_of_getElem? (i := 772) (by decide +kernel)
theorem tl_sp : Cond.laysStatic "jdk/internal/util/Preconditions" "SIOOBE_FORMATTER" "Ljava/util/function/BiFunction;" ∈ lw_tbl := List.mem_of_getElem? (i := 700) (by decide +kernel)
theorem tl_nf : Cond.fieldLinkNest "LogRaft$Text" 67 "LogRaft" "WORDS" "[LLogRaft$Word;" "LogRaft" ∈ lw_tbl := List.mem_of_getElem? (i := 903) (by decide +kernel)
theorem tl_n1 : Cond.methodLinkNest "LogRaft$Raft" 21 ⟨"LogRaft$Driver", "<init>", "()V"⟩ "LogRaft" ∈ lw_tbl := List.mem_of_getElem? (i := 346) (by decide +kernel)
theorem tl_n2 : Cond.methodLinkNest "LogRaft" 31 ⟨"LogRaft$Reasons", "<init>", "()V"⟩ "LogRaft" ∈ lw_tbl := List.mem_of_getElem? (i := 472) (by decide +kernel)
theorem tl_n3 : Cond.methodLinkNest "LogRaft$Text" 24 ⟨"LogRaft$Command", "<init>", "()V"⟩ "LogRaft" ∈ lw_tbl := List.mem_of_getElem? (i := 530) (by decide +kernel)
theorem tl_de : Cond.declares ⟨"java/lang/Enum", "ordinal", "()I"⟩ ∈ lw_tbl := List.mem_of_getElem? (i := 78) (by decide +kernel)
theorem tl_a4 : Cond.arrayOver (.object "LogRaft$Driver") ∈ lw_tbl := List.mem_of_getElem? (i := 344) (by decide +kernel)
theorem tl_a5 : Cond.arrayOver (.object "LogRaft$Raft") ∈ lw_tbl := List.mem_of_getElem? (i := 457) (by decide +kernel)
theorem tl_a6 : Cond.arrayOver (.object "LogRaft$Command") ∈ lw_tbl := List.mem_of_getElem? (i := 528) (by decide +kernel)
theorem tl_a0 : Cond.arrayClass .int ∈ lw_tbl := List.mem_of_getElem? (i := 408) (by decide +kernel)
theorem tl_a1 : Cond.arrayClass .char ∈ lw_tbl := List.mem_of_getElem? (i := 409) (by decide +kernel)
theorem tl_a2 : Cond.arrayClass .boolean ∈ lw_tbl := List.mem_of_getElem? (i := 407) (by decide +kernel)
theorem tl_a3 : Cond.arrayClass .byte ∈ lw_tbl := List.mem_of_getElem? (i := 526) (by decide +kernel)
theorem tl_p1 : Cond.privateMethod yJ5_newCapacity_0f7a4 ∈ lw_tbl := List.mem_of_getElem? (i := 656) (by decide +kernel)
theorem tl_p2 : Cond.instanceMethod yJ5_newCapacity_0f7a4 ∈ lw_tbl := List.mem_of_getElem? (i := 657) (by decide +kernel)
theorem tl_p3 : Cond.privateMethod yJ5_ensureCapacityInternal_d00df ∈ lw_tbl := List.mem_of_getElem? (i := 652) (by decide +kernel)
theorem tl_p4 : Cond.instanceMethod yJ5_ensureCapacityInternal_d00df ∈ lw_tbl := List.mem_of_getElem? (i := 653) (by decide +kernel)
theorem tl_p6 : Cond.instanceMethod yJ5_isLatin1_aae02 ∈ lw_tbl := List.mem_of_getElem? (i := 683) (by decide +kernel)
theorem tl_p7 : Cond.privateMethod yJ5_putStringAt_47b60 ∈ lw_tbl := List.mem_of_getElem? (i := 723) (by decide +kernel)
theorem tl_p8 : Cond.instanceMethod yJ5_putStringAt_47b60 ∈ lw_tbl := List.mem_of_getElem? (i := 724) (by decide +kernel)
theorem tl_p9 : Cond.privateMethod yJ5_inflateIfNeededFor_a7421 ∈ lw_tbl := List.mem_of_getElem? (i := 727) (by decide +kernel)
theorem tl_p10 : Cond.instanceMethod yJ5_inflateIfNeededFor_a7421 ∈ lw_tbl := List.mem_of_getElem? (i := 728) (by decide +kernel)
theorem tl_p5 : Cond.selects RJ4 yJ5_isLatin1_aae02 yJ5_isLatin1_aae02 ∈ lw_tbl := List.mem_of_getElem? (i := 685) (by decide +kernel)
theorem tl_cJ4 : Cond.instantiable RJ4 4 ∈ lw_tbl := List.mem_of_getElem? (i := 496) (by decide +kernel)
theorem tl_cX1 : Cond.instantiable RX1 3 ∈ lw_tbl := List.mem_of_getElem? (i := 529) (by decide +kernel)
theorem tl_cX2 : Cond.instantiable RX2 12 ∈ lw_tbl := List.mem_of_getElem? (i := 345) (by decide +kernel)
theorem tl_cX3 : Cond.instantiable RX3 3 ∈ lw_tbl := List.mem_of_getElem? (i := 451) (by decide +kernel)
theorem tl_cX4 : Cond.instantiable RX4 10 ∈ lw_tbl := List.mem_of_getElem? (i := 117) (by decide +kernel)
theorem tl_cX5 : Cond.instantiable RX5 4 ∈ lw_tbl := List.mem_of_getElem? (i := 471) (by decide +kernel)
theorem tl_cX6 : Cond.instantiable RX6 4 ∈ lw_tbl := List.mem_of_getElem? (i := 490) (by decide +kernel)
theorem tl_cX8 : Cond.instantiable RX8 9 ∈ lw_tbl := List.mem_of_getElem? (i := 56) (by decide +kernel)
theorem tl_cJ0 : Cond.instantiable RJ0 4 ∈ lw_tbl := List.mem_of_getElem? (i := 788) (by decide +kernel)
