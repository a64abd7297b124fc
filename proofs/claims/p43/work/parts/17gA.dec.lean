theorem dL_cell_0 : decode cL_cell 0 = .ok (.ldc 7, 2) := by decide +kernel
theorem dL_cell_2 : decode cL_cell 2 = .ok (.iload_n 1, 1) := by decide +kernel
theorem dL_cell_3 : decode cL_cell 3 = .ok (.aload_n 0, 1) := by decide +kernel
theorem dL_cell_4 : decode cL_cell 4 = .ok (.arraylength, 1) := by decide +kernel
theorem dL_cell_5 : decode cL_cell 5 = .ok (.if_icmp .ge 9, 3) := by decide +kernel
theorem dL_cell_8 : decode cL_cell 8 = .ok (.aload_n 0, 1) := by decide +kernel
theorem dL_cell_9 : decode cL_cell 9 = .ok (.iload_n 1, 1) := by decide +kernel
theorem dL_cell_10 : decode cL_cell 10 = .ok (.iaload, 1) := by decide +kernel
theorem dL_cell_11 : decode cL_cell 11 = .ok (.goto 4, 3) := by decide +kernel
theorem dL_cell_14 : decode cL_cell 14 = .ok (.iconst 0, 1) := by decide +kernel
theorem dL_cell_15 : decode cL_cell 15 = .ok (.sipush 1009, 3) := by decide +kernel
theorem dL_cell_18 : decode cL_cell 18 = .ok (.iload_n 1, 1) := by decide +kernel
theorem dL_cell_19 : decode cL_cell 19 = .ok (.imul, 1) := by decide +kernel
theorem dL_cell_20 : decode cL_cell 20 = .ok (.iadd, 1) := by decide +kernel
theorem dL_cell_21 : decode cL_cell 21 = .ok (.imul, 1) := by decide +kernel
theorem dL_cell_22 : decode cL_cell 22 = .ok (.sipush 12345, 3) := by decide +kernel
theorem dL_cell_25 : decode cL_cell 25 = .ok (.iadd, 1) := by decide +kernel
theorem dL_cell_26 : decode cL_cell 26 = .ok (.istore_n 2, 1) := by decide +kernel
theorem dL_cell_27 : decode cL_cell 27 = .ok (.iload_n 2, 1) := by decide +kernel
theorem dL_cell_28 : decode cL_cell 28 = .ok (.iload_n 2, 1) := by decide +kernel
theorem dL_cell_29 : decode cL_cell 29 = .ok (.bipush 13, 2) := by decide +kernel
theorem dL_cell_31 : decode cL_cell 31 = .ok (.iushr, 1) := by decide +kernel
theorem dL_cell_32 : decode cL_cell 32 = .ok (.ixor, 1) := by decide +kernel
theorem dL_cell_33 : decode cL_cell 33 = .ok (.ldc 8, 2) := by decide +kernel
theorem dL_cell_35 : decode cL_cell 35 = .ok (.imul, 1) := by decide +kernel
theorem dL_cell_36 : decode cL_cell 36 = .ok (.istore_n 2, 1) := by decide +kernel
theorem dL_cell_37 : decode cL_cell 37 = .ok (.iload_n 2, 1) := by decide +kernel
theorem dL_cell_38 : decode cL_cell 38 = .ok (.iload_n 2, 1) := by decide +kernel
theorem dL_cell_39 : decode cL_cell 39 = .ok (.bipush 16, 2) := by decide +kernel
theorem dL_cell_41 : decode cL_cell 41 = .ok (.iushr, 1) := by decide +kernel
theorem dL_cell_42 : decode cL_cell 42 = .ok (.ixor, 1) := by decide +kernel
theorem dL_cell_43 : decode cL_cell 43 = .ok (.ireturn, 1) := by decide +kernel
theorem dL_in_0 : decode cL_in 0 = .ok (.aload_n 0, 1) := by decide +kernel
theorem dL_in_1 : decode cL_in 1 = .ok (.iload_n 1, 1) := by decide +kernel
theorem dL_in_2 : decode cL_in 2 = .ok (.invokestatic 9, 3) := by decide +kernel
theorem dL_in_5 : decode cL_in 5 = .ok (.ldc 15, 2) := by decide +kernel
theorem dL_in_7 : decode cL_in 7 = .ok (.iand, 1) := by decide +kernel
theorem dL_in_8 : decode cL_in 8 = .ok (.iload_n 2, 1) := by decide +kernel
theorem dL_in_9 : decode cL_in 9 = .ok (.irem, 1) := by decide +kernel
theorem dL_in_10 : decode cL_in 10 = .ok (.ireturn, 1) := by decide +kernel
theorem dL_reads_0 : decode cL_reads 0 = .ok (.iconst 0, 1) := by decide +kernel
theorem dL_reads_1 : decode cL_reads 1 = .ok (.istore_n 2, 1) := by decide +kernel
theorem dL_reads_2 : decode cL_reads 2 = .ok (.iconst 0, 1) := by decide +kernel
theorem dL_reads_3 : decode cL_reads 3 = .ok (.istore_n 3, 1) := by decide +kernel
theorem dL_reads_4 : decode cL_reads 4 = .ok (.iload_n 3, 1) := by decide +kernel
theorem dL_reads_5 : decode cL_reads 5 = .ok (.aload_n 1, 1) := by decide +kernel
theorem dL_reads_6 : decode cL_reads 6 = .ok (.invokevirtual 16, 3) := by decide +kernel
theorem dL_reads_9 : decode cL_reads 9 = .ok (.if_icmp .ge 21, 3) := by decide +kernel
theorem dL_reads_12 : decode cL_reads 12 = .ok (.iload_n 2, 1) := by decide +kernel
theorem dL_reads_13 : decode cL_reads 13 = .ok (.aload_n 0, 1) := by decide +kernel
theorem dL_reads_14 : decode cL_reads 14 = .ok (.aload_n 1, 1) := by decide +kernel
theorem dL_reads_15 : decode cL_reads 15 = .ok (.iload_n 3, 1) := by decide +kernel
theorem dL_reads_16 : decode cL_reads 16 = .ok (.invokevirtual 22, 3) := by decide +kernel
theorem dL_reads_19 : decode cL_reads 19 = .ok (.invokevirtual 26, 3) := by decide +kernel
theorem dL_reads_22 : decode cL_reads 22 = .ok (.iadd, 1) := by decide +kernel
theorem dL_reads_23 : decode cL_reads 23 = .ok (.istore_n 2, 1) := by decide +kernel
theorem dL_reads_24 : decode cL_reads 24 = .ok (.iinc 3 1, 3) := by decide +kernel
theorem dL_reads_27 : decode cL_reads 27 = .ok (.goto (-23), 3) := by decide +kernel
theorem dL_reads_30 : decode cL_reads 30 = .ok (.iload_n 2, 1) := by decide +kernel
theorem dL_reads_31 : decode cL_reads 31 = .ok (.ifCond .ge 8, 3) := by decide +kernel
theorem dL_reads_34 : decode cL_reads 34 = .ok (.bipush (-99), 2) := by decide +kernel
theorem dL_reads_36 : decode cL_reads 36 = .ok (.goto 7, 3) := by decide +kernel
theorem dL_reads_39 : decode cL_reads 39 = .ok (.aload_n 0, 1) := by decide +kernel
theorem dL_reads_40 : decode cL_reads 40 = .ok (.invokevirtual 32, 3) := by decide +kernel
theorem dL_reads_43 : decode cL_reads 43 = .ok (.ireturn, 1) := by decide +kernel
theorem dL_begun_0 : decode cL_begun 0 = .ok (.new 27, 3) := by decide +kernel
theorem dL_begun_3 : decode cL_begun 3 = .ok (.dup, 1) := by decide +kernel
theorem dL_begun_4 : decode cL_begun 4 = .ok (.invokespecial 35, 3) := by decide +kernel
theorem dL_begun_7 : decode cL_begun 7 = .ok (.astore_n 1, 1) := by decide +kernel
theorem dL_begun_8 : decode cL_begun 8 = .ok (.iconst 0, 1) := by decide +kernel
theorem dL_begun_9 : decode cL_begun 9 = .ok (.istore_n 2, 1) := by decide +kernel
theorem dL_begun_10 : decode cL_begun 10 = .ok (.iconst 3, 1) := by decide +kernel
theorem dL_begun_11 : decode cL_begun 11 = .ok (.aload_n 0, 1) := by decide +kernel
theorem dL_begun_12 : decode cL_begun 12 = .ok (.iconst 0, 1) := by decide +kernel
theorem dL_begun_13 : decode cL_begun 13 = .ok (.iconst 3, 1) := by decide +kernel
theorem dL_begun_14 : decode cL_begun 14 = .ok (.invokestatic 36, 3) := by decide +kernel
theorem dL_begun_17 : decode cL_begun 17 = .ok (.iadd, 1) := by decide +kernel
theorem dL_begun_18 : decode cL_begun 18 = .ok (.istore_n 3, 1) := by decide +kernel
theorem dL_begun_19 : decode cL_begun 19 = .ok (.iconst 0, 1) := by decide +kernel
theorem dL_begun_20 : decode cL_begun 20 = .ok (.istore 4, 2) := by decide +kernel
theorem dL_begun_22 : decode cL_begun 22 = .ok (.iload 4, 2) := by decide +kernel
theorem dL_begun_24 : decode cL_begun 24 = .ok (.iload_n 3, 1) := by decide +kernel
theorem dL_begun_25 : decode cL_begun 25 = .ok (.if_icmp .ge 28, 3) := by decide +kernel
theorem dL_begun_28 : decode cL_begun 28 = .ok (.iload_n 2, 1) := by decide +kernel
theorem dL_begun_29 : decode cL_begun 29 = .ok (.aload_n 1, 1) := by decide +kernel
theorem dL_begun_30 : decode cL_begun 30 = .ok (.iconst 1, 1) := by decide +kernel
theorem dL_begun_31 : decode cL_begun 31 = .ok (.aload_n 0, 1) := by decide +kernel
theorem dL_begun_32 : decode cL_begun 32 = .ok (.iconst 1, 1) := by decide +kernel
theorem dL_begun_33 : decode cL_begun 33 = .ok (.iload 4, 2) := by decide +kernel
theorem dL_begun_35 : decode cL_begun 35 = .ok (.iadd, 1) := by decide +kernel
theorem dL_begun_36 : decode cL_begun 36 = .ok (.bipush 9, 2) := by decide +kernel
theorem dL_begun_38 : decode cL_begun 38 = .ok (.invokestatic 36, 3) := by decide +kernel
theorem dL_begun_41 : decode cL_begun 41 = .ok (.iadd, 1) := by decide +kernel
theorem dL_begun_42 : decode cL_begun 42 = .ok (.invokevirtual 40, 3) := by decide +kernel
theorem dL_begun_45 : decode cL_begun 45 = .ok (.iadd, 1) := by decide +kernel
theorem dL_begun_46 : decode cL_begun 46 = .ok (.istore_n 2, 1) := by decide +kernel
theorem dL_begun_47 : decode cL_begun 47 = .ok (.iinc 4 1, 3) := by decide +kernel
theorem dL_begun_50 : decode cL_begun 50 = .ok (.goto (-28), 3) := by decide +kernel
theorem dL_begun_53 : decode cL_begun 53 = .ok (.iload_n 2, 1) := by decide +kernel
theorem dL_begun_54 : decode cL_begun 54 = .ok (.aload_n 1, 1) := by decide +kernel
theorem dL_begun_55 : decode cL_begun 55 = .ok (.iconst 1, 1) := by decide +kernel
theorem dL_begun_56 : decode cL_begun 56 = .ok (.aload_n 0, 1) := by decide +kernel
theorem dL_begun_57 : decode cL_begun 57 = .ok (.bipush 6, 2) := by decide +kernel
theorem dL_begun_59 : decode cL_begun 59 = .ok (.bipush 6, 2) := by decide +kernel
theorem dL_begun_61 : decode cL_begun 61 = .ok (.invokestatic 36, 3) := by decide +kernel
theorem dL_begun_64 : decode cL_begun 64 = .ok (.iadd, 1) := by decide +kernel
theorem dL_begun_65 : decode cL_begun 65 = .ok (.invokevirtual 44, 3) := by decide +kernel
theorem dL_begun_68 : decode cL_begun 68 = .ok (.iadd, 1) := by decide +kernel
theorem dL_begun_69 : decode cL_begun 69 = .ok (.istore_n 2, 1) := by decide +kernel
theorem dL_begun_70 : decode cL_begun 70 = .ok (.iload_n 2, 1) := by decide +kernel
theorem dL_begun_71 : decode cL_begun 71 = .ok (.ifCond .ge 7, 3) := by decide +kernel
theorem dL_begun_74 : decode cL_begun 74 = .ok (.aconst_null, 1) := by decide +kernel
theorem dL_begun_75 : decode cL_begun 75 = .ok (.goto 4, 3) := by decide +kernel
theorem dL_begun_78 : decode cL_begun 78 = .ok (.aload_n 1, 1) := by decide +kernel
theorem dL_begun_79 : decode cL_begun 79 = .ok (.areturn, 1) := by decide +kernel
theorem dL_does_0 : decode cL_does 0 = .ok (.aload_n 1, 1) := by decide +kernel
theorem dL_does_1 : decode cL_does 1 = .ok (.iload_n 2, 1) := by decide +kernel
theorem dL_does_2 : decode cL_does 2 = .ok (.iconst 1, 1) := by decide +kernel
theorem dL_does_3 : decode cL_does 3 = .ok (.iadd, 1) := by decide +kernel
theorem dL_does_4 : decode cL_does 4 = .ok (.sipush 1000, 3) := by decide +kernel
theorem dL_does_7 : decode cL_does 7 = .ok (.invokestatic 36, 3) := by decide +kernel
theorem dL_does_10 : decode cL_does 10 = .ok (.istore_n 3, 1) := by decide +kernel
theorem dL_does_11 : decode cL_does 11 = .ok (.aload_n 1, 1) := by decide +kernel
theorem dL_does_12 : decode cL_does 12 = .ok (.iload_n 2, 1) := by decide +kernel
theorem dL_does_13 : decode cL_does 13 = .ok (.iconst 2, 1) := by decide +kernel
theorem dL_does_14 : decode cL_does 14 = .ok (.iadd, 1) := by decide +kernel
theorem dL_does_15 : decode cL_does 15 = .ok (.sipush 1000, 3) := by decide +kernel
theorem dL_does_18 : decode cL_does 18 = .ok (.invokestatic 36, 3) := by decide +kernel
theorem dL_does_21 : decode cL_does 21 = .ok (.istore 4, 2) := by decide +kernel
theorem dL_does_23 : decode cL_does 23 = .ok (.iload_n 3, 1) := by decide +kernel
theorem dL_does_24 : decode cL_does 24 = .ok (.aload_n 0, 1) := by decide +kernel
theorem dL_does_25 : decode cL_does 25 = .ok (.iconst 1, 1) := by decide +kernel
theorem dL_does_26 : decode cL_does 26 = .ok (.invokevirtual 47, 3) := by decide +kernel
theorem dL_does_29 : decode cL_does 29 = .ok (.irem, 1) := by decide +kernel
theorem dL_does_30 : decode cL_does 30 = .ok (.istore 5, 2) := by decide +kernel
theorem dL_does_32 : decode cL_does 32 = .ok (.iload 4, 2) := by decide +kernel
theorem dL_does_34 : decode cL_does 34 = .ok (.aload_n 0, 1) := by decide +kernel
theorem dL_does_35 : decode cL_does 35 = .ok (.iconst 1, 1) := by decide +kernel
theorem dL_does_36 : decode cL_does 36 = .ok (.invokevirtual 47, 3) := by decide +kernel
theorem dL_does_39 : decode cL_does 39 = .ok (.irem, 1) := by decide +kernel
theorem dL_does_40 : decode cL_does 40 = .ok (.istore 6, 2) := by decide +kernel
theorem dL_does_42 : decode cL_does 42 = .ok (.aload_n 0, 1) := by decide +kernel
theorem dL_does_43 : decode cL_does 43 = .ok (.invokevirtual 50, 3) := by decide +kernel
theorem dL_does_46 : decode cL_does 46 = .ok (.istore 7, 2) := by decide +kernel
theorem dL_does_48 : decode cL_does 48 = .ok (.aload_n 1, 1) := by decide +kernel
theorem dL_does_49 : decode cL_does 49 = .ok (.iload_n 2, 1) := by decide +kernel
theorem dL_does_50 : decode cL_does 50 = .ok (.bipush 20, 2) := by decide +kernel
theorem dL_does_52 : decode cL_does 52 = .ok (.invokestatic 36, 3) := by decide +kernel
theorem dL_does_55 : decode cL_does 55 = .ok (.tableswitch 285 0 18 #[89, 89, 96, 96, 96, 119, 119, 119, 119, 151, 151, 158, 158, 158, 165, 165, 174, 174, 183], 89) := by decide +kernel
theorem dL_does_144 : decode cL_does 144 = .ok (.aload_n 0, 1) := by decide +kernel
theorem dL_does_145 : decode cL_does 145 = .ok (.iload 5, 2) := by decide +kernel
theorem dL_does_147 : decode cL_does 147 = .ok (.invokevirtual 53, 3) := by decide +kernel
theorem dL_does_150 : decode cL_does 150 = .ok (.ireturn, 1) := by decide +kernel
theorem dL_does_151 : decode cL_does 151 = .ok (.aload_n 0, 1) := by decide +kernel
theorem dL_does_152 : decode cL_does 152 = .ok (.iload 7, 2) := by decide +kernel
theorem dL_does_154 : decode cL_does 154 = .ok (.ifCond .lt 14, 3) := by decide +kernel
theorem dL_does_157 : decode cL_does 157 = .ok (.iload_n 3, 1) := by decide +kernel
theorem dL_does_158 : decode cL_does 158 = .ok (.iconst 4, 1) := by decide +kernel
theorem dL_does_159 : decode cL_does 159 = .ok (.irem, 1) := by decide +kernel
theorem dL_does_160 : decode cL_does 160 = .ok (.ifCond .le 8, 3) := by decide +kernel
theorem dL_does_163 : decode cL_does 163 = .ok (.iload 7, 2) := by decide +kernel
theorem dL_does_165 : decode cL_does 165 = .ok (.goto 5, 3) := by decide +kernel
theorem dL_does_168 : decode cL_does 168 = .ok (.iload 5, 2) := by decide +kernel
theorem dL_does_170 : decode cL_does 170 = .ok (.invokevirtual 56, 3) := by decide +kernel
theorem dL_does_173 : decode cL_does 173 = .ok (.ireturn, 1) := by decide +kernel
theorem dL_does_174 : decode cL_does 174 = .ok (.aload_n 0, 1) := by decide +kernel
theorem dL_does_175 : decode cL_does 175 = .ok (.iload 7, 2) := by decide +kernel
theorem dL_does_177 : decode cL_does 177 = .ok (.ifCond .lt 14, 3) := by decide +kernel
theorem dL_does_180 : decode cL_does 180 = .ok (.iload_n 3, 1) := by decide +kernel
theorem dL_does_181 : decode cL_does 181 = .ok (.iconst 5, 1) := by decide +kernel
theorem dL_does_182 : decode cL_does 182 = .ok (.irem, 1) := by decide +kernel
theorem dL_does_183 : decode cL_does 183 = .ok (.ifCond .le 8, 3) := by decide +kernel
theorem dL_does_186 : decode cL_does 186 = .ok (.iload 7, 2) := by decide +kernel
theorem dL_does_188 : decode cL_does 188 = .ok (.goto 5, 3) := by decide +kernel
theorem dL_does_191 : decode cL_does 191 = .ok (.iload 5, 2) := by decide +kernel
theorem dL_does_193 : decode cL_does 193 = .ok (.bipush 97, 2) := by decide +kernel
theorem dL_does_195 : decode cL_does 195 = .ok (.iload 4, 2) := by decide +kernel
theorem dL_does_197 : decode cL_does 197 = .ok (.bipush 26, 2) := by decide +kernel
theorem dL_does_199 : decode cL_does 199 = .ok (.irem, 1) := by decide +kernel
theorem dL_does_200 : decode cL_does 200 = .ok (.iadd, 1) := by decide +kernel
theorem dL_does_201 : decode cL_does 201 = .ok (.i2c, 1) := by decide +kernel
theorem dL_does_202 : decode cL_does 202 = .ok (.invokevirtual 59, 3) := by decide +kernel
theorem dL_does_205 : decode cL_does 205 = .ok (.ireturn, 1) := by decide +kernel
theorem dL_does_206 : decode cL_does 206 = .ok (.aload_n 0, 1) := by decide +kernel
theorem dL_does_207 : decode cL_does 207 = .ok (.iload 5, 2) := by decide +kernel
theorem dL_does_209 : decode cL_does 209 = .ok (.invokevirtual 63, 3) := by decide +kernel
theorem dL_does_212 : decode cL_does 212 = .ok (.ireturn, 1) := by decide +kernel
theorem dL_does_213 : decode cL_does 213 = .ok (.aload_n 0, 1) := by decide +kernel
theorem dL_does_214 : decode cL_does 214 = .ok (.iload 5, 2) := by decide +kernel
theorem dL_does_216 : decode cL_does 216 = .ok (.invokevirtual 66, 3) := by decide +kernel
theorem dL_does_219 : decode cL_does 219 = .ok (.ireturn, 1) := by decide +kernel
theorem dL_does_220 : decode cL_does 220 = .ok (.aload_n 0, 1) := by decide +kernel
theorem dL_does_221 : decode cL_does 221 = .ok (.iload 5, 2) := by decide +kernel
theorem dL_does_223 : decode cL_does 223 = .ok (.iload 6, 2) := by decide +kernel
theorem dL_does_225 : decode cL_does 225 = .ok (.invokevirtual 69, 3) := by decide +kernel
theorem dL_does_228 : decode cL_does 228 = .ok (.ireturn, 1) := by decide +kernel
theorem dL_does_229 : decode cL_does 229 = .ok (.aload_n 0, 1) := by decide +kernel
theorem dL_does_230 : decode cL_does 230 = .ok (.iload 5, 2) := by decide +kernel
theorem dL_does_232 : decode cL_does 232 = .ok (.iload 6, 2) := by decide +kernel
theorem dL_does_234 : decode cL_does 234 = .ok (.invokevirtual 73, 3) := by decide +kernel
