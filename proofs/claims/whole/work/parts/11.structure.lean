/-! java.util.Arrays.fill, and FoldedStrand$Structure but for the energies: contracts. -/
abbrev bc_AR_fill : ByteArray := prog_11_method_103_code
abbrev yn_AR_fill : MethodName := ⟨"java/util/Arrays", "fill", "([II)V"⟩
theorem dc_AR_fill_0 : decode bc_AR_fill 0 = .ok (.iconst 0, 1) := by decide +kernel
theorem dc_AR_fill_1 : decode bc_AR_fill 1 = .ok (.istore_n 2, 1) := by decide +kernel
theorem dc_AR_fill_2 : decode bc_AR_fill 2 = .ok (.aload_n 0, 1) := by decide +kernel
theorem dc_AR_fill_3 : decode bc_AR_fill 3 = .ok (.arraylength, 1) := by decide +kernel
theorem dc_AR_fill_4 : decode bc_AR_fill 4 = .ok (.istore_n 3, 1) := by decide +kernel
theorem dc_AR_fill_5 : decode bc_AR_fill 5 = .ok (.iload_n 2, 1) := by decide +kernel
theorem dc_AR_fill_6 : decode bc_AR_fill 6 = .ok (.iload_n 3, 1) := by decide +kernel
theorem dc_AR_fill_7 : decode bc_AR_fill 7 = .ok (.if_icmp .ge 13, 3) := by decide +kernel
theorem dc_AR_fill_10 : decode bc_AR_fill 10 = .ok (.aload_n 0, 1) := by decide +kernel
theorem dc_AR_fill_11 : decode bc_AR_fill 11 = .ok (.iload_n 2, 1) := by decide +kernel
theorem dc_AR_fill_12 : decode bc_AR_fill 12 = .ok (.iload_n 1, 1) := by decide +kernel
theorem dc_AR_fill_13 : decode bc_AR_fill 13 = .ok (.iastore, 1) := by decide +kernel
theorem dc_AR_fill_14 : decode bc_AR_fill 14 = .ok (.iinc 2 1, 3) := by decide +kernel
theorem dc_AR_fill_17 : decode bc_AR_fill 17 = .ok (.goto (-12), 3) := by decide +kernel
theorem dc_AR_fill_20 : decode bc_AR_fill 20 = .ok (.return_, 1) := by decide +kernel
abbrev bc_SR_restart : ByteArray := prog_7_method_2_code
abbrev yn_SR_restart : MethodName := ⟨"FoldedStrand$Structure", "restart", "()V"⟩
theorem wl_SR_9 : Cond.fieldLink "FoldedStrand$Structure" 9 "FoldedStrand$Structure" "mates" "[I" ∈ jl_T := jl_T_of 161 (by decide +kernel) (by decide +kernel)
theorem vs_SR_29 : jl_v "FoldedStrand$Structure" 29 yn_AR_fill bc_AR_fill 4 none 2 := ⟨jl_T_of 160 (by decide +kernel) (by decide +kernel), jl_T_of 8 (by decide +kernel) (by decide +kernel), jl_T_of 158 (by decide +kernel) (by decide +kernel), by decide +kernel, by decide +kernel, by decide +kernel⟩
theorem vt_AR_fill : Cond.static yn_AR_fill ∈ jl_T := jl_T_of 159 (by decide +kernel) (by decide +kernel)
theorem wl_SR_35 : Cond.fieldLink "FoldedStrand$Structure" 35 "FoldedStrand$Structure" "openCount" "I" ∈ jl_T := jl_T_of 163 (by decide +kernel) (by decide +kernel)
theorem wl_SR_39 : Cond.fieldLink "FoldedStrand$Structure" 39 "FoldedStrand$Structure" "length" "I" ∈ jl_T := jl_T_of 164 (by decide +kernel) (by decide +kernel)
theorem wl_SR_42 : Cond.fieldLink "FoldedStrand$Structure" 42 "FoldedStrand$Structure" "pairs" "I" ∈ jl_T := jl_T_of 165 (by decide +kernel) (by decide +kernel)
theorem dc_SR_restart_0 : decode bc_SR_restart 0 = .ok (.aload_n 0, 1) := by decide +kernel
theorem dc_SR_restart_1 : decode bc_SR_restart 1 = .ok (.getfield 9, 3) := by decide +kernel
theorem dc_SR_restart_4 : decode bc_SR_restart 4 = .ok (.iconst (-1), 1) := by decide +kernel
theorem dc_SR_restart_5 : decode bc_SR_restart 5 = .ok (.invokestatic 29, 3) := by decide +kernel
theorem dc_SR_restart_8 : decode bc_SR_restart 8 = .ok (.aload_n 0, 1) := by decide +kernel
theorem dc_SR_restart_9 : decode bc_SR_restart 9 = .ok (.iconst 0, 1) := by decide +kernel
theorem dc_SR_restart_10 : decode bc_SR_restart 10 = .ok (.putfield 35, 3) := by decide +kernel
theorem dc_SR_restart_13 : decode bc_SR_restart 13 = .ok (.aload_n 0, 1) := by decide +kernel
theorem dc_SR_restart_14 : decode bc_SR_restart 14 = .ok (.iconst 0, 1) := by decide +kernel
theorem dc_SR_restart_15 : decode bc_SR_restart 15 = .ok (.putfield 39, 3) := by decide +kernel
theorem dc_SR_restart_18 : decode bc_SR_restart 18 = .ok (.aload_n 0, 1) := by decide +kernel
theorem dc_SR_restart_19 : decode bc_SR_restart 19 = .ok (.iconst 0, 1) := by decide +kernel
theorem dc_SR_restart_20 : decode bc_SR_restart 20 = .ok (.putfield 42, 3) := by decide +kernel
theorem dc_SR_restart_23 : decode bc_SR_restart 23 = .ok (.return_, 1) := by decide +kernel
abbrev bc_SR_pairCount : ByteArray := prog_7_method_6_code
abbrev yn_SR_pairCount : MethodName := ⟨"FoldedStrand$Structure", "pairCount", "()I"⟩
theorem dc_SR_pairCount_0 : decode bc_SR_pairCount 0 = .ok (.aload_n 0, 1) := by decide +kernel
theorem dc_SR_pairCount_1 : decode bc_SR_pairCount 1 = .ok (.getfield 42, 3) := by decide +kernel
theorem dc_SR_pairCount_4 : decode bc_SR_pairCount 4 = .ok (.ireturn, 1) := by decide +kernel
abbrev bc_SR_isPaired : ByteArray := prog_7_method_7_code
abbrev yn_SR_isPaired : MethodName := ⟨"FoldedStrand$Structure", "isPaired", "(I)Z"⟩
theorem dc_SR_isPaired_0 : decode bc_SR_isPaired 0 = .ok (.aload_n 0, 1) := by decide +kernel
theorem dc_SR_isPaired_1 : decode bc_SR_isPaired 1 = .ok (.getfield 9, 3) := by decide +kernel
theorem dc_SR_isPaired_4 : decode bc_SR_isPaired 4 = .ok (.iload_n 1, 1) := by decide +kernel
theorem dc_SR_isPaired_5 : decode bc_SR_isPaired 5 = .ok (.iaload, 1) := by decide +kernel
theorem dc_SR_isPaired_6 : decode bc_SR_isPaired 6 = .ok (.iconst (-1), 1) := by decide +kernel
theorem dc_SR_isPaired_7 : decode bc_SR_isPaired 7 = .ok (.if_icmp .eq 7, 3) := by decide +kernel
theorem dc_SR_isPaired_10 : decode bc_SR_isPaired 10 = .ok (.iconst 1, 1) := by decide +kernel
theorem dc_SR_isPaired_11 : decode bc_SR_isPaired 11 = .ok (.goto 4, 3) := by decide +kernel
theorem dc_SR_isPaired_14 : decode bc_SR_isPaired 14 = .ok (.iconst 0, 1) := by decide +kernel
theorem dc_SR_isPaired_15 : decode bc_SR_isPaired 15 = .ok (.ireturn, 1) := by decide +kernel
abbrev bc_SR_mateOf : ByteArray := prog_7_method_8_code
abbrev yn_SR_mateOf : MethodName := ⟨"FoldedStrand$Structure", "mateOf", "(I)I"⟩
theorem dc_SR_mateOf_0 : decode bc_SR_mateOf 0 = .ok (.aload_n 0, 1) := by decide +kernel
theorem dc_SR_mateOf_1 : decode bc_SR_mateOf 1 = .ok (.getfield 9, 3) := by decide +kernel
theorem dc_SR_mateOf_4 : decode bc_SR_mateOf 4 = .ok (.iload_n 1, 1) := by decide +kernel
theorem dc_SR_mateOf_5 : decode bc_SR_mateOf 5 = .ok (.iaload, 1) := by decide +kernel
theorem dc_SR_mateOf_6 : decode bc_SR_mateOf 6 = .ok (.ireturn, 1) := by decide +kernel
abbrev bc_SR_opensAt : ByteArray := prog_7_method_9_code
abbrev yn_SR_opensAt : MethodName := ⟨"FoldedStrand$Structure", "opensAt", "(I)Z"⟩
theorem dc_SR_opensAt_0 : decode bc_SR_opensAt 0 = .ok (.aload_n 0, 1) := by decide +kernel
theorem dc_SR_opensAt_1 : decode bc_SR_opensAt 1 = .ok (.getfield 9, 3) := by decide +kernel
theorem dc_SR_opensAt_4 : decode bc_SR_opensAt 4 = .ok (.iload_n 1, 1) := by decide +kernel
theorem dc_SR_opensAt_5 : decode bc_SR_opensAt 5 = .ok (.iaload, 1) := by decide +kernel
theorem dc_SR_opensAt_6 : decode bc_SR_opensAt 6 = .ok (.iload_n 1, 1) := by decide +kernel
theorem dc_SR_opensAt_7 : decode bc_SR_opensAt 7 = .ok (.if_icmp .le 7, 3) := by decide +kernel
theorem dc_SR_opensAt_10 : decode bc_SR_opensAt 10 = .ok (.iconst 1, 1) := by decide +kernel
theorem dc_SR_opensAt_11 : decode bc_SR_opensAt 11 = .ok (.goto 4, 3) := by decide +kernel
theorem dc_SR_opensAt_14 : decode bc_SR_opensAt 14 = .ok (.iconst 0, 1) := by decide +kernel
theorem dc_SR_opensAt_15 : decode bc_SR_opensAt 15 = .ok (.ireturn, 1) := by decide +kernel
abbrev bc_SR_isWhole : ByteArray := prog_7_method_5_code
abbrev yn_SR_isWhole : MethodName := ⟨"FoldedStrand$Structure", "isWhole", "()Z"⟩
theorem wl_SR_18 : Cond.fieldLink "FoldedStrand$Structure" 18 "FoldedStrand$Structure" "strand" "LFoldedStrand$Strand;" ∈ jl_T := jl_T_of 166 (by decide +kernel) (by decide +kernel)
theorem vs_SR_45 : jl_v "FoldedStrand$Structure" 45 yn_ST_size bc_ST_size 1 (some .int) 0 := ⟨jl_T_of 226 (by decide +kernel) (by decide +kernel), jl_T_of 2 (by decide +kernel) (by decide +kernel), jl_T_of 437 (by decide +kernel) (by decide +kernel), by decide +kernel, by decide +kernel, by decide +kernel⟩
theorem vi_ST_size : Cond.instanceMethod yn_ST_size ∈ jl_T := jl_T_of 224 (by decide +kernel) (by decide +kernel)
theorem vx_ST_size : Cond.selects "FoldedStrand$Strand" yn_ST_size yn_ST_size ∈ jl_T := jl_T_of 225 (by decide +kernel) (by decide +kernel)
theorem dc_SR_isWhole_0 : decode bc_SR_isWhole 0 = .ok (.aload_n 0, 1) := by decide +kernel
theorem dc_SR_isWhole_1 : decode bc_SR_isWhole 1 = .ok (.getfield 39, 3) := by decide +kernel
theorem dc_SR_isWhole_4 : decode bc_SR_isWhole 4 = .ok (.aload_n 0, 1) := by decide +kernel
theorem dc_SR_isWhole_5 : decode bc_SR_isWhole 5 = .ok (.getfield 18, 3) := by decide +kernel
theorem dc_SR_isWhole_8 : decode bc_SR_isWhole 8 = .ok (.invokevirtual 45, 3) := by decide +kernel
theorem dc_SR_isWhole_11 : decode bc_SR_isWhole 11 = .ok (.if_icmp .ne 14, 3) := by decide +kernel
theorem dc_SR_isWhole_14 : decode bc_SR_isWhole 14 = .ok (.aload_n 0, 1) := by decide +kernel
theorem dc_SR_isWhole_15 : decode bc_SR_isWhole 15 = .ok (.getfield 35, 3) := by decide +kernel
theorem dc_SR_isWhole_18 : decode bc_SR_isWhole 18 = .ok (.ifCond .ne 7, 3) := by decide +kernel
theorem dc_SR_isWhole_21 : decode bc_SR_isWhole 21 = .ok (.iconst 1, 1) := by decide +kernel
theorem dc_SR_isWhole_22 : decode bc_SR_isWhole 22 = .ok (.goto 4, 3) := by decide +kernel
theorem dc_SR_isWhole_25 : decode bc_SR_isWhole 25 = .ok (.iconst 0, 1) := by decide +kernel
theorem dc_SR_isWhole_26 : decode bc_SR_isWhole 26 = .ok (.ireturn, 1) := by decide +kernel
abbrev bc_SR_closeLast : ByteArray := prog_7_method_4_code
abbrev yn_SR_closeLast : MethodName := ⟨"FoldedStrand$Structure", "closeLast", "()Z"⟩
theorem wl_SR_15 : Cond.fieldLink "FoldedStrand$Structure" 15 "FoldedStrand$Structure" "opens" "[I" ∈ jl_T := jl_T_of 162 (by decide +kernel) (by decide +kernel)
theorem vs_SR_53 : jl_v "FoldedStrand$Structure" 53 yn_ST_canPair bc_ST_canPair 3 (some .boolean) 2 := ⟨jl_T_of 230 (by decide +kernel) (by decide +kernel), jl_T_of 2 (by decide +kernel) (by decide +kernel), jl_T_of 442 (by decide +kernel) (by decide +kernel), by decide +kernel, by decide +kernel, by decide +kernel⟩
theorem vi_ST_canPair : Cond.instanceMethod yn_ST_canPair ∈ jl_T := jl_T_of 228 (by decide +kernel) (by decide +kernel)
theorem vx_ST_canPair : Cond.selects "FoldedStrand$Strand" yn_ST_canPair yn_ST_canPair ∈ jl_T := jl_T_of 229 (by decide +kernel) (by decide +kernel)
theorem dc_SR_closeLast_0 : decode bc_SR_closeLast 0 = .ok (.aload_n 0, 1) := by decide +kernel
theorem dc_SR_closeLast_1 : decode bc_SR_closeLast 1 = .ok (.getfield 35, 3) := by decide +kernel
theorem dc_SR_closeLast_4 : decode bc_SR_closeLast 4 = .ok (.ifCond .gt 5, 3) := by decide +kernel
theorem dc_SR_closeLast_7 : decode bc_SR_closeLast 7 = .ok (.iconst 0, 1) := by decide +kernel
theorem dc_SR_closeLast_8 : decode bc_SR_closeLast 8 = .ok (.ireturn, 1) := by decide +kernel
theorem dc_SR_closeLast_9 : decode bc_SR_closeLast 9 = .ok (.aload_n 0, 1) := by decide +kernel
theorem dc_SR_closeLast_10 : decode bc_SR_closeLast 10 = .ok (.getfield 15, 3) := by decide +kernel
theorem dc_SR_closeLast_13 : decode bc_SR_closeLast 13 = .ok (.aload_n 0, 1) := by decide +kernel
theorem dc_SR_closeLast_14 : decode bc_SR_closeLast 14 = .ok (.getfield 35, 3) := by decide +kernel
theorem dc_SR_closeLast_17 : decode bc_SR_closeLast 17 = .ok (.iconst 1, 1) := by decide +kernel
theorem dc_SR_closeLast_18 : decode bc_SR_closeLast 18 = .ok (.isub, 1) := by decide +kernel
theorem dc_SR_closeLast_19 : decode bc_SR_closeLast 19 = .ok (.iaload, 1) := by decide +kernel
theorem dc_SR_closeLast_20 : decode bc_SR_closeLast 20 = .ok (.istore_n 1, 1) := by decide +kernel
theorem dc_SR_closeLast_21 : decode bc_SR_closeLast 21 = .ok (.aload_n 0, 1) := by decide +kernel
theorem dc_SR_closeLast_22 : decode bc_SR_closeLast 22 = .ok (.getfield 18, 3) := by decide +kernel
theorem dc_SR_closeLast_25 : decode bc_SR_closeLast 25 = .ok (.iload_n 1, 1) := by decide +kernel
theorem dc_SR_closeLast_26 : decode bc_SR_closeLast 26 = .ok (.aload_n 0, 1) := by decide +kernel
theorem dc_SR_closeLast_27 : decode bc_SR_closeLast 27 = .ok (.getfield 39, 3) := by decide +kernel
theorem dc_SR_closeLast_30 : decode bc_SR_closeLast 30 = .ok (.invokevirtual 53, 3) := by decide +kernel
theorem dc_SR_closeLast_33 : decode bc_SR_closeLast 33 = .ok (.ifCond .ne 5, 3) := by decide +kernel
theorem dc_SR_closeLast_36 : decode bc_SR_closeLast 36 = .ok (.iconst 0, 1) := by decide +kernel
theorem dc_SR_closeLast_37 : decode bc_SR_closeLast 37 = .ok (.ireturn, 1) := by decide +kernel
theorem dc_SR_closeLast_38 : decode bc_SR_closeLast 38 = .ok (.aload_n 0, 1) := by decide +kernel
theorem dc_SR_closeLast_39 : decode bc_SR_closeLast 39 = .ok (.dup, 1) := by decide +kernel
theorem dc_SR_closeLast_40 : decode bc_SR_closeLast 40 = .ok (.getfield 35, 3) := by decide +kernel
theorem dc_SR_closeLast_43 : decode bc_SR_closeLast 43 = .ok (.iconst 1, 1) := by decide +kernel
theorem dc_SR_closeLast_44 : decode bc_SR_closeLast 44 = .ok (.isub, 1) := by decide +kernel
theorem dc_SR_closeLast_45 : decode bc_SR_closeLast 45 = .ok (.putfield 35, 3) := by decide +kernel
theorem dc_SR_closeLast_48 : decode bc_SR_closeLast 48 = .ok (.aload_n 0, 1) := by decide +kernel
theorem dc_SR_closeLast_49 : decode bc_SR_closeLast 49 = .ok (.getfield 9, 3) := by decide +kernel
theorem dc_SR_closeLast_52 : decode bc_SR_closeLast 52 = .ok (.iload_n 1, 1) := by decide +kernel
theorem dc_SR_closeLast_53 : decode bc_SR_closeLast 53 = .ok (.aload_n 0, 1) := by decide +kernel
theorem dc_SR_closeLast_54 : decode bc_SR_closeLast 54 = .ok (.getfield 39, 3) := by decide +kernel
theorem dc_SR_closeLast_57 : decode bc_SR_closeLast 57 = .ok (.iastore, 1) := by decide +kernel
theorem dc_SR_closeLast_58 : decode bc_SR_closeLast 58 = .ok (.aload_n 0, 1) := by decide +kernel
theorem dc_SR_closeLast_59 : decode bc_SR_closeLast 59 = .ok (.getfield 9, 3) := by decide +kernel
theorem dc_SR_closeLast_62 : decode bc_SR_closeLast 62 = .ok (.aload_n 0, 1) := by decide +kernel
theorem dc_SR_closeLast_63 : decode bc_SR_closeLast 63 = .ok (.getfield 39, 3) := by decide +kernel
theorem dc_SR_closeLast_66 : decode bc_SR_closeLast 66 = .ok (.iload_n 1, 1) := by decide +kernel
theorem dc_SR_closeLast_67 : decode bc_SR_closeLast 67 = .ok (.iastore, 1) := by decide +kernel
theorem dc_SR_closeLast_68 : decode bc_SR_closeLast 68 = .ok (.aload_n 0, 1) := by decide +kernel
theorem dc_SR_closeLast_69 : decode bc_SR_closeLast 69 = .ok (.dup, 1) := by decide +kernel
theorem dc_SR_closeLast_70 : decode bc_SR_closeLast 70 = .ok (.getfield 42, 3) := by decide +kernel
theorem dc_SR_closeLast_73 : decode bc_SR_closeLast 73 = .ok (.iconst 1, 1) := by decide +kernel
theorem dc_SR_closeLast_74 : decode bc_SR_closeLast 74 = .ok (.iadd, 1) := by decide +kernel
theorem dc_SR_closeLast_75 : decode bc_SR_closeLast 75 = .ok (.putfield 42, 3) := by decide +kernel
theorem dc_SR_closeLast_78 : decode bc_SR_closeLast 78 = .ok (.iconst 1, 1) := by decide +kernel
theorem dc_SR_closeLast_79 : decode bc_SR_closeLast 79 = .ok (.ireturn, 1) := by decide +kernel
abbrev bc_SR_add : ByteArray := prog_7_method_3_code
abbrev yn_SR_add : MethodName := ⟨"FoldedStrand$Structure", "add", "(C)Z"⟩
theorem vs_SR_49 : jl_v "FoldedStrand$Structure" 49 yn_SR_closeLast bc_SR_closeLast 2 (some .boolean) 0 := ⟨jl_T_of 441 (by decide +kernel) (by decide +kernel), jl_T_of 7 (by decide +kernel) (by decide +kernel), jl_T_of 438 (by decide +kernel) (by decide +kernel), by decide +kernel, by decide +kernel, by decide +kernel⟩
theorem vi_SR_closeLast : Cond.instanceMethod yn_SR_closeLast ∈ jl_T := jl_T_of 440 (by decide +kernel) (by decide +kernel)
theorem vx_SR_closeLast : Cond.selects "FoldedStrand$Structure" yn_SR_closeLast yn_SR_closeLast ∈ jl_T := jl_T_sel 10 (by decide +kernel) (by decide +kernel)
theorem dc_SR_add_0 : decode bc_SR_add 0 = .ok (.aload_n 0, 1) := by decide +kernel
theorem dc_SR_add_1 : decode bc_SR_add 1 = .ok (.getfield 39, 3) := by decide +kernel
theorem dc_SR_add_4 : decode bc_SR_add 4 = .ok (.aload_n 0, 1) := by decide +kernel
theorem dc_SR_add_5 : decode bc_SR_add 5 = .ok (.getfield 18, 3) := by decide +kernel
theorem dc_SR_add_8 : decode bc_SR_add 8 = .ok (.invokevirtual 45, 3) := by decide +kernel
theorem dc_SR_add_11 : decode bc_SR_add 11 = .ok (.if_icmp .lt 5, 3) := by decide +kernel
theorem dc_SR_add_14 : decode bc_SR_add 14 = .ok (.iconst 0, 1) := by decide +kernel
theorem dc_SR_add_15 : decode bc_SR_add 15 = .ok (.ireturn, 1) := by decide +kernel
theorem dc_SR_add_16 : decode bc_SR_add 16 = .ok (.iload_n 1, 1) := by decide +kernel
theorem dc_SR_add_17 : decode bc_SR_add 17 = .ok (.bipush 40, 2) := by decide +kernel
theorem dc_SR_add_19 : decode bc_SR_add 19 = .ok (.if_icmp .ne 29, 3) := by decide +kernel
theorem dc_SR_add_22 : decode bc_SR_add 22 = .ok (.aload_n 0, 1) := by decide +kernel
theorem dc_SR_add_23 : decode bc_SR_add 23 = .ok (.getfield 15, 3) := by decide +kernel
theorem dc_SR_add_26 : decode bc_SR_add 26 = .ok (.aload_n 0, 1) := by decide +kernel
theorem dc_SR_add_27 : decode bc_SR_add 27 = .ok (.getfield 35, 3) := by decide +kernel
theorem dc_SR_add_30 : decode bc_SR_add 30 = .ok (.aload_n 0, 1) := by decide +kernel
theorem dc_SR_add_31 : decode bc_SR_add 31 = .ok (.getfield 39, 3) := by decide +kernel
theorem dc_SR_add_34 : decode bc_SR_add 34 = .ok (.iastore, 1) := by decide +kernel
theorem dc_SR_add_35 : decode bc_SR_add 35 = .ok (.aload_n 0, 1) := by decide +kernel
theorem dc_SR_add_36 : decode bc_SR_add 36 = .ok (.dup, 1) := by decide +kernel
theorem dc_SR_add_37 : decode bc_SR_add 37 = .ok (.getfield 35, 3) := by decide +kernel
theorem dc_SR_add_40 : decode bc_SR_add 40 = .ok (.iconst 1, 1) := by decide +kernel
theorem dc_SR_add_41 : decode bc_SR_add 41 = .ok (.iadd, 1) := by decide +kernel
theorem dc_SR_add_42 : decode bc_SR_add 42 = .ok (.putfield 35, 3) := by decide +kernel
theorem dc_SR_add_45 : decode bc_SR_add 45 = .ok (.goto 26, 3) := by decide +kernel
theorem dc_SR_add_48 : decode bc_SR_add 48 = .ok (.iload_n 1, 1) := by decide +kernel
theorem dc_SR_add_49 : decode bc_SR_add 49 = .ok (.bipush 41, 2) := by decide +kernel
theorem dc_SR_add_51 : decode bc_SR_add 51 = .ok (.if_icmp .ne 12, 3) := by decide +kernel
theorem dc_SR_add_54 : decode bc_SR_add 54 = .ok (.aload_n 0, 1) := by decide +kernel
theorem dc_SR_add_55 : decode bc_SR_add 55 = .ok (.invokevirtual 49, 3) := by decide +kernel
theorem dc_SR_add_58 : decode bc_SR_add 58 = .ok (.ifCond .ne 13, 3) := by decide +kernel
theorem dc_SR_add_61 : decode bc_SR_add 61 = .ok (.iconst 0, 1) := by decide +kernel
theorem dc_SR_add_62 : decode bc_SR_add 62 = .ok (.ireturn, 1) := by decide +kernel
theorem dc_SR_add_63 : decode bc_SR_add 63 = .ok (.iload_n 1, 1) := by decide +kernel
theorem dc_SR_add_64 : decode bc_SR_add 64 = .ok (.bipush 46, 2) := by decide +kernel
theorem dc_SR_add_66 : decode bc_SR_add 66 = .ok (.if_icmp .eq 5, 3) := by decide +kernel
theorem dc_SR_add_69 : decode bc_SR_add 69 = .ok (.iconst 0, 1) := by decide +kernel
theorem dc_SR_add_70 : decode bc_SR_add 70 = .ok (.ireturn, 1) := by decide +kernel
theorem dc_SR_add_71 : decode bc_SR_add 71 = .ok (.aload_n 0, 1) := by decide +kernel
theorem dc_SR_add_72 : decode bc_SR_add 72 = .ok (.dup, 1) := by decide +kernel
theorem dc_SR_add_73 : decode bc_SR_add 73 = .ok (.getfield 39, 3) := by decide +kernel
theorem dc_SR_add_76 : decode bc_SR_add 76 = .ok (.iconst 1, 1) := by decide +kernel
theorem dc_SR_add_77 : decode bc_SR_add 77 = .ok (.iadd, 1) := by decide +kernel
theorem dc_SR_add_78 : decode bc_SR_add 78 = .ok (.putfield 39, 3) := by decide +kernel
theorem dc_SR_add_81 : decode bc_SR_add 81 = .ok (.iconst 1, 1) := by decide +kernel
theorem dc_SR_add_82 : decode bc_SR_add 82 = .ok (.ireturn, 1) := by decide +kernel
theorem gw_at {K : Nat → ClassId} {ad : Nat → Nat} {I : Nat → Int32} {V : Nat → Nat → Int32} {L : Nat → Int64} {C : Nat → Int32} {G : Nat → Nat} {R : Nat → Nat} {k len : Nat} {f : Nat → Int32} (h : gw_i k = true) (hl : gw_len k = len) (hV : V k = f) : gw K ad I V L C G R k = .inl (K 0, len, .inl f) := by rw [gw_int h, hl, hV]
theorem sr_iI_le {a : Int} {i : Nat} (h1 : -1 ≤ a) (h2 : a < 18) (hi : i < 18) : iI a ≤ nI i ↔ a ≤ i := by
  rw [← iI_nat, iI_le (by omega) (by omega) (by omega) (by omega)]
theorem sr_iI_m1 {a : Int} (h1 : -1 ≤ a) (h2 : a < 18) : iI a = (-1 : Int32) ↔ a = -1 := by
  constructor
  · intro h
    have := congrArg Int32.toInt h
    rw [iI_toInt (by omega) (by omega)] at this
    exact this
  · intro h
    rw [h]
    rfl
section SR
variable (l : Launch) {K : Nat → ClassId} {sa : Nat → Nat} {N : Nat} {ad : Nat → Nat} {E : Nat → va_E}
theorem c_AR_fill {m len : Nat} (hm : m < N) {f : Nat → Int32} (hA : E m = .inl (K 0, len, .inl f)) (h31 : len < 2 ^ 31) (v : Int32) : jl_C l K sa yn_AR_fill bc_AR_fill 4 none 0 0 N ad [.ref (ad m), .int v] E none (va_up E m (.inl (K 0, len, .inl (fun _ => v)))) := by
  refine jl_enter (by decide) (Nat.le_of_ble_eq_true rfl) (fun x h he hr => ?_)
  show jl_J x N ad 0 0 E 0 [(0, .ref (ad m)), (1, .int v)] []
  have loop : ∀ d k : Nat, k + d = len → jl_J x N ad 0 0 (va_up E m (.inl (K 0, len, .inl (fun j => if j < k then v else f j)))) 5 [(3, .int (nI len)), (2, .int (nI k)), (0, .ref (ad m)), (1, .int v)] [] := by
    intro d
    induction d with
    | zero =>
      intro k hk
      have hk : k = len := by omega
      subst hk
      refine jl_normA (g := fun _ => v) (fun j hj => by simp [hj]) ?_
      refine jl_iload_n (i := 2) h rfl rfl dc_AR_fill_5 6 rfl ?_
      refine jl_iload_n (i := 3) h rfl rfl dc_AR_fill_6 7 rfl ?_
      refine jl_icmp_ge h 20 (by decide) dc_AR_fill_7 10 rfl (fun c7 => ?_) (fun c7 => absurd (nI_le (Nat.le_refl _) h31) c7)
      exact jl_vret h he (rfl) (rfl) dc_AR_fill_20
    | succ d ih =>
      intro k hk
      refine jl_iload_n (i := 2) h rfl rfl dc_AR_fill_5 6 rfl ?_
      refine jl_iload_n (i := 3) h rfl rfl dc_AR_fill_6 7 rfl ?_
      refine jl_icmp_ge h 20 (by decide) dc_AR_fill_7 10 rfl (fun c7 => absurd c7 (nI_ge (by omega) h31)) (fun c7 => ?_)
      refine jl_aload_n (i := 0) h rfl rfl dc_AR_fill_10 11 rfl ?_
      refine jl_iload_n (i := 2) h rfl rfl dc_AR_fill_11 12 rfl ?_
      refine jl_iload_n (i := 1) h rfl rfl dc_AR_fill_12 13 rfl ?_
      refine jl_iast h (k) (by exact rfl) (hm) (by exact va_up_self _ _ _) (by exact by omega) (by first | decide | assumption) dc_AR_fill_13 (rfl) 14 rfl ?_
      rw [bx_uu]
      refine jl_normA (g := fun j => if j < k + 1 then v else f j) (fun j hj => by
        unfold upd
        by_cases e : j = k
        · subst e; simp
        · by_cases e2 : j < k
          · simp [e, e2, Nat.lt_succ_of_lt e2]
          · simp [e, e2, show ¬ j < k + 1 by omega]) ?_
      refine jl_iinc (i := 2) (d := 1) (lc2 := [(2, _), (3, _), (0, _), (1, _)]) (v2 := nI (k + 1)) h (by decide) rfl (nI_1 k) rfl dc_AR_fill_14 17 rfl ?_
      refine jl_goto h 5 (by decide) dc_AR_fill_17 ?_
      refine jl_sub (lc2 := [(3, _), (2, _), (0, _), (1, _)]) [1, 0, 2, 3] rfl ?_
      exact ih (k + 1) (by omega)
  have h0 : va_up E m (.inl (K 0, len, .inl (fun j => if j < 0 then v else f j))) = E := by
    funext j
    unfold va_up
    split
    · rename_i e
      rw [e, hA]
      simp
    · rfl
  have h00 := loop len 0 (by omega)
  rw [h0] at h00
  refine jl_iconst (v := nI 0) h (by decide) dc_AR_fill_0 1 rfl ?_
  refine jl_istore_n (i := 2) (lc2 := [(2, _), (0, _), (1, _)]) h rfl (by decide) rfl dc_AR_fill_1 2 rfl ?_
  refine jl_aload_n (i := 0) h rfl rfl dc_AR_fill_2 3 rfl ?_
  refine jl_alen (t0 := 0) (v := nI len) h (hm) (by exact hA) (by rfl) (by exact rfl) dc_AR_fill_3 4 rfl ?_
  refine jl_istore_n (i := 3) (lc2 := [(3, _), (2, _), (0, _), (1, _)]) h rfl (by decide) rfl dc_AR_fill_4 5 rfl ?_
  exact h00
theorem c_SR1_restart (hN : 155 < N) {a c d : Int32} {f : Nat → Int32} (hSR : E 153 = .inr (6, [.ref (ad 154), .ref (ad 155), .int a, .int c, .int d, .ref (ad 1), .ref (ad 3)])) (hmates : E 154 = .inl (K 0, 18, .inl f)) : jl_C l K sa yn_SR_restart bc_SR_restart 1 none 1 25 N ad [.ref (ad 153)] E none (va_up (va_up E 154 (.inl (K 0, 18, .inl (fun _ => -1)))) 153 (.inr (6, [.ref (ad 154), .ref (ad 155), .int 0, .int 0, .int 0, .ref (ad 1), .ref (ad 3)]))) := by
  refine jl_enter (by decide) (Nat.le_of_ble_eq_true rfl) (fun x h he hr => ?_)
  show jl_J x N ad 0 0 E 0 [(0, .ref (ad 153))] []
  refine jl_aload_n (i := 0) h rfl rfl dc_SR_restart_0 1 rfl ?_
  refine jl_getf h nm_c_SR 0 wl_SR_9 (by omega) (by decide) (by exact hSR) (by rfl) dc_SR_restart_1 4 rfl ?_
  refine jl_iconst (v := -1) h (by decide) dc_SR_restart_4 5 rfl ?_
  refine jl_callS (As := [_, _]) (rest := []) h hr vs_SR_29 vt_AR_fill (fun l => c_AR_fill l (by omega) hmates (by decide) _) (by first | decide | omega) (by first | decide | omega) rfl rfl (Nat.le_of_ble_eq_true rfl) dc_SR_restart_5 (res := []) rfl 8 rfl ?_
  refine jl_aload_n (i := 0) h rfl rfl dc_SR_restart_8 9 rfl ?_
  refine jl_iconst (v := 0) h (by decide) dc_SR_restart_9 10 rfl ?_
  refine jl_putf (fs2 := [_, _, _, _, _, _, _]) h nm_c_SR 2 wl_SR_35 (by omega) (by decide) rfl (by exact hSR) (by rfl) (by rfl) (by exact Nat.le_of_ble_eq_true rfl) (by rfl) dc_SR_restart_10 rfl 13 rfl ?_
  refine jl_aload_n (i := 0) h rfl rfl dc_SR_restart_13 14 rfl ?_
  refine jl_iconst (v := 0) h (by decide) dc_SR_restart_14 15 rfl ?_
  refine jl_putf (fs2 := [_, _, _, _, _, _, _]) h nm_c_SR 3 wl_SR_39 (by omega) (by decide) rfl (by exact rfl) (by rfl) (by rfl) (by exact Nat.le_of_ble_eq_true rfl) (by rfl) dc_SR_restart_15 rfl 18 rfl ?_
  refine jl_aload_n (i := 0) h rfl rfl dc_SR_restart_18 19 rfl ?_
  refine jl_iconst (v := 0) h (by decide) dc_SR_restart_19 20 rfl ?_
  refine jl_putf (fs2 := [_, _, _, _, _, _, _]) h nm_c_SR 4 wl_SR_42 (by omega) (by decide) rfl (by exact rfl) (by rfl) (by rfl) (by exact Nat.le_of_ble_eq_true rfl) (by rfl) dc_SR_restart_20 rfl 23 rfl ?_
  exact jl_vret h he (rfl) (by rw [bx_uu, bx_uu]) dc_SR_restart_23
theorem c_SR2_restart (hN : 158 < N) {a c d : Int32} {f : Nat → Int32} (hSR : E 156 = .inr (6, [.ref (ad 157), .ref (ad 158), .int a, .int c, .int d, .ref (ad 1), .ref (ad 3)])) (hmates : E 157 = .inl (K 0, 18, .inl f)) : jl_C l K sa yn_SR_restart bc_SR_restart 1 none 1 25 N ad [.ref (ad 156)] E none (va_up (va_up E 157 (.inl (K 0, 18, .inl (fun _ => -1)))) 156 (.inr (6, [.ref (ad 157), .ref (ad 158), .int 0, .int 0, .int 0, .ref (ad 1), .ref (ad 3)]))) := by
  refine jl_enter (by decide) (Nat.le_of_ble_eq_true rfl) (fun x h he hr => ?_)
  show jl_J x N ad 0 0 E 0 [(0, .ref (ad 156))] []
  refine jl_aload_n (i := 0) h rfl rfl dc_SR_restart_0 1 rfl ?_
  refine jl_getf h nm_c_SR 0 wl_SR_9 (by omega) (by decide) (by exact hSR) (by rfl) dc_SR_restart_1 4 rfl ?_
  refine jl_iconst (v := -1) h (by decide) dc_SR_restart_4 5 rfl ?_
  refine jl_callS (As := [_, _]) (rest := []) h hr vs_SR_29 vt_AR_fill (fun l => c_AR_fill l (by omega) hmates (by decide) _) (by first | decide | omega) (by first | decide | omega) rfl rfl (Nat.le_of_ble_eq_true rfl) dc_SR_restart_5 (res := []) rfl 8 rfl ?_
  refine jl_aload_n (i := 0) h rfl rfl dc_SR_restart_8 9 rfl ?_
  refine jl_iconst (v := 0) h (by decide) dc_SR_restart_9 10 rfl ?_
  refine jl_putf (fs2 := [_, _, _, _, _, _, _]) h nm_c_SR 2 wl_SR_35 (by omega) (by decide) rfl (by exact hSR) (by rfl) (by rfl) (by exact Nat.le_of_ble_eq_true rfl) (by rfl) dc_SR_restart_10 rfl 13 rfl ?_
  refine jl_aload_n (i := 0) h rfl rfl dc_SR_restart_13 14 rfl ?_
  refine jl_iconst (v := 0) h (by decide) dc_SR_restart_14 15 rfl ?_
  refine jl_putf (fs2 := [_, _, _, _, _, _, _]) h nm_c_SR 3 wl_SR_39 (by omega) (by decide) rfl (by exact rfl) (by rfl) (by rfl) (by exact Nat.le_of_ble_eq_true rfl) (by rfl) dc_SR_restart_15 rfl 18 rfl ?_
  refine jl_aload_n (i := 0) h rfl rfl dc_SR_restart_18 19 rfl ?_
  refine jl_iconst (v := 0) h (by decide) dc_SR_restart_19 20 rfl ?_
  refine jl_putf (fs2 := [_, _, _, _, _, _, _]) h nm_c_SR 4 wl_SR_42 (by omega) (by decide) rfl (by exact rfl) (by rfl) (by rfl) (by exact Nat.le_of_ble_eq_true rfl) (by rfl) dc_SR_restart_20 rfl 23 rfl ?_
  exact jl_vret h he (rfl) (by rw [bx_uu, bx_uu]) dc_SR_restart_23
variable {I : Nat → Int32} {V : Nat → Nat → Int32} {L : Nat → Int64} {C : Nat → Int32} {G : Nat → Nat} {R : Nat → Nat} {n : Nat} {b : Nat → Nat} {w : Nat → Int} {f : Nat → Nat}
theorem c_SR1_pairCount : jl_C l K sa yn_SR_pairCount bc_SR_pairCount 1 (some .int) 0 0 168 ad [.ref (ad 153)] (gw K ad I V L C G R) (some (.int (I 6))) (gw K ad I V L C G R) := by
  refine jl_enter (by decide) (Nat.le_of_ble_eq_true rfl) (fun x h he hr => ?_)
  show jl_J x 168 ad 0 0 (gw K ad I V L C G R) 0 [(0, .ref (ad 153))] []
  refine jl_aload_n (i := 0) h rfl rfl dc_SR_pairCount_0 1 rfl ?_
  refine jl_getf h nm_c_SR 4 wl_SR_42 (by omega) (by decide) (by exact rfl) (by rfl) dc_SR_pairCount_1 4 rfl ?_
  exact jl_zret h he rfl (rfl) (rfl) dc_SR_pairCount_4
theorem c_SR1_mateOf (hV : V 154 = fun i => iI (w i)) {i : Nat} (hi : i < 18) : jl_C l K sa yn_SR_mateOf bc_SR_mateOf 2 (some .int) 0 0 168 ad [.ref (ad 153), .int (nI i)] (gw K ad I V L C G R) (some (.int (iI (w i)))) (gw K ad I V L C G R) := by
  refine jl_enter (by decide) (Nat.le_of_ble_eq_true rfl) (fun x h he hr => ?_)
  show jl_J x 168 ad 0 0 (gw K ad I V L C G R) 0 [(0, .ref (ad 153)), (1, .int (nI i))] []
  refine jl_aload_n (i := 0) h rfl rfl dc_SR_mateOf_0 1 rfl ?_
  refine jl_getf h nm_c_SR 0 wl_SR_9 (by omega) (by decide) (by exact rfl) (by rfl) dc_SR_mateOf_1 4 rfl ?_
  refine jl_iload_n (i := 1) h rfl rfl dc_SR_mateOf_4 5 rfl ?_
  refine jl_iald (v := iI (w i)) h (i) (by exact rfl) (by omega) (by exact gw_at rfl rfl hV) (by exact hi) (by first | decide | assumption) (by exact rfl) dc_SR_mateOf_5 6 rfl ?_
  exact jl_zret h he rfl (rfl) (rfl) dc_SR_mateOf_6
theorem c_SR1_isPaired (hV : V 154 = fun i => iI (w i)) {i : Nat} (hi : i < 18) (h1 : -1 ≤ w i) (h2 : w i < 18) : jl_C l K sa yn_SR_isPaired bc_SR_isPaired 2 (some .boolean) 0 0 168 ad [.ref (ad 153), .int (nI i)] (gw K ad I V L C G R) (some (.int (st_bI (decide (w i ≠ -1))))) (gw K ad I V L C G R) := by
  refine jl_enter (by decide) (Nat.le_of_ble_eq_true rfl) (fun x h he hr => ?_)
  show jl_J x 168 ad 0 0 (gw K ad I V L C G R) 0 [(0, .ref (ad 153)), (1, .int (nI i))] []
  refine jl_aload_n (i := 0) h rfl rfl dc_SR_isPaired_0 1 rfl ?_
  refine jl_getf h nm_c_SR 0 wl_SR_9 (by omega) (by decide) (by exact rfl) (by rfl) dc_SR_isPaired_1 4 rfl ?_
  refine jl_iload_n (i := 1) h rfl rfl dc_SR_isPaired_4 5 rfl ?_
  refine jl_iald (v := iI (w i)) h (i) (by exact rfl) (by omega) (by exact gw_at rfl rfl hV) (by exact hi) (by first | decide | assumption) (by exact rfl) dc_SR_isPaired_5 6 rfl ?_
  refine jl_iconst (v := -1) h (by decide) dc_SR_isPaired_6 7 rfl ?_
  refine jl_icmp_eq h 14 (by decide) dc_SR_isPaired_7 10 rfl (fun c7 => ?_) (fun c7 => ?_)
  · skip
    rw [sr_iI_m1 h1 h2] at c7
    refine jl_iconst (v := 0) h (by decide) dc_SR_isPaired_14 15 rfl ?_
    exact jl_zret h he rfl (by simp [st_bI, c7]) (rfl) dc_SR_isPaired_15
  · skip
    rw [sr_iI_m1 h1 h2] at c7
    refine jl_iconst (v := 1) h (by decide) dc_SR_isPaired_10 11 rfl ?_
    refine jl_goto h 15 (by decide) dc_SR_isPaired_11 ?_
    exact jl_zret h he rfl (by simp [st_bI, c7]) (rfl) dc_SR_isPaired_15
theorem c_SR1_opensAt (hV : V 154 = fun i => iI (w i)) {i : Nat} (hi : i < 18) (h1 : -1 ≤ w i) (h2 : w i < 18) : jl_C l K sa yn_SR_opensAt bc_SR_opensAt 2 (some .boolean) 0 0 168 ad [.ref (ad 153), .int (nI i)] (gw K ad I V L C G R) (some (.int (st_bI (decide ((i : Int) < w i))))) (gw K ad I V L C G R) := by
  refine jl_enter (by decide) (Nat.le_of_ble_eq_true rfl) (fun x h he hr => ?_)
  show jl_J x 168 ad 0 0 (gw K ad I V L C G R) 0 [(0, .ref (ad 153)), (1, .int (nI i))] []
  refine jl_aload_n (i := 0) h rfl rfl dc_SR_opensAt_0 1 rfl ?_
  refine jl_getf h nm_c_SR 0 wl_SR_9 (by omega) (by decide) (by exact rfl) (by rfl) dc_SR_opensAt_1 4 rfl ?_
  refine jl_iload_n (i := 1) h rfl rfl dc_SR_opensAt_4 5 rfl ?_
  refine jl_iald (v := iI (w i)) h (i) (by exact rfl) (by omega) (by exact gw_at rfl rfl hV) (by exact hi) (by first | decide | assumption) (by exact rfl) dc_SR_opensAt_5 6 rfl ?_
  refine jl_iload_n (i := 1) h rfl rfl dc_SR_opensAt_6 7 rfl ?_
  refine jl_icmp_le h 14 (by decide) dc_SR_opensAt_7 10 rfl (fun c7 => ?_) (fun c7 => ?_)
  · skip
    rw [sr_iI_le h1 h2 hi] at c7
    refine jl_iconst (v := 0) h (by decide) dc_SR_opensAt_14 15 rfl ?_
    exact jl_zret h he rfl (by simp [st_bI]; omega) (rfl) dc_SR_opensAt_15
  · skip
    rw [sr_iI_le h1 h2 hi] at c7
    refine jl_iconst (v := 1) h (by decide) dc_SR_opensAt_10 11 rfl ?_
    refine jl_goto h 15 (by decide) dc_SR_opensAt_11 ?_
    exact jl_zret h he rfl (by simp [st_bI]; omega) (rfl) dc_SR_opensAt_15
theorem c_SR1_isWhole (hS : st_ok K ad (gw K ad I V L C G R) n b) {oc ln : Nat} (hoc : I 4 = nI oc) (hln : I 5 = nI ln) (h1 : oc < 40) (h2 : ln < 40) : jl_C l K sa yn_SR_isWhole bc_SR_isWhole 1 (some .boolean) 1 25 168 ad [.ref (ad 153)] (gw K ad I V L C G R) (some (.int (st_bI (decide (ln = n ∧ oc = 0))))) (gw K ad I V L C G R) := by
  refine jl_enter (by decide) (Nat.le_of_ble_eq_true rfl) (fun x h he hr => ?_)
  obtain ⟨hST, hbases, hn, hb⟩ := id hS
  have hSR : gw K ad I V L C G R 153 = .inr (6, [.ref (ad 154), .ref (ad 155), .int (nI oc), .int (nI ln), .int (I 6), .ref (ad 1), .ref (ad 3)]) := by rw [← hoc, ← hln]; rfl
  have z0 : (0 : Int32) = nI 0 := rfl
  show jl_J x 168 ad 0 0 (gw K ad I V L C G R) 0 [(0, .ref (ad 153))] []
  refine jl_aload_n (i := 0) h rfl rfl dc_SR_isWhole_0 1 rfl ?_
  refine jl_getf h nm_c_SR 3 wl_SR_39 (by omega) (by decide) (by exact hSR) (by rfl) dc_SR_isWhole_1 4 rfl ?_
  refine jl_aload_n (i := 0) h rfl rfl dc_SR_isWhole_4 5 rfl ?_
  refine jl_getf h nm_c_SR 5 wl_SR_18 (by omega) (by decide) (by exact hSR) (by rfl) dc_SR_isWhole_5 8 rfl ?_
  refine jl_callV (As := []) (rest := [_]) h hr vs_SR_45 vi_ST_size vx_ST_size (ci := 1) rfl (by omega) (by exact hST) (fun l => c_ST_size l (by omega) hS) (by first | decide | omega) (by first | decide | omega) rfl rfl (Nat.le_of_ble_eq_true rfl) dc_SR_isWhole_8 (res := [_, _]) rfl 11 rfl ?_
  refine jl_icmp_ne h 25 (by decide) dc_SR_isWhole_11 14 rfl (fun c11 => ?_) (fun c11 => ?_)
  · skip
    rw [nI_eq (by omega) (by omega)] at c11
    refine jl_iconst (v := 0) h (by decide) dc_SR_isWhole_25 26 rfl ?_
    exact jl_zret h he rfl (by simp [st_bI]; omega) (rfl) dc_SR_isWhole_26
  · skip
    rw [nI_eq (by omega) (by omega)] at c11
    refine jl_aload_n (i := 0) h rfl rfl dc_SR_isWhole_14 15 rfl ?_
    refine jl_getf h nm_c_SR 2 wl_SR_35 (by omega) (by decide) (by exact hSR) (by rfl) dc_SR_isWhole_15 18 rfl ?_
    refine jl_if_ne h 25 (by decide) dc_SR_isWhole_18 21 rfl (fun c18 => ?_) (fun c18 => ?_)
    · skip
      rw [z0, nI_eq (by omega) (by decide)] at c18
      refine jl_iconst (v := 0) h (by decide) dc_SR_isWhole_25 26 rfl ?_
      exact jl_zret h he rfl (by simp [st_bI]; omega) (rfl) dc_SR_isWhole_26
    · skip
      rw [z0, nI_eq (by omega) (by decide)] at c18
      refine jl_iconst (v := 1) h (by decide) dc_SR_isWhole_21 22 rfl ?_
      refine jl_goto h 26 (by decide) dc_SR_isWhole_22 ?_
      exact jl_zret h he rfl (by simp [st_bI]; omega) (rfl) dc_SR_isWhole_26
theorem c_SR2_pairCount : jl_C l K sa yn_SR_pairCount bc_SR_pairCount 1 (some .int) 0 0 168 ad [.ref (ad 156)] (gw K ad I V L C G R) (some (.int (I 9))) (gw K ad I V L C G R) := by
  refine jl_enter (by decide) (Nat.le_of_ble_eq_true rfl) (fun x h he hr => ?_)
  show jl_J x 168 ad 0 0 (gw K ad I V L C G R) 0 [(0, .ref (ad 156))] []
  refine jl_aload_n (i := 0) h rfl rfl dc_SR_pairCount_0 1 rfl ?_
  refine jl_getf h nm_c_SR 4 wl_SR_42 (by omega) (by decide) (by exact rfl) (by rfl) dc_SR_pairCount_1 4 rfl ?_
  exact jl_zret h he rfl (rfl) (rfl) dc_SR_pairCount_4
theorem c_SR2_mateOf (hV : V 157 = fun i => iI (w i)) {i : Nat} (hi : i < 18) : jl_C l K sa yn_SR_mateOf bc_SR_mateOf 2 (some .int) 0 0 168 ad [.ref (ad 156), .int (nI i)] (gw K ad I V L C G R) (some (.int (iI (w i)))) (gw K ad I V L C G R) := by
  refine jl_enter (by decide) (Nat.le_of_ble_eq_true rfl) (fun x h he hr => ?_)
  show jl_J x 168 ad 0 0 (gw K ad I V L C G R) 0 [(0, .ref (ad 156)), (1, .int (nI i))] []
  refine jl_aload_n (i := 0) h rfl rfl dc_SR_mateOf_0 1 rfl ?_
  refine jl_getf h nm_c_SR 0 wl_SR_9 (by omega) (by decide) (by exact rfl) (by rfl) dc_SR_mateOf_1 4 rfl ?_
  refine jl_iload_n (i := 1) h rfl rfl dc_SR_mateOf_4 5 rfl ?_
  refine jl_iald (v := iI (w i)) h (i) (by exact rfl) (by omega) (by exact gw_at rfl rfl hV) (by exact hi) (by first | decide | assumption) (by exact rfl) dc_SR_mateOf_5 6 rfl ?_
  exact jl_zret h he rfl (rfl) (rfl) dc_SR_mateOf_6
theorem c_SR2_isPaired (hV : V 157 = fun i => iI (w i)) {i : Nat} (hi : i < 18) (h1 : -1 ≤ w i) (h2 : w i < 18) : jl_C l K sa yn_SR_isPaired bc_SR_isPaired 2 (some .boolean) 0 0 168 ad [.ref (ad 156), .int (nI i)] (gw K ad I V L C G R) (some (.int (st_bI (decide (w i ≠ -1))))) (gw K ad I V L C G R) := by
  refine jl_enter (by decide) (Nat.le_of_ble_eq_true rfl) (fun x h he hr => ?_)
  show jl_J x 168 ad 0 0 (gw K ad I V L C G R) 0 [(0, .ref (ad 156)), (1, .int (nI i))] []
  refine jl_aload_n (i := 0) h rfl rfl dc_SR_isPaired_0 1 rfl ?_
  refine jl_getf h nm_c_SR 0 wl_SR_9 (by omega) (by decide) (by exact rfl) (by rfl) dc_SR_isPaired_1 4 rfl ?_
  refine jl_iload_n (i := 1) h rfl rfl dc_SR_isPaired_4 5 rfl ?_
  refine jl_iald (v := iI (w i)) h (i) (by exact rfl) (by omega) (by exact gw_at rfl rfl hV) (by exact hi) (by first | decide | assumption) (by exact rfl) dc_SR_isPaired_5 6 rfl ?_
  refine jl_iconst (v := -1) h (by decide) dc_SR_isPaired_6 7 rfl ?_
  refine jl_icmp_eq h 14 (by decide) dc_SR_isPaired_7 10 rfl (fun c7 => ?_) (fun c7 => ?_)
  · skip
    rw [sr_iI_m1 h1 h2] at c7
    refine jl_iconst (v := 0) h (by decide) dc_SR_isPaired_14 15 rfl ?_
    exact jl_zret h he rfl (by simp [st_bI, c7]) (rfl) dc_SR_isPaired_15
  · skip
    rw [sr_iI_m1 h1 h2] at c7
    refine jl_iconst (v := 1) h (by decide) dc_SR_isPaired_10 11 rfl ?_
    refine jl_goto h 15 (by decide) dc_SR_isPaired_11 ?_
    exact jl_zret h he rfl (by simp [st_bI, c7]) (rfl) dc_SR_isPaired_15
theorem c_SR2_opensAt (hV : V 157 = fun i => iI (w i)) {i : Nat} (hi : i < 18) (h1 : -1 ≤ w i) (h2 : w i < 18) : jl_C l K sa yn_SR_opensAt bc_SR_opensAt 2 (some .boolean) 0 0 168 ad [.ref (ad 156), .int (nI i)] (gw K ad I V L C G R) (some (.int (st_bI (decide ((i : Int) < w i))))) (gw K ad I V L C G R) := by
  refine jl_enter (by decide) (Nat.le_of_ble_eq_true rfl) (fun x h he hr => ?_)
  show jl_J x 168 ad 0 0 (gw K ad I V L C G R) 0 [(0, .ref (ad 156)), (1, .int (nI i))] []
  refine jl_aload_n (i := 0) h rfl rfl dc_SR_opensAt_0 1 rfl ?_
  refine jl_getf h nm_c_SR 0 wl_SR_9 (by omega) (by decide) (by exact rfl) (by rfl) dc_SR_opensAt_1 4 rfl ?_
  refine jl_iload_n (i := 1) h rfl rfl dc_SR_opensAt_4 5 rfl ?_
  refine jl_iald (v := iI (w i)) h (i) (by exact rfl) (by omega) (by exact gw_at rfl rfl hV) (by exact hi) (by first | decide | assumption) (by exact rfl) dc_SR_opensAt_5 6 rfl ?_
  refine jl_iload_n (i := 1) h rfl rfl dc_SR_opensAt_6 7 rfl ?_
  refine jl_icmp_le h 14 (by decide) dc_SR_opensAt_7 10 rfl (fun c7 => ?_) (fun c7 => ?_)
  · skip
    rw [sr_iI_le h1 h2 hi] at c7
    refine jl_iconst (v := 0) h (by decide) dc_SR_opensAt_14 15 rfl ?_
    exact jl_zret h he rfl (by simp [st_bI]; omega) (rfl) dc_SR_opensAt_15
  · skip
    rw [sr_iI_le h1 h2 hi] at c7
    refine jl_iconst (v := 1) h (by decide) dc_SR_opensAt_10 11 rfl ?_
    refine jl_goto h 15 (by decide) dc_SR_opensAt_11 ?_
    exact jl_zret h he rfl (by simp [st_bI]; omega) (rfl) dc_SR_opensAt_15
theorem c_SR2_isWhole (hS : st_ok K ad (gw K ad I V L C G R) n b) {oc ln : Nat} (hoc : I 7 = nI oc) (hln : I 8 = nI ln) (h1 : oc < 40) (h2 : ln < 40) : jl_C l K sa yn_SR_isWhole bc_SR_isWhole 1 (some .boolean) 1 25 168 ad [.ref (ad 156)] (gw K ad I V L C G R) (some (.int (st_bI (decide (ln = n ∧ oc = 0))))) (gw K ad I V L C G R) := by
  refine jl_enter (by decide) (Nat.le_of_ble_eq_true rfl) (fun x h he hr => ?_)
  obtain ⟨hST, hbases, hn, hb⟩ := id hS
  have hSR : gw K ad I V L C G R 156 = .inr (6, [.ref (ad 157), .ref (ad 158), .int (nI oc), .int (nI ln), .int (I 9), .ref (ad 1), .ref (ad 3)]) := by rw [← hoc, ← hln]; rfl
  have z0 : (0 : Int32) = nI 0 := rfl
  show jl_J x 168 ad 0 0 (gw K ad I V L C G R) 0 [(0, .ref (ad 156))] []
  refine jl_aload_n (i := 0) h rfl rfl dc_SR_isWhole_0 1 rfl ?_
  refine jl_getf h nm_c_SR 3 wl_SR_39 (by omega) (by decide) (by exact hSR) (by rfl) dc_SR_isWhole_1 4 rfl ?_
  refine jl_aload_n (i := 0) h rfl rfl dc_SR_isWhole_4 5 rfl ?_
  refine jl_getf h nm_c_SR 5 wl_SR_18 (by omega) (by decide) (by exact hSR) (by rfl) dc_SR_isWhole_5 8 rfl ?_
  refine jl_callV (As := []) (rest := [_]) h hr vs_SR_45 vi_ST_size vx_ST_size (ci := 1) rfl (by omega) (by exact hST) (fun l => c_ST_size l (by omega) hS) (by first | decide | omega) (by first | decide | omega) rfl rfl (Nat.le_of_ble_eq_true rfl) dc_SR_isWhole_8 (res := [_, _]) rfl 11 rfl ?_
  refine jl_icmp_ne h 25 (by decide) dc_SR_isWhole_11 14 rfl (fun c11 => ?_) (fun c11 => ?_)
  · skip
    rw [nI_eq (by omega) (by omega)] at c11
    refine jl_iconst (v := 0) h (by decide) dc_SR_isWhole_25 26 rfl ?_
    exact jl_zret h he rfl (by simp [st_bI]; omega) (rfl) dc_SR_isWhole_26
  · skip
    rw [nI_eq (by omega) (by omega)] at c11
    refine jl_aload_n (i := 0) h rfl rfl dc_SR_isWhole_14 15 rfl ?_
    refine jl_getf h nm_c_SR 2 wl_SR_35 (by omega) (by decide) (by exact hSR) (by rfl) dc_SR_isWhole_15 18 rfl ?_
    refine jl_if_ne h 25 (by decide) dc_SR_isWhole_18 21 rfl (fun c18 => ?_) (fun c18 => ?_)
    · skip
      rw [z0, nI_eq (by omega) (by decide)] at c18
      refine jl_iconst (v := 0) h (by decide) dc_SR_isWhole_25 26 rfl ?_
      exact jl_zret h he rfl (by simp [st_bI]; omega) (rfl) dc_SR_isWhole_26
    · skip
      rw [z0, nI_eq (by omega) (by decide)] at c18
      refine jl_iconst (v := 1) h (by decide) dc_SR_isWhole_21 22 rfl ?_
      refine jl_goto h 26 (by decide) dc_SR_isWhole_22 ?_
      exact jl_zret h he rfl (by simp [st_bI]; omega) (rfl) dc_SR_isWhole_26
end SR

