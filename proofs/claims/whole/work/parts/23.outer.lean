/-! NearList.collect, and the simple methods of FoldedStrand. -/
theorem nl_t0_in : ∀ n, n < 19 → 0 ≤ nl_t0 n ∧ nl_t0 n ≤ 68719476736 := by decide +kernel
/-- what the search brings for a delta -/
def nl_res (b : Nat → Nat) (n : Nat) (lim : Int) : List Int × Bool := nl_run lim ([], false) (nl_F b 38 none [(0, 0, n)] 0 (nl_t0 n))
/-- a list in the object -/
def nl_li (ks : List Int) (I : Nat → Int32) (L : Nat → Int64) : Prop := I 1 = nI ks.length ∧ nl_K ks L ∧ ks.length ≤ 150 ∧ ks.Pairwise (· ≤ ·) ∧ ∀ z ∈ ks, nl_big z
section GWS
variable {K : Nat → ClassId} {ad : Nat → Nat} {I : Nat → Int32} {V : Nat → Nat → Int32} {L : Nat → Int64} {C : Nat → Int32} {G : Nat → Nat} {R : Nat → Nat}
theorem gw_set_sr1 (u v w : Int32) : va_up (gw K ad I V L C G R) 153 (.inr (6, [.ref (ad 154), .ref (ad 155), .int u, .int v, .int w, .ref (ad 1), .ref (ad 3)])) = gw K ad (va_up (va_up (va_up I 4 u) 5 v) 6 w) V L C G R := by
  funext j
  by_cases hj : j = 153
  · subst hj
    rfl
  · rw [va_up_ne _ _ hj]
    simp only [gw, if_neg hj]
    all_goals rfl
theorem gw_set_sr2 (u v w : Int32) : va_up (gw K ad I V L C G R) 156 (.inr (6, [.ref (ad 157), .ref (ad 158), .int u, .int v, .int w, .ref (ad 1), .ref (ad 3)])) = gw K ad (va_up (va_up (va_up I 7 u) 8 v) 9 w) V L C G R := by
  funext j
  by_cases hj : j = 156
  · subst hj
    rfl
  · rw [va_up_ne _ _ hj]
    simp only [gw, if_neg hj]
    all_goals rfl
end GWS
abbrev bc_NL_collect : ByteArray := prog_4_method_7_code
abbrev yn_NL_collect : MethodName := ⟨"FoldedStrand$NearList", "collect", "(I)Z"⟩
theorem vs_NL_61 : jl_v "FoldedStrand$NearList" 61 yn_FO_leastEnergy bc_FO_leastEnergy 1 (some .int) 0 := ⟨jl_T_of 344 (by decide +kernel) (by decide +kernel), jl_T_of 4 (by decide +kernel) (by decide +kernel), jl_T_of 361 (by decide +kernel) (by decide +kernel), by decide +kernel, by decide +kernel, by decide +kernel⟩
theorem vi_FO_leastEnergy : Cond.instanceMethod yn_FO_leastEnergy ∈ jl_T := jl_T_of 342 (by decide +kernel) (by decide +kernel)
theorem vx_FO_leastEnergy : Cond.selects "FoldedStrand$Folds" yn_FO_leastEnergy yn_FO_leastEnergy ∈ jl_T := jl_T_of 343 (by decide +kernel) (by decide +kernel)
theorem wl_NL_51 : Cond.fieldLink "FoldedStrand$NearList" 51 "FoldedStrand$Folds" "outside" "LFoldedStrand$Region;" ∈ jl_T := jl_T_of 78 (by decide +kernel) (by decide +kernel)
theorem vs_NL_72 : jl_v "FoldedStrand$NearList" 72 yn_NL_textWithoutPairs bc_NL_textWithoutPairs 4 (some .long) 0 := ⟨jl_T_of 370 (by decide +kernel) (by decide +kernel), jl_T_of 6 (by decide +kernel) (by decide +kernel), jl_T_of 367 (by decide +kernel) (by decide +kernel), by decide +kernel, by decide +kernel, by decide +kernel⟩
theorem vi_NL_textWithoutPairs : Cond.instanceMethod yn_NL_textWithoutPairs ∈ jl_T := jl_T_of 369 (by decide +kernel) (by decide +kernel)
theorem vx_NL_textWithoutPairs : Cond.selects "FoldedStrand$NearList" yn_NL_textWithoutPairs yn_NL_textWithoutPairs ∈ jl_T := jl_T_sel 6 (by decide +kernel) (by decide +kernel)
theorem dc_NL_collect_0 : decode bc_NL_collect 0 = .ok (.aload_n 0, 1) := by decide +kernel
theorem dc_NL_collect_1 : decode bc_NL_collect 1 = .ok (.iconst 0, 1) := by decide +kernel
theorem dc_NL_collect_2 : decode bc_NL_collect 2 = .ok (.putfield 15, 3) := by decide +kernel
theorem dc_NL_collect_5 : decode bc_NL_collect 5 = .ok (.aload_n 0, 1) := by decide +kernel
theorem dc_NL_collect_6 : decode bc_NL_collect 6 = .ok (.iconst 0, 1) := by decide +kernel
theorem dc_NL_collect_7 : decode bc_NL_collect 7 = .ok (.putfield 19, 3) := by decide +kernel
theorem dc_NL_collect_10 : decode bc_NL_collect 10 = .ok (.aload_n 0, 1) := by decide +kernel
theorem dc_NL_collect_11 : decode bc_NL_collect 11 = .ok (.aload_n 0, 1) := by decide +kernel
theorem dc_NL_collect_12 : decode bc_NL_collect 12 = .ok (.getfield 47, 3) := by decide +kernel
theorem dc_NL_collect_15 : decode bc_NL_collect 15 = .ok (.invokevirtual 61, 3) := by decide +kernel
theorem dc_NL_collect_18 : decode bc_NL_collect 18 = .ok (.iload_n 1, 1) := by decide +kernel
theorem dc_NL_collect_19 : decode bc_NL_collect 19 = .ok (.iadd, 1) := by decide +kernel
theorem dc_NL_collect_20 : decode bc_NL_collect 20 = .ok (.putfield 23, 3) := by decide +kernel
theorem dc_NL_collect_23 : decode bc_NL_collect 23 = .ok (.aload_n 0, 1) := by decide +kernel
theorem dc_NL_collect_24 : decode bc_NL_collect 24 = .ok (.iconst 0, 1) := by decide +kernel
theorem dc_NL_collect_25 : decode bc_NL_collect 25 = .ok (.aload_n 0, 1) := by decide +kernel
theorem dc_NL_collect_26 : decode bc_NL_collect 26 = .ok (.getfield 47, 3) := by decide +kernel
theorem dc_NL_collect_29 : decode bc_NL_collect 29 = .ok (.getfield 51, 3) := by decide +kernel
theorem dc_NL_collect_32 : decode bc_NL_collect 32 = .ok (.iconst 0, 1) := by decide +kernel
theorem dc_NL_collect_33 : decode bc_NL_collect 33 = .ok (.aload_n 0, 1) := by decide +kernel
theorem dc_NL_collect_34 : decode bc_NL_collect 34 = .ok (.getfield 39, 3) := by decide +kernel
theorem dc_NL_collect_37 : decode bc_NL_collect 37 = .ok (.invokevirtual 65, 3) := by decide +kernel
theorem dc_NL_collect_40 : decode bc_NL_collect 40 = .ok (.invokevirtual 68, 3) := by decide +kernel
theorem dc_NL_collect_43 : decode bc_NL_collect 43 = .ok (.aload_n 0, 1) := by decide +kernel
theorem dc_NL_collect_44 : decode bc_NL_collect 44 = .ok (.iconst 1, 1) := by decide +kernel
theorem dc_NL_collect_45 : decode bc_NL_collect 45 = .ok (.aload_n 0, 1) := by decide +kernel
theorem dc_NL_collect_46 : decode bc_NL_collect 46 = .ok (.getfield 47, 3) := by decide +kernel
theorem dc_NL_collect_49 : decode bc_NL_collect 49 = .ok (.invokevirtual 61, 3) := by decide +kernel
theorem dc_NL_collect_52 : decode bc_NL_collect 52 = .ok (.aload_n 0, 1) := by decide +kernel
theorem dc_NL_collect_53 : decode bc_NL_collect 53 = .ok (.invokevirtual 72, 3) := by decide +kernel
theorem dc_NL_collect_56 : decode bc_NL_collect 56 = .ok (.iconst 0, 1) := by decide +kernel
theorem dc_NL_collect_57 : decode bc_NL_collect 57 = .ok (.invokevirtual 76, 3) := by decide +kernel
theorem dc_NL_collect_60 : decode bc_NL_collect 60 = .ok (.aload_n 0, 1) := by decide +kernel
theorem dc_NL_collect_61 : decode bc_NL_collect 61 = .ok (.getfield 19, 3) := by decide +kernel
theorem dc_NL_collect_64 : decode bc_NL_collect 64 = .ok (.ifCond .eq 8, 3) := by decide +kernel
theorem dc_NL_collect_67 : decode bc_NL_collect 67 = .ok (.aload_n 0, 1) := by decide +kernel
theorem dc_NL_collect_68 : decode bc_NL_collect 68 = .ok (.iconst 0, 1) := by decide +kernel
theorem dc_NL_collect_69 : decode bc_NL_collect 69 = .ok (.putfield 15, 3) := by decide +kernel
theorem dc_NL_collect_72 : decode bc_NL_collect 72 = .ok (.aload_n 0, 1) := by decide +kernel
theorem dc_NL_collect_73 : decode bc_NL_collect 73 = .ok (.getfield 19, 3) := by decide +kernel
theorem dc_NL_collect_76 : decode bc_NL_collect 76 = .ok (.ifCond .ne 7, 3) := by decide +kernel
theorem dc_NL_collect_79 : decode bc_NL_collect 79 = .ok (.iconst 1, 1) := by decide +kernel
theorem dc_NL_collect_80 : decode bc_NL_collect 80 = .ok (.goto 4, 3) := by decide +kernel
theorem dc_NL_collect_83 : decode bc_NL_collect 83 = .ok (.iconst 0, 1) := by decide +kernel
theorem dc_NL_collect_84 : decode bc_NL_collect 84 = .ok (.ireturn, 1) := by decide +kernel
abbrev bc_FS_forgetStructures : ByteArray := prog_1_method_16_code
abbrev yn_FS_forgetStructures : MethodName := ⟨"FoldedStrand", "forgetStructures", "()V"⟩
theorem wl_FS_35 : Cond.fieldLink "FoldedStrand" 35 "FoldedStrand" "nearList" "LFoldedStrand$NearList;" ∈ jl_T := jl_T_of 185 (by decide +kernel) (by decide +kernel)
theorem vs_FS_128 : jl_v "FoldedStrand" 128 yn_NL_forget bc_NL_forget 1 none 0 := ⟨jl_T_of 319 (by decide +kernel) (by decide +kernel), jl_T_of 6 (by decide +kernel) (by decide +kernel), jl_T_of 316 (by decide +kernel) (by decide +kernel), by decide +kernel, by decide +kernel, by decide +kernel⟩
theorem vi_NL_forget : Cond.instanceMethod yn_NL_forget ∈ jl_T := jl_T_of 317 (by decide +kernel) (by decide +kernel)
theorem vx_NL_forget : Cond.selects "FoldedStrand$NearList" yn_NL_forget yn_NL_forget ∈ jl_T := jl_T_of 318 (by decide +kernel) (by decide +kernel)
theorem wl_FS_42 : Cond.fieldLink "FoldedStrand" 42 "FoldedStrand" "structure" "LFoldedStrand$Structure;" ∈ jl_T := jl_T_of 188 (by decide +kernel) (by decide +kernel)
theorem vs_FS_99 : jl_v "FoldedStrand" 99 yn_SR_restart bc_SR_restart 1 none 0 := ⟨jl_T_of 157 (by decide +kernel) (by decide +kernel), jl_T_of 7 (by decide +kernel) (by decide +kernel), jl_T_of 320 (by decide +kernel) (by decide +kernel), by decide +kernel, by decide +kernel, by decide +kernel⟩
theorem vi_SR_restart : Cond.instanceMethod yn_SR_restart ∈ jl_T := jl_T_of 155 (by decide +kernel) (by decide +kernel)
theorem vx_SR_restart : Cond.selects "FoldedStrand$Structure" yn_SR_restart yn_SR_restart ∈ jl_T := jl_T_of 156 (by decide +kernel) (by decide +kernel)
theorem dc_FS_forgetStructures_0 : decode bc_FS_forgetStructures 0 = .ok (.aload_n 0, 1) := by decide +kernel
theorem dc_FS_forgetStructures_1 : decode bc_FS_forgetStructures 1 = .ok (.getfield 35, 3) := by decide +kernel
theorem dc_FS_forgetStructures_4 : decode bc_FS_forgetStructures 4 = .ok (.invokevirtual 128, 3) := by decide +kernel
theorem dc_FS_forgetStructures_7 : decode bc_FS_forgetStructures 7 = .ok (.aload_n 0, 1) := by decide +kernel
theorem dc_FS_forgetStructures_8 : decode bc_FS_forgetStructures 8 = .ok (.getfield 42, 3) := by decide +kernel
theorem dc_FS_forgetStructures_11 : decode bc_FS_forgetStructures 11 = .ok (.invokevirtual 99, 3) := by decide +kernel
theorem dc_FS_forgetStructures_14 : decode bc_FS_forgetStructures 14 = .ok (.return_, 1) := by decide +kernel
abbrev bc_FS_adoptDraft : ByteArray := prog_1_method_17_code
abbrev yn_FS_adoptDraft : MethodName := ⟨"FoldedStrand", "adoptDraft", "()I"⟩
theorem wl_FS_46 : Cond.fieldLink "FoldedStrand" 46 "FoldedStrand" "draft" "LFoldedStrand$Structure;" ∈ jl_T := jl_T_of 189 (by decide +kernel) (by decide +kernel)
theorem vs_FS_131 : jl_v "FoldedStrand" 131 yn_SR_pairCount bc_SR_pairCount 1 (some .int) 0 := ⟨jl_T_of 450 (by decide +kernel) (by decide +kernel), jl_T_of 7 (by decide +kernel) (by decide +kernel), jl_T_of 447 (by decide +kernel) (by decide +kernel), by decide +kernel, by decide +kernel, by decide +kernel⟩
theorem vi_SR_pairCount : Cond.instanceMethod yn_SR_pairCount ∈ jl_T := jl_T_of 448 (by decide +kernel) (by decide +kernel)
theorem vx_SR_pairCount : Cond.selects "FoldedStrand$Structure" yn_SR_pairCount yn_SR_pairCount ∈ jl_T := jl_T_of 449 (by decide +kernel) (by decide +kernel)
theorem dc_FS_adoptDraft_0 : decode bc_FS_adoptDraft 0 = .ok (.aload_n 0, 1) := by decide +kernel
theorem dc_FS_adoptDraft_1 : decode bc_FS_adoptDraft 1 = .ok (.getfield 42, 3) := by decide +kernel
theorem dc_FS_adoptDraft_4 : decode bc_FS_adoptDraft 4 = .ok (.astore_n 1, 1) := by decide +kernel
theorem dc_FS_adoptDraft_5 : decode bc_FS_adoptDraft 5 = .ok (.aload_n 0, 1) := by decide +kernel
theorem dc_FS_adoptDraft_6 : decode bc_FS_adoptDraft 6 = .ok (.aload_n 0, 1) := by decide +kernel
theorem dc_FS_adoptDraft_7 : decode bc_FS_adoptDraft 7 = .ok (.getfield 46, 3) := by decide +kernel
theorem dc_FS_adoptDraft_10 : decode bc_FS_adoptDraft 10 = .ok (.putfield 42, 3) := by decide +kernel
theorem dc_FS_adoptDraft_13 : decode bc_FS_adoptDraft 13 = .ok (.aload_n 0, 1) := by decide +kernel
theorem dc_FS_adoptDraft_14 : decode bc_FS_adoptDraft 14 = .ok (.aload_n 1, 1) := by decide +kernel
theorem dc_FS_adoptDraft_15 : decode bc_FS_adoptDraft 15 = .ok (.putfield 46, 3) := by decide +kernel
theorem dc_FS_adoptDraft_18 : decode bc_FS_adoptDraft 18 = .ok (.aload_n 0, 1) := by decide +kernel
theorem dc_FS_adoptDraft_19 : decode bc_FS_adoptDraft 19 = .ok (.getfield 42, 3) := by decide +kernel
theorem dc_FS_adoptDraft_22 : decode bc_FS_adoptDraft 22 = .ok (.invokevirtual 131, 3) := by decide +kernel
theorem dc_FS_adoptDraft_25 : decode bc_FS_adoptDraft 25 = .ok (.ireturn, 1) := by decide +kernel
abbrev bc_FS_clear : ByteArray := prog_1_method_3_code
abbrev yn_FS_clear : MethodName := ⟨"FoldedStrand", "clear", "()I"⟩
theorem wl_FS_10 : Cond.fieldLink "FoldedStrand" 10 "FoldedStrand" "strand" "LFoldedStrand$Strand;" ∈ jl_T := jl_T_of 183 (by decide +kernel) (by decide +kernel)
theorem vs_FS_67 : jl_v "FoldedStrand" 67 yn_ST_removeAll bc_ST_removeAll 2 (some .int) 0 := ⟨jl_T_of 328 (by decide +kernel) (by decide +kernel), jl_T_of 2 (by decide +kernel) (by decide +kernel), jl_T_of 325 (by decide +kernel) (by decide +kernel), by decide +kernel, by decide +kernel, by decide +kernel⟩
theorem vi_ST_removeAll : Cond.instanceMethod yn_ST_removeAll ∈ jl_T := jl_T_of 326 (by decide +kernel) (by decide +kernel)
theorem vx_ST_removeAll : Cond.selects "FoldedStrand$Strand" yn_ST_removeAll yn_ST_removeAll ∈ jl_T := jl_T_of 327 (by decide +kernel) (by decide +kernel)
theorem vs_FS_64 : jl_v "FoldedStrand" 64 yn_FS_forgetStructures bc_FS_forgetStructures 1 none 0 := ⟨jl_T_of 315 (by decide +kernel) (by decide +kernel), jl_T_of 1 (by decide +kernel) (by decide +kernel), jl_T_of 312 (by decide +kernel) (by decide +kernel), by decide +kernel, by decide +kernel, by decide +kernel⟩
theorem vi_FS_forgetStructures : Cond.instanceMethod yn_FS_forgetStructures ∈ jl_T := jl_T_of 314 (by decide +kernel) (by decide +kernel)
theorem vx_FS_forgetStructures : Cond.selects "FoldedStrand" yn_FS_forgetStructures yn_FS_forgetStructures ∈ jl_T := jl_T_sel 4 (by decide +kernel) (by decide +kernel)
theorem dc_FS_clear_0 : decode bc_FS_clear 0 = .ok (.aload_n 0, 1) := by decide +kernel
theorem dc_FS_clear_1 : decode bc_FS_clear 1 = .ok (.getfield 10, 3) := by decide +kernel
theorem dc_FS_clear_4 : decode bc_FS_clear 4 = .ok (.invokevirtual 67, 3) := by decide +kernel
theorem dc_FS_clear_7 : decode bc_FS_clear 7 = .ok (.istore_n 1, 1) := by decide +kernel
theorem dc_FS_clear_8 : decode bc_FS_clear 8 = .ok (.aload_n 0, 1) := by decide +kernel
theorem dc_FS_clear_9 : decode bc_FS_clear 9 = .ok (.invokevirtual 64, 3) := by decide +kernel
theorem dc_FS_clear_12 : decode bc_FS_clear 12 = .ok (.iload_n 1, 1) := by decide +kernel
theorem dc_FS_clear_13 : decode bc_FS_clear 13 = .ok (.ireturn, 1) := by decide +kernel
abbrev bc_FS_base : ByteArray := prog_1_method_2_code
abbrev yn_FS_base : MethodName := ⟨"FoldedStrand", "base", "(C)Z"⟩
theorem vs_FS_57 : jl_v "FoldedStrand" 57 yn_ST_append bc_ST_append 3 (some .boolean) 1 := ⟨jl_T_of 213 (by decide +kernel) (by decide +kernel), jl_T_of 2 (by decide +kernel) (by decide +kernel), jl_T_of 210 (by decide +kernel) (by decide +kernel), by decide +kernel, by decide +kernel, by decide +kernel⟩
theorem vi_ST_append : Cond.instanceMethod yn_ST_append ∈ jl_T := jl_T_of 211 (by decide +kernel) (by decide +kernel)
theorem vx_ST_append : Cond.selects "FoldedStrand$Strand" yn_ST_append yn_ST_append ∈ jl_T := jl_T_of 212 (by decide +kernel) (by decide +kernel)
theorem wl_FS_26 : Cond.fieldLink "FoldedStrand" 26 "FoldedStrand" "folds" "LFoldedStrand$Folds;" ∈ jl_T := jl_T_of 184 (by decide +kernel) (by decide +kernel)
theorem vs_FS_61 : jl_v "FoldedStrand" 61 yn_FO_extend bc_FO_extend 3 none 0 := ⟨jl_T_of 222 (by decide +kernel) (by decide +kernel), jl_T_of 4 (by decide +kernel) (by decide +kernel), jl_T_of 219 (by decide +kernel) (by decide +kernel), by decide +kernel, by decide +kernel, by decide +kernel⟩
theorem vi_FO_extend : Cond.instanceMethod yn_FO_extend ∈ jl_T := jl_T_of 220 (by decide +kernel) (by decide +kernel)
theorem vx_FO_extend : Cond.selects "FoldedStrand$Folds" yn_FO_extend yn_FO_extend ∈ jl_T := jl_T_of 221 (by decide +kernel) (by decide +kernel)
theorem dc_FS_base_0 : decode bc_FS_base 0 = .ok (.aload_n 0, 1) := by decide +kernel
theorem dc_FS_base_1 : decode bc_FS_base 1 = .ok (.getfield 10, 3) := by decide +kernel
theorem dc_FS_base_4 : decode bc_FS_base 4 = .ok (.iload_n 1, 1) := by decide +kernel
theorem dc_FS_base_5 : decode bc_FS_base 5 = .ok (.invokevirtual 57, 3) := by decide +kernel
theorem dc_FS_base_8 : decode bc_FS_base 8 = .ok (.ifCond .ne 5, 3) := by decide +kernel
theorem dc_FS_base_11 : decode bc_FS_base 11 = .ok (.iconst 0, 1) := by decide +kernel
theorem dc_FS_base_12 : decode bc_FS_base 12 = .ok (.ireturn, 1) := by decide +kernel
theorem dc_FS_base_13 : decode bc_FS_base 13 = .ok (.aload_n 0, 1) := by decide +kernel
theorem dc_FS_base_14 : decode bc_FS_base 14 = .ok (.getfield 26, 3) := by decide +kernel
theorem dc_FS_base_17 : decode bc_FS_base 17 = .ok (.invokevirtual 61, 3) := by decide +kernel
theorem dc_FS_base_20 : decode bc_FS_base 20 = .ok (.aload_n 0, 1) := by decide +kernel
theorem dc_FS_base_21 : decode bc_FS_base 21 = .ok (.invokevirtual 64, 3) := by decide +kernel
theorem dc_FS_base_24 : decode bc_FS_base 24 = .ok (.iconst 1, 1) := by decide +kernel
theorem dc_FS_base_25 : decode bc_FS_base 25 = .ok (.ireturn, 1) := by decide +kernel
abbrev bc_FS_most : ByteArray := prog_1_method_4_code
abbrev yn_FS_most : MethodName := ⟨"FoldedStrand", "most", "()I"⟩
theorem vs_FS_71 : jl_v "FoldedStrand" 71 yn_FO_mostPairs bc_FO_mostPairs 1 (some .int) 0 := ⟨jl_T_of 336 (by decide +kernel) (by decide +kernel), jl_T_of 4 (by decide +kernel) (by decide +kernel), jl_T_of 333 (by decide +kernel) (by decide +kernel), by decide +kernel, by decide +kernel, by decide +kernel⟩
theorem vi_FO_mostPairs : Cond.instanceMethod yn_FO_mostPairs ∈ jl_T := jl_T_of 334 (by decide +kernel) (by decide +kernel)
theorem vx_FO_mostPairs : Cond.selects "FoldedStrand$Folds" yn_FO_mostPairs yn_FO_mostPairs ∈ jl_T := jl_T_of 335 (by decide +kernel) (by decide +kernel)
theorem dc_FS_most_0 : decode bc_FS_most 0 = .ok (.aload_n 0, 1) := by decide +kernel
theorem dc_FS_most_1 : decode bc_FS_most 1 = .ok (.getfield 26, 3) := by decide +kernel
theorem dc_FS_most_4 : decode bc_FS_most 4 = .ok (.invokevirtual 71, 3) := by decide +kernel
theorem dc_FS_most_7 : decode bc_FS_most 7 = .ok (.ireturn, 1) := by decide +kernel
abbrev bc_FS_least : ByteArray := prog_1_method_5_code
abbrev yn_FS_least : MethodName := ⟨"FoldedStrand", "least", "()I"⟩
theorem vs_FS_74 : jl_v "FoldedStrand" 74 yn_FO_leastEnergy bc_FO_leastEnergy 1 (some .int) 0 := ⟨jl_T_of 344 (by decide +kernel) (by decide +kernel), jl_T_of 4 (by decide +kernel) (by decide +kernel), jl_T_of 341 (by decide +kernel) (by decide +kernel), by decide +kernel, by decide +kernel, by decide +kernel⟩
theorem dc_FS_least_0 : decode bc_FS_least 0 = .ok (.aload_n 0, 1) := by decide +kernel
theorem dc_FS_least_1 : decode bc_FS_least 1 = .ok (.getfield 26, 3) := by decide +kernel
theorem dc_FS_least_4 : decode bc_FS_least 4 = .ok (.invokevirtual 74, 3) := by decide +kernel
theorem dc_FS_least_7 : decode bc_FS_least 7 = .ok (.ireturn, 1) := by decide +kernel
abbrev bc_FS_ways : ByteArray := prog_1_method_6_code
abbrev yn_FS_ways : MethodName := ⟨"FoldedStrand", "ways", "()I"⟩
theorem vs_FS_77 : jl_v "FoldedStrand" 77 yn_FO_structureCount bc_FO_structureCount 1 (some .int) 0 := ⟨jl_T_of 352 (by decide +kernel) (by decide +kernel), jl_T_of 4 (by decide +kernel) (by decide +kernel), jl_T_of 349 (by decide +kernel) (by decide +kernel), by decide +kernel, by decide +kernel, by decide +kernel⟩
theorem vi_FO_structureCount : Cond.instanceMethod yn_FO_structureCount ∈ jl_T := jl_T_of 350 (by decide +kernel) (by decide +kernel)
theorem vx_FO_structureCount : Cond.selects "FoldedStrand$Folds" yn_FO_structureCount yn_FO_structureCount ∈ jl_T := jl_T_of 351 (by decide +kernel) (by decide +kernel)
theorem dc_FS_ways_0 : decode bc_FS_ways 0 = .ok (.aload_n 0, 1) := by decide +kernel
theorem dc_FS_ways_1 : decode bc_FS_ways 1 = .ok (.getfield 26, 3) := by decide +kernel
theorem dc_FS_ways_4 : decode bc_FS_ways 4 = .ok (.invokevirtual 77, 3) := by decide +kernel
theorem dc_FS_ways_7 : decode bc_FS_ways 7 = .ok (.ireturn, 1) := by decide +kernel
abbrev bc_FS_list : ByteArray := prog_1_method_7_code
abbrev yn_FS_list : MethodName := ⟨"FoldedStrand", "list", "(I)I"⟩
theorem vs_FS_80 : jl_v "FoldedStrand" 80 yn_NL_collect bc_NL_collect 2 (some .boolean) 1 := ⟨jl_T_of 360 (by decide +kernel) (by decide +kernel), jl_T_of 6 (by decide +kernel) (by decide +kernel), jl_T_of 357 (by decide +kernel) (by decide +kernel), by decide +kernel, by decide +kernel, by decide +kernel⟩
theorem vi_NL_collect : Cond.instanceMethod yn_NL_collect ∈ jl_T := jl_T_of 358 (by decide +kernel) (by decide +kernel)
theorem vx_NL_collect : Cond.selects "FoldedStrand$NearList" yn_NL_collect yn_NL_collect ∈ jl_T := jl_T_of 359 (by decide +kernel) (by decide +kernel)
theorem vs_FS_84 : jl_v "FoldedStrand" 84 yn_NL_size bc_NL_size 1 (some .int) 0 := ⟨jl_T_of 403 (by decide +kernel) (by decide +kernel), jl_T_of 6 (by decide +kernel) (by decide +kernel), jl_T_of 400 (by decide +kernel) (by decide +kernel), by decide +kernel, by decide +kernel, by decide +kernel⟩
theorem vi_NL_size : Cond.instanceMethod yn_NL_size ∈ jl_T := jl_T_of 401 (by decide +kernel) (by decide +kernel)
theorem vx_NL_size : Cond.selects "FoldedStrand$NearList" yn_NL_size yn_NL_size ∈ jl_T := jl_T_of 402 (by decide +kernel) (by decide +kernel)
theorem dc_FS_list_0 : decode bc_FS_list 0 = .ok (.iload_n 1, 1) := by decide +kernel
theorem dc_FS_list_1 : decode bc_FS_list 1 = .ok (.ifCond .lt 10, 3) := by decide +kernel
theorem dc_FS_list_4 : decode bc_FS_list 4 = .ok (.iload_n 1, 1) := by decide +kernel
theorem dc_FS_list_5 : decode bc_FS_list 5 = .ok (.sipush 300, 3) := by decide +kernel
theorem dc_FS_list_8 : decode bc_FS_list 8 = .ok (.if_icmp .le 5, 3) := by decide +kernel
theorem dc_FS_list_11 : decode bc_FS_list 11 = .ok (.iconst (-1), 1) := by decide +kernel
theorem dc_FS_list_12 : decode bc_FS_list 12 = .ok (.ireturn, 1) := by decide +kernel
theorem dc_FS_list_13 : decode bc_FS_list 13 = .ok (.aload_n 0, 1) := by decide +kernel
theorem dc_FS_list_14 : decode bc_FS_list 14 = .ok (.getfield 35, 3) := by decide +kernel
theorem dc_FS_list_17 : decode bc_FS_list 17 = .ok (.iload_n 1, 1) := by decide +kernel
theorem dc_FS_list_18 : decode bc_FS_list 18 = .ok (.invokevirtual 80, 3) := by decide +kernel
theorem dc_FS_list_21 : decode bc_FS_list 21 = .ok (.ifCond .eq 13, 3) := by decide +kernel
theorem dc_FS_list_24 : decode bc_FS_list 24 = .ok (.aload_n 0, 1) := by decide +kernel
theorem dc_FS_list_25 : decode bc_FS_list 25 = .ok (.getfield 35, 3) := by decide +kernel
theorem dc_FS_list_28 : decode bc_FS_list 28 = .ok (.invokevirtual 84, 3) := by decide +kernel
theorem dc_FS_list_31 : decode bc_FS_list 31 = .ok (.goto 5, 3) := by decide +kernel
theorem dc_FS_list_34 : decode bc_FS_list 34 = .ok (.bipush (-2), 2) := by decide +kernel
theorem dc_FS_list_36 : decode bc_FS_list 36 = .ok (.ireturn, 1) := by decide +kernel
abbrev bc_FS_energyOf : ByteArray := prog_1_method_8_code
abbrev yn_FS_energyOf : MethodName := ⟨"FoldedStrand", "energyOf", "(I)I"⟩
theorem vs_FS_87 : jl_v "FoldedStrand" 87 yn_NL_has bc_NL_has 2 (some .boolean) 1 := ⟨jl_T_of 411 (by decide +kernel) (by decide +kernel), jl_T_of 6 (by decide +kernel) (by decide +kernel), jl_T_of 408 (by decide +kernel) (by decide +kernel), by decide +kernel, by decide +kernel, by decide +kernel⟩
theorem vi_NL_has : Cond.instanceMethod yn_NL_has ∈ jl_T := jl_T_of 409 (by decide +kernel) (by decide +kernel)
theorem vx_NL_has : Cond.selects "FoldedStrand$NearList" yn_NL_has yn_NL_has ∈ jl_T := jl_T_of 410 (by decide +kernel) (by decide +kernel)
theorem vs_FS_90 : jl_v "FoldedStrand" 90 yn_NL_energyAt bc_NL_energyAt 2 (some .int) 1 := ⟨jl_T_of 415 (by decide +kernel) (by decide +kernel), jl_T_of 6 (by decide +kernel) (by decide +kernel), jl_T_of 412 (by decide +kernel) (by decide +kernel), by decide +kernel, by decide +kernel, by decide +kernel⟩
theorem vi_NL_energyAt : Cond.instanceMethod yn_NL_energyAt ∈ jl_T := jl_T_of 413 (by decide +kernel) (by decide +kernel)
theorem vx_NL_energyAt : Cond.selects "FoldedStrand$NearList" yn_NL_energyAt yn_NL_energyAt ∈ jl_T := jl_T_of 414 (by decide +kernel) (by decide +kernel)
theorem dc_FS_energyOf_0 : decode bc_FS_energyOf 0 = .ok (.aload_n 0, 1) := by decide +kernel
theorem dc_FS_energyOf_1 : decode bc_FS_energyOf 1 = .ok (.getfield 35, 3) := by decide +kernel
theorem dc_FS_energyOf_4 : decode bc_FS_energyOf 4 = .ok (.iload_n 1, 1) := by decide +kernel
theorem dc_FS_energyOf_5 : decode bc_FS_energyOf 5 = .ok (.invokevirtual 87, 3) := by decide +kernel
theorem dc_FS_energyOf_8 : decode bc_FS_energyOf 8 = .ok (.ifCond .eq 14, 3) := by decide +kernel
theorem dc_FS_energyOf_11 : decode bc_FS_energyOf 11 = .ok (.aload_n 0, 1) := by decide +kernel
theorem dc_FS_energyOf_12 : decode bc_FS_energyOf 12 = .ok (.getfield 35, 3) := by decide +kernel
theorem dc_FS_energyOf_15 : decode bc_FS_energyOf 15 = .ok (.iload_n 1, 1) := by decide +kernel
theorem dc_FS_energyOf_16 : decode bc_FS_energyOf 16 = .ok (.invokevirtual 90, 3) := by decide +kernel
theorem dc_FS_energyOf_19 : decode bc_FS_energyOf 19 = .ok (.goto 4, 3) := by decide +kernel
theorem dc_FS_energyOf_22 : decode bc_FS_energyOf 22 = .ok (.iconst 0, 1) := by decide +kernel
theorem dc_FS_energyOf_23 : decode bc_FS_energyOf 23 = .ok (.ireturn, 1) := by decide +kernel
abbrev bc_FS_at : ByteArray := prog_1_method_9_code
abbrev yn_FS_at : MethodName := ⟨"FoldedStrand", "at", "(II)I"⟩
theorem vs_FS_94 : jl_v "FoldedStrand" 94 yn_ST_has bc_ST_has 2 (some .boolean) 1 := ⟨jl_T_of 423 (by decide +kernel) (by decide +kernel), jl_T_of 2 (by decide +kernel) (by decide +kernel), jl_T_of 420 (by decide +kernel) (by decide +kernel), by decide +kernel, by decide +kernel, by decide +kernel⟩
theorem vi_ST_has : Cond.instanceMethod yn_ST_has ∈ jl_T := jl_T_of 421 (by decide +kernel) (by decide +kernel)
theorem vx_ST_has : Cond.selects "FoldedStrand$Strand" yn_ST_has yn_ST_has ∈ jl_T := jl_T_of 422 (by decide +kernel) (by decide +kernel)
theorem vs_FS_95 : jl_v "FoldedStrand" 95 yn_NL_character bc_NL_character 4 (some .char) 2 := ⟨jl_T_of 427 (by decide +kernel) (by decide +kernel), jl_T_of 6 (by decide +kernel) (by decide +kernel), jl_T_of 424 (by decide +kernel) (by decide +kernel), by decide +kernel, by decide +kernel, by decide +kernel⟩
theorem vi_NL_character : Cond.instanceMethod yn_NL_character ∈ jl_T := jl_T_of 425 (by decide +kernel) (by decide +kernel)
theorem vx_NL_character : Cond.selects "FoldedStrand$NearList" yn_NL_character yn_NL_character ∈ jl_T := jl_T_of 426 (by decide +kernel) (by decide +kernel)
theorem dc_FS_at_0 : decode bc_FS_at 0 = .ok (.aload_n 0, 1) := by decide +kernel
theorem dc_FS_at_1 : decode bc_FS_at 1 = .ok (.getfield 35, 3) := by decide +kernel
theorem dc_FS_at_4 : decode bc_FS_at 4 = .ok (.iload_n 1, 1) := by decide +kernel
theorem dc_FS_at_5 : decode bc_FS_at 5 = .ok (.invokevirtual 87, 3) := by decide +kernel
theorem dc_FS_at_8 : decode bc_FS_at 8 = .ok (.ifCond .eq 26, 3) := by decide +kernel
theorem dc_FS_at_11 : decode bc_FS_at 11 = .ok (.aload_n 0, 1) := by decide +kernel
theorem dc_FS_at_12 : decode bc_FS_at 12 = .ok (.getfield 10, 3) := by decide +kernel
theorem dc_FS_at_15 : decode bc_FS_at 15 = .ok (.iload_n 2, 1) := by decide +kernel
theorem dc_FS_at_16 : decode bc_FS_at 16 = .ok (.invokevirtual 94, 3) := by decide +kernel
theorem dc_FS_at_19 : decode bc_FS_at 19 = .ok (.ifCond .eq 15, 3) := by decide +kernel
theorem dc_FS_at_22 : decode bc_FS_at 22 = .ok (.aload_n 0, 1) := by decide +kernel
theorem dc_FS_at_23 : decode bc_FS_at 23 = .ok (.getfield 35, 3) := by decide +kernel
theorem dc_FS_at_26 : decode bc_FS_at 26 = .ok (.iload_n 1, 1) := by decide +kernel
theorem dc_FS_at_27 : decode bc_FS_at 27 = .ok (.iload_n 2, 1) := by decide +kernel
theorem dc_FS_at_28 : decode bc_FS_at 28 = .ok (.invokevirtual 95, 3) := by decide +kernel
theorem dc_FS_at_31 : decode bc_FS_at 31 = .ok (.goto 4, 3) := by decide +kernel
theorem dc_FS_at_34 : decode bc_FS_at 34 = .ok (.iconst (-1), 1) := by decide +kernel
theorem dc_FS_at_35 : decode bc_FS_at 35 = .ok (.ireturn, 1) := by decide +kernel
abbrev bc_FS_type : ByteArray := prog_1_method_11_code
abbrev yn_FS_type : MethodName := ⟨"FoldedStrand", "type", "(C)Z"⟩
theorem wl_FS_53 : Cond.fieldLink "FoldedStrand" 53 "FoldedStrand" "typedCount" "I" ∈ jl_T := jl_T_of 187 (by decide +kernel) (by decide +kernel)
theorem wl_FS_49 : Cond.fieldLink "FoldedStrand" 49 "FoldedStrand" "typed" "[C" ∈ jl_T := jl_T_of 186 (by decide +kernel) (by decide +kernel)
theorem dc_FS_type_0 : decode bc_FS_type 0 = .ok (.iload_n 1, 1) := by decide +kernel
theorem dc_FS_type_1 : decode bc_FS_type 1 = .ok (.bipush 32, 2) := by decide +kernel
theorem dc_FS_type_3 : decode bc_FS_type 3 = .ok (.if_icmp .lt 18, 3) := by decide +kernel
theorem dc_FS_type_6 : decode bc_FS_type 6 = .ok (.iload_n 1, 1) := by decide +kernel
theorem dc_FS_type_7 : decode bc_FS_type 7 = .ok (.bipush 126, 2) := by decide +kernel
theorem dc_FS_type_9 : decode bc_FS_type 9 = .ok (.if_icmp .gt 12, 3) := by decide +kernel
theorem dc_FS_type_12 : decode bc_FS_type 12 = .ok (.aload_n 0, 1) := by decide +kernel
theorem dc_FS_type_13 : decode bc_FS_type 13 = .ok (.getfield 53, 3) := by decide +kernel
theorem dc_FS_type_16 : decode bc_FS_type 16 = .ok (.bipush 20, 2) := by decide +kernel
theorem dc_FS_type_18 : decode bc_FS_type 18 = .ok (.if_icmp .lt 5, 3) := by decide +kernel
theorem dc_FS_type_21 : decode bc_FS_type 21 = .ok (.iconst 0, 1) := by decide +kernel
theorem dc_FS_type_22 : decode bc_FS_type 22 = .ok (.ireturn, 1) := by decide +kernel
theorem dc_FS_type_23 : decode bc_FS_type 23 = .ok (.aload_n 0, 1) := by decide +kernel
theorem dc_FS_type_24 : decode bc_FS_type 24 = .ok (.getfield 49, 3) := by decide +kernel
theorem dc_FS_type_27 : decode bc_FS_type 27 = .ok (.aload_n 0, 1) := by decide +kernel
theorem dc_FS_type_28 : decode bc_FS_type 28 = .ok (.getfield 53, 3) := by decide +kernel
theorem dc_FS_type_31 : decode bc_FS_type 31 = .ok (.iload_n 1, 1) := by decide +kernel
theorem dc_FS_type_32 : decode bc_FS_type 32 = .ok (.castore, 1) := by decide +kernel
theorem dc_FS_type_33 : decode bc_FS_type 33 = .ok (.aload_n 0, 1) := by decide +kernel
theorem dc_FS_type_34 : decode bc_FS_type 34 = .ok (.dup, 1) := by decide +kernel
theorem dc_FS_type_35 : decode bc_FS_type 35 = .ok (.getfield 53, 3) := by decide +kernel
theorem dc_FS_type_38 : decode bc_FS_type 38 = .ok (.iconst 1, 1) := by decide +kernel
theorem dc_FS_type_39 : decode bc_FS_type 39 = .ok (.iadd, 1) := by decide +kernel
theorem dc_FS_type_40 : decode bc_FS_type 40 = .ok (.putfield 53, 3) := by decide +kernel
theorem dc_FS_type_43 : decode bc_FS_type 43 = .ok (.iconst 1, 1) := by decide +kernel
theorem dc_FS_type_44 : decode bc_FS_type 44 = .ok (.ireturn, 1) := by decide +kernel
abbrev bc_FS_partner : ByteArray := prog_1_method_14_code
abbrev yn_FS_partner : MethodName := ⟨"FoldedStrand", "partner", "(I)I"⟩
theorem vs_FS_116 : jl_v "FoldedStrand" 116 yn_SR_isPaired bc_SR_isPaired 2 (some .boolean) 1 := ⟨jl_T_of 494 (by decide +kernel) (by decide +kernel), jl_T_of 7 (by decide +kernel) (by decide +kernel), jl_T_of 491 (by decide +kernel) (by decide +kernel), by decide +kernel, by decide +kernel, by decide +kernel⟩
theorem vi_SR_isPaired : Cond.instanceMethod yn_SR_isPaired ∈ jl_T := jl_T_of 492 (by decide +kernel) (by decide +kernel)
theorem vx_SR_isPaired : Cond.selects "FoldedStrand$Structure" yn_SR_isPaired yn_SR_isPaired ∈ jl_T := jl_T_of 493 (by decide +kernel) (by decide +kernel)
theorem vs_FS_119 : jl_v "FoldedStrand" 119 yn_SR_mateOf bc_SR_mateOf 2 (some .int) 1 := ⟨jl_T_of 498 (by decide +kernel) (by decide +kernel), jl_T_of 7 (by decide +kernel) (by decide +kernel), jl_T_of 495 (by decide +kernel) (by decide +kernel), by decide +kernel, by decide +kernel, by decide +kernel⟩
theorem vi_SR_mateOf : Cond.instanceMethod yn_SR_mateOf ∈ jl_T := jl_T_of 496 (by decide +kernel) (by decide +kernel)
theorem vx_SR_mateOf : Cond.selects "FoldedStrand$Structure" yn_SR_mateOf yn_SR_mateOf ∈ jl_T := jl_T_of 497 (by decide +kernel) (by decide +kernel)
theorem dc_FS_partner_0 : decode bc_FS_partner 0 = .ok (.aload_n 0, 1) := by decide +kernel
theorem dc_FS_partner_1 : decode bc_FS_partner 1 = .ok (.getfield 10, 3) := by decide +kernel
theorem dc_FS_partner_4 : decode bc_FS_partner 4 = .ok (.iload_n 1, 1) := by decide +kernel
theorem dc_FS_partner_5 : decode bc_FS_partner 5 = .ok (.invokevirtual 94, 3) := by decide +kernel
theorem dc_FS_partner_8 : decode bc_FS_partner 8 = .ok (.ifCond .eq 25, 3) := by decide +kernel
theorem dc_FS_partner_11 : decode bc_FS_partner 11 = .ok (.aload_n 0, 1) := by decide +kernel
theorem dc_FS_partner_12 : decode bc_FS_partner 12 = .ok (.getfield 42, 3) := by decide +kernel
theorem dc_FS_partner_15 : decode bc_FS_partner 15 = .ok (.iload_n 1, 1) := by decide +kernel
theorem dc_FS_partner_16 : decode bc_FS_partner 16 = .ok (.invokevirtual 116, 3) := by decide +kernel
theorem dc_FS_partner_19 : decode bc_FS_partner 19 = .ok (.ifCond .eq 14, 3) := by decide +kernel
theorem dc_FS_partner_22 : decode bc_FS_partner 22 = .ok (.aload_n 0, 1) := by decide +kernel
theorem dc_FS_partner_23 : decode bc_FS_partner 23 = .ok (.getfield 42, 3) := by decide +kernel
theorem dc_FS_partner_26 : decode bc_FS_partner 26 = .ok (.iload_n 1, 1) := by decide +kernel
theorem dc_FS_partner_27 : decode bc_FS_partner 27 = .ok (.invokevirtual 119, 3) := by decide +kernel
theorem dc_FS_partner_30 : decode bc_FS_partner 30 = .ok (.goto 4, 3) := by decide +kernel
theorem dc_FS_partner_33 : decode bc_FS_partner 33 = .ok (.iconst (-1), 1) := by decide +kernel
theorem dc_FS_partner_34 : decode bc_FS_partner 34 = .ok (.ireturn, 1) := by decide +kernel
section FS
variable (l : Launch) {K : Nat → ClassId} {sa : Nat → Nat} {ad : Nat → Nat} {I : Nat → Int32} {V : Nat → Nat → Int32} {L : Nat → Int64} {C : Nat → Int32} {G : Nat → Nat} {R : Nat → Nat} {n : Nat} {b : Nat → Nat} {pe : Nat → Nat → Int} {T : Nat → Nat → Nat → Int}
theorem c_NL_collect (hI0 : I 0 = nI n) (hV2 : V 2 = fun i => nI (b i)) (hn : n ≤ 18) (hb : ∀ i, b i < 4) (hV : fo_V n pe T V) (hB : fo_B n pe T) (hLB : nl_LB b n pe T) {dl : Nat} (hdl : dl ≤ 300) : jl_CP l K sa yn_NL_collect bc_NL_collect 2 (some .boolean) 51 2620 168 ad [.ref (ad 148), .int (nI dl)] (gw K ad I V L C G R) (fun v E2 => ∃ I2 V2 L2 R2, v = some (.int (st_bI (!(nl_res b n (T 2 0 n + dl)).2))) ∧ (∀ k, k ≠ 1 → k ≠ 2 → k ≠ 3 → I2 k = I k) ∧ (∀ c, c ≠ 151 → c ≠ 152 → V2 c = V c) ∧ nl_li (if (nl_res b n (T 2 0 n + dl)).2 = true then [] else (nl_res b n (T 2 0 n + dl)).1) I2 L2 ∧ E2 = gw K ad I2 V2 L2 C G R2) := by
  refine jl_enterP (by decide) (Nat.le_of_ble_eq_true rfl) (fun x h he hr => ?_)
  show jl_J x 168 ad 0 0 (gw K ad I V L C G R) 0 [(0, .ref (ad 148)), (1, .int (nI dl))] []
  have hS : st_ok K ad (gw K ad I V L C G R) n b := ⟨by show Sum.inr _ = _; rw [hI0], gw_at rfl rfl hV2, hn, hb⟩
  have hT1 := hLB.1 0 0 n (by decide) (by omega) (Nat.le_refl n)
  have hT2 := (hB.2.2 0 (by decide) 0 n (by omega) (Or.inl (Nat.le_refl n))).1
  have hTa : T 2 0 n ≤ 0 := by
    have h9 : fo_pp 0 * ((n : Int) - (0 : Nat)) = 0 := by show (0 : Int) * _ = 0; omega
    have h8 : T (2 + 0) 0 n = T 2 0 n := rfl
    omega
  have hTb : -400 ≤ T 2 0 n := by
    have h8 : T (2 + 0) 0 n = T 2 0 n := rfl
    omega
  have hV66 : V 66 n = iI (T 2 0 n) := hV.2 2 (by decide) 0 n (by omega) (Or.inl (Nat.le_refl n))
  obtain ⟨lim, hlim⟩ : ∃ lim, lim = T 2 0 n + (dl : Int) := ⟨_, rfl⟩
  rw [← hlim] at he
  have e20 : V 66 n + nI dl = iI lim := by rw [hV66, ← iI_nat dl, iI_add, hlim]
  have ht0 := nl_t0_in n (by omega)
  have hcx : ∀ (V9 : Nat → Nat → Int32) (u v : Int32), (∀ c, c ≠ 151 → c ≠ 152 → V9 c = V c) → nl_cx b n pe T lim (va_up (va_up (va_up I 1 u) 2 v) 3 (iI lim)) V9 := fun V9 u v h9 => nl_cx.to (I0 := va_up I 3 (iI lim)) (V0 := V) ⟨hI0, hV2, hn, hb, va_up_self _ _ _, hV, hB, hLB, by omega, by omega⟩ (fun k h1 h2 => by
      by_cases h3 : k = 3
      · rw [h3, va_up_self, va_up_self]
      · rw [va_up_ne _ _ h3, va_up_ne _ _ h2, va_up_ne _ _ h1, va_up_ne _ _ h3]) h9
  have eE : iI (T 2 0 n) = iI (0 + nl_sum T [(0, 0, n)]) := by
    congr 1
    show T 2 0 n = 0 + (T (2 + 0) 0 n + 0)
    have h8 : T (2 + 0) 0 n = T 2 0 n := rfl
    omega
  have hac0 : nl_ac ([], false) (va_up (va_up (va_up I 1 (nI 0)) 2 (st_bI false)) 3 (iI lim)) L := ⟨rfl, rfl, fun k hk => absurd hk (by simp), by decide, List.Pairwise.nil, fun z hz => by simp at hz⟩
  refine jl_aload_n (i := 0) h rfl rfl dc_NL_collect_0 1 rfl ?_
  refine jl_iconst (v := nI 0) h (by decide) dc_NL_collect_1 2 rfl ?_
  refine jl_putf (fs2 := [_, _, _, _, _, _, _, _, _, _]) h nm_c_NL 1 wl_NL_15 (by omega) (by decide) rfl (by exact rfl) (by rfl) (by rfl) (by exact Nat.le_of_ble_eq_true rfl) (by rfl) dc_NL_collect_2 (gw_set_count _) 5 rfl ?_
  refine jl_aload_n (i := 0) h rfl rfl dc_NL_collect_5 6 rfl ?_
  refine jl_iconst (v := st_bI false) h (by decide) dc_NL_collect_6 7 rfl ?_
  refine jl_putf (fs2 := [_, _, _, _, _, _, _, _, _, _]) h nm_c_NL 2 wl_NL_19 (by omega) (by decide) rfl (by exact rfl) (by rfl) (by rfl) (by exact Nat.le_of_ble_eq_true rfl) (by rfl) dc_NL_collect_7 (gw_set_tooMany _) 10 rfl ?_
  refine jl_aload_n (i := 0) h rfl rfl dc_NL_collect_10 11 rfl ?_
  refine jl_aload_n (i := 0) h rfl rfl dc_NL_collect_11 12 rfl ?_
  refine jl_getf h nm_c_NL 9 wl_NL_47 (by omega) (by decide) (by exact rfl) (by rfl) dc_NL_collect_12 15 rfl ?_
  refine jl_callV (As := []) (rest := [_]) h hr vs_NL_61 vi_FO_leastEnergy vx_FO_leastEnergy (ci := 3) rfl (by omega) (by exact rfl) (fun l => c_FO_leastEnergy l hS) (by first | decide | omega) (by first | decide | omega) rfl rfl (Nat.le_of_ble_eq_true rfl) dc_NL_collect_15 (res := [_, _]) rfl 18 rfl ?_
  refine jl_iload_n (i := 1) h rfl rfl dc_NL_collect_18 19 rfl ?_
  refine jl_iadd h dc_NL_collect_19 20 rfl ?_
  rw [show V 66 n + nI dl = iI lim by exact e20]
  refine jl_putf (fs2 := [_, _, _, _, _, _, _, _, _, _]) h nm_c_NL 3 wl_NL_23 (by omega) (by decide) rfl (by exact rfl) (by rfl) (by rfl) (by exact Nat.le_of_ble_eq_true rfl) (by rfl) dc_NL_collect_20 (gw_set_limit _) 23 rfl ?_
  refine jl_aload_n (i := 0) h rfl rfl dc_NL_collect_23 24 rfl ?_
  refine jl_iconst (v := nI 0) h (by decide) dc_NL_collect_24 25 rfl ?_
  refine jl_aload_n (i := 0) h rfl rfl dc_NL_collect_25 26 rfl ?_
  refine jl_getf h nm_c_NL 9 wl_NL_47 (by omega) (by decide) (by exact rfl) (by rfl) dc_NL_collect_26 29 rfl ?_
  refine jl_getf h nm_c_FO 0 wl_NL_51 (by omega) (by decide) (by exact rfl) (by rfl) dc_NL_collect_29 32 rfl ?_
  refine jl_iconst (v := nI 0) h (by decide) dc_NL_collect_32 33 rfl ?_
  refine jl_aload_n (i := 0) h rfl rfl dc_NL_collect_33 34 rfl ?_
  refine jl_getf h nm_c_NL 7 wl_NL_39 (by omega) (by decide) (by exact rfl) (by rfl) dc_NL_collect_34 37 rfl ?_
  refine jl_callV (As := []) (rest := [_, _, _, _]) h hr vs_NL_65 vi_ST_size vx_ST_size (ci := 1) rfl (by omega) (by exact hS.1) (fun l => c_ST_size l (by omega) hS) (by first | decide | omega) (by first | decide | omega) rfl rfl (Nat.le_of_ble_eq_true rfl) dc_NL_collect_37 (res := [_, _, _, _, _]) rfl 40 rfl ?_
  refine jl_callV (As := [_, _, _, _]) (rest := []) h hr vs_NL_68 vi_NL_setRegion vx_NL_setRegion (ci := 5) rfl (by omega) (by exact rfl) (fun l => c_NL_setRegion l (k := 0) (r := 0) (s := 0) (e := n) (by decide) (by decide)) (by first | decide | omega) (by first | decide | omega) rfl rfl (Nat.le_of_ble_eq_true rfl) dc_NL_collect_40 (res := []) rfl 43 rfl ?_
  refine jl_absVR (P := fun V9 R9 => nl_st (va_up (va_up (va_up I 1 (nI 0)) 2 (st_bI false)) 3 (iI lim)) V ([], false) [(0, 0, n)] (va_up (va_up (va_up I 1 (nI 0)) 2 (st_bI false)) 3 (iI lim)) V9 L R9) (nl_set (regs := []) 0 0 n ⟨fun _ _ _ => rfl, fun _ _ _ => rfl, hac0, trivial⟩) (fun V3 R3 hst3 => ?_)
  have hcx3 := hcx V3 (nI 0) (st_bI false) hst3.2.1
  have hS3 : st_ok K ad (gw K ad (va_up (va_up (va_up I 1 (nI 0)) 2 (st_bI false)) 3 (iI lim)) V3 L C G R3) n b := hcx3.S
  have hV3 : V3 66 n = iI (0 + nl_sum T [(0, 0, n)]) := by rw [hst3.2.1 66 (by decide) (by decide), hV66, eE]
  refine jl_aload_n (i := 0) h rfl rfl dc_NL_collect_43 44 rfl ?_
  refine jl_iconst (v := nI 1) h (by decide) dc_NL_collect_44 45 rfl ?_
  refine jl_aload_n (i := 0) h rfl rfl dc_NL_collect_45 46 rfl ?_
  refine jl_getf h nm_c_NL 9 wl_NL_47 (by omega) (by decide) (by exact rfl) (by rfl) dc_NL_collect_46 49 rfl ?_
  refine jl_callV (As := []) (rest := [_, _]) h hr vs_NL_61 vi_FO_leastEnergy vx_FO_leastEnergy (ci := 3) rfl (by omega) (by exact rfl) (fun l => c_FO_leastEnergy l hS3) (by first | decide | omega) (by first | decide | omega) rfl rfl (Nat.le_of_ble_eq_true rfl) dc_NL_collect_49 (res := [_, _, _]) rfl 52 rfl ?_
  rw [hV3]
  refine jl_aload_n (i := 0) h rfl rfl dc_NL_collect_52 53 rfl ?_
  refine jl_callV (As := []) (rest := [_, _, _]) h hr vs_NL_72 vi_NL_textWithoutPairs vx_NL_textWithoutPairs (ci := 5) rfl (by omega) (by exact rfl) (fun l => c_NL_textWithoutPairs l hS3) (by first | decide | omega) (by first | decide | omega) rfl rfl (Nat.le_of_ble_eq_true rfl) dc_NL_collect_53 (res := [_, _, _, _]) rfl 56 rfl ?_
  refine jl_iconst (v := nI 0) h (by decide) dc_NL_collect_56 57 rfl ?_
  refine jl_callVV (As := [_, _, _, _]) (rest := []) h hr vs_NL_76 vi_NL_fillRegions vx_NL_fillRegions (ci := 5) rfl (by omega) (by exact rfl) (fun l => (nl_search 38).1 l _ V3 L R3 [(0, 0, n)] 0 (nl_t0 n) ([], false) 0 hcx3 hst3.2.2.1 hst3.2.2.2 (fun q hq => by rw [List.mem_singleton] at hq; subst hq; exact ⟨by show 0 < 4; decide, by show 0 ≤ n; omega, Nat.le_refl n⟩) (by show 2 * (n - 0) + 1 + 0 < 38; omega) (by show 0 + (2 * (n - 0) + 1 + 0) ≤ 37; omega) (by decide) (by decide) (by decide) (by omega) (by omega)) (by first | decide | omega) (by first | decide | omega) rfl rfl (Nat.le_of_ble_eq_true rfl) dc_NL_collect_57 60 rfl ?_
  rintro E9 ⟨I4, V4, L4, R4, hst4, rfl⟩
  refine jl_aload_n (i := 0) h rfl rfl dc_NL_collect_60 61 rfl ?_
  refine jl_getf (v := .int (st_bI (nl_res b n lim).2)) h nm_c_NL 2 wl_NL_19 (by omega) (by decide) (by exact rfl) (by exact sr_v hst4.2.2.1.2.1) dc_NL_collect_61 64 rfl ?_
  refine jl_if_eq h 72 (by decide) dc_NL_collect_64 67 rfl (fun c64 => ?_) (fun c64 => ?_)
  · skip
    rw [st_b0] at c64
    refine jl_aload_n (i := 0) h rfl rfl dc_NL_collect_72 73 rfl ?_
    refine jl_getf (v := .int (st_bI (nl_res b n lim).2)) h nm_c_NL 2 wl_NL_19 (by omega) (by decide) (by exact rfl) (by exact sr_v hst4.2.2.1.2.1) dc_NL_collect_73 76 rfl ?_
    refine jl_if_ne h 83 (by decide) dc_NL_collect_76 79 rfl (fun c76 => ?_) (fun c76 => ?_)
    · skip
      rw [st_b1] at c76
      refine jl_iconst (v := 0) h (by decide) dc_NL_collect_83 84 rfl ?_
      exact jl_zretP h he rfl (by first | exact ⟨I4, V4, L4, R4, by rw [c76]; rfl, fun k h1 h2 h3 => (hst4.1 k h1 h2).trans (by rw [va_up_ne _ _ h3, va_up_ne _ _ h2, va_up_ne _ _ h1]), fun c h1 h2 => (hst4.2.1 c h1 h2).trans (hst3.2.1 c h1 h2), by rw [if_neg (by rw [c76]; decide)]; exact ⟨hst4.2.2.1.1, hst4.2.2.1.2.2.1, hst4.2.2.1.2.2.2.1, hst4.2.2.1.2.2.2.2.1, hst4.2.2.1.2.2.2.2.2⟩, rfl⟩ | exact ⟨_, V4, L4, R4, by rw [c76]; rfl, fun k h1 h2 h3 => (va_up_ne _ _ h1).trans ((hst4.1 k h1 h2).trans (by rw [va_up_ne _ _ h3, va_up_ne _ _ h2, va_up_ne _ _ h1])), fun c h1 h2 => (hst4.2.1 c h1 h2).trans (hst3.2.1 c h1 h2), by rw [if_pos c76]; exact ⟨rfl, fun k hk => absurd hk (by simp), by decide, List.Pairwise.nil, fun z hz => by simp at hz⟩, rfl⟩ | (rw [c64] at c76; cases c76)) dc_NL_collect_84
    · skip
      rw [st_b0] at c76
      refine jl_iconst (v := 1) h (by decide) dc_NL_collect_79 80 rfl ?_
      refine jl_goto h 84 (by decide) dc_NL_collect_80 ?_
      exact jl_zretP h he rfl (by first | exact ⟨I4, V4, L4, R4, by rw [c76]; rfl, fun k h1 h2 h3 => (hst4.1 k h1 h2).trans (by rw [va_up_ne _ _ h3, va_up_ne _ _ h2, va_up_ne _ _ h1]), fun c h1 h2 => (hst4.2.1 c h1 h2).trans (hst3.2.1 c h1 h2), by rw [if_neg (by rw [c76]; decide)]; exact ⟨hst4.2.2.1.1, hst4.2.2.1.2.2.1, hst4.2.2.1.2.2.2.1, hst4.2.2.1.2.2.2.2.1, hst4.2.2.1.2.2.2.2.2⟩, rfl⟩ | exact ⟨_, V4, L4, R4, by rw [c76]; rfl, fun k h1 h2 h3 => (va_up_ne _ _ h1).trans ((hst4.1 k h1 h2).trans (by rw [va_up_ne _ _ h3, va_up_ne _ _ h2, va_up_ne _ _ h1])), fun c h1 h2 => (hst4.2.1 c h1 h2).trans (hst3.2.1 c h1 h2), by rw [if_pos c76]; exact ⟨rfl, fun k hk => absurd hk (by simp), by decide, List.Pairwise.nil, fun z hz => by simp at hz⟩, rfl⟩ | (rw [c64] at c76; cases c76)) dc_NL_collect_84
  · skip
    rw [st_b1] at c64
    refine jl_aload_n (i := 0) h rfl rfl dc_NL_collect_67 68 rfl ?_
    refine jl_iconst (v := nI 0) h (by decide) dc_NL_collect_68 69 rfl ?_
    refine jl_putf (fs2 := [_, _, _, _, _, _, _, _, _, _]) h nm_c_NL 1 wl_NL_15 (by omega) (by decide) rfl (by exact rfl) (by rfl) (by rfl) (by exact Nat.le_of_ble_eq_true rfl) (by rfl) dc_NL_collect_69 (gw_set_count _) 72 rfl ?_
    refine jl_aload_n (i := 0) h rfl rfl dc_NL_collect_72 73 rfl ?_
    refine jl_getf (v := .int (st_bI (nl_res b n lim).2)) h nm_c_NL 2 wl_NL_19 (by omega) (by decide) (by exact rfl) (by exact sr_v hst4.2.2.1.2.1) dc_NL_collect_73 76 rfl ?_
    refine jl_if_ne h 83 (by decide) dc_NL_collect_76 79 rfl (fun c76 => ?_) (fun c76 => ?_)
    · skip
      rw [st_b1] at c76
      refine jl_iconst (v := 0) h (by decide) dc_NL_collect_83 84 rfl ?_
      exact jl_zretP h he rfl (by first | exact ⟨I4, V4, L4, R4, by rw [c76]; rfl, fun k h1 h2 h3 => (hst4.1 k h1 h2).trans (by rw [va_up_ne _ _ h3, va_up_ne _ _ h2, va_up_ne _ _ h1]), fun c h1 h2 => (hst4.2.1 c h1 h2).trans (hst3.2.1 c h1 h2), by rw [if_neg (by rw [c76]; decide)]; exact ⟨hst4.2.2.1.1, hst4.2.2.1.2.2.1, hst4.2.2.1.2.2.2.1, hst4.2.2.1.2.2.2.2.1, hst4.2.2.1.2.2.2.2.2⟩, rfl⟩ | exact ⟨_, V4, L4, R4, by rw [c76]; rfl, fun k h1 h2 h3 => (va_up_ne _ _ h1).trans ((hst4.1 k h1 h2).trans (by rw [va_up_ne _ _ h3, va_up_ne _ _ h2, va_up_ne _ _ h1])), fun c h1 h2 => (hst4.2.1 c h1 h2).trans (hst3.2.1 c h1 h2), by rw [if_pos c76]; exact ⟨rfl, fun k hk => absurd hk (by simp), by decide, List.Pairwise.nil, fun z hz => by simp at hz⟩, rfl⟩ | (rw [c64] at c76; cases c76)) dc_NL_collect_84
    · skip
      rw [st_b0] at c76
      refine jl_iconst (v := 1) h (by decide) dc_NL_collect_79 80 rfl ?_
      refine jl_goto h 84 (by decide) dc_NL_collect_80 ?_
      exact jl_zretP h he rfl (by first | exact ⟨I4, V4, L4, R4, by rw [c76]; rfl, fun k h1 h2 h3 => (hst4.1 k h1 h2).trans (by rw [va_up_ne _ _ h3, va_up_ne _ _ h2, va_up_ne _ _ h1]), fun c h1 h2 => (hst4.2.1 c h1 h2).trans (hst3.2.1 c h1 h2), by rw [if_neg (by rw [c76]; decide)]; exact ⟨hst4.2.2.1.1, hst4.2.2.1.2.2.1, hst4.2.2.1.2.2.2.1, hst4.2.2.1.2.2.2.2.1, hst4.2.2.1.2.2.2.2.2⟩, rfl⟩ | exact ⟨_, V4, L4, R4, by rw [c76]; rfl, fun k h1 h2 h3 => (va_up_ne _ _ h1).trans ((hst4.1 k h1 h2).trans (by rw [va_up_ne _ _ h3, va_up_ne _ _ h2, va_up_ne _ _ h1])), fun c h1 h2 => (hst4.2.1 c h1 h2).trans (hst3.2.1 c h1 h2), by rw [if_pos c76]; exact ⟨rfl, fun k hk => absurd hk (by simp), by decide, List.Pairwise.nil, fun z hz => by simp at hz⟩, rfl⟩ | (rw [c64] at c76; cases c76)) dc_NL_collect_84
end FS

