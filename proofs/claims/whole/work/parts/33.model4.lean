/-! The reference: clearOwn, base, clear, isListed, energyOf, at, useOwn, pairsOfOwn, take, type, energy, partner, loop. -/
theorem mo_fill {f g : Nat → Int32} (p : Nat) : upd (fun j => if j < p then g j else f j) p (g p) = fun j => if j < p + 1 then g j else f j := by
  funext j
  unfold upd
  by_cases e : j = p
  · subst e; simp
  · by_cases e2 : j < p
    · simp [e, e2, Nat.lt_succ_of_lt e2]
    · simp [e, e2, show ¬ j < p + 1 by omega]
theorem mo_fill0 {V : Nat → Nat → Int32} {c : Nat} {g : Nat → Int32} : va_up V c (fun j => if j < 0 then g j else V c j) = V := by
  funext k
  unfold va_up
  split
  · rename_i e
    rw [e]
    rfl
  · rfl
theorem mo_norm {x : jl_X} {N : Nat} {ad : Nat → Nat} {K : Nat → ClassId} {cells slots pc : Nat} {lc : List (Nat × Value)} {st : List Value} {I : Nat → Int32} {V : Nat → Nat → Int32} {L : Nat → Int64} {C : Nat → Int32} {G R : Nat → Nat} {c len : Nat} (hc : gw_i c = true ∧ gw_len c = len) {f g : Nat → Int32} (hfg : ∀ j, j < len → f j = g j) (kk : jl_J x N ad cells slots (gw K ad I (va_up V c g) L C G R) pc lc st) : jl_J x N ad cells slots (gw K ad I (va_up V c f) L C G R) pc lc st := by
  rw [← gw_rowset hc] at kk ⊢
  exact jl_normA hfg kk
theorem st_num_get {q : Int32} {a : Nat} (ha : a < 4) (h : st_num q = a) : q = nm_s0.getD a 0 := by
  unfold st_num at h
  by_cases e1 : q = 65
  · rw [if_pos e1] at h
    have h0 : a = 0 := by omega
    rw [h0]
    exact e1
  rw [if_neg e1] at h
  by_cases e2 : q = 67
  · rw [if_pos e2] at h
    have h0 : a = 1 := by omega
    rw [h0]
    exact e2
  rw [if_neg e2] at h
  by_cases e3 : q = 71
  · rw [if_pos e3] at h
    have h0 : a = 2 := by omega
    rw [h0]
    exact e3
  rw [if_neg e3] at h
  by_cases e4 : q = 85
  · rw [if_pos e4] at h
    have h0 : a = 3 := by omega
    rw [h0]
    exact e4
  rw [if_neg e4] at h
  omega
theorem st_num_m1 {q : Int32} (h : st_num q = -1) : q ≠ 65 ∧ q ≠ 67 ∧ q ≠ 71 ∧ q ≠ 85 := by
  unfold st_num at h
  refine ⟨fun e => ?_, fun e => ?_, fun e => ?_, fun e => ?_⟩ <;> rw [e] at h <;> exact absurd h (by decide)
abbrev bc_MO_isListed : ByteArray := prog_9_method_27_code
abbrev yn_MO_isListed : MethodName := ⟨"FoldedStrandModel", "isListed", "(I)Z"⟩
theorem dc_MO_isListed_0 : decode bc_MO_isListed 0 = .ok (.iload_n 1, 1) := by decide +kernel
theorem dc_MO_isListed_1 : decode bc_MO_isListed 1 = .ok (.ifCond .lt 15, 3) := by decide +kernel
theorem dc_MO_isListed_4 : decode bc_MO_isListed 4 = .ok (.iload_n 1, 1) := by decide +kernel
theorem dc_MO_isListed_5 : decode bc_MO_isListed 5 = .ok (.aload_n 0, 1) := by decide +kernel
theorem dc_MO_isListed_6 : decode bc_MO_isListed 6 = .ok (.getfield 34, 3) := by decide +kernel
theorem dc_MO_isListed_9 : decode bc_MO_isListed 9 = .ok (.if_icmp .ge 7, 3) := by decide +kernel
theorem dc_MO_isListed_12 : decode bc_MO_isListed 12 = .ok (.iconst 1, 1) := by decide +kernel
theorem dc_MO_isListed_13 : decode bc_MO_isListed 13 = .ok (.goto 4, 3) := by decide +kernel
theorem dc_MO_isListed_16 : decode bc_MO_isListed 16 = .ok (.iconst 0, 1) := by decide +kernel
theorem dc_MO_isListed_17 : decode bc_MO_isListed 17 = .ok (.ireturn, 1) := by decide +kernel
abbrev bc_MO_energyOf : ByteArray := prog_9_method_28_code
abbrev yn_MO_energyOf : MethodName := ⟨"FoldedStrandModel", "energyOf", "(I)I"⟩
theorem vs_MO_117 : jl_v "FoldedStrandModel" 117 yn_MO_isListed bc_MO_isListed 2 (some .boolean) 1 := ⟨jl_T_of 661 (by decide +kernel) (by decide +kernel), jl_T_of 9 (by decide +kernel) (by decide +kernel), jl_T_of 658 (by decide +kernel) (by decide +kernel), by decide +kernel, by decide +kernel, by decide +kernel⟩
theorem vi_MO_isListed : Cond.instanceMethod yn_MO_isListed ∈ jl_T := jl_T_of 660 (by decide +kernel) (by decide +kernel)
theorem vx_MO_isListed : Cond.selects "FoldedStrandModel" yn_MO_isListed yn_MO_isListed ∈ jl_T := jl_T_sel 31 (by decide +kernel) (by decide +kernel)
theorem dc_MO_energyOf_0 : decode bc_MO_energyOf 0 = .ok (.aload_n 0, 1) := by decide +kernel
theorem dc_MO_energyOf_1 : decode bc_MO_energyOf 1 = .ok (.iload_n 1, 1) := by decide +kernel
theorem dc_MO_energyOf_2 : decode bc_MO_energyOf 2 = .ok (.invokevirtual 117, 3) := by decide +kernel
theorem dc_MO_energyOf_5 : decode bc_MO_energyOf 5 = .ok (.ifCond .eq 12, 3) := by decide +kernel
theorem dc_MO_energyOf_8 : decode bc_MO_energyOf 8 = .ok (.aload_n 0, 1) := by decide +kernel
theorem dc_MO_energyOf_9 : decode bc_MO_energyOf 9 = .ok (.getfield 25, 3) := by decide +kernel
theorem dc_MO_energyOf_12 : decode bc_MO_energyOf 12 = .ok (.iload_n 1, 1) := by decide +kernel
theorem dc_MO_energyOf_13 : decode bc_MO_energyOf 13 = .ok (.iaload, 1) := by decide +kernel
theorem dc_MO_energyOf_14 : decode bc_MO_energyOf 14 = .ok (.goto 4, 3) := by decide +kernel
theorem dc_MO_energyOf_17 : decode bc_MO_energyOf 17 = .ok (.iconst 0, 1) := by decide +kernel
theorem dc_MO_energyOf_18 : decode bc_MO_energyOf 18 = .ok (.ireturn, 1) := by decide +kernel
abbrev bc_MO_at : ByteArray := prog_9_method_29_code
abbrev yn_MO_at : MethodName := ⟨"FoldedStrandModel", "at", "(II)I"⟩
theorem dc_MO_at_0 : decode bc_MO_at 0 = .ok (.aload_n 0, 1) := by decide +kernel
theorem dc_MO_at_1 : decode bc_MO_at 1 = .ok (.iload_n 1, 1) := by decide +kernel
theorem dc_MO_at_2 : decode bc_MO_at 2 = .ok (.invokevirtual 117, 3) := by decide +kernel
theorem dc_MO_at_5 : decode bc_MO_at 5 = .ok (.ifCond .eq 15, 3) := by decide +kernel
theorem dc_MO_at_8 : decode bc_MO_at 8 = .ok (.iload_n 2, 1) := by decide +kernel
theorem dc_MO_at_9 : decode bc_MO_at 9 = .ok (.ifCond .lt 11, 3) := by decide +kernel
theorem dc_MO_at_12 : decode bc_MO_at 12 = .ok (.iload_n 2, 1) := by decide +kernel
theorem dc_MO_at_13 : decode bc_MO_at 13 = .ok (.aload_n 0, 1) := by decide +kernel
theorem dc_MO_at_14 : decode bc_MO_at 14 = .ok (.getfield 42, 3) := by decide +kernel
theorem dc_MO_at_17 : decode bc_MO_at 17 = .ok (.if_icmp .lt 5, 3) := by decide +kernel
theorem dc_MO_at_20 : decode bc_MO_at 20 = .ok (.iconst (-1), 1) := by decide +kernel
theorem dc_MO_at_21 : decode bc_MO_at 21 = .ok (.ireturn, 1) := by decide +kernel
theorem dc_MO_at_22 : decode bc_MO_at 22 = .ok (.aload_n 0, 1) := by decide +kernel
theorem dc_MO_at_23 : decode bc_MO_at 23 = .ok (.iload_n 1, 1) := by decide +kernel
theorem dc_MO_at_24 : decode bc_MO_at 24 = .ok (.iload_n 2, 1) := by decide +kernel
theorem dc_MO_at_25 : decode bc_MO_at 25 = .ok (.invokevirtual 107, 3) := by decide +kernel
theorem dc_MO_at_28 : decode bc_MO_at 28 = .ok (.ifCond .ne 8, 3) := by decide +kernel
theorem dc_MO_at_31 : decode bc_MO_at 31 = .ok (.bipush 40, 2) := by decide +kernel
theorem dc_MO_at_33 : decode bc_MO_at 33 = .ok (.goto 20, 3) := by decide +kernel
theorem dc_MO_at_36 : decode bc_MO_at 36 = .ok (.aload_n 0, 1) := by decide +kernel
theorem dc_MO_at_37 : decode bc_MO_at 37 = .ok (.iload_n 1, 1) := by decide +kernel
theorem dc_MO_at_38 : decode bc_MO_at 38 = .ok (.iload_n 2, 1) := by decide +kernel
theorem dc_MO_at_39 : decode bc_MO_at 39 = .ok (.invokevirtual 107, 3) := by decide +kernel
theorem dc_MO_at_42 : decode bc_MO_at 42 = .ok (.iconst 1, 1) := by decide +kernel
theorem dc_MO_at_43 : decode bc_MO_at 43 = .ok (.if_icmp .ne 8, 3) := by decide +kernel
theorem dc_MO_at_46 : decode bc_MO_at 46 = .ok (.bipush 41, 2) := by decide +kernel
theorem dc_MO_at_48 : decode bc_MO_at 48 = .ok (.goto 5, 3) := by decide +kernel
theorem dc_MO_at_51 : decode bc_MO_at 51 = .ok (.bipush 46, 2) := by decide +kernel
theorem dc_MO_at_53 : decode bc_MO_at 53 = .ok (.ireturn, 1) := by decide +kernel
abbrev bc_MO_useOwn : ByteArray := prog_9_method_31_code
abbrev yn_MO_useOwn : MethodName := ⟨"FoldedStrandModel", "useOwn", "()V"⟩
theorem dc_MO_useOwn_0 : decode bc_MO_useOwn 0 = .ok (.iconst 0, 1) := by decide +kernel
theorem dc_MO_useOwn_1 : decode bc_MO_useOwn 1 = .ok (.istore_n 1, 1) := by decide +kernel
theorem dc_MO_useOwn_2 : decode bc_MO_useOwn 2 = .ok (.iload_n 1, 1) := by decide +kernel
theorem dc_MO_useOwn_3 : decode bc_MO_useOwn 3 = .ok (.bipush 18, 2) := by decide +kernel
theorem dc_MO_useOwn_5 : decode bc_MO_useOwn 5 = .ok (.if_icmp .ge 21, 3) := by decide +kernel
theorem dc_MO_useOwn_8 : decode bc_MO_useOwn 8 = .ok (.aload_n 0, 1) := by decide +kernel
theorem dc_MO_useOwn_9 : decode bc_MO_useOwn 9 = .ok (.getfield 19, 3) := by decide +kernel
theorem dc_MO_useOwn_12 : decode bc_MO_useOwn 12 = .ok (.iload_n 1, 1) := by decide +kernel
theorem dc_MO_useOwn_13 : decode bc_MO_useOwn 13 = .ok (.aload_n 0, 1) := by decide +kernel
theorem dc_MO_useOwn_14 : decode bc_MO_useOwn 14 = .ok (.getfield 22, 3) := by decide +kernel
theorem dc_MO_useOwn_17 : decode bc_MO_useOwn 17 = .ok (.iload_n 1, 1) := by decide +kernel
theorem dc_MO_useOwn_18 : decode bc_MO_useOwn 18 = .ok (.iaload, 1) := by decide +kernel
theorem dc_MO_useOwn_19 : decode bc_MO_useOwn 19 = .ok (.iastore, 1) := by decide +kernel
theorem dc_MO_useOwn_20 : decode bc_MO_useOwn 20 = .ok (.iinc 1 1, 3) := by decide +kernel
theorem dc_MO_useOwn_23 : decode bc_MO_useOwn 23 = .ok (.goto (-21), 3) := by decide +kernel
theorem dc_MO_useOwn_26 : decode bc_MO_useOwn 26 = .ok (.return_, 1) := by decide +kernel
abbrev bc_MO_pairsOfOwn : ByteArray := prog_9_method_32_code
abbrev yn_MO_pairsOfOwn : MethodName := ⟨"FoldedStrandModel", "pairsOfOwn", "()I"⟩
theorem vs_MO_123 : jl_v "FoldedStrandModel" 123 yn_MO_useOwn bc_MO_useOwn 2 none 0 := ⟨jl_T_of 677 (by decide +kernel) (by decide +kernel), jl_T_of 9 (by decide +kernel) (by decide +kernel), jl_T_of 674 (by decide +kernel) (by decide +kernel), by decide +kernel, by decide +kernel, by decide +kernel⟩
theorem vi_MO_useOwn : Cond.instanceMethod yn_MO_useOwn ∈ jl_T := jl_T_of 676 (by decide +kernel) (by decide +kernel)
theorem vx_MO_useOwn : Cond.selects "FoldedStrandModel" yn_MO_useOwn yn_MO_useOwn ∈ jl_T := jl_T_sel 33 (by decide +kernel) (by decide +kernel)
theorem dc_MO_pairsOfOwn_0 : decode bc_MO_pairsOfOwn 0 = .ok (.aload_n 0, 1) := by decide +kernel
theorem dc_MO_pairsOfOwn_1 : decode bc_MO_pairsOfOwn 1 = .ok (.invokevirtual 123, 3) := by decide +kernel
theorem dc_MO_pairsOfOwn_4 : decode bc_MO_pairsOfOwn 4 = .ok (.aload_n 0, 1) := by decide +kernel
theorem dc_MO_pairsOfOwn_5 : decode bc_MO_pairsOfOwn 5 = .ok (.invokevirtual 94, 3) := by decide +kernel
theorem dc_MO_pairsOfOwn_8 : decode bc_MO_pairsOfOwn 8 = .ok (.ireturn, 1) := by decide +kernel
abbrev bc_MO_take : ByteArray := prog_9_method_30_code
abbrev yn_MO_take : MethodName := ⟨"FoldedStrandModel", "take", "(I)I"⟩
theorem vs_MO_120 : jl_v "FoldedStrandModel" 120 yn_MO_pairsOfOwn bc_MO_pairsOfOwn 1 (some .int) 0 := ⟨jl_T_of 673 (by decide +kernel) (by decide +kernel), jl_T_of 9 (by decide +kernel) (by decide +kernel), jl_T_of 670 (by decide +kernel) (by decide +kernel), by decide +kernel, by decide +kernel, by decide +kernel⟩
theorem vi_MO_pairsOfOwn : Cond.instanceMethod yn_MO_pairsOfOwn ∈ jl_T := jl_T_of 672 (by decide +kernel) (by decide +kernel)
theorem vx_MO_pairsOfOwn : Cond.selects "FoldedStrandModel" yn_MO_pairsOfOwn yn_MO_pairsOfOwn ∈ jl_T := jl_T_sel 32 (by decide +kernel) (by decide +kernel)
theorem dc_MO_take_0 : decode bc_MO_take 0 = .ok (.aload_n 0, 1) := by decide +kernel
theorem dc_MO_take_1 : decode bc_MO_take 1 = .ok (.iload_n 1, 1) := by decide +kernel
theorem dc_MO_take_2 : decode bc_MO_take 2 = .ok (.invokevirtual 117, 3) := by decide +kernel
theorem dc_MO_take_5 : decode bc_MO_take 5 = .ok (.ifCond .ne 5, 3) := by decide +kernel
theorem dc_MO_take_8 : decode bc_MO_take 8 = .ok (.iconst (-1), 1) := by decide +kernel
theorem dc_MO_take_9 : decode bc_MO_take 9 = .ok (.ireturn, 1) := by decide +kernel
theorem dc_MO_take_10 : decode bc_MO_take 10 = .ok (.iconst 0, 1) := by decide +kernel
theorem dc_MO_take_11 : decode bc_MO_take 11 = .ok (.istore_n 2, 1) := by decide +kernel
theorem dc_MO_take_12 : decode bc_MO_take 12 = .ok (.iload_n 2, 1) := by decide +kernel
theorem dc_MO_take_13 : decode bc_MO_take 13 = .ok (.bipush 18, 2) := by decide +kernel
theorem dc_MO_take_15 : decode bc_MO_take 15 = .ok (.if_icmp .ge 26, 3) := by decide +kernel
theorem dc_MO_take_18 : decode bc_MO_take 18 = .ok (.aload_n 0, 1) := by decide +kernel
theorem dc_MO_take_19 : decode bc_MO_take 19 = .ok (.getfield 22, 3) := by decide +kernel
theorem dc_MO_take_22 : decode bc_MO_take 22 = .ok (.iload_n 2, 1) := by decide +kernel
theorem dc_MO_take_23 : decode bc_MO_take 23 = .ok (.aload_n 0, 1) := by decide +kernel
theorem dc_MO_take_24 : decode bc_MO_take 24 = .ok (.getfield 28, 3) := by decide +kernel
theorem dc_MO_take_27 : decode bc_MO_take 27 = .ok (.bipush 18, 2) := by decide +kernel
theorem dc_MO_take_29 : decode bc_MO_take 29 = .ok (.iload_n 1, 1) := by decide +kernel
theorem dc_MO_take_30 : decode bc_MO_take 30 = .ok (.imul, 1) := by decide +kernel
theorem dc_MO_take_31 : decode bc_MO_take 31 = .ok (.iload_n 2, 1) := by decide +kernel
theorem dc_MO_take_32 : decode bc_MO_take 32 = .ok (.iadd, 1) := by decide +kernel
theorem dc_MO_take_33 : decode bc_MO_take 33 = .ok (.iaload, 1) := by decide +kernel
theorem dc_MO_take_34 : decode bc_MO_take 34 = .ok (.iastore, 1) := by decide +kernel
theorem dc_MO_take_35 : decode bc_MO_take 35 = .ok (.iinc 2 1, 3) := by decide +kernel
theorem dc_MO_take_38 : decode bc_MO_take 38 = .ok (.goto (-26), 3) := by decide +kernel
theorem dc_MO_take_41 : decode bc_MO_take 41 = .ok (.aload_n 0, 1) := by decide +kernel
theorem dc_MO_take_42 : decode bc_MO_take 42 = .ok (.invokevirtual 120, 3) := by decide +kernel
theorem dc_MO_take_45 : decode bc_MO_take 45 = .ok (.ireturn, 1) := by decide +kernel
abbrev bc_MO_type : ByteArray := prog_9_method_33_code
abbrev yn_MO_type : MethodName := ⟨"FoldedStrandModel", "type", "(C)Z"⟩
theorem wl_MO_126 : Cond.fieldLink "FoldedStrandModel" 126 "FoldedStrandModel" "typed" "I" ∈ jl_T := jl_T_of 518 (by decide +kernel) (by decide +kernel)
theorem wl_MO_16 : Cond.fieldLink "FoldedStrandModel" 16 "FoldedStrandModel" "typing" "[I" ∈ jl_T := jl_T_of 519 (by decide +kernel) (by decide +kernel)
theorem dc_MO_type_0 : decode bc_MO_type 0 = .ok (.iload_n 1, 1) := by decide +kernel
theorem dc_MO_type_1 : decode bc_MO_type 1 = .ok (.bipush 32, 2) := by decide +kernel
theorem dc_MO_type_3 : decode bc_MO_type 3 = .ok (.if_icmp .lt 18, 3) := by decide +kernel
theorem dc_MO_type_6 : decode bc_MO_type 6 = .ok (.iload_n 1, 1) := by decide +kernel
theorem dc_MO_type_7 : decode bc_MO_type 7 = .ok (.bipush 126, 2) := by decide +kernel
theorem dc_MO_type_9 : decode bc_MO_type 9 = .ok (.if_icmp .gt 12, 3) := by decide +kernel
theorem dc_MO_type_12 : decode bc_MO_type 12 = .ok (.aload_n 0, 1) := by decide +kernel
theorem dc_MO_type_13 : decode bc_MO_type 13 = .ok (.getfield 126, 3) := by decide +kernel
theorem dc_MO_type_16 : decode bc_MO_type 16 = .ok (.bipush 20, 2) := by decide +kernel
theorem dc_MO_type_18 : decode bc_MO_type 18 = .ok (.if_icmp .ne 5, 3) := by decide +kernel
theorem dc_MO_type_21 : decode bc_MO_type 21 = .ok (.iconst 0, 1) := by decide +kernel
theorem dc_MO_type_22 : decode bc_MO_type 22 = .ok (.ireturn, 1) := by decide +kernel
theorem dc_MO_type_23 : decode bc_MO_type 23 = .ok (.aload_n 0, 1) := by decide +kernel
theorem dc_MO_type_24 : decode bc_MO_type 24 = .ok (.getfield 16, 3) := by decide +kernel
theorem dc_MO_type_27 : decode bc_MO_type 27 = .ok (.aload_n 0, 1) := by decide +kernel
theorem dc_MO_type_28 : decode bc_MO_type 28 = .ok (.getfield 126, 3) := by decide +kernel
theorem dc_MO_type_31 : decode bc_MO_type 31 = .ok (.iload_n 1, 1) := by decide +kernel
theorem dc_MO_type_32 : decode bc_MO_type 32 = .ok (.iastore, 1) := by decide +kernel
theorem dc_MO_type_33 : decode bc_MO_type 33 = .ok (.aload_n 0, 1) := by decide +kernel
theorem dc_MO_type_34 : decode bc_MO_type 34 = .ok (.dup, 1) := by decide +kernel
theorem dc_MO_type_35 : decode bc_MO_type 35 = .ok (.getfield 126, 3) := by decide +kernel
theorem dc_MO_type_38 : decode bc_MO_type 38 = .ok (.iconst 1, 1) := by decide +kernel
theorem dc_MO_type_39 : decode bc_MO_type 39 = .ok (.iadd, 1) := by decide +kernel
theorem dc_MO_type_40 : decode bc_MO_type 40 = .ok (.putfield 126, 3) := by decide +kernel
theorem dc_MO_type_43 : decode bc_MO_type 43 = .ok (.iconst 1, 1) := by decide +kernel
theorem dc_MO_type_44 : decode bc_MO_type 44 = .ok (.ireturn, 1) := by decide +kernel
abbrev bc_MO_energy : ByteArray := prog_9_method_37_code
abbrev yn_MO_energy : MethodName := ⟨"FoldedStrandModel", "energy", "()I"⟩
theorem dc_MO_energy_0 : decode bc_MO_energy 0 = .ok (.aload_n 0, 1) := by decide +kernel
theorem dc_MO_energy_1 : decode bc_MO_energy 1 = .ok (.invokevirtual 123, 3) := by decide +kernel
theorem dc_MO_energy_4 : decode bc_MO_energy 4 = .ok (.aload_n 0, 1) := by decide +kernel
theorem dc_MO_energy_5 : decode bc_MO_energy 5 = .ok (.invokevirtual 90, 3) := by decide +kernel
theorem dc_MO_energy_8 : decode bc_MO_energy 8 = .ok (.ireturn, 1) := by decide +kernel
abbrev bc_MO_partner : ByteArray := prog_9_method_38_code
abbrev yn_MO_partner : MethodName := ⟨"FoldedStrandModel", "partner", "(I)I"⟩
theorem dc_MO_partner_0 : decode bc_MO_partner 0 = .ok (.iload_n 1, 1) := by decide +kernel
theorem dc_MO_partner_1 : decode bc_MO_partner 1 = .ok (.ifCond .lt 20, 3) := by decide +kernel
theorem dc_MO_partner_4 : decode bc_MO_partner 4 = .ok (.iload_n 1, 1) := by decide +kernel
theorem dc_MO_partner_5 : decode bc_MO_partner 5 = .ok (.aload_n 0, 1) := by decide +kernel
theorem dc_MO_partner_6 : decode bc_MO_partner 6 = .ok (.getfield 42, 3) := by decide +kernel
theorem dc_MO_partner_9 : decode bc_MO_partner 9 = .ok (.if_icmp .ge 12, 3) := by decide +kernel
theorem dc_MO_partner_12 : decode bc_MO_partner 12 = .ok (.aload_n 0, 1) := by decide +kernel
theorem dc_MO_partner_13 : decode bc_MO_partner 13 = .ok (.getfield 22, 3) := by decide +kernel
theorem dc_MO_partner_16 : decode bc_MO_partner 16 = .ok (.iload_n 1, 1) := by decide +kernel
theorem dc_MO_partner_17 : decode bc_MO_partner 17 = .ok (.iaload, 1) := by decide +kernel
theorem dc_MO_partner_18 : decode bc_MO_partner 18 = .ok (.goto 4, 3) := by decide +kernel
theorem dc_MO_partner_21 : decode bc_MO_partner 21 = .ok (.iconst (-1), 1) := by decide +kernel
theorem dc_MO_partner_22 : decode bc_MO_partner 22 = .ok (.ireturn, 1) := by decide +kernel
abbrev bc_MO_loop : ByteArray := prog_9_method_39_code
abbrev yn_MO_loop : MethodName := ⟨"FoldedStrandModel", "loop", "(I)I"⟩
theorem dc_MO_loop_0 : decode bc_MO_loop 0 = .ok (.iload_n 1, 1) := by decide +kernel
theorem dc_MO_loop_1 : decode bc_MO_loop 1 = .ok (.ifCond .lt 21, 3) := by decide +kernel
theorem dc_MO_loop_4 : decode bc_MO_loop 4 = .ok (.iload_n 1, 1) := by decide +kernel
theorem dc_MO_loop_5 : decode bc_MO_loop 5 = .ok (.aload_n 0, 1) := by decide +kernel
theorem dc_MO_loop_6 : decode bc_MO_loop 6 = .ok (.getfield 42, 3) := by decide +kernel
theorem dc_MO_loop_9 : decode bc_MO_loop 9 = .ok (.if_icmp .ge 13, 3) := by decide +kernel
theorem dc_MO_loop_12 : decode bc_MO_loop 12 = .ok (.aload_n 0, 1) := by decide +kernel
theorem dc_MO_loop_13 : decode bc_MO_loop 13 = .ok (.getfield 22, 3) := by decide +kernel
theorem dc_MO_loop_16 : decode bc_MO_loop 16 = .ok (.iload_n 1, 1) := by decide +kernel
theorem dc_MO_loop_17 : decode bc_MO_loop 17 = .ok (.iaload, 1) := by decide +kernel
theorem dc_MO_loop_18 : decode bc_MO_loop 18 = .ok (.iload_n 1, 1) := by decide +kernel
theorem dc_MO_loop_19 : decode bc_MO_loop 19 = .ok (.if_icmp .gt 5, 3) := by decide +kernel
theorem dc_MO_loop_22 : decode bc_MO_loop 22 = .ok (.iconst 0, 1) := by decide +kernel
theorem dc_MO_loop_23 : decode bc_MO_loop 23 = .ok (.ireturn, 1) := by decide +kernel
theorem dc_MO_loop_24 : decode bc_MO_loop 24 = .ok (.aload_n 0, 1) := by decide +kernel
theorem dc_MO_loop_25 : decode bc_MO_loop 25 = .ok (.invokevirtual 123, 3) := by decide +kernel
theorem dc_MO_loop_28 : decode bc_MO_loop 28 = .ok (.aload_n 0, 1) := by decide +kernel
theorem dc_MO_loop_29 : decode bc_MO_loop 29 = .ok (.iload_n 1, 1) := by decide +kernel
theorem dc_MO_loop_30 : decode bc_MO_loop 30 = .ok (.aload_n 0, 1) := by decide +kernel
theorem dc_MO_loop_31 : decode bc_MO_loop 31 = .ok (.getfield 22, 3) := by decide +kernel
theorem dc_MO_loop_34 : decode bc_MO_loop 34 = .ok (.iload_n 1, 1) := by decide +kernel
theorem dc_MO_loop_35 : decode bc_MO_loop 35 = .ok (.iaload, 1) := by decide +kernel
theorem dc_MO_loop_36 : decode bc_MO_loop 36 = .ok (.invokevirtual 64, 3) := by decide +kernel
theorem dc_MO_loop_39 : decode bc_MO_loop 39 = .ok (.ireturn, 1) := by decide +kernel
section MO
variable (l : Launch) {K : Nat → ClassId} {sa : Nat → Nat} {ad : Nat → Nat} {I : Nat → Int32} {V : Nat → Nat → Int32} {L : Nat → Int64} {C : Nat → Int32} {G : Nat → Nat} {R : Nat → Nat} {n : Nat} {b : Nat → Nat} {w u : Nat → Int}
theorem c_MO_clearOwn : jl_C l K sa yn_MO_clearOwn bc_MO_clearOwn 2 none 0 0 168 ad [.ref (ad 160)] (gw K ad I V L C G R) none (gw K ad (va_up (va_up I 17 0) 13 0) (va_up V 165 (fun _ => iI (-1))) L C G R) := by
  refine jl_enter (by decide) (Nat.le_of_ble_eq_true rfl) (fun x h he hr => ?_)
  show jl_J x 168 ad 0 0 (gw K ad I V L C G R) 0 [(0, .ref (ad 160))] []
  have loop : ∀ (dd p : Nat), p + dd = 18 → jl_J x 168 ad 0 0 (gw K ad I (va_up V 165 (fun j => if j < p then iI (-1) else V 165 j)) L C G R) 2 [(1, .int (nI p)), (0, .ref (ad 160))] [] := by
    intro dd
    induction dd with
    | zero =>
      intro p hp
      have hp : p = 18 := by omega
      subst hp
      refine mo_norm (len := 18) ⟨rfl, rfl⟩ (g := fun _ => iI (-1)) (fun j hj => by simp [hj]) ?_
      refine jl_iload_n (i := 1) h rfl rfl dc_MO_clearOwn_2 3 rfl ?_
      refine jl_bipush (v := nI 18) h (by decide) dc_MO_clearOwn_3 5 rfl ?_
      refine jl_icmp_ge h 21 (by decide) dc_MO_clearOwn_5 8 rfl (fun c5 => ?_) (fun c5 => absurd (nI_le (Nat.le_refl _) (by omega)) c5)
      refine jl_aload_n (i := 0) h rfl rfl dc_MO_clearOwn_21 22 rfl ?_
      refine jl_iconst (v := 0) h (by decide) dc_MO_clearOwn_22 23 rfl ?_
      refine jl_putf (fs2 := [_, _, _, _, _, _, _, _, _, _, _, _, _, _]) h nm_c_MO 11 wl_MO_34 (by omega) (by decide) rfl (by exact rfl) (by rfl) (by rfl) (by exact Nat.le_of_ble_eq_true rfl) (by rfl) dc_MO_clearOwn_23 (gw_set_mlisted _) 26 rfl ?_
      refine jl_aload_n (i := 0) h rfl rfl dc_MO_clearOwn_26 27 rfl ?_
      refine jl_iconst (v := 0) h (by decide) dc_MO_clearOwn_27 28 rfl ?_
      refine jl_putf (fs2 := [_, _, _, _, _, _, _, _, _, _, _, _, _, _]) h nm_c_MO 7 wl_MO_38 (by omega) (by decide) rfl (by exact rfl) (by rfl) (by rfl) (by exact Nat.le_of_ble_eq_true rfl) (by rfl) dc_MO_clearOwn_28 (gw_set_known _) 31 rfl ?_
      exact jl_vret h he (rfl) (rfl) dc_MO_clearOwn_31
    | succ dd ih =>
      intro p hp
      have hl := ih (p + 1) (by omega)
      refine jl_iload_n (i := 1) h rfl rfl dc_MO_clearOwn_2 3 rfl ?_
      refine jl_bipush (v := nI 18) h (by decide) dc_MO_clearOwn_3 5 rfl ?_
      refine jl_icmp_ge h 21 (by decide) dc_MO_clearOwn_5 8 rfl (fun c5 => absurd c5 (nI_ge (by omega) (by omega))) (fun c5 => ?_)
      refine jl_aload_n (i := 0) h rfl rfl dc_MO_clearOwn_8 9 rfl ?_
      refine jl_getf h nm_c_MO 6 wl_MO_22 (by omega) (by decide) (by exact rfl) (by rfl) dc_MO_clearOwn_9 12 rfl ?_
      refine jl_iload_n (i := 1) h rfl rfl dc_MO_clearOwn_12 13 rfl ?_
      refine jl_iconst (v := iI (-1)) h (by decide) dc_MO_clearOwn_13 14 rfl ?_
      refine jl_iast h (p) (by exact rfl) (by omega) (by exact gw_at (len := 18) rfl rfl (va_up_self _ _ _)) (by exact by omega) (by first | decide | assumption) dc_MO_clearOwn_14 (mo_set (len := 18) ⟨rfl, rfl⟩ (mo_fill (g := fun _ => iI (-1)) p)) 15 rfl ?_
      refine jl_iinc (i := 1) (d := 1) (lc2 := [(1, _), (0, _)]) (v2 := nI (p + 1)) h (by decide) rfl (nI_1 p) rfl dc_MO_clearOwn_15 18 rfl ?_
      refine jl_goto h 2 (by decide) dc_MO_clearOwn_18 ?_
      exact hl
  have l0 := loop 18 0 (by omega)
  rw [mo_fill0 (g := fun _ => iI (-1))] at l0
  refine jl_iconst (v := nI 0) h (by decide) dc_MO_clearOwn_0 1 rfl ?_
  refine jl_istore_n (i := 1) (lc2 := [(1, _), (0, _)]) h rfl (by decide) rfl dc_MO_clearOwn_1 2 rfl ?_
  exact l0
theorem c_MO_base_no (hO : mo_ok I V n b) (q : Int32) (hq : st_num q = -1 ∨ n = 18) : jl_C l K sa yn_MO_base bc_MO_base 2 (some .boolean) 1 25 168 ad [.ref (ad 160), .int q] (gw K ad I V L C G R) (some (.int 0)) (gw K ad I V L C G R) := by
  refine jl_enter (by decide) (Nat.le_of_ble_eq_true rfl) (fun x h he hr => ?_)
  show jl_J x 168 ad 0 0 (gw K ad I V L C G R) 0 [(0, .ref (ad 160)), (1, .int q)] []
  have t24 : n = 18 → jl_J x 168 ad 0 0 (gw K ad I V L C G R) 24 [(0, .ref (ad 160)), (1, .int q)] [] := by
    intro h18
    refine jl_aload_n (i := 0) h rfl rfl dc_MO_base_24 25 rfl ?_
    refine jl_getf (v := .int (nI n)) h nm_c_MO 1 wl_MO_42 (by omega) (by decide) (by exact rfl) (by exact sr_v hO.1) dc_MO_base_25 28 rfl ?_
    refine jl_bipush (v := nI 18) h (by decide) dc_MO_base_28 30 rfl ?_
    refine jl_icmp_ne h 35 (by decide) dc_MO_base_30 33 rfl (fun c30 => absurd (by rw [h18]) c30) (fun c30 => ?_)
    refine jl_iconst (v := 0) h (by decide) dc_MO_base_33 34 rfl ?_
    exact jl_zret h he rfl (rfl) (rfl) dc_MO_base_34
  by_cases h18 : n = 18
  · skip
    refine jl_iload_n (i := 1) h rfl rfl dc_MO_base_0 1 rfl ?_
    refine jl_bipush (v := 65) h (by decide) dc_MO_base_1 3 rfl ?_
    refine jl_icmp_eq h 24 (by decide) dc_MO_base_3 6 rfl (fun c3 => ?_) (fun c3 => ?_)
    · skip
      exact t24 h18
    · skip
      refine jl_iload_n (i := 1) h rfl rfl dc_MO_base_6 7 rfl ?_
      refine jl_bipush (v := 67) h (by decide) dc_MO_base_7 9 rfl ?_
      refine jl_icmp_eq h 24 (by decide) dc_MO_base_9 12 rfl (fun c9 => ?_) (fun c9 => ?_)
      · skip
        exact t24 h18
      · skip
        refine jl_iload_n (i := 1) h rfl rfl dc_MO_base_12 13 rfl ?_
        refine jl_bipush (v := 71) h (by decide) dc_MO_base_13 15 rfl ?_
        refine jl_icmp_eq h 24 (by decide) dc_MO_base_15 18 rfl (fun c15 => ?_) (fun c15 => ?_)
        · skip
          exact t24 h18
        · skip
          refine jl_iload_n (i := 1) h rfl rfl dc_MO_base_18 19 rfl ?_
          refine jl_bipush (v := 85) h (by decide) dc_MO_base_19 21 rfl ?_
          refine jl_icmp_ne h 33 (by decide) dc_MO_base_21 24 rfl (fun c21 => ?_) (fun c21 => ?_)
          · skip
            refine jl_iconst (v := 0) h (by decide) dc_MO_base_33 34 rfl ?_
            exact jl_zret h he rfl (rfl) (rfl) dc_MO_base_34
          · skip
            exact t24 h18
  · obtain ⟨g1, g2, g3, g4⟩ := st_num_m1 (hq.resolve_right h18)
    refine jl_iload_n (i := 1) h rfl rfl dc_MO_base_0 1 rfl ?_
    refine jl_bipush (v := 65) h (by decide) dc_MO_base_1 3 rfl ?_
    refine jl_icmp_eq h 24 (by decide) dc_MO_base_3 6 rfl (fun c3 => absurd c3 (g1)) (fun c3 => ?_)
    refine jl_iload_n (i := 1) h rfl rfl dc_MO_base_6 7 rfl ?_
    refine jl_bipush (v := 67) h (by decide) dc_MO_base_7 9 rfl ?_
    refine jl_icmp_eq h 24 (by decide) dc_MO_base_9 12 rfl (fun c9 => absurd c9 (g2)) (fun c9 => ?_)
    refine jl_iload_n (i := 1) h rfl rfl dc_MO_base_12 13 rfl ?_
    refine jl_bipush (v := 71) h (by decide) dc_MO_base_13 15 rfl ?_
    refine jl_icmp_eq h 24 (by decide) dc_MO_base_15 18 rfl (fun c15 => absurd c15 (g3)) (fun c15 => ?_)
    refine jl_iload_n (i := 1) h rfl rfl dc_MO_base_18 19 rfl ?_
    refine jl_bipush (v := 85) h (by decide) dc_MO_base_19 21 rfl ?_
    refine jl_icmp_ne h 33 (by decide) dc_MO_base_21 24 rfl (fun c21 => ?_) (fun c21 => absurd c21 (g4))
    refine jl_iconst (v := 0) h (by decide) dc_MO_base_33 34 rfl ?_
    exact jl_zret h he rfl (rfl) (rfl) dc_MO_base_34
theorem c_MO_base_yes (hO : mo_ok I V n b) (hn : n < 18) (q : Int32) {a : Nat} (ha : a < 4) (hq : st_num q = a) : jl_C l K sa yn_MO_base bc_MO_base 2 (some .boolean) 1 25 168 ad [.ref (ad 160), .int q] (gw K ad I V L C G R) (some (.int 1)) (gw K ad (va_up (va_up (va_up I 11 (nI (n + 1))) 17 0) 13 0) (va_up (va_up V 162 (upd (V 162) n q)) 165 (fun _ => iI (-1))) L C G R) := by
  refine jl_enter (by decide) (Nat.le_of_ble_eq_true rfl) (fun x h he hr => ?_)
  show jl_J x 168 ad 0 0 (gw K ad I V L C G R) 0 [(0, .ref (ad 160)), (1, .int q)] []
  have hqq := st_num_get ha hq
  have h18 : ¬ nI n = nI 18 := by rw [nI_eq (by omega) (by decide)]; omega
  have t24 : jl_J x 168 ad 0 0 (gw K ad I V L C G R) 24 [(0, .ref (ad 160)), (1, .int q)] [] := by
    refine jl_aload_n (i := 0) h rfl rfl dc_MO_base_24 25 rfl ?_
    refine jl_getf (v := .int (nI n)) h nm_c_MO 1 wl_MO_42 (by omega) (by decide) (by exact rfl) (by exact sr_v hO.1) dc_MO_base_25 28 rfl ?_
    refine jl_bipush (v := nI 18) h (by decide) dc_MO_base_28 30 rfl ?_
    refine jl_icmp_ne h 35 (by decide) dc_MO_base_30 33 rfl (fun c30 => ?_) (fun c30 => absurd c30 (h18))
    refine jl_aload_n (i := 0) h rfl rfl dc_MO_base_35 36 rfl ?_
    refine jl_getf h nm_c_MO 2 wl_MO_13 (by omega) (by decide) (by exact rfl) (by rfl) dc_MO_base_36 39 rfl ?_
    refine jl_aload_n (i := 0) h rfl rfl dc_MO_base_39 40 rfl ?_
    refine jl_getf (v := .int (nI n)) h nm_c_MO 1 wl_MO_42 (by omega) (by decide) (by exact rfl) (by exact sr_v hO.1) dc_MO_base_40 43 rfl ?_
    refine jl_iload_n (i := 1) h rfl rfl dc_MO_base_43 44 rfl ?_
    refine jl_iast h (n) (by exact rfl) (by omega) (by exact gw_row (len := 18) ⟨rfl, rfl⟩) (by exact by omega) (by first | decide | assumption) dc_MO_base_44 (gw_rowset (len := 18) ⟨rfl, rfl⟩ _) 45 rfl ?_
    refine jl_aload_n (i := 0) h rfl rfl dc_MO_base_45 46 rfl ?_
    refine jl_dup h rfl dc_MO_base_46 47 rfl ?_
    refine jl_getf (v := .int (nI n)) h nm_c_MO 1 wl_MO_42 (by omega) (by decide) (by exact rfl) (by exact sr_v hO.1) dc_MO_base_47 50 rfl ?_
    refine jl_iconst (v := nI 1) h (by decide) dc_MO_base_50 51 rfl ?_
    refine jl_iadd h dc_MO_base_51 52 rfl ?_
    rw [show nI n + nI 1 = nI (n + 1) by exact nI_add n 1]
    refine jl_putf (fs2 := [_, _, _, _, _, _, _, _, _, _, _, _, _, _]) h nm_c_MO 1 wl_MO_42 (by omega) (by decide) rfl (by exact rfl) (by rfl) (by rfl) (by exact Nat.le_of_ble_eq_true rfl) (by rfl) dc_MO_base_52 (gw_set_mn _) 55 rfl ?_
    refine jl_aload_n (i := 0) h rfl rfl dc_MO_base_55 56 rfl ?_
    refine jl_callV (As := []) (rest := []) h hr vs_MO_31 vi_MO_clearOwn vx_MO_clearOwn (ci := 7) rfl (by omega) (by exact rfl) (fun l => c_MO_clearOwn l) (by first | decide | omega) (by first | decide | omega) rfl rfl (Nat.le_of_ble_eq_true rfl) dc_MO_base_56 (res := []) rfl 59 rfl ?_
    refine jl_iconst (v := 1) h (by decide) dc_MO_base_59 60 rfl ?_
    exact jl_zret h he rfl (rfl) (rfl) dc_MO_base_60
  by_cases h1 : q = 65
  · skip
    refine jl_iload_n (i := 1) h rfl rfl dc_MO_base_0 1 rfl ?_
    refine jl_bipush (v := 65) h (by decide) dc_MO_base_1 3 rfl ?_
    refine jl_icmp_eq h 24 (by decide) dc_MO_base_3 6 rfl (fun c3 => ?_) (fun c3 => absurd (h1) c3)
    exact t24
  by_cases h2 : q = 67
  · skip
    refine jl_iload_n (i := 1) h rfl rfl dc_MO_base_0 1 rfl ?_
    refine jl_bipush (v := 65) h (by decide) dc_MO_base_1 3 rfl ?_
    refine jl_icmp_eq h 24 (by decide) dc_MO_base_3 6 rfl (fun c3 => absurd c3 (h1)) (fun c3 => ?_)
    refine jl_iload_n (i := 1) h rfl rfl dc_MO_base_6 7 rfl ?_
    refine jl_bipush (v := 67) h (by decide) dc_MO_base_7 9 rfl ?_
    refine jl_icmp_eq h 24 (by decide) dc_MO_base_9 12 rfl (fun c9 => ?_) (fun c9 => absurd (h2) c9)
    exact t24
  by_cases h3 : q = 71
  · skip
    refine jl_iload_n (i := 1) h rfl rfl dc_MO_base_0 1 rfl ?_
    refine jl_bipush (v := 65) h (by decide) dc_MO_base_1 3 rfl ?_
    refine jl_icmp_eq h 24 (by decide) dc_MO_base_3 6 rfl (fun c3 => absurd c3 (h1)) (fun c3 => ?_)
    refine jl_iload_n (i := 1) h rfl rfl dc_MO_base_6 7 rfl ?_
    refine jl_bipush (v := 67) h (by decide) dc_MO_base_7 9 rfl ?_
    refine jl_icmp_eq h 24 (by decide) dc_MO_base_9 12 rfl (fun c9 => absurd c9 (h2)) (fun c9 => ?_)
    refine jl_iload_n (i := 1) h rfl rfl dc_MO_base_12 13 rfl ?_
    refine jl_bipush (v := 71) h (by decide) dc_MO_base_13 15 rfl ?_
    refine jl_icmp_eq h 24 (by decide) dc_MO_base_15 18 rfl (fun c15 => ?_) (fun c15 => absurd (h3) c15)
    exact t24
  have h4 : q = 85 := by
    match a, ha, hqq with
    | 0, _, hqq => exact absurd hqq h1
    | 1, _, hqq => exact absurd hqq h2
    | 2, _, hqq => exact absurd hqq h3
    | 3, _, hqq => exact hqq
  refine jl_iload_n (i := 1) h rfl rfl dc_MO_base_0 1 rfl ?_
  refine jl_bipush (v := 65) h (by decide) dc_MO_base_1 3 rfl ?_
  refine jl_icmp_eq h 24 (by decide) dc_MO_base_3 6 rfl (fun c3 => absurd c3 (h1)) (fun c3 => ?_)
  refine jl_iload_n (i := 1) h rfl rfl dc_MO_base_6 7 rfl ?_
  refine jl_bipush (v := 67) h (by decide) dc_MO_base_7 9 rfl ?_
  refine jl_icmp_eq h 24 (by decide) dc_MO_base_9 12 rfl (fun c9 => absurd c9 (h2)) (fun c9 => ?_)
  refine jl_iload_n (i := 1) h rfl rfl dc_MO_base_12 13 rfl ?_
  refine jl_bipush (v := 71) h (by decide) dc_MO_base_13 15 rfl ?_
  refine jl_icmp_eq h 24 (by decide) dc_MO_base_15 18 rfl (fun c15 => absurd c15 (h3)) (fun c15 => ?_)
  refine jl_iload_n (i := 1) h rfl rfl dc_MO_base_18 19 rfl ?_
  refine jl_bipush (v := 85) h (by decide) dc_MO_base_19 21 rfl ?_
  refine jl_icmp_ne h 33 (by decide) dc_MO_base_21 24 rfl (fun c21 => absurd (h4) c21) (fun c21 => ?_)
  exact t24
theorem c_MO_clear (hO : mo_ok I V n b) : jl_C l K sa yn_MO_clear bc_MO_clear 2 (some .int) 1 25 168 ad [.ref (ad 160)] (gw K ad I V L C G R) (some (.int (nI n))) (gw K ad (va_up (va_up (va_up I 11 (nI 0)) 17 0) 13 0) (va_up V 165 (fun _ => iI (-1))) L C G R) := by
  refine jl_enter (by decide) (Nat.le_of_ble_eq_true rfl) (fun x h he hr => ?_)
  show jl_J x 168 ad 0 0 (gw K ad I V L C G R) 0 [(0, .ref (ad 160))] []
  refine jl_aload_n (i := 0) h rfl rfl dc_MO_clear_0 1 rfl ?_
  refine jl_getf (v := .int (nI n)) h nm_c_MO 1 wl_MO_42 (by omega) (by decide) (by exact rfl) (by exact sr_v hO.1) dc_MO_clear_1 4 rfl ?_
  refine jl_istore_n (i := 1) (lc2 := [(1, _), (0, _)]) h rfl (by decide) rfl dc_MO_clear_4 5 rfl ?_
  refine jl_aload_n (i := 0) h rfl rfl dc_MO_clear_5 6 rfl ?_
  refine jl_iconst (v := nI 0) h (by decide) dc_MO_clear_6 7 rfl ?_
  refine jl_putf (fs2 := [_, _, _, _, _, _, _, _, _, _, _, _, _, _]) h nm_c_MO 1 wl_MO_42 (by omega) (by decide) rfl (by exact rfl) (by rfl) (by rfl) (by exact Nat.le_of_ble_eq_true rfl) (by rfl) dc_MO_clear_7 (gw_set_mn _) 10 rfl ?_
  refine jl_aload_n (i := 0) h rfl rfl dc_MO_clear_10 11 rfl ?_
  refine jl_callV (As := []) (rest := []) h hr vs_MO_31 vi_MO_clearOwn vx_MO_clearOwn (ci := 7) rfl (by omega) (by exact rfl) (fun l => c_MO_clearOwn l) (by first | decide | omega) (by first | decide | omega) rfl rfl (Nat.le_of_ble_eq_true rfl) dc_MO_clear_11 (res := []) rfl 14 rfl ?_
  refine jl_iload_n (i := 1) h rfl rfl dc_MO_clear_14 15 rfl ?_
  exact jl_zret h he rfl (rfl) (rfl) dc_MO_clear_15
theorem c_MO_isListed (q : Int32) : jl_C l K sa yn_MO_isListed bc_MO_isListed 2 (some .boolean) 0 0 168 ad [.ref (ad 160), .int q] (gw K ad I V L C G R) (some (.int (st_bI (decide (¬ q < 0 ∧ q < I 17))))) (gw K ad I V L C G R) := by
  refine jl_enter (by decide) (Nat.le_of_ble_eq_true rfl) (fun x h he hr => ?_)
  show jl_J x 168 ad 0 0 (gw K ad I V L C G R) 0 [(0, .ref (ad 160)), (1, .int q)] []
  refine jl_iload_n (i := 1) h rfl rfl dc_MO_isListed_0 1 rfl ?_
  refine jl_if_lt h 16 (by decide) dc_MO_isListed_1 4 rfl (fun c1 => ?_) (fun c1 => ?_)
  · skip
    refine jl_iconst (v := 0) h (by decide) dc_MO_isListed_16 17 rfl ?_
    exact jl_zret h he rfl (by first | (rw [decide_eq_true (show ¬ q < 0 ∧ q < I 17 from ⟨c1, Int32.not_le.mp c9⟩)]; rfl) | (rw [decide_eq_false (fun h9 : ¬ q < 0 ∧ q < I 17 => Int32.not_le.mpr h9.2 c9)]; rfl) | (rw [decide_eq_false (fun h9 : ¬ q < 0 ∧ q < I 17 => h9.1 c1)]; rfl)) (rfl) dc_MO_isListed_17
  · skip
    refine jl_iload_n (i := 1) h rfl rfl dc_MO_isListed_4 5 rfl ?_
    refine jl_aload_n (i := 0) h rfl rfl dc_MO_isListed_5 6 rfl ?_
    refine jl_getf h nm_c_MO 11 wl_MO_34 (by omega) (by decide) (by exact rfl) (by rfl) dc_MO_isListed_6 9 rfl ?_
    refine jl_icmp_ge h 16 (by decide) dc_MO_isListed_9 12 rfl (fun c9 => ?_) (fun c9 => ?_)
    · skip
      refine jl_iconst (v := 0) h (by decide) dc_MO_isListed_16 17 rfl ?_
      exact jl_zret h he rfl (by first | (rw [decide_eq_true (show ¬ q < 0 ∧ q < I 17 from ⟨c1, Int32.not_le.mp c9⟩)]; rfl) | (rw [decide_eq_false (fun h9 : ¬ q < 0 ∧ q < I 17 => Int32.not_le.mpr h9.2 c9)]; rfl) | (rw [decide_eq_false (fun h9 : ¬ q < 0 ∧ q < I 17 => h9.1 c1)]; rfl)) (rfl) dc_MO_isListed_17
    · skip
      refine jl_iconst (v := 1) h (by decide) dc_MO_isListed_12 13 rfl ?_
      refine jl_goto h 17 (by decide) dc_MO_isListed_13 ?_
      exact jl_zret h he rfl (by first | (rw [decide_eq_true (show ¬ q < 0 ∧ q < I 17 from ⟨c1, Int32.not_le.mp c9⟩)]; rfl) | (rw [decide_eq_false (fun h9 : ¬ q < 0 ∧ q < I 17 => Int32.not_le.mpr h9.2 c9)]; rfl) | (rw [decide_eq_false (fun h9 : ¬ q < 0 ∧ q < I 17 => h9.1 c1)]; rfl)) (rfl) dc_MO_isListed_17
theorem c_MO_energyOf_no (q : Int32) (hq : ¬ (¬ q < 0 ∧ q < I 17)) : jl_C l K sa yn_MO_energyOf bc_MO_energyOf 2 (some .int) 1 25 168 ad [.ref (ad 160), .int q] (gw K ad I V L C G R) (some (.int 0)) (gw K ad I V L C G R) := by
  refine jl_enter (by decide) (Nat.le_of_ble_eq_true rfl) (fun x h he hr => ?_)
  show jl_J x 168 ad 0 0 (gw K ad I V L C G R) 0 [(0, .ref (ad 160)), (1, .int q)] []
  refine jl_aload_n (i := 0) h rfl rfl dc_MO_energyOf_0 1 rfl ?_
  refine jl_iload_n (i := 1) h rfl rfl dc_MO_energyOf_1 2 rfl ?_
  refine jl_callV (As := [_]) (rest := []) h hr vs_MO_117 vi_MO_isListed vx_MO_isListed (ci := 7) rfl (by omega) (by exact rfl) (fun l => c_MO_isListed l q) (by first | decide | omega) (by first | decide | omega) rfl rfl (Nat.le_of_ble_eq_true rfl) dc_MO_energyOf_2 (res := [_]) rfl 5 rfl ?_
  refine jl_if_eq h 17 (by decide) dc_MO_energyOf_5 8 rfl (fun c5 => ?_) (fun c5 => absurd (by rw [st_b0]; exact decide_eq_false hq) c5)
  refine jl_iconst (v := 0) h (by decide) dc_MO_energyOf_17 18 rfl ?_
  exact jl_zret h he rfl (rfl) (rfl) dc_MO_energyOf_18
theorem c_MO_energyOf_yes {ms : List (Nat → Int)} (h17 : I 17 = nI ms.length) (hlen : ms.length ≤ 150) (hro : mo_rows b n ms V) {k : Nat} (hk : k < ms.length) : jl_C l K sa yn_MO_energyOf bc_MO_energyOf 2 (some .int) 1 25 168 ad [.ref (ad 160), .int (nI k)] (gw K ad I V L C G R) (some (.int (iI (st_E b n (ms.getD k mo_w0))))) (gw K ad I V L C G R) := by
  refine jl_enter (by decide) (Nat.le_of_ble_eq_true rfl) (fun x h he hr => ?_)
  show jl_J x 168 ad 0 0 (gw K ad I V L C G R) 0 [(0, .ref (ad 160)), (1, .int (nI k))] []
  refine jl_aload_n (i := 0) h rfl rfl dc_MO_energyOf_0 1 rfl ?_
  refine jl_iload_n (i := 1) h rfl rfl dc_MO_energyOf_1 2 rfl ?_
  refine jl_callV (As := [_]) (rest := []) h hr vs_MO_117 vi_MO_isListed vx_MO_isListed (ci := 7) rfl (by omega) (by exact rfl) (fun l => c_MO_isListed l (nI k)) (by first | decide | omega) (by first | decide | omega) rfl rfl (Nat.le_of_ble_eq_true rfl) dc_MO_energyOf_2 (res := [_]) rfl 5 rfl ?_
  refine jl_if_eq h 17 (by decide) dc_MO_energyOf_5 8 rfl (fun c5 => absurd c5 (by rw [st_b1]; exact decide_eq_true ⟨nI_pos (by omega), by rw [h17]; exact nI_lt hk (by omega)⟩)) (fun c5 => ?_)
  refine jl_aload_n (i := 0) h rfl rfl dc_MO_energyOf_8 9 rfl ?_
  refine jl_getf h nm_c_MO 12 wl_MO_25 (by omega) (by decide) (by exact rfl) (by rfl) dc_MO_energyOf_9 12 rfl ?_
  refine jl_iload_n (i := 1) h rfl rfl dc_MO_energyOf_12 13 rfl ?_
  refine jl_iald (v := iI (st_E b n (ms.getD k mo_w0))) h (k) (by exact rfl) (by omega) (by exact gw_row (len := 151) ⟨rfl, rfl⟩) (by exact by omega) (by first | decide | assumption) (by exact (hro k hk).1) dc_MO_energyOf_13 14 rfl ?_
  refine jl_goto h 18 (by decide) dc_MO_energyOf_14 ?_
  exact jl_zret h he rfl (rfl) (rfl) dc_MO_energyOf_18
theorem c_MO_at_no (hO : mo_ok I V n b) (q p : Int32) (hq : ¬ (¬ q < 0 ∧ q < I 17) ∨ ¬ (¬ p < 0 ∧ p < nI n)) : jl_C l K sa yn_MO_at bc_MO_at 3 (some .int) 1 25 168 ad [.ref (ad 160), .int q, .int p] (gw K ad I V L C G R) (some (.int (-1))) (gw K ad I V L C G R) := by
  refine jl_enter (by decide) (Nat.le_of_ble_eq_true rfl) (fun x h he hr => ?_)
  show jl_J x 168 ad 0 0 (gw K ad I V L C G R) 0 [(0, .ref (ad 160)), (1, .int q), (2, .int p)] []
  by_cases h1 : ¬ (¬ q < 0 ∧ q < I 17)
  · skip
    refine jl_aload_n (i := 0) h rfl rfl dc_MO_at_0 1 rfl ?_
    refine jl_iload_n (i := 1) h rfl rfl dc_MO_at_1 2 rfl ?_
    refine jl_callV (As := [_]) (rest := []) h hr vs_MO_117 vi_MO_isListed vx_MO_isListed (ci := 7) rfl (by omega) (by exact rfl) (fun l => c_MO_isListed l q) (by first | decide | omega) (by first | decide | omega) rfl rfl (Nat.le_of_ble_eq_true rfl) dc_MO_at_2 (res := [_]) rfl 5 rfl ?_
    refine jl_if_eq h 20 (by decide) dc_MO_at_5 8 rfl (fun c5 => ?_) (fun c5 => absurd (by rw [st_b0]; exact decide_eq_false h1) c5)
    refine jl_iconst (v := -1) h (by decide) dc_MO_at_20 21 rfl ?_
    exact jl_zret h he rfl (rfl) (rfl) dc_MO_at_21
  have h2 := hq.resolve_left h1
  by_cases h3 : p < 0
  · skip
    refine jl_aload_n (i := 0) h rfl rfl dc_MO_at_0 1 rfl ?_
    refine jl_iload_n (i := 1) h rfl rfl dc_MO_at_1 2 rfl ?_
    refine jl_callV (As := [_]) (rest := []) h hr vs_MO_117 vi_MO_isListed vx_MO_isListed (ci := 7) rfl (by omega) (by exact rfl) (fun l => c_MO_isListed l q) (by first | decide | omega) (by first | decide | omega) rfl rfl (Nat.le_of_ble_eq_true rfl) dc_MO_at_2 (res := [_]) rfl 5 rfl ?_
    refine jl_if_eq h 20 (by decide) dc_MO_at_5 8 rfl (fun c5 => absurd c5 (by rw [st_b1]; exact decide_eq_true (Classical.not_not.mp h1))) (fun c5 => ?_)
    refine jl_iload_n (i := 2) h rfl rfl dc_MO_at_8 9 rfl ?_
    refine jl_if_lt h 20 (by decide) dc_MO_at_9 12 rfl (fun c9 => ?_) (fun c9 => absurd (h3) c9)
    refine jl_iconst (v := -1) h (by decide) dc_MO_at_20 21 rfl ?_
    exact jl_zret h he rfl (rfl) (rfl) dc_MO_at_21
  · have h4 : ¬ p < nI n := fun h9 => h2 ⟨h3, h9⟩
    refine jl_aload_n (i := 0) h rfl rfl dc_MO_at_0 1 rfl ?_
    refine jl_iload_n (i := 1) h rfl rfl dc_MO_at_1 2 rfl ?_
    refine jl_callV (As := [_]) (rest := []) h hr vs_MO_117 vi_MO_isListed vx_MO_isListed (ci := 7) rfl (by omega) (by exact rfl) (fun l => c_MO_isListed l q) (by first | decide | omega) (by first | decide | omega) rfl rfl (Nat.le_of_ble_eq_true rfl) dc_MO_at_2 (res := [_]) rfl 5 rfl ?_
    refine jl_if_eq h 20 (by decide) dc_MO_at_5 8 rfl (fun c5 => absurd c5 (by rw [st_b1]; exact decide_eq_true (Classical.not_not.mp h1))) (fun c5 => ?_)
    refine jl_iload_n (i := 2) h rfl rfl dc_MO_at_8 9 rfl ?_
    refine jl_if_lt h 20 (by decide) dc_MO_at_9 12 rfl (fun c9 => absurd c9 (h3)) (fun c9 => ?_)
    refine jl_iload_n (i := 2) h rfl rfl dc_MO_at_12 13 rfl ?_
    refine jl_aload_n (i := 0) h rfl rfl dc_MO_at_13 14 rfl ?_
    refine jl_getf (v := .int (nI n)) h nm_c_MO 1 wl_MO_42 (by omega) (by decide) (by exact rfl) (by exact sr_v hO.1) dc_MO_at_14 17 rfl ?_
    refine jl_icmp_lt h 22 (by decide) dc_MO_at_17 20 rfl (fun c17 => absurd c17 (h4)) (fun c17 => ?_)
    refine jl_iconst (v := -1) h (by decide) dc_MO_at_20 21 rfl ?_
    exact jl_zret h he rfl (rfl) (rfl) dc_MO_at_21
theorem c_MO_at_yes (hO : mo_ok I V n b) {ms : List (Nat → Int)} (h17 : I 17 = nI ms.length) (hlen : ms.length ≤ 150) (hro : mo_rows b n ms V) (hV : ∀ u ∈ ms, en_V b n u) {k p : Nat} (hk : k < ms.length) (hp : p < n) : jl_C l K sa yn_MO_at bc_MO_at 3 (some .int) 1 25 168 ad [.ref (ad 160), .int (nI k), .int (nI p)] (gw K ad I V L C G R) (some (.int (nl_ch (mo_sg (ms.getD k mo_w0) p : Int)))) (gw K ad I V L C G R) := by
  refine jl_enter (by decide) (Nat.le_of_ble_eq_true rfl) (fun x h he hr => ?_)
  show jl_J x 168 ad 0 0 (gw K ad I V L C G R) 0 [(0, .ref (ad 160)), (1, .int (nI k)), (2, .int (nI p))] []
  have hn := hO.2.2.1
  have hmem : en_V b n (ms.getD k mo_w0) := by
    rw [List.getD_eq_getElem?_getD, List.getElem?_eq_getElem hk]
    exact hV _ (List.getElem_mem hk)
  have hb9 := mo_bw_V hmem p
  have s2 := mo_sg_le (ms.getD k mo_w0) p
  have hc := fun l => c_MO_signOf l (K := K) (sa := sa) (ad := ad) (I := I) (V := V) (L := L) (C := C) (G := G) (R := R) (show k < 151 by omega) (hro k hk).2 (show p < 18 by omega) hb9.1 (by omega)
  generalize mo_sg (ms.getD k mo_w0) p = s at *
  have z0 : (0 : Int32) = nI 0 := rfl
  refine jl_aload_n (i := 0) h rfl rfl dc_MO_at_0 1 rfl ?_
  refine jl_iload_n (i := 1) h rfl rfl dc_MO_at_1 2 rfl ?_
  refine jl_callV (As := [_]) (rest := []) h hr vs_MO_117 vi_MO_isListed vx_MO_isListed (ci := 7) rfl (by omega) (by exact rfl) (fun l => c_MO_isListed l (nI k)) (by first | decide | omega) (by first | decide | omega) rfl rfl (Nat.le_of_ble_eq_true rfl) dc_MO_at_2 (res := [_]) rfl 5 rfl ?_
  refine jl_if_eq h 20 (by decide) dc_MO_at_5 8 rfl (fun c5 => absurd c5 (by rw [st_b1]; exact decide_eq_true ⟨nI_pos (by omega), by rw [h17]; exact nI_lt hk (by omega)⟩)) (fun c5 => ?_)
  refine jl_iload_n (i := 2) h rfl rfl dc_MO_at_8 9 rfl ?_
  refine jl_if_lt h 20 (by decide) dc_MO_at_9 12 rfl (fun c9 => absurd c9 (nI_pos (by omega))) (fun c9 => ?_)
  refine jl_iload_n (i := 2) h rfl rfl dc_MO_at_12 13 rfl ?_
  refine jl_aload_n (i := 0) h rfl rfl dc_MO_at_13 14 rfl ?_
  refine jl_getf (v := .int (nI n)) h nm_c_MO 1 wl_MO_42 (by omega) (by decide) (by exact rfl) (by exact sr_v hO.1) dc_MO_at_14 17 rfl ?_
  refine jl_icmp_lt h 22 (by decide) dc_MO_at_17 20 rfl (fun c17 => ?_) (fun c17 => absurd (nI_lt hp (by omega)) c17)
  refine jl_aload_n (i := 0) h rfl rfl dc_MO_at_22 23 rfl ?_
  refine jl_iload_n (i := 1) h rfl rfl dc_MO_at_23 24 rfl ?_
  refine jl_iload_n (i := 2) h rfl rfl dc_MO_at_24 25 rfl ?_
  refine jl_callV (As := [_, _]) (rest := []) h hr vs_MO_107 vi_MO_signOf vx_MO_signOf (ci := 7) rfl (by omega) (by exact rfl) (fun l => hc l) (by first | decide | omega) (by first | decide | omega) rfl rfl (Nat.le_of_ble_eq_true rfl) dc_MO_at_25 (res := [_]) rfl 28 rfl ?_
  refine jl_if_ne h 36 (by decide) dc_MO_at_28 31 rfl (fun c28 => ?_) (fun c28 => ?_)
  · skip
    rw [z0, nI_eq (by omega) (by omega)] at c28
    refine jl_aload_n (i := 0) h rfl rfl dc_MO_at_36 37 rfl ?_
    refine jl_iload_n (i := 1) h rfl rfl dc_MO_at_37 38 rfl ?_
    refine jl_iload_n (i := 2) h rfl rfl dc_MO_at_38 39 rfl ?_
    refine jl_callV (As := [_, _]) (rest := []) h hr vs_MO_107 vi_MO_signOf vx_MO_signOf (ci := 7) rfl (by omega) (by exact rfl) (fun l => hc l) (by first | decide | omega) (by first | decide | omega) rfl rfl (Nat.le_of_ble_eq_true rfl) dc_MO_at_39 (res := [_]) rfl 42 rfl ?_
    refine jl_iconst (v := nI 1) h (by decide) dc_MO_at_42 43 rfl ?_
    refine jl_icmp_ne h 51 (by decide) dc_MO_at_43 46 rfl (fun c43 => ?_) (fun c43 => ?_)
    · skip
      rw [nI_eq (by omega) (by omega)] at c43
      refine jl_bipush (v := 46) h (by decide) dc_MO_at_51 53 rfl ?_
      exact jl_zret h he rfl (by unfold nl_ch; first | (rw [if_pos (by omega)]; done) | (rw [if_neg (by omega), if_pos (by omega)]; done) | (rw [if_neg (by omega), if_neg (by omega)]; done)) (rfl) dc_MO_at_53
    · skip
      rw [nI_eq (by omega) (by omega)] at c43
      refine jl_bipush (v := 41) h (by decide) dc_MO_at_46 48 rfl ?_
      refine jl_goto h 53 (by decide) dc_MO_at_48 ?_
      exact jl_zret h he rfl (by unfold nl_ch; first | (rw [if_pos (by omega)]; done) | (rw [if_neg (by omega), if_pos (by omega)]; done) | (rw [if_neg (by omega), if_neg (by omega)]; done)) (rfl) dc_MO_at_53
  · skip
    rw [z0, nI_eq (by omega) (by omega)] at c28
    refine jl_bipush (v := 40) h (by decide) dc_MO_at_31 33 rfl ?_
    refine jl_goto h 53 (by decide) dc_MO_at_33 ?_
    exact jl_zret h he rfl (by unfold nl_ch; first | (rw [if_pos (by omega)]; done) | (rw [if_neg (by omega), if_pos (by omega)]; done) | (rw [if_neg (by omega), if_neg (by omega)]; done)) (rfl) dc_MO_at_53
theorem c_MO_useOwn (hW : V 165 = fun k => iI (w k)) : jl_C l K sa yn_MO_useOwn bc_MO_useOwn 2 none 0 0 168 ad [.ref (ad 160)] (gw K ad I V L C G R) none (gw K ad I (va_up V 164 (fun k => iI (w k))) L C G R) := by
  refine jl_enter (by decide) (Nat.le_of_ble_eq_true rfl) (fun x h he hr => ?_)
  show jl_J x 168 ad 0 0 (gw K ad I V L C G R) 0 [(0, .ref (ad 160))] []
  have loop : ∀ (dd p : Nat), p + dd = 18 → jl_J x 168 ad 0 0 (gw K ad I (va_up V 164 (fun j => if j < p then iI (w j) else V 164 j)) L C G R) 2 [(1, .int (nI p)), (0, .ref (ad 160))] [] := by
    intro dd
    induction dd with
    | zero =>
      intro p hp
      have hp : p = 18 := by omega
      subst hp
      refine mo_norm (len := 18) ⟨rfl, rfl⟩ (g := fun k => iI (w k)) (fun j hj => by simp [hj]) ?_
      refine jl_iload_n (i := 1) h rfl rfl dc_MO_useOwn_2 3 rfl ?_
      refine jl_bipush (v := nI 18) h (by decide) dc_MO_useOwn_3 5 rfl ?_
      refine jl_icmp_ge h 26 (by decide) dc_MO_useOwn_5 8 rfl (fun c5 => ?_) (fun c5 => absurd (nI_le (Nat.le_refl _) (by omega)) c5)
      exact jl_vret h he (rfl) (rfl) dc_MO_useOwn_26
    | succ dd ih =>
      intro p hp
      have hl := ih (p + 1) (by omega)
      refine jl_iload_n (i := 1) h rfl rfl dc_MO_useOwn_2 3 rfl ?_
      refine jl_bipush (v := nI 18) h (by decide) dc_MO_useOwn_3 5 rfl ?_
      refine jl_icmp_ge h 26 (by decide) dc_MO_useOwn_5 8 rfl (fun c5 => absurd c5 (nI_ge (by omega) (by omega))) (fun c5 => ?_)
      refine jl_aload_n (i := 0) h rfl rfl dc_MO_useOwn_8 9 rfl ?_
      refine jl_getf h nm_c_MO 5 wl_MO_19 (by omega) (by decide) (by exact rfl) (by rfl) dc_MO_useOwn_9 12 rfl ?_
      refine jl_iload_n (i := 1) h rfl rfl dc_MO_useOwn_12 13 rfl ?_
      refine jl_aload_n (i := 0) h rfl rfl dc_MO_useOwn_13 14 rfl ?_
      refine jl_getf h nm_c_MO 6 wl_MO_22 (by omega) (by decide) (by exact rfl) (by rfl) dc_MO_useOwn_14 17 rfl ?_
      refine jl_iload_n (i := 1) h rfl rfl dc_MO_useOwn_17 18 rfl ?_
      refine jl_iald (v := iI (w p)) h (p) (by exact rfl) (by omega) (by exact gw_at (len := 18) rfl rfl hW) (by exact by omega) (by first | decide | assumption) (by exact rfl) dc_MO_useOwn_18 19 rfl ?_
      refine jl_iast h (p) (by exact rfl) (by omega) (by exact gw_at (len := 18) rfl rfl (va_up_self _ _ _)) (by exact by omega) (by first | decide | assumption) dc_MO_useOwn_19 (mo_set (len := 18) ⟨rfl, rfl⟩ (mo_fill (g := fun k => iI (w k)) p)) 20 rfl ?_
      refine jl_iinc (i := 1) (d := 1) (lc2 := [(1, _), (0, _)]) (v2 := nI (p + 1)) h (by decide) rfl (nI_1 p) rfl dc_MO_useOwn_20 23 rfl ?_
      refine jl_goto h 2 (by decide) dc_MO_useOwn_23 ?_
      exact hl
  have l0 := loop 18 0 (by omega)
  rw [mo_fill0 (g := fun k => iI (w k))] at l0
  refine jl_iconst (v := nI 0) h (by decide) dc_MO_useOwn_0 1 rfl ?_
  refine jl_istore_n (i := 1) (lc2 := [(1, _), (0, _)]) h rfl (by decide) rfl dc_MO_useOwn_1 2 rfl ?_
  exact l0
theorem c_MO_pairsOfOwn (hO : mo_ok I V n b) (hW : V 165 = fun k => iI (w k)) (hw : en_V b n w) : jl_C l K sa yn_MO_pairsOfOwn bc_MO_pairsOfOwn 1 (some .int) 1 25 168 ad [.ref (ad 160)] (gw K ad I V L C G R) (some (.int (nI (mo_pc w n)))) (gw K ad I (va_up V 164 (fun k => iI (w k))) L C G R) := by
  refine jl_enter (by decide) (Nat.le_of_ble_eq_true rfl) (fun x h he hr => ?_)
  show jl_J x 168 ad 0 0 (gw K ad I V L C G R) 0 [(0, .ref (ad 160))] []
  refine jl_aload_n (i := 0) h rfl rfl dc_MO_pairsOfOwn_0 1 rfl ?_
  refine jl_callV (As := []) (rest := []) h hr vs_MO_123 vi_MO_useOwn vx_MO_useOwn (ci := 7) rfl (by omega) (by exact rfl) (fun l => c_MO_useOwn l hW) (by first | decide | omega) (by first | decide | omega) rfl rfl (Nat.le_of_ble_eq_true rfl) dc_MO_pairsOfOwn_1 (res := []) rfl 4 rfl ?_
  refine jl_aload_n (i := 0) h rfl rfl dc_MO_pairsOfOwn_4 5 rfl ?_
  refine jl_callV (As := []) (rest := []) h hr vs_MO_94 vi_MO_pairsNow vx_MO_pairsNow (ci := 7) rfl (by omega) (by exact rfl) (fun l => c_MO_pairsNow l (mo_okV hO (by decide)) (va_up_self _ _ _) hw) (by first | decide | omega) (by first | decide | omega) rfl rfl (Nat.le_of_ble_eq_true rfl) dc_MO_pairsOfOwn_5 (res := [_]) rfl 8 rfl ?_
  exact jl_zret h he rfl (rfl) (rfl) dc_MO_pairsOfOwn_8
theorem c_MO_energy (hO : mo_ok I V n b) (hW : V 165 = fun k => iI (w k)) (hw : en_V b n w) : jl_C l K sa yn_MO_energy bc_MO_energy 1 (some .int) 5 155 168 ad [.ref (ad 160)] (gw K ad I V L C G R) (some (.int (iI (st_E b n w)))) (gw K ad I (va_up V 164 (fun k => iI (w k))) L C G R) := by
  refine jl_enter (by decide) (Nat.le_of_ble_eq_true rfl) (fun x h he hr => ?_)
  show jl_J x 168 ad 0 0 (gw K ad I V L C G R) 0 [(0, .ref (ad 160))] []
  refine jl_aload_n (i := 0) h rfl rfl dc_MO_energy_0 1 rfl ?_
  refine jl_callV (As := []) (rest := []) h hr vs_MO_123 vi_MO_useOwn vx_MO_useOwn (ci := 7) rfl (by omega) (by exact rfl) (fun l => c_MO_useOwn l hW) (by first | decide | omega) (by first | decide | omega) rfl rfl (Nat.le_of_ble_eq_true rfl) dc_MO_energy_1 (res := []) rfl 4 rfl ?_
  refine jl_aload_n (i := 0) h rfl rfl dc_MO_energy_4 5 rfl ?_
  refine jl_callV (As := []) (rest := []) h hr vs_MO_90 vi_MO_energyNow vx_MO_energyNow (ci := 7) rfl (by omega) (by exact rfl) (fun l => c_MO_energyNow l (mo_okV hO (by decide)) (va_up_self _ _ _) hw) (by first | decide | omega) (by first | decide | omega) rfl rfl (Nat.le_of_ble_eq_true rfl) dc_MO_energy_5 (res := [_]) rfl 8 rfl ?_
  exact jl_zret h he rfl (rfl) (rfl) dc_MO_energy_8
theorem c_MO_take_no (q : Int32) (hq : ¬ (¬ q < 0 ∧ q < I 17)) : jl_C l K sa yn_MO_take bc_MO_take 3 (some .int) 2 50 168 ad [.ref (ad 160), .int q] (gw K ad I V L C G R) (some (.int (-1))) (gw K ad I V L C G R) := by
  refine jl_enter (by decide) (Nat.le_of_ble_eq_true rfl) (fun x h he hr => ?_)
  show jl_J x 168 ad 0 0 (gw K ad I V L C G R) 0 [(0, .ref (ad 160)), (1, .int q)] []
  refine jl_aload_n (i := 0) h rfl rfl dc_MO_take_0 1 rfl ?_
  refine jl_iload_n (i := 1) h rfl rfl dc_MO_take_1 2 rfl ?_
  refine jl_callV (As := [_]) (rest := []) h hr vs_MO_117 vi_MO_isListed vx_MO_isListed (ci := 7) rfl (by omega) (by exact rfl) (fun l => c_MO_isListed l q) (by first | decide | omega) (by first | decide | omega) rfl rfl (Nat.le_of_ble_eq_true rfl) dc_MO_take_2 (res := [_]) rfl 5 rfl ?_
  refine jl_if_ne h 10 (by decide) dc_MO_take_5 8 rfl (fun c5 => absurd (by rw [st_b0]; exact decide_eq_false hq) c5) (fun c5 => ?_)
  refine jl_iconst (v := -1) h (by decide) dc_MO_take_8 9 rfl ?_
  exact jl_zret h he rfl (rfl) (rfl) dc_MO_take_9
theorem c_MO_take_yes (hO : mo_ok I V n b) {ms : List (Nat → Int)} (h17 : I 17 = nI ms.length) (hlen : ms.length ≤ 150) (hro : mo_rows b n ms V) {k : Nat} (hk : k < ms.length) {u : Nat → Int} (hu : u = ms.getD k mo_w0) (hV : en_V b n u) : jl_C l K sa yn_MO_take bc_MO_take 3 (some .int) 2 50 168 ad [.ref (ad 160), .int (nI k)] (gw K ad I V L C G R) (some (.int (nI (mo_pc u n)))) (gw K ad I (va_up (va_up V 165 (fun k => iI (u k))) 164 (fun k => iI (u k))) L C G R) := by
  refine jl_enter (by decide) (Nat.le_of_ble_eq_true rfl) (fun x h he hr => ?_)
  show jl_J x 168 ad 0 0 (gw K ad I V L C G R) 0 [(0, .ref (ad 160)), (1, .int (nI k))] []
  have hrk := (hro k hk).2
  rw [← hu] at hrk
  have loop : ∀ (dd p : Nat), p + dd = 18 → jl_J x 168 ad 0 0 (gw K ad I (va_up V 165 (fun j => if j < p then iI (u j) else V 165 j)) L C G R) 12 [(2, .int (nI p)), (0, .ref (ad 160)), (1, .int (nI k))] [] := by
    intro dd
    induction dd with
    | zero =>
      intro p hp
      have hp : p = 18 := by omega
      subst hp
      refine mo_norm (len := 18) ⟨rfl, rfl⟩ (g := fun k => iI (u k)) (fun j hj => by simp [hj]) ?_
      refine jl_iload_n (i := 2) h rfl rfl dc_MO_take_12 13 rfl ?_
      refine jl_bipush (v := nI 18) h (by decide) dc_MO_take_13 15 rfl ?_
      refine jl_icmp_ge h 41 (by decide) dc_MO_take_15 18 rfl (fun c15 => ?_) (fun c15 => absurd (nI_le (Nat.le_refl _) (by omega)) c15)
      refine jl_aload_n (i := 0) h rfl rfl dc_MO_take_41 42 rfl ?_
      refine jl_callV (As := []) (rest := []) h hr vs_MO_120 vi_MO_pairsOfOwn vx_MO_pairsOfOwn (ci := 7) rfl (by omega) (by exact rfl) (fun l => c_MO_pairsOfOwn l (mo_okV hO (by decide)) (va_up_self _ _ _) hV) (by first | decide | omega) (by first | decide | omega) rfl rfl (Nat.le_of_ble_eq_true rfl) dc_MO_take_42 (res := [_]) rfl 45 rfl ?_
      exact jl_zret h he rfl (rfl) (rfl) dc_MO_take_45
    | succ dd ih =>
      intro p hp
      have hl := ih (p + 1) (by omega)
      refine jl_iload_n (i := 2) h rfl rfl dc_MO_take_12 13 rfl ?_
      refine jl_bipush (v := nI 18) h (by decide) dc_MO_take_13 15 rfl ?_
      refine jl_icmp_ge h 41 (by decide) dc_MO_take_15 18 rfl (fun c15 => absurd c15 (nI_ge (by omega) (by omega))) (fun c15 => ?_)
      refine jl_aload_n (i := 0) h rfl rfl dc_MO_take_18 19 rfl ?_
      refine jl_getf h nm_c_MO 6 wl_MO_22 (by omega) (by decide) (by exact rfl) (by rfl) dc_MO_take_19 22 rfl ?_
      refine jl_iload_n (i := 2) h rfl rfl dc_MO_take_22 23 rfl ?_
      refine jl_aload_n (i := 0) h rfl rfl dc_MO_take_23 24 rfl ?_
      refine jl_getf h nm_c_MO 13 wl_MO_28 (by omega) (by decide) (by exact rfl) (by rfl) dc_MO_take_24 27 rfl ?_
      refine jl_bipush (v := nI 18) h (by decide) dc_MO_take_27 29 rfl ?_
      refine jl_iload_n (i := 1) h rfl rfl dc_MO_take_29 30 rfl ?_
      refine jl_imul h dc_MO_take_30 31 rfl ?_
      rw [show nI 18 * nI k = nI (18 * k) by exact pk_mul 18 k]
      refine jl_iload_n (i := 2) h rfl rfl dc_MO_take_31 32 rfl ?_
      refine jl_iadd h dc_MO_take_32 33 rfl ?_
      rw [show nI (18 * k) + nI p = nI (18 * k + p) by exact nI_add _ _]
      refine jl_iald (v := iI (u p)) h (18 * k + p) (by exact rfl) (by omega) (by exact gw_row (len := 2718) ⟨rfl, rfl⟩) (by exact by omega) (by first | decide | assumption) (by exact hrk p (by omega)) dc_MO_take_33 34 rfl ?_
      refine jl_iast h (p) (by exact rfl) (by omega) (by exact gw_at (len := 18) rfl rfl (va_up_self _ _ _)) (by exact by omega) (by first | decide | assumption) dc_MO_take_34 (mo_set (len := 18) ⟨rfl, rfl⟩ (mo_fill (g := fun k => iI (u k)) p)) 35 rfl ?_
      refine jl_iinc (i := 2) (d := 1) (lc2 := [(2, _), (0, _), (1, _)]) (v2 := nI (p + 1)) h (by decide) rfl (nI_1 p) rfl dc_MO_take_35 38 rfl ?_
      refine jl_goto h 12 (by decide) dc_MO_take_38 ?_
      exact hl
  have l0 := loop 18 0 (by omega)
  rw [mo_fill0 (g := fun k => iI (u k))] at l0
  refine jl_aload_n (i := 0) h rfl rfl dc_MO_take_0 1 rfl ?_
  refine jl_iload_n (i := 1) h rfl rfl dc_MO_take_1 2 rfl ?_
  refine jl_callV (As := [_]) (rest := []) h hr vs_MO_117 vi_MO_isListed vx_MO_isListed (ci := 7) rfl (by omega) (by exact rfl) (fun l => c_MO_isListed l (nI k)) (by first | decide | omega) (by first | decide | omega) rfl rfl (Nat.le_of_ble_eq_true rfl) dc_MO_take_2 (res := [_]) rfl 5 rfl ?_
  refine jl_if_ne h 10 (by decide) dc_MO_take_5 8 rfl (fun c5 => ?_) (fun c5 => absurd c5 (by rw [decide_eq_true (show ¬ nI k < 0 ∧ nI k < I 17 from ⟨nI_pos (by omega), by rw [h17]; exact nI_lt hk (by omega)⟩)]; decide))
  refine jl_iconst (v := nI 0) h (by decide) dc_MO_take_10 11 rfl ?_
  refine jl_istore_n (i := 2) (lc2 := [(2, _), (0, _), (1, _)]) h rfl (by decide) rfl dc_MO_take_11 12 rfl ?_
  exact l0
theorem c_MO_type_no {tc : Nat} (htc : I 12 = nI tc) (h20 : tc ≤ 20) (q : Int32) (hq : q < 32 ∨ 126 < q ∨ tc = 20) : jl_C l K sa yn_MO_type bc_MO_type 2 (some .boolean) 0 0 168 ad [.ref (ad 160), .int q] (gw K ad I V L C G R) (some (.int 0)) (gw K ad I V L C G R) := by
  refine jl_enter (by decide) (Nat.le_of_ble_eq_true rfl) (fun x h he hr => ?_)
  show jl_J x 168 ad 0 0 (gw K ad I V L C G R) 0 [(0, .ref (ad 160)), (1, .int q)] []
  by_cases h1 : q < 32
  · skip
    refine jl_iload_n (i := 1) h rfl rfl dc_MO_type_0 1 rfl ?_
    refine jl_bipush (v := 32) h (by decide) dc_MO_type_1 3 rfl ?_
    refine jl_icmp_lt h 21 (by decide) dc_MO_type_3 6 rfl (fun c3 => ?_) (fun c3 => absurd (h1) c3)
    refine jl_iconst (v := 0) h (by decide) dc_MO_type_21 22 rfl ?_
    exact jl_zret h he rfl (rfl) (rfl) dc_MO_type_22
  by_cases h2 : 126 < q
  · skip
    refine jl_iload_n (i := 1) h rfl rfl dc_MO_type_0 1 rfl ?_
    refine jl_bipush (v := 32) h (by decide) dc_MO_type_1 3 rfl ?_
    refine jl_icmp_lt h 21 (by decide) dc_MO_type_3 6 rfl (fun c3 => absurd c3 (h1)) (fun c3 => ?_)
    refine jl_iload_n (i := 1) h rfl rfl dc_MO_type_6 7 rfl ?_
    refine jl_bipush (v := 126) h (by decide) dc_MO_type_7 9 rfl ?_
    refine jl_icmp_gt h 21 (by decide) dc_MO_type_9 12 rfl (fun c9 => ?_) (fun c9 => absurd (h2) c9)
    refine jl_iconst (v := 0) h (by decide) dc_MO_type_21 22 rfl ?_
    exact jl_zret h he rfl (rfl) (rfl) dc_MO_type_22
  · have h3 : tc = 20 := (hq.resolve_left h1).resolve_left h2
    refine jl_iload_n (i := 1) h rfl rfl dc_MO_type_0 1 rfl ?_
    refine jl_bipush (v := 32) h (by decide) dc_MO_type_1 3 rfl ?_
    refine jl_icmp_lt h 21 (by decide) dc_MO_type_3 6 rfl (fun c3 => absurd c3 (h1)) (fun c3 => ?_)
    refine jl_iload_n (i := 1) h rfl rfl dc_MO_type_6 7 rfl ?_
    refine jl_bipush (v := 126) h (by decide) dc_MO_type_7 9 rfl ?_
    refine jl_icmp_gt h 21 (by decide) dc_MO_type_9 12 rfl (fun c9 => absurd c9 (h2)) (fun c9 => ?_)
    refine jl_aload_n (i := 0) h rfl rfl dc_MO_type_12 13 rfl ?_
    refine jl_getf (v := .int (nI tc)) h nm_c_MO 3 wl_MO_126 (by omega) (by decide) (by exact rfl) (by exact sr_v htc) dc_MO_type_13 16 rfl ?_
    refine jl_bipush (v := nI 20) h (by decide) dc_MO_type_16 18 rfl ?_
    refine jl_icmp_ne h 23 (by decide) dc_MO_type_18 21 rfl (fun c18 => absurd (by rw [h3]) c18) (fun c18 => ?_)
    refine jl_iconst (v := 0) h (by decide) dc_MO_type_21 22 rfl ?_
    exact jl_zret h he rfl (rfl) (rfl) dc_MO_type_22
theorem c_MO_type_yes {tc : Nat} (htc : I 12 = nI tc) (h20 : tc < 20) (q : Int32) (hq1 : ¬ q < 32) (hq2 : ¬ 126 < q) : jl_C l K sa yn_MO_type bc_MO_type 2 (some .boolean) 0 0 168 ad [.ref (ad 160), .int q] (gw K ad I V L C G R) (some (.int 1)) (gw K ad (va_up I 12 (nI (tc + 1))) (va_up V 163 (upd (V 163) tc q)) L C G R) := by
  refine jl_enter (by decide) (Nat.le_of_ble_eq_true rfl) (fun x h he hr => ?_)
  show jl_J x 168 ad 0 0 (gw K ad I V L C G R) 0 [(0, .ref (ad 160)), (1, .int q)] []
  refine jl_iload_n (i := 1) h rfl rfl dc_MO_type_0 1 rfl ?_
  refine jl_bipush (v := 32) h (by decide) dc_MO_type_1 3 rfl ?_
  refine jl_icmp_lt h 21 (by decide) dc_MO_type_3 6 rfl (fun c3 => absurd c3 (hq1)) (fun c3 => ?_)
  refine jl_iload_n (i := 1) h rfl rfl dc_MO_type_6 7 rfl ?_
  refine jl_bipush (v := 126) h (by decide) dc_MO_type_7 9 rfl ?_
  refine jl_icmp_gt h 21 (by decide) dc_MO_type_9 12 rfl (fun c9 => absurd c9 (hq2)) (fun c9 => ?_)
  refine jl_aload_n (i := 0) h rfl rfl dc_MO_type_12 13 rfl ?_
  refine jl_getf (v := .int (nI tc)) h nm_c_MO 3 wl_MO_126 (by omega) (by decide) (by exact rfl) (by exact sr_v htc) dc_MO_type_13 16 rfl ?_
  refine jl_bipush (v := nI 20) h (by decide) dc_MO_type_16 18 rfl ?_
  refine jl_icmp_ne h 23 (by decide) dc_MO_type_18 21 rfl (fun c18 => ?_) (fun c18 => absurd c18 (by rw [nI_eq (by omega) (by decide)]; omega))
  refine jl_aload_n (i := 0) h rfl rfl dc_MO_type_23 24 rfl ?_
  refine jl_getf h nm_c_MO 4 wl_MO_16 (by omega) (by decide) (by exact rfl) (by rfl) dc_MO_type_24 27 rfl ?_
  refine jl_aload_n (i := 0) h rfl rfl dc_MO_type_27 28 rfl ?_
  refine jl_getf (v := .int (nI tc)) h nm_c_MO 3 wl_MO_126 (by omega) (by decide) (by exact rfl) (by exact sr_v htc) dc_MO_type_28 31 rfl ?_
  refine jl_iload_n (i := 1) h rfl rfl dc_MO_type_31 32 rfl ?_
  refine jl_iast h (tc) (by exact rfl) (by omega) (by exact gw_row (len := 20) ⟨rfl, rfl⟩) (by exact by omega) (by first | decide | assumption) dc_MO_type_32 (gw_rowset (len := 20) ⟨rfl, rfl⟩ _) 33 rfl ?_
  refine jl_aload_n (i := 0) h rfl rfl dc_MO_type_33 34 rfl ?_
  refine jl_dup h rfl dc_MO_type_34 35 rfl ?_
  refine jl_getf (v := .int (nI tc)) h nm_c_MO 3 wl_MO_126 (by omega) (by decide) (by exact rfl) (by exact sr_v htc) dc_MO_type_35 38 rfl ?_
  refine jl_iconst (v := nI 1) h (by decide) dc_MO_type_38 39 rfl ?_
  refine jl_iadd h dc_MO_type_39 40 rfl ?_
  rw [show nI tc + nI 1 = nI (tc + 1) by exact nI_add tc 1]
  refine jl_putf (fs2 := [_, _, _, _, _, _, _, _, _, _, _, _, _, _]) h nm_c_MO 3 wl_MO_126 (by omega) (by decide) rfl (by exact rfl) (by rfl) (by rfl) (by exact Nat.le_of_ble_eq_true rfl) (by rfl) dc_MO_type_40 (gw_set_mtyped _) 43 rfl ?_
  refine jl_iconst (v := 1) h (by decide) dc_MO_type_43 44 rfl ?_
  exact jl_zret h he rfl (rfl) (rfl) dc_MO_type_44
theorem c_MO_partner_no (hO : mo_ok I V n b) (q : Int32) (hq : ¬ (¬ q < 0 ∧ q < nI n)) : jl_C l K sa yn_MO_partner bc_MO_partner 2 (some .int) 0 0 168 ad [.ref (ad 160), .int q] (gw K ad I V L C G R) (some (.int (-1))) (gw K ad I V L C G R) := by
  refine jl_enter (by decide) (Nat.le_of_ble_eq_true rfl) (fun x h he hr => ?_)
  show jl_J x 168 ad 0 0 (gw K ad I V L C G R) 0 [(0, .ref (ad 160)), (1, .int q)] []
  by_cases h1 : q < 0
  · skip
    refine jl_iload_n (i := 1) h rfl rfl dc_MO_partner_0 1 rfl ?_
    refine jl_if_lt h 21 (by decide) dc_MO_partner_1 4 rfl (fun c1 => ?_) (fun c1 => absurd (h1) c1)
    refine jl_iconst (v := -1) h (by decide) dc_MO_partner_21 22 rfl ?_
    exact jl_zret h he rfl (rfl) (rfl) dc_MO_partner_22
  · skip
    refine jl_iload_n (i := 1) h rfl rfl dc_MO_partner_0 1 rfl ?_
    refine jl_if_lt h 21 (by decide) dc_MO_partner_1 4 rfl (fun c1 => absurd c1 (h1)) (fun c1 => ?_)
    refine jl_iload_n (i := 1) h rfl rfl dc_MO_partner_4 5 rfl ?_
    refine jl_aload_n (i := 0) h rfl rfl dc_MO_partner_5 6 rfl ?_
    refine jl_getf (v := .int (nI n)) h nm_c_MO 1 wl_MO_42 (by omega) (by decide) (by exact rfl) (by exact sr_v hO.1) dc_MO_partner_6 9 rfl ?_
    refine jl_icmp_ge h 21 (by decide) dc_MO_partner_9 12 rfl (fun c9 => ?_) (fun c9 => absurd (Int32.not_lt.mp (fun h9 => hq ⟨h1, h9⟩)) c9)
    refine jl_iconst (v := -1) h (by decide) dc_MO_partner_21 22 rfl ?_
    exact jl_zret h he rfl (rfl) (rfl) dc_MO_partner_22
theorem c_MO_partner (hO : mo_ok I V n b) (hW : V 165 = fun k => iI (w k)) {i : Nat} (hi : i < n) : jl_C l K sa yn_MO_partner bc_MO_partner 2 (some .int) 0 0 168 ad [.ref (ad 160), .int (nI i)] (gw K ad I V L C G R) (some (.int (iI (w i)))) (gw K ad I V L C G R) := by
  refine jl_enter (by decide) (Nat.le_of_ble_eq_true rfl) (fun x h he hr => ?_)
  have hn := hO.2.2.1
  show jl_J x 168 ad 0 0 (gw K ad I V L C G R) 0 [(0, .ref (ad 160)), (1, .int (nI i))] []
  refine jl_iload_n (i := 1) h rfl rfl dc_MO_partner_0 1 rfl ?_
  refine jl_if_lt h 21 (by decide) dc_MO_partner_1 4 rfl (fun c1 => absurd c1 (nI_pos (by omega))) (fun c1 => ?_)
  refine jl_iload_n (i := 1) h rfl rfl dc_MO_partner_4 5 rfl ?_
  refine jl_aload_n (i := 0) h rfl rfl dc_MO_partner_5 6 rfl ?_
  refine jl_getf (v := .int (nI n)) h nm_c_MO 1 wl_MO_42 (by omega) (by decide) (by exact rfl) (by exact sr_v hO.1) dc_MO_partner_6 9 rfl ?_
  refine jl_icmp_ge h 21 (by decide) dc_MO_partner_9 12 rfl (fun c9 => absurd c9 (nI_ge hi (by omega))) (fun c9 => ?_)
  refine jl_aload_n (i := 0) h rfl rfl dc_MO_partner_12 13 rfl ?_
  refine jl_getf h nm_c_MO 6 wl_MO_22 (by omega) (by decide) (by exact rfl) (by rfl) dc_MO_partner_13 16 rfl ?_
  refine jl_iload_n (i := 1) h rfl rfl dc_MO_partner_16 17 rfl ?_
  refine jl_iald (v := iI (w i)) h (i) (by exact rfl) (by omega) (by exact gw_at (len := 18) rfl rfl hW) (by exact by omega) (by first | decide | assumption) (by exact rfl) dc_MO_partner_17 18 rfl ?_
  refine jl_goto h 22 (by decide) dc_MO_partner_18 ?_
  exact jl_zret h he rfl (rfl) (rfl) dc_MO_partner_22
theorem c_MO_loop_no (hO : mo_ok I V n b) (q : Int32) (hq : ¬ (¬ q < 0 ∧ q < nI n)) : jl_C l K sa yn_MO_loop bc_MO_loop 2 (some .int) 4 125 168 ad [.ref (ad 160), .int q] (gw K ad I V L C G R) (some (.int 0)) (gw K ad I V L C G R) := by
  refine jl_enter (by decide) (Nat.le_of_ble_eq_true rfl) (fun x h he hr => ?_)
  show jl_J x 168 ad 0 0 (gw K ad I V L C G R) 0 [(0, .ref (ad 160)), (1, .int q)] []
  by_cases h1 : q < 0
  · skip
    refine jl_iload_n (i := 1) h rfl rfl dc_MO_loop_0 1 rfl ?_
    refine jl_if_lt h 22 (by decide) dc_MO_loop_1 4 rfl (fun c1 => ?_) (fun c1 => absurd (h1) c1)
    refine jl_iconst (v := 0) h (by decide) dc_MO_loop_22 23 rfl ?_
    exact jl_zret h he rfl (rfl) (rfl) dc_MO_loop_23
  · skip
    refine jl_iload_n (i := 1) h rfl rfl dc_MO_loop_0 1 rfl ?_
    refine jl_if_lt h 22 (by decide) dc_MO_loop_1 4 rfl (fun c1 => absurd c1 (h1)) (fun c1 => ?_)
    refine jl_iload_n (i := 1) h rfl rfl dc_MO_loop_4 5 rfl ?_
    refine jl_aload_n (i := 0) h rfl rfl dc_MO_loop_5 6 rfl ?_
    refine jl_getf (v := .int (nI n)) h nm_c_MO 1 wl_MO_42 (by omega) (by decide) (by exact rfl) (by exact sr_v hO.1) dc_MO_loop_6 9 rfl ?_
    refine jl_icmp_ge h 22 (by decide) dc_MO_loop_9 12 rfl (fun c9 => ?_) (fun c9 => absurd (Int32.not_lt.mp (fun h9 => hq ⟨h1, h9⟩)) c9)
    refine jl_iconst (v := 0) h (by decide) dc_MO_loop_22 23 rfl ?_
    exact jl_zret h he rfl (rfl) (rfl) dc_MO_loop_23
theorem c_MO_loop_0 (hO : mo_ok I V n b) (hW : V 165 = fun k => iI (w k)) (hw : en_V b n w) {i : Nat} (hi : i < n) (h9 : ¬ (i : Int) < w i) : jl_C l K sa yn_MO_loop bc_MO_loop 2 (some .int) 4 125 168 ad [.ref (ad 160), .int (nI i)] (gw K ad I V L C G R) (some (.int 0)) (gw K ad I V L C G R) := by
  refine jl_enter (by decide) (Nat.le_of_ble_eq_true rfl) (fun x h he hr => ?_)
  have hn := hO.2.2.1
  have hb := mo_bw_V hw i
  have hle := sr_iI_le hb.1 (show w i < 18 by omega) (show i < 18 by omega)
  show jl_J x 168 ad 0 0 (gw K ad I V L C G R) 0 [(0, .ref (ad 160)), (1, .int (nI i))] []
  refine jl_iload_n (i := 1) h rfl rfl dc_MO_loop_0 1 rfl ?_
  refine jl_if_lt h 22 (by decide) dc_MO_loop_1 4 rfl (fun c1 => absurd c1 (nI_pos (by omega))) (fun c1 => ?_)
  refine jl_iload_n (i := 1) h rfl rfl dc_MO_loop_4 5 rfl ?_
  refine jl_aload_n (i := 0) h rfl rfl dc_MO_loop_5 6 rfl ?_
  refine jl_getf (v := .int (nI n)) h nm_c_MO 1 wl_MO_42 (by omega) (by decide) (by exact rfl) (by exact sr_v hO.1) dc_MO_loop_6 9 rfl ?_
  refine jl_icmp_ge h 22 (by decide) dc_MO_loop_9 12 rfl (fun c9 => absurd c9 (nI_ge hi (by omega))) (fun c9 => ?_)
  refine jl_aload_n (i := 0) h rfl rfl dc_MO_loop_12 13 rfl ?_
  refine jl_getf h nm_c_MO 6 wl_MO_22 (by omega) (by decide) (by exact rfl) (by rfl) dc_MO_loop_13 16 rfl ?_
  refine jl_iload_n (i := 1) h rfl rfl dc_MO_loop_16 17 rfl ?_
  refine jl_iald (v := iI (w i)) h (i) (by exact rfl) (by omega) (by exact gw_at (len := 18) rfl rfl hW) (by exact by omega) (by first | decide | assumption) (by exact rfl) dc_MO_loop_17 18 rfl ?_
  refine jl_iload_n (i := 1) h rfl rfl dc_MO_loop_18 19 rfl ?_
  refine jl_icmp_gt h 24 (by decide) dc_MO_loop_19 22 rfl (fun c19 => absurd c19 (Int32.not_lt.mpr (hle.mpr (by omega)))) (fun c19 => ?_)
  refine jl_iconst (v := 0) h (by decide) dc_MO_loop_22 23 rfl ?_
  exact jl_zret h he rfl (rfl) (rfl) dc_MO_loop_23
theorem c_MO_loop (hO : mo_ok I V n b) (hW : V 165 = fun k => iI (w k)) (hw : en_V b n w) {i : Nat} (hi : i < n) (h9 : (i : Int) < w i) : jl_C l K sa yn_MO_loop bc_MO_loop 2 (some .int) 4 125 168 ad [.ref (ad 160), .int (nI i)] (gw K ad I V L C G R) (some (.int (iI (lp_loop b w i (w i).toNat)))) (gw K ad I (va_up V 164 (fun k => iI (w k))) L C G R) := by
  refine jl_enter (by decide) (Nat.le_of_ble_eq_true rfl) (fun x h he hr => ?_)
  have hn := hO.2.2.1
  have hb := mo_bw_V hw i
  have hle := sr_iI_le hb.1 (show w i < 18 by omega) (show i < 18 by omega)
  obtain ⟨m, hm⟩ : ∃ m : Nat, w i = m := ⟨(w i).toNat, by omega⟩
  show jl_J x 168 ad 0 0 (gw K ad I V L C G R) 0 [(0, .ref (ad 160)), (1, .int (nI i))] []
  refine jl_iload_n (i := 1) h rfl rfl dc_MO_loop_0 1 rfl ?_
  refine jl_if_lt h 22 (by decide) dc_MO_loop_1 4 rfl (fun c1 => absurd c1 (nI_pos (by omega))) (fun c1 => ?_)
  refine jl_iload_n (i := 1) h rfl rfl dc_MO_loop_4 5 rfl ?_
  refine jl_aload_n (i := 0) h rfl rfl dc_MO_loop_5 6 rfl ?_
  refine jl_getf (v := .int (nI n)) h nm_c_MO 1 wl_MO_42 (by omega) (by decide) (by exact rfl) (by exact sr_v hO.1) dc_MO_loop_6 9 rfl ?_
  refine jl_icmp_ge h 22 (by decide) dc_MO_loop_9 12 rfl (fun c9 => absurd c9 (nI_ge hi (by omega))) (fun c9 => ?_)
  refine jl_aload_n (i := 0) h rfl rfl dc_MO_loop_12 13 rfl ?_
  refine jl_getf h nm_c_MO 6 wl_MO_22 (by omega) (by decide) (by exact rfl) (by rfl) dc_MO_loop_13 16 rfl ?_
  refine jl_iload_n (i := 1) h rfl rfl dc_MO_loop_16 17 rfl ?_
  refine jl_iald (v := iI (w i)) h (i) (by exact rfl) (by omega) (by exact gw_at (len := 18) rfl rfl hW) (by exact by omega) (by first | decide | assumption) (by exact rfl) dc_MO_loop_17 18 rfl ?_
  refine jl_iload_n (i := 1) h rfl rfl dc_MO_loop_18 19 rfl ?_
  refine jl_icmp_gt h 24 (by decide) dc_MO_loop_19 22 rfl (fun c19 => ?_) (fun c19 => absurd (Int32.not_le.mp (fun h8 => absurd (hle.mp h8) (by omega))) c19)
  refine jl_aload_n (i := 0) h rfl rfl dc_MO_loop_24 25 rfl ?_
  refine jl_callV (As := []) (rest := []) h hr vs_MO_123 vi_MO_useOwn vx_MO_useOwn (ci := 7) rfl (by omega) (by exact rfl) (fun l => c_MO_useOwn l hW) (by first | decide | omega) (by first | decide | omega) rfl rfl (Nat.le_of_ble_eq_true rfl) dc_MO_loop_25 (res := []) rfl 28 rfl ?_
  refine jl_aload_n (i := 0) h rfl rfl dc_MO_loop_28 29 rfl ?_
  refine jl_iload_n (i := 1) h rfl rfl dc_MO_loop_29 30 rfl ?_
  refine jl_aload_n (i := 0) h rfl rfl dc_MO_loop_30 31 rfl ?_
  refine jl_getf h nm_c_MO 6 wl_MO_22 (by omega) (by decide) (by exact rfl) (by rfl) dc_MO_loop_31 34 rfl ?_
  refine jl_iload_n (i := 1) h rfl rfl dc_MO_loop_34 35 rfl ?_
  refine jl_iald (v := nI m) h (i) (by exact rfl) (by omega) (by exact gw_at (len := 18) rfl rfl hW) (by exact by omega) (by first | decide | assumption) (by exact by show iI (w i) = nI m; rw [hm, iI_nat]) dc_MO_loop_35 36 rfl ?_
  refine jl_callV (As := [_, _]) (rest := []) h hr vs_MO_64 vi_MO_loopOf vx_MO_loopOf (ci := 7) rfl (by omega) (by exact rfl) (fun l => c_MO_loopOf l (mo_okV hO (by decide)) (va_up_self _ _ _) hw (show i < m by omega) hm) (by first | decide | omega) (by first | decide | omega) rfl rfl (Nat.le_of_ble_eq_true rfl) dc_MO_loop_36 (res := [_]) rfl 39 rfl ?_
  exact jl_zret h he rfl (by rw [hm, Int.toNat_natCast]) (rfl) dc_MO_loop_39
end MO

