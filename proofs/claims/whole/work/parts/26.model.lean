/-! The reference: kind, canPair, weak, isLoopOfSix, closed, within, clearOwn, base, clear. -/
def mo_k (x y : Int32) : Int32 := if x = 67 then (if y = 71 then 0 else -1) else if x = 71 then (if y = 67 then 1 else if y = 85 then 2 else -1) else if x = 85 then (if y = 71 then 3 else if y = 65 then 5 else -1) else if y = 85 then 4 else -1
theorem mo_kk : ∀ p, p < 4 → ∀ q, q < 4 → mo_k (nm_s0.getD p 0) (nm_s0.getD q 0) = iI (en_kd p q) := by decide +kernel
/-- the reference's strand -/
def mo_ok (I : Nat → Int32) (V : Nat → Nat → Int32) (n : Nat) (b : Nat → Nat) : Prop := I 11 = nI n ∧ (∀ i, i < n → V 162 i = nm_s0.getD (b i) 0) ∧ n ≤ 18 ∧ (∀ i, b i < 4) ∧ ∀ k, k < 36 → V 161 k = nm_s4.getD k 0
def mo_hc (u : Nat) : Int32 := if u = 3 ∨ u = 6 then 54 else if u = 4 then 56 else if u = 5 then 57 else if u = 7 then 60 else if u = 8 then 55 else 64
theorem mo_hpc (u : Nat) (hu : 3 ≤ u) : iI (lp_hpT.getD (u - 3) 64) = mo_hc u := by
  by_cases h : u < 9
  · have : ∀ u, u < 9 → 3 ≤ u → iI (lp_hpT.getD (u - 3) 64) = mo_hc u := by decide +kernel
    exact this u h hu
  · rw [List.getD_eq_getElem?_getD, List.getElem?_eq_none (by show 6 ≤ _; omega)]
    unfold mo_hc
    rw [if_neg (by omega), if_neg (by omega), if_neg (by omega), if_neg (by omega), if_neg (by omega)]
    rfl
def mo_six (b : Nat → Nat) (i : Nat) : Prop := nm_s0.getD (b i) 0 = 67 ∧ nm_s0.getD (b (i + 1)) 0 = 85 ∧ nm_s0.getD (b (i + 2)) 0 = 85 ∧ nm_s0.getD (b (i + 3)) 0 = 67 ∧ nm_s0.getD (b (i + 4)) 0 = 71 ∧ nm_s0.getD (b (i + 5)) 0 = 71
theorem mo_six_yes {b : Nat → Nat} {i j : Nat} (hj : j = i + 5) (h : mo_six b i) : en_six b i j = true := by
  refine en_six_yes hj (fun m hm => ?_)
  match m, hm with
  | 0, _ => exact h.1
  | 1, _ => exact h.2.1
  | 2, _ => exact h.2.2.1
  | 3, _ => exact h.2.2.2.1
  | 4, _ => exact h.2.2.2.2.1
  | 5, _ => exact h.2.2.2.2.2
abbrev bc_MO_clearOwn : ByteArray := prog_9_method_2_code
abbrev yn_MO_clearOwn : MethodName := ⟨"FoldedStrandModel", "clearOwn", "()V"⟩
theorem wl_MO_22 : Cond.fieldLink "FoldedStrandModel" 22 "FoldedStrandModel" "own" "[I" ∈ jl_T := jl_T_of 521 (by decide +kernel) (by decide +kernel)
theorem wl_MO_34 : Cond.fieldLink "FoldedStrandModel" 34 "FoldedStrandModel" "listed" "I" ∈ jl_T := jl_T_of 526 (by decide +kernel) (by decide +kernel)
theorem wl_MO_38 : Cond.fieldLink "FoldedStrandModel" 38 "FoldedStrandModel" "known" "Z" ∈ jl_T := jl_T_of 522 (by decide +kernel) (by decide +kernel)
theorem dc_MO_clearOwn_0 : decode bc_MO_clearOwn 0 = .ok (.iconst 0, 1) := by decide +kernel
theorem dc_MO_clearOwn_1 : decode bc_MO_clearOwn 1 = .ok (.istore_n 1, 1) := by decide +kernel
theorem dc_MO_clearOwn_2 : decode bc_MO_clearOwn 2 = .ok (.iload_n 1, 1) := by decide +kernel
theorem dc_MO_clearOwn_3 : decode bc_MO_clearOwn 3 = .ok (.bipush 18, 2) := by decide +kernel
theorem dc_MO_clearOwn_5 : decode bc_MO_clearOwn 5 = .ok (.if_icmp .ge 16, 3) := by decide +kernel
theorem dc_MO_clearOwn_8 : decode bc_MO_clearOwn 8 = .ok (.aload_n 0, 1) := by decide +kernel
theorem dc_MO_clearOwn_9 : decode bc_MO_clearOwn 9 = .ok (.getfield 22, 3) := by decide +kernel
theorem dc_MO_clearOwn_12 : decode bc_MO_clearOwn 12 = .ok (.iload_n 1, 1) := by decide +kernel
theorem dc_MO_clearOwn_13 : decode bc_MO_clearOwn 13 = .ok (.iconst (-1), 1) := by decide +kernel
theorem dc_MO_clearOwn_14 : decode bc_MO_clearOwn 14 = .ok (.iastore, 1) := by decide +kernel
theorem dc_MO_clearOwn_15 : decode bc_MO_clearOwn 15 = .ok (.iinc 1 1, 3) := by decide +kernel
theorem dc_MO_clearOwn_18 : decode bc_MO_clearOwn 18 = .ok (.goto (-16), 3) := by decide +kernel
theorem dc_MO_clearOwn_21 : decode bc_MO_clearOwn 21 = .ok (.aload_n 0, 1) := by decide +kernel
theorem dc_MO_clearOwn_22 : decode bc_MO_clearOwn 22 = .ok (.iconst 0, 1) := by decide +kernel
theorem dc_MO_clearOwn_23 : decode bc_MO_clearOwn 23 = .ok (.putfield 34, 3) := by decide +kernel
theorem dc_MO_clearOwn_26 : decode bc_MO_clearOwn 26 = .ok (.aload_n 0, 1) := by decide +kernel
theorem dc_MO_clearOwn_27 : decode bc_MO_clearOwn 27 = .ok (.iconst 0, 1) := by decide +kernel
theorem dc_MO_clearOwn_28 : decode bc_MO_clearOwn 28 = .ok (.putfield 38, 3) := by decide +kernel
theorem dc_MO_clearOwn_31 : decode bc_MO_clearOwn 31 = .ok (.return_, 1) := by decide +kernel
abbrev bc_MO_base : ByteArray := prog_9_method_3_code
abbrev yn_MO_base : MethodName := ⟨"FoldedStrandModel", "base", "(C)Z"⟩
theorem wl_MO_42 : Cond.fieldLink "FoldedStrandModel" 42 "FoldedStrandModel" "n" "I" ∈ jl_T := jl_T_of 516 (by decide +kernel) (by decide +kernel)
theorem wl_MO_13 : Cond.fieldLink "FoldedStrandModel" 13 "FoldedStrandModel" "bases" "[I" ∈ jl_T := jl_T_of 517 (by decide +kernel) (by decide +kernel)
theorem vs_MO_31 : jl_v "FoldedStrandModel" 31 yn_MO_clearOwn bc_MO_clearOwn 2 none 0 := ⟨jl_T_of 514 (by decide +kernel) (by decide +kernel), jl_T_of 9 (by decide +kernel) (by decide +kernel), jl_T_of 511 (by decide +kernel) (by decide +kernel), by decide +kernel, by decide +kernel, by decide +kernel⟩
theorem vi_MO_clearOwn : Cond.instanceMethod yn_MO_clearOwn ∈ jl_T := jl_T_of 513 (by decide +kernel) (by decide +kernel)
theorem vx_MO_clearOwn : Cond.selects "FoldedStrandModel" yn_MO_clearOwn yn_MO_clearOwn ∈ jl_T := jl_T_sel 12 (by decide +kernel) (by decide +kernel)
theorem dc_MO_base_0 : decode bc_MO_base 0 = .ok (.iload_n 1, 1) := by decide +kernel
theorem dc_MO_base_1 : decode bc_MO_base 1 = .ok (.bipush 65, 2) := by decide +kernel
theorem dc_MO_base_3 : decode bc_MO_base 3 = .ok (.if_icmp .eq 21, 3) := by decide +kernel
theorem dc_MO_base_6 : decode bc_MO_base 6 = .ok (.iload_n 1, 1) := by decide +kernel
theorem dc_MO_base_7 : decode bc_MO_base 7 = .ok (.bipush 67, 2) := by decide +kernel
theorem dc_MO_base_9 : decode bc_MO_base 9 = .ok (.if_icmp .eq 15, 3) := by decide +kernel
theorem dc_MO_base_12 : decode bc_MO_base 12 = .ok (.iload_n 1, 1) := by decide +kernel
theorem dc_MO_base_13 : decode bc_MO_base 13 = .ok (.bipush 71, 2) := by decide +kernel
theorem dc_MO_base_15 : decode bc_MO_base 15 = .ok (.if_icmp .eq 9, 3) := by decide +kernel
theorem dc_MO_base_18 : decode bc_MO_base 18 = .ok (.iload_n 1, 1) := by decide +kernel
theorem dc_MO_base_19 : decode bc_MO_base 19 = .ok (.bipush 85, 2) := by decide +kernel
theorem dc_MO_base_21 : decode bc_MO_base 21 = .ok (.if_icmp .ne 12, 3) := by decide +kernel
theorem dc_MO_base_24 : decode bc_MO_base 24 = .ok (.aload_n 0, 1) := by decide +kernel
theorem dc_MO_base_25 : decode bc_MO_base 25 = .ok (.getfield 42, 3) := by decide +kernel
theorem dc_MO_base_28 : decode bc_MO_base 28 = .ok (.bipush 18, 2) := by decide +kernel
theorem dc_MO_base_30 : decode bc_MO_base 30 = .ok (.if_icmp .ne 5, 3) := by decide +kernel
theorem dc_MO_base_33 : decode bc_MO_base 33 = .ok (.iconst 0, 1) := by decide +kernel
theorem dc_MO_base_34 : decode bc_MO_base 34 = .ok (.ireturn, 1) := by decide +kernel
theorem dc_MO_base_35 : decode bc_MO_base 35 = .ok (.aload_n 0, 1) := by decide +kernel
theorem dc_MO_base_36 : decode bc_MO_base 36 = .ok (.getfield 13, 3) := by decide +kernel
theorem dc_MO_base_39 : decode bc_MO_base 39 = .ok (.aload_n 0, 1) := by decide +kernel
theorem dc_MO_base_40 : decode bc_MO_base 40 = .ok (.getfield 42, 3) := by decide +kernel
theorem dc_MO_base_43 : decode bc_MO_base 43 = .ok (.iload_n 1, 1) := by decide +kernel
theorem dc_MO_base_44 : decode bc_MO_base 44 = .ok (.iastore, 1) := by decide +kernel
theorem dc_MO_base_45 : decode bc_MO_base 45 = .ok (.aload_n 0, 1) := by decide +kernel
theorem dc_MO_base_46 : decode bc_MO_base 46 = .ok (.dup, 1) := by decide +kernel
theorem dc_MO_base_47 : decode bc_MO_base 47 = .ok (.getfield 42, 3) := by decide +kernel
theorem dc_MO_base_50 : decode bc_MO_base 50 = .ok (.iconst 1, 1) := by decide +kernel
theorem dc_MO_base_51 : decode bc_MO_base 51 = .ok (.iadd, 1) := by decide +kernel
theorem dc_MO_base_52 : decode bc_MO_base 52 = .ok (.putfield 42, 3) := by decide +kernel
theorem dc_MO_base_55 : decode bc_MO_base 55 = .ok (.aload_n 0, 1) := by decide +kernel
theorem dc_MO_base_56 : decode bc_MO_base 56 = .ok (.invokevirtual 31, 3) := by decide +kernel
theorem dc_MO_base_59 : decode bc_MO_base 59 = .ok (.iconst 1, 1) := by decide +kernel
theorem dc_MO_base_60 : decode bc_MO_base 60 = .ok (.ireturn, 1) := by decide +kernel
abbrev bc_MO_clear : ByteArray := prog_9_method_4_code
abbrev yn_MO_clear : MethodName := ⟨"FoldedStrandModel", "clear", "()I"⟩
theorem dc_MO_clear_0 : decode bc_MO_clear 0 = .ok (.aload_n 0, 1) := by decide +kernel
theorem dc_MO_clear_1 : decode bc_MO_clear 1 = .ok (.getfield 42, 3) := by decide +kernel
theorem dc_MO_clear_4 : decode bc_MO_clear 4 = .ok (.istore_n 1, 1) := by decide +kernel
theorem dc_MO_clear_5 : decode bc_MO_clear 5 = .ok (.aload_n 0, 1) := by decide +kernel
theorem dc_MO_clear_6 : decode bc_MO_clear 6 = .ok (.iconst 0, 1) := by decide +kernel
theorem dc_MO_clear_7 : decode bc_MO_clear 7 = .ok (.putfield 42, 3) := by decide +kernel
theorem dc_MO_clear_10 : decode bc_MO_clear 10 = .ok (.aload_n 0, 1) := by decide +kernel
theorem dc_MO_clear_11 : decode bc_MO_clear 11 = .ok (.invokevirtual 31, 3) := by decide +kernel
theorem dc_MO_clear_14 : decode bc_MO_clear 14 = .ok (.iload_n 1, 1) := by decide +kernel
theorem dc_MO_clear_15 : decode bc_MO_clear 15 = .ok (.ireturn, 1) := by decide +kernel
abbrev bc_MO_kind : ByteArray := prog_9_method_5_code
abbrev yn_MO_kind : MethodName := ⟨"FoldedStrandModel", "kind", "(II)I"⟩
theorem dc_MO_kind_0 : decode bc_MO_kind 0 = .ok (.aload_n 0, 1) := by decide +kernel
theorem dc_MO_kind_1 : decode bc_MO_kind 1 = .ok (.getfield 13, 3) := by decide +kernel
theorem dc_MO_kind_4 : decode bc_MO_kind 4 = .ok (.iload_n 1, 1) := by decide +kernel
theorem dc_MO_kind_5 : decode bc_MO_kind 5 = .ok (.iaload, 1) := by decide +kernel
theorem dc_MO_kind_6 : decode bc_MO_kind 6 = .ok (.istore_n 3, 1) := by decide +kernel
theorem dc_MO_kind_7 : decode bc_MO_kind 7 = .ok (.aload_n 0, 1) := by decide +kernel
theorem dc_MO_kind_8 : decode bc_MO_kind 8 = .ok (.getfield 13, 3) := by decide +kernel
theorem dc_MO_kind_11 : decode bc_MO_kind 11 = .ok (.iload_n 2, 1) := by decide +kernel
theorem dc_MO_kind_12 : decode bc_MO_kind 12 = .ok (.iaload, 1) := by decide +kernel
theorem dc_MO_kind_13 : decode bc_MO_kind 13 = .ok (.istore 4, 2) := by decide +kernel
theorem dc_MO_kind_15 : decode bc_MO_kind 15 = .ok (.iload_n 3, 1) := by decide +kernel
theorem dc_MO_kind_16 : decode bc_MO_kind 16 = .ok (.bipush 67, 2) := by decide +kernel
theorem dc_MO_kind_18 : decode bc_MO_kind 18 = .ok (.if_icmp .ne 16, 3) := by decide +kernel
theorem dc_MO_kind_21 : decode bc_MO_kind 21 = .ok (.iload 4, 2) := by decide +kernel
theorem dc_MO_kind_23 : decode bc_MO_kind 23 = .ok (.bipush 71, 2) := by decide +kernel
theorem dc_MO_kind_25 : decode bc_MO_kind 25 = .ok (.if_icmp .ne 7, 3) := by decide +kernel
theorem dc_MO_kind_28 : decode bc_MO_kind 28 = .ok (.iconst 0, 1) := by decide +kernel
theorem dc_MO_kind_29 : decode bc_MO_kind 29 = .ok (.goto 4, 3) := by decide +kernel
theorem dc_MO_kind_32 : decode bc_MO_kind 32 = .ok (.iconst (-1), 1) := by decide +kernel
theorem dc_MO_kind_33 : decode bc_MO_kind 33 = .ok (.ireturn, 1) := by decide +kernel
theorem dc_MO_kind_34 : decode bc_MO_kind 34 = .ok (.iload_n 3, 1) := by decide +kernel
theorem dc_MO_kind_35 : decode bc_MO_kind 35 = .ok (.bipush 71, 2) := by decide +kernel
theorem dc_MO_kind_37 : decode bc_MO_kind 37 = .ok (.if_icmp .ne 27, 3) := by decide +kernel
theorem dc_MO_kind_40 : decode bc_MO_kind 40 = .ok (.iload 4, 2) := by decide +kernel
theorem dc_MO_kind_42 : decode bc_MO_kind 42 = .ok (.bipush 67, 2) := by decide +kernel
theorem dc_MO_kind_44 : decode bc_MO_kind 44 = .ok (.if_icmp .ne 7, 3) := by decide +kernel
theorem dc_MO_kind_47 : decode bc_MO_kind 47 = .ok (.iconst 1, 1) := by decide +kernel
theorem dc_MO_kind_48 : decode bc_MO_kind 48 = .ok (.goto 15, 3) := by decide +kernel
theorem dc_MO_kind_51 : decode bc_MO_kind 51 = .ok (.iload 4, 2) := by decide +kernel
theorem dc_MO_kind_53 : decode bc_MO_kind 53 = .ok (.bipush 85, 2) := by decide +kernel
theorem dc_MO_kind_55 : decode bc_MO_kind 55 = .ok (.if_icmp .ne 7, 3) := by decide +kernel
theorem dc_MO_kind_58 : decode bc_MO_kind 58 = .ok (.iconst 2, 1) := by decide +kernel
theorem dc_MO_kind_59 : decode bc_MO_kind 59 = .ok (.goto 4, 3) := by decide +kernel
theorem dc_MO_kind_62 : decode bc_MO_kind 62 = .ok (.iconst (-1), 1) := by decide +kernel
theorem dc_MO_kind_63 : decode bc_MO_kind 63 = .ok (.ireturn, 1) := by decide +kernel
theorem dc_MO_kind_64 : decode bc_MO_kind 64 = .ok (.iload_n 3, 1) := by decide +kernel
theorem dc_MO_kind_65 : decode bc_MO_kind 65 = .ok (.bipush 85, 2) := by decide +kernel
theorem dc_MO_kind_67 : decode bc_MO_kind 67 = .ok (.if_icmp .ne 27, 3) := by decide +kernel
theorem dc_MO_kind_70 : decode bc_MO_kind 70 = .ok (.iload 4, 2) := by decide +kernel
theorem dc_MO_kind_72 : decode bc_MO_kind 72 = .ok (.bipush 71, 2) := by decide +kernel
theorem dc_MO_kind_74 : decode bc_MO_kind 74 = .ok (.if_icmp .ne 7, 3) := by decide +kernel
theorem dc_MO_kind_77 : decode bc_MO_kind 77 = .ok (.iconst 3, 1) := by decide +kernel
theorem dc_MO_kind_78 : decode bc_MO_kind 78 = .ok (.goto 15, 3) := by decide +kernel
theorem dc_MO_kind_81 : decode bc_MO_kind 81 = .ok (.iload 4, 2) := by decide +kernel
theorem dc_MO_kind_83 : decode bc_MO_kind 83 = .ok (.bipush 65, 2) := by decide +kernel
theorem dc_MO_kind_85 : decode bc_MO_kind 85 = .ok (.if_icmp .ne 7, 3) := by decide +kernel
theorem dc_MO_kind_88 : decode bc_MO_kind 88 = .ok (.iconst 5, 1) := by decide +kernel
theorem dc_MO_kind_89 : decode bc_MO_kind 89 = .ok (.goto 4, 3) := by decide +kernel
theorem dc_MO_kind_92 : decode bc_MO_kind 92 = .ok (.iconst (-1), 1) := by decide +kernel
theorem dc_MO_kind_93 : decode bc_MO_kind 93 = .ok (.ireturn, 1) := by decide +kernel
theorem dc_MO_kind_94 : decode bc_MO_kind 94 = .ok (.iload 4, 2) := by decide +kernel
theorem dc_MO_kind_96 : decode bc_MO_kind 96 = .ok (.bipush 85, 2) := by decide +kernel
theorem dc_MO_kind_98 : decode bc_MO_kind 98 = .ok (.if_icmp .ne 7, 3) := by decide +kernel
theorem dc_MO_kind_101 : decode bc_MO_kind 101 = .ok (.iconst 4, 1) := by decide +kernel
theorem dc_MO_kind_102 : decode bc_MO_kind 102 = .ok (.goto 4, 3) := by decide +kernel
theorem dc_MO_kind_105 : decode bc_MO_kind 105 = .ok (.iconst (-1), 1) := by decide +kernel
theorem dc_MO_kind_106 : decode bc_MO_kind 106 = .ok (.ireturn, 1) := by decide +kernel
abbrev bc_MO_canPair : ByteArray := prog_9_method_6_code
abbrev yn_MO_canPair : MethodName := ⟨"FoldedStrandModel", "canPair", "(II)Z"⟩
theorem vs_MO_45 : jl_v "FoldedStrandModel" 45 yn_MO_kind bc_MO_kind 5 (some .int) 2 := ⟨jl_T_of 593 (by decide +kernel) (by decide +kernel), jl_T_of 9 (by decide +kernel) (by decide +kernel), jl_T_of 590 (by decide +kernel) (by decide +kernel), by decide +kernel, by decide +kernel, by decide +kernel⟩
theorem vi_MO_kind : Cond.instanceMethod yn_MO_kind ∈ jl_T := jl_T_of 592 (by decide +kernel) (by decide +kernel)
theorem vx_MO_kind : Cond.selects "FoldedStrandModel" yn_MO_kind yn_MO_kind ∈ jl_T := jl_T_sel 18 (by decide +kernel) (by decide +kernel)
theorem dc_MO_canPair_0 : decode bc_MO_canPair 0 = .ok (.iload_n 2, 1) := by decide +kernel
theorem dc_MO_canPair_1 : decode bc_MO_canPair 1 = .ok (.iload_n 1, 1) := by decide +kernel
theorem dc_MO_canPair_2 : decode bc_MO_canPair 2 = .ok (.isub, 1) := by decide +kernel
theorem dc_MO_canPair_3 : decode bc_MO_canPair 3 = .ok (.iconst 3, 1) := by decide +kernel
theorem dc_MO_canPair_4 : decode bc_MO_canPair 4 = .ok (.if_icmp .le 16, 3) := by decide +kernel
theorem dc_MO_canPair_7 : decode bc_MO_canPair 7 = .ok (.aload_n 0, 1) := by decide +kernel
theorem dc_MO_canPair_8 : decode bc_MO_canPair 8 = .ok (.iload_n 1, 1) := by decide +kernel
theorem dc_MO_canPair_9 : decode bc_MO_canPair 9 = .ok (.iload_n 2, 1) := by decide +kernel
theorem dc_MO_canPair_10 : decode bc_MO_canPair 10 = .ok (.invokevirtual 45, 3) := by decide +kernel
theorem dc_MO_canPair_13 : decode bc_MO_canPair 13 = .ok (.ifCond .lt 7, 3) := by decide +kernel
theorem dc_MO_canPair_16 : decode bc_MO_canPair 16 = .ok (.iconst 1, 1) := by decide +kernel
theorem dc_MO_canPair_17 : decode bc_MO_canPair 17 = .ok (.goto 4, 3) := by decide +kernel
theorem dc_MO_canPair_20 : decode bc_MO_canPair 20 = .ok (.iconst 0, 1) := by decide +kernel
theorem dc_MO_canPair_21 : decode bc_MO_canPair 21 = .ok (.ireturn, 1) := by decide +kernel
abbrev bc_MO_weak : ByteArray := prog_9_method_7_code
abbrev yn_MO_weak : MethodName := ⟨"FoldedStrandModel", "weak", "(III)I"⟩
theorem dc_MO_weak_0 : decode bc_MO_weak 0 = .ok (.aload_n 0, 1) := by decide +kernel
theorem dc_MO_weak_1 : decode bc_MO_weak 1 = .ok (.iload_n 1, 1) := by decide +kernel
theorem dc_MO_weak_2 : decode bc_MO_weak 2 = .ok (.iload_n 2, 1) := by decide +kernel
theorem dc_MO_weak_3 : decode bc_MO_weak 3 = .ok (.invokevirtual 45, 3) := by decide +kernel
theorem dc_MO_weak_6 : decode bc_MO_weak 6 = .ok (.iconst 1, 1) := by decide +kernel
theorem dc_MO_weak_7 : decode bc_MO_weak 7 = .ok (.if_icmp .le 7, 3) := by decide +kernel
theorem dc_MO_weak_10 : decode bc_MO_weak 10 = .ok (.iload_n 3, 1) := by decide +kernel
theorem dc_MO_weak_11 : decode bc_MO_weak 11 = .ok (.goto 4, 3) := by decide +kernel
theorem dc_MO_weak_14 : decode bc_MO_weak 14 = .ok (.iconst 0, 1) := by decide +kernel
theorem dc_MO_weak_15 : decode bc_MO_weak 15 = .ok (.ireturn, 1) := by decide +kernel
abbrev bc_MO_isLoopOfSix : ByteArray := prog_9_method_8_code
abbrev yn_MO_isLoopOfSix : MethodName := ⟨"FoldedStrandModel", "isLoopOfSix", "(II)Z"⟩
theorem dc_MO_isLoopOfSix_0 : decode bc_MO_isLoopOfSix 0 = .ok (.iload_n 2, 1) := by decide +kernel
theorem dc_MO_isLoopOfSix_1 : decode bc_MO_isLoopOfSix 1 = .ok (.iload_n 1, 1) := by decide +kernel
theorem dc_MO_isLoopOfSix_2 : decode bc_MO_isLoopOfSix 2 = .ok (.iconst 5, 1) := by decide +kernel
theorem dc_MO_isLoopOfSix_3 : decode bc_MO_isLoopOfSix 3 = .ok (.iadd, 1) := by decide +kernel
theorem dc_MO_isLoopOfSix_4 : decode bc_MO_isLoopOfSix 4 = .ok (.if_icmp .ne 81, 3) := by decide +kernel
theorem dc_MO_isLoopOfSix_7 : decode bc_MO_isLoopOfSix 7 = .ok (.aload_n 0, 1) := by decide +kernel
theorem dc_MO_isLoopOfSix_8 : decode bc_MO_isLoopOfSix 8 = .ok (.getfield 13, 3) := by decide +kernel
theorem dc_MO_isLoopOfSix_11 : decode bc_MO_isLoopOfSix 11 = .ok (.iload_n 1, 1) := by decide +kernel
theorem dc_MO_isLoopOfSix_12 : decode bc_MO_isLoopOfSix 12 = .ok (.iaload, 1) := by decide +kernel
theorem dc_MO_isLoopOfSix_13 : decode bc_MO_isLoopOfSix 13 = .ok (.bipush 67, 2) := by decide +kernel
theorem dc_MO_isLoopOfSix_15 : decode bc_MO_isLoopOfSix 15 = .ok (.if_icmp .ne 70, 3) := by decide +kernel
theorem dc_MO_isLoopOfSix_18 : decode bc_MO_isLoopOfSix 18 = .ok (.aload_n 0, 1) := by decide +kernel
theorem dc_MO_isLoopOfSix_19 : decode bc_MO_isLoopOfSix 19 = .ok (.getfield 13, 3) := by decide +kernel
theorem dc_MO_isLoopOfSix_22 : decode bc_MO_isLoopOfSix 22 = .ok (.iload_n 1, 1) := by decide +kernel
theorem dc_MO_isLoopOfSix_23 : decode bc_MO_isLoopOfSix 23 = .ok (.iconst 1, 1) := by decide +kernel
theorem dc_MO_isLoopOfSix_24 : decode bc_MO_isLoopOfSix 24 = .ok (.iadd, 1) := by decide +kernel
theorem dc_MO_isLoopOfSix_25 : decode bc_MO_isLoopOfSix 25 = .ok (.iaload, 1) := by decide +kernel
theorem dc_MO_isLoopOfSix_26 : decode bc_MO_isLoopOfSix 26 = .ok (.bipush 85, 2) := by decide +kernel
theorem dc_MO_isLoopOfSix_28 : decode bc_MO_isLoopOfSix 28 = .ok (.if_icmp .ne 57, 3) := by decide +kernel
theorem dc_MO_isLoopOfSix_31 : decode bc_MO_isLoopOfSix 31 = .ok (.aload_n 0, 1) := by decide +kernel
theorem dc_MO_isLoopOfSix_32 : decode bc_MO_isLoopOfSix 32 = .ok (.getfield 13, 3) := by decide +kernel
theorem dc_MO_isLoopOfSix_35 : decode bc_MO_isLoopOfSix 35 = .ok (.iload_n 1, 1) := by decide +kernel
theorem dc_MO_isLoopOfSix_36 : decode bc_MO_isLoopOfSix 36 = .ok (.iconst 2, 1) := by decide +kernel
theorem dc_MO_isLoopOfSix_37 : decode bc_MO_isLoopOfSix 37 = .ok (.iadd, 1) := by decide +kernel
theorem dc_MO_isLoopOfSix_38 : decode bc_MO_isLoopOfSix 38 = .ok (.iaload, 1) := by decide +kernel
theorem dc_MO_isLoopOfSix_39 : decode bc_MO_isLoopOfSix 39 = .ok (.bipush 85, 2) := by decide +kernel
theorem dc_MO_isLoopOfSix_41 : decode bc_MO_isLoopOfSix 41 = .ok (.if_icmp .ne 44, 3) := by decide +kernel
theorem dc_MO_isLoopOfSix_44 : decode bc_MO_isLoopOfSix 44 = .ok (.aload_n 0, 1) := by decide +kernel
theorem dc_MO_isLoopOfSix_45 : decode bc_MO_isLoopOfSix 45 = .ok (.getfield 13, 3) := by decide +kernel
theorem dc_MO_isLoopOfSix_48 : decode bc_MO_isLoopOfSix 48 = .ok (.iload_n 1, 1) := by decide +kernel
theorem dc_MO_isLoopOfSix_49 : decode bc_MO_isLoopOfSix 49 = .ok (.iconst 3, 1) := by decide +kernel
theorem dc_MO_isLoopOfSix_50 : decode bc_MO_isLoopOfSix 50 = .ok (.iadd, 1) := by decide +kernel
theorem dc_MO_isLoopOfSix_51 : decode bc_MO_isLoopOfSix 51 = .ok (.iaload, 1) := by decide +kernel
theorem dc_MO_isLoopOfSix_52 : decode bc_MO_isLoopOfSix 52 = .ok (.bipush 67, 2) := by decide +kernel
theorem dc_MO_isLoopOfSix_54 : decode bc_MO_isLoopOfSix 54 = .ok (.if_icmp .ne 31, 3) := by decide +kernel
theorem dc_MO_isLoopOfSix_57 : decode bc_MO_isLoopOfSix 57 = .ok (.aload_n 0, 1) := by decide +kernel
theorem dc_MO_isLoopOfSix_58 : decode bc_MO_isLoopOfSix 58 = .ok (.getfield 13, 3) := by decide +kernel
theorem dc_MO_isLoopOfSix_61 : decode bc_MO_isLoopOfSix 61 = .ok (.iload_n 1, 1) := by decide +kernel
theorem dc_MO_isLoopOfSix_62 : decode bc_MO_isLoopOfSix 62 = .ok (.iconst 4, 1) := by decide +kernel
theorem dc_MO_isLoopOfSix_63 : decode bc_MO_isLoopOfSix 63 = .ok (.iadd, 1) := by decide +kernel
theorem dc_MO_isLoopOfSix_64 : decode bc_MO_isLoopOfSix 64 = .ok (.iaload, 1) := by decide +kernel
theorem dc_MO_isLoopOfSix_65 : decode bc_MO_isLoopOfSix 65 = .ok (.bipush 71, 2) := by decide +kernel
theorem dc_MO_isLoopOfSix_67 : decode bc_MO_isLoopOfSix 67 = .ok (.if_icmp .ne 18, 3) := by decide +kernel
theorem dc_MO_isLoopOfSix_70 : decode bc_MO_isLoopOfSix 70 = .ok (.aload_n 0, 1) := by decide +kernel
theorem dc_MO_isLoopOfSix_71 : decode bc_MO_isLoopOfSix 71 = .ok (.getfield 13, 3) := by decide +kernel
theorem dc_MO_isLoopOfSix_74 : decode bc_MO_isLoopOfSix 74 = .ok (.iload_n 2, 1) := by decide +kernel
theorem dc_MO_isLoopOfSix_75 : decode bc_MO_isLoopOfSix 75 = .ok (.iaload, 1) := by decide +kernel
theorem dc_MO_isLoopOfSix_76 : decode bc_MO_isLoopOfSix 76 = .ok (.bipush 71, 2) := by decide +kernel
theorem dc_MO_isLoopOfSix_78 : decode bc_MO_isLoopOfSix 78 = .ok (.if_icmp .ne 7, 3) := by decide +kernel
theorem dc_MO_isLoopOfSix_81 : decode bc_MO_isLoopOfSix 81 = .ok (.iconst 1, 1) := by decide +kernel
theorem dc_MO_isLoopOfSix_82 : decode bc_MO_isLoopOfSix 82 = .ok (.goto 4, 3) := by decide +kernel
theorem dc_MO_isLoopOfSix_85 : decode bc_MO_isLoopOfSix 85 = .ok (.iconst 0, 1) := by decide +kernel
theorem dc_MO_isLoopOfSix_86 : decode bc_MO_isLoopOfSix 86 = .ok (.ireturn, 1) := by decide +kernel
abbrev bc_MO_closed : ByteArray := prog_9_method_9_code
abbrev yn_MO_closed : MethodName := ⟨"FoldedStrandModel", "closed", "(III)I"⟩
theorem vs_MO_49 : jl_v "FoldedStrandModel" 49 yn_MO_isLoopOfSix bc_MO_isLoopOfSix 3 (some .boolean) 2 := ⟨jl_T_of 601 (by decide +kernel) (by decide +kernel), jl_T_of 9 (by decide +kernel) (by decide +kernel), jl_T_of 598 (by decide +kernel) (by decide +kernel), by decide +kernel, by decide +kernel, by decide +kernel⟩
theorem vi_MO_isLoopOfSix : Cond.instanceMethod yn_MO_isLoopOfSix ∈ jl_T := jl_T_of 600 (by decide +kernel) (by decide +kernel)
theorem vx_MO_isLoopOfSix : Cond.selects "FoldedStrandModel" yn_MO_isLoopOfSix yn_MO_isLoopOfSix ∈ jl_T := jl_T_sel 20 (by decide +kernel) (by decide +kernel)
theorem vs_MO_53 : jl_v "FoldedStrandModel" 53 yn_MO_weak bc_MO_weak 4 (some .int) 3 := ⟨jl_T_of 589 (by decide +kernel) (by decide +kernel), jl_T_of 9 (by decide +kernel) (by decide +kernel), jl_T_of 586 (by decide +kernel) (by decide +kernel), by decide +kernel, by decide +kernel, by decide +kernel⟩
theorem vi_MO_weak : Cond.instanceMethod yn_MO_weak ∈ jl_T := jl_T_of 588 (by decide +kernel) (by decide +kernel)
theorem vx_MO_weak : Cond.selects "FoldedStrandModel" yn_MO_weak yn_MO_weak ∈ jl_T := jl_T_sel 17 (by decide +kernel) (by decide +kernel)
theorem dc_MO_closed_0 : decode bc_MO_closed 0 = .ok (.aload_n 0, 1) := by decide +kernel
theorem dc_MO_closed_1 : decode bc_MO_closed 1 = .ok (.iload_n 1, 1) := by decide +kernel
theorem dc_MO_closed_2 : decode bc_MO_closed 2 = .ok (.iload_n 2, 1) := by decide +kernel
theorem dc_MO_closed_3 : decode bc_MO_closed 3 = .ok (.invokevirtual 49, 3) := by decide +kernel
theorem dc_MO_closed_6 : decode bc_MO_closed 6 = .ok (.ifCond .eq 6, 3) := by decide +kernel
theorem dc_MO_closed_9 : decode bc_MO_closed 9 = .ok (.bipush 26, 2) := by decide +kernel
theorem dc_MO_closed_11 : decode bc_MO_closed 11 = .ok (.ireturn, 1) := by decide +kernel
theorem dc_MO_closed_12 : decode bc_MO_closed 12 = .ok (.iload_n 3, 1) := by decide +kernel
theorem dc_MO_closed_13 : decode bc_MO_closed 13 = .ok (.iconst 3, 1) := by decide +kernel
theorem dc_MO_closed_14 : decode bc_MO_closed 14 = .ok (.if_icmp .eq 9, 3) := by decide +kernel
theorem dc_MO_closed_17 : decode bc_MO_closed 17 = .ok (.iload_n 3, 1) := by decide +kernel
theorem dc_MO_closed_18 : decode bc_MO_closed 18 = .ok (.bipush 6, 2) := by decide +kernel
theorem dc_MO_closed_20 : decode bc_MO_closed 20 = .ok (.if_icmp .ne 8, 3) := by decide +kernel
theorem dc_MO_closed_23 : decode bc_MO_closed 23 = .ok (.bipush 54, 2) := by decide +kernel
theorem dc_MO_closed_25 : decode bc_MO_closed 25 = .ok (.goto 47, 3) := by decide +kernel
theorem dc_MO_closed_28 : decode bc_MO_closed 28 = .ok (.iload_n 3, 1) := by decide +kernel
theorem dc_MO_closed_29 : decode bc_MO_closed 29 = .ok (.iconst 4, 1) := by decide +kernel
theorem dc_MO_closed_30 : decode bc_MO_closed 30 = .ok (.if_icmp .ne 8, 3) := by decide +kernel
theorem dc_MO_closed_33 : decode bc_MO_closed 33 = .ok (.bipush 56, 2) := by decide +kernel
theorem dc_MO_closed_35 : decode bc_MO_closed 35 = .ok (.goto 37, 3) := by decide +kernel
theorem dc_MO_closed_38 : decode bc_MO_closed 38 = .ok (.iload_n 3, 1) := by decide +kernel
theorem dc_MO_closed_39 : decode bc_MO_closed 39 = .ok (.iconst 5, 1) := by decide +kernel
theorem dc_MO_closed_40 : decode bc_MO_closed 40 = .ok (.if_icmp .ne 8, 3) := by decide +kernel
theorem dc_MO_closed_43 : decode bc_MO_closed 43 = .ok (.bipush 57, 2) := by decide +kernel
theorem dc_MO_closed_45 : decode bc_MO_closed 45 = .ok (.goto 27, 3) := by decide +kernel
theorem dc_MO_closed_48 : decode bc_MO_closed 48 = .ok (.iload_n 3, 1) := by decide +kernel
theorem dc_MO_closed_49 : decode bc_MO_closed 49 = .ok (.bipush 7, 2) := by decide +kernel
theorem dc_MO_closed_51 : decode bc_MO_closed 51 = .ok (.if_icmp .ne 8, 3) := by decide +kernel
theorem dc_MO_closed_54 : decode bc_MO_closed 54 = .ok (.bipush 60, 2) := by decide +kernel
theorem dc_MO_closed_56 : decode bc_MO_closed 56 = .ok (.goto 16, 3) := by decide +kernel
theorem dc_MO_closed_59 : decode bc_MO_closed 59 = .ok (.iload_n 3, 1) := by decide +kernel
theorem dc_MO_closed_60 : decode bc_MO_closed 60 = .ok (.bipush 8, 2) := by decide +kernel
theorem dc_MO_closed_62 : decode bc_MO_closed 62 = .ok (.if_icmp .ne 8, 3) := by decide +kernel
theorem dc_MO_closed_65 : decode bc_MO_closed 65 = .ok (.bipush 55, 2) := by decide +kernel
theorem dc_MO_closed_67 : decode bc_MO_closed 67 = .ok (.goto 5, 3) := by decide +kernel
theorem dc_MO_closed_70 : decode bc_MO_closed 70 = .ok (.bipush 64, 2) := by decide +kernel
theorem dc_MO_closed_72 : decode bc_MO_closed 72 = .ok (.istore 4, 2) := by decide +kernel
theorem dc_MO_closed_74 : decode bc_MO_closed 74 = .ok (.iload 4, 2) := by decide +kernel
theorem dc_MO_closed_76 : decode bc_MO_closed 76 = .ok (.aload_n 0, 1) := by decide +kernel
theorem dc_MO_closed_77 : decode bc_MO_closed 77 = .ok (.iload_n 1, 1) := by decide +kernel
theorem dc_MO_closed_78 : decode bc_MO_closed 78 = .ok (.iload_n 2, 1) := by decide +kernel
theorem dc_MO_closed_79 : decode bc_MO_closed 79 = .ok (.iconst 5, 1) := by decide +kernel
theorem dc_MO_closed_80 : decode bc_MO_closed 80 = .ok (.invokevirtual 53, 3) := by decide +kernel
theorem dc_MO_closed_83 : decode bc_MO_closed 83 = .ok (.iadd, 1) := by decide +kernel
theorem dc_MO_closed_84 : decode bc_MO_closed 84 = .ok (.ireturn, 1) := by decide +kernel
abbrev bc_MO_within : ByteArray := prog_9_method_10_code
abbrev yn_MO_within : MethodName := ⟨"FoldedStrandModel", "within", "(IIII)I"⟩
theorem wl_MO_7 : Cond.fieldLink "FoldedStrandModel" 7 "FoldedStrandModel" "stacks" "[I" ∈ jl_T := jl_T_of 515 (by decide +kernel) (by decide +kernel)
theorem dc_MO_within_0 : decode bc_MO_within 0 = .ok (.iload_n 3, 1) := by decide +kernel
theorem dc_MO_within_1 : decode bc_MO_within 1 = .ok (.iload_n 1, 1) := by decide +kernel
theorem dc_MO_within_2 : decode bc_MO_within 2 = .ok (.isub, 1) := by decide +kernel
theorem dc_MO_within_3 : decode bc_MO_within 3 = .ok (.iconst 1, 1) := by decide +kernel
theorem dc_MO_within_4 : decode bc_MO_within 4 = .ok (.isub, 1) := by decide +kernel
theorem dc_MO_within_5 : decode bc_MO_within 5 = .ok (.istore 5, 2) := by decide +kernel
theorem dc_MO_within_7 : decode bc_MO_within 7 = .ok (.iload_n 2, 1) := by decide +kernel
theorem dc_MO_within_8 : decode bc_MO_within 8 = .ok (.iload 4, 2) := by decide +kernel
theorem dc_MO_within_10 : decode bc_MO_within 10 = .ok (.isub, 1) := by decide +kernel
theorem dc_MO_within_11 : decode bc_MO_within 11 = .ok (.iconst 1, 1) := by decide +kernel
theorem dc_MO_within_12 : decode bc_MO_within 12 = .ok (.isub, 1) := by decide +kernel
theorem dc_MO_within_13 : decode bc_MO_within 13 = .ok (.istore 6, 2) := by decide +kernel
theorem dc_MO_within_15 : decode bc_MO_within 15 = .ok (.aload_n 0, 1) := by decide +kernel
theorem dc_MO_within_16 : decode bc_MO_within 16 = .ok (.getfield 7, 3) := by decide +kernel
theorem dc_MO_within_19 : decode bc_MO_within 19 = .ok (.bipush 6, 2) := by decide +kernel
theorem dc_MO_within_21 : decode bc_MO_within 21 = .ok (.aload_n 0, 1) := by decide +kernel
theorem dc_MO_within_22 : decode bc_MO_within 22 = .ok (.iload_n 1, 1) := by decide +kernel
theorem dc_MO_within_23 : decode bc_MO_within 23 = .ok (.iload_n 2, 1) := by decide +kernel
theorem dc_MO_within_24 : decode bc_MO_within 24 = .ok (.invokevirtual 45, 3) := by decide +kernel
theorem dc_MO_within_27 : decode bc_MO_within 27 = .ok (.imul, 1) := by decide +kernel
theorem dc_MO_within_28 : decode bc_MO_within 28 = .ok (.aload_n 0, 1) := by decide +kernel
theorem dc_MO_within_29 : decode bc_MO_within 29 = .ok (.iload 4, 2) := by decide +kernel
theorem dc_MO_within_31 : decode bc_MO_within 31 = .ok (.iload_n 3, 1) := by decide +kernel
theorem dc_MO_within_32 : decode bc_MO_within 32 = .ok (.invokevirtual 45, 3) := by decide +kernel
theorem dc_MO_within_35 : decode bc_MO_within 35 = .ok (.iadd, 1) := by decide +kernel
theorem dc_MO_within_36 : decode bc_MO_within 36 = .ok (.iaload, 1) := by decide +kernel
theorem dc_MO_within_37 : decode bc_MO_within 37 = .ok (.istore 7, 2) := by decide +kernel
theorem dc_MO_within_39 : decode bc_MO_within 39 = .ok (.iload 5, 2) := by decide +kernel
theorem dc_MO_within_41 : decode bc_MO_within 41 = .ok (.ifCond .ne 11, 3) := by decide +kernel
theorem dc_MO_within_44 : decode bc_MO_within 44 = .ok (.iload 6, 2) := by decide +kernel
theorem dc_MO_within_46 : decode bc_MO_within 46 = .ok (.ifCond .ne 6, 3) := by decide +kernel
theorem dc_MO_within_49 : decode bc_MO_within 49 = .ok (.iload 7, 2) := by decide +kernel
theorem dc_MO_within_51 : decode bc_MO_within 51 = .ok (.ireturn, 1) := by decide +kernel
theorem dc_MO_within_52 : decode bc_MO_within 52 = .ok (.iload 5, 2) := by decide +kernel
theorem dc_MO_within_54 : decode bc_MO_within 54 = .ok (.ifCond .eq 8, 3) := by decide +kernel
theorem dc_MO_within_57 : decode bc_MO_within 57 = .ok (.iload 6, 2) := by decide +kernel
theorem dc_MO_within_59 : decode bc_MO_within 59 = .ok (.ifCond .ne 54, 3) := by decide +kernel
theorem dc_MO_within_62 : decode bc_MO_within 62 = .ok (.iload 5, 2) := by decide +kernel
theorem dc_MO_within_64 : decode bc_MO_within 64 = .ok (.iload 6, 2) := by decide +kernel
theorem dc_MO_within_66 : decode bc_MO_within 66 = .ok (.iadd, 1) := by decide +kernel
theorem dc_MO_within_67 : decode bc_MO_within 67 = .ok (.istore 8, 2) := by decide +kernel
theorem dc_MO_within_69 : decode bc_MO_within 69 = .ok (.iload 8, 2) := by decide +kernel
theorem dc_MO_within_71 : decode bc_MO_within 71 = .ok (.iconst 1, 1) := by decide +kernel
theorem dc_MO_within_72 : decode bc_MO_within 72 = .ok (.if_icmp .ne 11, 3) := by decide +kernel
theorem dc_MO_within_75 : decode bc_MO_within 75 = .ok (.bipush 38, 2) := by decide +kernel
theorem dc_MO_within_77 : decode bc_MO_within 77 = .ok (.iload 7, 2) := by decide +kernel
theorem dc_MO_within_79 : decode bc_MO_within 79 = .ok (.iadd, 1) := by decide +kernel
theorem dc_MO_within_80 : decode bc_MO_within 80 = .ok (.goto 32, 3) := by decide +kernel
theorem dc_MO_within_83 : decode bc_MO_within 83 = .ok (.iload 8, 2) := by decide +kernel
theorem dc_MO_within_85 : decode bc_MO_within 85 = .ok (.iconst 2, 1) := by decide +kernel
theorem dc_MO_within_86 : decode bc_MO_within 86 = .ok (.if_icmp .ne 8, 3) := by decide +kernel
theorem dc_MO_within_89 : decode bc_MO_within 89 = .ok (.bipush 28, 2) := by decide +kernel
theorem dc_MO_within_91 : decode bc_MO_within 91 = .ok (.goto 21, 3) := by decide +kernel
theorem dc_MO_within_94 : decode bc_MO_within 94 = .ok (.iload 8, 2) := by decide +kernel
theorem dc_MO_within_96 : decode bc_MO_within 96 = .ok (.iconst 3, 1) := by decide +kernel
theorem dc_MO_within_97 : decode bc_MO_within 97 = .ok (.if_icmp .ne 8, 3) := by decide +kernel
theorem dc_MO_within_100 : decode bc_MO_within 100 = .ok (.bipush 32, 2) := by decide +kernel
theorem dc_MO_within_102 : decode bc_MO_within 102 = .ok (.goto 10, 3) := by decide +kernel
theorem dc_MO_within_105 : decode bc_MO_within 105 = .ok (.bipush 20, 2) := by decide +kernel
theorem dc_MO_within_107 : decode bc_MO_within 107 = .ok (.iconst 4, 1) := by decide +kernel
theorem dc_MO_within_108 : decode bc_MO_within 108 = .ok (.iload 8, 2) := by decide +kernel
theorem dc_MO_within_110 : decode bc_MO_within 110 = .ok (.imul, 1) := by decide +kernel
theorem dc_MO_within_111 : decode bc_MO_within 111 = .ok (.iadd, 1) := by decide +kernel
theorem dc_MO_within_112 : decode bc_MO_within 112 = .ok (.ireturn, 1) := by decide +kernel
theorem dc_MO_within_113 : decode bc_MO_within 113 = .ok (.iload 5, 2) := by decide +kernel
theorem dc_MO_within_115 : decode bc_MO_within 115 = .ok (.iload 6, 2) := by decide +kernel
theorem dc_MO_within_117 : decode bc_MO_within 117 = .ok (.iadd, 1) := by decide +kernel
theorem dc_MO_within_118 : decode bc_MO_within 118 = .ok (.istore 8, 2) := by decide +kernel
theorem dc_MO_within_120 : decode bc_MO_within 120 = .ok (.iload 8, 2) := by decide +kernel
theorem dc_MO_within_122 : decode bc_MO_within 122 = .ok (.iconst 2, 1) := by decide +kernel
theorem dc_MO_within_123 : decode bc_MO_within 123 = .ok (.if_icmp .ne 7, 3) := by decide +kernel
theorem dc_MO_within_126 : decode bc_MO_within 126 = .ok (.iconst 5, 1) := by decide +kernel
theorem dc_MO_within_127 : decode bc_MO_within 127 = .ok (.goto 41, 3) := by decide +kernel
theorem dc_MO_within_130 : decode bc_MO_within 130 = .ok (.iload 8, 2) := by decide +kernel
theorem dc_MO_within_132 : decode bc_MO_within 132 = .ok (.iconst 3, 1) := by decide +kernel
theorem dc_MO_within_133 : decode bc_MO_within 133 = .ok (.if_icmp .ne 8, 3) := by decide +kernel
theorem dc_MO_within_136 : decode bc_MO_within 136 = .ok (.bipush 16, 2) := by decide +kernel
theorem dc_MO_within_138 : decode bc_MO_within 138 = .ok (.goto 30, 3) := by decide +kernel
theorem dc_MO_within_141 : decode bc_MO_within 141 = .ok (.iload 8, 2) := by decide +kernel
theorem dc_MO_within_143 : decode bc_MO_within 143 = .ok (.iconst 4, 1) := by decide +kernel
theorem dc_MO_within_144 : decode bc_MO_within 144 = .ok (.if_icmp .ne 8, 3) := by decide +kernel
theorem dc_MO_within_147 : decode bc_MO_within 147 = .ok (.bipush 11, 2) := by decide +kernel
theorem dc_MO_within_149 : decode bc_MO_within 149 = .ok (.goto 19, 3) := by decide +kernel
theorem dc_MO_within_152 : decode bc_MO_within 152 = .ok (.iload 8, 2) := by decide +kernel
theorem dc_MO_within_154 : decode bc_MO_within 154 = .ok (.iconst 5, 1) := by decide +kernel
theorem dc_MO_within_155 : decode bc_MO_within 155 = .ok (.if_icmp .ne 8, 3) := by decide +kernel
theorem dc_MO_within_158 : decode bc_MO_within 158 = .ok (.bipush 20, 2) := by decide +kernel
theorem dc_MO_within_160 : decode bc_MO_within 160 = .ok (.goto 8, 3) := by decide +kernel
theorem dc_MO_within_163 : decode bc_MO_within 163 = .ok (.bipush 15, 2) := by decide +kernel
theorem dc_MO_within_165 : decode bc_MO_within 165 = .ok (.iload 8, 2) := by decide +kernel
theorem dc_MO_within_167 : decode bc_MO_within 167 = .ok (.iadd, 1) := by decide +kernel
theorem dc_MO_within_168 : decode bc_MO_within 168 = .ok (.istore 9, 2) := by decide +kernel
theorem dc_MO_within_170 : decode bc_MO_within 170 = .ok (.bipush 6, 2) := by decide +kernel
theorem dc_MO_within_172 : decode bc_MO_within 172 = .ok (.iload 5, 2) := by decide +kernel
theorem dc_MO_within_174 : decode bc_MO_within 174 = .ok (.iload 6, 2) := by decide +kernel
theorem dc_MO_within_176 : decode bc_MO_within 176 = .ok (.if_icmp .le 11, 3) := by decide +kernel
theorem dc_MO_within_179 : decode bc_MO_within 179 = .ok (.iload 5, 2) := by decide +kernel
theorem dc_MO_within_181 : decode bc_MO_within 181 = .ok (.iload 6, 2) := by decide +kernel
theorem dc_MO_within_183 : decode bc_MO_within 183 = .ok (.isub, 1) := by decide +kernel
theorem dc_MO_within_184 : decode bc_MO_within 184 = .ok (.goto 8, 3) := by decide +kernel
theorem dc_MO_within_187 : decode bc_MO_within 187 = .ok (.iload 6, 2) := by decide +kernel
theorem dc_MO_within_189 : decode bc_MO_within 189 = .ok (.iload 5, 2) := by decide +kernel
theorem dc_MO_within_191 : decode bc_MO_within 191 = .ok (.isub, 1) := by decide +kernel
theorem dc_MO_within_192 : decode bc_MO_within 192 = .ok (.imul, 1) := by decide +kernel
theorem dc_MO_within_193 : decode bc_MO_within 193 = .ok (.istore 10, 2) := by decide +kernel
theorem dc_MO_within_195 : decode bc_MO_within 195 = .ok (.iload 9, 2) := by decide +kernel
theorem dc_MO_within_197 : decode bc_MO_within 197 = .ok (.iload 10, 2) := by decide +kernel
theorem dc_MO_within_199 : decode bc_MO_within 199 = .ok (.bipush 30, 2) := by decide +kernel
theorem dc_MO_within_201 : decode bc_MO_within 201 = .ok (.if_icmp .le 8, 3) := by decide +kernel
theorem dc_MO_within_204 : decode bc_MO_within 204 = .ok (.bipush 30, 2) := by decide +kernel
theorem dc_MO_within_206 : decode bc_MO_within 206 = .ok (.goto 5, 3) := by decide +kernel
theorem dc_MO_within_209 : decode bc_MO_within 209 = .ok (.iload 10, 2) := by decide +kernel
theorem dc_MO_within_211 : decode bc_MO_within 211 = .ok (.iadd, 1) := by decide +kernel
theorem dc_MO_within_212 : decode bc_MO_within 212 = .ok (.aload_n 0, 1) := by decide +kernel
theorem dc_MO_within_213 : decode bc_MO_within 213 = .ok (.iload_n 1, 1) := by decide +kernel
theorem dc_MO_within_214 : decode bc_MO_within 214 = .ok (.iload_n 2, 1) := by decide +kernel
theorem dc_MO_within_215 : decode bc_MO_within 215 = .ok (.bipush 7, 2) := by decide +kernel
theorem dc_MO_within_217 : decode bc_MO_within 217 = .ok (.invokevirtual 53, 3) := by decide +kernel
theorem dc_MO_within_220 : decode bc_MO_within 220 = .ok (.iadd, 1) := by decide +kernel
theorem dc_MO_within_221 : decode bc_MO_within 221 = .ok (.aload_n 0, 1) := by decide +kernel
theorem dc_MO_within_222 : decode bc_MO_within 222 = .ok (.iload_n 3, 1) := by decide +kernel
theorem dc_MO_within_223 : decode bc_MO_within 223 = .ok (.iload 4, 2) := by decide +kernel
theorem dc_MO_within_225 : decode bc_MO_within 225 = .ok (.bipush 7, 2) := by decide +kernel
theorem dc_MO_within_227 : decode bc_MO_within 227 = .ok (.invokevirtual 53, 3) := by decide +kernel
theorem dc_MO_within_230 : decode bc_MO_within 230 = .ok (.iadd, 1) := by decide +kernel
theorem dc_MO_within_231 : decode bc_MO_within 231 = .ok (.ireturn, 1) := by decide +kernel
section MO
variable (l : Launch) {K : Nat → ClassId} {sa : Nat → Nat} {ad : Nat → Nat} {I : Nat → Int32} {V : Nat → Nat → Int32} {L : Nat → Int64} {C : Nat → Int32} {G : Nat → Nat} {R : Nat → Nat} {n : Nat} {b : Nat → Nat}
theorem c_MO_kind (hO : mo_ok I V n b) {i j : Nat} (hi : i < n) (hj : j < n) : jl_C l K sa yn_MO_kind bc_MO_kind 5 (some .int) 0 0 168 ad [.ref (ad 160), .int (nI i), .int (nI j)] (gw K ad I V L C G R) (some (.int (iI (en_kd (b i) (b j))))) (gw K ad I V L C G R) := by
  refine jl_enter (by decide) (Nat.le_of_ble_eq_true rfl) (fun x h he hr => ?_)
  have hn := hO.2.2.1
  have h1 := hO.2.1 i hi
  have h2 := hO.2.1 j hj
  have hv := mo_kk (b i) (hO.2.2.2.1 i) (b j) (hO.2.2.2.1 j)
  generalize nm_s0.getD (b i) 0 = u at h1 hv
  generalize nm_s0.getD (b j) 0 = v at h2 hv
  show jl_J x 168 ad 0 0 (gw K ad I V L C G R) 0 [(0, .ref (ad 160)), (1, .int (nI i)), (2, .int (nI j))] []
  refine jl_aload_n (i := 0) h rfl rfl dc_MO_kind_0 1 rfl ?_
  refine jl_getf h nm_c_MO 2 wl_MO_13 (by omega) (by decide) (by exact rfl) (by rfl) dc_MO_kind_1 4 rfl ?_
  refine jl_iload_n (i := 1) h rfl rfl dc_MO_kind_4 5 rfl ?_
  refine jl_iald (v := u) h (i) (by exact rfl) (by omega) (by exact gw_row (len := 18) ⟨rfl, rfl⟩) (by exact by omega) (by first | decide | assumption) (by exact h1) dc_MO_kind_5 6 rfl ?_
  refine jl_istore_n (i := 3) (lc2 := [(3, _), (0, _), (1, _), (2, _)]) h rfl (by decide) rfl dc_MO_kind_6 7 rfl ?_
  refine jl_aload_n (i := 0) h rfl rfl dc_MO_kind_7 8 rfl ?_
  refine jl_getf h nm_c_MO 2 wl_MO_13 (by omega) (by decide) (by exact rfl) (by rfl) dc_MO_kind_8 11 rfl ?_
  refine jl_iload_n (i := 2) h rfl rfl dc_MO_kind_11 12 rfl ?_
  refine jl_iald (v := v) h (j) (by exact rfl) (by omega) (by exact gw_row (len := 18) ⟨rfl, rfl⟩) (by exact by omega) (by first | decide | assumption) (by exact h2) dc_MO_kind_12 13 rfl ?_
  refine jl_istore (i := 4) (lc2 := [(4, _), (3, _), (0, _), (1, _), (2, _)]) h (by decide) rfl dc_MO_kind_13 15 rfl ?_
  refine jl_iload_n (i := 3) h rfl rfl dc_MO_kind_15 16 rfl ?_
  refine jl_bipush (v := 67) h (by decide) dc_MO_kind_16 18 rfl ?_
  refine jl_icmp_ne h 34 (by decide) dc_MO_kind_18 21 rfl (fun c18 => ?_) (fun c18 => ?_)
  · skip
    refine jl_iload_n (i := 3) h rfl rfl dc_MO_kind_34 35 rfl ?_
    refine jl_bipush (v := 71) h (by decide) dc_MO_kind_35 37 rfl ?_
    refine jl_icmp_ne h 64 (by decide) dc_MO_kind_37 40 rfl (fun c37 => ?_) (fun c37 => ?_)
    · skip
      refine jl_iload_n (i := 3) h rfl rfl dc_MO_kind_64 65 rfl ?_
      refine jl_bipush (v := 85) h (by decide) dc_MO_kind_65 67 rfl ?_
      refine jl_icmp_ne h 94 (by decide) dc_MO_kind_67 70 rfl (fun c67 => ?_) (fun c67 => ?_)
      · skip
        refine jl_iload h rfl dc_MO_kind_94 96 rfl ?_
        refine jl_bipush (v := 85) h (by decide) dc_MO_kind_96 98 rfl ?_
        refine jl_icmp_ne h 105 (by decide) dc_MO_kind_98 101 rfl (fun c98 => ?_) (fun c98 => ?_)
        · skip
          refine jl_iconst (v := -1) h (by decide) dc_MO_kind_105 106 rfl ?_
          exact jl_zret h he rfl (by rw [← hv]; unfold mo_k; (repeat' split) <;> first | rfl | contradiction) (rfl) dc_MO_kind_106
        · skip
          refine jl_iconst (v := 4) h (by decide) dc_MO_kind_101 102 rfl ?_
          refine jl_goto h 106 (by decide) dc_MO_kind_102 ?_
          exact jl_zret h he rfl (by rw [← hv]; unfold mo_k; (repeat' split) <;> first | rfl | contradiction) (rfl) dc_MO_kind_106
      · skip
        refine jl_iload h rfl dc_MO_kind_70 72 rfl ?_
        refine jl_bipush (v := 71) h (by decide) dc_MO_kind_72 74 rfl ?_
        refine jl_icmp_ne h 81 (by decide) dc_MO_kind_74 77 rfl (fun c74 => ?_) (fun c74 => ?_)
        · skip
          refine jl_iload h rfl dc_MO_kind_81 83 rfl ?_
          refine jl_bipush (v := 65) h (by decide) dc_MO_kind_83 85 rfl ?_
          refine jl_icmp_ne h 92 (by decide) dc_MO_kind_85 88 rfl (fun c85 => ?_) (fun c85 => ?_)
          · skip
            refine jl_iconst (v := -1) h (by decide) dc_MO_kind_92 93 rfl ?_
            exact jl_zret h he rfl (by rw [← hv]; unfold mo_k; (repeat' split) <;> first | rfl | contradiction) (rfl) dc_MO_kind_93
          · skip
            refine jl_iconst (v := 5) h (by decide) dc_MO_kind_88 89 rfl ?_
            refine jl_goto h 93 (by decide) dc_MO_kind_89 ?_
            exact jl_zret h he rfl (by rw [← hv]; unfold mo_k; (repeat' split) <;> first | rfl | contradiction) (rfl) dc_MO_kind_93
        · skip
          refine jl_iconst (v := 3) h (by decide) dc_MO_kind_77 78 rfl ?_
          refine jl_goto h 93 (by decide) dc_MO_kind_78 ?_
          exact jl_zret h he rfl (by rw [← hv]; unfold mo_k; (repeat' split) <;> first | rfl | contradiction) (rfl) dc_MO_kind_93
    · skip
      refine jl_iload h rfl dc_MO_kind_40 42 rfl ?_
      refine jl_bipush (v := 67) h (by decide) dc_MO_kind_42 44 rfl ?_
      refine jl_icmp_ne h 51 (by decide) dc_MO_kind_44 47 rfl (fun c44 => ?_) (fun c44 => ?_)
      · skip
        refine jl_iload h rfl dc_MO_kind_51 53 rfl ?_
        refine jl_bipush (v := 85) h (by decide) dc_MO_kind_53 55 rfl ?_
        refine jl_icmp_ne h 62 (by decide) dc_MO_kind_55 58 rfl (fun c55 => ?_) (fun c55 => ?_)
        · skip
          refine jl_iconst (v := -1) h (by decide) dc_MO_kind_62 63 rfl ?_
          exact jl_zret h he rfl (by rw [← hv]; unfold mo_k; (repeat' split) <;> first | rfl | contradiction) (rfl) dc_MO_kind_63
        · skip
          refine jl_iconst (v := 2) h (by decide) dc_MO_kind_58 59 rfl ?_
          refine jl_goto h 63 (by decide) dc_MO_kind_59 ?_
          exact jl_zret h he rfl (by rw [← hv]; unfold mo_k; (repeat' split) <;> first | rfl | contradiction) (rfl) dc_MO_kind_63
      · skip
        refine jl_iconst (v := 1) h (by decide) dc_MO_kind_47 48 rfl ?_
        refine jl_goto h 63 (by decide) dc_MO_kind_48 ?_
        exact jl_zret h he rfl (by rw [← hv]; unfold mo_k; (repeat' split) <;> first | rfl | contradiction) (rfl) dc_MO_kind_63
  · skip
    refine jl_iload h rfl dc_MO_kind_21 23 rfl ?_
    refine jl_bipush (v := 71) h (by decide) dc_MO_kind_23 25 rfl ?_
    refine jl_icmp_ne h 32 (by decide) dc_MO_kind_25 28 rfl (fun c25 => ?_) (fun c25 => ?_)
    · skip
      refine jl_iconst (v := -1) h (by decide) dc_MO_kind_32 33 rfl ?_
      exact jl_zret h he rfl (by rw [← hv]; unfold mo_k; (repeat' split) <;> first | rfl | contradiction) (rfl) dc_MO_kind_33
    · skip
      refine jl_iconst (v := 0) h (by decide) dc_MO_kind_28 29 rfl ?_
      refine jl_goto h 33 (by decide) dc_MO_kind_29 ?_
      exact jl_zret h he rfl (by rw [← hv]; unfold mo_k; (repeat' split) <;> first | rfl | contradiction) (rfl) dc_MO_kind_33
theorem c_MO_canPair (hO : mo_ok I V n b) {i j : Nat} (hi : i < n) (hj : j < n) : jl_C l K sa yn_MO_canPair bc_MO_canPair 3 (some .boolean) 1 25 168 ad [.ref (ad 160), .int (nI i), .int (nI j)] (gw K ad I V L C G R) (some (.int (st_bI (en_cp b i j)))) (gw K ad I V L C G R) := by
  refine jl_enter (by decide) (Nat.le_of_ble_eq_true rfl) (fun x h he hr => ?_)
  have hn := hO.2.2.1
  have hk := en_kd_in (b i) (b j)
  have hsub : (nI j - nI i).toInt = (j : Int) - i := pk_sub_toInt (by omega) (by omega)
  have h3 : ((3 : Int32)).toInt = 3 := by decide
  have h0 : iI 0 = 0 := rfl
  show jl_J x 168 ad 0 0 (gw K ad I V L C G R) 0 [(0, .ref (ad 160)), (1, .int (nI i)), (2, .int (nI j))] []
  refine jl_iload_n (i := 2) h rfl rfl dc_MO_canPair_0 1 rfl ?_
  refine jl_iload_n (i := 1) h rfl rfl dc_MO_canPair_1 2 rfl ?_
  refine jl_isub h dc_MO_canPair_2 3 rfl ?_
  refine jl_iconst (v := 3) h (by decide) dc_MO_canPair_3 4 rfl ?_
  refine jl_icmp_le h 20 (by decide) dc_MO_canPair_4 7 rfl (fun c4 => ?_) (fun c4 => ?_)
  · skip
    rw [Int32.le_iff_toInt_le, hsub, h3] at c4
    refine jl_iconst (v := 0) h (by decide) dc_MO_canPair_20 21 rfl ?_
    exact jl_zret h he rfl (by unfold st_bI en_cp; simp; omega) (rfl) dc_MO_canPair_21
  · skip
    rw [Int32.le_iff_toInt_le, hsub, h3] at c4
    refine jl_aload_n (i := 0) h rfl rfl dc_MO_canPair_7 8 rfl ?_
    refine jl_iload_n (i := 1) h rfl rfl dc_MO_canPair_8 9 rfl ?_
    refine jl_iload_n (i := 2) h rfl rfl dc_MO_canPair_9 10 rfl ?_
    refine jl_callV (As := [_, _]) (rest := []) h hr vs_MO_45 vi_MO_kind vx_MO_kind (ci := 7) rfl (by omega) (by exact rfl) (fun l => c_MO_kind l hO hi hj) (by first | decide | omega) (by first | decide | omega) rfl rfl (Nat.le_of_ble_eq_true rfl) dc_MO_canPair_10 (res := [_]) rfl 13 rfl ?_
    refine jl_if_lt h 20 (by decide) dc_MO_canPair_13 16 rfl (fun c13 => ?_) (fun c13 => ?_)
    · skip
      rw [← h0, iI_lt (by omega) (by omega) (by omega) (by omega)] at c13
      refine jl_iconst (v := 0) h (by decide) dc_MO_canPair_20 21 rfl ?_
      exact jl_zret h he rfl (by unfold st_bI en_cp; simp; omega) (rfl) dc_MO_canPair_21
    · skip
      rw [← h0, iI_lt (by omega) (by omega) (by omega) (by omega)] at c13
      refine jl_iconst (v := 1) h (by decide) dc_MO_canPair_16 17 rfl ?_
      refine jl_goto h 21 (by decide) dc_MO_canPair_17 ?_
      exact jl_zret h he rfl (by unfold st_bI en_cp; simp; omega) (rfl) dc_MO_canPair_21
theorem c_MO_weak (hO : mo_ok I V n b) {i j : Nat} (hi : i < n) (hj : j < n) (m : Int) : jl_C l K sa yn_MO_weak bc_MO_weak 4 (some .int) 1 25 168 ad [.ref (ad 160), .int (nI i), .int (nI j), .int (iI m)] (gw K ad I V L C G R) (some (.int (iI (lp_wk b i j m)))) (gw K ad I V L C G R) := by
  refine jl_enter (by decide) (Nat.le_of_ble_eq_true rfl) (fun x h he hr => ?_)
  have hn := hO.2.2.1
  have hk := en_kd_in (b i) (b j)
  have h1 : iI 1 = 1 := rfl
  show jl_J x 168 ad 0 0 (gw K ad I V L C G R) 0 [(0, .ref (ad 160)), (1, .int (nI i)), (2, .int (nI j)), (3, .int (iI m))] []
  refine jl_aload_n (i := 0) h rfl rfl dc_MO_weak_0 1 rfl ?_
  refine jl_iload_n (i := 1) h rfl rfl dc_MO_weak_1 2 rfl ?_
  refine jl_iload_n (i := 2) h rfl rfl dc_MO_weak_2 3 rfl ?_
  refine jl_callV (As := [_, _]) (rest := []) h hr vs_MO_45 vi_MO_kind vx_MO_kind (ci := 7) rfl (by omega) (by exact rfl) (fun l => c_MO_kind l hO hi hj) (by first | decide | omega) (by first | decide | omega) rfl rfl (Nat.le_of_ble_eq_true rfl) dc_MO_weak_3 (res := [_]) rfl 6 rfl ?_
  refine jl_iconst (v := 1) h (by decide) dc_MO_weak_6 7 rfl ?_
  refine jl_icmp_le h 14 (by decide) dc_MO_weak_7 10 rfl (fun c7 => ?_) (fun c7 => ?_)
  · skip
    rw [← h1, iI_le (by omega) (by omega) (by omega) (by omega)] at c7
    refine jl_iconst (v := 0) h (by decide) dc_MO_weak_14 15 rfl ?_
    exact jl_zret h he rfl (by unfold lp_wk; first | rw [if_pos (by omega)] | (rw [if_neg (by omega)]; rfl)) (rfl) dc_MO_weak_15
  · skip
    rw [← h1, iI_le (by omega) (by omega) (by omega) (by omega)] at c7
    refine jl_iload_n (i := 3) h rfl rfl dc_MO_weak_10 11 rfl ?_
    refine jl_goto h 15 (by decide) dc_MO_weak_11 ?_
    exact jl_zret h he rfl (by unfold lp_wk; first | rw [if_pos (by omega)] | (rw [if_neg (by omega)]; rfl)) (rfl) dc_MO_weak_15
theorem c_MO_isLoopOfSix (hO : mo_ok I V n b) {i j : Nat} (hij : i < j) (hj : j < n) : jl_C l K sa yn_MO_isLoopOfSix bc_MO_isLoopOfSix 3 (some .boolean) 0 0 168 ad [.ref (ad 160), .int (nI i), .int (nI j)] (gw K ad I V L C G R) (some (.int (st_bI (en_six b i j)))) (gw K ad I V L C G R) := by
  refine jl_enter (by decide) (Nat.le_of_ble_eq_true rfl) (fun x h he hr => ?_)
  have hn := hO.2.2.1
  have hq := fun k hk => hO.2.1 k hk
  show jl_J x 168 ad 0 0 (gw K ad I V L C G R) 0 [(0, .ref (ad 160)), (1, .int (nI i)), (2, .int (nI j))] []
  refine jl_iload_n (i := 2) h rfl rfl dc_MO_isLoopOfSix_0 1 rfl ?_
  refine jl_iload_n (i := 1) h rfl rfl dc_MO_isLoopOfSix_1 2 rfl ?_
  refine jl_iconst (v := nI 5) h (by decide) dc_MO_isLoopOfSix_2 3 rfl ?_
  refine jl_iadd h dc_MO_isLoopOfSix_3 4 rfl ?_
  rw [show nI i + nI 5 = nI (i + 5) by exact nI_add i 5]
  refine jl_icmp_ne h 85 (by decide) dc_MO_isLoopOfSix_4 7 rfl (fun c4 => ?_) (fun c4 => ?_)
  · skip
    rw [nI_eq (by omega) (by omega)] at c4
    refine jl_iconst (v := 0) h (by decide) dc_MO_isLoopOfSix_85 86 rfl ?_
    exact jl_zret h he rfl (by first | (rw [mo_six_yes c4 ⟨c15, c28, c41, c54, c67, c78⟩]; rfl) | (rw [en_six_no (m := 5) (by decide) c78]; rfl) | (rw [en_six_no (m := 4) (by decide) c67]; rfl) | (rw [en_six_no (m := 3) (by decide) c54]; rfl) | (rw [en_six_no (m := 2) (by decide) c41]; rfl) | (rw [en_six_no (m := 1) (by decide) c28]; rfl) | (rw [en_six_no (m := 0) (by decide) c15]; rfl) | (rw [en_six_len c4]; rfl)) (rfl) dc_MO_isLoopOfSix_86
  · skip
    rw [nI_eq (by omega) (by omega)] at c4
    refine jl_aload_n (i := 0) h rfl rfl dc_MO_isLoopOfSix_7 8 rfl ?_
    refine jl_getf h nm_c_MO 2 wl_MO_13 (by omega) (by decide) (by exact rfl) (by rfl) dc_MO_isLoopOfSix_8 11 rfl ?_
    refine jl_iload_n (i := 1) h rfl rfl dc_MO_isLoopOfSix_11 12 rfl ?_
    refine jl_iald (v := nm_s0.getD (b i) 0) h (i) (by exact rfl) (by omega) (by exact gw_row (len := 18) ⟨rfl, rfl⟩) (by exact by omega) (by first | decide | assumption) (by exact hq i (by omega)) dc_MO_isLoopOfSix_12 13 rfl ?_
    refine jl_bipush (v := 67) h (by decide) dc_MO_isLoopOfSix_13 15 rfl ?_
    refine jl_icmp_ne h 85 (by decide) dc_MO_isLoopOfSix_15 18 rfl (fun c15 => ?_) (fun c15 => ?_)
    · skip
      refine jl_iconst (v := 0) h (by decide) dc_MO_isLoopOfSix_85 86 rfl ?_
      exact jl_zret h he rfl (by first | (rw [mo_six_yes c4 ⟨c15, c28, c41, c54, c67, c78⟩]; rfl) | (rw [en_six_no (m := 5) (by decide) c78]; rfl) | (rw [en_six_no (m := 4) (by decide) c67]; rfl) | (rw [en_six_no (m := 3) (by decide) c54]; rfl) | (rw [en_six_no (m := 2) (by decide) c41]; rfl) | (rw [en_six_no (m := 1) (by decide) c28]; rfl) | (rw [en_six_no (m := 0) (by decide) c15]; rfl) | (rw [en_six_len c4]; rfl)) (rfl) dc_MO_isLoopOfSix_86
    · skip
      refine jl_aload_n (i := 0) h rfl rfl dc_MO_isLoopOfSix_18 19 rfl ?_
      refine jl_getf h nm_c_MO 2 wl_MO_13 (by omega) (by decide) (by exact rfl) (by rfl) dc_MO_isLoopOfSix_19 22 rfl ?_
      refine jl_iload_n (i := 1) h rfl rfl dc_MO_isLoopOfSix_22 23 rfl ?_
      refine jl_iconst (v := nI 1) h (by decide) dc_MO_isLoopOfSix_23 24 rfl ?_
      refine jl_iadd h dc_MO_isLoopOfSix_24 25 rfl ?_
      rw [show nI i + nI 1 = nI (i + 1) by exact nI_add i 1]
      refine jl_iald (v := nm_s0.getD (b (i + 1)) 0) h (i + 1) (by exact rfl) (by omega) (by exact gw_row (len := 18) ⟨rfl, rfl⟩) (by exact by omega) (by first | decide | assumption) (by exact hq (i + 1) (by omega)) dc_MO_isLoopOfSix_25 26 rfl ?_
      refine jl_bipush (v := 85) h (by decide) dc_MO_isLoopOfSix_26 28 rfl ?_
      refine jl_icmp_ne h 85 (by decide) dc_MO_isLoopOfSix_28 31 rfl (fun c28 => ?_) (fun c28 => ?_)
      · skip
        refine jl_iconst (v := 0) h (by decide) dc_MO_isLoopOfSix_85 86 rfl ?_
        exact jl_zret h he rfl (by first | (rw [mo_six_yes c4 ⟨c15, c28, c41, c54, c67, c78⟩]; rfl) | (rw [en_six_no (m := 5) (by decide) c78]; rfl) | (rw [en_six_no (m := 4) (by decide) c67]; rfl) | (rw [en_six_no (m := 3) (by decide) c54]; rfl) | (rw [en_six_no (m := 2) (by decide) c41]; rfl) | (rw [en_six_no (m := 1) (by decide) c28]; rfl) | (rw [en_six_no (m := 0) (by decide) c15]; rfl) | (rw [en_six_len c4]; rfl)) (rfl) dc_MO_isLoopOfSix_86
      · skip
        refine jl_aload_n (i := 0) h rfl rfl dc_MO_isLoopOfSix_31 32 rfl ?_
        refine jl_getf h nm_c_MO 2 wl_MO_13 (by omega) (by decide) (by exact rfl) (by rfl) dc_MO_isLoopOfSix_32 35 rfl ?_
        refine jl_iload_n (i := 1) h rfl rfl dc_MO_isLoopOfSix_35 36 rfl ?_
        refine jl_iconst (v := nI 2) h (by decide) dc_MO_isLoopOfSix_36 37 rfl ?_
        refine jl_iadd h dc_MO_isLoopOfSix_37 38 rfl ?_
        rw [show nI i + nI 2 = nI (i + 2) by exact nI_add i 2]
        refine jl_iald (v := nm_s0.getD (b (i + 2)) 0) h (i + 2) (by exact rfl) (by omega) (by exact gw_row (len := 18) ⟨rfl, rfl⟩) (by exact by omega) (by first | decide | assumption) (by exact hq (i + 2) (by omega)) dc_MO_isLoopOfSix_38 39 rfl ?_
        refine jl_bipush (v := 85) h (by decide) dc_MO_isLoopOfSix_39 41 rfl ?_
        refine jl_icmp_ne h 85 (by decide) dc_MO_isLoopOfSix_41 44 rfl (fun c41 => ?_) (fun c41 => ?_)
        · skip
          refine jl_iconst (v := 0) h (by decide) dc_MO_isLoopOfSix_85 86 rfl ?_
          exact jl_zret h he rfl (by first | (rw [mo_six_yes c4 ⟨c15, c28, c41, c54, c67, c78⟩]; rfl) | (rw [en_six_no (m := 5) (by decide) c78]; rfl) | (rw [en_six_no (m := 4) (by decide) c67]; rfl) | (rw [en_six_no (m := 3) (by decide) c54]; rfl) | (rw [en_six_no (m := 2) (by decide) c41]; rfl) | (rw [en_six_no (m := 1) (by decide) c28]; rfl) | (rw [en_six_no (m := 0) (by decide) c15]; rfl) | (rw [en_six_len c4]; rfl)) (rfl) dc_MO_isLoopOfSix_86
        · skip
          refine jl_aload_n (i := 0) h rfl rfl dc_MO_isLoopOfSix_44 45 rfl ?_
          refine jl_getf h nm_c_MO 2 wl_MO_13 (by omega) (by decide) (by exact rfl) (by rfl) dc_MO_isLoopOfSix_45 48 rfl ?_
          refine jl_iload_n (i := 1) h rfl rfl dc_MO_isLoopOfSix_48 49 rfl ?_
          refine jl_iconst (v := nI 3) h (by decide) dc_MO_isLoopOfSix_49 50 rfl ?_
          refine jl_iadd h dc_MO_isLoopOfSix_50 51 rfl ?_
          rw [show nI i + nI 3 = nI (i + 3) by exact nI_add i 3]
          refine jl_iald (v := nm_s0.getD (b (i + 3)) 0) h (i + 3) (by exact rfl) (by omega) (by exact gw_row (len := 18) ⟨rfl, rfl⟩) (by exact by omega) (by first | decide | assumption) (by exact hq (i + 3) (by omega)) dc_MO_isLoopOfSix_51 52 rfl ?_
          refine jl_bipush (v := 67) h (by decide) dc_MO_isLoopOfSix_52 54 rfl ?_
          refine jl_icmp_ne h 85 (by decide) dc_MO_isLoopOfSix_54 57 rfl (fun c54 => ?_) (fun c54 => ?_)
          · skip
            refine jl_iconst (v := 0) h (by decide) dc_MO_isLoopOfSix_85 86 rfl ?_
            exact jl_zret h he rfl (by first | (rw [mo_six_yes c4 ⟨c15, c28, c41, c54, c67, c78⟩]; rfl) | (rw [en_six_no (m := 5) (by decide) c78]; rfl) | (rw [en_six_no (m := 4) (by decide) c67]; rfl) | (rw [en_six_no (m := 3) (by decide) c54]; rfl) | (rw [en_six_no (m := 2) (by decide) c41]; rfl) | (rw [en_six_no (m := 1) (by decide) c28]; rfl) | (rw [en_six_no (m := 0) (by decide) c15]; rfl) | (rw [en_six_len c4]; rfl)) (rfl) dc_MO_isLoopOfSix_86
          · skip
            refine jl_aload_n (i := 0) h rfl rfl dc_MO_isLoopOfSix_57 58 rfl ?_
            refine jl_getf h nm_c_MO 2 wl_MO_13 (by omega) (by decide) (by exact rfl) (by rfl) dc_MO_isLoopOfSix_58 61 rfl ?_
            refine jl_iload_n (i := 1) h rfl rfl dc_MO_isLoopOfSix_61 62 rfl ?_
            refine jl_iconst (v := nI 4) h (by decide) dc_MO_isLoopOfSix_62 63 rfl ?_
            refine jl_iadd h dc_MO_isLoopOfSix_63 64 rfl ?_
            rw [show nI i + nI 4 = nI (i + 4) by exact nI_add i 4]
            refine jl_iald (v := nm_s0.getD (b (i + 4)) 0) h (i + 4) (by exact rfl) (by omega) (by exact gw_row (len := 18) ⟨rfl, rfl⟩) (by exact by omega) (by first | decide | assumption) (by exact hq (i + 4) (by omega)) dc_MO_isLoopOfSix_64 65 rfl ?_
            refine jl_bipush (v := 71) h (by decide) dc_MO_isLoopOfSix_65 67 rfl ?_
            refine jl_icmp_ne h 85 (by decide) dc_MO_isLoopOfSix_67 70 rfl (fun c67 => ?_) (fun c67 => ?_)
            · skip
              refine jl_iconst (v := 0) h (by decide) dc_MO_isLoopOfSix_85 86 rfl ?_
              exact jl_zret h he rfl (by first | (rw [mo_six_yes c4 ⟨c15, c28, c41, c54, c67, c78⟩]; rfl) | (rw [en_six_no (m := 5) (by decide) c78]; rfl) | (rw [en_six_no (m := 4) (by decide) c67]; rfl) | (rw [en_six_no (m := 3) (by decide) c54]; rfl) | (rw [en_six_no (m := 2) (by decide) c41]; rfl) | (rw [en_six_no (m := 1) (by decide) c28]; rfl) | (rw [en_six_no (m := 0) (by decide) c15]; rfl) | (rw [en_six_len c4]; rfl)) (rfl) dc_MO_isLoopOfSix_86
            · skip
              refine jl_aload_n (i := 0) h rfl rfl dc_MO_isLoopOfSix_70 71 rfl ?_
              refine jl_getf h nm_c_MO 2 wl_MO_13 (by omega) (by decide) (by exact rfl) (by rfl) dc_MO_isLoopOfSix_71 74 rfl ?_
              refine jl_iload_n (i := 2) h rfl rfl dc_MO_isLoopOfSix_74 75 rfl ?_
              refine jl_iald (v := nm_s0.getD (b (i + 5)) 0) h (j) (by exact rfl) (by omega) (by exact gw_row (len := 18) ⟨rfl, rfl⟩) (by exact by omega) (by first | decide | assumption) (by exact by rw [← c4]; exact hq j hj) dc_MO_isLoopOfSix_75 76 rfl ?_
              refine jl_bipush (v := 71) h (by decide) dc_MO_isLoopOfSix_76 78 rfl ?_
              refine jl_icmp_ne h 85 (by decide) dc_MO_isLoopOfSix_78 81 rfl (fun c78 => ?_) (fun c78 => ?_)
              · skip
                refine jl_iconst (v := 0) h (by decide) dc_MO_isLoopOfSix_85 86 rfl ?_
                exact jl_zret h he rfl (by first | (rw [mo_six_yes c4 ⟨c15, c28, c41, c54, c67, c78⟩]; rfl) | (rw [en_six_no (m := 5) (by decide) c78]; rfl) | (rw [en_six_no (m := 4) (by decide) c67]; rfl) | (rw [en_six_no (m := 3) (by decide) c54]; rfl) | (rw [en_six_no (m := 2) (by decide) c41]; rfl) | (rw [en_six_no (m := 1) (by decide) c28]; rfl) | (rw [en_six_no (m := 0) (by decide) c15]; rfl) | (rw [en_six_len c4]; rfl)) (rfl) dc_MO_isLoopOfSix_86
              · skip
                refine jl_iconst (v := 1) h (by decide) dc_MO_isLoopOfSix_81 82 rfl ?_
                refine jl_goto h 86 (by decide) dc_MO_isLoopOfSix_82 ?_
                exact jl_zret h he rfl (by first | (rw [mo_six_yes c4 ⟨c15, c28, c41, c54, c67, c78⟩]; rfl) | (rw [en_six_no (m := 5) (by decide) c78]; rfl) | (rw [en_six_no (m := 4) (by decide) c67]; rfl) | (rw [en_six_no (m := 3) (by decide) c54]; rfl) | (rw [en_six_no (m := 2) (by decide) c41]; rfl) | (rw [en_six_no (m := 1) (by decide) c28]; rfl) | (rw [en_six_no (m := 0) (by decide) c15]; rfl) | (rw [en_six_len c4]; rfl)) (rfl) dc_MO_isLoopOfSix_86
theorem c_MO_closed (hO : mo_ok I V n b) {i j : Nat} (hij : i + 4 ≤ j) (hj : j < n) : jl_C l K sa yn_MO_closed bc_MO_closed 5 (some .int) 2 60 168 ad [.ref (ad 160), .int (nI i), .int (nI j), .int (nI (j - i - 1))] (gw K ad I V L C G R) (some (.int (iI (lp_hp b i j)))) (gw K ad I V L C G R) := by
  refine jl_enter (by decide) (Nat.le_of_ble_eq_true rfl) (fun x h he hr => ?_)
  have hn := hO.2.2.1
  show jl_J x 168 ad 0 0 (gw K ad I V L C G R) 0 [(0, .ref (ad 160)), (1, .int (nI i)), (2, .int (nI j)), (3, .int (nI (j - i - 1)))] []
  obtain ⟨u, hu⟩ : ∃ u, u = j - i - 1 := ⟨_, rfl⟩
  rw [← hu]
  cases hs : en_six b i j with
  | true =>
    refine jl_aload_n (i := 0) h rfl rfl dc_MO_closed_0 1 rfl ?_
    refine jl_iload_n (i := 1) h rfl rfl dc_MO_closed_1 2 rfl ?_
    refine jl_iload_n (i := 2) h rfl rfl dc_MO_closed_2 3 rfl ?_
    refine jl_callV (As := [_, _]) (rest := []) h hr vs_MO_49 vi_MO_isLoopOfSix vx_MO_isLoopOfSix (ci := 7) rfl (by omega) (by exact rfl) (fun l => c_MO_isLoopOfSix l hO (by omega) hj) (by first | decide | omega) (by first | decide | omega) rfl rfl (Nat.le_of_ble_eq_true rfl) dc_MO_closed_3 (res := [_]) rfl 6 rfl ?_
    rw [hs]
    refine jl_if_eq h 12 (by decide) dc_MO_closed_6 9 rfl (fun c6 => absurd c6 (by decide)) (fun c6 => ?_)
    refine jl_bipush (v := 26) h (by decide) dc_MO_closed_9 11 rfl ?_
    exact jl_zret h he rfl (by unfold lp_hp; rw [if_pos hs]; rfl) (rfl) dc_MO_closed_11
  | false =>
    have hval : lp_hp b i j = lp_hpT.getD (u - 3) 64 + lp_wk b i j 5 := by
      unfold lp_hp
      rw [hs, show j - i - 4 = u - 3 by omega]
      rfl
    refine jl_aload_n (i := 0) h rfl rfl dc_MO_closed_0 1 rfl ?_
    refine jl_iload_n (i := 1) h rfl rfl dc_MO_closed_1 2 rfl ?_
    refine jl_iload_n (i := 2) h rfl rfl dc_MO_closed_2 3 rfl ?_
    refine jl_callV (As := [_, _]) (rest := []) h hr vs_MO_49 vi_MO_isLoopOfSix vx_MO_isLoopOfSix (ci := 7) rfl (by omega) (by exact rfl) (fun l => c_MO_isLoopOfSix l hO (by omega) hj) (by first | decide | omega) (by first | decide | omega) rfl rfl (Nat.le_of_ble_eq_true rfl) dc_MO_closed_3 (res := [_]) rfl 6 rfl ?_
    rw [hs]
    refine jl_if_eq h 12 (by decide) dc_MO_closed_6 9 rfl (fun c6 => ?_) (fun c6 => absurd (rfl) c6)
    refine jl_iload_n (i := 3) h rfl rfl dc_MO_closed_12 13 rfl ?_
    refine jl_iconst (v := nI 3) h (by decide) dc_MO_closed_13 14 rfl ?_
    refine jl_icmp_eq h 23 (by decide) dc_MO_closed_14 17 rfl (fun c14 => ?_) (fun c14 => ?_)
    · skip
      rw [nI_eq (by omega) (by decide)] at c14
      refine jl_bipush (v := 54) h (by decide) dc_MO_closed_23 25 rfl ?_
      refine jl_goto h 72 (by decide) dc_MO_closed_25 ?_
      refine jl_istore (i := 4) (lc2 := [(4, _), (0, _), (1, _), (2, _), (3, _)]) h (by decide) rfl dc_MO_closed_72 74 rfl ?_
      refine jl_iload h rfl dc_MO_closed_74 76 rfl ?_
      refine jl_aload_n (i := 0) h rfl rfl dc_MO_closed_76 77 rfl ?_
      refine jl_iload_n (i := 1) h rfl rfl dc_MO_closed_77 78 rfl ?_
      refine jl_iload_n (i := 2) h rfl rfl dc_MO_closed_78 79 rfl ?_
      refine jl_iconst (v := iI 5) h (by decide) dc_MO_closed_79 80 rfl ?_
      refine jl_callV (As := [_, _, _]) (rest := [_]) h hr vs_MO_53 vi_MO_weak vx_MO_weak (ci := 7) rfl (by omega) (by exact rfl) (fun l => c_MO_weak l hO (by omega) hj 5) (by first | decide | omega) (by first | decide | omega) rfl rfl (Nat.le_of_ble_eq_true rfl) dc_MO_closed_80 (res := [_, _]) rfl 83 rfl ?_
      refine jl_iadd h dc_MO_closed_83 84 rfl ?_
      exact jl_zret h he rfl (by rw [hval, ← iI_add, mo_hpc u (by omega)]; congr 3; unfold mo_hc; (repeat' split) <;> first | rfl | omega) (rfl) dc_MO_closed_84
    · skip
      rw [nI_eq (by omega) (by decide)] at c14
      refine jl_iload_n (i := 3) h rfl rfl dc_MO_closed_17 18 rfl ?_
      refine jl_bipush (v := nI 6) h (by decide) dc_MO_closed_18 20 rfl ?_
      refine jl_icmp_ne h 28 (by decide) dc_MO_closed_20 23 rfl (fun c20 => ?_) (fun c20 => ?_)
      · skip
        rw [nI_eq (by omega) (by decide)] at c20
        refine jl_iload_n (i := 3) h rfl rfl dc_MO_closed_28 29 rfl ?_
        refine jl_iconst (v := nI 4) h (by decide) dc_MO_closed_29 30 rfl ?_
        refine jl_icmp_ne h 38 (by decide) dc_MO_closed_30 33 rfl (fun c30 => ?_) (fun c30 => ?_)
        · skip
          rw [nI_eq (by omega) (by decide)] at c30
          refine jl_iload_n (i := 3) h rfl rfl dc_MO_closed_38 39 rfl ?_
          refine jl_iconst (v := nI 5) h (by decide) dc_MO_closed_39 40 rfl ?_
          refine jl_icmp_ne h 48 (by decide) dc_MO_closed_40 43 rfl (fun c40 => ?_) (fun c40 => ?_)
          · skip
            rw [nI_eq (by omega) (by decide)] at c40
            refine jl_iload_n (i := 3) h rfl rfl dc_MO_closed_48 49 rfl ?_
            refine jl_bipush (v := nI 7) h (by decide) dc_MO_closed_49 51 rfl ?_
            refine jl_icmp_ne h 59 (by decide) dc_MO_closed_51 54 rfl (fun c51 => ?_) (fun c51 => ?_)
            · skip
              rw [nI_eq (by omega) (by decide)] at c51
              refine jl_iload_n (i := 3) h rfl rfl dc_MO_closed_59 60 rfl ?_
              refine jl_bipush (v := nI 8) h (by decide) dc_MO_closed_60 62 rfl ?_
              refine jl_icmp_ne h 70 (by decide) dc_MO_closed_62 65 rfl (fun c62 => ?_) (fun c62 => ?_)
              · skip
                rw [nI_eq (by omega) (by decide)] at c62
                refine jl_bipush (v := 64) h (by decide) dc_MO_closed_70 72 rfl ?_
                refine jl_istore (i := 4) (lc2 := [(4, _), (0, _), (1, _), (2, _), (3, _)]) h (by decide) rfl dc_MO_closed_72 74 rfl ?_
                refine jl_iload h rfl dc_MO_closed_74 76 rfl ?_
                refine jl_aload_n (i := 0) h rfl rfl dc_MO_closed_76 77 rfl ?_
                refine jl_iload_n (i := 1) h rfl rfl dc_MO_closed_77 78 rfl ?_
                refine jl_iload_n (i := 2) h rfl rfl dc_MO_closed_78 79 rfl ?_
                refine jl_iconst (v := iI 5) h (by decide) dc_MO_closed_79 80 rfl ?_
                refine jl_callV (As := [_, _, _]) (rest := [_]) h hr vs_MO_53 vi_MO_weak vx_MO_weak (ci := 7) rfl (by omega) (by exact rfl) (fun l => c_MO_weak l hO (by omega) hj 5) (by first | decide | omega) (by first | decide | omega) rfl rfl (Nat.le_of_ble_eq_true rfl) dc_MO_closed_80 (res := [_, _]) rfl 83 rfl ?_
                refine jl_iadd h dc_MO_closed_83 84 rfl ?_
                exact jl_zret h he rfl (by rw [hval, ← iI_add, mo_hpc u (by omega)]; congr 3; unfold mo_hc; (repeat' split) <;> first | rfl | omega) (rfl) dc_MO_closed_84
              · skip
                rw [nI_eq (by omega) (by decide)] at c62
                refine jl_bipush (v := 55) h (by decide) dc_MO_closed_65 67 rfl ?_
                refine jl_goto h 72 (by decide) dc_MO_closed_67 ?_
                refine jl_istore (i := 4) (lc2 := [(4, _), (0, _), (1, _), (2, _), (3, _)]) h (by decide) rfl dc_MO_closed_72 74 rfl ?_
                refine jl_iload h rfl dc_MO_closed_74 76 rfl ?_
                refine jl_aload_n (i := 0) h rfl rfl dc_MO_closed_76 77 rfl ?_
                refine jl_iload_n (i := 1) h rfl rfl dc_MO_closed_77 78 rfl ?_
                refine jl_iload_n (i := 2) h rfl rfl dc_MO_closed_78 79 rfl ?_
                refine jl_iconst (v := iI 5) h (by decide) dc_MO_closed_79 80 rfl ?_
                refine jl_callV (As := [_, _, _]) (rest := [_]) h hr vs_MO_53 vi_MO_weak vx_MO_weak (ci := 7) rfl (by omega) (by exact rfl) (fun l => c_MO_weak l hO (by omega) hj 5) (by first | decide | omega) (by first | decide | omega) rfl rfl (Nat.le_of_ble_eq_true rfl) dc_MO_closed_80 (res := [_, _]) rfl 83 rfl ?_
                refine jl_iadd h dc_MO_closed_83 84 rfl ?_
                exact jl_zret h he rfl (by rw [hval, ← iI_add, mo_hpc u (by omega)]; congr 3; unfold mo_hc; (repeat' split) <;> first | rfl | omega) (rfl) dc_MO_closed_84
            · skip
              rw [nI_eq (by omega) (by decide)] at c51
              refine jl_bipush (v := 60) h (by decide) dc_MO_closed_54 56 rfl ?_
              refine jl_goto h 72 (by decide) dc_MO_closed_56 ?_
              refine jl_istore (i := 4) (lc2 := [(4, _), (0, _), (1, _), (2, _), (3, _)]) h (by decide) rfl dc_MO_closed_72 74 rfl ?_
              refine jl_iload h rfl dc_MO_closed_74 76 rfl ?_
              refine jl_aload_n (i := 0) h rfl rfl dc_MO_closed_76 77 rfl ?_
              refine jl_iload_n (i := 1) h rfl rfl dc_MO_closed_77 78 rfl ?_
              refine jl_iload_n (i := 2) h rfl rfl dc_MO_closed_78 79 rfl ?_
              refine jl_iconst (v := iI 5) h (by decide) dc_MO_closed_79 80 rfl ?_
              refine jl_callV (As := [_, _, _]) (rest := [_]) h hr vs_MO_53 vi_MO_weak vx_MO_weak (ci := 7) rfl (by omega) (by exact rfl) (fun l => c_MO_weak l hO (by omega) hj 5) (by first | decide | omega) (by first | decide | omega) rfl rfl (Nat.le_of_ble_eq_true rfl) dc_MO_closed_80 (res := [_, _]) rfl 83 rfl ?_
              refine jl_iadd h dc_MO_closed_83 84 rfl ?_
              exact jl_zret h he rfl (by rw [hval, ← iI_add, mo_hpc u (by omega)]; congr 3; unfold mo_hc; (repeat' split) <;> first | rfl | omega) (rfl) dc_MO_closed_84
          · skip
            rw [nI_eq (by omega) (by decide)] at c40
            refine jl_bipush (v := 57) h (by decide) dc_MO_closed_43 45 rfl ?_
            refine jl_goto h 72 (by decide) dc_MO_closed_45 ?_
            refine jl_istore (i := 4) (lc2 := [(4, _), (0, _), (1, _), (2, _), (3, _)]) h (by decide) rfl dc_MO_closed_72 74 rfl ?_
            refine jl_iload h rfl dc_MO_closed_74 76 rfl ?_
            refine jl_aload_n (i := 0) h rfl rfl dc_MO_closed_76 77 rfl ?_
            refine jl_iload_n (i := 1) h rfl rfl dc_MO_closed_77 78 rfl ?_
            refine jl_iload_n (i := 2) h rfl rfl dc_MO_closed_78 79 rfl ?_
            refine jl_iconst (v := iI 5) h (by decide) dc_MO_closed_79 80 rfl ?_
            refine jl_callV (As := [_, _, _]) (rest := [_]) h hr vs_MO_53 vi_MO_weak vx_MO_weak (ci := 7) rfl (by omega) (by exact rfl) (fun l => c_MO_weak l hO (by omega) hj 5) (by first | decide | omega) (by first | decide | omega) rfl rfl (Nat.le_of_ble_eq_true rfl) dc_MO_closed_80 (res := [_, _]) rfl 83 rfl ?_
            refine jl_iadd h dc_MO_closed_83 84 rfl ?_
            exact jl_zret h he rfl (by rw [hval, ← iI_add, mo_hpc u (by omega)]; congr 3; unfold mo_hc; (repeat' split) <;> first | rfl | omega) (rfl) dc_MO_closed_84
        · skip
          rw [nI_eq (by omega) (by decide)] at c30
          refine jl_bipush (v := 56) h (by decide) dc_MO_closed_33 35 rfl ?_
          refine jl_goto h 72 (by decide) dc_MO_closed_35 ?_
          refine jl_istore (i := 4) (lc2 := [(4, _), (0, _), (1, _), (2, _), (3, _)]) h (by decide) rfl dc_MO_closed_72 74 rfl ?_
          refine jl_iload h rfl dc_MO_closed_74 76 rfl ?_
          refine jl_aload_n (i := 0) h rfl rfl dc_MO_closed_76 77 rfl ?_
          refine jl_iload_n (i := 1) h rfl rfl dc_MO_closed_77 78 rfl ?_
          refine jl_iload_n (i := 2) h rfl rfl dc_MO_closed_78 79 rfl ?_
          refine jl_iconst (v := iI 5) h (by decide) dc_MO_closed_79 80 rfl ?_
          refine jl_callV (As := [_, _, _]) (rest := [_]) h hr vs_MO_53 vi_MO_weak vx_MO_weak (ci := 7) rfl (by omega) (by exact rfl) (fun l => c_MO_weak l hO (by omega) hj 5) (by first | decide | omega) (by first | decide | omega) rfl rfl (Nat.le_of_ble_eq_true rfl) dc_MO_closed_80 (res := [_, _]) rfl 83 rfl ?_
          refine jl_iadd h dc_MO_closed_83 84 rfl ?_
          exact jl_zret h he rfl (by rw [hval, ← iI_add, mo_hpc u (by omega)]; congr 3; unfold mo_hc; (repeat' split) <;> first | rfl | omega) (rfl) dc_MO_closed_84
      · skip
        rw [nI_eq (by omega) (by decide)] at c20
        refine jl_bipush (v := 54) h (by decide) dc_MO_closed_23 25 rfl ?_
        refine jl_goto h 72 (by decide) dc_MO_closed_25 ?_
        refine jl_istore (i := 4) (lc2 := [(4, _), (0, _), (1, _), (2, _), (3, _)]) h (by decide) rfl dc_MO_closed_72 74 rfl ?_
        refine jl_iload h rfl dc_MO_closed_74 76 rfl ?_
        refine jl_aload_n (i := 0) h rfl rfl dc_MO_closed_76 77 rfl ?_
        refine jl_iload_n (i := 1) h rfl rfl dc_MO_closed_77 78 rfl ?_
        refine jl_iload_n (i := 2) h rfl rfl dc_MO_closed_78 79 rfl ?_
        refine jl_iconst (v := iI 5) h (by decide) dc_MO_closed_79 80 rfl ?_
        refine jl_callV (As := [_, _, _]) (rest := [_]) h hr vs_MO_53 vi_MO_weak vx_MO_weak (ci := 7) rfl (by omega) (by exact rfl) (fun l => c_MO_weak l hO (by omega) hj 5) (by first | decide | omega) (by first | decide | omega) rfl rfl (Nat.le_of_ble_eq_true rfl) dc_MO_closed_80 (res := [_, _]) rfl 83 rfl ?_
        refine jl_iadd h dc_MO_closed_83 84 rfl ?_
        exact jl_zret h he rfl (by rw [hval, ← iI_add, mo_hpc u (by omega)]; congr 3; unfold mo_hc; (repeat' split) <;> first | rfl | omega) (rfl) dc_MO_closed_84
theorem c_MO_within (hO : mo_ok I V n b) {i j k m : Nat} (hik : i < k) (hkm : k < m) (hmj : m < j) (hj : j < n) (h1 : 0 ≤ en_kd (b i) (b j)) (h2 : 0 ≤ en_kd (b k) (b m)) : jl_C l K sa yn_MO_within bc_MO_within 11 (some .int) 2 60 168 ad [.ref (ad 160), .int (nI i), .int (nI j), .int (nI k), .int (nI m)] (gw K ad I V L C G R) (some (.int (iI (lp_w1 b i j k m)))) (gw K ad I V L C G R) := by
  refine jl_enter (by decide) (Nat.le_of_ble_eq_true rfl) (fun x h he hr => ?_)
  have hn := hO.2.2.1
  have h3 := en_kd_sym _ _ (hO.2.2.2.1 k) (hO.2.2.2.1 m) h2
  have g1 := en_kd_in (b i) (b j)
  have g2 := en_kd_in (b m) (b k)
  obtain ⟨p, hp⟩ : ∃ p : Nat, en_kd (b i) (b j) = p := ⟨(en_kd (b i) (b j)).toNat, by omega⟩
  obtain ⟨q, hq⟩ : ∃ q : Nat, en_kd (b m) (b k) = q := ⟨(en_kd (b m) (b k)).toNat, by omega⟩
  have hix : nI 6 * nI p + nI q = nI (p * 6 + q) := by rw [pk_mul, nI_add, Nat.mul_comm]
  have hst : V 161 (p * 6 + q) = iI (lp_stk p q) := by rw [hO.2.2.2.2 _ (by omega)]; exact lp_h4 p (by omega) q (by omega)
  have e1 : nI k - nI i - 1 = nI (k - i - 1) := by rw [pk_sub (by omega), show (1 : Int32) = nI 1 from rfl, pk_sub (by omega)]
  have e2 : nI j - nI m - 1 = nI (j - m - 1) := by rw [pk_sub (by omega), show (1 : Int32) = nI 1 from rfl, pk_sub (by omega)]
  show jl_J x 168 ad 0 0 (gw K ad I V L C G R) 0 [(0, .ref (ad 160)), (1, .int (nI i)), (2, .int (nI j)), (3, .int (nI k)), (4, .int (nI m))] []
  have hw1 : lp_w1 b i j k m = if k - i - 1 = 0 ∨ j - m - 1 = 0 then lp_bul (k - i - 1 + (j - m - 1)) (lp_stk p q) else lp_int (k - i - 1) (j - m - 1) + lp_wk b i j 7 + lp_wk b k m 7 := by unfold lp_w1; rw [hp, hq]
  obtain ⟨u, hu⟩ : ∃ u, u = k - i - 1 := ⟨_, rfl⟩
  obtain ⟨v, hv⟩ : ∃ v, v = j - m - 1 := ⟨_, rfl⟩
  rw [← hu] at e1
  rw [← hv] at e2
  rw [← hu, ← hv] at hw1
  have e3 : nI u + nI v = nI (u + v) := nI_add _ _
  have z0 : (0 : Int32) = nI 0 := rfl
  have t168 : 1 ≤ u → 1 ≤ v → ∀ z : Int32, z = iI (lp_inT.getD (u + v - 2) (15 + ((u + v : Nat) : Int))) → jl_J x 168 ad 0 0 (gw K ad I V L C G R) 168 [(8, .int (nI (u + v))), (7, .int (iI (lp_stk p q))), (6, .int (nI v)), (5, .int (nI u)), (0, .ref (ad 160)), (1, .int (nI i)), (2, .int (nI j)), (3, .int (nI k)), (4, .int (nI m))] [.int z] := by
    intro hu1 hv1 z hz
    subst hz
    have eW : lp_w1 b i j k m = lp_int u v + lp_wk b i j 7 + lp_wk b k m 7 := by rw [hw1, if_neg (by omega)]
    have hdif : ∀ d : Nat, d = lp_dif u v → iI (lp_inT.getD (u + v - 2) (15 + ((u + v : Nat) : Int))) + (if 6 * d < 30 then nI (6 * d) else nI 30) = iI (lp_int u v) := fun d hd => by
      unfold lp_int
      rw [hd, ← iI_add]
      by_cases h9 : 6 * lp_dif u v < 30
      · rw [if_pos h9, if_pos h9]
        rfl
      · rw [if_neg h9, if_neg h9]
        rfl
    refine jl_istore (i := 9) (lc2 := [(9, _), (8, _), (7, _), (6, _), (5, _), (0, _), (1, _), (2, _), (3, _), (4, _)]) h (by decide) rfl dc_MO_within_168 170 rfl ?_
    refine jl_bipush (v := nI 6) h (by decide) dc_MO_within_170 172 rfl ?_
    refine jl_iload h rfl dc_MO_within_172 174 rfl ?_
    refine jl_iload h rfl dc_MO_within_174 176 rfl ?_
    refine jl_icmp_le h 187 (by decide) dc_MO_within_176 179 rfl (fun c176 => ?_) (fun c176 => ?_)
    · skip
      rw [nI_leI (by omega) (by omega)] at c176
      refine jl_iload h rfl dc_MO_within_187 189 rfl ?_
      refine jl_iload h rfl dc_MO_within_189 191 rfl ?_
      refine jl_isub h dc_MO_within_191 192 rfl ?_
      rw [show nI v - nI u = nI (v - u) by exact pk_sub (by omega)]
      refine jl_imul h dc_MO_within_192 193 rfl ?_
      refine jl_istore (i := 10) (lc2 := [(10, _), (9, _), (8, _), (7, _), (6, _), (5, _), (0, _), (1, _), (2, _), (3, _), (4, _)]) h (by decide) rfl dc_MO_within_193 195 rfl ?_
      refine jl_iload h rfl dc_MO_within_195 197 rfl ?_
      refine jl_iload h rfl dc_MO_within_197 199 rfl ?_
      refine jl_bipush (v := nI 30) h (by decide) dc_MO_within_199 201 rfl ?_
      refine jl_icmp_le h 209 (by decide) dc_MO_within_201 204 rfl (fun c201 => ?_) (fun c201 => ?_)
      · skip
        rw [pk_mul, nI_leI (by omega) (by decide)] at c201
        refine jl_iload h rfl dc_MO_within_209 211 rfl ?_
        refine jl_iadd h dc_MO_within_211 212 rfl ?_
        refine jl_aload_n (i := 0) h rfl rfl dc_MO_within_212 213 rfl ?_
        refine jl_iload_n (i := 1) h rfl rfl dc_MO_within_213 214 rfl ?_
        refine jl_iload_n (i := 2) h rfl rfl dc_MO_within_214 215 rfl ?_
        refine jl_bipush (v := iI 7) h (by decide) dc_MO_within_215 217 rfl ?_
        refine jl_callV (As := [_, _, _]) (rest := [_]) h hr vs_MO_53 vi_MO_weak vx_MO_weak (ci := 7) rfl (by omega) (by exact rfl) (fun l => c_MO_weak l hO (by omega) hj 7) (by first | decide | omega) (by first | decide | omega) rfl rfl (Nat.le_of_ble_eq_true rfl) dc_MO_within_217 (res := [_, _]) rfl 220 rfl ?_
        refine jl_iadd h dc_MO_within_220 221 rfl ?_
        refine jl_aload_n (i := 0) h rfl rfl dc_MO_within_221 222 rfl ?_
        refine jl_iload_n (i := 3) h rfl rfl dc_MO_within_222 223 rfl ?_
        refine jl_iload h rfl dc_MO_within_223 225 rfl ?_
        refine jl_bipush (v := iI 7) h (by decide) dc_MO_within_225 227 rfl ?_
        refine jl_callV (As := [_, _, _]) (rest := [_]) h hr vs_MO_53 vi_MO_weak vx_MO_weak (ci := 7) rfl (by omega) (by exact rfl) (fun l => c_MO_weak l hO (by omega) (by omega) 7) (by first | decide | omega) (by first | decide | omega) rfl rfl (Nat.le_of_ble_eq_true rfl) dc_MO_within_227 (res := [_, _]) rfl 230 rfl ?_
        refine jl_iadd h dc_MO_within_230 231 rfl ?_
        exact jl_zret h he rfl (by rw [eW, ← iI_add, ← iI_add, ← hdif _ rfl]; unfold lp_dif; first | (rw [if_neg (by omega)]; done) | (rw [pk_mul, show u - v + (v - u) = v - u by omega]; by_cases h9 : 6 * (v - u) < 30; (rw [if_pos h9]); (rw [if_neg h9, show 6 * (v - u) = 30 by omega])) | (rw [pk_mul, show u - v + (v - u) = u - v by omega]; by_cases h9 : 6 * (u - v) < 30; (rw [if_pos h9]); (rw [if_neg h9, show 6 * (u - v) = 30 by omega]))) (rfl) dc_MO_within_231
      · skip
        rw [pk_mul, nI_leI (by omega) (by decide)] at c201
        refine jl_bipush (v := nI 30) h (by decide) dc_MO_within_204 206 rfl ?_
        refine jl_goto h 211 (by decide) dc_MO_within_206 ?_
        refine jl_iadd h dc_MO_within_211 212 rfl ?_
        refine jl_aload_n (i := 0) h rfl rfl dc_MO_within_212 213 rfl ?_
        refine jl_iload_n (i := 1) h rfl rfl dc_MO_within_213 214 rfl ?_
        refine jl_iload_n (i := 2) h rfl rfl dc_MO_within_214 215 rfl ?_
        refine jl_bipush (v := iI 7) h (by decide) dc_MO_within_215 217 rfl ?_
        refine jl_callV (As := [_, _, _]) (rest := [_]) h hr vs_MO_53 vi_MO_weak vx_MO_weak (ci := 7) rfl (by omega) (by exact rfl) (fun l => c_MO_weak l hO (by omega) hj 7) (by first | decide | omega) (by first | decide | omega) rfl rfl (Nat.le_of_ble_eq_true rfl) dc_MO_within_217 (res := [_, _]) rfl 220 rfl ?_
        refine jl_iadd h dc_MO_within_220 221 rfl ?_
        refine jl_aload_n (i := 0) h rfl rfl dc_MO_within_221 222 rfl ?_
        refine jl_iload_n (i := 3) h rfl rfl dc_MO_within_222 223 rfl ?_
        refine jl_iload h rfl dc_MO_within_223 225 rfl ?_
        refine jl_bipush (v := iI 7) h (by decide) dc_MO_within_225 227 rfl ?_
        refine jl_callV (As := [_, _, _]) (rest := [_]) h hr vs_MO_53 vi_MO_weak vx_MO_weak (ci := 7) rfl (by omega) (by exact rfl) (fun l => c_MO_weak l hO (by omega) (by omega) 7) (by first | decide | omega) (by first | decide | omega) rfl rfl (Nat.le_of_ble_eq_true rfl) dc_MO_within_227 (res := [_, _]) rfl 230 rfl ?_
        refine jl_iadd h dc_MO_within_230 231 rfl ?_
        exact jl_zret h he rfl (by rw [eW, ← iI_add, ← iI_add, ← hdif _ rfl]; unfold lp_dif; first | (rw [if_neg (by omega)]; done) | (rw [pk_mul, show u - v + (v - u) = v - u by omega]; by_cases h9 : 6 * (v - u) < 30; (rw [if_pos h9]); (rw [if_neg h9, show 6 * (v - u) = 30 by omega])) | (rw [pk_mul, show u - v + (v - u) = u - v by omega]; by_cases h9 : 6 * (u - v) < 30; (rw [if_pos h9]); (rw [if_neg h9, show 6 * (u - v) = 30 by omega]))) (rfl) dc_MO_within_231
    · skip
      rw [nI_leI (by omega) (by omega)] at c176
      refine jl_iload h rfl dc_MO_within_179 181 rfl ?_
      refine jl_iload h rfl dc_MO_within_181 183 rfl ?_
      refine jl_isub h dc_MO_within_183 184 rfl ?_
      rw [show nI u - nI v = nI (u - v) by exact pk_sub (by omega)]
      refine jl_goto h 192 (by decide) dc_MO_within_184 ?_
      refine jl_imul h dc_MO_within_192 193 rfl ?_
      refine jl_istore (i := 10) (lc2 := [(10, _), (9, _), (8, _), (7, _), (6, _), (5, _), (0, _), (1, _), (2, _), (3, _), (4, _)]) h (by decide) rfl dc_MO_within_193 195 rfl ?_
      refine jl_iload h rfl dc_MO_within_195 197 rfl ?_
      refine jl_iload h rfl dc_MO_within_197 199 rfl ?_
      refine jl_bipush (v := nI 30) h (by decide) dc_MO_within_199 201 rfl ?_
      refine jl_icmp_le h 209 (by decide) dc_MO_within_201 204 rfl (fun c201 => ?_) (fun c201 => ?_)
      · skip
        rw [pk_mul, nI_leI (by omega) (by decide)] at c201
        refine jl_iload h rfl dc_MO_within_209 211 rfl ?_
        refine jl_iadd h dc_MO_within_211 212 rfl ?_
        refine jl_aload_n (i := 0) h rfl rfl dc_MO_within_212 213 rfl ?_
        refine jl_iload_n (i := 1) h rfl rfl dc_MO_within_213 214 rfl ?_
        refine jl_iload_n (i := 2) h rfl rfl dc_MO_within_214 215 rfl ?_
        refine jl_bipush (v := iI 7) h (by decide) dc_MO_within_215 217 rfl ?_
        refine jl_callV (As := [_, _, _]) (rest := [_]) h hr vs_MO_53 vi_MO_weak vx_MO_weak (ci := 7) rfl (by omega) (by exact rfl) (fun l => c_MO_weak l hO (by omega) hj 7) (by first | decide | omega) (by first | decide | omega) rfl rfl (Nat.le_of_ble_eq_true rfl) dc_MO_within_217 (res := [_, _]) rfl 220 rfl ?_
        refine jl_iadd h dc_MO_within_220 221 rfl ?_
        refine jl_aload_n (i := 0) h rfl rfl dc_MO_within_221 222 rfl ?_
        refine jl_iload_n (i := 3) h rfl rfl dc_MO_within_222 223 rfl ?_
        refine jl_iload h rfl dc_MO_within_223 225 rfl ?_
        refine jl_bipush (v := iI 7) h (by decide) dc_MO_within_225 227 rfl ?_
        refine jl_callV (As := [_, _, _]) (rest := [_]) h hr vs_MO_53 vi_MO_weak vx_MO_weak (ci := 7) rfl (by omega) (by exact rfl) (fun l => c_MO_weak l hO (by omega) (by omega) 7) (by first | decide | omega) (by first | decide | omega) rfl rfl (Nat.le_of_ble_eq_true rfl) dc_MO_within_227 (res := [_, _]) rfl 230 rfl ?_
        refine jl_iadd h dc_MO_within_230 231 rfl ?_
        exact jl_zret h he rfl (by rw [eW, ← iI_add, ← iI_add, ← hdif _ rfl]; unfold lp_dif; first | (rw [if_neg (by omega)]; done) | (rw [pk_mul, show u - v + (v - u) = v - u by omega]; by_cases h9 : 6 * (v - u) < 30; (rw [if_pos h9]); (rw [if_neg h9, show 6 * (v - u) = 30 by omega])) | (rw [pk_mul, show u - v + (v - u) = u - v by omega]; by_cases h9 : 6 * (u - v) < 30; (rw [if_pos h9]); (rw [if_neg h9, show 6 * (u - v) = 30 by omega]))) (rfl) dc_MO_within_231
      · skip
        rw [pk_mul, nI_leI (by omega) (by decide)] at c201
        refine jl_bipush (v := nI 30) h (by decide) dc_MO_within_204 206 rfl ?_
        refine jl_goto h 211 (by decide) dc_MO_within_206 ?_
        refine jl_iadd h dc_MO_within_211 212 rfl ?_
        refine jl_aload_n (i := 0) h rfl rfl dc_MO_within_212 213 rfl ?_
        refine jl_iload_n (i := 1) h rfl rfl dc_MO_within_213 214 rfl ?_
        refine jl_iload_n (i := 2) h rfl rfl dc_MO_within_214 215 rfl ?_
        refine jl_bipush (v := iI 7) h (by decide) dc_MO_within_215 217 rfl ?_
        refine jl_callV (As := [_, _, _]) (rest := [_]) h hr vs_MO_53 vi_MO_weak vx_MO_weak (ci := 7) rfl (by omega) (by exact rfl) (fun l => c_MO_weak l hO (by omega) hj 7) (by first | decide | omega) (by first | decide | omega) rfl rfl (Nat.le_of_ble_eq_true rfl) dc_MO_within_217 (res := [_, _]) rfl 220 rfl ?_
        refine jl_iadd h dc_MO_within_220 221 rfl ?_
        refine jl_aload_n (i := 0) h rfl rfl dc_MO_within_221 222 rfl ?_
        refine jl_iload_n (i := 3) h rfl rfl dc_MO_within_222 223 rfl ?_
        refine jl_iload h rfl dc_MO_within_223 225 rfl ?_
        refine jl_bipush (v := iI 7) h (by decide) dc_MO_within_225 227 rfl ?_
        refine jl_callV (As := [_, _, _]) (rest := [_]) h hr vs_MO_53 vi_MO_weak vx_MO_weak (ci := 7) rfl (by omega) (by exact rfl) (fun l => c_MO_weak l hO (by omega) (by omega) 7) (by first | decide | omega) (by first | decide | omega) rfl rfl (Nat.le_of_ble_eq_true rfl) dc_MO_within_227 (res := [_, _]) rfl 230 rfl ?_
        refine jl_iadd h dc_MO_within_230 231 rfl ?_
        exact jl_zret h he rfl (by rw [eW, ← iI_add, ← iI_add, ← hdif _ rfl]; unfold lp_dif; first | (rw [if_neg (by omega)]; done) | (rw [pk_mul, show u - v + (v - u) = v - u by omega]; by_cases h9 : 6 * (v - u) < 30; (rw [if_pos h9]); (rw [if_neg h9, show 6 * (v - u) = 30 by omega])) | (rw [pk_mul, show u - v + (v - u) = u - v by omega]; by_cases h9 : 6 * (u - v) < 30; (rw [if_pos h9]); (rw [if_neg h9, show 6 * (u - v) = 30 by omega]))) (rfl) dc_MO_within_231
  refine jl_iload_n (i := 3) h rfl rfl dc_MO_within_0 1 rfl ?_
  refine jl_iload_n (i := 1) h rfl rfl dc_MO_within_1 2 rfl ?_
  refine jl_isub h dc_MO_within_2 3 rfl ?_
  refine jl_iconst (v := 1) h (by decide) dc_MO_within_3 4 rfl ?_
  refine jl_isub h dc_MO_within_4 5 rfl ?_
  rw [show nI k - nI i - 1 = nI u by exact e1]
  refine jl_istore (i := 5) (lc2 := [(5, _), (0, _), (1, _), (2, _), (3, _), (4, _)]) h (by decide) rfl dc_MO_within_5 7 rfl ?_
  refine jl_iload_n (i := 2) h rfl rfl dc_MO_within_7 8 rfl ?_
  refine jl_iload h rfl dc_MO_within_8 10 rfl ?_
  refine jl_isub h dc_MO_within_10 11 rfl ?_
  refine jl_iconst (v := 1) h (by decide) dc_MO_within_11 12 rfl ?_
  refine jl_isub h dc_MO_within_12 13 rfl ?_
  rw [show nI j - nI m - 1 = nI v by exact e2]
  refine jl_istore (i := 6) (lc2 := [(6, _), (5, _), (0, _), (1, _), (2, _), (3, _), (4, _)]) h (by decide) rfl dc_MO_within_13 15 rfl ?_
  refine jl_aload_n (i := 0) h rfl rfl dc_MO_within_15 16 rfl ?_
  refine jl_getf h nm_c_MO 0 wl_MO_7 (by omega) (by decide) (by exact rfl) (by rfl) dc_MO_within_16 19 rfl ?_
  refine jl_bipush (v := nI 6) h (by decide) dc_MO_within_19 21 rfl ?_
  refine jl_aload_n (i := 0) h rfl rfl dc_MO_within_21 22 rfl ?_
  refine jl_iload_n (i := 1) h rfl rfl dc_MO_within_22 23 rfl ?_
  refine jl_iload_n (i := 2) h rfl rfl dc_MO_within_23 24 rfl ?_
  refine jl_callV (As := [_, _]) (rest := [_, _]) h hr vs_MO_45 vi_MO_kind vx_MO_kind (ci := 7) rfl (by omega) (by exact rfl) (fun l => c_MO_kind l hO (by omega) hj) (by first | decide | omega) (by first | decide | omega) rfl rfl (Nat.le_of_ble_eq_true rfl) dc_MO_within_24 (res := [_, _, _]) rfl 27 rfl ?_
  rw [hp, iI_nat]
  refine jl_imul h dc_MO_within_27 28 rfl ?_
  refine jl_aload_n (i := 0) h rfl rfl dc_MO_within_28 29 rfl ?_
  refine jl_iload h rfl dc_MO_within_29 31 rfl ?_
  refine jl_iload_n (i := 3) h rfl rfl dc_MO_within_31 32 rfl ?_
  refine jl_callV (As := [_, _]) (rest := [_, _]) h hr vs_MO_45 vi_MO_kind vx_MO_kind (ci := 7) rfl (by omega) (by exact rfl) (fun l => c_MO_kind l hO (by omega) (by omega)) (by first | decide | omega) (by first | decide | omega) rfl rfl (Nat.le_of_ble_eq_true rfl) dc_MO_within_32 (res := [_, _, _]) rfl 35 rfl ?_
  rw [hq, iI_nat]
  refine jl_iadd h dc_MO_within_35 36 rfl ?_
  rw [show nI 6 * nI p + nI q = nI (p * 6 + q) by exact hix]
  refine jl_iald (v := iI (lp_stk p q)) h (p * 6 + q) (by exact rfl) (by omega) (by exact gw_row (len := 36) ⟨rfl, rfl⟩) (by exact by omega) (by first | decide | assumption) (by exact hst) dc_MO_within_36 37 rfl ?_
  refine jl_istore (i := 7) (lc2 := [(7, _), (6, _), (5, _), (0, _), (1, _), (2, _), (3, _), (4, _)]) h (by decide) rfl dc_MO_within_37 39 rfl ?_
  refine jl_iload h rfl dc_MO_within_39 41 rfl ?_
  refine jl_if_ne h 52 (by decide) dc_MO_within_41 44 rfl (fun c41 => ?_) (fun c41 => ?_)
  · skip
    rw [z0, nI_eq (by omega) (by decide)] at c41
    refine jl_iload h rfl dc_MO_within_52 54 rfl ?_
    refine jl_if_eq h 62 (by decide) dc_MO_within_54 57 rfl (fun c54 => ?_) (fun c54 => ?_)
    · skip
      rw [z0, nI_eq (by omega) (by decide)] at c54
      refine jl_iload h rfl dc_MO_within_62 64 rfl ?_
      refine jl_iload h rfl dc_MO_within_64 66 rfl ?_
      refine jl_iadd h dc_MO_within_66 67 rfl ?_
      rw [show nI u + nI v = nI (u + v) by exact e3]
      refine jl_istore (i := 8) (lc2 := [(8, _), (7, _), (6, _), (5, _), (0, _), (1, _), (2, _), (3, _), (4, _)]) h (by decide) rfl dc_MO_within_67 69 rfl ?_
      refine jl_iload h rfl dc_MO_within_69 71 rfl ?_
      refine jl_iconst (v := nI 1) h (by decide) dc_MO_within_71 72 rfl ?_
      refine jl_icmp_ne h 83 (by decide) dc_MO_within_72 75 rfl (fun c72 => ?_) (fun c72 => ?_)
      · skip
        rw [nI_eq (by omega) (by decide)] at c72
        refine jl_iload h rfl dc_MO_within_83 85 rfl ?_
        refine jl_iconst (v := nI 2) h (by decide) dc_MO_within_85 86 rfl ?_
        refine jl_icmp_ne h 94 (by decide) dc_MO_within_86 89 rfl (fun c86 => ?_) (fun c86 => ?_)
        · skip
          rw [nI_eq (by omega) (by decide)] at c86
          refine jl_iload h rfl dc_MO_within_94 96 rfl ?_
          refine jl_iconst (v := nI 3) h (by decide) dc_MO_within_96 97 rfl ?_
          refine jl_icmp_ne h 105 (by decide) dc_MO_within_97 100 rfl (fun c97 => ?_) (fun c97 => ?_)
          · skip
            rw [nI_eq (by omega) (by decide)] at c97
            refine jl_bipush (v := iI 20) h (by decide) dc_MO_within_105 107 rfl ?_
            refine jl_iconst (v := iI 4) h (by decide) dc_MO_within_107 108 rfl ?_
            refine jl_iload h rfl dc_MO_within_108 110 rfl ?_
            refine jl_imul h dc_MO_within_110 111 rfl ?_
            refine jl_iadd h dc_MO_within_111 112 rfl ?_
            exact jl_zret h he rfl (by rw [hw1, if_pos (by omega)]; unfold lp_bul; first | (rw [if_pos (by omega)]; done) | (rw [if_neg (by omega), if_pos (by omega), ← iI_add]; done) | (rw [if_neg (by omega), if_neg (by omega), if_pos (by omega)]; rfl) | (rw [if_neg (by omega), if_neg (by omega), if_neg (by omega), if_pos (by omega)]; rfl) | (rw [if_neg (by omega), if_neg (by omega), if_neg (by omega), if_neg (by omega), ← iI_nat (u + v), iI_mul, iI_add])) (rfl) dc_MO_within_112
          · skip
            rw [nI_eq (by omega) (by decide)] at c97
            refine jl_bipush (v := 32) h (by decide) dc_MO_within_100 102 rfl ?_
            refine jl_goto h 112 (by decide) dc_MO_within_102 ?_
            exact jl_zret h he rfl (by rw [hw1, if_pos (by omega)]; unfold lp_bul; first | (rw [if_pos (by omega)]; done) | (rw [if_neg (by omega), if_pos (by omega), ← iI_add]; done) | (rw [if_neg (by omega), if_neg (by omega), if_pos (by omega)]; rfl) | (rw [if_neg (by omega), if_neg (by omega), if_neg (by omega), if_pos (by omega)]; rfl) | (rw [if_neg (by omega), if_neg (by omega), if_neg (by omega), if_neg (by omega), ← iI_nat (u + v), iI_mul, iI_add])) (rfl) dc_MO_within_112
        · skip
          rw [nI_eq (by omega) (by decide)] at c86
          refine jl_bipush (v := 28) h (by decide) dc_MO_within_89 91 rfl ?_
          refine jl_goto h 112 (by decide) dc_MO_within_91 ?_
          exact jl_zret h he rfl (by rw [hw1, if_pos (by omega)]; unfold lp_bul; first | (rw [if_pos (by omega)]; done) | (rw [if_neg (by omega), if_pos (by omega), ← iI_add]; done) | (rw [if_neg (by omega), if_neg (by omega), if_pos (by omega)]; rfl) | (rw [if_neg (by omega), if_neg (by omega), if_neg (by omega), if_pos (by omega)]; rfl) | (rw [if_neg (by omega), if_neg (by omega), if_neg (by omega), if_neg (by omega), ← iI_nat (u + v), iI_mul, iI_add])) (rfl) dc_MO_within_112
      · skip
        rw [nI_eq (by omega) (by decide)] at c72
        refine jl_bipush (v := iI 38) h (by decide) dc_MO_within_75 77 rfl ?_
        refine jl_iload h rfl dc_MO_within_77 79 rfl ?_
        refine jl_iadd h dc_MO_within_79 80 rfl ?_
        refine jl_goto h 112 (by decide) dc_MO_within_80 ?_
        exact jl_zret h he rfl (by rw [hw1, if_pos (by omega)]; unfold lp_bul; first | (rw [if_pos (by omega)]; done) | (rw [if_neg (by omega), if_pos (by omega), ← iI_add]; done) | (rw [if_neg (by omega), if_neg (by omega), if_pos (by omega)]; rfl) | (rw [if_neg (by omega), if_neg (by omega), if_neg (by omega), if_pos (by omega)]; rfl) | (rw [if_neg (by omega), if_neg (by omega), if_neg (by omega), if_neg (by omega), ← iI_nat (u + v), iI_mul, iI_add])) (rfl) dc_MO_within_112
    · skip
      rw [z0, nI_eq (by omega) (by decide)] at c54
      refine jl_iload h rfl dc_MO_within_57 59 rfl ?_
      refine jl_if_ne h 113 (by decide) dc_MO_within_59 62 rfl (fun c59 => ?_) (fun c59 => ?_)
      · skip
        rw [z0, nI_eq (by omega) (by decide)] at c59
        refine jl_iload h rfl dc_MO_within_113 115 rfl ?_
        refine jl_iload h rfl dc_MO_within_115 117 rfl ?_
        refine jl_iadd h dc_MO_within_117 118 rfl ?_
        rw [show nI u + nI v = nI (u + v) by exact e3]
        refine jl_istore (i := 8) (lc2 := [(8, _), (7, _), (6, _), (5, _), (0, _), (1, _), (2, _), (3, _), (4, _)]) h (by decide) rfl dc_MO_within_118 120 rfl ?_
        refine jl_iload h rfl dc_MO_within_120 122 rfl ?_
        refine jl_iconst (v := nI 2) h (by decide) dc_MO_within_122 123 rfl ?_
        refine jl_icmp_ne h 130 (by decide) dc_MO_within_123 126 rfl (fun c123 => ?_) (fun c123 => ?_)
        · skip
          rw [nI_eq (by omega) (by decide)] at c123
          refine jl_iload h rfl dc_MO_within_130 132 rfl ?_
          refine jl_iconst (v := nI 3) h (by decide) dc_MO_within_132 133 rfl ?_
          refine jl_icmp_ne h 141 (by decide) dc_MO_within_133 136 rfl (fun c133 => ?_) (fun c133 => ?_)
          · skip
            rw [nI_eq (by omega) (by decide)] at c133
            refine jl_iload h rfl dc_MO_within_141 143 rfl ?_
            refine jl_iconst (v := nI 4) h (by decide) dc_MO_within_143 144 rfl ?_
            refine jl_icmp_ne h 152 (by decide) dc_MO_within_144 147 rfl (fun c144 => ?_) (fun c144 => ?_)
            · skip
              rw [nI_eq (by omega) (by decide)] at c144
              refine jl_iload h rfl dc_MO_within_152 154 rfl ?_
              refine jl_iconst (v := nI 5) h (by decide) dc_MO_within_154 155 rfl ?_
              refine jl_icmp_ne h 163 (by decide) dc_MO_within_155 158 rfl (fun c155 => ?_) (fun c155 => ?_)
              · skip
                rw [nI_eq (by omega) (by decide)] at c155
                refine jl_bipush (v := iI 15) h (by decide) dc_MO_within_163 165 rfl ?_
                refine jl_iload h rfl dc_MO_within_165 167 rfl ?_
                refine jl_iadd h dc_MO_within_167 168 rfl ?_
                first | exact t168 (by omega) (by omega) _ (by rw [show u + v - 2 = 0 by omega]; rfl) | exact t168 (by omega) (by omega) _ (by rw [show u + v - 2 = 1 by omega]; rfl) | exact t168 (by omega) (by omega) _ (by rw [show u + v - 2 = 2 by omega]; rfl) | exact t168 (by omega) (by omega) _ (by rw [show u + v - 2 = 3 by omega]; rfl) | exact t168 (by omega) (by omega) _ (by rw [List.getD_eq_getElem?_getD, List.getElem?_eq_none (by show 4 ≤ _; omega), ← iI_nat (u + v), iI_add]; rfl)
              · skip
                rw [nI_eq (by omega) (by decide)] at c155
                refine jl_bipush (v := 20) h (by decide) dc_MO_within_158 160 rfl ?_
                refine jl_goto h 168 (by decide) dc_MO_within_160 ?_
                first | exact t168 (by omega) (by omega) _ (by rw [show u + v - 2 = 0 by omega]; rfl) | exact t168 (by omega) (by omega) _ (by rw [show u + v - 2 = 1 by omega]; rfl) | exact t168 (by omega) (by omega) _ (by rw [show u + v - 2 = 2 by omega]; rfl) | exact t168 (by omega) (by omega) _ (by rw [show u + v - 2 = 3 by omega]; rfl) | exact t168 (by omega) (by omega) _ (by rw [List.getD_eq_getElem?_getD, List.getElem?_eq_none (by show 4 ≤ _; omega), ← iI_nat (u + v), iI_add]; rfl)
            · skip
              rw [nI_eq (by omega) (by decide)] at c144
              refine jl_bipush (v := 11) h (by decide) dc_MO_within_147 149 rfl ?_
              refine jl_goto h 168 (by decide) dc_MO_within_149 ?_
              first | exact t168 (by omega) (by omega) _ (by rw [show u + v - 2 = 0 by omega]; rfl) | exact t168 (by omega) (by omega) _ (by rw [show u + v - 2 = 1 by omega]; rfl) | exact t168 (by omega) (by omega) _ (by rw [show u + v - 2 = 2 by omega]; rfl) | exact t168 (by omega) (by omega) _ (by rw [show u + v - 2 = 3 by omega]; rfl) | exact t168 (by omega) (by omega) _ (by rw [List.getD_eq_getElem?_getD, List.getElem?_eq_none (by show 4 ≤ _; omega), ← iI_nat (u + v), iI_add]; rfl)
          · skip
            rw [nI_eq (by omega) (by decide)] at c133
            refine jl_bipush (v := 16) h (by decide) dc_MO_within_136 138 rfl ?_
            refine jl_goto h 168 (by decide) dc_MO_within_138 ?_
            first | exact t168 (by omega) (by omega) _ (by rw [show u + v - 2 = 0 by omega]; rfl) | exact t168 (by omega) (by omega) _ (by rw [show u + v - 2 = 1 by omega]; rfl) | exact t168 (by omega) (by omega) _ (by rw [show u + v - 2 = 2 by omega]; rfl) | exact t168 (by omega) (by omega) _ (by rw [show u + v - 2 = 3 by omega]; rfl) | exact t168 (by omega) (by omega) _ (by rw [List.getD_eq_getElem?_getD, List.getElem?_eq_none (by show 4 ≤ _; omega), ← iI_nat (u + v), iI_add]; rfl)
        · skip
          rw [nI_eq (by omega) (by decide)] at c123
          refine jl_iconst (v := 5) h (by decide) dc_MO_within_126 127 rfl ?_
          refine jl_goto h 168 (by decide) dc_MO_within_127 ?_
          first | exact t168 (by omega) (by omega) _ (by rw [show u + v - 2 = 0 by omega]; rfl) | exact t168 (by omega) (by omega) _ (by rw [show u + v - 2 = 1 by omega]; rfl) | exact t168 (by omega) (by omega) _ (by rw [show u + v - 2 = 2 by omega]; rfl) | exact t168 (by omega) (by omega) _ (by rw [show u + v - 2 = 3 by omega]; rfl) | exact t168 (by omega) (by omega) _ (by rw [List.getD_eq_getElem?_getD, List.getElem?_eq_none (by show 4 ≤ _; omega), ← iI_nat (u + v), iI_add]; rfl)
      · skip
        rw [z0, nI_eq (by omega) (by decide)] at c59
        refine jl_iload h rfl dc_MO_within_62 64 rfl ?_
        refine jl_iload h rfl dc_MO_within_64 66 rfl ?_
        refine jl_iadd h dc_MO_within_66 67 rfl ?_
        rw [show nI u + nI v = nI (u + v) by exact e3]
        refine jl_istore (i := 8) (lc2 := [(8, _), (7, _), (6, _), (5, _), (0, _), (1, _), (2, _), (3, _), (4, _)]) h (by decide) rfl dc_MO_within_67 69 rfl ?_
        refine jl_iload h rfl dc_MO_within_69 71 rfl ?_
        refine jl_iconst (v := nI 1) h (by decide) dc_MO_within_71 72 rfl ?_
        refine jl_icmp_ne h 83 (by decide) dc_MO_within_72 75 rfl (fun c72 => ?_) (fun c72 => ?_)
        · skip
          rw [nI_eq (by omega) (by decide)] at c72
          refine jl_iload h rfl dc_MO_within_83 85 rfl ?_
          refine jl_iconst (v := nI 2) h (by decide) dc_MO_within_85 86 rfl ?_
          refine jl_icmp_ne h 94 (by decide) dc_MO_within_86 89 rfl (fun c86 => ?_) (fun c86 => ?_)
          · skip
            rw [nI_eq (by omega) (by decide)] at c86
            refine jl_iload h rfl dc_MO_within_94 96 rfl ?_
            refine jl_iconst (v := nI 3) h (by decide) dc_MO_within_96 97 rfl ?_
            refine jl_icmp_ne h 105 (by decide) dc_MO_within_97 100 rfl (fun c97 => ?_) (fun c97 => ?_)
            · skip
              rw [nI_eq (by omega) (by decide)] at c97
              refine jl_bipush (v := iI 20) h (by decide) dc_MO_within_105 107 rfl ?_
              refine jl_iconst (v := iI 4) h (by decide) dc_MO_within_107 108 rfl ?_
              refine jl_iload h rfl dc_MO_within_108 110 rfl ?_
              refine jl_imul h dc_MO_within_110 111 rfl ?_
              refine jl_iadd h dc_MO_within_111 112 rfl ?_
              exact jl_zret h he rfl (by rw [hw1, if_pos (by omega)]; unfold lp_bul; first | (rw [if_pos (by omega)]; done) | (rw [if_neg (by omega), if_pos (by omega), ← iI_add]; done) | (rw [if_neg (by omega), if_neg (by omega), if_pos (by omega)]; rfl) | (rw [if_neg (by omega), if_neg (by omega), if_neg (by omega), if_pos (by omega)]; rfl) | (rw [if_neg (by omega), if_neg (by omega), if_neg (by omega), if_neg (by omega), ← iI_nat (u + v), iI_mul, iI_add])) (rfl) dc_MO_within_112
            · skip
              rw [nI_eq (by omega) (by decide)] at c97
              refine jl_bipush (v := 32) h (by decide) dc_MO_within_100 102 rfl ?_
              refine jl_goto h 112 (by decide) dc_MO_within_102 ?_
              exact jl_zret h he rfl (by rw [hw1, if_pos (by omega)]; unfold lp_bul; first | (rw [if_pos (by omega)]; done) | (rw [if_neg (by omega), if_pos (by omega), ← iI_add]; done) | (rw [if_neg (by omega), if_neg (by omega), if_pos (by omega)]; rfl) | (rw [if_neg (by omega), if_neg (by omega), if_neg (by omega), if_pos (by omega)]; rfl) | (rw [if_neg (by omega), if_neg (by omega), if_neg (by omega), if_neg (by omega), ← iI_nat (u + v), iI_mul, iI_add])) (rfl) dc_MO_within_112
          · skip
            rw [nI_eq (by omega) (by decide)] at c86
            refine jl_bipush (v := 28) h (by decide) dc_MO_within_89 91 rfl ?_
            refine jl_goto h 112 (by decide) dc_MO_within_91 ?_
            exact jl_zret h he rfl (by rw [hw1, if_pos (by omega)]; unfold lp_bul; first | (rw [if_pos (by omega)]; done) | (rw [if_neg (by omega), if_pos (by omega), ← iI_add]; done) | (rw [if_neg (by omega), if_neg (by omega), if_pos (by omega)]; rfl) | (rw [if_neg (by omega), if_neg (by omega), if_neg (by omega), if_pos (by omega)]; rfl) | (rw [if_neg (by omega), if_neg (by omega), if_neg (by omega), if_neg (by omega), ← iI_nat (u + v), iI_mul, iI_add])) (rfl) dc_MO_within_112
        · skip
          rw [nI_eq (by omega) (by decide)] at c72
          refine jl_bipush (v := iI 38) h (by decide) dc_MO_within_75 77 rfl ?_
          refine jl_iload h rfl dc_MO_within_77 79 rfl ?_
          refine jl_iadd h dc_MO_within_79 80 rfl ?_
          refine jl_goto h 112 (by decide) dc_MO_within_80 ?_
          exact jl_zret h he rfl (by rw [hw1, if_pos (by omega)]; unfold lp_bul; first | (rw [if_pos (by omega)]; done) | (rw [if_neg (by omega), if_pos (by omega), ← iI_add]; done) | (rw [if_neg (by omega), if_neg (by omega), if_pos (by omega)]; rfl) | (rw [if_neg (by omega), if_neg (by omega), if_neg (by omega), if_pos (by omega)]; rfl) | (rw [if_neg (by omega), if_neg (by omega), if_neg (by omega), if_neg (by omega), ← iI_nat (u + v), iI_mul, iI_add])) (rfl) dc_MO_within_112
  · skip
    rw [z0, nI_eq (by omega) (by decide)] at c41
    refine jl_iload h rfl dc_MO_within_44 46 rfl ?_
    refine jl_if_ne h 52 (by decide) dc_MO_within_46 49 rfl (fun c46 => ?_) (fun c46 => ?_)
    · skip
      rw [z0, nI_eq (by omega) (by decide)] at c46
      refine jl_iload h rfl dc_MO_within_52 54 rfl ?_
      refine jl_if_eq h 62 (by decide) dc_MO_within_54 57 rfl (fun c54 => ?_) (fun c54 => ?_)
      · skip
        rw [z0, nI_eq (by omega) (by decide)] at c54
        refine jl_iload h rfl dc_MO_within_62 64 rfl ?_
        refine jl_iload h rfl dc_MO_within_64 66 rfl ?_
        refine jl_iadd h dc_MO_within_66 67 rfl ?_
        rw [show nI u + nI v = nI (u + v) by exact e3]
        refine jl_istore (i := 8) (lc2 := [(8, _), (7, _), (6, _), (5, _), (0, _), (1, _), (2, _), (3, _), (4, _)]) h (by decide) rfl dc_MO_within_67 69 rfl ?_
        refine jl_iload h rfl dc_MO_within_69 71 rfl ?_
        refine jl_iconst (v := nI 1) h (by decide) dc_MO_within_71 72 rfl ?_
        refine jl_icmp_ne h 83 (by decide) dc_MO_within_72 75 rfl (fun c72 => ?_) (fun c72 => ?_)
        · skip
          rw [nI_eq (by omega) (by decide)] at c72
          refine jl_iload h rfl dc_MO_within_83 85 rfl ?_
          refine jl_iconst (v := nI 2) h (by decide) dc_MO_within_85 86 rfl ?_
          refine jl_icmp_ne h 94 (by decide) dc_MO_within_86 89 rfl (fun c86 => ?_) (fun c86 => ?_)
          · skip
            rw [nI_eq (by omega) (by decide)] at c86
            refine jl_iload h rfl dc_MO_within_94 96 rfl ?_
            refine jl_iconst (v := nI 3) h (by decide) dc_MO_within_96 97 rfl ?_
            refine jl_icmp_ne h 105 (by decide) dc_MO_within_97 100 rfl (fun c97 => ?_) (fun c97 => ?_)
            · skip
              rw [nI_eq (by omega) (by decide)] at c97
              refine jl_bipush (v := iI 20) h (by decide) dc_MO_within_105 107 rfl ?_
              refine jl_iconst (v := iI 4) h (by decide) dc_MO_within_107 108 rfl ?_
              refine jl_iload h rfl dc_MO_within_108 110 rfl ?_
              refine jl_imul h dc_MO_within_110 111 rfl ?_
              refine jl_iadd h dc_MO_within_111 112 rfl ?_
              exact jl_zret h he rfl (by rw [hw1, if_pos (by omega)]; unfold lp_bul; first | (rw [if_pos (by omega)]; done) | (rw [if_neg (by omega), if_pos (by omega), ← iI_add]; done) | (rw [if_neg (by omega), if_neg (by omega), if_pos (by omega)]; rfl) | (rw [if_neg (by omega), if_neg (by omega), if_neg (by omega), if_pos (by omega)]; rfl) | (rw [if_neg (by omega), if_neg (by omega), if_neg (by omega), if_neg (by omega), ← iI_nat (u + v), iI_mul, iI_add])) (rfl) dc_MO_within_112
            · skip
              rw [nI_eq (by omega) (by decide)] at c97
              refine jl_bipush (v := 32) h (by decide) dc_MO_within_100 102 rfl ?_
              refine jl_goto h 112 (by decide) dc_MO_within_102 ?_
              exact jl_zret h he rfl (by rw [hw1, if_pos (by omega)]; unfold lp_bul; first | (rw [if_pos (by omega)]; done) | (rw [if_neg (by omega), if_pos (by omega), ← iI_add]; done) | (rw [if_neg (by omega), if_neg (by omega), if_pos (by omega)]; rfl) | (rw [if_neg (by omega), if_neg (by omega), if_neg (by omega), if_pos (by omega)]; rfl) | (rw [if_neg (by omega), if_neg (by omega), if_neg (by omega), if_neg (by omega), ← iI_nat (u + v), iI_mul, iI_add])) (rfl) dc_MO_within_112
          · skip
            rw [nI_eq (by omega) (by decide)] at c86
            refine jl_bipush (v := 28) h (by decide) dc_MO_within_89 91 rfl ?_
            refine jl_goto h 112 (by decide) dc_MO_within_91 ?_
            exact jl_zret h he rfl (by rw [hw1, if_pos (by omega)]; unfold lp_bul; first | (rw [if_pos (by omega)]; done) | (rw [if_neg (by omega), if_pos (by omega), ← iI_add]; done) | (rw [if_neg (by omega), if_neg (by omega), if_pos (by omega)]; rfl) | (rw [if_neg (by omega), if_neg (by omega), if_neg (by omega), if_pos (by omega)]; rfl) | (rw [if_neg (by omega), if_neg (by omega), if_neg (by omega), if_neg (by omega), ← iI_nat (u + v), iI_mul, iI_add])) (rfl) dc_MO_within_112
        · skip
          rw [nI_eq (by omega) (by decide)] at c72
          refine jl_bipush (v := iI 38) h (by decide) dc_MO_within_75 77 rfl ?_
          refine jl_iload h rfl dc_MO_within_77 79 rfl ?_
          refine jl_iadd h dc_MO_within_79 80 rfl ?_
          refine jl_goto h 112 (by decide) dc_MO_within_80 ?_
          exact jl_zret h he rfl (by rw [hw1, if_pos (by omega)]; unfold lp_bul; first | (rw [if_pos (by omega)]; done) | (rw [if_neg (by omega), if_pos (by omega), ← iI_add]; done) | (rw [if_neg (by omega), if_neg (by omega), if_pos (by omega)]; rfl) | (rw [if_neg (by omega), if_neg (by omega), if_neg (by omega), if_pos (by omega)]; rfl) | (rw [if_neg (by omega), if_neg (by omega), if_neg (by omega), if_neg (by omega), ← iI_nat (u + v), iI_mul, iI_add])) (rfl) dc_MO_within_112
      · skip
        rw [z0, nI_eq (by omega) (by decide)] at c54
        refine jl_iload h rfl dc_MO_within_57 59 rfl ?_
        refine jl_if_ne h 113 (by decide) dc_MO_within_59 62 rfl (fun c59 => ?_) (fun c59 => ?_)
        · skip
          rw [z0, nI_eq (by omega) (by decide)] at c59
          refine jl_iload h rfl dc_MO_within_113 115 rfl ?_
          refine jl_iload h rfl dc_MO_within_115 117 rfl ?_
          refine jl_iadd h dc_MO_within_117 118 rfl ?_
          rw [show nI u + nI v = nI (u + v) by exact e3]
          refine jl_istore (i := 8) (lc2 := [(8, _), (7, _), (6, _), (5, _), (0, _), (1, _), (2, _), (3, _), (4, _)]) h (by decide) rfl dc_MO_within_118 120 rfl ?_
          refine jl_iload h rfl dc_MO_within_120 122 rfl ?_
          refine jl_iconst (v := nI 2) h (by decide) dc_MO_within_122 123 rfl ?_
          refine jl_icmp_ne h 130 (by decide) dc_MO_within_123 126 rfl (fun c123 => ?_) (fun c123 => ?_)
          · skip
            rw [nI_eq (by omega) (by decide)] at c123
            refine jl_iload h rfl dc_MO_within_130 132 rfl ?_
            refine jl_iconst (v := nI 3) h (by decide) dc_MO_within_132 133 rfl ?_
            refine jl_icmp_ne h 141 (by decide) dc_MO_within_133 136 rfl (fun c133 => ?_) (fun c133 => ?_)
            · skip
              rw [nI_eq (by omega) (by decide)] at c133
              refine jl_iload h rfl dc_MO_within_141 143 rfl ?_
              refine jl_iconst (v := nI 4) h (by decide) dc_MO_within_143 144 rfl ?_
              refine jl_icmp_ne h 152 (by decide) dc_MO_within_144 147 rfl (fun c144 => ?_) (fun c144 => ?_)
              · skip
                rw [nI_eq (by omega) (by decide)] at c144
                refine jl_iload h rfl dc_MO_within_152 154 rfl ?_
                refine jl_iconst (v := nI 5) h (by decide) dc_MO_within_154 155 rfl ?_
                refine jl_icmp_ne h 163 (by decide) dc_MO_within_155 158 rfl (fun c155 => ?_) (fun c155 => ?_)
                · skip
                  rw [nI_eq (by omega) (by decide)] at c155
                  refine jl_bipush (v := iI 15) h (by decide) dc_MO_within_163 165 rfl ?_
                  refine jl_iload h rfl dc_MO_within_165 167 rfl ?_
                  refine jl_iadd h dc_MO_within_167 168 rfl ?_
                  first | exact t168 (by omega) (by omega) _ (by rw [show u + v - 2 = 0 by omega]; rfl) | exact t168 (by omega) (by omega) _ (by rw [show u + v - 2 = 1 by omega]; rfl) | exact t168 (by omega) (by omega) _ (by rw [show u + v - 2 = 2 by omega]; rfl) | exact t168 (by omega) (by omega) _ (by rw [show u + v - 2 = 3 by omega]; rfl) | exact t168 (by omega) (by omega) _ (by rw [List.getD_eq_getElem?_getD, List.getElem?_eq_none (by show 4 ≤ _; omega), ← iI_nat (u + v), iI_add]; rfl)
                · skip
                  rw [nI_eq (by omega) (by decide)] at c155
                  refine jl_bipush (v := 20) h (by decide) dc_MO_within_158 160 rfl ?_
                  refine jl_goto h 168 (by decide) dc_MO_within_160 ?_
                  first | exact t168 (by omega) (by omega) _ (by rw [show u + v - 2 = 0 by omega]; rfl) | exact t168 (by omega) (by omega) _ (by rw [show u + v - 2 = 1 by omega]; rfl) | exact t168 (by omega) (by omega) _ (by rw [show u + v - 2 = 2 by omega]; rfl) | exact t168 (by omega) (by omega) _ (by rw [show u + v - 2 = 3 by omega]; rfl) | exact t168 (by omega) (by omega) _ (by rw [List.getD_eq_getElem?_getD, List.getElem?_eq_none (by show 4 ≤ _; omega), ← iI_nat (u + v), iI_add]; rfl)
              · skip
                rw [nI_eq (by omega) (by decide)] at c144
                refine jl_bipush (v := 11) h (by decide) dc_MO_within_147 149 rfl ?_
                refine jl_goto h 168 (by decide) dc_MO_within_149 ?_
                first | exact t168 (by omega) (by omega) _ (by rw [show u + v - 2 = 0 by omega]; rfl) | exact t168 (by omega) (by omega) _ (by rw [show u + v - 2 = 1 by omega]; rfl) | exact t168 (by omega) (by omega) _ (by rw [show u + v - 2 = 2 by omega]; rfl) | exact t168 (by omega) (by omega) _ (by rw [show u + v - 2 = 3 by omega]; rfl) | exact t168 (by omega) (by omega) _ (by rw [List.getD_eq_getElem?_getD, List.getElem?_eq_none (by show 4 ≤ _; omega), ← iI_nat (u + v), iI_add]; rfl)
            · skip
              rw [nI_eq (by omega) (by decide)] at c133
              refine jl_bipush (v := 16) h (by decide) dc_MO_within_136 138 rfl ?_
              refine jl_goto h 168 (by decide) dc_MO_within_138 ?_
              first | exact t168 (by omega) (by omega) _ (by rw [show u + v - 2 = 0 by omega]; rfl) | exact t168 (by omega) (by omega) _ (by rw [show u + v - 2 = 1 by omega]; rfl) | exact t168 (by omega) (by omega) _ (by rw [show u + v - 2 = 2 by omega]; rfl) | exact t168 (by omega) (by omega) _ (by rw [show u + v - 2 = 3 by omega]; rfl) | exact t168 (by omega) (by omega) _ (by rw [List.getD_eq_getElem?_getD, List.getElem?_eq_none (by show 4 ≤ _; omega), ← iI_nat (u + v), iI_add]; rfl)
          · skip
            rw [nI_eq (by omega) (by decide)] at c123
            refine jl_iconst (v := 5) h (by decide) dc_MO_within_126 127 rfl ?_
            refine jl_goto h 168 (by decide) dc_MO_within_127 ?_
            first | exact t168 (by omega) (by omega) _ (by rw [show u + v - 2 = 0 by omega]; rfl) | exact t168 (by omega) (by omega) _ (by rw [show u + v - 2 = 1 by omega]; rfl) | exact t168 (by omega) (by omega) _ (by rw [show u + v - 2 = 2 by omega]; rfl) | exact t168 (by omega) (by omega) _ (by rw [show u + v - 2 = 3 by omega]; rfl) | exact t168 (by omega) (by omega) _ (by rw [List.getD_eq_getElem?_getD, List.getElem?_eq_none (by show 4 ≤ _; omega), ← iI_nat (u + v), iI_add]; rfl)
        · skip
          rw [z0, nI_eq (by omega) (by decide)] at c59
          refine jl_iload h rfl dc_MO_within_62 64 rfl ?_
          refine jl_iload h rfl dc_MO_within_64 66 rfl ?_
          refine jl_iadd h dc_MO_within_66 67 rfl ?_
          rw [show nI u + nI v = nI (u + v) by exact e3]
          refine jl_istore (i := 8) (lc2 := [(8, _), (7, _), (6, _), (5, _), (0, _), (1, _), (2, _), (3, _), (4, _)]) h (by decide) rfl dc_MO_within_67 69 rfl ?_
          refine jl_iload h rfl dc_MO_within_69 71 rfl ?_
          refine jl_iconst (v := nI 1) h (by decide) dc_MO_within_71 72 rfl ?_
          refine jl_icmp_ne h 83 (by decide) dc_MO_within_72 75 rfl (fun c72 => ?_) (fun c72 => ?_)
          · skip
            rw [nI_eq (by omega) (by decide)] at c72
            refine jl_iload h rfl dc_MO_within_83 85 rfl ?_
            refine jl_iconst (v := nI 2) h (by decide) dc_MO_within_85 86 rfl ?_
            refine jl_icmp_ne h 94 (by decide) dc_MO_within_86 89 rfl (fun c86 => ?_) (fun c86 => ?_)
            · skip
              rw [nI_eq (by omega) (by decide)] at c86
              refine jl_iload h rfl dc_MO_within_94 96 rfl ?_
              refine jl_iconst (v := nI 3) h (by decide) dc_MO_within_96 97 rfl ?_
              refine jl_icmp_ne h 105 (by decide) dc_MO_within_97 100 rfl (fun c97 => ?_) (fun c97 => ?_)
              · skip
                rw [nI_eq (by omega) (by decide)] at c97
                refine jl_bipush (v := iI 20) h (by decide) dc_MO_within_105 107 rfl ?_
                refine jl_iconst (v := iI 4) h (by decide) dc_MO_within_107 108 rfl ?_
                refine jl_iload h rfl dc_MO_within_108 110 rfl ?_
                refine jl_imul h dc_MO_within_110 111 rfl ?_
                refine jl_iadd h dc_MO_within_111 112 rfl ?_
                exact jl_zret h he rfl (by rw [hw1, if_pos (by omega)]; unfold lp_bul; first | (rw [if_pos (by omega)]; done) | (rw [if_neg (by omega), if_pos (by omega), ← iI_add]; done) | (rw [if_neg (by omega), if_neg (by omega), if_pos (by omega)]; rfl) | (rw [if_neg (by omega), if_neg (by omega), if_neg (by omega), if_pos (by omega)]; rfl) | (rw [if_neg (by omega), if_neg (by omega), if_neg (by omega), if_neg (by omega), ← iI_nat (u + v), iI_mul, iI_add])) (rfl) dc_MO_within_112
              · skip
                rw [nI_eq (by omega) (by decide)] at c97
                refine jl_bipush (v := 32) h (by decide) dc_MO_within_100 102 rfl ?_
                refine jl_goto h 112 (by decide) dc_MO_within_102 ?_
                exact jl_zret h he rfl (by rw [hw1, if_pos (by omega)]; unfold lp_bul; first | (rw [if_pos (by omega)]; done) | (rw [if_neg (by omega), if_pos (by omega), ← iI_add]; done) | (rw [if_neg (by omega), if_neg (by omega), if_pos (by omega)]; rfl) | (rw [if_neg (by omega), if_neg (by omega), if_neg (by omega), if_pos (by omega)]; rfl) | (rw [if_neg (by omega), if_neg (by omega), if_neg (by omega), if_neg (by omega), ← iI_nat (u + v), iI_mul, iI_add])) (rfl) dc_MO_within_112
            · skip
              rw [nI_eq (by omega) (by decide)] at c86
              refine jl_bipush (v := 28) h (by decide) dc_MO_within_89 91 rfl ?_
              refine jl_goto h 112 (by decide) dc_MO_within_91 ?_
              exact jl_zret h he rfl (by rw [hw1, if_pos (by omega)]; unfold lp_bul; first | (rw [if_pos (by omega)]; done) | (rw [if_neg (by omega), if_pos (by omega), ← iI_add]; done) | (rw [if_neg (by omega), if_neg (by omega), if_pos (by omega)]; rfl) | (rw [if_neg (by omega), if_neg (by omega), if_neg (by omega), if_pos (by omega)]; rfl) | (rw [if_neg (by omega), if_neg (by omega), if_neg (by omega), if_neg (by omega), ← iI_nat (u + v), iI_mul, iI_add])) (rfl) dc_MO_within_112
          · skip
            rw [nI_eq (by omega) (by decide)] at c72
            refine jl_bipush (v := iI 38) h (by decide) dc_MO_within_75 77 rfl ?_
            refine jl_iload h rfl dc_MO_within_77 79 rfl ?_
            refine jl_iadd h dc_MO_within_79 80 rfl ?_
            refine jl_goto h 112 (by decide) dc_MO_within_80 ?_
            exact jl_zret h he rfl (by rw [hw1, if_pos (by omega)]; unfold lp_bul; first | (rw [if_pos (by omega)]; done) | (rw [if_neg (by omega), if_pos (by omega), ← iI_add]; done) | (rw [if_neg (by omega), if_neg (by omega), if_pos (by omega)]; rfl) | (rw [if_neg (by omega), if_neg (by omega), if_neg (by omega), if_pos (by omega)]; rfl) | (rw [if_neg (by omega), if_neg (by omega), if_neg (by omega), if_neg (by omega), ← iI_nat (u + v), iI_mul, iI_add])) (rfl) dc_MO_within_112
    · skip
      rw [z0, nI_eq (by omega) (by decide)] at c46
      refine jl_iload h rfl dc_MO_within_49 51 rfl ?_
      exact jl_zret h he rfl (by rw [hw1, if_pos (by omega)]; unfold lp_bul; first | (rw [if_pos (by omega)]; done) | (rw [if_neg (by omega), if_pos (by omega), ← iI_add]; done) | (rw [if_neg (by omega), if_neg (by omega), if_pos (by omega)]; rfl) | (rw [if_neg (by omega), if_neg (by omega), if_neg (by omega), if_pos (by omega)]; rfl) | (rw [if_neg (by omega), if_neg (by omega), if_neg (by omega), if_neg (by omega), ← iI_nat (u + v), iI_mul, iI_add])) (rfl) dc_MO_within_51
end MO

