/-! The reference: loopOf, energyNow, pairsNow, bound, begin. -/
/-- how many pairs begin below a place -/
def mo_pc (w : Nat → Int) : Nat → Nat
  | 0 => 0
  | k + 1 => mo_pc w k + (if (k : Int) < w k then 1 else 0)
theorem mo_pc_le (w : Nat → Int) : ∀ k, mo_pc w k ≤ k
  | 0 => Nat.le_refl _
  | k + 1 => by
    have := mo_pc_le w k
    unfold mo_pc
    split <;> omega
abbrev bc_MO_loopOf : ByteArray := prog_9_method_11_code
abbrev yn_MO_loopOf : MethodName := ⟨"FoldedStrandModel", "loopOf", "(II)I"⟩
theorem wl_MO_19 : Cond.fieldLink "FoldedStrandModel" 19 "FoldedStrandModel" "with" "[I" ∈ jl_T := jl_T_of 520 (by decide +kernel) (by decide +kernel)
theorem vs_MO_57 : jl_v "FoldedStrandModel" 57 yn_MO_closed bc_MO_closed 5 (some .int) 3 := ⟨jl_T_of 597 (by decide +kernel) (by decide +kernel), jl_T_of 9 (by decide +kernel) (by decide +kernel), jl_T_of 594 (by decide +kernel) (by decide +kernel), by decide +kernel, by decide +kernel, by decide +kernel⟩
theorem vi_MO_closed : Cond.instanceMethod yn_MO_closed ∈ jl_T := jl_T_of 596 (by decide +kernel) (by decide +kernel)
theorem vx_MO_closed : Cond.selects "FoldedStrandModel" yn_MO_closed yn_MO_closed ∈ jl_T := jl_T_sel 19 (by decide +kernel) (by decide +kernel)
theorem vs_MO_60 : jl_v "FoldedStrandModel" 60 yn_MO_within bc_MO_within 11 (some .int) 4 := ⟨jl_T_of 605 (by decide +kernel) (by decide +kernel), jl_T_of 9 (by decide +kernel) (by decide +kernel), jl_T_of 602 (by decide +kernel) (by decide +kernel), by decide +kernel, by decide +kernel, by decide +kernel⟩
theorem vi_MO_within : Cond.instanceMethod yn_MO_within ∈ jl_T := jl_T_of 604 (by decide +kernel) (by decide +kernel)
theorem vx_MO_within : Cond.selects "FoldedStrandModel" yn_MO_within yn_MO_within ∈ jl_T := jl_T_sel 21 (by decide +kernel) (by decide +kernel)
theorem dc_MO_loopOf_0 : decode bc_MO_loopOf 0 = .ok (.iconst 0, 1) := by decide +kernel
theorem dc_MO_loopOf_1 : decode bc_MO_loopOf 1 = .ok (.istore_n 3, 1) := by decide +kernel
theorem dc_MO_loopOf_2 : decode bc_MO_loopOf 2 = .ok (.iconst 0, 1) := by decide +kernel
theorem dc_MO_loopOf_3 : decode bc_MO_loopOf 3 = .ok (.istore 4, 2) := by decide +kernel
theorem dc_MO_loopOf_5 : decode bc_MO_loopOf 5 = .ok (.aload_n 0, 1) := by decide +kernel
theorem dc_MO_loopOf_6 : decode bc_MO_loopOf 6 = .ok (.iload_n 1, 1) := by decide +kernel
theorem dc_MO_loopOf_7 : decode bc_MO_loopOf 7 = .ok (.iload_n 2, 1) := by decide +kernel
theorem dc_MO_loopOf_8 : decode bc_MO_loopOf 8 = .ok (.iconst 5, 1) := by decide +kernel
theorem dc_MO_loopOf_9 : decode bc_MO_loopOf 9 = .ok (.invokevirtual 53, 3) := by decide +kernel
theorem dc_MO_loopOf_12 : decode bc_MO_loopOf 12 = .ok (.istore 5, 2) := by decide +kernel
theorem dc_MO_loopOf_14 : decode bc_MO_loopOf 14 = .ok (.iconst (-1), 1) := by decide +kernel
theorem dc_MO_loopOf_15 : decode bc_MO_loopOf 15 = .ok (.istore 6, 2) := by decide +kernel
theorem dc_MO_loopOf_17 : decode bc_MO_loopOf 17 = .ok (.iload_n 1, 1) := by decide +kernel
theorem dc_MO_loopOf_18 : decode bc_MO_loopOf 18 = .ok (.iconst 1, 1) := by decide +kernel
theorem dc_MO_loopOf_19 : decode bc_MO_loopOf 19 = .ok (.iadd, 1) := by decide +kernel
theorem dc_MO_loopOf_20 : decode bc_MO_loopOf 20 = .ok (.istore 7, 2) := by decide +kernel
theorem dc_MO_loopOf_22 : decode bc_MO_loopOf 22 = .ok (.iload 7, 2) := by decide +kernel
theorem dc_MO_loopOf_24 : decode bc_MO_loopOf 24 = .ok (.iload_n 2, 1) := by decide +kernel
theorem dc_MO_loopOf_25 : decode bc_MO_loopOf 25 = .ok (.if_icmp .ge 64, 3) := by decide +kernel
theorem dc_MO_loopOf_28 : decode bc_MO_loopOf 28 = .ok (.aload_n 0, 1) := by decide +kernel
theorem dc_MO_loopOf_29 : decode bc_MO_loopOf 29 = .ok (.getfield 19, 3) := by decide +kernel
theorem dc_MO_loopOf_32 : decode bc_MO_loopOf 32 = .ok (.iload 7, 2) := by decide +kernel
theorem dc_MO_loopOf_34 : decode bc_MO_loopOf 34 = .ok (.iaload, 1) := by decide +kernel
theorem dc_MO_loopOf_35 : decode bc_MO_loopOf 35 = .ok (.iload 7, 2) := by decide +kernel
theorem dc_MO_loopOf_37 : decode bc_MO_loopOf 37 = .ok (.if_icmp .le 43, 3) := by decide +kernel
theorem dc_MO_loopOf_40 : decode bc_MO_loopOf 40 = .ok (.iinc 3 1, 3) := by decide +kernel
theorem dc_MO_loopOf_43 : decode bc_MO_loopOf 43 = .ok (.iload 7, 2) := by decide +kernel
theorem dc_MO_loopOf_45 : decode bc_MO_loopOf 45 = .ok (.istore 6, 2) := by decide +kernel
theorem dc_MO_loopOf_47 : decode bc_MO_loopOf 47 = .ok (.iload 5, 2) := by decide +kernel
theorem dc_MO_loopOf_49 : decode bc_MO_loopOf 49 = .ok (.aload_n 0, 1) := by decide +kernel
theorem dc_MO_loopOf_50 : decode bc_MO_loopOf 50 = .ok (.iload 7, 2) := by decide +kernel
theorem dc_MO_loopOf_52 : decode bc_MO_loopOf 52 = .ok (.aload_n 0, 1) := by decide +kernel
theorem dc_MO_loopOf_53 : decode bc_MO_loopOf 53 = .ok (.getfield 19, 3) := by decide +kernel
theorem dc_MO_loopOf_56 : decode bc_MO_loopOf 56 = .ok (.iload 7, 2) := by decide +kernel
theorem dc_MO_loopOf_58 : decode bc_MO_loopOf 58 = .ok (.iaload, 1) := by decide +kernel
theorem dc_MO_loopOf_59 : decode bc_MO_loopOf 59 = .ok (.iconst 5, 1) := by decide +kernel
theorem dc_MO_loopOf_60 : decode bc_MO_loopOf 60 = .ok (.invokevirtual 53, 3) := by decide +kernel
theorem dc_MO_loopOf_63 : decode bc_MO_loopOf 63 = .ok (.iadd, 1) := by decide +kernel
theorem dc_MO_loopOf_64 : decode bc_MO_loopOf 64 = .ok (.istore 5, 2) := by decide +kernel
theorem dc_MO_loopOf_66 : decode bc_MO_loopOf 66 = .ok (.aload_n 0, 1) := by decide +kernel
theorem dc_MO_loopOf_67 : decode bc_MO_loopOf 67 = .ok (.getfield 19, 3) := by decide +kernel
theorem dc_MO_loopOf_70 : decode bc_MO_loopOf 70 = .ok (.iload 7, 2) := by decide +kernel
theorem dc_MO_loopOf_72 : decode bc_MO_loopOf 72 = .ok (.iaload, 1) := by decide +kernel
theorem dc_MO_loopOf_73 : decode bc_MO_loopOf 73 = .ok (.iconst 1, 1) := by decide +kernel
theorem dc_MO_loopOf_74 : decode bc_MO_loopOf 74 = .ok (.iadd, 1) := by decide +kernel
theorem dc_MO_loopOf_75 : decode bc_MO_loopOf 75 = .ok (.istore 7, 2) := by decide +kernel
theorem dc_MO_loopOf_77 : decode bc_MO_loopOf 77 = .ok (.goto (-55), 3) := by decide +kernel
theorem dc_MO_loopOf_80 : decode bc_MO_loopOf 80 = .ok (.iinc 4 1, 3) := by decide +kernel
theorem dc_MO_loopOf_83 : decode bc_MO_loopOf 83 = .ok (.iinc 7 1, 3) := by decide +kernel
theorem dc_MO_loopOf_86 : decode bc_MO_loopOf 86 = .ok (.goto (-64), 3) := by decide +kernel
theorem dc_MO_loopOf_89 : decode bc_MO_loopOf 89 = .ok (.iload_n 3, 1) := by decide +kernel
theorem dc_MO_loopOf_90 : decode bc_MO_loopOf 90 = .ok (.ifCond .ne 14, 3) := by decide +kernel
theorem dc_MO_loopOf_93 : decode bc_MO_loopOf 93 = .ok (.aload_n 0, 1) := by decide +kernel
theorem dc_MO_loopOf_94 : decode bc_MO_loopOf 94 = .ok (.iload_n 1, 1) := by decide +kernel
theorem dc_MO_loopOf_95 : decode bc_MO_loopOf 95 = .ok (.iload_n 2, 1) := by decide +kernel
theorem dc_MO_loopOf_96 : decode bc_MO_loopOf 96 = .ok (.iload 4, 2) := by decide +kernel
theorem dc_MO_loopOf_98 : decode bc_MO_loopOf 98 = .ok (.invokevirtual 57, 3) := by decide +kernel
theorem dc_MO_loopOf_101 : decode bc_MO_loopOf 101 = .ok (.goto 40, 3) := by decide +kernel
theorem dc_MO_loopOf_104 : decode bc_MO_loopOf 104 = .ok (.iload_n 3, 1) := by decide +kernel
theorem dc_MO_loopOf_105 : decode bc_MO_loopOf 105 = .ok (.iconst 1, 1) := by decide +kernel
theorem dc_MO_loopOf_106 : decode bc_MO_loopOf 106 = .ok (.if_icmp .ne 21, 3) := by decide +kernel
theorem dc_MO_loopOf_109 : decode bc_MO_loopOf 109 = .ok (.aload_n 0, 1) := by decide +kernel
theorem dc_MO_loopOf_110 : decode bc_MO_loopOf 110 = .ok (.iload_n 1, 1) := by decide +kernel
theorem dc_MO_loopOf_111 : decode bc_MO_loopOf 111 = .ok (.iload_n 2, 1) := by decide +kernel
theorem dc_MO_loopOf_112 : decode bc_MO_loopOf 112 = .ok (.iload 6, 2) := by decide +kernel
theorem dc_MO_loopOf_114 : decode bc_MO_loopOf 114 = .ok (.aload_n 0, 1) := by decide +kernel
theorem dc_MO_loopOf_115 : decode bc_MO_loopOf 115 = .ok (.getfield 19, 3) := by decide +kernel
theorem dc_MO_loopOf_118 : decode bc_MO_loopOf 118 = .ok (.iload 6, 2) := by decide +kernel
theorem dc_MO_loopOf_120 : decode bc_MO_loopOf 120 = .ok (.iaload, 1) := by decide +kernel
theorem dc_MO_loopOf_121 : decode bc_MO_loopOf 121 = .ok (.invokevirtual 60, 3) := by decide +kernel
theorem dc_MO_loopOf_124 : decode bc_MO_loopOf 124 = .ok (.goto 17, 3) := by decide +kernel
theorem dc_MO_loopOf_127 : decode bc_MO_loopOf 127 = .ok (.bipush 34, 2) := by decide +kernel
theorem dc_MO_loopOf_129 : decode bc_MO_loopOf 129 = .ok (.iconst 4, 1) := by decide +kernel
theorem dc_MO_loopOf_130 : decode bc_MO_loopOf 130 = .ok (.iload_n 3, 1) := by decide +kernel
theorem dc_MO_loopOf_131 : decode bc_MO_loopOf 131 = .ok (.iconst 1, 1) := by decide +kernel
theorem dc_MO_loopOf_132 : decode bc_MO_loopOf 132 = .ok (.iadd, 1) := by decide +kernel
theorem dc_MO_loopOf_133 : decode bc_MO_loopOf 133 = .ok (.imul, 1) := by decide +kernel
theorem dc_MO_loopOf_134 : decode bc_MO_loopOf 134 = .ok (.iadd, 1) := by decide +kernel
theorem dc_MO_loopOf_135 : decode bc_MO_loopOf 135 = .ok (.iload 4, 2) := by decide +kernel
theorem dc_MO_loopOf_137 : decode bc_MO_loopOf 137 = .ok (.iadd, 1) := by decide +kernel
theorem dc_MO_loopOf_138 : decode bc_MO_loopOf 138 = .ok (.iload 5, 2) := by decide +kernel
theorem dc_MO_loopOf_140 : decode bc_MO_loopOf 140 = .ok (.iadd, 1) := by decide +kernel
theorem dc_MO_loopOf_141 : decode bc_MO_loopOf 141 = .ok (.ireturn, 1) := by decide +kernel
abbrev bc_MO_energyNow : ByteArray := prog_9_method_12_code
abbrev yn_MO_energyNow : MethodName := ⟨"FoldedStrandModel", "energyNow", "()I"⟩
theorem vs_MO_64 : jl_v "FoldedStrandModel" 64 yn_MO_loopOf bc_MO_loopOf 8 (some .int) 2 := ⟨jl_T_of 585 (by decide +kernel) (by decide +kernel), jl_T_of 9 (by decide +kernel) (by decide +kernel), jl_T_of 582 (by decide +kernel) (by decide +kernel), by decide +kernel, by decide +kernel, by decide +kernel⟩
theorem vi_MO_loopOf : Cond.instanceMethod yn_MO_loopOf ∈ jl_T := jl_T_of 584 (by decide +kernel) (by decide +kernel)
theorem vx_MO_loopOf : Cond.selects "FoldedStrandModel" yn_MO_loopOf yn_MO_loopOf ∈ jl_T := jl_T_sel 16 (by decide +kernel) (by decide +kernel)
theorem dc_MO_energyNow_0 : decode bc_MO_energyNow 0 = .ok (.iconst 0, 1) := by decide +kernel
theorem dc_MO_energyNow_1 : decode bc_MO_energyNow 1 = .ok (.istore_n 1, 1) := by decide +kernel
theorem dc_MO_energyNow_2 : decode bc_MO_energyNow 2 = .ok (.iconst 0, 1) := by decide +kernel
theorem dc_MO_energyNow_3 : decode bc_MO_energyNow 3 = .ok (.istore_n 2, 1) := by decide +kernel
theorem dc_MO_energyNow_4 : decode bc_MO_energyNow 4 = .ok (.iconst 0, 1) := by decide +kernel
theorem dc_MO_energyNow_5 : decode bc_MO_energyNow 5 = .ok (.istore_n 3, 1) := by decide +kernel
theorem dc_MO_energyNow_6 : decode bc_MO_energyNow 6 = .ok (.iload_n 3, 1) := by decide +kernel
theorem dc_MO_energyNow_7 : decode bc_MO_energyNow 7 = .ok (.aload_n 0, 1) := by decide +kernel
theorem dc_MO_energyNow_8 : decode bc_MO_energyNow 8 = .ok (.getfield 42, 3) := by decide +kernel
theorem dc_MO_energyNow_11 : decode bc_MO_energyNow 11 = .ok (.if_icmp .ge 80, 3) := by decide +kernel
theorem dc_MO_energyNow_14 : decode bc_MO_energyNow 14 = .ok (.aload_n 0, 1) := by decide +kernel
theorem dc_MO_energyNow_15 : decode bc_MO_energyNow 15 = .ok (.getfield 19, 3) := by decide +kernel
theorem dc_MO_energyNow_18 : decode bc_MO_energyNow 18 = .ok (.iload_n 3, 1) := by decide +kernel
theorem dc_MO_energyNow_19 : decode bc_MO_energyNow 19 = .ok (.iaload, 1) := by decide +kernel
theorem dc_MO_energyNow_20 : decode bc_MO_energyNow 20 = .ok (.iload_n 3, 1) := by decide +kernel
theorem dc_MO_energyNow_21 : decode bc_MO_energyNow 21 = .ok (.if_icmp .le 64, 3) := by decide +kernel
theorem dc_MO_energyNow_24 : decode bc_MO_energyNow 24 = .ok (.iload_n 1, 1) := by decide +kernel
theorem dc_MO_energyNow_25 : decode bc_MO_energyNow 25 = .ok (.aload_n 0, 1) := by decide +kernel
theorem dc_MO_energyNow_26 : decode bc_MO_energyNow 26 = .ok (.iload_n 3, 1) := by decide +kernel
theorem dc_MO_energyNow_27 : decode bc_MO_energyNow 27 = .ok (.aload_n 0, 1) := by decide +kernel
theorem dc_MO_energyNow_28 : decode bc_MO_energyNow 28 = .ok (.getfield 19, 3) := by decide +kernel
theorem dc_MO_energyNow_31 : decode bc_MO_energyNow 31 = .ok (.iload_n 3, 1) := by decide +kernel
theorem dc_MO_energyNow_32 : decode bc_MO_energyNow 32 = .ok (.iaload, 1) := by decide +kernel
theorem dc_MO_energyNow_33 : decode bc_MO_energyNow 33 = .ok (.invokevirtual 64, 3) := by decide +kernel
theorem dc_MO_energyNow_36 : decode bc_MO_energyNow 36 = .ok (.iadd, 1) := by decide +kernel
theorem dc_MO_energyNow_37 : decode bc_MO_energyNow 37 = .ok (.istore_n 1, 1) := by decide +kernel
theorem dc_MO_energyNow_38 : decode bc_MO_energyNow 38 = .ok (.iload_n 1, 1) := by decide +kernel
theorem dc_MO_energyNow_39 : decode bc_MO_energyNow 39 = .ok (.iload_n 3, 1) := by decide +kernel
theorem dc_MO_energyNow_40 : decode bc_MO_energyNow 40 = .ok (.iload_n 2, 1) := by decide +kernel
theorem dc_MO_energyNow_41 : decode bc_MO_energyNow 41 = .ok (.if_icmp .lt 18, 3) := by decide +kernel
theorem dc_MO_energyNow_44 : decode bc_MO_energyNow 44 = .ok (.aload_n 0, 1) := by decide +kernel
theorem dc_MO_energyNow_45 : decode bc_MO_energyNow 45 = .ok (.iload_n 3, 1) := by decide +kernel
theorem dc_MO_energyNow_46 : decode bc_MO_energyNow 46 = .ok (.aload_n 0, 1) := by decide +kernel
theorem dc_MO_energyNow_47 : decode bc_MO_energyNow 47 = .ok (.getfield 19, 3) := by decide +kernel
theorem dc_MO_energyNow_50 : decode bc_MO_energyNow 50 = .ok (.iload_n 3, 1) := by decide +kernel
theorem dc_MO_energyNow_51 : decode bc_MO_energyNow 51 = .ok (.iaload, 1) := by decide +kernel
theorem dc_MO_energyNow_52 : decode bc_MO_energyNow 52 = .ok (.iconst 5, 1) := by decide +kernel
theorem dc_MO_energyNow_53 : decode bc_MO_energyNow 53 = .ok (.invokevirtual 53, 3) := by decide +kernel
theorem dc_MO_energyNow_56 : decode bc_MO_energyNow 56 = .ok (.goto 4, 3) := by decide +kernel
theorem dc_MO_energyNow_59 : decode bc_MO_energyNow 59 = .ok (.iconst 0, 1) := by decide +kernel
theorem dc_MO_energyNow_60 : decode bc_MO_energyNow 60 = .ok (.iadd, 1) := by decide +kernel
theorem dc_MO_energyNow_61 : decode bc_MO_energyNow 61 = .ok (.istore_n 1, 1) := by decide +kernel
theorem dc_MO_energyNow_62 : decode bc_MO_energyNow 62 = .ok (.aload_n 0, 1) := by decide +kernel
theorem dc_MO_energyNow_63 : decode bc_MO_energyNow 63 = .ok (.getfield 19, 3) := by decide +kernel
theorem dc_MO_energyNow_66 : decode bc_MO_energyNow 66 = .ok (.iload_n 3, 1) := by decide +kernel
theorem dc_MO_energyNow_67 : decode bc_MO_energyNow 67 = .ok (.iaload, 1) := by decide +kernel
theorem dc_MO_energyNow_68 : decode bc_MO_energyNow 68 = .ok (.iload_n 2, 1) := by decide +kernel
theorem dc_MO_energyNow_69 : decode bc_MO_energyNow 69 = .ok (.if_icmp .lt 14, 3) := by decide +kernel
theorem dc_MO_energyNow_72 : decode bc_MO_energyNow 72 = .ok (.aload_n 0, 1) := by decide +kernel
theorem dc_MO_energyNow_73 : decode bc_MO_energyNow 73 = .ok (.getfield 19, 3) := by decide +kernel
theorem dc_MO_energyNow_76 : decode bc_MO_energyNow 76 = .ok (.iload_n 3, 1) := by decide +kernel
theorem dc_MO_energyNow_77 : decode bc_MO_energyNow 77 = .ok (.iaload, 1) := by decide +kernel
theorem dc_MO_energyNow_78 : decode bc_MO_energyNow 78 = .ok (.iconst 1, 1) := by decide +kernel
theorem dc_MO_energyNow_79 : decode bc_MO_energyNow 79 = .ok (.iadd, 1) := by decide +kernel
theorem dc_MO_energyNow_80 : decode bc_MO_energyNow 80 = .ok (.goto 4, 3) := by decide +kernel
theorem dc_MO_energyNow_83 : decode bc_MO_energyNow 83 = .ok (.iload_n 2, 1) := by decide +kernel
theorem dc_MO_energyNow_84 : decode bc_MO_energyNow 84 = .ok (.istore_n 2, 1) := by decide +kernel
theorem dc_MO_energyNow_85 : decode bc_MO_energyNow 85 = .ok (.iinc 3 1, 3) := by decide +kernel
theorem dc_MO_energyNow_88 : decode bc_MO_energyNow 88 = .ok (.goto (-82), 3) := by decide +kernel
theorem dc_MO_energyNow_91 : decode bc_MO_energyNow 91 = .ok (.iload_n 1, 1) := by decide +kernel
theorem dc_MO_energyNow_92 : decode bc_MO_energyNow 92 = .ok (.ireturn, 1) := by decide +kernel
abbrev bc_MO_pairsNow : ByteArray := prog_9_method_13_code
abbrev yn_MO_pairsNow : MethodName := ⟨"FoldedStrandModel", "pairsNow", "()I"⟩
theorem dc_MO_pairsNow_0 : decode bc_MO_pairsNow 0 = .ok (.iconst 0, 1) := by decide +kernel
theorem dc_MO_pairsNow_1 : decode bc_MO_pairsNow 1 = .ok (.istore_n 1, 1) := by decide +kernel
theorem dc_MO_pairsNow_2 : decode bc_MO_pairsNow 2 = .ok (.iconst 0, 1) := by decide +kernel
theorem dc_MO_pairsNow_3 : decode bc_MO_pairsNow 3 = .ok (.istore_n 2, 1) := by decide +kernel
theorem dc_MO_pairsNow_4 : decode bc_MO_pairsNow 4 = .ok (.iload_n 2, 1) := by decide +kernel
theorem dc_MO_pairsNow_5 : decode bc_MO_pairsNow 5 = .ok (.aload_n 0, 1) := by decide +kernel
theorem dc_MO_pairsNow_6 : decode bc_MO_pairsNow 6 = .ok (.getfield 42, 3) := by decide +kernel
theorem dc_MO_pairsNow_9 : decode bc_MO_pairsNow 9 = .ok (.if_icmp .ge 27, 3) := by decide +kernel
theorem dc_MO_pairsNow_12 : decode bc_MO_pairsNow 12 = .ok (.iload_n 1, 1) := by decide +kernel
theorem dc_MO_pairsNow_13 : decode bc_MO_pairsNow 13 = .ok (.aload_n 0, 1) := by decide +kernel
theorem dc_MO_pairsNow_14 : decode bc_MO_pairsNow 14 = .ok (.getfield 19, 3) := by decide +kernel
theorem dc_MO_pairsNow_17 : decode bc_MO_pairsNow 17 = .ok (.iload_n 2, 1) := by decide +kernel
theorem dc_MO_pairsNow_18 : decode bc_MO_pairsNow 18 = .ok (.iaload, 1) := by decide +kernel
theorem dc_MO_pairsNow_19 : decode bc_MO_pairsNow 19 = .ok (.iload_n 2, 1) := by decide +kernel
theorem dc_MO_pairsNow_20 : decode bc_MO_pairsNow 20 = .ok (.if_icmp .le 7, 3) := by decide +kernel
theorem dc_MO_pairsNow_23 : decode bc_MO_pairsNow 23 = .ok (.iconst 1, 1) := by decide +kernel
theorem dc_MO_pairsNow_24 : decode bc_MO_pairsNow 24 = .ok (.goto 4, 3) := by decide +kernel
theorem dc_MO_pairsNow_27 : decode bc_MO_pairsNow 27 = .ok (.iconst 0, 1) := by decide +kernel
theorem dc_MO_pairsNow_28 : decode bc_MO_pairsNow 28 = .ok (.iadd, 1) := by decide +kernel
theorem dc_MO_pairsNow_29 : decode bc_MO_pairsNow 29 = .ok (.istore_n 1, 1) := by decide +kernel
theorem dc_MO_pairsNow_30 : decode bc_MO_pairsNow 30 = .ok (.iinc 2 1, 3) := by decide +kernel
theorem dc_MO_pairsNow_33 : decode bc_MO_pairsNow 33 = .ok (.goto (-29), 3) := by decide +kernel
theorem dc_MO_pairsNow_36 : decode bc_MO_pairsNow 36 = .ok (.iload_n 1, 1) := by decide +kernel
theorem dc_MO_pairsNow_37 : decode bc_MO_pairsNow 37 = .ok (.ireturn, 1) := by decide +kernel
abbrev bc_MO_bound : ByteArray := prog_9_method_14_code
abbrev yn_MO_bound : MethodName := ⟨"FoldedStrandModel", "bound", "(I)I"⟩
theorem dc_MO_bound_0 : decode bc_MO_bound 0 = .ok (.aload_n 0, 1) := by decide +kernel
theorem dc_MO_bound_1 : decode bc_MO_bound 1 = .ok (.getfield 42, 3) := by decide +kernel
theorem dc_MO_bound_4 : decode bc_MO_bound 4 = .ok (.istore_n 2, 1) := by decide +kernel
theorem dc_MO_bound_5 : decode bc_MO_bound 5 = .ok (.iconst 0, 1) := by decide +kernel
theorem dc_MO_bound_6 : decode bc_MO_bound 6 = .ok (.istore_n 3, 1) := by decide +kernel
theorem dc_MO_bound_7 : decode bc_MO_bound 7 = .ok (.iload_n 3, 1) := by decide +kernel
theorem dc_MO_bound_8 : decode bc_MO_bound 8 = .ok (.iload_n 1, 1) := by decide +kernel
theorem dc_MO_bound_9 : decode bc_MO_bound 9 = .ok (.if_icmp .ge 40, 3) := by decide +kernel
theorem dc_MO_bound_12 : decode bc_MO_bound 12 = .ok (.aload_n 0, 1) := by decide +kernel
theorem dc_MO_bound_13 : decode bc_MO_bound 13 = .ok (.getfield 19, 3) := by decide +kernel
theorem dc_MO_bound_16 : decode bc_MO_bound 16 = .ok (.iload_n 3, 1) := by decide +kernel
theorem dc_MO_bound_17 : decode bc_MO_bound 17 = .ok (.iaload, 1) := by decide +kernel
theorem dc_MO_bound_18 : decode bc_MO_bound 18 = .ok (.iload_n 1, 1) := by decide +kernel
theorem dc_MO_bound_19 : decode bc_MO_bound 19 = .ok (.if_icmp .le 22, 3) := by decide +kernel
theorem dc_MO_bound_22 : decode bc_MO_bound 22 = .ok (.aload_n 0, 1) := by decide +kernel
theorem dc_MO_bound_23 : decode bc_MO_bound 23 = .ok (.getfield 19, 3) := by decide +kernel
theorem dc_MO_bound_26 : decode bc_MO_bound 26 = .ok (.iload_n 3, 1) := by decide +kernel
theorem dc_MO_bound_27 : decode bc_MO_bound 27 = .ok (.iaload, 1) := by decide +kernel
theorem dc_MO_bound_28 : decode bc_MO_bound 28 = .ok (.iload_n 2, 1) := by decide +kernel
theorem dc_MO_bound_29 : decode bc_MO_bound 29 = .ok (.if_icmp .ge 12, 3) := by decide +kernel
theorem dc_MO_bound_32 : decode bc_MO_bound 32 = .ok (.aload_n 0, 1) := by decide +kernel
theorem dc_MO_bound_33 : decode bc_MO_bound 33 = .ok (.getfield 19, 3) := by decide +kernel
theorem dc_MO_bound_36 : decode bc_MO_bound 36 = .ok (.iload_n 3, 1) := by decide +kernel
theorem dc_MO_bound_37 : decode bc_MO_bound 37 = .ok (.iaload, 1) := by decide +kernel
theorem dc_MO_bound_38 : decode bc_MO_bound 38 = .ok (.goto 4, 3) := by decide +kernel
theorem dc_MO_bound_41 : decode bc_MO_bound 41 = .ok (.iload_n 2, 1) := by decide +kernel
theorem dc_MO_bound_42 : decode bc_MO_bound 42 = .ok (.istore_n 2, 1) := by decide +kernel
theorem dc_MO_bound_43 : decode bc_MO_bound 43 = .ok (.iinc 3 1, 3) := by decide +kernel
theorem dc_MO_bound_46 : decode bc_MO_bound 46 = .ok (.goto (-39), 3) := by decide +kernel
theorem dc_MO_bound_49 : decode bc_MO_bound 49 = .ok (.iload_n 2, 1) := by decide +kernel
theorem dc_MO_bound_50 : decode bc_MO_bound 50 = .ok (.ireturn, 1) := by decide +kernel
abbrev bc_MO_begin : ByteArray := prog_9_method_15_code
abbrev yn_MO_begin : MethodName := ⟨"FoldedStrandModel", "begin", "()V"⟩
theorem dc_MO_begin_0 : decode bc_MO_begin 0 = .ok (.iconst 0, 1) := by decide +kernel
theorem dc_MO_begin_1 : decode bc_MO_begin 1 = .ok (.istore_n 1, 1) := by decide +kernel
theorem dc_MO_begin_2 : decode bc_MO_begin 2 = .ok (.iload_n 1, 1) := by decide +kernel
theorem dc_MO_begin_3 : decode bc_MO_begin 3 = .ok (.bipush 18, 2) := by decide +kernel
theorem dc_MO_begin_5 : decode bc_MO_begin 5 = .ok (.if_icmp .ge 16, 3) := by decide +kernel
theorem dc_MO_begin_8 : decode bc_MO_begin 8 = .ok (.aload_n 0, 1) := by decide +kernel
theorem dc_MO_begin_9 : decode bc_MO_begin 9 = .ok (.getfield 19, 3) := by decide +kernel
theorem dc_MO_begin_12 : decode bc_MO_begin 12 = .ok (.iload_n 1, 1) := by decide +kernel
theorem dc_MO_begin_13 : decode bc_MO_begin 13 = .ok (.iconst (-1), 1) := by decide +kernel
theorem dc_MO_begin_14 : decode bc_MO_begin 14 = .ok (.iastore, 1) := by decide +kernel
theorem dc_MO_begin_15 : decode bc_MO_begin 15 = .ok (.iinc 1 1, 3) := by decide +kernel
theorem dc_MO_begin_18 : decode bc_MO_begin 18 = .ok (.goto (-16), 3) := by decide +kernel
theorem dc_MO_begin_21 : decode bc_MO_begin 21 = .ok (.return_, 1) := by decide +kernel
section MO
variable (l : Launch) {K : Nat → ClassId} {sa : Nat → Nat} {ad : Nat → Nat} {I : Nat → Int32} {V : Nat → Nat → Int32} {L : Nat → Int64} {C : Nat → Int32} {G : Nat → Nat} {R : Nat → Nat} {n : Nat} {b : Nat → Nat} {w : Nat → Int}
theorem c_MO_loopOf (hO : mo_ok I V n b) (hM : V 164 = fun k => iI (w k)) (hw : en_V b n w) {i j : Nat} (hij : i < j) (hwi : w i = j) : jl_C l K sa yn_MO_loopOf bc_MO_loopOf 8 (some .int) 3 95 168 ad [.ref (ad 160), .int (nI i), .int (nI j)] (gw K ad I V L C G R) (some (.int (iI (lp_loop b w i j)))) (gw K ad I V L C G R) := by
  refine jl_enter (by decide) (Nat.le_of_ble_eq_true rfl) (fun x h he hr => ?_)
  have hn := hO.2.2.1
  show jl_J x 168 ad 0 0 (gw K ad I V L C G R) 0 [(0, .ref (ad 160)), (1, .int (nI i)), (2, .int (nI j))] []
  have hcp0 : en_cp b i j = true := by
    have := hw.2.1 i (by omega)
    rwa [hwi, Int.toNat_natCast] at this
  have hj18 : j < n := by
    rcases hw.1 i with h1 | h1 <;> omega
  obtain ⟨hcp4, hkd⟩ := en_cp_4 hcp0
  have hmat : gw K ad I V L C G R 164 = .inl (K 0, 18, .inl (fun k => iI (w k))) := gw_at rfl rfl hM
  have z0 : (0 : Int32) = nI 0 := rfl
  have z1 : (1 : Int32) = nI 1 := rfl
  have loop : ∀ (dd p : Nat), j - p ≤ dd → i < p → p ≤ j → ∀ (bs : List (Nat × Nat)) (u : Nat) (la : Int32), (∀ s, s ∈ bs → i < s.1 ∧ s.1 < s.2 ∧ s.2 < j ∧ w s.1 = (s.2 : Int)) → (bs = [] ∨ ∃ bs0 k m, bs = bs0 ++ [(k, m)] ∧ la = nI k) → (bs = [] → u + (i + 1) = p) → tp_l w (i + 1) j = (bs ++ (tp_l w p j).1, u + (tp_l w p j).2) → u ≤ p → bs.length ≤ p → jl_J x 168 ad 0 0 (gw K ad I V L C G R) 22 [(7, .int (nI p)), (6, .int la), (5, .int (iI (lp_wk b i j 5 + lp_ws b bs))), (4, .int (nI u)), (3, .int (nI bs.length)), (0, .ref (ad 160)), (1, .int (nI i)), (2, .int (nI j))] [] := by
    intro dd
    induction dd with
    | zero =>
      intro p hp hip hpj bs u la hbs hla hu0 htp hu hlen
      have hp : p = j := by omega
      subst hp
      rw [tp_end (Nat.le_refl p), List.append_nil] at htp
      match bs, hbs, hla, hu0, htp, hlen with
      | [], hbs, hla, hu0, htp, hlen =>
        have hu9 : nI u = nI (p - i - 1) := by rw [show u = p - i - 1 by have := hu0 rfl; omega]
        rw [hu9]
        refine jl_iload h rfl dc_MO_loopOf_22 24 rfl ?_
        refine jl_iload_n (i := 2) h rfl rfl dc_MO_loopOf_24 25 rfl ?_
        refine jl_icmp_ge h 89 (by decide) dc_MO_loopOf_25 28 rfl (fun c25 => ?_) (fun c25 => absurd (nI_le (Nat.le_refl _) (by omega)) c25)
        refine jl_iload_n (i := 3) h rfl rfl dc_MO_loopOf_89 90 rfl ?_
        refine jl_if_ne h 104 (by decide) dc_MO_loopOf_90 93 rfl (fun c90 => absurd (rfl) c90) (fun c90 => ?_)
        refine jl_aload_n (i := 0) h rfl rfl dc_MO_loopOf_93 94 rfl ?_
        refine jl_iload_n (i := 1) h rfl rfl dc_MO_loopOf_94 95 rfl ?_
        refine jl_iload_n (i := 2) h rfl rfl dc_MO_loopOf_95 96 rfl ?_
        refine jl_iload h rfl dc_MO_loopOf_96 98 rfl ?_
        refine jl_callV (As := [_, _, _]) (rest := []) h hr vs_MO_57 vi_MO_closed vx_MO_closed (ci := 7) rfl (by omega) (by exact rfl) (fun l => c_MO_closed l hO hcp4 (by omega)) (by first | decide | omega) (by first | decide | omega) rfl rfl (Nat.le_of_ble_eq_true rfl) dc_MO_loopOf_98 (res := [_]) rfl 101 rfl ?_
        refine jl_goto h 141 (by decide) dc_MO_loopOf_101 ?_
        exact jl_zret h he rfl (by unfold lp_loop; rw [htp]; rfl) (rfl) dc_MO_loopOf_141
      | [(k, m)], hbs, hla, hu0, htp, hlen =>
        have hk := hbs (k, m) List.mem_cons_self
        have hlk : la = nI k := by
          rcases hla with h9 | ⟨bs0, k0, m0, h9, h90⟩
          · cases h9
          · have h8 := congrArg List.getLast? h9
            rw [List.getLast?_concat] at h8
            have h7 := Option.some.inj h8
            rw [h90]
            congr 1
            exact (congrArg Prod.fst h7).symm
        subst hlk
        have hk1 : i < k ∧ k < m ∧ m < p ∧ w k = (m : Int) := hk
        have hcp1 : en_cp b k m = true := by
          have := hw.2.1 k (by omega)
          rwa [hk1.2.2.2, Int.toNat_natCast] at this
        refine jl_iload h rfl dc_MO_loopOf_22 24 rfl ?_
        refine jl_iload_n (i := 2) h rfl rfl dc_MO_loopOf_24 25 rfl ?_
        refine jl_icmp_ge h 89 (by decide) dc_MO_loopOf_25 28 rfl (fun c25 => ?_) (fun c25 => absurd (nI_le (Nat.le_refl _) (by omega)) c25)
        refine jl_iload_n (i := 3) h rfl rfl dc_MO_loopOf_89 90 rfl ?_
        refine jl_if_ne h 104 (by decide) dc_MO_loopOf_90 93 rfl (fun c90 => ?_) (fun c90 => absurd c90 (by show ¬ nI 1 = 0; decide))
        refine jl_iload_n (i := 3) h rfl rfl dc_MO_loopOf_104 105 rfl ?_
        refine jl_iconst (v := nI 1) h (by decide) dc_MO_loopOf_105 106 rfl ?_
        refine jl_icmp_ne h 127 (by decide) dc_MO_loopOf_106 109 rfl (fun c106 => absurd (rfl) c106) (fun c106 => ?_)
        refine jl_aload_n (i := 0) h rfl rfl dc_MO_loopOf_109 110 rfl ?_
        refine jl_iload_n (i := 1) h rfl rfl dc_MO_loopOf_110 111 rfl ?_
        refine jl_iload_n (i := 2) h rfl rfl dc_MO_loopOf_111 112 rfl ?_
        refine jl_iload h rfl dc_MO_loopOf_112 114 rfl ?_
        refine jl_aload_n (i := 0) h rfl rfl dc_MO_loopOf_114 115 rfl ?_
        refine jl_getf h nm_c_MO 5 wl_MO_19 (by omega) (by decide) (by exact rfl) (by rfl) dc_MO_loopOf_115 118 rfl ?_
        refine jl_iload h rfl dc_MO_loopOf_118 120 rfl ?_
        refine jl_iald (v := nI m) h (k) (by exact rfl) (by omega) (by exact hmat) (by exact by omega) (by first | decide | assumption) (by exact by show iI (w k) = nI m; rw [hk1.2.2.2, iI_nat]) dc_MO_loopOf_120 121 rfl ?_
        refine jl_callV (As := [_, _, _, _]) (rest := []) h hr vs_MO_60 vi_MO_within vx_MO_within (ci := 7) rfl (by omega) (by exact rfl) (fun l => c_MO_within l hO hk1.1 hk1.2.1 hk1.2.2.1 (by omega) hkd (en_cp_4 hcp1).2) (by first | decide | omega) (by first | decide | omega) rfl rfl (Nat.le_of_ble_eq_true rfl) dc_MO_loopOf_121 (res := [_]) rfl 124 rfl ?_
        refine jl_goto h 141 (by decide) dc_MO_loopOf_124 ?_
        exact jl_zret h he rfl (by unfold lp_loop; rw [htp]; rfl) (rfl) dc_MO_loopOf_141
      | a :: c :: bs, hbs, hla, hu0, htp, hlen =>
        have hl2 : 2 ≤ (a :: c :: bs).length := by simp
        have hmany : lp_loop b w i p = 34 + 4 * (((a :: c :: bs).length + 1 : Nat) : Int) + (u : Int) + (lp_wk b i p 5 + lp_ws b (a :: c :: bs)) := by
          unfold lp_loop
          rw [htp, lp_of_many hl2]
          show 34 + 4 * (((a :: c :: bs).length : Int) + 1) + ((u + 0 : Nat) : Int) + lp_wk b i p 5 + lp_ws b (a :: c :: bs) = _
          omega
        have hne0 : ¬ nI (a :: c :: bs).length = 0 := nI_ne0 (by simp) (by omega)
        have hne1 : ¬ nI (a :: c :: bs).length = nI 1 := by
          rw [nI_eq (by omega) (by decide)]
          omega
        refine jl_iload h rfl dc_MO_loopOf_22 24 rfl ?_
        refine jl_iload_n (i := 2) h rfl rfl dc_MO_loopOf_24 25 rfl ?_
        refine jl_icmp_ge h 89 (by decide) dc_MO_loopOf_25 28 rfl (fun c25 => ?_) (fun c25 => absurd (nI_le (Nat.le_refl _) (by omega)) c25)
        refine jl_iload_n (i := 3) h rfl rfl dc_MO_loopOf_89 90 rfl ?_
        refine jl_if_ne h 104 (by decide) dc_MO_loopOf_90 93 rfl (fun c90 => ?_) (fun c90 => absurd c90 (hne0))
        refine jl_iload_n (i := 3) h rfl rfl dc_MO_loopOf_104 105 rfl ?_
        refine jl_iconst (v := nI 1) h (by decide) dc_MO_loopOf_105 106 rfl ?_
        refine jl_icmp_ne h 127 (by decide) dc_MO_loopOf_106 109 rfl (fun c106 => ?_) (fun c106 => absurd c106 (hne1))
        refine jl_bipush (v := iI 34) h (by decide) dc_MO_loopOf_127 129 rfl ?_
        refine jl_iconst (v := iI 4) h (by decide) dc_MO_loopOf_129 130 rfl ?_
        refine jl_iload_n (i := 3) h rfl rfl dc_MO_loopOf_130 131 rfl ?_
        refine jl_iconst (v := nI 1) h (by decide) dc_MO_loopOf_131 132 rfl ?_
        refine jl_iadd h dc_MO_loopOf_132 133 rfl ?_
        rw [show nI (a :: c :: bs).length + nI 1 = iI (((a :: c :: bs).length + 1 : Nat) : Int) by rw [nI_add, iI_nat]]
        refine jl_imul h dc_MO_loopOf_133 134 rfl ?_
        refine jl_iadd h dc_MO_loopOf_134 135 rfl ?_
        refine jl_iload h rfl dc_MO_loopOf_135 137 rfl ?_
        refine jl_iadd h dc_MO_loopOf_137 138 rfl ?_
        refine jl_iload h rfl dc_MO_loopOf_138 140 rfl ?_
        refine jl_iadd h dc_MO_loopOf_140 141 rfl ?_
        exact jl_zret h he rfl (by rw [hmany, ← iI_nat u, iI_mul, iI_add, iI_add, iI_add]) (rfl) dc_MO_loopOf_141
    | succ dd ih =>
      intro p hp hip hpj bs u la hbs hla hu0 htp hu hlen
      have hp18 : p < 18 := by omega
      have hin := en_V_in hw p
      have h39 : p < j → (p : Int) < w p → w p < j := fun h8 h9 => by
        rcases hw.2.2 i p hip (by omega) with h8 | h8 <;> omega
      have hin2 : w p < 18 := by rcases hw.1 p with h1 | h1 <;> omega
      by_cases hpe : p = j
      · exact ih p (by omega) hip hpj bs u la hbs hla hu0 htp hu hlen
      have hpj2 : p < j := by omega
      refine jl_iload h rfl dc_MO_loopOf_22 24 rfl ?_
      refine jl_iload_n (i := 2) h rfl rfl dc_MO_loopOf_24 25 rfl ?_
      refine jl_icmp_ge h 89 (by decide) dc_MO_loopOf_25 28 rfl (fun c25 => absurd c25 (nI_ge hpj2 (by omega))) (fun c25 => ?_)
      refine jl_aload_n (i := 0) h rfl rfl dc_MO_loopOf_28 29 rfl ?_
      refine jl_getf h nm_c_MO 5 wl_MO_19 (by omega) (by decide) (by exact rfl) (by rfl) dc_MO_loopOf_29 32 rfl ?_
      refine jl_iload h rfl dc_MO_loopOf_32 34 rfl ?_
      refine jl_iald (v := iI (w p)) h (p) (by exact rfl) (by omega) (by exact hmat) (by exact hp18) (by first | decide | assumption) (by exact rfl) dc_MO_loopOf_34 35 rfl ?_
      refine jl_iload h rfl dc_MO_loopOf_35 37 rfl ?_
      refine jl_icmp_le h 80 (by decide) dc_MO_loopOf_37 40 rfl (fun c37 => ?_) (fun c37 => ?_)
      · skip
        rw [sr_iI_le hin.1 hin2 hp18] at c37
        refine jl_iinc (i := 4) (d := 1) (lc2 := [(4, _), (7, _), (6, _), (5, _), (3, _), (0, _), (1, _), (2, _)]) (v2 := nI (u + 1)) h (by decide) rfl (nI_1 u) rfl dc_MO_loopOf_80 83 rfl ?_
        refine jl_iinc (i := 7) (d := 1) (lc2 := [(7, _), (4, _), (6, _), (5, _), (3, _), (0, _), (1, _), (2, _)]) (v2 := nI (p + 1)) h (by decide) rfl (nI_1 p) rfl dc_MO_loopOf_83 86 rfl ?_
        refine jl_goto h 22 (by decide) dc_MO_loopOf_86 ?_
        refine jl_sub (lc2 := [(7, _), (6, _), (5, _), (4, _), (3, _), (0, _), (1, _), (2, _)]) [0, 2, 3, 1, 4, 5, 6, 7] rfl ?_
        first
          | (have e9 : bs.length + 1 = (bs ++ [(p, m)]).length := by simp
             rw [e9]
             refine ih (m + 1) (by omega) (by omega) (by omega) (bs ++ [(p, m)]) u (nI p) (fun s hs => ?_) (Or.inr ⟨bs, p, m, rfl, rfl⟩) (fun h9 => absurd h9 (by simp)) ?_ (by omega) (by rw [← e9]; omega)
             · rcases List.mem_append.mp hs with h9 | h9
               · exact hbs s h9
               · rw [List.mem_singleton] at h9; subst h9; exact ⟨hip, hpm, hmj, hm⟩
             · rw [htp, tp_pair hpj2 hpm hm, List.append_assoc]; rfl)
          | (refine ih (p + 1) (by omega) (by omega) (by omega) bs (u + 1) la hbs hla (fun h9 => by have := hu0 h9; omega) ?_ (by omega) (by omega)
             rw [htp, tp_free hpj2 (by omega)]
             refine Prod.ext rfl ?_
             show u + ((tp_l w (p + 1) j).2 + 1) = u + 1 + (tp_l w (p + 1) j).2
             omega)
      · skip
        rw [sr_iI_le hin.1 hin2 hp18] at c37
        obtain ⟨m, hm⟩ : ∃ m : Nat, w p = m := ⟨(w p).toNat, by omega⟩
        have hpm : p < m := by omega
        have hmj : m < j := by have := h39 hpj2 (by omega); omega
        refine jl_iinc (i := 3) (d := 1) (lc2 := [(3, _), (7, _), (6, _), (5, _), (4, _), (0, _), (1, _), (2, _)]) (v2 := nI (bs.length + 1)) h (by decide) rfl (nI_1 _) rfl dc_MO_loopOf_40 43 rfl ?_
        refine jl_iload h rfl dc_MO_loopOf_43 45 rfl ?_
        refine jl_istore (i := 6) (lc2 := [(6, _), (3, _), (7, _), (5, _), (4, _), (0, _), (1, _), (2, _)]) h (by decide) rfl dc_MO_loopOf_45 47 rfl ?_
        refine jl_iload h rfl dc_MO_loopOf_47 49 rfl ?_
        refine jl_aload_n (i := 0) h rfl rfl dc_MO_loopOf_49 50 rfl ?_
        refine jl_iload h rfl dc_MO_loopOf_50 52 rfl ?_
        refine jl_aload_n (i := 0) h rfl rfl dc_MO_loopOf_52 53 rfl ?_
        refine jl_getf h nm_c_MO 5 wl_MO_19 (by omega) (by decide) (by exact rfl) (by rfl) dc_MO_loopOf_53 56 rfl ?_
        refine jl_iload h rfl dc_MO_loopOf_56 58 rfl ?_
        refine jl_iald (v := nI m) h (p) (by exact rfl) (by omega) (by exact hmat) (by exact hp18) (by first | decide | assumption) (by exact by show iI (w p) = nI m; rw [hm, iI_nat]) dc_MO_loopOf_58 59 rfl ?_
        refine jl_iconst (v := iI 5) h (by decide) dc_MO_loopOf_59 60 rfl ?_
        refine jl_callV (As := [_, _, _]) (rest := [_]) h hr vs_MO_53 vi_MO_weak vx_MO_weak (ci := 7) rfl (by omega) (by exact rfl) (fun l => c_MO_weak l hO (show p < n by omega) (show m < n by omega) 5) (by first | decide | omega) (by first | decide | omega) rfl rfl (Nat.le_of_ble_eq_true rfl) dc_MO_loopOf_60 (res := [_, _]) rfl 63 rfl ?_
        refine jl_iadd h dc_MO_loopOf_63 64 rfl ?_
        rw [show iI (lp_wk b i j 5 + lp_ws b bs) + iI (lp_wk b p m 5) = iI (lp_wk b i j 5 + lp_ws b (bs ++ [(p, m)])) by rw [iI_add, lp_ws_app]; congr 1; have h9 : lp_ws b [(p, m)] = lp_wk b p m 5 := Int.add_zero _; rw [h9]; omega]
        refine jl_istore (i := 5) (lc2 := [(5, _), (6, _), (3, _), (7, _), (4, _), (0, _), (1, _), (2, _)]) h (by decide) rfl dc_MO_loopOf_64 66 rfl ?_
        refine jl_aload_n (i := 0) h rfl rfl dc_MO_loopOf_66 67 rfl ?_
        refine jl_getf h nm_c_MO 5 wl_MO_19 (by omega) (by decide) (by exact rfl) (by rfl) dc_MO_loopOf_67 70 rfl ?_
        refine jl_iload h rfl dc_MO_loopOf_70 72 rfl ?_
        refine jl_iald (v := nI m) h (p) (by exact rfl) (by omega) (by exact hmat) (by exact hp18) (by first | decide | assumption) (by exact by show iI (w p) = nI m; rw [hm, iI_nat]) dc_MO_loopOf_72 73 rfl ?_
        refine jl_iconst (v := nI 1) h (by decide) dc_MO_loopOf_73 74 rfl ?_
        refine jl_iadd h dc_MO_loopOf_74 75 rfl ?_
        rw [show nI m + nI 1 = nI (m + 1) by exact nI_add m 1]
        refine jl_istore (i := 7) (lc2 := [(7, _), (5, _), (6, _), (3, _), (4, _), (0, _), (1, _), (2, _)]) h (by decide) rfl dc_MO_loopOf_75 77 rfl ?_
        refine jl_goto h 22 (by decide) dc_MO_loopOf_77 ?_
        refine jl_sub (lc2 := [(7, _), (6, _), (5, _), (4, _), (3, _), (0, _), (1, _), (2, _)]) [0, 2, 1, 4, 3, 5, 6, 7] rfl ?_
        first
          | (have e9 : bs.length + 1 = (bs ++ [(p, m)]).length := by simp
             rw [e9]
             refine ih (m + 1) (by omega) (by omega) (by omega) (bs ++ [(p, m)]) u (nI p) (fun s hs => ?_) (Or.inr ⟨bs, p, m, rfl, rfl⟩) (fun h9 => absurd h9 (by simp)) ?_ (by omega) (by rw [← e9]; omega)
             · rcases List.mem_append.mp hs with h9 | h9
               · exact hbs s h9
               · rw [List.mem_singleton] at h9; subst h9; exact ⟨hip, hpm, hmj, hm⟩
             · rw [htp, tp_pair hpj2 hpm hm, List.append_assoc]; rfl)
          | (refine ih (p + 1) (by omega) (by omega) (by omega) bs (u + 1) la hbs hla (fun h9 => by have := hu0 h9; omega) ?_ (by omega) (by omega)
             rw [htp, tp_free hpj2 (by omega)]
             refine Prod.ext rfl ?_
             show u + ((tp_l w (p + 1) j).2 + 1) = u + 1 + (tp_l w (p + 1) j).2
             omega)
  have l0 := loop (j - (i + 1)) (i + 1) (Nat.le_refl _) (by omega) (by omega) [] 0 (-1) (fun s hs => absurd hs List.not_mem_nil) (Or.inl rfl) (fun _ => by omega) (by simp) (by omega) (by simp)
  have e0 : lp_wk b i j 5 + lp_ws b [] = lp_wk b i j 5 := Int.add_zero _
  rw [e0] at l0
  refine jl_iconst (v := nI 0) h (by decide) dc_MO_loopOf_0 1 rfl ?_
  refine jl_istore_n (i := 3) (lc2 := [(3, _), (0, _), (1, _), (2, _)]) h rfl (by decide) rfl dc_MO_loopOf_1 2 rfl ?_
  refine jl_iconst (v := nI 0) h (by decide) dc_MO_loopOf_2 3 rfl ?_
  refine jl_istore (i := 4) (lc2 := [(4, _), (3, _), (0, _), (1, _), (2, _)]) h (by decide) rfl dc_MO_loopOf_3 5 rfl ?_
  refine jl_aload_n (i := 0) h rfl rfl dc_MO_loopOf_5 6 rfl ?_
  refine jl_iload_n (i := 1) h rfl rfl dc_MO_loopOf_6 7 rfl ?_
  refine jl_iload_n (i := 2) h rfl rfl dc_MO_loopOf_7 8 rfl ?_
  refine jl_iconst (v := iI 5) h (by decide) dc_MO_loopOf_8 9 rfl ?_
  refine jl_callV (As := [_, _, _]) (rest := []) h hr vs_MO_53 vi_MO_weak vx_MO_weak (ci := 7) rfl (by omega) (by exact rfl) (fun l => c_MO_weak l hO (by omega) (by omega) 5) (by first | decide | omega) (by first | decide | omega) rfl rfl (Nat.le_of_ble_eq_true rfl) dc_MO_loopOf_9 (res := [_]) rfl 12 rfl ?_
  refine jl_istore (i := 5) (lc2 := [(5, _), (4, _), (3, _), (0, _), (1, _), (2, _)]) h (by decide) rfl dc_MO_loopOf_12 14 rfl ?_
  refine jl_iconst (v := -1) h (by decide) dc_MO_loopOf_14 15 rfl ?_
  refine jl_istore (i := 6) (lc2 := [(6, _), (5, _), (4, _), (3, _), (0, _), (1, _), (2, _)]) h (by decide) rfl dc_MO_loopOf_15 17 rfl ?_
  refine jl_iload_n (i := 1) h rfl rfl dc_MO_loopOf_17 18 rfl ?_
  refine jl_iconst (v := nI 1) h (by decide) dc_MO_loopOf_18 19 rfl ?_
  refine jl_iadd h dc_MO_loopOf_19 20 rfl ?_
  rw [show nI i + nI 1 = nI (i + 1) by exact nI_add i 1]
  refine jl_istore (i := 7) (lc2 := [(7, _), (6, _), (5, _), (4, _), (3, _), (0, _), (1, _), (2, _)]) h (by decide) rfl dc_MO_loopOf_20 22 rfl ?_
  exact l0
theorem c_MO_energyNow (hO : mo_ok I V n b) (hM : V 164 = fun k => iI (w k)) (hw : en_V b n w) : jl_C l K sa yn_MO_energyNow bc_MO_energyNow 4 (some .int) 4 125 168 ad [.ref (ad 160)] (gw K ad I V L C G R) (some (.int (iI (st_E b n w)))) (gw K ad I V L C G R) := by
  refine jl_enter (by decide) (Nat.le_of_ble_eq_true rfl) (fun x h he hr => ?_)
  have hn := hO.2.2.1
  show jl_J x 168 ad 0 0 (gw K ad I V L C G R) 0 [(0, .ref (ad 160))] []
  have hmat : gw K ad I V L C G R 164 = .inl (K 0, 18, .inl (fun k => iI (w k))) := gw_at rfl rfl hM
  have loop : ∀ (dd p : Nat), p + dd = n → ∀ (bs : List (Nat × Nat)) (o : Nat), o ≤ n → (o = 0 ∨ ∃ q : Nat, q < p ∧ w q + 1 = o) → (tp_l w 0 n).1 = bs ++ (tp_l w (if p < o then o else p) n).1 → jl_J x 168 ad 0 0 (gw K ad I V L C G R) 6 [(3, .int (nI p)), (2, .int (nI o)), (1, .int (iI (st_S b w p + lp_ws b bs))), (0, .ref (ad 160))] [] := by
    intro dd
    induction dd with
    | zero =>
      intro p hp bs o ho hoq htp
      have hp : p = n := by omega
      subst hp
      rw [tp_end (show p ≤ (if p < o then o else p) by split <;> omega), List.append_nil] at htp
      refine jl_iload_n (i := 3) h rfl rfl dc_MO_energyNow_6 7 rfl ?_
      refine jl_aload_n (i := 0) h rfl rfl dc_MO_energyNow_7 8 rfl ?_
      refine jl_getf (v := .int (nI p)) h nm_c_MO 1 wl_MO_42 (by omega) (by decide) (by exact rfl) (by exact sr_v hO.1) dc_MO_energyNow_8 11 rfl ?_
      refine jl_icmp_ge h 91 (by decide) dc_MO_energyNow_11 14 rfl (fun c11 => ?_) (fun c11 => absurd (nI_le (Nat.le_refl _) (by omega)) c11)
      refine jl_iload_n (i := 1) h rfl rfl dc_MO_energyNow_91 92 rfl ?_
      exact jl_zret h he rfl (by unfold st_E; rw [htp]) (rfl) dc_MO_energyNow_92
    | succ dd ih =>
      intro p hp bs o ho hoq htp
      have hp18 : p < 18 := by omega
      have hin := en_V_in hw p
      have hin2 : w p < 18 := by rcases hw.1 p with h1 | h1 <;> omega
      have hSn : ¬ (p : Int) < w p → st_S b w (p + 1) = st_S b w p := fun h9 => by
        show st_S b w p + (if (p : Int) < w p then _ else 0) = _
        rw [if_neg h9]
        omega
      have hSy : ∀ m : Nat, p < m → w p = m → st_S b w (p + 1) = st_S b w p + lp_loop b w p m := fun m h8 h9 => by
        show st_S b w p + (if (p : Int) < w p then _ else 0) = _
        rw [if_pos (by omega), h9, Int.toNat_natCast]
      have hins : ∀ m : Nat, p < m → w p = m → p < o → m < o := fun m h8 h9 h7 => by
        rcases hoq with h1 | ⟨q, h1, h2⟩
        · omega
        · by_cases h5 : w q = (p : Int)
          · rcases hw.1 q with h4 | ⟨_, _, _, _, h4⟩
            · omega
            · rw [h5, Int.toNat_natCast] at h4
              omega
          · rcases hw.2.2 q p h1 (by omega) with h3 | h3 <;> omega
      refine jl_iload_n (i := 3) h rfl rfl dc_MO_energyNow_6 7 rfl ?_
      refine jl_aload_n (i := 0) h rfl rfl dc_MO_energyNow_7 8 rfl ?_
      refine jl_getf (v := .int (nI n)) h nm_c_MO 1 wl_MO_42 (by omega) (by decide) (by exact rfl) (by exact sr_v hO.1) dc_MO_energyNow_8 11 rfl ?_
      refine jl_icmp_ge h 91 (by decide) dc_MO_energyNow_11 14 rfl (fun c11 => absurd c11 (nI_ge (by omega) (by omega))) (fun c11 => ?_)
      refine jl_aload_n (i := 0) h rfl rfl dc_MO_energyNow_14 15 rfl ?_
      refine jl_getf h nm_c_MO 5 wl_MO_19 (by omega) (by decide) (by exact rfl) (by rfl) dc_MO_energyNow_15 18 rfl ?_
      refine jl_iload_n (i := 3) h rfl rfl dc_MO_energyNow_18 19 rfl ?_
      refine jl_iald (v := iI (w p)) h (p) (by exact rfl) (by omega) (by exact hmat) (by exact hp18) (by first | decide | assumption) (by exact rfl) dc_MO_energyNow_19 20 rfl ?_
      refine jl_iload_n (i := 3) h rfl rfl dc_MO_energyNow_20 21 rfl ?_
      refine jl_icmp_le h 85 (by decide) dc_MO_energyNow_21 24 rfl (fun c21 => ?_) (fun c21 => ?_)
      · skip
        rw [sr_iI_le hin.1 hin2 hp18] at c21
        refine jl_iinc (i := 3) (d := 1) (lc2 := [(3, _), (2, _), (1, _), (0, _)]) (v2 := nI (p + 1)) h (by decide) rfl (nI_1 p) rfl dc_MO_energyNow_85 88 rfl ?_
        refine jl_goto h 6 (by decide) dc_MO_energyNow_88 ?_
        first
          | exact absurd c69 (by have := hins m hpm hm; omega)
          | (have e9 : lp_ws b [(p, m)] = lp_wk b p m 5 := Int.add_zero _
             rw [iI_add, show st_S b w (p + 1) + lp_ws b bs + lp_wk b p m 5 = st_S b w (p + 1) + lp_ws b (bs ++ [(p, m)]) by rw [lp_ws_app, e9]; omega]
             refine ih (p + 1) (by omega) (bs ++ [(p, m)]) (m + 1) (by omega) (Or.inr ⟨p, by omega, by omega⟩) ?_
             rw [if_neg (by omega), tp_pair (show p < n by omega) hpm hm] at htp
             rw [if_pos (by omega), htp, List.append_assoc]
             rfl)
          | (rw [iI_add, Int.add_zero]
             refine ih (p + 1) (by omega) bs o ho (hoq.imp id (fun ⟨q, h1, h2⟩ => ⟨q, by omega, h2⟩)) ?_
             have h8 := hins m hpm hm (by omega)
             rw [if_pos (by omega)] at htp
             rw [if_pos (by omega), htp])
          | (rw [← hSn (by omega)]
             refine ih (p + 1) (by omega) bs o ho (hoq.imp id (fun ⟨q, h1, h2⟩ => ⟨q, by omega, h2⟩)) ?_
             by_cases h8 : p < o
             · rw [if_pos h8] at htp
               rw [htp]
               by_cases h9 : p + 1 < o
               · rw [if_pos h9]
               · rw [if_neg h9, show p + 1 = o by omega]
             · rw [if_neg h8, tp_free (show p < n by omega) (by omega)] at htp
               rw [if_neg (by omega), htp])
      · skip
        rw [sr_iI_le hin.1 hin2 hp18] at c21
        obtain ⟨m, hm⟩ : ∃ m : Nat, w p = m := ⟨(w p).toNat, by omega⟩
        have hpm : p < m := by omega
        have hmn : m < n := by rcases hw.1 p with h1 | h1 <;> omega
        refine jl_iload_n (i := 1) h rfl rfl dc_MO_energyNow_24 25 rfl ?_
        refine jl_aload_n (i := 0) h rfl rfl dc_MO_energyNow_25 26 rfl ?_
        refine jl_iload_n (i := 3) h rfl rfl dc_MO_energyNow_26 27 rfl ?_
        refine jl_aload_n (i := 0) h rfl rfl dc_MO_energyNow_27 28 rfl ?_
        refine jl_getf h nm_c_MO 5 wl_MO_19 (by omega) (by decide) (by exact rfl) (by rfl) dc_MO_energyNow_28 31 rfl ?_
        refine jl_iload_n (i := 3) h rfl rfl dc_MO_energyNow_31 32 rfl ?_
        refine jl_iald (v := nI m) h (p) (by exact rfl) (by omega) (by exact hmat) (by exact hp18) (by first | decide | assumption) (by exact by show iI (w p) = nI m; rw [hm, iI_nat]) dc_MO_energyNow_32 33 rfl ?_
        refine jl_callV (As := [_, _]) (rest := [_]) h hr vs_MO_64 vi_MO_loopOf vx_MO_loopOf (ci := 7) rfl (by omega) (by exact rfl) (fun l => c_MO_loopOf l hO hM hw hpm hm) (by first | decide | omega) (by first | decide | omega) rfl rfl (Nat.le_of_ble_eq_true rfl) dc_MO_energyNow_33 (res := [_, _]) rfl 36 rfl ?_
        refine jl_iadd h dc_MO_energyNow_36 37 rfl ?_
        rw [show iI (st_S b w p + lp_ws b bs) + iI (lp_loop b w p m) = iI (st_S b w (p + 1) + lp_ws b bs) by rw [iI_add, hSy m hpm hm]; congr 1; omega]
        refine jl_istore_n (i := 1) (lc2 := [(1, _), (3, _), (2, _), (0, _)]) h rfl (by decide) rfl dc_MO_energyNow_37 38 rfl ?_
        refine jl_iload_n (i := 1) h rfl rfl dc_MO_energyNow_38 39 rfl ?_
        refine jl_iload_n (i := 3) h rfl rfl dc_MO_energyNow_39 40 rfl ?_
        refine jl_iload_n (i := 2) h rfl rfl dc_MO_energyNow_40 41 rfl ?_
        refine jl_icmp_lt h 59 (by decide) dc_MO_energyNow_41 44 rfl (fun c41 => ?_) (fun c41 => ?_)
        · skip
          rw [nI_ltI (by omega) (by omega)] at c41
          refine jl_iconst (v := iI 0) h (by decide) dc_MO_energyNow_59 60 rfl ?_
          refine jl_iadd h dc_MO_energyNow_60 61 rfl ?_
          refine jl_istore_n (i := 1) (lc2 := [(1, _), (3, _), (2, _), (0, _)]) h rfl (by decide) rfl dc_MO_energyNow_61 62 rfl ?_
          refine jl_aload_n (i := 0) h rfl rfl dc_MO_energyNow_62 63 rfl ?_
          refine jl_getf h nm_c_MO 5 wl_MO_19 (by omega) (by decide) (by exact rfl) (by rfl) dc_MO_energyNow_63 66 rfl ?_
          refine jl_iload_n (i := 3) h rfl rfl dc_MO_energyNow_66 67 rfl ?_
          refine jl_iald (v := nI m) h (p) (by exact rfl) (by omega) (by exact hmat) (by exact hp18) (by first | decide | assumption) (by exact by show iI (w p) = nI m; rw [hm, iI_nat]) dc_MO_energyNow_67 68 rfl ?_
          refine jl_iload_n (i := 2) h rfl rfl dc_MO_energyNow_68 69 rfl ?_
          refine jl_icmp_lt h 83 (by decide) dc_MO_energyNow_69 72 rfl (fun c69 => ?_) (fun c69 => ?_)
          · skip
            rw [nI_ltI (by omega) (by omega)] at c69
            refine jl_iload_n (i := 2) h rfl rfl dc_MO_energyNow_83 84 rfl ?_
            refine jl_istore_n (i := 2) (lc2 := [(2, _), (1, _), (3, _), (0, _)]) h rfl (by decide) rfl dc_MO_energyNow_84 85 rfl ?_
            refine jl_iinc (i := 3) (d := 1) (lc2 := [(3, _), (2, _), (1, _), (0, _)]) (v2 := nI (p + 1)) h (by decide) rfl (nI_1 p) rfl dc_MO_energyNow_85 88 rfl ?_
            refine jl_goto h 6 (by decide) dc_MO_energyNow_88 ?_
            first
              | exact absurd c69 (by have := hins m hpm hm; omega)
              | (have e9 : lp_ws b [(p, m)] = lp_wk b p m 5 := Int.add_zero _
                 rw [iI_add, show st_S b w (p + 1) + lp_ws b bs + lp_wk b p m 5 = st_S b w (p + 1) + lp_ws b (bs ++ [(p, m)]) by rw [lp_ws_app, e9]; omega]
                 refine ih (p + 1) (by omega) (bs ++ [(p, m)]) (m + 1) (by omega) (Or.inr ⟨p, by omega, by omega⟩) ?_
                 rw [if_neg (by omega), tp_pair (show p < n by omega) hpm hm] at htp
                 rw [if_pos (by omega), htp, List.append_assoc]
                 rfl)
              | (rw [iI_add, Int.add_zero]
                 refine ih (p + 1) (by omega) bs o ho (hoq.imp id (fun ⟨q, h1, h2⟩ => ⟨q, by omega, h2⟩)) ?_
                 have h8 := hins m hpm hm (by omega)
                 rw [if_pos (by omega)] at htp
                 rw [if_pos (by omega), htp])
              | (rw [← hSn (by omega)]
                 refine ih (p + 1) (by omega) bs o ho (hoq.imp id (fun ⟨q, h1, h2⟩ => ⟨q, by omega, h2⟩)) ?_
                 by_cases h8 : p < o
                 · rw [if_pos h8] at htp
                   rw [htp]
                   by_cases h9 : p + 1 < o
                   · rw [if_pos h9]
                   · rw [if_neg h9, show p + 1 = o by omega]
                 · rw [if_neg h8, tp_free (show p < n by omega) (by omega)] at htp
                   rw [if_neg (by omega), htp])
          · skip
            rw [nI_ltI (by omega) (by omega)] at c69
            refine jl_aload_n (i := 0) h rfl rfl dc_MO_energyNow_72 73 rfl ?_
            refine jl_getf h nm_c_MO 5 wl_MO_19 (by omega) (by decide) (by exact rfl) (by rfl) dc_MO_energyNow_73 76 rfl ?_
            refine jl_iload_n (i := 3) h rfl rfl dc_MO_energyNow_76 77 rfl ?_
            refine jl_iald (v := nI m) h (p) (by exact rfl) (by omega) (by exact hmat) (by exact hp18) (by first | decide | assumption) (by exact by show iI (w p) = nI m; rw [hm, iI_nat]) dc_MO_energyNow_77 78 rfl ?_
            refine jl_iconst (v := nI 1) h (by decide) dc_MO_energyNow_78 79 rfl ?_
            refine jl_iadd h dc_MO_energyNow_79 80 rfl ?_
            rw [show nI m + nI 1 = nI (m + 1) by exact nI_add m 1]
            refine jl_goto h 84 (by decide) dc_MO_energyNow_80 ?_
            refine jl_istore_n (i := 2) (lc2 := [(2, _), (1, _), (3, _), (0, _)]) h rfl (by decide) rfl dc_MO_energyNow_84 85 rfl ?_
            refine jl_iinc (i := 3) (d := 1) (lc2 := [(3, _), (2, _), (1, _), (0, _)]) (v2 := nI (p + 1)) h (by decide) rfl (nI_1 p) rfl dc_MO_energyNow_85 88 rfl ?_
            refine jl_goto h 6 (by decide) dc_MO_energyNow_88 ?_
            first
              | exact absurd c69 (by have := hins m hpm hm; omega)
              | (have e9 : lp_ws b [(p, m)] = lp_wk b p m 5 := Int.add_zero _
                 rw [iI_add, show st_S b w (p + 1) + lp_ws b bs + lp_wk b p m 5 = st_S b w (p + 1) + lp_ws b (bs ++ [(p, m)]) by rw [lp_ws_app, e9]; omega]
                 refine ih (p + 1) (by omega) (bs ++ [(p, m)]) (m + 1) (by omega) (Or.inr ⟨p, by omega, by omega⟩) ?_
                 rw [if_neg (by omega), tp_pair (show p < n by omega) hpm hm] at htp
                 rw [if_pos (by omega), htp, List.append_assoc]
                 rfl)
              | (rw [iI_add, Int.add_zero]
                 refine ih (p + 1) (by omega) bs o ho (hoq.imp id (fun ⟨q, h1, h2⟩ => ⟨q, by omega, h2⟩)) ?_
                 have h8 := hins m hpm hm (by omega)
                 rw [if_pos (by omega)] at htp
                 rw [if_pos (by omega), htp])
              | (rw [← hSn (by omega)]
                 refine ih (p + 1) (by omega) bs o ho (hoq.imp id (fun ⟨q, h1, h2⟩ => ⟨q, by omega, h2⟩)) ?_
                 by_cases h8 : p < o
                 · rw [if_pos h8] at htp
                   rw [htp]
                   by_cases h9 : p + 1 < o
                   · rw [if_pos h9]
                   · rw [if_neg h9, show p + 1 = o by omega]
                 · rw [if_neg h8, tp_free (show p < n by omega) (by omega)] at htp
                   rw [if_neg (by omega), htp])
        · skip
          rw [nI_ltI (by omega) (by omega)] at c41
          refine jl_aload_n (i := 0) h rfl rfl dc_MO_energyNow_44 45 rfl ?_
          refine jl_iload_n (i := 3) h rfl rfl dc_MO_energyNow_45 46 rfl ?_
          refine jl_aload_n (i := 0) h rfl rfl dc_MO_energyNow_46 47 rfl ?_
          refine jl_getf h nm_c_MO 5 wl_MO_19 (by omega) (by decide) (by exact rfl) (by rfl) dc_MO_energyNow_47 50 rfl ?_
          refine jl_iload_n (i := 3) h rfl rfl dc_MO_energyNow_50 51 rfl ?_
          refine jl_iald (v := nI m) h (p) (by exact rfl) (by omega) (by exact hmat) (by exact hp18) (by first | decide | assumption) (by exact by show iI (w p) = nI m; rw [hm, iI_nat]) dc_MO_energyNow_51 52 rfl ?_
          refine jl_iconst (v := iI 5) h (by decide) dc_MO_energyNow_52 53 rfl ?_
          refine jl_callV (As := [_, _, _]) (rest := [_]) h hr vs_MO_53 vi_MO_weak vx_MO_weak (ci := 7) rfl (by omega) (by exact rfl) (fun l => c_MO_weak l hO (show p < n by omega) hmn 5) (by first | decide | omega) (by first | decide | omega) rfl rfl (Nat.le_of_ble_eq_true rfl) dc_MO_energyNow_53 (res := [_, _]) rfl 56 rfl ?_
          refine jl_goto h 60 (by decide) dc_MO_energyNow_56 ?_
          refine jl_iadd h dc_MO_energyNow_60 61 rfl ?_
          refine jl_istore_n (i := 1) (lc2 := [(1, _), (3, _), (2, _), (0, _)]) h rfl (by decide) rfl dc_MO_energyNow_61 62 rfl ?_
          refine jl_aload_n (i := 0) h rfl rfl dc_MO_energyNow_62 63 rfl ?_
          refine jl_getf h nm_c_MO 5 wl_MO_19 (by omega) (by decide) (by exact rfl) (by rfl) dc_MO_energyNow_63 66 rfl ?_
          refine jl_iload_n (i := 3) h rfl rfl dc_MO_energyNow_66 67 rfl ?_
          refine jl_iald (v := nI m) h (p) (by exact rfl) (by omega) (by exact hmat) (by exact hp18) (by first | decide | assumption) (by exact by show iI (w p) = nI m; rw [hm, iI_nat]) dc_MO_energyNow_67 68 rfl ?_
          refine jl_iload_n (i := 2) h rfl rfl dc_MO_energyNow_68 69 rfl ?_
          refine jl_icmp_lt h 83 (by decide) dc_MO_energyNow_69 72 rfl (fun c69 => ?_) (fun c69 => ?_)
          · skip
            rw [nI_ltI (by omega) (by omega)] at c69
            refine jl_iload_n (i := 2) h rfl rfl dc_MO_energyNow_83 84 rfl ?_
            refine jl_istore_n (i := 2) (lc2 := [(2, _), (1, _), (3, _), (0, _)]) h rfl (by decide) rfl dc_MO_energyNow_84 85 rfl ?_
            refine jl_iinc (i := 3) (d := 1) (lc2 := [(3, _), (2, _), (1, _), (0, _)]) (v2 := nI (p + 1)) h (by decide) rfl (nI_1 p) rfl dc_MO_energyNow_85 88 rfl ?_
            refine jl_goto h 6 (by decide) dc_MO_energyNow_88 ?_
            first
              | exact absurd c69 (by have := hins m hpm hm; omega)
              | (have e9 : lp_ws b [(p, m)] = lp_wk b p m 5 := Int.add_zero _
                 rw [iI_add, show st_S b w (p + 1) + lp_ws b bs + lp_wk b p m 5 = st_S b w (p + 1) + lp_ws b (bs ++ [(p, m)]) by rw [lp_ws_app, e9]; omega]
                 refine ih (p + 1) (by omega) (bs ++ [(p, m)]) (m + 1) (by omega) (Or.inr ⟨p, by omega, by omega⟩) ?_
                 rw [if_neg (by omega), tp_pair (show p < n by omega) hpm hm] at htp
                 rw [if_pos (by omega), htp, List.append_assoc]
                 rfl)
              | (rw [iI_add, Int.add_zero]
                 refine ih (p + 1) (by omega) bs o ho (hoq.imp id (fun ⟨q, h1, h2⟩ => ⟨q, by omega, h2⟩)) ?_
                 have h8 := hins m hpm hm (by omega)
                 rw [if_pos (by omega)] at htp
                 rw [if_pos (by omega), htp])
              | (rw [← hSn (by omega)]
                 refine ih (p + 1) (by omega) bs o ho (hoq.imp id (fun ⟨q, h1, h2⟩ => ⟨q, by omega, h2⟩)) ?_
                 by_cases h8 : p < o
                 · rw [if_pos h8] at htp
                   rw [htp]
                   by_cases h9 : p + 1 < o
                   · rw [if_pos h9]
                   · rw [if_neg h9, show p + 1 = o by omega]
                 · rw [if_neg h8, tp_free (show p < n by omega) (by omega)] at htp
                   rw [if_neg (by omega), htp])
          · skip
            rw [nI_ltI (by omega) (by omega)] at c69
            refine jl_aload_n (i := 0) h rfl rfl dc_MO_energyNow_72 73 rfl ?_
            refine jl_getf h nm_c_MO 5 wl_MO_19 (by omega) (by decide) (by exact rfl) (by rfl) dc_MO_energyNow_73 76 rfl ?_
            refine jl_iload_n (i := 3) h rfl rfl dc_MO_energyNow_76 77 rfl ?_
            refine jl_iald (v := nI m) h (p) (by exact rfl) (by omega) (by exact hmat) (by exact hp18) (by first | decide | assumption) (by exact by show iI (w p) = nI m; rw [hm, iI_nat]) dc_MO_energyNow_77 78 rfl ?_
            refine jl_iconst (v := nI 1) h (by decide) dc_MO_energyNow_78 79 rfl ?_
            refine jl_iadd h dc_MO_energyNow_79 80 rfl ?_
            rw [show nI m + nI 1 = nI (m + 1) by exact nI_add m 1]
            refine jl_goto h 84 (by decide) dc_MO_energyNow_80 ?_
            refine jl_istore_n (i := 2) (lc2 := [(2, _), (1, _), (3, _), (0, _)]) h rfl (by decide) rfl dc_MO_energyNow_84 85 rfl ?_
            refine jl_iinc (i := 3) (d := 1) (lc2 := [(3, _), (2, _), (1, _), (0, _)]) (v2 := nI (p + 1)) h (by decide) rfl (nI_1 p) rfl dc_MO_energyNow_85 88 rfl ?_
            refine jl_goto h 6 (by decide) dc_MO_energyNow_88 ?_
            first
              | exact absurd c69 (by have := hins m hpm hm; omega)
              | (have e9 : lp_ws b [(p, m)] = lp_wk b p m 5 := Int.add_zero _
                 rw [iI_add, show st_S b w (p + 1) + lp_ws b bs + lp_wk b p m 5 = st_S b w (p + 1) + lp_ws b (bs ++ [(p, m)]) by rw [lp_ws_app, e9]; omega]
                 refine ih (p + 1) (by omega) (bs ++ [(p, m)]) (m + 1) (by omega) (Or.inr ⟨p, by omega, by omega⟩) ?_
                 rw [if_neg (by omega), tp_pair (show p < n by omega) hpm hm] at htp
                 rw [if_pos (by omega), htp, List.append_assoc]
                 rfl)
              | (rw [iI_add, Int.add_zero]
                 refine ih (p + 1) (by omega) bs o ho (hoq.imp id (fun ⟨q, h1, h2⟩ => ⟨q, by omega, h2⟩)) ?_
                 have h8 := hins m hpm hm (by omega)
                 rw [if_pos (by omega)] at htp
                 rw [if_pos (by omega), htp])
              | (rw [← hSn (by omega)]
                 refine ih (p + 1) (by omega) bs o ho (hoq.imp id (fun ⟨q, h1, h2⟩ => ⟨q, by omega, h2⟩)) ?_
                 by_cases h8 : p < o
                 · rw [if_pos h8] at htp
                   rw [htp]
                   by_cases h9 : p + 1 < o
                   · rw [if_pos h9]
                   · rw [if_neg h9, show p + 1 = o by omega]
                 · rw [if_neg h8, tp_free (show p < n by omega) (by omega)] at htp
                   rw [if_neg (by omega), htp])
  have l0 := loop n 0 (by omega) [] 0 (by omega) (Or.inl rfl) (by rw [if_neg (by omega)]; simp)
  have e0 : st_S b w 0 + lp_ws b [] = 0 := rfl
  rw [e0] at l0
  refine jl_iconst (v := iI 0) h (by decide) dc_MO_energyNow_0 1 rfl ?_
  refine jl_istore_n (i := 1) (lc2 := [(1, _), (0, _)]) h rfl (by decide) rfl dc_MO_energyNow_1 2 rfl ?_
  refine jl_iconst (v := nI 0) h (by decide) dc_MO_energyNow_2 3 rfl ?_
  refine jl_istore_n (i := 2) (lc2 := [(2, _), (1, _), (0, _)]) h rfl (by decide) rfl dc_MO_energyNow_3 4 rfl ?_
  refine jl_iconst (v := nI 0) h (by decide) dc_MO_energyNow_4 5 rfl ?_
  refine jl_istore_n (i := 3) (lc2 := [(3, _), (2, _), (1, _), (0, _)]) h rfl (by decide) rfl dc_MO_energyNow_5 6 rfl ?_
  exact l0
theorem c_MO_pairsNow (hO : mo_ok I V n b) (hM : V 164 = fun k => iI (w k)) (hw : en_V b n w) : jl_C l K sa yn_MO_pairsNow bc_MO_pairsNow 3 (some .int) 0 0 168 ad [.ref (ad 160)] (gw K ad I V L C G R) (some (.int (nI (mo_pc w n)))) (gw K ad I V L C G R) := by
  refine jl_enter (by decide) (Nat.le_of_ble_eq_true rfl) (fun x h he hr => ?_)
  have hn := hO.2.2.1
  show jl_J x 168 ad 0 0 (gw K ad I V L C G R) 0 [(0, .ref (ad 160))] []
  have hmat : gw K ad I V L C G R 164 = .inl (K 0, 18, .inl (fun k => iI (w k))) := gw_at rfl rfl hM
  have loop : ∀ (dd p : Nat), p + dd = n → jl_J x 168 ad 0 0 (gw K ad I V L C G R) 4 [(2, .int (nI p)), (1, .int (nI (mo_pc w p))), (0, .ref (ad 160))] [] := by
    intro dd
    induction dd with
    | zero =>
      intro p hp
      have hp : p = n := by omega
      subst hp
      refine jl_iload_n (i := 2) h rfl rfl dc_MO_pairsNow_4 5 rfl ?_
      refine jl_aload_n (i := 0) h rfl rfl dc_MO_pairsNow_5 6 rfl ?_
      refine jl_getf (v := .int (nI p)) h nm_c_MO 1 wl_MO_42 (by omega) (by decide) (by exact rfl) (by exact sr_v hO.1) dc_MO_pairsNow_6 9 rfl ?_
      refine jl_icmp_ge h 36 (by decide) dc_MO_pairsNow_9 12 rfl (fun c9 => ?_) (fun c9 => absurd (nI_le (Nat.le_refl _) (by omega)) c9)
      refine jl_iload_n (i := 1) h rfl rfl dc_MO_pairsNow_36 37 rfl ?_
      exact jl_zret h he rfl (rfl) (rfl) dc_MO_pairsNow_37
    | succ dd ih =>
      intro p hp
      have hp18 : p < 18 := by omega
      have hin := en_V_in hw p
      have hin2 : w p < 18 := by rcases hw.1 p with h1 | h1 <;> omega
      have hl := ih (p + 1) (by omega)
      unfold mo_pc at hl
      refine jl_iload_n (i := 2) h rfl rfl dc_MO_pairsNow_4 5 rfl ?_
      refine jl_aload_n (i := 0) h rfl rfl dc_MO_pairsNow_5 6 rfl ?_
      refine jl_getf (v := .int (nI n)) h nm_c_MO 1 wl_MO_42 (by omega) (by decide) (by exact rfl) (by exact sr_v hO.1) dc_MO_pairsNow_6 9 rfl ?_
      refine jl_icmp_ge h 36 (by decide) dc_MO_pairsNow_9 12 rfl (fun c9 => absurd c9 (nI_ge (by omega) (by omega))) (fun c9 => ?_)
      refine jl_iload_n (i := 1) h rfl rfl dc_MO_pairsNow_12 13 rfl ?_
      refine jl_aload_n (i := 0) h rfl rfl dc_MO_pairsNow_13 14 rfl ?_
      refine jl_getf h nm_c_MO 5 wl_MO_19 (by omega) (by decide) (by exact rfl) (by rfl) dc_MO_pairsNow_14 17 rfl ?_
      refine jl_iload_n (i := 2) h rfl rfl dc_MO_pairsNow_17 18 rfl ?_
      refine jl_iald (v := iI (w p)) h (p) (by exact rfl) (by omega) (by exact hmat) (by exact hp18) (by first | decide | assumption) (by exact rfl) dc_MO_pairsNow_18 19 rfl ?_
      refine jl_iload_n (i := 2) h rfl rfl dc_MO_pairsNow_19 20 rfl ?_
      refine jl_icmp_le h 27 (by decide) dc_MO_pairsNow_20 23 rfl (fun c20 => ?_) (fun c20 => ?_)
      · skip
        rw [sr_iI_le hin.1 hin2 hp18] at c20
        refine jl_iconst (v := nI 0) h (by decide) dc_MO_pairsNow_27 28 rfl ?_
        refine jl_iadd h dc_MO_pairsNow_28 29 rfl ?_
        refine jl_istore_n (i := 1) (lc2 := [(1, _), (2, _), (0, _)]) h rfl (by decide) rfl dc_MO_pairsNow_29 30 rfl ?_
        refine jl_iinc (i := 2) (d := 1) (lc2 := [(2, _), (1, _), (0, _)]) (v2 := nI (p + 1)) h (by decide) rfl (nI_1 p) rfl dc_MO_pairsNow_30 33 rfl ?_
        refine jl_goto h 4 (by decide) dc_MO_pairsNow_33 ?_
        first | (rw [if_pos (by omega)] at hl; rw [nI_add]; exact hl) | (rw [if_neg (by omega)] at hl; rw [nI_add]; exact hl)
      · skip
        rw [sr_iI_le hin.1 hin2 hp18] at c20
        refine jl_iconst (v := nI 1) h (by decide) dc_MO_pairsNow_23 24 rfl ?_
        refine jl_goto h 28 (by decide) dc_MO_pairsNow_24 ?_
        refine jl_iadd h dc_MO_pairsNow_28 29 rfl ?_
        refine jl_istore_n (i := 1) (lc2 := [(1, _), (2, _), (0, _)]) h rfl (by decide) rfl dc_MO_pairsNow_29 30 rfl ?_
        refine jl_iinc (i := 2) (d := 1) (lc2 := [(2, _), (1, _), (0, _)]) (v2 := nI (p + 1)) h (by decide) rfl (nI_1 p) rfl dc_MO_pairsNow_30 33 rfl ?_
        refine jl_goto h 4 (by decide) dc_MO_pairsNow_33 ?_
        first | (rw [if_pos (by omega)] at hl; rw [nI_add]; exact hl) | (rw [if_neg (by omega)] at hl; rw [nI_add]; exact hl)
  have l0 := loop n 0 (by omega)
  refine jl_iconst (v := nI 0) h (by decide) dc_MO_pairsNow_0 1 rfl ?_
  refine jl_istore_n (i := 1) (lc2 := [(1, _), (0, _)]) h rfl (by decide) rfl dc_MO_pairsNow_1 2 rfl ?_
  refine jl_iconst (v := nI 0) h (by decide) dc_MO_pairsNow_2 3 rfl ?_
  refine jl_istore_n (i := 2) (lc2 := [(2, _), (1, _), (0, _)]) h rfl (by decide) rfl dc_MO_pairsNow_3 4 rfl ?_
  exact l0
end MO

