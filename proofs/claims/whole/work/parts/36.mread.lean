/-! The reference: opened, isWrong, read. -/
/-- the open places below p, the last one first -/
def ps_op (ch : Nat → Int32) (w : Nat → Int) : Nat → List Nat
  | 0 => []
  | p + 1 => if ch p = 40 ∧ w p < 0 then p :: ps_op ch w p else ps_op ch w p
theorem ps_op_cong {ch : Nat → Int32} {w w2 : Nat → Int} : ∀ p, (∀ q, q < p → w q = w2 q) → ps_op ch w p = ps_op ch w2 p
  | 0, _ => rfl
  | p + 1, h => by
    unfold ps_op
    rw [h p (by omega), ps_op_cong p (fun q hq => h q (by omega))]
theorem ps_op_lt {ch : Nat → Int32} {w : Nat → Int} : ∀ p i, i ∈ ps_op ch w p → i < p
  | 0, i, h => absurd h List.not_mem_nil
  | p + 1, i, h => by
    unfold ps_op at h
    split at h
    · rcases List.mem_cons.mp h with h1 | h1
      · omega
      · have := ps_op_lt p i h1
        omega
    · have := ps_op_lt p i h
      omega
theorem ps_op_pop {ch : Nat → Int32} {w w2 : Nat → Int} {i : Nat} (hi : 0 ≤ w2 i) : ∀ (p : Nat) (os : List Nat), (∀ q, q < p → q ≠ i → w2 q = w q) → ps_op ch w p = i :: os → ps_op ch w2 p = os
  | 0, os, _, h => by cases h
  | p + 1, os, hw, h => by
    unfold ps_op at h ⊢
    by_cases e : ch p = 40 ∧ w p < 0
    · rw [if_pos e] at h
      obtain ⟨h1, h2⟩ := List.cons.inj h
      subst h1
      rw [if_neg (by omega), ← h2]
      exact ps_op_cong p (fun q hq => hw q (by omega) (by omega))
    · rw [if_neg e] at h
      have h3 := ps_op_lt p i (by rw [h]; exact List.mem_cons_self)
      rw [hw p (by omega) (by omega), if_neg e]
      exact ps_op_pop hi p os (fun q hq => hw q (by omega)) h
theorem ps_op_step {b : Nat → Nat} {n p : Nat} {ch : Nat → Int32} {w w2 : Nat → Int} {os os2 : List Nat} (h : ps_I b n p w os) (ho : os = ps_op ch w p) (hs : ps_step b n p (ch p) (w, os) = some (w2, os2)) : os2 = ps_op ch w2 (p + 1) := by
  obtain ⟨h1, h2, h3, h4, h5, h6⟩ := h
  have hp := h3 p (Nat.le_refl p)
  unfold ps_step at hs
  by_cases e1 : n ≤ p
  · rw [if_pos e1] at hs
    cases hs
  rw [if_neg e1] at hs
  by_cases e2 : ch p = 40
  · rw [if_pos e2] at hs
    cases hs
    show p :: os = (if ch p = 40 ∧ w p < 0 then p :: ps_op ch w p else ps_op ch w p)
    rw [if_pos ⟨e2, by omega⟩, ho]
  rw [if_neg e2] at hs
  by_cases e3 : ch p = 41
  · rw [if_pos e3] at hs
    match os, ho, h5, hs with
    | [], _, _, hs => cases hs
    | i :: os, ho, h5, hs =>
      have hs : (if en_cp b i p = true then some (en_pr w i p, os) else none) = some (w2, os2) := hs
      by_cases e4 : en_cp b i p = true
      · rw [if_pos e4] at hs
        cases hs
        obtain ⟨g1, g2, g3⟩ := h5 i List.mem_cons_self
        show os2 = (if ch p = 40 ∧ en_pr w i p p < 0 then p :: ps_op ch (en_pr w i p) p else ps_op ch (en_pr w i p) p)
        rw [if_neg (fun h9 => e2 h9.1)]
        refine (ps_op_pop (w := w) (i := i) ?_ p os2 (fun q hq hqi => ?_) ho.symm).symm
        · rw [en_pr_at, if_neg (by omega), if_pos rfl]
          omega
        · rw [en_pr_at, if_neg (by omega), if_neg hqi]
      · rw [if_neg e4] at hs
        cases hs
  rw [if_neg e3] at hs
  by_cases e4 : ch p = 46
  · rw [if_pos e4] at hs
    cases hs
    show os = (if ch p = 40 ∧ w p < 0 then p :: ps_op ch w p else ps_op ch w p)
    rw [if_neg (fun h9 => e2 h9.1), ho]
  · rw [if_neg e4] at hs
    cases hs
def ps_hd : List Nat → Int
  | [] => -1
  | i :: _ => i
def ps_w (w : Nat → Int) : Option ps_S → (Nat → Int)
  | none => w
  | some s => s.1
theorem ps_hd_in {p : Nat} {os : List Nat} (h : ∀ i ∈ os, i < p) : -1 ≤ ps_hd os ∧ ps_hd os < (p : Int) + 1 := by
  match os, h with
  | [], _ => exact ⟨Int.le_refl _, by show (-1 : Int) < _; omega⟩
  | i :: os, h =>
    have := h i List.mem_cons_self
    show -1 ≤ (i : Int) ∧ (i : Int) < (p : Int) + 1
    omega
abbrev bc_MO_opened : ByteArray := prog_9_method_34_code
abbrev yn_MO_opened : MethodName := ⟨"FoldedStrandModel", "opened", "(I)I"⟩
theorem dc_MO_opened_0 : decode bc_MO_opened 0 = .ok (.iconst (-1), 1) := by decide +kernel
theorem dc_MO_opened_1 : decode bc_MO_opened 1 = .ok (.istore_n 2, 1) := by decide +kernel
theorem dc_MO_opened_2 : decode bc_MO_opened 2 = .ok (.iconst 0, 1) := by decide +kernel
theorem dc_MO_opened_3 : decode bc_MO_opened 3 = .ok (.istore_n 3, 1) := by decide +kernel
theorem dc_MO_opened_4 : decode bc_MO_opened 4 = .ok (.iload_n 3, 1) := by decide +kernel
theorem dc_MO_opened_5 : decode bc_MO_opened 5 = .ok (.iload_n 1, 1) := by decide +kernel
theorem dc_MO_opened_6 : decode bc_MO_opened 6 = .ok (.if_icmp .ge 35, 3) := by decide +kernel
theorem dc_MO_opened_9 : decode bc_MO_opened 9 = .ok (.aload_n 0, 1) := by decide +kernel
theorem dc_MO_opened_10 : decode bc_MO_opened 10 = .ok (.getfield 16, 3) := by decide +kernel
theorem dc_MO_opened_13 : decode bc_MO_opened 13 = .ok (.iload_n 3, 1) := by decide +kernel
theorem dc_MO_opened_14 : decode bc_MO_opened 14 = .ok (.iaload, 1) := by decide +kernel
theorem dc_MO_opened_15 : decode bc_MO_opened 15 = .ok (.bipush 40, 2) := by decide +kernel
theorem dc_MO_opened_17 : decode bc_MO_opened 17 = .ok (.if_icmp .ne 16, 3) := by decide +kernel
theorem dc_MO_opened_20 : decode bc_MO_opened 20 = .ok (.aload_n 0, 1) := by decide +kernel
theorem dc_MO_opened_21 : decode bc_MO_opened 21 = .ok (.getfield 19, 3) := by decide +kernel
theorem dc_MO_opened_24 : decode bc_MO_opened 24 = .ok (.iload_n 3, 1) := by decide +kernel
theorem dc_MO_opened_25 : decode bc_MO_opened 25 = .ok (.iaload, 1) := by decide +kernel
theorem dc_MO_opened_26 : decode bc_MO_opened 26 = .ok (.ifCond .ge 7, 3) := by decide +kernel
theorem dc_MO_opened_29 : decode bc_MO_opened 29 = .ok (.iload_n 3, 1) := by decide +kernel
theorem dc_MO_opened_30 : decode bc_MO_opened 30 = .ok (.goto 4, 3) := by decide +kernel
theorem dc_MO_opened_33 : decode bc_MO_opened 33 = .ok (.iload_n 2, 1) := by decide +kernel
theorem dc_MO_opened_34 : decode bc_MO_opened 34 = .ok (.istore_n 2, 1) := by decide +kernel
theorem dc_MO_opened_35 : decode bc_MO_opened 35 = .ok (.iinc 3 1, 3) := by decide +kernel
theorem dc_MO_opened_38 : decode bc_MO_opened 38 = .ok (.goto (-34), 3) := by decide +kernel
theorem dc_MO_opened_41 : decode bc_MO_opened 41 = .ok (.iload_n 2, 1) := by decide +kernel
theorem dc_MO_opened_42 : decode bc_MO_opened 42 = .ok (.ireturn, 1) := by decide +kernel
abbrev bc_MO_isWrong : ByteArray := prog_9_method_35_code
abbrev yn_MO_isWrong : MethodName := ⟨"FoldedStrandModel", "isWrong", "(I)Z"⟩
theorem vs_MO_129 : jl_v "FoldedStrandModel" 129 yn_MO_opened bc_MO_opened 4 (some .int) 1 := ⟨jl_T_of 693 (by decide +kernel) (by decide +kernel), jl_T_of 9 (by decide +kernel) (by decide +kernel), jl_T_of 690 (by decide +kernel) (by decide +kernel), by decide +kernel, by decide +kernel, by decide +kernel⟩
theorem vi_MO_opened : Cond.instanceMethod yn_MO_opened ∈ jl_T := jl_T_of 692 (by decide +kernel) (by decide +kernel)
theorem vx_MO_opened : Cond.selects "FoldedStrandModel" yn_MO_opened yn_MO_opened ∈ jl_T := jl_T_sel 35 (by decide +kernel) (by decide +kernel)
theorem dc_MO_isWrong_0 : decode bc_MO_isWrong 0 = .ok (.iload_n 1, 1) := by decide +kernel
theorem dc_MO_isWrong_1 : decode bc_MO_isWrong 1 = .ok (.aload_n 0, 1) := by decide +kernel
theorem dc_MO_isWrong_2 : decode bc_MO_isWrong 2 = .ok (.getfield 126, 3) := by decide +kernel
theorem dc_MO_isWrong_5 : decode bc_MO_isWrong 5 = .ok (.if_icmp .lt 28, 3) := by decide +kernel
theorem dc_MO_isWrong_8 : decode bc_MO_isWrong 8 = .ok (.iload_n 1, 1) := by decide +kernel
theorem dc_MO_isWrong_9 : decode bc_MO_isWrong 9 = .ok (.aload_n 0, 1) := by decide +kernel
theorem dc_MO_isWrong_10 : decode bc_MO_isWrong 10 = .ok (.getfield 42, 3) := by decide +kernel
theorem dc_MO_isWrong_13 : decode bc_MO_isWrong 13 = .ok (.if_icmp .lt 14, 3) := by decide +kernel
theorem dc_MO_isWrong_16 : decode bc_MO_isWrong 16 = .ok (.aload_n 0, 1) := by decide +kernel
theorem dc_MO_isWrong_17 : decode bc_MO_isWrong 17 = .ok (.aload_n 0, 1) := by decide +kernel
theorem dc_MO_isWrong_18 : decode bc_MO_isWrong 18 = .ok (.getfield 126, 3) := by decide +kernel
theorem dc_MO_isWrong_21 : decode bc_MO_isWrong 21 = .ok (.invokevirtual 129, 3) := by decide +kernel
theorem dc_MO_isWrong_24 : decode bc_MO_isWrong 24 = .ok (.ifCond .lt 7, 3) := by decide +kernel
theorem dc_MO_isWrong_27 : decode bc_MO_isWrong 27 = .ok (.iconst 1, 1) := by decide +kernel
theorem dc_MO_isWrong_28 : decode bc_MO_isWrong 28 = .ok (.goto 4, 3) := by decide +kernel
theorem dc_MO_isWrong_31 : decode bc_MO_isWrong 31 = .ok (.iconst 0, 1) := by decide +kernel
theorem dc_MO_isWrong_32 : decode bc_MO_isWrong 32 = .ok (.ireturn, 1) := by decide +kernel
theorem dc_MO_isWrong_33 : decode bc_MO_isWrong 33 = .ok (.iload_n 1, 1) := by decide +kernel
theorem dc_MO_isWrong_34 : decode bc_MO_isWrong 34 = .ok (.aload_n 0, 1) := by decide +kernel
theorem dc_MO_isWrong_35 : decode bc_MO_isWrong 35 = .ok (.getfield 42, 3) := by decide +kernel
theorem dc_MO_isWrong_38 : decode bc_MO_isWrong 38 = .ok (.if_icmp .lt 5, 3) := by decide +kernel
theorem dc_MO_isWrong_41 : decode bc_MO_isWrong 41 = .ok (.iconst 1, 1) := by decide +kernel
theorem dc_MO_isWrong_42 : decode bc_MO_isWrong 42 = .ok (.ireturn, 1) := by decide +kernel
theorem dc_MO_isWrong_43 : decode bc_MO_isWrong 43 = .ok (.aload_n 0, 1) := by decide +kernel
theorem dc_MO_isWrong_44 : decode bc_MO_isWrong 44 = .ok (.getfield 16, 3) := by decide +kernel
theorem dc_MO_isWrong_47 : decode bc_MO_isWrong 47 = .ok (.iload_n 1, 1) := by decide +kernel
theorem dc_MO_isWrong_48 : decode bc_MO_isWrong 48 = .ok (.iaload, 1) := by decide +kernel
theorem dc_MO_isWrong_49 : decode bc_MO_isWrong 49 = .ok (.istore_n 2, 1) := by decide +kernel
theorem dc_MO_isWrong_50 : decode bc_MO_isWrong 50 = .ok (.iload_n 2, 1) := by decide +kernel
theorem dc_MO_isWrong_51 : decode bc_MO_isWrong 51 = .ok (.bipush 41, 2) := by decide +kernel
theorem dc_MO_isWrong_53 : decode bc_MO_isWrong 53 = .ok (.if_icmp .eq 21, 3) := by decide +kernel
theorem dc_MO_isWrong_56 : decode bc_MO_isWrong 56 = .ok (.iload_n 2, 1) := by decide +kernel
theorem dc_MO_isWrong_57 : decode bc_MO_isWrong 57 = .ok (.bipush 40, 2) := by decide +kernel
theorem dc_MO_isWrong_59 : decode bc_MO_isWrong 59 = .ok (.if_icmp .eq 13, 3) := by decide +kernel
theorem dc_MO_isWrong_62 : decode bc_MO_isWrong 62 = .ok (.iload_n 2, 1) := by decide +kernel
theorem dc_MO_isWrong_63 : decode bc_MO_isWrong 63 = .ok (.bipush 46, 2) := by decide +kernel
theorem dc_MO_isWrong_65 : decode bc_MO_isWrong 65 = .ok (.if_icmp .eq 7, 3) := by decide +kernel
theorem dc_MO_isWrong_68 : decode bc_MO_isWrong 68 = .ok (.iconst 1, 1) := by decide +kernel
theorem dc_MO_isWrong_69 : decode bc_MO_isWrong 69 = .ok (.goto 4, 3) := by decide +kernel
theorem dc_MO_isWrong_72 : decode bc_MO_isWrong 72 = .ok (.iconst 0, 1) := by decide +kernel
theorem dc_MO_isWrong_73 : decode bc_MO_isWrong 73 = .ok (.ireturn, 1) := by decide +kernel
theorem dc_MO_isWrong_74 : decode bc_MO_isWrong 74 = .ok (.aload_n 0, 1) := by decide +kernel
theorem dc_MO_isWrong_75 : decode bc_MO_isWrong 75 = .ok (.iload_n 1, 1) := by decide +kernel
theorem dc_MO_isWrong_76 : decode bc_MO_isWrong 76 = .ok (.invokevirtual 129, 3) := by decide +kernel
theorem dc_MO_isWrong_79 : decode bc_MO_isWrong 79 = .ok (.istore_n 3, 1) := by decide +kernel
theorem dc_MO_isWrong_80 : decode bc_MO_isWrong 80 = .ok (.iload_n 3, 1) := by decide +kernel
theorem dc_MO_isWrong_81 : decode bc_MO_isWrong 81 = .ok (.ifCond .lt 12, 3) := by decide +kernel
theorem dc_MO_isWrong_84 : decode bc_MO_isWrong 84 = .ok (.aload_n 0, 1) := by decide +kernel
theorem dc_MO_isWrong_85 : decode bc_MO_isWrong 85 = .ok (.iload_n 3, 1) := by decide +kernel
theorem dc_MO_isWrong_86 : decode bc_MO_isWrong 86 = .ok (.iload_n 1, 1) := by decide +kernel
theorem dc_MO_isWrong_87 : decode bc_MO_isWrong 87 = .ok (.invokevirtual 71, 3) := by decide +kernel
theorem dc_MO_isWrong_90 : decode bc_MO_isWrong 90 = .ok (.ifCond .ne 5, 3) := by decide +kernel
theorem dc_MO_isWrong_93 : decode bc_MO_isWrong 93 = .ok (.iconst 1, 1) := by decide +kernel
theorem dc_MO_isWrong_94 : decode bc_MO_isWrong 94 = .ok (.ireturn, 1) := by decide +kernel
theorem dc_MO_isWrong_95 : decode bc_MO_isWrong 95 = .ok (.aload_n 0, 1) := by decide +kernel
theorem dc_MO_isWrong_96 : decode bc_MO_isWrong 96 = .ok (.getfield 19, 3) := by decide +kernel
theorem dc_MO_isWrong_99 : decode bc_MO_isWrong 99 = .ok (.iload_n 3, 1) := by decide +kernel
theorem dc_MO_isWrong_100 : decode bc_MO_isWrong 100 = .ok (.iload_n 1, 1) := by decide +kernel
theorem dc_MO_isWrong_101 : decode bc_MO_isWrong 101 = .ok (.iastore, 1) := by decide +kernel
theorem dc_MO_isWrong_102 : decode bc_MO_isWrong 102 = .ok (.aload_n 0, 1) := by decide +kernel
theorem dc_MO_isWrong_103 : decode bc_MO_isWrong 103 = .ok (.getfield 19, 3) := by decide +kernel
theorem dc_MO_isWrong_106 : decode bc_MO_isWrong 106 = .ok (.iload_n 1, 1) := by decide +kernel
theorem dc_MO_isWrong_107 : decode bc_MO_isWrong 107 = .ok (.iload_n 3, 1) := by decide +kernel
theorem dc_MO_isWrong_108 : decode bc_MO_isWrong 108 = .ok (.iastore, 1) := by decide +kernel
theorem dc_MO_isWrong_109 : decode bc_MO_isWrong 109 = .ok (.iconst 0, 1) := by decide +kernel
theorem dc_MO_isWrong_110 : decode bc_MO_isWrong 110 = .ok (.ireturn, 1) := by decide +kernel
abbrev bc_MO_read : ByteArray := prog_9_method_36_code
abbrev yn_MO_read : MethodName := ⟨"FoldedStrandModel", "read", "()I"⟩
theorem vs_MO_132 : jl_v "FoldedStrandModel" 132 yn_MO_isWrong bc_MO_isWrong 4 (some .boolean) 1 := ⟨jl_T_of 689 (by decide +kernel) (by decide +kernel), jl_T_of 9 (by decide +kernel) (by decide +kernel), jl_T_of 686 (by decide +kernel) (by decide +kernel), by decide +kernel, by decide +kernel, by decide +kernel⟩
theorem vi_MO_isWrong : Cond.instanceMethod yn_MO_isWrong ∈ jl_T := jl_T_of 688 (by decide +kernel) (by decide +kernel)
theorem vx_MO_isWrong : Cond.selects "FoldedStrandModel" yn_MO_isWrong yn_MO_isWrong ∈ jl_T := jl_T_sel 34 (by decide +kernel) (by decide +kernel)
theorem dc_MO_read_0 : decode bc_MO_read 0 = .ok (.aload_n 0, 1) := by decide +kernel
theorem dc_MO_read_1 : decode bc_MO_read 1 = .ok (.invokevirtual 78, 3) := by decide +kernel
theorem dc_MO_read_4 : decode bc_MO_read 4 = .ok (.iconst 0, 1) := by decide +kernel
theorem dc_MO_read_5 : decode bc_MO_read 5 = .ok (.istore_n 1, 1) := by decide +kernel
theorem dc_MO_read_6 : decode bc_MO_read 6 = .ok (.iload_n 1, 1) := by decide +kernel
theorem dc_MO_read_7 : decode bc_MO_read 7 = .ok (.aload_n 0, 1) := by decide +kernel
theorem dc_MO_read_8 : decode bc_MO_read 8 = .ok (.getfield 126, 3) := by decide +kernel
theorem dc_MO_read_11 : decode bc_MO_read 11 = .ok (.if_icmp .ge 17, 3) := by decide +kernel
theorem dc_MO_read_14 : decode bc_MO_read 14 = .ok (.aload_n 0, 1) := by decide +kernel
theorem dc_MO_read_15 : decode bc_MO_read 15 = .ok (.iload_n 1, 1) := by decide +kernel
theorem dc_MO_read_16 : decode bc_MO_read 16 = .ok (.invokevirtual 132, 3) := by decide +kernel
theorem dc_MO_read_19 : decode bc_MO_read 19 = .ok (.ifCond .ne 9, 3) := by decide +kernel
theorem dc_MO_read_22 : decode bc_MO_read 22 = .ok (.iinc 1 1, 3) := by decide +kernel
theorem dc_MO_read_25 : decode bc_MO_read 25 = .ok (.goto (-19), 3) := by decide +kernel
theorem dc_MO_read_28 : decode bc_MO_read 28 = .ok (.iload_n 1, 1) := by decide +kernel
theorem dc_MO_read_29 : decode bc_MO_read 29 = .ok (.aload_n 0, 1) := by decide +kernel
theorem dc_MO_read_30 : decode bc_MO_read 30 = .ok (.getfield 126, 3) := by decide +kernel
theorem dc_MO_read_33 : decode bc_MO_read 33 = .ok (.if_icmp .ne 18, 3) := by decide +kernel
theorem dc_MO_read_36 : decode bc_MO_read 36 = .ok (.aload_n 0, 1) := by decide +kernel
theorem dc_MO_read_37 : decode bc_MO_read 37 = .ok (.aload_n 0, 1) := by decide +kernel
theorem dc_MO_read_38 : decode bc_MO_read 38 = .ok (.getfield 126, 3) := by decide +kernel
theorem dc_MO_read_41 : decode bc_MO_read 41 = .ok (.invokevirtual 132, 3) := by decide +kernel
theorem dc_MO_read_44 : decode bc_MO_read 44 = .ok (.ifCond .ne 7, 3) := by decide +kernel
theorem dc_MO_read_47 : decode bc_MO_read 47 = .ok (.iconst 1, 1) := by decide +kernel
theorem dc_MO_read_48 : decode bc_MO_read 48 = .ok (.goto 4, 3) := by decide +kernel
theorem dc_MO_read_51 : decode bc_MO_read 51 = .ok (.iconst 0, 1) := by decide +kernel
theorem dc_MO_read_52 : decode bc_MO_read 52 = .ok (.istore_n 2, 1) := by decide +kernel
theorem dc_MO_read_53 : decode bc_MO_read 53 = .ok (.aload_n 0, 1) := by decide +kernel
theorem dc_MO_read_54 : decode bc_MO_read 54 = .ok (.iconst 0, 1) := by decide +kernel
theorem dc_MO_read_55 : decode bc_MO_read 55 = .ok (.putfield 126, 3) := by decide +kernel
theorem dc_MO_read_58 : decode bc_MO_read 58 = .ok (.iload_n 2, 1) := by decide +kernel
theorem dc_MO_read_59 : decode bc_MO_read 59 = .ok (.ifCond .ne 8, 3) := by decide +kernel
theorem dc_MO_read_62 : decode bc_MO_read 62 = .ok (.bipush (-10), 2) := by decide +kernel
theorem dc_MO_read_64 : decode bc_MO_read 64 = .ok (.iload_n 1, 1) := by decide +kernel
theorem dc_MO_read_65 : decode bc_MO_read 65 = .ok (.isub, 1) := by decide +kernel
theorem dc_MO_read_66 : decode bc_MO_read 66 = .ok (.ireturn, 1) := by decide +kernel
theorem dc_MO_read_67 : decode bc_MO_read 67 = .ok (.iconst 0, 1) := by decide +kernel
theorem dc_MO_read_68 : decode bc_MO_read 68 = .ok (.istore_n 3, 1) := by decide +kernel
theorem dc_MO_read_69 : decode bc_MO_read 69 = .ok (.iload_n 3, 1) := by decide +kernel
theorem dc_MO_read_70 : decode bc_MO_read 70 = .ok (.bipush 18, 2) := by decide +kernel
theorem dc_MO_read_72 : decode bc_MO_read 72 = .ok (.if_icmp .ge 21, 3) := by decide +kernel
theorem dc_MO_read_75 : decode bc_MO_read 75 = .ok (.aload_n 0, 1) := by decide +kernel
theorem dc_MO_read_76 : decode bc_MO_read 76 = .ok (.getfield 22, 3) := by decide +kernel
theorem dc_MO_read_79 : decode bc_MO_read 79 = .ok (.iload_n 3, 1) := by decide +kernel
theorem dc_MO_read_80 : decode bc_MO_read 80 = .ok (.aload_n 0, 1) := by decide +kernel
theorem dc_MO_read_81 : decode bc_MO_read 81 = .ok (.getfield 19, 3) := by decide +kernel
theorem dc_MO_read_84 : decode bc_MO_read 84 = .ok (.iload_n 3, 1) := by decide +kernel
theorem dc_MO_read_85 : decode bc_MO_read 85 = .ok (.iaload, 1) := by decide +kernel
theorem dc_MO_read_86 : decode bc_MO_read 86 = .ok (.iastore, 1) := by decide +kernel
theorem dc_MO_read_87 : decode bc_MO_read 87 = .ok (.iinc 3 1, 3) := by decide +kernel
theorem dc_MO_read_90 : decode bc_MO_read 90 = .ok (.goto (-21), 3) := by decide +kernel
theorem dc_MO_read_93 : decode bc_MO_read 93 = .ok (.aload_n 0, 1) := by decide +kernel
theorem dc_MO_read_94 : decode bc_MO_read 94 = .ok (.invokevirtual 120, 3) := by decide +kernel
theorem dc_MO_read_97 : decode bc_MO_read 97 = .ok (.ireturn, 1) := by decide +kernel
section MO
variable (l : Launch) {K : Nat → ClassId} {sa : Nat → Nat} {ad : Nat → Nat} {I : Nat → Int32} {V : Nat → Nat → Int32} {L : Nat → Int64} {C : Nat → Int32} {G : Nat → Nat} {R : Nat → Nat} {n : Nat} {b : Nat → Nat} {w : Nat → Int} {ch : Nat → Int32}
theorem c_MO_opened (hM : V 164 = fun k => iI (w k)) (hw : mo_bw n w) (hn : n ≤ 18) {p : Nat} (hp : p ≤ 18) (hT : ∀ k, k < p → V 163 k = ch k) : jl_C l K sa yn_MO_opened bc_MO_opened 4 (some .int) 0 0 168 ad [.ref (ad 160), .int (nI p)] (gw K ad I V L C G R) (some (.int (iI (ps_hd (ps_op ch w p))))) (gw K ad I V L C G R) := by
  refine jl_enter (by decide) (Nat.le_of_ble_eq_true rfl) (fun x h he hr => ?_)
  show jl_J x 168 ad 0 0 (gw K ad I V L C G R) 0 [(0, .ref (ad 160)), (1, .int (nI p))] []
  have loop : ∀ (dd i : Nat), i + dd = p → jl_J x 168 ad 0 0 (gw K ad I V L C G R) 4 [(3, .int (nI i)), (2, .int (iI (ps_hd (ps_op ch w i)))), (0, .ref (ad 160)), (1, .int (nI p))] [] := by
    intro dd
    induction dd with
    | zero =>
      intro i hi
      have hi : i = p := by omega
      subst hi
      refine jl_iload_n (i := 3) h rfl rfl dc_MO_opened_4 5 rfl ?_
      refine jl_iload_n (i := 1) h rfl rfl dc_MO_opened_5 6 rfl ?_
      refine jl_icmp_ge h 41 (by decide) dc_MO_opened_6 9 rfl (fun c6 => ?_) (fun c6 => absurd (nI_le (Nat.le_refl _) (by omega)) c6)
      refine jl_iload_n (i := 2) h rfl rfl dc_MO_opened_41 42 rfl ?_
      exact jl_zret h he rfl (rfl) (rfl) dc_MO_opened_42
    | succ dd ih =>
      intro i hi
      have hl := ih (i + 1) (by omega)
      unfold ps_op at hl
      have hb := hw i
      have h0 : (iI (w i) < 0) ↔ w i < 0 := by rw [show (0 : Int32) = iI 0 from rfl]; exact iI_lt (by omega) (by omega) (by omega) (by omega)
      refine jl_iload_n (i := 3) h rfl rfl dc_MO_opened_4 5 rfl ?_
      refine jl_iload_n (i := 1) h rfl rfl dc_MO_opened_5 6 rfl ?_
      refine jl_icmp_ge h 41 (by decide) dc_MO_opened_6 9 rfl (fun c6 => absurd c6 (nI_ge (by omega) (by omega))) (fun c6 => ?_)
      refine jl_aload_n (i := 0) h rfl rfl dc_MO_opened_9 10 rfl ?_
      refine jl_getf h nm_c_MO 4 wl_MO_16 (by omega) (by decide) (by exact rfl) (by rfl) dc_MO_opened_10 13 rfl ?_
      refine jl_iload_n (i := 3) h rfl rfl dc_MO_opened_13 14 rfl ?_
      refine jl_iald (v := ch i) h (i) (by exact rfl) (by omega) (by exact gw_row (len := 20) ⟨rfl, rfl⟩) (by exact by omega) (by first | decide | assumption) (by exact hT i (by omega)) dc_MO_opened_14 15 rfl ?_
      refine jl_bipush (v := 40) h (by decide) dc_MO_opened_15 17 rfl ?_
      refine jl_icmp_ne h 33 (by decide) dc_MO_opened_17 20 rfl (fun c17 => ?_) (fun c17 => ?_)
      · skip
        refine jl_iload_n (i := 2) h rfl rfl dc_MO_opened_33 34 rfl ?_
        refine jl_istore_n (i := 2) (lc2 := [(2, _), (3, _), (0, _), (1, _)]) h rfl (by decide) rfl dc_MO_opened_34 35 rfl ?_
        refine jl_iinc (i := 3) (d := 1) (lc2 := [(3, _), (2, _), (0, _), (1, _)]) (v2 := nI (i + 1)) h (by decide) rfl (nI_1 i) rfl dc_MO_opened_35 38 rfl ?_
        refine jl_goto h 4 (by decide) dc_MO_opened_38 ?_
        first
          | (rw [if_pos ⟨c17, c26⟩] at hl; rw [← iI_nat i]; rw [← iI_nat (i + 1)] at hl ⊢; exact hl)
          | (rw [if_neg (fun h9 => c17 h9.1)] at hl; exact hl)
          | (rw [if_neg (fun h9 => c26 h9.2)] at hl; exact hl)
      · skip
        refine jl_aload_n (i := 0) h rfl rfl dc_MO_opened_20 21 rfl ?_
        refine jl_getf h nm_c_MO 5 wl_MO_19 (by omega) (by decide) (by exact rfl) (by rfl) dc_MO_opened_21 24 rfl ?_
        refine jl_iload_n (i := 3) h rfl rfl dc_MO_opened_24 25 rfl ?_
        refine jl_iald (v := iI (w i)) h (i) (by exact rfl) (by omega) (by exact gw_at (len := 18) rfl rfl hM) (by exact by omega) (by first | decide | assumption) (by exact rfl) dc_MO_opened_25 26 rfl ?_
        refine jl_if_ge h 33 (by decide) dc_MO_opened_26 29 rfl (fun c26 => ?_) (fun c26 => ?_)
        · skip
          rw [← Int32.not_lt, h0] at c26
          refine jl_iload_n (i := 2) h rfl rfl dc_MO_opened_33 34 rfl ?_
          refine jl_istore_n (i := 2) (lc2 := [(2, _), (3, _), (0, _), (1, _)]) h rfl (by decide) rfl dc_MO_opened_34 35 rfl ?_
          refine jl_iinc (i := 3) (d := 1) (lc2 := [(3, _), (2, _), (0, _), (1, _)]) (v2 := nI (i + 1)) h (by decide) rfl (nI_1 i) rfl dc_MO_opened_35 38 rfl ?_
          refine jl_goto h 4 (by decide) dc_MO_opened_38 ?_
          first
            | (rw [if_pos ⟨c17, c26⟩] at hl; rw [← iI_nat i]; rw [← iI_nat (i + 1)] at hl ⊢; exact hl)
            | (rw [if_neg (fun h9 => c17 h9.1)] at hl; exact hl)
            | (rw [if_neg (fun h9 => c26 h9.2)] at hl; exact hl)
        · skip
          rw [Int32.not_le, h0] at c26
          refine jl_iload_n (i := 3) h rfl rfl dc_MO_opened_29 30 rfl ?_
          refine jl_goto h 34 (by decide) dc_MO_opened_30 ?_
          refine jl_istore_n (i := 2) (lc2 := [(2, _), (3, _), (0, _), (1, _)]) h rfl (by decide) rfl dc_MO_opened_34 35 rfl ?_
          refine jl_iinc (i := 3) (d := 1) (lc2 := [(3, _), (2, _), (0, _), (1, _)]) (v2 := nI (i + 1)) h (by decide) rfl (nI_1 i) rfl dc_MO_opened_35 38 rfl ?_
          refine jl_goto h 4 (by decide) dc_MO_opened_38 ?_
          first
            | (rw [if_pos ⟨c17, c26⟩] at hl; rw [← iI_nat i]; rw [← iI_nat (i + 1)] at hl ⊢; exact hl)
            | (rw [if_neg (fun h9 => c17 h9.1)] at hl; exact hl)
            | (rw [if_neg (fun h9 => c26 h9.2)] at hl; exact hl)
  have l0 := loop p 0 (by omega)
  refine jl_iconst (v := -1) h (by decide) dc_MO_opened_0 1 rfl ?_
  refine jl_istore_n (i := 2) (lc2 := [(2, _), (0, _), (1, _)]) h rfl (by decide) rfl dc_MO_opened_1 2 rfl ?_
  refine jl_iconst (v := nI 0) h (by decide) dc_MO_opened_2 3 rfl ?_
  refine jl_istore_n (i := 3) (lc2 := [(3, _), (2, _), (0, _), (1, _)]) h rfl (by decide) rfl dc_MO_opened_3 4 rfl ?_
  exact l0
theorem c_MO_isWrong (hO : mo_ok I V n b) {tc : Nat} (htc : I 12 = nI tc) (ht20 : tc ≤ 20) {p : Nat} (hp : p < tc) (hT : ∀ k, k < tc → V 163 k = ch k) {os : List Nat} (hps : ps_I b n p w os) (hos : os = ps_op ch w p) : jl_C l K sa yn_MO_isWrong bc_MO_isWrong 4 (some .boolean) 2 50 168 ad [.ref (ad 160), .int (nI p)] (gw K ad I (va_up V 164 (fun k => iI (w k))) L C G R) (some (.int (st_bI (ps_step b n p (ch p) (w, os)).isNone))) (gw K ad I (va_up V 164 (fun k => iI (ps_w w (ps_step b n p (ch p) (w, os)) k))) L C G R) := by
  refine jl_enter (by decide) (Nat.le_of_ble_eq_true rfl) (fun x h he hr => ?_)
  show jl_J x 168 ad 0 0 (gw K ad I (va_up V 164 (fun k => iI (w k))) L C G R) 0 [(0, .ref (ad 160)), (1, .int (nI p))] []
  have hn := hO.2.2.1
  have hle := hps.1
  obtain ⟨st, hst⟩ : ∃ st, st = ps_step b n p (ch p) (w, os) := ⟨_, rfl⟩
  rw [← hst] at he
  unfold ps_step at hst
  by_cases e1 : n ≤ p
  · rw [if_pos e1] at hst
    subst hst
    refine jl_iload_n (i := 1) h rfl rfl dc_MO_isWrong_0 1 rfl ?_
    refine jl_aload_n (i := 0) h rfl rfl dc_MO_isWrong_1 2 rfl ?_
    refine jl_getf (v := .int (nI tc)) h nm_c_MO 3 wl_MO_126 (by omega) (by decide) (by exact rfl) (by exact sr_v htc) dc_MO_isWrong_2 5 rfl ?_
    refine jl_icmp_lt h 33 (by decide) dc_MO_isWrong_5 8 rfl (fun c5 => ?_) (fun c5 => absurd (nI_lt hp (by omega)) c5)
    refine jl_iload_n (i := 1) h rfl rfl dc_MO_isWrong_33 34 rfl ?_
    refine jl_aload_n (i := 0) h rfl rfl dc_MO_isWrong_34 35 rfl ?_
    refine jl_getf (v := .int (nI n)) h nm_c_MO 1 wl_MO_42 (by omega) (by decide) (by exact rfl) (by exact sr_v hO.1) dc_MO_isWrong_35 38 rfl ?_
    refine jl_icmp_lt h 43 (by decide) dc_MO_isWrong_38 41 rfl (fun c38 => absurd c38 (Int32.not_lt.mpr (nI_le e1 (by omega)))) (fun c38 => ?_)
    refine jl_iconst (v := 1) h (by decide) dc_MO_isWrong_41 42 rfl ?_
    exact jl_zret h he rfl (rfl) (rfl) dc_MO_isWrong_42
  rw [if_neg e1] at hst
  have t43 : jl_J x 168 ad 0 0 (gw K ad I (va_up V 164 (fun k => iI (w k))) L C G R) 50 [(2, .int (ch p)), (0, .ref (ad 160)), (1, .int (nI p))] [] := by
    by_cases e2 : ch p = 40
    · rw [if_pos e2] at hst
      subst hst
      refine jl_iload_n (i := 2) h rfl rfl dc_MO_isWrong_50 51 rfl ?_
      refine jl_bipush (v := 41) h (by decide) dc_MO_isWrong_51 53 rfl ?_
      refine jl_icmp_eq h 74 (by decide) dc_MO_isWrong_53 56 rfl (fun c53 => absurd c53 (by rw [e2]; decide)) (fun c53 => ?_)
      refine jl_iload_n (i := 2) h rfl rfl dc_MO_isWrong_56 57 rfl ?_
      refine jl_bipush (v := 40) h (by decide) dc_MO_isWrong_57 59 rfl ?_
      refine jl_icmp_eq h 72 (by decide) dc_MO_isWrong_59 62 rfl (fun c59 => ?_) (fun c59 => absurd (e2) c59)
      refine jl_iconst (v := 0) h (by decide) dc_MO_isWrong_72 73 rfl ?_
      exact jl_zret h he rfl (rfl) (rfl) dc_MO_isWrong_73
    rw [if_neg e2] at hst
    by_cases e3 : ch p = 41
    · rw [if_pos e3] at hst
      have hop := fun l => c_MO_opened l (K := K) (sa := sa) (ad := ad) (I := I) (V := va_up V 164 (fun k => iI (w k))) (L := L) (C := C) (G := G) (R := R) (va_up_self _ _ _) (mo_bw_V hps.2.1) hn (show p ≤ 18 by omega) (ch := ch) (fun k hk => hT k (by omega))
      rw [← hos] at hop
      match os, hps, hst, hop with
      | [], _, hst, hop =>
        have hst : st = none := hst
        subst hst
        refine jl_iload_n (i := 2) h rfl rfl dc_MO_isWrong_50 51 rfl ?_
        refine jl_bipush (v := 41) h (by decide) dc_MO_isWrong_51 53 rfl ?_
        refine jl_icmp_eq h 74 (by decide) dc_MO_isWrong_53 56 rfl (fun c53 => ?_) (fun c53 => absurd (e3) c53)
        refine jl_aload_n (i := 0) h rfl rfl dc_MO_isWrong_74 75 rfl ?_
        refine jl_iload_n (i := 1) h rfl rfl dc_MO_isWrong_75 76 rfl ?_
        refine jl_callV (As := [_]) (rest := []) h hr vs_MO_129 vi_MO_opened vx_MO_opened (ci := 7) rfl (by omega) (by exact rfl) (fun l => hop l) (by first | decide | omega) (by first | decide | omega) rfl rfl (Nat.le_of_ble_eq_true rfl) dc_MO_isWrong_76 (res := [_]) rfl 79 rfl ?_
        refine jl_istore_n (i := 3) (lc2 := [(3, _), (2, _), (0, _), (1, _)]) h rfl (by decide) rfl dc_MO_isWrong_79 80 rfl ?_
        refine jl_iload_n (i := 3) h rfl rfl dc_MO_isWrong_80 81 rfl ?_
        refine jl_if_lt h 93 (by decide) dc_MO_isWrong_81 84 rfl (fun c81 => ?_) (fun c81 => absurd (by decide) c81)
        refine jl_iconst (v := 1) h (by decide) dc_MO_isWrong_93 94 rfl ?_
        exact jl_zret h he rfl (rfl) (rfl) dc_MO_isWrong_94
      | i :: os, hps, hst, hop =>
        have hst : st = (if en_cp b i p = true then some (en_pr w i p, os) else none) := hst
        have hip := (hps.2.2.2.2.1 i List.mem_cons_self).1
        have hopi : iI (ps_hd (i :: os)) = nI i := iI_nat i
        cases e4 : en_cp b i p with
        | true =>
          rw [if_pos e4] at hst
          subst hst
          refine jl_iload_n (i := 2) h rfl rfl dc_MO_isWrong_50 51 rfl ?_
          refine jl_bipush (v := 41) h (by decide) dc_MO_isWrong_51 53 rfl ?_
          refine jl_icmp_eq h 74 (by decide) dc_MO_isWrong_53 56 rfl (fun c53 => ?_) (fun c53 => absurd (e3) c53)
          refine jl_aload_n (i := 0) h rfl rfl dc_MO_isWrong_74 75 rfl ?_
          refine jl_iload_n (i := 1) h rfl rfl dc_MO_isWrong_75 76 rfl ?_
          refine jl_callV (As := [_]) (rest := []) h hr vs_MO_129 vi_MO_opened vx_MO_opened (ci := 7) rfl (by omega) (by exact rfl) (fun l => hop l) (by first | decide | omega) (by first | decide | omega) rfl rfl (Nat.le_of_ble_eq_true rfl) dc_MO_isWrong_76 (res := [_]) rfl 79 rfl ?_
          rw [hopi]
          refine jl_istore_n (i := 3) (lc2 := [(3, _), (2, _), (0, _), (1, _)]) h rfl (by decide) rfl dc_MO_isWrong_79 80 rfl ?_
          refine jl_iload_n (i := 3) h rfl rfl dc_MO_isWrong_80 81 rfl ?_
          refine jl_if_lt h 93 (by decide) dc_MO_isWrong_81 84 rfl (fun c81 => absurd c81 (nI_pos (by omega))) (fun c81 => ?_)
          refine jl_aload_n (i := 0) h rfl rfl dc_MO_isWrong_84 85 rfl ?_
          refine jl_iload_n (i := 3) h rfl rfl dc_MO_isWrong_85 86 rfl ?_
          refine jl_iload_n (i := 1) h rfl rfl dc_MO_isWrong_86 87 rfl ?_
          refine jl_callV (As := [_, _]) (rest := []) h hr vs_MO_71 vi_MO_canPair vx_MO_canPair (ci := 7) rfl (by omega) (by exact rfl) (fun l => c_MO_canPair l (mo_okV hO (by decide)) (show i < n by omega) (show p < n by omega)) (by first | decide | omega) (by first | decide | omega) rfl rfl (Nat.le_of_ble_eq_true rfl) dc_MO_isWrong_87 (res := [_]) rfl 90 rfl ?_
          rw [e4]
          refine jl_if_ne h 95 (by decide) dc_MO_isWrong_90 93 rfl (fun c90 => ?_) (fun c90 => absurd c90 (by decide))
          refine jl_aload_n (i := 0) h rfl rfl dc_MO_isWrong_95 96 rfl ?_
          refine jl_getf h nm_c_MO 5 wl_MO_19 (by omega) (by decide) (by exact rfl) (by rfl) dc_MO_isWrong_96 99 rfl ?_
          refine jl_iload_n (i := 3) h rfl rfl dc_MO_isWrong_99 100 rfl ?_
          refine jl_iload_n (i := 1) h rfl rfl dc_MO_isWrong_100 101 rfl ?_
          refine jl_iast h (i) (by exact rfl) (by omega) (by exact gw_at (len := 18) rfl rfl (va_up_self _ _ _)) (by exact by omega) (by first | decide | assumption) dc_MO_isWrong_101 (mo_set (len := 18) ⟨rfl, rfl⟩ rfl) 102 rfl ?_
          refine jl_aload_n (i := 0) h rfl rfl dc_MO_isWrong_102 103 rfl ?_
          refine jl_getf h nm_c_MO 5 wl_MO_19 (by omega) (by decide) (by exact rfl) (by rfl) dc_MO_isWrong_103 106 rfl ?_
          refine jl_iload_n (i := 1) h rfl rfl dc_MO_isWrong_106 107 rfl ?_
          refine jl_iload_n (i := 3) h rfl rfl dc_MO_isWrong_107 108 rfl ?_
          refine jl_iast h (p) (by exact rfl) (by omega) (by exact gw_at (len := 18) rfl rfl (va_up_self _ _ _)) (by exact by omega) (by first | decide | assumption) dc_MO_isWrong_108 (mo_set (len := 18) ⟨rfl, rfl⟩ (sr_updpr w i p)) 109 rfl ?_
          refine jl_iconst (v := 0) h (by decide) dc_MO_isWrong_109 110 rfl ?_
          exact jl_zret h he rfl (rfl) (rfl) dc_MO_isWrong_110
        | false =>
          rw [if_neg (by rw [e4]; decide)] at hst
          subst hst
          refine jl_iload_n (i := 2) h rfl rfl dc_MO_isWrong_50 51 rfl ?_
          refine jl_bipush (v := 41) h (by decide) dc_MO_isWrong_51 53 rfl ?_
          refine jl_icmp_eq h 74 (by decide) dc_MO_isWrong_53 56 rfl (fun c53 => ?_) (fun c53 => absurd (e3) c53)
          refine jl_aload_n (i := 0) h rfl rfl dc_MO_isWrong_74 75 rfl ?_
          refine jl_iload_n (i := 1) h rfl rfl dc_MO_isWrong_75 76 rfl ?_
          refine jl_callV (As := [_]) (rest := []) h hr vs_MO_129 vi_MO_opened vx_MO_opened (ci := 7) rfl (by omega) (by exact rfl) (fun l => hop l) (by first | decide | omega) (by first | decide | omega) rfl rfl (Nat.le_of_ble_eq_true rfl) dc_MO_isWrong_76 (res := [_]) rfl 79 rfl ?_
          rw [hopi]
          refine jl_istore_n (i := 3) (lc2 := [(3, _), (2, _), (0, _), (1, _)]) h rfl (by decide) rfl dc_MO_isWrong_79 80 rfl ?_
          refine jl_iload_n (i := 3) h rfl rfl dc_MO_isWrong_80 81 rfl ?_
          refine jl_if_lt h 93 (by decide) dc_MO_isWrong_81 84 rfl (fun c81 => absurd c81 (nI_pos (by omega))) (fun c81 => ?_)
          refine jl_aload_n (i := 0) h rfl rfl dc_MO_isWrong_84 85 rfl ?_
          refine jl_iload_n (i := 3) h rfl rfl dc_MO_isWrong_85 86 rfl ?_
          refine jl_iload_n (i := 1) h rfl rfl dc_MO_isWrong_86 87 rfl ?_
          refine jl_callV (As := [_, _]) (rest := []) h hr vs_MO_71 vi_MO_canPair vx_MO_canPair (ci := 7) rfl (by omega) (by exact rfl) (fun l => c_MO_canPair l (mo_okV hO (by decide)) (show i < n by omega) (show p < n by omega)) (by first | decide | omega) (by first | decide | omega) rfl rfl (Nat.le_of_ble_eq_true rfl) dc_MO_isWrong_87 (res := [_]) rfl 90 rfl ?_
          rw [e4]
          refine jl_if_ne h 95 (by decide) dc_MO_isWrong_90 93 rfl (fun c90 => absurd (by decide) c90) (fun c90 => ?_)
          refine jl_iconst (v := 1) h (by decide) dc_MO_isWrong_93 94 rfl ?_
          exact jl_zret h he rfl (rfl) (rfl) dc_MO_isWrong_94
    rw [if_neg e3] at hst
    by_cases e4 : ch p = 46
    · rw [if_pos e4] at hst
      subst hst
      refine jl_iload_n (i := 2) h rfl rfl dc_MO_isWrong_50 51 rfl ?_
      refine jl_bipush (v := 41) h (by decide) dc_MO_isWrong_51 53 rfl ?_
      refine jl_icmp_eq h 74 (by decide) dc_MO_isWrong_53 56 rfl (fun c53 => absurd c53 (e3)) (fun c53 => ?_)
      refine jl_iload_n (i := 2) h rfl rfl dc_MO_isWrong_56 57 rfl ?_
      refine jl_bipush (v := 40) h (by decide) dc_MO_isWrong_57 59 rfl ?_
      refine jl_icmp_eq h 72 (by decide) dc_MO_isWrong_59 62 rfl (fun c59 => absurd c59 (e2)) (fun c59 => ?_)
      refine jl_iload_n (i := 2) h rfl rfl dc_MO_isWrong_62 63 rfl ?_
      refine jl_bipush (v := 46) h (by decide) dc_MO_isWrong_63 65 rfl ?_
      refine jl_icmp_eq h 72 (by decide) dc_MO_isWrong_65 68 rfl (fun c65 => ?_) (fun c65 => absurd (e4) c65)
      refine jl_iconst (v := 0) h (by decide) dc_MO_isWrong_72 73 rfl ?_
      exact jl_zret h he rfl (rfl) (rfl) dc_MO_isWrong_73
    · rw [if_neg e4] at hst
      subst hst
      refine jl_iload_n (i := 2) h rfl rfl dc_MO_isWrong_50 51 rfl ?_
      refine jl_bipush (v := 41) h (by decide) dc_MO_isWrong_51 53 rfl ?_
      refine jl_icmp_eq h 74 (by decide) dc_MO_isWrong_53 56 rfl (fun c53 => absurd c53 (e3)) (fun c53 => ?_)
      refine jl_iload_n (i := 2) h rfl rfl dc_MO_isWrong_56 57 rfl ?_
      refine jl_bipush (v := 40) h (by decide) dc_MO_isWrong_57 59 rfl ?_
      refine jl_icmp_eq h 72 (by decide) dc_MO_isWrong_59 62 rfl (fun c59 => absurd c59 (e2)) (fun c59 => ?_)
      refine jl_iload_n (i := 2) h rfl rfl dc_MO_isWrong_62 63 rfl ?_
      refine jl_bipush (v := 46) h (by decide) dc_MO_isWrong_63 65 rfl ?_
      refine jl_icmp_eq h 72 (by decide) dc_MO_isWrong_65 68 rfl (fun c65 => absurd c65 (e4)) (fun c65 => ?_)
      refine jl_iconst (v := 1) h (by decide) dc_MO_isWrong_68 69 rfl ?_
      refine jl_goto h 73 (by decide) dc_MO_isWrong_69 ?_
      exact jl_zret h he rfl (rfl) (rfl) dc_MO_isWrong_73
  refine jl_iload_n (i := 1) h rfl rfl dc_MO_isWrong_0 1 rfl ?_
  refine jl_aload_n (i := 0) h rfl rfl dc_MO_isWrong_1 2 rfl ?_
  refine jl_getf (v := .int (nI tc)) h nm_c_MO 3 wl_MO_126 (by omega) (by decide) (by exact rfl) (by exact sr_v htc) dc_MO_isWrong_2 5 rfl ?_
  refine jl_icmp_lt h 33 (by decide) dc_MO_isWrong_5 8 rfl (fun c5 => ?_) (fun c5 => absurd (nI_lt hp (by omega)) c5)
  refine jl_iload_n (i := 1) h rfl rfl dc_MO_isWrong_33 34 rfl ?_
  refine jl_aload_n (i := 0) h rfl rfl dc_MO_isWrong_34 35 rfl ?_
  refine jl_getf (v := .int (nI n)) h nm_c_MO 1 wl_MO_42 (by omega) (by decide) (by exact rfl) (by exact sr_v hO.1) dc_MO_isWrong_35 38 rfl ?_
  refine jl_icmp_lt h 43 (by decide) dc_MO_isWrong_38 41 rfl (fun c38 => ?_) (fun c38 => absurd (nI_lt (by omega) (by omega)) c38)
  refine jl_aload_n (i := 0) h rfl rfl dc_MO_isWrong_43 44 rfl ?_
  refine jl_getf h nm_c_MO 4 wl_MO_16 (by omega) (by decide) (by exact rfl) (by rfl) dc_MO_isWrong_44 47 rfl ?_
  refine jl_iload_n (i := 1) h rfl rfl dc_MO_isWrong_47 48 rfl ?_
  refine jl_iald (v := ch p) h (p) (by exact rfl) (by omega) (by exact gw_row (len := 20) ⟨rfl, rfl⟩) (by exact by omega) (by first | decide | assumption) (by exact hT p hp) dc_MO_isWrong_48 49 rfl ?_
  refine jl_istore_n (i := 2) (lc2 := [(2, _), (0, _), (1, _)]) h rfl (by decide) rfl dc_MO_isWrong_49 50 rfl ?_
  exact t43
theorem c_MO_isWrong_end (hO : mo_ok I V n b) {tc : Nat} (htc : I 12 = nI tc) (hT : ∀ k, k < tc → V 163 k = ch k) {os : List Nat} (hps : ps_I b n tc w os) (hos : os = ps_op ch w tc) : jl_C l K sa yn_MO_isWrong bc_MO_isWrong 4 (some .boolean) 2 50 168 ad [.ref (ad 160), .int (nI tc)] (gw K ad I (va_up V 164 (fun k => iI (w k))) L C G R) (some (.int (st_bI (decide (¬ (tc = n ∧ os = [])))))) (gw K ad I (va_up V 164 (fun k => iI (w k))) L C G R) := by
  refine jl_enter (by decide) (Nat.le_of_ble_eq_true rfl) (fun x h he hr => ?_)
  show jl_J x 168 ad 0 0 (gw K ad I (va_up V 164 (fun k => iI (w k))) L C G R) 0 [(0, .ref (ad 160)), (1, .int (nI tc))] []
  have hn := hO.2.2.1
  have hle := hps.1
  by_cases e1 : tc < n
  · skip
    refine jl_iload_n (i := 1) h rfl rfl dc_MO_isWrong_0 1 rfl ?_
    refine jl_aload_n (i := 0) h rfl rfl dc_MO_isWrong_1 2 rfl ?_
    refine jl_getf (v := .int (nI tc)) h nm_c_MO 3 wl_MO_126 (by omega) (by decide) (by exact rfl) (by exact sr_v htc) dc_MO_isWrong_2 5 rfl ?_
    refine jl_icmp_lt h 33 (by decide) dc_MO_isWrong_5 8 rfl (fun c5 => absurd c5 (Int32.not_lt.mpr (nI_le (Nat.le_refl _) (by omega)))) (fun c5 => ?_)
    refine jl_iload_n (i := 1) h rfl rfl dc_MO_isWrong_8 9 rfl ?_
    refine jl_aload_n (i := 0) h rfl rfl dc_MO_isWrong_9 10 rfl ?_
    refine jl_getf (v := .int (nI n)) h nm_c_MO 1 wl_MO_42 (by omega) (by decide) (by exact rfl) (by exact sr_v hO.1) dc_MO_isWrong_10 13 rfl ?_
    refine jl_icmp_lt h 27 (by decide) dc_MO_isWrong_13 16 rfl (fun c13 => ?_) (fun c13 => absurd (nI_lt e1 (by omega)) c13)
    refine jl_iconst (v := 1) h (by decide) dc_MO_isWrong_27 28 rfl ?_
    refine jl_goto h 32 (by decide) dc_MO_isWrong_28 ?_
    exact jl_zret h he rfl (by rw [decide_eq_true (show ¬ (tc = n ∧ os = []) from fun h9 => by omega)]; rfl) (rfl) dc_MO_isWrong_32
  have hop := fun l => c_MO_opened l (K := K) (sa := sa) (ad := ad) (I := I) (V := va_up V 164 (fun k => iI (w k))) (L := L) (C := C) (G := G) (R := R) (va_up_self _ _ _) (mo_bw_V hps.2.1) hn (show tc ≤ 18 by omega) (ch := ch) hT
  rw [← hos] at hop
  match os, hps, hop, he with
  | [], _, hop, he =>
    refine jl_iload_n (i := 1) h rfl rfl dc_MO_isWrong_0 1 rfl ?_
    refine jl_aload_n (i := 0) h rfl rfl dc_MO_isWrong_1 2 rfl ?_
    refine jl_getf (v := .int (nI tc)) h nm_c_MO 3 wl_MO_126 (by omega) (by decide) (by exact rfl) (by exact sr_v htc) dc_MO_isWrong_2 5 rfl ?_
    refine jl_icmp_lt h 33 (by decide) dc_MO_isWrong_5 8 rfl (fun c5 => absurd c5 (Int32.not_lt.mpr (nI_le (Nat.le_refl _) (by omega)))) (fun c5 => ?_)
    refine jl_iload_n (i := 1) h rfl rfl dc_MO_isWrong_8 9 rfl ?_
    refine jl_aload_n (i := 0) h rfl rfl dc_MO_isWrong_9 10 rfl ?_
    refine jl_getf (v := .int (nI n)) h nm_c_MO 1 wl_MO_42 (by omega) (by decide) (by exact rfl) (by exact sr_v hO.1) dc_MO_isWrong_10 13 rfl ?_
    refine jl_icmp_lt h 27 (by decide) dc_MO_isWrong_13 16 rfl (fun c13 => absurd c13 (Int32.not_lt.mpr (nI_le (by omega) (by omega)))) (fun c13 => ?_)
    refine jl_aload_n (i := 0) h rfl rfl dc_MO_isWrong_16 17 rfl ?_
    refine jl_aload_n (i := 0) h rfl rfl dc_MO_isWrong_17 18 rfl ?_
    refine jl_getf (v := .int (nI tc)) h nm_c_MO 3 wl_MO_126 (by omega) (by decide) (by exact rfl) (by exact sr_v htc) dc_MO_isWrong_18 21 rfl ?_
    refine jl_callV (As := [_]) (rest := []) h hr vs_MO_129 vi_MO_opened vx_MO_opened (ci := 7) rfl (by omega) (by exact rfl) (fun l => hop l) (by first | decide | omega) (by first | decide | omega) rfl rfl (Nat.le_of_ble_eq_true rfl) dc_MO_isWrong_21 (res := [_]) rfl 24 rfl ?_
    refine jl_if_lt h 31 (by decide) dc_MO_isWrong_24 27 rfl (fun c24 => ?_) (fun c24 => absurd (by decide) c24)
    refine jl_iconst (v := 0) h (by decide) dc_MO_isWrong_31 32 rfl ?_
    exact jl_zret h he rfl (by rw [decide_eq_false (show ¬ ¬ (tc = n ∧ ([] : List Nat) = []) from fun h9 => h9 ⟨by omega, rfl⟩)]; rfl) (rfl) dc_MO_isWrong_32
  | i :: os, hps, hop, he =>
    have hopi : iI (ps_hd (i :: os)) = nI i := iI_nat i
    have hip := (hps.2.2.2.2.1 i List.mem_cons_self).1
    refine jl_iload_n (i := 1) h rfl rfl dc_MO_isWrong_0 1 rfl ?_
    refine jl_aload_n (i := 0) h rfl rfl dc_MO_isWrong_1 2 rfl ?_
    refine jl_getf (v := .int (nI tc)) h nm_c_MO 3 wl_MO_126 (by omega) (by decide) (by exact rfl) (by exact sr_v htc) dc_MO_isWrong_2 5 rfl ?_
    refine jl_icmp_lt h 33 (by decide) dc_MO_isWrong_5 8 rfl (fun c5 => absurd c5 (Int32.not_lt.mpr (nI_le (Nat.le_refl _) (by omega)))) (fun c5 => ?_)
    refine jl_iload_n (i := 1) h rfl rfl dc_MO_isWrong_8 9 rfl ?_
    refine jl_aload_n (i := 0) h rfl rfl dc_MO_isWrong_9 10 rfl ?_
    refine jl_getf (v := .int (nI n)) h nm_c_MO 1 wl_MO_42 (by omega) (by decide) (by exact rfl) (by exact sr_v hO.1) dc_MO_isWrong_10 13 rfl ?_
    refine jl_icmp_lt h 27 (by decide) dc_MO_isWrong_13 16 rfl (fun c13 => absurd c13 (Int32.not_lt.mpr (nI_le (by omega) (by omega)))) (fun c13 => ?_)
    refine jl_aload_n (i := 0) h rfl rfl dc_MO_isWrong_16 17 rfl ?_
    refine jl_aload_n (i := 0) h rfl rfl dc_MO_isWrong_17 18 rfl ?_
    refine jl_getf (v := .int (nI tc)) h nm_c_MO 3 wl_MO_126 (by omega) (by decide) (by exact rfl) (by exact sr_v htc) dc_MO_isWrong_18 21 rfl ?_
    refine jl_callV (As := [_]) (rest := []) h hr vs_MO_129 vi_MO_opened vx_MO_opened (ci := 7) rfl (by omega) (by exact rfl) (fun l => hop l) (by first | decide | omega) (by first | decide | omega) rfl rfl (Nat.le_of_ble_eq_true rfl) dc_MO_isWrong_21 (res := [_]) rfl 24 rfl ?_
    rw [hopi]
    refine jl_if_lt h 31 (by decide) dc_MO_isWrong_24 27 rfl (fun c24 => absurd c24 (nI_pos (by omega))) (fun c24 => ?_)
    refine jl_iconst (v := 1) h (by decide) dc_MO_isWrong_27 28 rfl ?_
    refine jl_goto h 32 (by decide) dc_MO_isWrong_28 ?_
    exact jl_zret h he rfl (by rw [decide_eq_true (show ¬ (tc = n ∧ i :: os = []) from fun h9 => by cases h9.2)]; rfl) (rfl) dc_MO_isWrong_32
theorem c_MO_read (hO : mo_ok I V n b) {tc : Nat} (htc : I 12 = nI tc) (ht20 : tc ≤ 20) (hT : ∀ k, k < tc → V 163 k = ch k) : jl_CP l K sa yn_MO_read bc_MO_read 4 (some .int) 3 80 168 ad [.ref (ad 160)] (gw K ad I V L C G R) (fun v E2 => ∃ V2, (∀ c, c ≠ 164 → c ≠ 165 → V2 c = V c) ∧ ((∃ p, ps_res b n ch tc = .inl p ∧ v = some (.int (iI (-10 - (p : Int)))) ∧ V2 165 = V 165) ∨ (∃ w, ps_res b n ch tc = .inr w ∧ v = some (.int (nI (mo_pc w n))) ∧ V2 165 = (fun k => iI (w k)))) ∧ E2 = gw K ad (va_up I 12 0) V2 L C G R) := by
  refine jl_enterP (by decide) (Nat.le_of_ble_eq_true rfl) (fun x h he hr => ?_)
  have hn := hO.2.2.1
  show jl_J x 168 ad 0 0 (gw K ad I V L C G R) 0 [(0, .ref (ad 160))] []
  have bad : ∀ (p : Nat) (w : Nat → Int), ps_res b n ch tc = .inl p → jl_J x 168 ad 0 0 (gw K ad I (va_up V 164 (fun k => iI (w k))) L C G R) 53 [(2, .int 0), (1, .int (nI p)), (0, .ref (ad 160))] [] := by
    intro p w hres
    refine jl_aload_n (i := 0) h rfl rfl dc_MO_read_53 54 rfl ?_
    refine jl_iconst (v := 0) h (by decide) dc_MO_read_54 55 rfl ?_
    refine jl_putf (fs2 := [_, _, _, _, _, _, _, _, _, _, _, _, _, _]) h nm_c_MO 3 wl_MO_126 (by omega) (by decide) rfl (by exact rfl) (by rfl) (by rfl) (by exact Nat.le_of_ble_eq_true rfl) (by rfl) dc_MO_read_55 (gw_set_mtyped _) 58 rfl ?_
    refine jl_iload_n (i := 2) h rfl rfl dc_MO_read_58 59 rfl ?_
    refine jl_if_ne h 67 (by decide) dc_MO_read_59 62 rfl (fun c59 => absurd (by decide) c59) (fun c59 => ?_)
    refine jl_bipush (v := iI (-10)) h (by decide) dc_MO_read_62 64 rfl ?_
    refine jl_iload_n (i := 1) h rfl rfl dc_MO_read_64 65 rfl ?_
    refine jl_isub h dc_MO_read_65 66 rfl ?_
    rw [show iI (-10) - nI p = iI (-10 - (p : Int)) by rw [← iI_nat, iI_sub]]
    exact jl_zretP h he rfl (⟨_, fun c c1 c2 => va_up_ne _ _ c1, Or.inl ⟨p, hres, rfl, rfl⟩, rfl⟩) dc_MO_read_66
  have good : ∀ (w : Nat → Int), en_V b n w → ps_res b n ch tc = .inr w → jl_J x 168 ad 0 0 (gw K ad I (va_up V 164 (fun k => iI (w k))) L C G R) 53 [(2, .int 1), (1, .int (nI tc)), (0, .ref (ad 160))] [] := by
    intro w hw hres
    have loop2 : ∀ (dd p : Nat), p + dd = 18 → jl_J x 168 ad 0 0 (gw K ad (va_up I 12 0) (va_up (va_up V 164 (fun k => iI (w k))) 165 (fun j => if j < p then iI (w j) else V 165 j)) L C G R) 69 [(3, .int (nI p)), (0, .ref (ad 160))] [] := by
      intro dd
      induction dd with
      | zero =>
        intro p hp
        have hp : p = 18 := by omega
        subst hp
        refine mo_norm (len := 18) ⟨rfl, rfl⟩ (g := fun k => iI (w k)) (fun j hj => by simp [hj]) ?_
        refine jl_iload_n (i := 3) h rfl rfl dc_MO_read_69 70 rfl ?_
        refine jl_bipush (v := nI 18) h (by decide) dc_MO_read_70 72 rfl ?_
        refine jl_icmp_ge h 93 (by decide) dc_MO_read_72 75 rfl (fun c72 => ?_) (fun c72 => absurd (nI_le (Nat.le_refl _) (by omega)) c72)
        refine jl_aload_n (i := 0) h rfl rfl dc_MO_read_93 94 rfl ?_
        refine jl_callV (As := []) (rest := []) h hr vs_MO_120 vi_MO_pairsOfOwn vx_MO_pairsOfOwn (ci := 7) rfl (by omega) (by exact rfl) (fun l => c_MO_pairsOfOwn l (I := va_up I 12 0) (mo_okV (mo_okV hO (by decide)) (by decide)) (va_up_self _ _ _) hw) (by first | decide | omega) (by first | decide | omega) rfl rfl (Nat.le_of_ble_eq_true rfl) dc_MO_read_94 (res := [_]) rfl 97 rfl ?_
        exact jl_zretP h he rfl (⟨_, fun c c1 c2 => by rw [va_up_ne _ _ c1, va_up_ne _ _ c2, va_up_ne _ _ c1], Or.inr ⟨w, hres, rfl, rfl⟩, rfl⟩) dc_MO_read_97
      | succ dd ih =>
        intro p hp
        have hl := ih (p + 1) (by omega)
        refine jl_iload_n (i := 3) h rfl rfl dc_MO_read_69 70 rfl ?_
        refine jl_bipush (v := nI 18) h (by decide) dc_MO_read_70 72 rfl ?_
        refine jl_icmp_ge h 93 (by decide) dc_MO_read_72 75 rfl (fun c72 => absurd c72 (nI_ge (by omega) (by omega))) (fun c72 => ?_)
        refine jl_aload_n (i := 0) h rfl rfl dc_MO_read_75 76 rfl ?_
        refine jl_getf h nm_c_MO 6 wl_MO_22 (by omega) (by decide) (by exact rfl) (by rfl) dc_MO_read_76 79 rfl ?_
        refine jl_iload_n (i := 3) h rfl rfl dc_MO_read_79 80 rfl ?_
        refine jl_aload_n (i := 0) h rfl rfl dc_MO_read_80 81 rfl ?_
        refine jl_getf h nm_c_MO 5 wl_MO_19 (by omega) (by decide) (by exact rfl) (by rfl) dc_MO_read_81 84 rfl ?_
        refine jl_iload_n (i := 3) h rfl rfl dc_MO_read_84 85 rfl ?_
        refine jl_iald (v := iI (w p)) h (p) (by exact rfl) (by omega) (by exact gw_at (len := 18) rfl rfl (f := fun k => iI (w k)) rfl) (by exact by omega) (by first | decide | assumption) (by exact rfl) dc_MO_read_85 86 rfl ?_
        refine jl_iast h (p) (by exact rfl) (by omega) (by exact gw_at (len := 18) rfl rfl (va_up_self _ _ _)) (by exact by omega) (by first | decide | assumption) dc_MO_read_86 (mo_set (len := 18) ⟨rfl, rfl⟩ (mo_fill (g := fun k => iI (w k)) p)) 87 rfl ?_
        refine jl_iinc (i := 3) (d := 1) (lc2 := [(3, _), (0, _)]) (v2 := nI (p + 1)) h (by decide) rfl (nI_1 p) rfl dc_MO_read_87 90 rfl ?_
        refine jl_goto h 69 (by decide) dc_MO_read_90 ?_
        exact hl
    have l0 := loop2 18 0 (by omega)
    rw [show va_up (va_up V 164 (fun k => iI (w k))) 165 (fun j => if j < 0 then iI (w j) else V 165 j) = va_up V 164 (fun k => iI (w k)) from mo_fill0 (V := va_up V 164 (fun k => iI (w k))) (c := 165) (g := fun k => iI (w k))] at l0
    refine jl_aload_n (i := 0) h rfl rfl dc_MO_read_53 54 rfl ?_
    refine jl_iconst (v := 0) h (by decide) dc_MO_read_54 55 rfl ?_
    refine jl_putf (fs2 := [_, _, _, _, _, _, _, _, _, _, _, _, _, _]) h nm_c_MO 3 wl_MO_126 (by omega) (by decide) rfl (by exact rfl) (by rfl) (by rfl) (by exact Nat.le_of_ble_eq_true rfl) (by rfl) dc_MO_read_55 (gw_set_mtyped _) 58 rfl ?_
    refine jl_iload_n (i := 2) h rfl rfl dc_MO_read_58 59 rfl ?_
    refine jl_if_ne h 67 (by decide) dc_MO_read_59 62 rfl (fun c59 => ?_) (fun c59 => absurd c59 (by decide))
    refine jl_iconst (v := nI 0) h (by decide) dc_MO_read_67 68 rfl ?_
    refine jl_istore_n (i := 3) (lc2 := [(3, _), (2, _), (1, _), (0, _)]) h rfl (by decide) rfl dc_MO_read_68 69 rfl ?_
    refine jl_sub (lc2 := [(3, _), (0, _)]) [0, 3] rfl ?_
    exact l0
  have loop : ∀ (d p : Nat) (w : Nat → Int) (os : List Nat), p + d = tc → ps_I b n p w os → os = ps_op ch w p → ps_res b n ch tc = ps_go b n ch d p (w, os) → jl_J x 168 ad 0 0 (gw K ad I (va_up V 164 (fun k => iI (w k))) L C G R) 6 [(1, .int (nI p)), (0, .ref (ad 160))] [] := by
    intro d
    induction d with
    | zero =>
      intro p w os hp hps hos hres
      have hp : p = tc := by omega
      subst hp
      have hle := hps.1
      have hw := hps.2.1
      by_cases hfin : p = n ∧ os = []
      · have hres : ps_res b n ch p = .inr w := by rw [hres]; unfold ps_go; rw [if_pos hfin]
        refine jl_iload_n (i := 1) h rfl rfl dc_MO_read_6 7 rfl ?_
        refine jl_aload_n (i := 0) h rfl rfl dc_MO_read_7 8 rfl ?_
        refine jl_getf (v := .int (nI p)) h nm_c_MO 3 wl_MO_126 (by omega) (by decide) (by exact rfl) (by exact sr_v htc) dc_MO_read_8 11 rfl ?_
        refine jl_icmp_ge h 28 (by decide) dc_MO_read_11 14 rfl (fun c11 => ?_) (fun c11 => absurd (nI_le (Nat.le_refl _) (by omega)) c11)
        refine jl_iload_n (i := 1) h rfl rfl dc_MO_read_28 29 rfl ?_
        refine jl_aload_n (i := 0) h rfl rfl dc_MO_read_29 30 rfl ?_
        refine jl_getf (v := .int (nI p)) h nm_c_MO 3 wl_MO_126 (by omega) (by decide) (by exact rfl) (by exact sr_v htc) dc_MO_read_30 33 rfl ?_
        refine jl_icmp_ne h 51 (by decide) dc_MO_read_33 36 rfl (fun c33 => absurd (rfl) c33) (fun c33 => ?_)
        refine jl_aload_n (i := 0) h rfl rfl dc_MO_read_36 37 rfl ?_
        refine jl_aload_n (i := 0) h rfl rfl dc_MO_read_37 38 rfl ?_
        refine jl_getf (v := .int (nI p)) h nm_c_MO 3 wl_MO_126 (by omega) (by decide) (by exact rfl) (by exact sr_v htc) dc_MO_read_38 41 rfl ?_
        refine jl_callV (As := [_]) (rest := []) h hr vs_MO_132 vi_MO_isWrong vx_MO_isWrong (ci := 7) rfl (by omega) (by exact rfl) (fun l => c_MO_isWrong_end l hO htc hT hps hos) (by first | decide | omega) (by first | decide | omega) rfl rfl (Nat.le_of_ble_eq_true rfl) dc_MO_read_41 (res := [_]) rfl 44 rfl ?_
        refine jl_if_ne h 51 (by decide) dc_MO_read_44 47 rfl (fun c44 => absurd (by rw [decide_eq_false (fun h9 => h9 hfin)]; rfl) c44) (fun c44 => ?_)
        refine jl_iconst (v := 1) h (by decide) dc_MO_read_47 48 rfl ?_
        refine jl_goto h 52 (by decide) dc_MO_read_48 ?_
        refine jl_istore_n (i := 2) (lc2 := [(2, _), (1, _), (0, _)]) h rfl (by decide) rfl dc_MO_read_52 53 rfl ?_
        exact good w hw hres
      · have hres : ps_res b n ch p = .inl p := by rw [hres]; unfold ps_go; rw [if_neg hfin]
        refine jl_iload_n (i := 1) h rfl rfl dc_MO_read_6 7 rfl ?_
        refine jl_aload_n (i := 0) h rfl rfl dc_MO_read_7 8 rfl ?_
        refine jl_getf (v := .int (nI p)) h nm_c_MO 3 wl_MO_126 (by omega) (by decide) (by exact rfl) (by exact sr_v htc) dc_MO_read_8 11 rfl ?_
        refine jl_icmp_ge h 28 (by decide) dc_MO_read_11 14 rfl (fun c11 => ?_) (fun c11 => absurd (nI_le (Nat.le_refl _) (by omega)) c11)
        refine jl_iload_n (i := 1) h rfl rfl dc_MO_read_28 29 rfl ?_
        refine jl_aload_n (i := 0) h rfl rfl dc_MO_read_29 30 rfl ?_
        refine jl_getf (v := .int (nI p)) h nm_c_MO 3 wl_MO_126 (by omega) (by decide) (by exact rfl) (by exact sr_v htc) dc_MO_read_30 33 rfl ?_
        refine jl_icmp_ne h 51 (by decide) dc_MO_read_33 36 rfl (fun c33 => absurd (rfl) c33) (fun c33 => ?_)
        refine jl_aload_n (i := 0) h rfl rfl dc_MO_read_36 37 rfl ?_
        refine jl_aload_n (i := 0) h rfl rfl dc_MO_read_37 38 rfl ?_
        refine jl_getf (v := .int (nI p)) h nm_c_MO 3 wl_MO_126 (by omega) (by decide) (by exact rfl) (by exact sr_v htc) dc_MO_read_38 41 rfl ?_
        refine jl_callV (As := [_]) (rest := []) h hr vs_MO_132 vi_MO_isWrong vx_MO_isWrong (ci := 7) rfl (by omega) (by exact rfl) (fun l => c_MO_isWrong_end l hO htc hT hps hos) (by first | decide | omega) (by first | decide | omega) rfl rfl (Nat.le_of_ble_eq_true rfl) dc_MO_read_41 (res := [_]) rfl 44 rfl ?_
        refine jl_if_ne h 51 (by decide) dc_MO_read_44 47 rfl (fun c44 => ?_) (fun c44 => absurd c44 (by rw [decide_eq_true hfin]; decide))
        refine jl_iconst (v := 0) h (by decide) dc_MO_read_51 52 rfl ?_
        refine jl_istore_n (i := 2) (lc2 := [(2, _), (1, _), (0, _)]) h rfl (by decide) rfl dc_MO_read_52 53 rfl ?_
        exact bad p w hres
    | succ d ih =>
      intro p w os hp hps hos hres
      have hpt : ¬ nI p = nI tc := by rw [nI_eq (by omega) (by omega)]; omega
      cases hst : ps_step b n p (ch p) (w, os) with
      | none =>
        rw [ps_go_none hst] at hres
        refine jl_iload_n (i := 1) h rfl rfl dc_MO_read_6 7 rfl ?_
        refine jl_aload_n (i := 0) h rfl rfl dc_MO_read_7 8 rfl ?_
        refine jl_getf (v := .int (nI tc)) h nm_c_MO 3 wl_MO_126 (by omega) (by decide) (by exact rfl) (by exact sr_v htc) dc_MO_read_8 11 rfl ?_
        refine jl_icmp_ge h 28 (by decide) dc_MO_read_11 14 rfl (fun c11 => absurd c11 (nI_ge (by omega) (by omega))) (fun c11 => ?_)
        refine jl_aload_n (i := 0) h rfl rfl dc_MO_read_14 15 rfl ?_
        refine jl_iload_n (i := 1) h rfl rfl dc_MO_read_15 16 rfl ?_
        refine jl_callV (As := [_]) (rest := []) h hr vs_MO_132 vi_MO_isWrong vx_MO_isWrong (ci := 7) rfl (by omega) (by exact rfl) (fun l => c_MO_isWrong l hO htc ht20 (show p < tc by omega) hT hps hos) (by first | decide | omega) (by first | decide | omega) rfl rfl (Nat.le_of_ble_eq_true rfl) dc_MO_read_16 (res := [_]) rfl 19 rfl ?_
        rw [hst]
        refine jl_if_ne h 28 (by decide) dc_MO_read_19 22 rfl (fun c19 => ?_) (fun c19 => absurd c19 (by decide))
        refine jl_iload_n (i := 1) h rfl rfl dc_MO_read_28 29 rfl ?_
        refine jl_aload_n (i := 0) h rfl rfl dc_MO_read_29 30 rfl ?_
        refine jl_getf (v := .int (nI tc)) h nm_c_MO 3 wl_MO_126 (by omega) (by decide) (by exact rfl) (by exact sr_v htc) dc_MO_read_30 33 rfl ?_
        refine jl_icmp_ne h 51 (by decide) dc_MO_read_33 36 rfl (fun c33 => ?_) (fun c33 => absurd c33 (hpt))
        refine jl_iconst (v := 0) h (by decide) dc_MO_read_51 52 rfl ?_
        refine jl_istore_n (i := 2) (lc2 := [(2, _), (1, _), (0, _)]) h rfl (by decide) rfl dc_MO_read_52 53 rfl ?_
        exact bad p w hres
      | some s2 =>
        obtain ⟨w2, os2⟩ := s2
        rw [ps_go_some hst] at hres
        refine jl_iload_n (i := 1) h rfl rfl dc_MO_read_6 7 rfl ?_
        refine jl_aload_n (i := 0) h rfl rfl dc_MO_read_7 8 rfl ?_
        refine jl_getf (v := .int (nI tc)) h nm_c_MO 3 wl_MO_126 (by omega) (by decide) (by exact rfl) (by exact sr_v htc) dc_MO_read_8 11 rfl ?_
        refine jl_icmp_ge h 28 (by decide) dc_MO_read_11 14 rfl (fun c11 => absurd c11 (nI_ge (by omega) (by omega))) (fun c11 => ?_)
        refine jl_aload_n (i := 0) h rfl rfl dc_MO_read_14 15 rfl ?_
        refine jl_iload_n (i := 1) h rfl rfl dc_MO_read_15 16 rfl ?_
        refine jl_callV (As := [_]) (rest := []) h hr vs_MO_132 vi_MO_isWrong vx_MO_isWrong (ci := 7) rfl (by omega) (by exact rfl) (fun l => c_MO_isWrong l hO htc ht20 (show p < tc by omega) hT hps hos) (by first | decide | omega) (by first | decide | omega) rfl rfl (Nat.le_of_ble_eq_true rfl) dc_MO_read_16 (res := [_]) rfl 19 rfl ?_
        rw [hst]
        refine jl_if_ne h 28 (by decide) dc_MO_read_19 22 rfl (fun c19 => absurd (rfl) c19) (fun c19 => ?_)
        refine jl_iinc (i := 1) (d := 1) (lc2 := [(1, _), (0, _)]) (v2 := nI (p + 1)) h (by decide) rfl (nI_1 p) rfl dc_MO_read_22 25 rfl ?_
        refine jl_goto h 6 (by decide) dc_MO_read_25 ?_
        exact ih (p + 1) w2 os2 (by omega) (ps_I_step hps hst) (ps_op_step hps hos hst) hres
  have l0 := loop tc 0 (fun _ => -1) [] (by omega) (ps_I0 b n) rfl rfl
  refine jl_aload_n (i := 0) h rfl rfl dc_MO_read_0 1 rfl ?_
  refine jl_callV (As := []) (rest := []) h hr vs_MO_78 vi_MO_begin vx_MO_begin (ci := 7) rfl (by omega) (by exact rfl) (fun l => c_MO_begin l) (by first | decide | omega) (by first | decide | omega) rfl rfl (Nat.le_of_ble_eq_true rfl) dc_MO_read_1 (res := []) rfl 4 rfl ?_
  refine jl_iconst (v := nI 0) h (by decide) dc_MO_read_4 5 rfl ?_
  refine jl_istore_n (i := 1) (lc2 := [(1, _), (0, _)]) h rfl (by decide) rfl dc_MO_read_5 6 rfl ?_
  exact l0
end MO

