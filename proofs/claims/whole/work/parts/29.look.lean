/-! Bounds of energies; the reference: look, most, least, ways, clearOwn, base, clear. -/
theorem tp_f_in (w : Nat → Int) (e : Nat) : ∀ (d p : Nat), (∀ s ∈ (tp_f w d p e).1, p ≤ s.1 ∧ s.1 < e) ∧ (tp_f w d p e).1.length + (tp_f w d p e).2 ≤ e - p
  | 0, p => ⟨fun s hs => absurd hs List.not_mem_nil, Nat.zero_le _⟩
  | d + 1, p => by
    unfold tp_f
    by_cases he : e ≤ p
    · rw [if_pos he]
      exact ⟨fun s hs => absurd hs List.not_mem_nil, Nat.zero_le _⟩
    · rw [if_neg he]
      by_cases hp : (p : Int) < w p
      · rw [if_pos hp]
        obtain ⟨h1, h2⟩ := tp_f_in w e d ((w p).toNat + 1)
        refine ⟨fun s hs => ?_, ?_⟩
        · rcases List.mem_cons.mp hs with h3 | h3
          · rw [h3]; exact ⟨Nat.le_refl p, by show p < e; omega⟩
          · have := h1 s h3
            omega
        · show ((p, (w p).toNat) :: (tp_f w d ((w p).toNat + 1) e).1).length + (tp_f w d ((w p).toNat + 1) e).2 ≤ _
          rw [List.length_cons]
          omega
      · rw [if_neg hp]
        obtain ⟨h1, h2⟩ := tp_f_in w e d (p + 1)
        refine ⟨fun s hs => ?_, ?_⟩
        · have := h1 s hs
          omega
        · show (tp_f w d (p + 1) e).1.length + ((tp_f w d (p + 1) e).2 + 1) ≤ _
          omega
theorem lp_ws_in (b : Nat → Nat) : ∀ bs : List (Nat × Nat), 0 ≤ lp_ws b bs ∧ lp_ws b bs ≤ 5 * (bs.length : Int)
  | [] => ⟨Int.le_refl _, by show (0 : Int) ≤ _; simp⟩
  | q :: bs => by
    have h1 := lp_ws_in b bs
    have h2 := lp_wk_in b q.1 q.2 5 (by decide)
    have h3 : lp_ws b (q :: bs) = lp_wk b q.1 q.2 5 + lp_ws b bs := by unfold lp_ws; rw [List.map_cons, List.sum_cons]
    rw [h3, List.length_cons]
    omega
theorem lp_loop_in (b : Nat → Nat) (w : Nat → Int) (i j : Nat) (hj : j < 18) : -34 ≤ lp_loop b w i j ∧ lp_loop b w i j ≤ 1000 := by
  obtain ⟨h1, h2⟩ := tp_f_in w j (j - (i + 1)) (i + 1)
  unfold lp_loop
  unfold tp_l
  generalize tp_f w (j - (i + 1)) (i + 1) j = r at h1 h2
  obtain ⟨bs, u⟩ := r
  match bs, h1, h2 with
  | [], _, _ =>
    have := lp_hp_in b i j
    show -34 ≤ lp_hp b i j ∧ lp_hp b i j ≤ 1000
    omega
  | [(k, m)], h1, _ =>
    have h3 := h1 (k, m) List.mem_cons_self
    have h4 : i + 1 ≤ k ∧ k < j := h3
    have := lp_w1_in b i j k m hj (by omega)
    show -34 ≤ lp_w1 b i j k m ∧ lp_w1 b i j k m ≤ 1000
    omega
  | a :: c :: bs, h1, h2 =>
    rw [lp_of_many (by simp)]
    have h3 := lp_ws_in b (a :: c :: bs)
    have h4 := lp_wk_in b i j 5 (by decide)
    have h2 : (a :: c :: bs).length + u ≤ j - (i + 1) := h2
    show -34 ≤ 34 + 4 * (((a :: c :: bs).length : Int) + 1) + (u : Int) + lp_wk b i j 5 + lp_ws b (a :: c :: bs) ∧ 34 + 4 * (((a :: c :: bs).length : Int) + 1) + (u : Int) + lp_wk b i j 5 + lp_ws b (a :: c :: bs) ≤ 1000
    omega
theorem st_S_in (b : Nat → Nat) (w : Nat → Int) (hw : ∀ p, w p < 18) : ∀ k : Nat, -34 * (k : Int) ≤ st_S b w k ∧ st_S b w k ≤ 1000 * (k : Int)
  | 0 => ⟨Int.le_refl _, Int.le_refl _⟩
  | k + 1 => by
    have h1 := st_S_in b w hw k
    have h2 := hw k
    unfold st_S
    split
    · have h3 := lp_loop_in b w k (w k).toNat (by omega)
      omega
    · omega
theorem st_E_in {b : Nat → Nat} {n : Nat} {w : Nat → Int} (hn : n ≤ 18) (hw : mo_bw n w) : -1000 ≤ st_E b n w ∧ st_E b n w ≤ 20000 := by
  have h1 := st_S_in b w (fun p => by have := hw p; omega) n
  have h2 := lp_ws_in b (tp_l w 0 n).1
  have h3 := (tp_f_in w n (n - 0) 0).2
  have h4 : (tp_l w 0 n).1.length ≤ n := by unfold tp_l; omega
  unfold st_E
  omega
/-- the fields known, least, most, ways -/
def mo_I (I : Nat → Int32) (a c d : Int32) : Nat → Int32 := fun k => if k = 13 then 1 else if k = 14 then a else if k = 15 then c else if k = 16 then d else I k
theorem mo_I14 {I : Nat → Int32} {a c d z : Int32} : va_up (mo_I I a c d) 14 z = mo_I I z c d := by
  funext k
  unfold va_up mo_I
  by_cases h : k = 14
  · simp [h]
  · simp [h]
theorem mo_I15 {I : Nat → Int32} {a c d z : Int32} : va_up (mo_I I a c d) 15 z = mo_I I a z d := by
  funext k
  unfold va_up mo_I
  by_cases h : k = 15
  · simp [h]
  · simp [h]
theorem mo_I16 {I : Nat → Int32} {a c d z : Int32} : va_up (mo_I I a c d) 16 z = mo_I I a c z := by
  funext k
  unfold va_up mo_I
  by_cases h : k = 16
  · simp [h]
  · simp [h]
theorem mo_I0 {I : Nat → Int32} {a c d : Int32} : va_up (va_up (va_up (va_up I 13 1) 14 a) 15 c) 16 d = mo_I I a c d := by
  funext k
  unfold va_up mo_I
  by_cases h1 : k = 13
  · simp [h1]
  · by_cases h2 : k = 14
    · simp [h2]
    · by_cases h3 : k = 15
      · simp [h3]
      · simp [h1, h2, h3]
/-- least, most over a list of structures -/
def mo_lo (b : Nat → Nat) (n : Nat) (a : Int) (ws : List (Nat → Int)) : Int := ws.foldl (fun a w => fo_mi a (st_E b n w)) a
def mo_hi (n : Nat) (c : Nat) (ws : List (Nat → Int)) : Nat := ws.foldl (fun c w => if c < mo_pc w n then mo_pc w n else c) c
theorem mo_okI {I : Nat → Int32} {V : Nat → Nat → Int32} {n : Nat} {b : Nat → Nat} {a c d : Int32} (h : mo_ok I V n b) : mo_ok (mo_I I a c d) V n b := h
def mo_known (I : Nat → Int32) (n : Nat) (b : Nat → Nat) : Prop := I 13 = 1 ∧ I 14 = iI (mo_lo b n 0 (en_all b n)) ∧ I 15 = nI (mo_hi n 0 (en_all b n)) ∧ I 16 = nI (en_all b n).length
def mo_done (I : Nat → Int32) (n : Nat) (b : Nat → Nat) : Nat → Int32 := mo_I I (iI (mo_lo b n 0 (en_all b n))) (nI (mo_hi n 0 (en_all b n))) (nI (en_all b n).length)
theorem mo_done_known (I : Nat → Int32) (n : Nat) (b : Nat → Nat) : mo_known (mo_done I n b) n b := ⟨rfl, rfl, rfl, rfl⟩
abbrev mo_vmost (n : Nat) (b : Nat → Nat) : Int32 := nI (mo_hi n 0 (en_all b n))
abbrev mo_vleast (n : Nat) (b : Nat → Nat) : Int32 := iI (mo_lo b n 0 (en_all b n))
abbrev mo_vways (n : Nat) (b : Nat → Nat) : Int32 := nI (en_all b n).length
abbrev bc_MO_look : ByteArray := prog_9_method_18_code
abbrev yn_MO_look : MethodName := ⟨"FoldedStrandModel", "look", "()V"⟩
theorem vs_MO_78 : jl_v "FoldedStrandModel" 78 yn_MO_begin bc_MO_begin 2 none 0 := ⟨jl_T_of 577 (by decide +kernel) (by decide +kernel), jl_T_of 9 (by decide +kernel) (by decide +kernel), jl_T_of 574 (by decide +kernel) (by decide +kernel), by decide +kernel, by decide +kernel, by decide +kernel⟩
theorem vi_MO_begin : Cond.instanceMethod yn_MO_begin ∈ jl_T := jl_T_of 576 (by decide +kernel) (by decide +kernel)
theorem vx_MO_begin : Cond.selects "FoldedStrandModel" yn_MO_begin yn_MO_begin ∈ jl_T := jl_T_sel 14 (by decide +kernel) (by decide +kernel)
theorem wl_MO_81 : Cond.fieldLink "FoldedStrandModel" 81 "FoldedStrandModel" "least" "I" ∈ jl_T := jl_T_of 523 (by decide +kernel) (by decide +kernel)
theorem wl_MO_84 : Cond.fieldLink "FoldedStrandModel" 84 "FoldedStrandModel" "most" "I" ∈ jl_T := jl_T_of 524 (by decide +kernel) (by decide +kernel)
theorem wl_MO_87 : Cond.fieldLink "FoldedStrandModel" 87 "FoldedStrandModel" "ways" "I" ∈ jl_T := jl_T_of 525 (by decide +kernel) (by decide +kernel)
theorem vs_MO_90 : jl_v "FoldedStrandModel" 90 yn_MO_energyNow bc_MO_energyNow 4 (some .int) 0 := ⟨jl_T_of 581 (by decide +kernel) (by decide +kernel), jl_T_of 9 (by decide +kernel) (by decide +kernel), jl_T_of 578 (by decide +kernel) (by decide +kernel), by decide +kernel, by decide +kernel, by decide +kernel⟩
theorem vi_MO_energyNow : Cond.instanceMethod yn_MO_energyNow ∈ jl_T := jl_T_of 580 (by decide +kernel) (by decide +kernel)
theorem vx_MO_energyNow : Cond.selects "FoldedStrandModel" yn_MO_energyNow yn_MO_energyNow ∈ jl_T := jl_T_sel 15 (by decide +kernel) (by decide +kernel)
theorem vs_MO_94 : jl_v "FoldedStrandModel" 94 yn_MO_pairsNow bc_MO_pairsNow 3 (some .int) 0 := ⟨jl_T_of 609 (by decide +kernel) (by decide +kernel), jl_T_of 9 (by decide +kernel) (by decide +kernel), jl_T_of 606 (by decide +kernel) (by decide +kernel), by decide +kernel, by decide +kernel, by decide +kernel⟩
theorem vi_MO_pairsNow : Cond.instanceMethod yn_MO_pairsNow ∈ jl_T := jl_T_of 608 (by decide +kernel) (by decide +kernel)
theorem vx_MO_pairsNow : Cond.selects "FoldedStrandModel" yn_MO_pairsNow yn_MO_pairsNow ∈ jl_T := jl_T_sel 22 (by decide +kernel) (by decide +kernel)
theorem vs_MO_97 : jl_v "FoldedStrandModel" 97 yn_MO_nextStructure bc_MO_nextStructure 2 (some .boolean) 0 := ⟨jl_T_of 613 (by decide +kernel) (by decide +kernel), jl_T_of 9 (by decide +kernel) (by decide +kernel), jl_T_of 610 (by decide +kernel) (by decide +kernel), by decide +kernel, by decide +kernel, by decide +kernel⟩
theorem vi_MO_nextStructure : Cond.instanceMethod yn_MO_nextStructure ∈ jl_T := jl_T_of 612 (by decide +kernel) (by decide +kernel)
theorem vx_MO_nextStructure : Cond.selects "FoldedStrandModel" yn_MO_nextStructure yn_MO_nextStructure ∈ jl_T := jl_T_sel 23 (by decide +kernel) (by decide +kernel)
theorem dc_MO_look_0 : decode bc_MO_look 0 = .ok (.aload_n 0, 1) := by decide +kernel
theorem dc_MO_look_1 : decode bc_MO_look 1 = .ok (.getfield 38, 3) := by decide +kernel
theorem dc_MO_look_4 : decode bc_MO_look 4 = .ok (.ifCond .eq 4, 3) := by decide +kernel
theorem dc_MO_look_7 : decode bc_MO_look 7 = .ok (.return_, 1) := by decide +kernel
theorem dc_MO_look_8 : decode bc_MO_look 8 = .ok (.aload_n 0, 1) := by decide +kernel
theorem dc_MO_look_9 : decode bc_MO_look 9 = .ok (.iconst 1, 1) := by decide +kernel
theorem dc_MO_look_10 : decode bc_MO_look 10 = .ok (.putfield 38, 3) := by decide +kernel
theorem dc_MO_look_13 : decode bc_MO_look 13 = .ok (.aload_n 0, 1) := by decide +kernel
theorem dc_MO_look_14 : decode bc_MO_look 14 = .ok (.invokevirtual 78, 3) := by decide +kernel
theorem dc_MO_look_17 : decode bc_MO_look 17 = .ok (.aload_n 0, 1) := by decide +kernel
theorem dc_MO_look_18 : decode bc_MO_look 18 = .ok (.iconst 0, 1) := by decide +kernel
theorem dc_MO_look_19 : decode bc_MO_look 19 = .ok (.putfield 81, 3) := by decide +kernel
theorem dc_MO_look_22 : decode bc_MO_look 22 = .ok (.aload_n 0, 1) := by decide +kernel
theorem dc_MO_look_23 : decode bc_MO_look 23 = .ok (.iconst 0, 1) := by decide +kernel
theorem dc_MO_look_24 : decode bc_MO_look 24 = .ok (.putfield 84, 3) := by decide +kernel
theorem dc_MO_look_27 : decode bc_MO_look 27 = .ok (.aload_n 0, 1) := by decide +kernel
theorem dc_MO_look_28 : decode bc_MO_look 28 = .ok (.iconst 0, 1) := by decide +kernel
theorem dc_MO_look_29 : decode bc_MO_look 29 = .ok (.putfield 87, 3) := by decide +kernel
theorem dc_MO_look_32 : decode bc_MO_look 32 = .ok (.iconst 1, 1) := by decide +kernel
theorem dc_MO_look_33 : decode bc_MO_look 33 = .ok (.istore_n 1, 1) := by decide +kernel
theorem dc_MO_look_34 : decode bc_MO_look 34 = .ok (.iload_n 1, 1) := by decide +kernel
theorem dc_MO_look_35 : decode bc_MO_look 35 = .ok (.ifCond .eq 71, 3) := by decide +kernel
theorem dc_MO_look_38 : decode bc_MO_look 38 = .ok (.aload_n 0, 1) := by decide +kernel
theorem dc_MO_look_39 : decode bc_MO_look 39 = .ok (.invokevirtual 90, 3) := by decide +kernel
theorem dc_MO_look_42 : decode bc_MO_look 42 = .ok (.istore_n 2, 1) := by decide +kernel
theorem dc_MO_look_43 : decode bc_MO_look 43 = .ok (.aload_n 0, 1) := by decide +kernel
theorem dc_MO_look_44 : decode bc_MO_look 44 = .ok (.invokevirtual 94, 3) := by decide +kernel
theorem dc_MO_look_47 : decode bc_MO_look 47 = .ok (.istore_n 3, 1) := by decide +kernel
theorem dc_MO_look_48 : decode bc_MO_look 48 = .ok (.aload_n 0, 1) := by decide +kernel
theorem dc_MO_look_49 : decode bc_MO_look 49 = .ok (.iload_n 2, 1) := by decide +kernel
theorem dc_MO_look_50 : decode bc_MO_look 50 = .ok (.aload_n 0, 1) := by decide +kernel
theorem dc_MO_look_51 : decode bc_MO_look 51 = .ok (.getfield 81, 3) := by decide +kernel
theorem dc_MO_look_54 : decode bc_MO_look 54 = .ok (.if_icmp .ge 7, 3) := by decide +kernel
theorem dc_MO_look_57 : decode bc_MO_look 57 = .ok (.iload_n 2, 1) := by decide +kernel
theorem dc_MO_look_58 : decode bc_MO_look 58 = .ok (.goto 7, 3) := by decide +kernel
theorem dc_MO_look_61 : decode bc_MO_look 61 = .ok (.aload_n 0, 1) := by decide +kernel
theorem dc_MO_look_62 : decode bc_MO_look 62 = .ok (.getfield 81, 3) := by decide +kernel
theorem dc_MO_look_65 : decode bc_MO_look 65 = .ok (.putfield 81, 3) := by decide +kernel
theorem dc_MO_look_68 : decode bc_MO_look 68 = .ok (.aload_n 0, 1) := by decide +kernel
theorem dc_MO_look_69 : decode bc_MO_look 69 = .ok (.iload_n 3, 1) := by decide +kernel
theorem dc_MO_look_70 : decode bc_MO_look 70 = .ok (.aload_n 0, 1) := by decide +kernel
theorem dc_MO_look_71 : decode bc_MO_look 71 = .ok (.getfield 84, 3) := by decide +kernel
theorem dc_MO_look_74 : decode bc_MO_look 74 = .ok (.if_icmp .le 7, 3) := by decide +kernel
theorem dc_MO_look_77 : decode bc_MO_look 77 = .ok (.iload_n 3, 1) := by decide +kernel
theorem dc_MO_look_78 : decode bc_MO_look 78 = .ok (.goto 7, 3) := by decide +kernel
theorem dc_MO_look_81 : decode bc_MO_look 81 = .ok (.aload_n 0, 1) := by decide +kernel
theorem dc_MO_look_82 : decode bc_MO_look 82 = .ok (.getfield 84, 3) := by decide +kernel
theorem dc_MO_look_85 : decode bc_MO_look 85 = .ok (.putfield 84, 3) := by decide +kernel
theorem dc_MO_look_88 : decode bc_MO_look 88 = .ok (.aload_n 0, 1) := by decide +kernel
theorem dc_MO_look_89 : decode bc_MO_look 89 = .ok (.dup, 1) := by decide +kernel
theorem dc_MO_look_90 : decode bc_MO_look 90 = .ok (.getfield 87, 3) := by decide +kernel
theorem dc_MO_look_93 : decode bc_MO_look 93 = .ok (.iconst 1, 1) := by decide +kernel
theorem dc_MO_look_94 : decode bc_MO_look 94 = .ok (.iadd, 1) := by decide +kernel
theorem dc_MO_look_95 : decode bc_MO_look 95 = .ok (.putfield 87, 3) := by decide +kernel
theorem dc_MO_look_98 : decode bc_MO_look 98 = .ok (.aload_n 0, 1) := by decide +kernel
theorem dc_MO_look_99 : decode bc_MO_look 99 = .ok (.invokevirtual 97, 3) := by decide +kernel
theorem dc_MO_look_102 : decode bc_MO_look 102 = .ok (.istore_n 1, 1) := by decide +kernel
theorem dc_MO_look_103 : decode bc_MO_look 103 = .ok (.goto (-69), 3) := by decide +kernel
theorem dc_MO_look_106 : decode bc_MO_look 106 = .ok (.return_, 1) := by decide +kernel
abbrev bc_MO_most : ByteArray := prog_9_method_19_code
abbrev yn_MO_most : MethodName := ⟨"FoldedStrandModel", "most", "()I"⟩
theorem vs_MO_101 : jl_v "FoldedStrandModel" 101 yn_MO_look bc_MO_look 4 none 0 := ⟨jl_T_of 573 (by decide +kernel) (by decide +kernel), jl_T_of 9 (by decide +kernel) (by decide +kernel), jl_T_of 570 (by decide +kernel) (by decide +kernel), by decide +kernel, by decide +kernel, by decide +kernel⟩
theorem vi_MO_look : Cond.instanceMethod yn_MO_look ∈ jl_T := jl_T_of 572 (by decide +kernel) (by decide +kernel)
theorem vx_MO_look : Cond.selects "FoldedStrandModel" yn_MO_look yn_MO_look ∈ jl_T := jl_T_sel 13 (by decide +kernel) (by decide +kernel)
theorem dc_MO_most_0 : decode bc_MO_most 0 = .ok (.aload_n 0, 1) := by decide +kernel
theorem dc_MO_most_1 : decode bc_MO_most 1 = .ok (.invokevirtual 101, 3) := by decide +kernel
theorem dc_MO_most_4 : decode bc_MO_most 4 = .ok (.aload_n 0, 1) := by decide +kernel
theorem dc_MO_most_5 : decode bc_MO_most 5 = .ok (.getfield 84, 3) := by decide +kernel
theorem dc_MO_most_8 : decode bc_MO_most 8 = .ok (.ireturn, 1) := by decide +kernel
abbrev bc_MO_least : ByteArray := prog_9_method_20_code
abbrev yn_MO_least : MethodName := ⟨"FoldedStrandModel", "least", "()I"⟩
theorem dc_MO_least_0 : decode bc_MO_least 0 = .ok (.aload_n 0, 1) := by decide +kernel
theorem dc_MO_least_1 : decode bc_MO_least 1 = .ok (.invokevirtual 101, 3) := by decide +kernel
theorem dc_MO_least_4 : decode bc_MO_least 4 = .ok (.aload_n 0, 1) := by decide +kernel
theorem dc_MO_least_5 : decode bc_MO_least 5 = .ok (.getfield 81, 3) := by decide +kernel
theorem dc_MO_least_8 : decode bc_MO_least 8 = .ok (.ireturn, 1) := by decide +kernel
abbrev bc_MO_ways : ByteArray := prog_9_method_21_code
abbrev yn_MO_ways : MethodName := ⟨"FoldedStrandModel", "ways", "()I"⟩
theorem dc_MO_ways_0 : decode bc_MO_ways 0 = .ok (.aload_n 0, 1) := by decide +kernel
theorem dc_MO_ways_1 : decode bc_MO_ways 1 = .ok (.invokevirtual 101, 3) := by decide +kernel
theorem dc_MO_ways_4 : decode bc_MO_ways 4 = .ok (.aload_n 0, 1) := by decide +kernel
theorem dc_MO_ways_5 : decode bc_MO_ways 5 = .ok (.getfield 87, 3) := by decide +kernel
theorem dc_MO_ways_8 : decode bc_MO_ways 8 = .ok (.ireturn, 1) := by decide +kernel
section MO
variable (l : Launch) {K : Nat → ClassId} {sa : Nat → Nat} {ad : Nat → Nat} {I : Nat → Int32} {V : Nat → Nat → Int32} {L : Nat → Int64} {C : Nat → Int32} {G : Nat → Nat} {R : Nat → Nat} {n : Nat} {b : Nat → Nat} {w : Nat → Int}
theorem c_MO_look_known (hK : I 13 = 1) : jl_C l K sa yn_MO_look bc_MO_look 4 none 5 160 168 ad [.ref (ad 160)] (gw K ad I V L C G R) none (gw K ad I V L C G R) := by
  refine jl_enter (by decide) (Nat.le_of_ble_eq_true rfl) (fun x h he hr => ?_)
  show jl_J x 168 ad 0 0 (gw K ad I V L C G R) 0 [(0, .ref (ad 160))] []
  refine jl_aload_n (i := 0) h rfl rfl dc_MO_look_0 1 rfl ?_
  refine jl_getf (v := .int 1) h nm_c_MO 7 wl_MO_38 (by omega) (by decide) (by exact rfl) (by exact sr_v hK) dc_MO_look_1 4 rfl ?_
  refine jl_if_eq h 8 (by decide) dc_MO_look_4 7 rfl (fun c4 => absurd c4 (by decide)) (fun c4 => ?_)
  exact jl_vret h he (rfl) (rfl) dc_MO_look_7
theorem c_MO_look (hO : mo_ok I V n b) (hK : I 13 = 0) : jl_C l K sa yn_MO_look bc_MO_look 4 none 5 160 168 ad [.ref (ad 160)] (gw K ad I V L C G R) none (gw K ad (mo_done I n b) (va_up V 164 (fun _ => iI (-1))) L C G R) := by
  refine jl_enter (by decide) (Nat.le_of_ble_eq_true rfl) (fun x h he hr => ?_)
  have hn := hO.2.2.1
  show jl_J x 168 ad 0 0 (gw K ad I V L C G R) 0 [(0, .ref (ad 160))] []
  have step : ∀ (w : Nat → Int) (a : Int) (c d : Nat), en_V b n w → fo_in a → c ≤ 18 → jl_J x 168 ad 0 0 (gw K ad (mo_I I (iI (fo_mi a (st_E b n w))) (nI (if c < mo_pc w n then mo_pc w n else c)) (nI (d + 1))) (va_up V 164 (fun k => iI ((en_dn b n n w).2 k))) L C G R) 34 [(1, .int (st_bI (en_dn b n n w).1)), (0, .ref (ad 160))] [] → jl_J x 168 ad 0 0 (gw K ad (mo_I I (iI a) (nI c) (nI d)) (va_up V 164 (fun k => iI (w k))) L C G R) 34 [(1, .int 1), (0, .ref (ad 160))] [] := by
    intro w a c d hw ha hc kk
    have hE9 := st_E_in hn (mo_bw_V hw) (b := b)
    have hEin : fo_in (st_E b n w) := ⟨by omega, by omega⟩
    have hp18 := mo_pc_le w n
    have hmi := fo_mi_iI ha hEin
    have hmx : (if nI c < nI (mo_pc w n) then nI (mo_pc w n) else nI c) = nI (if c < mo_pc w n then mo_pc w n else c) := by
      by_cases h9 : c < mo_pc w n
      · rw [if_pos h9, if_pos (nI_lt h9 (by omega))]
      · rw [if_neg h9, if_neg (Int32.not_lt.mpr (nI_le (by omega) (by omega)))]
    refine jl_iload_n (i := 1) h rfl rfl dc_MO_look_34 35 rfl ?_
    refine jl_if_eq h 106 (by decide) dc_MO_look_35 38 rfl (fun c35 => absurd c35 (by decide)) (fun c35 => ?_)
    refine jl_aload_n (i := 0) h rfl rfl dc_MO_look_38 39 rfl ?_
    refine jl_callV (As := []) (rest := []) h hr vs_MO_90 vi_MO_energyNow vx_MO_energyNow (ci := 7) rfl (by omega) (by exact rfl) (fun l => c_MO_energyNow l (mo_okI (mo_okV hO (by decide))) (va_up_self _ _ _) hw) (by first | decide | omega) (by first | decide | omega) rfl rfl (Nat.le_of_ble_eq_true rfl) dc_MO_look_39 (res := [_]) rfl 42 rfl ?_
    refine jl_istore_n (i := 2) (lc2 := [(2, _), (1, _), (0, _)]) h rfl (by decide) rfl dc_MO_look_42 43 rfl ?_
    refine jl_aload_n (i := 0) h rfl rfl dc_MO_look_43 44 rfl ?_
    refine jl_callV (As := []) (rest := []) h hr vs_MO_94 vi_MO_pairsNow vx_MO_pairsNow (ci := 7) rfl (by omega) (by exact rfl) (fun l => c_MO_pairsNow l (mo_okI (mo_okV hO (by decide))) (va_up_self _ _ _) hw) (by first | decide | omega) (by first | decide | omega) rfl rfl (Nat.le_of_ble_eq_true rfl) dc_MO_look_44 (res := [_]) rfl 47 rfl ?_
    refine jl_istore_n (i := 3) (lc2 := [(3, _), (2, _), (1, _), (0, _)]) h rfl (by decide) rfl dc_MO_look_47 48 rfl ?_
    refine jl_aload_n (i := 0) h rfl rfl dc_MO_look_48 49 rfl ?_
    refine jl_iload_n (i := 2) h rfl rfl dc_MO_look_49 50 rfl ?_
    refine jl_aload_n (i := 0) h rfl rfl dc_MO_look_50 51 rfl ?_
    refine jl_getf (v := .int (iI a)) h nm_c_MO 8 wl_MO_81 (by omega) (by decide) (by exact rfl) (by exact rfl) dc_MO_look_51 54 rfl ?_
    refine jl_icmp_ge h 61 (by decide) dc_MO_look_54 57 rfl (fun c54 => ?_) (fun c54 => ?_)
    · skip
      rw [if_neg (Int32.not_lt.mpr c54)] at hmi
      refine jl_aload_n (i := 0) h rfl rfl dc_MO_look_61 62 rfl ?_
      refine jl_getf (v := .int (iI a)) h nm_c_MO 8 wl_MO_81 (by omega) (by decide) (by exact rfl) (by exact rfl) dc_MO_look_62 65 rfl ?_
      refine jl_putf (fs2 := [_, _, _, _, _, _, _, _, _, _, _, _, _, _]) h nm_c_MO 8 wl_MO_81 (by omega) (by decide) rfl (by exact rfl) (by rfl) (by rfl) (by exact Nat.le_of_ble_eq_true rfl) (by rfl) dc_MO_look_65 ((gw_set_mleast _).trans (by rw [mo_I14])) 68 rfl ?_
      refine jl_aload_n (i := 0) h rfl rfl dc_MO_look_68 69 rfl ?_
      refine jl_iload_n (i := 3) h rfl rfl dc_MO_look_69 70 rfl ?_
      refine jl_aload_n (i := 0) h rfl rfl dc_MO_look_70 71 rfl ?_
      refine jl_getf (v := .int (nI c)) h nm_c_MO 9 wl_MO_84 (by omega) (by decide) (by exact rfl) (by exact rfl) dc_MO_look_71 74 rfl ?_
      refine jl_icmp_le h 81 (by decide) dc_MO_look_74 77 rfl (fun c74 => ?_) (fun c74 => ?_)
      · skip
        rw [if_neg (Int32.not_lt.mpr c74)] at hmx
        refine jl_aload_n (i := 0) h rfl rfl dc_MO_look_81 82 rfl ?_
        refine jl_getf (v := .int (nI c)) h nm_c_MO 9 wl_MO_84 (by omega) (by decide) (by exact rfl) (by exact rfl) dc_MO_look_82 85 rfl ?_
        refine jl_putf (fs2 := [_, _, _, _, _, _, _, _, _, _, _, _, _, _]) h nm_c_MO 9 wl_MO_84 (by omega) (by decide) rfl (by exact rfl) (by rfl) (by rfl) (by exact Nat.le_of_ble_eq_true rfl) (by rfl) dc_MO_look_85 ((gw_set_mmost _).trans (by rw [mo_I15])) 88 rfl ?_
        refine jl_aload_n (i := 0) h rfl rfl dc_MO_look_88 89 rfl ?_
        refine jl_dup h rfl dc_MO_look_89 90 rfl ?_
        refine jl_getf (v := .int (nI d)) h nm_c_MO 10 wl_MO_87 (by omega) (by decide) (by exact rfl) (by exact rfl) dc_MO_look_90 93 rfl ?_
        refine jl_iconst (v := nI 1) h (by decide) dc_MO_look_93 94 rfl ?_
        refine jl_iadd h dc_MO_look_94 95 rfl ?_
        rw [show nI d + nI 1 = nI (d + 1) by exact nI_add d 1]
        refine jl_putf (fs2 := [_, _, _, _, _, _, _, _, _, _, _, _, _, _]) h nm_c_MO 10 wl_MO_87 (by omega) (by decide) rfl (by exact rfl) (by rfl) (by rfl) (by exact Nat.le_of_ble_eq_true rfl) (by rfl) dc_MO_look_95 ((gw_set_mways _).trans (by rw [mo_I16])) 98 rfl ?_
        refine jl_aload_n (i := 0) h rfl rfl dc_MO_look_98 99 rfl ?_
        refine jl_callV (As := []) (rest := []) h hr vs_MO_97 vi_MO_nextStructure vx_MO_nextStructure (ci := 7) rfl (by omega) (by exact rfl) (fun l => c_MO_nextStructure l (mo_okI hO) (mo_bw_V hw)) (by first | decide | omega) (by first | decide | omega) rfl rfl (Nat.le_of_ble_eq_true rfl) dc_MO_look_99 (res := [_]) rfl 102 rfl ?_
        refine jl_istore_n (i := 1) (lc2 := [(1, _), (3, _), (2, _), (0, _)]) h rfl (by decide) rfl dc_MO_look_102 103 rfl ?_
        refine jl_goto h 34 (by decide) dc_MO_look_103 ?_
        refine jl_sub (lc2 := [(1, _), (0, _)]) [0, 3] rfl ?_
        rw [← hmi, ← hmx] at kk
        exact kk
      · skip
        rw [if_pos (Int32.not_le.mp c74)] at hmx
        refine jl_iload_n (i := 3) h rfl rfl dc_MO_look_77 78 rfl ?_
        refine jl_goto h 85 (by decide) dc_MO_look_78 ?_
        refine jl_putf (fs2 := [_, _, _, _, _, _, _, _, _, _, _, _, _, _]) h nm_c_MO 9 wl_MO_84 (by omega) (by decide) rfl (by exact rfl) (by rfl) (by rfl) (by exact Nat.le_of_ble_eq_true rfl) (by rfl) dc_MO_look_85 ((gw_set_mmost _).trans (by rw [mo_I15])) 88 rfl ?_
        refine jl_aload_n (i := 0) h rfl rfl dc_MO_look_88 89 rfl ?_
        refine jl_dup h rfl dc_MO_look_89 90 rfl ?_
        refine jl_getf (v := .int (nI d)) h nm_c_MO 10 wl_MO_87 (by omega) (by decide) (by exact rfl) (by exact rfl) dc_MO_look_90 93 rfl ?_
        refine jl_iconst (v := nI 1) h (by decide) dc_MO_look_93 94 rfl ?_
        refine jl_iadd h dc_MO_look_94 95 rfl ?_
        rw [show nI d + nI 1 = nI (d + 1) by exact nI_add d 1]
        refine jl_putf (fs2 := [_, _, _, _, _, _, _, _, _, _, _, _, _, _]) h nm_c_MO 10 wl_MO_87 (by omega) (by decide) rfl (by exact rfl) (by rfl) (by rfl) (by exact Nat.le_of_ble_eq_true rfl) (by rfl) dc_MO_look_95 ((gw_set_mways _).trans (by rw [mo_I16])) 98 rfl ?_
        refine jl_aload_n (i := 0) h rfl rfl dc_MO_look_98 99 rfl ?_
        refine jl_callV (As := []) (rest := []) h hr vs_MO_97 vi_MO_nextStructure vx_MO_nextStructure (ci := 7) rfl (by omega) (by exact rfl) (fun l => c_MO_nextStructure l (mo_okI hO) (mo_bw_V hw)) (by first | decide | omega) (by first | decide | omega) rfl rfl (Nat.le_of_ble_eq_true rfl) dc_MO_look_99 (res := [_]) rfl 102 rfl ?_
        refine jl_istore_n (i := 1) (lc2 := [(1, _), (3, _), (2, _), (0, _)]) h rfl (by decide) rfl dc_MO_look_102 103 rfl ?_
        refine jl_goto h 34 (by decide) dc_MO_look_103 ?_
        refine jl_sub (lc2 := [(1, _), (0, _)]) [0, 3] rfl ?_
        rw [← hmi, ← hmx] at kk
        exact kk
    · skip
      rw [if_pos (Int32.not_le.mp c54)] at hmi
      refine jl_iload_n (i := 2) h rfl rfl dc_MO_look_57 58 rfl ?_
      refine jl_goto h 65 (by decide) dc_MO_look_58 ?_
      refine jl_putf (fs2 := [_, _, _, _, _, _, _, _, _, _, _, _, _, _]) h nm_c_MO 8 wl_MO_81 (by omega) (by decide) rfl (by exact rfl) (by rfl) (by rfl) (by exact Nat.le_of_ble_eq_true rfl) (by rfl) dc_MO_look_65 ((gw_set_mleast _).trans (by rw [mo_I14])) 68 rfl ?_
      refine jl_aload_n (i := 0) h rfl rfl dc_MO_look_68 69 rfl ?_
      refine jl_iload_n (i := 3) h rfl rfl dc_MO_look_69 70 rfl ?_
      refine jl_aload_n (i := 0) h rfl rfl dc_MO_look_70 71 rfl ?_
      refine jl_getf (v := .int (nI c)) h nm_c_MO 9 wl_MO_84 (by omega) (by decide) (by exact rfl) (by exact rfl) dc_MO_look_71 74 rfl ?_
      refine jl_icmp_le h 81 (by decide) dc_MO_look_74 77 rfl (fun c74 => ?_) (fun c74 => ?_)
      · skip
        rw [if_neg (Int32.not_lt.mpr c74)] at hmx
        refine jl_aload_n (i := 0) h rfl rfl dc_MO_look_81 82 rfl ?_
        refine jl_getf (v := .int (nI c)) h nm_c_MO 9 wl_MO_84 (by omega) (by decide) (by exact rfl) (by exact rfl) dc_MO_look_82 85 rfl ?_
        refine jl_putf (fs2 := [_, _, _, _, _, _, _, _, _, _, _, _, _, _]) h nm_c_MO 9 wl_MO_84 (by omega) (by decide) rfl (by exact rfl) (by rfl) (by rfl) (by exact Nat.le_of_ble_eq_true rfl) (by rfl) dc_MO_look_85 ((gw_set_mmost _).trans (by rw [mo_I15])) 88 rfl ?_
        refine jl_aload_n (i := 0) h rfl rfl dc_MO_look_88 89 rfl ?_
        refine jl_dup h rfl dc_MO_look_89 90 rfl ?_
        refine jl_getf (v := .int (nI d)) h nm_c_MO 10 wl_MO_87 (by omega) (by decide) (by exact rfl) (by exact rfl) dc_MO_look_90 93 rfl ?_
        refine jl_iconst (v := nI 1) h (by decide) dc_MO_look_93 94 rfl ?_
        refine jl_iadd h dc_MO_look_94 95 rfl ?_
        rw [show nI d + nI 1 = nI (d + 1) by exact nI_add d 1]
        refine jl_putf (fs2 := [_, _, _, _, _, _, _, _, _, _, _, _, _, _]) h nm_c_MO 10 wl_MO_87 (by omega) (by decide) rfl (by exact rfl) (by rfl) (by rfl) (by exact Nat.le_of_ble_eq_true rfl) (by rfl) dc_MO_look_95 ((gw_set_mways _).trans (by rw [mo_I16])) 98 rfl ?_
        refine jl_aload_n (i := 0) h rfl rfl dc_MO_look_98 99 rfl ?_
        refine jl_callV (As := []) (rest := []) h hr vs_MO_97 vi_MO_nextStructure vx_MO_nextStructure (ci := 7) rfl (by omega) (by exact rfl) (fun l => c_MO_nextStructure l (mo_okI hO) (mo_bw_V hw)) (by first | decide | omega) (by first | decide | omega) rfl rfl (Nat.le_of_ble_eq_true rfl) dc_MO_look_99 (res := [_]) rfl 102 rfl ?_
        refine jl_istore_n (i := 1) (lc2 := [(1, _), (3, _), (2, _), (0, _)]) h rfl (by decide) rfl dc_MO_look_102 103 rfl ?_
        refine jl_goto h 34 (by decide) dc_MO_look_103 ?_
        refine jl_sub (lc2 := [(1, _), (0, _)]) [0, 3] rfl ?_
        rw [← hmi, ← hmx] at kk
        exact kk
      · skip
        rw [if_pos (Int32.not_le.mp c74)] at hmx
        refine jl_iload_n (i := 3) h rfl rfl dc_MO_look_77 78 rfl ?_
        refine jl_goto h 85 (by decide) dc_MO_look_78 ?_
        refine jl_putf (fs2 := [_, _, _, _, _, _, _, _, _, _, _, _, _, _]) h nm_c_MO 9 wl_MO_84 (by omega) (by decide) rfl (by exact rfl) (by rfl) (by rfl) (by exact Nat.le_of_ble_eq_true rfl) (by rfl) dc_MO_look_85 ((gw_set_mmost _).trans (by rw [mo_I15])) 88 rfl ?_
        refine jl_aload_n (i := 0) h rfl rfl dc_MO_look_88 89 rfl ?_
        refine jl_dup h rfl dc_MO_look_89 90 rfl ?_
        refine jl_getf (v := .int (nI d)) h nm_c_MO 10 wl_MO_87 (by omega) (by decide) (by exact rfl) (by exact rfl) dc_MO_look_90 93 rfl ?_
        refine jl_iconst (v := nI 1) h (by decide) dc_MO_look_93 94 rfl ?_
        refine jl_iadd h dc_MO_look_94 95 rfl ?_
        rw [show nI d + nI 1 = nI (d + 1) by exact nI_add d 1]
        refine jl_putf (fs2 := [_, _, _, _, _, _, _, _, _, _, _, _, _, _]) h nm_c_MO 10 wl_MO_87 (by omega) (by decide) rfl (by exact rfl) (by rfl) (by rfl) (by exact Nat.le_of_ble_eq_true rfl) (by rfl) dc_MO_look_95 ((gw_set_mways _).trans (by rw [mo_I16])) 98 rfl ?_
        refine jl_aload_n (i := 0) h rfl rfl dc_MO_look_98 99 rfl ?_
        refine jl_callV (As := []) (rest := []) h hr vs_MO_97 vi_MO_nextStructure vx_MO_nextStructure (ci := 7) rfl (by omega) (by exact rfl) (fun l => c_MO_nextStructure l (mo_okI hO) (mo_bw_V hw)) (by first | decide | omega) (by first | decide | omega) rfl rfl (Nat.le_of_ble_eq_true rfl) dc_MO_look_99 (res := [_]) rfl 102 rfl ?_
        refine jl_istore_n (i := 1) (lc2 := [(1, _), (3, _), (2, _), (0, _)]) h rfl (by decide) rfl dc_MO_look_102 103 rfl ?_
        refine jl_goto h 34 (by decide) dc_MO_look_103 ?_
        refine jl_sub (lc2 := [(1, _), (0, _)]) [0, 3] rfl ?_
        rw [← hmi, ← hmx] at kk
        exact kk
  have loop : ∀ (ws : List (Nat → Int)) (w : Nat → Int) (a : Int) (c d : Nat), (∀ u ∈ w :: ws, en_V b n u) → en_Ch (en_dn b n n) (fun _ => -1) (w :: ws) → fo_in a → c ≤ 18 → mo_done I n b = mo_I I (iI (mo_lo b n a (w :: ws))) (nI (mo_hi n c (w :: ws))) (nI (d + (w :: ws).length)) → jl_J x 168 ad 0 0 (gw K ad (mo_I I (iI a) (nI c) (nI d)) (va_up V 164 (fun k => iI (w k))) L C G R) 34 [(1, .int 1), (0, .ref (ad 160))] [] := by
    intro ws
    induction ws with
    | nil =>
      intro w a c d hV hch ha hc hd
      have hch : en_dn b n n w = (false, fun _ => -1) := hch
      have hd : mo_done I n b = mo_I I (iI (fo_mi a (st_E b n w))) (nI (if c < mo_pc w n then mo_pc w n else c)) (nI (d + 1)) := hd
      rw [hd] at he
      refine step w a c d (hV w List.mem_cons_self) ha hc ?_
      rw [hch]
      refine jl_iload_n (i := 1) h rfl rfl dc_MO_look_34 35 rfl ?_
      refine jl_if_eq h 106 (by decide) dc_MO_look_35 38 rfl (fun c35 => ?_) (fun c35 => absurd (rfl) c35)
      exact jl_vret h he (rfl) (rfl) dc_MO_look_106
    | cons w2 ws ih =>
      intro w a c d hV hch ha hc hd
      have hch : en_dn b n n w = (true, w2) ∧ en_Ch (en_dn b n n) (fun _ => -1) (w2 :: ws) := hch
      have hw := hV w List.mem_cons_self
      have hE9 := st_E_in hn (mo_bw_V hw) (b := b)
      have hp18 := mo_pc_le w n
      refine step w a c d hw ha hc ?_
      rw [hch.1]
      refine ih w2 (fo_mi a (st_E b n w)) (if c < mo_pc w n then mo_pc w n else c) (d + 1) (fun u hu => hV u (List.mem_cons_of_mem _ hu)) hch.2 (fo_mi_in ha ⟨by omega, by omega⟩) (by split <;> omega) ?_
      rw [hd]
      show mo_I I (iI (mo_lo b n (fo_mi a (st_E b n w)) (w2 :: ws))) (nI (mo_hi n (if c < mo_pc w n then mo_pc w n else c) (w2 :: ws))) _ = _
      rw [show d + (w :: w2 :: ws).length = d + 1 + (w2 :: ws).length by rw [List.length_cons]; omega]
  obtain ⟨w, ws, hall⟩ : ∃ w ws, en_all b n = w :: ws := by
    have := en_all_chain b n
    cases hq : en_all b n with
    | nil => rw [hq] at this; exact absurd this id
    | cons w ws => exact ⟨w, ws, rfl⟩
  have hw0 : w = fun _ => -1 := by
    obtain ⟨l0, h9⟩ := en_L_head b n n 0 (fun _ => -1)
    have h8 : en_all b n = (fun _ => -1) :: l0 := h9
    rw [hall] at h8
    exact (List.cons.inj h8).1
  have hc9 := en_all_chain b n
  have hm9 := fun u => (en_all_mem b n u).mp
  have hd9 : mo_done I n b = mo_I I (iI (mo_lo b n 0 (en_all b n))) (nI (mo_hi n 0 (en_all b n))) (nI (0 + (en_all b n).length)) := by unfold mo_done; rw [Nat.zero_add]
  rw [hall] at hc9 hm9 hd9
  have l0 := loop ws w 0 0 0 hm9 hc9 ⟨by decide, by decide⟩ (by decide) hd9
  rw [hw0] at l0
  refine jl_aload_n (i := 0) h rfl rfl dc_MO_look_0 1 rfl ?_
  refine jl_getf (v := .int 0) h nm_c_MO 7 wl_MO_38 (by omega) (by decide) (by exact rfl) (by exact sr_v hK) dc_MO_look_1 4 rfl ?_
  refine jl_if_eq h 8 (by decide) dc_MO_look_4 7 rfl (fun c4 => ?_) (fun c4 => absurd (rfl) c4)
  refine jl_aload_n (i := 0) h rfl rfl dc_MO_look_8 9 rfl ?_
  refine jl_iconst (v := 1) h (by decide) dc_MO_look_9 10 rfl ?_
  refine jl_putf (fs2 := [_, _, _, _, _, _, _, _, _, _, _, _, _, _]) h nm_c_MO 7 wl_MO_38 (by omega) (by decide) rfl (by exact rfl) (by rfl) (by rfl) (by exact Nat.le_of_ble_eq_true rfl) (by rfl) dc_MO_look_10 (gw_set_known _) 13 rfl ?_
  refine jl_aload_n (i := 0) h rfl rfl dc_MO_look_13 14 rfl ?_
  refine jl_callV (As := []) (rest := []) h hr vs_MO_78 vi_MO_begin vx_MO_begin (ci := 7) rfl (by omega) (by exact rfl) (fun l => c_MO_begin l) (by first | decide | omega) (by first | decide | omega) rfl rfl (Nat.le_of_ble_eq_true rfl) dc_MO_look_14 (res := []) rfl 17 rfl ?_
  refine jl_aload_n (i := 0) h rfl rfl dc_MO_look_17 18 rfl ?_
  refine jl_iconst (v := iI 0) h (by decide) dc_MO_look_18 19 rfl ?_
  refine jl_putf (fs2 := [_, _, _, _, _, _, _, _, _, _, _, _, _, _]) h nm_c_MO 8 wl_MO_81 (by omega) (by decide) rfl (by exact rfl) (by rfl) (by rfl) (by exact Nat.le_of_ble_eq_true rfl) (by rfl) dc_MO_look_19 (gw_set_mleast _) 22 rfl ?_
  refine jl_aload_n (i := 0) h rfl rfl dc_MO_look_22 23 rfl ?_
  refine jl_iconst (v := nI 0) h (by decide) dc_MO_look_23 24 rfl ?_
  refine jl_putf (fs2 := [_, _, _, _, _, _, _, _, _, _, _, _, _, _]) h nm_c_MO 9 wl_MO_84 (by omega) (by decide) rfl (by exact rfl) (by rfl) (by rfl) (by exact Nat.le_of_ble_eq_true rfl) (by rfl) dc_MO_look_24 (gw_set_mmost _) 27 rfl ?_
  refine jl_aload_n (i := 0) h rfl rfl dc_MO_look_27 28 rfl ?_
  refine jl_iconst (v := nI 0) h (by decide) dc_MO_look_28 29 rfl ?_
  refine jl_putf (fs2 := [_, _, _, _, _, _, _, _, _, _, _, _, _, _]) h nm_c_MO 10 wl_MO_87 (by omega) (by decide) rfl (by exact rfl) (by rfl) (by rfl) (by exact Nat.le_of_ble_eq_true rfl) (by rfl) dc_MO_look_29 ((gw_set_mways _).trans (by rw [mo_I0])) 32 rfl ?_
  refine jl_iconst (v := 1) h (by decide) dc_MO_look_32 33 rfl ?_
  refine jl_istore_n (i := 1) (lc2 := [(1, _), (0, _)]) h rfl (by decide) rfl dc_MO_look_33 34 rfl ?_
  exact l0
theorem c_MO_most_known (hK : mo_known I n b) : jl_C l K sa yn_MO_most bc_MO_most 1 (some .int) 6 190 168 ad [.ref (ad 160)] (gw K ad I V L C G R) (some (.int (mo_vmost n b))) (gw K ad I V L C G R) := by
  refine jl_enter (by decide) (Nat.le_of_ble_eq_true rfl) (fun x h he hr => ?_)
  show jl_J x 168 ad 0 0 (gw K ad I V L C G R) 0 [(0, .ref (ad 160))] []
  refine jl_aload_n (i := 0) h rfl rfl dc_MO_most_0 1 rfl ?_
  refine jl_callV (As := []) (rest := []) h hr vs_MO_101 vi_MO_look vx_MO_look (ci := 7) rfl (by omega) (by exact rfl) (fun l => c_MO_look_known l hK.1) (by first | decide | omega) (by first | decide | omega) rfl rfl (Nat.le_of_ble_eq_true rfl) dc_MO_most_1 (res := []) rfl 4 rfl ?_
  refine jl_aload_n (i := 0) h rfl rfl dc_MO_most_4 5 rfl ?_
  refine jl_getf h nm_c_MO 9 wl_MO_84 (by omega) (by decide) (by exact rfl) (by rfl) dc_MO_most_5 8 rfl ?_
  exact jl_zret h he rfl (by first | rw [hK.2.1] | rw [hK.2.2.1] | rw [hK.2.2.2]) (rfl) dc_MO_most_8
theorem c_MO_most (hO : mo_ok I V n b) (hK : I 13 = 0) : jl_C l K sa yn_MO_most bc_MO_most 1 (some .int) 6 190 168 ad [.ref (ad 160)] (gw K ad I V L C G R) (some (.int (mo_vmost n b))) (gw K ad (mo_done I n b) (va_up V 164 (fun _ => iI (-1))) L C G R) := by
  refine jl_enter (by decide) (Nat.le_of_ble_eq_true rfl) (fun x h he hr => ?_)
  show jl_J x 168 ad 0 0 (gw K ad I V L C G R) 0 [(0, .ref (ad 160))] []
  refine jl_aload_n (i := 0) h rfl rfl dc_MO_most_0 1 rfl ?_
  refine jl_callV (As := []) (rest := []) h hr vs_MO_101 vi_MO_look vx_MO_look (ci := 7) rfl (by omega) (by exact rfl) (fun l => c_MO_look l hO hK) (by first | decide | omega) (by first | decide | omega) rfl rfl (Nat.le_of_ble_eq_true rfl) dc_MO_most_1 (res := []) rfl 4 rfl ?_
  refine jl_aload_n (i := 0) h rfl rfl dc_MO_most_4 5 rfl ?_
  refine jl_getf h nm_c_MO 9 wl_MO_84 (by omega) (by decide) (by exact rfl) (by rfl) dc_MO_most_5 8 rfl ?_
  exact jl_zret h he rfl (rfl) (rfl) dc_MO_most_8
theorem c_MO_least_known (hK : mo_known I n b) : jl_C l K sa yn_MO_least bc_MO_least 1 (some .int) 6 190 168 ad [.ref (ad 160)] (gw K ad I V L C G R) (some (.int (mo_vleast n b))) (gw K ad I V L C G R) := by
  refine jl_enter (by decide) (Nat.le_of_ble_eq_true rfl) (fun x h he hr => ?_)
  show jl_J x 168 ad 0 0 (gw K ad I V L C G R) 0 [(0, .ref (ad 160))] []
  refine jl_aload_n (i := 0) h rfl rfl dc_MO_least_0 1 rfl ?_
  refine jl_callV (As := []) (rest := []) h hr vs_MO_101 vi_MO_look vx_MO_look (ci := 7) rfl (by omega) (by exact rfl) (fun l => c_MO_look_known l hK.1) (by first | decide | omega) (by first | decide | omega) rfl rfl (Nat.le_of_ble_eq_true rfl) dc_MO_least_1 (res := []) rfl 4 rfl ?_
  refine jl_aload_n (i := 0) h rfl rfl dc_MO_least_4 5 rfl ?_
  refine jl_getf h nm_c_MO 8 wl_MO_81 (by omega) (by decide) (by exact rfl) (by rfl) dc_MO_least_5 8 rfl ?_
  exact jl_zret h he rfl (by first | rw [hK.2.1] | rw [hK.2.2.1] | rw [hK.2.2.2]) (rfl) dc_MO_least_8
theorem c_MO_least (hO : mo_ok I V n b) (hK : I 13 = 0) : jl_C l K sa yn_MO_least bc_MO_least 1 (some .int) 6 190 168 ad [.ref (ad 160)] (gw K ad I V L C G R) (some (.int (mo_vleast n b))) (gw K ad (mo_done I n b) (va_up V 164 (fun _ => iI (-1))) L C G R) := by
  refine jl_enter (by decide) (Nat.le_of_ble_eq_true rfl) (fun x h he hr => ?_)
  show jl_J x 168 ad 0 0 (gw K ad I V L C G R) 0 [(0, .ref (ad 160))] []
  refine jl_aload_n (i := 0) h rfl rfl dc_MO_least_0 1 rfl ?_
  refine jl_callV (As := []) (rest := []) h hr vs_MO_101 vi_MO_look vx_MO_look (ci := 7) rfl (by omega) (by exact rfl) (fun l => c_MO_look l hO hK) (by first | decide | omega) (by first | decide | omega) rfl rfl (Nat.le_of_ble_eq_true rfl) dc_MO_least_1 (res := []) rfl 4 rfl ?_
  refine jl_aload_n (i := 0) h rfl rfl dc_MO_least_4 5 rfl ?_
  refine jl_getf h nm_c_MO 8 wl_MO_81 (by omega) (by decide) (by exact rfl) (by rfl) dc_MO_least_5 8 rfl ?_
  exact jl_zret h he rfl (rfl) (rfl) dc_MO_least_8
theorem c_MO_ways_known (hK : mo_known I n b) : jl_C l K sa yn_MO_ways bc_MO_ways 1 (some .int) 6 190 168 ad [.ref (ad 160)] (gw K ad I V L C G R) (some (.int (mo_vways n b))) (gw K ad I V L C G R) := by
  refine jl_enter (by decide) (Nat.le_of_ble_eq_true rfl) (fun x h he hr => ?_)
  show jl_J x 168 ad 0 0 (gw K ad I V L C G R) 0 [(0, .ref (ad 160))] []
  refine jl_aload_n (i := 0) h rfl rfl dc_MO_ways_0 1 rfl ?_
  refine jl_callV (As := []) (rest := []) h hr vs_MO_101 vi_MO_look vx_MO_look (ci := 7) rfl (by omega) (by exact rfl) (fun l => c_MO_look_known l hK.1) (by first | decide | omega) (by first | decide | omega) rfl rfl (Nat.le_of_ble_eq_true rfl) dc_MO_ways_1 (res := []) rfl 4 rfl ?_
  refine jl_aload_n (i := 0) h rfl rfl dc_MO_ways_4 5 rfl ?_
  refine jl_getf h nm_c_MO 10 wl_MO_87 (by omega) (by decide) (by exact rfl) (by rfl) dc_MO_ways_5 8 rfl ?_
  exact jl_zret h he rfl (by first | rw [hK.2.1] | rw [hK.2.2.1] | rw [hK.2.2.2]) (rfl) dc_MO_ways_8
theorem c_MO_ways (hO : mo_ok I V n b) (hK : I 13 = 0) : jl_C l K sa yn_MO_ways bc_MO_ways 1 (some .int) 6 190 168 ad [.ref (ad 160)] (gw K ad I V L C G R) (some (.int (mo_vways n b))) (gw K ad (mo_done I n b) (va_up V 164 (fun _ => iI (-1))) L C G R) := by
  refine jl_enter (by decide) (Nat.le_of_ble_eq_true rfl) (fun x h he hr => ?_)
  show jl_J x 168 ad 0 0 (gw K ad I V L C G R) 0 [(0, .ref (ad 160))] []
  refine jl_aload_n (i := 0) h rfl rfl dc_MO_ways_0 1 rfl ?_
  refine jl_callV (As := []) (rest := []) h hr vs_MO_101 vi_MO_look vx_MO_look (ci := 7) rfl (by omega) (by exact rfl) (fun l => c_MO_look l hO hK) (by first | decide | omega) (by first | decide | omega) rfl rfl (Nat.le_of_ble_eq_true rfl) dc_MO_ways_1 (res := []) rfl 4 rfl ?_
  refine jl_aload_n (i := 0) h rfl rfl dc_MO_ways_4 5 rfl ?_
  refine jl_getf h nm_c_MO 10 wl_MO_87 (by omega) (by decide) (by exact rfl) (by rfl) dc_MO_ways_5 8 rfl ?_
  exact jl_zret h he rfl (rfl) (rfl) dc_MO_ways_8
end MO

