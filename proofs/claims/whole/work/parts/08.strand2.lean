/-! FoldedStrand$Strand: numberOf, append, removeAll, spells. -/
def st_num (c : Int32) : Int := if c = 65 then 0 else if c = 67 then 1 else if c = 71 then 2 else if c = 85 then 3 else -1
theorem st_num_at (k : Nat) (hk : k < 4) : st_num (nm_s0.getD k 0) = k := by
  have : ∀ k, k < 4 → st_num (nm_s0.getD k 0) = k := by decide +kernel
  exact this k hk
theorem st_num_no {c : Int32} (h : ∀ m, m < 4 → nm_s0.getD m 0 ≠ c) : st_num c = -1 := by
  have h0 : (65 : Int32) ≠ c := h 0 (by decide)
  have h1 : (67 : Int32) ≠ c := h 1 (by decide)
  have h2 : (71 : Int32) ≠ c := h 2 (by decide)
  have h3 : (85 : Int32) ≠ c := h 3 (by decide)
  unfold st_num
  rw [if_neg (Ne.symm h0), if_neg (Ne.symm h1), if_neg (Ne.symm h2), if_neg (Ne.symm h3)]
theorem st_num_in (c : Int32) : st_num c = -1 ∨ ∃ a : Nat, a < 4 ∧ st_num c = a := by
  unfold st_num
  split
  · exact Or.inr ⟨0, by decide, rfl⟩
  · split
    · exact Or.inr ⟨1, by decide, rfl⟩
    · split
      · exact Or.inr ⟨2, by decide, rfl⟩
      · split
        · exact Or.inr ⟨3, by decide, rfl⟩
        · exact Or.inl rfl
theorem st_upd (b : Nat → Nat) (k v : Nat) : upd (fun i => nI (b i)) k (nI v) = fun i => nI (va_up b k v i) := by
  funext i
  unfold upd va_up
  split <;> rfl
def en_six (b : Nat → Nat) (i j : Nat) : Bool := decide (j = i + 5) && (List.range 6).all (fun p => nm_s0.getD (b (i + p)) 0 == nm_s2.getD p 0)
theorem en_six_yes {b : Nat → Nat} {i j : Nat} (h : j = i + 5) (h2 : ∀ m, m < 6 → nm_s0.getD (b (i + m)) 0 = nm_s2.getD m 0) : en_six b i j = true := by
  unfold en_six
  rw [Bool.and_eq_true, decide_eq_true_eq, List.all_eq_true]
  exact ⟨h, fun p hp => by rw [beq_iff_eq]; exact h2 p (List.mem_range.mp hp)⟩
theorem en_six_no {b : Nat → Nat} {i j m : Nat} (hm : m < 6) (h2 : ¬ nm_s0.getD (b (i + m)) 0 = nm_s2.getD m 0) : en_six b i j = false := by
  unfold en_six
  rw [Bool.and_eq_false_iff]
  right
  rw [List.all_eq_false]
  exact ⟨m, List.mem_range.mpr hm, by rw [beq_iff_eq]; exact h2⟩
theorem en_six_len {b : Nat → Nat} {i j : Nat} (h : ¬ j = i + 5) : en_six b i j = false := by
  unfold en_six
  simp [h]
/-- the strand behind append -/
def st_app (K : Nat → ClassId) (ad : Nat → Nat) (E : Nat → va_E) (n : Nat) (b : Nat → Nat) : Nat → va_E := va_up (va_up E 2 (.inl (K 0, 18, .inl (fun i => nI (b i))))) 1 (.inr (1, [.ref (ad 2), .int (nI n)]))
theorem st_app_ok {K : Nat → ClassId} {ad : Nat → Nat} {E : Nat → va_E} {n : Nat} {b : Nat → Nat} (h : n ≤ 18) (hb : ∀ i, b i < 4) : st_ok K ad (st_app K ad E n b) n b := ⟨rfl, rfl, h, hb⟩
abbrev bc_ST_numberOf : ByteArray := prog_6_method_10_code
abbrev yn_ST_numberOf : MethodName := ⟨"FoldedStrand$Strand", "numberOf", "(C)I"⟩
theorem dc_ST_numberOf_0 : decode bc_ST_numberOf 0 = .ok (.iconst 0, 1) := by decide +kernel
theorem dc_ST_numberOf_1 : decode bc_ST_numberOf 1 = .ok (.istore_n 1, 1) := by decide +kernel
theorem dc_ST_numberOf_2 : decode bc_ST_numberOf 2 = .ok (.iload_n 1, 1) := by decide +kernel
theorem dc_ST_numberOf_3 : decode bc_ST_numberOf 3 = .ok (.getstatic 28, 3) := by decide +kernel
theorem dc_ST_numberOf_6 : decode bc_ST_numberOf 6 = .ok (.arraylength, 1) := by decide +kernel
theorem dc_ST_numberOf_7 : decode bc_ST_numberOf 7 = .ok (.if_icmp .ge 20, 3) := by decide +kernel
theorem dc_ST_numberOf_10 : decode bc_ST_numberOf 10 = .ok (.getstatic 28, 3) := by decide +kernel
theorem dc_ST_numberOf_13 : decode bc_ST_numberOf 13 = .ok (.iload_n 1, 1) := by decide +kernel
theorem dc_ST_numberOf_14 : decode bc_ST_numberOf 14 = .ok (.caload, 1) := by decide +kernel
theorem dc_ST_numberOf_15 : decode bc_ST_numberOf 15 = .ok (.iload_n 0, 1) := by decide +kernel
theorem dc_ST_numberOf_16 : decode bc_ST_numberOf 16 = .ok (.if_icmp .ne 5, 3) := by decide +kernel
theorem dc_ST_numberOf_19 : decode bc_ST_numberOf 19 = .ok (.iload_n 1, 1) := by decide +kernel
theorem dc_ST_numberOf_20 : decode bc_ST_numberOf 20 = .ok (.ireturn, 1) := by decide +kernel
theorem dc_ST_numberOf_21 : decode bc_ST_numberOf 21 = .ok (.iinc 1 1, 3) := by decide +kernel
theorem dc_ST_numberOf_24 : decode bc_ST_numberOf 24 = .ok (.goto (-22), 3) := by decide +kernel
theorem dc_ST_numberOf_27 : decode bc_ST_numberOf 27 = .ok (.iconst (-1), 1) := by decide +kernel
theorem dc_ST_numberOf_28 : decode bc_ST_numberOf 28 = .ok (.ireturn, 1) := by decide +kernel
abbrev bc_ST_append : ByteArray := prog_6_method_2_code
abbrev yn_ST_append : MethodName := ⟨"FoldedStrand$Strand", "append", "(C)Z"⟩
theorem vs_ST_17 : jl_v "FoldedStrand$Strand" 17 yn_ST_numberOf bc_ST_numberOf 2 (some .int) 1 := ⟨jl_T_of 216 (by decide +kernel) (by decide +kernel), jl_T_of 2 (by decide +kernel) (by decide +kernel), jl_T_of 214 (by decide +kernel) (by decide +kernel), by decide +kernel, by decide +kernel, by decide +kernel⟩
theorem vt_ST_numberOf : Cond.static yn_ST_numberOf ∈ jl_T := jl_T_of 215 (by decide +kernel) (by decide +kernel)
theorem dc_ST_append_0 : decode bc_ST_append 0 = .ok (.iload_n 1, 1) := by decide +kernel
theorem dc_ST_append_1 : decode bc_ST_append 1 = .ok (.invokestatic 17, 3) := by decide +kernel
theorem dc_ST_append_4 : decode bc_ST_append 4 = .ok (.istore_n 2, 1) := by decide +kernel
theorem dc_ST_append_5 : decode bc_ST_append 5 = .ok (.iload_n 2, 1) := by decide +kernel
theorem dc_ST_append_6 : decode bc_ST_append 6 = .ok (.ifCond .lt 12, 3) := by decide +kernel
theorem dc_ST_append_9 : decode bc_ST_append 9 = .ok (.aload_n 0, 1) := by decide +kernel
theorem dc_ST_append_10 : decode bc_ST_append 10 = .ok (.getfield 13, 3) := by decide +kernel
theorem dc_ST_append_13 : decode bc_ST_append 13 = .ok (.bipush 18, 2) := by decide +kernel
theorem dc_ST_append_15 : decode bc_ST_append 15 = .ok (.if_icmp .lt 5, 3) := by decide +kernel
theorem dc_ST_append_18 : decode bc_ST_append 18 = .ok (.iconst 0, 1) := by decide +kernel
theorem dc_ST_append_19 : decode bc_ST_append 19 = .ok (.ireturn, 1) := by decide +kernel
theorem dc_ST_append_20 : decode bc_ST_append 20 = .ok (.aload_n 0, 1) := by decide +kernel
theorem dc_ST_append_21 : decode bc_ST_append 21 = .ok (.getfield 9, 3) := by decide +kernel
theorem dc_ST_append_24 : decode bc_ST_append 24 = .ok (.aload_n 0, 1) := by decide +kernel
theorem dc_ST_append_25 : decode bc_ST_append 25 = .ok (.getfield 13, 3) := by decide +kernel
theorem dc_ST_append_28 : decode bc_ST_append 28 = .ok (.iload_n 2, 1) := by decide +kernel
theorem dc_ST_append_29 : decode bc_ST_append 29 = .ok (.iastore, 1) := by decide +kernel
theorem dc_ST_append_30 : decode bc_ST_append 30 = .ok (.aload_n 0, 1) := by decide +kernel
theorem dc_ST_append_31 : decode bc_ST_append 31 = .ok (.dup, 1) := by decide +kernel
theorem dc_ST_append_32 : decode bc_ST_append 32 = .ok (.getfield 13, 3) := by decide +kernel
theorem dc_ST_append_35 : decode bc_ST_append 35 = .ok (.iconst 1, 1) := by decide +kernel
theorem dc_ST_append_36 : decode bc_ST_append 36 = .ok (.iadd, 1) := by decide +kernel
theorem dc_ST_append_37 : decode bc_ST_append 37 = .ok (.putfield 13, 3) := by decide +kernel
theorem dc_ST_append_40 : decode bc_ST_append 40 = .ok (.iconst 1, 1) := by decide +kernel
theorem dc_ST_append_41 : decode bc_ST_append 41 = .ok (.ireturn, 1) := by decide +kernel
abbrev bc_ST_removeAll : ByteArray := prog_6_method_3_code
abbrev yn_ST_removeAll : MethodName := ⟨"FoldedStrand$Strand", "removeAll", "()I"⟩
theorem dc_ST_removeAll_0 : decode bc_ST_removeAll 0 = .ok (.aload_n 0, 1) := by decide +kernel
theorem dc_ST_removeAll_1 : decode bc_ST_removeAll 1 = .ok (.getfield 13, 3) := by decide +kernel
theorem dc_ST_removeAll_4 : decode bc_ST_removeAll 4 = .ok (.istore_n 1, 1) := by decide +kernel
theorem dc_ST_removeAll_5 : decode bc_ST_removeAll 5 = .ok (.aload_n 0, 1) := by decide +kernel
theorem dc_ST_removeAll_6 : decode bc_ST_removeAll 6 = .ok (.iconst 0, 1) := by decide +kernel
theorem dc_ST_removeAll_7 : decode bc_ST_removeAll 7 = .ok (.putfield 13, 3) := by decide +kernel
theorem dc_ST_removeAll_10 : decode bc_ST_removeAll 10 = .ok (.iload_n 1, 1) := by decide +kernel
theorem dc_ST_removeAll_11 : decode bc_ST_removeAll 11 = .ok (.ireturn, 1) := by decide +kernel
abbrev bc_ST_spells : ByteArray := prog_6_method_9_code
abbrev yn_ST_spells : MethodName := ⟨"FoldedStrand$Strand", "spells", "(II[C)Z"⟩
theorem dc_ST_spells_0 : decode bc_ST_spells 0 = .ok (.iload_n 2, 1) := by decide +kernel
theorem dc_ST_spells_1 : decode bc_ST_spells 1 = .ok (.iload_n 1, 1) := by decide +kernel
theorem dc_ST_spells_2 : decode bc_ST_spells 2 = .ok (.isub, 1) := by decide +kernel
theorem dc_ST_spells_3 : decode bc_ST_spells 3 = .ok (.iconst 1, 1) := by decide +kernel
theorem dc_ST_spells_4 : decode bc_ST_spells 4 = .ok (.iadd, 1) := by decide +kernel
theorem dc_ST_spells_5 : decode bc_ST_spells 5 = .ok (.aload_n 3, 1) := by decide +kernel
theorem dc_ST_spells_6 : decode bc_ST_spells 6 = .ok (.arraylength, 1) := by decide +kernel
theorem dc_ST_spells_7 : decode bc_ST_spells 7 = .ok (.if_icmp .eq 5, 3) := by decide +kernel
theorem dc_ST_spells_10 : decode bc_ST_spells 10 = .ok (.iconst 0, 1) := by decide +kernel
theorem dc_ST_spells_11 : decode bc_ST_spells 11 = .ok (.ireturn, 1) := by decide +kernel
theorem dc_ST_spells_12 : decode bc_ST_spells 12 = .ok (.iconst 0, 1) := by decide +kernel
theorem dc_ST_spells_13 : decode bc_ST_spells 13 = .ok (.istore 4, 2) := by decide +kernel
theorem dc_ST_spells_15 : decode bc_ST_spells 15 = .ok (.iload 4, 2) := by decide +kernel
theorem dc_ST_spells_17 : decode bc_ST_spells 17 = .ok (.aload_n 3, 1) := by decide +kernel
theorem dc_ST_spells_18 : decode bc_ST_spells 18 = .ok (.arraylength, 1) := by decide +kernel
theorem dc_ST_spells_19 : decode bc_ST_spells 19 = .ok (.if_icmp .ge 31, 3) := by decide +kernel
theorem dc_ST_spells_22 : decode bc_ST_spells 22 = .ok (.getstatic 28, 3) := by decide +kernel
theorem dc_ST_spells_25 : decode bc_ST_spells 25 = .ok (.aload_n 0, 1) := by decide +kernel
theorem dc_ST_spells_26 : decode bc_ST_spells 26 = .ok (.getfield 9, 3) := by decide +kernel
theorem dc_ST_spells_29 : decode bc_ST_spells 29 = .ok (.iload_n 1, 1) := by decide +kernel
theorem dc_ST_spells_30 : decode bc_ST_spells 30 = .ok (.iload 4, 2) := by decide +kernel
theorem dc_ST_spells_32 : decode bc_ST_spells 32 = .ok (.iadd, 1) := by decide +kernel
theorem dc_ST_spells_33 : decode bc_ST_spells 33 = .ok (.iaload, 1) := by decide +kernel
theorem dc_ST_spells_34 : decode bc_ST_spells 34 = .ok (.caload, 1) := by decide +kernel
theorem dc_ST_spells_35 : decode bc_ST_spells 35 = .ok (.aload_n 3, 1) := by decide +kernel
theorem dc_ST_spells_36 : decode bc_ST_spells 36 = .ok (.iload 4, 2) := by decide +kernel
theorem dc_ST_spells_38 : decode bc_ST_spells 38 = .ok (.caload, 1) := by decide +kernel
theorem dc_ST_spells_39 : decode bc_ST_spells 39 = .ok (.if_icmp .eq 5, 3) := by decide +kernel
theorem dc_ST_spells_42 : decode bc_ST_spells 42 = .ok (.iconst 0, 1) := by decide +kernel
theorem dc_ST_spells_43 : decode bc_ST_spells 43 = .ok (.ireturn, 1) := by decide +kernel
theorem dc_ST_spells_44 : decode bc_ST_spells 44 = .ok (.iinc 4 1, 3) := by decide +kernel
theorem dc_ST_spells_47 : decode bc_ST_spells 47 = .ok (.goto (-32), 3) := by decide +kernel
theorem dc_ST_spells_50 : decode bc_ST_spells 50 = .ok (.iconst 1, 1) := by decide +kernel
theorem dc_ST_spells_51 : decode bc_ST_spells 51 = .ok (.ireturn, 1) := by decide +kernel
section ST
variable (l : Launch) {K : Nat → ClassId} {sa : Nat → Nat} {N : Nat} {ad : Nat → Nat} {E : Nat → va_E} {n : Nat} {b : Nat → Nat}
theorem c_ST_numberOf (q : Int32) : jl_C l K sa yn_ST_numberOf bc_ST_numberOf 2 (some .int) 0 0 N ad [.int q] E (some (.int (iI (st_num q)))) E := by
  refine jl_enter (by decide) (Nat.le_of_ble_eq_true rfl) (fun x h he hr => ?_)
  show jl_J x N ad 0 0 E 0 [(0, .int q)] []
  have loop : ∀ d k : Nat, k + d = 4 → (∀ m, m < k → nm_s0.getD m 0 ≠ q) → jl_J x N ad 0 0 E 2 [(1, .int (nI k)), (0, .int q)] [] := by
    intro d
    induction d with
    | zero =>
      intro k hk hne
      have hk : k = 4 := by omega
      subst hk
      refine jl_iload_n (i := 1) h rfl rfl dc_ST_numberOf_2 3 rfl ?_
      refine jl_gets h (fun _ _ _ q => q.1) wl_ST_28 dc_ST_numberOf_3 6 rfl ?_
      refine jl_tlen (v := nI 4) h (fun _ _ _ q => q.1) (by decide) dc_ST_numberOf_6 7 rfl ?_
      refine jl_icmp_ge h 27 (by decide) dc_ST_numberOf_7 10 rfl (fun c7 => ?_) (fun c7 => absurd (nI_le (Nat.le_refl 4) (by decide)) c7)
      refine jl_iconst (v := -1) h (by decide) dc_ST_numberOf_27 28 rfl ?_
      exact jl_zret h he rfl (by rw [st_num_no hne]; rfl) (rfl) dc_ST_numberOf_28
    | succ d ih =>
      intro k hk hne
      refine jl_iload_n (i := 1) h rfl rfl dc_ST_numberOf_2 3 rfl ?_
      refine jl_gets h (fun _ _ _ q => q.1) wl_ST_28 dc_ST_numberOf_3 6 rfl ?_
      refine jl_tlen (v := nI 4) h (fun _ _ _ q => q.1) (by decide) dc_ST_numberOf_6 7 rfl ?_
      refine jl_icmp_ge h 27 (by decide) dc_ST_numberOf_7 10 rfl (fun c7 => absurd c7 (nI_ge (by omega) (by decide))) (fun c7 => ?_)
      refine jl_gets h (fun _ _ _ q => q.1) wl_ST_28 dc_ST_numberOf_10 13 rfl ?_
      refine jl_iload_n (i := 1) h rfl rfl dc_ST_numberOf_13 14 rfl ?_
      refine jl_tcld (v := nm_s0.getD k 0) h (fun _ _ _ q => q.1) (k) (rfl) (by show _ < 4; omega) (by decide) (rfl) dc_ST_numberOf_14 15 rfl ?_
      refine jl_iload_n (i := 0) h rfl rfl dc_ST_numberOf_15 16 rfl ?_
      refine jl_icmp_ne h 21 (by decide) dc_ST_numberOf_16 19 rfl (fun c16 => ?_) (fun c16 => ?_)
      · skip
        refine jl_iinc (i := 1) (d := 1) (lc2 := [(1, _), (0, _)]) (v2 := nI (k + 1)) h (by decide) rfl (nI_1 k) rfl dc_ST_numberOf_21 24 rfl ?_
        refine jl_goto h 2 (by decide) dc_ST_numberOf_24 ?_
        exact ih (k + 1) (by omega) (fun m hm => by
          by_cases e : m = k
          · subst e; exact c16
          · exact hne m (by omega))
      · skip
        refine jl_iload_n (i := 1) h rfl rfl dc_ST_numberOf_19 20 rfl ?_
        exact jl_zret h he rfl (by rw [← c16, st_num_at k (by omega)]; rfl) (rfl) dc_ST_numberOf_20
  refine jl_iconst (v := nI 0) h (by decide) dc_ST_numberOf_0 1 rfl ?_
  refine jl_istore_n (i := 1) (lc2 := [(1, _), (0, _)]) h rfl (by decide) rfl dc_ST_numberOf_1 2 rfl ?_
  exact loop 4 0 rfl (fun m hm => absurd hm (by omega))
theorem c_ST_append_no (hN : 3 ≤ N) (hS : st_ok K ad E n b) (q : Int32) (hq : st_num q = -1 ∨ n = 18) : jl_C l K sa yn_ST_append bc_ST_append 3 (some .boolean) 1 25 N ad [.ref (ad 1), .int q] E (some (.int 0)) E := by
  refine jl_enter (by decide) (Nat.le_of_ble_eq_true rfl) (fun x h he hr => ?_)
  obtain ⟨hST, hbases, hn, hb⟩ := id hS
  show jl_J x N ad 0 0 E 0 [(0, .ref (ad 1)), (1, .int q)] []
  have h0 : iI 0 = 0 := rfl
  refine jl_iload_n (i := 1) h rfl rfl dc_ST_append_0 1 rfl ?_
  refine jl_callS (As := [_]) (rest := []) h hr vs_ST_17 vt_ST_numberOf (fun l => c_ST_numberOf l q) (by first | decide | omega) (by first | decide | omega) rfl rfl (Nat.le_of_ble_eq_true rfl) dc_ST_append_1 (res := [_]) rfl 4 rfl ?_
  refine jl_istore_n (i := 2) (lc2 := [(2, _), (0, _), (1, _)]) h rfl (by decide) rfl dc_ST_append_4 5 rfl ?_
  refine jl_iload_n (i := 2) h rfl rfl dc_ST_append_5 6 rfl ?_
  refine jl_if_lt h 18 (by decide) dc_ST_append_6 9 rfl (fun c6 => ?_) (fun c6 => ?_)
  · skip
    skip
    refine jl_iconst (v := 0) h (by decide) dc_ST_append_18 19 rfl ?_
    exact jl_zret h he rfl (rfl) (rfl) dc_ST_append_19
  · skip
    have hn18 : n = 18 := by
      rcases hq with hq | hq
      · rw [hq] at c6; exact absurd (by decide) c6
      · exact hq
    subst hn18
    refine jl_aload_n (i := 0) h rfl rfl dc_ST_append_9 10 rfl ?_
    refine jl_getf h nm_c_ST 1 wl_ST_13 (by omega) (by decide) (by exact hST) (by rfl) dc_ST_append_10 13 rfl ?_
    refine jl_bipush (v := 18) h (by decide) dc_ST_append_13 15 rfl ?_
    refine jl_icmp_lt h 20 (by decide) dc_ST_append_15 18 rfl (fun c15 => absurd c15 (by decide)) (fun c15 => ?_)
    refine jl_iconst (v := 0) h (by decide) dc_ST_append_18 19 rfl ?_
    exact jl_zret h he rfl (rfl) (rfl) dc_ST_append_19
theorem c_ST_append_yes (hN : 3 ≤ N) (hS : st_ok K ad E n b) (q : Int32) {a : Nat} (ha : a < 4) (hq : st_num q = a) (hn18 : n < 18) : jl_C l K sa yn_ST_append bc_ST_append 3 (some .boolean) 1 25 N ad [.ref (ad 1), .int q] E (some (.int 1)) (st_app K ad E (n + 1) (va_up b n a)) := by
  refine jl_enter (by decide) (Nat.le_of_ble_eq_true rfl) (fun x h he hr => ?_)
  obtain ⟨hST, hbases, hn, hb⟩ := id hS
  show jl_J x N ad 0 0 E 0 [(0, .ref (ad 1)), (1, .int q)] []
  refine jl_iload_n (i := 1) h rfl rfl dc_ST_append_0 1 rfl ?_
  refine jl_callS (As := [_]) (rest := []) h hr vs_ST_17 vt_ST_numberOf (fun l => c_ST_numberOf l q) (by first | decide | omega) (by first | decide | omega) rfl rfl (Nat.le_of_ble_eq_true rfl) dc_ST_append_1 (res := [_]) rfl 4 rfl ?_
  rw [hq, iI_nat]
  refine jl_istore_n (i := 2) (lc2 := [(2, _), (0, _), (1, _)]) h rfl (by decide) rfl dc_ST_append_4 5 rfl ?_
  refine jl_iload_n (i := 2) h rfl rfl dc_ST_append_5 6 rfl ?_
  refine jl_if_lt h 18 (by decide) dc_ST_append_6 9 rfl (fun c6 => absurd c6 (nI_pos (by omega))) (fun c6 => ?_)
  refine jl_aload_n (i := 0) h rfl rfl dc_ST_append_9 10 rfl ?_
  refine jl_getf h nm_c_ST 1 wl_ST_13 (by omega) (by decide) (by exact hST) (by rfl) dc_ST_append_10 13 rfl ?_
  refine jl_bipush (v := nI 18) h (by decide) dc_ST_append_13 15 rfl ?_
  refine jl_icmp_lt h 20 (by decide) dc_ST_append_15 18 rfl (fun c15 => ?_) (fun c15 => absurd (nI_lt hn18 (by decide)) c15)
  refine jl_aload_n (i := 0) h rfl rfl dc_ST_append_20 21 rfl ?_
  refine jl_getf h nm_c_ST 0 wl_ST_9 (by omega) (by decide) (by exact hST) (by rfl) dc_ST_append_21 24 rfl ?_
  refine jl_aload_n (i := 0) h rfl rfl dc_ST_append_24 25 rfl ?_
  refine jl_getf h nm_c_ST 1 wl_ST_13 (by omega) (by decide) (by exact hST) (by rfl) dc_ST_append_25 28 rfl ?_
  refine jl_iload_n (i := 2) h rfl rfl dc_ST_append_28 29 rfl ?_
  refine jl_iast h (n) (by exact rfl) (by omega) (by exact hbases) (by exact hn18) (by first | decide | assumption) dc_ST_append_29 (by rw [st_upd]) 30 rfl ?_
  refine jl_aload_n (i := 0) h rfl rfl dc_ST_append_30 31 rfl ?_
  refine jl_dup h rfl dc_ST_append_31 32 rfl ?_
  refine jl_getf h nm_c_ST 1 wl_ST_13 (by omega) (by decide) (by exact hST) (by rfl) dc_ST_append_32 35 rfl ?_
  refine jl_iconst (v := 1) h (by decide) dc_ST_append_35 36 rfl ?_
  refine jl_iadd h dc_ST_append_36 37 rfl ?_
  rw [show nI n + 1 = nI (n + 1) by exact nI_1 n]
  refine jl_putf (fs2 := [_, _]) h nm_c_ST 1 wl_ST_13 (by omega) (by decide) rfl (by exact hST) (by rfl) (by rfl) (by exact Nat.le_of_ble_eq_true rfl) (by rfl) dc_ST_append_37 rfl 40 rfl ?_
  refine jl_iconst (v := 1) h (by decide) dc_ST_append_40 41 rfl ?_
  exact jl_zret h he rfl (rfl) (rfl) dc_ST_append_41
theorem c_ST_removeAll (hN : 3 ≤ N) (hS : st_ok K ad E n b) : jl_C l K sa yn_ST_removeAll bc_ST_removeAll 2 (some .int) 0 0 N ad [.ref (ad 1)] E (some (.int (nI n))) (va_up E 1 (.inr (1, [.ref (ad 2), .int (nI 0)]))) := by
  refine jl_enter (by decide) (Nat.le_of_ble_eq_true rfl) (fun x h he hr => ?_)
  obtain ⟨hST, hbases, hn, hb⟩ := id hS
  show jl_J x N ad 0 0 E 0 [(0, .ref (ad 1))] []
  refine jl_aload_n (i := 0) h rfl rfl dc_ST_removeAll_0 1 rfl ?_
  refine jl_getf h nm_c_ST 1 wl_ST_13 (by omega) (by decide) (by exact hST) (by rfl) dc_ST_removeAll_1 4 rfl ?_
  refine jl_istore_n (i := 1) (lc2 := [(1, _), (0, _)]) h rfl (by decide) rfl dc_ST_removeAll_4 5 rfl ?_
  refine jl_aload_n (i := 0) h rfl rfl dc_ST_removeAll_5 6 rfl ?_
  refine jl_iconst (v := 0) h (by decide) dc_ST_removeAll_6 7 rfl ?_
  refine jl_putf (fs2 := [_, _]) h nm_c_ST 1 wl_ST_13 (by omega) (by decide) rfl (by exact hST) (by rfl) (by rfl) (by exact Nat.le_of_ble_eq_true rfl) (by rfl) dc_ST_removeAll_7 rfl 10 rfl ?_
  refine jl_iload_n (i := 1) h rfl rfl dc_ST_removeAll_10 11 rfl ?_
  exact jl_zret h he rfl (rfl) (rfl) dc_ST_removeAll_11
theorem c_ST_spells (hN : 3 ≤ N) (hS : st_ok K ad E n b) {i j : Nat} (hij : i ≤ j) (hj : j < 18) : jl_C l K sa yn_ST_spells bc_ST_spells 5 (some .boolean) 0 0 N ad [.ref (ad 1), .int (nI i), .int (nI j), .ref (sa 2)] E (some (.int (st_bI (en_six b i j)))) E := by
  refine jl_enter (by decide) (Nat.le_of_ble_eq_true rfl) (fun x h he hr => ?_)
  obtain ⟨hST, hbases, hn, hb⟩ := id hS
  show jl_J x N ad 0 0 E 0 [(0, .ref (ad 1)), (1, .int (nI i)), (2, .int (nI j)), (3, .ref (sa 2))] []
  have loop : ∀ d k : Nat, k + d = 6 → j = i + 5 → (∀ m, m < k → nm_s0.getD (b (i + m)) 0 = nm_s2.getD m 0) → jl_J x N ad 0 0 E 15 [(4, .int (nI k)), (0, .ref (ad 1)), (1, .int (nI i)), (2, .int (nI j)), (3, .ref (sa 2))] [] := by
    intro d
    induction d with
    | zero =>
      intro k hk hj5 hne
      have hk : k = 6 := by omega
      subst hk
      refine jl_iload h rfl dc_ST_spells_15 17 rfl ?_
      refine jl_aload_n (i := 3) h rfl rfl dc_ST_spells_17 18 rfl ?_
      refine jl_tlen (v := nI 6) h (fun _ _ _ q => q.2.2.1) (by decide) dc_ST_spells_18 19 rfl ?_
      refine jl_icmp_ge h 50 (by decide) dc_ST_spells_19 22 rfl (fun c19 => ?_) (fun c19 => absurd (nI_le (Nat.le_refl 6) (by decide)) c19)
      refine jl_iconst (v := 1) h (by decide) dc_ST_spells_50 51 rfl ?_
      exact jl_zret h he rfl (by rw [en_six_yes hj5 hne]; rfl) (rfl) dc_ST_spells_51
    | succ d ih =>
      intro k hk hj5 hne
      have hbk := hb (i + k)
      refine jl_iload h rfl dc_ST_spells_15 17 rfl ?_
      refine jl_aload_n (i := 3) h rfl rfl dc_ST_spells_17 18 rfl ?_
      refine jl_tlen (v := nI 6) h (fun _ _ _ q => q.2.2.1) (by decide) dc_ST_spells_18 19 rfl ?_
      refine jl_icmp_ge h 50 (by decide) dc_ST_spells_19 22 rfl (fun c19 => absurd c19 (nI_ge (by omega) (by decide))) (fun c19 => ?_)
      refine jl_gets h (fun _ _ _ q => q.1) wl_ST_28 dc_ST_spells_22 25 rfl ?_
      refine jl_aload_n (i := 0) h rfl rfl dc_ST_spells_25 26 rfl ?_
      refine jl_getf h nm_c_ST 0 wl_ST_9 (by omega) (by decide) (by exact hST) (by rfl) dc_ST_spells_26 29 rfl ?_
      refine jl_iload_n (i := 1) h rfl rfl dc_ST_spells_29 30 rfl ?_
      refine jl_iload h rfl dc_ST_spells_30 32 rfl ?_
      refine jl_iadd h dc_ST_spells_32 33 rfl ?_
      rw [show nI i + nI k = nI (i + k) by exact nI_add i k]
      refine jl_iald (v := nI (b (i + k))) h (i + k) (by exact rfl) (by omega) (by exact hbases) (by exact by omega) (by first | decide | assumption) (by exact rfl) dc_ST_spells_33 34 rfl ?_
      refine jl_tcld (v := nm_s0.getD (b (i + k)) 0) h (fun _ _ _ q => q.1) (b (i + k)) (rfl) (by show _ < 4; omega) (by decide) (rfl) dc_ST_spells_34 35 rfl ?_
      refine jl_aload_n (i := 3) h rfl rfl dc_ST_spells_35 36 rfl ?_
      refine jl_iload h rfl dc_ST_spells_36 38 rfl ?_
      refine jl_tcld (v := nm_s2.getD k 0) h (fun _ _ _ q => q.2.2.1) (k) (rfl) (by show _ < 6; omega) (by decide) (rfl) dc_ST_spells_38 39 rfl ?_
      refine jl_icmp_eq h 44 (by decide) dc_ST_spells_39 42 rfl (fun c39 => ?_) (fun c39 => ?_)
      · skip
        refine jl_iinc (i := 4) (d := 1) (lc2 := [(4, _), (0, _), (1, _), (2, _), (3, _)]) (v2 := nI (k + 1)) h (by decide) rfl (nI_1 k) rfl dc_ST_spells_44 47 rfl ?_
        refine jl_goto h 15 (by decide) dc_ST_spells_47 ?_
        exact ih (k + 1) (by omega) hj5 (fun m hm => by
          by_cases e : m = k
          · subst e; exact c39
          · exact hne m (by omega))
      · skip
        refine jl_iconst (v := 0) h (by decide) dc_ST_spells_42 43 rfl ?_
        exact jl_zret h he rfl (by rw [en_six_no (show k < 6 by omega) c39]; rfl) (rfl) dc_ST_spells_43
  have hlen : nI j - nI i + 1 = nI (j - i + 1) := by rw [pk_sub hij, nI_1]
  refine jl_iload_n (i := 2) h rfl rfl dc_ST_spells_0 1 rfl ?_
  refine jl_iload_n (i := 1) h rfl rfl dc_ST_spells_1 2 rfl ?_
  refine jl_isub h dc_ST_spells_2 3 rfl ?_
  refine jl_iconst (v := 1) h (by decide) dc_ST_spells_3 4 rfl ?_
  refine jl_iadd h dc_ST_spells_4 5 rfl ?_
  rw [show nI j - nI i + 1 = nI (j - i + 1) by exact hlen]
  refine jl_aload_n (i := 3) h rfl rfl dc_ST_spells_5 6 rfl ?_
  refine jl_tlen (v := nI 6) h (fun _ _ _ q => q.2.2.1) (by decide) dc_ST_spells_6 7 rfl ?_
  refine jl_icmp_eq h 12 (by decide) dc_ST_spells_7 10 rfl (fun c7 => ?_) (fun c7 => ?_)
  · skip
    rw [nI_eq (by omega) (by decide)] at c7
    refine jl_iconst (v := nI 0) h (by decide) dc_ST_spells_12 13 rfl ?_
    refine jl_istore (i := 4) (lc2 := [(4, _), (0, _), (1, _), (2, _), (3, _)]) h (by decide) rfl dc_ST_spells_13 15 rfl ?_
    exact loop 6 0 rfl (by omega) (fun m hm => absurd hm (by omega))
  · skip
    rw [nI_eq (by omega) (by decide)] at c7
    refine jl_iconst (v := 0) h (by decide) dc_ST_spells_10 11 rfl ?_
    exact jl_zret h he rfl (by rw [en_six_len (by omega)]; rfl) (rfl) dc_ST_spells_11
end ST

