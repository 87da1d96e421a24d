/-! FoldedStrand$NearList.fillRegions and fillPair: what they bring to the list. -/
def nl_ac (ac : List Int × Bool) (I : Nat → Int32) (L : Nat → Int64) : Prop := I 1 = nI ac.1.length ∧ I 2 = st_bI ac.2 ∧ nl_K ac.1 L ∧ ac.1.length ≤ 150 ∧ ac.1.Pairwise (· ≤ ·) ∧ ∀ z ∈ ac.1, nl_big z
def nl_M : List (Nat × Nat × Nat) → (Nat → Nat → Int32) → (Nat → Nat) → Prop
  | [], _, _ => True
  | (r, s, e) :: rest, V, R => R rest.length = 64 + 21 * r ∧ V 151 rest.length = nI s ∧ V 152 rest.length = nI e ∧ nl_M rest V R
def nl_st (I0 : Nat → Int32) (V0 : Nat → Nat → Int32) (ac : List Int × Bool) (regs : List (Nat × Nat × Nat)) (I : Nat → Int32) (V : Nat → Nat → Int32) (L : Nat → Int64) (R : Nat → Nat) : Prop := (∀ k, k ≠ 1 → k ≠ 2 → I k = I0 k) ∧ (∀ c, c ≠ 151 → c ≠ 152 → V c = V0 c) ∧ nl_ac ac I L ∧ nl_M regs V R
theorem nl_st.trans {I0 I1 I2 : Nat → Int32} {V0 V1 V2 : Nat → Nat → Int32} {ac ac2 : List Int × Bool} {regs regs2 : List (Nat × Nat × Nat)} {L1 L2 : Nat → Int64} {R1 R2 : Nat → Nat} (h1 : nl_st I0 V0 ac regs I1 V1 L1 R1) (h2 : nl_st I1 V1 ac2 regs2 I2 V2 L2 R2) : nl_st I0 V0 ac2 regs2 I2 V2 L2 R2 := ⟨fun k a c => (h2.1 k a c).trans (h1.1 k a c), fun k a c => (h2.2.1 k a c).trans (h1.2.1 k a c), h2.2.2⟩
theorem nl_st.tail {I0 I1 : Nat → Int32} {V0 V1 : Nat → Nat → Int32} {ac : List Int × Bool} {q : Nat × Nat × Nat} {regs : List (Nat × Nat × Nat)} {L1 : Nat → Int64} {R1 : Nat → Nat} (h : nl_st I0 V0 ac (q :: regs) I1 V1 L1 R1) : nl_st I0 V0 ac regs I1 V1 L1 R1 := ⟨h.1, h.2.1, h.2.2.1, h.2.2.2.2.2.2⟩
theorem nl_M_up {V : Nat → Nat → Int32} {R : Nat → Nat} {k c : Nat} {u v : Int32} : ∀ regs : List (Nat × Nat × Nat), regs.length ≤ k → nl_M regs V R → nl_M regs (va_up (va_up V 151 (upd (V 151) k u)) 152 (upd (V 152) k v)) (va_up R k c)
  | [], _, _ => trivial
  | (r, s, e) :: rest, hk, h => by
    rw [List.length_cons] at hk
    refine ⟨?_, ?_, ?_, nl_M_up rest (by omega) h.2.2.2⟩
    · rw [va_up_ne _ _ (by omega)]
      exact h.1
    · rw [va_up_ne _ _ (by decide), va_up_self]
      unfold upd
      rw [if_neg (by omega)]
      exact h.2.1
    · rw [va_up_self]
      unfold upd
      rw [if_neg (by omega)]
      exact h.2.2.1
theorem nl_set {I0 I1 : Nat → Int32} {V0 V1 : Nat → Nat → Int32} {ac : List Int × Bool} {regs : List (Nat × Nat × Nat)} {L1 : Nat → Int64} {R1 : Nat → Nat} (r s e : Nat) (h : nl_st I0 V0 ac regs I1 V1 L1 R1) : nl_st I0 V0 ac ((r, s, e) :: regs) I1 (va_up (va_up V1 151 (upd (V1 151) regs.length (nI s))) 152 (upd (V1 152) regs.length (nI e))) L1 (va_up R1 regs.length (64 + 21 * r)) := by
  refine ⟨h.1, fun c h1 h2 => ?_, h.2.2.1, ?_, ?_, ?_, nl_M_up regs (Nat.le_refl _) h.2.2.2⟩
  · rw [va_up_ne _ _ h2, va_up_ne _ _ h1]
    exact h.2.1 c h1 h2
  · rw [va_up_self]
  · rw [va_up_ne _ _ (by decide), va_up_self]
    unfold upd
    rw [if_pos rfl]
  · rw [va_up_self]
    unfold upd
    rw [if_pos rfl]
theorem nl_ins_mem (z : Int) : ∀ (ks : List Int) (y : Int), y ∈ nl_ins z ks → y = z ∨ y ∈ ks
  | [], y, h => by
    simp [nl_ins] at h
    exact Or.inl h
  | a :: l, y, h => by
    unfold nl_ins at h
    split at h
    · rcases List.mem_cons.mp h with h | h
      · exact Or.inl h
      · exact Or.inr h
    · rcases List.mem_cons.mp h with h | h
      · exact Or.inr (by rw [h]; exact List.mem_cons_self)
      · rcases nl_ins_mem z l y h with h | h
        · exact Or.inl h
        · exact Or.inr (List.mem_cons_of_mem _ h)
theorem nl_ins_sorted (z : Int) : ∀ ks : List Int, ks.Pairwise (· ≤ ·) → (nl_ins z ks).Pairwise (· ≤ ·)
  | [], _ => by simp [nl_ins]
  | a :: l, h => by
    rw [List.pairwise_cons] at h
    unfold nl_ins
    split
    · rename_i hz
      rw [List.pairwise_cons, List.pairwise_cons]
      refine ⟨fun y hy => ?_, h⟩
      rcases List.mem_cons.mp hy with rfl | hy
      · omega
      · have := h.1 y hy
        omega
    · rename_i hz
      rw [List.pairwise_cons]
      refine ⟨fun y hy => ?_, nl_ins_sorted z l h.2⟩
      rcases nl_ins_mem z l y hy with rfl | hy
      · omega
      · exact h.1 y hy
/-- what stays as it is in a search -/
def nl_cx (b : Nat → Nat) (n : Nat) (pe : Nat → Nat → Int) (T : Nat → Nat → Nat → Int) (lim : Int) (I : Nat → Int32) (V : Nat → Nat → Int32) : Prop := I 0 = nI n ∧ V 2 = (fun i => nI (b i)) ∧ n ≤ 18 ∧ (∀ i, b i < 4) ∧ I 3 = iI lim ∧ fo_V n pe T V ∧ fo_B n pe T ∧ nl_LB b n pe T ∧ -1000000 ≤ lim ∧ lim ≤ 1000000
theorem nl_cx.to {b : Nat → Nat} {n : Nat} {pe : Nat → Nat → Int} {T : Nat → Nat → Nat → Int} {lim : Int} {I0 I : Nat → Int32} {V0 V : Nat → Nat → Int32} (h : nl_cx b n pe T lim I0 V0) (hI : ∀ k, k ≠ 1 → k ≠ 2 → I k = I0 k) (hV : ∀ c, c ≠ 151 → c ≠ 152 → V c = V0 c) : nl_cx b n pe T lim I V := by
  obtain ⟨h1, h2, h3, h4, h5, ⟨h6, h7⟩, h8⟩ := h
  refine ⟨(hI 0 (by decide) (by decide)).trans h1, (hV 2 (by decide) (by decide)).trans h2, h3, h4, (hI 3 (by decide) (by decide)).trans h5, ⟨fun i j hij hj => ?_, fun q hq i e hie he => ?_⟩, h8⟩
  · rw [hV (6 + i) (by omega) (by omega)]
    exact h6 i j hij hj
  · have := fo_b_in q i hq (by omega)
    rw [hV (fo_b q + i) (by omega) (by omega)]
    exact h7 q hq i e hie he
theorem nl_cx.S {K : Nat → ClassId} {ad : Nat → Nat} {L : Nat → Int64} {C : Nat → Int32} {G R : Nat → Nat} {b : Nat → Nat} {n : Nat} {pe : Nat → Nat → Int} {T : Nat → Nat → Nat → Int} {lim : Int} {I : Nat → Int32} {V : Nat → Nat → Int32} (h : nl_cx b n pe T lim I V) : st_ok K ad (gw K ad I V L C G R) n b := ⟨by show Sum.inr _ = _; rw [h.1], gw_at rfl rfl h.2.1, h.2.2.1, h.2.2.2.1⟩
theorem fo_b2 (r : Nat) : fo_b (2 + r) = 66 + 21 * r := by
  unfold fo_b
  rw [if_neg (by omega), if_neg (by omega)]
  congr 2
  omega
theorem nl_cx.T {b : Nat → Nat} {n : Nat} {pe : Nat → Nat → Int} {T : Nat → Nat → Nat → Int} {lim : Int} {I : Nat → Int32} {V : Nat → Nat → Int32} (h : nl_cx b n pe T lim I V) {r s e : Nat} (hr : r < 4) (hs : s ≤ e) (he : e ≤ n) : V (66 + 21 * r + s) e = iI (T (2 + r) s e) := by
  rw [← fo_b2]
  exact h.2.2.2.2.2.1.2 (2 + r) (by omega) s e hs (Or.inl he)
theorem nl_sum_in {b : Nat → Nat} {n : Nat} {pe : Nat → Nat → Int} {T : Nat → Nat → Nat → Int} {lim : Int} {I : Nat → Int32} {V : Nat → Nat → Int32} (h : nl_cx b n pe T lim I V) : ∀ regs, nl_W n regs → -1000100 * (regs.length : Int) ≤ nl_sum T regs ∧ nl_sum T regs ≤ 1000100 * (regs.length : Int)
  | [], _ => ⟨Int.le_refl _, Int.le_refl _⟩
  | (r, s, e) :: rest, hW => by
    have hw : r < 4 ∧ s ≤ e ∧ e ≤ n := hW (r, s, e) List.mem_cons_self
    have ih := nl_sum_in h rest (fun q hq => hW q (List.mem_cons_of_mem _ hq))
    have h2 := h.2.2.2.2.2.2.1.2.2 r hw.1 s e hw.2.1 (Or.inl hw.2.2)
    have h3 := h.2.2.1
    show _ ≤ T (2 + r) s e + nl_sum T rest ∧ T (2 + r) s e + nl_sum T rest ≤ _
    rw [List.length_cons]
    omega
section NL
variable {K : Nat → ClassId} {sa : Nat → Nat} {ad : Nat → Nat} {C : Nat → Int32} {G : Nat → Nat}
theorem c_RE_may (l : Launch) {I : Nat → Int32} {V : Nat → Nat → Int32} {L : Nat → Int64} {R : Nat → Nat} {r : Nat} (hr : r < 4) : jl_C l K sa yn_RE_mayBeUnpaired bc_RE_mayBeUnpaired 1 (some .boolean) 0 0 168 ad [.ref (ad (64 + 21 * r))] (gw K ad I V L C G R) (some (.int (st_bI (decide (r < 2))))) (gw K ad I V L C G R) := by
  match r, hr with
  | 0, _ => exact c_RE0_mayBeUnpaired l
  | 1, _ => exact c_RE1_mayBeUnpaired l
  | 2, _ => exact c_RE2_mayBeUnpaired l
  | 3, _ => exact c_RE3_mayBeUnpaired l
theorem c_RE_after (l : Launch) {I : Nat → Int32} {V : Nat → Nat → Int32} {L : Nat → Int64} {R : Nat → Nat} {r : Nat} (hr : r < 4) : jl_C l K sa yn_RE_afterPair bc_RE_afterPair 1 (some (.object "FoldedStrand$Region")) 0 0 168 ad [.ref (ad (64 + 21 * r))] (gw K ad I V L C G R) (some (.ref (ad (64 + 21 * fo_af r)))) (gw K ad I V L C G R) := by
  match r, hr with
  | 0, _ => exact c_RE0_afterPair l
  | 1, _ => exact c_RE1_afterPair l
  | 2, _ => exact c_RE2_afterPair l
  | 3, _ => exact c_RE3_afterPair l
theorem c_FO_branch (l : Launch) {I : Nat → Int32} {V : Nat → Nat → Int32} {L : Nat → Int64} {R : Nat → Nat} {n : Nat} {b : Nat → Nat} {pe : Nat → Nat → Int} {r : Nat} (hr : r < 4) (hS : st_ok K ad (gw K ad I V L C G R) n b) {k t : Nat} (hk : k < 18) (ht : t < 18) (hpe : V (6 + k) t = iI (pe k t)) : jl_C l K sa yn_FO_branchEnergy bc_FO_branchEnergy 4 (some .int) 2 55 168 ad [.ref (ad 4), .ref (ad (64 + 21 * r)), .int (nI k), .int (nI t)] (gw K ad I V L C G R) (some (.int (iI (fo_br b r pe k t)))) (gw K ad I V L C G R) := by
  match r, hr with
  | 0, _ => exact c_FO0_branchEnergy l hS hk ht hpe
  | 1, _ => exact c_FO1_branchEnergy l hS hk ht hpe
  | 2, _ => exact c_FO2_branchEnergy l hS hk ht hpe
  | 3, _ => exact c_FO3_branchEnergy l hS hk ht hpe
end NL
abbrev bc_NL_fillRegions : ByteArray := prog_4_method_8_code
abbrev yn_NL_fillRegions : MethodName := ⟨"FoldedStrand$NearList", "fillRegions", "(IIJI)V"⟩
theorem wl_NL_23 : Cond.fieldLink "FoldedStrand$NearList" 23 "FoldedStrand$NearList" "limit" "I" ∈ jl_T := jl_T_of 119 (by decide +kernel) (by decide +kernel)
theorem vs_NL_80 : jl_v "FoldedStrand$NearList" 80 yn_NL_insert bc_NL_insert 7 none 2 := ⟨jl_T_of 382 (by decide +kernel) (by decide +kernel), jl_T_of 6 (by decide +kernel) (by decide +kernel), jl_T_of 379 (by decide +kernel) (by decide +kernel), by decide +kernel, by decide +kernel, by decide +kernel⟩
theorem vi_NL_insert : Cond.instanceMethod yn_NL_insert ∈ jl_T := jl_T_of 381 (by decide +kernel) (by decide +kernel)
theorem vx_NL_insert : Cond.selects "FoldedStrand$NearList" yn_NL_insert yn_NL_insert ∈ jl_T := jl_T_sel 8 (by decide +kernel) (by decide +kernel)
theorem wl_NL_84 : Cond.fieldLink "FoldedStrand$NearList" 84 "FoldedStrand$Region" "leastEnergies" "[[I" ∈ jl_T := jl_T_of 66 (by decide +kernel) (by decide +kernel)
theorem vs_NL_88 : jl_v "FoldedStrand$NearList" 88 yn_RE_mayBeUnpaired bc_RE_mayBeUnpaired 1 (some .boolean) 0 := ⟨jl_T_of 386 (by decide +kernel) (by decide +kernel), jl_T_of 5 (by decide +kernel) (by decide +kernel), jl_T_of 383 (by decide +kernel) (by decide +kernel), by decide +kernel, by decide +kernel, by decide +kernel⟩
theorem vi_RE_mayBeUnpaired : Cond.instanceMethod yn_RE_mayBeUnpaired ∈ jl_T := jl_T_of 384 (by decide +kernel) (by decide +kernel)
theorem vx_RE_mayBeUnpaired : Cond.selects "FoldedStrand$Region" yn_RE_mayBeUnpaired yn_RE_mayBeUnpaired ∈ jl_T := jl_T_of 385 (by decide +kernel) (by decide +kernel)
theorem wl_NL_92 : Cond.fieldLink "FoldedStrand$NearList" 92 "FoldedStrand$Region" "perPlace" "I" ∈ jl_T := jl_T_of 61 (by decide +kernel) (by decide +kernel)
theorem vs_NL_76 : jl_v "FoldedStrand$NearList" 76 yn_NL_fillRegions bc_NL_fillRegions 15 none 4 := ⟨jl_T_of 378 (by decide +kernel) (by decide +kernel), jl_T_of 6 (by decide +kernel) (by decide +kernel), jl_T_of 375 (by decide +kernel) (by decide +kernel), by decide +kernel, by decide +kernel, by decide +kernel⟩
theorem vi_NL_fillRegions : Cond.instanceMethod yn_NL_fillRegions ∈ jl_T := jl_T_of 377 (by decide +kernel) (by decide +kernel)
theorem vx_NL_fillRegions : Cond.selects "FoldedStrand$NearList" yn_NL_fillRegions yn_NL_fillRegions ∈ jl_T := jl_T_sel 7 (by decide +kernel) (by decide +kernel)
theorem vs_NL_95 : jl_v "FoldedStrand$NearList" 95 yn_ST_canPair bc_ST_canPair 3 (some .boolean) 2 := ⟨jl_T_of 230 (by decide +kernel) (by decide +kernel), jl_T_of 2 (by decide +kernel) (by decide +kernel), jl_T_of 387 (by decide +kernel) (by decide +kernel), by decide +kernel, by decide +kernel, by decide +kernel⟩
theorem vs_NL_99 : jl_v "FoldedStrand$NearList" 99 yn_RE_afterPair bc_RE_afterPair 1 (some (.object "FoldedStrand$Region")) 0 := ⟨jl_T_of 306 (by decide +kernel) (by decide +kernel), jl_T_of 5 (by decide +kernel) (by decide +kernel), jl_T_of 388 (by decide +kernel) (by decide +kernel), by decide +kernel, by decide +kernel, by decide +kernel⟩
theorem vs_NL_68 : jl_v "FoldedStrand$NearList" 68 yn_NL_setRegion bc_NL_setRegion 5 none 4 := ⟨jl_T_of 366 (by decide +kernel) (by decide +kernel), jl_T_of 6 (by decide +kernel) (by decide +kernel), jl_T_of 363 (by decide +kernel) (by decide +kernel), by decide +kernel, by decide +kernel, by decide +kernel⟩
theorem vi_NL_setRegion : Cond.instanceMethod yn_NL_setRegion ∈ jl_T := jl_T_of 365 (by decide +kernel) (by decide +kernel)
theorem vx_NL_setRegion : Cond.selects "FoldedStrand$NearList" yn_NL_setRegion yn_NL_setRegion ∈ jl_T := jl_T_sel 5 (by decide +kernel) (by decide +kernel)
theorem wl_NL_47 : Cond.fieldLink "FoldedStrand$NearList" 47 "FoldedStrand$NearList" "folds" "LFoldedStrand$Folds;" ∈ jl_T := jl_T_of 125 (by decide +kernel) (by decide +kernel)
theorem vs_NL_103 : jl_v "FoldedStrand$NearList" 103 yn_FO_branchEnergy bc_FO_branchEnergy 4 (some .int) 3 := ⟨jl_T_of 310 (by decide +kernel) (by decide +kernel), jl_T_of 4 (by decide +kernel) (by decide +kernel), jl_T_of 389 (by decide +kernel) (by decide +kernel), by decide +kernel, by decide +kernel, by decide +kernel⟩
theorem vs_NL_107 : jl_v "FoldedStrand$NearList" 107 yn_NL_withPair bc_NL_withPair 4 (some .long) 3 := ⟨jl_T_of 392 (by decide +kernel) (by decide +kernel), jl_T_of 6 (by decide +kernel) (by decide +kernel), jl_T_of 390 (by decide +kernel) (by decide +kernel), by decide +kernel, by decide +kernel, by decide +kernel⟩
theorem vt_NL_withPair : Cond.static yn_NL_withPair ∈ jl_T := jl_T_of 391 (by decide +kernel) (by decide +kernel)
abbrev bc_NL_fillPair : ByteArray := prog_4_method_9_code
abbrev yn_NL_fillPair : MethodName := ⟨"FoldedStrand$NearList", "fillPair", "(IIIIJI)V"⟩
theorem vs_NL_111 : jl_v "FoldedStrand$NearList" 111 yn_NL_fillPair bc_NL_fillPair 12 none 6 := ⟨jl_T_of 396 (by decide +kernel) (by decide +kernel), jl_T_of 6 (by decide +kernel) (by decide +kernel), jl_T_of 393 (by decide +kernel) (by decide +kernel), by decide +kernel, by decide +kernel, by decide +kernel⟩
theorem vi_NL_fillPair : Cond.instanceMethod yn_NL_fillPair ∈ jl_T := jl_T_of 395 (by decide +kernel) (by decide +kernel)
theorem vx_NL_fillPair : Cond.selects "FoldedStrand$NearList" yn_NL_fillPair yn_NL_fillPair ∈ jl_T := jl_T_sel 9 (by decide +kernel) (by decide +kernel)
theorem dc_NL_fillRegions_0 : decode bc_NL_fillRegions 0 = .ok (.aload_n 0, 1) := by decide +kernel
theorem dc_NL_fillRegions_1 : decode bc_NL_fillRegions 1 = .ok (.getfield 19, 3) := by decide +kernel
theorem dc_NL_fillRegions_4 : decode bc_NL_fillRegions 4 = .ok (.ifCond .ne 18, 3) := by decide +kernel
theorem dc_NL_fillRegions_7 : decode bc_NL_fillRegions 7 = .ok (.iload_n 2, 1) := by decide +kernel
theorem dc_NL_fillRegions_8 : decode bc_NL_fillRegions 8 = .ok (.aload_n 0, 1) := by decide +kernel
theorem dc_NL_fillRegions_9 : decode bc_NL_fillRegions 9 = .ok (.getfield 23, 3) := by decide +kernel
theorem dc_NL_fillRegions_12 : decode bc_NL_fillRegions 12 = .ok (.if_icmp .gt 10, 3) := by decide +kernel
theorem dc_NL_fillRegions_15 : decode bc_NL_fillRegions 15 = .ok (.iload 5, 2) := by decide +kernel
theorem dc_NL_fillRegions_17 : decode bc_NL_fillRegions 17 = .ok (.bipush 40, 2) := by decide +kernel
theorem dc_NL_fillRegions_19 : decode bc_NL_fillRegions 19 = .ok (.if_icmp .le 4, 3) := by decide +kernel
theorem dc_NL_fillRegions_22 : decode bc_NL_fillRegions 22 = .ok (.return_, 1) := by decide +kernel
theorem dc_NL_fillRegions_23 : decode bc_NL_fillRegions 23 = .ok (.iload_n 1, 1) := by decide +kernel
theorem dc_NL_fillRegions_24 : decode bc_NL_fillRegions 24 = .ok (.ifCond .gt 10, 3) := by decide +kernel
theorem dc_NL_fillRegions_27 : decode bc_NL_fillRegions 27 = .ok (.aload_n 0, 1) := by decide +kernel
theorem dc_NL_fillRegions_28 : decode bc_NL_fillRegions 28 = .ok (.iload_n 2, 1) := by decide +kernel
theorem dc_NL_fillRegions_29 : decode bc_NL_fillRegions 29 = .ok (.lload_n 3, 1) := by decide +kernel
theorem dc_NL_fillRegions_30 : decode bc_NL_fillRegions 30 = .ok (.invokevirtual 80, 3) := by decide +kernel
theorem dc_NL_fillRegions_33 : decode bc_NL_fillRegions 33 = .ok (.return_, 1) := by decide +kernel
theorem dc_NL_fillRegions_34 : decode bc_NL_fillRegions 34 = .ok (.aload_n 0, 1) := by decide +kernel
theorem dc_NL_fillRegions_35 : decode bc_NL_fillRegions 35 = .ok (.getfield 28, 3) := by decide +kernel
theorem dc_NL_fillRegions_38 : decode bc_NL_fillRegions 38 = .ok (.iload_n 1, 1) := by decide +kernel
theorem dc_NL_fillRegions_39 : decode bc_NL_fillRegions 39 = .ok (.iconst 1, 1) := by decide +kernel
theorem dc_NL_fillRegions_40 : decode bc_NL_fillRegions 40 = .ok (.isub, 1) := by decide +kernel
theorem dc_NL_fillRegions_41 : decode bc_NL_fillRegions 41 = .ok (.aaload, 1) := by decide +kernel
theorem dc_NL_fillRegions_42 : decode bc_NL_fillRegions 42 = .ok (.astore 6, 2) := by decide +kernel
theorem dc_NL_fillRegions_44 : decode bc_NL_fillRegions 44 = .ok (.aload_n 0, 1) := by decide +kernel
theorem dc_NL_fillRegions_45 : decode bc_NL_fillRegions 45 = .ok (.getfield 32, 3) := by decide +kernel
theorem dc_NL_fillRegions_48 : decode bc_NL_fillRegions 48 = .ok (.iload_n 1, 1) := by decide +kernel
theorem dc_NL_fillRegions_49 : decode bc_NL_fillRegions 49 = .ok (.iconst 1, 1) := by decide +kernel
theorem dc_NL_fillRegions_50 : decode bc_NL_fillRegions 50 = .ok (.isub, 1) := by decide +kernel
theorem dc_NL_fillRegions_51 : decode bc_NL_fillRegions 51 = .ok (.iaload, 1) := by decide +kernel
theorem dc_NL_fillRegions_52 : decode bc_NL_fillRegions 52 = .ok (.istore 7, 2) := by decide +kernel
theorem dc_NL_fillRegions_54 : decode bc_NL_fillRegions 54 = .ok (.aload_n 0, 1) := by decide +kernel
theorem dc_NL_fillRegions_55 : decode bc_NL_fillRegions 55 = .ok (.getfield 36, 3) := by decide +kernel
theorem dc_NL_fillRegions_58 : decode bc_NL_fillRegions 58 = .ok (.iload_n 1, 1) := by decide +kernel
theorem dc_NL_fillRegions_59 : decode bc_NL_fillRegions 59 = .ok (.iconst 1, 1) := by decide +kernel
theorem dc_NL_fillRegions_60 : decode bc_NL_fillRegions 60 = .ok (.isub, 1) := by decide +kernel
theorem dc_NL_fillRegions_61 : decode bc_NL_fillRegions 61 = .ok (.iaload, 1) := by decide +kernel
theorem dc_NL_fillRegions_62 : decode bc_NL_fillRegions 62 = .ok (.istore 8, 2) := by decide +kernel
theorem dc_NL_fillRegions_64 : decode bc_NL_fillRegions 64 = .ok (.iload_n 2, 1) := by decide +kernel
theorem dc_NL_fillRegions_65 : decode bc_NL_fillRegions 65 = .ok (.aload 6, 2) := by decide +kernel
theorem dc_NL_fillRegions_67 : decode bc_NL_fillRegions 67 = .ok (.getfield 84, 3) := by decide +kernel
theorem dc_NL_fillRegions_70 : decode bc_NL_fillRegions 70 = .ok (.iload 7, 2) := by decide +kernel
theorem dc_NL_fillRegions_72 : decode bc_NL_fillRegions 72 = .ok (.aaload, 1) := by decide +kernel
theorem dc_NL_fillRegions_73 : decode bc_NL_fillRegions 73 = .ok (.iload 8, 2) := by decide +kernel
theorem dc_NL_fillRegions_75 : decode bc_NL_fillRegions 75 = .ok (.iaload, 1) := by decide +kernel
theorem dc_NL_fillRegions_76 : decode bc_NL_fillRegions 76 = .ok (.isub, 1) := by decide +kernel
theorem dc_NL_fillRegions_77 : decode bc_NL_fillRegions 77 = .ok (.istore 9, 2) := by decide +kernel
theorem dc_NL_fillRegions_79 : decode bc_NL_fillRegions 79 = .ok (.aload 6, 2) := by decide +kernel
theorem dc_NL_fillRegions_81 : decode bc_NL_fillRegions 81 = .ok (.invokevirtual 88, 3) := by decide +kernel
theorem dc_NL_fillRegions_84 : decode bc_NL_fillRegions 84 = .ok (.ifCond .eq 29, 3) := by decide +kernel
theorem dc_NL_fillRegions_87 : decode bc_NL_fillRegions 87 = .ok (.aload_n 0, 1) := by decide +kernel
theorem dc_NL_fillRegions_88 : decode bc_NL_fillRegions 88 = .ok (.iload_n 1, 1) := by decide +kernel
theorem dc_NL_fillRegions_89 : decode bc_NL_fillRegions 89 = .ok (.iconst 1, 1) := by decide +kernel
theorem dc_NL_fillRegions_90 : decode bc_NL_fillRegions 90 = .ok (.isub, 1) := by decide +kernel
theorem dc_NL_fillRegions_91 : decode bc_NL_fillRegions 91 = .ok (.iload 9, 2) := by decide +kernel
theorem dc_NL_fillRegions_93 : decode bc_NL_fillRegions 93 = .ok (.aload 6, 2) := by decide +kernel
theorem dc_NL_fillRegions_95 : decode bc_NL_fillRegions 95 = .ok (.getfield 92, 3) := by decide +kernel
theorem dc_NL_fillRegions_98 : decode bc_NL_fillRegions 98 = .ok (.iload 8, 2) := by decide +kernel
theorem dc_NL_fillRegions_100 : decode bc_NL_fillRegions 100 = .ok (.iload 7, 2) := by decide +kernel
theorem dc_NL_fillRegions_102 : decode bc_NL_fillRegions 102 = .ok (.isub, 1) := by decide +kernel
theorem dc_NL_fillRegions_103 : decode bc_NL_fillRegions 103 = .ok (.imul, 1) := by decide +kernel
theorem dc_NL_fillRegions_104 : decode bc_NL_fillRegions 104 = .ok (.iadd, 1) := by decide +kernel
theorem dc_NL_fillRegions_105 : decode bc_NL_fillRegions 105 = .ok (.lload_n 3, 1) := by decide +kernel
theorem dc_NL_fillRegions_106 : decode bc_NL_fillRegions 106 = .ok (.iload 5, 2) := by decide +kernel
theorem dc_NL_fillRegions_108 : decode bc_NL_fillRegions 108 = .ok (.iconst 1, 1) := by decide +kernel
theorem dc_NL_fillRegions_109 : decode bc_NL_fillRegions 109 = .ok (.iadd, 1) := by decide +kernel
theorem dc_NL_fillRegions_110 : decode bc_NL_fillRegions 110 = .ok (.invokevirtual 76, 3) := by decide +kernel
theorem dc_NL_fillRegions_113 : decode bc_NL_fillRegions 113 = .ok (.iload 8, 2) := by decide +kernel
theorem dc_NL_fillRegions_115 : decode bc_NL_fillRegions 115 = .ok (.iconst 1, 1) := by decide +kernel
theorem dc_NL_fillRegions_116 : decode bc_NL_fillRegions 116 = .ok (.isub, 1) := by decide +kernel
theorem dc_NL_fillRegions_117 : decode bc_NL_fillRegions 117 = .ok (.istore 10, 2) := by decide +kernel
theorem dc_NL_fillRegions_119 : decode bc_NL_fillRegions 119 = .ok (.iload 10, 2) := by decide +kernel
theorem dc_NL_fillRegions_121 : decode bc_NL_fillRegions 121 = .ok (.iload 7, 2) := by decide +kernel
theorem dc_NL_fillRegions_123 : decode bc_NL_fillRegions 123 = .ok (.isub, 1) := by decide +kernel
theorem dc_NL_fillRegions_124 : decode bc_NL_fillRegions 124 = .ok (.iconst 4, 1) := by decide +kernel
theorem dc_NL_fillRegions_125 : decode bc_NL_fillRegions 125 = .ok (.if_icmp .lt 136, 3) := by decide +kernel
theorem dc_NL_fillRegions_128 : decode bc_NL_fillRegions 128 = .ok (.iload 9, 2) := by decide +kernel
theorem dc_NL_fillRegions_130 : decode bc_NL_fillRegions 130 = .ok (.aload 6, 2) := by decide +kernel
theorem dc_NL_fillRegions_132 : decode bc_NL_fillRegions 132 = .ok (.getfield 92, 3) := by decide +kernel
theorem dc_NL_fillRegions_135 : decode bc_NL_fillRegions 135 = .ok (.iload 8, 2) := by decide +kernel
theorem dc_NL_fillRegions_137 : decode bc_NL_fillRegions 137 = .ok (.iconst 1, 1) := by decide +kernel
theorem dc_NL_fillRegions_138 : decode bc_NL_fillRegions 138 = .ok (.isub, 1) := by decide +kernel
theorem dc_NL_fillRegions_139 : decode bc_NL_fillRegions 139 = .ok (.iload 10, 2) := by decide +kernel
theorem dc_NL_fillRegions_141 : decode bc_NL_fillRegions 141 = .ok (.isub, 1) := by decide +kernel
theorem dc_NL_fillRegions_142 : decode bc_NL_fillRegions 142 = .ok (.imul, 1) := by decide +kernel
theorem dc_NL_fillRegions_143 : decode bc_NL_fillRegions 143 = .ok (.iadd, 1) := by decide +kernel
theorem dc_NL_fillRegions_144 : decode bc_NL_fillRegions 144 = .ok (.istore 11, 2) := by decide +kernel
theorem dc_NL_fillRegions_146 : decode bc_NL_fillRegions 146 = .ok (.iload 7, 2) := by decide +kernel
theorem dc_NL_fillRegions_148 : decode bc_NL_fillRegions 148 = .ok (.istore 12, 2) := by decide +kernel
theorem dc_NL_fillRegions_150 : decode bc_NL_fillRegions 150 = .ok (.iload 12, 2) := by decide +kernel
theorem dc_NL_fillRegions_152 : decode bc_NL_fillRegions 152 = .ok (.iload 10, 2) := by decide +kernel
theorem dc_NL_fillRegions_154 : decode bc_NL_fillRegions 154 = .ok (.iconst 4, 1) := by decide +kernel
theorem dc_NL_fillRegions_155 : decode bc_NL_fillRegions 155 = .ok (.isub, 1) := by decide +kernel
theorem dc_NL_fillRegions_156 : decode bc_NL_fillRegions 156 = .ok (.if_icmp .gt 99, 3) := by decide +kernel
theorem dc_NL_fillRegions_159 : decode bc_NL_fillRegions 159 = .ok (.aload_n 0, 1) := by decide +kernel
theorem dc_NL_fillRegions_160 : decode bc_NL_fillRegions 160 = .ok (.getfield 39, 3) := by decide +kernel
theorem dc_NL_fillRegions_163 : decode bc_NL_fillRegions 163 = .ok (.iload 12, 2) := by decide +kernel
theorem dc_NL_fillRegions_165 : decode bc_NL_fillRegions 165 = .ok (.iload 10, 2) := by decide +kernel
theorem dc_NL_fillRegions_167 : decode bc_NL_fillRegions 167 = .ok (.invokevirtual 95, 3) := by decide +kernel
theorem dc_NL_fillRegions_170 : decode bc_NL_fillRegions 170 = .ok (.ifCond .eq 79, 3) := by decide +kernel
theorem dc_NL_fillRegions_173 : decode bc_NL_fillRegions 173 = .ok (.aload_n 0, 1) := by decide +kernel
theorem dc_NL_fillRegions_174 : decode bc_NL_fillRegions 174 = .ok (.iload_n 1, 1) := by decide +kernel
theorem dc_NL_fillRegions_175 : decode bc_NL_fillRegions 175 = .ok (.iconst 1, 1) := by decide +kernel
theorem dc_NL_fillRegions_176 : decode bc_NL_fillRegions 176 = .ok (.isub, 1) := by decide +kernel
theorem dc_NL_fillRegions_177 : decode bc_NL_fillRegions 177 = .ok (.aload 6, 2) := by decide +kernel
theorem dc_NL_fillRegions_179 : decode bc_NL_fillRegions 179 = .ok (.invokevirtual 99, 3) := by decide +kernel
theorem dc_NL_fillRegions_182 : decode bc_NL_fillRegions 182 = .ok (.iload 7, 2) := by decide +kernel
theorem dc_NL_fillRegions_184 : decode bc_NL_fillRegions 184 = .ok (.iload 12, 2) := by decide +kernel
theorem dc_NL_fillRegions_186 : decode bc_NL_fillRegions 186 = .ok (.invokevirtual 68, 3) := by decide +kernel
theorem dc_NL_fillRegions_189 : decode bc_NL_fillRegions 189 = .ok (.aload 6, 2) := by decide +kernel
theorem dc_NL_fillRegions_191 : decode bc_NL_fillRegions 191 = .ok (.invokevirtual 99, 3) := by decide +kernel
theorem dc_NL_fillRegions_194 : decode bc_NL_fillRegions 194 = .ok (.getfield 84, 3) := by decide +kernel
theorem dc_NL_fillRegions_197 : decode bc_NL_fillRegions 197 = .ok (.iload 7, 2) := by decide +kernel
theorem dc_NL_fillRegions_199 : decode bc_NL_fillRegions 199 = .ok (.aaload, 1) := by decide +kernel
theorem dc_NL_fillRegions_200 : decode bc_NL_fillRegions 200 = .ok (.iload 12, 2) := by decide +kernel
theorem dc_NL_fillRegions_202 : decode bc_NL_fillRegions 202 = .ok (.iaload, 1) := by decide +kernel
theorem dc_NL_fillRegions_203 : decode bc_NL_fillRegions 203 = .ok (.istore 13, 2) := by decide +kernel
theorem dc_NL_fillRegions_205 : decode bc_NL_fillRegions 205 = .ok (.iload 11, 2) := by decide +kernel
theorem dc_NL_fillRegions_207 : decode bc_NL_fillRegions 207 = .ok (.iload 13, 2) := by decide +kernel
theorem dc_NL_fillRegions_209 : decode bc_NL_fillRegions 209 = .ok (.iadd, 1) := by decide +kernel
theorem dc_NL_fillRegions_210 : decode bc_NL_fillRegions 210 = .ok (.aload_n 0, 1) := by decide +kernel
theorem dc_NL_fillRegions_211 : decode bc_NL_fillRegions 211 = .ok (.getfield 47, 3) := by decide +kernel
theorem dc_NL_fillRegions_214 : decode bc_NL_fillRegions 214 = .ok (.aload 6, 2) := by decide +kernel
theorem dc_NL_fillRegions_216 : decode bc_NL_fillRegions 216 = .ok (.iload 12, 2) := by decide +kernel
theorem dc_NL_fillRegions_218 : decode bc_NL_fillRegions 218 = .ok (.iload 10, 2) := by decide +kernel
theorem dc_NL_fillRegions_220 : decode bc_NL_fillRegions 220 = .ok (.invokevirtual 103, 3) := by decide +kernel
theorem dc_NL_fillRegions_223 : decode bc_NL_fillRegions 223 = .ok (.iadd, 1) := by decide +kernel
theorem dc_NL_fillRegions_224 : decode bc_NL_fillRegions 224 = .ok (.istore 14, 2) := by decide +kernel
theorem dc_NL_fillRegions_226 : decode bc_NL_fillRegions 226 = .ok (.aload_n 0, 1) := by decide +kernel
theorem dc_NL_fillRegions_227 : decode bc_NL_fillRegions 227 = .ok (.iload 12, 2) := by decide +kernel
theorem dc_NL_fillRegions_229 : decode bc_NL_fillRegions 229 = .ok (.iload 10, 2) := by decide +kernel
theorem dc_NL_fillRegions_231 : decode bc_NL_fillRegions 231 = .ok (.iload_n 1, 1) := by decide +kernel
theorem dc_NL_fillRegions_232 : decode bc_NL_fillRegions 232 = .ok (.iload 14, 2) := by decide +kernel
theorem dc_NL_fillRegions_234 : decode bc_NL_fillRegions 234 = .ok (.lload_n 3, 1) := by decide +kernel
theorem dc_NL_fillRegions_235 : decode bc_NL_fillRegions 235 = .ok (.iload 12, 2) := by decide +kernel
theorem dc_NL_fillRegions_237 : decode bc_NL_fillRegions 237 = .ok (.iload 10, 2) := by decide +kernel
theorem dc_NL_fillRegions_239 : decode bc_NL_fillRegions 239 = .ok (.invokestatic 107, 3) := by decide +kernel
theorem dc_NL_fillRegions_242 : decode bc_NL_fillRegions 242 = .ok (.iload 5, 2) := by decide +kernel
theorem dc_NL_fillRegions_244 : decode bc_NL_fillRegions 244 = .ok (.iconst 1, 1) := by decide +kernel
theorem dc_NL_fillRegions_245 : decode bc_NL_fillRegions 245 = .ok (.iadd, 1) := by decide +kernel
theorem dc_NL_fillRegions_246 : decode bc_NL_fillRegions 246 = .ok (.invokevirtual 111, 3) := by decide +kernel
theorem dc_NL_fillRegions_249 : decode bc_NL_fillRegions 249 = .ok (.iinc 12 1, 3) := by decide +kernel
theorem dc_NL_fillRegions_252 : decode bc_NL_fillRegions 252 = .ok (.goto (-102), 3) := by decide +kernel
theorem dc_NL_fillRegions_255 : decode bc_NL_fillRegions 255 = .ok (.iinc 10 (-1), 3) := by decide +kernel
theorem dc_NL_fillRegions_258 : decode bc_NL_fillRegions 258 = .ok (.goto (-139), 3) := by decide +kernel
theorem dc_NL_fillRegions_261 : decode bc_NL_fillRegions 261 = .ok (.aload_n 0, 1) := by decide +kernel
theorem dc_NL_fillRegions_262 : decode bc_NL_fillRegions 262 = .ok (.iload_n 1, 1) := by decide +kernel
theorem dc_NL_fillRegions_263 : decode bc_NL_fillRegions 263 = .ok (.iconst 1, 1) := by decide +kernel
theorem dc_NL_fillRegions_264 : decode bc_NL_fillRegions 264 = .ok (.isub, 1) := by decide +kernel
theorem dc_NL_fillRegions_265 : decode bc_NL_fillRegions 265 = .ok (.aload 6, 2) := by decide +kernel
theorem dc_NL_fillRegions_267 : decode bc_NL_fillRegions 267 = .ok (.iload 7, 2) := by decide +kernel
theorem dc_NL_fillRegions_269 : decode bc_NL_fillRegions 269 = .ok (.iload 8, 2) := by decide +kernel
theorem dc_NL_fillRegions_271 : decode bc_NL_fillRegions 271 = .ok (.invokevirtual 68, 3) := by decide +kernel
theorem dc_NL_fillRegions_274 : decode bc_NL_fillRegions 274 = .ok (.return_, 1) := by decide +kernel
theorem wl_NL_115 : Cond.fieldLink "FoldedStrand$NearList" 115 "FoldedStrand$Folds" "pairEnergies" "[[I" ∈ jl_T := jl_T_of 82 (by decide +kernel) (by decide +kernel)
theorem wl_NL_43 : Cond.fieldLink "FoldedStrand$NearList" 43 "FoldedStrand$NearList" "loops" "LFoldedStrand$Loops;" ∈ jl_T := jl_T_of 124 (by decide +kernel) (by decide +kernel)
theorem vs_NL_118 : jl_v "FoldedStrand$NearList" 118 yn_LO_hairpin bc_LO_hairpin 5 (some .int) 2 := ⟨jl_T_of 244 (by decide +kernel) (by decide +kernel), jl_T_of 3 (by decide +kernel) (by decide +kernel), jl_T_of 397 (by decide +kernel) (by decide +kernel), by decide +kernel, by decide +kernel, by decide +kernel⟩
theorem vs_NL_124 : jl_v "FoldedStrand$NearList" 124 yn_LO_withOne bc_LO_withOne 7 (some .int) 4 := ⟨jl_T_of 271 (by decide +kernel) (by decide +kernel), jl_T_of 3 (by decide +kernel) (by decide +kernel), jl_T_of 398 (by decide +kernel) (by decide +kernel), by decide +kernel, by decide +kernel, by decide +kernel⟩
theorem wl_NL_128 : Cond.fieldLink "FoldedStrand$NearList" 128 "FoldedStrand$Folds" "twoBranches" "LFoldedStrand$Region;" ∈ jl_T := jl_T_of 80 (by decide +kernel) (by decide +kernel)
theorem vs_NL_131 : jl_v "FoldedStrand$NearList" 131 yn_FO_leastWithMany bc_FO_leastWithMany 3 (some .int) 2 := ⟨jl_T_of 260 (by decide +kernel) (by decide +kernel), jl_T_of 4 (by decide +kernel) (by decide +kernel), jl_T_of 399 (by decide +kernel) (by decide +kernel), by decide +kernel, by decide +kernel, by decide +kernel⟩
theorem dc_NL_fillPair_0 : decode bc_NL_fillPair 0 = .ok (.aload_n 0, 1) := by decide +kernel
theorem dc_NL_fillPair_1 : decode bc_NL_fillPair 1 = .ok (.getfield 19, 3) := by decide +kernel
theorem dc_NL_fillPair_4 : decode bc_NL_fillPair 4 = .ok (.ifCond .ne 19, 3) := by decide +kernel
theorem dc_NL_fillPair_7 : decode bc_NL_fillPair 7 = .ok (.iload 4, 2) := by decide +kernel
theorem dc_NL_fillPair_9 : decode bc_NL_fillPair 9 = .ok (.aload_n 0, 1) := by decide +kernel
theorem dc_NL_fillPair_10 : decode bc_NL_fillPair 10 = .ok (.getfield 23, 3) := by decide +kernel
theorem dc_NL_fillPair_13 : decode bc_NL_fillPair 13 = .ok (.if_icmp .gt 10, 3) := by decide +kernel
theorem dc_NL_fillPair_16 : decode bc_NL_fillPair 16 = .ok (.iload 7, 2) := by decide +kernel
theorem dc_NL_fillPair_18 : decode bc_NL_fillPair 18 = .ok (.bipush 40, 2) := by decide +kernel
theorem dc_NL_fillPair_20 : decode bc_NL_fillPair 20 = .ok (.if_icmp .le 4, 3) := by decide +kernel
theorem dc_NL_fillPair_23 : decode bc_NL_fillPair 23 = .ok (.return_, 1) := by decide +kernel
theorem dc_NL_fillPair_24 : decode bc_NL_fillPair 24 = .ok (.iload 4, 2) := by decide +kernel
theorem dc_NL_fillPair_26 : decode bc_NL_fillPair 26 = .ok (.aload_n 0, 1) := by decide +kernel
theorem dc_NL_fillPair_27 : decode bc_NL_fillPair 27 = .ok (.getfield 47, 3) := by decide +kernel
theorem dc_NL_fillPair_30 : decode bc_NL_fillPair 30 = .ok (.getfield 115, 3) := by decide +kernel
theorem dc_NL_fillPair_33 : decode bc_NL_fillPair 33 = .ok (.iload_n 1, 1) := by decide +kernel
theorem dc_NL_fillPair_34 : decode bc_NL_fillPair 34 = .ok (.aaload, 1) := by decide +kernel
theorem dc_NL_fillPair_35 : decode bc_NL_fillPair 35 = .ok (.iload_n 2, 1) := by decide +kernel
theorem dc_NL_fillPair_36 : decode bc_NL_fillPair 36 = .ok (.iaload, 1) := by decide +kernel
theorem dc_NL_fillPair_37 : decode bc_NL_fillPair 37 = .ok (.isub, 1) := by decide +kernel
theorem dc_NL_fillPair_38 : decode bc_NL_fillPair 38 = .ok (.istore 8, 2) := by decide +kernel
theorem dc_NL_fillPair_40 : decode bc_NL_fillPair 40 = .ok (.aload_n 0, 1) := by decide +kernel
theorem dc_NL_fillPair_41 : decode bc_NL_fillPair 41 = .ok (.iload_n 3, 1) := by decide +kernel
theorem dc_NL_fillPair_42 : decode bc_NL_fillPair 42 = .ok (.iload 8, 2) := by decide +kernel
theorem dc_NL_fillPair_44 : decode bc_NL_fillPair 44 = .ok (.aload_n 0, 1) := by decide +kernel
theorem dc_NL_fillPair_45 : decode bc_NL_fillPair 45 = .ok (.getfield 43, 3) := by decide +kernel
theorem dc_NL_fillPair_48 : decode bc_NL_fillPair 48 = .ok (.iload_n 1, 1) := by decide +kernel
theorem dc_NL_fillPair_49 : decode bc_NL_fillPair 49 = .ok (.iload_n 2, 1) := by decide +kernel
theorem dc_NL_fillPair_50 : decode bc_NL_fillPair 50 = .ok (.invokevirtual 118, 3) := by decide +kernel
theorem dc_NL_fillPair_53 : decode bc_NL_fillPair 53 = .ok (.iadd, 1) := by decide +kernel
theorem dc_NL_fillPair_54 : decode bc_NL_fillPair 54 = .ok (.lload 5, 2) := by decide +kernel
theorem dc_NL_fillPair_56 : decode bc_NL_fillPair 56 = .ok (.iload 7, 2) := by decide +kernel
theorem dc_NL_fillPair_58 : decode bc_NL_fillPair 58 = .ok (.iconst 1, 1) := by decide +kernel
theorem dc_NL_fillPair_59 : decode bc_NL_fillPair 59 = .ok (.iadd, 1) := by decide +kernel
theorem dc_NL_fillPair_60 : decode bc_NL_fillPair 60 = .ok (.invokevirtual 76, 3) := by decide +kernel
theorem dc_NL_fillPair_63 : decode bc_NL_fillPair 63 = .ok (.iload_n 2, 1) := by decide +kernel
theorem dc_NL_fillPair_64 : decode bc_NL_fillPair 64 = .ok (.iconst 1, 1) := by decide +kernel
theorem dc_NL_fillPair_65 : decode bc_NL_fillPair 65 = .ok (.isub, 1) := by decide +kernel
theorem dc_NL_fillPair_66 : decode bc_NL_fillPair 66 = .ok (.istore 9, 2) := by decide +kernel
theorem dc_NL_fillPair_68 : decode bc_NL_fillPair 68 = .ok (.iload 9, 2) := by decide +kernel
theorem dc_NL_fillPair_70 : decode bc_NL_fillPair 70 = .ok (.iload_n 1, 1) := by decide +kernel
theorem dc_NL_fillPair_71 : decode bc_NL_fillPair 71 = .ok (.isub, 1) := by decide +kernel
theorem dc_NL_fillPair_72 : decode bc_NL_fillPair 72 = .ok (.iconst 4, 1) := by decide +kernel
theorem dc_NL_fillPair_73 : decode bc_NL_fillPair 73 = .ok (.if_icmp .le 99, 3) := by decide +kernel
theorem dc_NL_fillPair_76 : decode bc_NL_fillPair 76 = .ok (.iload_n 1, 1) := by decide +kernel
theorem dc_NL_fillPair_77 : decode bc_NL_fillPair 77 = .ok (.iconst 1, 1) := by decide +kernel
theorem dc_NL_fillPair_78 : decode bc_NL_fillPair 78 = .ok (.iadd, 1) := by decide +kernel
theorem dc_NL_fillPair_79 : decode bc_NL_fillPair 79 = .ok (.istore 10, 2) := by decide +kernel
theorem dc_NL_fillPair_81 : decode bc_NL_fillPair 81 = .ok (.iload 10, 2) := by decide +kernel
theorem dc_NL_fillPair_83 : decode bc_NL_fillPair 83 = .ok (.iload 9, 2) := by decide +kernel
theorem dc_NL_fillPair_85 : decode bc_NL_fillPair 85 = .ok (.iconst 4, 1) := by decide +kernel
theorem dc_NL_fillPair_86 : decode bc_NL_fillPair 86 = .ok (.isub, 1) := by decide +kernel
theorem dc_NL_fillPair_87 : decode bc_NL_fillPair 87 = .ok (.if_icmp .gt 79, 3) := by decide +kernel
theorem dc_NL_fillPair_90 : decode bc_NL_fillPair 90 = .ok (.aload_n 0, 1) := by decide +kernel
theorem dc_NL_fillPair_91 : decode bc_NL_fillPair 91 = .ok (.getfield 39, 3) := by decide +kernel
theorem dc_NL_fillPair_94 : decode bc_NL_fillPair 94 = .ok (.iload 10, 2) := by decide +kernel
theorem dc_NL_fillPair_96 : decode bc_NL_fillPair 96 = .ok (.iload 9, 2) := by decide +kernel
theorem dc_NL_fillPair_98 : decode bc_NL_fillPair 98 = .ok (.invokevirtual 95, 3) := by decide +kernel
theorem dc_NL_fillPair_101 : decode bc_NL_fillPair 101 = .ok (.ifCond .eq 59, 3) := by decide +kernel
theorem dc_NL_fillPair_104 : decode bc_NL_fillPair 104 = .ok (.iload 8, 2) := by decide +kernel
theorem dc_NL_fillPair_106 : decode bc_NL_fillPair 106 = .ok (.aload_n 0, 1) := by decide +kernel
theorem dc_NL_fillPair_107 : decode bc_NL_fillPair 107 = .ok (.getfield 43, 3) := by decide +kernel
theorem dc_NL_fillPair_110 : decode bc_NL_fillPair 110 = .ok (.iload_n 1, 1) := by decide +kernel
theorem dc_NL_fillPair_111 : decode bc_NL_fillPair 111 = .ok (.iload_n 2, 1) := by decide +kernel
theorem dc_NL_fillPair_112 : decode bc_NL_fillPair 112 = .ok (.iload 10, 2) := by decide +kernel
theorem dc_NL_fillPair_114 : decode bc_NL_fillPair 114 = .ok (.iload 9, 2) := by decide +kernel
theorem dc_NL_fillPair_116 : decode bc_NL_fillPair 116 = .ok (.invokevirtual 124, 3) := by decide +kernel
theorem dc_NL_fillPair_119 : decode bc_NL_fillPair 119 = .ok (.iadd, 1) := by decide +kernel
theorem dc_NL_fillPair_120 : decode bc_NL_fillPair 120 = .ok (.aload_n 0, 1) := by decide +kernel
theorem dc_NL_fillPair_121 : decode bc_NL_fillPair 121 = .ok (.getfield 47, 3) := by decide +kernel
theorem dc_NL_fillPair_124 : decode bc_NL_fillPair 124 = .ok (.getfield 115, 3) := by decide +kernel
theorem dc_NL_fillPair_127 : decode bc_NL_fillPair 127 = .ok (.iload 10, 2) := by decide +kernel
theorem dc_NL_fillPair_129 : decode bc_NL_fillPair 129 = .ok (.aaload, 1) := by decide +kernel
theorem dc_NL_fillPair_130 : decode bc_NL_fillPair 130 = .ok (.iload 9, 2) := by decide +kernel
theorem dc_NL_fillPair_132 : decode bc_NL_fillPair 132 = .ok (.iaload, 1) := by decide +kernel
theorem dc_NL_fillPair_133 : decode bc_NL_fillPair 133 = .ok (.iadd, 1) := by decide +kernel
theorem dc_NL_fillPair_134 : decode bc_NL_fillPair 134 = .ok (.istore 11, 2) := by decide +kernel
theorem dc_NL_fillPair_136 : decode bc_NL_fillPair 136 = .ok (.aload_n 0, 1) := by decide +kernel
theorem dc_NL_fillPair_137 : decode bc_NL_fillPair 137 = .ok (.iload 10, 2) := by decide +kernel
theorem dc_NL_fillPair_139 : decode bc_NL_fillPair 139 = .ok (.iload 9, 2) := by decide +kernel
theorem dc_NL_fillPair_141 : decode bc_NL_fillPair 141 = .ok (.iload_n 3, 1) := by decide +kernel
theorem dc_NL_fillPair_142 : decode bc_NL_fillPair 142 = .ok (.iload 11, 2) := by decide +kernel
theorem dc_NL_fillPair_144 : decode bc_NL_fillPair 144 = .ok (.lload 5, 2) := by decide +kernel
theorem dc_NL_fillPair_146 : decode bc_NL_fillPair 146 = .ok (.iload 10, 2) := by decide +kernel
theorem dc_NL_fillPair_148 : decode bc_NL_fillPair 148 = .ok (.iload 9, 2) := by decide +kernel
theorem dc_NL_fillPair_150 : decode bc_NL_fillPair 150 = .ok (.invokestatic 107, 3) := by decide +kernel
theorem dc_NL_fillPair_153 : decode bc_NL_fillPair 153 = .ok (.iload 7, 2) := by decide +kernel
theorem dc_NL_fillPair_155 : decode bc_NL_fillPair 155 = .ok (.iconst 1, 1) := by decide +kernel
theorem dc_NL_fillPair_156 : decode bc_NL_fillPair 156 = .ok (.iadd, 1) := by decide +kernel
theorem dc_NL_fillPair_157 : decode bc_NL_fillPair 157 = .ok (.invokevirtual 111, 3) := by decide +kernel
theorem dc_NL_fillPair_160 : decode bc_NL_fillPair 160 = .ok (.iinc 10 1, 3) := by decide +kernel
theorem dc_NL_fillPair_163 : decode bc_NL_fillPair 163 = .ok (.goto (-82), 3) := by decide +kernel
theorem dc_NL_fillPair_166 : decode bc_NL_fillPair 166 = .ok (.iinc 9 (-1), 3) := by decide +kernel
theorem dc_NL_fillPair_169 : decode bc_NL_fillPair 169 = .ok (.goto (-101), 3) := by decide +kernel
theorem dc_NL_fillPair_172 : decode bc_NL_fillPair 172 = .ok (.iload_n 3, 1) := by decide +kernel
theorem dc_NL_fillPair_173 : decode bc_NL_fillPair 173 = .ok (.bipush 40, 2) := by decide +kernel
theorem dc_NL_fillPair_175 : decode bc_NL_fillPair 175 = .ok (.if_icmp .ge 44, 3) := by decide +kernel
theorem dc_NL_fillPair_178 : decode bc_NL_fillPair 178 = .ok (.aload_n 0, 1) := by decide +kernel
theorem dc_NL_fillPair_179 : decode bc_NL_fillPair 179 = .ok (.iload_n 3, 1) := by decide +kernel
theorem dc_NL_fillPair_180 : decode bc_NL_fillPair 180 = .ok (.aload_n 0, 1) := by decide +kernel
theorem dc_NL_fillPair_181 : decode bc_NL_fillPair 181 = .ok (.getfield 47, 3) := by decide +kernel
theorem dc_NL_fillPair_184 : decode bc_NL_fillPair 184 = .ok (.getfield 128, 3) := by decide +kernel
theorem dc_NL_fillPair_187 : decode bc_NL_fillPair 187 = .ok (.iload_n 1, 1) := by decide +kernel
theorem dc_NL_fillPair_188 : decode bc_NL_fillPair 188 = .ok (.iconst 1, 1) := by decide +kernel
theorem dc_NL_fillPair_189 : decode bc_NL_fillPair 189 = .ok (.iadd, 1) := by decide +kernel
theorem dc_NL_fillPair_190 : decode bc_NL_fillPair 190 = .ok (.iload_n 2, 1) := by decide +kernel
theorem dc_NL_fillPair_191 : decode bc_NL_fillPair 191 = .ok (.invokevirtual 68, 3) := by decide +kernel
theorem dc_NL_fillPair_194 : decode bc_NL_fillPair 194 = .ok (.aload_n 0, 1) := by decide +kernel
theorem dc_NL_fillPair_195 : decode bc_NL_fillPair 195 = .ok (.iload_n 3, 1) := by decide +kernel
theorem dc_NL_fillPair_196 : decode bc_NL_fillPair 196 = .ok (.iconst 1, 1) := by decide +kernel
theorem dc_NL_fillPair_197 : decode bc_NL_fillPair 197 = .ok (.iadd, 1) := by decide +kernel
theorem dc_NL_fillPair_198 : decode bc_NL_fillPair 198 = .ok (.iload 8, 2) := by decide +kernel
theorem dc_NL_fillPair_200 : decode bc_NL_fillPair 200 = .ok (.aload_n 0, 1) := by decide +kernel
theorem dc_NL_fillPair_201 : decode bc_NL_fillPair 201 = .ok (.getfield 47, 3) := by decide +kernel
theorem dc_NL_fillPair_204 : decode bc_NL_fillPair 204 = .ok (.iload_n 1, 1) := by decide +kernel
theorem dc_NL_fillPair_205 : decode bc_NL_fillPair 205 = .ok (.iload_n 2, 1) := by decide +kernel
theorem dc_NL_fillPair_206 : decode bc_NL_fillPair 206 = .ok (.invokevirtual 131, 3) := by decide +kernel
theorem dc_NL_fillPair_209 : decode bc_NL_fillPair 209 = .ok (.iadd, 1) := by decide +kernel
theorem dc_NL_fillPair_210 : decode bc_NL_fillPair 210 = .ok (.lload 5, 2) := by decide +kernel
theorem dc_NL_fillPair_212 : decode bc_NL_fillPair 212 = .ok (.iload 7, 2) := by decide +kernel
theorem dc_NL_fillPair_214 : decode bc_NL_fillPair 214 = .ok (.iconst 1, 1) := by decide +kernel
theorem dc_NL_fillPair_215 : decode bc_NL_fillPair 215 = .ok (.iadd, 1) := by decide +kernel
theorem dc_NL_fillPair_216 : decode bc_NL_fillPair 216 = .ok (.invokevirtual 76, 3) := by decide +kernel
theorem dc_NL_fillPair_219 : decode bc_NL_fillPair 219 = .ok (.return_, 1) := by decide +kernel
/-- the contracts, by the depth that is left -/
def nl_CR (K : Nat → ClassId) (sa ad : Nat → Nat) (C : Nat → Int32) (G : Nat → Nat) (b : Nat → Nat) (n : Nat) (pe : Nat → Nat → Int) (T : Nat → Nat → Nat → Int) (lim : Int) (d : Nat) : Prop := ∀ (l : Launch) (I : Nat → Int32) (V : Nat → Nat → Int32) (L : Nat → Int64) (R : Nat → Nat) (regs : List (Nat × Nat × Nat)) (x t : Int) (ac : List Int × Bool) (dep : Nat), nl_cx b n pe T lim I V → nl_ac ac I L → nl_M regs V R → nl_W n regs → nl_mu regs < d → dep + nl_mu regs ≤ 37 → d ≤ 38 → -1000 * (40 - (d : Int)) ≤ x → x ≤ 1000 * (40 - (d : Int)) → -100000000000 * (41 - (d : Int)) ≤ t → t ≤ 100000000000 * (41 - (d : Int)) →
  jl_CP l K sa yn_NL_fillRegions bc_NL_fillRegions 15 none (d + 12) (60 * d + 300) 168 ad [.ref (ad 148), .int (nI regs.length), .int (iI (x + nl_sum T regs)), .long (iL t), .int (nI dep)] (gw K ad I V L C G R) (fun v E2 => v = none ∧ ∃ I2 V2 L2 R2, nl_st I V (nl_run lim ac (nl_F b d none regs x t)) regs I2 V2 L2 R2 ∧ E2 = gw K ad I2 V2 L2 C G R2)
def nl_CQ (K : Nat → ClassId) (sa ad : Nat → Nat) (C : Nat → Int32) (G : Nat → Nat) (b : Nat → Nat) (n : Nat) (pe : Nat → Nat → Int) (T : Nat → Nat → Nat → Int) (lim : Int) (d : Nat) : Prop := ∀ (l : Launch) (I : Nat → Int32) (V : Nat → Nat → Int32) (L : Nat → Int64) (R : Nat → Nat) (regs : List (Nat × Nat × Nat)) (x t : Int) (ac : List Int × Bool) (dep i j : Nat), nl_cx b n pe T lim I V → nl_ac ac I L → nl_M regs V R → nl_W n regs → en_cp b i j = true → j < n → nl_mu regs + 2 * (j - i) < d → dep + nl_mu regs + 2 * (j - i) ≤ 37 → d ≤ 38 → -1000 * (40 - (d : Int)) ≤ x → x ≤ 1000 * (40 - (d : Int)) → -100000000000 * (41 - (d : Int)) ≤ t → t ≤ 100000000000 * (41 - (d : Int)) →
  jl_CP l K sa yn_NL_fillPair bc_NL_fillPair 12 none (d + 12) (60 * d + 300) 168 ad [.ref (ad 148), .int (nI i), .int (nI j), .int (nI regs.length), .int (iI (x + pe i j + nl_sum T regs)), .long (iL t), .int (nI dep)] (gw K ad I V L C G R) (fun v E2 => v = none ∧ ∃ I2 V2 L2 R2, nl_st I V (nl_run lim ac (nl_F b d (some (i, j)) regs x t)) regs I2 V2 L2 R2 ∧ E2 = gw K ad I2 V2 L2 C G R2)
theorem nl_4_in : ∀ p, 0 ≤ nl_4 p ∧ nl_4 p ≤ 17179869184 := by
  intro p
  by_cases h : p < 18
  · have : ∀ p, p < 18 → 0 ≤ nl_4 p ∧ nl_4 p ≤ 17179869184 := by decide +kernel
    exact this p h
  · unfold nl_4
    rw [show 17 - p = 0 by omega]
    decide

