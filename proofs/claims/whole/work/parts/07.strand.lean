/-! FoldedStrand$Strand: contracts. Written by wip/whole/walk.py out of wip/whole/src. -/
def iI (z : Int) : Int32 := Int32.ofInt z
theorem iI_add (a b : Int) : iI a + iI b = iI (a + b) := (Int32.ofInt_add a b).symm
theorem iI_nat (n : Nat) : iI (n : Int) = nI n := rfl
theorem iI_toInt {z : Int} (h1 : -2147483648 ≤ z) (h2 : z < 2147483648) : (iI z).toInt = z := Int32.toInt_ofInt_of_le (by omega) (by omega)
theorem iI_lt {a b : Int} (ha1 : -2147483648 ≤ a) (ha2 : a < 2147483648) (hb1 : -2147483648 ≤ b) (hb2 : b < 2147483648) : iI a < iI b ↔ a < b := by
  rw [Int32.lt_iff_toInt_lt, iI_toInt ha1 ha2, iI_toInt hb1 hb2]
theorem iI_le {a b : Int} (ha1 : -2147483648 ≤ a) (ha2 : a < 2147483648) (hb1 : -2147483648 ≤ b) (hb2 : b < 2147483648) : iI a ≤ iI b ↔ a ≤ b := by
  rw [Int32.le_iff_toInt_le, iI_toInt ha1 ha2, iI_toInt hb1 hb2]
/-- the strand: n bases, their numbers -/
def st_ok (K : Nat → ClassId) (ad : Nat → Nat) (E : Nat → va_E) (n : Nat) (b : Nat → Nat) : Prop := E 1 = .inr (1, [.ref (ad 2), .int (nI n)]) ∧ E 2 = .inl (K 0, 18, .inl (fun i => nI (b i))) ∧ n ≤ 18 ∧ ∀ i, b i < 4
def st_bI (c : Bool) : Int32 := if c then 1 else 0
theorem st_kd (a c : Nat) (ha : a < 4) (hc : c < 4) : nm_s1.getD (a * 4 + c) 0 = iI (en_kd a c) := by
  have : ∀ a, a < 4 → ∀ c, c < 4 → nm_s1.getD (a * 4 + c) 0 = iI (en_kd a c) := by decide +kernel
  exact this a ha c hc
theorem en_kd_in (a c : Nat) : -1 ≤ en_kd a c ∧ en_kd a c ≤ 5 := by
  unfold en_kd
  have h : ∀ k, -1 ≤ en_kt.getD k (-1) ∧ en_kt.getD k (-1) ≤ 5 := by
    intro k
    by_cases hk : k < 16
    · have : ∀ k, k < 16 → -1 ≤ en_kt.getD k (-1) ∧ en_kt.getD k (-1) ≤ 5 := by decide +kernel
      exact this k hk
    · rw [List.getD_eq_getElem?_getD, List.getElem?_eq_none (by show 16 ≤ k; omega)]
      simp
  exact h _
abbrev bc_ST_size : ByteArray := prog_6_method_4_code
abbrev yn_ST_size : MethodName := ⟨"FoldedStrand$Strand", "size", "()I"⟩
theorem wl_ST_13 : Cond.fieldLink "FoldedStrand$Strand" 13 "FoldedStrand$Strand" "size" "I" ∈ jl_T := jl_T_of 26 (by decide +kernel) (by decide +kernel)
theorem dc_ST_size_0 : decode bc_ST_size 0 = .ok (.aload_n 0, 1) := by decide +kernel
theorem dc_ST_size_1 : decode bc_ST_size 1 = .ok (.getfield 13, 3) := by decide +kernel
theorem dc_ST_size_4 : decode bc_ST_size 4 = .ok (.ireturn, 1) := by decide +kernel
abbrev bc_ST_kind : ByteArray := prog_6_method_7_code
abbrev yn_ST_kind : MethodName := ⟨"FoldedStrand$Strand", "kind", "(II)I"⟩
theorem wl_ST_25 : Cond.fieldLink "FoldedStrand$Strand" 25 "FoldedStrand$Strand" "KINDS" "[I" ∈ jl_T := jl_T_of 235 (by decide +kernel) (by decide +kernel)
theorem wl_ST_9 : Cond.fieldLink "FoldedStrand$Strand" 9 "FoldedStrand$Strand" "bases" "[I" ∈ jl_T := jl_T_of 25 (by decide +kernel) (by decide +kernel)
theorem wl_ST_28 : Cond.fieldLink "FoldedStrand$Strand" 28 "FoldedStrand$Strand" "LETTERS" "[C" ∈ jl_T := jl_T_of 217 (by decide +kernel) (by decide +kernel)
theorem dc_ST_kind_0 : decode bc_ST_kind 0 = .ok (.getstatic 25, 3) := by decide +kernel
theorem dc_ST_kind_3 : decode bc_ST_kind 3 = .ok (.aload_n 0, 1) := by decide +kernel
theorem dc_ST_kind_4 : decode bc_ST_kind 4 = .ok (.getfield 9, 3) := by decide +kernel
theorem dc_ST_kind_7 : decode bc_ST_kind 7 = .ok (.iload_n 1, 1) := by decide +kernel
theorem dc_ST_kind_8 : decode bc_ST_kind 8 = .ok (.iaload, 1) := by decide +kernel
theorem dc_ST_kind_9 : decode bc_ST_kind 9 = .ok (.getstatic 28, 3) := by decide +kernel
theorem dc_ST_kind_12 : decode bc_ST_kind 12 = .ok (.arraylength, 1) := by decide +kernel
theorem dc_ST_kind_13 : decode bc_ST_kind 13 = .ok (.imul, 1) := by decide +kernel
theorem dc_ST_kind_14 : decode bc_ST_kind 14 = .ok (.aload_n 0, 1) := by decide +kernel
theorem dc_ST_kind_15 : decode bc_ST_kind 15 = .ok (.getfield 9, 3) := by decide +kernel
theorem dc_ST_kind_18 : decode bc_ST_kind 18 = .ok (.iload_n 2, 1) := by decide +kernel
theorem dc_ST_kind_19 : decode bc_ST_kind 19 = .ok (.iaload, 1) := by decide +kernel
theorem dc_ST_kind_20 : decode bc_ST_kind 20 = .ok (.iadd, 1) := by decide +kernel
theorem dc_ST_kind_21 : decode bc_ST_kind 21 = .ok (.iaload, 1) := by decide +kernel
theorem dc_ST_kind_22 : decode bc_ST_kind 22 = .ok (.ireturn, 1) := by decide +kernel
abbrev bc_ST_canPair : ByteArray := prog_6_method_6_code
abbrev yn_ST_canPair : MethodName := ⟨"FoldedStrand$Strand", "canPair", "(II)Z"⟩
theorem vs_ST_21 : jl_v "FoldedStrand$Strand" 21 yn_ST_kind bc_ST_kind 3 (some .int) 2 := ⟨jl_T_of 234 (by decide +kernel) (by decide +kernel), jl_T_of 2 (by decide +kernel) (by decide +kernel), jl_T_of 231 (by decide +kernel) (by decide +kernel), by decide +kernel, by decide +kernel, by decide +kernel⟩
theorem vi_ST_kind : Cond.instanceMethod yn_ST_kind ∈ jl_T := jl_T_of 232 (by decide +kernel) (by decide +kernel)
theorem vx_ST_kind : Cond.selects "FoldedStrand$Strand" yn_ST_kind yn_ST_kind ∈ jl_T := jl_T_of 233 (by decide +kernel) (by decide +kernel)
theorem dc_ST_canPair_0 : decode bc_ST_canPair 0 = .ok (.iload_n 2, 1) := by decide +kernel
theorem dc_ST_canPair_1 : decode bc_ST_canPair 1 = .ok (.iload_n 1, 1) := by decide +kernel
theorem dc_ST_canPair_2 : decode bc_ST_canPair 2 = .ok (.isub, 1) := by decide +kernel
theorem dc_ST_canPair_3 : decode bc_ST_canPair 3 = .ok (.iconst 4, 1) := by decide +kernel
theorem dc_ST_canPair_4 : decode bc_ST_canPair 4 = .ok (.if_icmp .lt 16, 3) := by decide +kernel
theorem dc_ST_canPair_7 : decode bc_ST_canPair 7 = .ok (.aload_n 0, 1) := by decide +kernel
theorem dc_ST_canPair_8 : decode bc_ST_canPair 8 = .ok (.iload_n 1, 1) := by decide +kernel
theorem dc_ST_canPair_9 : decode bc_ST_canPair 9 = .ok (.iload_n 2, 1) := by decide +kernel
theorem dc_ST_canPair_10 : decode bc_ST_canPair 10 = .ok (.invokevirtual 21, 3) := by decide +kernel
theorem dc_ST_canPair_13 : decode bc_ST_canPair 13 = .ok (.ifCond .lt 7, 3) := by decide +kernel
theorem dc_ST_canPair_16 : decode bc_ST_canPair 16 = .ok (.iconst 1, 1) := by decide +kernel
theorem dc_ST_canPair_17 : decode bc_ST_canPair 17 = .ok (.goto 4, 3) := by decide +kernel
theorem dc_ST_canPair_20 : decode bc_ST_canPair 20 = .ok (.iconst 0, 1) := by decide +kernel
theorem dc_ST_canPair_21 : decode bc_ST_canPair 21 = .ok (.ireturn, 1) := by decide +kernel
abbrev bc_ST_ifWeak : ByteArray := prog_6_method_8_code
abbrev yn_ST_ifWeak : MethodName := ⟨"FoldedStrand$Strand", "ifWeak", "(III)I"⟩
theorem dc_ST_ifWeak_0 : decode bc_ST_ifWeak 0 = .ok (.aload_n 0, 1) := by decide +kernel
theorem dc_ST_ifWeak_1 : decode bc_ST_ifWeak 1 = .ok (.iload_n 1, 1) := by decide +kernel
theorem dc_ST_ifWeak_2 : decode bc_ST_ifWeak 2 = .ok (.iload_n 2, 1) := by decide +kernel
theorem dc_ST_ifWeak_3 : decode bc_ST_ifWeak 3 = .ok (.invokevirtual 21, 3) := by decide +kernel
theorem dc_ST_ifWeak_6 : decode bc_ST_ifWeak 6 = .ok (.iconst 2, 1) := by decide +kernel
theorem dc_ST_ifWeak_7 : decode bc_ST_ifWeak 7 = .ok (.if_icmp .lt 7, 3) := by decide +kernel
theorem dc_ST_ifWeak_10 : decode bc_ST_ifWeak 10 = .ok (.iload_n 3, 1) := by decide +kernel
theorem dc_ST_ifWeak_11 : decode bc_ST_ifWeak 11 = .ok (.goto 4, 3) := by decide +kernel
theorem dc_ST_ifWeak_14 : decode bc_ST_ifWeak 14 = .ok (.iconst 0, 1) := by decide +kernel
theorem dc_ST_ifWeak_15 : decode bc_ST_ifWeak 15 = .ok (.ireturn, 1) := by decide +kernel
abbrev bc_ST_has : ByteArray := prog_6_method_5_code
abbrev yn_ST_has : MethodName := ⟨"FoldedStrand$Strand", "has", "(I)Z"⟩
theorem dc_ST_has_0 : decode bc_ST_has 0 = .ok (.iload_n 1, 1) := by decide +kernel
theorem dc_ST_has_1 : decode bc_ST_has 1 = .ok (.ifCond .lt 15, 3) := by decide +kernel
theorem dc_ST_has_4 : decode bc_ST_has 4 = .ok (.iload_n 1, 1) := by decide +kernel
theorem dc_ST_has_5 : decode bc_ST_has 5 = .ok (.aload_n 0, 1) := by decide +kernel
theorem dc_ST_has_6 : decode bc_ST_has 6 = .ok (.getfield 13, 3) := by decide +kernel
theorem dc_ST_has_9 : decode bc_ST_has 9 = .ok (.if_icmp .ge 7, 3) := by decide +kernel
theorem dc_ST_has_12 : decode bc_ST_has 12 = .ok (.iconst 1, 1) := by decide +kernel
theorem dc_ST_has_13 : decode bc_ST_has 13 = .ok (.goto 4, 3) := by decide +kernel
theorem dc_ST_has_16 : decode bc_ST_has 16 = .ok (.iconst 0, 1) := by decide +kernel
theorem dc_ST_has_17 : decode bc_ST_has 17 = .ok (.ireturn, 1) := by decide +kernel
section ST
variable (l : Launch) {K : Nat → ClassId} {sa : Nat → Nat} {N : Nat} {ad : Nat → Nat} {E : Nat → va_E} {n : Nat} {b : Nat → Nat}
theorem c_ST_size (hN : 3 ≤ N) (hS : st_ok K ad E n b) : jl_C l K sa yn_ST_size bc_ST_size 1 (some .int) 0 0 N ad [.ref (ad 1)] E (some (.int (nI n))) E := by
  refine jl_enter (by decide) (Nat.le_of_ble_eq_true rfl) (fun x h he hr => ?_)
  obtain ⟨hST, hbases, hn, hb⟩ := hS
  show jl_J x N ad 0 0 E 0 [(0, .ref (ad 1))] []
  refine jl_aload_n (i := 0) h rfl rfl dc_ST_size_0 1 rfl ?_
  refine jl_getf h nm_c_ST 1 wl_ST_13 (by omega) (by decide) (by exact hST) (by rfl) dc_ST_size_1 4 rfl ?_
  exact jl_zret h he rfl (rfl) (rfl) dc_ST_size_4
theorem c_ST_kind (hN : 3 ≤ N) (hS : st_ok K ad E n b) {i j : Nat} (hi : i < 18) (hj : j < 18) : jl_C l K sa yn_ST_kind bc_ST_kind 3 (some .int) 0 0 N ad [.ref (ad 1), .int (nI i), .int (nI j)] E (some (.int (iI (en_kd (b i) (b j))))) E := by
  refine jl_enter (by decide) (Nat.le_of_ble_eq_true rfl) (fun x h he hr => ?_)
  obtain ⟨hST, hbases, hn, hb⟩ := hS
  have h1 := hb i
  have h2 := hb j
  show jl_J x N ad 0 0 E 0 [(0, .ref (ad 1)), (1, .int (nI i)), (2, .int (nI j))] []
  refine jl_gets h (fun _ _ _ q => q.2.1) wl_ST_25 dc_ST_kind_0 3 rfl ?_
  refine jl_aload_n (i := 0) h rfl rfl dc_ST_kind_3 4 rfl ?_
  refine jl_getf h nm_c_ST 0 wl_ST_9 (by omega) (by decide) (by exact hST) (by rfl) dc_ST_kind_4 7 rfl ?_
  refine jl_iload_n (i := 1) h rfl rfl dc_ST_kind_7 8 rfl ?_
  refine jl_iald (v := nI (b i)) h (i) (by exact rfl) (by omega) (by exact hbases) (by exact hi) (by first | decide | assumption) (by exact rfl) dc_ST_kind_8 9 rfl ?_
  refine jl_gets h (fun _ _ _ q => q.1) wl_ST_28 dc_ST_kind_9 12 rfl ?_
  refine jl_tlen (v := nI 4) h (fun _ _ _ q => q.1) (by decide) dc_ST_kind_12 13 rfl ?_
  refine jl_imul h dc_ST_kind_13 14 rfl ?_
  refine jl_aload_n (i := 0) h rfl rfl dc_ST_kind_14 15 rfl ?_
  refine jl_getf h nm_c_ST 0 wl_ST_9 (by omega) (by decide) (by exact hST) (by rfl) dc_ST_kind_15 18 rfl ?_
  refine jl_iload_n (i := 2) h rfl rfl dc_ST_kind_18 19 rfl ?_
  refine jl_iald (v := nI (b j)) h (j) (by exact rfl) (by omega) (by exact hbases) (by exact hj) (by first | decide | assumption) (by exact rfl) dc_ST_kind_19 20 rfl ?_
  refine jl_iadd h dc_ST_kind_20 21 rfl ?_
  rw [show nI (b i) * nI 4 + nI (b j) = nI (b i * 4 + b j) by rw [pk_mul, nI_add]]
  refine jl_tild (v := iI (en_kd (b i) (b j))) h (fun _ _ _ q => q.2.1) (b i * 4 + b j) (rfl) (by show _ < 16; omega) (by decide) (st_kd _ _ h1 h2) dc_ST_kind_21 22 rfl ?_
  exact jl_zret h he rfl (rfl) (rfl) dc_ST_kind_22
theorem c_ST_canPair (hN : 3 ≤ N) (hS : st_ok K ad E n b) {i j : Nat} (hi : i < 18) (hj : j < 18) : jl_C l K sa yn_ST_canPair bc_ST_canPair 3 (some .boolean) 1 25 N ad [.ref (ad 1), .int (nI i), .int (nI j)] E (some (.int (st_bI (en_cp b i j)))) E := by
  refine jl_enter (by decide) (Nat.le_of_ble_eq_true rfl) (fun x h he hr => ?_)
  obtain ⟨hST, hbases, hn, hb⟩ := id hS
  have hk := en_kd_in (b i) (b j)
  have hsub : (nI j - nI i).toInt = (j : Int) - i := pk_sub_toInt (by omega) (by omega)
  have h4 : ((4 : Int32)).toInt = 4 := by decide
  have h0 : iI 0 = 0 := rfl
  show jl_J x N ad 0 0 E 0 [(0, .ref (ad 1)), (1, .int (nI i)), (2, .int (nI j))] []
  refine jl_iload_n (i := 2) h rfl rfl dc_ST_canPair_0 1 rfl ?_
  refine jl_iload_n (i := 1) h rfl rfl dc_ST_canPair_1 2 rfl ?_
  refine jl_isub h dc_ST_canPair_2 3 rfl ?_
  refine jl_iconst (v := 4) h (by decide) dc_ST_canPair_3 4 rfl ?_
  refine jl_icmp_lt h 20 (by decide) dc_ST_canPair_4 7 rfl (fun c4 => ?_) (fun c4 => ?_)
  · skip
    rw [Int32.lt_iff_toInt_lt, hsub, h4] at c4
    refine jl_iconst (v := 0) h (by decide) dc_ST_canPair_20 21 rfl ?_
    exact jl_zret h he rfl (by unfold st_bI en_cp; simp; omega) (rfl) dc_ST_canPair_21
  · skip
    rw [Int32.lt_iff_toInt_lt, hsub, h4] at c4
    refine jl_aload_n (i := 0) h rfl rfl dc_ST_canPair_7 8 rfl ?_
    refine jl_iload_n (i := 1) h rfl rfl dc_ST_canPair_8 9 rfl ?_
    refine jl_iload_n (i := 2) h rfl rfl dc_ST_canPair_9 10 rfl ?_
    refine jl_callV (As := [_, _]) (rest := []) h hr vs_ST_21 vi_ST_kind vx_ST_kind (ci := 1) rfl (by omega) (by exact hST) (fun l => c_ST_kind l hN hS hi hj) (by first | decide | omega) (by first | decide | omega) rfl rfl (Nat.le_of_ble_eq_true rfl) dc_ST_canPair_10 (res := [_]) rfl 13 rfl ?_
    refine jl_if_lt h 20 (by decide) dc_ST_canPair_13 16 rfl (fun c13 => ?_) (fun c13 => ?_)
    · skip
      rw [← h0, iI_lt (by omega) (by omega) (by omega) (by omega)] at c13
      refine jl_iconst (v := 0) h (by decide) dc_ST_canPair_20 21 rfl ?_
      exact jl_zret h he rfl (by unfold st_bI en_cp; simp; omega) (rfl) dc_ST_canPair_21
    · skip
      rw [← h0, iI_lt (by omega) (by omega) (by omega) (by omega)] at c13
      refine jl_iconst (v := 1) h (by decide) dc_ST_canPair_16 17 rfl ?_
      refine jl_goto h 21 (by decide) dc_ST_canPair_17 ?_
      exact jl_zret h he rfl (by unfold st_bI en_cp; simp; omega) (rfl) dc_ST_canPair_21
theorem c_ST_ifWeak (hN : 3 ≤ N) (hS : st_ok K ad E n b) {i j : Nat} (hi : i < 18) (hj : j < 18) (m : Int) : jl_C l K sa yn_ST_ifWeak bc_ST_ifWeak 4 (some .int) 1 25 N ad [.ref (ad 1), .int (nI i), .int (nI j), .int (iI m)] E (some (.int (iI (if 2 ≤ en_kd (b i) (b j) then m else 0)))) E := by
  refine jl_enter (by decide) (Nat.le_of_ble_eq_true rfl) (fun x h he hr => ?_)
  obtain ⟨hST, hbases, hn, hb⟩ := id hS
  have hk := en_kd_in (b i) (b j)
  have h2 : iI 2 = 2 := rfl
  show jl_J x N ad 0 0 E 0 [(0, .ref (ad 1)), (1, .int (nI i)), (2, .int (nI j)), (3, .int (iI m))] []
  refine jl_aload_n (i := 0) h rfl rfl dc_ST_ifWeak_0 1 rfl ?_
  refine jl_iload_n (i := 1) h rfl rfl dc_ST_ifWeak_1 2 rfl ?_
  refine jl_iload_n (i := 2) h rfl rfl dc_ST_ifWeak_2 3 rfl ?_
  refine jl_callV (As := [_, _]) (rest := []) h hr vs_ST_21 vi_ST_kind vx_ST_kind (ci := 1) rfl (by omega) (by exact hST) (fun l => c_ST_kind l hN hS hi hj) (by first | decide | omega) (by first | decide | omega) rfl rfl (Nat.le_of_ble_eq_true rfl) dc_ST_ifWeak_3 (res := [_]) rfl 6 rfl ?_
  refine jl_iconst (v := 2) h (by decide) dc_ST_ifWeak_6 7 rfl ?_
  refine jl_icmp_lt h 14 (by decide) dc_ST_ifWeak_7 10 rfl (fun c7 => ?_) (fun c7 => ?_)
  · skip
    rw [← h2, iI_lt (by omega) (by omega) (by omega) (by omega)] at c7
    refine jl_iconst (v := 0) h (by decide) dc_ST_ifWeak_14 15 rfl ?_
    exact jl_zret h he rfl (by first | rw [if_pos (by omega)] | (rw [if_neg (by omega)]; rfl)) (rfl) dc_ST_ifWeak_15
  · skip
    rw [← h2, iI_lt (by omega) (by omega) (by omega) (by omega)] at c7
    refine jl_iload_n (i := 3) h rfl rfl dc_ST_ifWeak_10 11 rfl ?_
    refine jl_goto h 15 (by decide) dc_ST_ifWeak_11 ?_
    exact jl_zret h he rfl (by first | rw [if_pos (by omega)] | (rw [if_neg (by omega)]; rfl)) (rfl) dc_ST_ifWeak_15
theorem c_ST_has (hN : 3 ≤ N) (hS : st_ok K ad E n b) (q : Int32) : jl_C l K sa yn_ST_has bc_ST_has 2 (some .boolean) 0 0 N ad [.ref (ad 1), .int q] E (some (.int (st_bI (decide (¬ q < 0 ∧ q < nI n))))) E := by
  refine jl_enter (by decide) (Nat.le_of_ble_eq_true rfl) (fun x h he hr => ?_)
  obtain ⟨hST, hbases, hn, hb⟩ := hS
  show jl_J x N ad 0 0 E 0 [(0, .ref (ad 1)), (1, .int q)] []
  refine jl_iload_n (i := 1) h rfl rfl dc_ST_has_0 1 rfl ?_
  refine jl_if_lt h 16 (by decide) dc_ST_has_1 4 rfl (fun c1 => ?_) (fun c1 => ?_)
  · skip
    refine jl_iconst (v := 0) h (by decide) dc_ST_has_16 17 rfl ?_
    exact jl_zret h he rfl (by unfold st_bI; simp_all) (rfl) dc_ST_has_17
  · skip
    refine jl_iload_n (i := 1) h rfl rfl dc_ST_has_4 5 rfl ?_
    refine jl_aload_n (i := 0) h rfl rfl dc_ST_has_5 6 rfl ?_
    refine jl_getf h nm_c_ST 1 wl_ST_13 (by omega) (by decide) (by exact hST) (by rfl) dc_ST_has_6 9 rfl ?_
    refine jl_icmp_ge h 16 (by decide) dc_ST_has_9 12 rfl (fun c9 => ?_) (fun c9 => ?_)
    · skip
      refine jl_iconst (v := 0) h (by decide) dc_ST_has_16 17 rfl ?_
      exact jl_zret h he rfl (by unfold st_bI; simp_all) (rfl) dc_ST_has_17
    · skip
      refine jl_iconst (v := 1) h (by decide) dc_ST_has_12 13 rfl ?_
      refine jl_goto h 17 (by decide) dc_ST_has_13 ?_
      exact jl_zret h he rfl (by unfold st_bI; simp_all) (rfl) dc_ST_has_17
end ST

