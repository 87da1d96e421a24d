/-! Keys of structures: energy, then text; the reference: signNow, signOf, isBefore. -/
def mo_sg (w : Nat → Int) (i : Nat) : Nat := if (i : Int) < w i then 0 else if 0 ≤ w i then 1 else 2
theorem mo_sg_le (w : Nat → Int) (i : Nat) : mo_sg w i ≤ 2 := by
  unfold mo_sg
  split
  · omega
  · split <;> omega
def mo_tx (w : Nat → Int) : Nat → Int
  | 0 => 0
  | p + 1 => mo_tx w p + (mo_sg w p : Int) * nl_4 p
def mo_key (b : Nat → Nat) (n : Nat) (w : Nat → Int) : Int := st_E b n w * 68719476736 + mo_tx w n
theorem nl_4_step : ∀ m, m < 17 → nl_4 m = 4 * nl_4 (m + 1) ∧ 1 ≤ nl_4 (m + 1) := by decide +kernel
theorem mo_tx_in (w : Nat → Int) : ∀ m, m ≤ 18 → 0 ≤ mo_tx w m ∧ (m = 0 → mo_tx w m = 0) ∧ (0 < m → mo_tx w m + nl_4 (m - 1) ≤ 68719476736)
  | 0, _ => ⟨Int.le_refl _, fun _ => rfl, fun h => absurd h (Nat.lt_irrefl 0)⟩
  | m + 1, hm => by
    obtain ⟨h1, h0, h2⟩ := mo_tx_in w m (by omega)
    have h3 := mo_sg_le w m
    have h4 := nl_4_in m
    have e : mo_tx w (m + 1) = mo_tx w m + (mo_sg w m : Int) * nl_4 m := rfl
    have h5 : (mo_sg w m : Int) * nl_4 m ≤ 2 * nl_4 m := Int.mul_le_mul_of_nonneg_right (by omega) h4.1
    have h6 : 0 ≤ (mo_sg w m : Int) * nl_4 m := Int.mul_nonneg (by omega) h4.1
    rw [e]
    refine ⟨by omega, fun h => absurd h (by omega), fun _ => ?_⟩
    rw [show m + 1 - 1 = m by omega]
    rcases Nat.eq_zero_or_pos m with h7 | h7
    · subst h7
      have h8 : nl_4 0 = 17179869184 := by decide +kernel
      have h9 := h0 rfl
      omega
    · obtain ⟨k, rfl⟩ : ∃ k, m = k + 1 := ⟨m - 1, by omega⟩
      have h8 := (nl_4_step k (by omega)).1
      have h9 := h2 h7
      rw [show k + 1 - 1 = k by omega] at h9
      omega
theorem mo_tx_lt {w u : Nat → Int} {i : Nat} (he : ∀ p, p < i → mo_sg w p = mo_sg u p) (hl : mo_sg w i < mo_sg u i) : ∀ d, i + 1 + d ≤ 18 → mo_tx w (i + 1 + d) + nl_4 (i + d) ≤ mo_tx u (i + 1 + d)
  | 0, hd => by
    have e0 : ∀ m, m ≤ i → mo_tx w m = mo_tx u m := by
      intro m
      induction m with
      | zero => intro _; rfl
      | succ m ih =>
        intro hm
        show mo_tx w m + (mo_sg w m : Int) * nl_4 m = mo_tx u m + (mo_sg u m : Int) * nl_4 m
        rw [ih (by omega), he m (by omega)]
    show mo_tx w i + (mo_sg w i : Int) * nl_4 i + nl_4 i ≤ mo_tx u i + (mo_sg u i : Int) * nl_4 i
    rw [e0 i (Nat.le_refl i)]
    have h1 : ((mo_sg w i : Int) + 1) * nl_4 i ≤ (mo_sg u i : Int) * nl_4 i := Int.mul_le_mul_of_nonneg_right (by omega) (nl_4_in i).1
    rw [Int.add_mul, Int.one_mul] at h1
    omega
  | d + 1, hd => by
    have ih := mo_tx_lt he hl d (by omega)
    have h1 := nl_4_step (i + d) (by omega)
    have h2 := mo_sg_le w (i + 1 + d)
    have h4 := nl_4_in (i + 1 + d)
    have h5 : (mo_sg w (i + 1 + d) : Int) * nl_4 (i + 1 + d) ≤ 2 * nl_4 (i + 1 + d) := Int.mul_le_mul_of_nonneg_right (by omega) h4.1
    have h6 : 0 ≤ (mo_sg u (i + 1 + d) : Int) * nl_4 (i + 1 + d) := Int.mul_nonneg (by omega) h4.1
    show mo_tx w (i + 1 + d) + (mo_sg w (i + 1 + d) : Int) * nl_4 (i + 1 + d) + nl_4 (i + (d + 1)) ≤ mo_tx u (i + 1 + d) + (mo_sg u (i + 1 + d) : Int) * nl_4 (i + 1 + d)
    rw [show i + (d + 1) = i + 1 + d by omega]
    rw [show i + d + 1 = i + 1 + d by omega] at h1
    omega
theorem mo_tx_slt {w u : Nat → Int} {n i : Nat} (hn : n ≤ 18) (hi : i < n) (he : ∀ p, p < i → mo_sg w p = mo_sg u p) (hl : mo_sg w i < mo_sg u i) : mo_tx w n < mo_tx u n := by
  have h1 := mo_tx_lt he hl (n - (i + 1)) (by omega)
  rw [show i + 1 + (n - (i + 1)) = n by omega] at h1
  have h2 : ∀ p, p < 18 → 1 ≤ nl_4 p := by decide +kernel
  have h3 := h2 (i + (n - (i + 1))) (by omega)
  omega
theorem mo_tx_eq {w u : Nat → Int} : ∀ n, (∀ p, p < n → mo_sg w p = mo_sg u p) → mo_tx w n = mo_tx u n
  | 0, _ => rfl
  | m + 1, he => by
    show mo_tx w m + (mo_sg w m : Int) * nl_4 m = mo_tx u m + (mo_sg u m : Int) * nl_4 m
    rw [mo_tx_eq m (fun p hp => he p (by omega)), he m (by omega)]
theorem mo_tx_36 (w : Nat → Int) {n : Nat} (hn : n ≤ 18) : 0 ≤ mo_tx w n ∧ mo_tx w n < 68719476736 := by
  obtain ⟨h1, h0, h2⟩ := mo_tx_in w n hn
  refine ⟨h1, ?_⟩
  rcases Nat.eq_zero_or_pos n with h | h
  · have := h0 h
    omega
  · have h3 : ∀ p, p < 18 → 1 ≤ nl_4 p := by decide +kernel
    have := h2 h
    have := h3 (n - 1) (by omega)
    omega
theorem mo_key_E {b : Nat → Nat} {n : Nat} {w u : Nat → Int} (hn : n ≤ 18) (h : st_E b n w < st_E b n u) : mo_key b n w < mo_key b n u := by
  have h1 := mo_tx_36 w hn
  have h2 := mo_tx_36 u hn
  unfold mo_key
  omega
abbrev bc_MO_signNow : ByteArray := prog_9_method_22_code
abbrev yn_MO_signNow : MethodName := ⟨"FoldedStrandModel", "signNow", "(I)I"⟩
theorem dc_MO_signNow_0 : decode bc_MO_signNow 0 = .ok (.aload_n 0, 1) := by decide +kernel
theorem dc_MO_signNow_1 : decode bc_MO_signNow 1 = .ok (.getfield 19, 3) := by decide +kernel
theorem dc_MO_signNow_4 : decode bc_MO_signNow 4 = .ok (.iload_n 1, 1) := by decide +kernel
theorem dc_MO_signNow_5 : decode bc_MO_signNow 5 = .ok (.iaload, 1) := by decide +kernel
theorem dc_MO_signNow_6 : decode bc_MO_signNow 6 = .ok (.iload_n 1, 1) := by decide +kernel
theorem dc_MO_signNow_7 : decode bc_MO_signNow 7 = .ok (.if_icmp .le 7, 3) := by decide +kernel
theorem dc_MO_signNow_10 : decode bc_MO_signNow 10 = .ok (.iconst 0, 1) := by decide +kernel
theorem dc_MO_signNow_11 : decode bc_MO_signNow 11 = .ok (.goto 17, 3) := by decide +kernel
theorem dc_MO_signNow_14 : decode bc_MO_signNow 14 = .ok (.aload_n 0, 1) := by decide +kernel
theorem dc_MO_signNow_15 : decode bc_MO_signNow 15 = .ok (.getfield 19, 3) := by decide +kernel
theorem dc_MO_signNow_18 : decode bc_MO_signNow 18 = .ok (.iload_n 1, 1) := by decide +kernel
theorem dc_MO_signNow_19 : decode bc_MO_signNow 19 = .ok (.iaload, 1) := by decide +kernel
theorem dc_MO_signNow_20 : decode bc_MO_signNow 20 = .ok (.ifCond .lt 7, 3) := by decide +kernel
theorem dc_MO_signNow_23 : decode bc_MO_signNow 23 = .ok (.iconst 1, 1) := by decide +kernel
theorem dc_MO_signNow_24 : decode bc_MO_signNow 24 = .ok (.goto 4, 3) := by decide +kernel
theorem dc_MO_signNow_27 : decode bc_MO_signNow 27 = .ok (.iconst 2, 1) := by decide +kernel
theorem dc_MO_signNow_28 : decode bc_MO_signNow 28 = .ok (.ireturn, 1) := by decide +kernel
abbrev bc_MO_signOf : ByteArray := prog_9_method_23_code
abbrev yn_MO_signOf : MethodName := ⟨"FoldedStrandModel", "signOf", "(II)I"⟩
theorem wl_MO_28 : Cond.fieldLink "FoldedStrandModel" 28 "FoldedStrandModel" "partners" "[I" ∈ jl_T := jl_T_of 528 (by decide +kernel) (by decide +kernel)
theorem dc_MO_signOf_0 : decode bc_MO_signOf 0 = .ok (.aload_n 0, 1) := by decide +kernel
theorem dc_MO_signOf_1 : decode bc_MO_signOf 1 = .ok (.getfield 28, 3) := by decide +kernel
theorem dc_MO_signOf_4 : decode bc_MO_signOf 4 = .ok (.bipush 18, 2) := by decide +kernel
theorem dc_MO_signOf_6 : decode bc_MO_signOf 6 = .ok (.iload_n 1, 1) := by decide +kernel
theorem dc_MO_signOf_7 : decode bc_MO_signOf 7 = .ok (.imul, 1) := by decide +kernel
theorem dc_MO_signOf_8 : decode bc_MO_signOf 8 = .ok (.iload_n 2, 1) := by decide +kernel
theorem dc_MO_signOf_9 : decode bc_MO_signOf 9 = .ok (.iadd, 1) := by decide +kernel
theorem dc_MO_signOf_10 : decode bc_MO_signOf 10 = .ok (.iaload, 1) := by decide +kernel
theorem dc_MO_signOf_11 : decode bc_MO_signOf 11 = .ok (.istore_n 3, 1) := by decide +kernel
theorem dc_MO_signOf_12 : decode bc_MO_signOf 12 = .ok (.iload_n 3, 1) := by decide +kernel
theorem dc_MO_signOf_13 : decode bc_MO_signOf 13 = .ok (.iload_n 2, 1) := by decide +kernel
theorem dc_MO_signOf_14 : decode bc_MO_signOf 14 = .ok (.if_icmp .le 7, 3) := by decide +kernel
theorem dc_MO_signOf_17 : decode bc_MO_signOf 17 = .ok (.iconst 0, 1) := by decide +kernel
theorem dc_MO_signOf_18 : decode bc_MO_signOf 18 = .ok (.goto 12, 3) := by decide +kernel
theorem dc_MO_signOf_21 : decode bc_MO_signOf 21 = .ok (.iload_n 3, 1) := by decide +kernel
theorem dc_MO_signOf_22 : decode bc_MO_signOf 22 = .ok (.ifCond .lt 7, 3) := by decide +kernel
theorem dc_MO_signOf_25 : decode bc_MO_signOf 25 = .ok (.iconst 1, 1) := by decide +kernel
theorem dc_MO_signOf_26 : decode bc_MO_signOf 26 = .ok (.goto 4, 3) := by decide +kernel
theorem dc_MO_signOf_29 : decode bc_MO_signOf 29 = .ok (.iconst 2, 1) := by decide +kernel
theorem dc_MO_signOf_30 : decode bc_MO_signOf 30 = .ok (.ireturn, 1) := by decide +kernel
abbrev bc_MO_isBefore : ByteArray := prog_9_method_24_code
abbrev yn_MO_isBefore : MethodName := ⟨"FoldedStrandModel", "isBefore", "(II)Z"⟩
theorem wl_MO_25 : Cond.fieldLink "FoldedStrandModel" 25 "FoldedStrandModel" "energies" "[I" ∈ jl_T := jl_T_of 527 (by decide +kernel) (by decide +kernel)
theorem vs_MO_104 : jl_v "FoldedStrandModel" 104 yn_MO_signNow bc_MO_signNow 2 (some .int) 1 := ⟨jl_T_of 649 (by decide +kernel) (by decide +kernel), jl_T_of 9 (by decide +kernel) (by decide +kernel), jl_T_of 646 (by decide +kernel) (by decide +kernel), by decide +kernel, by decide +kernel, by decide +kernel⟩
theorem vi_MO_signNow : Cond.instanceMethod yn_MO_signNow ∈ jl_T := jl_T_of 648 (by decide +kernel) (by decide +kernel)
theorem vx_MO_signNow : Cond.selects "FoldedStrandModel" yn_MO_signNow yn_MO_signNow ∈ jl_T := jl_T_sel 29 (by decide +kernel) (by decide +kernel)
theorem vs_MO_107 : jl_v "FoldedStrandModel" 107 yn_MO_signOf bc_MO_signOf 4 (some .int) 2 := ⟨jl_T_of 653 (by decide +kernel) (by decide +kernel), jl_T_of 9 (by decide +kernel) (by decide +kernel), jl_T_of 650 (by decide +kernel) (by decide +kernel), by decide +kernel, by decide +kernel, by decide +kernel⟩
theorem vi_MO_signOf : Cond.instanceMethod yn_MO_signOf ∈ jl_T := jl_T_of 652 (by decide +kernel) (by decide +kernel)
theorem vx_MO_signOf : Cond.selects "FoldedStrandModel" yn_MO_signOf yn_MO_signOf ∈ jl_T := jl_T_sel 30 (by decide +kernel) (by decide +kernel)
theorem dc_MO_isBefore_0 : decode bc_MO_isBefore 0 = .ok (.iload_n 1, 1) := by decide +kernel
theorem dc_MO_isBefore_1 : decode bc_MO_isBefore 1 = .ok (.aload_n 0, 1) := by decide +kernel
theorem dc_MO_isBefore_2 : decode bc_MO_isBefore 2 = .ok (.getfield 25, 3) := by decide +kernel
theorem dc_MO_isBefore_5 : decode bc_MO_isBefore 5 = .ok (.iload_n 2, 1) := by decide +kernel
theorem dc_MO_isBefore_6 : decode bc_MO_isBefore 6 = .ok (.iaload, 1) := by decide +kernel
theorem dc_MO_isBefore_7 : decode bc_MO_isBefore 7 = .ok (.if_icmp .eq 19, 3) := by decide +kernel
theorem dc_MO_isBefore_10 : decode bc_MO_isBefore 10 = .ok (.iload_n 1, 1) := by decide +kernel
theorem dc_MO_isBefore_11 : decode bc_MO_isBefore 11 = .ok (.aload_n 0, 1) := by decide +kernel
theorem dc_MO_isBefore_12 : decode bc_MO_isBefore 12 = .ok (.getfield 25, 3) := by decide +kernel
theorem dc_MO_isBefore_15 : decode bc_MO_isBefore 15 = .ok (.iload_n 2, 1) := by decide +kernel
theorem dc_MO_isBefore_16 : decode bc_MO_isBefore 16 = .ok (.iaload, 1) := by decide +kernel
theorem dc_MO_isBefore_17 : decode bc_MO_isBefore 17 = .ok (.if_icmp .ge 7, 3) := by decide +kernel
theorem dc_MO_isBefore_20 : decode bc_MO_isBefore 20 = .ok (.iconst 1, 1) := by decide +kernel
theorem dc_MO_isBefore_21 : decode bc_MO_isBefore 21 = .ok (.goto 4, 3) := by decide +kernel
theorem dc_MO_isBefore_24 : decode bc_MO_isBefore 24 = .ok (.iconst 0, 1) := by decide +kernel
theorem dc_MO_isBefore_25 : decode bc_MO_isBefore 25 = .ok (.ireturn, 1) := by decide +kernel
theorem dc_MO_isBefore_26 : decode bc_MO_isBefore 26 = .ok (.iconst 0, 1) := by decide +kernel
theorem dc_MO_isBefore_27 : decode bc_MO_isBefore 27 = .ok (.istore_n 3, 1) := by decide +kernel
theorem dc_MO_isBefore_28 : decode bc_MO_isBefore 28 = .ok (.iload_n 3, 1) := by decide +kernel
theorem dc_MO_isBefore_29 : decode bc_MO_isBefore 29 = .ok (.aload_n 0, 1) := by decide +kernel
theorem dc_MO_isBefore_30 : decode bc_MO_isBefore 30 = .ok (.getfield 42, 3) := by decide +kernel
theorem dc_MO_isBefore_33 : decode bc_MO_isBefore 33 = .ok (.if_icmp .ge 43, 3) := by decide +kernel
theorem dc_MO_isBefore_36 : decode bc_MO_isBefore 36 = .ok (.aload_n 0, 1) := by decide +kernel
theorem dc_MO_isBefore_37 : decode bc_MO_isBefore 37 = .ok (.iload_n 3, 1) := by decide +kernel
theorem dc_MO_isBefore_38 : decode bc_MO_isBefore 38 = .ok (.invokevirtual 104, 3) := by decide +kernel
theorem dc_MO_isBefore_41 : decode bc_MO_isBefore 41 = .ok (.aload_n 0, 1) := by decide +kernel
theorem dc_MO_isBefore_42 : decode bc_MO_isBefore 42 = .ok (.iload_n 2, 1) := by decide +kernel
theorem dc_MO_isBefore_43 : decode bc_MO_isBefore 43 = .ok (.iload_n 3, 1) := by decide +kernel
theorem dc_MO_isBefore_44 : decode bc_MO_isBefore 44 = .ok (.invokevirtual 107, 3) := by decide +kernel
theorem dc_MO_isBefore_47 : decode bc_MO_isBefore 47 = .ok (.if_icmp .eq 23, 3) := by decide +kernel
theorem dc_MO_isBefore_50 : decode bc_MO_isBefore 50 = .ok (.aload_n 0, 1) := by decide +kernel
theorem dc_MO_isBefore_51 : decode bc_MO_isBefore 51 = .ok (.iload_n 3, 1) := by decide +kernel
theorem dc_MO_isBefore_52 : decode bc_MO_isBefore 52 = .ok (.invokevirtual 104, 3) := by decide +kernel
theorem dc_MO_isBefore_55 : decode bc_MO_isBefore 55 = .ok (.aload_n 0, 1) := by decide +kernel
theorem dc_MO_isBefore_56 : decode bc_MO_isBefore 56 = .ok (.iload_n 2, 1) := by decide +kernel
theorem dc_MO_isBefore_57 : decode bc_MO_isBefore 57 = .ok (.iload_n 3, 1) := by decide +kernel
theorem dc_MO_isBefore_58 : decode bc_MO_isBefore 58 = .ok (.invokevirtual 107, 3) := by decide +kernel
theorem dc_MO_isBefore_61 : decode bc_MO_isBefore 61 = .ok (.if_icmp .ge 7, 3) := by decide +kernel
theorem dc_MO_isBefore_64 : decode bc_MO_isBefore 64 = .ok (.iconst 1, 1) := by decide +kernel
theorem dc_MO_isBefore_65 : decode bc_MO_isBefore 65 = .ok (.goto 4, 3) := by decide +kernel
theorem dc_MO_isBefore_68 : decode bc_MO_isBefore 68 = .ok (.iconst 0, 1) := by decide +kernel
theorem dc_MO_isBefore_69 : decode bc_MO_isBefore 69 = .ok (.ireturn, 1) := by decide +kernel
theorem dc_MO_isBefore_70 : decode bc_MO_isBefore 70 = .ok (.iinc 3 1, 3) := by decide +kernel
theorem dc_MO_isBefore_73 : decode bc_MO_isBefore 73 = .ok (.goto (-45), 3) := by decide +kernel
theorem dc_MO_isBefore_76 : decode bc_MO_isBefore 76 = .ok (.iconst 0, 1) := by decide +kernel
theorem dc_MO_isBefore_77 : decode bc_MO_isBefore 77 = .ok (.ireturn, 1) := by decide +kernel
section MO
variable (l : Launch) {K : Nat → ClassId} {sa : Nat → Nat} {ad : Nat → Nat} {I : Nat → Int32} {V : Nat → Nat → Int32} {L : Nat → Int64} {C : Nat → Int32} {G : Nat → Nat} {R : Nat → Nat} {n : Nat} {b : Nat → Nat} {w u : Nat → Int}
theorem c_MO_signNow (hM : ∀ k, k < 18 → V 164 k = iI (w k)) {i : Nat} (hi : i < 18) (h1 : -1 ≤ w i) (h2 : w i < 18) : jl_C l K sa yn_MO_signNow bc_MO_signNow 2 (some .int) 0 0 168 ad [.ref (ad 160), .int (nI i)] (gw K ad I V L C G R) (some (.int (nI (mo_sg w i)))) (gw K ad I V L C G R) := by
  refine jl_enter (by decide) (Nat.le_of_ble_eq_true rfl) (fun x h he hr => ?_)
  show jl_J x 168 ad 0 0 (gw K ad I V L C G R) 0 [(0, .ref (ad 160)), (1, .int (nI i))] []
  have h0 : (iI (w i) < 0) ↔ w i < 0 := by rw [show (0 : Int32) = iI 0 from rfl]; exact iI_lt (by omega) (by omega) (by omega) (by omega)
  refine jl_aload_n (i := 0) h rfl rfl dc_MO_signNow_0 1 rfl ?_
  refine jl_getf h nm_c_MO 5 wl_MO_19 (by omega) (by decide) (by exact rfl) (by rfl) dc_MO_signNow_1 4 rfl ?_
  refine jl_iload_n (i := 1) h rfl rfl dc_MO_signNow_4 5 rfl ?_
  refine jl_iald (v := iI (w i)) h (i) (by exact rfl) (by omega) (by exact gw_row (len := 18) ⟨rfl, rfl⟩) (by exact hi) (by first | decide | assumption) (by exact hM i hi) dc_MO_signNow_5 6 rfl ?_
  refine jl_iload_n (i := 1) h rfl rfl dc_MO_signNow_6 7 rfl ?_
  refine jl_icmp_le h 14 (by decide) dc_MO_signNow_7 10 rfl (fun c7 => ?_) (fun c7 => ?_)
  · skip
    rw [sr_iI_le h1 h2 hi] at c7
    refine jl_aload_n (i := 0) h rfl rfl dc_MO_signNow_14 15 rfl ?_
    refine jl_getf h nm_c_MO 5 wl_MO_19 (by omega) (by decide) (by exact rfl) (by rfl) dc_MO_signNow_15 18 rfl ?_
    refine jl_iload_n (i := 1) h rfl rfl dc_MO_signNow_18 19 rfl ?_
    refine jl_iald (v := iI (w i)) h (i) (by exact rfl) (by omega) (by exact gw_row (len := 18) ⟨rfl, rfl⟩) (by exact hi) (by first | decide | assumption) (by exact hM i hi) dc_MO_signNow_19 20 rfl ?_
    refine jl_if_lt h 27 (by decide) dc_MO_signNow_20 23 rfl (fun c20 => ?_) (fun c20 => ?_)
    · skip
      rw [h0] at c20
      refine jl_iconst (v := 2) h (by decide) dc_MO_signNow_27 28 rfl ?_
      exact jl_zret h he rfl (by unfold mo_sg; first | (rw [if_pos (by omega)]; rfl) | (rw [if_neg (by omega), if_pos (by omega)]; rfl) | (rw [if_neg (by omega), if_neg (by omega)]; rfl)) (rfl) dc_MO_signNow_28
    · skip
      rw [h0] at c20
      refine jl_iconst (v := 1) h (by decide) dc_MO_signNow_23 24 rfl ?_
      refine jl_goto h 28 (by decide) dc_MO_signNow_24 ?_
      exact jl_zret h he rfl (by unfold mo_sg; first | (rw [if_pos (by omega)]; rfl) | (rw [if_neg (by omega), if_pos (by omega)]; rfl) | (rw [if_neg (by omega), if_neg (by omega)]; rfl)) (rfl) dc_MO_signNow_28
  · skip
    rw [sr_iI_le h1 h2 hi] at c7
    refine jl_iconst (v := 0) h (by decide) dc_MO_signNow_10 11 rfl ?_
    refine jl_goto h 28 (by decide) dc_MO_signNow_11 ?_
    exact jl_zret h he rfl (by unfold mo_sg; first | (rw [if_pos (by omega)]; rfl) | (rw [if_neg (by omega), if_pos (by omega)]; rfl) | (rw [if_neg (by omega), if_neg (by omega)]; rfl)) (rfl) dc_MO_signNow_28
theorem c_MO_signOf {k : Nat} (hk : k < 151) (hM : ∀ i, i < 18 → V 167 (18 * k + i) = iI (u i)) {i : Nat} (hi : i < 18) (h1 : -1 ≤ u i) (h2 : u i < 18) : jl_C l K sa yn_MO_signOf bc_MO_signOf 4 (some .int) 0 0 168 ad [.ref (ad 160), .int (nI k), .int (nI i)] (gw K ad I V L C G R) (some (.int (nI (mo_sg u i)))) (gw K ad I V L C G R) := by
  refine jl_enter (by decide) (Nat.le_of_ble_eq_true rfl) (fun x h he hr => ?_)
  show jl_J x 168 ad 0 0 (gw K ad I V L C G R) 0 [(0, .ref (ad 160)), (1, .int (nI k)), (2, .int (nI i))] []
  have h0 : (iI (u i) < 0) ↔ u i < 0 := by rw [show (0 : Int32) = iI 0 from rfl]; exact iI_lt (by omega) (by omega) (by omega) (by omega)
  refine jl_aload_n (i := 0) h rfl rfl dc_MO_signOf_0 1 rfl ?_
  refine jl_getf h nm_c_MO 13 wl_MO_28 (by omega) (by decide) (by exact rfl) (by rfl) dc_MO_signOf_1 4 rfl ?_
  refine jl_bipush (v := nI 18) h (by decide) dc_MO_signOf_4 6 rfl ?_
  refine jl_iload_n (i := 1) h rfl rfl dc_MO_signOf_6 7 rfl ?_
  refine jl_imul h dc_MO_signOf_7 8 rfl ?_
  rw [show nI 18 * nI k = nI (18 * k) by exact pk_mul 18 k]
  refine jl_iload_n (i := 2) h rfl rfl dc_MO_signOf_8 9 rfl ?_
  refine jl_iadd h dc_MO_signOf_9 10 rfl ?_
  rw [show nI (18 * k) + nI i = nI (18 * k + i) by exact nI_add _ _]
  refine jl_iald (v := iI (u i)) h (18 * k + i) (by exact rfl) (by omega) (by exact gw_row (len := 2718) ⟨rfl, rfl⟩) (by exact by omega) (by first | decide | assumption) (by exact hM i hi) dc_MO_signOf_10 11 rfl ?_
  refine jl_istore_n (i := 3) (lc2 := [(3, _), (0, _), (1, _), (2, _)]) h rfl (by decide) rfl dc_MO_signOf_11 12 rfl ?_
  refine jl_iload_n (i := 3) h rfl rfl dc_MO_signOf_12 13 rfl ?_
  refine jl_iload_n (i := 2) h rfl rfl dc_MO_signOf_13 14 rfl ?_
  refine jl_icmp_le h 21 (by decide) dc_MO_signOf_14 17 rfl (fun c14 => ?_) (fun c14 => ?_)
  · skip
    rw [sr_iI_le h1 h2 hi] at c14
    refine jl_iload_n (i := 3) h rfl rfl dc_MO_signOf_21 22 rfl ?_
    refine jl_if_lt h 29 (by decide) dc_MO_signOf_22 25 rfl (fun c22 => ?_) (fun c22 => ?_)
    · skip
      rw [h0] at c22
      refine jl_iconst (v := 2) h (by decide) dc_MO_signOf_29 30 rfl ?_
      exact jl_zret h he rfl (by unfold mo_sg; first | (rw [if_pos (by omega)]; rfl) | (rw [if_neg (by omega), if_pos (by omega)]; rfl) | (rw [if_neg (by omega), if_neg (by omega)]; rfl)) (rfl) dc_MO_signOf_30
    · skip
      rw [h0] at c22
      refine jl_iconst (v := 1) h (by decide) dc_MO_signOf_25 26 rfl ?_
      refine jl_goto h 30 (by decide) dc_MO_signOf_26 ?_
      exact jl_zret h he rfl (by unfold mo_sg; first | (rw [if_pos (by omega)]; rfl) | (rw [if_neg (by omega), if_pos (by omega)]; rfl) | (rw [if_neg (by omega), if_neg (by omega)]; rfl)) (rfl) dc_MO_signOf_30
  · skip
    rw [sr_iI_le h1 h2 hi] at c14
    refine jl_iconst (v := 0) h (by decide) dc_MO_signOf_17 18 rfl ?_
    refine jl_goto h 30 (by decide) dc_MO_signOf_18 ?_
    exact jl_zret h he rfl (by unfold mo_sg; first | (rw [if_pos (by omega)]; rfl) | (rw [if_neg (by omega), if_pos (by omega)]; rfl) | (rw [if_neg (by omega), if_neg (by omega)]; rfl)) (rfl) dc_MO_signOf_30
theorem c_MO_isBefore (hI : I 11 = nI n) (hn : n ≤ 18) (hM : ∀ k, k < 18 → V 164 k = iI (w k)) (hw : mo_bw n w) {k : Nat} (hk : k < 151) (hR1 : V 166 k = iI (st_E b n u)) (hR : ∀ i, i < 18 → V 167 (18 * k + i) = iI (u i)) (hu : mo_bw n u) : jl_C l K sa yn_MO_isBefore bc_MO_isBefore 4 (some .boolean) 1 30 168 ad [.ref (ad 160), .int (iI (st_E b n w)), .int (nI k)] (gw K ad I V L C G R) (some (.int (st_bI (decide (mo_key b n w < mo_key b n u))))) (gw K ad I V L C G R) := by
  refine jl_enter (by decide) (Nat.le_of_ble_eq_true rfl) (fun x h he hr => ?_)
  show jl_J x 168 ad 0 0 (gw K ad I V L C G R) 0 [(0, .ref (ad 160)), (1, .int (iI (st_E b n w))), (2, .int (nI k))] []
  have hE1 := st_E_in hn hw (b := b)
  have hE2 := st_E_in hn hu (b := b)
  have heq : iI (st_E b n w) = iI (st_E b n u) ↔ st_E b n w = st_E b n u := by
    constructor
    · intro h9
      have := congrArg Int32.toInt h9
      rwa [iI_toInt (by omega) (by omega), iI_toInt (by omega) (by omega)] at this
    · intro h9
      rw [h9]
  have hle : iI (st_E b n u) ≤ iI (st_E b n w) ↔ st_E b n u ≤ st_E b n w := iI_le (by omega) (by omega) (by omega) (by omega)
  have loop : ∀ (dd i : Nat), i + dd = n → st_E b n w = st_E b n u → (∀ p, p < i → mo_sg w p = mo_sg u p) → jl_J x 168 ad 0 0 (gw K ad I V L C G R) 28 [(3, .int (nI i)), (0, .ref (ad 160)), (1, .int (iI (st_E b n w))), (2, .int (nI k))] [] := by
    intro dd
    induction dd with
    | zero =>
      intro i hi hEE hpp
      have hi : i = n := by omega
      subst hi
      have hkk : mo_key b i w = mo_key b i u := by unfold mo_key; rw [hEE, mo_tx_eq i hpp]
      refine jl_iload_n (i := 3) h rfl rfl dc_MO_isBefore_28 29 rfl ?_
      refine jl_aload_n (i := 0) h rfl rfl dc_MO_isBefore_29 30 rfl ?_
      refine jl_getf (v := .int (nI i)) h nm_c_MO 1 wl_MO_42 (by omega) (by decide) (by exact rfl) (by exact sr_v hI) dc_MO_isBefore_30 33 rfl ?_
      refine jl_icmp_ge h 76 (by decide) dc_MO_isBefore_33 36 rfl (fun c33 => ?_) (fun c33 => absurd (nI_le (Nat.le_refl _) (by omega)) c33)
      refine jl_iconst (v := 0) h (by decide) dc_MO_isBefore_76 77 rfl ?_
      exact jl_zret h he rfl (by rw [hkk, decide_eq_false (Int.lt_irrefl _)]; rfl) (rfl) dc_MO_isBefore_77
    | succ dd ih =>
      intro i hi hEE hpp
      have hw9 := hw i
      have hu9 := hu i
      have s1 := mo_sg_le w i
      have s2 := mo_sg_le u i
      refine jl_iload_n (i := 3) h rfl rfl dc_MO_isBefore_28 29 rfl ?_
      refine jl_aload_n (i := 0) h rfl rfl dc_MO_isBefore_29 30 rfl ?_
      refine jl_getf (v := .int (nI n)) h nm_c_MO 1 wl_MO_42 (by omega) (by decide) (by exact rfl) (by exact sr_v hI) dc_MO_isBefore_30 33 rfl ?_
      refine jl_icmp_ge h 76 (by decide) dc_MO_isBefore_33 36 rfl (fun c33 => absurd c33 (nI_ge (by omega) (by omega))) (fun c33 => ?_)
      refine jl_aload_n (i := 0) h rfl rfl dc_MO_isBefore_36 37 rfl ?_
      refine jl_iload_n (i := 3) h rfl rfl dc_MO_isBefore_37 38 rfl ?_
      refine jl_callV (As := [_]) (rest := []) h hr vs_MO_104 vi_MO_signNow vx_MO_signNow (ci := 7) rfl (by omega) (by exact rfl) (fun l => c_MO_signNow l hM (show i < 18 by omega) hw9.1 (by omega)) (by first | decide | omega) (by first | decide | omega) rfl rfl (Nat.le_of_ble_eq_true rfl) dc_MO_isBefore_38 (res := [_]) rfl 41 rfl ?_
      refine jl_aload_n (i := 0) h rfl rfl dc_MO_isBefore_41 42 rfl ?_
      refine jl_iload_n (i := 2) h rfl rfl dc_MO_isBefore_42 43 rfl ?_
      refine jl_iload_n (i := 3) h rfl rfl dc_MO_isBefore_43 44 rfl ?_
      refine jl_callV (As := [_, _]) (rest := [_]) h hr vs_MO_107 vi_MO_signOf vx_MO_signOf (ci := 7) rfl (by omega) (by exact rfl) (fun l => c_MO_signOf l hk hR (show i < 18 by omega) hu9.1 (by omega)) (by first | decide | omega) (by first | decide | omega) rfl rfl (Nat.le_of_ble_eq_true rfl) dc_MO_isBefore_44 (res := [_, _]) rfl 47 rfl ?_
      refine jl_icmp_eq h 70 (by decide) dc_MO_isBefore_47 50 rfl (fun c47 => ?_) (fun c47 => ?_)
      · skip
        rw [nI_eq (by omega) (by omega)] at c47
        refine jl_iinc (i := 3) (d := 1) (lc2 := [(3, _), (0, _), (1, _), (2, _)]) (v2 := nI (i + 1)) h (by decide) rfl (nI_1 i) rfl dc_MO_isBefore_70 73 rfl ?_
        refine jl_goto h 28 (by decide) dc_MO_isBefore_73 ?_
        exact ih (i + 1) (by omega) hEE (fun p hp => by
          by_cases h9 : p = i
          · rw [h9]; exact c47
          · exact hpp p (by omega))
      · skip
        rw [nI_eq (by omega) (by omega)] at c47
        refine jl_aload_n (i := 0) h rfl rfl dc_MO_isBefore_50 51 rfl ?_
        refine jl_iload_n (i := 3) h rfl rfl dc_MO_isBefore_51 52 rfl ?_
        refine jl_callV (As := [_]) (rest := []) h hr vs_MO_104 vi_MO_signNow vx_MO_signNow (ci := 7) rfl (by omega) (by exact rfl) (fun l => c_MO_signNow l hM (show i < 18 by omega) hw9.1 (by omega)) (by first | decide | omega) (by first | decide | omega) rfl rfl (Nat.le_of_ble_eq_true rfl) dc_MO_isBefore_52 (res := [_]) rfl 55 rfl ?_
        refine jl_aload_n (i := 0) h rfl rfl dc_MO_isBefore_55 56 rfl ?_
        refine jl_iload_n (i := 2) h rfl rfl dc_MO_isBefore_56 57 rfl ?_
        refine jl_iload_n (i := 3) h rfl rfl dc_MO_isBefore_57 58 rfl ?_
        refine jl_callV (As := [_, _]) (rest := [_]) h hr vs_MO_107 vi_MO_signOf vx_MO_signOf (ci := 7) rfl (by omega) (by exact rfl) (fun l => c_MO_signOf l hk hR (show i < 18 by omega) hu9.1 (by omega)) (by first | decide | omega) (by first | decide | omega) rfl rfl (Nat.le_of_ble_eq_true rfl) dc_MO_isBefore_58 (res := [_, _]) rfl 61 rfl ?_
        refine jl_icmp_ge h 68 (by decide) dc_MO_isBefore_61 64 rfl (fun c61 => ?_) (fun c61 => ?_)
        · skip
          rw [nI_leI (by omega) (by omega)] at c61
          refine jl_iconst (v := 0) h (by decide) dc_MO_isBefore_68 69 rfl ?_
          exact jl_zret h he rfl (by first | (have h9 := mo_tx_slt hn (show i < n by omega) hpp (by omega); rw [decide_eq_true (show mo_key b n w < mo_key b n u by unfold mo_key; omega)]; rfl) | (have h9 := mo_tx_slt hn (show i < n by omega) (fun p hp => (hpp p hp).symm) (by omega); rw [decide_eq_false (show ¬ mo_key b n w < mo_key b n u by unfold mo_key; omega)]; rfl)) (rfl) dc_MO_isBefore_69
        · skip
          rw [nI_leI (by omega) (by omega)] at c61
          refine jl_iconst (v := 1) h (by decide) dc_MO_isBefore_64 65 rfl ?_
          refine jl_goto h 69 (by decide) dc_MO_isBefore_65 ?_
          exact jl_zret h he rfl (by first | (have h9 := mo_tx_slt hn (show i < n by omega) hpp (by omega); rw [decide_eq_true (show mo_key b n w < mo_key b n u by unfold mo_key; omega)]; rfl) | (have h9 := mo_tx_slt hn (show i < n by omega) (fun p hp => (hpp p hp).symm) (by omega); rw [decide_eq_false (show ¬ mo_key b n w < mo_key b n u by unfold mo_key; omega)]; rfl)) (rfl) dc_MO_isBefore_69
  refine jl_iload_n (i := 1) h rfl rfl dc_MO_isBefore_0 1 rfl ?_
  refine jl_aload_n (i := 0) h rfl rfl dc_MO_isBefore_1 2 rfl ?_
  refine jl_getf h nm_c_MO 12 wl_MO_25 (by omega) (by decide) (by exact rfl) (by rfl) dc_MO_isBefore_2 5 rfl ?_
  refine jl_iload_n (i := 2) h rfl rfl dc_MO_isBefore_5 6 rfl ?_
  refine jl_iald (v := iI (st_E b n u)) h (k) (by exact rfl) (by omega) (by exact gw_row (len := 151) ⟨rfl, rfl⟩) (by exact hk) (by first | decide | assumption) (by exact hR1) dc_MO_isBefore_6 7 rfl ?_
  refine jl_icmp_eq h 26 (by decide) dc_MO_isBefore_7 10 rfl (fun c7 => ?_) (fun c7 => ?_)
  · skip
    rw [heq] at c7
    refine jl_iconst (v := nI 0) h (by decide) dc_MO_isBefore_26 27 rfl ?_
    refine jl_istore_n (i := 3) (lc2 := [(3, _), (0, _), (1, _), (2, _)]) h rfl (by decide) rfl dc_MO_isBefore_27 28 rfl ?_
    exact loop n 0 (by omega) c7 (fun p hp => absurd hp (Nat.not_lt_zero p))
  · skip
    rw [heq] at c7
    refine jl_iload_n (i := 1) h rfl rfl dc_MO_isBefore_10 11 rfl ?_
    refine jl_aload_n (i := 0) h rfl rfl dc_MO_isBefore_11 12 rfl ?_
    refine jl_getf h nm_c_MO 12 wl_MO_25 (by omega) (by decide) (by exact rfl) (by rfl) dc_MO_isBefore_12 15 rfl ?_
    refine jl_iload_n (i := 2) h rfl rfl dc_MO_isBefore_15 16 rfl ?_
    refine jl_iald (v := iI (st_E b n u)) h (k) (by exact rfl) (by omega) (by exact gw_row (len := 151) ⟨rfl, rfl⟩) (by exact hk) (by first | decide | assumption) (by exact hR1) dc_MO_isBefore_16 17 rfl ?_
    refine jl_icmp_ge h 24 (by decide) dc_MO_isBefore_17 20 rfl (fun c17 => ?_) (fun c17 => ?_)
    · skip
      rw [hle] at c17
      refine jl_iconst (v := 0) h (by decide) dc_MO_isBefore_24 25 rfl ?_
      exact jl_zret h he rfl (by first | (rw [decide_eq_true (mo_key_E hn (show st_E b n w < st_E b n u by omega))]; rfl) | (have h9 := mo_key_E hn (show st_E b n u < st_E b n w by omega); rw [decide_eq_false (show ¬ mo_key b n w < mo_key b n u by omega)]; rfl)) (rfl) dc_MO_isBefore_25
    · skip
      rw [hle] at c17
      refine jl_iconst (v := 1) h (by decide) dc_MO_isBefore_20 21 rfl ?_
      refine jl_goto h 25 (by decide) dc_MO_isBefore_21 ?_
      exact jl_zret h he rfl (by first | (rw [decide_eq_true (mo_key_E hn (show st_E b n w < st_E b n u by omega))]; rfl) | (have h9 := mo_key_E hn (show st_E b n u < st_E b n w by omega); rw [decide_eq_false (show ¬ mo_key b n w < mo_key b n u by omega)]; rfl)) (rfl) dc_MO_isBefore_25
end MO

