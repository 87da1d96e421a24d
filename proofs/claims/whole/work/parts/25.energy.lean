/-! The energy of a structure by scans of what is directly within; FoldedStrand$Structure.loopEnergy, totalEnergy. -/
def tp_f (w : Nat → Int) : Nat → Nat → Nat → List (Nat × Nat) × Nat
  | 0, _, _ => ([], 0)
  | d + 1, p, e => if e ≤ p then ([], 0) else if (p : Int) < w p then ((p, (w p).toNat) :: (tp_f w d ((w p).toNat + 1) e).1, (tp_f w d ((w p).toNat + 1) e).2) else ((tp_f w d (p + 1) e).1, (tp_f w d (p + 1) e).2 + 1)
theorem tp_f_fuel (w : Nat → Int) (e : Nat) : ∀ (d d2 p : Nat), e - p ≤ d → e - p ≤ d2 → tp_f w d p e = tp_f w d2 p e
  | 0, 0, _, _, _ => rfl
  | 0, d2 + 1, p, h, _ => by
    unfold tp_f
    rw [if_pos (by omega)]
  | d + 1, 0, p, _, h => by
    unfold tp_f
    rw [if_pos (by omega)]
  | d + 1, d2 + 1, p, h1, h2 => by
    unfold tp_f
    by_cases he : e ≤ p
    · rw [if_pos he, if_pos he]
    · rw [if_neg he, if_neg he]
      by_cases hp : (p : Int) < w p
      · rw [if_pos hp, if_pos hp, tp_f_fuel w e d d2 ((w p).toNat + 1) (by omega) (by omega)]
      · rw [if_neg hp, if_neg hp, tp_f_fuel w e d d2 (p + 1) (by omega) (by omega)]
/-- the pairs directly within, and how many places are in none of them -/
def tp_l (w : Nat → Int) (p e : Nat) : List (Nat × Nat) × Nat := tp_f w (e - p) p e
theorem tp_end {w : Nat → Int} {p e : Nat} (h : e ≤ p) : tp_l w p e = ([], 0) := by
  unfold tp_l
  rw [show e - p = 0 by omega]
  rfl
theorem tp_pair {w : Nat → Int} {p e q : Nat} (h : p < e) (hp : p < q) (hq : w p = q) : tp_l w p e = ((p, q) :: (tp_l w (q + 1) e).1, (tp_l w (q + 1) e).2) := by
  unfold tp_l
  obtain ⟨d, hd⟩ : ∃ d, e - p = d + 1 := ⟨e - p - 1, by omega⟩
  have e1 : tp_f w (e - p) p e = ((p, q) :: (tp_f w d (q + 1) e).1, (tp_f w d (q + 1) e).2) := by
    rw [hd]
    conv => lhs; unfold tp_f
    rw [if_neg (by omega), if_pos (by rw [hq]; omega), hq, Int.toNat_natCast]
  rw [e1, tp_f_fuel w e d (e - (q + 1)) (q + 1) (by omega) (by omega)]
theorem tp_free {w : Nat → Int} {p e : Nat} (h : p < e) (hp : ¬ (p : Int) < w p) : tp_l w p e = ((tp_l w (p + 1) e).1, (tp_l w (p + 1) e).2 + 1) := by
  unfold tp_l
  obtain ⟨d, hd⟩ : ∃ d, e - p = d + 1 := ⟨e - p - 1, by omega⟩
  have e1 : tp_f w (e - p) p e = ((tp_f w d (p + 1) e).1, (tp_f w d (p + 1) e).2 + 1) := by
    rw [hd]
    conv => lhs; unfold tp_f
    rw [if_neg (by omega), if_neg hp]
  rw [e1, tp_f_fuel w e d (e - (p + 1)) (p + 1) (by omega) (by omega)]
def lp_ws (b : Nat → Nat) (bs : List (Nat × Nat)) : Int := (bs.map (fun q => lp_wk b q.1 q.2 5)).sum
def lp_of (b : Nat → Nat) (i j : Nat) (r : List (Nat × Nat) × Nat) : Int := match r.1 with
  | [] => lp_hp b i j
  | [(k, m)] => lp_w1 b i j k m
  | _ => 34 + 4 * ((r.1.length : Int) + 1) + r.2 + lp_wk b i j 5 + lp_ws b r.1
/-- the energy of the loop of the pair i, j -/
def lp_loop (b : Nat → Nat) (w : Nat → Int) (i j : Nat) : Int := lp_of b i j (tp_l w (i + 1) j)
theorem lp_of_many {b : Nat → Nat} {i j : Nat} {r : List (Nat × Nat) × Nat} (h : 2 ≤ r.1.length) : lp_of b i j r = 34 + 4 * ((r.1.length : Int) + 1) + r.2 + lp_wk b i j 5 + lp_ws b r.1 := by
  unfold lp_of
  obtain ⟨bs, u⟩ := r
  match bs, h with
  | a :: c :: l, _ => rfl
def st_S (b : Nat → Nat) (w : Nat → Int) : Nat → Int
  | 0 => 0
  | k + 1 => st_S b w k + (if (k : Int) < w k then lp_loop b w k (w k).toNat else 0)
/-- the energy of a structure -/
def st_E (b : Nat → Nat) (n : Nat) (w : Nat → Int) : Int := st_S b w n + lp_ws b (tp_l w 0 n).1
theorem lp_ws_app (b : Nat → Nat) (x y : List (Nat × Nat)) : lp_ws b (x ++ y) = lp_ws b x + lp_ws b y := by
  unfold lp_ws
  rw [List.map_append, List.sum_append]
theorem en_V_in {b : Nat → Nat} {n : Nat} {w : Nat → Int} (h : en_V b n w) (p : Nat) : -1 ≤ w p ∧ w p < n + 1 := by
  rcases h.1 p with h1 | h1 <;> omega
abbrev bc_SR_loopEnergy : ByteArray := prog_7_method_11_code
abbrev yn_SR_loopEnergy : MethodName := ⟨"FoldedStrand$Structure", "loopEnergy", "(I)I"⟩
theorem wl_SR_22 : Cond.fieldLink "FoldedStrand$Structure" 22 "FoldedStrand$Structure" "loops" "LFoldedStrand$Loops;" ∈ jl_T := jl_T_of 167 (by decide +kernel) (by decide +kernel)
theorem vs_SR_71 : jl_v "FoldedStrand$Structure" 71 yn_LO_multiClosing bc_LO_multiClosing 3 (some .int) 2 := ⟨jl_T_of 264 (by decide +kernel) (by decide +kernel), jl_T_of 3 (by decide +kernel) (by decide +kernel), jl_T_of 479 (by decide +kernel) (by decide +kernel), by decide +kernel, by decide +kernel, by decide +kernel⟩
theorem vs_SR_57 : jl_v "FoldedStrand$Structure" 57 yn_SR_opensAt bc_SR_opensAt 2 (some .boolean) 1 := ⟨jl_T_of 474 (by decide +kernel) (by decide +kernel), jl_T_of 7 (by decide +kernel) (by decide +kernel), jl_T_of 471 (by decide +kernel) (by decide +kernel), by decide +kernel, by decide +kernel, by decide +kernel⟩
theorem vi_SR_opensAt : Cond.instanceMethod yn_SR_opensAt ∈ jl_T := jl_T_of 472 (by decide +kernel) (by decide +kernel)
theorem vx_SR_opensAt : Cond.selects "FoldedStrand$Structure" yn_SR_opensAt yn_SR_opensAt ∈ jl_T := jl_T_of 473 (by decide +kernel) (by decide +kernel)
theorem vs_SR_75 : jl_v "FoldedStrand$Structure" 75 yn_LO_multiBranch bc_LO_multiBranch 3 (some .int) 2 := ⟨jl_T_of 483 (by decide +kernel) (by decide +kernel), jl_T_of 3 (by decide +kernel) (by decide +kernel), jl_T_of 480 (by decide +kernel) (by decide +kernel), by decide +kernel, by decide +kernel, by decide +kernel⟩
theorem vi_LO_multiBranch : Cond.instanceMethod yn_LO_multiBranch ∈ jl_T := jl_T_of 481 (by decide +kernel) (by decide +kernel)
theorem vx_LO_multiBranch : Cond.selects "FoldedStrand$Loops" yn_LO_multiBranch yn_LO_multiBranch ∈ jl_T := jl_T_of 482 (by decide +kernel) (by decide +kernel)
theorem vs_SR_78 : jl_v "FoldedStrand$Structure" 78 yn_LO_hairpin bc_LO_hairpin 5 (some .int) 2 := ⟨jl_T_of 244 (by decide +kernel) (by decide +kernel), jl_T_of 3 (by decide +kernel) (by decide +kernel), jl_T_of 484 (by decide +kernel) (by decide +kernel), by decide +kernel, by decide +kernel, by decide +kernel⟩
theorem vs_SR_81 : jl_v "FoldedStrand$Structure" 81 yn_LO_withOne bc_LO_withOne 7 (some .int) 4 := ⟨jl_T_of 271 (by decide +kernel) (by decide +kernel), jl_T_of 3 (by decide +kernel) (by decide +kernel), jl_T_of 485 (by decide +kernel) (by decide +kernel), by decide +kernel, by decide +kernel, by decide +kernel⟩
theorem dc_SR_loopEnergy_0 : decode bc_SR_loopEnergy 0 = .ok (.aload_n 0, 1) := by decide +kernel
theorem dc_SR_loopEnergy_1 : decode bc_SR_loopEnergy 1 = .ok (.getfield 9, 3) := by decide +kernel
theorem dc_SR_loopEnergy_4 : decode bc_SR_loopEnergy 4 = .ok (.iload_n 1, 1) := by decide +kernel
theorem dc_SR_loopEnergy_5 : decode bc_SR_loopEnergy 5 = .ok (.iaload, 1) := by decide +kernel
theorem dc_SR_loopEnergy_6 : decode bc_SR_loopEnergy 6 = .ok (.istore_n 2, 1) := by decide +kernel
theorem dc_SR_loopEnergy_7 : decode bc_SR_loopEnergy 7 = .ok (.iconst 0, 1) := by decide +kernel
theorem dc_SR_loopEnergy_8 : decode bc_SR_loopEnergy 8 = .ok (.istore_n 3, 1) := by decide +kernel
theorem dc_SR_loopEnergy_9 : decode bc_SR_loopEnergy 9 = .ok (.iload_n 1, 1) := by decide +kernel
theorem dc_SR_loopEnergy_10 : decode bc_SR_loopEnergy 10 = .ok (.istore 4, 2) := by decide +kernel
theorem dc_SR_loopEnergy_12 : decode bc_SR_loopEnergy 12 = .ok (.aload_n 0, 1) := by decide +kernel
theorem dc_SR_loopEnergy_13 : decode bc_SR_loopEnergy 13 = .ok (.getfield 22, 3) := by decide +kernel
theorem dc_SR_loopEnergy_16 : decode bc_SR_loopEnergy 16 = .ok (.iload_n 1, 1) := by decide +kernel
theorem dc_SR_loopEnergy_17 : decode bc_SR_loopEnergy 17 = .ok (.iload_n 2, 1) := by decide +kernel
theorem dc_SR_loopEnergy_18 : decode bc_SR_loopEnergy 18 = .ok (.invokevirtual 71, 3) := by decide +kernel
theorem dc_SR_loopEnergy_21 : decode bc_SR_loopEnergy 21 = .ok (.istore 5, 2) := by decide +kernel
theorem dc_SR_loopEnergy_23 : decode bc_SR_loopEnergy 23 = .ok (.iload_n 1, 1) := by decide +kernel
theorem dc_SR_loopEnergy_24 : decode bc_SR_loopEnergy 24 = .ok (.istore 6, 2) := by decide +kernel
theorem dc_SR_loopEnergy_26 : decode bc_SR_loopEnergy 26 = .ok (.iload_n 1, 1) := by decide +kernel
theorem dc_SR_loopEnergy_27 : decode bc_SR_loopEnergy 27 = .ok (.iconst 1, 1) := by decide +kernel
theorem dc_SR_loopEnergy_28 : decode bc_SR_loopEnergy 28 = .ok (.iadd, 1) := by decide +kernel
theorem dc_SR_loopEnergy_29 : decode bc_SR_loopEnergy 29 = .ok (.istore 7, 2) := by decide +kernel
theorem dc_SR_loopEnergy_31 : decode bc_SR_loopEnergy 31 = .ok (.iload 7, 2) := by decide +kernel
theorem dc_SR_loopEnergy_33 : decode bc_SR_loopEnergy 33 = .ok (.iload_n 2, 1) := by decide +kernel
theorem dc_SR_loopEnergy_34 : decode bc_SR_loopEnergy 34 = .ok (.if_icmp .ge 70, 3) := by decide +kernel
theorem dc_SR_loopEnergy_37 : decode bc_SR_loopEnergy 37 = .ok (.iload 7, 2) := by decide +kernel
theorem dc_SR_loopEnergy_39 : decode bc_SR_loopEnergy 39 = .ok (.iload 6, 2) := by decide +kernel
theorem dc_SR_loopEnergy_41 : decode bc_SR_loopEnergy 41 = .ok (.if_icmp .le 47, 3) := by decide +kernel
theorem dc_SR_loopEnergy_44 : decode bc_SR_loopEnergy 44 = .ok (.aload_n 0, 1) := by decide +kernel
theorem dc_SR_loopEnergy_45 : decode bc_SR_loopEnergy 45 = .ok (.iload 7, 2) := by decide +kernel
theorem dc_SR_loopEnergy_47 : decode bc_SR_loopEnergy 47 = .ok (.invokevirtual 57, 3) := by decide +kernel
theorem dc_SR_loopEnergy_50 : decode bc_SR_loopEnergy 50 = .ok (.ifCond .eq 38, 3) := by decide +kernel
theorem dc_SR_loopEnergy_53 : decode bc_SR_loopEnergy 53 = .ok (.iinc 3 1, 3) := by decide +kernel
theorem dc_SR_loopEnergy_56 : decode bc_SR_loopEnergy 56 = .ok (.iload 7, 2) := by decide +kernel
theorem dc_SR_loopEnergy_58 : decode bc_SR_loopEnergy 58 = .ok (.istore 4, 2) := by decide +kernel
theorem dc_SR_loopEnergy_60 : decode bc_SR_loopEnergy 60 = .ok (.aload_n 0, 1) := by decide +kernel
theorem dc_SR_loopEnergy_61 : decode bc_SR_loopEnergy 61 = .ok (.getfield 9, 3) := by decide +kernel
theorem dc_SR_loopEnergy_64 : decode bc_SR_loopEnergy 64 = .ok (.iload 7, 2) := by decide +kernel
theorem dc_SR_loopEnergy_66 : decode bc_SR_loopEnergy 66 = .ok (.iaload, 1) := by decide +kernel
theorem dc_SR_loopEnergy_67 : decode bc_SR_loopEnergy 67 = .ok (.istore 6, 2) := by decide +kernel
theorem dc_SR_loopEnergy_69 : decode bc_SR_loopEnergy 69 = .ok (.iload 5, 2) := by decide +kernel
theorem dc_SR_loopEnergy_71 : decode bc_SR_loopEnergy 71 = .ok (.aload_n 0, 1) := by decide +kernel
theorem dc_SR_loopEnergy_72 : decode bc_SR_loopEnergy 72 = .ok (.getfield 22, 3) := by decide +kernel
theorem dc_SR_loopEnergy_75 : decode bc_SR_loopEnergy 75 = .ok (.iload 7, 2) := by decide +kernel
theorem dc_SR_loopEnergy_77 : decode bc_SR_loopEnergy 77 = .ok (.iload 6, 2) := by decide +kernel
theorem dc_SR_loopEnergy_79 : decode bc_SR_loopEnergy 79 = .ok (.invokevirtual 75, 3) := by decide +kernel
theorem dc_SR_loopEnergy_82 : decode bc_SR_loopEnergy 82 = .ok (.iadd, 1) := by decide +kernel
theorem dc_SR_loopEnergy_83 : decode bc_SR_loopEnergy 83 = .ok (.istore 5, 2) := by decide +kernel
theorem dc_SR_loopEnergy_85 : decode bc_SR_loopEnergy 85 = .ok (.goto 13, 3) := by decide +kernel
theorem dc_SR_loopEnergy_88 : decode bc_SR_loopEnergy 88 = .ok (.iload 7, 2) := by decide +kernel
theorem dc_SR_loopEnergy_90 : decode bc_SR_loopEnergy 90 = .ok (.iload 6, 2) := by decide +kernel
theorem dc_SR_loopEnergy_92 : decode bc_SR_loopEnergy 92 = .ok (.if_icmp .le 6, 3) := by decide +kernel
theorem dc_SR_loopEnergy_95 : decode bc_SR_loopEnergy 95 = .ok (.iinc 5 1, 3) := by decide +kernel
theorem dc_SR_loopEnergy_98 : decode bc_SR_loopEnergy 98 = .ok (.iinc 7 1, 3) := by decide +kernel
theorem dc_SR_loopEnergy_101 : decode bc_SR_loopEnergy 101 = .ok (.goto (-70), 3) := by decide +kernel
theorem dc_SR_loopEnergy_104 : decode bc_SR_loopEnergy 104 = .ok (.iload_n 3, 1) := by decide +kernel
theorem dc_SR_loopEnergy_105 : decode bc_SR_loopEnergy 105 = .ok (.ifCond .ne 13, 3) := by decide +kernel
theorem dc_SR_loopEnergy_108 : decode bc_SR_loopEnergy 108 = .ok (.aload_n 0, 1) := by decide +kernel
theorem dc_SR_loopEnergy_109 : decode bc_SR_loopEnergy 109 = .ok (.getfield 22, 3) := by decide +kernel
theorem dc_SR_loopEnergy_112 : decode bc_SR_loopEnergy 112 = .ok (.iload_n 1, 1) := by decide +kernel
theorem dc_SR_loopEnergy_113 : decode bc_SR_loopEnergy 113 = .ok (.iload_n 2, 1) := by decide +kernel
theorem dc_SR_loopEnergy_114 : decode bc_SR_loopEnergy 114 = .ok (.invokevirtual 78, 3) := by decide +kernel
theorem dc_SR_loopEnergy_117 : decode bc_SR_loopEnergy 117 = .ok (.ireturn, 1) := by decide +kernel
theorem dc_SR_loopEnergy_118 : decode bc_SR_loopEnergy 118 = .ok (.iload_n 3, 1) := by decide +kernel
theorem dc_SR_loopEnergy_119 : decode bc_SR_loopEnergy 119 = .ok (.iconst 1, 1) := by decide +kernel
theorem dc_SR_loopEnergy_120 : decode bc_SR_loopEnergy 120 = .ok (.if_icmp .ne 24, 3) := by decide +kernel
theorem dc_SR_loopEnergy_123 : decode bc_SR_loopEnergy 123 = .ok (.aload_n 0, 1) := by decide +kernel
theorem dc_SR_loopEnergy_124 : decode bc_SR_loopEnergy 124 = .ok (.getfield 22, 3) := by decide +kernel
theorem dc_SR_loopEnergy_127 : decode bc_SR_loopEnergy 127 = .ok (.iload_n 1, 1) := by decide +kernel
theorem dc_SR_loopEnergy_128 : decode bc_SR_loopEnergy 128 = .ok (.iload_n 2, 1) := by decide +kernel
theorem dc_SR_loopEnergy_129 : decode bc_SR_loopEnergy 129 = .ok (.iload 4, 2) := by decide +kernel
theorem dc_SR_loopEnergy_131 : decode bc_SR_loopEnergy 131 = .ok (.aload_n 0, 1) := by decide +kernel
theorem dc_SR_loopEnergy_132 : decode bc_SR_loopEnergy 132 = .ok (.getfield 9, 3) := by decide +kernel
theorem dc_SR_loopEnergy_135 : decode bc_SR_loopEnergy 135 = .ok (.iload 4, 2) := by decide +kernel
theorem dc_SR_loopEnergy_137 : decode bc_SR_loopEnergy 137 = .ok (.iaload, 1) := by decide +kernel
theorem dc_SR_loopEnergy_138 : decode bc_SR_loopEnergy 138 = .ok (.invokevirtual 81, 3) := by decide +kernel
theorem dc_SR_loopEnergy_141 : decode bc_SR_loopEnergy 141 = .ok (.goto 5, 3) := by decide +kernel
theorem dc_SR_loopEnergy_144 : decode bc_SR_loopEnergy 144 = .ok (.iload 5, 2) := by decide +kernel
theorem dc_SR_loopEnergy_146 : decode bc_SR_loopEnergy 146 = .ok (.ireturn, 1) := by decide +kernel
abbrev bc_SR_totalEnergy : ByteArray := prog_7_method_10_code
abbrev yn_SR_totalEnergy : MethodName := ⟨"FoldedStrand$Structure", "totalEnergy", "()I"⟩
theorem vs_SR_61 : jl_v "FoldedStrand$Structure" 61 yn_SR_loopEnergy bc_SR_loopEnergy 8 (some .int) 1 := ⟨jl_T_of 478 (by decide +kernel) (by decide +kernel), jl_T_of 7 (by decide +kernel) (by decide +kernel), jl_T_of 475 (by decide +kernel) (by decide +kernel), by decide +kernel, by decide +kernel, by decide +kernel⟩
theorem vi_SR_loopEnergy : Cond.instanceMethod yn_SR_loopEnergy ∈ jl_T := jl_T_of 476 (by decide +kernel) (by decide +kernel)
theorem vx_SR_loopEnergy : Cond.selects "FoldedStrand$Structure" yn_SR_loopEnergy yn_SR_loopEnergy ∈ jl_T := jl_T_of 477 (by decide +kernel) (by decide +kernel)
theorem vs_SR_67 : jl_v "FoldedStrand$Structure" 67 yn_ST_ifWeak bc_ST_ifWeak 4 (some .int) 3 := ⟨jl_T_of 256 (by decide +kernel) (by decide +kernel), jl_T_of 2 (by decide +kernel) (by decide +kernel), jl_T_of 486 (by decide +kernel) (by decide +kernel), by decide +kernel, by decide +kernel, by decide +kernel⟩
theorem dc_SR_totalEnergy_0 : decode bc_SR_totalEnergy 0 = .ok (.iconst 0, 1) := by decide +kernel
theorem dc_SR_totalEnergy_1 : decode bc_SR_totalEnergy 1 = .ok (.istore_n 1, 1) := by decide +kernel
theorem dc_SR_totalEnergy_2 : decode bc_SR_totalEnergy 2 = .ok (.iconst (-1), 1) := by decide +kernel
theorem dc_SR_totalEnergy_3 : decode bc_SR_totalEnergy 3 = .ok (.istore_n 2, 1) := by decide +kernel
theorem dc_SR_totalEnergy_4 : decode bc_SR_totalEnergy 4 = .ok (.iconst 0, 1) := by decide +kernel
theorem dc_SR_totalEnergy_5 : decode bc_SR_totalEnergy 5 = .ok (.istore_n 3, 1) := by decide +kernel
theorem dc_SR_totalEnergy_6 : decode bc_SR_totalEnergy 6 = .ok (.iload_n 3, 1) := by decide +kernel
theorem dc_SR_totalEnergy_7 : decode bc_SR_totalEnergy 7 = .ok (.aload_n 0, 1) := by decide +kernel
theorem dc_SR_totalEnergy_8 : decode bc_SR_totalEnergy 8 = .ok (.getfield 18, 3) := by decide +kernel
theorem dc_SR_totalEnergy_11 : decode bc_SR_totalEnergy 11 = .ok (.invokevirtual 45, 3) := by decide +kernel
theorem dc_SR_totalEnergy_14 : decode bc_SR_totalEnergy 14 = .ok (.if_icmp .ge 55, 3) := by decide +kernel
theorem dc_SR_totalEnergy_17 : decode bc_SR_totalEnergy 17 = .ok (.aload_n 0, 1) := by decide +kernel
theorem dc_SR_totalEnergy_18 : decode bc_SR_totalEnergy 18 = .ok (.iload_n 3, 1) := by decide +kernel
theorem dc_SR_totalEnergy_19 : decode bc_SR_totalEnergy 19 = .ok (.invokevirtual 57, 3) := by decide +kernel
theorem dc_SR_totalEnergy_22 : decode bc_SR_totalEnergy 22 = .ok (.ifCond .eq 41, 3) := by decide +kernel
theorem dc_SR_totalEnergy_25 : decode bc_SR_totalEnergy 25 = .ok (.iload_n 1, 1) := by decide +kernel
theorem dc_SR_totalEnergy_26 : decode bc_SR_totalEnergy 26 = .ok (.aload_n 0, 1) := by decide +kernel
theorem dc_SR_totalEnergy_27 : decode bc_SR_totalEnergy 27 = .ok (.iload_n 3, 1) := by decide +kernel
theorem dc_SR_totalEnergy_28 : decode bc_SR_totalEnergy 28 = .ok (.invokevirtual 61, 3) := by decide +kernel
theorem dc_SR_totalEnergy_31 : decode bc_SR_totalEnergy 31 = .ok (.iadd, 1) := by decide +kernel
theorem dc_SR_totalEnergy_32 : decode bc_SR_totalEnergy 32 = .ok (.istore_n 1, 1) := by decide +kernel
theorem dc_SR_totalEnergy_33 : decode bc_SR_totalEnergy 33 = .ok (.iload_n 3, 1) := by decide +kernel
theorem dc_SR_totalEnergy_34 : decode bc_SR_totalEnergy 34 = .ok (.iload_n 2, 1) := by decide +kernel
theorem dc_SR_totalEnergy_35 : decode bc_SR_totalEnergy 35 = .ok (.if_icmp .le 28, 3) := by decide +kernel
theorem dc_SR_totalEnergy_38 : decode bc_SR_totalEnergy 38 = .ok (.iload_n 1, 1) := by decide +kernel
theorem dc_SR_totalEnergy_39 : decode bc_SR_totalEnergy 39 = .ok (.aload_n 0, 1) := by decide +kernel
theorem dc_SR_totalEnergy_40 : decode bc_SR_totalEnergy 40 = .ok (.getfield 18, 3) := by decide +kernel
theorem dc_SR_totalEnergy_43 : decode bc_SR_totalEnergy 43 = .ok (.iload_n 3, 1) := by decide +kernel
theorem dc_SR_totalEnergy_44 : decode bc_SR_totalEnergy 44 = .ok (.aload_n 0, 1) := by decide +kernel
theorem dc_SR_totalEnergy_45 : decode bc_SR_totalEnergy 45 = .ok (.getfield 9, 3) := by decide +kernel
theorem dc_SR_totalEnergy_48 : decode bc_SR_totalEnergy 48 = .ok (.iload_n 3, 1) := by decide +kernel
theorem dc_SR_totalEnergy_49 : decode bc_SR_totalEnergy 49 = .ok (.iaload, 1) := by decide +kernel
theorem dc_SR_totalEnergy_50 : decode bc_SR_totalEnergy 50 = .ok (.iconst 5, 1) := by decide +kernel
theorem dc_SR_totalEnergy_51 : decode bc_SR_totalEnergy 51 = .ok (.invokevirtual 67, 3) := by decide +kernel
theorem dc_SR_totalEnergy_54 : decode bc_SR_totalEnergy 54 = .ok (.iadd, 1) := by decide +kernel
theorem dc_SR_totalEnergy_55 : decode bc_SR_totalEnergy 55 = .ok (.istore_n 1, 1) := by decide +kernel
theorem dc_SR_totalEnergy_56 : decode bc_SR_totalEnergy 56 = .ok (.aload_n 0, 1) := by decide +kernel
theorem dc_SR_totalEnergy_57 : decode bc_SR_totalEnergy 57 = .ok (.getfield 9, 3) := by decide +kernel
theorem dc_SR_totalEnergy_60 : decode bc_SR_totalEnergy 60 = .ok (.iload_n 3, 1) := by decide +kernel
theorem dc_SR_totalEnergy_61 : decode bc_SR_totalEnergy 61 = .ok (.iaload, 1) := by decide +kernel
theorem dc_SR_totalEnergy_62 : decode bc_SR_totalEnergy 62 = .ok (.istore_n 2, 1) := by decide +kernel
theorem dc_SR_totalEnergy_63 : decode bc_SR_totalEnergy 63 = .ok (.iinc 3 1, 3) := by decide +kernel
theorem dc_SR_totalEnergy_66 : decode bc_SR_totalEnergy 66 = .ok (.goto (-60), 3) := by decide +kernel
theorem dc_SR_totalEnergy_69 : decode bc_SR_totalEnergy 69 = .ok (.iload_n 1, 1) := by decide +kernel
theorem dc_SR_totalEnergy_70 : decode bc_SR_totalEnergy 70 = .ok (.ireturn, 1) := by decide +kernel
abbrev bc_FS_energy : ByteArray := prog_1_method_13_code
abbrev yn_FS_energy : MethodName := ⟨"FoldedStrand", "energy", "()I"⟩
theorem vs_FS_113 : jl_v "FoldedStrand" 113 yn_SR_totalEnergy bc_SR_totalEnergy 4 (some .int) 0 := ⟨jl_T_of 470 (by decide +kernel) (by decide +kernel), jl_T_of 7 (by decide +kernel) (by decide +kernel), jl_T_of 467 (by decide +kernel) (by decide +kernel), by decide +kernel, by decide +kernel, by decide +kernel⟩
theorem vi_SR_totalEnergy : Cond.instanceMethod yn_SR_totalEnergy ∈ jl_T := jl_T_of 468 (by decide +kernel) (by decide +kernel)
theorem vx_SR_totalEnergy : Cond.selects "FoldedStrand$Structure" yn_SR_totalEnergy yn_SR_totalEnergy ∈ jl_T := jl_T_of 469 (by decide +kernel) (by decide +kernel)
theorem dc_FS_energy_0 : decode bc_FS_energy 0 = .ok (.aload_n 0, 1) := by decide +kernel
theorem dc_FS_energy_1 : decode bc_FS_energy 1 = .ok (.getfield 42, 3) := by decide +kernel
theorem dc_FS_energy_4 : decode bc_FS_energy 4 = .ok (.invokevirtual 113, 3) := by decide +kernel
theorem dc_FS_energy_7 : decode bc_FS_energy 7 = .ok (.ireturn, 1) := by decide +kernel
abbrev bc_FS_loop : ByteArray := prog_1_method_15_code
abbrev yn_FS_loop : MethodName := ⟨"FoldedStrand", "loop", "(I)I"⟩
theorem vs_FS_122 : jl_v "FoldedStrand" 122 yn_SR_opensAt bc_SR_opensAt 2 (some .boolean) 1 := ⟨jl_T_of 474 (by decide +kernel) (by decide +kernel), jl_T_of 7 (by decide +kernel) (by decide +kernel), jl_T_of 503 (by decide +kernel) (by decide +kernel), by decide +kernel, by decide +kernel, by decide +kernel⟩
theorem vs_FS_125 : jl_v "FoldedStrand" 125 yn_SR_loopEnergy bc_SR_loopEnergy 8 (some .int) 1 := ⟨jl_T_of 478 (by decide +kernel) (by decide +kernel), jl_T_of 7 (by decide +kernel) (by decide +kernel), jl_T_of 504 (by decide +kernel) (by decide +kernel), by decide +kernel, by decide +kernel, by decide +kernel⟩
theorem dc_FS_loop_0 : decode bc_FS_loop 0 = .ok (.aload_n 0, 1) := by decide +kernel
theorem dc_FS_loop_1 : decode bc_FS_loop 1 = .ok (.getfield 10, 3) := by decide +kernel
theorem dc_FS_loop_4 : decode bc_FS_loop 4 = .ok (.iload_n 1, 1) := by decide +kernel
theorem dc_FS_loop_5 : decode bc_FS_loop 5 = .ok (.invokevirtual 94, 3) := by decide +kernel
theorem dc_FS_loop_8 : decode bc_FS_loop 8 = .ok (.ifCond .eq 25, 3) := by decide +kernel
theorem dc_FS_loop_11 : decode bc_FS_loop 11 = .ok (.aload_n 0, 1) := by decide +kernel
theorem dc_FS_loop_12 : decode bc_FS_loop 12 = .ok (.getfield 42, 3) := by decide +kernel
theorem dc_FS_loop_15 : decode bc_FS_loop 15 = .ok (.iload_n 1, 1) := by decide +kernel
theorem dc_FS_loop_16 : decode bc_FS_loop 16 = .ok (.invokevirtual 122, 3) := by decide +kernel
theorem dc_FS_loop_19 : decode bc_FS_loop 19 = .ok (.ifCond .eq 14, 3) := by decide +kernel
theorem dc_FS_loop_22 : decode bc_FS_loop 22 = .ok (.aload_n 0, 1) := by decide +kernel
theorem dc_FS_loop_23 : decode bc_FS_loop 23 = .ok (.getfield 42, 3) := by decide +kernel
theorem dc_FS_loop_26 : decode bc_FS_loop 26 = .ok (.iload_n 1, 1) := by decide +kernel
theorem dc_FS_loop_27 : decode bc_FS_loop 27 = .ok (.invokevirtual 125, 3) := by decide +kernel
theorem dc_FS_loop_30 : decode bc_FS_loop 30 = .ok (.goto 4, 3) := by decide +kernel
theorem dc_FS_loop_33 : decode bc_FS_loop 33 = .ok (.iconst 0, 1) := by decide +kernel
theorem dc_FS_loop_34 : decode bc_FS_loop 34 = .ok (.ireturn, 1) := by decide +kernel
section SR
variable (l : Launch) {K : Nat → ClassId} {sa : Nat → Nat} {ad : Nat → Nat} {I : Nat → Int32} {V : Nat → Nat → Int32} {L : Nat → Int64} {C : Nat → Int32} {G : Nat → Nat} {R : Nat → Nat} {n : Nat} {b : Nat → Nat} {w : Nat → Int}
theorem c_SR1_loopEnergy (hS : st_ok K ad (gw K ad I V L C G R) n b) (hM : V 154 = fun k => iI (w k)) (hw : en_V b n w) {i j : Nat} (hij : i < j) (hwi : w i = j) : jl_C l K sa yn_SR_loopEnergy bc_SR_loopEnergy 8 (some .int) 4 125 168 ad [.ref (ad 153), .int (nI i)] (gw K ad I V L C G R) (some (.int (iI (lp_loop b w i j)))) (gw K ad I V L C G R) := by
  refine jl_enter (by decide) (Nat.le_of_ble_eq_true rfl) (fun x h he hr => ?_)
  obtain ⟨hST, hbases, hn, hb⟩ := id hS
  show jl_J x 168 ad 0 0 (gw K ad I V L C G R) 0 [(0, .ref (ad 153)), (1, .int (nI i))] []
  have hcp0 : en_cp b i j = true := by
    have := hw.2.1 i (by omega)
    rwa [hwi, Int.toNat_natCast] at this
  have hj18 : j < n := by
    rcases hw.1 i with h1 | h1 <;> omega
  obtain ⟨hcp4, hkd⟩ := en_cp_4 hcp0
  have hmat : gw K ad I V L C G R 154 = .inl (K 0, 18, .inl (fun k => iI (w k))) := gw_at rfl rfl hM
  have loop : ∀ (dd p : Nat), p + dd = j → i < p → ∀ (bs : List (Nat × Nat)) (u r la : Nat), i ≤ r → r < j → (∀ s, s ∈ bs → i < s.1 ∧ s.1 < s.2 ∧ s.2 < j ∧ w s.1 = (s.2 : Int)) → (bs = [] ∨ ∃ bs0 m, bs = bs0 ++ [(la, m)]) → tp_l w (i + 1) j = (bs ++ (tp_l w (if p ≤ r then r + 1 else p) j).1, u + (tp_l w (if p ≤ r then r + 1 else p) j).2) → u ≤ p → bs.length ≤ p → la < 18 → jl_J x 168 ad 0 0 (gw K ad I V L C G R) 31 [(7, .int (nI p)), (6, .int (nI r)), (5, .int (iI (38 + lp_wk b i j 5 + 4 * (bs.length : Int) + lp_ws b bs + u))), (4, .int (nI la)), (3, .int (nI bs.length)), (2, .int (nI j)), (0, .ref (ad 153)), (1, .int (nI i))] [] := by
    intro dd
    induction dd with
    | zero =>
      intro p hp hip bs u r la hir hrj hbs hla htp hu hlen hla18
      have hp : p = j := by omega
      subst hp
      rw [tp_end (show p ≤ (if p ≤ r then r + 1 else p) by split <;> omega), List.append_nil] at htp
      have z0 : (0 : Int32) = nI 0 := rfl
      have z1 : (1 : Int32) = nI 1 := rfl
      match bs, hbs, hla, htp, hlen with
      | [], hbs, hla, htp, hlen =>
        refine jl_iload h rfl dc_SR_loopEnergy_31 33 rfl ?_
        refine jl_iload_n (i := 2) h rfl rfl dc_SR_loopEnergy_33 34 rfl ?_
        refine jl_icmp_ge h 104 (by decide) dc_SR_loopEnergy_34 37 rfl (fun c34 => ?_) (fun c34 => absurd (nI_le (Nat.le_refl _) (by omega)) c34)
        refine jl_iload_n (i := 3) h rfl rfl dc_SR_loopEnergy_104 105 rfl ?_
        refine jl_if_ne h 118 (by decide) dc_SR_loopEnergy_105 108 rfl (fun c105 => absurd (rfl) c105) (fun c105 => ?_)
        refine jl_aload_n (i := 0) h rfl rfl dc_SR_loopEnergy_108 109 rfl ?_
        refine jl_getf h nm_c_SR 6 wl_SR_22 (by omega) (by decide) (by exact rfl) (by rfl) dc_SR_loopEnergy_109 112 rfl ?_
        refine jl_iload_n (i := 1) h rfl rfl dc_SR_loopEnergy_112 113 rfl ?_
        refine jl_iload_n (i := 2) h rfl rfl dc_SR_loopEnergy_113 114 rfl ?_
        refine jl_callV (As := [_, _]) (rest := []) h hr vs_SR_78 vi_LO_hairpin vx_LO_hairpin (ci := 2) rfl (by omega) (by exact rfl) (fun l => c_LO_hairpin l (by omega) hS rfl hcp4 (by omega)) (by first | decide | omega) (by first | decide | omega) rfl rfl (Nat.le_of_ble_eq_true rfl) dc_SR_loopEnergy_114 (res := [_]) rfl 117 rfl ?_
        exact jl_zret h he rfl (by unfold lp_loop; rw [htp]; rfl) (rfl) dc_SR_loopEnergy_117
      | [(k, m)], hbs, hla, htp, hlen =>
        have hk := hbs (k, m) List.mem_cons_self
        have hlk : la = k := by
          rcases hla with h9 | ⟨bs0, m0, h9⟩
          · cases h9
          · have h8 := congrArg List.getLast? h9
            rw [List.getLast?_concat] at h8
            have h7 := Option.some.inj h8
            exact (congrArg Prod.fst h7).symm
        subst hlk
        have hk1 : i < la ∧ la < m ∧ m < p ∧ w la = (m : Int) := hk
        have hcp1 : en_cp b la m = true := by
          have := hw.2.1 la (by omega)
          rwa [hk1.2.2.2, Int.toNat_natCast] at this
        refine jl_iload h rfl dc_SR_loopEnergy_31 33 rfl ?_
        refine jl_iload_n (i := 2) h rfl rfl dc_SR_loopEnergy_33 34 rfl ?_
        refine jl_icmp_ge h 104 (by decide) dc_SR_loopEnergy_34 37 rfl (fun c34 => ?_) (fun c34 => absurd (nI_le (Nat.le_refl _) (by omega)) c34)
        refine jl_iload_n (i := 3) h rfl rfl dc_SR_loopEnergy_104 105 rfl ?_
        refine jl_if_ne h 118 (by decide) dc_SR_loopEnergy_105 108 rfl (fun c105 => ?_) (fun c105 => absurd c105 (by show ¬ nI 1 = 0; decide))
        refine jl_iload_n (i := 3) h rfl rfl dc_SR_loopEnergy_118 119 rfl ?_
        refine jl_iconst (v := 1) h (by decide) dc_SR_loopEnergy_119 120 rfl ?_
        refine jl_icmp_ne h 144 (by decide) dc_SR_loopEnergy_120 123 rfl (fun c120 => absurd (rfl) c120) (fun c120 => ?_)
        refine jl_aload_n (i := 0) h rfl rfl dc_SR_loopEnergy_123 124 rfl ?_
        refine jl_getf h nm_c_SR 6 wl_SR_22 (by omega) (by decide) (by exact rfl) (by rfl) dc_SR_loopEnergy_124 127 rfl ?_
        refine jl_iload_n (i := 1) h rfl rfl dc_SR_loopEnergy_127 128 rfl ?_
        refine jl_iload_n (i := 2) h rfl rfl dc_SR_loopEnergy_128 129 rfl ?_
        refine jl_iload h rfl dc_SR_loopEnergy_129 131 rfl ?_
        refine jl_aload_n (i := 0) h rfl rfl dc_SR_loopEnergy_131 132 rfl ?_
        refine jl_getf h nm_c_SR 0 wl_SR_9 (by omega) (by decide) (by exact rfl) (by rfl) dc_SR_loopEnergy_132 135 rfl ?_
        refine jl_iload h rfl dc_SR_loopEnergy_135 137 rfl ?_
        refine jl_iald (v := nI m) h (la) (by exact rfl) (by omega) (by exact hmat) (by exact by omega) (by first | decide | assumption) (by exact by show iI (w la) = nI m; rw [hk1.2.2.2, iI_nat]) dc_SR_loopEnergy_137 138 rfl ?_
        refine jl_callV (As := [_, _, _, _]) (rest := []) h hr vs_SR_81 vi_LO_withOne vx_LO_withOne (ci := 2) rfl (by omega) (by exact rfl) (fun l => c_LO_withOne l (by omega) hS rfl hk1.1 hk1.2.1 hk1.2.2.1 (by omega) hkd (en_cp_4 hcp1).2) (by first | decide | omega) (by first | decide | omega) rfl rfl (Nat.le_of_ble_eq_true rfl) dc_SR_loopEnergy_138 (res := [_]) rfl 141 rfl ?_
        refine jl_goto h 146 (by decide) dc_SR_loopEnergy_141 ?_
        exact jl_zret h he rfl (by unfold lp_loop; rw [htp]; rfl) (rfl) dc_SR_loopEnergy_146
      | a :: c :: bs, hbs, hla, htp, hlen =>
        have hl2 : 2 ≤ (a :: c :: bs).length := by simp
        have hmany : lp_loop b w i p = 38 + lp_wk b i p 5 + 4 * (((a :: c :: bs).length : Nat) : Int) + lp_ws b (a :: c :: bs) + u := by
          unfold lp_loop
          rw [htp, lp_of_many hl2]
          show 34 + 4 * (((a :: c :: bs).length : Int) + 1) + ((u + 0 : Nat) : Int) + lp_wk b i p 5 + lp_ws b (a :: c :: bs) = _
          omega
        have hne0 : ¬ nI (a :: c :: bs).length = 0 := nI_ne0 (by simp) (by omega)
        have hne1 : ¬ nI (a :: c :: bs).length = 1 := by
          rw [z1, nI_eq (by omega) (by decide)]
          omega
        refine jl_iload h rfl dc_SR_loopEnergy_31 33 rfl ?_
        refine jl_iload_n (i := 2) h rfl rfl dc_SR_loopEnergy_33 34 rfl ?_
        refine jl_icmp_ge h 104 (by decide) dc_SR_loopEnergy_34 37 rfl (fun c34 => ?_) (fun c34 => absurd (nI_le (Nat.le_refl _) (by omega)) c34)
        refine jl_iload_n (i := 3) h rfl rfl dc_SR_loopEnergy_104 105 rfl ?_
        refine jl_if_ne h 118 (by decide) dc_SR_loopEnergy_105 108 rfl (fun c105 => ?_) (fun c105 => absurd c105 (hne0))
        refine jl_iload_n (i := 3) h rfl rfl dc_SR_loopEnergy_118 119 rfl ?_
        refine jl_iconst (v := 1) h (by decide) dc_SR_loopEnergy_119 120 rfl ?_
        refine jl_icmp_ne h 144 (by decide) dc_SR_loopEnergy_120 123 rfl (fun c120 => ?_) (fun c120 => absurd c120 (hne1))
        refine jl_iload h rfl dc_SR_loopEnergy_144 146 rfl ?_
        exact jl_zret h he rfl (by rw [hmany]) (rfl) dc_SR_loopEnergy_146
    | succ dd ih =>
      intro p hp hip bs u r la hir hrj hbs hla htp hu hlen hla18
      have hp18 : p < 18 := by omega
      have hin := en_V_in hw p
      have h39 : (p : Int) < w p → w p < j := fun h9 => by
        rcases hw.2.2 i p hip (by omega) with h8 | h8 <;> omega
      have hin2 : w p < 18 := by omega
      refine jl_iload h rfl dc_SR_loopEnergy_31 33 rfl ?_
      refine jl_iload_n (i := 2) h rfl rfl dc_SR_loopEnergy_33 34 rfl ?_
      refine jl_icmp_ge h 104 (by decide) dc_SR_loopEnergy_34 37 rfl (fun c34 => absurd c34 (nI_ge (by omega) (by omega))) (fun c34 => ?_)
      refine jl_iload h rfl dc_SR_loopEnergy_37 39 rfl ?_
      refine jl_iload h rfl dc_SR_loopEnergy_39 41 rfl ?_
      refine jl_icmp_le h 88 (by decide) dc_SR_loopEnergy_41 44 rfl (fun c41 => ?_) (fun c41 => ?_)
      · skip
        rw [nI_leI (by omega) (by omega)] at c41
        refine jl_iload h rfl dc_SR_loopEnergy_88 90 rfl ?_
        refine jl_iload h rfl dc_SR_loopEnergy_90 92 rfl ?_
        refine jl_icmp_le h 98 (by decide) dc_SR_loopEnergy_92 95 rfl (fun c92 => ?_) (fun c92 => ?_)
        · skip
          rw [nI_leI (by omega) (by omega)] at c92
          refine jl_iinc (i := 7) (d := 1) (lc2 := [(7, _), (6, _), (5, _), (4, _), (3, _), (2, _), (0, _), (1, _)]) (v2 := nI (p + 1)) h (by decide) rfl (nI_1 p) rfl dc_SR_loopEnergy_98 101 rfl ?_
          refine jl_goto h 31 (by decide) dc_SR_loopEnergy_101 ?_
          first
            | exact absurd c92 (by omega)
            | (have e9 : bs.length + 1 = (bs ++ [(p, m)]).length := by simp
               rw [e9]
               refine ih (p + 1) (by omega) (by omega) (bs ++ [(p, m)]) u m p (by omega) (by omega) (fun s hs => ?_) (Or.inr ⟨bs, m, rfl⟩) ?_ (by omega) (by rw [← e9]; omega) hp18
               · rcases List.mem_append.mp hs with h9 | h9
                 · exact hbs s h9
                 · rw [List.mem_singleton] at h9; subst h9; exact ⟨hip, hpm, by show m < j; omega, hm⟩
               · rw [if_neg c41, tp_pair (show p < j by omega) hpm hm] at htp
                 rw [if_pos (by omega), htp, List.append_assoc]; rfl)
            | (refine ih (p + 1) (by omega) (by omega) bs (u + 1) r la hir hrj hbs hla ?_ (by omega) (by omega) hla18
               rw [if_neg c41, tp_free (show p < j by omega) c50] at htp
               rw [if_neg (by omega), htp]
               refine Prod.ext rfl ?_
               show u + ((tp_l w (p + 1) j).2 + 1) = u + 1 + (tp_l w (p + 1) j).2
               omega)
            | (refine ih (p + 1) (by omega) (by omega) bs u r la hir hrj hbs hla ?_ (by omega) (by omega) hla18
               rw [if_pos c41] at htp
               rw [htp]
               by_cases h9 : p + 1 ≤ r
               · rw [if_pos h9]
               · rw [if_neg h9, show p + 1 = r + 1 by omega])
        · skip
          rw [nI_leI (by omega) (by omega)] at c92
          refine jl_iinc (i := 5) (d := 1) (lc2 := [(5, _), (7, _), (6, _), (4, _), (3, _), (2, _), (0, _), (1, _)]) (v2 := iI (38 + lp_wk b i j 5 + 4 * (bs.length : Int) + lp_ws b bs + ((u + 1 : Nat) : Int))) h (by decide) rfl (by rw [show Int32.ofInt 1 = iI 1 from rfl, iI_add]; congr 1; omega) rfl dc_SR_loopEnergy_95 98 rfl ?_
          refine jl_iinc (i := 7) (d := 1) (lc2 := [(7, _), (5, _), (6, _), (4, _), (3, _), (2, _), (0, _), (1, _)]) (v2 := nI (p + 1)) h (by decide) rfl (nI_1 p) rfl dc_SR_loopEnergy_98 101 rfl ?_
          refine jl_goto h 31 (by decide) dc_SR_loopEnergy_101 ?_
          refine jl_sub (lc2 := [(7, _), (6, _), (5, _), (4, _), (3, _), (2, _), (0, _), (1, _)]) [0, 2, 1, 3, 4, 5, 6, 7] rfl ?_
          first
            | exact absurd c92 (by omega)
            | (have e9 : bs.length + 1 = (bs ++ [(p, m)]).length := by simp
               rw [e9]
               refine ih (p + 1) (by omega) (by omega) (bs ++ [(p, m)]) u m p (by omega) (by omega) (fun s hs => ?_) (Or.inr ⟨bs, m, rfl⟩) ?_ (by omega) (by rw [← e9]; omega) hp18
               · rcases List.mem_append.mp hs with h9 | h9
                 · exact hbs s h9
                 · rw [List.mem_singleton] at h9; subst h9; exact ⟨hip, hpm, by show m < j; omega, hm⟩
               · rw [if_neg c41, tp_pair (show p < j by omega) hpm hm] at htp
                 rw [if_pos (by omega), htp, List.append_assoc]; rfl)
            | (refine ih (p + 1) (by omega) (by omega) bs (u + 1) r la hir hrj hbs hla ?_ (by omega) (by omega) hla18
               rw [if_neg c41, tp_free (show p < j by omega) c50] at htp
               rw [if_neg (by omega), htp]
               refine Prod.ext rfl ?_
               show u + ((tp_l w (p + 1) j).2 + 1) = u + 1 + (tp_l w (p + 1) j).2
               omega)
            | (refine ih (p + 1) (by omega) (by omega) bs u r la hir hrj hbs hla ?_ (by omega) (by omega) hla18
               rw [if_pos c41] at htp
               rw [htp]
               by_cases h9 : p + 1 ≤ r
               · rw [if_pos h9]
               · rw [if_neg h9, show p + 1 = r + 1 by omega])
      · skip
        rw [nI_leI (by omega) (by omega)] at c41
        refine jl_aload_n (i := 0) h rfl rfl dc_SR_loopEnergy_44 45 rfl ?_
        refine jl_iload h rfl dc_SR_loopEnergy_45 47 rfl ?_
        refine jl_callV (As := [_]) (rest := []) h hr vs_SR_57 vi_SR_opensAt vx_SR_opensAt (ci := 6) rfl (by omega) (by exact rfl) (fun l => c_SR1_opensAt l hM hp18 hin.1 hin2) (by first | decide | omega) (by first | decide | omega) rfl rfl (Nat.le_of_ble_eq_true rfl) dc_SR_loopEnergy_47 (res := [_]) rfl 50 rfl ?_
        refine jl_if_eq h 88 (by decide) dc_SR_loopEnergy_50 53 rfl (fun c50 => ?_) (fun c50 => ?_)
        · skip
          rw [st_b0] at c50
          have c50 := of_decide_eq_false c50
          refine jl_iload h rfl dc_SR_loopEnergy_88 90 rfl ?_
          refine jl_iload h rfl dc_SR_loopEnergy_90 92 rfl ?_
          refine jl_icmp_le h 98 (by decide) dc_SR_loopEnergy_92 95 rfl (fun c92 => ?_) (fun c92 => ?_)
          · skip
            rw [nI_leI (by omega) (by omega)] at c92
            refine jl_iinc (i := 7) (d := 1) (lc2 := [(7, _), (6, _), (5, _), (4, _), (3, _), (2, _), (0, _), (1, _)]) (v2 := nI (p + 1)) h (by decide) rfl (nI_1 p) rfl dc_SR_loopEnergy_98 101 rfl ?_
            refine jl_goto h 31 (by decide) dc_SR_loopEnergy_101 ?_
            first
              | exact absurd c92 (by omega)
              | (have e9 : bs.length + 1 = (bs ++ [(p, m)]).length := by simp
                 rw [e9]
                 refine ih (p + 1) (by omega) (by omega) (bs ++ [(p, m)]) u m p (by omega) (by omega) (fun s hs => ?_) (Or.inr ⟨bs, m, rfl⟩) ?_ (by omega) (by rw [← e9]; omega) hp18
                 · rcases List.mem_append.mp hs with h9 | h9
                   · exact hbs s h9
                   · rw [List.mem_singleton] at h9; subst h9; exact ⟨hip, hpm, by show m < j; omega, hm⟩
                 · rw [if_neg c41, tp_pair (show p < j by omega) hpm hm] at htp
                   rw [if_pos (by omega), htp, List.append_assoc]; rfl)
              | (refine ih (p + 1) (by omega) (by omega) bs (u + 1) r la hir hrj hbs hla ?_ (by omega) (by omega) hla18
                 rw [if_neg c41, tp_free (show p < j by omega) c50] at htp
                 rw [if_neg (by omega), htp]
                 refine Prod.ext rfl ?_
                 show u + ((tp_l w (p + 1) j).2 + 1) = u + 1 + (tp_l w (p + 1) j).2
                 omega)
              | (refine ih (p + 1) (by omega) (by omega) bs u r la hir hrj hbs hla ?_ (by omega) (by omega) hla18
                 rw [if_pos c41] at htp
                 rw [htp]
                 by_cases h9 : p + 1 ≤ r
                 · rw [if_pos h9]
                 · rw [if_neg h9, show p + 1 = r + 1 by omega])
          · skip
            rw [nI_leI (by omega) (by omega)] at c92
            refine jl_iinc (i := 5) (d := 1) (lc2 := [(5, _), (7, _), (6, _), (4, _), (3, _), (2, _), (0, _), (1, _)]) (v2 := iI (38 + lp_wk b i j 5 + 4 * (bs.length : Int) + lp_ws b bs + ((u + 1 : Nat) : Int))) h (by decide) rfl (by rw [show Int32.ofInt 1 = iI 1 from rfl, iI_add]; congr 1; omega) rfl dc_SR_loopEnergy_95 98 rfl ?_
            refine jl_iinc (i := 7) (d := 1) (lc2 := [(7, _), (5, _), (6, _), (4, _), (3, _), (2, _), (0, _), (1, _)]) (v2 := nI (p + 1)) h (by decide) rfl (nI_1 p) rfl dc_SR_loopEnergy_98 101 rfl ?_
            refine jl_goto h 31 (by decide) dc_SR_loopEnergy_101 ?_
            refine jl_sub (lc2 := [(7, _), (6, _), (5, _), (4, _), (3, _), (2, _), (0, _), (1, _)]) [0, 2, 1, 3, 4, 5, 6, 7] rfl ?_
            first
              | exact absurd c92 (by omega)
              | (have e9 : bs.length + 1 = (bs ++ [(p, m)]).length := by simp
                 rw [e9]
                 refine ih (p + 1) (by omega) (by omega) (bs ++ [(p, m)]) u m p (by omega) (by omega) (fun s hs => ?_) (Or.inr ⟨bs, m, rfl⟩) ?_ (by omega) (by rw [← e9]; omega) hp18
                 · rcases List.mem_append.mp hs with h9 | h9
                   · exact hbs s h9
                   · rw [List.mem_singleton] at h9; subst h9; exact ⟨hip, hpm, by show m < j; omega, hm⟩
                 · rw [if_neg c41, tp_pair (show p < j by omega) hpm hm] at htp
                   rw [if_pos (by omega), htp, List.append_assoc]; rfl)
              | (refine ih (p + 1) (by omega) (by omega) bs (u + 1) r la hir hrj hbs hla ?_ (by omega) (by omega) hla18
                 rw [if_neg c41, tp_free (show p < j by omega) c50] at htp
                 rw [if_neg (by omega), htp]
                 refine Prod.ext rfl ?_
                 show u + ((tp_l w (p + 1) j).2 + 1) = u + 1 + (tp_l w (p + 1) j).2
                 omega)
              | (refine ih (p + 1) (by omega) (by omega) bs u r la hir hrj hbs hla ?_ (by omega) (by omega) hla18
                 rw [if_pos c41] at htp
                 rw [htp]
                 by_cases h9 : p + 1 ≤ r
                 · rw [if_pos h9]
                 · rw [if_neg h9, show p + 1 = r + 1 by omega])
        · skip
          rw [st_b1] at c50
          have c50 := of_decide_eq_true c50
          obtain ⟨m, hm⟩ : ∃ m : Nat, w p = m := ⟨(w p).toNat, by omega⟩
          have hmj := h39 c50
          have hpm : p < m := by omega
          refine jl_iinc (i := 3) (d := 1) (lc2 := [(3, _), (7, _), (6, _), (5, _), (4, _), (2, _), (0, _), (1, _)]) (v2 := nI (bs.length + 1)) h (by decide) rfl (nI_1 _) rfl dc_SR_loopEnergy_53 56 rfl ?_
          refine jl_iload h rfl dc_SR_loopEnergy_56 58 rfl ?_
          refine jl_istore (i := 4) (lc2 := [(4, _), (3, _), (7, _), (6, _), (5, _), (2, _), (0, _), (1, _)]) h (by decide) rfl dc_SR_loopEnergy_58 60 rfl ?_
          refine jl_aload_n (i := 0) h rfl rfl dc_SR_loopEnergy_60 61 rfl ?_
          refine jl_getf h nm_c_SR 0 wl_SR_9 (by omega) (by decide) (by exact rfl) (by rfl) dc_SR_loopEnergy_61 64 rfl ?_
          refine jl_iload h rfl dc_SR_loopEnergy_64 66 rfl ?_
          refine jl_iald (v := nI m) h (p) (by exact rfl) (by omega) (by exact hmat) (by exact hp18) (by first | decide | assumption) (by exact by show iI (w p) = nI m; rw [hm, iI_nat]) dc_SR_loopEnergy_66 67 rfl ?_
          refine jl_istore (i := 6) (lc2 := [(6, _), (4, _), (3, _), (7, _), (5, _), (2, _), (0, _), (1, _)]) h (by decide) rfl dc_SR_loopEnergy_67 69 rfl ?_
          refine jl_iload h rfl dc_SR_loopEnergy_69 71 rfl ?_
          refine jl_aload_n (i := 0) h rfl rfl dc_SR_loopEnergy_71 72 rfl ?_
          refine jl_getf h nm_c_SR 6 wl_SR_22 (by omega) (by decide) (by exact rfl) (by rfl) dc_SR_loopEnergy_72 75 rfl ?_
          refine jl_iload h rfl dc_SR_loopEnergy_75 77 rfl ?_
          refine jl_iload h rfl dc_SR_loopEnergy_77 79 rfl ?_
          refine jl_callV (As := [_, _]) (rest := [_]) h hr vs_SR_75 vi_LO_multiBranch vx_LO_multiBranch (ci := 2) rfl (by omega) (by exact rfl) (fun l => c_LO_multiBranch l (by omega) hS rfl hp18 (show m < 18 by omega)) (by first | decide | omega) (by first | decide | omega) rfl rfl (Nat.le_of_ble_eq_true rfl) dc_SR_loopEnergy_79 (res := [_, _]) rfl 82 rfl ?_
          refine jl_iadd h dc_SR_loopEnergy_82 83 rfl ?_
          rw [show iI (38 + lp_wk b i j 5 + 4 * (bs.length : Int) + lp_ws b bs + u) + iI (4 + lp_wk b p m 5) = iI (38 + lp_wk b i j 5 + 4 * (((bs ++ [(p, m)]).length : Nat) : Int) + lp_ws b (bs ++ [(p, m)]) + u) by rw [iI_add, lp_ws_app]; congr 1; have h9 : lp_ws b [(p, m)] = lp_wk b p m 5 := Int.add_zero _; rw [h9, List.length_append, List.length_singleton]; omega]
          refine jl_istore (i := 5) (lc2 := [(5, _), (6, _), (4, _), (3, _), (7, _), (2, _), (0, _), (1, _)]) h (by decide) rfl dc_SR_loopEnergy_83 85 rfl ?_
          refine jl_goto h 98 (by decide) dc_SR_loopEnergy_85 ?_
          refine jl_iinc (i := 7) (d := 1) (lc2 := [(7, _), (5, _), (6, _), (4, _), (3, _), (2, _), (0, _), (1, _)]) (v2 := nI (p + 1)) h (by decide) rfl (nI_1 p) rfl dc_SR_loopEnergy_98 101 rfl ?_
          refine jl_goto h 31 (by decide) dc_SR_loopEnergy_101 ?_
          refine jl_sub (lc2 := [(7, _), (6, _), (5, _), (4, _), (3, _), (2, _), (0, _), (1, _)]) [0, 2, 1, 3, 4, 5, 6, 7] rfl ?_
          first
            | exact absurd c92 (by omega)
            | (have e9 : bs.length + 1 = (bs ++ [(p, m)]).length := by simp
               rw [e9]
               refine ih (p + 1) (by omega) (by omega) (bs ++ [(p, m)]) u m p (by omega) (by omega) (fun s hs => ?_) (Or.inr ⟨bs, m, rfl⟩) ?_ (by omega) (by rw [← e9]; omega) hp18
               · rcases List.mem_append.mp hs with h9 | h9
                 · exact hbs s h9
                 · rw [List.mem_singleton] at h9; subst h9; exact ⟨hip, hpm, by show m < j; omega, hm⟩
               · rw [if_neg c41, tp_pair (show p < j by omega) hpm hm] at htp
                 rw [if_pos (by omega), htp, List.append_assoc]; rfl)
            | (refine ih (p + 1) (by omega) (by omega) bs (u + 1) r la hir hrj hbs hla ?_ (by omega) (by omega) hla18
               rw [if_neg c41, tp_free (show p < j by omega) c50] at htp
               rw [if_neg (by omega), htp]
               refine Prod.ext rfl ?_
               show u + ((tp_l w (p + 1) j).2 + 1) = u + 1 + (tp_l w (p + 1) j).2
               omega)
            | (refine ih (p + 1) (by omega) (by omega) bs u r la hir hrj hbs hla ?_ (by omega) (by omega) hla18
               rw [if_pos c41] at htp
               rw [htp]
               by_cases h9 : p + 1 ≤ r
               · rw [if_pos h9]
               · rw [if_neg h9, show p + 1 = r + 1 by omega])
  have l0 := loop (j - (i + 1)) (i + 1) (by omega) (by omega) [] 0 i i (Nat.le_refl i) hij (fun s hs => absurd hs List.not_mem_nil) (Or.inl rfl) (by rw [if_neg (by omega)]; simp) (by omega) (by simp) (by omega)
  have e0 : 38 + lp_wk b i j 5 + 4 * (([] : List (Nat × Nat)).length : Int) + lp_ws b [] + ((0 : Nat) : Int) = 38 + lp_wk b i j 5 := by
    show 38 + lp_wk b i j 5 + 4 * ((0 : Nat) : Int) + 0 + ((0 : Nat) : Int) = _
    omega
  rw [e0] at l0
  refine jl_aload_n (i := 0) h rfl rfl dc_SR_loopEnergy_0 1 rfl ?_
  refine jl_getf h nm_c_SR 0 wl_SR_9 (by omega) (by decide) (by exact rfl) (by rfl) dc_SR_loopEnergy_1 4 rfl ?_
  refine jl_iload_n (i := 1) h rfl rfl dc_SR_loopEnergy_4 5 rfl ?_
  refine jl_iald (v := nI j) h (i) (by exact rfl) (by omega) (by exact hmat) (by exact by omega) (by first | decide | assumption) (by exact by show iI (w i) = nI j; rw [hwi, iI_nat]) dc_SR_loopEnergy_5 6 rfl ?_
  refine jl_istore_n (i := 2) (lc2 := [(2, _), (0, _), (1, _)]) h rfl (by decide) rfl dc_SR_loopEnergy_6 7 rfl ?_
  refine jl_iconst (v := nI 0) h (by decide) dc_SR_loopEnergy_7 8 rfl ?_
  refine jl_istore_n (i := 3) (lc2 := [(3, _), (2, _), (0, _), (1, _)]) h rfl (by decide) rfl dc_SR_loopEnergy_8 9 rfl ?_
  refine jl_iload_n (i := 1) h rfl rfl dc_SR_loopEnergy_9 10 rfl ?_
  refine jl_istore (i := 4) (lc2 := [(4, _), (3, _), (2, _), (0, _), (1, _)]) h (by decide) rfl dc_SR_loopEnergy_10 12 rfl ?_
  refine jl_aload_n (i := 0) h rfl rfl dc_SR_loopEnergy_12 13 rfl ?_
  refine jl_getf h nm_c_SR 6 wl_SR_22 (by omega) (by decide) (by exact rfl) (by rfl) dc_SR_loopEnergy_13 16 rfl ?_
  refine jl_iload_n (i := 1) h rfl rfl dc_SR_loopEnergy_16 17 rfl ?_
  refine jl_iload_n (i := 2) h rfl rfl dc_SR_loopEnergy_17 18 rfl ?_
  refine jl_callV (As := [_, _]) (rest := []) h hr vs_SR_71 vi_LO_multiClosing vx_LO_multiClosing (ci := 2) rfl (by omega) (by exact rfl) (fun l => c_LO_multiClosing l (by omega) hS rfl (by omega) (by omega)) (by first | decide | omega) (by first | decide | omega) rfl rfl (Nat.le_of_ble_eq_true rfl) dc_SR_loopEnergy_18 (res := [_]) rfl 21 rfl ?_
  refine jl_istore (i := 5) (lc2 := [(5, _), (4, _), (3, _), (2, _), (0, _), (1, _)]) h (by decide) rfl dc_SR_loopEnergy_21 23 rfl ?_
  refine jl_iload_n (i := 1) h rfl rfl dc_SR_loopEnergy_23 24 rfl ?_
  refine jl_istore (i := 6) (lc2 := [(6, _), (5, _), (4, _), (3, _), (2, _), (0, _), (1, _)]) h (by decide) rfl dc_SR_loopEnergy_24 26 rfl ?_
  refine jl_iload_n (i := 1) h rfl rfl dc_SR_loopEnergy_26 27 rfl ?_
  refine jl_iconst (v := 1) h (by decide) dc_SR_loopEnergy_27 28 rfl ?_
  refine jl_iadd h dc_SR_loopEnergy_28 29 rfl ?_
  rw [show nI i + 1 = nI (i + 1) by exact nI_1 i]
  refine jl_istore (i := 7) (lc2 := [(7, _), (6, _), (5, _), (4, _), (3, _), (2, _), (0, _), (1, _)]) h (by decide) rfl dc_SR_loopEnergy_29 31 rfl ?_
  exact l0
theorem c_SR1_totalEnergy (hS : st_ok K ad (gw K ad I V L C G R) n b) (hM : V 154 = fun k => iI (w k)) (hw : en_V b n w) : jl_C l K sa yn_SR_totalEnergy bc_SR_totalEnergy 4 (some .int) 5 155 168 ad [.ref (ad 153)] (gw K ad I V L C G R) (some (.int (iI (st_E b n w)))) (gw K ad I V L C G R) := by
  refine jl_enter (by decide) (Nat.le_of_ble_eq_true rfl) (fun x h he hr => ?_)
  obtain ⟨hST, hbases, hn, hb⟩ := id hS
  show jl_J x 168 ad 0 0 (gw K ad I V L C G R) 0 [(0, .ref (ad 153))] []
  have hmat : gw K ad I V L C G R 154 = .inl (K 0, 18, .inl (fun k => iI (w k))) := gw_at rfl rfl hM
  have loop : ∀ (dd p : Nat), p + dd = n → ∀ (bs : List (Nat × Nat)) (r : Int), -1 ≤ r → r < n → (tp_l w 0 n).1 = bs ++ (tp_l w (if (p : Int) ≤ r then r.toNat + 1 else p) n).1 → jl_J x 168 ad 0 0 (gw K ad I V L C G R) 6 [(3, .int (nI p)), (2, .int (iI r)), (1, .int (iI (st_S b w p + lp_ws b bs))), (0, .ref (ad 153))] [] := by
    intro dd
    induction dd with
    | zero =>
      intro p hp bs r hr1 hr2 htp
      have hp : p = n := by omega
      subst hp
      rw [tp_end (show p ≤ (if (p : Int) ≤ r then r.toNat + 1 else p) by split <;> omega), List.append_nil] at htp
      refine jl_iload_n (i := 3) h rfl rfl dc_SR_totalEnergy_6 7 rfl ?_
      refine jl_aload_n (i := 0) h rfl rfl dc_SR_totalEnergy_7 8 rfl ?_
      refine jl_getf h nm_c_SR 5 wl_SR_18 (by omega) (by decide) (by exact rfl) (by rfl) dc_SR_totalEnergy_8 11 rfl ?_
      refine jl_callV (As := []) (rest := [_]) h hr vs_SR_45 vi_ST_size vx_ST_size (ci := 1) rfl (by omega) (by exact hST) (fun l => c_ST_size l (by omega) hS) (by first | decide | omega) (by first | decide | omega) rfl rfl (Nat.le_of_ble_eq_true rfl) dc_SR_totalEnergy_11 (res := [_, _]) rfl 14 rfl ?_
      refine jl_icmp_ge h 69 (by decide) dc_SR_totalEnergy_14 17 rfl (fun c14 => ?_) (fun c14 => absurd (nI_le (Nat.le_refl _) (by omega)) c14)
      refine jl_iload_n (i := 1) h rfl rfl dc_SR_totalEnergy_69 70 rfl ?_
      exact jl_zret h he rfl (by unfold st_E; rw [htp]) (rfl) dc_SR_totalEnergy_70
    | succ dd ih =>
      intro p hp bs r hr1 hr2 htp
      have hp18 : p < 18 := by omega
      have hin := en_V_in hw p
      have hin2 : w p < 18 := by rcases hw.1 p with h1 | h1 <;> omega
      have hSn : ¬ (p : Int) < w p → st_S b w (p + 1) = st_S b w p := fun h9 => by
        show st_S b w p + (if (p : Int) < w p then _ else 0) = _
        rw [if_neg h9]
        omega
      have hSy : ∀ m : Nat, p < m → w p = m → st_S b w (p + 1) = st_S b w p + lp_loop b w p m := fun m h8 h9 => by
        show st_S b w p + (if (p : Int) < w p then _ else 0) = _
        rw [if_pos (by omega), h9, Int.toNat_natCast]
      refine jl_iload_n (i := 3) h rfl rfl dc_SR_totalEnergy_6 7 rfl ?_
      refine jl_aload_n (i := 0) h rfl rfl dc_SR_totalEnergy_7 8 rfl ?_
      refine jl_getf h nm_c_SR 5 wl_SR_18 (by omega) (by decide) (by exact rfl) (by rfl) dc_SR_totalEnergy_8 11 rfl ?_
      refine jl_callV (As := []) (rest := [_]) h hr vs_SR_45 vi_ST_size vx_ST_size (ci := 1) rfl (by omega) (by exact hST) (fun l => c_ST_size l (by omega) hS) (by first | decide | omega) (by first | decide | omega) rfl rfl (Nat.le_of_ble_eq_true rfl) dc_SR_totalEnergy_11 (res := [_, _]) rfl 14 rfl ?_
      refine jl_icmp_ge h 69 (by decide) dc_SR_totalEnergy_14 17 rfl (fun c14 => absurd c14 (nI_ge (by omega) (by omega))) (fun c14 => ?_)
      refine jl_aload_n (i := 0) h rfl rfl dc_SR_totalEnergy_17 18 rfl ?_
      refine jl_iload_n (i := 3) h rfl rfl dc_SR_totalEnergy_18 19 rfl ?_
      refine jl_callV (As := [_]) (rest := []) h hr vs_SR_57 vi_SR_opensAt vx_SR_opensAt (ci := 6) rfl (by omega) (by exact rfl) (fun l => c_SR1_opensAt l hM hp18 hin.1 hin2) (by first | decide | omega) (by first | decide | omega) rfl rfl (Nat.le_of_ble_eq_true rfl) dc_SR_totalEnergy_19 (res := [_]) rfl 22 rfl ?_
      refine jl_if_eq h 63 (by decide) dc_SR_totalEnergy_22 25 rfl (fun c22 => ?_) (fun c22 => ?_)
      · skip
        rw [st_b0] at c22
        have c22 := of_decide_eq_false c22
        refine jl_iinc (i := 3) (d := 1) (lc2 := [(3, _), (2, _), (1, _), (0, _)]) (v2 := nI (p + 1)) h (by decide) rfl (nI_1 p) rfl dc_SR_totalEnergy_63 66 rfl ?_
        refine jl_goto h 6 (by decide) dc_SR_totalEnergy_66 ?_
        first
          | (refine ih (p + 1) (by omega) (bs ++ [(p, m)]) m (by omega) (by omega) ?_
             rw [if_neg (by omega), tp_pair (show p < n by omega) hpm hm] at htp
             rw [if_pos (by omega), htp, Int.toNat_natCast, List.append_assoc]
             rfl)
          | (refine ih (p + 1) (by omega) bs r hr1 hr2 ?_
             rw [if_pos (by omega)] at htp
             rw [htp]
             by_cases h9 : ((p + 1 : Nat) : Int) ≤ r
             · rw [if_pos h9]
             · rw [if_neg h9, show p + 1 = r.toNat + 1 by omega])
          | (rw [← hSn c22]
             refine ih (p + 1) (by omega) bs r hr1 hr2 ?_
             by_cases h8 : (p : Int) ≤ r
             · rw [if_pos h8] at htp
               rw [htp]
               by_cases h9 : ((p + 1 : Nat) : Int) ≤ r
               · rw [if_pos h9]
               · rw [if_neg h9, show p + 1 = r.toNat + 1 by omega]
             · rw [if_neg h8, tp_free (show p < n by omega) c22] at htp
               rw [if_neg (by omega), htp])
      · skip
        rw [st_b1] at c22
        have c22 := of_decide_eq_true c22
        obtain ⟨m, hm⟩ : ∃ m : Nat, w p = m := ⟨(w p).toNat, by omega⟩
        have hpm : p < m := by omega
        have hmn : m < n := by rcases hw.1 p with h1 | h1 <;> omega
        refine jl_iload_n (i := 1) h rfl rfl dc_SR_totalEnergy_25 26 rfl ?_
        refine jl_aload_n (i := 0) h rfl rfl dc_SR_totalEnergy_26 27 rfl ?_
        refine jl_iload_n (i := 3) h rfl rfl dc_SR_totalEnergy_27 28 rfl ?_
        refine jl_callV (As := [_]) (rest := [_]) h hr vs_SR_61 vi_SR_loopEnergy vx_SR_loopEnergy (ci := 6) rfl (by omega) (by exact rfl) (fun l => c_SR1_loopEnergy l hS hM hw hpm hm) (by first | decide | omega) (by first | decide | omega) rfl rfl (Nat.le_of_ble_eq_true rfl) dc_SR_totalEnergy_28 (res := [_, _]) rfl 31 rfl ?_
        refine jl_iadd h dc_SR_totalEnergy_31 32 rfl ?_
        rw [show iI (st_S b w p + lp_ws b bs) + iI (lp_loop b w p m) = iI (st_S b w (p + 1) + lp_ws b bs) by rw [iI_add, hSy m hpm hm]; congr 1; omega]
        refine jl_istore_n (i := 1) (lc2 := [(1, _), (3, _), (2, _), (0, _)]) h rfl (by decide) rfl dc_SR_totalEnergy_32 33 rfl ?_
        refine jl_iload_n (i := 3) h rfl rfl dc_SR_totalEnergy_33 34 rfl ?_
        refine jl_iload_n (i := 2) h rfl rfl dc_SR_totalEnergy_34 35 rfl ?_
        refine jl_icmp_le h 63 (by decide) dc_SR_totalEnergy_35 38 rfl (fun c35 => ?_) (fun c35 => ?_)
        · skip
          rw [← iI_nat, iI_le (by omega) (by omega) (by omega) (by omega)] at c35
          refine jl_iinc (i := 3) (d := 1) (lc2 := [(3, _), (1, _), (2, _), (0, _)]) (v2 := nI (p + 1)) h (by decide) rfl (nI_1 p) rfl dc_SR_totalEnergy_63 66 rfl ?_
          refine jl_goto h 6 (by decide) dc_SR_totalEnergy_66 ?_
          refine jl_sub (lc2 := [(3, _), (2, _), (1, _), (0, _)]) [0, 2, 1, 3] rfl ?_
          first
            | (refine ih (p + 1) (by omega) (bs ++ [(p, m)]) m (by omega) (by omega) ?_
               rw [if_neg (by omega), tp_pair (show p < n by omega) hpm hm] at htp
               rw [if_pos (by omega), htp, Int.toNat_natCast, List.append_assoc]
               rfl)
            | (refine ih (p + 1) (by omega) bs r hr1 hr2 ?_
               rw [if_pos (by omega)] at htp
               rw [htp]
               by_cases h9 : ((p + 1 : Nat) : Int) ≤ r
               · rw [if_pos h9]
               · rw [if_neg h9, show p + 1 = r.toNat + 1 by omega])
            | (rw [← hSn c22]
               refine ih (p + 1) (by omega) bs r hr1 hr2 ?_
               by_cases h8 : (p : Int) ≤ r
               · rw [if_pos h8] at htp
                 rw [htp]
                 by_cases h9 : ((p + 1 : Nat) : Int) ≤ r
                 · rw [if_pos h9]
                 · rw [if_neg h9, show p + 1 = r.toNat + 1 by omega]
               · rw [if_neg h8, tp_free (show p < n by omega) c22] at htp
                 rw [if_neg (by omega), htp])
        · skip
          rw [← iI_nat, iI_le (by omega) (by omega) (by omega) (by omega)] at c35
          refine jl_iload_n (i := 1) h rfl rfl dc_SR_totalEnergy_38 39 rfl ?_
          refine jl_aload_n (i := 0) h rfl rfl dc_SR_totalEnergy_39 40 rfl ?_
          refine jl_getf h nm_c_SR 5 wl_SR_18 (by omega) (by decide) (by exact rfl) (by rfl) dc_SR_totalEnergy_40 43 rfl ?_
          refine jl_iload_n (i := 3) h rfl rfl dc_SR_totalEnergy_43 44 rfl ?_
          refine jl_aload_n (i := 0) h rfl rfl dc_SR_totalEnergy_44 45 rfl ?_
          refine jl_getf h nm_c_SR 0 wl_SR_9 (by omega) (by decide) (by exact rfl) (by rfl) dc_SR_totalEnergy_45 48 rfl ?_
          refine jl_iload_n (i := 3) h rfl rfl dc_SR_totalEnergy_48 49 rfl ?_
          refine jl_iald (v := nI m) h (p) (by exact rfl) (by omega) (by exact hmat) (by exact hp18) (by first | decide | assumption) (by exact by show iI (w p) = nI m; rw [hm, iI_nat]) dc_SR_totalEnergy_49 50 rfl ?_
          refine jl_iconst (v := iI 5) h (by decide) dc_SR_totalEnergy_50 51 rfl ?_
          refine jl_callV (As := [_, _, _]) (rest := [_]) h hr vs_SR_67 vi_ST_ifWeak vx_ST_ifWeak (ci := 1) rfl (by omega) (by exact hST) (fun l => c_ST_ifWeak l (by omega) hS hp18 (show m < 18 by omega) 5) (by first | decide | omega) (by first | decide | omega) rfl rfl (Nat.le_of_ble_eq_true rfl) dc_SR_totalEnergy_51 (res := [_, _]) rfl 54 rfl ?_
          refine jl_iadd h dc_SR_totalEnergy_54 55 rfl ?_
          rw [show iI (st_S b w (p + 1) + lp_ws b bs) + iI (if 2 ≤ en_kd (b p) (b m) then 5 else 0) = iI (st_S b w (p + 1) + lp_ws b (bs ++ [(p, m)])) by rw [iI_add, lp_ws_app]; congr 1; have h9 : lp_ws b [(p, m)] = lp_wk b p m 5 := Int.add_zero _; rw [h9]; show _ + _ + lp_wk b p m 5 = _; omega]
          refine jl_istore_n (i := 1) (lc2 := [(1, _), (3, _), (2, _), (0, _)]) h rfl (by decide) rfl dc_SR_totalEnergy_55 56 rfl ?_
          refine jl_aload_n (i := 0) h rfl rfl dc_SR_totalEnergy_56 57 rfl ?_
          refine jl_getf h nm_c_SR 0 wl_SR_9 (by omega) (by decide) (by exact rfl) (by rfl) dc_SR_totalEnergy_57 60 rfl ?_
          refine jl_iload_n (i := 3) h rfl rfl dc_SR_totalEnergy_60 61 rfl ?_
          refine jl_iald (v := iI (m : Int)) h (p) (by exact rfl) (by omega) (by exact hmat) (by exact hp18) (by first | decide | assumption) (by exact by show iI (w p) = iI m; rw [hm]) dc_SR_totalEnergy_61 62 rfl ?_
          refine jl_istore_n (i := 2) (lc2 := [(2, _), (1, _), (3, _), (0, _)]) h rfl (by decide) rfl dc_SR_totalEnergy_62 63 rfl ?_
          refine jl_iinc (i := 3) (d := 1) (lc2 := [(3, _), (2, _), (1, _), (0, _)]) (v2 := nI (p + 1)) h (by decide) rfl (nI_1 p) rfl dc_SR_totalEnergy_63 66 rfl ?_
          refine jl_goto h 6 (by decide) dc_SR_totalEnergy_66 ?_
          first
            | (refine ih (p + 1) (by omega) (bs ++ [(p, m)]) m (by omega) (by omega) ?_
               rw [if_neg (by omega), tp_pair (show p < n by omega) hpm hm] at htp
               rw [if_pos (by omega), htp, Int.toNat_natCast, List.append_assoc]
               rfl)
            | (refine ih (p + 1) (by omega) bs r hr1 hr2 ?_
               rw [if_pos (by omega)] at htp
               rw [htp]
               by_cases h9 : ((p + 1 : Nat) : Int) ≤ r
               · rw [if_pos h9]
               · rw [if_neg h9, show p + 1 = r.toNat + 1 by omega])
            | (rw [← hSn c22]
               refine ih (p + 1) (by omega) bs r hr1 hr2 ?_
               by_cases h8 : (p : Int) ≤ r
               · rw [if_pos h8] at htp
                 rw [htp]
                 by_cases h9 : ((p + 1 : Nat) : Int) ≤ r
                 · rw [if_pos h9]
                 · rw [if_neg h9, show p + 1 = r.toNat + 1 by omega]
               · rw [if_neg h8, tp_free (show p < n by omega) c22] at htp
                 rw [if_neg (by omega), htp])
  have l0 := loop n 0 (by omega) [] (-1) (by omega) (by omega) (by rw [if_neg (by omega)]; simp)
  have e0 : st_S b w 0 + lp_ws b [] = 0 := rfl
  rw [e0] at l0
  refine jl_iconst (v := iI 0) h (by decide) dc_SR_totalEnergy_0 1 rfl ?_
  refine jl_istore_n (i := 1) (lc2 := [(1, _), (0, _)]) h rfl (by decide) rfl dc_SR_totalEnergy_1 2 rfl ?_
  refine jl_iconst (v := iI (-1)) h (by decide) dc_SR_totalEnergy_2 3 rfl ?_
  refine jl_istore_n (i := 2) (lc2 := [(2, _), (1, _), (0, _)]) h rfl (by decide) rfl dc_SR_totalEnergy_3 4 rfl ?_
  refine jl_iconst (v := nI 0) h (by decide) dc_SR_totalEnergy_4 5 rfl ?_
  refine jl_istore_n (i := 3) (lc2 := [(3, _), (2, _), (1, _), (0, _)]) h rfl (by decide) rfl dc_SR_totalEnergy_5 6 rfl ?_
  exact l0
theorem c_FS1_energy (hG : G 0 = 153) (hS : st_ok K ad (gw K ad I V L C G R) n b) (hM : V 154 = fun k => iI (w k)) (hw : en_V b n w) : jl_C l K sa yn_FS_energy bc_FS_energy 1 (some .int) 6 180 168 ad [.ref (ad 0)] (gw K ad I V L C G R) (some (.int (iI (st_E b n w)))) (gw K ad I V L C G R) := by
  refine jl_enter (by decide) (Nat.le_of_ble_eq_true rfl) (fun x h he hr => ?_)
  show jl_J x 168 ad 0 0 (gw K ad I V L C G R) 0 [(0, .ref (ad 0))] []
  refine jl_aload_n (i := 0) h rfl rfl dc_FS_energy_0 1 rfl ?_
  refine jl_getf (v := .ref (ad 153)) h nm_c_FS 5 wl_FS_42 (by omega) (by decide) (by exact rfl) (by exact fs_r hG) dc_FS_energy_1 4 rfl ?_
  refine jl_callV (As := []) (rest := []) h hr vs_FS_113 vi_SR_totalEnergy vx_SR_totalEnergy (ci := 6) rfl (by omega) (by exact rfl) (fun l => c_SR1_totalEnergy l hS hM hw) (by first | decide | omega) (by first | decide | omega) rfl rfl (Nat.le_of_ble_eq_true rfl) dc_FS_energy_4 (res := [_]) rfl 7 rfl ?_
  exact jl_zret h he rfl (rfl) (rfl) dc_FS_energy_7
theorem c_FS1_loop_no (hG : G 0 = 153) (hS : st_ok K ad (gw K ad I V L C G R) n b) (q : Int32) (hq : ¬ (¬ q < 0 ∧ q < nI n)) : jl_C l K sa yn_FS_loop bc_FS_loop 2 (some .int) 5 160 168 ad [.ref (ad 0), .int q] (gw K ad I V L C G R) (some (.int 0)) (gw K ad I V L C G R) := by
  refine jl_enter (by decide) (Nat.le_of_ble_eq_true rfl) (fun x h he hr => ?_)
  show jl_J x 168 ad 0 0 (gw K ad I V L C G R) 0 [(0, .ref (ad 0)), (1, .int q)] []
  refine jl_aload_n (i := 0) h rfl rfl dc_FS_loop_0 1 rfl ?_
  refine jl_getf h nm_c_FS 0 wl_FS_10 (by omega) (by decide) (by exact rfl) (by rfl) dc_FS_loop_1 4 rfl ?_
  refine jl_iload_n (i := 1) h rfl rfl dc_FS_loop_4 5 rfl ?_
  refine jl_callV (As := [_]) (rest := []) h hr vs_FS_94 vi_ST_has vx_ST_has (ci := 1) rfl (by omega) (by exact hS.1) (fun l => c_ST_has l (by omega) hS q) (by first | decide | omega) (by first | decide | omega) rfl rfl (Nat.le_of_ble_eq_true rfl) dc_FS_loop_5 (res := [_]) rfl 8 rfl ?_
  refine jl_if_eq h 33 (by decide) dc_FS_loop_8 11 rfl (fun c8 => ?_) (fun c8 => absurd (by rw [st_b0]; exact decide_eq_false hq) c8)
  refine jl_iconst (v := 0) h (by decide) dc_FS_loop_33 34 rfl ?_
  exact jl_zret h he rfl (rfl) (rfl) dc_FS_loop_34
theorem c_FS1_loop (hG : G 0 = 153) (hS : st_ok K ad (gw K ad I V L C G R) n b) (hM : V 154 = fun i => iI (w i)) (hw : en_V b n w) {i : Nat} (hi : i < n) : jl_C l K sa yn_FS_loop bc_FS_loop 2 (some .int) 5 160 168 ad [.ref (ad 0), .int (nI i)] (gw K ad I V L C G R) (some (.int (iI (if (i : Int) < w i then lp_loop b w i (w i).toNat else 0)))) (gw K ad I V L C G R) := by
  refine jl_enter (by decide) (Nat.le_of_ble_eq_true rfl) (fun x h he hr => ?_)
  obtain ⟨hST, hbases, hn, hb⟩ := id hS
  show jl_J x 168 ad 0 0 (gw K ad I V L C G R) 0 [(0, .ref (ad 0)), (1, .int (nI i))] []
  have hin := en_V_in hw i
  have hin2 : w i < 18 := by rcases hw.1 i with h1 | h1 <;> omega
  refine jl_aload_n (i := 0) h rfl rfl dc_FS_loop_0 1 rfl ?_
  refine jl_getf h nm_c_FS 0 wl_FS_10 (by omega) (by decide) (by exact rfl) (by rfl) dc_FS_loop_1 4 rfl ?_
  refine jl_iload_n (i := 1) h rfl rfl dc_FS_loop_4 5 rfl ?_
  refine jl_callV (As := [_]) (rest := []) h hr vs_FS_94 vi_ST_has vx_ST_has (ci := 1) rfl (by omega) (by exact hS.1) (fun l => c_ST_has l (by omega) hS (nI i)) (by first | decide | omega) (by first | decide | omega) rfl rfl (Nat.le_of_ble_eq_true rfl) dc_FS_loop_5 (res := [_]) rfl 8 rfl ?_
  refine jl_if_eq h 33 (by decide) dc_FS_loop_8 11 rfl (fun c8 => absurd c8 (by rw [st_b1]; exact decide_eq_true ⟨nI_pos (by omega), nI_lt hi (by omega)⟩)) (fun c8 => ?_)
  refine jl_aload_n (i := 0) h rfl rfl dc_FS_loop_11 12 rfl ?_
  refine jl_getf (v := .ref (ad 153)) h nm_c_FS 5 wl_FS_42 (by omega) (by decide) (by exact rfl) (by exact fs_r hG) dc_FS_loop_12 15 rfl ?_
  refine jl_iload_n (i := 1) h rfl rfl dc_FS_loop_15 16 rfl ?_
  refine jl_callV (As := [_]) (rest := []) h hr vs_FS_122 vi_SR_opensAt vx_SR_opensAt (ci := 6) rfl (by omega) (by exact rfl) (fun l => c_SR1_opensAt l hM (by omega) hin.1 hin2) (by first | decide | omega) (by first | decide | omega) rfl rfl (Nat.le_of_ble_eq_true rfl) dc_FS_loop_16 (res := [_]) rfl 19 rfl ?_
  refine jl_if_eq h 33 (by decide) dc_FS_loop_19 22 rfl (fun c19 => ?_) (fun c19 => ?_)
  · skip
    rw [st_b0] at c19
    have c19 := of_decide_eq_false c19
    refine jl_iconst (v := 0) h (by decide) dc_FS_loop_33 34 rfl ?_
    exact jl_zret h he rfl (by first | (rw [if_neg c19]; rfl) | rw [if_pos c19, hm, Int.toNat_natCast]) (rfl) dc_FS_loop_34
  · skip
    rw [st_b1] at c19
    have c19 := of_decide_eq_true c19
    obtain ⟨m, hm⟩ : ∃ m : Nat, w i = m := ⟨(w i).toNat, by omega⟩
    refine jl_aload_n (i := 0) h rfl rfl dc_FS_loop_22 23 rfl ?_
    refine jl_getf (v := .ref (ad 153)) h nm_c_FS 5 wl_FS_42 (by omega) (by decide) (by exact rfl) (by exact fs_r hG) dc_FS_loop_23 26 rfl ?_
    refine jl_iload_n (i := 1) h rfl rfl dc_FS_loop_26 27 rfl ?_
    refine jl_callV (As := [_]) (rest := []) h hr vs_FS_125 vi_SR_loopEnergy vx_SR_loopEnergy (ci := 6) rfl (by omega) (by exact rfl) (fun l => c_SR1_loopEnergy l hS hM hw (show i < m by omega) hm) (by first | decide | omega) (by first | decide | omega) rfl rfl (Nat.le_of_ble_eq_true rfl) dc_FS_loop_27 (res := [_]) rfl 30 rfl ?_
    refine jl_goto h 34 (by decide) dc_FS_loop_30 ?_
    exact jl_zret h he rfl (by first | (rw [if_neg c19]; rfl) | rw [if_pos c19, hm, Int.toNat_natCast]) (rfl) dc_FS_loop_34
theorem c_SR2_loopEnergy (hS : st_ok K ad (gw K ad I V L C G R) n b) (hM : V 157 = fun k => iI (w k)) (hw : en_V b n w) {i j : Nat} (hij : i < j) (hwi : w i = j) : jl_C l K sa yn_SR_loopEnergy bc_SR_loopEnergy 8 (some .int) 4 125 168 ad [.ref (ad 156), .int (nI i)] (gw K ad I V L C G R) (some (.int (iI (lp_loop b w i j)))) (gw K ad I V L C G R) := by
  refine jl_enter (by decide) (Nat.le_of_ble_eq_true rfl) (fun x h he hr => ?_)
  obtain ⟨hST, hbases, hn, hb⟩ := id hS
  show jl_J x 168 ad 0 0 (gw K ad I V L C G R) 0 [(0, .ref (ad 156)), (1, .int (nI i))] []
  have hcp0 : en_cp b i j = true := by
    have := hw.2.1 i (by omega)
    rwa [hwi, Int.toNat_natCast] at this
  have hj18 : j < n := by
    rcases hw.1 i with h1 | h1 <;> omega
  obtain ⟨hcp4, hkd⟩ := en_cp_4 hcp0
  have hmat : gw K ad I V L C G R 157 = .inl (K 0, 18, .inl (fun k => iI (w k))) := gw_at rfl rfl hM
  have loop : ∀ (dd p : Nat), p + dd = j → i < p → ∀ (bs : List (Nat × Nat)) (u r la : Nat), i ≤ r → r < j → (∀ s, s ∈ bs → i < s.1 ∧ s.1 < s.2 ∧ s.2 < j ∧ w s.1 = (s.2 : Int)) → (bs = [] ∨ ∃ bs0 m, bs = bs0 ++ [(la, m)]) → tp_l w (i + 1) j = (bs ++ (tp_l w (if p ≤ r then r + 1 else p) j).1, u + (tp_l w (if p ≤ r then r + 1 else p) j).2) → u ≤ p → bs.length ≤ p → la < 18 → jl_J x 168 ad 0 0 (gw K ad I V L C G R) 31 [(7, .int (nI p)), (6, .int (nI r)), (5, .int (iI (38 + lp_wk b i j 5 + 4 * (bs.length : Int) + lp_ws b bs + u))), (4, .int (nI la)), (3, .int (nI bs.length)), (2, .int (nI j)), (0, .ref (ad 156)), (1, .int (nI i))] [] := by
    intro dd
    induction dd with
    | zero =>
      intro p hp hip bs u r la hir hrj hbs hla htp hu hlen hla18
      have hp : p = j := by omega
      subst hp
      rw [tp_end (show p ≤ (if p ≤ r then r + 1 else p) by split <;> omega), List.append_nil] at htp
      have z0 : (0 : Int32) = nI 0 := rfl
      have z1 : (1 : Int32) = nI 1 := rfl
      match bs, hbs, hla, htp, hlen with
      | [], hbs, hla, htp, hlen =>
        refine jl_iload h rfl dc_SR_loopEnergy_31 33 rfl ?_
        refine jl_iload_n (i := 2) h rfl rfl dc_SR_loopEnergy_33 34 rfl ?_
        refine jl_icmp_ge h 104 (by decide) dc_SR_loopEnergy_34 37 rfl (fun c34 => ?_) (fun c34 => absurd (nI_le (Nat.le_refl _) (by omega)) c34)
        refine jl_iload_n (i := 3) h rfl rfl dc_SR_loopEnergy_104 105 rfl ?_
        refine jl_if_ne h 118 (by decide) dc_SR_loopEnergy_105 108 rfl (fun c105 => absurd (rfl) c105) (fun c105 => ?_)
        refine jl_aload_n (i := 0) h rfl rfl dc_SR_loopEnergy_108 109 rfl ?_
        refine jl_getf h nm_c_SR 6 wl_SR_22 (by omega) (by decide) (by exact rfl) (by rfl) dc_SR_loopEnergy_109 112 rfl ?_
        refine jl_iload_n (i := 1) h rfl rfl dc_SR_loopEnergy_112 113 rfl ?_
        refine jl_iload_n (i := 2) h rfl rfl dc_SR_loopEnergy_113 114 rfl ?_
        refine jl_callV (As := [_, _]) (rest := []) h hr vs_SR_78 vi_LO_hairpin vx_LO_hairpin (ci := 2) rfl (by omega) (by exact rfl) (fun l => c_LO_hairpin l (by omega) hS rfl hcp4 (by omega)) (by first | decide | omega) (by first | decide | omega) rfl rfl (Nat.le_of_ble_eq_true rfl) dc_SR_loopEnergy_114 (res := [_]) rfl 117 rfl ?_
        exact jl_zret h he rfl (by unfold lp_loop; rw [htp]; rfl) (rfl) dc_SR_loopEnergy_117
      | [(k, m)], hbs, hla, htp, hlen =>
        have hk := hbs (k, m) List.mem_cons_self
        have hlk : la = k := by
          rcases hla with h9 | ⟨bs0, m0, h9⟩
          · cases h9
          · have h8 := congrArg List.getLast? h9
            rw [List.getLast?_concat] at h8
            have h7 := Option.some.inj h8
            exact (congrArg Prod.fst h7).symm
        subst hlk
        have hk1 : i < la ∧ la < m ∧ m < p ∧ w la = (m : Int) := hk
        have hcp1 : en_cp b la m = true := by
          have := hw.2.1 la (by omega)
          rwa [hk1.2.2.2, Int.toNat_natCast] at this
        refine jl_iload h rfl dc_SR_loopEnergy_31 33 rfl ?_
        refine jl_iload_n (i := 2) h rfl rfl dc_SR_loopEnergy_33 34 rfl ?_
        refine jl_icmp_ge h 104 (by decide) dc_SR_loopEnergy_34 37 rfl (fun c34 => ?_) (fun c34 => absurd (nI_le (Nat.le_refl _) (by omega)) c34)
        refine jl_iload_n (i := 3) h rfl rfl dc_SR_loopEnergy_104 105 rfl ?_
        refine jl_if_ne h 118 (by decide) dc_SR_loopEnergy_105 108 rfl (fun c105 => ?_) (fun c105 => absurd c105 (by show ¬ nI 1 = 0; decide))
        refine jl_iload_n (i := 3) h rfl rfl dc_SR_loopEnergy_118 119 rfl ?_
        refine jl_iconst (v := 1) h (by decide) dc_SR_loopEnergy_119 120 rfl ?_
        refine jl_icmp_ne h 144 (by decide) dc_SR_loopEnergy_120 123 rfl (fun c120 => absurd (rfl) c120) (fun c120 => ?_)
        refine jl_aload_n (i := 0) h rfl rfl dc_SR_loopEnergy_123 124 rfl ?_
        refine jl_getf h nm_c_SR 6 wl_SR_22 (by omega) (by decide) (by exact rfl) (by rfl) dc_SR_loopEnergy_124 127 rfl ?_
        refine jl_iload_n (i := 1) h rfl rfl dc_SR_loopEnergy_127 128 rfl ?_
        refine jl_iload_n (i := 2) h rfl rfl dc_SR_loopEnergy_128 129 rfl ?_
        refine jl_iload h rfl dc_SR_loopEnergy_129 131 rfl ?_
        refine jl_aload_n (i := 0) h rfl rfl dc_SR_loopEnergy_131 132 rfl ?_
        refine jl_getf h nm_c_SR 0 wl_SR_9 (by omega) (by decide) (by exact rfl) (by rfl) dc_SR_loopEnergy_132 135 rfl ?_
        refine jl_iload h rfl dc_SR_loopEnergy_135 137 rfl ?_
        refine jl_iald (v := nI m) h (la) (by exact rfl) (by omega) (by exact hmat) (by exact by omega) (by first | decide | assumption) (by exact by show iI (w la) = nI m; rw [hk1.2.2.2, iI_nat]) dc_SR_loopEnergy_137 138 rfl ?_
        refine jl_callV (As := [_, _, _, _]) (rest := []) h hr vs_SR_81 vi_LO_withOne vx_LO_withOne (ci := 2) rfl (by omega) (by exact rfl) (fun l => c_LO_withOne l (by omega) hS rfl hk1.1 hk1.2.1 hk1.2.2.1 (by omega) hkd (en_cp_4 hcp1).2) (by first | decide | omega) (by first | decide | omega) rfl rfl (Nat.le_of_ble_eq_true rfl) dc_SR_loopEnergy_138 (res := [_]) rfl 141 rfl ?_
        refine jl_goto h 146 (by decide) dc_SR_loopEnergy_141 ?_
        exact jl_zret h he rfl (by unfold lp_loop; rw [htp]; rfl) (rfl) dc_SR_loopEnergy_146
      | a :: c :: bs, hbs, hla, htp, hlen =>
        have hl2 : 2 ≤ (a :: c :: bs).length := by simp
        have hmany : lp_loop b w i p = 38 + lp_wk b i p 5 + 4 * (((a :: c :: bs).length : Nat) : Int) + lp_ws b (a :: c :: bs) + u := by
          unfold lp_loop
          rw [htp, lp_of_many hl2]
          show 34 + 4 * (((a :: c :: bs).length : Int) + 1) + ((u + 0 : Nat) : Int) + lp_wk b i p 5 + lp_ws b (a :: c :: bs) = _
          omega
        have hne0 : ¬ nI (a :: c :: bs).length = 0 := nI_ne0 (by simp) (by omega)
        have hne1 : ¬ nI (a :: c :: bs).length = 1 := by
          rw [z1, nI_eq (by omega) (by decide)]
          omega
        refine jl_iload h rfl dc_SR_loopEnergy_31 33 rfl ?_
        refine jl_iload_n (i := 2) h rfl rfl dc_SR_loopEnergy_33 34 rfl ?_
        refine jl_icmp_ge h 104 (by decide) dc_SR_loopEnergy_34 37 rfl (fun c34 => ?_) (fun c34 => absurd (nI_le (Nat.le_refl _) (by omega)) c34)
        refine jl_iload_n (i := 3) h rfl rfl dc_SR_loopEnergy_104 105 rfl ?_
        refine jl_if_ne h 118 (by decide) dc_SR_loopEnergy_105 108 rfl (fun c105 => ?_) (fun c105 => absurd c105 (hne0))
        refine jl_iload_n (i := 3) h rfl rfl dc_SR_loopEnergy_118 119 rfl ?_
        refine jl_iconst (v := 1) h (by decide) dc_SR_loopEnergy_119 120 rfl ?_
        refine jl_icmp_ne h 144 (by decide) dc_SR_loopEnergy_120 123 rfl (fun c120 => ?_) (fun c120 => absurd c120 (hne1))
        refine jl_iload h rfl dc_SR_loopEnergy_144 146 rfl ?_
        exact jl_zret h he rfl (by rw [hmany]) (rfl) dc_SR_loopEnergy_146
    | succ dd ih =>
      intro p hp hip bs u r la hir hrj hbs hla htp hu hlen hla18
      have hp18 : p < 18 := by omega
      have hin := en_V_in hw p
      have h39 : (p : Int) < w p → w p < j := fun h9 => by
        rcases hw.2.2 i p hip (by omega) with h8 | h8 <;> omega
      have hin2 : w p < 18 := by omega
      refine jl_iload h rfl dc_SR_loopEnergy_31 33 rfl ?_
      refine jl_iload_n (i := 2) h rfl rfl dc_SR_loopEnergy_33 34 rfl ?_
      refine jl_icmp_ge h 104 (by decide) dc_SR_loopEnergy_34 37 rfl (fun c34 => absurd c34 (nI_ge (by omega) (by omega))) (fun c34 => ?_)
      refine jl_iload h rfl dc_SR_loopEnergy_37 39 rfl ?_
      refine jl_iload h rfl dc_SR_loopEnergy_39 41 rfl ?_
      refine jl_icmp_le h 88 (by decide) dc_SR_loopEnergy_41 44 rfl (fun c41 => ?_) (fun c41 => ?_)
      · skip
        rw [nI_leI (by omega) (by omega)] at c41
        refine jl_iload h rfl dc_SR_loopEnergy_88 90 rfl ?_
        refine jl_iload h rfl dc_SR_loopEnergy_90 92 rfl ?_
        refine jl_icmp_le h 98 (by decide) dc_SR_loopEnergy_92 95 rfl (fun c92 => ?_) (fun c92 => ?_)
        · skip
          rw [nI_leI (by omega) (by omega)] at c92
          refine jl_iinc (i := 7) (d := 1) (lc2 := [(7, _), (6, _), (5, _), (4, _), (3, _), (2, _), (0, _), (1, _)]) (v2 := nI (p + 1)) h (by decide) rfl (nI_1 p) rfl dc_SR_loopEnergy_98 101 rfl ?_
          refine jl_goto h 31 (by decide) dc_SR_loopEnergy_101 ?_
          first
            | exact absurd c92 (by omega)
            | (have e9 : bs.length + 1 = (bs ++ [(p, m)]).length := by simp
               rw [e9]
               refine ih (p + 1) (by omega) (by omega) (bs ++ [(p, m)]) u m p (by omega) (by omega) (fun s hs => ?_) (Or.inr ⟨bs, m, rfl⟩) ?_ (by omega) (by rw [← e9]; omega) hp18
               · rcases List.mem_append.mp hs with h9 | h9
                 · exact hbs s h9
                 · rw [List.mem_singleton] at h9; subst h9; exact ⟨hip, hpm, by show m < j; omega, hm⟩
               · rw [if_neg c41, tp_pair (show p < j by omega) hpm hm] at htp
                 rw [if_pos (by omega), htp, List.append_assoc]; rfl)
            | (refine ih (p + 1) (by omega) (by omega) bs (u + 1) r la hir hrj hbs hla ?_ (by omega) (by omega) hla18
               rw [if_neg c41, tp_free (show p < j by omega) c50] at htp
               rw [if_neg (by omega), htp]
               refine Prod.ext rfl ?_
               show u + ((tp_l w (p + 1) j).2 + 1) = u + 1 + (tp_l w (p + 1) j).2
               omega)
            | (refine ih (p + 1) (by omega) (by omega) bs u r la hir hrj hbs hla ?_ (by omega) (by omega) hla18
               rw [if_pos c41] at htp
               rw [htp]
               by_cases h9 : p + 1 ≤ r
               · rw [if_pos h9]
               · rw [if_neg h9, show p + 1 = r + 1 by omega])
        · skip
          rw [nI_leI (by omega) (by omega)] at c92
          refine jl_iinc (i := 5) (d := 1) (lc2 := [(5, _), (7, _), (6, _), (4, _), (3, _), (2, _), (0, _), (1, _)]) (v2 := iI (38 + lp_wk b i j 5 + 4 * (bs.length : Int) + lp_ws b bs + ((u + 1 : Nat) : Int))) h (by decide) rfl (by rw [show Int32.ofInt 1 = iI 1 from rfl, iI_add]; congr 1; omega) rfl dc_SR_loopEnergy_95 98 rfl ?_
          refine jl_iinc (i := 7) (d := 1) (lc2 := [(7, _), (5, _), (6, _), (4, _), (3, _), (2, _), (0, _), (1, _)]) (v2 := nI (p + 1)) h (by decide) rfl (nI_1 p) rfl dc_SR_loopEnergy_98 101 rfl ?_
          refine jl_goto h 31 (by decide) dc_SR_loopEnergy_101 ?_
          refine jl_sub (lc2 := [(7, _), (6, _), (5, _), (4, _), (3, _), (2, _), (0, _), (1, _)]) [0, 2, 1, 3, 4, 5, 6, 7] rfl ?_
          first
            | exact absurd c92 (by omega)
            | (have e9 : bs.length + 1 = (bs ++ [(p, m)]).length := by simp
               rw [e9]
               refine ih (p + 1) (by omega) (by omega) (bs ++ [(p, m)]) u m p (by omega) (by omega) (fun s hs => ?_) (Or.inr ⟨bs, m, rfl⟩) ?_ (by omega) (by rw [← e9]; omega) hp18
               · rcases List.mem_append.mp hs with h9 | h9
                 · exact hbs s h9
                 · rw [List.mem_singleton] at h9; subst h9; exact ⟨hip, hpm, by show m < j; omega, hm⟩
               · rw [if_neg c41, tp_pair (show p < j by omega) hpm hm] at htp
                 rw [if_pos (by omega), htp, List.append_assoc]; rfl)
            | (refine ih (p + 1) (by omega) (by omega) bs (u + 1) r la hir hrj hbs hla ?_ (by omega) (by omega) hla18
               rw [if_neg c41, tp_free (show p < j by omega) c50] at htp
               rw [if_neg (by omega), htp]
               refine Prod.ext rfl ?_
               show u + ((tp_l w (p + 1) j).2 + 1) = u + 1 + (tp_l w (p + 1) j).2
               omega)
            | (refine ih (p + 1) (by omega) (by omega) bs u r la hir hrj hbs hla ?_ (by omega) (by omega) hla18
               rw [if_pos c41] at htp
               rw [htp]
               by_cases h9 : p + 1 ≤ r
               · rw [if_pos h9]
               · rw [if_neg h9, show p + 1 = r + 1 by omega])
      · skip
        rw [nI_leI (by omega) (by omega)] at c41
        refine jl_aload_n (i := 0) h rfl rfl dc_SR_loopEnergy_44 45 rfl ?_
        refine jl_iload h rfl dc_SR_loopEnergy_45 47 rfl ?_
        refine jl_callV (As := [_]) (rest := []) h hr vs_SR_57 vi_SR_opensAt vx_SR_opensAt (ci := 6) rfl (by omega) (by exact rfl) (fun l => c_SR2_opensAt l hM hp18 hin.1 hin2) (by first | decide | omega) (by first | decide | omega) rfl rfl (Nat.le_of_ble_eq_true rfl) dc_SR_loopEnergy_47 (res := [_]) rfl 50 rfl ?_
        refine jl_if_eq h 88 (by decide) dc_SR_loopEnergy_50 53 rfl (fun c50 => ?_) (fun c50 => ?_)
        · skip
          rw [st_b0] at c50
          have c50 := of_decide_eq_false c50
          refine jl_iload h rfl dc_SR_loopEnergy_88 90 rfl ?_
          refine jl_iload h rfl dc_SR_loopEnergy_90 92 rfl ?_
          refine jl_icmp_le h 98 (by decide) dc_SR_loopEnergy_92 95 rfl (fun c92 => ?_) (fun c92 => ?_)
          · skip
            rw [nI_leI (by omega) (by omega)] at c92
            refine jl_iinc (i := 7) (d := 1) (lc2 := [(7, _), (6, _), (5, _), (4, _), (3, _), (2, _), (0, _), (1, _)]) (v2 := nI (p + 1)) h (by decide) rfl (nI_1 p) rfl dc_SR_loopEnergy_98 101 rfl ?_
            refine jl_goto h 31 (by decide) dc_SR_loopEnergy_101 ?_
            first
              | exact absurd c92 (by omega)
              | (have e9 : bs.length + 1 = (bs ++ [(p, m)]).length := by simp
                 rw [e9]
                 refine ih (p + 1) (by omega) (by omega) (bs ++ [(p, m)]) u m p (by omega) (by omega) (fun s hs => ?_) (Or.inr ⟨bs, m, rfl⟩) ?_ (by omega) (by rw [← e9]; omega) hp18
                 · rcases List.mem_append.mp hs with h9 | h9
                   · exact hbs s h9
                   · rw [List.mem_singleton] at h9; subst h9; exact ⟨hip, hpm, by show m < j; omega, hm⟩
                 · rw [if_neg c41, tp_pair (show p < j by omega) hpm hm] at htp
                   rw [if_pos (by omega), htp, List.append_assoc]; rfl)
              | (refine ih (p + 1) (by omega) (by omega) bs (u + 1) r la hir hrj hbs hla ?_ (by omega) (by omega) hla18
                 rw [if_neg c41, tp_free (show p < j by omega) c50] at htp
                 rw [if_neg (by omega), htp]
                 refine Prod.ext rfl ?_
                 show u + ((tp_l w (p + 1) j).2 + 1) = u + 1 + (tp_l w (p + 1) j).2
                 omega)
              | (refine ih (p + 1) (by omega) (by omega) bs u r la hir hrj hbs hla ?_ (by omega) (by omega) hla18
                 rw [if_pos c41] at htp
                 rw [htp]
                 by_cases h9 : p + 1 ≤ r
                 · rw [if_pos h9]
                 · rw [if_neg h9, show p + 1 = r + 1 by omega])
          · skip
            rw [nI_leI (by omega) (by omega)] at c92
            refine jl_iinc (i := 5) (d := 1) (lc2 := [(5, _), (7, _), (6, _), (4, _), (3, _), (2, _), (0, _), (1, _)]) (v2 := iI (38 + lp_wk b i j 5 + 4 * (bs.length : Int) + lp_ws b bs + ((u + 1 : Nat) : Int))) h (by decide) rfl (by rw [show Int32.ofInt 1 = iI 1 from rfl, iI_add]; congr 1; omega) rfl dc_SR_loopEnergy_95 98 rfl ?_
            refine jl_iinc (i := 7) (d := 1) (lc2 := [(7, _), (5, _), (6, _), (4, _), (3, _), (2, _), (0, _), (1, _)]) (v2 := nI (p + 1)) h (by decide) rfl (nI_1 p) rfl dc_SR_loopEnergy_98 101 rfl ?_
            refine jl_goto h 31 (by decide) dc_SR_loopEnergy_101 ?_
            refine jl_sub (lc2 := [(7, _), (6, _), (5, _), (4, _), (3, _), (2, _), (0, _), (1, _)]) [0, 2, 1, 3, 4, 5, 6, 7] rfl ?_
            first
              | exact absurd c92 (by omega)
              | (have e9 : bs.length + 1 = (bs ++ [(p, m)]).length := by simp
                 rw [e9]
                 refine ih (p + 1) (by omega) (by omega) (bs ++ [(p, m)]) u m p (by omega) (by omega) (fun s hs => ?_) (Or.inr ⟨bs, m, rfl⟩) ?_ (by omega) (by rw [← e9]; omega) hp18
                 · rcases List.mem_append.mp hs with h9 | h9
                   · exact hbs s h9
                   · rw [List.mem_singleton] at h9; subst h9; exact ⟨hip, hpm, by show m < j; omega, hm⟩
                 · rw [if_neg c41, tp_pair (show p < j by omega) hpm hm] at htp
                   rw [if_pos (by omega), htp, List.append_assoc]; rfl)
              | (refine ih (p + 1) (by omega) (by omega) bs (u + 1) r la hir hrj hbs hla ?_ (by omega) (by omega) hla18
                 rw [if_neg c41, tp_free (show p < j by omega) c50] at htp
                 rw [if_neg (by omega), htp]
                 refine Prod.ext rfl ?_
                 show u + ((tp_l w (p + 1) j).2 + 1) = u + 1 + (tp_l w (p + 1) j).2
                 omega)
              | (refine ih (p + 1) (by omega) (by omega) bs u r la hir hrj hbs hla ?_ (by omega) (by omega) hla18
                 rw [if_pos c41] at htp
                 rw [htp]
                 by_cases h9 : p + 1 ≤ r
                 · rw [if_pos h9]
                 · rw [if_neg h9, show p + 1 = r + 1 by omega])
        · skip
          rw [st_b1] at c50
          have c50 := of_decide_eq_true c50
          obtain ⟨m, hm⟩ : ∃ m : Nat, w p = m := ⟨(w p).toNat, by omega⟩
          have hmj := h39 c50
          have hpm : p < m := by omega
          refine jl_iinc (i := 3) (d := 1) (lc2 := [(3, _), (7, _), (6, _), (5, _), (4, _), (2, _), (0, _), (1, _)]) (v2 := nI (bs.length + 1)) h (by decide) rfl (nI_1 _) rfl dc_SR_loopEnergy_53 56 rfl ?_
          refine jl_iload h rfl dc_SR_loopEnergy_56 58 rfl ?_
          refine jl_istore (i := 4) (lc2 := [(4, _), (3, _), (7, _), (6, _), (5, _), (2, _), (0, _), (1, _)]) h (by decide) rfl dc_SR_loopEnergy_58 60 rfl ?_
          refine jl_aload_n (i := 0) h rfl rfl dc_SR_loopEnergy_60 61 rfl ?_
          refine jl_getf h nm_c_SR 0 wl_SR_9 (by omega) (by decide) (by exact rfl) (by rfl) dc_SR_loopEnergy_61 64 rfl ?_
          refine jl_iload h rfl dc_SR_loopEnergy_64 66 rfl ?_
          refine jl_iald (v := nI m) h (p) (by exact rfl) (by omega) (by exact hmat) (by exact hp18) (by first | decide | assumption) (by exact by show iI (w p) = nI m; rw [hm, iI_nat]) dc_SR_loopEnergy_66 67 rfl ?_
          refine jl_istore (i := 6) (lc2 := [(6, _), (4, _), (3, _), (7, _), (5, _), (2, _), (0, _), (1, _)]) h (by decide) rfl dc_SR_loopEnergy_67 69 rfl ?_
          refine jl_iload h rfl dc_SR_loopEnergy_69 71 rfl ?_
          refine jl_aload_n (i := 0) h rfl rfl dc_SR_loopEnergy_71 72 rfl ?_
          refine jl_getf h nm_c_SR 6 wl_SR_22 (by omega) (by decide) (by exact rfl) (by rfl) dc_SR_loopEnergy_72 75 rfl ?_
          refine jl_iload h rfl dc_SR_loopEnergy_75 77 rfl ?_
          refine jl_iload h rfl dc_SR_loopEnergy_77 79 rfl ?_
          refine jl_callV (As := [_, _]) (rest := [_]) h hr vs_SR_75 vi_LO_multiBranch vx_LO_multiBranch (ci := 2) rfl (by omega) (by exact rfl) (fun l => c_LO_multiBranch l (by omega) hS rfl hp18 (show m < 18 by omega)) (by first | decide | omega) (by first | decide | omega) rfl rfl (Nat.le_of_ble_eq_true rfl) dc_SR_loopEnergy_79 (res := [_, _]) rfl 82 rfl ?_
          refine jl_iadd h dc_SR_loopEnergy_82 83 rfl ?_
          rw [show iI (38 + lp_wk b i j 5 + 4 * (bs.length : Int) + lp_ws b bs + u) + iI (4 + lp_wk b p m 5) = iI (38 + lp_wk b i j 5 + 4 * (((bs ++ [(p, m)]).length : Nat) : Int) + lp_ws b (bs ++ [(p, m)]) + u) by rw [iI_add, lp_ws_app]; congr 1; have h9 : lp_ws b [(p, m)] = lp_wk b p m 5 := Int.add_zero _; rw [h9, List.length_append, List.length_singleton]; omega]
          refine jl_istore (i := 5) (lc2 := [(5, _), (6, _), (4, _), (3, _), (7, _), (2, _), (0, _), (1, _)]) h (by decide) rfl dc_SR_loopEnergy_83 85 rfl ?_
          refine jl_goto h 98 (by decide) dc_SR_loopEnergy_85 ?_
          refine jl_iinc (i := 7) (d := 1) (lc2 := [(7, _), (5, _), (6, _), (4, _), (3, _), (2, _), (0, _), (1, _)]) (v2 := nI (p + 1)) h (by decide) rfl (nI_1 p) rfl dc_SR_loopEnergy_98 101 rfl ?_
          refine jl_goto h 31 (by decide) dc_SR_loopEnergy_101 ?_
          refine jl_sub (lc2 := [(7, _), (6, _), (5, _), (4, _), (3, _), (2, _), (0, _), (1, _)]) [0, 2, 1, 3, 4, 5, 6, 7] rfl ?_
          first
            | exact absurd c92 (by omega)
            | (have e9 : bs.length + 1 = (bs ++ [(p, m)]).length := by simp
               rw [e9]
               refine ih (p + 1) (by omega) (by omega) (bs ++ [(p, m)]) u m p (by omega) (by omega) (fun s hs => ?_) (Or.inr ⟨bs, m, rfl⟩) ?_ (by omega) (by rw [← e9]; omega) hp18
               · rcases List.mem_append.mp hs with h9 | h9
                 · exact hbs s h9
                 · rw [List.mem_singleton] at h9; subst h9; exact ⟨hip, hpm, by show m < j; omega, hm⟩
               · rw [if_neg c41, tp_pair (show p < j by omega) hpm hm] at htp
                 rw [if_pos (by omega), htp, List.append_assoc]; rfl)
            | (refine ih (p + 1) (by omega) (by omega) bs (u + 1) r la hir hrj hbs hla ?_ (by omega) (by omega) hla18
               rw [if_neg c41, tp_free (show p < j by omega) c50] at htp
               rw [if_neg (by omega), htp]
               refine Prod.ext rfl ?_
               show u + ((tp_l w (p + 1) j).2 + 1) = u + 1 + (tp_l w (p + 1) j).2
               omega)
            | (refine ih (p + 1) (by omega) (by omega) bs u r la hir hrj hbs hla ?_ (by omega) (by omega) hla18
               rw [if_pos c41] at htp
               rw [htp]
               by_cases h9 : p + 1 ≤ r
               · rw [if_pos h9]
               · rw [if_neg h9, show p + 1 = r + 1 by omega])
  have l0 := loop (j - (i + 1)) (i + 1) (by omega) (by omega) [] 0 i i (Nat.le_refl i) hij (fun s hs => absurd hs List.not_mem_nil) (Or.inl rfl) (by rw [if_neg (by omega)]; simp) (by omega) (by simp) (by omega)
  have e0 : 38 + lp_wk b i j 5 + 4 * (([] : List (Nat × Nat)).length : Int) + lp_ws b [] + ((0 : Nat) : Int) = 38 + lp_wk b i j 5 := by
    show 38 + lp_wk b i j 5 + 4 * ((0 : Nat) : Int) + 0 + ((0 : Nat) : Int) = _
    omega
  rw [e0] at l0
  refine jl_aload_n (i := 0) h rfl rfl dc_SR_loopEnergy_0 1 rfl ?_
  refine jl_getf h nm_c_SR 0 wl_SR_9 (by omega) (by decide) (by exact rfl) (by rfl) dc_SR_loopEnergy_1 4 rfl ?_
  refine jl_iload_n (i := 1) h rfl rfl dc_SR_loopEnergy_4 5 rfl ?_
  refine jl_iald (v := nI j) h (i) (by exact rfl) (by omega) (by exact hmat) (by exact by omega) (by first | decide | assumption) (by exact by show iI (w i) = nI j; rw [hwi, iI_nat]) dc_SR_loopEnergy_5 6 rfl ?_
  refine jl_istore_n (i := 2) (lc2 := [(2, _), (0, _), (1, _)]) h rfl (by decide) rfl dc_SR_loopEnergy_6 7 rfl ?_
  refine jl_iconst (v := nI 0) h (by decide) dc_SR_loopEnergy_7 8 rfl ?_
  refine jl_istore_n (i := 3) (lc2 := [(3, _), (2, _), (0, _), (1, _)]) h rfl (by decide) rfl dc_SR_loopEnergy_8 9 rfl ?_
  refine jl_iload_n (i := 1) h rfl rfl dc_SR_loopEnergy_9 10 rfl ?_
  refine jl_istore (i := 4) (lc2 := [(4, _), (3, _), (2, _), (0, _), (1, _)]) h (by decide) rfl dc_SR_loopEnergy_10 12 rfl ?_
  refine jl_aload_n (i := 0) h rfl rfl dc_SR_loopEnergy_12 13 rfl ?_
  refine jl_getf h nm_c_SR 6 wl_SR_22 (by omega) (by decide) (by exact rfl) (by rfl) dc_SR_loopEnergy_13 16 rfl ?_
  refine jl_iload_n (i := 1) h rfl rfl dc_SR_loopEnergy_16 17 rfl ?_
  refine jl_iload_n (i := 2) h rfl rfl dc_SR_loopEnergy_17 18 rfl ?_
  refine jl_callV (As := [_, _]) (rest := []) h hr vs_SR_71 vi_LO_multiClosing vx_LO_multiClosing (ci := 2) rfl (by omega) (by exact rfl) (fun l => c_LO_multiClosing l (by omega) hS rfl (by omega) (by omega)) (by first | decide | omega) (by first | decide | omega) rfl rfl (Nat.le_of_ble_eq_true rfl) dc_SR_loopEnergy_18 (res := [_]) rfl 21 rfl ?_
  refine jl_istore (i := 5) (lc2 := [(5, _), (4, _), (3, _), (2, _), (0, _), (1, _)]) h (by decide) rfl dc_SR_loopEnergy_21 23 rfl ?_
  refine jl_iload_n (i := 1) h rfl rfl dc_SR_loopEnergy_23 24 rfl ?_
  refine jl_istore (i := 6) (lc2 := [(6, _), (5, _), (4, _), (3, _), (2, _), (0, _), (1, _)]) h (by decide) rfl dc_SR_loopEnergy_24 26 rfl ?_
  refine jl_iload_n (i := 1) h rfl rfl dc_SR_loopEnergy_26 27 rfl ?_
  refine jl_iconst (v := 1) h (by decide) dc_SR_loopEnergy_27 28 rfl ?_
  refine jl_iadd h dc_SR_loopEnergy_28 29 rfl ?_
  rw [show nI i + 1 = nI (i + 1) by exact nI_1 i]
  refine jl_istore (i := 7) (lc2 := [(7, _), (6, _), (5, _), (4, _), (3, _), (2, _), (0, _), (1, _)]) h (by decide) rfl dc_SR_loopEnergy_29 31 rfl ?_
  exact l0
theorem c_SR2_totalEnergy (hS : st_ok K ad (gw K ad I V L C G R) n b) (hM : V 157 = fun k => iI (w k)) (hw : en_V b n w) : jl_C l K sa yn_SR_totalEnergy bc_SR_totalEnergy 4 (some .int) 5 155 168 ad [.ref (ad 156)] (gw K ad I V L C G R) (some (.int (iI (st_E b n w)))) (gw K ad I V L C G R) := by
  refine jl_enter (by decide) (Nat.le_of_ble_eq_true rfl) (fun x h he hr => ?_)
  obtain ⟨hST, hbases, hn, hb⟩ := id hS
  show jl_J x 168 ad 0 0 (gw K ad I V L C G R) 0 [(0, .ref (ad 156))] []
  have hmat : gw K ad I V L C G R 157 = .inl (K 0, 18, .inl (fun k => iI (w k))) := gw_at rfl rfl hM
  have loop : ∀ (dd p : Nat), p + dd = n → ∀ (bs : List (Nat × Nat)) (r : Int), -1 ≤ r → r < n → (tp_l w 0 n).1 = bs ++ (tp_l w (if (p : Int) ≤ r then r.toNat + 1 else p) n).1 → jl_J x 168 ad 0 0 (gw K ad I V L C G R) 6 [(3, .int (nI p)), (2, .int (iI r)), (1, .int (iI (st_S b w p + lp_ws b bs))), (0, .ref (ad 156))] [] := by
    intro dd
    induction dd with
    | zero =>
      intro p hp bs r hr1 hr2 htp
      have hp : p = n := by omega
      subst hp
      rw [tp_end (show p ≤ (if (p : Int) ≤ r then r.toNat + 1 else p) by split <;> omega), List.append_nil] at htp
      refine jl_iload_n (i := 3) h rfl rfl dc_SR_totalEnergy_6 7 rfl ?_
      refine jl_aload_n (i := 0) h rfl rfl dc_SR_totalEnergy_7 8 rfl ?_
      refine jl_getf h nm_c_SR 5 wl_SR_18 (by omega) (by decide) (by exact rfl) (by rfl) dc_SR_totalEnergy_8 11 rfl ?_
      refine jl_callV (As := []) (rest := [_]) h hr vs_SR_45 vi_ST_size vx_ST_size (ci := 1) rfl (by omega) (by exact hST) (fun l => c_ST_size l (by omega) hS) (by first | decide | omega) (by first | decide | omega) rfl rfl (Nat.le_of_ble_eq_true rfl) dc_SR_totalEnergy_11 (res := [_, _]) rfl 14 rfl ?_
      refine jl_icmp_ge h 69 (by decide) dc_SR_totalEnergy_14 17 rfl (fun c14 => ?_) (fun c14 => absurd (nI_le (Nat.le_refl _) (by omega)) c14)
      refine jl_iload_n (i := 1) h rfl rfl dc_SR_totalEnergy_69 70 rfl ?_
      exact jl_zret h he rfl (by unfold st_E; rw [htp]) (rfl) dc_SR_totalEnergy_70
    | succ dd ih =>
      intro p hp bs r hr1 hr2 htp
      have hp18 : p < 18 := by omega
      have hin := en_V_in hw p
      have hin2 : w p < 18 := by rcases hw.1 p with h1 | h1 <;> omega
      have hSn : ¬ (p : Int) < w p → st_S b w (p + 1) = st_S b w p := fun h9 => by
        show st_S b w p + (if (p : Int) < w p then _ else 0) = _
        rw [if_neg h9]
        omega
      have hSy : ∀ m : Nat, p < m → w p = m → st_S b w (p + 1) = st_S b w p + lp_loop b w p m := fun m h8 h9 => by
        show st_S b w p + (if (p : Int) < w p then _ else 0) = _
        rw [if_pos (by omega), h9, Int.toNat_natCast]
      refine jl_iload_n (i := 3) h rfl rfl dc_SR_totalEnergy_6 7 rfl ?_
      refine jl_aload_n (i := 0) h rfl rfl dc_SR_totalEnergy_7 8 rfl ?_
      refine jl_getf h nm_c_SR 5 wl_SR_18 (by omega) (by decide) (by exact rfl) (by rfl) dc_SR_totalEnergy_8 11 rfl ?_
      refine jl_callV (As := []) (rest := [_]) h hr vs_SR_45 vi_ST_size vx_ST_size (ci := 1) rfl (by omega) (by exact hST) (fun l => c_ST_size l (by omega) hS) (by first | decide | omega) (by first | decide | omega) rfl rfl (Nat.le_of_ble_eq_true rfl) dc_SR_totalEnergy_11 (res := [_, _]) rfl 14 rfl ?_
      refine jl_icmp_ge h 69 (by decide) dc_SR_totalEnergy_14 17 rfl (fun c14 => absurd c14 (nI_ge (by omega) (by omega))) (fun c14 => ?_)
      refine jl_aload_n (i := 0) h rfl rfl dc_SR_totalEnergy_17 18 rfl ?_
      refine jl_iload_n (i := 3) h rfl rfl dc_SR_totalEnergy_18 19 rfl ?_
      refine jl_callV (As := [_]) (rest := []) h hr vs_SR_57 vi_SR_opensAt vx_SR_opensAt (ci := 6) rfl (by omega) (by exact rfl) (fun l => c_SR2_opensAt l hM hp18 hin.1 hin2) (by first | decide | omega) (by first | decide | omega) rfl rfl (Nat.le_of_ble_eq_true rfl) dc_SR_totalEnergy_19 (res := [_]) rfl 22 rfl ?_
      refine jl_if_eq h 63 (by decide) dc_SR_totalEnergy_22 25 rfl (fun c22 => ?_) (fun c22 => ?_)
      · skip
        rw [st_b0] at c22
        have c22 := of_decide_eq_false c22
        refine jl_iinc (i := 3) (d := 1) (lc2 := [(3, _), (2, _), (1, _), (0, _)]) (v2 := nI (p + 1)) h (by decide) rfl (nI_1 p) rfl dc_SR_totalEnergy_63 66 rfl ?_
        refine jl_goto h 6 (by decide) dc_SR_totalEnergy_66 ?_
        first
          | (refine ih (p + 1) (by omega) (bs ++ [(p, m)]) m (by omega) (by omega) ?_
             rw [if_neg (by omega), tp_pair (show p < n by omega) hpm hm] at htp
             rw [if_pos (by omega), htp, Int.toNat_natCast, List.append_assoc]
             rfl)
          | (refine ih (p + 1) (by omega) bs r hr1 hr2 ?_
             rw [if_pos (by omega)] at htp
             rw [htp]
             by_cases h9 : ((p + 1 : Nat) : Int) ≤ r
             · rw [if_pos h9]
             · rw [if_neg h9, show p + 1 = r.toNat + 1 by omega])
          | (rw [← hSn c22]
             refine ih (p + 1) (by omega) bs r hr1 hr2 ?_
             by_cases h8 : (p : Int) ≤ r
             · rw [if_pos h8] at htp
               rw [htp]
               by_cases h9 : ((p + 1 : Nat) : Int) ≤ r
               · rw [if_pos h9]
               · rw [if_neg h9, show p + 1 = r.toNat + 1 by omega]
             · rw [if_neg h8, tp_free (show p < n by omega) c22] at htp
               rw [if_neg (by omega), htp])
      · skip
        rw [st_b1] at c22
        have c22 := of_decide_eq_true c22
        obtain ⟨m, hm⟩ : ∃ m : Nat, w p = m := ⟨(w p).toNat, by omega⟩
        have hpm : p < m := by omega
        have hmn : m < n := by rcases hw.1 p with h1 | h1 <;> omega
        refine jl_iload_n (i := 1) h rfl rfl dc_SR_totalEnergy_25 26 rfl ?_
        refine jl_aload_n (i := 0) h rfl rfl dc_SR_totalEnergy_26 27 rfl ?_
        refine jl_iload_n (i := 3) h rfl rfl dc_SR_totalEnergy_27 28 rfl ?_
        refine jl_callV (As := [_]) (rest := [_]) h hr vs_SR_61 vi_SR_loopEnergy vx_SR_loopEnergy (ci := 6) rfl (by omega) (by exact rfl) (fun l => c_SR2_loopEnergy l hS hM hw hpm hm) (by first | decide | omega) (by first | decide | omega) rfl rfl (Nat.le_of_ble_eq_true rfl) dc_SR_totalEnergy_28 (res := [_, _]) rfl 31 rfl ?_
        refine jl_iadd h dc_SR_totalEnergy_31 32 rfl ?_
        rw [show iI (st_S b w p + lp_ws b bs) + iI (lp_loop b w p m) = iI (st_S b w (p + 1) + lp_ws b bs) by rw [iI_add, hSy m hpm hm]; congr 1; omega]
        refine jl_istore_n (i := 1) (lc2 := [(1, _), (3, _), (2, _), (0, _)]) h rfl (by decide) rfl dc_SR_totalEnergy_32 33 rfl ?_
        refine jl_iload_n (i := 3) h rfl rfl dc_SR_totalEnergy_33 34 rfl ?_
        refine jl_iload_n (i := 2) h rfl rfl dc_SR_totalEnergy_34 35 rfl ?_
        refine jl_icmp_le h 63 (by decide) dc_SR_totalEnergy_35 38 rfl (fun c35 => ?_) (fun c35 => ?_)
        · skip
          rw [← iI_nat, iI_le (by omega) (by omega) (by omega) (by omega)] at c35
          refine jl_iinc (i := 3) (d := 1) (lc2 := [(3, _), (1, _), (2, _), (0, _)]) (v2 := nI (p + 1)) h (by decide) rfl (nI_1 p) rfl dc_SR_totalEnergy_63 66 rfl ?_
          refine jl_goto h 6 (by decide) dc_SR_totalEnergy_66 ?_
          refine jl_sub (lc2 := [(3, _), (2, _), (1, _), (0, _)]) [0, 2, 1, 3] rfl ?_
          first
            | (refine ih (p + 1) (by omega) (bs ++ [(p, m)]) m (by omega) (by omega) ?_
               rw [if_neg (by omega), tp_pair (show p < n by omega) hpm hm] at htp
               rw [if_pos (by omega), htp, Int.toNat_natCast, List.append_assoc]
               rfl)
            | (refine ih (p + 1) (by omega) bs r hr1 hr2 ?_
               rw [if_pos (by omega)] at htp
               rw [htp]
               by_cases h9 : ((p + 1 : Nat) : Int) ≤ r
               · rw [if_pos h9]
               · rw [if_neg h9, show p + 1 = r.toNat + 1 by omega])
            | (rw [← hSn c22]
               refine ih (p + 1) (by omega) bs r hr1 hr2 ?_
               by_cases h8 : (p : Int) ≤ r
               · rw [if_pos h8] at htp
                 rw [htp]
                 by_cases h9 : ((p + 1 : Nat) : Int) ≤ r
                 · rw [if_pos h9]
                 · rw [if_neg h9, show p + 1 = r.toNat + 1 by omega]
               · rw [if_neg h8, tp_free (show p < n by omega) c22] at htp
                 rw [if_neg (by omega), htp])
        · skip
          rw [← iI_nat, iI_le (by omega) (by omega) (by omega) (by omega)] at c35
          refine jl_iload_n (i := 1) h rfl rfl dc_SR_totalEnergy_38 39 rfl ?_
          refine jl_aload_n (i := 0) h rfl rfl dc_SR_totalEnergy_39 40 rfl ?_
          refine jl_getf h nm_c_SR 5 wl_SR_18 (by omega) (by decide) (by exact rfl) (by rfl) dc_SR_totalEnergy_40 43 rfl ?_
          refine jl_iload_n (i := 3) h rfl rfl dc_SR_totalEnergy_43 44 rfl ?_
          refine jl_aload_n (i := 0) h rfl rfl dc_SR_totalEnergy_44 45 rfl ?_
          refine jl_getf h nm_c_SR 0 wl_SR_9 (by omega) (by decide) (by exact rfl) (by rfl) dc_SR_totalEnergy_45 48 rfl ?_
          refine jl_iload_n (i := 3) h rfl rfl dc_SR_totalEnergy_48 49 rfl ?_
          refine jl_iald (v := nI m) h (p) (by exact rfl) (by omega) (by exact hmat) (by exact hp18) (by first | decide | assumption) (by exact by show iI (w p) = nI m; rw [hm, iI_nat]) dc_SR_totalEnergy_49 50 rfl ?_
          refine jl_iconst (v := iI 5) h (by decide) dc_SR_totalEnergy_50 51 rfl ?_
          refine jl_callV (As := [_, _, _]) (rest := [_]) h hr vs_SR_67 vi_ST_ifWeak vx_ST_ifWeak (ci := 1) rfl (by omega) (by exact hST) (fun l => c_ST_ifWeak l (by omega) hS hp18 (show m < 18 by omega) 5) (by first | decide | omega) (by first | decide | omega) rfl rfl (Nat.le_of_ble_eq_true rfl) dc_SR_totalEnergy_51 (res := [_, _]) rfl 54 rfl ?_
          refine jl_iadd h dc_SR_totalEnergy_54 55 rfl ?_
          rw [show iI (st_S b w (p + 1) + lp_ws b bs) + iI (if 2 ≤ en_kd (b p) (b m) then 5 else 0) = iI (st_S b w (p + 1) + lp_ws b (bs ++ [(p, m)])) by rw [iI_add, lp_ws_app]; congr 1; have h9 : lp_ws b [(p, m)] = lp_wk b p m 5 := Int.add_zero _; rw [h9]; show _ + _ + lp_wk b p m 5 = _; omega]
          refine jl_istore_n (i := 1) (lc2 := [(1, _), (3, _), (2, _), (0, _)]) h rfl (by decide) rfl dc_SR_totalEnergy_55 56 rfl ?_
          refine jl_aload_n (i := 0) h rfl rfl dc_SR_totalEnergy_56 57 rfl ?_
          refine jl_getf h nm_c_SR 0 wl_SR_9 (by omega) (by decide) (by exact rfl) (by rfl) dc_SR_totalEnergy_57 60 rfl ?_
          refine jl_iload_n (i := 3) h rfl rfl dc_SR_totalEnergy_60 61 rfl ?_
          refine jl_iald (v := iI (m : Int)) h (p) (by exact rfl) (by omega) (by exact hmat) (by exact hp18) (by first | decide | assumption) (by exact by show iI (w p) = iI m; rw [hm]) dc_SR_totalEnergy_61 62 rfl ?_
          refine jl_istore_n (i := 2) (lc2 := [(2, _), (1, _), (3, _), (0, _)]) h rfl (by decide) rfl dc_SR_totalEnergy_62 63 rfl ?_
          refine jl_iinc (i := 3) (d := 1) (lc2 := [(3, _), (2, _), (1, _), (0, _)]) (v2 := nI (p + 1)) h (by decide) rfl (nI_1 p) rfl dc_SR_totalEnergy_63 66 rfl ?_
          refine jl_goto h 6 (by decide) dc_SR_totalEnergy_66 ?_
          first
            | (refine ih (p + 1) (by omega) (bs ++ [(p, m)]) m (by omega) (by omega) ?_
               rw [if_neg (by omega), tp_pair (show p < n by omega) hpm hm] at htp
               rw [if_pos (by omega), htp, Int.toNat_natCast, List.append_assoc]
               rfl)
            | (refine ih (p + 1) (by omega) bs r hr1 hr2 ?_
               rw [if_pos (by omega)] at htp
               rw [htp]
               by_cases h9 : ((p + 1 : Nat) : Int) ≤ r
               · rw [if_pos h9]
               · rw [if_neg h9, show p + 1 = r.toNat + 1 by omega])
            | (rw [← hSn c22]
               refine ih (p + 1) (by omega) bs r hr1 hr2 ?_
               by_cases h8 : (p : Int) ≤ r
               · rw [if_pos h8] at htp
                 rw [htp]
                 by_cases h9 : ((p + 1 : Nat) : Int) ≤ r
                 · rw [if_pos h9]
                 · rw [if_neg h9, show p + 1 = r.toNat + 1 by omega]
               · rw [if_neg h8, tp_free (show p < n by omega) c22] at htp
                 rw [if_neg (by omega), htp])
  have l0 := loop n 0 (by omega) [] (-1) (by omega) (by omega) (by rw [if_neg (by omega)]; simp)
  have e0 : st_S b w 0 + lp_ws b [] = 0 := rfl
  rw [e0] at l0
  refine jl_iconst (v := iI 0) h (by decide) dc_SR_totalEnergy_0 1 rfl ?_
  refine jl_istore_n (i := 1) (lc2 := [(1, _), (0, _)]) h rfl (by decide) rfl dc_SR_totalEnergy_1 2 rfl ?_
  refine jl_iconst (v := iI (-1)) h (by decide) dc_SR_totalEnergy_2 3 rfl ?_
  refine jl_istore_n (i := 2) (lc2 := [(2, _), (1, _), (0, _)]) h rfl (by decide) rfl dc_SR_totalEnergy_3 4 rfl ?_
  refine jl_iconst (v := nI 0) h (by decide) dc_SR_totalEnergy_4 5 rfl ?_
  refine jl_istore_n (i := 3) (lc2 := [(3, _), (2, _), (1, _), (0, _)]) h rfl (by decide) rfl dc_SR_totalEnergy_5 6 rfl ?_
  exact l0
theorem c_FS2_energy (hG : G 0 = 156) (hS : st_ok K ad (gw K ad I V L C G R) n b) (hM : V 157 = fun k => iI (w k)) (hw : en_V b n w) : jl_C l K sa yn_FS_energy bc_FS_energy 1 (some .int) 6 180 168 ad [.ref (ad 0)] (gw K ad I V L C G R) (some (.int (iI (st_E b n w)))) (gw K ad I V L C G R) := by
  refine jl_enter (by decide) (Nat.le_of_ble_eq_true rfl) (fun x h he hr => ?_)
  show jl_J x 168 ad 0 0 (gw K ad I V L C G R) 0 [(0, .ref (ad 0))] []
  refine jl_aload_n (i := 0) h rfl rfl dc_FS_energy_0 1 rfl ?_
  refine jl_getf (v := .ref (ad 156)) h nm_c_FS 5 wl_FS_42 (by omega) (by decide) (by exact rfl) (by exact fs_r hG) dc_FS_energy_1 4 rfl ?_
  refine jl_callV (As := []) (rest := []) h hr vs_FS_113 vi_SR_totalEnergy vx_SR_totalEnergy (ci := 6) rfl (by omega) (by exact rfl) (fun l => c_SR2_totalEnergy l hS hM hw) (by first | decide | omega) (by first | decide | omega) rfl rfl (Nat.le_of_ble_eq_true rfl) dc_FS_energy_4 (res := [_]) rfl 7 rfl ?_
  exact jl_zret h he rfl (rfl) (rfl) dc_FS_energy_7
theorem c_FS2_loop_no (hG : G 0 = 156) (hS : st_ok K ad (gw K ad I V L C G R) n b) (q : Int32) (hq : ¬ (¬ q < 0 ∧ q < nI n)) : jl_C l K sa yn_FS_loop bc_FS_loop 2 (some .int) 5 160 168 ad [.ref (ad 0), .int q] (gw K ad I V L C G R) (some (.int 0)) (gw K ad I V L C G R) := by
  refine jl_enter (by decide) (Nat.le_of_ble_eq_true rfl) (fun x h he hr => ?_)
  show jl_J x 168 ad 0 0 (gw K ad I V L C G R) 0 [(0, .ref (ad 0)), (1, .int q)] []
  refine jl_aload_n (i := 0) h rfl rfl dc_FS_loop_0 1 rfl ?_
  refine jl_getf h nm_c_FS 0 wl_FS_10 (by omega) (by decide) (by exact rfl) (by rfl) dc_FS_loop_1 4 rfl ?_
  refine jl_iload_n (i := 1) h rfl rfl dc_FS_loop_4 5 rfl ?_
  refine jl_callV (As := [_]) (rest := []) h hr vs_FS_94 vi_ST_has vx_ST_has (ci := 1) rfl (by omega) (by exact hS.1) (fun l => c_ST_has l (by omega) hS q) (by first | decide | omega) (by first | decide | omega) rfl rfl (Nat.le_of_ble_eq_true rfl) dc_FS_loop_5 (res := [_]) rfl 8 rfl ?_
  refine jl_if_eq h 33 (by decide) dc_FS_loop_8 11 rfl (fun c8 => ?_) (fun c8 => absurd (by rw [st_b0]; exact decide_eq_false hq) c8)
  refine jl_iconst (v := 0) h (by decide) dc_FS_loop_33 34 rfl ?_
  exact jl_zret h he rfl (rfl) (rfl) dc_FS_loop_34
theorem c_FS2_loop (hG : G 0 = 156) (hS : st_ok K ad (gw K ad I V L C G R) n b) (hM : V 157 = fun i => iI (w i)) (hw : en_V b n w) {i : Nat} (hi : i < n) : jl_C l K sa yn_FS_loop bc_FS_loop 2 (some .int) 5 160 168 ad [.ref (ad 0), .int (nI i)] (gw K ad I V L C G R) (some (.int (iI (if (i : Int) < w i then lp_loop b w i (w i).toNat else 0)))) (gw K ad I V L C G R) := by
  refine jl_enter (by decide) (Nat.le_of_ble_eq_true rfl) (fun x h he hr => ?_)
  obtain ⟨hST, hbases, hn, hb⟩ := id hS
  show jl_J x 168 ad 0 0 (gw K ad I V L C G R) 0 [(0, .ref (ad 0)), (1, .int (nI i))] []
  have hin := en_V_in hw i
  have hin2 : w i < 18 := by rcases hw.1 i with h1 | h1 <;> omega
  refine jl_aload_n (i := 0) h rfl rfl dc_FS_loop_0 1 rfl ?_
  refine jl_getf h nm_c_FS 0 wl_FS_10 (by omega) (by decide) (by exact rfl) (by rfl) dc_FS_loop_1 4 rfl ?_
  refine jl_iload_n (i := 1) h rfl rfl dc_FS_loop_4 5 rfl ?_
  refine jl_callV (As := [_]) (rest := []) h hr vs_FS_94 vi_ST_has vx_ST_has (ci := 1) rfl (by omega) (by exact hS.1) (fun l => c_ST_has l (by omega) hS (nI i)) (by first | decide | omega) (by first | decide | omega) rfl rfl (Nat.le_of_ble_eq_true rfl) dc_FS_loop_5 (res := [_]) rfl 8 rfl ?_
  refine jl_if_eq h 33 (by decide) dc_FS_loop_8 11 rfl (fun c8 => absurd c8 (by rw [st_b1]; exact decide_eq_true ⟨nI_pos (by omega), nI_lt hi (by omega)⟩)) (fun c8 => ?_)
  refine jl_aload_n (i := 0) h rfl rfl dc_FS_loop_11 12 rfl ?_
  refine jl_getf (v := .ref (ad 156)) h nm_c_FS 5 wl_FS_42 (by omega) (by decide) (by exact rfl) (by exact fs_r hG) dc_FS_loop_12 15 rfl ?_
  refine jl_iload_n (i := 1) h rfl rfl dc_FS_loop_15 16 rfl ?_
  refine jl_callV (As := [_]) (rest := []) h hr vs_FS_122 vi_SR_opensAt vx_SR_opensAt (ci := 6) rfl (by omega) (by exact rfl) (fun l => c_SR2_opensAt l hM (by omega) hin.1 hin2) (by first | decide | omega) (by first | decide | omega) rfl rfl (Nat.le_of_ble_eq_true rfl) dc_FS_loop_16 (res := [_]) rfl 19 rfl ?_
  refine jl_if_eq h 33 (by decide) dc_FS_loop_19 22 rfl (fun c19 => ?_) (fun c19 => ?_)
  · skip
    rw [st_b0] at c19
    have c19 := of_decide_eq_false c19
    refine jl_iconst (v := 0) h (by decide) dc_FS_loop_33 34 rfl ?_
    exact jl_zret h he rfl (by first | (rw [if_neg c19]; rfl) | rw [if_pos c19, hm, Int.toNat_natCast]) (rfl) dc_FS_loop_34
  · skip
    rw [st_b1] at c19
    have c19 := of_decide_eq_true c19
    obtain ⟨m, hm⟩ : ∃ m : Nat, w i = m := ⟨(w i).toNat, by omega⟩
    refine jl_aload_n (i := 0) h rfl rfl dc_FS_loop_22 23 rfl ?_
    refine jl_getf (v := .ref (ad 156)) h nm_c_FS 5 wl_FS_42 (by omega) (by decide) (by exact rfl) (by exact fs_r hG) dc_FS_loop_23 26 rfl ?_
    refine jl_iload_n (i := 1) h rfl rfl dc_FS_loop_26 27 rfl ?_
    refine jl_callV (As := [_]) (rest := []) h hr vs_FS_125 vi_SR_loopEnergy vx_SR_loopEnergy (ci := 6) rfl (by omega) (by exact rfl) (fun l => c_SR2_loopEnergy l hS hM hw (show i < m by omega) hm) (by first | decide | omega) (by first | decide | omega) rfl rfl (Nat.le_of_ble_eq_true rfl) dc_FS_loop_27 (res := [_]) rfl 30 rfl ?_
    refine jl_goto h 34 (by decide) dc_FS_loop_30 ?_
    exact jl_zret h he rfl (by first | (rw [if_neg c19]; rfl) | rw [if_pos c19, hm, Int.toNat_natCast]) (rfl) dc_FS_loop_34
end SR

