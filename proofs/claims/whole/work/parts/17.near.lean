/-! FoldedStrand$NearList but for the search: numbers, and contracts. -/
def iL (z : Int) : Int64 := Int64.ofInt z
theorem iL_add (a c : Int) : iL a + iL c = iL (a + c) := (Int64.ofInt_add a c).symm
theorem iL_sub (a c : Int) : iL a - iL c = iL (a - c) := (Int64.ofInt_sub a c).symm
theorem iL_toInt {z : Int} (h1 : -9223372036854775808 ≤ z) (h2 : z < 9223372036854775808) : (iL z).toInt = z := Int64.toInt_ofInt_of_le (by omega) (by omega)
theorem iL_of_iI {z : Int} (h1 : -2147483648 ≤ z) (h2 : z < 2147483648) : (iI z).toInt64 = iL z := by
  apply Int64.toInt_inj.mp
  rw [Int32.toInt_toInt64, iI_toInt h1 h2, iL_toInt (by omega) (by omega)]
theorem iL_lt {a c : Int} (ha1 : -9223372036854775808 ≤ a) (ha2 : a < 9223372036854775808) (hc1 : -9223372036854775808 ≤ c) (hc2 : c < 9223372036854775808) : iL a < iL c ↔ a < c := by
  rw [Int64.lt_iff_toInt_lt, iL_toInt ha1 ha2, iL_toInt hc1 hc2]
/-- a place's weight in a text -/
def nl_4 (p : Nat) : Int := 4 ^ (17 - p)
theorem nl_shl2 : ∀ p, p < 18 → (2 : Int64) <<< ((nI (2 * (17 - p))).toInt64 &&& 63) = iL (2 * nl_4 p) := by decide +kernel
theorem nl_shl1 : ∀ p, p < 18 → (1 : Int64) <<< ((nI (2 * (17 - p))).toInt64 &&& 63) = iL (nl_4 p) := by decide +kernel
theorem nl_shl36 (z : Int) : iL z <<< ((36 : Int32).toInt64 &&& 63) = iL (z * 68719476736) := by
  have h : ((36 : Int32).toInt64 &&& 63) = (36 : Int64) := by decide
  rw [h]
  apply Int64.toBitVec_inj.mp
  show (Int64.ofInt z).toBitVec <<< ((36 : Int64).toBitVec.smod 64) = (Int64.ofInt (z * 68719476736)).toBitVec
  rw [show ((36 : Int64).toBitVec.smod 64) = 36#64 by decide]
  rw [Int64.toBitVec_ofInt, Int64.toBitVec_ofInt, BitVec.ofInt_mul]
  rw [BitVec.shiftLeft_eq', show (36#64).toNat = 36 by decide, BitVec.shiftLeft_eq_mul_twoPow]
  congr 1
/-- what a pair takes off a text -/
def nl_dt (i j : Nat) : Int := 2 * nl_4 i + nl_4 j
theorem nl_upR (ad : Nat → Nat) (R : Nat → Nat) (i c : Nat) : va_up (fun k => some (ad (R k))) i (some (ad c)) = fun k => some (ad (va_up R i c k)) := by
  funext k
  unfold va_up
  split <;> rfl
theorem gw_setRf {K : Nat → ClassId} {ad : Nat → Nat} {I : Nat → Int32} {V : Nat → Nat → Int32} {L : Nat → Int64} {C : Nat → Int32} {G : Nat → Nat} {R : Nat → Nat} (i c : Nat) : va_up (gw K ad I V L C G R) 150 (.inl (K 3, 40, .inr (.inr (.inr (.inr (va_up (fun k => some (ad (R k))) i (some (ad c)))))))) = gw K ad I V L C G (va_up R i c) := by
  rw [nl_upR]
  exact gw_set_R _
/-- the regions' objects -/
def nl_nx (ad : Nat → Nat) (r : Nat) : Value := if r < 2 then .null else .ref (ad (64 + 21 * (r - 1)))
theorem gw_re {K : Nat → ClassId} {ad : Nat → Nat} {I : Nat → Int32} {V : Nat → Nat → Int32} {L : Nat → Int64} {C : Nat → Int32} {G : Nat → Nat} {R : Nat → Nat} {r : Nat} (hr : r < 4) : gw K ad I V L C G R (64 + 21 * r) = .inr (4, [.int (iI (fo_pp r)), .int (iI (fo_pq r)), .ref (ad (65 + 21 * r)), nl_nx ad r]) := by
  match r, hr with
  | 0, _ => rfl
  | 1, _ => rfl
  | 2, _ => rfl
  | 3, _ => rfl
theorem gw_ra {K : Nat → ClassId} {ad : Nat → Nat} {I : Nat → Int32} {V : Nat → Nat → Int32} {L : Nat → Int64} {C : Nat → Int32} {G : Nat → Nat} {R : Nat → Nat} {r : Nat} (hr : r < 4) : gw K ad I V L C G R (65 + 21 * r) = .inl (K 4, 19, .inr (.inr (.inr (.inr (fun i => if i < 19 then some (ad (66 + 21 * r + i)) else none))))) := by
  match r, hr with
  | 0, _ => rfl
  | 1, _ => rfl
  | 2, _ => rfl
  | 3, _ => rfl
theorem gw_rr {r i : Nat} (hr : r < 4) (hi : i < 19) : gw_i (66 + 21 * r + i) = true ∧ gw_len (66 + 21 * r + i) = 19 := by
  match r, hr with
  | 0, _ => exact gw_i_66 i hi
  | 1, _ => exact gw_i_87 i hi
  | 2, _ => exact gw_i_108 i hi
  | 3, _ => exact gw_i_129 i hi
abbrev bc_NL_size : ByteArray := prog_4_method_2_code
abbrev yn_NL_size : MethodName := ⟨"FoldedStrand$NearList", "size", "()I"⟩
theorem wl_NL_15 : Cond.fieldLink "FoldedStrand$NearList" 15 "FoldedStrand$NearList" "count" "I" ∈ jl_T := jl_T_of 117 (by decide +kernel) (by decide +kernel)
theorem dc_NL_size_0 : decode bc_NL_size 0 = .ok (.aload_n 0, 1) := by decide +kernel
theorem dc_NL_size_1 : decode bc_NL_size 1 = .ok (.getfield 15, 3) := by decide +kernel
theorem dc_NL_size_4 : decode bc_NL_size 4 = .ok (.ireturn, 1) := by decide +kernel
abbrev bc_NL_has : ByteArray := prog_4_method_3_code
abbrev yn_NL_has : MethodName := ⟨"FoldedStrand$NearList", "has", "(I)Z"⟩
theorem dc_NL_has_0 : decode bc_NL_has 0 = .ok (.iload_n 1, 1) := by decide +kernel
theorem dc_NL_has_1 : decode bc_NL_has 1 = .ok (.ifCond .lt 15, 3) := by decide +kernel
theorem dc_NL_has_4 : decode bc_NL_has 4 = .ok (.iload_n 1, 1) := by decide +kernel
theorem dc_NL_has_5 : decode bc_NL_has 5 = .ok (.aload_n 0, 1) := by decide +kernel
theorem dc_NL_has_6 : decode bc_NL_has 6 = .ok (.getfield 15, 3) := by decide +kernel
theorem dc_NL_has_9 : decode bc_NL_has 9 = .ok (.if_icmp .ge 7, 3) := by decide +kernel
theorem dc_NL_has_12 : decode bc_NL_has 12 = .ok (.iconst 1, 1) := by decide +kernel
theorem dc_NL_has_13 : decode bc_NL_has 13 = .ok (.goto 4, 3) := by decide +kernel
theorem dc_NL_has_16 : decode bc_NL_has 16 = .ok (.iconst 0, 1) := by decide +kernel
theorem dc_NL_has_17 : decode bc_NL_has 17 = .ok (.ireturn, 1) := by decide +kernel
abbrev bc_NL_forget : ByteArray := prog_4_method_4_code
abbrev yn_NL_forget : MethodName := ⟨"FoldedStrand$NearList", "forget", "()V"⟩
theorem dc_NL_forget_0 : decode bc_NL_forget 0 = .ok (.aload_n 0, 1) := by decide +kernel
theorem dc_NL_forget_1 : decode bc_NL_forget 1 = .ok (.iconst 0, 1) := by decide +kernel
theorem dc_NL_forget_2 : decode bc_NL_forget 2 = .ok (.putfield 15, 3) := by decide +kernel
theorem dc_NL_forget_5 : decode bc_NL_forget 5 = .ok (.return_, 1) := by decide +kernel
abbrev bc_NL_shiftOf : ByteArray := prog_4_method_14_code
abbrev yn_NL_shiftOf : MethodName := ⟨"FoldedStrand$NearList", "shiftOf", "(I)I"⟩
theorem dc_NL_shiftOf_0 : decode bc_NL_shiftOf 0 = .ok (.iconst 2, 1) := by decide +kernel
theorem dc_NL_shiftOf_1 : decode bc_NL_shiftOf 1 = .ok (.bipush 17, 2) := by decide +kernel
theorem dc_NL_shiftOf_3 : decode bc_NL_shiftOf 3 = .ok (.iload_n 0, 1) := by decide +kernel
theorem dc_NL_shiftOf_4 : decode bc_NL_shiftOf 4 = .ok (.isub, 1) := by decide +kernel
theorem dc_NL_shiftOf_5 : decode bc_NL_shiftOf 5 = .ok (.imul, 1) := by decide +kernel
theorem dc_NL_shiftOf_6 : decode bc_NL_shiftOf 6 = .ok (.ireturn, 1) := by decide +kernel
abbrev bc_NL_withPair : ByteArray := prog_4_method_13_code
abbrev yn_NL_withPair : MethodName := ⟨"FoldedStrand$NearList", "withPair", "(JII)J"⟩
theorem wk_NL_134 : Cond.constantLong "FoldedStrand$NearList" 134 (2) ∈ jl_T := jl_T_of 371 (by decide +kernel) (by decide +kernel)
theorem vs_NL_57 : jl_v "FoldedStrand$NearList" 57 yn_NL_shiftOf bc_NL_shiftOf 1 (some .int) 1 := ⟨jl_T_of 374 (by decide +kernel) (by decide +kernel), jl_T_of 6 (by decide +kernel) (by decide +kernel), jl_T_of 372 (by decide +kernel) (by decide +kernel), by decide +kernel, by decide +kernel, by decide +kernel⟩
theorem vt_NL_shiftOf : Cond.static yn_NL_shiftOf ∈ jl_T := jl_T_of 373 (by decide +kernel) (by decide +kernel)
theorem dc_NL_withPair_0 : decode bc_NL_withPair 0 = .ok (.lload_n 0, 1) := by decide +kernel
theorem dc_NL_withPair_1 : decode bc_NL_withPair 1 = .ok (.ldc2_w 134, 3) := by decide +kernel
theorem dc_NL_withPair_4 : decode bc_NL_withPair 4 = .ok (.iload_n 2, 1) := by decide +kernel
theorem dc_NL_withPair_5 : decode bc_NL_withPair 5 = .ok (.invokestatic 57, 3) := by decide +kernel
theorem dc_NL_withPair_8 : decode bc_NL_withPair 8 = .ok (.lshl, 1) := by decide +kernel
theorem dc_NL_withPair_9 : decode bc_NL_withPair 9 = .ok (.lsub, 1) := by decide +kernel
theorem dc_NL_withPair_10 : decode bc_NL_withPair 10 = .ok (.lconst 1, 1) := by decide +kernel
theorem dc_NL_withPair_11 : decode bc_NL_withPair 11 = .ok (.iload_n 3, 1) := by decide +kernel
theorem dc_NL_withPair_12 : decode bc_NL_withPair 12 = .ok (.invokestatic 57, 3) := by decide +kernel
theorem dc_NL_withPair_15 : decode bc_NL_withPair 15 = .ok (.lshl, 1) := by decide +kernel
theorem dc_NL_withPair_16 : decode bc_NL_withPair 16 = .ok (.lsub, 1) := by decide +kernel
theorem dc_NL_withPair_17 : decode bc_NL_withPair 17 = .ok (.lreturn, 1) := by decide +kernel
abbrev bc_NL_textWithoutPairs : ByteArray := prog_4_method_12_code
abbrev yn_NL_textWithoutPairs : MethodName := ⟨"FoldedStrand$NearList", "textWithoutPairs", "()J"⟩
theorem wl_NL_39 : Cond.fieldLink "FoldedStrand$NearList" 39 "FoldedStrand$NearList" "strand" "LFoldedStrand$Strand;" ∈ jl_T := jl_T_of 123 (by decide +kernel) (by decide +kernel)
theorem vs_NL_65 : jl_v "FoldedStrand$NearList" 65 yn_ST_size bc_ST_size 1 (some .int) 0 := ⟨jl_T_of 226 (by decide +kernel) (by decide +kernel), jl_T_of 2 (by decide +kernel) (by decide +kernel), jl_T_of 362 (by decide +kernel) (by decide +kernel), by decide +kernel, by decide +kernel, by decide +kernel⟩
theorem dc_NL_textWithoutPairs_0 : decode bc_NL_textWithoutPairs 0 = .ok (.lconst 0, 1) := by decide +kernel
theorem dc_NL_textWithoutPairs_1 : decode bc_NL_textWithoutPairs 1 = .ok (.lstore_n 1, 1) := by decide +kernel
theorem dc_NL_textWithoutPairs_2 : decode bc_NL_textWithoutPairs 2 = .ok (.iconst 0, 1) := by decide +kernel
theorem dc_NL_textWithoutPairs_3 : decode bc_NL_textWithoutPairs 3 = .ok (.istore_n 3, 1) := by decide +kernel
theorem dc_NL_textWithoutPairs_4 : decode bc_NL_textWithoutPairs 4 = .ok (.iload_n 3, 1) := by decide +kernel
theorem dc_NL_textWithoutPairs_5 : decode bc_NL_textWithoutPairs 5 = .ok (.aload_n 0, 1) := by decide +kernel
theorem dc_NL_textWithoutPairs_6 : decode bc_NL_textWithoutPairs 6 = .ok (.getfield 39, 3) := by decide +kernel
theorem dc_NL_textWithoutPairs_9 : decode bc_NL_textWithoutPairs 9 = .ok (.invokevirtual 65, 3) := by decide +kernel
theorem dc_NL_textWithoutPairs_12 : decode bc_NL_textWithoutPairs 12 = .ok (.if_icmp .ge 20, 3) := by decide +kernel
theorem dc_NL_textWithoutPairs_15 : decode bc_NL_textWithoutPairs 15 = .ok (.lload_n 1, 1) := by decide +kernel
theorem dc_NL_textWithoutPairs_16 : decode bc_NL_textWithoutPairs 16 = .ok (.ldc2_w 134, 3) := by decide +kernel
theorem dc_NL_textWithoutPairs_19 : decode bc_NL_textWithoutPairs 19 = .ok (.iload_n 3, 1) := by decide +kernel
theorem dc_NL_textWithoutPairs_20 : decode bc_NL_textWithoutPairs 20 = .ok (.invokestatic 57, 3) := by decide +kernel
theorem dc_NL_textWithoutPairs_23 : decode bc_NL_textWithoutPairs 23 = .ok (.lshl, 1) := by decide +kernel
theorem dc_NL_textWithoutPairs_24 : decode bc_NL_textWithoutPairs 24 = .ok (.ladd, 1) := by decide +kernel
theorem dc_NL_textWithoutPairs_25 : decode bc_NL_textWithoutPairs 25 = .ok (.lstore_n 1, 1) := by decide +kernel
theorem dc_NL_textWithoutPairs_26 : decode bc_NL_textWithoutPairs 26 = .ok (.iinc 3 1, 3) := by decide +kernel
theorem dc_NL_textWithoutPairs_29 : decode bc_NL_textWithoutPairs 29 = .ok (.goto (-25), 3) := by decide +kernel
theorem dc_NL_textWithoutPairs_32 : decode bc_NL_textWithoutPairs 32 = .ok (.lload_n 1, 1) := by decide +kernel
theorem dc_NL_textWithoutPairs_33 : decode bc_NL_textWithoutPairs 33 = .ok (.lreturn, 1) := by decide +kernel
abbrev bc_NL_setRegion : ByteArray := prog_4_method_10_code
abbrev yn_NL_setRegion : MethodName := ⟨"FoldedStrand$NearList", "setRegion", "(ILFoldedStrand$Region;II)V"⟩
theorem wl_NL_28 : Cond.fieldLink "FoldedStrand$NearList" 28 "FoldedStrand$NearList" "regions" "[LFoldedStrand$Region;" ∈ jl_T := jl_T_of 120 (by decide +kernel) (by decide +kernel)
theorem wl_NL_32 : Cond.fieldLink "FoldedStrand$NearList" 32 "FoldedStrand$NearList" "starts" "[I" ∈ jl_T := jl_T_of 121 (by decide +kernel) (by decide +kernel)
theorem wl_NL_36 : Cond.fieldLink "FoldedStrand$NearList" 36 "FoldedStrand$NearList" "ends" "[I" ∈ jl_T := jl_T_of 122 (by decide +kernel) (by decide +kernel)
theorem dc_NL_setRegion_0 : decode bc_NL_setRegion 0 = .ok (.aload_n 0, 1) := by decide +kernel
theorem dc_NL_setRegion_1 : decode bc_NL_setRegion 1 = .ok (.getfield 28, 3) := by decide +kernel
theorem dc_NL_setRegion_4 : decode bc_NL_setRegion 4 = .ok (.iload_n 1, 1) := by decide +kernel
theorem dc_NL_setRegion_5 : decode bc_NL_setRegion 5 = .ok (.aload_n 2, 1) := by decide +kernel
theorem dc_NL_setRegion_6 : decode bc_NL_setRegion 6 = .ok (.aastore, 1) := by decide +kernel
theorem dc_NL_setRegion_7 : decode bc_NL_setRegion 7 = .ok (.aload_n 0, 1) := by decide +kernel
theorem dc_NL_setRegion_8 : decode bc_NL_setRegion 8 = .ok (.getfield 32, 3) := by decide +kernel
theorem dc_NL_setRegion_11 : decode bc_NL_setRegion 11 = .ok (.iload_n 1, 1) := by decide +kernel
theorem dc_NL_setRegion_12 : decode bc_NL_setRegion 12 = .ok (.iload_n 3, 1) := by decide +kernel
theorem dc_NL_setRegion_13 : decode bc_NL_setRegion 13 = .ok (.iastore, 1) := by decide +kernel
theorem dc_NL_setRegion_14 : decode bc_NL_setRegion 14 = .ok (.aload_n 0, 1) := by decide +kernel
theorem dc_NL_setRegion_15 : decode bc_NL_setRegion 15 = .ok (.getfield 36, 3) := by decide +kernel
theorem dc_NL_setRegion_18 : decode bc_NL_setRegion 18 = .ok (.iload_n 1, 1) := by decide +kernel
theorem dc_NL_setRegion_19 : decode bc_NL_setRegion 19 = .ok (.iload 4, 2) := by decide +kernel
theorem dc_NL_setRegion_21 : decode bc_NL_setRegion 21 = .ok (.iastore, 1) := by decide +kernel
theorem dc_NL_setRegion_22 : decode bc_NL_setRegion 22 = .ok (.return_, 1) := by decide +kernel
section NL
variable (l : Launch) {K : Nat → ClassId} {sa : Nat → Nat} {N : Nat} {ad : Nat → Nat} {E : Nat → va_E} {I : Nat → Int32} {V : Nat → Nat → Int32} {L : Nat → Int64} {C : Nat → Int32} {G : Nat → Nat} {R : Nat → Nat} {n : Nat} {b : Nat → Nat}
theorem c_NL_size : jl_C l K sa yn_NL_size bc_NL_size 1 (some .int) 0 0 168 ad [.ref (ad 148)] (gw K ad I V L C G R) (some (.int (I 1))) (gw K ad I V L C G R) := by
  refine jl_enter (by decide) (Nat.le_of_ble_eq_true rfl) (fun x h he hr => ?_)
  show jl_J x 168 ad 0 0 (gw K ad I V L C G R) 0 [(0, .ref (ad 148))] []
  refine jl_aload_n (i := 0) h rfl rfl dc_NL_size_0 1 rfl ?_
  refine jl_getf h nm_c_NL 1 wl_NL_15 (by omega) (by decide) (by exact rfl) (by rfl) dc_NL_size_1 4 rfl ?_
  exact jl_zret h he rfl (rfl) (rfl) dc_NL_size_4
theorem c_NL_has (q : Int32) : jl_C l K sa yn_NL_has bc_NL_has 2 (some .boolean) 0 0 168 ad [.ref (ad 148), .int q] (gw K ad I V L C G R) (some (.int (st_bI (decide (¬ q < 0 ∧ q < I 1))))) (gw K ad I V L C G R) := by
  refine jl_enter (by decide) (Nat.le_of_ble_eq_true rfl) (fun x h he hr => ?_)
  show jl_J x 168 ad 0 0 (gw K ad I V L C G R) 0 [(0, .ref (ad 148)), (1, .int q)] []
  refine jl_iload_n (i := 1) h rfl rfl dc_NL_has_0 1 rfl ?_
  refine jl_if_lt h 16 (by decide) dc_NL_has_1 4 rfl (fun c1 => ?_) (fun c1 => ?_)
  · skip
    refine jl_iconst (v := 0) h (by decide) dc_NL_has_16 17 rfl ?_
    exact jl_zret h he rfl (by unfold st_bI; simp_all) (rfl) dc_NL_has_17
  · skip
    refine jl_iload_n (i := 1) h rfl rfl dc_NL_has_4 5 rfl ?_
    refine jl_aload_n (i := 0) h rfl rfl dc_NL_has_5 6 rfl ?_
    refine jl_getf h nm_c_NL 1 wl_NL_15 (by omega) (by decide) (by exact rfl) (by rfl) dc_NL_has_6 9 rfl ?_
    refine jl_icmp_ge h 16 (by decide) dc_NL_has_9 12 rfl (fun c9 => ?_) (fun c9 => ?_)
    · skip
      refine jl_iconst (v := 0) h (by decide) dc_NL_has_16 17 rfl ?_
      exact jl_zret h he rfl (by unfold st_bI; simp_all) (rfl) dc_NL_has_17
    · skip
      refine jl_iconst (v := 1) h (by decide) dc_NL_has_12 13 rfl ?_
      refine jl_goto h 17 (by decide) dc_NL_has_13 ?_
      exact jl_zret h he rfl (by unfold st_bI; simp_all) (rfl) dc_NL_has_17
theorem c_NL_forget : jl_C l K sa yn_NL_forget bc_NL_forget 1 none 0 0 168 ad [.ref (ad 148)] (gw K ad I V L C G R) none (gw K ad (va_up I 1 (nI 0)) V L C G R) := by
  refine jl_enter (by decide) (Nat.le_of_ble_eq_true rfl) (fun x h he hr => ?_)
  show jl_J x 168 ad 0 0 (gw K ad I V L C G R) 0 [(0, .ref (ad 148))] []
  refine jl_aload_n (i := 0) h rfl rfl dc_NL_forget_0 1 rfl ?_
  refine jl_iconst (v := nI 0) h (by decide) dc_NL_forget_1 2 rfl ?_
  refine jl_putf (fs2 := [_, _, _, _, _, _, _, _, _, _]) h nm_c_NL 1 wl_NL_15 (by omega) (by decide) rfl (by exact rfl) (by rfl) (by rfl) (by exact Nat.le_of_ble_eq_true rfl) (by rfl) dc_NL_forget_2 (gw_set_count _) 5 rfl ?_
  exact jl_vret h he (rfl) (rfl) dc_NL_forget_5
theorem c_NL_shiftOf {p : Nat} (hp : p < 18) : jl_C l K sa yn_NL_shiftOf bc_NL_shiftOf 1 (some .int) 0 0 N ad [.int (nI p)] E (some (.int (nI (2 * (17 - p))))) E := by
  refine jl_enter (by decide) (Nat.le_of_ble_eq_true rfl) (fun x h he hr => ?_)
  show jl_J x N ad 0 0 E 0 [(0, .int (nI p))] []
  refine jl_iconst (v := nI 2) h (by decide) dc_NL_shiftOf_0 1 rfl ?_
  refine jl_bipush (v := nI 17) h (by decide) dc_NL_shiftOf_1 3 rfl ?_
  refine jl_iload_n (i := 0) h rfl rfl dc_NL_shiftOf_3 4 rfl ?_
  refine jl_isub h dc_NL_shiftOf_4 5 rfl ?_
  refine jl_imul h dc_NL_shiftOf_5 6 rfl ?_
  exact jl_zret h he rfl (by rw [pk_sub (by omega), pk_mul]) (rfl) dc_NL_shiftOf_6
theorem c_NL_withPair {i j : Nat} (hi : i < 18) (hj : j < 18) (t : Int) : jl_C l K sa yn_NL_withPair bc_NL_withPair 4 (some .long) 1 25 N ad [.long (iL t), .int (nI i), .int (nI j)] E (some (.long (iL (t - nl_dt i j)))) E := by
  refine jl_enter (by decide) (Nat.le_of_ble_eq_true rfl) (fun x h he hr => ?_)
  show jl_J x N ad 0 0 E 0 [(0, .long (iL t)), (2, .int (nI i)), (3, .int (nI j))] []
  refine jl_lload_n (i := 0) h rfl rfl dc_NL_withPair_0 1 rfl ?_
  refine jl_ldc2 h wk_NL_134 dc_NL_withPair_1 4 rfl ?_
  refine jl_iload_n (i := 2) h rfl rfl dc_NL_withPair_4 5 rfl ?_
  refine jl_callS (As := [_]) (rest := [_, _]) h hr vs_NL_57 vt_NL_shiftOf (fun l => c_NL_shiftOf l hi) (by first | decide | omega) (by first | decide | omega) rfl rfl (Nat.le_of_ble_eq_true rfl) dc_NL_withPair_5 (res := [_, _, _]) rfl 8 rfl ?_
  refine jl_lshl (v := iL (2 * nl_4 i)) h (nl_shl2 i hi) dc_NL_withPair_8 9 rfl ?_
  refine jl_lsub h dc_NL_withPair_9 10 rfl ?_
  refine jl_lconst (v := 1) h (by decide) dc_NL_withPair_10 11 rfl ?_
  refine jl_iload_n (i := 3) h rfl rfl dc_NL_withPair_11 12 rfl ?_
  refine jl_callS (As := [_]) (rest := [_, _]) h hr vs_NL_57 vt_NL_shiftOf (fun l => c_NL_shiftOf l hj) (by first | decide | omega) (by first | decide | omega) rfl rfl (Nat.le_of_ble_eq_true rfl) dc_NL_withPair_12 (res := [_, _, _]) rfl 15 rfl ?_
  refine jl_lshl (v := iL (nl_4 j)) h (nl_shl1 j hj) dc_NL_withPair_15 16 rfl ?_
  refine jl_lsub h dc_NL_withPair_16 17 rfl ?_
  exact jl_lret h he (by rw [iL_sub, iL_sub]; unfold nl_dt; congr 3; omega) (rfl) dc_NL_withPair_17
/-- the text of the structure without pairs -/
def nl_t0 : Nat → Int
  | 0 => 0
  | k + 1 => nl_t0 k + 2 * nl_4 k
theorem c_NL_textWithoutPairs (hS : st_ok K ad (gw K ad I V L C G R) n b) : jl_C l K sa yn_NL_textWithoutPairs bc_NL_textWithoutPairs 4 (some .long) 1 25 168 ad [.ref (ad 148)] (gw K ad I V L C G R) (some (.long (iL (nl_t0 n)))) (gw K ad I V L C G R) := by
  refine jl_enter (by decide) (Nat.le_of_ble_eq_true rfl) (fun x h he hr => ?_)
  obtain ⟨hST, hbases, hn, hb⟩ := id hS
  show jl_J x 168 ad 0 0 (gw K ad I V L C G R) 0 [(0, .ref (ad 148))] []
  have loop : ∀ d k : Nat, k + d = n → jl_J x 168 ad 0 0 (gw K ad I V L C G R) 4 [(3, .int (nI k)), (1, .long (iL (nl_t0 k))), (0, .ref (ad 148))] [] := by
    intro d
    induction d with
    | zero =>
      intro k hk
      have hk : k = n := by omega
      subst hk
      refine jl_iload_n (i := 3) h rfl rfl dc_NL_textWithoutPairs_4 5 rfl ?_
      refine jl_aload_n (i := 0) h rfl rfl dc_NL_textWithoutPairs_5 6 rfl ?_
      refine jl_getf h nm_c_NL 7 wl_NL_39 (by omega) (by decide) (by exact rfl) (by rfl) dc_NL_textWithoutPairs_6 9 rfl ?_
      refine jl_callV (As := []) (rest := [_]) h hr vs_NL_65 vi_ST_size vx_ST_size (ci := 1) rfl (by omega) (by exact hST) (fun l => c_ST_size l (by omega) hS) (by first | decide | omega) (by first | decide | omega) rfl rfl (Nat.le_of_ble_eq_true rfl) dc_NL_textWithoutPairs_9 (res := [_, _]) rfl 12 rfl ?_
      refine jl_icmp_ge h 32 (by decide) dc_NL_textWithoutPairs_12 15 rfl (fun c12 => ?_) (fun c12 => absurd (nI_le (Nat.le_refl _) (by omega)) c12)
      refine jl_lload_n (i := 1) h rfl rfl dc_NL_textWithoutPairs_32 33 rfl ?_
      exact jl_lret h he (rfl) (rfl) dc_NL_textWithoutPairs_33
    | succ d ih =>
      intro k hk
      refine jl_iload_n (i := 3) h rfl rfl dc_NL_textWithoutPairs_4 5 rfl ?_
      refine jl_aload_n (i := 0) h rfl rfl dc_NL_textWithoutPairs_5 6 rfl ?_
      refine jl_getf h nm_c_NL 7 wl_NL_39 (by omega) (by decide) (by exact rfl) (by rfl) dc_NL_textWithoutPairs_6 9 rfl ?_
      refine jl_callV (As := []) (rest := [_]) h hr vs_NL_65 vi_ST_size vx_ST_size (ci := 1) rfl (by omega) (by exact hST) (fun l => c_ST_size l (by omega) hS) (by first | decide | omega) (by first | decide | omega) rfl rfl (Nat.le_of_ble_eq_true rfl) dc_NL_textWithoutPairs_9 (res := [_, _]) rfl 12 rfl ?_
      refine jl_icmp_ge h 32 (by decide) dc_NL_textWithoutPairs_12 15 rfl (fun c12 => absurd c12 (nI_ge (by omega) (by omega))) (fun c12 => ?_)
      refine jl_lload_n (i := 1) h rfl rfl dc_NL_textWithoutPairs_15 16 rfl ?_
      refine jl_ldc2 h wk_NL_134 dc_NL_textWithoutPairs_16 19 rfl ?_
      refine jl_iload_n (i := 3) h rfl rfl dc_NL_textWithoutPairs_19 20 rfl ?_
      refine jl_callS (As := [_]) (rest := [_, _]) h hr vs_NL_57 vt_NL_shiftOf (fun l => c_NL_shiftOf l (show k < 18 by omega)) (by first | decide | omega) (by first | decide | omega) rfl rfl (Nat.le_of_ble_eq_true rfl) dc_NL_textWithoutPairs_20 (res := [_, _, _]) rfl 23 rfl ?_
      refine jl_lshl (v := iL (2 * nl_4 k)) h (nl_shl2 k (by omega)) dc_NL_textWithoutPairs_23 24 rfl ?_
      refine jl_ladd h dc_NL_textWithoutPairs_24 25 rfl ?_
      rw [show iL (nl_t0 k) + iL (2 * nl_4 k) = iL (nl_t0 (k + 1)) by exact iL_add _ _]
      refine jl_lstore_n (i := 1) (lc2 := [(1, _), (3, _), (0, _)]) h rfl (by decide) rfl dc_NL_textWithoutPairs_25 26 rfl ?_
      refine jl_iinc (i := 3) (d := 1) (lc2 := [(3, _), (1, _), (0, _)]) (v2 := nI (k + 1)) h (by decide) rfl (nI_1 k) rfl dc_NL_textWithoutPairs_26 29 rfl ?_
      refine jl_goto h 4 (by decide) dc_NL_textWithoutPairs_29 ?_
      exact ih (k + 1) (by omega)
  refine jl_lconst (v := 0) h (by decide) dc_NL_textWithoutPairs_0 1 rfl ?_
  refine jl_lstore_n (i := 1) (lc2 := [(1, _), (0, _)]) h rfl (by decide) rfl dc_NL_textWithoutPairs_1 2 rfl ?_
  refine jl_iconst (v := nI 0) h (by decide) dc_NL_textWithoutPairs_2 3 rfl ?_
  refine jl_istore_n (i := 3) (lc2 := [(3, _), (1, _), (0, _)]) h rfl (by decide) rfl dc_NL_textWithoutPairs_3 4 rfl ?_
  exact loop n 0 (by omega)
theorem c_NL_setRegion {k r s e : Nat} (hk : k < 40) (hr4 : r < 4) : jl_C l K sa yn_NL_setRegion bc_NL_setRegion 5 none 0 0 168 ad [.ref (ad 148), .int (nI k), .ref (ad (64 + 21 * r)), .int (nI s), .int (nI e)] (gw K ad I V L C G R) none (gw K ad I (va_up (va_up V 151 (upd (V 151) k (nI s))) 152 (upd (V 152) k (nI e))) L C G (va_up R k (64 + 21 * r))) := by
  refine jl_enter (by decide) (Nat.le_of_ble_eq_true rfl) (fun x h he hr => ?_)
  show jl_J x 168 ad 0 0 (gw K ad I V L C G R) 0 [(0, .ref (ad 148)), (1, .int (nI k)), (2, .ref (ad (64 + 21 * r))), (3, .int (nI s)), (4, .int (nI e))] []
  refine jl_aload_n (i := 0) h rfl rfl dc_NL_setRegion_0 1 rfl ?_
  refine jl_getf h nm_c_NL 4 wl_NL_28 (by omega) (by decide) (by exact rfl) (by rfl) dc_NL_setRegion_1 4 rfl ?_
  refine jl_iload_n (i := 1) h rfl rfl dc_NL_setRegion_4 5 rfl ?_
  refine jl_aload_n (i := 2) h rfl rfl dc_NL_setRegion_5 6 rfl ?_
  refine jl_aast (t0 := 3) h nm_c_RE (k) (by exact rfl) (by omega) (by exact rfl) (by rfl) (by omega) (by exact gw_re hr4) (by exact hk) (by first | decide | assumption) dc_NL_setRegion_6 (gw_setRf _ _) 7 rfl ?_
  refine jl_aload_n (i := 0) h rfl rfl dc_NL_setRegion_7 8 rfl ?_
  refine jl_getf h nm_c_NL 5 wl_NL_32 (by omega) (by decide) (by exact rfl) (by rfl) dc_NL_setRegion_8 11 rfl ?_
  refine jl_iload_n (i := 1) h rfl rfl dc_NL_setRegion_11 12 rfl ?_
  refine jl_iload_n (i := 3) h rfl rfl dc_NL_setRegion_12 13 rfl ?_
  refine jl_iast h (k) (by exact rfl) (by omega) (by exact gw_row ⟨rfl, rfl⟩) (by exact hk) (by first | decide | assumption) dc_NL_setRegion_13 (gw_rowset ⟨rfl, rfl⟩ _) 14 rfl ?_
  refine jl_aload_n (i := 0) h rfl rfl dc_NL_setRegion_14 15 rfl ?_
  refine jl_getf h nm_c_NL 6 wl_NL_36 (by omega) (by decide) (by exact rfl) (by rfl) dc_NL_setRegion_15 18 rfl ?_
  refine jl_iload_n (i := 1) h rfl rfl dc_NL_setRegion_18 19 rfl ?_
  refine jl_iload h rfl dc_NL_setRegion_19 21 rfl ?_
  refine jl_iast h (k) (by exact rfl) (by omega) (by exact gw_row ⟨rfl, rfl⟩) (by exact hk) (by first | decide | assumption) dc_NL_setRegion_21 (gw_rowset ⟨rfl, rfl⟩ _) 22 rfl ?_
  exact jl_vret h he (rfl) (by rfl) dc_NL_setRegion_22
end NL

