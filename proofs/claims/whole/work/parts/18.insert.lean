/-! FoldedStrand$NearList: energyAt, character, insert. -/
theorem nl_shr {z : Int} (h1 : -9223372036854775808 ≤ z) (h2 : z < 9223372036854775808) (s : Nat) (hs : s < 64) : iL z >>> Int64.ofNat s = iL (z / 2 ^ s) := by
  have hp : (0 : Int) < 2 ^ s := Int.pow_pos (by decide)
  have hd1 : -9223372036854775808 ≤ z / 2 ^ s := by
    rcases Int.le_total 0 z with h | h
    · have := Int.ediv_nonneg h (Int.le_of_lt hp)
      omega
    · have h3 : z ≤ z / 2 ^ s := by
        rw [Int.le_ediv_iff_mul_le hp]
        have h4 : (1 : Int) ≤ 2 ^ s := hp
        have h5 := Int.mul_le_mul_of_nonpos_left h h4
        omega
      omega
  have hd2 : z / 2 ^ s < 9223372036854775808 := by
    rcases Int.le_total 0 z with h | h
    · have := Int.ediv_le_self (2 ^ s) h
      omega
    · have := Int.ediv_le_ediv (b := 0) hp h
      rw [Int.zero_ediv] at this
      omega
  apply Int64.toInt_inj.mp
  rw [iL_toInt hd1 hd2]
  have e : (iL z >>> Int64.ofNat s).toBitVec = (iL z).toBitVec.sshiftRight s := by
    show (iL z).toBitVec.sshiftRight' ((Int64.ofNat s).toBitVec.smod 64) = _
    have h3 : ∀ s, s < 64 → ((Int64.ofNat s).toBitVec.smod 64).toNat = s := by decide +kernel
    unfold BitVec.sshiftRight'
    rw [h3 s hs]
  show (iL z >>> Int64.ofNat s).toBitVec.toInt = _
  rw [e, BitVec.toInt_sshiftRight]
  have h5 : (iL z).toBitVec.toInt = z := iL_toInt h1 h2
  rw [h5, Int.shiftRight_eq_div_pow]
  simp
theorem nl_sh36 : ((36 : Int32).toInt64 &&& 63) = Int64.ofNat 36 := by decide
theorem nl_shp : ∀ p, p < 18 → ((nI (2 * (17 - p))).toInt64 &&& 63) = Int64.ofNat (2 * (17 - p)) := by decide +kernel
theorem nl_l2i (y : Int) : (iL y).toInt32 = iI y := by
  apply Int32.toInt_inj.mp
  unfold iL iI
  rw [Int64.toInt_toInt32, Int64.toInt_ofInt, Int32.toInt_ofInt]
  exact Int.bmod_bmod_of_dvd (by decide)
theorem nl_and3 (y : Int) : iI y &&& 3 = nI (y % 4).toNat := by
  rw [pk_and (iI y) 2 (by decide)]
  congr 1
  have e : ((iI y).toBitVec.toNat : Int) = y % 4294967296 := by
    show ((BitVec.ofInt 32 y).toNat : Int) = _
    rw [BitVec.toNat_ofInt]
    omega
  have h4 : ((2 : Nat) ^ 2) = 4 := by decide
  rw [h4]
  omega
def nl_ch (z : Int) : Int32 := if z = 0 then 40 else if z = 1 then 41 else 46
def nl_ins (z : Int) : List Int → List Int
  | [] => [z]
  | a :: l => if z < a then z :: a :: l else a :: nl_ins z l
theorem nl_ins_len (z : Int) : ∀ ks : List Int, (nl_ins z ks).length = ks.length + 1
  | [] => rfl
  | a :: l => by
    unfold nl_ins
    split
    · rfl
    · simp [nl_ins_len z l]
theorem nl_ins_get (z : Int) : ∀ (ks : List Int) (p : Nat), p ≤ ks.length → (∀ k, k < p → ks.getD k 0 ≤ z) → (∀ k, p ≤ k → k < ks.length → z < ks.getD k 0) → ∀ k, k ≤ ks.length → (nl_ins z ks).getD k 0 = if k < p then ks.getD k 0 else if k = p then z else ks.getD (k - 1) 0
  | [], p, hp, _, _, k, hk => by
    have hp : p = 0 := by simpa using hp
    have hk : k = 0 := by simpa using hk
    subst hp
    subst hk
    rfl
  | a :: l, p, hp, h1, h2, k, hk => by
    rw [List.length_cons] at hp hk
    unfold nl_ins
    by_cases h : z < a
    · have hp0 : p = 0 := by
        rcases Nat.eq_zero_or_pos p with h3 | h3
        · exact h3
        · have h4 : a ≤ z := h1 0 h3
          omega
      subst hp0
      rw [if_pos h, if_neg (by omega)]
      cases k with
      | zero => rfl
      | succ k => rw [if_neg (by omega)]; rfl
    · rw [if_neg h]
      cases p with
      | zero =>
        have h4 : z < a := h2 0 (Nat.le_refl 0) (by simp)
        exact absurd h4 h
      | succ p =>
        cases k with
        | zero =>
          rw [if_pos (by omega)]
          rfl
        | succ k =>
          have ih := nl_ins_get z l p (by omega) (fun k hk => h1 (k + 1) (by omega)) (fun k hk1 hk2 => h2 (k + 1) (by omega) (by simp; omega)) k (by omega)
          show (nl_ins z l).getD k 0 = _
          rw [ih]
          by_cases h5 : k < p
          · rw [if_pos h5, if_pos (show k + 1 < p + 1 by omega)]
            rfl
          · rw [if_neg h5, if_neg (show ¬ k + 1 < p + 1 by omega)]
            by_cases h6 : k = p
            · rw [if_pos h6, if_pos (show k + 1 = p + 1 by omega)]
            · rw [if_neg h6, if_neg (show ¬ k + 1 = p + 1 by omega)]
              cases k with
              | zero => omega
              | succ k => rfl
theorem nl_lgc {a c : Int} (ha1 : -9223372036854775808 ≤ a) (ha2 : a < 9223372036854775808) (hc1 : -9223372036854775808 ≤ c) (hc2 : c < 9223372036854775808) : lg_cmp (iL a) (iL c) ≤ 0 ↔ a ≤ c := by
  unfold lg_cmp
  have h1 := iL_lt hc1 hc2 ha1 ha2
  by_cases h : c < a
  · rw [if_pos (h1.mpr h)]
    constructor
    · intro q
      exact absurd q (by decide)
    · intro q
      omega
  · rw [if_neg (fun q => h (h1.mp q))]
    constructor
    · intro _
      omega
    · intro _
      split <;> decide
theorem jl_absL {x : jl_X} {N : Nat} {ad : Nat → Nat} {K : Nat → ClassId} {cells slots pc : Nat} {lc : List (Nat × Value)} {st : List Value} {I : Nat → Int32} {V : Nat → Nat → Int32} {C : Nat → Int32} {G R : Nat → Nat} {P : (Nat → Int64) → Prop} {L0 : Nat → Int64} (h : P L0) (kk : ∀ L1, P L1 → jl_J x N ad cells slots (gw K ad I V L1 C G R) pc lc st) : jl_J x N ad cells slots (gw K ad I V L0 C G R) pc lc st := kk L0 h
/-- the list in the arrays -/
def nl_K (ks : List Int) (L : Nat → Int64) : Prop := ∀ k, k < ks.length → L k = iL (ks.getD k 0)
def nl_big (z : Int) : Prop := -4611686018427387904 ≤ z ∧ z ≤ 4611686018427387904
abbrev bc_NL_energyAt : ByteArray := prog_4_method_5_code
abbrev yn_NL_energyAt : MethodName := ⟨"FoldedStrand$NearList", "energyAt", "(I)I"⟩
theorem wl_NL_11 : Cond.fieldLink "FoldedStrand$NearList" 11 "FoldedStrand$NearList" "keys" "[J" ∈ jl_T := jl_T_of 116 (by decide +kernel) (by decide +kernel)
theorem dc_NL_energyAt_0 : decode bc_NL_energyAt 0 = .ok (.aload_n 0, 1) := by decide +kernel
theorem dc_NL_energyAt_1 : decode bc_NL_energyAt 1 = .ok (.getfield 11, 3) := by decide +kernel
theorem dc_NL_energyAt_4 : decode bc_NL_energyAt 4 = .ok (.iload_n 1, 1) := by decide +kernel
theorem dc_NL_energyAt_5 : decode bc_NL_energyAt 5 = .ok (.laload, 1) := by decide +kernel
theorem dc_NL_energyAt_6 : decode bc_NL_energyAt 6 = .ok (.bipush 36, 2) := by decide +kernel
theorem dc_NL_energyAt_8 : decode bc_NL_energyAt 8 = .ok (.lshr, 1) := by decide +kernel
theorem dc_NL_energyAt_9 : decode bc_NL_energyAt 9 = .ok (.l2i, 1) := by decide +kernel
theorem dc_NL_energyAt_10 : decode bc_NL_energyAt 10 = .ok (.ireturn, 1) := by decide +kernel
abbrev bc_NL_character : ByteArray := prog_4_method_6_code
abbrev yn_NL_character : MethodName := ⟨"FoldedStrand$NearList", "character", "(II)C"⟩
theorem dc_NL_character_0 : decode bc_NL_character 0 = .ok (.aload_n 0, 1) := by decide +kernel
theorem dc_NL_character_1 : decode bc_NL_character 1 = .ok (.getfield 11, 3) := by decide +kernel
theorem dc_NL_character_4 : decode bc_NL_character 4 = .ok (.iload_n 1, 1) := by decide +kernel
theorem dc_NL_character_5 : decode bc_NL_character 5 = .ok (.laload, 1) := by decide +kernel
theorem dc_NL_character_6 : decode bc_NL_character 6 = .ok (.iload_n 2, 1) := by decide +kernel
theorem dc_NL_character_7 : decode bc_NL_character 7 = .ok (.invokestatic 57, 3) := by decide +kernel
theorem dc_NL_character_10 : decode bc_NL_character 10 = .ok (.lshr, 1) := by decide +kernel
theorem dc_NL_character_11 : decode bc_NL_character 11 = .ok (.l2i, 1) := by decide +kernel
theorem dc_NL_character_12 : decode bc_NL_character 12 = .ok (.iconst 3, 1) := by decide +kernel
theorem dc_NL_character_13 : decode bc_NL_character 13 = .ok (.iand, 1) := by decide +kernel
theorem dc_NL_character_14 : decode bc_NL_character 14 = .ok (.istore_n 3, 1) := by decide +kernel
theorem dc_NL_character_15 : decode bc_NL_character 15 = .ok (.iload_n 3, 1) := by decide +kernel
theorem dc_NL_character_16 : decode bc_NL_character 16 = .ok (.ifCond .ne 8, 3) := by decide +kernel
theorem dc_NL_character_19 : decode bc_NL_character 19 = .ok (.bipush 40, 2) := by decide +kernel
theorem dc_NL_character_21 : decode bc_NL_character 21 = .ok (.goto 15, 3) := by decide +kernel
theorem dc_NL_character_24 : decode bc_NL_character 24 = .ok (.iload_n 3, 1) := by decide +kernel
theorem dc_NL_character_25 : decode bc_NL_character 25 = .ok (.iconst 1, 1) := by decide +kernel
theorem dc_NL_character_26 : decode bc_NL_character 26 = .ok (.if_icmp .ne 8, 3) := by decide +kernel
theorem dc_NL_character_29 : decode bc_NL_character 29 = .ok (.bipush 41, 2) := by decide +kernel
theorem dc_NL_character_31 : decode bc_NL_character 31 = .ok (.goto 5, 3) := by decide +kernel
theorem dc_NL_character_34 : decode bc_NL_character 34 = .ok (.bipush 46, 2) := by decide +kernel
theorem dc_NL_character_36 : decode bc_NL_character 36 = .ok (.ireturn, 1) := by decide +kernel
abbrev bc_NL_insert : ByteArray := prog_4_method_11_code
abbrev yn_NL_insert : MethodName := ⟨"FoldedStrand$NearList", "insert", "(IJ)V"⟩
theorem wl_NL_19 : Cond.fieldLink "FoldedStrand$NearList" 19 "FoldedStrand$NearList" "tooMany" "Z" ∈ jl_T := jl_T_of 118 (by decide +kernel) (by decide +kernel)
theorem dc_NL_insert_0 : decode bc_NL_insert 0 = .ok (.aload_n 0, 1) := by decide +kernel
theorem dc_NL_insert_1 : decode bc_NL_insert 1 = .ok (.getfield 15, 3) := by decide +kernel
theorem dc_NL_insert_4 : decode bc_NL_insert 4 = .ok (.sipush 150, 3) := by decide +kernel
theorem dc_NL_insert_7 : decode bc_NL_insert 7 = .ok (.if_icmp .lt 9, 3) := by decide +kernel
theorem dc_NL_insert_10 : decode bc_NL_insert 10 = .ok (.aload_n 0, 1) := by decide +kernel
theorem dc_NL_insert_11 : decode bc_NL_insert 11 = .ok (.iconst 1, 1) := by decide +kernel
theorem dc_NL_insert_12 : decode bc_NL_insert 12 = .ok (.putfield 19, 3) := by decide +kernel
theorem dc_NL_insert_15 : decode bc_NL_insert 15 = .ok (.return_, 1) := by decide +kernel
theorem dc_NL_insert_16 : decode bc_NL_insert 16 = .ok (.iload_n 1, 1) := by decide +kernel
theorem dc_NL_insert_17 : decode bc_NL_insert 17 = .ok (.i2l, 1) := by decide +kernel
theorem dc_NL_insert_18 : decode bc_NL_insert 18 = .ok (.bipush 36, 2) := by decide +kernel
theorem dc_NL_insert_20 : decode bc_NL_insert 20 = .ok (.lshl, 1) := by decide +kernel
theorem dc_NL_insert_21 : decode bc_NL_insert 21 = .ok (.lload_n 2, 1) := by decide +kernel
theorem dc_NL_insert_22 : decode bc_NL_insert 22 = .ok (.ladd, 1) := by decide +kernel
theorem dc_NL_insert_23 : decode bc_NL_insert 23 = .ok (.lstore 4, 2) := by decide +kernel
theorem dc_NL_insert_25 : decode bc_NL_insert 25 = .ok (.aload_n 0, 1) := by decide +kernel
theorem dc_NL_insert_26 : decode bc_NL_insert 26 = .ok (.getfield 15, 3) := by decide +kernel
theorem dc_NL_insert_29 : decode bc_NL_insert 29 = .ok (.istore 6, 2) := by decide +kernel
theorem dc_NL_insert_31 : decode bc_NL_insert 31 = .ok (.iload 6, 2) := by decide +kernel
theorem dc_NL_insert_33 : decode bc_NL_insert 33 = .ok (.ifCond .le 40, 3) := by decide +kernel
theorem dc_NL_insert_36 : decode bc_NL_insert 36 = .ok (.aload_n 0, 1) := by decide +kernel
theorem dc_NL_insert_37 : decode bc_NL_insert 37 = .ok (.getfield 11, 3) := by decide +kernel
theorem dc_NL_insert_40 : decode bc_NL_insert 40 = .ok (.iload 6, 2) := by decide +kernel
theorem dc_NL_insert_42 : decode bc_NL_insert 42 = .ok (.iconst 1, 1) := by decide +kernel
theorem dc_NL_insert_43 : decode bc_NL_insert 43 = .ok (.isub, 1) := by decide +kernel
theorem dc_NL_insert_44 : decode bc_NL_insert 44 = .ok (.laload, 1) := by decide +kernel
theorem dc_NL_insert_45 : decode bc_NL_insert 45 = .ok (.lload 4, 2) := by decide +kernel
theorem dc_NL_insert_47 : decode bc_NL_insert 47 = .ok (.lcmp, 1) := by decide +kernel
theorem dc_NL_insert_48 : decode bc_NL_insert 48 = .ok (.ifCond .le 25, 3) := by decide +kernel
theorem dc_NL_insert_51 : decode bc_NL_insert 51 = .ok (.aload_n 0, 1) := by decide +kernel
theorem dc_NL_insert_52 : decode bc_NL_insert 52 = .ok (.getfield 11, 3) := by decide +kernel
theorem dc_NL_insert_55 : decode bc_NL_insert 55 = .ok (.iload 6, 2) := by decide +kernel
theorem dc_NL_insert_57 : decode bc_NL_insert 57 = .ok (.aload_n 0, 1) := by decide +kernel
theorem dc_NL_insert_58 : decode bc_NL_insert 58 = .ok (.getfield 11, 3) := by decide +kernel
theorem dc_NL_insert_61 : decode bc_NL_insert 61 = .ok (.iload 6, 2) := by decide +kernel
theorem dc_NL_insert_63 : decode bc_NL_insert 63 = .ok (.iconst 1, 1) := by decide +kernel
theorem dc_NL_insert_64 : decode bc_NL_insert 64 = .ok (.isub, 1) := by decide +kernel
theorem dc_NL_insert_65 : decode bc_NL_insert 65 = .ok (.laload, 1) := by decide +kernel
theorem dc_NL_insert_66 : decode bc_NL_insert 66 = .ok (.lastore, 1) := by decide +kernel
theorem dc_NL_insert_67 : decode bc_NL_insert 67 = .ok (.iinc 6 (-1), 3) := by decide +kernel
theorem dc_NL_insert_70 : decode bc_NL_insert 70 = .ok (.goto (-39), 3) := by decide +kernel
theorem dc_NL_insert_73 : decode bc_NL_insert 73 = .ok (.aload_n 0, 1) := by decide +kernel
theorem dc_NL_insert_74 : decode bc_NL_insert 74 = .ok (.getfield 11, 3) := by decide +kernel
theorem dc_NL_insert_77 : decode bc_NL_insert 77 = .ok (.iload 6, 2) := by decide +kernel
theorem dc_NL_insert_79 : decode bc_NL_insert 79 = .ok (.lload 4, 2) := by decide +kernel
theorem dc_NL_insert_81 : decode bc_NL_insert 81 = .ok (.lastore, 1) := by decide +kernel
theorem dc_NL_insert_82 : decode bc_NL_insert 82 = .ok (.aload_n 0, 1) := by decide +kernel
theorem dc_NL_insert_83 : decode bc_NL_insert 83 = .ok (.dup, 1) := by decide +kernel
theorem dc_NL_insert_84 : decode bc_NL_insert 84 = .ok (.getfield 15, 3) := by decide +kernel
theorem dc_NL_insert_87 : decode bc_NL_insert 87 = .ok (.iconst 1, 1) := by decide +kernel
theorem dc_NL_insert_88 : decode bc_NL_insert 88 = .ok (.iadd, 1) := by decide +kernel
theorem dc_NL_insert_89 : decode bc_NL_insert 89 = .ok (.putfield 15, 3) := by decide +kernel
theorem dc_NL_insert_92 : decode bc_NL_insert 92 = .ok (.return_, 1) := by decide +kernel
section NL
variable (l : Launch) {K : Nat → ClassId} {sa : Nat → Nat} {N : Nat} {ad : Nat → Nat} {E : Nat → va_E} {I : Nat → Int32} {V : Nat → Nat → Int32} {L : Nat → Int64} {C : Nat → Int32} {G : Nat → Nat} {R : Nat → Nat} {n : Nat} {b : Nat → Nat}
theorem c_NL_energyAt {k : Nat} (hk : k < 150) {z : Int} (hz : nl_big z) (hL : L k = iL z) : jl_C l K sa yn_NL_energyAt bc_NL_energyAt 2 (some .int) 0 0 168 ad [.ref (ad 148), .int (nI k)] (gw K ad I V L C G R) (some (.int (iI (z / 68719476736)))) (gw K ad I V L C G R) := by
  refine jl_enter (by decide) (Nat.le_of_ble_eq_true rfl) (fun x h he hr => ?_)
  show jl_J x 168 ad 0 0 (gw K ad I V L C G R) 0 [(0, .ref (ad 148)), (1, .int (nI k))] []
  unfold nl_big at hz
  refine jl_aload_n (i := 0) h rfl rfl dc_NL_energyAt_0 1 rfl ?_
  refine jl_getf h nm_c_NL 0 wl_NL_11 (by omega) (by decide) (by exact rfl) (by rfl) dc_NL_energyAt_1 4 rfl ?_
  refine jl_iload_n (i := 1) h rfl rfl dc_NL_energyAt_4 5 rfl ?_
  refine jl_lald (v := iL z) h (k) (by exact rfl) (by omega) (by exact rfl) (by exact hk) (by first | decide | assumption) (by exact hL) dc_NL_energyAt_5 6 rfl ?_
  refine jl_bipush (v := 36) h (by decide) dc_NL_energyAt_6 8 rfl ?_
  refine jl_lshr (v := iL (z / 68719476736)) h (by rw [nl_sh36]; exact nl_shr (by omega) (by omega) 36 (by decide)) dc_NL_energyAt_8 9 rfl ?_
  refine jl_l2i (v := iI (z / 68719476736)) h (nl_l2i _) dc_NL_energyAt_9 10 rfl ?_
  exact jl_zret h he rfl (rfl) (rfl) dc_NL_energyAt_10
theorem c_NL_character {k p : Nat} (hk : k < 150) (hp : p < 18) {z : Int} (hz : nl_big z) (hL : L k = iL z) : jl_C l K sa yn_NL_character bc_NL_character 4 (some .char) 1 25 168 ad [.ref (ad 148), .int (nI k), .int (nI p)] (gw K ad I V L C G R) (some (.int (nl_ch (z / nl_4 p % 4)))) (gw K ad I V L C G R) := by
  refine jl_enter (by decide) (Nat.le_of_ble_eq_true rfl) (fun x h he hr => ?_)
  show jl_J x 168 ad 0 0 (gw K ad I V L C G R) 0 [(0, .ref (ad 148)), (1, .int (nI k)), (2, .int (nI p))] []
  unfold nl_big at hz
  have e4 : (2 : Int) ^ (2 * (17 - p)) = nl_4 p := by
    unfold nl_4
    rw [Int.pow_mul]
    rfl
  have hm : 0 ≤ z / nl_4 p % 4 ∧ z / nl_4 p % 4 < 4 := ⟨Int.emod_nonneg _ (by decide), Int.emod_lt_of_pos _ (by decide)⟩
  have z0 : (0 : Int32) = nI 0 := rfl
  have z1 : (1 : Int32) = nI 1 := rfl
  refine jl_aload_n (i := 0) h rfl rfl dc_NL_character_0 1 rfl ?_
  refine jl_getf h nm_c_NL 0 wl_NL_11 (by omega) (by decide) (by exact rfl) (by rfl) dc_NL_character_1 4 rfl ?_
  refine jl_iload_n (i := 1) h rfl rfl dc_NL_character_4 5 rfl ?_
  refine jl_lald (v := iL z) h (k) (by exact rfl) (by omega) (by exact rfl) (by exact hk) (by first | decide | assumption) (by exact hL) dc_NL_character_5 6 rfl ?_
  refine jl_iload_n (i := 2) h rfl rfl dc_NL_character_6 7 rfl ?_
  refine jl_callS (As := [_]) (rest := [_]) h hr vs_NL_57 vt_NL_shiftOf (fun l => c_NL_shiftOf l hp) (by first | decide | omega) (by first | decide | omega) rfl rfl (Nat.le_of_ble_eq_true rfl) dc_NL_character_7 (res := [_, _]) rfl 10 rfl ?_
  refine jl_lshr (v := iL (z / nl_4 p)) h (by rw [nl_shp p hp, ← e4]; exact nl_shr (by omega) (by omega) _ (by omega)) dc_NL_character_10 11 rfl ?_
  refine jl_l2i (v := iI (z / nl_4 p)) h (nl_l2i _) dc_NL_character_11 12 rfl ?_
  refine jl_iconst (v := 3) h (by decide) dc_NL_character_12 13 rfl ?_
  refine jl_iand h dc_NL_character_13 14 rfl ?_
  rw [show iI (z / nl_4 p) &&& 3 = nI (z / nl_4 p % 4).toNat by exact nl_and3 _]
  refine jl_istore_n (i := 3) (lc2 := [(3, _), (0, _), (1, _), (2, _)]) h rfl (by decide) rfl dc_NL_character_14 15 rfl ?_
  refine jl_iload_n (i := 3) h rfl rfl dc_NL_character_15 16 rfl ?_
  refine jl_if_ne h 24 (by decide) dc_NL_character_16 19 rfl (fun c16 => ?_) (fun c16 => ?_)
  · skip
    rw [z0, nI_eq (by omega) (by decide)] at c16
    refine jl_iload_n (i := 3) h rfl rfl dc_NL_character_24 25 rfl ?_
    refine jl_iconst (v := 1) h (by decide) dc_NL_character_25 26 rfl ?_
    refine jl_icmp_ne h 34 (by decide) dc_NL_character_26 29 rfl (fun c26 => ?_) (fun c26 => ?_)
    · skip
      rw [z1, nI_eq (by omega) (by decide)] at c26
      refine jl_bipush (v := 46) h (by decide) dc_NL_character_34 36 rfl ?_
      exact jl_zret h he rfl (by unfold nl_ch; first | rw [if_pos (by omega)] | rw [if_neg (by omega), if_pos (by omega)] | rw [if_neg (by omega), if_neg (by omega)]) (rfl) dc_NL_character_36
    · skip
      rw [z1, nI_eq (by omega) (by decide)] at c26
      refine jl_bipush (v := 41) h (by decide) dc_NL_character_29 31 rfl ?_
      refine jl_goto h 36 (by decide) dc_NL_character_31 ?_
      exact jl_zret h he rfl (by unfold nl_ch; first | rw [if_pos (by omega)] | rw [if_neg (by omega), if_pos (by omega)] | rw [if_neg (by omega), if_neg (by omega)]) (rfl) dc_NL_character_36
  · skip
    rw [z0, nI_eq (by omega) (by decide)] at c16
    refine jl_bipush (v := 40) h (by decide) dc_NL_character_19 21 rfl ?_
    refine jl_goto h 36 (by decide) dc_NL_character_21 ?_
    exact jl_zret h he rfl (by unfold nl_ch; first | rw [if_pos (by omega)] | rw [if_neg (by omega), if_pos (by omega)] | rw [if_neg (by omega), if_neg (by omega)]) (rfl) dc_NL_character_36
theorem c_NL_insert_full (hc : I 1 = nI 150) (e t : Int) : jl_C l K sa yn_NL_insert bc_NL_insert 7 none 0 0 168 ad [.ref (ad 148), .int (iI e), .long (iL t)] (gw K ad I V L C G R) none (gw K ad (va_up I 2 1) V L C G R) := by
  refine jl_enter (by decide) (Nat.le_of_ble_eq_true rfl) (fun x h he hr => ?_)
  show jl_J x 168 ad 0 0 (gw K ad I V L C G R) 0 [(0, .ref (ad 148)), (1, .int (iI e)), (2, .long (iL t))] []
  refine jl_aload_n (i := 0) h rfl rfl dc_NL_insert_0 1 rfl ?_
  refine jl_getf (v := .int (nI 150)) h nm_c_NL 1 wl_NL_15 (by omega) (by decide) (by exact rfl) (by exact sr_v hc) dc_NL_insert_1 4 rfl ?_
  refine jl_sipush (v := nI 150) h (by decide) dc_NL_insert_4 7 rfl ?_
  refine jl_icmp_lt h 16 (by decide) dc_NL_insert_7 10 rfl (fun c7 => absurd c7 (nI_nlt (Nat.le_refl _) (by decide))) (fun c7 => ?_)
  refine jl_aload_n (i := 0) h rfl rfl dc_NL_insert_10 11 rfl ?_
  refine jl_iconst (v := 1) h (by decide) dc_NL_insert_11 12 rfl ?_
  refine jl_putf (fs2 := [_, _, _, _, _, _, _, _, _, _]) h nm_c_NL 2 wl_NL_19 (by omega) (by decide) rfl (by exact rfl) (by rfl) (by rfl) (by exact Nat.le_of_ble_eq_true rfl) (by rfl) dc_NL_insert_12 (gw_set_tooMany _) 15 rfl ?_
  exact jl_vret h he (rfl) (rfl) dc_NL_insert_15
theorem c_NL_insert {ks : List Int} (hc : I 1 = nI ks.length) (hlen : ks.length < 150) (hK : nl_K ks L) (hs : ks.Pairwise (· ≤ ·)) (hbig : ∀ z ∈ ks, nl_big z) {e t : Int} (he1 : -1000000000 ≤ e) (he2 : e ≤ 1000000000) (hz : nl_big (e * 68719476736 + t)) : jl_CP l K sa yn_NL_insert bc_NL_insert 7 none 0 0 168 ad [.ref (ad 148), .int (iI e), .long (iL t)] (gw K ad I V L C G R) (fun v E2 => v = none ∧ ∃ L2, nl_K (nl_ins (e * 68719476736 + t) ks) L2 ∧ E2 = gw K ad (va_up I 1 (nI (ks.length + 1))) V L2 C G R) := by
  refine jl_enterP (by decide) (Nat.le_of_ble_eq_true rfl) (fun x h he hr => ?_)
  show jl_J x 168 ad 0 0 (gw K ad I V L C G R) 0 [(0, .ref (ad 148)), (1, .int (iI e)), (2, .long (iL t))] []
  obtain ⟨z, hzz⟩ : ∃ z, z = e * 68719476736 + t := ⟨_, rfl⟩
  rw [← hzz] at hz he
  have hbk : ∀ k, k < ks.length → nl_big (ks.getD k 0) := fun k hk => by
    rw [List.getD_eq_getElem?_getD, List.getElem?_eq_getElem hk]
    exact hbig _ (List.getElem_mem hk)
  have hsrt : ∀ i j, i < j → j < ks.length → ks.getD i 0 ≤ ks.getD j 0 := fun i j hij hj => by
    rw [List.getD_eq_getElem?_getD, List.getD_eq_getElem?_getD, List.getElem?_eq_getElem hj, List.getElem?_eq_getElem (Nat.lt_trans hij hj)]
    exact List.pairwise_iff_getElem.mp hs i j (Nat.lt_trans hij hj) hj hij
  have ekey : iL e <<< ((36 : Int32).toInt64 &&& 63) + iL t = iL z := by rw [nl_shl36, iL_add, hzz]
  have fin : ∀ (p : Nat) (L1 : Nat → Int64), p ≤ ks.length → (∀ k, k < p → L1 k = iL (ks.getD k 0)) → (∀ k, p < k → k ≤ ks.length → L1 k = iL (ks.getD (k - 1) 0)) → (∀ k, p ≤ k → k < ks.length → z < ks.getD k 0) → (∀ k, k < p → ks.getD k 0 ≤ z) → jl_J x 168 ad 0 0 (gw K ad I V L1 C G R) 73 [(6, .int (nI p)), (4, .long (iL z)), (0, .ref (ad 148)), (1, .int (iI e)), (2, .long (iL t))] [] := by
    intro p L1 hp g1 g2 g3 g4
    have hfin : nl_K (nl_ins z ks) (vp_updL L1 p (iL z)) := by
      intro k hk
      rw [nl_ins_len] at hk
      rw [nl_ins_get z ks p hp g4 g3 k (by omega)]
      unfold vp_updL
      by_cases h1 : k = p
      · rw [if_pos h1, if_neg (by omega), if_pos h1]
      · rw [if_neg h1]
        by_cases h2 : k < p
        · rw [if_pos h2]
          exact g1 k h2
        · rw [if_neg h2, if_neg h1]
          exact g2 k (by omega) (by omega)
    refine jl_aload_n (i := 0) h rfl rfl dc_NL_insert_73 74 rfl ?_
    refine jl_getf h nm_c_NL 0 wl_NL_11 (by omega) (by decide) (by exact rfl) (by rfl) dc_NL_insert_74 77 rfl ?_
    refine jl_iload h rfl dc_NL_insert_77 79 rfl ?_
    refine jl_lload h rfl dc_NL_insert_79 81 rfl ?_
    refine jl_last h (p) (by exact rfl) (by omega) (by exact rfl) (by exact by omega) (by first | decide | assumption) dc_NL_insert_81 (gw_set_L _) 82 rfl ?_
    refine jl_aload_n (i := 0) h rfl rfl dc_NL_insert_82 83 rfl ?_
    refine jl_dup h rfl dc_NL_insert_83 84 rfl ?_
    refine jl_getf (v := .int (nI ks.length)) h nm_c_NL 1 wl_NL_15 (by omega) (by decide) (by exact rfl) (by exact sr_v hc) dc_NL_insert_84 87 rfl ?_
    refine jl_iconst (v := 1) h (by decide) dc_NL_insert_87 88 rfl ?_
    refine jl_iadd h dc_NL_insert_88 89 rfl ?_
    rw [show nI ks.length + 1 = nI (ks.length + 1) by exact nI_1 _]
    refine jl_putf (fs2 := [_, _, _, _, _, _, _, _, _, _]) h nm_c_NL 1 wl_NL_15 (by omega) (by decide) rfl (by exact rfl) (by rfl) (by rfl) (by exact Nat.le_of_ble_eq_true rfl) (by rfl) dc_NL_insert_89 (gw_set_count _) 92 rfl ?_
    exact jl_vretP h he (⟨rfl, _, hfin, rfl⟩) dc_NL_insert_92
  have loop : ∀ (p : Nat) (L1 : Nat → Int64), p ≤ ks.length → (∀ k, k < p → L1 k = iL (ks.getD k 0)) → (∀ k, p < k → k ≤ ks.length → L1 k = iL (ks.getD (k - 1) 0)) → (∀ k, p ≤ k → k < ks.length → z < ks.getD k 0) → jl_J x 168 ad 0 0 (gw K ad I V L1 C G R) 31 [(6, .int (nI p)), (4, .long (iL z)), (0, .ref (ad 148)), (1, .int (iI e)), (2, .long (iL t))] [] := by
    intro p
    induction p with
    | zero =>
      intro L1 hp g1 g2 g3
      have f0 := fin 0 L1 hp g1 g2 g3 (fun k hk => by omega)
      refine jl_iload h rfl dc_NL_insert_31 33 rfl ?_
      refine jl_if_le h 73 (by decide) dc_NL_insert_33 36 rfl (fun c33 => ?_) (fun c33 => absurd (by decide) c33)
      exact f0
    | succ p ih =>
      intro L1 hp g1 g2 g3
      have e1 : nI (p + 1) - 1 = nI p := nI_pred p
      have em : nI (p + 1) + Int32.ofInt (-1) = nI p := pk_m1 p
      have gp := g1 p (by omega)
      have hbp := hbk p (by omega)
      unfold nl_big at hbp hz
      have z0 : (0 : Int32) = nI 0 := rfl
      refine jl_iload h rfl dc_NL_insert_31 33 rfl ?_
      refine jl_if_le h 73 (by decide) dc_NL_insert_33 36 rfl (fun c33 => absurd c33 (fun q => by rw [z0] at q; exact absurd q (nI_ge (by omega) (by omega)))) (fun c33 => ?_)
      refine jl_aload_n (i := 0) h rfl rfl dc_NL_insert_36 37 rfl ?_
      refine jl_getf h nm_c_NL 0 wl_NL_11 (by omega) (by decide) (by exact rfl) (by rfl) dc_NL_insert_37 40 rfl ?_
      refine jl_iload h rfl dc_NL_insert_40 42 rfl ?_
      refine jl_iconst (v := 1) h (by decide) dc_NL_insert_42 43 rfl ?_
      refine jl_isub h dc_NL_insert_43 44 rfl ?_
      rw [show nI (p + 1) - 1 = nI p by exact e1]
      refine jl_lald (v := iL (ks.getD p 0)) h (p) (by exact rfl) (by omega) (by exact rfl) (by exact by omega) (by first | decide | assumption) (by exact gp) dc_NL_insert_44 45 rfl ?_
      refine jl_lload h rfl dc_NL_insert_45 47 rfl ?_
      refine jl_lcmp h dc_NL_insert_47 48 rfl ?_
      refine jl_if_le h 73 (by decide) dc_NL_insert_48 51 rfl (fun c48 => ?_) (fun c48 => ?_)
      · skip
        rw [nl_lgc (by omega) (by omega) (by omega) (by omega)] at c48
        exact fin (p + 1) L1 hp g1 g2 g3 (fun k hk => by
          by_cases h9 : k = p
          · rw [h9]; exact c48
          · exact Int.le_trans (hsrt k p (by omega) (by omega)) c48)
      · skip
        rw [nl_lgc (by omega) (by omega) (by omega) (by omega)] at c48
        refine jl_aload_n (i := 0) h rfl rfl dc_NL_insert_51 52 rfl ?_
        refine jl_getf h nm_c_NL 0 wl_NL_11 (by omega) (by decide) (by exact rfl) (by rfl) dc_NL_insert_52 55 rfl ?_
        refine jl_iload h rfl dc_NL_insert_55 57 rfl ?_
        refine jl_aload_n (i := 0) h rfl rfl dc_NL_insert_57 58 rfl ?_
        refine jl_getf h nm_c_NL 0 wl_NL_11 (by omega) (by decide) (by exact rfl) (by rfl) dc_NL_insert_58 61 rfl ?_
        refine jl_iload h rfl dc_NL_insert_61 63 rfl ?_
        refine jl_iconst (v := 1) h (by decide) dc_NL_insert_63 64 rfl ?_
        refine jl_isub h dc_NL_insert_64 65 rfl ?_
        rw [show nI (p + 1) - 1 = nI p by exact e1]
        refine jl_lald (v := iL (ks.getD p 0)) h (p) (by exact rfl) (by omega) (by exact rfl) (by exact by omega) (by first | decide | assumption) (by exact gp) dc_NL_insert_65 66 rfl ?_
        refine jl_last h (p + 1) (by exact rfl) (by omega) (by exact rfl) (by exact by omega) (by first | decide | assumption) dc_NL_insert_66 (gw_set_L _) 67 rfl ?_
        refine jl_iinc (i := 6) (d := -1) (lc2 := [(6, _), (4, _), (0, _), (1, _), (2, _)]) (v2 := nI p) h (by decide) rfl (em) rfl dc_NL_insert_67 70 rfl ?_
        refine jl_goto h 31 (by decide) dc_NL_insert_70 ?_
        refine ih _ (by omega) (fun k hk => ?_) (fun k hk1 hk2 => ?_) (fun k hk1 hk2 => ?_)
        · unfold vp_updL
          rw [if_neg (by omega)]
          exact g1 k (by omega)
        · unfold vp_updL
          by_cases h9 : k = p + 1
          · rw [if_pos h9, h9]; rfl
          · rw [if_neg h9]; exact g2 k (by omega) hk2
        · by_cases h9 : k = p
          · rw [h9]; omega
          · exact g3 k (by omega) hk2
  have l0 := loop ks.length L (Nat.le_refl _) hK (fun k h1 h2 => by omega) (fun k h1 h2 => by omega)
  refine jl_aload_n (i := 0) h rfl rfl dc_NL_insert_0 1 rfl ?_
  refine jl_getf (v := .int (nI ks.length)) h nm_c_NL 1 wl_NL_15 (by omega) (by decide) (by exact rfl) (by exact sr_v hc) dc_NL_insert_1 4 rfl ?_
  refine jl_sipush (v := nI 150) h (by decide) dc_NL_insert_4 7 rfl ?_
  refine jl_icmp_lt h 16 (by decide) dc_NL_insert_7 10 rfl (fun c7 => ?_) (fun c7 => absurd (nI_lt hlen (by decide)) c7)
  refine jl_iload_n (i := 1) h rfl rfl dc_NL_insert_16 17 rfl ?_
  refine jl_i2l (v := iL e) h (iL_of_iI (by omega) (by omega)) dc_NL_insert_17 18 rfl ?_
  refine jl_bipush (v := 36) h (by decide) dc_NL_insert_18 20 rfl ?_
  refine jl_lshl h rfl dc_NL_insert_20 21 rfl ?_
  refine jl_lload_n (i := 2) h rfl rfl dc_NL_insert_21 22 rfl ?_
  refine jl_ladd h dc_NL_insert_22 23 rfl ?_
  rw [show iL e <<< ((36 : Int32).toInt64 &&& 63) + iL t = iL z by exact ekey]
  refine jl_lstore (i := 4) (lc2 := [(4, _), (0, _), (1, _), (2, _)]) h (by decide) rfl dc_NL_insert_23 25 rfl ?_
  refine jl_aload_n (i := 0) h rfl rfl dc_NL_insert_25 26 rfl ?_
  refine jl_getf (v := .int (nI ks.length)) h nm_c_NL 1 wl_NL_15 (by omega) (by decide) (by exact rfl) (by exact sr_v hc) dc_NL_insert_26 29 rfl ?_
  refine jl_istore (i := 6) (lc2 := [(6, _), (4, _), (0, _), (1, _), (2, _)]) h (by decide) rfl dc_NL_insert_29 31 rfl ?_
  exact l0
end NL

