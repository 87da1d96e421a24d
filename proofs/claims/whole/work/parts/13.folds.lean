/-! FoldedStrand$Region and FoldedStrand$Folds: the recursions as folds, and contracts. -/
theorem gw_row {K : Nat → ClassId} {ad : Nat → Nat} {I : Nat → Int32} {V : Nat → Nat → Int32} {L : Nat → Int64} {C : Nat → Int32} {G : Nat → Nat} {R : Nat → Nat} {k len : Nat} (h : gw_i k = true ∧ gw_len k = len) : gw K ad I V L C G R k = .inl (K 0, len, .inl (V k)) := by rw [gw_int h.1, h.2]
theorem gw_rowset {K : Nat → ClassId} {ad : Nat → Nat} {I : Nat → Int32} {V : Nat → Nat → Int32} {L : Nat → Int64} {C : Nat → Int32} {G : Nat → Nat} {R : Nat → Nat} {k len : Nat} (h : gw_i k = true ∧ gw_len k = len) (f : Nat → Int32) : va_up (gw K ad I V L C G R) k (.inl (K 0, len, .inl f)) = gw K ad I (va_up V k f) L C G R := by rw [← h.2]; exact gw_setV h.1 f
/-- per place, per pair, and what is behind a pair, of the regions outside (0), any (1), one (2), two (3) -/
def fo_pp (r : Nat) : Int := if r = 0 then 0 else 1
def fo_pq (r : Nat) : Int := if r = 0 then 0 else 4
def fo_af (r : Nat) : Nat := if r < 2 then r else r - 1
def fo_mi (a c : Int) : Int := if c < a then c else a
/-- counts and most pairs of a part, by its last place -/
def fo_cK (b : Nat → Nat) (cn : Nat → Nat → Int) (s t : Nat) : Nat → Int
  | 0 => cn s t
  | c + 1 => if en_cp b (s + c) t = true then fo_cK b cn s t c + cn s (s + c) * cn (s + c + 1) t else fo_cK b cn s t c
def fo_pK (b : Nat → Nat) (pn : Nat → Nat → Int) (s t : Nat) : Nat → Int
  | 0 => pn s t
  | c + 1 => if en_cp b (s + c) t = true then (if fo_pK b pn s t c < pn s (s + c) + 1 + pn (s + c + 1) t then pn s (s + c) + 1 + pn (s + c + 1) t else fo_pK b pn s t c) else fo_pK b pn s t c
/-- least energies of a region, by its last place -/
def fo_br (b : Nat → Nat) (r : Nat) (pe : Nat → Nat → Int) (k t : Nat) : Int := fo_pq r + lp_wk b k t 5 + pe k t
def fo_rK (b : Nat → Nat) (r : Nat) (pe : Nat → Nat → Int) (rg : Nat → Nat → Nat → Int) (s t : Nat) : Nat → Int
  | 0 => rg r s t + fo_pp r
  | c + 1 => if en_cp b (s + c) t = true then fo_mi (fo_rK b r pe rg s t c) (rg (fo_af r) s (s + c) + fo_br b r pe (s + c) t) else fo_rK b r pe rg s t c
/-- least energies of a pair and all within -/
def fo_iK (b : Nat → Nat) (pe : Nat → Nat → Int) (i j m : Nat) (z : Int) : Nat → Int
  | 0 => z
  | c + 1 => if en_cp b (i + 1 + c) m = true then fo_mi (fo_iK b pe i j m z c) (lp_w1 b i j (i + 1 + c) m + pe (i + 1 + c) m) else fo_iK b pe i j m z c
def fo_many (b : Nat → Nat) (rg : Nat → Nat → Nat → Int) (i j : Nat) : Int := 38 + lp_wk b i j 5 + rg 3 (i + 1) j
def fo_oK (b : Nat → Nat) (pe : Nat → Nat → Int) (rg : Nat → Nat → Nat → Int) (i j : Nat) : Nat → Int
  | 0 => fo_mi (lp_hp b i j) (fo_many b rg i j)
  | c + 1 => fo_iK b pe i j (j - 1 - c) (fo_oK b pe rg i j c) (j - 1 - c - 4 - i)
/-- far from the limits of an int -/
def fo_in (z : Int) : Prop := -100000000 ≤ z ∧ z ≤ 100000000
theorem fo_mi_iI {a c : Int} (ha : fo_in a) (hc : fo_in c) : (if iI c < iI a then iI c else iI a) = iI (fo_mi a c) := by
  unfold fo_mi fo_in at *
  by_cases h : c < a
  · rw [if_pos h, if_pos ((iI_lt (by omega) (by omega) (by omega) (by omega)).mpr h)]
  · rw [if_neg h, if_neg (fun q => h ((iI_lt (by omega) (by omega) (by omega) (by omega)).mp q))]
abbrev bc_RE_mayBeUnpaired : ByteArray := prog_5_method_2_code
abbrev yn_RE_mayBeUnpaired : MethodName := ⟨"FoldedStrand$Region", "mayBeUnpaired", "()Z"⟩
theorem wl_RE_23 : Cond.fieldLink "FoldedStrand$Region" 23 "FoldedStrand$Region" "next" "LFoldedStrand$Region;" ∈ jl_T := jl_T_of 67 (by decide +kernel) (by decide +kernel)
theorem dc_RE_mayBeUnpaired_0 : decode bc_RE_mayBeUnpaired 0 = .ok (.aload_n 0, 1) := by decide +kernel
theorem dc_RE_mayBeUnpaired_1 : decode bc_RE_mayBeUnpaired 1 = .ok (.getfield 23, 3) := by decide +kernel
theorem dc_RE_mayBeUnpaired_4 : decode bc_RE_mayBeUnpaired 4 = .ok (.ifnonnull 7, 3) := by decide +kernel
theorem dc_RE_mayBeUnpaired_7 : decode bc_RE_mayBeUnpaired 7 = .ok (.iconst 1, 1) := by decide +kernel
theorem dc_RE_mayBeUnpaired_8 : decode bc_RE_mayBeUnpaired 8 = .ok (.goto 4, 3) := by decide +kernel
theorem dc_RE_mayBeUnpaired_11 : decode bc_RE_mayBeUnpaired 11 = .ok (.iconst 0, 1) := by decide +kernel
theorem dc_RE_mayBeUnpaired_12 : decode bc_RE_mayBeUnpaired 12 = .ok (.ireturn, 1) := by decide +kernel
abbrev bc_RE_afterPair : ByteArray := prog_5_method_3_code
abbrev yn_RE_afterPair : MethodName := ⟨"FoldedStrand$Region", "afterPair", "()LFoldedStrand$Region;"⟩
theorem dc_RE_afterPair_0 : decode bc_RE_afterPair 0 = .ok (.aload_n 0, 1) := by decide +kernel
theorem dc_RE_afterPair_1 : decode bc_RE_afterPair 1 = .ok (.getfield 23, 3) := by decide +kernel
theorem dc_RE_afterPair_4 : decode bc_RE_afterPair 4 = .ok (.ifnonnull 7, 3) := by decide +kernel
theorem dc_RE_afterPair_7 : decode bc_RE_afterPair 7 = .ok (.aload_n 0, 1) := by decide +kernel
theorem dc_RE_afterPair_8 : decode bc_RE_afterPair 8 = .ok (.goto 7, 3) := by decide +kernel
theorem dc_RE_afterPair_11 : decode bc_RE_afterPair 11 = .ok (.aload_n 0, 1) := by decide +kernel
theorem dc_RE_afterPair_12 : decode bc_RE_afterPair 12 = .ok (.getfield 23, 3) := by decide +kernel
theorem dc_RE_afterPair_15 : decode bc_RE_afterPair 15 = .ok (.areturn, 1) := by decide +kernel
abbrev bc_FO_mostPairs : ByteArray := prog_2_method_2_code
abbrev yn_FO_mostPairs : MethodName := ⟨"FoldedStrand$Folds", "mostPairs", "()I"⟩
theorem wl_FO_19 : Cond.fieldLink "FoldedStrand$Folds" 19 "FoldedStrand$Folds" "pairs" "[[I" ∈ jl_T := jl_T_of 86 (by decide +kernel) (by decide +kernel)
theorem wl_FO_22 : Cond.fieldLink "FoldedStrand$Folds" 22 "FoldedStrand$Folds" "strand" "LFoldedStrand$Strand;" ∈ jl_T := jl_T_of 87 (by decide +kernel) (by decide +kernel)
theorem vs_FO_50 : jl_v "FoldedStrand$Folds" 50 yn_ST_size bc_ST_size 1 (some .int) 0 := ⟨jl_T_of 226 (by decide +kernel) (by decide +kernel), jl_T_of 2 (by decide +kernel) (by decide +kernel), jl_T_of 223 (by decide +kernel) (by decide +kernel), by decide +kernel, by decide +kernel, by decide +kernel⟩
theorem dc_FO_mostPairs_0 : decode bc_FO_mostPairs 0 = .ok (.aload_n 0, 1) := by decide +kernel
theorem dc_FO_mostPairs_1 : decode bc_FO_mostPairs 1 = .ok (.getfield 19, 3) := by decide +kernel
theorem dc_FO_mostPairs_4 : decode bc_FO_mostPairs 4 = .ok (.iconst 0, 1) := by decide +kernel
theorem dc_FO_mostPairs_5 : decode bc_FO_mostPairs 5 = .ok (.aaload, 1) := by decide +kernel
theorem dc_FO_mostPairs_6 : decode bc_FO_mostPairs 6 = .ok (.aload_n 0, 1) := by decide +kernel
theorem dc_FO_mostPairs_7 : decode bc_FO_mostPairs 7 = .ok (.getfield 22, 3) := by decide +kernel
theorem dc_FO_mostPairs_10 : decode bc_FO_mostPairs 10 = .ok (.invokevirtual 50, 3) := by decide +kernel
theorem dc_FO_mostPairs_13 : decode bc_FO_mostPairs 13 = .ok (.iaload, 1) := by decide +kernel
theorem dc_FO_mostPairs_14 : decode bc_FO_mostPairs 14 = .ok (.ireturn, 1) := by decide +kernel
abbrev bc_FO_leastEnergy : ByteArray := prog_2_method_3_code
abbrev yn_FO_leastEnergy : MethodName := ⟨"FoldedStrand$Folds", "leastEnergy", "()I"⟩
theorem wl_FO_35 : Cond.fieldLink "FoldedStrand$Folds" 35 "FoldedStrand$Folds" "outside" "LFoldedStrand$Region;" ∈ jl_T := jl_T_of 77 (by decide +kernel) (by decide +kernel)
theorem wl_FO_54 : Cond.fieldLink "FoldedStrand$Folds" 54 "FoldedStrand$Region" "leastEnergies" "[[I" ∈ jl_T := jl_T_of 65 (by decide +kernel) (by decide +kernel)
theorem dc_FO_leastEnergy_0 : decode bc_FO_leastEnergy 0 = .ok (.aload_n 0, 1) := by decide +kernel
theorem dc_FO_leastEnergy_1 : decode bc_FO_leastEnergy 1 = .ok (.getfield 35, 3) := by decide +kernel
theorem dc_FO_leastEnergy_4 : decode bc_FO_leastEnergy 4 = .ok (.getfield 54, 3) := by decide +kernel
theorem dc_FO_leastEnergy_7 : decode bc_FO_leastEnergy 7 = .ok (.iconst 0, 1) := by decide +kernel
theorem dc_FO_leastEnergy_8 : decode bc_FO_leastEnergy 8 = .ok (.aaload, 1) := by decide +kernel
theorem dc_FO_leastEnergy_9 : decode bc_FO_leastEnergy 9 = .ok (.aload_n 0, 1) := by decide +kernel
theorem dc_FO_leastEnergy_10 : decode bc_FO_leastEnergy 10 = .ok (.getfield 22, 3) := by decide +kernel
theorem dc_FO_leastEnergy_13 : decode bc_FO_leastEnergy 13 = .ok (.invokevirtual 50, 3) := by decide +kernel
theorem dc_FO_leastEnergy_16 : decode bc_FO_leastEnergy 16 = .ok (.iaload, 1) := by decide +kernel
theorem dc_FO_leastEnergy_17 : decode bc_FO_leastEnergy 17 = .ok (.ireturn, 1) := by decide +kernel
abbrev bc_FO_structureCount : ByteArray := prog_2_method_4_code
abbrev yn_FO_structureCount : MethodName := ⟨"FoldedStrand$Folds", "structureCount", "()I"⟩
theorem wl_FO_16 : Cond.fieldLink "FoldedStrand$Folds" 16 "FoldedStrand$Folds" "counts" "[[I" ∈ jl_T := jl_T_of 85 (by decide +kernel) (by decide +kernel)
theorem dc_FO_structureCount_0 : decode bc_FO_structureCount 0 = .ok (.aload_n 0, 1) := by decide +kernel
theorem dc_FO_structureCount_1 : decode bc_FO_structureCount 1 = .ok (.getfield 16, 3) := by decide +kernel
theorem dc_FO_structureCount_4 : decode bc_FO_structureCount 4 = .ok (.iconst 0, 1) := by decide +kernel
theorem dc_FO_structureCount_5 : decode bc_FO_structureCount 5 = .ok (.aaload, 1) := by decide +kernel
theorem dc_FO_structureCount_6 : decode bc_FO_structureCount 6 = .ok (.aload_n 0, 1) := by decide +kernel
theorem dc_FO_structureCount_7 : decode bc_FO_structureCount 7 = .ok (.getfield 22, 3) := by decide +kernel
theorem dc_FO_structureCount_10 : decode bc_FO_structureCount 10 = .ok (.invokevirtual 50, 3) := by decide +kernel
theorem dc_FO_structureCount_13 : decode bc_FO_structureCount 13 = .ok (.iaload, 1) := by decide +kernel
theorem dc_FO_structureCount_14 : decode bc_FO_structureCount 14 = .ok (.ireturn, 1) := by decide +kernel
abbrev bc_FO_branchEnergy : ByteArray := prog_2_method_8_code
abbrev yn_FO_branchEnergy : MethodName := ⟨"FoldedStrand$Folds", "branchEnergy", "(LFoldedStrand$Region;II)I"⟩
theorem wl_FO_94 : Cond.fieldLink "FoldedStrand$Folds" 94 "FoldedStrand$Region" "perPair" "I" ∈ jl_T := jl_T_of 63 (by decide +kernel) (by decide +kernel)
theorem vs_FO_97 : jl_v "FoldedStrand$Folds" 97 yn_ST_ifWeak bc_ST_ifWeak 4 (some .int) 3 := ⟨jl_T_of 256 (by decide +kernel) (by decide +kernel), jl_T_of 2 (by decide +kernel) (by decide +kernel), jl_T_of 311 (by decide +kernel) (by decide +kernel), by decide +kernel, by decide +kernel, by decide +kernel⟩
theorem wl_FO_11 : Cond.fieldLink "FoldedStrand$Folds" 11 "FoldedStrand$Folds" "pairEnergies" "[[I" ∈ jl_T := jl_T_of 81 (by decide +kernel) (by decide +kernel)
theorem dc_FO_branchEnergy_0 : decode bc_FO_branchEnergy 0 = .ok (.aload_n 1, 1) := by decide +kernel
theorem dc_FO_branchEnergy_1 : decode bc_FO_branchEnergy 1 = .ok (.getfield 94, 3) := by decide +kernel
theorem dc_FO_branchEnergy_4 : decode bc_FO_branchEnergy 4 = .ok (.aload_n 0, 1) := by decide +kernel
theorem dc_FO_branchEnergy_5 : decode bc_FO_branchEnergy 5 = .ok (.getfield 22, 3) := by decide +kernel
theorem dc_FO_branchEnergy_8 : decode bc_FO_branchEnergy 8 = .ok (.iload_n 2, 1) := by decide +kernel
theorem dc_FO_branchEnergy_9 : decode bc_FO_branchEnergy 9 = .ok (.iload_n 3, 1) := by decide +kernel
theorem dc_FO_branchEnergy_10 : decode bc_FO_branchEnergy 10 = .ok (.iconst 5, 1) := by decide +kernel
theorem dc_FO_branchEnergy_11 : decode bc_FO_branchEnergy 11 = .ok (.invokevirtual 97, 3) := by decide +kernel
theorem dc_FO_branchEnergy_14 : decode bc_FO_branchEnergy 14 = .ok (.iadd, 1) := by decide +kernel
theorem dc_FO_branchEnergy_15 : decode bc_FO_branchEnergy 15 = .ok (.aload_n 0, 1) := by decide +kernel
theorem dc_FO_branchEnergy_16 : decode bc_FO_branchEnergy 16 = .ok (.getfield 11, 3) := by decide +kernel
theorem dc_FO_branchEnergy_19 : decode bc_FO_branchEnergy 19 = .ok (.iload_n 2, 1) := by decide +kernel
theorem dc_FO_branchEnergy_20 : decode bc_FO_branchEnergy 20 = .ok (.aaload, 1) := by decide +kernel
theorem dc_FO_branchEnergy_21 : decode bc_FO_branchEnergy 21 = .ok (.iload_n 3, 1) := by decide +kernel
theorem dc_FO_branchEnergy_22 : decode bc_FO_branchEnergy 22 = .ok (.iaload, 1) := by decide +kernel
theorem dc_FO_branchEnergy_23 : decode bc_FO_branchEnergy 23 = .ok (.iadd, 1) := by decide +kernel
theorem dc_FO_branchEnergy_24 : decode bc_FO_branchEnergy 24 = .ok (.ireturn, 1) := by decide +kernel
abbrev bc_FO_leastWithMany : ByteArray := prog_2_method_10_code
abbrev yn_FO_leastWithMany : MethodName := ⟨"FoldedStrand$Folds", "leastWithMany", "(II)I"⟩
theorem wl_FO_26 : Cond.fieldLink "FoldedStrand$Folds" 26 "FoldedStrand$Folds" "loops" "LFoldedStrand$Loops;" ∈ jl_T := jl_T_of 88 (by decide +kernel) (by decide +kernel)
theorem vs_FO_111 : jl_v "FoldedStrand$Folds" 111 yn_LO_multiClosing bc_LO_multiClosing 3 (some .int) 2 := ⟨jl_T_of 264 (by decide +kernel) (by decide +kernel), jl_T_of 3 (by decide +kernel) (by decide +kernel), jl_T_of 261 (by decide +kernel) (by decide +kernel), by decide +kernel, by decide +kernel, by decide +kernel⟩
theorem vi_LO_multiClosing : Cond.instanceMethod yn_LO_multiClosing ∈ jl_T := jl_T_of 262 (by decide +kernel) (by decide +kernel)
theorem vx_LO_multiClosing : Cond.selects "FoldedStrand$Loops" yn_LO_multiClosing yn_LO_multiClosing ∈ jl_T := jl_T_of 263 (by decide +kernel) (by decide +kernel)
theorem wl_FO_47 : Cond.fieldLink "FoldedStrand$Folds" 47 "FoldedStrand$Folds" "twoBranches" "LFoldedStrand$Region;" ∈ jl_T := jl_T_of 79 (by decide +kernel) (by decide +kernel)
theorem dc_FO_leastWithMany_0 : decode bc_FO_leastWithMany 0 = .ok (.aload_n 0, 1) := by decide +kernel
theorem dc_FO_leastWithMany_1 : decode bc_FO_leastWithMany 1 = .ok (.getfield 26, 3) := by decide +kernel
theorem dc_FO_leastWithMany_4 : decode bc_FO_leastWithMany 4 = .ok (.iload_n 1, 1) := by decide +kernel
theorem dc_FO_leastWithMany_5 : decode bc_FO_leastWithMany 5 = .ok (.iload_n 2, 1) := by decide +kernel
theorem dc_FO_leastWithMany_6 : decode bc_FO_leastWithMany 6 = .ok (.invokevirtual 111, 3) := by decide +kernel
theorem dc_FO_leastWithMany_9 : decode bc_FO_leastWithMany 9 = .ok (.aload_n 0, 1) := by decide +kernel
theorem dc_FO_leastWithMany_10 : decode bc_FO_leastWithMany 10 = .ok (.getfield 47, 3) := by decide +kernel
theorem dc_FO_leastWithMany_13 : decode bc_FO_leastWithMany 13 = .ok (.getfield 54, 3) := by decide +kernel
theorem dc_FO_leastWithMany_16 : decode bc_FO_leastWithMany 16 = .ok (.iload_n 1, 1) := by decide +kernel
theorem dc_FO_leastWithMany_17 : decode bc_FO_leastWithMany 17 = .ok (.iconst 1, 1) := by decide +kernel
theorem dc_FO_leastWithMany_18 : decode bc_FO_leastWithMany 18 = .ok (.iadd, 1) := by decide +kernel
theorem dc_FO_leastWithMany_19 : decode bc_FO_leastWithMany 19 = .ok (.aaload, 1) := by decide +kernel
theorem dc_FO_leastWithMany_20 : decode bc_FO_leastWithMany 20 = .ok (.iload_n 2, 1) := by decide +kernel
theorem dc_FO_leastWithMany_21 : decode bc_FO_leastWithMany 21 = .ok (.iaload, 1) := by decide +kernel
theorem dc_FO_leastWithMany_22 : decode bc_FO_leastWithMany 22 = .ok (.iadd, 1) := by decide +kernel
theorem dc_FO_leastWithMany_23 : decode bc_FO_leastWithMany 23 = .ok (.ireturn, 1) := by decide +kernel
abbrev bc_FO_leastOfPair : ByteArray := prog_2_method_9_code
abbrev yn_FO_leastOfPair : MethodName := ⟨"FoldedStrand$Folds", "leastOfPair", "(II)I"⟩
theorem vs_FO_101 : jl_v "FoldedStrand$Folds" 101 yn_LO_hairpin bc_LO_hairpin 5 (some .int) 2 := ⟨jl_T_of 244 (by decide +kernel) (by decide +kernel), jl_T_of 3 (by decide +kernel) (by decide +kernel), jl_T_of 241 (by decide +kernel) (by decide +kernel), by decide +kernel, by decide +kernel, by decide +kernel⟩
theorem vi_LO_hairpin : Cond.instanceMethod yn_LO_hairpin ∈ jl_T := jl_T_of 242 (by decide +kernel) (by decide +kernel)
theorem vx_LO_hairpin : Cond.selects "FoldedStrand$Loops" yn_LO_hairpin yn_LO_hairpin ∈ jl_T := jl_T_of 243 (by decide +kernel) (by decide +kernel)
theorem vs_FO_104 : jl_v "FoldedStrand$Folds" 104 yn_FO_leastWithMany bc_FO_leastWithMany 3 (some .int) 2 := ⟨jl_T_of 260 (by decide +kernel) (by decide +kernel), jl_T_of 4 (by decide +kernel) (by decide +kernel), jl_T_of 257 (by decide +kernel) (by decide +kernel), by decide +kernel, by decide +kernel, by decide +kernel⟩
theorem vi_FO_leastWithMany : Cond.instanceMethod yn_FO_leastWithMany ∈ jl_T := jl_T_of 258 (by decide +kernel) (by decide +kernel)
theorem vx_FO_leastWithMany : Cond.selects "FoldedStrand$Folds" yn_FO_leastWithMany yn_FO_leastWithMany ∈ jl_T := jl_T_of 259 (by decide +kernel) (by decide +kernel)
theorem wm_FO_91 : Cond.methodLink "FoldedStrand$Folds" 91 Lib.Math.min.name ∈ jl_T ∧ Cond.static Lib.Math.min.name ∈ jl_T ∧ Cond.initialized "java/lang/Math" ∈ jl_T ∧ Cond.code Lib.Math.min.name Lib.Math.min.code 2 (some .int) ∈ jl_T := ⟨jl_T_of 265 (by decide +kernel) (by decide +kernel), jl_T_of 266 (by decide +kernel) (by decide +kernel), jl_T_of 10 (by decide +kernel) (by decide +kernel), jl_T_of 267 (by decide +kernel) (by decide +kernel)⟩
theorem vs_FO_57 : jl_v "FoldedStrand$Folds" 57 yn_ST_canPair bc_ST_canPair 3 (some .boolean) 2 := ⟨jl_T_of 230 (by decide +kernel) (by decide +kernel), jl_T_of 2 (by decide +kernel) (by decide +kernel), jl_T_of 227 (by decide +kernel) (by decide +kernel), by decide +kernel, by decide +kernel, by decide +kernel⟩
theorem vs_FO_107 : jl_v "FoldedStrand$Folds" 107 yn_LO_withOne bc_LO_withOne 7 (some .int) 4 := ⟨jl_T_of 271 (by decide +kernel) (by decide +kernel), jl_T_of 3 (by decide +kernel) (by decide +kernel), jl_T_of 268 (by decide +kernel) (by decide +kernel), by decide +kernel, by decide +kernel, by decide +kernel⟩
theorem vi_LO_withOne : Cond.instanceMethod yn_LO_withOne ∈ jl_T := jl_T_of 269 (by decide +kernel) (by decide +kernel)
theorem vx_LO_withOne : Cond.selects "FoldedStrand$Loops" yn_LO_withOne yn_LO_withOne ∈ jl_T := jl_T_of 270 (by decide +kernel) (by decide +kernel)
theorem dc_FO_leastOfPair_0 : decode bc_FO_leastOfPair 0 = .ok (.aload_n 0, 1) := by decide +kernel
theorem dc_FO_leastOfPair_1 : decode bc_FO_leastOfPair 1 = .ok (.getfield 26, 3) := by decide +kernel
theorem dc_FO_leastOfPair_4 : decode bc_FO_leastOfPair 4 = .ok (.iload_n 1, 1) := by decide +kernel
theorem dc_FO_leastOfPair_5 : decode bc_FO_leastOfPair 5 = .ok (.iload_n 2, 1) := by decide +kernel
theorem dc_FO_leastOfPair_6 : decode bc_FO_leastOfPair 6 = .ok (.invokevirtual 101, 3) := by decide +kernel
theorem dc_FO_leastOfPair_9 : decode bc_FO_leastOfPair 9 = .ok (.aload_n 0, 1) := by decide +kernel
theorem dc_FO_leastOfPair_10 : decode bc_FO_leastOfPair 10 = .ok (.iload_n 1, 1) := by decide +kernel
theorem dc_FO_leastOfPair_11 : decode bc_FO_leastOfPair 11 = .ok (.iload_n 2, 1) := by decide +kernel
theorem dc_FO_leastOfPair_12 : decode bc_FO_leastOfPair 12 = .ok (.invokevirtual 104, 3) := by decide +kernel
theorem dc_FO_leastOfPair_15 : decode bc_FO_leastOfPair 15 = .ok (.invokestatic 91, 3) := by decide +kernel
theorem dc_FO_leastOfPair_18 : decode bc_FO_leastOfPair 18 = .ok (.istore_n 3, 1) := by decide +kernel
theorem dc_FO_leastOfPair_19 : decode bc_FO_leastOfPair 19 = .ok (.iload_n 2, 1) := by decide +kernel
theorem dc_FO_leastOfPair_20 : decode bc_FO_leastOfPair 20 = .ok (.iconst 1, 1) := by decide +kernel
theorem dc_FO_leastOfPair_21 : decode bc_FO_leastOfPair 21 = .ok (.isub, 1) := by decide +kernel
theorem dc_FO_leastOfPair_22 : decode bc_FO_leastOfPair 22 = .ok (.istore 4, 2) := by decide +kernel
theorem dc_FO_leastOfPair_24 : decode bc_FO_leastOfPair 24 = .ok (.iload 4, 2) := by decide +kernel
theorem dc_FO_leastOfPair_26 : decode bc_FO_leastOfPair 26 = .ok (.iload_n 1, 1) := by decide +kernel
theorem dc_FO_leastOfPair_27 : decode bc_FO_leastOfPair 27 = .ok (.isub, 1) := by decide +kernel
theorem dc_FO_leastOfPair_28 : decode bc_FO_leastOfPair 28 = .ok (.iconst 4, 1) := by decide +kernel
theorem dc_FO_leastOfPair_29 : decode bc_FO_leastOfPair 29 = .ok (.if_icmp .le 72, 3) := by decide +kernel
theorem dc_FO_leastOfPair_32 : decode bc_FO_leastOfPair 32 = .ok (.iload_n 1, 1) := by decide +kernel
theorem dc_FO_leastOfPair_33 : decode bc_FO_leastOfPair 33 = .ok (.iconst 1, 1) := by decide +kernel
theorem dc_FO_leastOfPair_34 : decode bc_FO_leastOfPair 34 = .ok (.iadd, 1) := by decide +kernel
theorem dc_FO_leastOfPair_35 : decode bc_FO_leastOfPair 35 = .ok (.istore 5, 2) := by decide +kernel
theorem dc_FO_leastOfPair_37 : decode bc_FO_leastOfPair 37 = .ok (.iload 5, 2) := by decide +kernel
theorem dc_FO_leastOfPair_39 : decode bc_FO_leastOfPair 39 = .ok (.iload 4, 2) := by decide +kernel
theorem dc_FO_leastOfPair_41 : decode bc_FO_leastOfPair 41 = .ok (.iconst 4, 1) := by decide +kernel
theorem dc_FO_leastOfPair_42 : decode bc_FO_leastOfPair 42 = .ok (.isub, 1) := by decide +kernel
theorem dc_FO_leastOfPair_43 : decode bc_FO_leastOfPair 43 = .ok (.if_icmp .gt 52, 3) := by decide +kernel
theorem dc_FO_leastOfPair_46 : decode bc_FO_leastOfPair 46 = .ok (.aload_n 0, 1) := by decide +kernel
theorem dc_FO_leastOfPair_47 : decode bc_FO_leastOfPair 47 = .ok (.getfield 22, 3) := by decide +kernel
theorem dc_FO_leastOfPair_50 : decode bc_FO_leastOfPair 50 = .ok (.iload 5, 2) := by decide +kernel
theorem dc_FO_leastOfPair_52 : decode bc_FO_leastOfPair 52 = .ok (.iload 4, 2) := by decide +kernel
theorem dc_FO_leastOfPair_54 : decode bc_FO_leastOfPair 54 = .ok (.invokevirtual 57, 3) := by decide +kernel
theorem dc_FO_leastOfPair_57 : decode bc_FO_leastOfPair 57 = .ok (.ifCond .eq 32, 3) := by decide +kernel
theorem dc_FO_leastOfPair_60 : decode bc_FO_leastOfPair 60 = .ok (.iload_n 3, 1) := by decide +kernel
theorem dc_FO_leastOfPair_61 : decode bc_FO_leastOfPair 61 = .ok (.aload_n 0, 1) := by decide +kernel
theorem dc_FO_leastOfPair_62 : decode bc_FO_leastOfPair 62 = .ok (.getfield 26, 3) := by decide +kernel
theorem dc_FO_leastOfPair_65 : decode bc_FO_leastOfPair 65 = .ok (.iload_n 1, 1) := by decide +kernel
theorem dc_FO_leastOfPair_66 : decode bc_FO_leastOfPair 66 = .ok (.iload_n 2, 1) := by decide +kernel
theorem dc_FO_leastOfPair_67 : decode bc_FO_leastOfPair 67 = .ok (.iload 5, 2) := by decide +kernel
theorem dc_FO_leastOfPair_69 : decode bc_FO_leastOfPair 69 = .ok (.iload 4, 2) := by decide +kernel
theorem dc_FO_leastOfPair_71 : decode bc_FO_leastOfPair 71 = .ok (.invokevirtual 107, 3) := by decide +kernel
theorem dc_FO_leastOfPair_74 : decode bc_FO_leastOfPair 74 = .ok (.aload_n 0, 1) := by decide +kernel
theorem dc_FO_leastOfPair_75 : decode bc_FO_leastOfPair 75 = .ok (.getfield 11, 3) := by decide +kernel
theorem dc_FO_leastOfPair_78 : decode bc_FO_leastOfPair 78 = .ok (.iload 5, 2) := by decide +kernel
theorem dc_FO_leastOfPair_80 : decode bc_FO_leastOfPair 80 = .ok (.aaload, 1) := by decide +kernel
theorem dc_FO_leastOfPair_81 : decode bc_FO_leastOfPair 81 = .ok (.iload 4, 2) := by decide +kernel
theorem dc_FO_leastOfPair_83 : decode bc_FO_leastOfPair 83 = .ok (.iaload, 1) := by decide +kernel
theorem dc_FO_leastOfPair_84 : decode bc_FO_leastOfPair 84 = .ok (.iadd, 1) := by decide +kernel
theorem dc_FO_leastOfPair_85 : decode bc_FO_leastOfPair 85 = .ok (.invokestatic 91, 3) := by decide +kernel
theorem dc_FO_leastOfPair_88 : decode bc_FO_leastOfPair 88 = .ok (.istore_n 3, 1) := by decide +kernel
theorem dc_FO_leastOfPair_89 : decode bc_FO_leastOfPair 89 = .ok (.iinc 5 1, 3) := by decide +kernel
theorem dc_FO_leastOfPair_92 : decode bc_FO_leastOfPair 92 = .ok (.goto (-55), 3) := by decide +kernel
theorem dc_FO_leastOfPair_95 : decode bc_FO_leastOfPair 95 = .ok (.iinc 4 (-1), 3) := by decide +kernel
theorem dc_FO_leastOfPair_98 : decode bc_FO_leastOfPair 98 = .ok (.goto (-74), 3) := by decide +kernel
theorem dc_FO_leastOfPair_101 : decode bc_FO_leastOfPair 101 = .ok (.iload_n 3, 1) := by decide +kernel
theorem dc_FO_leastOfPair_102 : decode bc_FO_leastOfPair 102 = .ok (.ireturn, 1) := by decide +kernel
abbrev bc_FO_fillRegion : ByteArray := prog_2_method_7_code
abbrev yn_FO_fillRegion : MethodName := ⟨"FoldedStrand$Folds", "fillRegion", "(LFoldedStrand$Region;II)V"⟩
theorem vs_FO_79 : jl_v "FoldedStrand$Folds" 79 yn_RE_afterPair bc_RE_afterPair 1 (some (.object "FoldedStrand$Region")) 0 := ⟨jl_T_of 306 (by decide +kernel) (by decide +kernel), jl_T_of 5 (by decide +kernel) (by decide +kernel), jl_T_of 303 (by decide +kernel) (by decide +kernel), by decide +kernel, by decide +kernel, by decide +kernel⟩
theorem vi_RE_afterPair : Cond.instanceMethod yn_RE_afterPair ∈ jl_T := jl_T_of 304 (by decide +kernel) (by decide +kernel)
theorem vx_RE_afterPair : Cond.selects "FoldedStrand$Region" yn_RE_afterPair yn_RE_afterPair ∈ jl_T := jl_T_of 305 (by decide +kernel) (by decide +kernel)
theorem wl_FO_83 : Cond.fieldLink "FoldedStrand$Folds" 83 "FoldedStrand$Region" "perPlace" "I" ∈ jl_T := jl_T_of 60 (by decide +kernel) (by decide +kernel)
theorem vs_FO_87 : jl_v "FoldedStrand$Folds" 87 yn_FO_branchEnergy bc_FO_branchEnergy 4 (some .int) 3 := ⟨jl_T_of 310 (by decide +kernel) (by decide +kernel), jl_T_of 4 (by decide +kernel) (by decide +kernel), jl_T_of 307 (by decide +kernel) (by decide +kernel), by decide +kernel, by decide +kernel, by decide +kernel⟩
theorem vi_FO_branchEnergy : Cond.instanceMethod yn_FO_branchEnergy ∈ jl_T := jl_T_of 308 (by decide +kernel) (by decide +kernel)
theorem vx_FO_branchEnergy : Cond.selects "FoldedStrand$Folds" yn_FO_branchEnergy yn_FO_branchEnergy ∈ jl_T := jl_T_of 309 (by decide +kernel) (by decide +kernel)
theorem dc_FO_fillRegion_0 : decode bc_FO_fillRegion 0 = .ok (.iload_n 3, 1) := by decide +kernel
theorem dc_FO_fillRegion_1 : decode bc_FO_fillRegion 1 = .ok (.iconst 1, 1) := by decide +kernel
theorem dc_FO_fillRegion_2 : decode bc_FO_fillRegion 2 = .ok (.isub, 1) := by decide +kernel
theorem dc_FO_fillRegion_3 : decode bc_FO_fillRegion 3 = .ok (.istore 4, 2) := by decide +kernel
theorem dc_FO_fillRegion_5 : decode bc_FO_fillRegion 5 = .ok (.aload_n 1, 1) := by decide +kernel
theorem dc_FO_fillRegion_6 : decode bc_FO_fillRegion 6 = .ok (.invokevirtual 79, 3) := by decide +kernel
theorem dc_FO_fillRegion_9 : decode bc_FO_fillRegion 9 = .ok (.getfield 54, 3) := by decide +kernel
theorem dc_FO_fillRegion_12 : decode bc_FO_fillRegion 12 = .ok (.astore 5, 2) := by decide +kernel
theorem dc_FO_fillRegion_14 : decode bc_FO_fillRegion 14 = .ok (.aload_n 1, 1) := by decide +kernel
theorem dc_FO_fillRegion_15 : decode bc_FO_fillRegion 15 = .ok (.getfield 54, 3) := by decide +kernel
theorem dc_FO_fillRegion_18 : decode bc_FO_fillRegion 18 = .ok (.iload_n 2, 1) := by decide +kernel
theorem dc_FO_fillRegion_19 : decode bc_FO_fillRegion 19 = .ok (.aaload, 1) := by decide +kernel
theorem dc_FO_fillRegion_20 : decode bc_FO_fillRegion 20 = .ok (.iload 4, 2) := by decide +kernel
theorem dc_FO_fillRegion_22 : decode bc_FO_fillRegion 22 = .ok (.iaload, 1) := by decide +kernel
theorem dc_FO_fillRegion_23 : decode bc_FO_fillRegion 23 = .ok (.aload_n 1, 1) := by decide +kernel
theorem dc_FO_fillRegion_24 : decode bc_FO_fillRegion 24 = .ok (.getfield 83, 3) := by decide +kernel
theorem dc_FO_fillRegion_27 : decode bc_FO_fillRegion 27 = .ok (.iadd, 1) := by decide +kernel
theorem dc_FO_fillRegion_28 : decode bc_FO_fillRegion 28 = .ok (.istore 6, 2) := by decide +kernel
theorem dc_FO_fillRegion_30 : decode bc_FO_fillRegion 30 = .ok (.iload_n 2, 1) := by decide +kernel
theorem dc_FO_fillRegion_31 : decode bc_FO_fillRegion 31 = .ok (.istore 7, 2) := by decide +kernel
theorem dc_FO_fillRegion_33 : decode bc_FO_fillRegion 33 = .ok (.iload 7, 2) := by decide +kernel
theorem dc_FO_fillRegion_35 : decode bc_FO_fillRegion 35 = .ok (.iload 4, 2) := by decide +kernel
theorem dc_FO_fillRegion_37 : decode bc_FO_fillRegion 37 = .ok (.iconst 4, 1) := by decide +kernel
theorem dc_FO_fillRegion_38 : decode bc_FO_fillRegion 38 = .ok (.isub, 1) := by decide +kernel
theorem dc_FO_fillRegion_39 : decode bc_FO_fillRegion 39 = .ok (.if_icmp .gt 47, 3) := by decide +kernel
theorem dc_FO_fillRegion_42 : decode bc_FO_fillRegion 42 = .ok (.aload_n 0, 1) := by decide +kernel
theorem dc_FO_fillRegion_43 : decode bc_FO_fillRegion 43 = .ok (.getfield 22, 3) := by decide +kernel
theorem dc_FO_fillRegion_46 : decode bc_FO_fillRegion 46 = .ok (.iload 7, 2) := by decide +kernel
theorem dc_FO_fillRegion_48 : decode bc_FO_fillRegion 48 = .ok (.iload 4, 2) := by decide +kernel
theorem dc_FO_fillRegion_50 : decode bc_FO_fillRegion 50 = .ok (.invokevirtual 57, 3) := by decide +kernel
theorem dc_FO_fillRegion_53 : decode bc_FO_fillRegion 53 = .ok (.ifCond .eq 27, 3) := by decide +kernel
theorem dc_FO_fillRegion_56 : decode bc_FO_fillRegion 56 = .ok (.iload 6, 2) := by decide +kernel
theorem dc_FO_fillRegion_58 : decode bc_FO_fillRegion 58 = .ok (.aload 5, 2) := by decide +kernel
theorem dc_FO_fillRegion_60 : decode bc_FO_fillRegion 60 = .ok (.iload_n 2, 1) := by decide +kernel
theorem dc_FO_fillRegion_61 : decode bc_FO_fillRegion 61 = .ok (.aaload, 1) := by decide +kernel
theorem dc_FO_fillRegion_62 : decode bc_FO_fillRegion 62 = .ok (.iload 7, 2) := by decide +kernel
theorem dc_FO_fillRegion_64 : decode bc_FO_fillRegion 64 = .ok (.iaload, 1) := by decide +kernel
theorem dc_FO_fillRegion_65 : decode bc_FO_fillRegion 65 = .ok (.aload_n 0, 1) := by decide +kernel
theorem dc_FO_fillRegion_66 : decode bc_FO_fillRegion 66 = .ok (.aload_n 1, 1) := by decide +kernel
theorem dc_FO_fillRegion_67 : decode bc_FO_fillRegion 67 = .ok (.iload 7, 2) := by decide +kernel
theorem dc_FO_fillRegion_69 : decode bc_FO_fillRegion 69 = .ok (.iload 4, 2) := by decide +kernel
theorem dc_FO_fillRegion_71 : decode bc_FO_fillRegion 71 = .ok (.invokevirtual 87, 3) := by decide +kernel
theorem dc_FO_fillRegion_74 : decode bc_FO_fillRegion 74 = .ok (.iadd, 1) := by decide +kernel
theorem dc_FO_fillRegion_75 : decode bc_FO_fillRegion 75 = .ok (.invokestatic 91, 3) := by decide +kernel
theorem dc_FO_fillRegion_78 : decode bc_FO_fillRegion 78 = .ok (.istore 6, 2) := by decide +kernel
theorem dc_FO_fillRegion_80 : decode bc_FO_fillRegion 80 = .ok (.iinc 7 1, 3) := by decide +kernel
theorem dc_FO_fillRegion_83 : decode bc_FO_fillRegion 83 = .ok (.goto (-50), 3) := by decide +kernel
theorem dc_FO_fillRegion_86 : decode bc_FO_fillRegion 86 = .ok (.aload_n 1, 1) := by decide +kernel
theorem dc_FO_fillRegion_87 : decode bc_FO_fillRegion 87 = .ok (.getfield 54, 3) := by decide +kernel
theorem dc_FO_fillRegion_90 : decode bc_FO_fillRegion 90 = .ok (.iload_n 2, 1) := by decide +kernel
theorem dc_FO_fillRegion_91 : decode bc_FO_fillRegion 91 = .ok (.aaload, 1) := by decide +kernel
theorem dc_FO_fillRegion_92 : decode bc_FO_fillRegion 92 = .ok (.iload_n 3, 1) := by decide +kernel
theorem dc_FO_fillRegion_93 : decode bc_FO_fillRegion 93 = .ok (.iload 6, 2) := by decide +kernel
theorem dc_FO_fillRegion_95 : decode bc_FO_fillRegion 95 = .ok (.iastore, 1) := by decide +kernel
theorem dc_FO_fillRegion_96 : decode bc_FO_fillRegion 96 = .ok (.return_, 1) := by decide +kernel
abbrev bc_FO_countPart : ByteArray := prog_2_method_6_code
abbrev yn_FO_countPart : MethodName := ⟨"FoldedStrand$Folds", "countPart", "(II)V"⟩
theorem wm_FO_74 : Cond.methodLink "FoldedStrand$Folds" 74 Lib.Math.max.name ∈ jl_T ∧ Cond.static Lib.Math.max.name ∈ jl_T ∧ Cond.initialized "java/lang/Math" ∈ jl_T ∧ Cond.code Lib.Math.max.name Lib.Math.max.code 2 (some .int) ∈ jl_T := ⟨jl_T_of 296 (by decide +kernel) (by decide +kernel), jl_T_of 297 (by decide +kernel) (by decide +kernel), jl_T_of 10 (by decide +kernel) (by decide +kernel), jl_T_of 298 (by decide +kernel) (by decide +kernel)⟩
theorem dc_FO_countPart_0 : decode bc_FO_countPart 0 = .ok (.iload_n 2, 1) := by decide +kernel
theorem dc_FO_countPart_1 : decode bc_FO_countPart 1 = .ok (.iconst 1, 1) := by decide +kernel
theorem dc_FO_countPart_2 : decode bc_FO_countPart 2 = .ok (.isub, 1) := by decide +kernel
theorem dc_FO_countPart_3 : decode bc_FO_countPart 3 = .ok (.istore_n 3, 1) := by decide +kernel
theorem dc_FO_countPart_4 : decode bc_FO_countPart 4 = .ok (.aload_n 0, 1) := by decide +kernel
theorem dc_FO_countPart_5 : decode bc_FO_countPart 5 = .ok (.getfield 16, 3) := by decide +kernel
theorem dc_FO_countPart_8 : decode bc_FO_countPart 8 = .ok (.iload_n 1, 1) := by decide +kernel
theorem dc_FO_countPart_9 : decode bc_FO_countPart 9 = .ok (.aaload, 1) := by decide +kernel
theorem dc_FO_countPart_10 : decode bc_FO_countPart 10 = .ok (.iload_n 3, 1) := by decide +kernel
theorem dc_FO_countPart_11 : decode bc_FO_countPart 11 = .ok (.iaload, 1) := by decide +kernel
theorem dc_FO_countPart_12 : decode bc_FO_countPart 12 = .ok (.istore 4, 2) := by decide +kernel
theorem dc_FO_countPart_14 : decode bc_FO_countPart 14 = .ok (.aload_n 0, 1) := by decide +kernel
theorem dc_FO_countPart_15 : decode bc_FO_countPart 15 = .ok (.getfield 19, 3) := by decide +kernel
theorem dc_FO_countPart_18 : decode bc_FO_countPart 18 = .ok (.iload_n 1, 1) := by decide +kernel
theorem dc_FO_countPart_19 : decode bc_FO_countPart 19 = .ok (.aaload, 1) := by decide +kernel
theorem dc_FO_countPart_20 : decode bc_FO_countPart 20 = .ok (.iload_n 3, 1) := by decide +kernel
theorem dc_FO_countPart_21 : decode bc_FO_countPart 21 = .ok (.iaload, 1) := by decide +kernel
theorem dc_FO_countPart_22 : decode bc_FO_countPart 22 = .ok (.istore 5, 2) := by decide +kernel
theorem dc_FO_countPart_24 : decode bc_FO_countPart 24 = .ok (.iload_n 1, 1) := by decide +kernel
theorem dc_FO_countPart_25 : decode bc_FO_countPart 25 = .ok (.istore 6, 2) := by decide +kernel
theorem dc_FO_countPart_27 : decode bc_FO_countPart 27 = .ok (.iload 6, 2) := by decide +kernel
theorem dc_FO_countPart_29 : decode bc_FO_countPart 29 = .ok (.iload_n 3, 1) := by decide +kernel
theorem dc_FO_countPart_30 : decode bc_FO_countPart 30 = .ok (.iconst 4, 1) := by decide +kernel
theorem dc_FO_countPart_31 : decode bc_FO_countPart 31 = .ok (.isub, 1) := by decide +kernel
theorem dc_FO_countPart_32 : decode bc_FO_countPart 32 = .ok (.if_icmp .gt 78, 3) := by decide +kernel
theorem dc_FO_countPart_35 : decode bc_FO_countPart 35 = .ok (.aload_n 0, 1) := by decide +kernel
theorem dc_FO_countPart_36 : decode bc_FO_countPart 36 = .ok (.getfield 22, 3) := by decide +kernel
theorem dc_FO_countPart_39 : decode bc_FO_countPart 39 = .ok (.iload 6, 2) := by decide +kernel
theorem dc_FO_countPart_41 : decode bc_FO_countPart 41 = .ok (.iload_n 3, 1) := by decide +kernel
theorem dc_FO_countPart_42 : decode bc_FO_countPart 42 = .ok (.invokevirtual 57, 3) := by decide +kernel
theorem dc_FO_countPart_45 : decode bc_FO_countPart 45 = .ok (.ifCond .eq 59, 3) := by decide +kernel
theorem dc_FO_countPart_48 : decode bc_FO_countPart 48 = .ok (.iload 4, 2) := by decide +kernel
theorem dc_FO_countPart_50 : decode bc_FO_countPart 50 = .ok (.aload_n 0, 1) := by decide +kernel
theorem dc_FO_countPart_51 : decode bc_FO_countPart 51 = .ok (.getfield 16, 3) := by decide +kernel
theorem dc_FO_countPart_54 : decode bc_FO_countPart 54 = .ok (.iload_n 1, 1) := by decide +kernel
theorem dc_FO_countPart_55 : decode bc_FO_countPart 55 = .ok (.aaload, 1) := by decide +kernel
theorem dc_FO_countPart_56 : decode bc_FO_countPart 56 = .ok (.iload 6, 2) := by decide +kernel
theorem dc_FO_countPart_58 : decode bc_FO_countPart 58 = .ok (.iaload, 1) := by decide +kernel
theorem dc_FO_countPart_59 : decode bc_FO_countPart 59 = .ok (.aload_n 0, 1) := by decide +kernel
theorem dc_FO_countPart_60 : decode bc_FO_countPart 60 = .ok (.getfield 16, 3) := by decide +kernel
theorem dc_FO_countPart_63 : decode bc_FO_countPart 63 = .ok (.iload 6, 2) := by decide +kernel
theorem dc_FO_countPart_65 : decode bc_FO_countPart 65 = .ok (.iconst 1, 1) := by decide +kernel
theorem dc_FO_countPart_66 : decode bc_FO_countPart 66 = .ok (.iadd, 1) := by decide +kernel
theorem dc_FO_countPart_67 : decode bc_FO_countPart 67 = .ok (.aaload, 1) := by decide +kernel
theorem dc_FO_countPart_68 : decode bc_FO_countPart 68 = .ok (.iload_n 3, 1) := by decide +kernel
theorem dc_FO_countPart_69 : decode bc_FO_countPart 69 = .ok (.iaload, 1) := by decide +kernel
theorem dc_FO_countPart_70 : decode bc_FO_countPart 70 = .ok (.imul, 1) := by decide +kernel
theorem dc_FO_countPart_71 : decode bc_FO_countPart 71 = .ok (.iadd, 1) := by decide +kernel
theorem dc_FO_countPart_72 : decode bc_FO_countPart 72 = .ok (.istore 4, 2) := by decide +kernel
theorem dc_FO_countPart_74 : decode bc_FO_countPart 74 = .ok (.iload 5, 2) := by decide +kernel
theorem dc_FO_countPart_76 : decode bc_FO_countPart 76 = .ok (.aload_n 0, 1) := by decide +kernel
theorem dc_FO_countPart_77 : decode bc_FO_countPart 77 = .ok (.getfield 19, 3) := by decide +kernel
theorem dc_FO_countPart_80 : decode bc_FO_countPart 80 = .ok (.iload_n 1, 1) := by decide +kernel
theorem dc_FO_countPart_81 : decode bc_FO_countPart 81 = .ok (.aaload, 1) := by decide +kernel
theorem dc_FO_countPart_82 : decode bc_FO_countPart 82 = .ok (.iload 6, 2) := by decide +kernel
theorem dc_FO_countPart_84 : decode bc_FO_countPart 84 = .ok (.iaload, 1) := by decide +kernel
theorem dc_FO_countPart_85 : decode bc_FO_countPart 85 = .ok (.iconst 1, 1) := by decide +kernel
theorem dc_FO_countPart_86 : decode bc_FO_countPart 86 = .ok (.iadd, 1) := by decide +kernel
theorem dc_FO_countPart_87 : decode bc_FO_countPart 87 = .ok (.aload_n 0, 1) := by decide +kernel
theorem dc_FO_countPart_88 : decode bc_FO_countPart 88 = .ok (.getfield 19, 3) := by decide +kernel
theorem dc_FO_countPart_91 : decode bc_FO_countPart 91 = .ok (.iload 6, 2) := by decide +kernel
theorem dc_FO_countPart_93 : decode bc_FO_countPart 93 = .ok (.iconst 1, 1) := by decide +kernel
theorem dc_FO_countPart_94 : decode bc_FO_countPart 94 = .ok (.iadd, 1) := by decide +kernel
theorem dc_FO_countPart_95 : decode bc_FO_countPart 95 = .ok (.aaload, 1) := by decide +kernel
theorem dc_FO_countPart_96 : decode bc_FO_countPart 96 = .ok (.iload_n 3, 1) := by decide +kernel
theorem dc_FO_countPart_97 : decode bc_FO_countPart 97 = .ok (.iaload, 1) := by decide +kernel
theorem dc_FO_countPart_98 : decode bc_FO_countPart 98 = .ok (.iadd, 1) := by decide +kernel
theorem dc_FO_countPart_99 : decode bc_FO_countPart 99 = .ok (.invokestatic 74, 3) := by decide +kernel
theorem dc_FO_countPart_102 : decode bc_FO_countPart 102 = .ok (.istore 5, 2) := by decide +kernel
theorem dc_FO_countPart_104 : decode bc_FO_countPart 104 = .ok (.iinc 6 1, 3) := by decide +kernel
theorem dc_FO_countPart_107 : decode bc_FO_countPart 107 = .ok (.goto (-80), 3) := by decide +kernel
theorem dc_FO_countPart_110 : decode bc_FO_countPart 110 = .ok (.aload_n 0, 1) := by decide +kernel
theorem dc_FO_countPart_111 : decode bc_FO_countPart 111 = .ok (.getfield 16, 3) := by decide +kernel
theorem dc_FO_countPart_114 : decode bc_FO_countPart 114 = .ok (.iload_n 1, 1) := by decide +kernel
theorem dc_FO_countPart_115 : decode bc_FO_countPart 115 = .ok (.aaload, 1) := by decide +kernel
theorem dc_FO_countPart_116 : decode bc_FO_countPart 116 = .ok (.iload_n 2, 1) := by decide +kernel
theorem dc_FO_countPart_117 : decode bc_FO_countPart 117 = .ok (.iload 4, 2) := by decide +kernel
theorem dc_FO_countPart_119 : decode bc_FO_countPart 119 = .ok (.iastore, 1) := by decide +kernel
theorem dc_FO_countPart_120 : decode bc_FO_countPart 120 = .ok (.aload_n 0, 1) := by decide +kernel
theorem dc_FO_countPart_121 : decode bc_FO_countPart 121 = .ok (.getfield 19, 3) := by decide +kernel
theorem dc_FO_countPart_124 : decode bc_FO_countPart 124 = .ok (.iload_n 1, 1) := by decide +kernel
theorem dc_FO_countPart_125 : decode bc_FO_countPart 125 = .ok (.aaload, 1) := by decide +kernel
theorem dc_FO_countPart_126 : decode bc_FO_countPart 126 = .ok (.iload_n 2, 1) := by decide +kernel
theorem dc_FO_countPart_127 : decode bc_FO_countPart 127 = .ok (.iload 5, 2) := by decide +kernel
theorem dc_FO_countPart_129 : decode bc_FO_countPart 129 = .ok (.iastore, 1) := by decide +kernel
theorem dc_FO_countPart_130 : decode bc_FO_countPart 130 = .ok (.return_, 1) := by decide +kernel
section FO
variable (l : Launch) {K : Nat → ClassId} {sa : Nat → Nat} {ad : Nat → Nat} {I : Nat → Int32} {V : Nat → Nat → Int32} {L : Nat → Int64} {C : Nat → Int32} {G : Nat → Nat} {R : Nat → Nat} {n : Nat} {b : Nat → Nat} {pe cn pn : Nat → Nat → Int} {rg : Nat → Nat → Nat → Int}
theorem c_RE0_mayBeUnpaired : jl_C l K sa yn_RE_mayBeUnpaired bc_RE_mayBeUnpaired 1 (some .boolean) 0 0 168 ad [.ref (ad 64)] (gw K ad I V L C G R) (some (.int 1)) (gw K ad I V L C G R) := by
  refine jl_enter (by decide) (Nat.le_of_ble_eq_true rfl) (fun x h he hr => ?_)
  show jl_J x 168 ad 0 0 (gw K ad I V L C G R) 0 [(0, .ref (ad 64))] []
  refine jl_aload_n (i := 0) h rfl rfl dc_RE_mayBeUnpaired_0 1 rfl ?_
  refine jl_getf h nm_c_RE 3 wl_RE_23 (by omega) (by decide) (by exact rfl) (by rfl) dc_RE_mayBeUnpaired_1 4 rfl ?_
  refine jl_ifnonnullN h dc_RE_mayBeUnpaired_4 7 rfl ?_
  refine jl_iconst (v := 1) h (by decide) dc_RE_mayBeUnpaired_7 8 rfl ?_
  refine jl_goto h 12 (by decide) dc_RE_mayBeUnpaired_8 ?_
  exact jl_zret h he rfl (rfl) (rfl) dc_RE_mayBeUnpaired_12
theorem c_RE0_afterPair : jl_C l K sa yn_RE_afterPair bc_RE_afterPair 1 (some (.object "FoldedStrand$Region")) 0 0 168 ad [.ref (ad 64)] (gw K ad I V L C G R) (some (.ref (ad 64))) (gw K ad I V L C G R) := by
  refine jl_enter (by decide) (Nat.le_of_ble_eq_true rfl) (fun x h he hr => ?_)
  show jl_J x 168 ad 0 0 (gw K ad I V L C G R) 0 [(0, .ref (ad 64))] []
  refine jl_aload_n (i := 0) h rfl rfl dc_RE_afterPair_0 1 rfl ?_
  refine jl_getf h nm_c_RE 3 wl_RE_23 (by omega) (by decide) (by exact rfl) (by rfl) dc_RE_afterPair_1 4 rfl ?_
  refine jl_ifnonnullN h dc_RE_afterPair_4 7 rfl ?_
  refine jl_aload_n (i := 0) h rfl rfl dc_RE_afterPair_7 8 rfl ?_
  refine jl_goto h 15 (by decide) dc_RE_afterPair_8 ?_
  exact jl_aret h he (rfl) (rfl) dc_RE_afterPair_15
theorem c_FO0_branchEnergy (hS : st_ok K ad (gw K ad I V L C G R) n b) {k t : Nat} (hk : k < 18) (ht : t < 18) (hpe : V (6 + k) t = iI (pe k t)) : jl_C l K sa yn_FO_branchEnergy bc_FO_branchEnergy 4 (some .int) 2 55 168 ad [.ref (ad 4), .ref (ad 64), .int (nI k), .int (nI t)] (gw K ad I V L C G R) (some (.int (iI (fo_br b 0 pe k t)))) (gw K ad I V L C G R) := by
  refine jl_enter (by decide) (Nat.le_of_ble_eq_true rfl) (fun x h he hr => ?_)
  obtain ⟨hST, hbases, hn, hb⟩ := id hS
  show jl_J x 168 ad 0 0 (gw K ad I V L C G R) 0 [(0, .ref (ad 4)), (1, .ref (ad 64)), (2, .int (nI k)), (3, .int (nI t))] []
  refine jl_aload_n (i := 1) h rfl rfl dc_FO_branchEnergy_0 1 rfl ?_
  refine jl_getf (v := .int (iI 0)) h nm_c_RE 1 wl_FO_94 (by omega) (by decide) (by exact rfl) (by exact rfl) dc_FO_branchEnergy_1 4 rfl ?_
  refine jl_aload_n (i := 0) h rfl rfl dc_FO_branchEnergy_4 5 rfl ?_
  refine jl_getf h nm_c_FO 7 wl_FO_22 (by omega) (by decide) (by exact rfl) (by rfl) dc_FO_branchEnergy_5 8 rfl ?_
  refine jl_iload_n (i := 2) h rfl rfl dc_FO_branchEnergy_8 9 rfl ?_
  refine jl_iload_n (i := 3) h rfl rfl dc_FO_branchEnergy_9 10 rfl ?_
  refine jl_iconst (v := iI 5) h (by decide) dc_FO_branchEnergy_10 11 rfl ?_
  refine jl_callV (As := [_, _, _]) (rest := [_]) h hr vs_FO_97 vi_ST_ifWeak vx_ST_ifWeak (ci := 1) rfl (by omega) (by exact hST) (fun l => c_ST_ifWeak l (by omega) hS hk ht 5) (by first | decide | omega) (by first | decide | omega) rfl rfl (Nat.le_of_ble_eq_true rfl) dc_FO_branchEnergy_11 (res := [_, _]) rfl 14 rfl ?_
  refine jl_iadd h dc_FO_branchEnergy_14 15 rfl ?_
  refine jl_aload_n (i := 0) h rfl rfl dc_FO_branchEnergy_15 16 rfl ?_
  refine jl_getf h nm_c_FO 2 wl_FO_11 (by omega) (by decide) (by exact rfl) (by rfl) dc_FO_branchEnergy_16 19 rfl ?_
  refine jl_iload_n (i := 2) h rfl rfl dc_FO_branchEnergy_19 20 rfl ?_
  refine jl_aald (t0 := 4) h (k) (by exact rfl) (by omega) (by exact rfl) (by rfl) (by rfl) (by exact hk) (by first | decide | assumption) (by exact if_pos hk) dc_FO_branchEnergy_20 21 rfl ?_
  refine jl_iload_n (i := 3) h rfl rfl dc_FO_branchEnergy_21 22 rfl ?_
  refine jl_iald (v := iI (pe k t)) h (t) (by exact rfl) (by omega) (by exact gw_row (gw_i_6 k hk)) (by exact ht) (by first | decide | assumption) (by exact hpe) dc_FO_branchEnergy_22 23 rfl ?_
  refine jl_iadd h dc_FO_branchEnergy_23 24 rfl ?_
  exact jl_zret h he rfl (by rw [iI_add, iI_add]; rfl) (rfl) dc_FO_branchEnergy_24
theorem c_RE1_mayBeUnpaired : jl_C l K sa yn_RE_mayBeUnpaired bc_RE_mayBeUnpaired 1 (some .boolean) 0 0 168 ad [.ref (ad 85)] (gw K ad I V L C G R) (some (.int 1)) (gw K ad I V L C G R) := by
  refine jl_enter (by decide) (Nat.le_of_ble_eq_true rfl) (fun x h he hr => ?_)
  show jl_J x 168 ad 0 0 (gw K ad I V L C G R) 0 [(0, .ref (ad 85))] []
  refine jl_aload_n (i := 0) h rfl rfl dc_RE_mayBeUnpaired_0 1 rfl ?_
  refine jl_getf h nm_c_RE 3 wl_RE_23 (by omega) (by decide) (by exact rfl) (by rfl) dc_RE_mayBeUnpaired_1 4 rfl ?_
  refine jl_ifnonnullN h dc_RE_mayBeUnpaired_4 7 rfl ?_
  refine jl_iconst (v := 1) h (by decide) dc_RE_mayBeUnpaired_7 8 rfl ?_
  refine jl_goto h 12 (by decide) dc_RE_mayBeUnpaired_8 ?_
  exact jl_zret h he rfl (rfl) (rfl) dc_RE_mayBeUnpaired_12
theorem c_RE1_afterPair : jl_C l K sa yn_RE_afterPair bc_RE_afterPair 1 (some (.object "FoldedStrand$Region")) 0 0 168 ad [.ref (ad 85)] (gw K ad I V L C G R) (some (.ref (ad 85))) (gw K ad I V L C G R) := by
  refine jl_enter (by decide) (Nat.le_of_ble_eq_true rfl) (fun x h he hr => ?_)
  show jl_J x 168 ad 0 0 (gw K ad I V L C G R) 0 [(0, .ref (ad 85))] []
  refine jl_aload_n (i := 0) h rfl rfl dc_RE_afterPair_0 1 rfl ?_
  refine jl_getf h nm_c_RE 3 wl_RE_23 (by omega) (by decide) (by exact rfl) (by rfl) dc_RE_afterPair_1 4 rfl ?_
  refine jl_ifnonnullN h dc_RE_afterPair_4 7 rfl ?_
  refine jl_aload_n (i := 0) h rfl rfl dc_RE_afterPair_7 8 rfl ?_
  refine jl_goto h 15 (by decide) dc_RE_afterPair_8 ?_
  exact jl_aret h he (rfl) (rfl) dc_RE_afterPair_15
theorem c_FO1_branchEnergy (hS : st_ok K ad (gw K ad I V L C G R) n b) {k t : Nat} (hk : k < 18) (ht : t < 18) (hpe : V (6 + k) t = iI (pe k t)) : jl_C l K sa yn_FO_branchEnergy bc_FO_branchEnergy 4 (some .int) 2 55 168 ad [.ref (ad 4), .ref (ad 85), .int (nI k), .int (nI t)] (gw K ad I V L C G R) (some (.int (iI (fo_br b 1 pe k t)))) (gw K ad I V L C G R) := by
  refine jl_enter (by decide) (Nat.le_of_ble_eq_true rfl) (fun x h he hr => ?_)
  obtain ⟨hST, hbases, hn, hb⟩ := id hS
  show jl_J x 168 ad 0 0 (gw K ad I V L C G R) 0 [(0, .ref (ad 4)), (1, .ref (ad 85)), (2, .int (nI k)), (3, .int (nI t))] []
  refine jl_aload_n (i := 1) h rfl rfl dc_FO_branchEnergy_0 1 rfl ?_
  refine jl_getf (v := .int (iI 4)) h nm_c_RE 1 wl_FO_94 (by omega) (by decide) (by exact rfl) (by exact rfl) dc_FO_branchEnergy_1 4 rfl ?_
  refine jl_aload_n (i := 0) h rfl rfl dc_FO_branchEnergy_4 5 rfl ?_
  refine jl_getf h nm_c_FO 7 wl_FO_22 (by omega) (by decide) (by exact rfl) (by rfl) dc_FO_branchEnergy_5 8 rfl ?_
  refine jl_iload_n (i := 2) h rfl rfl dc_FO_branchEnergy_8 9 rfl ?_
  refine jl_iload_n (i := 3) h rfl rfl dc_FO_branchEnergy_9 10 rfl ?_
  refine jl_iconst (v := iI 5) h (by decide) dc_FO_branchEnergy_10 11 rfl ?_
  refine jl_callV (As := [_, _, _]) (rest := [_]) h hr vs_FO_97 vi_ST_ifWeak vx_ST_ifWeak (ci := 1) rfl (by omega) (by exact hST) (fun l => c_ST_ifWeak l (by omega) hS hk ht 5) (by first | decide | omega) (by first | decide | omega) rfl rfl (Nat.le_of_ble_eq_true rfl) dc_FO_branchEnergy_11 (res := [_, _]) rfl 14 rfl ?_
  refine jl_iadd h dc_FO_branchEnergy_14 15 rfl ?_
  refine jl_aload_n (i := 0) h rfl rfl dc_FO_branchEnergy_15 16 rfl ?_
  refine jl_getf h nm_c_FO 2 wl_FO_11 (by omega) (by decide) (by exact rfl) (by rfl) dc_FO_branchEnergy_16 19 rfl ?_
  refine jl_iload_n (i := 2) h rfl rfl dc_FO_branchEnergy_19 20 rfl ?_
  refine jl_aald (t0 := 4) h (k) (by exact rfl) (by omega) (by exact rfl) (by rfl) (by rfl) (by exact hk) (by first | decide | assumption) (by exact if_pos hk) dc_FO_branchEnergy_20 21 rfl ?_
  refine jl_iload_n (i := 3) h rfl rfl dc_FO_branchEnergy_21 22 rfl ?_
  refine jl_iald (v := iI (pe k t)) h (t) (by exact rfl) (by omega) (by exact gw_row (gw_i_6 k hk)) (by exact ht) (by first | decide | assumption) (by exact hpe) dc_FO_branchEnergy_22 23 rfl ?_
  refine jl_iadd h dc_FO_branchEnergy_23 24 rfl ?_
  exact jl_zret h he rfl (by rw [iI_add, iI_add]; rfl) (rfl) dc_FO_branchEnergy_24
theorem c_RE2_mayBeUnpaired : jl_C l K sa yn_RE_mayBeUnpaired bc_RE_mayBeUnpaired 1 (some .boolean) 0 0 168 ad [.ref (ad 106)] (gw K ad I V L C G R) (some (.int 0)) (gw K ad I V L C G R) := by
  refine jl_enter (by decide) (Nat.le_of_ble_eq_true rfl) (fun x h he hr => ?_)
  show jl_J x 168 ad 0 0 (gw K ad I V L C G R) 0 [(0, .ref (ad 106))] []
  refine jl_aload_n (i := 0) h rfl rfl dc_RE_mayBeUnpaired_0 1 rfl ?_
  refine jl_getf h nm_c_RE 3 wl_RE_23 (by omega) (by decide) (by exact rfl) (by rfl) dc_RE_mayBeUnpaired_1 4 rfl ?_
  refine jl_ifnonnull h 11 (by decide) dc_RE_mayBeUnpaired_4 ?_
  refine jl_iconst (v := 0) h (by decide) dc_RE_mayBeUnpaired_11 12 rfl ?_
  exact jl_zret h he rfl (rfl) (rfl) dc_RE_mayBeUnpaired_12
theorem c_RE2_afterPair : jl_C l K sa yn_RE_afterPair bc_RE_afterPair 1 (some (.object "FoldedStrand$Region")) 0 0 168 ad [.ref (ad 106)] (gw K ad I V L C G R) (some (.ref (ad 85))) (gw K ad I V L C G R) := by
  refine jl_enter (by decide) (Nat.le_of_ble_eq_true rfl) (fun x h he hr => ?_)
  show jl_J x 168 ad 0 0 (gw K ad I V L C G R) 0 [(0, .ref (ad 106))] []
  refine jl_aload_n (i := 0) h rfl rfl dc_RE_afterPair_0 1 rfl ?_
  refine jl_getf h nm_c_RE 3 wl_RE_23 (by omega) (by decide) (by exact rfl) (by rfl) dc_RE_afterPair_1 4 rfl ?_
  refine jl_ifnonnull h 11 (by decide) dc_RE_afterPair_4 ?_
  refine jl_aload_n (i := 0) h rfl rfl dc_RE_afterPair_11 12 rfl ?_
  refine jl_getf h nm_c_RE 3 wl_RE_23 (by omega) (by decide) (by exact rfl) (by rfl) dc_RE_afterPair_12 15 rfl ?_
  exact jl_aret h he (rfl) (rfl) dc_RE_afterPair_15
theorem c_FO2_branchEnergy (hS : st_ok K ad (gw K ad I V L C G R) n b) {k t : Nat} (hk : k < 18) (ht : t < 18) (hpe : V (6 + k) t = iI (pe k t)) : jl_C l K sa yn_FO_branchEnergy bc_FO_branchEnergy 4 (some .int) 2 55 168 ad [.ref (ad 4), .ref (ad 106), .int (nI k), .int (nI t)] (gw K ad I V L C G R) (some (.int (iI (fo_br b 2 pe k t)))) (gw K ad I V L C G R) := by
  refine jl_enter (by decide) (Nat.le_of_ble_eq_true rfl) (fun x h he hr => ?_)
  obtain ⟨hST, hbases, hn, hb⟩ := id hS
  show jl_J x 168 ad 0 0 (gw K ad I V L C G R) 0 [(0, .ref (ad 4)), (1, .ref (ad 106)), (2, .int (nI k)), (3, .int (nI t))] []
  refine jl_aload_n (i := 1) h rfl rfl dc_FO_branchEnergy_0 1 rfl ?_
  refine jl_getf (v := .int (iI 4)) h nm_c_RE 1 wl_FO_94 (by omega) (by decide) (by exact rfl) (by exact rfl) dc_FO_branchEnergy_1 4 rfl ?_
  refine jl_aload_n (i := 0) h rfl rfl dc_FO_branchEnergy_4 5 rfl ?_
  refine jl_getf h nm_c_FO 7 wl_FO_22 (by omega) (by decide) (by exact rfl) (by rfl) dc_FO_branchEnergy_5 8 rfl ?_
  refine jl_iload_n (i := 2) h rfl rfl dc_FO_branchEnergy_8 9 rfl ?_
  refine jl_iload_n (i := 3) h rfl rfl dc_FO_branchEnergy_9 10 rfl ?_
  refine jl_iconst (v := iI 5) h (by decide) dc_FO_branchEnergy_10 11 rfl ?_
  refine jl_callV (As := [_, _, _]) (rest := [_]) h hr vs_FO_97 vi_ST_ifWeak vx_ST_ifWeak (ci := 1) rfl (by omega) (by exact hST) (fun l => c_ST_ifWeak l (by omega) hS hk ht 5) (by first | decide | omega) (by first | decide | omega) rfl rfl (Nat.le_of_ble_eq_true rfl) dc_FO_branchEnergy_11 (res := [_, _]) rfl 14 rfl ?_
  refine jl_iadd h dc_FO_branchEnergy_14 15 rfl ?_
  refine jl_aload_n (i := 0) h rfl rfl dc_FO_branchEnergy_15 16 rfl ?_
  refine jl_getf h nm_c_FO 2 wl_FO_11 (by omega) (by decide) (by exact rfl) (by rfl) dc_FO_branchEnergy_16 19 rfl ?_
  refine jl_iload_n (i := 2) h rfl rfl dc_FO_branchEnergy_19 20 rfl ?_
  refine jl_aald (t0 := 4) h (k) (by exact rfl) (by omega) (by exact rfl) (by rfl) (by rfl) (by exact hk) (by first | decide | assumption) (by exact if_pos hk) dc_FO_branchEnergy_20 21 rfl ?_
  refine jl_iload_n (i := 3) h rfl rfl dc_FO_branchEnergy_21 22 rfl ?_
  refine jl_iald (v := iI (pe k t)) h (t) (by exact rfl) (by omega) (by exact gw_row (gw_i_6 k hk)) (by exact ht) (by first | decide | assumption) (by exact hpe) dc_FO_branchEnergy_22 23 rfl ?_
  refine jl_iadd h dc_FO_branchEnergy_23 24 rfl ?_
  exact jl_zret h he rfl (by rw [iI_add, iI_add]; rfl) (rfl) dc_FO_branchEnergy_24
theorem c_RE3_mayBeUnpaired : jl_C l K sa yn_RE_mayBeUnpaired bc_RE_mayBeUnpaired 1 (some .boolean) 0 0 168 ad [.ref (ad 127)] (gw K ad I V L C G R) (some (.int 0)) (gw K ad I V L C G R) := by
  refine jl_enter (by decide) (Nat.le_of_ble_eq_true rfl) (fun x h he hr => ?_)
  show jl_J x 168 ad 0 0 (gw K ad I V L C G R) 0 [(0, .ref (ad 127))] []
  refine jl_aload_n (i := 0) h rfl rfl dc_RE_mayBeUnpaired_0 1 rfl ?_
  refine jl_getf h nm_c_RE 3 wl_RE_23 (by omega) (by decide) (by exact rfl) (by rfl) dc_RE_mayBeUnpaired_1 4 rfl ?_
  refine jl_ifnonnull h 11 (by decide) dc_RE_mayBeUnpaired_4 ?_
  refine jl_iconst (v := 0) h (by decide) dc_RE_mayBeUnpaired_11 12 rfl ?_
  exact jl_zret h he rfl (rfl) (rfl) dc_RE_mayBeUnpaired_12
theorem c_RE3_afterPair : jl_C l K sa yn_RE_afterPair bc_RE_afterPair 1 (some (.object "FoldedStrand$Region")) 0 0 168 ad [.ref (ad 127)] (gw K ad I V L C G R) (some (.ref (ad 106))) (gw K ad I V L C G R) := by
  refine jl_enter (by decide) (Nat.le_of_ble_eq_true rfl) (fun x h he hr => ?_)
  show jl_J x 168 ad 0 0 (gw K ad I V L C G R) 0 [(0, .ref (ad 127))] []
  refine jl_aload_n (i := 0) h rfl rfl dc_RE_afterPair_0 1 rfl ?_
  refine jl_getf h nm_c_RE 3 wl_RE_23 (by omega) (by decide) (by exact rfl) (by rfl) dc_RE_afterPair_1 4 rfl ?_
  refine jl_ifnonnull h 11 (by decide) dc_RE_afterPair_4 ?_
  refine jl_aload_n (i := 0) h rfl rfl dc_RE_afterPair_11 12 rfl ?_
  refine jl_getf h nm_c_RE 3 wl_RE_23 (by omega) (by decide) (by exact rfl) (by rfl) dc_RE_afterPair_12 15 rfl ?_
  exact jl_aret h he (rfl) (rfl) dc_RE_afterPair_15
theorem c_FO3_branchEnergy (hS : st_ok K ad (gw K ad I V L C G R) n b) {k t : Nat} (hk : k < 18) (ht : t < 18) (hpe : V (6 + k) t = iI (pe k t)) : jl_C l K sa yn_FO_branchEnergy bc_FO_branchEnergy 4 (some .int) 2 55 168 ad [.ref (ad 4), .ref (ad 127), .int (nI k), .int (nI t)] (gw K ad I V L C G R) (some (.int (iI (fo_br b 3 pe k t)))) (gw K ad I V L C G R) := by
  refine jl_enter (by decide) (Nat.le_of_ble_eq_true rfl) (fun x h he hr => ?_)
  obtain ⟨hST, hbases, hn, hb⟩ := id hS
  show jl_J x 168 ad 0 0 (gw K ad I V L C G R) 0 [(0, .ref (ad 4)), (1, .ref (ad 127)), (2, .int (nI k)), (3, .int (nI t))] []
  refine jl_aload_n (i := 1) h rfl rfl dc_FO_branchEnergy_0 1 rfl ?_
  refine jl_getf (v := .int (iI 4)) h nm_c_RE 1 wl_FO_94 (by omega) (by decide) (by exact rfl) (by exact rfl) dc_FO_branchEnergy_1 4 rfl ?_
  refine jl_aload_n (i := 0) h rfl rfl dc_FO_branchEnergy_4 5 rfl ?_
  refine jl_getf h nm_c_FO 7 wl_FO_22 (by omega) (by decide) (by exact rfl) (by rfl) dc_FO_branchEnergy_5 8 rfl ?_
  refine jl_iload_n (i := 2) h rfl rfl dc_FO_branchEnergy_8 9 rfl ?_
  refine jl_iload_n (i := 3) h rfl rfl dc_FO_branchEnergy_9 10 rfl ?_
  refine jl_iconst (v := iI 5) h (by decide) dc_FO_branchEnergy_10 11 rfl ?_
  refine jl_callV (As := [_, _, _]) (rest := [_]) h hr vs_FO_97 vi_ST_ifWeak vx_ST_ifWeak (ci := 1) rfl (by omega) (by exact hST) (fun l => c_ST_ifWeak l (by omega) hS hk ht 5) (by first | decide | omega) (by first | decide | omega) rfl rfl (Nat.le_of_ble_eq_true rfl) dc_FO_branchEnergy_11 (res := [_, _]) rfl 14 rfl ?_
  refine jl_iadd h dc_FO_branchEnergy_14 15 rfl ?_
  refine jl_aload_n (i := 0) h rfl rfl dc_FO_branchEnergy_15 16 rfl ?_
  refine jl_getf h nm_c_FO 2 wl_FO_11 (by omega) (by decide) (by exact rfl) (by rfl) dc_FO_branchEnergy_16 19 rfl ?_
  refine jl_iload_n (i := 2) h rfl rfl dc_FO_branchEnergy_19 20 rfl ?_
  refine jl_aald (t0 := 4) h (k) (by exact rfl) (by omega) (by exact rfl) (by rfl) (by rfl) (by exact hk) (by first | decide | assumption) (by exact if_pos hk) dc_FO_branchEnergy_20 21 rfl ?_
  refine jl_iload_n (i := 3) h rfl rfl dc_FO_branchEnergy_21 22 rfl ?_
  refine jl_iald (v := iI (pe k t)) h (t) (by exact rfl) (by omega) (by exact gw_row (gw_i_6 k hk)) (by exact ht) (by first | decide | assumption) (by exact hpe) dc_FO_branchEnergy_22 23 rfl ?_
  refine jl_iadd h dc_FO_branchEnergy_23 24 rfl ?_
  exact jl_zret h he rfl (by rw [iI_add, iI_add]; rfl) (rfl) dc_FO_branchEnergy_24
theorem c_FO_mostPairs (hS : st_ok K ad (gw K ad I V L C G R) n b) : jl_C l K sa yn_FO_mostPairs bc_FO_mostPairs 1 (some .int) 1 25 168 ad [.ref (ad 4)] (gw K ad I V L C G R) (some (.int (V 45 n))) (gw K ad I V L C G R) := by
  refine jl_enter (by decide) (Nat.le_of_ble_eq_true rfl) (fun x h he hr => ?_)
  obtain ⟨hST, hbases, hn, hb⟩ := id hS
  show jl_J x 168 ad 0 0 (gw K ad I V L C G R) 0 [(0, .ref (ad 4))] []
  refine jl_aload_n (i := 0) h rfl rfl dc_FO_mostPairs_0 1 rfl ?_
  refine jl_getf h nm_c_FO 6 wl_FO_19 (by omega) (by decide) (by exact rfl) (by rfl) dc_FO_mostPairs_1 4 rfl ?_
  refine jl_iconst (v := nI 0) h (by decide) dc_FO_mostPairs_4 5 rfl ?_
  refine jl_aald (t0 := 4) h (0) (by exact rfl) (by omega) (by exact rfl) (by rfl) (by rfl) (by exact by decide) (by first | decide | assumption) (by exact if_pos (by decide)) dc_FO_mostPairs_5 6 rfl ?_
  refine jl_aload_n (i := 0) h rfl rfl dc_FO_mostPairs_6 7 rfl ?_
  refine jl_getf h nm_c_FO 7 wl_FO_22 (by omega) (by decide) (by exact rfl) (by rfl) dc_FO_mostPairs_7 10 rfl ?_
  refine jl_callV (As := []) (rest := [_]) h hr vs_FO_50 vi_ST_size vx_ST_size (ci := 1) rfl (by omega) (by exact hST) (fun l => c_ST_size l (by omega) hS) (by first | decide | omega) (by first | decide | omega) rfl rfl (Nat.le_of_ble_eq_true rfl) dc_FO_mostPairs_10 (res := [_, _]) rfl 13 rfl ?_
  refine jl_iald (v := V 45 n) h (n) (by exact rfl) (by omega) (by exact gw_row (gw_i_45 0 (by decide))) (by exact by omega) (by first | decide | assumption) (by exact rfl) dc_FO_mostPairs_13 14 rfl ?_
  exact jl_zret h he rfl (rfl) (rfl) dc_FO_mostPairs_14
theorem c_FO_structureCount (hS : st_ok K ad (gw K ad I V L C G R) n b) : jl_C l K sa yn_FO_structureCount bc_FO_structureCount 1 (some .int) 1 25 168 ad [.ref (ad 4)] (gw K ad I V L C G R) (some (.int (V 25 n))) (gw K ad I V L C G R) := by
  refine jl_enter (by decide) (Nat.le_of_ble_eq_true rfl) (fun x h he hr => ?_)
  obtain ⟨hST, hbases, hn, hb⟩ := id hS
  show jl_J x 168 ad 0 0 (gw K ad I V L C G R) 0 [(0, .ref (ad 4))] []
  refine jl_aload_n (i := 0) h rfl rfl dc_FO_structureCount_0 1 rfl ?_
  refine jl_getf h nm_c_FO 5 wl_FO_16 (by omega) (by decide) (by exact rfl) (by rfl) dc_FO_structureCount_1 4 rfl ?_
  refine jl_iconst (v := nI 0) h (by decide) dc_FO_structureCount_4 5 rfl ?_
  refine jl_aald (t0 := 4) h (0) (by exact rfl) (by omega) (by exact rfl) (by rfl) (by rfl) (by exact by decide) (by first | decide | assumption) (by exact if_pos (by decide)) dc_FO_structureCount_5 6 rfl ?_
  refine jl_aload_n (i := 0) h rfl rfl dc_FO_structureCount_6 7 rfl ?_
  refine jl_getf h nm_c_FO 7 wl_FO_22 (by omega) (by decide) (by exact rfl) (by rfl) dc_FO_structureCount_7 10 rfl ?_
  refine jl_callV (As := []) (rest := [_]) h hr vs_FO_50 vi_ST_size vx_ST_size (ci := 1) rfl (by omega) (by exact hST) (fun l => c_ST_size l (by omega) hS) (by first | decide | omega) (by first | decide | omega) rfl rfl (Nat.le_of_ble_eq_true rfl) dc_FO_structureCount_10 (res := [_, _]) rfl 13 rfl ?_
  refine jl_iald (v := V 25 n) h (n) (by exact rfl) (by omega) (by exact gw_row (gw_i_25 0 (by decide))) (by exact by omega) (by first | decide | assumption) (by exact rfl) dc_FO_structureCount_13 14 rfl ?_
  exact jl_zret h he rfl (rfl) (rfl) dc_FO_structureCount_14
theorem c_FO_leastEnergy (hS : st_ok K ad (gw K ad I V L C G R) n b) : jl_C l K sa yn_FO_leastEnergy bc_FO_leastEnergy 1 (some .int) 1 25 168 ad [.ref (ad 4)] (gw K ad I V L C G R) (some (.int (V 66 n))) (gw K ad I V L C G R) := by
  refine jl_enter (by decide) (Nat.le_of_ble_eq_true rfl) (fun x h he hr => ?_)
  obtain ⟨hST, hbases, hn, hb⟩ := id hS
  show jl_J x 168 ad 0 0 (gw K ad I V L C G R) 0 [(0, .ref (ad 4))] []
  refine jl_aload_n (i := 0) h rfl rfl dc_FO_leastEnergy_0 1 rfl ?_
  refine jl_getf h nm_c_FO 0 wl_FO_35 (by omega) (by decide) (by exact rfl) (by rfl) dc_FO_leastEnergy_1 4 rfl ?_
  refine jl_getf h nm_c_RE 2 wl_FO_54 (by omega) (by decide) (by exact rfl) (by rfl) dc_FO_leastEnergy_4 7 rfl ?_
  refine jl_iconst (v := nI 0) h (by decide) dc_FO_leastEnergy_7 8 rfl ?_
  refine jl_aald (t0 := 4) h (0) (by exact rfl) (by omega) (by exact rfl) (by rfl) (by rfl) (by exact by decide) (by first | decide | assumption) (by exact if_pos (by decide)) dc_FO_leastEnergy_8 9 rfl ?_
  refine jl_aload_n (i := 0) h rfl rfl dc_FO_leastEnergy_9 10 rfl ?_
  refine jl_getf h nm_c_FO 7 wl_FO_22 (by omega) (by decide) (by exact rfl) (by rfl) dc_FO_leastEnergy_10 13 rfl ?_
  refine jl_callV (As := []) (rest := [_]) h hr vs_FO_50 vi_ST_size vx_ST_size (ci := 1) rfl (by omega) (by exact hST) (fun l => c_ST_size l (by omega) hS) (by first | decide | omega) (by first | decide | omega) rfl rfl (Nat.le_of_ble_eq_true rfl) dc_FO_leastEnergy_13 (res := [_, _]) rfl 16 rfl ?_
  refine jl_iald (v := V 66 n) h (n) (by exact rfl) (by omega) (by exact gw_row (gw_i_66 0 (by decide))) (by exact by omega) (by first | decide | assumption) (by exact rfl) dc_FO_leastEnergy_16 17 rfl ?_
  exact jl_zret h he rfl (rfl) (rfl) dc_FO_leastEnergy_17
theorem c_FO_leastWithMany (hS : st_ok K ad (gw K ad I V L C G R) n b) {i j : Nat} (hi : i < 18) (hj : j < 18) (hrg : V (129 + (i + 1)) j = iI (rg 3 (i + 1) j)) : jl_C l K sa yn_FO_leastWithMany bc_FO_leastWithMany 3 (some .int) 3 90 168 ad [.ref (ad 4), .int (nI i), .int (nI j)] (gw K ad I V L C G R) (some (.int (iI (fo_many b rg i j)))) (gw K ad I V L C G R) := by
  refine jl_enter (by decide) (Nat.le_of_ble_eq_true rfl) (fun x h he hr => ?_)
  obtain ⟨hST, hbases, hn, hb⟩ := id hS
  show jl_J x 168 ad 0 0 (gw K ad I V L C G R) 0 [(0, .ref (ad 4)), (1, .int (nI i)), (2, .int (nI j))] []
  refine jl_aload_n (i := 0) h rfl rfl dc_FO_leastWithMany_0 1 rfl ?_
  refine jl_getf h nm_c_FO 8 wl_FO_26 (by omega) (by decide) (by exact rfl) (by rfl) dc_FO_leastWithMany_1 4 rfl ?_
  refine jl_iload_n (i := 1) h rfl rfl dc_FO_leastWithMany_4 5 rfl ?_
  refine jl_iload_n (i := 2) h rfl rfl dc_FO_leastWithMany_5 6 rfl ?_
  refine jl_callV (As := [_, _]) (rest := []) h hr vs_FO_111 vi_LO_multiClosing vx_LO_multiClosing (ci := 2) rfl (by omega) (by exact rfl) (fun l => c_LO_multiClosing l (by omega) hS rfl hi hj) (by first | decide | omega) (by first | decide | omega) rfl rfl (Nat.le_of_ble_eq_true rfl) dc_FO_leastWithMany_6 (res := [_]) rfl 9 rfl ?_
  refine jl_aload_n (i := 0) h rfl rfl dc_FO_leastWithMany_9 10 rfl ?_
  refine jl_getf h nm_c_FO 1 wl_FO_47 (by omega) (by decide) (by exact rfl) (by rfl) dc_FO_leastWithMany_10 13 rfl ?_
  refine jl_getf h nm_c_RE 2 wl_FO_54 (by omega) (by decide) (by exact rfl) (by rfl) dc_FO_leastWithMany_13 16 rfl ?_
  refine jl_iload_n (i := 1) h rfl rfl dc_FO_leastWithMany_16 17 rfl ?_
  refine jl_iconst (v := 1) h (by decide) dc_FO_leastWithMany_17 18 rfl ?_
  refine jl_iadd h dc_FO_leastWithMany_18 19 rfl ?_
  rw [show nI i + 1 = nI (i + 1) by exact nI_1 i]
  refine jl_aald (t0 := 4) h (i + 1) (by exact rfl) (by omega) (by exact rfl) (by rfl) (by rfl) (by exact by omega) (by first | decide | assumption) (by exact if_pos (by omega)) dc_FO_leastWithMany_19 20 rfl ?_
  refine jl_iload_n (i := 2) h rfl rfl dc_FO_leastWithMany_20 21 rfl ?_
  refine jl_iald (v := iI (rg 3 (i + 1) j)) h (j) (by exact rfl) (by omega) (by exact gw_row (gw_i_129 (i + 1) (by omega))) (by exact by omega) (by first | decide | assumption) (by exact hrg) dc_FO_leastWithMany_21 22 rfl ?_
  refine jl_iadd h dc_FO_leastWithMany_22 23 rfl ?_
  exact jl_zret h he rfl (by rw [iI_add]; rfl) (rfl) dc_FO_leastWithMany_23
end FO

