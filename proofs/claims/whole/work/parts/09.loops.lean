/-! FoldedStrand$Loops: the energies, and contracts. -/
abbrev lp_wk (b : Nat → Nat) (i j : Nat) (m : Int) : Int := if 2 ≤ en_kd (b i) (b j) then m else 0
def lp_hpT : List Int := [54, 56, 57, 54, 60, 55]
def lp_hp (b : Nat → Nat) (i j : Nat) : Int := if en_six b i j = true then 26 else lp_hpT.getD (j - i - 4) 64 + lp_wk b i j 5
def lp_stT : List Int := [-24, -33, -21, -14, -21, -21, -33, -34, -25, -15, -22, -24, -21, -25, 13, -5, -14, -13, -14, -15, -5, 3, -6, -10, -21, -22, -14, -6, -11, -9, -21, -24, -13, -10, -9, -13]
def lp_stk (x y : Int) : Int := lp_stT.getD (x.toNat * 6 + y.toNat) 0
def lp_bul (u : Nat) (s : Int) : Int := if u = 0 then s else if u = 1 then 38 + s else if u = 2 then 28 else if u = 3 then 32 else 20 + 4 * u
def lp_inT : List Int := [5, 16, 11, 20]
def lp_dif (x y : Nat) : Nat := (x - y) + (y - x)
def lp_int (x y : Nat) : Int := lp_inT.getD (x + y - 2) (15 + ((x + y : Nat) : Int)) + (if 6 * lp_dif x y < 30 then ((6 * lp_dif x y : Nat) : Int) else 30)
def lp_w1 (b : Nat → Nat) (i j k l : Nat) : Int := if k - i - 1 = 0 ∨ j - l - 1 = 0 then lp_bul (k - i - 1 + (j - l - 1)) (lp_stk (en_kd (b i) (b j)) (en_kd (b l) (b k))) else lp_int (k - i - 1) (j - l - 1) + lp_wk b i j 7 + lp_wk b k l 7
theorem en_kd_sym (a c : Nat) (ha : a < 4) (hc : c < 4) (h : 0 ≤ en_kd a c) : 0 ≤ en_kd c a := by
  have : ∀ a, a < 4 → ∀ c, c < 4 → 0 ≤ en_kd a c → 0 ≤ en_kd c a := by decide +kernel
  exact this a ha c hc h
theorem iI_sub (a b : Int) : iI a - iI b = iI (a - b) := (Int32.ofInt_sub a b).symm
theorem iI_mul (a b : Int) : iI a * iI b = iI (a * b) := (Int32.ofInt_mul a b).symm
theorem lp_h3 : ∀ k, k < 6 → nm_s3.getD k 0 = iI (lp_hpT.getD k 64) := by decide +kernel
theorem lp_h4 : ∀ p : Nat, p < 6 → ∀ q : Nat, q < 6 → nm_s4.getD (p * 6 + q) 0 = iI (lp_stk p q) := by decide +kernel
theorem lp_h5 (k : Nat) (hk : k < 4) (d : Int) : nm_s5.getD k 0 = iI (lp_inT.getD k d) := by
  match k, hk with
  | 0, _ => rfl
  | 1, _ => rfl
  | 2, _ => rfl
  | 3, _ => rfl
def lo_ok (ad : Nat → Nat) (E : Nat → va_E) : Prop := E 3 = .inr (2, [.ref (ad 1)])
abbrev bc_LO_hairpin : ByteArray := prog_3_method_2_code
abbrev yn_LO_hairpin : MethodName := ⟨"FoldedStrand$Loops", "hairpin", "(II)I"⟩
theorem wl_LO_7 : Cond.fieldLink "FoldedStrand$Loops" 7 "FoldedStrand$Loops" "strand" "LFoldedStrand$Strand;" ∈ jl_T := jl_T_of 39 (by decide +kernel) (by decide +kernel)
theorem wl_LO_13 : Cond.fieldLink "FoldedStrand$Loops" 13 "FoldedStrand$Loops" "FIRM_HAIRPIN" "[C" ∈ jl_T := jl_T_of 245 (by decide +kernel) (by decide +kernel)
theorem vs_LO_17 : jl_v "FoldedStrand$Loops" 17 yn_ST_spells bc_ST_spells 5 (some .boolean) 3 := ⟨jl_T_of 250 (by decide +kernel) (by decide +kernel), jl_T_of 2 (by decide +kernel) (by decide +kernel), jl_T_of 247 (by decide +kernel) (by decide +kernel), by decide +kernel, by decide +kernel, by decide +kernel⟩
theorem vi_ST_spells : Cond.instanceMethod yn_ST_spells ∈ jl_T := jl_T_of 248 (by decide +kernel) (by decide +kernel)
theorem vx_ST_spells : Cond.selects "FoldedStrand$Strand" yn_ST_spells yn_ST_spells ∈ jl_T := jl_T_of 249 (by decide +kernel) (by decide +kernel)
theorem wl_LO_23 : Cond.fieldLink "FoldedStrand$Loops" 23 "FoldedStrand$Loops" "HAIRPINS" "[I" ∈ jl_T := jl_T_of 251 (by decide +kernel) (by decide +kernel)
theorem vs_LO_27 : jl_v "FoldedStrand$Loops" 27 yn_ST_ifWeak bc_ST_ifWeak 4 (some .int) 3 := ⟨jl_T_of 256 (by decide +kernel) (by decide +kernel), jl_T_of 2 (by decide +kernel) (by decide +kernel), jl_T_of 253 (by decide +kernel) (by decide +kernel), by decide +kernel, by decide +kernel, by decide +kernel⟩
theorem vi_ST_ifWeak : Cond.instanceMethod yn_ST_ifWeak ∈ jl_T := jl_T_of 254 (by decide +kernel) (by decide +kernel)
theorem vx_ST_ifWeak : Cond.selects "FoldedStrand$Strand" yn_ST_ifWeak yn_ST_ifWeak ∈ jl_T := jl_T_of 255 (by decide +kernel) (by decide +kernel)
theorem dc_LO_hairpin_0 : decode bc_LO_hairpin 0 = .ok (.aload_n 0, 1) := by decide +kernel
theorem dc_LO_hairpin_1 : decode bc_LO_hairpin 1 = .ok (.getfield 7, 3) := by decide +kernel
theorem dc_LO_hairpin_4 : decode bc_LO_hairpin 4 = .ok (.iload_n 1, 1) := by decide +kernel
theorem dc_LO_hairpin_5 : decode bc_LO_hairpin 5 = .ok (.iload_n 2, 1) := by decide +kernel
theorem dc_LO_hairpin_6 : decode bc_LO_hairpin 6 = .ok (.getstatic 13, 3) := by decide +kernel
theorem dc_LO_hairpin_9 : decode bc_LO_hairpin 9 = .ok (.invokevirtual 17, 3) := by decide +kernel
theorem dc_LO_hairpin_12 : decode bc_LO_hairpin 12 = .ok (.ifCond .eq 6, 3) := by decide +kernel
theorem dc_LO_hairpin_15 : decode bc_LO_hairpin 15 = .ok (.bipush 26, 2) := by decide +kernel
theorem dc_LO_hairpin_17 : decode bc_LO_hairpin 17 = .ok (.ireturn, 1) := by decide +kernel
theorem dc_LO_hairpin_18 : decode bc_LO_hairpin 18 = .ok (.iload_n 2, 1) := by decide +kernel
theorem dc_LO_hairpin_19 : decode bc_LO_hairpin 19 = .ok (.iload_n 1, 1) := by decide +kernel
theorem dc_LO_hairpin_20 : decode bc_LO_hairpin 20 = .ok (.isub, 1) := by decide +kernel
theorem dc_LO_hairpin_21 : decode bc_LO_hairpin 21 = .ok (.iconst 1, 1) := by decide +kernel
theorem dc_LO_hairpin_22 : decode bc_LO_hairpin 22 = .ok (.isub, 1) := by decide +kernel
theorem dc_LO_hairpin_23 : decode bc_LO_hairpin 23 = .ok (.iconst 3, 1) := by decide +kernel
theorem dc_LO_hairpin_24 : decode bc_LO_hairpin 24 = .ok (.isub, 1) := by decide +kernel
theorem dc_LO_hairpin_25 : decode bc_LO_hairpin 25 = .ok (.istore_n 3, 1) := by decide +kernel
theorem dc_LO_hairpin_26 : decode bc_LO_hairpin 26 = .ok (.iload_n 3, 1) := by decide +kernel
theorem dc_LO_hairpin_27 : decode bc_LO_hairpin 27 = .ok (.ifCond .lt 19, 3) := by decide +kernel
theorem dc_LO_hairpin_30 : decode bc_LO_hairpin 30 = .ok (.iload_n 3, 1) := by decide +kernel
theorem dc_LO_hairpin_31 : decode bc_LO_hairpin 31 = .ok (.getstatic 23, 3) := by decide +kernel
theorem dc_LO_hairpin_34 : decode bc_LO_hairpin 34 = .ok (.arraylength, 1) := by decide +kernel
theorem dc_LO_hairpin_35 : decode bc_LO_hairpin 35 = .ok (.if_icmp .ge 11, 3) := by decide +kernel
theorem dc_LO_hairpin_38 : decode bc_LO_hairpin 38 = .ok (.getstatic 23, 3) := by decide +kernel
theorem dc_LO_hairpin_41 : decode bc_LO_hairpin 41 = .ok (.iload_n 3, 1) := by decide +kernel
theorem dc_LO_hairpin_42 : decode bc_LO_hairpin 42 = .ok (.iaload, 1) := by decide +kernel
theorem dc_LO_hairpin_43 : decode bc_LO_hairpin 43 = .ok (.goto 5, 3) := by decide +kernel
theorem dc_LO_hairpin_46 : decode bc_LO_hairpin 46 = .ok (.bipush 64, 2) := by decide +kernel
theorem dc_LO_hairpin_48 : decode bc_LO_hairpin 48 = .ok (.istore 4, 2) := by decide +kernel
theorem dc_LO_hairpin_50 : decode bc_LO_hairpin 50 = .ok (.iload 4, 2) := by decide +kernel
theorem dc_LO_hairpin_52 : decode bc_LO_hairpin 52 = .ok (.aload_n 0, 1) := by decide +kernel
theorem dc_LO_hairpin_53 : decode bc_LO_hairpin 53 = .ok (.getfield 7, 3) := by decide +kernel
theorem dc_LO_hairpin_56 : decode bc_LO_hairpin 56 = .ok (.iload_n 1, 1) := by decide +kernel
theorem dc_LO_hairpin_57 : decode bc_LO_hairpin 57 = .ok (.iload_n 2, 1) := by decide +kernel
theorem dc_LO_hairpin_58 : decode bc_LO_hairpin 58 = .ok (.iconst 5, 1) := by decide +kernel
theorem dc_LO_hairpin_59 : decode bc_LO_hairpin 59 = .ok (.invokevirtual 27, 3) := by decide +kernel
theorem dc_LO_hairpin_62 : decode bc_LO_hairpin 62 = .ok (.iadd, 1) := by decide +kernel
theorem dc_LO_hairpin_63 : decode bc_LO_hairpin 63 = .ok (.ireturn, 1) := by decide +kernel
abbrev bc_LO_multiClosing : ByteArray := prog_3_method_4_code
abbrev yn_LO_multiClosing : MethodName := ⟨"FoldedStrand$Loops", "multiClosing", "(II)I"⟩
theorem dc_LO_multiClosing_0 : decode bc_LO_multiClosing 0 = .ok (.bipush 38, 2) := by decide +kernel
theorem dc_LO_multiClosing_2 : decode bc_LO_multiClosing 2 = .ok (.aload_n 0, 1) := by decide +kernel
theorem dc_LO_multiClosing_3 : decode bc_LO_multiClosing 3 = .ok (.getfield 7, 3) := by decide +kernel
theorem dc_LO_multiClosing_6 : decode bc_LO_multiClosing 6 = .ok (.iload_n 1, 1) := by decide +kernel
theorem dc_LO_multiClosing_7 : decode bc_LO_multiClosing 7 = .ok (.iload_n 2, 1) := by decide +kernel
theorem dc_LO_multiClosing_8 : decode bc_LO_multiClosing 8 = .ok (.iconst 5, 1) := by decide +kernel
theorem dc_LO_multiClosing_9 : decode bc_LO_multiClosing 9 = .ok (.invokevirtual 27, 3) := by decide +kernel
theorem dc_LO_multiClosing_12 : decode bc_LO_multiClosing 12 = .ok (.iadd, 1) := by decide +kernel
theorem dc_LO_multiClosing_13 : decode bc_LO_multiClosing 13 = .ok (.ireturn, 1) := by decide +kernel
abbrev bc_LO_multiBranch : ByteArray := prog_3_method_5_code
abbrev yn_LO_multiBranch : MethodName := ⟨"FoldedStrand$Loops", "multiBranch", "(II)I"⟩
theorem dc_LO_multiBranch_0 : decode bc_LO_multiBranch 0 = .ok (.iconst 4, 1) := by decide +kernel
theorem dc_LO_multiBranch_1 : decode bc_LO_multiBranch 1 = .ok (.aload_n 0, 1) := by decide +kernel
theorem dc_LO_multiBranch_2 : decode bc_LO_multiBranch 2 = .ok (.getfield 7, 3) := by decide +kernel
theorem dc_LO_multiBranch_5 : decode bc_LO_multiBranch 5 = .ok (.iload_n 1, 1) := by decide +kernel
theorem dc_LO_multiBranch_6 : decode bc_LO_multiBranch 6 = .ok (.iload_n 2, 1) := by decide +kernel
theorem dc_LO_multiBranch_7 : decode bc_LO_multiBranch 7 = .ok (.iconst 5, 1) := by decide +kernel
theorem dc_LO_multiBranch_8 : decode bc_LO_multiBranch 8 = .ok (.invokevirtual 27, 3) := by decide +kernel
theorem dc_LO_multiBranch_11 : decode bc_LO_multiBranch 11 = .ok (.iadd, 1) := by decide +kernel
theorem dc_LO_multiBranch_12 : decode bc_LO_multiBranch 12 = .ok (.ireturn, 1) := by decide +kernel
abbrev bc_LO_stack : ByteArray := prog_3_method_6_code
abbrev yn_LO_stack : MethodName := ⟨"FoldedStrand$Loops", "stack", "(IIII)I"⟩
theorem wl_LO_42 : Cond.fieldLink "FoldedStrand$Loops" 42 "FoldedStrand$Loops" "STACKS" "[I" ∈ jl_T := jl_T_of 276 (by decide +kernel) (by decide +kernel)
theorem vs_LO_45 : jl_v "FoldedStrand$Loops" 45 yn_ST_kind bc_ST_kind 3 (some .int) 2 := ⟨jl_T_of 234 (by decide +kernel) (by decide +kernel), jl_T_of 2 (by decide +kernel) (by decide +kernel), jl_T_of 278 (by decide +kernel) (by decide +kernel), by decide +kernel, by decide +kernel, by decide +kernel⟩
theorem dc_LO_stack_0 : decode bc_LO_stack 0 = .ok (.getstatic 42, 3) := by decide +kernel
theorem dc_LO_stack_3 : decode bc_LO_stack 3 = .ok (.aload_n 0, 1) := by decide +kernel
theorem dc_LO_stack_4 : decode bc_LO_stack 4 = .ok (.getfield 7, 3) := by decide +kernel
theorem dc_LO_stack_7 : decode bc_LO_stack 7 = .ok (.iload_n 1, 1) := by decide +kernel
theorem dc_LO_stack_8 : decode bc_LO_stack 8 = .ok (.iload_n 2, 1) := by decide +kernel
theorem dc_LO_stack_9 : decode bc_LO_stack 9 = .ok (.invokevirtual 45, 3) := by decide +kernel
theorem dc_LO_stack_12 : decode bc_LO_stack 12 = .ok (.bipush 6, 2) := by decide +kernel
theorem dc_LO_stack_14 : decode bc_LO_stack 14 = .ok (.imul, 1) := by decide +kernel
theorem dc_LO_stack_15 : decode bc_LO_stack 15 = .ok (.aload_n 0, 1) := by decide +kernel
theorem dc_LO_stack_16 : decode bc_LO_stack 16 = .ok (.getfield 7, 3) := by decide +kernel
theorem dc_LO_stack_19 : decode bc_LO_stack 19 = .ok (.iload 4, 2) := by decide +kernel
theorem dc_LO_stack_21 : decode bc_LO_stack 21 = .ok (.iload_n 3, 1) := by decide +kernel
theorem dc_LO_stack_22 : decode bc_LO_stack 22 = .ok (.invokevirtual 45, 3) := by decide +kernel
theorem dc_LO_stack_25 : decode bc_LO_stack 25 = .ok (.iadd, 1) := by decide +kernel
theorem dc_LO_stack_26 : decode bc_LO_stack 26 = .ok (.iaload, 1) := by decide +kernel
theorem dc_LO_stack_27 : decode bc_LO_stack 27 = .ok (.ireturn, 1) := by decide +kernel
abbrev bc_LO_stackOrBulge : ByteArray := prog_3_method_7_code
abbrev yn_LO_stackOrBulge : MethodName := ⟨"FoldedStrand$Loops", "stackOrBulge", "(II)I"⟩
theorem dc_LO_stackOrBulge_0 : decode bc_LO_stackOrBulge 0 = .ok (.iload_n 0, 1) := by decide +kernel
theorem dc_LO_stackOrBulge_1 : decode bc_LO_stackOrBulge 1 = .ok (.tableswitch 44 0 3 #[31, 33, 38, 41], 31) := by decide +kernel
theorem dc_LO_stackOrBulge_32 : decode bc_LO_stackOrBulge 32 = .ok (.iload_n 1, 1) := by decide +kernel
theorem dc_LO_stackOrBulge_33 : decode bc_LO_stackOrBulge 33 = .ok (.ireturn, 1) := by decide +kernel
theorem dc_LO_stackOrBulge_34 : decode bc_LO_stackOrBulge 34 = .ok (.bipush 38, 2) := by decide +kernel
theorem dc_LO_stackOrBulge_36 : decode bc_LO_stackOrBulge 36 = .ok (.iload_n 1, 1) := by decide +kernel
theorem dc_LO_stackOrBulge_37 : decode bc_LO_stackOrBulge 37 = .ok (.iadd, 1) := by decide +kernel
theorem dc_LO_stackOrBulge_38 : decode bc_LO_stackOrBulge 38 = .ok (.ireturn, 1) := by decide +kernel
theorem dc_LO_stackOrBulge_39 : decode bc_LO_stackOrBulge 39 = .ok (.bipush 28, 2) := by decide +kernel
theorem dc_LO_stackOrBulge_41 : decode bc_LO_stackOrBulge 41 = .ok (.ireturn, 1) := by decide +kernel
theorem dc_LO_stackOrBulge_42 : decode bc_LO_stackOrBulge 42 = .ok (.bipush 32, 2) := by decide +kernel
theorem dc_LO_stackOrBulge_44 : decode bc_LO_stackOrBulge 44 = .ok (.ireturn, 1) := by decide +kernel
theorem dc_LO_stackOrBulge_45 : decode bc_LO_stackOrBulge 45 = .ok (.bipush 20, 2) := by decide +kernel
theorem dc_LO_stackOrBulge_47 : decode bc_LO_stackOrBulge 47 = .ok (.iconst 4, 1) := by decide +kernel
theorem dc_LO_stackOrBulge_48 : decode bc_LO_stackOrBulge 48 = .ok (.iload_n 0, 1) := by decide +kernel
theorem dc_LO_stackOrBulge_49 : decode bc_LO_stackOrBulge 49 = .ok (.imul, 1) := by decide +kernel
theorem dc_LO_stackOrBulge_50 : decode bc_LO_stackOrBulge 50 = .ok (.iadd, 1) := by decide +kernel
theorem dc_LO_stackOrBulge_51 : decode bc_LO_stackOrBulge 51 = .ok (.ireturn, 1) := by decide +kernel
abbrev bc_LO_interior : ByteArray := prog_3_method_8_code
abbrev yn_LO_interior : MethodName := ⟨"FoldedStrand$Loops", "interior", "(II)I"⟩
theorem wl_LO_48 : Cond.fieldLink "FoldedStrand$Loops" 48 "FoldedStrand$Loops" "INTERIORS" "[I" ∈ jl_T := jl_T_of 285 (by decide +kernel) (by decide +kernel)
theorem wm_LO_51 : Cond.methodLink "FoldedStrand$Loops" 51 Lib.Math.abs.name ∈ jl_T ∧ Cond.static Lib.Math.abs.name ∈ jl_T ∧ Cond.initialized "java/lang/Math" ∈ jl_T ∧ Cond.code Lib.Math.abs.name Lib.Math.abs.code 1 (some .int) ∈ jl_T := ⟨jl_T_of 287 (by decide +kernel) (by decide +kernel), jl_T_of 288 (by decide +kernel) (by decide +kernel), jl_T_of 10 (by decide +kernel) (by decide +kernel), jl_T_of 289 (by decide +kernel) (by decide +kernel)⟩
theorem wm_LO_57 : Cond.methodLink "FoldedStrand$Loops" 57 Lib.Math.min.name ∈ jl_T ∧ Cond.static Lib.Math.min.name ∈ jl_T ∧ Cond.initialized "java/lang/Math" ∈ jl_T ∧ Cond.code Lib.Math.min.name Lib.Math.min.code 2 (some .int) ∈ jl_T := ⟨jl_T_of 290 (by decide +kernel) (by decide +kernel), jl_T_of 266 (by decide +kernel) (by decide +kernel), jl_T_of 10 (by decide +kernel) (by decide +kernel), jl_T_of 267 (by decide +kernel) (by decide +kernel)⟩
theorem dc_LO_interior_0 : decode bc_LO_interior 0 = .ok (.iload_n 0, 1) := by decide +kernel
theorem dc_LO_interior_1 : decode bc_LO_interior 1 = .ok (.iload_n 1, 1) := by decide +kernel
theorem dc_LO_interior_2 : decode bc_LO_interior 2 = .ok (.iadd, 1) := by decide +kernel
theorem dc_LO_interior_3 : decode bc_LO_interior 3 = .ok (.istore_n 2, 1) := by decide +kernel
theorem dc_LO_interior_4 : decode bc_LO_interior 4 = .ok (.iload_n 2, 1) := by decide +kernel
theorem dc_LO_interior_5 : decode bc_LO_interior 5 = .ok (.iconst 2, 1) := by decide +kernel
theorem dc_LO_interior_6 : decode bc_LO_interior 6 = .ok (.isub, 1) := by decide +kernel
theorem dc_LO_interior_7 : decode bc_LO_interior 7 = .ok (.istore_n 3, 1) := by decide +kernel
theorem dc_LO_interior_8 : decode bc_LO_interior 8 = .ok (.iload_n 3, 1) := by decide +kernel
theorem dc_LO_interior_9 : decode bc_LO_interior 9 = .ok (.ifCond .lt 19, 3) := by decide +kernel
theorem dc_LO_interior_12 : decode bc_LO_interior 12 = .ok (.iload_n 3, 1) := by decide +kernel
theorem dc_LO_interior_13 : decode bc_LO_interior 13 = .ok (.getstatic 48, 3) := by decide +kernel
theorem dc_LO_interior_16 : decode bc_LO_interior 16 = .ok (.arraylength, 1) := by decide +kernel
theorem dc_LO_interior_17 : decode bc_LO_interior 17 = .ok (.if_icmp .ge 11, 3) := by decide +kernel
theorem dc_LO_interior_20 : decode bc_LO_interior 20 = .ok (.getstatic 48, 3) := by decide +kernel
theorem dc_LO_interior_23 : decode bc_LO_interior 23 = .ok (.iload_n 3, 1) := by decide +kernel
theorem dc_LO_interior_24 : decode bc_LO_interior 24 = .ok (.iaload, 1) := by decide +kernel
theorem dc_LO_interior_25 : decode bc_LO_interior 25 = .ok (.goto 7, 3) := by decide +kernel
theorem dc_LO_interior_28 : decode bc_LO_interior 28 = .ok (.bipush 15, 2) := by decide +kernel
theorem dc_LO_interior_30 : decode bc_LO_interior 30 = .ok (.iload_n 2, 1) := by decide +kernel
theorem dc_LO_interior_31 : decode bc_LO_interior 31 = .ok (.iadd, 1) := by decide +kernel
theorem dc_LO_interior_32 : decode bc_LO_interior 32 = .ok (.istore 4, 2) := by decide +kernel
theorem dc_LO_interior_34 : decode bc_LO_interior 34 = .ok (.iload 4, 2) := by decide +kernel
theorem dc_LO_interior_36 : decode bc_LO_interior 36 = .ok (.bipush 30, 2) := by decide +kernel
theorem dc_LO_interior_38 : decode bc_LO_interior 38 = .ok (.bipush 6, 2) := by decide +kernel
theorem dc_LO_interior_40 : decode bc_LO_interior 40 = .ok (.iload_n 0, 1) := by decide +kernel
theorem dc_LO_interior_41 : decode bc_LO_interior 41 = .ok (.iload_n 1, 1) := by decide +kernel
theorem dc_LO_interior_42 : decode bc_LO_interior 42 = .ok (.isub, 1) := by decide +kernel
theorem dc_LO_interior_43 : decode bc_LO_interior 43 = .ok (.invokestatic 51, 3) := by decide +kernel
theorem dc_LO_interior_46 : decode bc_LO_interior 46 = .ok (.imul, 1) := by decide +kernel
theorem dc_LO_interior_47 : decode bc_LO_interior 47 = .ok (.invokestatic 57, 3) := by decide +kernel
theorem dc_LO_interior_50 : decode bc_LO_interior 50 = .ok (.iadd, 1) := by decide +kernel
theorem dc_LO_interior_51 : decode bc_LO_interior 51 = .ok (.ireturn, 1) := by decide +kernel
abbrev bc_LO_withOne : ByteArray := prog_3_method_3_code
abbrev yn_LO_withOne : MethodName := ⟨"FoldedStrand$Loops", "withOne", "(IIII)I"⟩
theorem vs_LO_31 : jl_v "FoldedStrand$Loops" 31 yn_LO_stack bc_LO_stack 5 (some .int) 4 := ⟨jl_T_of 275 (by decide +kernel) (by decide +kernel), jl_T_of 3 (by decide +kernel) (by decide +kernel), jl_T_of 272 (by decide +kernel) (by decide +kernel), by decide +kernel, by decide +kernel, by decide +kernel⟩
theorem vi_LO_stack : Cond.instanceMethod yn_LO_stack ∈ jl_T := jl_T_of 274 (by decide +kernel) (by decide +kernel)
theorem vx_LO_stack : Cond.selects "FoldedStrand$Loops" yn_LO_stack yn_LO_stack ∈ jl_T := jl_T_sel 1 (by decide +kernel) (by decide +kernel)
theorem vs_LO_35 : jl_v "FoldedStrand$Loops" 35 yn_LO_stackOrBulge bc_LO_stackOrBulge 2 (some .int) 2 := ⟨jl_T_of 281 (by decide +kernel) (by decide +kernel), jl_T_of 3 (by decide +kernel) (by decide +kernel), jl_T_of 279 (by decide +kernel) (by decide +kernel), by decide +kernel, by decide +kernel, by decide +kernel⟩
theorem vt_LO_stackOrBulge : Cond.static yn_LO_stackOrBulge ∈ jl_T := jl_T_of 280 (by decide +kernel) (by decide +kernel)
theorem vs_LO_39 : jl_v "FoldedStrand$Loops" 39 yn_LO_interior bc_LO_interior 5 (some .int) 2 := ⟨jl_T_of 284 (by decide +kernel) (by decide +kernel), jl_T_of 3 (by decide +kernel) (by decide +kernel), jl_T_of 282 (by decide +kernel) (by decide +kernel), by decide +kernel, by decide +kernel, by decide +kernel⟩
theorem vt_LO_interior : Cond.static yn_LO_interior ∈ jl_T := jl_T_of 283 (by decide +kernel) (by decide +kernel)
theorem dc_LO_withOne_0 : decode bc_LO_withOne 0 = .ok (.iload_n 3, 1) := by decide +kernel
theorem dc_LO_withOne_1 : decode bc_LO_withOne 1 = .ok (.iload_n 1, 1) := by decide +kernel
theorem dc_LO_withOne_2 : decode bc_LO_withOne 2 = .ok (.isub, 1) := by decide +kernel
theorem dc_LO_withOne_3 : decode bc_LO_withOne 3 = .ok (.iconst 1, 1) := by decide +kernel
theorem dc_LO_withOne_4 : decode bc_LO_withOne 4 = .ok (.isub, 1) := by decide +kernel
theorem dc_LO_withOne_5 : decode bc_LO_withOne 5 = .ok (.istore 5, 2) := by decide +kernel
theorem dc_LO_withOne_7 : decode bc_LO_withOne 7 = .ok (.iload_n 2, 1) := by decide +kernel
theorem dc_LO_withOne_8 : decode bc_LO_withOne 8 = .ok (.iload 4, 2) := by decide +kernel
theorem dc_LO_withOne_10 : decode bc_LO_withOne 10 = .ok (.isub, 1) := by decide +kernel
theorem dc_LO_withOne_11 : decode bc_LO_withOne 11 = .ok (.iconst 1, 1) := by decide +kernel
theorem dc_LO_withOne_12 : decode bc_LO_withOne 12 = .ok (.isub, 1) := by decide +kernel
theorem dc_LO_withOne_13 : decode bc_LO_withOne 13 = .ok (.istore 6, 2) := by decide +kernel
theorem dc_LO_withOne_15 : decode bc_LO_withOne 15 = .ok (.iload 5, 2) := by decide +kernel
theorem dc_LO_withOne_17 : decode bc_LO_withOne 17 = .ok (.ifCond .eq 8, 3) := by decide +kernel
theorem dc_LO_withOne_20 : decode bc_LO_withOne 20 = .ok (.iload 6, 2) := by decide +kernel
theorem dc_LO_withOne_22 : decode bc_LO_withOne 22 = .ok (.ifCond .ne 21, 3) := by decide +kernel
theorem dc_LO_withOne_25 : decode bc_LO_withOne 25 = .ok (.iload 5, 2) := by decide +kernel
theorem dc_LO_withOne_27 : decode bc_LO_withOne 27 = .ok (.iload 6, 2) := by decide +kernel
theorem dc_LO_withOne_29 : decode bc_LO_withOne 29 = .ok (.iadd, 1) := by decide +kernel
theorem dc_LO_withOne_30 : decode bc_LO_withOne 30 = .ok (.aload_n 0, 1) := by decide +kernel
theorem dc_LO_withOne_31 : decode bc_LO_withOne 31 = .ok (.iload_n 1, 1) := by decide +kernel
theorem dc_LO_withOne_32 : decode bc_LO_withOne 32 = .ok (.iload_n 2, 1) := by decide +kernel
theorem dc_LO_withOne_33 : decode bc_LO_withOne 33 = .ok (.iload_n 3, 1) := by decide +kernel
theorem dc_LO_withOne_34 : decode bc_LO_withOne 34 = .ok (.iload 4, 2) := by decide +kernel
theorem dc_LO_withOne_36 : decode bc_LO_withOne 36 = .ok (.invokevirtual 31, 3) := by decide +kernel
theorem dc_LO_withOne_39 : decode bc_LO_withOne 39 = .ok (.invokestatic 35, 3) := by decide +kernel
theorem dc_LO_withOne_42 : decode bc_LO_withOne 42 = .ok (.ireturn, 1) := by decide +kernel
theorem dc_LO_withOne_43 : decode bc_LO_withOne 43 = .ok (.iload 5, 2) := by decide +kernel
theorem dc_LO_withOne_45 : decode bc_LO_withOne 45 = .ok (.iload 6, 2) := by decide +kernel
theorem dc_LO_withOne_47 : decode bc_LO_withOne 47 = .ok (.invokestatic 39, 3) := by decide +kernel
theorem dc_LO_withOne_50 : decode bc_LO_withOne 50 = .ok (.aload_n 0, 1) := by decide +kernel
theorem dc_LO_withOne_51 : decode bc_LO_withOne 51 = .ok (.getfield 7, 3) := by decide +kernel
theorem dc_LO_withOne_54 : decode bc_LO_withOne 54 = .ok (.iload_n 1, 1) := by decide +kernel
theorem dc_LO_withOne_55 : decode bc_LO_withOne 55 = .ok (.iload_n 2, 1) := by decide +kernel
theorem dc_LO_withOne_56 : decode bc_LO_withOne 56 = .ok (.bipush 7, 2) := by decide +kernel
theorem dc_LO_withOne_58 : decode bc_LO_withOne 58 = .ok (.invokevirtual 27, 3) := by decide +kernel
theorem dc_LO_withOne_61 : decode bc_LO_withOne 61 = .ok (.iadd, 1) := by decide +kernel
theorem dc_LO_withOne_62 : decode bc_LO_withOne 62 = .ok (.aload_n 0, 1) := by decide +kernel
theorem dc_LO_withOne_63 : decode bc_LO_withOne 63 = .ok (.getfield 7, 3) := by decide +kernel
theorem dc_LO_withOne_66 : decode bc_LO_withOne 66 = .ok (.iload_n 3, 1) := by decide +kernel
theorem dc_LO_withOne_67 : decode bc_LO_withOne 67 = .ok (.iload 4, 2) := by decide +kernel
theorem dc_LO_withOne_69 : decode bc_LO_withOne 69 = .ok (.bipush 7, 2) := by decide +kernel
theorem dc_LO_withOne_71 : decode bc_LO_withOne 71 = .ok (.invokevirtual 27, 3) := by decide +kernel
theorem dc_LO_withOne_74 : decode bc_LO_withOne 74 = .ok (.iadd, 1) := by decide +kernel
theorem dc_LO_withOne_75 : decode bc_LO_withOne 75 = .ok (.ireturn, 1) := by decide +kernel
section LO
variable (l : Launch) {K : Nat → ClassId} {sa : Nat → Nat} {N : Nat} {ad : Nat → Nat} {E : Nat → va_E} {n : Nat} {b : Nat → Nat}
theorem c_LO_hairpin (hN : 4 ≤ N) (hS : st_ok K ad E n b) (hLO : lo_ok ad E) {i j : Nat} (hij : i + 4 ≤ j) (hj : j < 18) : jl_C l K sa yn_LO_hairpin bc_LO_hairpin 5 (some .int) 2 60 N ad [.ref (ad 3), .int (nI i), .int (nI j)] E (some (.int (iI (lp_hp b i j)))) E := by
  refine jl_enter (by decide) (Nat.le_of_ble_eq_true rfl) (fun x h he hr => ?_)
  obtain ⟨hST, hbases, hn, hb⟩ := id hS
  unfold lo_ok at hLO
  show jl_J x N ad 0 0 E 0 [(0, .ref (ad 3)), (1, .int (nI i)), (2, .int (nI j))] []
  have hrow : nI j - nI i - 1 - 3 = nI (j - i - 4) := by
    rw [pk_sub (by omega), show (1 : Int32) = nI 1 from rfl, pk_sub (by omega), show (3 : Int32) = nI 3 from rfl, pk_sub (by omega)]
    congr 1
  cases hs : en_six b i j with
  | true =>
    refine jl_aload_n (i := 0) h rfl rfl dc_LO_hairpin_0 1 rfl ?_
    refine jl_getf h nm_c_LO 0 wl_LO_7 (by omega) (by decide) (by exact hLO) (by rfl) dc_LO_hairpin_1 4 rfl ?_
    refine jl_iload_n (i := 1) h rfl rfl dc_LO_hairpin_4 5 rfl ?_
    refine jl_iload_n (i := 2) h rfl rfl dc_LO_hairpin_5 6 rfl ?_
    refine jl_gets h (fun _ _ _ q => q.2.2.1) wl_LO_13 dc_LO_hairpin_6 9 rfl ?_
    refine jl_callV (As := [_, _, _]) (rest := []) h hr vs_LO_17 vi_ST_spells vx_ST_spells (ci := 1) rfl (by omega) (by exact hST) (fun l => c_ST_spells l (by omega) hS (by omega) hj) (by first | decide | omega) (by first | decide | omega) rfl rfl (Nat.le_of_ble_eq_true rfl) dc_LO_hairpin_9 (res := [_]) rfl 12 rfl ?_
    rw [hs]
    refine jl_if_eq h 18 (by decide) dc_LO_hairpin_12 15 rfl (fun c12 => absurd c12 (by decide)) (fun c12 => ?_)
    refine jl_bipush (v := 26) h (by decide) dc_LO_hairpin_15 17 rfl ?_
    exact jl_zret h he rfl (by unfold lp_hp; rw [if_pos hs]; rfl) (rfl) dc_LO_hairpin_17
  | false =>
    have hval : lp_hp b i j = lp_hpT.getD (j - i - 4) 64 + lp_wk b i j 5 := by unfold lp_hp; rw [hs]; rfl
    refine jl_aload_n (i := 0) h rfl rfl dc_LO_hairpin_0 1 rfl ?_
    refine jl_getf h nm_c_LO 0 wl_LO_7 (by omega) (by decide) (by exact hLO) (by rfl) dc_LO_hairpin_1 4 rfl ?_
    refine jl_iload_n (i := 1) h rfl rfl dc_LO_hairpin_4 5 rfl ?_
    refine jl_iload_n (i := 2) h rfl rfl dc_LO_hairpin_5 6 rfl ?_
    refine jl_gets h (fun _ _ _ q => q.2.2.1) wl_LO_13 dc_LO_hairpin_6 9 rfl ?_
    refine jl_callV (As := [_, _, _]) (rest := []) h hr vs_LO_17 vi_ST_spells vx_ST_spells (ci := 1) rfl (by omega) (by exact hST) (fun l => c_ST_spells l (by omega) hS (by omega) hj) (by first | decide | omega) (by first | decide | omega) rfl rfl (Nat.le_of_ble_eq_true rfl) dc_LO_hairpin_9 (res := [_]) rfl 12 rfl ?_
    rw [hs]
    refine jl_if_eq h 18 (by decide) dc_LO_hairpin_12 15 rfl (fun c12 => ?_) (fun c12 => absurd (rfl) c12)
    refine jl_iload_n (i := 2) h rfl rfl dc_LO_hairpin_18 19 rfl ?_
    refine jl_iload_n (i := 1) h rfl rfl dc_LO_hairpin_19 20 rfl ?_
    refine jl_isub h dc_LO_hairpin_20 21 rfl ?_
    refine jl_iconst (v := 1) h (by decide) dc_LO_hairpin_21 22 rfl ?_
    refine jl_isub h dc_LO_hairpin_22 23 rfl ?_
    refine jl_iconst (v := 3) h (by decide) dc_LO_hairpin_23 24 rfl ?_
    refine jl_isub h dc_LO_hairpin_24 25 rfl ?_
    rw [show nI j - nI i - 1 - 3 = nI (j - i - 4) by exact hrow]
    refine jl_istore_n (i := 3) (lc2 := [(3, _), (0, _), (1, _), (2, _)]) h rfl (by decide) rfl dc_LO_hairpin_25 26 rfl ?_
    refine jl_iload_n (i := 3) h rfl rfl dc_LO_hairpin_26 27 rfl ?_
    refine jl_if_lt h 46 (by decide) dc_LO_hairpin_27 30 rfl (fun c27 => absurd c27 (nI_pos (by omega))) (fun c27 => ?_)
    refine jl_iload_n (i := 3) h rfl rfl dc_LO_hairpin_30 31 rfl ?_
    refine jl_gets h (fun _ _ _ q => q.2.2.2.1) wl_LO_23 dc_LO_hairpin_31 34 rfl ?_
    refine jl_tlen (v := nI 6) h (fun _ _ _ q => q.2.2.2.1) (by decide) dc_LO_hairpin_34 35 rfl ?_
    refine jl_icmp_ge h 46 (by decide) dc_LO_hairpin_35 38 rfl (fun c35 => ?_) (fun c35 => ?_)
    · skip
      rw [nI_leI (by decide) (by omega)] at c35
      refine jl_bipush (v := 64) h (by decide) dc_LO_hairpin_46 48 rfl ?_
      refine jl_istore (i := 4) (lc2 := [(4, _), (3, _), (0, _), (1, _), (2, _)]) h (by decide) rfl dc_LO_hairpin_48 50 rfl ?_
      refine jl_iload h rfl dc_LO_hairpin_50 52 rfl ?_
      refine jl_aload_n (i := 0) h rfl rfl dc_LO_hairpin_52 53 rfl ?_
      refine jl_getf h nm_c_LO 0 wl_LO_7 (by omega) (by decide) (by exact hLO) (by rfl) dc_LO_hairpin_53 56 rfl ?_
      refine jl_iload_n (i := 1) h rfl rfl dc_LO_hairpin_56 57 rfl ?_
      refine jl_iload_n (i := 2) h rfl rfl dc_LO_hairpin_57 58 rfl ?_
      refine jl_iconst (v := iI 5) h (by decide) dc_LO_hairpin_58 59 rfl ?_
      refine jl_callV (As := [_, _, _]) (rest := [_]) h hr vs_LO_27 vi_ST_ifWeak vx_ST_ifWeak (ci := 1) rfl (by omega) (by exact hST) (fun l => c_ST_ifWeak l (by omega) hS (by omega) hj 5) (by first | decide | omega) (by first | decide | omega) rfl rfl (Nat.le_of_ble_eq_true rfl) dc_LO_hairpin_59 (res := [_, _]) rfl 62 rfl ?_
      refine jl_iadd h dc_LO_hairpin_62 63 rfl ?_
      exact jl_zret h he rfl (by rw [hval]; first | rw [iI_add] | (rw [List.getD_eq_getElem?_getD, List.getElem?_eq_none (by show 6 ≤ _; omega), show (64 : Int32) = iI 64 from rfl, iI_add]; rfl)) (rfl) dc_LO_hairpin_63
    · skip
      rw [nI_leI (by decide) (by omega)] at c35
      refine jl_gets h (fun _ _ _ q => q.2.2.2.1) wl_LO_23 dc_LO_hairpin_38 41 rfl ?_
      refine jl_iload_n (i := 3) h rfl rfl dc_LO_hairpin_41 42 rfl ?_
      refine jl_tild (v := iI (lp_hpT.getD (j - i - 4) 64)) h (fun _ _ _ q => q.2.2.2.1) (j - i - 4) (rfl) (by show _ < 6; omega) (by decide) (lp_h3 _ (by omega)) dc_LO_hairpin_42 43 rfl ?_
      refine jl_goto h 48 (by decide) dc_LO_hairpin_43 ?_
      refine jl_istore (i := 4) (lc2 := [(4, _), (3, _), (0, _), (1, _), (2, _)]) h (by decide) rfl dc_LO_hairpin_48 50 rfl ?_
      refine jl_iload h rfl dc_LO_hairpin_50 52 rfl ?_
      refine jl_aload_n (i := 0) h rfl rfl dc_LO_hairpin_52 53 rfl ?_
      refine jl_getf h nm_c_LO 0 wl_LO_7 (by omega) (by decide) (by exact hLO) (by rfl) dc_LO_hairpin_53 56 rfl ?_
      refine jl_iload_n (i := 1) h rfl rfl dc_LO_hairpin_56 57 rfl ?_
      refine jl_iload_n (i := 2) h rfl rfl dc_LO_hairpin_57 58 rfl ?_
      refine jl_iconst (v := iI 5) h (by decide) dc_LO_hairpin_58 59 rfl ?_
      refine jl_callV (As := [_, _, _]) (rest := [_]) h hr vs_LO_27 vi_ST_ifWeak vx_ST_ifWeak (ci := 1) rfl (by omega) (by exact hST) (fun l => c_ST_ifWeak l (by omega) hS (by omega) hj 5) (by first | decide | omega) (by first | decide | omega) rfl rfl (Nat.le_of_ble_eq_true rfl) dc_LO_hairpin_59 (res := [_, _]) rfl 62 rfl ?_
      refine jl_iadd h dc_LO_hairpin_62 63 rfl ?_
      exact jl_zret h he rfl (by rw [hval]; first | rw [iI_add] | (rw [List.getD_eq_getElem?_getD, List.getElem?_eq_none (by show 6 ≤ _; omega), show (64 : Int32) = iI 64 from rfl, iI_add]; rfl)) (rfl) dc_LO_hairpin_63
theorem c_LO_multiClosing (hN : 4 ≤ N) (hS : st_ok K ad E n b) (hLO : lo_ok ad E) {i j : Nat} (hi : i < 18) (hj : j < 18) : jl_C l K sa yn_LO_multiClosing bc_LO_multiClosing 3 (some .int) 2 60 N ad [.ref (ad 3), .int (nI i), .int (nI j)] E (some (.int (iI (38 + lp_wk b i j 5)))) E := by
  refine jl_enter (by decide) (Nat.le_of_ble_eq_true rfl) (fun x h he hr => ?_)
  obtain ⟨hST, hbases, hn, hb⟩ := id hS
  unfold lo_ok at hLO
  show jl_J x N ad 0 0 E 0 [(0, .ref (ad 3)), (1, .int (nI i)), (2, .int (nI j))] []
  refine jl_bipush (v := iI 38) h (by decide) dc_LO_multiClosing_0 2 rfl ?_
  refine jl_aload_n (i := 0) h rfl rfl dc_LO_multiClosing_2 3 rfl ?_
  refine jl_getf h nm_c_LO 0 wl_LO_7 (by omega) (by decide) (by exact hLO) (by rfl) dc_LO_multiClosing_3 6 rfl ?_
  refine jl_iload_n (i := 1) h rfl rfl dc_LO_multiClosing_6 7 rfl ?_
  refine jl_iload_n (i := 2) h rfl rfl dc_LO_multiClosing_7 8 rfl ?_
  refine jl_iconst (v := iI 5) h (by decide) dc_LO_multiClosing_8 9 rfl ?_
  refine jl_callV (As := [_, _, _]) (rest := [_]) h hr vs_LO_27 vi_ST_ifWeak vx_ST_ifWeak (ci := 1) rfl (by omega) (by exact hST) (fun l => c_ST_ifWeak l (by omega) hS hi hj 5) (by first | decide | omega) (by first | decide | omega) rfl rfl (Nat.le_of_ble_eq_true rfl) dc_LO_multiClosing_9 (res := [_, _]) rfl 12 rfl ?_
  refine jl_iadd h dc_LO_multiClosing_12 13 rfl ?_
  exact jl_zret h he rfl (by rw [iI_add]) (rfl) dc_LO_multiClosing_13
theorem c_LO_multiBranch (hN : 4 ≤ N) (hS : st_ok K ad E n b) (hLO : lo_ok ad E) {i j : Nat} (hi : i < 18) (hj : j < 18) : jl_C l K sa yn_LO_multiBranch bc_LO_multiBranch 3 (some .int) 2 60 N ad [.ref (ad 3), .int (nI i), .int (nI j)] E (some (.int (iI (4 + lp_wk b i j 5)))) E := by
  refine jl_enter (by decide) (Nat.le_of_ble_eq_true rfl) (fun x h he hr => ?_)
  obtain ⟨hST, hbases, hn, hb⟩ := id hS
  unfold lo_ok at hLO
  show jl_J x N ad 0 0 E 0 [(0, .ref (ad 3)), (1, .int (nI i)), (2, .int (nI j))] []
  refine jl_iconst (v := iI 4) h (by decide) dc_LO_multiBranch_0 1 rfl ?_
  refine jl_aload_n (i := 0) h rfl rfl dc_LO_multiBranch_1 2 rfl ?_
  refine jl_getf h nm_c_LO 0 wl_LO_7 (by omega) (by decide) (by exact hLO) (by rfl) dc_LO_multiBranch_2 5 rfl ?_
  refine jl_iload_n (i := 1) h rfl rfl dc_LO_multiBranch_5 6 rfl ?_
  refine jl_iload_n (i := 2) h rfl rfl dc_LO_multiBranch_6 7 rfl ?_
  refine jl_iconst (v := iI 5) h (by decide) dc_LO_multiBranch_7 8 rfl ?_
  refine jl_callV (As := [_, _, _]) (rest := [_]) h hr vs_LO_27 vi_ST_ifWeak vx_ST_ifWeak (ci := 1) rfl (by omega) (by exact hST) (fun l => c_ST_ifWeak l (by omega) hS hi hj 5) (by first | decide | omega) (by first | decide | omega) rfl rfl (Nat.le_of_ble_eq_true rfl) dc_LO_multiBranch_8 (res := [_, _]) rfl 11 rfl ?_
  refine jl_iadd h dc_LO_multiBranch_11 12 rfl ?_
  exact jl_zret h he rfl (by rw [iI_add]) (rfl) dc_LO_multiBranch_12
theorem c_LO_stack (hN : 4 ≤ N) (hS : st_ok K ad E n b) (hLO : lo_ok ad E) {i j k m : Nat} (hi : i < 18) (hj : j < 18) (hk : k < 18) (hm : m < 18) (h1 : 0 ≤ en_kd (b i) (b j)) (h2 : 0 ≤ en_kd (b m) (b k)) : jl_C l K sa yn_LO_stack bc_LO_stack 5 (some .int) 2 60 N ad [.ref (ad 3), .int (nI i), .int (nI j), .int (nI k), .int (nI m)] E (some (.int (iI (lp_stk (en_kd (b i) (b j)) (en_kd (b m) (b k)))))) E := by
  refine jl_enter (by decide) (Nat.le_of_ble_eq_true rfl) (fun x h he hr => ?_)
  obtain ⟨hST, hbases, hn, hb⟩ := id hS
  unfold lo_ok at hLO
  show jl_J x N ad 0 0 E 0 [(0, .ref (ad 3)), (1, .int (nI i)), (2, .int (nI j)), (3, .int (nI k)), (4, .int (nI m))] []
  have g1 := en_kd_in (b i) (b j)
  have g2 := en_kd_in (b m) (b k)
  obtain ⟨p, hp⟩ : ∃ p : Nat, en_kd (b i) (b j) = p := ⟨(en_kd (b i) (b j)).toNat, by omega⟩
  obtain ⟨q, hq⟩ : ∃ q : Nat, en_kd (b m) (b k) = q := ⟨(en_kd (b m) (b k)).toNat, by omega⟩
  have hix : nI p * nI 6 + nI q = nI (p * 6 + q) := by rw [pk_mul, nI_add]
  refine jl_gets h (fun _ _ _ q => q.2.2.2.2.1) wl_LO_42 dc_LO_stack_0 3 rfl ?_
  refine jl_aload_n (i := 0) h rfl rfl dc_LO_stack_3 4 rfl ?_
  refine jl_getf h nm_c_LO 0 wl_LO_7 (by omega) (by decide) (by exact hLO) (by rfl) dc_LO_stack_4 7 rfl ?_
  refine jl_iload_n (i := 1) h rfl rfl dc_LO_stack_7 8 rfl ?_
  refine jl_iload_n (i := 2) h rfl rfl dc_LO_stack_8 9 rfl ?_
  refine jl_callV (As := [_, _]) (rest := [_]) h hr vs_LO_45 vi_ST_kind vx_ST_kind (ci := 1) rfl (by omega) (by exact hST) (fun l => c_ST_kind l (by omega) hS hi hj) (by first | decide | omega) (by first | decide | omega) rfl rfl (Nat.le_of_ble_eq_true rfl) dc_LO_stack_9 (res := [_, _]) rfl 12 rfl ?_
  rw [hp, iI_nat]
  refine jl_bipush (v := nI 6) h (by decide) dc_LO_stack_12 14 rfl ?_
  refine jl_imul h dc_LO_stack_14 15 rfl ?_
  refine jl_aload_n (i := 0) h rfl rfl dc_LO_stack_15 16 rfl ?_
  refine jl_getf h nm_c_LO 0 wl_LO_7 (by omega) (by decide) (by exact hLO) (by rfl) dc_LO_stack_16 19 rfl ?_
  refine jl_iload h rfl dc_LO_stack_19 21 rfl ?_
  refine jl_iload_n (i := 3) h rfl rfl dc_LO_stack_21 22 rfl ?_
  refine jl_callV (As := [_, _]) (rest := [_, _]) h hr vs_LO_45 vi_ST_kind vx_ST_kind (ci := 1) rfl (by omega) (by exact hST) (fun l => c_ST_kind l (by omega) hS hm hk) (by first | decide | omega) (by first | decide | omega) rfl rfl (Nat.le_of_ble_eq_true rfl) dc_LO_stack_22 (res := [_, _, _]) rfl 25 rfl ?_
  rw [hq, iI_nat]
  refine jl_iadd h dc_LO_stack_25 26 rfl ?_
  rw [show nI p * nI 6 + nI q = nI (p * 6 + q) by exact hix]
  refine jl_tild (v := iI (lp_stk p q)) h (fun _ _ _ q => q.2.2.2.2.1) (p * 6 + q) (rfl) (by show _ < 36; omega) (by decide) (lp_h4 p (by omega) q (by omega)) dc_LO_stack_26 27 rfl ?_
  exact jl_zret h he rfl (by rw [hp, hq]) (rfl) dc_LO_stack_27
theorem c_LO_stackOrBulge {u : Nat} (hu : u < 36) (s : Int) : jl_C l K sa yn_LO_stackOrBulge bc_LO_stackOrBulge 2 (some .int) 0 0 N ad [.int (nI u), .int (iI s)] E (some (.int (iI (lp_bul u s)))) E := by
  refine jl_enter (by decide) (Nat.le_of_ble_eq_true rfl) (fun x h he hr => ?_)
  show jl_J x N ad 0 0 E 0 [(0, .int (nI u)), (1, .int (iI s))] []
  rcases (show u = 0 ∨ u = 1 ∨ u = 2 ∨ u = 3 ∨ 4 ≤ u by omega) with rfl | rfl | rfl | rfl | h4
  · skip
    refine jl_iload_n (i := 0) h rfl rfl dc_LO_stackOrBulge_0 1 rfl ?_
    refine jl_tsw h 31 32 dc_LO_stackOrBulge_1 (by decide) (by decide) (by decide) (by decide) ?_
    refine jl_iload_n (i := 1) h rfl rfl dc_LO_stackOrBulge_32 33 rfl ?_
    exact jl_zret h he rfl (rfl) (rfl) dc_LO_stackOrBulge_33
  · skip
    refine jl_iload_n (i := 0) h rfl rfl dc_LO_stackOrBulge_0 1 rfl ?_
    refine jl_tsw h 33 34 dc_LO_stackOrBulge_1 (by decide) (by decide) (by decide) (by decide) ?_
    refine jl_bipush (v := iI 38) h (by decide) dc_LO_stackOrBulge_34 36 rfl ?_
    refine jl_iload_n (i := 1) h rfl rfl dc_LO_stackOrBulge_36 37 rfl ?_
    refine jl_iadd h dc_LO_stackOrBulge_37 38 rfl ?_
    exact jl_zret h he rfl (by rw [iI_add]; rfl) (rfl) dc_LO_stackOrBulge_38
  · skip
    refine jl_iload_n (i := 0) h rfl rfl dc_LO_stackOrBulge_0 1 rfl ?_
    refine jl_tsw h 38 39 dc_LO_stackOrBulge_1 (by decide) (by decide) (by decide) (by decide) ?_
    refine jl_bipush (v := 28) h (by decide) dc_LO_stackOrBulge_39 41 rfl ?_
    exact jl_zret h he rfl (rfl) (rfl) dc_LO_stackOrBulge_41
  · skip
    refine jl_iload_n (i := 0) h rfl rfl dc_LO_stackOrBulge_0 1 rfl ?_
    refine jl_tsw h 41 42 dc_LO_stackOrBulge_1 (by decide) (by decide) (by decide) (by decide) ?_
    refine jl_bipush (v := 32) h (by decide) dc_LO_stackOrBulge_42 44 rfl ?_
    exact jl_zret h he rfl (rfl) (rfl) dc_LO_stackOrBulge_44
  · have hval : lp_bul u s = 20 + 4 * u := by
      unfold lp_bul
      rw [if_neg (by omega), if_neg (by omega), if_neg (by omega), if_neg (by omega)]
    refine jl_iload_n (i := 0) h rfl rfl dc_LO_stackOrBulge_0 1 rfl ?_
    refine jl_tswD h 45 dc_LO_stackOrBulge_1 (by rw [nI_toInt (by omega)]; omega) (by decide) ?_
    refine jl_bipush (v := iI 20) h (by decide) dc_LO_stackOrBulge_45 47 rfl ?_
    refine jl_iconst (v := iI 4) h (by decide) dc_LO_stackOrBulge_47 48 rfl ?_
    refine jl_iload_n (i := 0) h rfl rfl dc_LO_stackOrBulge_48 49 rfl ?_
    refine jl_imul h dc_LO_stackOrBulge_49 50 rfl ?_
    refine jl_iadd h dc_LO_stackOrBulge_50 51 rfl ?_
    exact jl_zret h he rfl (by rw [hval, ← iI_nat u, iI_mul, iI_add]) (rfl) dc_LO_stackOrBulge_51
theorem c_LO_interior {p q : Nat} (hp : 1 ≤ p) (hq : 1 ≤ q) (hpq : p + q < 18) : jl_C l K sa yn_LO_interior bc_LO_interior 5 (some .int) 1 30 N ad [.int (nI p), .int (nI q)] E (some (.int (iI (lp_int p q)))) E := by
  refine jl_enter (by decide) (Nat.le_of_ble_eq_true rfl) (fun x h he hr => ?_)
  show jl_J x N ad 0 0 E 0 [(0, .int (nI p)), (1, .int (nI q))] []
  have e1 : nI p + nI q = nI (p + q) := nI_add p q
  have e2 : nI (p + q) - 2 = nI (p + q - 2) := by rw [show (2 : Int32) = nI 2 from rfl, pk_sub (by omega)]
  have e3 : (if 0 ≤ nI p - nI q then nI p - nI q else 0 - (nI p - nI q)) = nI (lp_dif p q) := by
    unfold lp_dif
    rcases Nat.lt_or_ge p q with hlt | hge
    · have h1 : ¬ 0 ≤ nI p - nI q := by
        have := pk_sneg (a := p) (b := q) (by omega) hlt
        rw [Int32.not_le]
        exact this
      rw [if_neg h1, show (0 : Int32) - (nI p - nI q) = nI q - nI p by simp [Int32.neg_sub], pk_sub (by omega)]
      congr 1
      omega
    · rw [pk_sub hge, if_pos (nI_pos' (by omega))]
      congr 1
      omega
  have e4 : (if nI 6 * nI (lp_dif p q) < nI 30 then nI 6 * nI (lp_dif p q) else nI 30) = iI (if 6 * lp_dif p q < 30 then ((6 * lp_dif p q : Nat) : Int) else 30) := by
    have hd : lp_dif p q < 18 := by unfold lp_dif; omega
    rw [pk_mul]
    by_cases h9 : 6 * lp_dif p q < 30
    · rw [if_pos (nI_lt h9 (by decide)), if_pos h9]
      rfl
    · rw [if_neg (nI_nlt (by omega) (by omega)), if_neg h9]
      rfl
  refine jl_iload_n (i := 0) h rfl rfl dc_LO_interior_0 1 rfl ?_
  refine jl_iload_n (i := 1) h rfl rfl dc_LO_interior_1 2 rfl ?_
  refine jl_iadd h dc_LO_interior_2 3 rfl ?_
  rw [show nI p + nI q = nI (p + q) by exact e1]
  refine jl_istore_n (i := 2) (lc2 := [(2, _), (0, _), (1, _)]) h rfl (by decide) rfl dc_LO_interior_3 4 rfl ?_
  refine jl_iload_n (i := 2) h rfl rfl dc_LO_interior_4 5 rfl ?_
  refine jl_iconst (v := 2) h (by decide) dc_LO_interior_5 6 rfl ?_
  refine jl_isub h dc_LO_interior_6 7 rfl ?_
  rw [show nI (p + q) - 2 = nI (p + q - 2) by exact e2]
  refine jl_istore_n (i := 3) (lc2 := [(3, _), (2, _), (0, _), (1, _)]) h rfl (by decide) rfl dc_LO_interior_7 8 rfl ?_
  refine jl_iload_n (i := 3) h rfl rfl dc_LO_interior_8 9 rfl ?_
  refine jl_if_lt h 28 (by decide) dc_LO_interior_9 12 rfl (fun c9 => absurd c9 (nI_pos (by omega))) (fun c9 => ?_)
  refine jl_iload_n (i := 3) h rfl rfl dc_LO_interior_12 13 rfl ?_
  refine jl_gets h (fun _ _ _ q => q.2.2.2.2.2) wl_LO_48 dc_LO_interior_13 16 rfl ?_
  refine jl_tlen (v := nI 4) h (fun _ _ _ q => q.2.2.2.2.2) (by decide) dc_LO_interior_16 17 rfl ?_
  refine jl_icmp_ge h 28 (by decide) dc_LO_interior_17 20 rfl (fun c17 => ?_) (fun c17 => ?_)
  · skip
    rw [nI_leI (by decide) (by omega)] at c17
    refine jl_bipush (v := iI 15) h (by decide) dc_LO_interior_28 30 rfl ?_
    refine jl_iload_n (i := 2) h rfl rfl dc_LO_interior_30 31 rfl ?_
    refine jl_iadd h dc_LO_interior_31 32 rfl ?_
    refine jl_istore (i := 4) (lc2 := [(4, _), (3, _), (2, _), (0, _), (1, _)]) h (by decide) rfl dc_LO_interior_32 34 rfl ?_
    refine jl_iload h rfl dc_LO_interior_34 36 rfl ?_
    refine jl_bipush (v := nI 30) h (by decide) dc_LO_interior_36 38 rfl ?_
    refine jl_bipush (v := nI 6) h (by decide) dc_LO_interior_38 40 rfl ?_
    refine jl_iload_n (i := 0) h rfl rfl dc_LO_interior_40 41 rfl ?_
    refine jl_iload_n (i := 1) h rfl rfl dc_LO_interior_41 42 rfl ?_
    refine jl_isub h dc_LO_interior_42 43 rfl ?_
    refine jl_mabs h hr wm_LO_51 (by first | decide | omega) (by first | decide | omega) (Nat.le_of_ble_eq_true rfl) dc_LO_interior_43 46 rfl ?_
    rw [show (if 0 ≤ nI p - nI q then nI p - nI q else 0 - (nI p - nI q)) = nI (lp_dif p q) by exact e3]
    refine jl_imul h dc_LO_interior_46 47 rfl ?_
    refine jl_mmin h hr wm_LO_57 (by first | decide | omega) (by first | decide | omega) (Nat.le_of_ble_eq_true rfl) dc_LO_interior_47 50 rfl ?_
    rw [show (if nI 6 * nI (lp_dif p q) < nI 30 then nI 6 * nI (lp_dif p q) else nI 30) = iI (if 6 * lp_dif p q < 30 then ((6 * lp_dif p q : Nat) : Int) else 30) by exact e4]
    refine jl_iadd h dc_LO_interior_50 51 rfl ?_
    exact jl_zret h he rfl (by unfold lp_int; first | rw [iI_add] | (rw [List.getD_eq_getElem?_getD, List.getElem?_eq_none (by show 4 ≤ _; omega), ← iI_nat (p + q), iI_add, iI_add]; rfl)) (rfl) dc_LO_interior_51
  · skip
    rw [nI_leI (by decide) (by omega)] at c17
    refine jl_gets h (fun _ _ _ q => q.2.2.2.2.2) wl_LO_48 dc_LO_interior_20 23 rfl ?_
    refine jl_iload_n (i := 3) h rfl rfl dc_LO_interior_23 24 rfl ?_
    refine jl_tild (v := iI (lp_inT.getD (p + q - 2) (15 + ((p + q : Nat) : Int)))) h (fun _ _ _ q => q.2.2.2.2.2) (p + q - 2) (rfl) (by show _ < 4; omega) (by decide) (lp_h5 _ (by omega) _) dc_LO_interior_24 25 rfl ?_
    refine jl_goto h 32 (by decide) dc_LO_interior_25 ?_
    refine jl_istore (i := 4) (lc2 := [(4, _), (3, _), (2, _), (0, _), (1, _)]) h (by decide) rfl dc_LO_interior_32 34 rfl ?_
    refine jl_iload h rfl dc_LO_interior_34 36 rfl ?_
    refine jl_bipush (v := nI 30) h (by decide) dc_LO_interior_36 38 rfl ?_
    refine jl_bipush (v := nI 6) h (by decide) dc_LO_interior_38 40 rfl ?_
    refine jl_iload_n (i := 0) h rfl rfl dc_LO_interior_40 41 rfl ?_
    refine jl_iload_n (i := 1) h rfl rfl dc_LO_interior_41 42 rfl ?_
    refine jl_isub h dc_LO_interior_42 43 rfl ?_
    refine jl_mabs h hr wm_LO_51 (by first | decide | omega) (by first | decide | omega) (Nat.le_of_ble_eq_true rfl) dc_LO_interior_43 46 rfl ?_
    rw [show (if 0 ≤ nI p - nI q then nI p - nI q else 0 - (nI p - nI q)) = nI (lp_dif p q) by exact e3]
    refine jl_imul h dc_LO_interior_46 47 rfl ?_
    refine jl_mmin h hr wm_LO_57 (by first | decide | omega) (by first | decide | omega) (Nat.le_of_ble_eq_true rfl) dc_LO_interior_47 50 rfl ?_
    rw [show (if nI 6 * nI (lp_dif p q) < nI 30 then nI 6 * nI (lp_dif p q) else nI 30) = iI (if 6 * lp_dif p q < 30 then ((6 * lp_dif p q : Nat) : Int) else 30) by exact e4]
    refine jl_iadd h dc_LO_interior_50 51 rfl ?_
    exact jl_zret h he rfl (by unfold lp_int; first | rw [iI_add] | (rw [List.getD_eq_getElem?_getD, List.getElem?_eq_none (by show 4 ≤ _; omega), ← iI_nat (p + q), iI_add, iI_add]; rfl)) (rfl) dc_LO_interior_51
theorem c_LO_withOne (hN : 4 ≤ N) (hS : st_ok K ad E n b) (hLO : lo_ok ad E) {i j k m : Nat} (hik : i < k) (hkm : k < m) (hmj : m < j) (hj : j < 18) (h1 : 0 ≤ en_kd (b i) (b j)) (h2 : 0 ≤ en_kd (b k) (b m)) : jl_C l K sa yn_LO_withOne bc_LO_withOne 7 (some .int) 3 95 N ad [.ref (ad 3), .int (nI i), .int (nI j), .int (nI k), .int (nI m)] E (some (.int (iI (lp_w1 b i j k m)))) E := by
  refine jl_enter (by decide) (Nat.le_of_ble_eq_true rfl) (fun x h he hr => ?_)
  obtain ⟨hST, hbases, hn, hb⟩ := id hS
  have h3 := en_kd_sym _ _ (hb k) (hb m) h2
  have hLO2 := hLO
  unfold lo_ok at hLO
  show jl_J x N ad 0 0 E 0 [(0, .ref (ad 3)), (1, .int (nI i)), (2, .int (nI j)), (3, .int (nI k)), (4, .int (nI m))] []
  have e1 : nI k - nI i - 1 = nI (k - i - 1) := by rw [pk_sub (by omega), show (1 : Int32) = nI 1 from rfl, pk_sub (by omega)]
  have e2 : nI j - nI m - 1 = nI (j - m - 1) := by rw [pk_sub (by omega), show (1 : Int32) = nI 1 from rfl, pk_sub (by omega)]
  have e3 : nI (k - i - 1) + nI (j - m - 1) = nI (k - i - 1 + (j - m - 1)) := nI_add _ _
  have z0 : (0 : Int32) = nI 0 := rfl
  refine jl_iload_n (i := 3) h rfl rfl dc_LO_withOne_0 1 rfl ?_
  refine jl_iload_n (i := 1) h rfl rfl dc_LO_withOne_1 2 rfl ?_
  refine jl_isub h dc_LO_withOne_2 3 rfl ?_
  refine jl_iconst (v := 1) h (by decide) dc_LO_withOne_3 4 rfl ?_
  refine jl_isub h dc_LO_withOne_4 5 rfl ?_
  rw [show nI k - nI i - 1 = nI (k - i - 1) by exact e1]
  refine jl_istore (i := 5) (lc2 := [(5, _), (0, _), (1, _), (2, _), (3, _), (4, _)]) h (by decide) rfl dc_LO_withOne_5 7 rfl ?_
  refine jl_iload_n (i := 2) h rfl rfl dc_LO_withOne_7 8 rfl ?_
  refine jl_iload h rfl dc_LO_withOne_8 10 rfl ?_
  refine jl_isub h dc_LO_withOne_10 11 rfl ?_
  refine jl_iconst (v := 1) h (by decide) dc_LO_withOne_11 12 rfl ?_
  refine jl_isub h dc_LO_withOne_12 13 rfl ?_
  rw [show nI j - nI m - 1 = nI (j - m - 1) by exact e2]
  refine jl_istore (i := 6) (lc2 := [(6, _), (5, _), (0, _), (1, _), (2, _), (3, _), (4, _)]) h (by decide) rfl dc_LO_withOne_13 15 rfl ?_
  refine jl_iload h rfl dc_LO_withOne_15 17 rfl ?_
  refine jl_if_eq h 25 (by decide) dc_LO_withOne_17 20 rfl (fun c17 => ?_) (fun c17 => ?_)
  · skip
    rw [z0, nI_eq (by omega) (by decide)] at c17
    refine jl_iload h rfl dc_LO_withOne_25 27 rfl ?_
    refine jl_iload h rfl dc_LO_withOne_27 29 rfl ?_
    refine jl_iadd h dc_LO_withOne_29 30 rfl ?_
    rw [show nI (k - i - 1) + nI (j - m - 1) = nI (k - i - 1 + (j - m - 1)) by exact e3]
    refine jl_aload_n (i := 0) h rfl rfl dc_LO_withOne_30 31 rfl ?_
    refine jl_iload_n (i := 1) h rfl rfl dc_LO_withOne_31 32 rfl ?_
    refine jl_iload_n (i := 2) h rfl rfl dc_LO_withOne_32 33 rfl ?_
    refine jl_iload_n (i := 3) h rfl rfl dc_LO_withOne_33 34 rfl ?_
    refine jl_iload h rfl dc_LO_withOne_34 36 rfl ?_
    refine jl_callV (As := [_, _, _, _]) (rest := [_]) h hr vs_LO_31 vi_LO_stack vx_LO_stack (ci := 2) rfl (by omega) (by exact hLO) (fun l => c_LO_stack l hN hS hLO2 (by omega) hj (by omega) (by omega) h1 h3) (by first | decide | omega) (by first | decide | omega) rfl rfl (Nat.le_of_ble_eq_true rfl) dc_LO_withOne_36 (res := [_, _]) rfl 39 rfl ?_
    refine jl_callS (As := [_, _]) (rest := []) h hr vs_LO_35 vt_LO_stackOrBulge (fun l => c_LO_stackOrBulge l (by omega) _) (by first | decide | omega) (by first | decide | omega) rfl rfl (Nat.le_of_ble_eq_true rfl) dc_LO_withOne_39 (res := [_]) rfl 42 rfl ?_
    exact jl_zret h he rfl (by rw [show lp_w1 b i j k m = lp_bul (k - i - 1 + (j - m - 1)) (lp_stk (en_kd (b i) (b j)) (en_kd (b m) (b k))) from if_pos (by omega)]) (rfl) dc_LO_withOne_42
  · skip
    rw [z0, nI_eq (by omega) (by decide)] at c17
    refine jl_iload h rfl dc_LO_withOne_20 22 rfl ?_
    refine jl_if_ne h 43 (by decide) dc_LO_withOne_22 25 rfl (fun c22 => ?_) (fun c22 => ?_)
    · skip
      rw [z0, nI_eq (by omega) (by decide)] at c22
      refine jl_iload h rfl dc_LO_withOne_43 45 rfl ?_
      refine jl_iload h rfl dc_LO_withOne_45 47 rfl ?_
      refine jl_callS (As := [_, _]) (rest := []) h hr vs_LO_39 vt_LO_interior (fun l => c_LO_interior l (by omega) (by omega) (by omega)) (by first | decide | omega) (by first | decide | omega) rfl rfl (Nat.le_of_ble_eq_true rfl) dc_LO_withOne_47 (res := [_]) rfl 50 rfl ?_
      refine jl_aload_n (i := 0) h rfl rfl dc_LO_withOne_50 51 rfl ?_
      refine jl_getf h nm_c_LO 0 wl_LO_7 (by omega) (by decide) (by exact hLO) (by rfl) dc_LO_withOne_51 54 rfl ?_
      refine jl_iload_n (i := 1) h rfl rfl dc_LO_withOne_54 55 rfl ?_
      refine jl_iload_n (i := 2) h rfl rfl dc_LO_withOne_55 56 rfl ?_
      refine jl_bipush (v := iI 7) h (by decide) dc_LO_withOne_56 58 rfl ?_
      refine jl_callV (As := [_, _, _]) (rest := [_]) h hr vs_LO_27 vi_ST_ifWeak vx_ST_ifWeak (ci := 1) rfl (by omega) (by exact hST) (fun l => c_ST_ifWeak l (by omega) hS (by omega) hj 7) (by first | decide | omega) (by first | decide | omega) rfl rfl (Nat.le_of_ble_eq_true rfl) dc_LO_withOne_58 (res := [_, _]) rfl 61 rfl ?_
      refine jl_iadd h dc_LO_withOne_61 62 rfl ?_
      refine jl_aload_n (i := 0) h rfl rfl dc_LO_withOne_62 63 rfl ?_
      refine jl_getf h nm_c_LO 0 wl_LO_7 (by omega) (by decide) (by exact hLO) (by rfl) dc_LO_withOne_63 66 rfl ?_
      refine jl_iload_n (i := 3) h rfl rfl dc_LO_withOne_66 67 rfl ?_
      refine jl_iload h rfl dc_LO_withOne_67 69 rfl ?_
      refine jl_bipush (v := iI 7) h (by decide) dc_LO_withOne_69 71 rfl ?_
      refine jl_callV (As := [_, _, _]) (rest := [_]) h hr vs_LO_27 vi_ST_ifWeak vx_ST_ifWeak (ci := 1) rfl (by omega) (by exact hST) (fun l => c_ST_ifWeak l (by omega) hS (by omega) (by omega) 7) (by first | decide | omega) (by first | decide | omega) rfl rfl (Nat.le_of_ble_eq_true rfl) dc_LO_withOne_71 (res := [_, _]) rfl 74 rfl ?_
      refine jl_iadd h dc_LO_withOne_74 75 rfl ?_
      exact jl_zret h he rfl (by rw [show lp_w1 b i j k m = lp_int (k - i - 1) (j - m - 1) + lp_wk b i j 7 + lp_wk b k m 7 from if_neg (by omega), iI_add, iI_add]) (rfl) dc_LO_withOne_75
    · skip
      rw [z0, nI_eq (by omega) (by decide)] at c22
      refine jl_iload h rfl dc_LO_withOne_25 27 rfl ?_
      refine jl_iload h rfl dc_LO_withOne_27 29 rfl ?_
      refine jl_iadd h dc_LO_withOne_29 30 rfl ?_
      rw [show nI (k - i - 1) + nI (j - m - 1) = nI (k - i - 1 + (j - m - 1)) by exact e3]
      refine jl_aload_n (i := 0) h rfl rfl dc_LO_withOne_30 31 rfl ?_
      refine jl_iload_n (i := 1) h rfl rfl dc_LO_withOne_31 32 rfl ?_
      refine jl_iload_n (i := 2) h rfl rfl dc_LO_withOne_32 33 rfl ?_
      refine jl_iload_n (i := 3) h rfl rfl dc_LO_withOne_33 34 rfl ?_
      refine jl_iload h rfl dc_LO_withOne_34 36 rfl ?_
      refine jl_callV (As := [_, _, _, _]) (rest := [_]) h hr vs_LO_31 vi_LO_stack vx_LO_stack (ci := 2) rfl (by omega) (by exact hLO) (fun l => c_LO_stack l hN hS hLO2 (by omega) hj (by omega) (by omega) h1 h3) (by first | decide | omega) (by first | decide | omega) rfl rfl (Nat.le_of_ble_eq_true rfl) dc_LO_withOne_36 (res := [_, _]) rfl 39 rfl ?_
      refine jl_callS (As := [_, _]) (rest := []) h hr vs_LO_35 vt_LO_stackOrBulge (fun l => c_LO_stackOrBulge l (by omega) _) (by first | decide | omega) (by first | decide | omega) rfl rfl (Nat.le_of_ble_eq_true rfl) dc_LO_withOne_39 (res := [_]) rfl 42 rfl ?_
      exact jl_zret h he rfl (by rw [show lp_w1 b i j k m = lp_bul (k - i - 1 + (j - m - 1)) (lp_stk (en_kd (b i) (b j)) (en_kd (b m) (b k))) from if_pos (by omega)]) (rfl) dc_LO_withOne_42
end LO

