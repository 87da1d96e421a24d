/-! The law: the script as a table that stays; its end; the calls one after the other. -/
def jl_xT (x : jl_X) (b L : Nat) (xs : Nat → Int32) : Prop := match x with
  | (_, _, _, _, s, _, _, _, _, _, _, _, A, _) => va_T .int b L (fun j => .int (xs j)) A s s.heap
section JT
variable {x : jl_X} {N : Nat} {ad : Nat → Nat} {K : Nat → ClassId} {sa : Nat → Nat} {cells slots : Nat} {cc : ByteArray} {own : String} {n : Nat} {E : Nat → va_E} {pc : Nat} {lc : List (Nat × Value)} {st : List Value} {b L : Nat} {xs : Nat → Int32}
theorem jl_xild (h : jl_ok x N ad K sa cc own n) (hT : jl_xT x b L xs) {i0 : Int32} (i : Nat) (hi : i0 = nI i) (hlt : i < L) (h31 : L < 2 ^ 31) (hd : decode cc pc = .ok (.iaload, 1)) (pc2 : Nat) (hpc : pc + 1 = pc2) (kk : jl_J x N ad cells slots E pc2 lc (.int (xs i) :: st)) : jl_J x N ad cells slots E pc lc (.int i0 :: .ref b :: st) := by
  subst hpc
  obtain ⟨p, l, e, R, s, m, args, below, meth, c, Q, D, A, nL⟩ := x
  intro H locs ls hl hP hS
  subst hi
  exact va_ti h.1 h.2.1 hT hS (vp_in_nI hlt h31) (by rw [nI_clamp (Nat.lt_trans hlt h31)]) hd (kk H locs ls hl hP hS)
theorem jl_xlen (h : jl_ok x N ad K sa cc own n) (hT : jl_xT x b L xs) (hd : decode cc pc = .ok (.arraylength, 1)) (pc2 : Nat) (hpc : pc + 1 = pc2) (kk : jl_J x N ad cells slots E pc2 lc (.int (nI L) :: st)) : jl_J x N ad cells slots E pc lc (.ref b :: st) := by
  subst hpc
  obtain ⟨p, l, e, R, s, m, args, below, meth, c, Q, D, A, nL⟩ := x
  intro H locs ls hl hP hS
  exact va_tlen h.1 h.2.1 hT hS rfl hd (kk H locs ls hl hP hS)
end JT
theorem lw_and15 (a : Int32) : ∃ c, c < 16 ∧ a &&& 15 = nI c := by
  refine ⟨(a &&& 15).toBitVec.toNat, ?_, ?_⟩
  · have h : (a &&& 15).toBitVec.toNat = a.toBitVec.toNat &&& 15 := by
      rw [Int32.toBitVec_and, BitVec.toNat_and]
      rfl
    rw [h]
    exact Nat.lt_succ_of_le Nat.and_le_right
  · apply Int32.toBitVec_inj.mp
    show (a &&& 15).toBitVec = BitVec.ofNat 32 _
    rw [BitVec.ofNat_toNat, BitVec.setWidth_eq]
abbrev bc_LW_law : ByteArray := code
abbrev yn_LW_law : MethodName := ⟨"FoldedStrandLaw", "law", "([I)Z"⟩
theorem wn_LW_7 : Cond.classLink "FoldedStrandLaw" 7 "FoldedStrand" ∈ jl_T ∧ Cond.instantiable "FoldedStrand" 7 ∈ jl_T ∧ Cond.initialized "FoldedStrand" ∈ jl_T := ⟨jl_T_of 11 (by decide +kernel) (by decide +kernel), jl_T_of 12 (by decide +kernel) (by decide +kernel), jl_T_of 1 (by decide +kernel) (by decide +kernel)⟩
theorem vs_LW_9 : jl_v "FoldedStrandLaw" 9 yn_FS_init bc_FS_init 2 none 0 := ⟨jl_T_of 15 (by decide +kernel) (by decide +kernel), jl_T_of 1 (by decide +kernel) (by decide +kernel), jl_T_of 13 (by decide +kernel) (by decide +kernel), by decide +kernel, by decide +kernel, by decide +kernel⟩
theorem vi_FS_init : Cond.instanceMethod yn_FS_init ∈ jl_T := jl_T_of 14 (by decide +kernel) (by decide +kernel)
theorem wn_LW_10 : Cond.classLink "FoldedStrandLaw" 10 "FoldedStrandModel" ∈ jl_T ∧ Cond.instantiable "FoldedStrandModel" 14 ∈ jl_T ∧ Cond.initialized "FoldedStrandModel" ∈ jl_T := ⟨jl_T_of 505 (by decide +kernel) (by decide +kernel), jl_T_of 506 (by decide +kernel) (by decide +kernel), jl_T_of 9 (by decide +kernel) (by decide +kernel)⟩
theorem vs_LW_12 : jl_v "FoldedStrandLaw" 12 yn_MO_init bc_MO_init 1 none 0 := ⟨jl_T_of 509 (by decide +kernel) (by decide +kernel), jl_T_of 9 (by decide +kernel) (by decide +kernel), jl_T_of 507 (by decide +kernel) (by decide +kernel), by decide +kernel, by decide +kernel, by decide +kernel⟩
theorem vi_MO_init : Cond.instanceMethod yn_MO_init ∈ jl_T := jl_T_of 508 (by decide +kernel) (by decide +kernel)
theorem vs_LW_13 : jl_v "FoldedStrandLaw" 13 yn_FS_base bc_FS_base 2 (some .boolean) 1 := ⟨jl_T_of 209 (by decide +kernel) (by decide +kernel), jl_T_of 1 (by decide +kernel) (by decide +kernel), jl_T_of 206 (by decide +kernel) (by decide +kernel), by decide +kernel, by decide +kernel, by decide +kernel⟩
theorem vi_FS_base : Cond.instanceMethod yn_FS_base ∈ jl_T := jl_T_of 207 (by decide +kernel) (by decide +kernel)
theorem vx_FS_base : Cond.selects "FoldedStrand" yn_FS_base yn_FS_base ∈ jl_T := jl_T_of 208 (by decide +kernel) (by decide +kernel)
theorem vs_LW_17 : jl_v "FoldedStrandLaw" 17 yn_MO_base bc_MO_base 2 (some .boolean) 1 := ⟨jl_T_of 561 (by decide +kernel) (by decide +kernel), jl_T_of 9 (by decide +kernel) (by decide +kernel), jl_T_of 558 (by decide +kernel) (by decide +kernel), by decide +kernel, by decide +kernel, by decide +kernel⟩
theorem vi_MO_base : Cond.instanceMethod yn_MO_base ∈ jl_T := jl_T_of 559 (by decide +kernel) (by decide +kernel)
theorem vx_MO_base : Cond.selects "FoldedStrandModel" yn_MO_base yn_MO_base ∈ jl_T := jl_T_of 560 (by decide +kernel) (by decide +kernel)
theorem vs_LW_18 : jl_v "FoldedStrandLaw" 18 yn_FS_clear bc_FS_clear 2 (some .int) 0 := ⟨jl_T_of 324 (by decide +kernel) (by decide +kernel), jl_T_of 1 (by decide +kernel) (by decide +kernel), jl_T_of 321 (by decide +kernel) (by decide +kernel), by decide +kernel, by decide +kernel, by decide +kernel⟩
theorem vi_FS_clear : Cond.instanceMethod yn_FS_clear ∈ jl_T := jl_T_of 322 (by decide +kernel) (by decide +kernel)
theorem vx_FS_clear : Cond.selects "FoldedStrand" yn_FS_clear yn_FS_clear ∈ jl_T := jl_T_of 323 (by decide +kernel) (by decide +kernel)
theorem vs_LW_22 : jl_v "FoldedStrandLaw" 22 yn_MO_clear bc_MO_clear 2 (some .int) 0 := ⟨jl_T_of 565 (by decide +kernel) (by decide +kernel), jl_T_of 9 (by decide +kernel) (by decide +kernel), jl_T_of 562 (by decide +kernel) (by decide +kernel), by decide +kernel, by decide +kernel, by decide +kernel⟩
theorem vi_MO_clear : Cond.instanceMethod yn_MO_clear ∈ jl_T := jl_T_of 563 (by decide +kernel) (by decide +kernel)
theorem vx_MO_clear : Cond.selects "FoldedStrandModel" yn_MO_clear yn_MO_clear ∈ jl_T := jl_T_of 564 (by decide +kernel) (by decide +kernel)
theorem vs_LW_23 : jl_v "FoldedStrandLaw" 23 yn_FS_most bc_FS_most 1 (some .int) 0 := ⟨jl_T_of 332 (by decide +kernel) (by decide +kernel), jl_T_of 1 (by decide +kernel) (by decide +kernel), jl_T_of 329 (by decide +kernel) (by decide +kernel), by decide +kernel, by decide +kernel, by decide +kernel⟩
theorem vi_FS_most : Cond.instanceMethod yn_FS_most ∈ jl_T := jl_T_of 330 (by decide +kernel) (by decide +kernel)
theorem vx_FS_most : Cond.selects "FoldedStrand" yn_FS_most yn_FS_most ∈ jl_T := jl_T_of 331 (by decide +kernel) (by decide +kernel)
theorem vs_LW_26 : jl_v "FoldedStrandLaw" 26 yn_MO_most bc_MO_most 1 (some .int) 0 := ⟨jl_T_of 569 (by decide +kernel) (by decide +kernel), jl_T_of 9 (by decide +kernel) (by decide +kernel), jl_T_of 566 (by decide +kernel) (by decide +kernel), by decide +kernel, by decide +kernel, by decide +kernel⟩
theorem vi_MO_most : Cond.instanceMethod yn_MO_most ∈ jl_T := jl_T_of 567 (by decide +kernel) (by decide +kernel)
theorem vx_MO_most : Cond.selects "FoldedStrandModel" yn_MO_most yn_MO_most ∈ jl_T := jl_T_of 568 (by decide +kernel) (by decide +kernel)
theorem vs_LW_27 : jl_v "FoldedStrandLaw" 27 yn_FS_least bc_FS_least 1 (some .int) 0 := ⟨jl_T_of 340 (by decide +kernel) (by decide +kernel), jl_T_of 1 (by decide +kernel) (by decide +kernel), jl_T_of 337 (by decide +kernel) (by decide +kernel), by decide +kernel, by decide +kernel, by decide +kernel⟩
theorem vi_FS_least : Cond.instanceMethod yn_FS_least ∈ jl_T := jl_T_of 338 (by decide +kernel) (by decide +kernel)
theorem vx_FS_least : Cond.selects "FoldedStrand" yn_FS_least yn_FS_least ∈ jl_T := jl_T_of 339 (by decide +kernel) (by decide +kernel)
theorem vs_LW_30 : jl_v "FoldedStrandLaw" 30 yn_MO_least bc_MO_least 1 (some .int) 0 := ⟨jl_T_of 629 (by decide +kernel) (by decide +kernel), jl_T_of 9 (by decide +kernel) (by decide +kernel), jl_T_of 626 (by decide +kernel) (by decide +kernel), by decide +kernel, by decide +kernel, by decide +kernel⟩
theorem vi_MO_least : Cond.instanceMethod yn_MO_least ∈ jl_T := jl_T_of 627 (by decide +kernel) (by decide +kernel)
theorem vx_MO_least : Cond.selects "FoldedStrandModel" yn_MO_least yn_MO_least ∈ jl_T := jl_T_of 628 (by decide +kernel) (by decide +kernel)
theorem vs_LW_31 : jl_v "FoldedStrandLaw" 31 yn_FS_ways bc_FS_ways 1 (some .int) 0 := ⟨jl_T_of 348 (by decide +kernel) (by decide +kernel), jl_T_of 1 (by decide +kernel) (by decide +kernel), jl_T_of 345 (by decide +kernel) (by decide +kernel), by decide +kernel, by decide +kernel, by decide +kernel⟩
theorem vi_FS_ways : Cond.instanceMethod yn_FS_ways ∈ jl_T := jl_T_of 346 (by decide +kernel) (by decide +kernel)
theorem vx_FS_ways : Cond.selects "FoldedStrand" yn_FS_ways yn_FS_ways ∈ jl_T := jl_T_of 347 (by decide +kernel) (by decide +kernel)
theorem vs_LW_34 : jl_v "FoldedStrandLaw" 34 yn_MO_ways bc_MO_ways 1 (some .int) 0 := ⟨jl_T_of 633 (by decide +kernel) (by decide +kernel), jl_T_of 9 (by decide +kernel) (by decide +kernel), jl_T_of 630 (by decide +kernel) (by decide +kernel), by decide +kernel, by decide +kernel, by decide +kernel⟩
theorem vi_MO_ways : Cond.instanceMethod yn_MO_ways ∈ jl_T := jl_T_of 631 (by decide +kernel) (by decide +kernel)
theorem vx_MO_ways : Cond.selects "FoldedStrandModel" yn_MO_ways yn_MO_ways ∈ jl_T := jl_T_of 632 (by decide +kernel) (by decide +kernel)
theorem vs_LW_35 : jl_v "FoldedStrandLaw" 35 yn_FS_list bc_FS_list 2 (some .int) 1 := ⟨jl_T_of 356 (by decide +kernel) (by decide +kernel), jl_T_of 1 (by decide +kernel) (by decide +kernel), jl_T_of 353 (by decide +kernel) (by decide +kernel), by decide +kernel, by decide +kernel, by decide +kernel⟩
theorem vi_FS_list : Cond.instanceMethod yn_FS_list ∈ jl_T := jl_T_of 354 (by decide +kernel) (by decide +kernel)
theorem vx_FS_list : Cond.selects "FoldedStrand" yn_FS_list yn_FS_list ∈ jl_T := jl_T_of 355 (by decide +kernel) (by decide +kernel)
theorem vs_LW_39 : jl_v "FoldedStrandLaw" 39 yn_MO_list bc_MO_list 4 (some .int) 1 := ⟨jl_T_of 637 (by decide +kernel) (by decide +kernel), jl_T_of 9 (by decide +kernel) (by decide +kernel), jl_T_of 634 (by decide +kernel) (by decide +kernel), by decide +kernel, by decide +kernel, by decide +kernel⟩
theorem vi_MO_list : Cond.instanceMethod yn_MO_list ∈ jl_T := jl_T_of 635 (by decide +kernel) (by decide +kernel)
theorem vx_MO_list : Cond.selects "FoldedStrandModel" yn_MO_list yn_MO_list ∈ jl_T := jl_T_of 636 (by decide +kernel) (by decide +kernel)
theorem vs_LW_40 : jl_v "FoldedStrandLaw" 40 yn_FS_energyOf bc_FS_energyOf 2 (some .int) 1 := ⟨jl_T_of 407 (by decide +kernel) (by decide +kernel), jl_T_of 1 (by decide +kernel) (by decide +kernel), jl_T_of 404 (by decide +kernel) (by decide +kernel), by decide +kernel, by decide +kernel, by decide +kernel⟩
theorem vi_FS_energyOf : Cond.instanceMethod yn_FS_energyOf ∈ jl_T := jl_T_of 405 (by decide +kernel) (by decide +kernel)
theorem vx_FS_energyOf : Cond.selects "FoldedStrand" yn_FS_energyOf yn_FS_energyOf ∈ jl_T := jl_T_of 406 (by decide +kernel) (by decide +kernel)
theorem vs_LW_43 : jl_v "FoldedStrandLaw" 43 yn_MO_energyOf bc_MO_energyOf 2 (some .int) 1 := ⟨jl_T_of 657 (by decide +kernel) (by decide +kernel), jl_T_of 9 (by decide +kernel) (by decide +kernel), jl_T_of 654 (by decide +kernel) (by decide +kernel), by decide +kernel, by decide +kernel, by decide +kernel⟩
theorem vi_MO_energyOf : Cond.instanceMethod yn_MO_energyOf ∈ jl_T := jl_T_of 655 (by decide +kernel) (by decide +kernel)
theorem vx_MO_energyOf : Cond.selects "FoldedStrandModel" yn_MO_energyOf yn_MO_energyOf ∈ jl_T := jl_T_of 656 (by decide +kernel) (by decide +kernel)
theorem vs_LW_44 : jl_v "FoldedStrandLaw" 44 yn_FS_at bc_FS_at 3 (some .int) 2 := ⟨jl_T_of 419 (by decide +kernel) (by decide +kernel), jl_T_of 1 (by decide +kernel) (by decide +kernel), jl_T_of 416 (by decide +kernel) (by decide +kernel), by decide +kernel, by decide +kernel, by decide +kernel⟩
theorem vi_FS_at : Cond.instanceMethod yn_FS_at ∈ jl_T := jl_T_of 417 (by decide +kernel) (by decide +kernel)
theorem vx_FS_at : Cond.selects "FoldedStrand" yn_FS_at yn_FS_at ∈ jl_T := jl_T_of 418 (by decide +kernel) (by decide +kernel)
theorem vs_LW_48 : jl_v "FoldedStrandLaw" 48 yn_MO_at bc_MO_at 3 (some .int) 2 := ⟨jl_T_of 665 (by decide +kernel) (by decide +kernel), jl_T_of 9 (by decide +kernel) (by decide +kernel), jl_T_of 662 (by decide +kernel) (by decide +kernel), by decide +kernel, by decide +kernel, by decide +kernel⟩
theorem vi_MO_at : Cond.instanceMethod yn_MO_at ∈ jl_T := jl_T_of 663 (by decide +kernel) (by decide +kernel)
theorem vx_MO_at : Cond.selects "FoldedStrandModel" yn_MO_at yn_MO_at ∈ jl_T := jl_T_of 664 (by decide +kernel) (by decide +kernel)
theorem vs_LW_49 : jl_v "FoldedStrandLaw" 49 yn_FS_take bc_FS_take 3 (some .int) 1 := ⟨jl_T_of 431 (by decide +kernel) (by decide +kernel), jl_T_of 1 (by decide +kernel) (by decide +kernel), jl_T_of 428 (by decide +kernel) (by decide +kernel), by decide +kernel, by decide +kernel, by decide +kernel⟩
theorem vi_FS_take : Cond.instanceMethod yn_FS_take ∈ jl_T := jl_T_of 429 (by decide +kernel) (by decide +kernel)
theorem vx_FS_take : Cond.selects "FoldedStrand" yn_FS_take yn_FS_take ∈ jl_T := jl_T_of 430 (by decide +kernel) (by decide +kernel)
theorem vs_LW_52 : jl_v "FoldedStrandLaw" 52 yn_MO_take bc_MO_take 3 (some .int) 1 := ⟨jl_T_of 669 (by decide +kernel) (by decide +kernel), jl_T_of 9 (by decide +kernel) (by decide +kernel), jl_T_of 666 (by decide +kernel) (by decide +kernel), by decide +kernel, by decide +kernel, by decide +kernel⟩
theorem vi_MO_take : Cond.instanceMethod yn_MO_take ∈ jl_T := jl_T_of 667 (by decide +kernel) (by decide +kernel)
theorem vx_MO_take : Cond.selects "FoldedStrandModel" yn_MO_take yn_MO_take ∈ jl_T := jl_T_of 668 (by decide +kernel) (by decide +kernel)
theorem vs_LW_53 : jl_v "FoldedStrandLaw" 53 yn_FS_type bc_FS_type 2 (some .boolean) 1 := ⟨jl_T_of 454 (by decide +kernel) (by decide +kernel), jl_T_of 1 (by decide +kernel) (by decide +kernel), jl_T_of 451 (by decide +kernel) (by decide +kernel), by decide +kernel, by decide +kernel, by decide +kernel⟩
theorem vi_FS_type : Cond.instanceMethod yn_FS_type ∈ jl_T := jl_T_of 452 (by decide +kernel) (by decide +kernel)
theorem vx_FS_type : Cond.selects "FoldedStrand" yn_FS_type yn_FS_type ∈ jl_T := jl_T_of 453 (by decide +kernel) (by decide +kernel)
theorem vs_LW_56 : jl_v "FoldedStrandLaw" 56 yn_MO_type bc_MO_type 2 (some .boolean) 1 := ⟨jl_T_of 681 (by decide +kernel) (by decide +kernel), jl_T_of 9 (by decide +kernel) (by decide +kernel), jl_T_of 678 (by decide +kernel) (by decide +kernel), by decide +kernel, by decide +kernel, by decide +kernel⟩
theorem vi_MO_type : Cond.instanceMethod yn_MO_type ∈ jl_T := jl_T_of 679 (by decide +kernel) (by decide +kernel)
theorem vx_MO_type : Cond.selects "FoldedStrandModel" yn_MO_type yn_MO_type ∈ jl_T := jl_T_of 680 (by decide +kernel) (by decide +kernel)
theorem vs_LW_57 : jl_v "FoldedStrandLaw" 57 yn_FS_read bc_FS_read 3 (some .int) 0 := ⟨jl_T_of 458 (by decide +kernel) (by decide +kernel), jl_T_of 1 (by decide +kernel) (by decide +kernel), jl_T_of 455 (by decide +kernel) (by decide +kernel), by decide +kernel, by decide +kernel, by decide +kernel⟩
theorem vi_FS_read : Cond.instanceMethod yn_FS_read ∈ jl_T := jl_T_of 456 (by decide +kernel) (by decide +kernel)
theorem vx_FS_read : Cond.selects "FoldedStrand" yn_FS_read yn_FS_read ∈ jl_T := jl_T_of 457 (by decide +kernel) (by decide +kernel)
theorem vs_LW_60 : jl_v "FoldedStrandLaw" 60 yn_MO_read bc_MO_read 4 (some .int) 0 := ⟨jl_T_of 685 (by decide +kernel) (by decide +kernel), jl_T_of 9 (by decide +kernel) (by decide +kernel), jl_T_of 682 (by decide +kernel) (by decide +kernel), by decide +kernel, by decide +kernel, by decide +kernel⟩
theorem vi_MO_read : Cond.instanceMethod yn_MO_read ∈ jl_T := jl_T_of 683 (by decide +kernel) (by decide +kernel)
theorem vx_MO_read : Cond.selects "FoldedStrandModel" yn_MO_read yn_MO_read ∈ jl_T := jl_T_of 684 (by decide +kernel) (by decide +kernel)
theorem vs_LW_61 : jl_v "FoldedStrandLaw" 61 yn_FS_energy bc_FS_energy 1 (some .int) 0 := ⟨jl_T_of 466 (by decide +kernel) (by decide +kernel), jl_T_of 1 (by decide +kernel) (by decide +kernel), jl_T_of 463 (by decide +kernel) (by decide +kernel), by decide +kernel, by decide +kernel, by decide +kernel⟩
theorem vi_FS_energy : Cond.instanceMethod yn_FS_energy ∈ jl_T := jl_T_of 464 (by decide +kernel) (by decide +kernel)
theorem vx_FS_energy : Cond.selects "FoldedStrand" yn_FS_energy yn_FS_energy ∈ jl_T := jl_T_of 465 (by decide +kernel) (by decide +kernel)
theorem vs_LW_64 : jl_v "FoldedStrandLaw" 64 yn_MO_energy bc_MO_energy 1 (some .int) 0 := ⟨jl_T_of 697 (by decide +kernel) (by decide +kernel), jl_T_of 9 (by decide +kernel) (by decide +kernel), jl_T_of 694 (by decide +kernel) (by decide +kernel), by decide +kernel, by decide +kernel, by decide +kernel⟩
theorem vi_MO_energy : Cond.instanceMethod yn_MO_energy ∈ jl_T := jl_T_of 695 (by decide +kernel) (by decide +kernel)
theorem vx_MO_energy : Cond.selects "FoldedStrandModel" yn_MO_energy yn_MO_energy ∈ jl_T := jl_T_of 696 (by decide +kernel) (by decide +kernel)
theorem vs_LW_65 : jl_v "FoldedStrandLaw" 65 yn_FS_partner bc_FS_partner 2 (some .int) 1 := ⟨jl_T_of 490 (by decide +kernel) (by decide +kernel), jl_T_of 1 (by decide +kernel) (by decide +kernel), jl_T_of 487 (by decide +kernel) (by decide +kernel), by decide +kernel, by decide +kernel, by decide +kernel⟩
theorem vi_FS_partner : Cond.instanceMethod yn_FS_partner ∈ jl_T := jl_T_of 488 (by decide +kernel) (by decide +kernel)
theorem vx_FS_partner : Cond.selects "FoldedStrand" yn_FS_partner yn_FS_partner ∈ jl_T := jl_T_of 489 (by decide +kernel) (by decide +kernel)
theorem vs_LW_68 : jl_v "FoldedStrandLaw" 68 yn_MO_partner bc_MO_partner 2 (some .int) 1 := ⟨jl_T_of 701 (by decide +kernel) (by decide +kernel), jl_T_of 9 (by decide +kernel) (by decide +kernel), jl_T_of 698 (by decide +kernel) (by decide +kernel), by decide +kernel, by decide +kernel, by decide +kernel⟩
theorem vi_MO_partner : Cond.instanceMethod yn_MO_partner ∈ jl_T := jl_T_of 699 (by decide +kernel) (by decide +kernel)
theorem vx_MO_partner : Cond.selects "FoldedStrandModel" yn_MO_partner yn_MO_partner ∈ jl_T := jl_T_of 700 (by decide +kernel) (by decide +kernel)
theorem vs_LW_69 : jl_v "FoldedStrandLaw" 69 yn_FS_loop bc_FS_loop 2 (some .int) 1 := ⟨jl_T_of 502 (by decide +kernel) (by decide +kernel), jl_T_of 1 (by decide +kernel) (by decide +kernel), jl_T_of 499 (by decide +kernel) (by decide +kernel), by decide +kernel, by decide +kernel, by decide +kernel⟩
theorem vi_FS_loop : Cond.instanceMethod yn_FS_loop ∈ jl_T := jl_T_of 500 (by decide +kernel) (by decide +kernel)
theorem vx_FS_loop : Cond.selects "FoldedStrand" yn_FS_loop yn_FS_loop ∈ jl_T := jl_T_of 501 (by decide +kernel) (by decide +kernel)
theorem vs_LW_72 : jl_v "FoldedStrandLaw" 72 yn_MO_loop bc_MO_loop 2 (some .int) 1 := ⟨jl_T_of 705 (by decide +kernel) (by decide +kernel), jl_T_of 9 (by decide +kernel) (by decide +kernel), jl_T_of 702 (by decide +kernel) (by decide +kernel), by decide +kernel, by decide +kernel, by decide +kernel⟩
theorem vi_MO_loop : Cond.instanceMethod yn_MO_loop ∈ jl_T := jl_T_of 703 (by decide +kernel) (by decide +kernel)
theorem vx_MO_loop : Cond.selects "FoldedStrandModel" yn_MO_loop yn_MO_loop ∈ jl_T := jl_T_of 704 (by decide +kernel) (by decide +kernel)
theorem dc_LW_law_0 : decode bc_LW_law 0 = .ok (.new 7, 3) := by decide +kernel
theorem dc_LW_law_3 : decode bc_LW_law 3 = .ok (.dup, 1) := by decide +kernel
theorem dc_LW_law_4 : decode bc_LW_law 4 = .ok (.invokespecial 9, 3) := by decide +kernel
theorem dc_LW_law_7 : decode bc_LW_law 7 = .ok (.astore_n 1, 1) := by decide +kernel
theorem dc_LW_law_8 : decode bc_LW_law 8 = .ok (.new 10, 3) := by decide +kernel
theorem dc_LW_law_11 : decode bc_LW_law 11 = .ok (.dup, 1) := by decide +kernel
theorem dc_LW_law_12 : decode bc_LW_law 12 = .ok (.invokespecial 12, 3) := by decide +kernel
theorem dc_LW_law_15 : decode bc_LW_law 15 = .ok (.astore_n 2, 1) := by decide +kernel
theorem dc_LW_law_16 : decode bc_LW_law 16 = .ok (.iconst 0, 1) := by decide +kernel
theorem dc_LW_law_17 : decode bc_LW_law 17 = .ok (.istore_n 3, 1) := by decide +kernel
theorem dc_LW_law_18 : decode bc_LW_law 18 = .ok (.iload_n 3, 1) := by decide +kernel
theorem dc_LW_law_19 : decode bc_LW_law 19 = .ok (.aload_n 0, 1) := by decide +kernel
theorem dc_LW_law_20 : decode bc_LW_law 20 = .ok (.arraylength, 1) := by decide +kernel
theorem dc_LW_law_21 : decode bc_LW_law 21 = .ok (.iconst 3, 1) := by decide +kernel
theorem dc_LW_law_22 : decode bc_LW_law 22 = .ok (.isub, 1) := by decide +kernel
theorem dc_LW_law_23 : decode bc_LW_law 23 = .ok (.if_icmp .gt 363, 3) := by decide +kernel
theorem dc_LW_law_26 : decode bc_LW_law 26 = .ok (.aload_n 0, 1) := by decide +kernel
theorem dc_LW_law_27 : decode bc_LW_law 27 = .ok (.iload_n 3, 1) := by decide +kernel
theorem dc_LW_law_28 : decode bc_LW_law 28 = .ok (.iaload, 1) := by decide +kernel
theorem dc_LW_law_29 : decode bc_LW_law 29 = .ok (.bipush 15, 2) := by decide +kernel
theorem dc_LW_law_31 : decode bc_LW_law 31 = .ok (.iand, 1) := by decide +kernel
theorem dc_LW_law_32 : decode bc_LW_law 32 = .ok (.tableswitch 348 0 13 #[72, 97, 110, 123, 136, 149, 172, 195, 228, 251, 276, 289, 302, 325], 72) := by decide +kernel
theorem dc_LW_law_104 : decode bc_LW_law 104 = .ok (.aload_n 1, 1) := by decide +kernel
theorem dc_LW_law_105 : decode bc_LW_law 105 = .ok (.aload_n 0, 1) := by decide +kernel
theorem dc_LW_law_106 : decode bc_LW_law 106 = .ok (.iload_n 3, 1) := by decide +kernel
theorem dc_LW_law_107 : decode bc_LW_law 107 = .ok (.iconst 1, 1) := by decide +kernel
theorem dc_LW_law_108 : decode bc_LW_law 108 = .ok (.iadd, 1) := by decide +kernel
theorem dc_LW_law_109 : decode bc_LW_law 109 = .ok (.iaload, 1) := by decide +kernel
theorem dc_LW_law_110 : decode bc_LW_law 110 = .ok (.i2c, 1) := by decide +kernel
theorem dc_LW_law_111 : decode bc_LW_law 111 = .ok (.invokevirtual 13, 3) := by decide +kernel
theorem dc_LW_law_114 : decode bc_LW_law 114 = .ok (.aload_n 2, 1) := by decide +kernel
theorem dc_LW_law_115 : decode bc_LW_law 115 = .ok (.aload_n 0, 1) := by decide +kernel
theorem dc_LW_law_116 : decode bc_LW_law 116 = .ok (.iload_n 3, 1) := by decide +kernel
theorem dc_LW_law_117 : decode bc_LW_law 117 = .ok (.iconst 1, 1) := by decide +kernel
theorem dc_LW_law_118 : decode bc_LW_law 118 = .ok (.iadd, 1) := by decide +kernel
theorem dc_LW_law_119 : decode bc_LW_law 119 = .ok (.iaload, 1) := by decide +kernel
theorem dc_LW_law_120 : decode bc_LW_law 120 = .ok (.i2c, 1) := by decide +kernel
theorem dc_LW_law_121 : decode bc_LW_law 121 = .ok (.invokevirtual 17, 3) := by decide +kernel
theorem dc_LW_law_124 : decode bc_LW_law 124 = .ok (.if_icmp .eq 256, 3) := by decide +kernel
theorem dc_LW_law_127 : decode bc_LW_law 127 = .ok (.iconst 0, 1) := by decide +kernel
theorem dc_LW_law_128 : decode bc_LW_law 128 = .ok (.ireturn, 1) := by decide +kernel
theorem dc_LW_law_129 : decode bc_LW_law 129 = .ok (.aload_n 1, 1) := by decide +kernel
theorem dc_LW_law_130 : decode bc_LW_law 130 = .ok (.invokevirtual 18, 3) := by decide +kernel
theorem dc_LW_law_133 : decode bc_LW_law 133 = .ok (.aload_n 2, 1) := by decide +kernel
theorem dc_LW_law_134 : decode bc_LW_law 134 = .ok (.invokevirtual 22, 3) := by decide +kernel
theorem dc_LW_law_137 : decode bc_LW_law 137 = .ok (.if_icmp .eq 243, 3) := by decide +kernel
theorem dc_LW_law_140 : decode bc_LW_law 140 = .ok (.iconst 0, 1) := by decide +kernel
theorem dc_LW_law_141 : decode bc_LW_law 141 = .ok (.ireturn, 1) := by decide +kernel
theorem dc_LW_law_142 : decode bc_LW_law 142 = .ok (.aload_n 1, 1) := by decide +kernel
theorem dc_LW_law_143 : decode bc_LW_law 143 = .ok (.invokevirtual 23, 3) := by decide +kernel
theorem dc_LW_law_146 : decode bc_LW_law 146 = .ok (.aload_n 2, 1) := by decide +kernel
theorem dc_LW_law_147 : decode bc_LW_law 147 = .ok (.invokevirtual 26, 3) := by decide +kernel
theorem dc_LW_law_150 : decode bc_LW_law 150 = .ok (.if_icmp .eq 230, 3) := by decide +kernel
theorem dc_LW_law_153 : decode bc_LW_law 153 = .ok (.iconst 0, 1) := by decide +kernel
theorem dc_LW_law_154 : decode bc_LW_law 154 = .ok (.ireturn, 1) := by decide +kernel
theorem dc_LW_law_155 : decode bc_LW_law 155 = .ok (.aload_n 1, 1) := by decide +kernel
theorem dc_LW_law_156 : decode bc_LW_law 156 = .ok (.invokevirtual 27, 3) := by decide +kernel
theorem dc_LW_law_159 : decode bc_LW_law 159 = .ok (.aload_n 2, 1) := by decide +kernel
theorem dc_LW_law_160 : decode bc_LW_law 160 = .ok (.invokevirtual 30, 3) := by decide +kernel
theorem dc_LW_law_163 : decode bc_LW_law 163 = .ok (.if_icmp .eq 217, 3) := by decide +kernel
theorem dc_LW_law_166 : decode bc_LW_law 166 = .ok (.iconst 0, 1) := by decide +kernel
theorem dc_LW_law_167 : decode bc_LW_law 167 = .ok (.ireturn, 1) := by decide +kernel
theorem dc_LW_law_168 : decode bc_LW_law 168 = .ok (.aload_n 1, 1) := by decide +kernel
theorem dc_LW_law_169 : decode bc_LW_law 169 = .ok (.invokevirtual 31, 3) := by decide +kernel
theorem dc_LW_law_172 : decode bc_LW_law 172 = .ok (.aload_n 2, 1) := by decide +kernel
theorem dc_LW_law_173 : decode bc_LW_law 173 = .ok (.invokevirtual 34, 3) := by decide +kernel
theorem dc_LW_law_176 : decode bc_LW_law 176 = .ok (.if_icmp .eq 204, 3) := by decide +kernel
theorem dc_LW_law_179 : decode bc_LW_law 179 = .ok (.iconst 0, 1) := by decide +kernel
theorem dc_LW_law_180 : decode bc_LW_law 180 = .ok (.ireturn, 1) := by decide +kernel
theorem dc_LW_law_181 : decode bc_LW_law 181 = .ok (.aload_n 1, 1) := by decide +kernel
theorem dc_LW_law_182 : decode bc_LW_law 182 = .ok (.aload_n 0, 1) := by decide +kernel
theorem dc_LW_law_183 : decode bc_LW_law 183 = .ok (.iload_n 3, 1) := by decide +kernel
theorem dc_LW_law_184 : decode bc_LW_law 184 = .ok (.iconst 1, 1) := by decide +kernel
theorem dc_LW_law_185 : decode bc_LW_law 185 = .ok (.iadd, 1) := by decide +kernel
theorem dc_LW_law_186 : decode bc_LW_law 186 = .ok (.iaload, 1) := by decide +kernel
theorem dc_LW_law_187 : decode bc_LW_law 187 = .ok (.invokevirtual 35, 3) := by decide +kernel
theorem dc_LW_law_190 : decode bc_LW_law 190 = .ok (.aload_n 2, 1) := by decide +kernel
theorem dc_LW_law_191 : decode bc_LW_law 191 = .ok (.aload_n 0, 1) := by decide +kernel
theorem dc_LW_law_192 : decode bc_LW_law 192 = .ok (.iload_n 3, 1) := by decide +kernel
theorem dc_LW_law_193 : decode bc_LW_law 193 = .ok (.iconst 1, 1) := by decide +kernel
theorem dc_LW_law_194 : decode bc_LW_law 194 = .ok (.iadd, 1) := by decide +kernel
theorem dc_LW_law_195 : decode bc_LW_law 195 = .ok (.iaload, 1) := by decide +kernel
theorem dc_LW_law_196 : decode bc_LW_law 196 = .ok (.invokevirtual 39, 3) := by decide +kernel
theorem dc_LW_law_199 : decode bc_LW_law 199 = .ok (.if_icmp .eq 181, 3) := by decide +kernel
theorem dc_LW_law_202 : decode bc_LW_law 202 = .ok (.iconst 0, 1) := by decide +kernel
theorem dc_LW_law_203 : decode bc_LW_law 203 = .ok (.ireturn, 1) := by decide +kernel
theorem dc_LW_law_204 : decode bc_LW_law 204 = .ok (.aload_n 1, 1) := by decide +kernel
theorem dc_LW_law_205 : decode bc_LW_law 205 = .ok (.aload_n 0, 1) := by decide +kernel
theorem dc_LW_law_206 : decode bc_LW_law 206 = .ok (.iload_n 3, 1) := by decide +kernel
theorem dc_LW_law_207 : decode bc_LW_law 207 = .ok (.iconst 1, 1) := by decide +kernel
theorem dc_LW_law_208 : decode bc_LW_law 208 = .ok (.iadd, 1) := by decide +kernel
theorem dc_LW_law_209 : decode bc_LW_law 209 = .ok (.iaload, 1) := by decide +kernel
theorem dc_LW_law_210 : decode bc_LW_law 210 = .ok (.invokevirtual 40, 3) := by decide +kernel
theorem dc_LW_law_213 : decode bc_LW_law 213 = .ok (.aload_n 2, 1) := by decide +kernel
theorem dc_LW_law_214 : decode bc_LW_law 214 = .ok (.aload_n 0, 1) := by decide +kernel
theorem dc_LW_law_215 : decode bc_LW_law 215 = .ok (.iload_n 3, 1) := by decide +kernel
theorem dc_LW_law_216 : decode bc_LW_law 216 = .ok (.iconst 1, 1) := by decide +kernel
theorem dc_LW_law_217 : decode bc_LW_law 217 = .ok (.iadd, 1) := by decide +kernel
theorem dc_LW_law_218 : decode bc_LW_law 218 = .ok (.iaload, 1) := by decide +kernel
theorem dc_LW_law_219 : decode bc_LW_law 219 = .ok (.invokevirtual 43, 3) := by decide +kernel
theorem dc_LW_law_222 : decode bc_LW_law 222 = .ok (.if_icmp .eq 158, 3) := by decide +kernel
theorem dc_LW_law_225 : decode bc_LW_law 225 = .ok (.iconst 0, 1) := by decide +kernel
theorem dc_LW_law_226 : decode bc_LW_law 226 = .ok (.ireturn, 1) := by decide +kernel
theorem dc_LW_law_227 : decode bc_LW_law 227 = .ok (.aload_n 1, 1) := by decide +kernel
theorem dc_LW_law_228 : decode bc_LW_law 228 = .ok (.aload_n 0, 1) := by decide +kernel
theorem dc_LW_law_229 : decode bc_LW_law 229 = .ok (.iload_n 3, 1) := by decide +kernel
theorem dc_LW_law_230 : decode bc_LW_law 230 = .ok (.iconst 1, 1) := by decide +kernel
theorem dc_LW_law_231 : decode bc_LW_law 231 = .ok (.iadd, 1) := by decide +kernel
theorem dc_LW_law_232 : decode bc_LW_law 232 = .ok (.iaload, 1) := by decide +kernel
theorem dc_LW_law_233 : decode bc_LW_law 233 = .ok (.aload_n 0, 1) := by decide +kernel
theorem dc_LW_law_234 : decode bc_LW_law 234 = .ok (.iload_n 3, 1) := by decide +kernel
theorem dc_LW_law_235 : decode bc_LW_law 235 = .ok (.iconst 2, 1) := by decide +kernel
theorem dc_LW_law_236 : decode bc_LW_law 236 = .ok (.iadd, 1) := by decide +kernel
theorem dc_LW_law_237 : decode bc_LW_law 237 = .ok (.iaload, 1) := by decide +kernel
theorem dc_LW_law_238 : decode bc_LW_law 238 = .ok (.invokevirtual 44, 3) := by decide +kernel
theorem dc_LW_law_241 : decode bc_LW_law 241 = .ok (.aload_n 2, 1) := by decide +kernel
theorem dc_LW_law_242 : decode bc_LW_law 242 = .ok (.aload_n 0, 1) := by decide +kernel
theorem dc_LW_law_243 : decode bc_LW_law 243 = .ok (.iload_n 3, 1) := by decide +kernel
theorem dc_LW_law_244 : decode bc_LW_law 244 = .ok (.iconst 1, 1) := by decide +kernel
theorem dc_LW_law_245 : decode bc_LW_law 245 = .ok (.iadd, 1) := by decide +kernel
theorem dc_LW_law_246 : decode bc_LW_law 246 = .ok (.iaload, 1) := by decide +kernel
theorem dc_LW_law_247 : decode bc_LW_law 247 = .ok (.aload_n 0, 1) := by decide +kernel
theorem dc_LW_law_248 : decode bc_LW_law 248 = .ok (.iload_n 3, 1) := by decide +kernel
theorem dc_LW_law_249 : decode bc_LW_law 249 = .ok (.iconst 2, 1) := by decide +kernel
theorem dc_LW_law_250 : decode bc_LW_law 250 = .ok (.iadd, 1) := by decide +kernel
theorem dc_LW_law_251 : decode bc_LW_law 251 = .ok (.iaload, 1) := by decide +kernel
theorem dc_LW_law_252 : decode bc_LW_law 252 = .ok (.invokevirtual 48, 3) := by decide +kernel
theorem dc_LW_law_255 : decode bc_LW_law 255 = .ok (.if_icmp .eq 125, 3) := by decide +kernel
theorem dc_LW_law_258 : decode bc_LW_law 258 = .ok (.iconst 0, 1) := by decide +kernel
theorem dc_LW_law_259 : decode bc_LW_law 259 = .ok (.ireturn, 1) := by decide +kernel
theorem dc_LW_law_260 : decode bc_LW_law 260 = .ok (.aload_n 1, 1) := by decide +kernel
theorem dc_LW_law_261 : decode bc_LW_law 261 = .ok (.aload_n 0, 1) := by decide +kernel
theorem dc_LW_law_262 : decode bc_LW_law 262 = .ok (.iload_n 3, 1) := by decide +kernel
theorem dc_LW_law_263 : decode bc_LW_law 263 = .ok (.iconst 1, 1) := by decide +kernel
theorem dc_LW_law_264 : decode bc_LW_law 264 = .ok (.iadd, 1) := by decide +kernel
theorem dc_LW_law_265 : decode bc_LW_law 265 = .ok (.iaload, 1) := by decide +kernel
theorem dc_LW_law_266 : decode bc_LW_law 266 = .ok (.invokevirtual 49, 3) := by decide +kernel
theorem dc_LW_law_269 : decode bc_LW_law 269 = .ok (.aload_n 2, 1) := by decide +kernel
theorem dc_LW_law_270 : decode bc_LW_law 270 = .ok (.aload_n 0, 1) := by decide +kernel
theorem dc_LW_law_271 : decode bc_LW_law 271 = .ok (.iload_n 3, 1) := by decide +kernel
theorem dc_LW_law_272 : decode bc_LW_law 272 = .ok (.iconst 1, 1) := by decide +kernel
theorem dc_LW_law_273 : decode bc_LW_law 273 = .ok (.iadd, 1) := by decide +kernel
theorem dc_LW_law_274 : decode bc_LW_law 274 = .ok (.iaload, 1) := by decide +kernel
theorem dc_LW_law_275 : decode bc_LW_law 275 = .ok (.invokevirtual 52, 3) := by decide +kernel
theorem dc_LW_law_278 : decode bc_LW_law 278 = .ok (.if_icmp .eq 102, 3) := by decide +kernel
theorem dc_LW_law_281 : decode bc_LW_law 281 = .ok (.iconst 0, 1) := by decide +kernel
theorem dc_LW_law_282 : decode bc_LW_law 282 = .ok (.ireturn, 1) := by decide +kernel
theorem dc_LW_law_283 : decode bc_LW_law 283 = .ok (.aload_n 1, 1) := by decide +kernel
theorem dc_LW_law_284 : decode bc_LW_law 284 = .ok (.aload_n 0, 1) := by decide +kernel
theorem dc_LW_law_285 : decode bc_LW_law 285 = .ok (.iload_n 3, 1) := by decide +kernel
theorem dc_LW_law_286 : decode bc_LW_law 286 = .ok (.iconst 1, 1) := by decide +kernel
theorem dc_LW_law_287 : decode bc_LW_law 287 = .ok (.iadd, 1) := by decide +kernel
theorem dc_LW_law_288 : decode bc_LW_law 288 = .ok (.iaload, 1) := by decide +kernel
theorem dc_LW_law_289 : decode bc_LW_law 289 = .ok (.i2c, 1) := by decide +kernel
theorem dc_LW_law_290 : decode bc_LW_law 290 = .ok (.invokevirtual 53, 3) := by decide +kernel
theorem dc_LW_law_293 : decode bc_LW_law 293 = .ok (.aload_n 2, 1) := by decide +kernel
theorem dc_LW_law_294 : decode bc_LW_law 294 = .ok (.aload_n 0, 1) := by decide +kernel
theorem dc_LW_law_295 : decode bc_LW_law 295 = .ok (.iload_n 3, 1) := by decide +kernel
theorem dc_LW_law_296 : decode bc_LW_law 296 = .ok (.iconst 1, 1) := by decide +kernel
theorem dc_LW_law_297 : decode bc_LW_law 297 = .ok (.iadd, 1) := by decide +kernel
theorem dc_LW_law_298 : decode bc_LW_law 298 = .ok (.iaload, 1) := by decide +kernel
theorem dc_LW_law_299 : decode bc_LW_law 299 = .ok (.i2c, 1) := by decide +kernel
theorem dc_LW_law_300 : decode bc_LW_law 300 = .ok (.invokevirtual 56, 3) := by decide +kernel
theorem dc_LW_law_303 : decode bc_LW_law 303 = .ok (.if_icmp .eq 77, 3) := by decide +kernel
theorem dc_LW_law_306 : decode bc_LW_law 306 = .ok (.iconst 0, 1) := by decide +kernel
theorem dc_LW_law_307 : decode bc_LW_law 307 = .ok (.ireturn, 1) := by decide +kernel
theorem dc_LW_law_308 : decode bc_LW_law 308 = .ok (.aload_n 1, 1) := by decide +kernel
theorem dc_LW_law_309 : decode bc_LW_law 309 = .ok (.invokevirtual 57, 3) := by decide +kernel
theorem dc_LW_law_312 : decode bc_LW_law 312 = .ok (.aload_n 2, 1) := by decide +kernel
theorem dc_LW_law_313 : decode bc_LW_law 313 = .ok (.invokevirtual 60, 3) := by decide +kernel
theorem dc_LW_law_316 : decode bc_LW_law 316 = .ok (.if_icmp .eq 64, 3) := by decide +kernel
theorem dc_LW_law_319 : decode bc_LW_law 319 = .ok (.iconst 0, 1) := by decide +kernel
theorem dc_LW_law_320 : decode bc_LW_law 320 = .ok (.ireturn, 1) := by decide +kernel
theorem dc_LW_law_321 : decode bc_LW_law 321 = .ok (.aload_n 1, 1) := by decide +kernel
theorem dc_LW_law_322 : decode bc_LW_law 322 = .ok (.invokevirtual 61, 3) := by decide +kernel
theorem dc_LW_law_325 : decode bc_LW_law 325 = .ok (.aload_n 2, 1) := by decide +kernel
theorem dc_LW_law_326 : decode bc_LW_law 326 = .ok (.invokevirtual 64, 3) := by decide +kernel
theorem dc_LW_law_329 : decode bc_LW_law 329 = .ok (.if_icmp .eq 51, 3) := by decide +kernel
theorem dc_LW_law_332 : decode bc_LW_law 332 = .ok (.iconst 0, 1) := by decide +kernel
theorem dc_LW_law_333 : decode bc_LW_law 333 = .ok (.ireturn, 1) := by decide +kernel
theorem dc_LW_law_334 : decode bc_LW_law 334 = .ok (.aload_n 1, 1) := by decide +kernel
theorem dc_LW_law_335 : decode bc_LW_law 335 = .ok (.aload_n 0, 1) := by decide +kernel
theorem dc_LW_law_336 : decode bc_LW_law 336 = .ok (.iload_n 3, 1) := by decide +kernel
theorem dc_LW_law_337 : decode bc_LW_law 337 = .ok (.iconst 1, 1) := by decide +kernel
theorem dc_LW_law_338 : decode bc_LW_law 338 = .ok (.iadd, 1) := by decide +kernel
theorem dc_LW_law_339 : decode bc_LW_law 339 = .ok (.iaload, 1) := by decide +kernel
theorem dc_LW_law_340 : decode bc_LW_law 340 = .ok (.invokevirtual 65, 3) := by decide +kernel
theorem dc_LW_law_343 : decode bc_LW_law 343 = .ok (.aload_n 2, 1) := by decide +kernel
theorem dc_LW_law_344 : decode bc_LW_law 344 = .ok (.aload_n 0, 1) := by decide +kernel
theorem dc_LW_law_345 : decode bc_LW_law 345 = .ok (.iload_n 3, 1) := by decide +kernel
theorem dc_LW_law_346 : decode bc_LW_law 346 = .ok (.iconst 1, 1) := by decide +kernel
theorem dc_LW_law_347 : decode bc_LW_law 347 = .ok (.iadd, 1) := by decide +kernel
theorem dc_LW_law_348 : decode bc_LW_law 348 = .ok (.iaload, 1) := by decide +kernel
theorem dc_LW_law_349 : decode bc_LW_law 349 = .ok (.invokevirtual 68, 3) := by decide +kernel
theorem dc_LW_law_352 : decode bc_LW_law 352 = .ok (.if_icmp .eq 28, 3) := by decide +kernel
theorem dc_LW_law_355 : decode bc_LW_law 355 = .ok (.iconst 0, 1) := by decide +kernel
theorem dc_LW_law_356 : decode bc_LW_law 356 = .ok (.ireturn, 1) := by decide +kernel
theorem dc_LW_law_357 : decode bc_LW_law 357 = .ok (.aload_n 1, 1) := by decide +kernel
theorem dc_LW_law_358 : decode bc_LW_law 358 = .ok (.aload_n 0, 1) := by decide +kernel
theorem dc_LW_law_359 : decode bc_LW_law 359 = .ok (.iload_n 3, 1) := by decide +kernel
theorem dc_LW_law_360 : decode bc_LW_law 360 = .ok (.iconst 1, 1) := by decide +kernel
theorem dc_LW_law_361 : decode bc_LW_law 361 = .ok (.iadd, 1) := by decide +kernel
theorem dc_LW_law_362 : decode bc_LW_law 362 = .ok (.iaload, 1) := by decide +kernel
theorem dc_LW_law_363 : decode bc_LW_law 363 = .ok (.invokevirtual 69, 3) := by decide +kernel
theorem dc_LW_law_366 : decode bc_LW_law 366 = .ok (.aload_n 2, 1) := by decide +kernel
theorem dc_LW_law_367 : decode bc_LW_law 367 = .ok (.aload_n 0, 1) := by decide +kernel
theorem dc_LW_law_368 : decode bc_LW_law 368 = .ok (.iload_n 3, 1) := by decide +kernel
theorem dc_LW_law_369 : decode bc_LW_law 369 = .ok (.iconst 1, 1) := by decide +kernel
theorem dc_LW_law_370 : decode bc_LW_law 370 = .ok (.iadd, 1) := by decide +kernel
theorem dc_LW_law_371 : decode bc_LW_law 371 = .ok (.iaload, 1) := by decide +kernel
theorem dc_LW_law_372 : decode bc_LW_law 372 = .ok (.invokevirtual 72, 3) := by decide +kernel
theorem dc_LW_law_375 : decode bc_LW_law 375 = .ok (.if_icmp .eq 5, 3) := by decide +kernel
theorem dc_LW_law_378 : decode bc_LW_law 378 = .ok (.iconst 0, 1) := by decide +kernel
theorem dc_LW_law_379 : decode bc_LW_law 379 = .ok (.ireturn, 1) := by decide +kernel
theorem dc_LW_law_380 : decode bc_LW_law 380 = .ok (.iinc 3 3, 3) := by decide +kernel
theorem dc_LW_law_383 : decode bc_LW_law 383 = .ok (.goto (-365), 3) := by decide +kernel
theorem dc_LW_law_386 : decode bc_LW_law 386 = .ok (.iconst 1, 1) := by decide +kernel
theorem dc_LW_law_387 : decode bc_LW_law 387 = .ok (.ireturn, 1) := by decide +kernel
section LAW
variable {x : jl_X} {ad : Nat → Nat} {K : Nat → ClassId} {sa : Nat → Nat} {cells slots : Nat} {b L : Nat} {xs : Nat → Int32}
theorem lw_loop (h : jl_ok x 168 ad K sa bc_LW_law "FoldedStrandLaw" 4) (hr : jl_r x 53 2671 cells slots) (hT : jl_xT x b L xs) (hL : L ≤ 1536) (hend : ∀ (E : Nat → va_E) (lc : List (Nat × Value)), jl_J x 168 ad cells slots E 386 lc []) : ∀ (d i : Nat), L ≤ i + d → i ≤ 1540 → ∀ E, SIMx K ad E → jl_J x 168 ad cells slots E 18 [(3, .int (nI i)), (2, .ref (ad 160)), (1, .ref (ad 0)), (0, .ref b)] [] := by
  have hL31 : L < 2 ^ 31 := by omega
  have h3 : (nI L - nI 3).toInt = (L : Int) - 3 := pk_sub_toInt (by omega) (by omega)
  intro d
  induction d with
  | zero =>
    intro i hi hi2 E hS
    have hc : (nI L - nI 3 < nI i) := by
      rw [Int32.lt_iff_toInt_lt, h3, nI_toInt (by omega)]
      omega
    refine jl_iload_n (i := 3) h rfl rfl dc_LW_law_18 19 rfl ?_
    refine jl_aload_n (i := 0) h rfl rfl dc_LW_law_19 20 rfl ?_
    refine jl_xlen h hT dc_LW_law_20 21 rfl ?_
    refine jl_iconst (v := nI 3) h (by decide) dc_LW_law_21 22 rfl ?_
    refine jl_isub h dc_LW_law_22 23 rfl ?_
    refine jl_icmp_gt h 386 (by decide) dc_LW_law_23 26 rfl (fun c23 => ?_) (fun c23 => absurd (hc) c23)
    exact hend _ _
  | succ d ih =>
    intro i hi hi2 E hS
    by_cases hq : L < i + 3
    · have hc : (nI L - nI 3 < nI i) := by
        rw [Int32.lt_iff_toInt_lt, h3, nI_toInt (by omega)]
        omega
      refine jl_iload_n (i := 3) h rfl rfl dc_LW_law_18 19 rfl ?_
      refine jl_aload_n (i := 0) h rfl rfl dc_LW_law_19 20 rfl ?_
      refine jl_xlen h hT dc_LW_law_20 21 rfl ?_
      refine jl_iconst (v := nI 3) h (by decide) dc_LW_law_21 22 rfl ?_
      refine jl_isub h dc_LW_law_22 23 rfl ?_
      refine jl_icmp_gt h 386 (by decide) dc_LW_law_23 26 rfl (fun c23 => ?_) (fun c23 => absurd (hc) c23)
      exact hend _ _
    have hc : ¬ (nI L - nI 3 < nI i) := by
      rw [Int32.lt_iff_toInt_lt, h3, nI_toInt (by omega)]
      omega
    have next : ∀ E, SIMx K ad E → jl_J x 168 ad cells slots E 380 [(3, .int (nI i)), (2, .ref (ad 160)), (1, .ref (ad 0)), (0, .ref b)] [] := by
      intro E hS
      refine jl_iinc (i := 3) (d := 3) (lc2 := [(3, _), (2, _), (1, _), (0, _)]) (v2 := nI (i + 3)) h (by decide) rfl (nI_add i 3) rfl dc_LW_law_380 383 rfl ?_
      refine jl_goto h 18 (by decide) dc_LW_law_383 ?_
      exact ih (i + 3) (by omega) (by omega) E hS
    obtain ⟨I, V, L2, C, G, R, n, bs, pe, T, w, ms, tc, rfl, hs⟩ := hS
    obtain ⟨q, hq16, hv⟩ := lw_and15 (xs i)
    refine jl_iload_n (i := 3) h rfl rfl dc_LW_law_18 19 rfl ?_
    refine jl_aload_n (i := 0) h rfl rfl dc_LW_law_19 20 rfl ?_
    refine jl_xlen h hT dc_LW_law_20 21 rfl ?_
    refine jl_iconst (v := nI 3) h (by decide) dc_LW_law_21 22 rfl ?_
    refine jl_isub h dc_LW_law_22 23 rfl ?_
    refine jl_icmp_gt h 386 (by decide) dc_LW_law_23 26 rfl (fun c23 => absurd c23 (hc)) (fun c23 => ?_)
    refine jl_aload_n (i := 0) h rfl rfl dc_LW_law_26 27 rfl ?_
    refine jl_iload_n (i := 3) h rfl rfl dc_LW_law_27 28 rfl ?_
    refine jl_xild h hT (i) (rfl) (by omega) hL31 dc_LW_law_28 29 rfl ?_
    refine jl_bipush (v := 15) h (by decide) dc_LW_law_29 31 rfl ?_
    refine jl_iand h dc_LW_law_31 32 rfl ?_
    rw [hv]
    have hq17 : q = 0 ∨ q = 1 ∨ q = 2 ∨ q = 3 ∨ q = 4 ∨ q = 5 ∨ q = 6 ∨ q = 7 ∨ q = 8 ∨ q = 9 ∨ q = 10 ∨ q = 11 ∨ q = 12 ∨ q = 13 ∨ q = 14 ∨ q = 15 := by omega
    rcases hq17 with rfl | rfl | rfl | rfl | rfl | rfl | rfl | rfl | rfl | rfl | rfl | rfl | rfl | rfl | rfl | rfl
    · skip
      refine jl_tsw h 72 104 dc_LW_law_32 (by decide) (by decide) (by decide) (by decide) ?_
      refine jl_aload_n (i := 1) h rfl rfl dc_LW_law_104 105 rfl ?_
      refine jl_aload_n (i := 0) h rfl rfl dc_LW_law_105 106 rfl ?_
      refine jl_iload_n (i := 3) h rfl rfl dc_LW_law_106 107 rfl ?_
      refine jl_iconst (v := nI 1) h (by decide) dc_LW_law_107 108 rfl ?_
      refine jl_iadd h dc_LW_law_108 109 rfl ?_
      rw [show nI i + nI 1 = nI (i + 1) by exact nI_add i 1]
      refine jl_xild h hT (i + 1) (rfl) (by omega) hL31 dc_LW_law_109 110 rfl ?_
      refine jl_i2c h rfl dc_LW_law_110 111 rfl ?_
      refine jl_callVP (As := [_]) (rest := []) h hr vs_LW_13 vi_FS_base vx_FS_base (ci := 0) rfl (by omega) (by exact rfl) (fun l => s_base l hs _) (by first | decide | omega) (by first | decide | omega) rfl rfl (Nat.le_of_ble_eq_true rfl) dc_LW_law_111 114 rfl ?_
      rintro v9 E9 ⟨z, rfl, ⟨I, V, L2, C, G, R, rfl⟩, hM⟩
      change jl_J _ _ _ _ _ _ _ _ ([_])
      refine jl_aload_n (i := 2) h rfl rfl dc_LW_law_114 115 rfl ?_
      refine jl_aload_n (i := 0) h rfl rfl dc_LW_law_115 116 rfl ?_
      refine jl_iload_n (i := 3) h rfl rfl dc_LW_law_116 117 rfl ?_
      refine jl_iconst (v := nI 1) h (by decide) dc_LW_law_117 118 rfl ?_
      refine jl_iadd h dc_LW_law_118 119 rfl ?_
      rw [show nI i + nI 1 = nI (i + 1) by exact nI_add i 1]
      refine jl_xild h hT (i + 1) (rfl) (by omega) hL31 dc_LW_law_119 120 rfl ?_
      refine jl_i2c h rfl dc_LW_law_120 121 rfl ?_
      refine jl_callVP (As := [_]) (rest := [_]) h hr vs_LW_17 vi_MO_base vx_MO_base (ci := 7) rfl (by omega) (by exact rfl) (fun l => hM l) (by first | decide | omega) (by first | decide | omega) rfl rfl (Nat.le_of_ble_eq_true rfl) dc_LW_law_121 124 rfl ?_
      rintro v9 E9 ⟨rfl, hS⟩
      change jl_J _ _ _ _ _ _ _ _ ([_, _])
      refine jl_icmp_eq h 380 (by decide) dc_LW_law_124 127 rfl (fun c124 => ?_) (fun c124 => absurd (rfl) c124)
      exact next _ hS
    · skip
      refine jl_tsw h 97 129 dc_LW_law_32 (by decide) (by decide) (by decide) (by decide) ?_
      refine jl_aload_n (i := 1) h rfl rfl dc_LW_law_129 130 rfl ?_
      refine jl_callVP (As := []) (rest := []) h hr vs_LW_18 vi_FS_clear vx_FS_clear (ci := 0) rfl (by omega) (by exact rfl) (fun l => s_clear l hs) (by first | decide | omega) (by first | decide | omega) rfl rfl (Nat.le_of_ble_eq_true rfl) dc_LW_law_130 133 rfl ?_
      rintro v9 E9 ⟨z, rfl, ⟨I, V, L2, C, G, R, rfl⟩, hM⟩
      change jl_J _ _ _ _ _ _ _ _ ([_])
      refine jl_aload_n (i := 2) h rfl rfl dc_LW_law_133 134 rfl ?_
      refine jl_callVP (As := []) (rest := [_]) h hr vs_LW_22 vi_MO_clear vx_MO_clear (ci := 7) rfl (by omega) (by exact rfl) (fun l => hM l) (by first | decide | omega) (by first | decide | omega) rfl rfl (Nat.le_of_ble_eq_true rfl) dc_LW_law_134 137 rfl ?_
      rintro v9 E9 ⟨rfl, hS⟩
      change jl_J _ _ _ _ _ _ _ _ ([_, _])
      refine jl_icmp_eq h 380 (by decide) dc_LW_law_137 140 rfl (fun c137 => ?_) (fun c137 => absurd (rfl) c137)
      exact next _ hS
    · skip
      refine jl_tsw h 110 142 dc_LW_law_32 (by decide) (by decide) (by decide) (by decide) ?_
      refine jl_aload_n (i := 1) h rfl rfl dc_LW_law_142 143 rfl ?_
      refine jl_callVP (As := []) (rest := []) h hr vs_LW_23 vi_FS_most vx_FS_most (ci := 0) rfl (by omega) (by exact rfl) (fun l => s_most l hs) (by first | decide | omega) (by first | decide | omega) rfl rfl (Nat.le_of_ble_eq_true rfl) dc_LW_law_143 146 rfl ?_
      rintro v9 E9 ⟨z, rfl, ⟨I, V, L2, C, G, R, rfl⟩, hM⟩
      change jl_J _ _ _ _ _ _ _ _ ([_])
      refine jl_aload_n (i := 2) h rfl rfl dc_LW_law_146 147 rfl ?_
      refine jl_callVP (As := []) (rest := [_]) h hr vs_LW_26 vi_MO_most vx_MO_most (ci := 7) rfl (by omega) (by exact rfl) (fun l => hM l) (by first | decide | omega) (by first | decide | omega) rfl rfl (Nat.le_of_ble_eq_true rfl) dc_LW_law_147 150 rfl ?_
      rintro v9 E9 ⟨rfl, hS⟩
      change jl_J _ _ _ _ _ _ _ _ ([_, _])
      refine jl_icmp_eq h 380 (by decide) dc_LW_law_150 153 rfl (fun c150 => ?_) (fun c150 => absurd (rfl) c150)
      exact next _ hS
    · skip
      refine jl_tsw h 123 155 dc_LW_law_32 (by decide) (by decide) (by decide) (by decide) ?_
      refine jl_aload_n (i := 1) h rfl rfl dc_LW_law_155 156 rfl ?_
      refine jl_callVP (As := []) (rest := []) h hr vs_LW_27 vi_FS_least vx_FS_least (ci := 0) rfl (by omega) (by exact rfl) (fun l => s_least l hs) (by first | decide | omega) (by first | decide | omega) rfl rfl (Nat.le_of_ble_eq_true rfl) dc_LW_law_156 159 rfl ?_
      rintro v9 E9 ⟨z, rfl, ⟨I, V, L2, C, G, R, rfl⟩, hM⟩
      change jl_J _ _ _ _ _ _ _ _ ([_])
      refine jl_aload_n (i := 2) h rfl rfl dc_LW_law_159 160 rfl ?_
      refine jl_callVP (As := []) (rest := [_]) h hr vs_LW_30 vi_MO_least vx_MO_least (ci := 7) rfl (by omega) (by exact rfl) (fun l => hM l) (by first | decide | omega) (by first | decide | omega) rfl rfl (Nat.le_of_ble_eq_true rfl) dc_LW_law_160 163 rfl ?_
      rintro v9 E9 ⟨rfl, hS⟩
      change jl_J _ _ _ _ _ _ _ _ ([_, _])
      refine jl_icmp_eq h 380 (by decide) dc_LW_law_163 166 rfl (fun c163 => ?_) (fun c163 => absurd (rfl) c163)
      exact next _ hS
    · skip
      refine jl_tsw h 136 168 dc_LW_law_32 (by decide) (by decide) (by decide) (by decide) ?_
      refine jl_aload_n (i := 1) h rfl rfl dc_LW_law_168 169 rfl ?_
      refine jl_callVP (As := []) (rest := []) h hr vs_LW_31 vi_FS_ways vx_FS_ways (ci := 0) rfl (by omega) (by exact rfl) (fun l => s_ways l hs) (by first | decide | omega) (by first | decide | omega) rfl rfl (Nat.le_of_ble_eq_true rfl) dc_LW_law_169 172 rfl ?_
      rintro v9 E9 ⟨z, rfl, ⟨I, V, L2, C, G, R, rfl⟩, hM⟩
      change jl_J _ _ _ _ _ _ _ _ ([_])
      refine jl_aload_n (i := 2) h rfl rfl dc_LW_law_172 173 rfl ?_
      refine jl_callVP (As := []) (rest := [_]) h hr vs_LW_34 vi_MO_ways vx_MO_ways (ci := 7) rfl (by omega) (by exact rfl) (fun l => hM l) (by first | decide | omega) (by first | decide | omega) rfl rfl (Nat.le_of_ble_eq_true rfl) dc_LW_law_173 176 rfl ?_
      rintro v9 E9 ⟨rfl, hS⟩
      change jl_J _ _ _ _ _ _ _ _ ([_, _])
      refine jl_icmp_eq h 380 (by decide) dc_LW_law_176 179 rfl (fun c176 => ?_) (fun c176 => absurd (rfl) c176)
      exact next _ hS
    · skip
      refine jl_tsw h 149 181 dc_LW_law_32 (by decide) (by decide) (by decide) (by decide) ?_
      refine jl_aload_n (i := 1) h rfl rfl dc_LW_law_181 182 rfl ?_
      refine jl_aload_n (i := 0) h rfl rfl dc_LW_law_182 183 rfl ?_
      refine jl_iload_n (i := 3) h rfl rfl dc_LW_law_183 184 rfl ?_
      refine jl_iconst (v := nI 1) h (by decide) dc_LW_law_184 185 rfl ?_
      refine jl_iadd h dc_LW_law_185 186 rfl ?_
      rw [show nI i + nI 1 = nI (i + 1) by exact nI_add i 1]
      refine jl_xild h hT (i + 1) (rfl) (by omega) hL31 dc_LW_law_186 187 rfl ?_
      refine jl_callVP (As := [_]) (rest := []) h hr vs_LW_35 vi_FS_list vx_FS_list (ci := 0) rfl (by omega) (by exact rfl) (fun l => s_list l hs _) (by first | decide | omega) (by first | decide | omega) rfl rfl (Nat.le_of_ble_eq_true rfl) dc_LW_law_187 190 rfl ?_
      rintro v9 E9 ⟨z, rfl, ⟨I, V, L2, C, G, R, rfl⟩, hM⟩
      change jl_J _ _ _ _ _ _ _ _ ([_])
      refine jl_aload_n (i := 2) h rfl rfl dc_LW_law_190 191 rfl ?_
      refine jl_aload_n (i := 0) h rfl rfl dc_LW_law_191 192 rfl ?_
      refine jl_iload_n (i := 3) h rfl rfl dc_LW_law_192 193 rfl ?_
      refine jl_iconst (v := nI 1) h (by decide) dc_LW_law_193 194 rfl ?_
      refine jl_iadd h dc_LW_law_194 195 rfl ?_
      rw [show nI i + nI 1 = nI (i + 1) by exact nI_add i 1]
      refine jl_xild h hT (i + 1) (rfl) (by omega) hL31 dc_LW_law_195 196 rfl ?_
      refine jl_callVP (As := [_]) (rest := [_]) h hr vs_LW_39 vi_MO_list vx_MO_list (ci := 7) rfl (by omega) (by exact rfl) (fun l => hM l) (by first | decide | omega) (by first | decide | omega) rfl rfl (Nat.le_of_ble_eq_true rfl) dc_LW_law_196 199 rfl ?_
      rintro v9 E9 ⟨rfl, hS⟩
      change jl_J _ _ _ _ _ _ _ _ ([_, _])
      refine jl_icmp_eq h 380 (by decide) dc_LW_law_199 202 rfl (fun c199 => ?_) (fun c199 => absurd (rfl) c199)
      exact next _ hS
    · skip
      refine jl_tsw h 172 204 dc_LW_law_32 (by decide) (by decide) (by decide) (by decide) ?_
      refine jl_aload_n (i := 1) h rfl rfl dc_LW_law_204 205 rfl ?_
      refine jl_aload_n (i := 0) h rfl rfl dc_LW_law_205 206 rfl ?_
      refine jl_iload_n (i := 3) h rfl rfl dc_LW_law_206 207 rfl ?_
      refine jl_iconst (v := nI 1) h (by decide) dc_LW_law_207 208 rfl ?_
      refine jl_iadd h dc_LW_law_208 209 rfl ?_
      rw [show nI i + nI 1 = nI (i + 1) by exact nI_add i 1]
      refine jl_xild h hT (i + 1) (rfl) (by omega) hL31 dc_LW_law_209 210 rfl ?_
      refine jl_callVP (As := [_]) (rest := []) h hr vs_LW_40 vi_FS_energyOf vx_FS_energyOf (ci := 0) rfl (by omega) (by exact rfl) (fun l => s_energyOf l hs _) (by first | decide | omega) (by first | decide | omega) rfl rfl (Nat.le_of_ble_eq_true rfl) dc_LW_law_210 213 rfl ?_
      rintro v9 E9 ⟨z, rfl, ⟨I, V, L2, C, G, R, rfl⟩, hM⟩
      change jl_J _ _ _ _ _ _ _ _ ([_])
      refine jl_aload_n (i := 2) h rfl rfl dc_LW_law_213 214 rfl ?_
      refine jl_aload_n (i := 0) h rfl rfl dc_LW_law_214 215 rfl ?_
      refine jl_iload_n (i := 3) h rfl rfl dc_LW_law_215 216 rfl ?_
      refine jl_iconst (v := nI 1) h (by decide) dc_LW_law_216 217 rfl ?_
      refine jl_iadd h dc_LW_law_217 218 rfl ?_
      rw [show nI i + nI 1 = nI (i + 1) by exact nI_add i 1]
      refine jl_xild h hT (i + 1) (rfl) (by omega) hL31 dc_LW_law_218 219 rfl ?_
      refine jl_callVP (As := [_]) (rest := [_]) h hr vs_LW_43 vi_MO_energyOf vx_MO_energyOf (ci := 7) rfl (by omega) (by exact rfl) (fun l => hM l) (by first | decide | omega) (by first | decide | omega) rfl rfl (Nat.le_of_ble_eq_true rfl) dc_LW_law_219 222 rfl ?_
      rintro v9 E9 ⟨rfl, hS⟩
      change jl_J _ _ _ _ _ _ _ _ ([_, _])
      refine jl_icmp_eq h 380 (by decide) dc_LW_law_222 225 rfl (fun c222 => ?_) (fun c222 => absurd (rfl) c222)
      exact next _ hS
    · skip
      refine jl_tsw h 195 227 dc_LW_law_32 (by decide) (by decide) (by decide) (by decide) ?_
      refine jl_aload_n (i := 1) h rfl rfl dc_LW_law_227 228 rfl ?_
      refine jl_aload_n (i := 0) h rfl rfl dc_LW_law_228 229 rfl ?_
      refine jl_iload_n (i := 3) h rfl rfl dc_LW_law_229 230 rfl ?_
      refine jl_iconst (v := nI 1) h (by decide) dc_LW_law_230 231 rfl ?_
      refine jl_iadd h dc_LW_law_231 232 rfl ?_
      rw [show nI i + nI 1 = nI (i + 1) by exact nI_add i 1]
      refine jl_xild h hT (i + 1) (rfl) (by omega) hL31 dc_LW_law_232 233 rfl ?_
      refine jl_aload_n (i := 0) h rfl rfl dc_LW_law_233 234 rfl ?_
      refine jl_iload_n (i := 3) h rfl rfl dc_LW_law_234 235 rfl ?_
      refine jl_iconst (v := nI 2) h (by decide) dc_LW_law_235 236 rfl ?_
      refine jl_iadd h dc_LW_law_236 237 rfl ?_
      rw [show nI i + nI 2 = nI (i + 2) by exact nI_add i 2]
      refine jl_xild h hT (i + 2) (rfl) (by omega) hL31 dc_LW_law_237 238 rfl ?_
      refine jl_callVP (As := [_, _]) (rest := []) h hr vs_LW_44 vi_FS_at vx_FS_at (ci := 0) rfl (by omega) (by exact rfl) (fun l => s_at l hs _ _) (by first | decide | omega) (by first | decide | omega) rfl rfl (Nat.le_of_ble_eq_true rfl) dc_LW_law_238 241 rfl ?_
      rintro v9 E9 ⟨z, rfl, ⟨I, V, L2, C, G, R, rfl⟩, hM⟩
      change jl_J _ _ _ _ _ _ _ _ ([_])
      refine jl_aload_n (i := 2) h rfl rfl dc_LW_law_241 242 rfl ?_
      refine jl_aload_n (i := 0) h rfl rfl dc_LW_law_242 243 rfl ?_
      refine jl_iload_n (i := 3) h rfl rfl dc_LW_law_243 244 rfl ?_
      refine jl_iconst (v := nI 1) h (by decide) dc_LW_law_244 245 rfl ?_
      refine jl_iadd h dc_LW_law_245 246 rfl ?_
      rw [show nI i + nI 1 = nI (i + 1) by exact nI_add i 1]
      refine jl_xild h hT (i + 1) (rfl) (by omega) hL31 dc_LW_law_246 247 rfl ?_
      refine jl_aload_n (i := 0) h rfl rfl dc_LW_law_247 248 rfl ?_
      refine jl_iload_n (i := 3) h rfl rfl dc_LW_law_248 249 rfl ?_
      refine jl_iconst (v := nI 2) h (by decide) dc_LW_law_249 250 rfl ?_
      refine jl_iadd h dc_LW_law_250 251 rfl ?_
      rw [show nI i + nI 2 = nI (i + 2) by exact nI_add i 2]
      refine jl_xild h hT (i + 2) (rfl) (by omega) hL31 dc_LW_law_251 252 rfl ?_
      refine jl_callVP (As := [_, _]) (rest := [_]) h hr vs_LW_48 vi_MO_at vx_MO_at (ci := 7) rfl (by omega) (by exact rfl) (fun l => hM l) (by first | decide | omega) (by first | decide | omega) rfl rfl (Nat.le_of_ble_eq_true rfl) dc_LW_law_252 255 rfl ?_
      rintro v9 E9 ⟨rfl, hS⟩
      change jl_J _ _ _ _ _ _ _ _ ([_, _])
      refine jl_icmp_eq h 380 (by decide) dc_LW_law_255 258 rfl (fun c255 => ?_) (fun c255 => absurd (rfl) c255)
      exact next _ hS
    · skip
      refine jl_tsw h 228 260 dc_LW_law_32 (by decide) (by decide) (by decide) (by decide) ?_
      refine jl_aload_n (i := 1) h rfl rfl dc_LW_law_260 261 rfl ?_
      refine jl_aload_n (i := 0) h rfl rfl dc_LW_law_261 262 rfl ?_
      refine jl_iload_n (i := 3) h rfl rfl dc_LW_law_262 263 rfl ?_
      refine jl_iconst (v := nI 1) h (by decide) dc_LW_law_263 264 rfl ?_
      refine jl_iadd h dc_LW_law_264 265 rfl ?_
      rw [show nI i + nI 1 = nI (i + 1) by exact nI_add i 1]
      refine jl_xild h hT (i + 1) (rfl) (by omega) hL31 dc_LW_law_265 266 rfl ?_
      refine jl_callVP (As := [_]) (rest := []) h hr vs_LW_49 vi_FS_take vx_FS_take (ci := 0) rfl (by omega) (by exact rfl) (fun l => s_take l hs _) (by first | decide | omega) (by first | decide | omega) rfl rfl (Nat.le_of_ble_eq_true rfl) dc_LW_law_266 269 rfl ?_
      rintro v9 E9 ⟨z, rfl, ⟨I, V, L2, C, G, R, rfl⟩, hM⟩
      change jl_J _ _ _ _ _ _ _ _ ([_])
      refine jl_aload_n (i := 2) h rfl rfl dc_LW_law_269 270 rfl ?_
      refine jl_aload_n (i := 0) h rfl rfl dc_LW_law_270 271 rfl ?_
      refine jl_iload_n (i := 3) h rfl rfl dc_LW_law_271 272 rfl ?_
      refine jl_iconst (v := nI 1) h (by decide) dc_LW_law_272 273 rfl ?_
      refine jl_iadd h dc_LW_law_273 274 rfl ?_
      rw [show nI i + nI 1 = nI (i + 1) by exact nI_add i 1]
      refine jl_xild h hT (i + 1) (rfl) (by omega) hL31 dc_LW_law_274 275 rfl ?_
      refine jl_callVP (As := [_]) (rest := [_]) h hr vs_LW_52 vi_MO_take vx_MO_take (ci := 7) rfl (by omega) (by exact rfl) (fun l => hM l) (by first | decide | omega) (by first | decide | omega) rfl rfl (Nat.le_of_ble_eq_true rfl) dc_LW_law_275 278 rfl ?_
      rintro v9 E9 ⟨rfl, hS⟩
      change jl_J _ _ _ _ _ _ _ _ ([_, _])
      refine jl_icmp_eq h 380 (by decide) dc_LW_law_278 281 rfl (fun c278 => ?_) (fun c278 => absurd (rfl) c278)
      exact next _ hS
    · skip
      refine jl_tsw h 251 283 dc_LW_law_32 (by decide) (by decide) (by decide) (by decide) ?_
      refine jl_aload_n (i := 1) h rfl rfl dc_LW_law_283 284 rfl ?_
      refine jl_aload_n (i := 0) h rfl rfl dc_LW_law_284 285 rfl ?_
      refine jl_iload_n (i := 3) h rfl rfl dc_LW_law_285 286 rfl ?_
      refine jl_iconst (v := nI 1) h (by decide) dc_LW_law_286 287 rfl ?_
      refine jl_iadd h dc_LW_law_287 288 rfl ?_
      rw [show nI i + nI 1 = nI (i + 1) by exact nI_add i 1]
      refine jl_xild h hT (i + 1) (rfl) (by omega) hL31 dc_LW_law_288 289 rfl ?_
      refine jl_i2c h rfl dc_LW_law_289 290 rfl ?_
      refine jl_callVP (As := [_]) (rest := []) h hr vs_LW_53 vi_FS_type vx_FS_type (ci := 0) rfl (by omega) (by exact rfl) (fun l => s_type l hs _) (by first | decide | omega) (by first | decide | omega) rfl rfl (Nat.le_of_ble_eq_true rfl) dc_LW_law_290 293 rfl ?_
      rintro v9 E9 ⟨z, rfl, ⟨I, V, L2, C, G, R, rfl⟩, hM⟩
      change jl_J _ _ _ _ _ _ _ _ ([_])
      refine jl_aload_n (i := 2) h rfl rfl dc_LW_law_293 294 rfl ?_
      refine jl_aload_n (i := 0) h rfl rfl dc_LW_law_294 295 rfl ?_
      refine jl_iload_n (i := 3) h rfl rfl dc_LW_law_295 296 rfl ?_
      refine jl_iconst (v := nI 1) h (by decide) dc_LW_law_296 297 rfl ?_
      refine jl_iadd h dc_LW_law_297 298 rfl ?_
      rw [show nI i + nI 1 = nI (i + 1) by exact nI_add i 1]
      refine jl_xild h hT (i + 1) (rfl) (by omega) hL31 dc_LW_law_298 299 rfl ?_
      refine jl_i2c h rfl dc_LW_law_299 300 rfl ?_
      refine jl_callVP (As := [_]) (rest := [_]) h hr vs_LW_56 vi_MO_type vx_MO_type (ci := 7) rfl (by omega) (by exact rfl) (fun l => hM l) (by first | decide | omega) (by first | decide | omega) rfl rfl (Nat.le_of_ble_eq_true rfl) dc_LW_law_300 303 rfl ?_
      rintro v9 E9 ⟨rfl, hS⟩
      change jl_J _ _ _ _ _ _ _ _ ([_, _])
      refine jl_icmp_eq h 380 (by decide) dc_LW_law_303 306 rfl (fun c303 => ?_) (fun c303 => absurd (rfl) c303)
      exact next _ hS
    · skip
      refine jl_tsw h 276 308 dc_LW_law_32 (by decide) (by decide) (by decide) (by decide) ?_
      refine jl_aload_n (i := 1) h rfl rfl dc_LW_law_308 309 rfl ?_
      refine jl_callVP (As := []) (rest := []) h hr vs_LW_57 vi_FS_read vx_FS_read (ci := 0) rfl (by omega) (by exact rfl) (fun l => s_read l hs) (by first | decide | omega) (by first | decide | omega) rfl rfl (Nat.le_of_ble_eq_true rfl) dc_LW_law_309 312 rfl ?_
      rintro v9 E9 ⟨z, rfl, ⟨I, V, L2, C, G, R, rfl⟩, hM⟩
      change jl_J _ _ _ _ _ _ _ _ ([_])
      refine jl_aload_n (i := 2) h rfl rfl dc_LW_law_312 313 rfl ?_
      refine jl_callVP (As := []) (rest := [_]) h hr vs_LW_60 vi_MO_read vx_MO_read (ci := 7) rfl (by omega) (by exact rfl) (fun l => hM l) (by first | decide | omega) (by first | decide | omega) rfl rfl (Nat.le_of_ble_eq_true rfl) dc_LW_law_313 316 rfl ?_
      rintro v9 E9 ⟨rfl, hS⟩
      change jl_J _ _ _ _ _ _ _ _ ([_, _])
      refine jl_icmp_eq h 380 (by decide) dc_LW_law_316 319 rfl (fun c316 => ?_) (fun c316 => absurd (rfl) c316)
      exact next _ hS
    · skip
      refine jl_tsw h 289 321 dc_LW_law_32 (by decide) (by decide) (by decide) (by decide) ?_
      refine jl_aload_n (i := 1) h rfl rfl dc_LW_law_321 322 rfl ?_
      refine jl_callVP (As := []) (rest := []) h hr vs_LW_61 vi_FS_energy vx_FS_energy (ci := 0) rfl (by omega) (by exact rfl) (fun l => s_energy l hs) (by first | decide | omega) (by first | decide | omega) rfl rfl (Nat.le_of_ble_eq_true rfl) dc_LW_law_322 325 rfl ?_
      rintro v9 E9 ⟨z, rfl, ⟨I, V, L2, C, G, R, rfl⟩, hM⟩
      change jl_J _ _ _ _ _ _ _ _ ([_])
      refine jl_aload_n (i := 2) h rfl rfl dc_LW_law_325 326 rfl ?_
      refine jl_callVP (As := []) (rest := [_]) h hr vs_LW_64 vi_MO_energy vx_MO_energy (ci := 7) rfl (by omega) (by exact rfl) (fun l => hM l) (by first | decide | omega) (by first | decide | omega) rfl rfl (Nat.le_of_ble_eq_true rfl) dc_LW_law_326 329 rfl ?_
      rintro v9 E9 ⟨rfl, hS⟩
      change jl_J _ _ _ _ _ _ _ _ ([_, _])
      refine jl_icmp_eq h 380 (by decide) dc_LW_law_329 332 rfl (fun c329 => ?_) (fun c329 => absurd (rfl) c329)
      exact next _ hS
    · skip
      refine jl_tsw h 302 334 dc_LW_law_32 (by decide) (by decide) (by decide) (by decide) ?_
      refine jl_aload_n (i := 1) h rfl rfl dc_LW_law_334 335 rfl ?_
      refine jl_aload_n (i := 0) h rfl rfl dc_LW_law_335 336 rfl ?_
      refine jl_iload_n (i := 3) h rfl rfl dc_LW_law_336 337 rfl ?_
      refine jl_iconst (v := nI 1) h (by decide) dc_LW_law_337 338 rfl ?_
      refine jl_iadd h dc_LW_law_338 339 rfl ?_
      rw [show nI i + nI 1 = nI (i + 1) by exact nI_add i 1]
      refine jl_xild h hT (i + 1) (rfl) (by omega) hL31 dc_LW_law_339 340 rfl ?_
      refine jl_callVP (As := [_]) (rest := []) h hr vs_LW_65 vi_FS_partner vx_FS_partner (ci := 0) rfl (by omega) (by exact rfl) (fun l => s_partner l hs _) (by first | decide | omega) (by first | decide | omega) rfl rfl (Nat.le_of_ble_eq_true rfl) dc_LW_law_340 343 rfl ?_
      rintro v9 E9 ⟨z, rfl, ⟨I, V, L2, C, G, R, rfl⟩, hM⟩
      change jl_J _ _ _ _ _ _ _ _ ([_])
      refine jl_aload_n (i := 2) h rfl rfl dc_LW_law_343 344 rfl ?_
      refine jl_aload_n (i := 0) h rfl rfl dc_LW_law_344 345 rfl ?_
      refine jl_iload_n (i := 3) h rfl rfl dc_LW_law_345 346 rfl ?_
      refine jl_iconst (v := nI 1) h (by decide) dc_LW_law_346 347 rfl ?_
      refine jl_iadd h dc_LW_law_347 348 rfl ?_
      rw [show nI i + nI 1 = nI (i + 1) by exact nI_add i 1]
      refine jl_xild h hT (i + 1) (rfl) (by omega) hL31 dc_LW_law_348 349 rfl ?_
      refine jl_callVP (As := [_]) (rest := [_]) h hr vs_LW_68 vi_MO_partner vx_MO_partner (ci := 7) rfl (by omega) (by exact rfl) (fun l => hM l) (by first | decide | omega) (by first | decide | omega) rfl rfl (Nat.le_of_ble_eq_true rfl) dc_LW_law_349 352 rfl ?_
      rintro v9 E9 ⟨rfl, hS⟩
      change jl_J _ _ _ _ _ _ _ _ ([_, _])
      refine jl_icmp_eq h 380 (by decide) dc_LW_law_352 355 rfl (fun c352 => ?_) (fun c352 => absurd (rfl) c352)
      exact next _ hS
    · skip
      refine jl_tsw h 325 357 dc_LW_law_32 (by decide) (by decide) (by decide) (by decide) ?_
      refine jl_aload_n (i := 1) h rfl rfl dc_LW_law_357 358 rfl ?_
      refine jl_aload_n (i := 0) h rfl rfl dc_LW_law_358 359 rfl ?_
      refine jl_iload_n (i := 3) h rfl rfl dc_LW_law_359 360 rfl ?_
      refine jl_iconst (v := nI 1) h (by decide) dc_LW_law_360 361 rfl ?_
      refine jl_iadd h dc_LW_law_361 362 rfl ?_
      rw [show nI i + nI 1 = nI (i + 1) by exact nI_add i 1]
      refine jl_xild h hT (i + 1) (rfl) (by omega) hL31 dc_LW_law_362 363 rfl ?_
      refine jl_callVP (As := [_]) (rest := []) h hr vs_LW_69 vi_FS_loop vx_FS_loop (ci := 0) rfl (by omega) (by exact rfl) (fun l => s_loop l hs _) (by first | decide | omega) (by first | decide | omega) rfl rfl (Nat.le_of_ble_eq_true rfl) dc_LW_law_363 366 rfl ?_
      rintro v9 E9 ⟨z, rfl, ⟨I, V, L2, C, G, R, rfl⟩, hM⟩
      change jl_J _ _ _ _ _ _ _ _ ([_])
      refine jl_aload_n (i := 2) h rfl rfl dc_LW_law_366 367 rfl ?_
      refine jl_aload_n (i := 0) h rfl rfl dc_LW_law_367 368 rfl ?_
      refine jl_iload_n (i := 3) h rfl rfl dc_LW_law_368 369 rfl ?_
      refine jl_iconst (v := nI 1) h (by decide) dc_LW_law_369 370 rfl ?_
      refine jl_iadd h dc_LW_law_370 371 rfl ?_
      rw [show nI i + nI 1 = nI (i + 1) by exact nI_add i 1]
      refine jl_xild h hT (i + 1) (rfl) (by omega) hL31 dc_LW_law_371 372 rfl ?_
      refine jl_callVP (As := [_]) (rest := [_]) h hr vs_LW_72 vi_MO_loop vx_MO_loop (ci := 7) rfl (by omega) (by exact rfl) (fun l => hM l) (by first | decide | omega) (by first | decide | omega) rfl rfl (Nat.le_of_ble_eq_true rfl) dc_LW_law_372 375 rfl ?_
      rintro v9 E9 ⟨rfl, hS⟩
      change jl_J _ _ _ _ _ _ _ _ ([_, _])
      refine jl_icmp_eq h 380 (by decide) dc_LW_law_375 378 rfl (fun c375 => ?_) (fun c375 => absurd (rfl) c375)
      exact next _ hS
    · skip
      refine jl_tswD h 380 dc_LW_law_32 (by decide) (by decide) ?_
      exact next _ ⟨I, V, L2, C, G, R, n, bs, pe, T, w, ms, tc, rfl, hs⟩
    · skip
      refine jl_tswD h 380 dc_LW_law_32 (by decide) (by decide) ?_
      exact next _ ⟨I, V, L2, C, G, R, n, bs, pe, T, w, ms, tc, rfl, hs⟩
end LAW

