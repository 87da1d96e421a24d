section
-- ===== PART A: goes FIRST, ahead of the names: the tables' words, and 'selects' of the private methods out of them =====
/-- a private method of a class that the tables say can be made, by its rows of tables_1 -/
def lw_okq (q : MethodName × Nat) : Prop := (q.1.cls ≠ "java/lang/invoke/MethodHandle" ∧ q.1.cls ≠ "java/lang/invoke/VarHandle") ∧ Cond.instantiable q.1.cls q.2 ∈ tables_1 ∧ Cond.privateMethod q.1 ∈ tables_1 ∧ Cond.instanceMethod q.1 ∈ tables_1
theorem lw_p0 : lw_okq (⟨"FoldedStrand$Folds", "leastOfPair", "(II)I"⟩, 9) := ⟨⟨by decide +kernel, by decide +kernel⟩, List.mem_of_getElem? (i := 44) (by decide +kernel), List.mem_of_getElem? (i := 238) (by decide +kernel), List.mem_of_getElem? (i := 239) (by decide +kernel)⟩
theorem lw_p1 : lw_okq (⟨"FoldedStrand$Loops", "stack", "(IIII)I"⟩, 1) := ⟨⟨by decide +kernel, by decide +kernel⟩, List.mem_of_getElem? (i := 34) (by decide +kernel), List.mem_of_getElem? (i := 273) (by decide +kernel), List.mem_of_getElem? (i := 274) (by decide +kernel)⟩
theorem lw_p2 : lw_okq (⟨"FoldedStrand$Folds", "countPart", "(II)V"⟩, 9) := ⟨⟨by decide +kernel, by decide +kernel⟩, List.mem_of_getElem? (i := 44) (by decide +kernel), List.mem_of_getElem? (i := 293) (by decide +kernel), List.mem_of_getElem? (i := 294) (by decide +kernel)⟩
theorem lw_p3 : lw_okq (⟨"FoldedStrand$Folds", "fillRegion", "(LFoldedStrand$Region;II)V"⟩, 9) := ⟨⟨by decide +kernel, by decide +kernel⟩, List.mem_of_getElem? (i := 44) (by decide +kernel), List.mem_of_getElem? (i := 300) (by decide +kernel), List.mem_of_getElem? (i := 301) (by decide +kernel)⟩
theorem lw_p4 : lw_okq (⟨"FoldedStrand", "forgetStructures", "()V"⟩, 7) := ⟨⟨by decide +kernel, by decide +kernel⟩, List.mem_of_getElem? (i := 12) (by decide +kernel), List.mem_of_getElem? (i := 313) (by decide +kernel), List.mem_of_getElem? (i := 314) (by decide +kernel)⟩
theorem lw_p5 : lw_okq (⟨"FoldedStrand$NearList", "setRegion", "(ILFoldedStrand$Region;II)V"⟩, 10) := ⟨⟨by decide +kernel, by decide +kernel⟩, List.mem_of_getElem? (i := 109) (by decide +kernel), List.mem_of_getElem? (i := 364) (by decide +kernel), List.mem_of_getElem? (i := 365) (by decide +kernel)⟩
theorem lw_p6 : lw_okq (⟨"FoldedStrand$NearList", "textWithoutPairs", "()J"⟩, 10) := ⟨⟨by decide +kernel, by decide +kernel⟩, List.mem_of_getElem? (i := 109) (by decide +kernel), List.mem_of_getElem? (i := 368) (by decide +kernel), List.mem_of_getElem? (i := 369) (by decide +kernel)⟩
theorem lw_p7 : lw_okq (⟨"FoldedStrand$NearList", "fillRegions", "(IIJI)V"⟩, 10) := ⟨⟨by decide +kernel, by decide +kernel⟩, List.mem_of_getElem? (i := 109) (by decide +kernel), List.mem_of_getElem? (i := 376) (by decide +kernel), List.mem_of_getElem? (i := 377) (by decide +kernel)⟩
theorem lw_p8 : lw_okq (⟨"FoldedStrand$NearList", "insert", "(IJ)V"⟩, 10) := ⟨⟨by decide +kernel, by decide +kernel⟩, List.mem_of_getElem? (i := 109) (by decide +kernel), List.mem_of_getElem? (i := 380) (by decide +kernel), List.mem_of_getElem? (i := 381) (by decide +kernel)⟩
theorem lw_p9 : lw_okq (⟨"FoldedStrand$NearList", "fillPair", "(IIIIJI)V"⟩, 10) := ⟨⟨by decide +kernel, by decide +kernel⟩, List.mem_of_getElem? (i := 109) (by decide +kernel), List.mem_of_getElem? (i := 394) (by decide +kernel), List.mem_of_getElem? (i := 395) (by decide +kernel)⟩
theorem lw_p10 : lw_okq (⟨"FoldedStrand$Structure", "closeLast", "()Z"⟩, 7) := ⟨⟨by decide +kernel, by decide +kernel⟩, List.mem_of_getElem? (i := 149) (by decide +kernel), List.mem_of_getElem? (i := 439) (by decide +kernel), List.mem_of_getElem? (i := 440) (by decide +kernel)⟩
theorem lw_p11 : lw_okq (⟨"FoldedStrand", "adoptDraft", "()I"⟩, 7) := ⟨⟨by decide +kernel, by decide +kernel⟩, List.mem_of_getElem? (i := 12) (by decide +kernel), List.mem_of_getElem? (i := 444) (by decide +kernel), List.mem_of_getElem? (i := 445) (by decide +kernel)⟩
theorem lw_p12 : lw_okq (⟨"FoldedStrandModel", "clearOwn", "()V"⟩, 14) := ⟨⟨by decide +kernel, by decide +kernel⟩, List.mem_of_getElem? (i := 506) (by decide +kernel), List.mem_of_getElem? (i := 512) (by decide +kernel), List.mem_of_getElem? (i := 513) (by decide +kernel)⟩
theorem lw_p13 : lw_okq (⟨"FoldedStrandModel", "look", "()V"⟩, 14) := ⟨⟨by decide +kernel, by decide +kernel⟩, List.mem_of_getElem? (i := 506) (by decide +kernel), List.mem_of_getElem? (i := 571) (by decide +kernel), List.mem_of_getElem? (i := 572) (by decide +kernel)⟩
theorem lw_p14 : lw_okq (⟨"FoldedStrandModel", "begin", "()V"⟩, 14) := ⟨⟨by decide +kernel, by decide +kernel⟩, List.mem_of_getElem? (i := 506) (by decide +kernel), List.mem_of_getElem? (i := 575) (by decide +kernel), List.mem_of_getElem? (i := 576) (by decide +kernel)⟩
theorem lw_p15 : lw_okq (⟨"FoldedStrandModel", "energyNow", "()I"⟩, 14) := ⟨⟨by decide +kernel, by decide +kernel⟩, List.mem_of_getElem? (i := 506) (by decide +kernel), List.mem_of_getElem? (i := 579) (by decide +kernel), List.mem_of_getElem? (i := 580) (by decide +kernel)⟩
def lw_privs_1 : List (MethodName × Nat) := [(⟨"FoldedStrand$Folds", "leastOfPair", "(II)I"⟩, 9), (⟨"FoldedStrand$Loops", "stack", "(IIII)I"⟩, 1), (⟨"FoldedStrand$Folds", "countPart", "(II)V"⟩, 9), (⟨"FoldedStrand$Folds", "fillRegion", "(LFoldedStrand$Region;II)V"⟩, 9), (⟨"FoldedStrand", "forgetStructures", "()V"⟩, 7), (⟨"FoldedStrand$NearList", "setRegion", "(ILFoldedStrand$Region;II)V"⟩, 10), (⟨"FoldedStrand$NearList", "textWithoutPairs", "()J"⟩, 10), (⟨"FoldedStrand$NearList", "fillRegions", "(IIJI)V"⟩, 10), (⟨"FoldedStrand$NearList", "insert", "(IJ)V"⟩, 10), (⟨"FoldedStrand$NearList", "fillPair", "(IIIIJI)V"⟩, 10), (⟨"FoldedStrand$Structure", "closeLast", "()Z"⟩, 7), (⟨"FoldedStrand", "adoptDraft", "()I"⟩, 7), (⟨"FoldedStrandModel", "clearOwn", "()V"⟩, 14), (⟨"FoldedStrandModel", "look", "()V"⟩, 14), (⟨"FoldedStrandModel", "begin", "()V"⟩, 14), (⟨"FoldedStrandModel", "energyNow", "()I"⟩, 14)]
theorem lw_r1 : ∀ q ∈ lw_privs_1, lw_okq q := List.forall_mem_cons.mpr ⟨lw_p0, List.forall_mem_cons.mpr ⟨lw_p1, List.forall_mem_cons.mpr ⟨lw_p2, List.forall_mem_cons.mpr ⟨lw_p3, List.forall_mem_cons.mpr ⟨lw_p4, List.forall_mem_cons.mpr ⟨lw_p5, List.forall_mem_cons.mpr ⟨lw_p6, List.forall_mem_cons.mpr ⟨lw_p7, List.forall_mem_cons.mpr ⟨lw_p8, List.forall_mem_cons.mpr ⟨lw_p9, List.forall_mem_cons.mpr ⟨lw_p10, List.forall_mem_cons.mpr ⟨lw_p11, List.forall_mem_cons.mpr ⟨lw_p12, List.forall_mem_cons.mpr ⟨lw_p13, List.forall_mem_cons.mpr ⟨lw_p14, List.forall_mem_cons.mpr ⟨lw_p15, fun _ h => absurd h List.not_mem_nil⟩⟩⟩⟩⟩⟩⟩⟩⟩⟩⟩⟩⟩⟩⟩⟩
theorem lw_p16 : lw_okq (⟨"FoldedStrandModel", "loopOf", "(II)I"⟩, 14) := ⟨⟨by decide +kernel, by decide +kernel⟩, List.mem_of_getElem? (i := 506) (by decide +kernel), List.mem_of_getElem? (i := 583) (by decide +kernel), List.mem_of_getElem? (i := 584) (by decide +kernel)⟩
theorem lw_p17 : lw_okq (⟨"FoldedStrandModel", "weak", "(III)I"⟩, 14) := ⟨⟨by decide +kernel, by decide +kernel⟩, List.mem_of_getElem? (i := 506) (by decide +kernel), List.mem_of_getElem? (i := 587) (by decide +kernel), List.mem_of_getElem? (i := 588) (by decide +kernel)⟩
theorem lw_p18 : lw_okq (⟨"FoldedStrandModel", "kind", "(II)I"⟩, 14) := ⟨⟨by decide +kernel, by decide +kernel⟩, List.mem_of_getElem? (i := 506) (by decide +kernel), List.mem_of_getElem? (i := 591) (by decide +kernel), List.mem_of_getElem? (i := 592) (by decide +kernel)⟩
theorem lw_p19 : lw_okq (⟨"FoldedStrandModel", "closed", "(III)I"⟩, 14) := ⟨⟨by decide +kernel, by decide +kernel⟩, List.mem_of_getElem? (i := 506) (by decide +kernel), List.mem_of_getElem? (i := 595) (by decide +kernel), List.mem_of_getElem? (i := 596) (by decide +kernel)⟩
theorem lw_p20 : lw_okq (⟨"FoldedStrandModel", "isLoopOfSix", "(II)Z"⟩, 14) := ⟨⟨by decide +kernel, by decide +kernel⟩, List.mem_of_getElem? (i := 506) (by decide +kernel), List.mem_of_getElem? (i := 599) (by decide +kernel), List.mem_of_getElem? (i := 600) (by decide +kernel)⟩
theorem lw_p21 : lw_okq (⟨"FoldedStrandModel", "within", "(IIII)I"⟩, 14) := ⟨⟨by decide +kernel, by decide +kernel⟩, List.mem_of_getElem? (i := 506) (by decide +kernel), List.mem_of_getElem? (i := 603) (by decide +kernel), List.mem_of_getElem? (i := 604) (by decide +kernel)⟩
theorem lw_p22 : lw_okq (⟨"FoldedStrandModel", "pairsNow", "()I"⟩, 14) := ⟨⟨by decide +kernel, by decide +kernel⟩, List.mem_of_getElem? (i := 506) (by decide +kernel), List.mem_of_getElem? (i := 607) (by decide +kernel), List.mem_of_getElem? (i := 608) (by decide +kernel)⟩
theorem lw_p23 : lw_okq (⟨"FoldedStrandModel", "nextStructure", "()Z"⟩, 14) := ⟨⟨by decide +kernel, by decide +kernel⟩, List.mem_of_getElem? (i := 506) (by decide +kernel), List.mem_of_getElem? (i := 611) (by decide +kernel), List.mem_of_getElem? (i := 612) (by decide +kernel)⟩
theorem lw_p24 : lw_okq (⟨"FoldedStrandModel", "advance", "(I)Z"⟩, 14) := ⟨⟨by decide +kernel, by decide +kernel⟩, List.mem_of_getElem? (i := 506) (by decide +kernel), List.mem_of_getElem? (i := 615) (by decide +kernel), List.mem_of_getElem? (i := 616) (by decide +kernel)⟩
theorem lw_p25 : lw_okq (⟨"FoldedStrandModel", "bound", "(I)I"⟩, 14) := ⟨⟨by decide +kernel, by decide +kernel⟩, List.mem_of_getElem? (i := 506) (by decide +kernel), List.mem_of_getElem? (i := 619) (by decide +kernel), List.mem_of_getElem? (i := 620) (by decide +kernel)⟩
theorem lw_p26 : lw_okq (⟨"FoldedStrandModel", "canPair", "(II)Z"⟩, 14) := ⟨⟨by decide +kernel, by decide +kernel⟩, List.mem_of_getElem? (i := 506) (by decide +kernel), List.mem_of_getElem? (i := 623) (by decide +kernel), List.mem_of_getElem? (i := 624) (by decide +kernel)⟩
theorem lw_p27 : lw_okq (⟨"FoldedStrandModel", "put", "(I)V"⟩, 14) := ⟨⟨by decide +kernel, by decide +kernel⟩, List.mem_of_getElem? (i := 506) (by decide +kernel), List.mem_of_getElem? (i := 639) (by decide +kernel), List.mem_of_getElem? (i := 640) (by decide +kernel)⟩
theorem lw_p28 : lw_okq (⟨"FoldedStrandModel", "isBefore", "(II)Z"⟩, 14) := ⟨⟨by decide +kernel, by decide +kernel⟩, List.mem_of_getElem? (i := 506) (by decide +kernel), List.mem_of_getElem? (i := 643) (by decide +kernel), List.mem_of_getElem? (i := 644) (by decide +kernel)⟩
theorem lw_p29 : lw_okq (⟨"FoldedStrandModel", "signNow", "(I)I"⟩, 14) := ⟨⟨by decide +kernel, by decide +kernel⟩, List.mem_of_getElem? (i := 506) (by decide +kernel), List.mem_of_getElem? (i := 647) (by decide +kernel), List.mem_of_getElem? (i := 648) (by decide +kernel)⟩
theorem lw_p30 : lw_okq (⟨"FoldedStrandModel", "signOf", "(II)I"⟩, 14) := ⟨⟨by decide +kernel, by decide +kernel⟩, List.mem_of_getElem? (i := 506) (by decide +kernel), List.mem_of_getElem? (i := 651) (by decide +kernel), List.mem_of_getElem? (i := 652) (by decide +kernel)⟩
theorem lw_p31 : lw_okq (⟨"FoldedStrandModel", "isListed", "(I)Z"⟩, 14) := ⟨⟨by decide +kernel, by decide +kernel⟩, List.mem_of_getElem? (i := 506) (by decide +kernel), List.mem_of_getElem? (i := 659) (by decide +kernel), List.mem_of_getElem? (i := 660) (by decide +kernel)⟩
def lw_privs_2 : List (MethodName × Nat) := [(⟨"FoldedStrandModel", "loopOf", "(II)I"⟩, 14), (⟨"FoldedStrandModel", "weak", "(III)I"⟩, 14), (⟨"FoldedStrandModel", "kind", "(II)I"⟩, 14), (⟨"FoldedStrandModel", "closed", "(III)I"⟩, 14), (⟨"FoldedStrandModel", "isLoopOfSix", "(II)Z"⟩, 14), (⟨"FoldedStrandModel", "within", "(IIII)I"⟩, 14), (⟨"FoldedStrandModel", "pairsNow", "()I"⟩, 14), (⟨"FoldedStrandModel", "nextStructure", "()Z"⟩, 14), (⟨"FoldedStrandModel", "advance", "(I)Z"⟩, 14), (⟨"FoldedStrandModel", "bound", "(I)I"⟩, 14), (⟨"FoldedStrandModel", "canPair", "(II)Z"⟩, 14), (⟨"FoldedStrandModel", "put", "(I)V"⟩, 14), (⟨"FoldedStrandModel", "isBefore", "(II)Z"⟩, 14), (⟨"FoldedStrandModel", "signNow", "(I)I"⟩, 14), (⟨"FoldedStrandModel", "signOf", "(II)I"⟩, 14), (⟨"FoldedStrandModel", "isListed", "(I)Z"⟩, 14)]
theorem lw_r2 : ∀ q ∈ lw_privs_2, lw_okq q := List.forall_mem_cons.mpr ⟨lw_p16, List.forall_mem_cons.mpr ⟨lw_p17, List.forall_mem_cons.mpr ⟨lw_p18, List.forall_mem_cons.mpr ⟨lw_p19, List.forall_mem_cons.mpr ⟨lw_p20, List.forall_mem_cons.mpr ⟨lw_p21, List.forall_mem_cons.mpr ⟨lw_p22, List.forall_mem_cons.mpr ⟨lw_p23, List.forall_mem_cons.mpr ⟨lw_p24, List.forall_mem_cons.mpr ⟨lw_p25, List.forall_mem_cons.mpr ⟨lw_p26, List.forall_mem_cons.mpr ⟨lw_p27, List.forall_mem_cons.mpr ⟨lw_p28, List.forall_mem_cons.mpr ⟨lw_p29, List.forall_mem_cons.mpr ⟨lw_p30, List.forall_mem_cons.mpr ⟨lw_p31, fun _ h => absurd h List.not_mem_nil⟩⟩⟩⟩⟩⟩⟩⟩⟩⟩⟩⟩⟩⟩⟩⟩
theorem lw_p32 : lw_okq (⟨"FoldedStrandModel", "pairsOfOwn", "()I"⟩, 14) := ⟨⟨by decide +kernel, by decide +kernel⟩, List.mem_of_getElem? (i := 506) (by decide +kernel), List.mem_of_getElem? (i := 671) (by decide +kernel), List.mem_of_getElem? (i := 672) (by decide +kernel)⟩
theorem lw_p33 : lw_okq (⟨"FoldedStrandModel", "useOwn", "()V"⟩, 14) := ⟨⟨by decide +kernel, by decide +kernel⟩, List.mem_of_getElem? (i := 506) (by decide +kernel), List.mem_of_getElem? (i := 675) (by decide +kernel), List.mem_of_getElem? (i := 676) (by decide +kernel)⟩
theorem lw_p34 : lw_okq (⟨"FoldedStrandModel", "isWrong", "(I)Z"⟩, 14) := ⟨⟨by decide +kernel, by decide +kernel⟩, List.mem_of_getElem? (i := 506) (by decide +kernel), List.mem_of_getElem? (i := 687) (by decide +kernel), List.mem_of_getElem? (i := 688) (by decide +kernel)⟩
theorem lw_p35 : lw_okq (⟨"FoldedStrandModel", "opened", "(I)I"⟩, 14) := ⟨⟨by decide +kernel, by decide +kernel⟩, List.mem_of_getElem? (i := 506) (by decide +kernel), List.mem_of_getElem? (i := 691) (by decide +kernel), List.mem_of_getElem? (i := 692) (by decide +kernel)⟩
def lw_privs_3 : List (MethodName × Nat) := [(⟨"FoldedStrandModel", "pairsOfOwn", "()I"⟩, 14), (⟨"FoldedStrandModel", "useOwn", "()V"⟩, 14), (⟨"FoldedStrandModel", "isWrong", "(I)Z"⟩, 14), (⟨"FoldedStrandModel", "opened", "(I)I"⟩, 14)]
theorem lw_r3 : ∀ q ∈ lw_privs_3, lw_okq q := List.forall_mem_cons.mpr ⟨lw_p32, List.forall_mem_cons.mpr ⟨lw_p33, List.forall_mem_cons.mpr ⟨lw_p34, List.forall_mem_cons.mpr ⟨lw_p35, fun _ h => absurd h List.not_mem_nil⟩⟩⟩⟩
def lw_privs : List (MethodName × Nat) := lw_privs_1 ++ (lw_privs_2 ++ (lw_privs_3))
def lw_tbl : List Cond := k2_sels lw_privs ++ tables_1
theorem lw_privs_ok : ∀ q ∈ lw_privs, lw_okq q := by
  show ∀ q ∈ lw_privs_1 ++ (lw_privs_2 ++ (lw_privs_3)), lw_okq q
  exact List.forall_mem_append.mpr ⟨lw_r1, List.forall_mem_append.mpr ⟨lw_r2, lw_r3⟩⟩
end
section
/-! Structures as partner functions (-1: none), and the enumeration that goes from one to the next: pure. -/
def en_kt : List Int := [-1, -1, -1, 4, -1, -1, 0, -1, -1, 1, -1, 2, 5, -1, 3, -1]
/-- the kind of two bases (A C G U are 0 1 2 3), or -1 -/
def en_kd (a c : Nat) : Int := en_kt.getD (a * 4 + c) (-1)
def en_cp (b : Nat → Nat) (i j : Nat) : Bool := decide (i + 4 ≤ j) && decide (0 ≤ en_kd (b i) (b j))
def en_up (w : Nat → Int) (k : Nat) (v : Int) : Nat → Int := fun j => if j = k then v else w j
theorem en_up_self {w : Nat → Int} {k : Nat} {v : Int} : en_up w k v k = v := by simp [en_up]
theorem en_up_ne {w : Nat → Int} {k j : Nat} {v : Int} (h : j ≠ k) : en_up w k v j = w j := by simp [en_up, h]
/-- the pair i, j comes to w -/
def en_pr (w : Nat → Int) (i j : Nat) : Nat → Int := en_up (en_up w i j) j i
/-- up to where place i may reach: the nearest end of a pair that began before it -/
def en_bd (n : Nat) (w : Nat → Int) (i : Nat) : Nat → Int
  | 0 => n
  | p + 1 => if (i : Int) < w p ∧ w p < en_bd n w i p then w p else en_bd n w i p
/-- the places from j0 on, below e, that i can pair with -/
def en_fe (b : Nat → Nat) (i j0 e : Nat) : List Nat := (List.range' j0 (e - j0)).filter (en_cp b i)
def en_adv (b : Nat → Nat) (n i : Nat) (w : Nat → Int) : Bool × (Nat → Int) :=
  if 0 ≤ w i ∧ w i < i then (false, w)
  else
    let w2 := en_up (if 0 ≤ w i then en_up w (w i).toNat (-1) else w) i (-1)
    match en_fe b i (if w i < 0 then i + 4 else (w i).toNat + 1) (en_bd n w2 i i).toNat with
    | [] => (false, w2)
    | j :: _ => (true, en_pr w2 i j)
/-- the places from i on, the last one first -/
def en_nf (b : Nat → Nat) (n : Nat) : Nat → Nat → (Nat → Int) → Bool × (Nat → Int)
  | 0, _, w => (false, w)
  | k + 1, i, w => if (en_nf b n k (i + 1) w).1 = true then en_nf b n k (i + 1) w else en_adv b n i (en_nf b n k (i + 1) w).2
/-- the same as a loop downwards -/
def en_dn (b : Nat → Nat) (n : Nat) : Nat → (Nat → Int) → Bool × (Nat → Int)
  | 0, w => (false, w)
  | i + 1, w => if (en_adv b n i w).1 = true then en_adv b n i w else en_dn b n i (en_adv b n i w).2
theorem en_dn_nf (b : Nat → Nat) (n : Nat) : ∀ (k i : Nat) (w : Nat → Int), en_dn b n (i + k) w = if (en_nf b n k i w).1 = true then en_nf b n k i w else en_dn b n i (en_nf b n k i w).2
  | 0, i, w => by simp [en_nf]
  | k + 1, i, w => by
    have ih := en_dn_nf b n k (i + 1) w
    rw [show i + (k + 1) = i + 1 + k by omega, ih]
    by_cases h : (en_nf b n k (i + 1) w).1 = true
    · simp [en_nf, h]
    · by_cases h2 : (en_adv b n i (en_nf b n k (i + 1) w).2).1 = true
      · simp [en_nf, en_dn, h, h2]
      · simp [en_nf, en_dn, h, h2]
theorem en_dn_all (b : Nat → Nat) (n : Nat) (w : Nat → Int) : en_dn b n n w = en_nf b n n 0 w := by
  have h := en_dn_nf b n n 0 w
  rw [Nat.zero_add] at h
  rw [h]
  by_cases h1 : (en_nf b n n 0 w).1 = true
  · simp [h1]
  · have : en_nf b n n 0 w = (false, (en_nf b n n 0 w).2) := by
      cases hq : en_nf b n n 0 w with
      | mk x y => rw [hq] at h1; simp at h1; simp [h1]
    simp only [h1, en_dn]
    exact this.symm
/-- all structures whose pairs that begin before i are those of w0 -/
def en_L (b : Nat → Nat) (n : Nat) : Nat → Nat → (Nat → Int) → List (Nat → Int)
  | 0, _, w0 => [w0]
  | k + 1, i, w0 => if 0 ≤ w0 i then en_L b n k (i + 1) w0 else en_L b n k (i + 1) w0 ++ (en_fe b i (i + 4) (en_bd n w0 i i).toNat).flatMap (fun j => en_L b n k (i + 1) (en_pr w0 i j))
/-- f goes through the list, and then comes to w0 with false -/
def en_Ch (f : (Nat → Int) → Bool × (Nat → Int)) (w0 : Nat → Int) : List (Nat → Int) → Prop
  | [] => False
  | [a] => f a = (false, w0)
  | a :: c :: l => f a = (true, c) ∧ en_Ch f w0 (c :: l)
/-- no pair begins at i or later -/
def en_Fr (i : Nat) (w : Nat → Int) : Prop := ∀ p : Nat, i ≤ p → w p = -1 ∨ (0 ≤ w p ∧ w p < i)
/-- partners are mutual, and below n -/
def en_V1 (n : Nat) (w : Nat → Int) : Prop := ∀ p : Nat, w p = -1 ∨ (0 ≤ w p ∧ w p < n ∧ p < n ∧ w p ≠ p ∧ w (w p).toNat = p)
theorem en_bd_le (n : Nat) (w : Nat → Int) (i : Nat) : ∀ k, en_bd n w i k ≤ n
  | 0 => by simp [en_bd]
  | k + 1 => by
    have ih := en_bd_le n w i k
    unfold en_bd
    split <;> omega
theorem en_bd_lt (n : Nat) (w : Nat → Int) (i : Nat) : ∀ k p : Nat, p < k → (i : Int) < w p → en_bd n w i k ≤ w p
  | k + 1, p, h, hp => by
    unfold en_bd
    by_cases hk : p = k
    · subst hk
      split <;> omega
    · have ih := en_bd_lt n w i k p (by omega) hp
      split <;> omega
theorem en_bd_gt (n : Nat) (w : Nat → Int) (i j : Nat) (hj : j < n) : ∀ k, (∀ p : Nat, p < k → (i : Int) < w p → (j : Int) < w p) → (j : Int) < en_bd n w i k
  | 0, _ => by simp [en_bd]; omega
  | k + 1, h => by
    have ih := en_bd_gt n w i j hj k (fun p hp => h p (by omega))
    unfold en_bd
    split
    · rename_i hc
      exact h k (by omega) hc.1
    · exact ih
theorem en_bd_pos (n : Nat) (w : Nat → Int) (i : Nat) : ∀ k, 0 ≤ en_bd n w i k
  | 0 => by simp [en_bd]
  | k + 1 => by
    have ih := en_bd_pos n w i k
    unfold en_bd
    split <;> omega
theorem en_mem_fe {b : Nat → Nat} {i j0 e j : Nat} : j ∈ en_fe b i j0 e ↔ (j0 ≤ j ∧ j < e) ∧ en_cp b i j = true := by
  unfold en_fe
  rw [List.mem_filter, List.mem_range']
  constructor
  · rintro ⟨⟨t, h1, h2⟩, h3⟩
    exact ⟨by omega, h3⟩
  · rintro ⟨h1, h2⟩
    exact ⟨⟨j - j0, by omega, by omega⟩, h2⟩
/-- behind its first element such a list is such a list -/
theorem en_fe_next {b : Nat → Nat} {i e j : Nat} {js : List Nat} : ∀ (d j0 : Nat), e - j0 = d → en_fe b i j0 e = j :: js → en_fe b i (j + 1) e = js
  | 0, j0, hd, h => by
    unfold en_fe at h
    rw [hd] at h
    simp at h
  | d + 1, j0, hd, h => by
    unfold en_fe at h
    rw [hd, List.range'_succ] at h
    rw [List.filter_cons] at h
    split at h
    · have h1 := (List.cons.inj h).1
      have h2 := (List.cons.inj h).2
      subst h1
      unfold en_fe
      rw [show e - (j0 + 1) = d by omega]
      exact h2
    · refine en_fe_next d (j0 + 1) (by omega) ?_
      unfold en_fe
      rw [show e - (j0 + 1) = d by omega]
      exact h
theorem en_pr_at {w : Nat → Int} {i j : Nat} (p : Nat) : en_pr w i j p = if p = j then (i : Int) else if p = i then (j : Int) else w p := by
  unfold en_pr en_up
  rfl
/-- a pair that came and goes again -/
theorem en_pr_undo {w : Nat → Int} {i j : Nat} (hij : i < j) (hi : w i = -1) (hj : w j = -1) : en_up (en_up (en_pr w i j) j (-1)) i (-1) = w := by
  funext p
  simp only [en_up, en_pr_at]
  by_cases h1 : p = i
  · subst h1; simp [hi]
  · by_cases h2 : p = j
    · subst h2; simp [h1, hj]
    · simp [h1, h2]
theorem en_up_same {w : Nat → Int} {i : Nat} {v : Int} (h : w i = v) : en_up w i v = w := by
  funext p
  unfold en_up
  split
  · rename_i hp
    rw [hp, h]
  · rfl
theorem en_L_head (b : Nat → Nat) (n : Nat) : ∀ (k i : Nat) (w0 : Nat → Int), ∃ l, en_L b n k i w0 = w0 :: l
  | 0, _, w0 => ⟨[], rfl⟩
  | k + 1, i, w0 => by
    obtain ⟨l, hl⟩ := en_L_head b n k (i + 1) w0
    unfold en_L
    split
    · exact ⟨l, hl⟩
    · rw [hl]
      exact ⟨_, rfl⟩
theorem en_Ch_last {f g : (Nat → Int) → Bool × (Nat → Int)} {u w0 : Nat → Int} (hf : ∀ a c, g a = (true, c) → f a = (true, c)) (he : ∀ a, g a = (false, u) → f a = (false, w0)) : ∀ l, en_Ch g u l → en_Ch f w0 l
  | [], h => h
  | [a], h => he a h
  | a :: c :: l, h => ⟨hf a c h.1, en_Ch_last hf he (c :: l) h.2⟩
theorem en_Ch_app {f g : (Nat → Int) → Bool × (Nat → Int)} {u v w0 : Nat → Int} {l2 : List (Nat → Int)} (hf : ∀ a c, g a = (true, c) → f a = (true, c)) (he : ∀ a, g a = (false, u) → f a = (true, v)) (h2 : en_Ch f w0 (v :: l2)) : ∀ l, en_Ch g u l → en_Ch f w0 (l ++ (v :: l2))
  | [], h => h.elim
  | [a], h => ⟨he a h, h2⟩
  | a :: c :: l, h => ⟨hf a c h.1, en_Ch_app hf he h2 (c :: l) h.2⟩
theorem en_V1_pr {n : Nat} {w : Nat → Int} {i j : Nat} (h : en_V1 n w) (hij : i < j) (hj : j < n) (h1 : w i = -1) (h2 : w j = -1) : en_V1 n (en_pr w i j) := by
  intro p
  rw [en_pr_at]
  by_cases hpj : p = j
  · subst hpj
    right
    rw [if_pos rfl]
    refine ⟨by omega, by omega, hj, by omega, ?_⟩
    rw [Int.toNat_natCast, en_pr_at, if_neg (by omega), if_pos rfl]
  · rw [if_neg hpj]
    by_cases hpi : p = i
    · subst hpi
      right
      rw [if_pos rfl]
      refine ⟨by omega, by omega, by omega, by omega, ?_⟩
      rw [Int.toNat_natCast, en_pr_at, if_pos rfl]
    · rw [if_neg hpi]
      rcases h p with hp | ⟨a1, a2, a3, a4, a5⟩
      · exact Or.inl hp
      · right
        refine ⟨a1, a2, a3, a4, ?_⟩
        rw [en_pr_at, if_neg, if_neg]
        · exact a5
        · intro hq
          rw [hq, h1] at a5
          omega
        · intro hq
          rw [hq, h2] at a5
          omega
/-- a place between i and the bound is free -/
theorem en_free {n : Nat} {w : Nat → Int} {i j : Nat} (h : en_V1 n w) (hF : en_Fr i w) (hij : i < j) (hj : (j : Int) < en_bd n w i i) : w j = -1 := by
  rcases hF j (by omega) with h1 | ⟨h1, h2⟩
  · exact h1
  · rcases h j with h3 | ⟨a1, a2, a3, a4, a5⟩
    · exact h3
    · have := en_bd_lt n w i i (w j).toNat (by omega) (by rw [a5]; omega)
      rw [a5] at this
      omega
theorem en_Fr_pr {w : Nat → Int} {i j : Nat} (hF : en_Fr i w) (hij : i < j) : en_Fr (i + 1) (en_pr w i j) := by
  intro p hp
  rw [en_pr_at]
  by_cases h1 : p = j
  · right
    rw [if_pos h1]
    omega
  · rw [if_neg h1, if_neg (by omega)]
    rcases hF p (by omega) with h2 | h2
    · exact Or.inl h2
    · right
      omega
/-- from the first to the last: 'next' goes through the list -/
theorem en_chain (b : Nat → Nat) (n : Nat) : ∀ (k i : Nat) (w0 : Nat → Int), i + k = n → en_V1 n w0 → en_Fr i w0 → en_Ch (en_nf b n k i) w0 (en_L b n k i w0)
  | 0, i, w0, _, _, _ => rfl
  | k + 1, i, w0, hn, hV, hF => by
    have hf : ∀ a c, en_nf b n k (i + 1) a = (true, c) → en_nf b n (k + 1) i a = (true, c) := by
      intro a c h
      simp [en_nf, h]
    have hF1 : en_Fr (i + 1) w0 := by
      intro p hp
      rcases hF p (by omega) with h | h
      · exact Or.inl h
      · exact Or.inr (by omega)
    have ih0 := en_chain b n k (i + 1) w0 (by omega) hV hF1
    unfold en_L
    by_cases hc : 0 ≤ w0 i
    · rw [if_pos hc]
      refine en_Ch_last hf (fun a h => ?_) _ ih0
      have hlt : w0 i < i := by
        rcases hF i (Nat.le_refl i) with h1 | h1
        · omega
        · exact h1.2
      simp [en_nf, h, en_adv, hc, hlt]
    · rw [if_neg hc]
      have hw : w0 i = -1 := by
        rcases hF i (Nat.le_refl i) with h1 | h1
        · exact h1
        · omega
      -- the blocks from j0 on
      have blocks : ∀ (js : List Nat) (u : Nat → Int) (lu : List (Nat → Int)) (j0 : Nat), i + 4 ≤ j0 → en_fe b i j0 (en_bd n w0 i i).toNat = js → en_Ch (en_nf b n k (i + 1)) u lu →
          (∀ a, en_nf b n k (i + 1) a = (false, u) → en_nf b n (k + 1) i a = match js with | [] => (false, w0) | j :: _ => (true, en_pr w0 i j)) →
          en_Ch (en_nf b n (k + 1) i) w0 (lu ++ js.flatMap (fun j => en_L b n k (i + 1) (en_pr w0 i j))) := by
        intro js
        induction js with
        | nil =>
          intro u lu j0 _ hfe hlu hstep
          rw [List.flatMap_nil, List.append_nil]
          exact en_Ch_last hf hstep _ hlu
        | cons j js ih =>
          intro u lu j0 hj0 hfe hlu hstep
          have hmem : j ∈ en_fe b i j0 (en_bd n w0 i i).toNat := by rw [hfe]; exact List.mem_cons_self
          obtain ⟨⟨m1, m2⟩, m3⟩ := en_mem_fe.mp hmem
          have hbn := en_bd_le n w0 i i
          have hbp := en_bd_pos n w0 i i
          have hjb : (j : Int) < en_bd n w0 i i := by omega
          have hjfree : w0 j = -1 := en_free hV hF (by omega) hjb
          have hV2 : en_V1 n (en_pr w0 i j) := en_V1_pr hV (by omega) (by omega) hw hjfree
          have hF2 : en_Fr (i + 1) (en_pr w0 i j) := en_Fr_pr hF (by omega)
          have ih2 := en_chain b n k (i + 1) (en_pr w0 i j) (by omega) hV2 hF2
          have hnext := en_fe_next _ j0 rfl hfe
          have := ih (en_pr w0 i j) (en_L b n k (i + 1) (en_pr w0 i j)) (j + 1) (by omega) hnext ih2 (by
            intro a ha
            have e1 : en_pr w0 i j i = (j : Int) := by rw [en_pr_at, if_neg (by omega), if_pos rfl]
            have e2 : ¬ (0 ≤ en_pr w0 i j i ∧ en_pr w0 i j i < (i : Int)) := by rw [e1]; omega
            simp only [en_nf, ha]
            rw [if_neg (by simp)]
            unfold en_adv
            rw [if_neg e2]
            have e3 : ¬ ((j : Nat) : Int) < 0 := by omega
            have e4 : (0 : Int) ≤ ((j : Nat) : Int) := by omega
            simp only [e1, e3, e4, if_true, if_false, Int.toNat_natCast, en_pr_undo (show i < j by omega) hw hjfree, hnext])
          rw [List.flatMap_cons]
          obtain ⟨l, hl⟩ := en_L_head b n k (i + 1) (en_pr w0 i j)
          rw [hl] at this ⊢
          exact en_Ch_app hf hstep this _ hlu
      refine blocks _ w0 _ (i + 4) (Nat.le_refl _) rfl ih0 (fun a ha => ?_)
      simp only [en_nf, ha]
      rw [if_neg (by simp)]
      unfold en_adv
      have e2 : ¬ (0 ≤ w0 i ∧ w0 i < (i : Int)) := by omega
      rw [if_neg e2]
      have e3 : w0 i < 0 := by omega
      simp only [hc, e3, if_true, if_false, en_up_same hw]
end
section
/-! The enumeration has every structure, and each once: pure. -/
def en_V (b : Nat → Nat) (n : Nat) (w : Nat → Int) : Prop := en_V1 n w ∧ (∀ p : Nat, (p : Int) < w p → en_cp b p (w p).toNat = true) ∧ ∀ p q : Nat, p < q → (q : Int) < w p → w q = -1 ∨ ((p : Int) < w q ∧ w q < w p)
/-- only the pairs that begin before i -/
def en_clr (i : Nat) (w : Nat → Int) : Nat → Int := fun p => if w p = -1 then -1 else if p < i ∨ w p < i then w p else -1
theorem en_clr_clr (i : Nat) (w : Nat → Int) : en_clr i (en_clr (i + 1) w) = en_clr i w := by
  funext p
  unfold en_clr
  by_cases h1 : w p = -1
  · simp [h1]
  · by_cases h2 : p < i + 1 ∨ w p < ((i + 1 : Nat) : Int)
    · simp only [h1, h2, if_true, if_false]
    · have h3 : ¬ (p < i ∨ w p < (i : Int)) := by omega
      simp only [h1, h2, h3, if_true, if_false]
theorem en_clr_fr {i : Nat} {w : Nat → Int} (h : en_Fr i w) : en_clr i w = w := by
  funext p
  unfold en_clr
  by_cases h1 : w p = -1
  · simp [h1]
  · by_cases h2 : p < i
    · simp [h1, h2]
    · have h3 : w p < i := by
        rcases h p (by omega) with h4 | h4
        · exact absurd h4 h1
        · exact h4.2
      simp [h1, h3]
theorem en_clr_pr {i j : Nat} {w : Nat → Int} (h : en_Fr i w) (hij : i < j) (hi : w i = -1) (hj : w j = -1) : en_clr i (en_pr w i j) = w := by
  funext p
  have h0 := congrFun (en_clr_fr h) p
  unfold en_clr at h0 ⊢
  rw [en_pr_at]
  by_cases h1 : p = j
  · subst h1
    rw [if_pos rfl, hj, if_neg (by omega), if_neg (by omega)]
  · rw [if_neg h1]
    by_cases h2 : p = i
    · subst h2
      rw [if_pos rfl, hi, if_neg (by omega), if_neg (by omega)]
    · rw [if_neg h2]
      exact h0
/-- where no pair begins at i, i or i + 1 is the same -/
theorem en_clr_no {n i : Nat} {w : Nat → Int} (hV : en_V1 n w) (h : ¬ (i : Int) < w i) : en_clr (i + 1) w = en_clr i w := by
  funext p
  unfold en_clr
  by_cases h1 : w p = -1
  · simp [h1]
  · rcases hV p with h2 | ⟨a1, a2, a3, a4, a5⟩
    · exact absurd h2 h1
    · by_cases h3 : p < i ∨ w p < (i : Int)
      · have h4 : p < i + 1 ∨ w p < ((i + 1 : Nat) : Int) := by omega
        simp only [h1, h3, h4, if_true, if_false]
      · have h4 : ¬ (p < i + 1 ∨ w p < ((i + 1 : Nat) : Int)) := by
          intro h5
          have h6 : p = i ∨ w p = i := by omega
          rcases h6 with h6 | h6
          · subst h6
            omega
          · rw [h6, Int.toNat_natCast] at a5
            omega
        simp only [h1, h3, h4, if_true, if_false]
theorem en_V_pr {b : Nat → Nat} {n : Nat} {w : Nat → Int} {i j : Nat} (h : en_V b n w) (hF : en_Fr i w) (hij : i < j) (hjn : j < n) (hw : w i = -1) (hjb : (j : Int) < en_bd n w i i) (hc : en_cp b i j = true) : en_V b n (en_pr w i j) := by
  obtain ⟨h1, h2, h3⟩ := h
  have hfree : ∀ q : Nat, i < q → q ≤ j → w q = -1 := fun q hq1 hq2 => en_free h1 hF hq1 (by omega)
  have hj := hfree j hij (Nat.le_refl j)
  refine ⟨en_V1_pr h1 hij hjn hw hj, fun p hp => ?_, fun p q hpq hq => ?_⟩
  · rw [en_pr_at] at hp ⊢
    by_cases e1 : p = j
    · rw [if_pos e1] at hp
      omega
    · rw [if_neg e1] at hp ⊢
      by_cases e2 : p = i
      · subst e2
        rw [if_pos rfl, Int.toNat_natCast]
        exact hc
      · rw [if_neg e2] at hp ⊢
        exact h2 p hp
  · rw [en_pr_at p] at hq ⊢
    rw [en_pr_at q]
    by_cases e1 : p = j
    · rw [if_pos e1] at hq
      omega
    · rw [if_neg e1] at hq ⊢
      by_cases e2 : p = i
      · rw [if_pos e2] at hq ⊢
        rw [if_neg (by omega), if_neg (by omega)]
        exact Or.inl (hfree q (by omega) (by omega))
      · rw [if_neg e2] at hq ⊢
        by_cases e3 : q = j
        · rw [if_pos e3]
          by_cases e4 : p < i
          · right
            omega
          · have := hfree p (by omega) (by omega)
            omega
        · rw [if_neg e3]
          by_cases e4 : q = i
          · rw [if_pos e4]
            right
            have := en_bd_lt n w i i p (by omega) (by omega)
            omega
          · rw [if_neg e4]
            exact h3 p q hpq hq
theorem en_mem (b : Nat → Nat) (n : Nat) : ∀ (k i : Nat) (w0 : Nat → Int), i + k = n → en_V b n w0 → en_Fr i w0 → ∀ w, w ∈ en_L b n k i w0 ↔ en_V b n w ∧ en_clr i w = w0
  | 0, i, w0, hn, hV, hF, w => by
    have hin : i = n := by omega
    subst hin
    have full : ∀ v, en_V b i v → en_clr i v = v := by
      intro v hv
      funext p
      unfold en_clr
      rcases hv.1 p with h1 | ⟨a1, a2, a3, a4, a5⟩
      · simp [h1]
      · rw [if_neg (by omega), if_pos (Or.inl a3)]
    unfold en_L
    rw [List.mem_singleton]
    constructor
    · intro h
      subst h
      exact ⟨hV, full _ hV⟩
    · intro h
      rw [← h.2, full _ h.1]
  | k + 1, i, w0, hn, hV, hF, w => by
    have hF1 : en_Fr (i + 1) w0 := by
      intro p hp
      rcases hF p (by omega) with h | h
      · exact Or.inl h
      · exact Or.inr (by omega)
    have ih := en_mem b n k (i + 1) w0 (by omega) hV hF1 w
    unfold en_L
    by_cases hc : 0 ≤ w0 i
    · rw [if_pos hc, ih]
      have hlt : w0 i < i := by
        rcases hF i (Nat.le_refl i) with h1 | h1
        · omega
        · exact h1.2
      refine and_congr_right (fun hw => ?_)
      constructor
      · intro h
        rw [← en_clr_no hw.1, h]
        have := congrFun h i
        unfold en_clr at this
        split at this
        · omega
        · rw [if_pos (by omega)] at this
          omega
      · intro h
        rw [en_clr_no hw.1, h]
        have := congrFun h i
        unfold en_clr at this
        split at this
        · omega
        · split at this
          · omega
          · omega
    · rw [if_neg hc]
      have hwi : w0 i = -1 := by
        rcases hF i (Nat.le_refl i) with h1 | h1
        · exact h1
        · omega
      have hbn := en_bd_le n w0 i i
      have hbp := en_bd_pos n w0 i i
      have good : ∀ j, j ∈ en_fe b i (i + 4) (en_bd n w0 i i).toNat → i < j ∧ j < n ∧ (j : Int) < en_bd n w0 i i ∧ en_cp b i j = true := by
        intro j hj
        obtain ⟨⟨m1, m2⟩, m3⟩ := en_mem_fe.mp hj
        exact ⟨by omega, by omega, by omega, m3⟩
      rw [List.mem_append, List.mem_flatMap, ih]
      constructor
      · rintro (⟨h1, h2⟩ | ⟨j, hj, h2⟩)
        · refine ⟨h1, ?_⟩
          rw [← en_clr_clr, h2, en_clr_fr hF]
        · obtain ⟨g1, g2, g3, g4⟩ := good j hj
          obtain ⟨h3, h4⟩ := (en_mem b n k (i + 1) (en_pr w0 i j) (by omega) (en_V_pr hV hF g1 g2 hwi g3 g4) (en_Fr_pr hF g1) w).mp h2
          refine ⟨h3, ?_⟩
          rw [← en_clr_clr, h4, en_clr_pr hF g1 hwi (en_free hV.1 hF g1 g3)]
      · rintro ⟨h1, h2⟩
        have hi := congrFun h2 i
        rw [hwi] at hi
        by_cases h3 : w i = -1
        · left
          refine ⟨h1, ?_⟩
          rw [en_clr_no h1.1 (by omega), h2]
        · right
          obtain ⟨a1, a2, a3, a4, a5⟩ : 0 ≤ w i ∧ w i < n ∧ i < n ∧ w i ≠ i ∧ w (w i).toNat = i := by
            rcases h1.1 i with h4 | h4
            · exact absurd h4 h3
            · exact h4
          have h5 : (i : Int) < w i := by
            unfold en_clr at hi
            rw [if_neg h3] at hi
            split at hi
            · omega
            · omega
          obtain ⟨j, hj⟩ : ∃ j : Nat, w i = j := ⟨(w i).toNat, by omega⟩
          rw [hj, Int.toNat_natCast] at a5
          have hcp := h1.2.1 i h5
          rw [hj, Int.toNat_natCast] at hcp
          have h4 : i + 4 ≤ j := by
            unfold en_cp at hcp
            simp only [Bool.and_eq_true, decide_eq_true_eq] at hcp
            exact hcp.1
          have hb : (j : Int) < en_bd n w0 i i := by
            refine en_bd_gt n w0 i j (by omega) i (fun p hp hp2 => ?_)
            have e1 := congrFun h2 p
            unfold en_clr at e1
            split at e1
            · omega
            · rw [if_pos (Or.inl hp)] at e1
              rw [← e1] at hp2 ⊢
              rcases h1.2.2 p i hp hp2 with h6 | h6
              · exact absurd h6 h3
              · omega
          have hjm : j ∈ en_fe b i (i + 4) (en_bd n w0 i i).toNat := en_mem_fe.mpr ⟨⟨h4, by omega⟩, hcp⟩
          obtain ⟨g1, g2, g3, g4⟩ := good j hjm
          refine ⟨j, hjm, (en_mem b n k (i + 1) (en_pr w0 i j) (by omega) (en_V_pr hV hF g1 g2 hwi g3 g4) (en_Fr_pr hF g1) w).mpr ⟨h1, ?_⟩⟩
          funext p
          have e1 := congrFun h2 p
          rw [en_pr_at]
          unfold en_clr at e1 ⊢
          by_cases e2 : p = j
          · subst e2
            rw [if_pos rfl, a5, if_neg (by omega), if_pos (by omega)]
          · rw [if_neg e2]
            by_cases e3 : p = i
            · subst e3
              rw [if_pos rfl, hj, if_neg (by omega), if_pos (by omega)]
            · rw [if_neg e3, ← e1]
              by_cases e4 : w p = -1
              · simp [e4]
              · rw [if_neg e4, if_neg e4]
                by_cases e5 : p < i ∨ w p < (i : Int)
                · rw [if_pos e5, if_pos (by omega)]
                · rw [if_neg e5, if_neg]
                  intro e6
                  have e7 : w p = i := by omega
                  rcases h1.1 p with h8 | ⟨b1, b2, b3, b4, b5⟩
                  · omega
                  · rw [e7, Int.toNat_natCast, hj] at b5
                    omega
theorem en_nodup_flat {α β : Type} (f : α → List β) (g : β → α) : ∀ (l : List α), l.Nodup → (∀ a ∈ l, (f a).Nodup) → (∀ a ∈ l, ∀ y ∈ f a, g y = a) → (l.flatMap f).Nodup
  | [], _, _, _ => by simp
  | a :: l, h, h1, h2 => by
    rw [List.nodup_cons] at h
    rw [List.flatMap_cons, List.nodup_append]
    refine ⟨h1 a List.mem_cons_self, en_nodup_flat f g l h.2 (fun c hc => h1 c (List.mem_cons_of_mem _ hc)) (fun c hc => h2 c (List.mem_cons_of_mem _ hc)), ?_⟩
    intro y hy z hz hyz
    subst hyz
    obtain ⟨c, hc, hyc⟩ := List.mem_flatMap.mp hz
    have e1 := h2 a List.mem_cons_self y hy
    have e2 := h2 c (List.mem_cons_of_mem _ hc) y hyc
    rw [e1] at e2
    subst e2
    exact h.1 hc
theorem en_nodup (b : Nat → Nat) (n : Nat) : ∀ (k i : Nat) (w0 : Nat → Int), i + k = n → en_V b n w0 → en_Fr i w0 → (en_L b n k i w0).Nodup
  | 0, _, _, _, _, _ => by simp [en_L]
  | k + 1, i, w0, hn, hV, hF => by
    have hF1 : en_Fr (i + 1) w0 := by
      intro p hp
      rcases hF p (by omega) with h | h
      · exact Or.inl h
      · exact Or.inr (by omega)
    have ih := en_nodup b n k (i + 1) w0 (by omega) hV hF1
    unfold en_L
    by_cases hc : 0 ≤ w0 i
    · rw [if_pos hc]
      exact ih
    · rw [if_neg hc]
      have hwi : w0 i = -1 := by
        rcases hF i (Nat.le_refl i) with h1 | h1
        · exact h1
        · omega
      have hbn := en_bd_le n w0 i i
      have hbp := en_bd_pos n w0 i i
      have good : ∀ j, j ∈ en_fe b i (i + 4) (en_bd n w0 i i).toNat → i < j ∧ j < n ∧ (j : Int) < en_bd n w0 i i ∧ en_cp b i j = true := by
        intro j hj
        obtain ⟨⟨m1, m2⟩, m3⟩ := en_mem_fe.mp hj
        exact ⟨by omega, by omega, by omega, m3⟩
      have at_i : ∀ j ∈ en_fe b i (i + 4) (en_bd n w0 i i).toNat, ∀ y ∈ en_L b n k (i + 1) (en_pr w0 i j), (y i).toNat = j := by
        intro j hj y hy
        obtain ⟨g1, g2, g3, g4⟩ := good j hj
        obtain ⟨h3, h4⟩ := (en_mem b n k (i + 1) (en_pr w0 i j) (by omega) (en_V_pr hV hF g1 g2 hwi g3 g4) (en_Fr_pr hF g1) y).mp hy
        have e := congrFun h4 i
        rw [en_pr_at, if_neg (by omega), if_pos rfl] at e
        unfold en_clr at e
        split at e
        · omega
        · rw [if_pos (by omega)] at e
          omega
      rw [List.nodup_append]
      refine ⟨ih, en_nodup_flat _ (fun y => (y i).toNat) _ ?_ ?_ at_i, ?_⟩
      · unfold en_fe
        exact List.Pairwise.filter _ List.nodup_range'
      · intro j hj
        obtain ⟨g1, g2, g3, g4⟩ := good j hj
        exact en_nodup b n k (i + 1) (en_pr w0 i j) (by omega) (en_V_pr hV hF g1 g2 hwi g3 g4) (en_Fr_pr hF g1)
      · intro y hy z hz hyz
        subst hyz
        obtain ⟨j, hj, hyj⟩ := List.mem_flatMap.mp hz
        obtain ⟨g1, g2, g3, g4⟩ := good j hj
        have e1 := at_i j hj y hyj
        have e2 := congrFun ((en_mem b n k (i + 1) w0 (by omega) hV hF1 y).mp hy).2 i
        rw [hwi] at e2
        unfold en_clr at e2
        split at e2
        · rename_i e3
          rw [e3] at e1
          omega
        · rw [if_pos (by omega)] at e2
          omega
/-- all structures of the strand -/
def en_all (b : Nat → Nat) (n : Nat) : List (Nat → Int) := en_L b n n 0 (fun _ => -1)
theorem en_V_none (b : Nat → Nat) (n : Nat) : en_V b n (fun _ => -1) := ⟨fun _ => Or.inl rfl, fun p hp => by have h : (p : Int) < -1 := hp; omega, fun p q h1 h2 => Or.inl rfl⟩
theorem en_all_mem (b : Nat → Nat) (n : Nat) (w : Nat → Int) : w ∈ en_all b n ↔ en_V b n w := by
  unfold en_all
  rw [en_mem b n n 0 _ (by omega) (en_V_none b n) (fun p _ => Or.inl rfl)]
  refine ⟨fun h => h.1, fun h => ⟨h, ?_⟩⟩
  funext p
  unfold en_clr
  split
  · rfl
  · rcases h.1 p with h1 | h1
    · contradiction
    · rw [if_neg (by omega)]
theorem en_all_nodup (b : Nat → Nat) (n : Nat) : (en_all b n).Nodup := en_nodup b n n 0 _ (by omega) (en_V_none b n) (fun p _ => Or.inl rfl)
theorem en_all_chain (b : Nat → Nat) (n : Nat) : en_Ch (en_dn b n n) (fun _ => -1) (en_all b n) := by
  have h : en_dn b n n = en_nf b n n 0 := funext (en_dn_all b n)
  rw [h]
  exact en_chain b n n 0 _ (by omega) (fun _ => Or.inl rfl) (fun p _ => Or.inl rfl)
end
section
/-! Names: the classes of the world, the words, the static tables. Written by wip/whole/gennames.py. -/
def nm_F_FS : u_T := fun k => match k with
  | 0 => ("FoldedStrand", "strand", "LFoldedStrand$Strand;", true)
  | 1 => ("FoldedStrand", "folds", "LFoldedStrand$Folds;", true)
  | 2 => ("FoldedStrand", "nearList", "LFoldedStrand$NearList;", true)
  | 3 => ("FoldedStrand", "typed", "[C", true)
  | 4 => ("FoldedStrand", "typedCount", "I", false)
  | 5 => ("FoldedStrand", "structure", "LFoldedStrand$Structure;", false)
  | _ => ("FoldedStrand", "draft", "LFoldedStrand$Structure;", false)
def nm_t_FS : Nat → FieldType := fun k => match k with
  | 0 => .object "FoldedStrand$Strand"
  | 1 => .object "FoldedStrand$Folds"
  | 2 => .object "FoldedStrand$NearList"
  | 3 => .array .char
  | 4 => .int
  | 5 => .object "FoldedStrand$Structure"
  | _ => .object "FoldedStrand$Structure"
def nm_F_ST : u_T := fun k => match k with
  | 0 => ("FoldedStrand$Strand", "bases", "[I", true)
  | _ => ("FoldedStrand$Strand", "size", "I", false)
def nm_t_ST : Nat → FieldType := fun k => match k with
  | 0 => .array .int
  | _ => .int
def nm_F_LO : u_T := fun k => match k with
  | _ => ("FoldedStrand$Loops", "strand", "LFoldedStrand$Strand;", true)
def nm_t_LO : Nat → FieldType := fun k => match k with
  | _ => .object "FoldedStrand$Strand"
def nm_F_FO : u_T := fun k => match k with
  | 0 => ("FoldedStrand$Folds", "outside", "LFoldedStrand$Region;", true)
  | 1 => ("FoldedStrand$Folds", "twoBranches", "LFoldedStrand$Region;", true)
  | 2 => ("FoldedStrand$Folds", "pairEnergies", "[[I", true)
  | 3 => ("FoldedStrand$Folds", "oneBranch", "LFoldedStrand$Region;", true)
  | 4 => ("FoldedStrand$Folds", "anyBranches", "LFoldedStrand$Region;", true)
  | 5 => ("FoldedStrand$Folds", "counts", "[[I", true)
  | 6 => ("FoldedStrand$Folds", "pairs", "[[I", true)
  | 7 => ("FoldedStrand$Folds", "strand", "LFoldedStrand$Strand;", true)
  | _ => ("FoldedStrand$Folds", "loops", "LFoldedStrand$Loops;", true)
def nm_t_FO : Nat → FieldType := fun k => match k with
  | 0 => .object "FoldedStrand$Region"
  | 1 => .object "FoldedStrand$Region"
  | 2 => .array (.array .int)
  | 3 => .object "FoldedStrand$Region"
  | 4 => .object "FoldedStrand$Region"
  | 5 => .array (.array .int)
  | 6 => .array (.array .int)
  | 7 => .object "FoldedStrand$Strand"
  | _ => .object "FoldedStrand$Loops"
def nm_F_RE : u_T := fun k => match k with
  | 0 => ("FoldedStrand$Region", "perPlace", "I", true)
  | 1 => ("FoldedStrand$Region", "perPair", "I", true)
  | 2 => ("FoldedStrand$Region", "leastEnergies", "[[I", true)
  | _ => ("FoldedStrand$Region", "next", "LFoldedStrand$Region;", true)
def nm_t_RE : Nat → FieldType := fun k => match k with
  | 0 => .int
  | 1 => .int
  | 2 => .array (.array .int)
  | _ => .object "FoldedStrand$Region"
def nm_F_NL : u_T := fun k => match k with
  | 0 => ("FoldedStrand$NearList", "keys", "[J", true)
  | 1 => ("FoldedStrand$NearList", "count", "I", false)
  | 2 => ("FoldedStrand$NearList", "tooMany", "Z", false)
  | 3 => ("FoldedStrand$NearList", "limit", "I", false)
  | 4 => ("FoldedStrand$NearList", "regions", "[LFoldedStrand$Region;", true)
  | 5 => ("FoldedStrand$NearList", "starts", "[I", true)
  | 6 => ("FoldedStrand$NearList", "ends", "[I", true)
  | 7 => ("FoldedStrand$NearList", "strand", "LFoldedStrand$Strand;", true)
  | 8 => ("FoldedStrand$NearList", "loops", "LFoldedStrand$Loops;", true)
  | _ => ("FoldedStrand$NearList", "folds", "LFoldedStrand$Folds;", true)
def nm_t_NL : Nat → FieldType := fun k => match k with
  | 0 => .array .long
  | 1 => .int
  | 2 => .boolean
  | 3 => .int
  | 4 => .array (.object "FoldedStrand$Region")
  | 5 => .array .int
  | 6 => .array .int
  | 7 => .object "FoldedStrand$Strand"
  | 8 => .object "FoldedStrand$Loops"
  | _ => .object "FoldedStrand$Folds"
def nm_F_SR : u_T := fun k => match k with
  | 0 => ("FoldedStrand$Structure", "mates", "[I", true)
  | 1 => ("FoldedStrand$Structure", "opens", "[I", true)
  | 2 => ("FoldedStrand$Structure", "openCount", "I", false)
  | 3 => ("FoldedStrand$Structure", "length", "I", false)
  | 4 => ("FoldedStrand$Structure", "pairs", "I", false)
  | 5 => ("FoldedStrand$Structure", "strand", "LFoldedStrand$Strand;", true)
  | _ => ("FoldedStrand$Structure", "loops", "LFoldedStrand$Loops;", true)
def nm_t_SR : Nat → FieldType := fun k => match k with
  | 0 => .array .int
  | 1 => .array .int
  | 2 => .int
  | 3 => .int
  | 4 => .int
  | 5 => .object "FoldedStrand$Strand"
  | _ => .object "FoldedStrand$Loops"
def nm_F_MO : u_T := fun k => match k with
  | 0 => ("FoldedStrandModel", "stacks", "[I", true)
  | 1 => ("FoldedStrandModel", "n", "I", false)
  | 2 => ("FoldedStrandModel", "bases", "[I", true)
  | 3 => ("FoldedStrandModel", "typed", "I", false)
  | 4 => ("FoldedStrandModel", "typing", "[I", true)
  | 5 => ("FoldedStrandModel", "with", "[I", true)
  | 6 => ("FoldedStrandModel", "own", "[I", true)
  | 7 => ("FoldedStrandModel", "known", "Z", false)
  | 8 => ("FoldedStrandModel", "least", "I", false)
  | 9 => ("FoldedStrandModel", "most", "I", false)
  | 10 => ("FoldedStrandModel", "ways", "I", false)
  | 11 => ("FoldedStrandModel", "listed", "I", false)
  | 12 => ("FoldedStrandModel", "energies", "[I", true)
  | _ => ("FoldedStrandModel", "partners", "[I", true)
def nm_t_MO : Nat → FieldType := fun k => match k with
  | 0 => .array .int
  | 1 => .int
  | 2 => .array .int
  | 3 => .int
  | 4 => .array .int
  | 5 => .array .int
  | 6 => .array .int
  | 7 => .boolean
  | 8 => .int
  | 9 => .int
  | 10 => .int
  | 11 => .int
  | 12 => .array .int
  | _ => .array .int
abbrev jl_cl : List vw_C := [("FoldedStrand", nm_F_FS, 7), ("FoldedStrand$Strand", nm_F_ST, 2), ("FoldedStrand$Loops", nm_F_LO, 1), ("FoldedStrand$Folds", nm_F_FO, 9), ("FoldedStrand$Region", nm_F_RE, 4), ("FoldedStrand$NearList", nm_F_NL, 10), ("FoldedStrand$Structure", nm_F_SR, 7), ("FoldedStrandModel", nm_F_MO, 14)]
def jl_T : List Cond := lw_tbl.filter goodWord
theorem jl_T_of {w : Cond} (i : Nat) (h : tables_1[i]? = some w) (g : goodWord w = true) : w ∈ jl_T := List.mem_filter.mpr ⟨List.mem_append_right _ (List.mem_of_getElem? h), g⟩
theorem jl_T_sel {w : Cond} (i : Nat) (h : (k2_sels lw_privs)[i]? = some w) (g : goodWord w = true) : w ∈ jl_T := List.mem_filter.mpr ⟨List.mem_append_left _ (List.mem_of_getElem? h), g⟩
abbrev jl_tys (K : Nat → ClassId) : List (ClassId × FieldType) := [(K 0, .int), (K 1, .char), (K 2, .long), (K 3, .object "FoldedStrand$Region"), (K 4, .array .int)]
/-- a class of the world: its place, name, fields, their types -/
def jl_c (ci : Nat) (C : String) (T : u_T) (M : Nat) (ty : Nat → FieldType) : Prop := jl_cl[ci]? = some (C, T, M) ∧ (∀ w ∈ u_ws C T M, w ∈ jl_T) ∧ (∀ k, k < M → parseFieldDescriptor (T k).2.2.1 = some (ty k)) ∧ ∀ a, a < M → ∀ b, b < M → a ≠ b → (T a).2.1 ≠ (T b).2.1
theorem nm_l_FS_0 : u_lay "FoldedStrand" nm_F_FS 0 ∈ jl_T := jl_T_of 190 (by decide +kernel) (by decide +kernel)
theorem nm_l_FS_1 : u_lay "FoldedStrand" nm_F_FS 1 ∈ jl_T := jl_T_of 192 (by decide +kernel) (by decide +kernel)
theorem nm_l_FS_2 : u_lay "FoldedStrand" nm_F_FS 2 ∈ jl_T := jl_T_of 194 (by decide +kernel) (by decide +kernel)
theorem nm_l_FS_3 : u_lay "FoldedStrand" nm_F_FS 3 ∈ jl_T := jl_T_of 196 (by decide +kernel) (by decide +kernel)
theorem nm_l_FS_4 : u_lay "FoldedStrand" nm_F_FS 4 ∈ jl_T := jl_T_of 198 (by decide +kernel) (by decide +kernel)
theorem nm_l_FS_5 : u_lay "FoldedStrand" nm_F_FS 5 ∈ jl_T := jl_T_of 200 (by decide +kernel) (by decide +kernel)
theorem nm_l_FS_6 : u_lay "FoldedStrand" nm_F_FS 6 ∈ jl_T := jl_T_of 202 (by decide +kernel) (by decide +kernel)
theorem nm_w_FS : ∀ w ∈ u_ws "FoldedStrand" nm_F_FS 7, w ∈ jl_T := by
  intro w hw
  obtain ⟨j, hj, rfl⟩ := List.mem_map.mp hw
  have hj := List.mem_range.mp hj
  match j, hj with
  | 0, _ => exact nm_l_FS_0
  | 1, _ => exact nm_l_FS_1
  | 2, _ => exact nm_l_FS_2
  | 3, _ => exact nm_l_FS_3
  | 4, _ => exact nm_l_FS_4
  | 5, _ => exact nm_l_FS_5
  | 6, _ => exact nm_l_FS_6
theorem nm_c_FS : jl_c 0 "FoldedStrand" nm_F_FS 7 nm_t_FS := ⟨rfl, nm_w_FS, by decide +kernel, by decide +kernel⟩
theorem nm_l_ST_0 : u_lay "FoldedStrand$Strand" nm_F_ST 0 ∈ jl_T := jl_T_of 27 (by decide +kernel) (by decide +kernel)
theorem nm_l_ST_1 : u_lay "FoldedStrand$Strand" nm_F_ST 1 ∈ jl_T := jl_T_of 29 (by decide +kernel) (by decide +kernel)
theorem nm_w_ST : ∀ w ∈ u_ws "FoldedStrand$Strand" nm_F_ST 2, w ∈ jl_T := by
  intro w hw
  obtain ⟨j, hj, rfl⟩ := List.mem_map.mp hw
  have hj := List.mem_range.mp hj
  match j, hj with
  | 0, _ => exact nm_l_ST_0
  | 1, _ => exact nm_l_ST_1
theorem nm_c_ST : jl_c 1 "FoldedStrand$Strand" nm_F_ST 2 nm_t_ST := ⟨rfl, nm_w_ST, by decide +kernel, by decide +kernel⟩
theorem nm_l_LO_0 : u_lay "FoldedStrand$Loops" nm_F_LO 0 ∈ jl_T := jl_T_of 40 (by decide +kernel) (by decide +kernel)
theorem nm_w_LO : ∀ w ∈ u_ws "FoldedStrand$Loops" nm_F_LO 1, w ∈ jl_T := by
  intro w hw
  obtain ⟨j, hj, rfl⟩ := List.mem_map.mp hw
  have hj := List.mem_range.mp hj
  match j, hj with
  | 0, _ => exact nm_l_LO_0
theorem nm_c_LO : jl_c 2 "FoldedStrand$Loops" nm_F_LO 1 nm_t_LO := ⟨rfl, nm_w_LO, by decide +kernel, by decide +kernel⟩
theorem nm_l_FO_0 : u_lay "FoldedStrand$Folds" nm_F_FO 0 ∈ jl_T := jl_T_of 89 (by decide +kernel) (by decide +kernel)
theorem nm_l_FO_1 : u_lay "FoldedStrand$Folds" nm_F_FO 1 ∈ jl_T := jl_T_of 91 (by decide +kernel) (by decide +kernel)
theorem nm_l_FO_2 : u_lay "FoldedStrand$Folds" nm_F_FO 2 ∈ jl_T := jl_T_of 93 (by decide +kernel) (by decide +kernel)
theorem nm_l_FO_3 : u_lay "FoldedStrand$Folds" nm_F_FO 3 ∈ jl_T := jl_T_of 95 (by decide +kernel) (by decide +kernel)
theorem nm_l_FO_4 : u_lay "FoldedStrand$Folds" nm_F_FO 4 ∈ jl_T := jl_T_of 97 (by decide +kernel) (by decide +kernel)
theorem nm_l_FO_5 : u_lay "FoldedStrand$Folds" nm_F_FO 5 ∈ jl_T := jl_T_of 99 (by decide +kernel) (by decide +kernel)
theorem nm_l_FO_6 : u_lay "FoldedStrand$Folds" nm_F_FO 6 ∈ jl_T := jl_T_of 101 (by decide +kernel) (by decide +kernel)
theorem nm_l_FO_7 : u_lay "FoldedStrand$Folds" nm_F_FO 7 ∈ jl_T := jl_T_of 103 (by decide +kernel) (by decide +kernel)
theorem nm_l_FO_8 : u_lay "FoldedStrand$Folds" nm_F_FO 8 ∈ jl_T := jl_T_of 105 (by decide +kernel) (by decide +kernel)
theorem nm_w_FO : ∀ w ∈ u_ws "FoldedStrand$Folds" nm_F_FO 9, w ∈ jl_T := by
  intro w hw
  obtain ⟨j, hj, rfl⟩ := List.mem_map.mp hw
  have hj := List.mem_range.mp hj
  match j, hj with
  | 0, _ => exact nm_l_FO_0
  | 1, _ => exact nm_l_FO_1
  | 2, _ => exact nm_l_FO_2
  | 3, _ => exact nm_l_FO_3
  | 4, _ => exact nm_l_FO_4
  | 5, _ => exact nm_l_FO_5
  | 6, _ => exact nm_l_FO_6
  | 7, _ => exact nm_l_FO_7
  | 8, _ => exact nm_l_FO_8
theorem nm_c_FO : jl_c 3 "FoldedStrand$Folds" nm_F_FO 9 nm_t_FO := ⟨rfl, nm_w_FO, by decide +kernel, by decide +kernel⟩
theorem nm_l_RE_0 : u_lay "FoldedStrand$Region" nm_F_RE 0 ∈ jl_T := jl_T_of 68 (by decide +kernel) (by decide +kernel)
theorem nm_l_RE_1 : u_lay "FoldedStrand$Region" nm_F_RE 1 ∈ jl_T := jl_T_of 70 (by decide +kernel) (by decide +kernel)
theorem nm_l_RE_2 : u_lay "FoldedStrand$Region" nm_F_RE 2 ∈ jl_T := jl_T_of 72 (by decide +kernel) (by decide +kernel)
theorem nm_l_RE_3 : u_lay "FoldedStrand$Region" nm_F_RE 3 ∈ jl_T := jl_T_of 74 (by decide +kernel) (by decide +kernel)
theorem nm_w_RE : ∀ w ∈ u_ws "FoldedStrand$Region" nm_F_RE 4, w ∈ jl_T := by
  intro w hw
  obtain ⟨j, hj, rfl⟩ := List.mem_map.mp hw
  have hj := List.mem_range.mp hj
  match j, hj with
  | 0, _ => exact nm_l_RE_0
  | 1, _ => exact nm_l_RE_1
  | 2, _ => exact nm_l_RE_2
  | 3, _ => exact nm_l_RE_3
theorem nm_c_RE : jl_c 4 "FoldedStrand$Region" nm_F_RE 4 nm_t_RE := ⟨rfl, nm_w_RE, by decide +kernel, by decide +kernel⟩
theorem nm_l_NL_0 : u_lay "FoldedStrand$NearList" nm_F_NL 0 ∈ jl_T := jl_T_of 126 (by decide +kernel) (by decide +kernel)
theorem nm_l_NL_1 : u_lay "FoldedStrand$NearList" nm_F_NL 1 ∈ jl_T := jl_T_of 128 (by decide +kernel) (by decide +kernel)
theorem nm_l_NL_2 : u_lay "FoldedStrand$NearList" nm_F_NL 2 ∈ jl_T := jl_T_of 130 (by decide +kernel) (by decide +kernel)
theorem nm_l_NL_3 : u_lay "FoldedStrand$NearList" nm_F_NL 3 ∈ jl_T := jl_T_of 132 (by decide +kernel) (by decide +kernel)
theorem nm_l_NL_4 : u_lay "FoldedStrand$NearList" nm_F_NL 4 ∈ jl_T := jl_T_of 134 (by decide +kernel) (by decide +kernel)
theorem nm_l_NL_5 : u_lay "FoldedStrand$NearList" nm_F_NL 5 ∈ jl_T := jl_T_of 136 (by decide +kernel) (by decide +kernel)
theorem nm_l_NL_6 : u_lay "FoldedStrand$NearList" nm_F_NL 6 ∈ jl_T := jl_T_of 138 (by decide +kernel) (by decide +kernel)
theorem nm_l_NL_7 : u_lay "FoldedStrand$NearList" nm_F_NL 7 ∈ jl_T := jl_T_of 140 (by decide +kernel) (by decide +kernel)
theorem nm_l_NL_8 : u_lay "FoldedStrand$NearList" nm_F_NL 8 ∈ jl_T := jl_T_of 142 (by decide +kernel) (by decide +kernel)
theorem nm_l_NL_9 : u_lay "FoldedStrand$NearList" nm_F_NL 9 ∈ jl_T := jl_T_of 144 (by decide +kernel) (by decide +kernel)
theorem nm_w_NL : ∀ w ∈ u_ws "FoldedStrand$NearList" nm_F_NL 10, w ∈ jl_T := by
  intro w hw
  obtain ⟨j, hj, rfl⟩ := List.mem_map.mp hw
  have hj := List.mem_range.mp hj
  match j, hj with
  | 0, _ => exact nm_l_NL_0
  | 1, _ => exact nm_l_NL_1
  | 2, _ => exact nm_l_NL_2
  | 3, _ => exact nm_l_NL_3
  | 4, _ => exact nm_l_NL_4
  | 5, _ => exact nm_l_NL_5
  | 6, _ => exact nm_l_NL_6
  | 7, _ => exact nm_l_NL_7
  | 8, _ => exact nm_l_NL_8
  | 9, _ => exact nm_l_NL_9
theorem nm_c_NL : jl_c 5 "FoldedStrand$NearList" nm_F_NL 10 nm_t_NL := ⟨rfl, nm_w_NL, by decide +kernel, by decide +kernel⟩
theorem nm_l_SR_0 : u_lay "FoldedStrand$Structure" nm_F_SR 0 ∈ jl_T := jl_T_of 168 (by decide +kernel) (by decide +kernel)
theorem nm_l_SR_1 : u_lay "FoldedStrand$Structure" nm_F_SR 1 ∈ jl_T := jl_T_of 170 (by decide +kernel) (by decide +kernel)
theorem nm_l_SR_2 : u_lay "FoldedStrand$Structure" nm_F_SR 2 ∈ jl_T := jl_T_of 172 (by decide +kernel) (by decide +kernel)
theorem nm_l_SR_3 : u_lay "FoldedStrand$Structure" nm_F_SR 3 ∈ jl_T := jl_T_of 174 (by decide +kernel) (by decide +kernel)
theorem nm_l_SR_4 : u_lay "FoldedStrand$Structure" nm_F_SR 4 ∈ jl_T := jl_T_of 176 (by decide +kernel) (by decide +kernel)
theorem nm_l_SR_5 : u_lay "FoldedStrand$Structure" nm_F_SR 5 ∈ jl_T := jl_T_of 178 (by decide +kernel) (by decide +kernel)
theorem nm_l_SR_6 : u_lay "FoldedStrand$Structure" nm_F_SR 6 ∈ jl_T := jl_T_of 180 (by decide +kernel) (by decide +kernel)
theorem nm_w_SR : ∀ w ∈ u_ws "FoldedStrand$Structure" nm_F_SR 7, w ∈ jl_T := by
  intro w hw
  obtain ⟨j, hj, rfl⟩ := List.mem_map.mp hw
  have hj := List.mem_range.mp hj
  match j, hj with
  | 0, _ => exact nm_l_SR_0
  | 1, _ => exact nm_l_SR_1
  | 2, _ => exact nm_l_SR_2
  | 3, _ => exact nm_l_SR_3
  | 4, _ => exact nm_l_SR_4
  | 5, _ => exact nm_l_SR_5
  | 6, _ => exact nm_l_SR_6
theorem nm_c_SR : jl_c 6 "FoldedStrand$Structure" nm_F_SR 7 nm_t_SR := ⟨rfl, nm_w_SR, by decide +kernel, by decide +kernel⟩
theorem nm_l_MO_0 : u_lay "FoldedStrandModel" nm_F_MO 0 ∈ jl_T := jl_T_of 529 (by decide +kernel) (by decide +kernel)
theorem nm_l_MO_1 : u_lay "FoldedStrandModel" nm_F_MO 1 ∈ jl_T := jl_T_of 531 (by decide +kernel) (by decide +kernel)
theorem nm_l_MO_2 : u_lay "FoldedStrandModel" nm_F_MO 2 ∈ jl_T := jl_T_of 533 (by decide +kernel) (by decide +kernel)
theorem nm_l_MO_3 : u_lay "FoldedStrandModel" nm_F_MO 3 ∈ jl_T := jl_T_of 535 (by decide +kernel) (by decide +kernel)
theorem nm_l_MO_4 : u_lay "FoldedStrandModel" nm_F_MO 4 ∈ jl_T := jl_T_of 537 (by decide +kernel) (by decide +kernel)
theorem nm_l_MO_5 : u_lay "FoldedStrandModel" nm_F_MO 5 ∈ jl_T := jl_T_of 539 (by decide +kernel) (by decide +kernel)
theorem nm_l_MO_6 : u_lay "FoldedStrandModel" nm_F_MO 6 ∈ jl_T := jl_T_of 541 (by decide +kernel) (by decide +kernel)
theorem nm_l_MO_7 : u_lay "FoldedStrandModel" nm_F_MO 7 ∈ jl_T := jl_T_of 543 (by decide +kernel) (by decide +kernel)
theorem nm_l_MO_8 : u_lay "FoldedStrandModel" nm_F_MO 8 ∈ jl_T := jl_T_of 545 (by decide +kernel) (by decide +kernel)
theorem nm_l_MO_9 : u_lay "FoldedStrandModel" nm_F_MO 9 ∈ jl_T := jl_T_of 547 (by decide +kernel) (by decide +kernel)
theorem nm_l_MO_10 : u_lay "FoldedStrandModel" nm_F_MO 10 ∈ jl_T := jl_T_of 549 (by decide +kernel) (by decide +kernel)
theorem nm_l_MO_11 : u_lay "FoldedStrandModel" nm_F_MO 11 ∈ jl_T := jl_T_of 551 (by decide +kernel) (by decide +kernel)
theorem nm_l_MO_12 : u_lay "FoldedStrandModel" nm_F_MO 12 ∈ jl_T := jl_T_of 553 (by decide +kernel) (by decide +kernel)
theorem nm_l_MO_13 : u_lay "FoldedStrandModel" nm_F_MO 13 ∈ jl_T := jl_T_of 555 (by decide +kernel) (by decide +kernel)
theorem nm_w_MO : ∀ w ∈ u_ws "FoldedStrandModel" nm_F_MO 14, w ∈ jl_T := by
  intro w hw
  obtain ⟨j, hj, rfl⟩ := List.mem_map.mp hw
  have hj := List.mem_range.mp hj
  match j, hj with
  | 0, _ => exact nm_l_MO_0
  | 1, _ => exact nm_l_MO_1
  | 2, _ => exact nm_l_MO_2
  | 3, _ => exact nm_l_MO_3
  | 4, _ => exact nm_l_MO_4
  | 5, _ => exact nm_l_MO_5
  | 6, _ => exact nm_l_MO_6
  | 7, _ => exact nm_l_MO_7
  | 8, _ => exact nm_l_MO_8
  | 9, _ => exact nm_l_MO_9
  | 10, _ => exact nm_l_MO_10
  | 11, _ => exact nm_l_MO_11
  | 12, _ => exact nm_l_MO_12
  | 13, _ => exact nm_l_MO_13
theorem nm_c_MO : jl_c 7 "FoldedStrandModel" nm_F_MO 14 nm_t_MO := ⟨rfl, nm_w_MO, by decide +kernel, by decide +kernel⟩
/-- a static table: where it lies, how long it is, what it holds -/
def jl_S1 (C n d : String) (ty : FieldType) (t : Nat) (vs : List Int32) (A : Nat → Prop) (U : State) (H : Heap) : Prop := va_Z C n d (.ref t) A U H ∧ va_T ty t vs.length (fun j => .int (vs.getD j 0)) A U H
theorem jl_S1.moved {C n d : String} {ty : FieldType} {t : Nat} {vs : List Int32} {A : Nat → Prop} {u U : State} {H : Heap} (hvm : u.vm.Alike U.vm) (h : jl_S1 C n d ty t vs A u H) : jl_S1 C n d ty t vs A U H := ⟨va_Z.moved hvm h.1, va_T.moved hvm h.2⟩
theorem jl_S1.kept {C n d : String} {ty : FieldType} {t : Nat} {vs : List Int32} {A : Nat → Prop} {U : State} {H H1 : Heap} (h : jl_S1 C n d ty t vs A U H) (hq : ∀ a : Nat, a < H.size → ¬ A a → H1[a]? = H[a]?) : jl_S1 C n d ty t vs A U H1 := ⟨h.1.kept hq, h.2.kept hq⟩
theorem jl_S1.narrow {C n d : String} {ty : FieldType} {t : Nat} {vs : List Int32} {A B : Nat → Prop} {U : State} {H : Heap} (h : jl_S1 C n d ty t vs A U H) (hAB : ∀ q, B q → A q) : jl_S1 C n d ty t vs B U H := ⟨h.1.narrow hAB, h.2.narrow hAB⟩
def nm_s0 : List Int32 := [65, 67, 71, 85]
def nm_s1 : List Int32 := [(-1), (-1), (-1), 4, (-1), (-1), 0, (-1), (-1), 1, (-1), 2, 5, (-1), 3, (-1)]
def nm_s2 : List Int32 := [67, 85, 85, 67, 71, 71]
def nm_s3 : List Int32 := [54, 56, 57, 54, 60, 55]
def nm_s4 : List Int32 := [(-24), (-33), (-21), (-14), (-21), (-21), (-33), (-34), (-25), (-15), (-22), (-24), (-21), (-25), 13, (-5), (-14), (-13), (-14), (-15), (-5), 3, (-6), (-10), (-21), (-22), (-14), (-6), (-11), (-9), (-21), (-24), (-13), (-10), (-9), (-13)]
def nm_s5 : List Int32 := [5, 16, 11, 20]
def jl_S (sa : Nat → Nat) (A : Nat → Prop) (U : State) (H : Heap) : Prop := jl_S1 "FoldedStrand$Strand" "LETTERS" "[C" .char (sa 0) nm_s0 A U H ∧ jl_S1 "FoldedStrand$Strand" "KINDS" "[I" .int (sa 1) nm_s1 A U H ∧ jl_S1 "FoldedStrand$Loops" "FIRM_HAIRPIN" "[C" .char (sa 2) nm_s2 A U H ∧ jl_S1 "FoldedStrand$Loops" "HAIRPINS" "[I" .int (sa 3) nm_s3 A U H ∧ jl_S1 "FoldedStrand$Loops" "STACKS" "[I" .int (sa 4) nm_s4 A U H ∧ jl_S1 "FoldedStrand$Loops" "INTERIORS" "[I" .int (sa 5) nm_s5 A U H
theorem jl_S.moved {sa : Nat → Nat} {A : Nat → Prop} {u U : State} {H : Heap} (hvm : u.vm.Alike U.vm) (h : jl_S sa A u H) : jl_S sa A U H := ⟨jl_S1.moved hvm h.1, jl_S1.moved hvm h.2.1, jl_S1.moved hvm h.2.2.1, jl_S1.moved hvm h.2.2.2.1, jl_S1.moved hvm h.2.2.2.2.1, jl_S1.moved hvm h.2.2.2.2.2⟩
theorem jl_S.kept {sa : Nat → Nat} {A : Nat → Prop} {U : State} {H H1 : Heap} (h : jl_S sa A U H) (hq : ∀ a : Nat, a < H.size → ¬ A a → H1[a]? = H[a]?) : jl_S sa A U H1 := ⟨h.1.kept hq, h.2.1.kept hq, h.2.2.1.kept hq, h.2.2.2.1.kept hq, h.2.2.2.2.1.kept hq, h.2.2.2.2.2.kept hq⟩
theorem jl_S.narrow {sa : Nat → Nat} {A B : Nat → Prop} {U : State} {H : Heap} (h : jl_S sa A U H) (hAB : ∀ q, B q → A q) : jl_S sa B U H := ⟨h.1.narrow hAB, h.2.1.narrow hAB, h.2.2.1.narrow hAB, h.2.2.2.1.narrow hAB, h.2.2.2.2.1.narrow hAB, h.2.2.2.2.2.narrow hAB⟩
end
section
/-! A layer over the kit: the world is N numbered cells (cell k lies at ad k and holds E k); a judgement jl_J at (E, pc, locals, stack); a row an instruction. Written by wip/whole/genlayer.py. -/
def jl_w (N : Nat) (ad : Nat → Nat) (E : Nat → va_E) : va_W := (List.range N).map (fun k => (ad k, E k))
theorem jl_get {N : Nat} {ad : Nat → Nat} {E : Nat → va_E} {k : Nat} (h : k < N) : (jl_w N ad E)[k]? = some (ad k, E k) := by
  simp [jl_w, h]
theorem jl_len {N : Nat} {ad : Nat → Nat} {E : Nat → va_E} : (jl_w N ad E).length = N := by simp [jl_w]
theorem jl_at {N : Nat} {ad : Nat → Nat} {E : Nat → va_E} {k : Nat} {q : Nat × va_E} (h : (jl_w N ad E)[k]? = some q) : k < N ∧ q = (ad k, E k) := by
  have h1 := (List.getElem?_eq_some_iff.mp h).1
  rw [jl_len] at h1
  rw [jl_get h1] at h
  exact ⟨h1, (Option.some.inj h).symm⟩
theorem jl_set {N : Nat} {ad : Nat → Nat} {E : Nat → va_E} {k : Nat} {e : va_E} : (jl_w N ad E).set k (ad k, e) = jl_w N ad (va_up E k e) := by
  apply List.ext_getElem?
  intro j
  by_cases hj : j < N
  · rw [jl_get hj]
    by_cases hk : k = j
    · subst hk
      rw [List.getElem?_set_self (by rw [jl_len]; exact hj), va_up_self]
    · rw [List.getElem?_set_ne hk, jl_get hj, va_up_ne _ _ (fun h => hk h.symm)]
  · rw [List.getElem?_eq_none (by rw [List.length_set, jl_len]; omega), List.getElem?_eq_none (by rw [jl_len]; omega)]
/-- the addresses alone say whether cells are apart -/
def jl_D (A : Nat → Prop) (N : Nat) (ad : Nat → Nat) : Prop := (∀ i j : Nat, i < N → j < N → ad i = ad j → i = j) ∧ ∀ k : Nat, k < N → A (ad k)
theorem jl_D.of {A : Nat → Prop} {N : Nat} {ad : Nat → Nat} (h : jl_D A N ad) (E : Nat → va_E) : va_D A (jl_w N ad E) := by
  refine ⟨fun i j p q hi hj e => ?_, fun k q hk => ?_⟩
  · obtain ⟨h1, rfl⟩ := jl_at hi
    obtain ⟨h2, rfl⟩ := jl_at hj
    exact h.1 i j h1 h2 e
  · obtain ⟨h1, rfl⟩ := jl_at hk
    exact h.2 k h1
theorem jl_D.to {A : Nat → Prop} {N : Nat} {ad : Nat → Nat} {E : Nat → va_E} (h : va_D A (jl_w N ad E)) : jl_D A N ad :=
  ⟨fun i j hi hj e => h.1 i j _ _ (jl_get hi) (jl_get hj) e, fun _ hk => h.2 _ _ (jl_get hk)⟩
/-- which cells a method may change: the world's, and new ones -/
def jl_A (N : Nat) (ad : Nat → Nat) (sz : Nat) : Nat → Prop := fun q => (∃ k : Nat, k < N ∧ q = ad k) ∨ sz ≤ q
/-- a method's context: program, launch, env, room, state, method, args, below, method, code, goal, classes' numbers, what may change, locals -/
abbrev jl_X : Type := Program × Launch × Env × Room × State × MethodId × Array Value × List Frame × Method × Code × (State → Prop) × va_G × (Nat → Prop) × Nat
def jl_J (x : jl_X) (N : Nat) (ad : Nat → Nat) (cells slots : Nat) (E : Nat → va_E) (pc : Nat) (lc : List (Nat × Value)) (st : List Value) : Prop := match x with
  | (p, l, e, R, s, m, args, below, meth, c, Q, D, A, nL) => ∀ (H : Heap) (locs : List Loc) (ls : Array Slot), lv_has ls nL lc → va_P D jl_cl (jl_w N ad E) H → va_S A s.heap H locs → W p l e R s m args below meth c H locs cells slots Q (F0 m pc ls st)
/-- what holds of the context: the machine, the code, the tables' words, the classes, the cells apart, the static tables -/
def jl_ok (x : jl_X) (N : Nat) (ad : Nat → Nat) (K : Nat → ClassId) (sa : Nat → Nat) (cc : ByteArray) (own : String) (n : Nat) : Prop := match x with
  | (p, _, _, _, s, m, args, _, meth, c, _, D, A, nL) => p.tables.exec = Jvm.exec ∧ c.code = cc ∧ nL = n ∧ c.maxLocals = nL ∧ s.vm.findClass own = some m.cls ∧ (∀ w ∈ jl_T, w.before args s = true) ∧ va_K D jl_cl (jl_tys K) s ∧ jl_D A N ad ∧ (∀ q, s.heap.size ≤ q → A q) ∧ meth.locks = false ∧ jl_S sa A s s.heap
/-- a local by its number -/
def jl_lk : List (Nat × Value) → Nat → Option Value
  | [], _ => none
  | (j, v) :: l, i => match Nat.beq j i with
    | true => some v
    | false => jl_lk l i
theorem jl_lk_in : ∀ {lc : List (Nat × Value)} {i : Nat} {v : Value}, jl_lk lc i = some v → ∃ k : Nat, lc[k]? = some (i, v)
  | [], _, _, h => by cases h
  | (j, w) :: l, i, v, h => by
    unfold jl_lk at h
    cases hb : Nat.beq j i with
    | true =>
      rw [hb] at h
      have : j = i := Nat.eq_of_beq_eq_true hb
      subst this
      cases h
      exact ⟨0, rfl⟩
    | false =>
      rw [hb] at h
      obtain ⟨k, hk⟩ := jl_lk_in (lc := l) h
      exact ⟨k + 1, hk⟩
/-- a store of a word of category 1, or 2 -/
def jl_st1 (lc : List (Nat × Value)) (i : Nat) (v : Value) : List (Nat × Value) := (i, v) :: lc.filter (fun q => !(q.1 == i) && !(q.1 + 1 == i && q.2.category == 2))
def jl_st2 (lc : List (Nat × Value)) (i : Nat) (v : Value) : List (Nat × Value) := (i, v) :: lc.filter (fun q => !(q.1 == i) && (!(q.1 == i + 1) && !(q.1 + 1 == i && q.2.category == 2)))
/-- fewer locals, in another order -/
theorem jl_sub {x : jl_X} {N : Nat} {ad : Nat → Nat} {cells slots : Nat} {E : Nat → va_E} {pc : Nat} {lc lc2 : List (Nat × Value)} {st : List Value} (ks : List Nat) (hl2 : lv_pick lc ks = lc2) (kk : jl_J x N ad cells slots E pc lc2 st) : jl_J x N ad cells slots E pc lc st := by
  obtain ⟨p, l, e, R, s, m, args, below, meth, c, Q, D, A, nL⟩ := x
  intro H locs ls hl hP hS
  exact kk H locs ls (lv_sub hl ks hl2) hP hS
section JL
variable {x : jl_X} {N : Nat} {ad : Nat → Nat} {K : Nat → ClassId} {sa : Nat → Nat} {cells slots : Nat} {cc : ByteArray} {own : String} {n : Nat} {E : Nat → va_E} {pc : Nat} {lc : List (Nat × Value)} {st : List Value}
theorem jl_iconst (h : jl_ok x N ad K sa cc own n) {i : Int} {v : Int32} (hv : Int32.ofInt i = v) (hd : decode cc pc = .ok (.iconst i, 1)) (pc2 : Nat) (hpc : pc + 1 = pc2) (kk : jl_J x N ad cells slots E pc2 lc (.int v :: st)) : jl_J x N ad cells slots E pc lc (st) := by
  subst hpc
  obtain ⟨p, l, e, R, s, m, args, below, meth, c, Q, D, A, nL⟩ := x
  intro H locs ls hl hP hS
  exact lv_iconst h.1 h.2.1 hd hv (kk H locs ls hl hP hS)
theorem jl_bipush (h : jl_ok x N ad K sa cc own n) {i : Int} {v : Int32} (hv : (Int8.ofInt i).toInt32 = v) (hd : decode cc pc = .ok (.bipush i, 2)) (pc2 : Nat) (hpc : pc + 2 = pc2) (kk : jl_J x N ad cells slots E pc2 lc (.int v :: st)) : jl_J x N ad cells slots E pc lc (st) := by
  subst hpc
  obtain ⟨p, l, e, R, s, m, args, below, meth, c, Q, D, A, nL⟩ := x
  intro H locs ls hl hP hS
  exact lv_bipush h.1 h.2.1 hd hv (kk H locs ls hl hP hS)
theorem jl_sipush (h : jl_ok x N ad K sa cc own n) {i : Int} {v : Int32} (hv : (Int16.ofInt i).toInt32 = v) (hd : decode cc pc = .ok (.sipush i, 3)) (pc2 : Nat) (hpc : pc + 3 = pc2) (kk : jl_J x N ad cells slots E pc2 lc (.int v :: st)) : jl_J x N ad cells slots E pc lc (st) := by
  subst hpc
  obtain ⟨p, l, e, R, s, m, args, below, meth, c, Q, D, A, nL⟩ := x
  intro H locs ls hl hP hS
  exact lv_sipush h.1 h.2.1 hd hv (kk H locs ls hl hP hS)
theorem jl_lconst (h : jl_ok x N ad K sa cc own n) {i : Fin 2} {v : Int64} (hv : Int64.ofNat (i : Nat) = v) (hd : decode cc pc = .ok (.lconst i, 1)) (pc2 : Nat) (hpc : pc + 1 = pc2) (kk : jl_J x N ad cells slots E pc2 lc (.long v :: st)) : jl_J x N ad cells slots E pc lc (st) := by
  subst hpc
  obtain ⟨p, l, e, R, s, m, args, below, meth, c, Q, D, A, nL⟩ := x
  intro H locs ls hl hP hS
  exact lv_lconst h.1 h.2.1 hd hv (kk H locs ls hl hP hS)
theorem jl_null (h : jl_ok x N ad K sa cc own n)  (hd : decode cc pc = .ok (.aconst_null, 1)) (pc2 : Nat) (hpc : pc + 1 = pc2) (kk : jl_J x N ad cells slots E pc2 lc (.null :: st)) : jl_J x N ad cells slots E pc lc (st) := by
  subst hpc
  obtain ⟨p, l, e, R, s, m, args, below, meth, c, Q, D, A, nL⟩ := x
  intro H locs ls hl hP hS
  exact lv_null h.1 h.2.1 hd (kk H locs ls hl hP hS)
theorem jl_ldc (h : jl_ok x N ad K sa cc own n) {index : Nat} {v : Int32} (hw : Cond.constant own index v ∈ jl_T) (hd : decode cc pc = .ok (.ldc index, 2)) (pc2 : Nat) (hpc : pc + 2 = pc2) (kk : jl_J x N ad cells slots E pc2 lc (.int v :: st)) : jl_J x N ad cells slots E pc lc (st) := by
  subst hpc
  obtain ⟨p, l, e, R, s, m, args, below, meth, c, Q, D, A, nL⟩ := x
  intro H locs ls hl hP hS
  exact W.ldc h.1 h.2.1 h.2.2.2.2.1 (h.2.2.2.2.2.1 _ hw) rfl hd (kk H locs ls hl hP hS)
theorem jl_ldc2 (h : jl_ok x N ad K sa cc own n) {index : Nat} {v : Int64} (hw : Cond.constantLong own index v ∈ jl_T) (hd : decode cc pc = .ok (.ldc2_w index, 3)) (pc2 : Nat) (hpc : pc + 3 = pc2) (kk : jl_J x N ad cells slots E pc2 lc (.long v :: st)) : jl_J x N ad cells slots E pc lc (st) := by
  subst hpc
  obtain ⟨p, l, e, R, s, m, args, below, meth, c, Q, D, A, nL⟩ := x
  intro H locs ls hl hP hS
  exact W.ldc2 h.1 h.2.1 h.2.2.2.2.1 (h.2.2.2.2.2.1 _ hw) rfl hd (kk H locs ls hl hP hS)
theorem jl_iload_n (h : jl_ok x N ad K sa cc own n) {k : Fin 4} {i : Nat} {v : Int32} (hi : (k : Nat) = i) (hl0 : jl_lk lc i = some (.int v)) (hd : decode cc pc = .ok (.iload_n k, 1)) (pc2 : Nat) (hpc : pc + 1 = pc2) (kk : jl_J x N ad cells slots E pc2 lc (.int v :: st)) : jl_J x N ad cells slots E pc lc (st) := by
  subst hpc
  obtain ⟨p, l, e, R, s, m, args, below, meth, c, Q, D, A, nL⟩ := x
  intro H locs ls hl hP hS
  obtain ⟨k0, hk0⟩ := jl_lk_in hl0
  exact lv_iload_n h.1 h.2.1 hd hi (lv_at hl k0 hk0) (kk H locs ls hl hP hS)
theorem jl_iload (h : jl_ok x N ad K sa cc own n) {i : Nat} {v : Int32} (hl0 : jl_lk lc i = some (.int v)) (hd : decode cc pc = .ok (.iload i, 2)) (pc2 : Nat) (hpc : pc + 2 = pc2) (kk : jl_J x N ad cells slots E pc2 lc (.int v :: st)) : jl_J x N ad cells slots E pc lc (st) := by
  subst hpc
  obtain ⟨p, l, e, R, s, m, args, below, meth, c, Q, D, A, nL⟩ := x
  intro H locs ls hl hP hS
  obtain ⟨k0, hk0⟩ := jl_lk_in hl0
  exact lv_iload h.1 h.2.1 hd (lv_at hl k0 hk0) (kk H locs ls hl hP hS)
theorem jl_lload_n (h : jl_ok x N ad K sa cc own n) {k : Fin 4} {i : Nat} {v : Int64} (hi : (k : Nat) = i) (hl0 : jl_lk lc i = some (.long v)) (hd : decode cc pc = .ok (.lload_n k, 1)) (pc2 : Nat) (hpc : pc + 1 = pc2) (kk : jl_J x N ad cells slots E pc2 lc (.long v :: st)) : jl_J x N ad cells slots E pc lc (st) := by
  subst hpc
  obtain ⟨p, l, e, R, s, m, args, below, meth, c, Q, D, A, nL⟩ := x
  intro H locs ls hl hP hS
  obtain ⟨k0, hk0⟩ := jl_lk_in hl0
  exact lv_lload_n h.1 h.2.1 hd hi (lv_at hl k0 hk0) (kk H locs ls hl hP hS)
theorem jl_lload (h : jl_ok x N ad K sa cc own n) {i : Nat} {v : Int64} (hl0 : jl_lk lc i = some (.long v)) (hd : decode cc pc = .ok (.lload i, 2)) (pc2 : Nat) (hpc : pc + 2 = pc2) (kk : jl_J x N ad cells slots E pc2 lc (.long v :: st)) : jl_J x N ad cells slots E pc lc (st) := by
  subst hpc
  obtain ⟨p, l, e, R, s, m, args, below, meth, c, Q, D, A, nL⟩ := x
  intro H locs ls hl hP hS
  obtain ⟨k0, hk0⟩ := jl_lk_in hl0
  exact lv_lload h.1 h.2.1 hd (lv_at hl k0 hk0) (kk H locs ls hl hP hS)
theorem jl_aload_n (h : jl_ok x N ad K sa cc own n) {k : Fin 4} {i : Nat} {v : Nat} (hi : (k : Nat) = i) (hl0 : jl_lk lc i = some (.ref v)) (hd : decode cc pc = .ok (.aload_n k, 1)) (pc2 : Nat) (hpc : pc + 1 = pc2) (kk : jl_J x N ad cells slots E pc2 lc (.ref v :: st)) : jl_J x N ad cells slots E pc lc (st) := by
  subst hpc
  obtain ⟨p, l, e, R, s, m, args, below, meth, c, Q, D, A, nL⟩ := x
  intro H locs ls hl hP hS
  obtain ⟨k0, hk0⟩ := jl_lk_in hl0
  exact lv_aload_n h.1 h.2.1 hd hi (lv_at hl k0 hk0) (kk H locs ls hl hP hS)
theorem jl_aload (h : jl_ok x N ad K sa cc own n) {i : Nat} {v : Nat} (hl0 : jl_lk lc i = some (.ref v)) (hd : decode cc pc = .ok (.aload i, 2)) (pc2 : Nat) (hpc : pc + 2 = pc2) (kk : jl_J x N ad cells slots E pc2 lc (.ref v :: st)) : jl_J x N ad cells slots E pc lc (st) := by
  subst hpc
  obtain ⟨p, l, e, R, s, m, args, below, meth, c, Q, D, A, nL⟩ := x
  intro H locs ls hl hP hS
  obtain ⟨k0, hk0⟩ := jl_lk_in hl0
  exact lv_aload h.1 h.2.1 hd (lv_at hl k0 hk0) (kk H locs ls hl hP hS)
theorem jl_istore_n (h : jl_ok x N ad K sa cc own n) {k : Fin 4} {i : Nat} {v : Int32} {lc2 : List (Nat × Value)} (hi : (k : Nat) = i) (hn : i < n) (hl2 : jl_st1 lc i (.int v) = lc2) (hd : decode cc pc = .ok (.istore_n k, 1)) (pc2 : Nat) (hpc : pc + 1 = pc2) (kk : jl_J x N ad cells slots E pc2 lc2 st) : jl_J x N ad cells slots E pc lc (.int v :: st) := by
  subst hpc
  obtain ⟨p, l, e, R, s, m, args, below, meth, c, Q, D, A, nL⟩ := x
  intro H locs ls hl hP hS
  exact lv_istore_n h.1 h.2.1 hd hi hl (h.2.2.1 ▸ hn) hl2 (fun ls2 hl3 => kk H locs ls2 hl3 hP hS)
theorem jl_istore (h : jl_ok x N ad K sa cc own n) {i : Nat} {v : Int32} {lc2 : List (Nat × Value)} (hn : i < n) (hl2 : jl_st1 lc i (.int v) = lc2) (hd : decode cc pc = .ok (.istore i, 2)) (pc2 : Nat) (hpc : pc + 2 = pc2) (kk : jl_J x N ad cells slots E pc2 lc2 st) : jl_J x N ad cells slots E pc lc (.int v :: st) := by
  subst hpc
  obtain ⟨p, l, e, R, s, m, args, below, meth, c, Q, D, A, nL⟩ := x
  intro H locs ls hl hP hS
  exact lv_istore h.1 h.2.1 hd hl (h.2.2.1 ▸ hn) hl2 (fun ls2 hl3 => kk H locs ls2 hl3 hP hS)
theorem jl_lstore_n (h : jl_ok x N ad K sa cc own n) {k : Fin 4} {i : Nat} {v : Int64} {lc2 : List (Nat × Value)} (hi : (k : Nat) = i) (hn : i + 1 < n) (hl2 : jl_st2 lc i (.long v) = lc2) (hd : decode cc pc = .ok (.lstore_n k, 1)) (pc2 : Nat) (hpc : pc + 1 = pc2) (kk : jl_J x N ad cells slots E pc2 lc2 st) : jl_J x N ad cells slots E pc lc (.long v :: st) := by
  subst hpc
  obtain ⟨p, l, e, R, s, m, args, below, meth, c, Q, D, A, nL⟩ := x
  intro H locs ls hl hP hS
  exact lv_lstore_n h.1 h.2.1 hd hi hl (h.2.2.1 ▸ hn) hl2 (fun ls2 hl3 => kk H locs ls2 hl3 hP hS)
theorem jl_lstore (h : jl_ok x N ad K sa cc own n) {i : Nat} {v : Int64} {lc2 : List (Nat × Value)} (hn : i + 1 < n) (hl2 : jl_st2 lc i (.long v) = lc2) (hd : decode cc pc = .ok (.lstore i, 2)) (pc2 : Nat) (hpc : pc + 2 = pc2) (kk : jl_J x N ad cells slots E pc2 lc2 st) : jl_J x N ad cells slots E pc lc (.long v :: st) := by
  subst hpc
  obtain ⟨p, l, e, R, s, m, args, below, meth, c, Q, D, A, nL⟩ := x
  intro H locs ls hl hP hS
  exact lv_lstore h.1 h.2.1 hd hl (h.2.2.1 ▸ hn) hl2 (fun ls2 hl3 => kk H locs ls2 hl3 hP hS)
theorem jl_astore_n (h : jl_ok x N ad K sa cc own n) {k : Fin 4} {i : Nat} {v : Nat} {lc2 : List (Nat × Value)} (hi : (k : Nat) = i) (hn : i < n) (hl2 : jl_st1 lc i (.ref v) = lc2) (hd : decode cc pc = .ok (.astore_n k, 1)) (pc2 : Nat) (hpc : pc + 1 = pc2) (kk : jl_J x N ad cells slots E pc2 lc2 st) : jl_J x N ad cells slots E pc lc (.ref v :: st) := by
  subst hpc
  obtain ⟨p, l, e, R, s, m, args, below, meth, c, Q, D, A, nL⟩ := x
  intro H locs ls hl hP hS
  exact lv_astore_n h.1 h.2.1 hd hi hl (h.2.2.1 ▸ hn) hl2 (fun ls2 hl3 => kk H locs ls2 hl3 hP hS)
theorem jl_astore (h : jl_ok x N ad K sa cc own n) {i : Nat} {v : Nat} {lc2 : List (Nat × Value)} (hn : i < n) (hl2 : jl_st1 lc i (.ref v) = lc2) (hd : decode cc pc = .ok (.astore i, 2)) (pc2 : Nat) (hpc : pc + 2 = pc2) (kk : jl_J x N ad cells slots E pc2 lc2 st) : jl_J x N ad cells slots E pc lc (.ref v :: st) := by
  subst hpc
  obtain ⟨p, l, e, R, s, m, args, below, meth, c, Q, D, A, nL⟩ := x
  intro H locs ls hl hP hS
  exact lv_astore h.1 h.2.1 hd hl (h.2.2.1 ▸ hn) hl2 (fun ls2 hl3 => kk H locs ls2 hl3 hP hS)
theorem jl_iinc (h : jl_ok x N ad K sa cc own n) {i : Nat} {d : Int} {v v2 : Int32} {lc2 : List (Nat × Value)} (hn : i < n) (hl0 : jl_lk lc i = some (.int v)) (hv : v + Int32.ofInt d = v2) (hl2 : jl_st1 lc i (.int v2) = lc2) (hd : decode cc pc = .ok (.iinc i d, 3)) (pc2 : Nat) (hpc : pc + 3 = pc2) (kk : jl_J x N ad cells slots E pc2 lc2 st) : jl_J x N ad cells slots E pc lc st := by
  subst hpc
  obtain ⟨p, l, e, R, s, m, args, below, meth, c, Q, D, A, nL⟩ := x
  intro H locs ls hl hP hS
  obtain ⟨k0, hk0⟩ := jl_lk_in hl0
  exact lv_iinc h.1 h.2.1 hd hl hk0 hv (h.2.2.1 ▸ hn) hl2 (fun ls2 hl3 => kk H locs ls2 hl3 hP hS)
theorem jl_iadd (h : jl_ok x N ad K sa cc own n) {a b : Int32} (hd : decode cc pc = .ok (.iadd, 1)) (pc2 : Nat) (hpc : pc + 1 = pc2) (kk : jl_J x N ad cells slots E pc2 lc (.int (a + b) :: st)) : jl_J x N ad cells slots E pc lc (.int b :: .int a :: st) := by
  subst hpc
  obtain ⟨p, l, e, R, s, m, args, below, meth, c, Q, D, A, nL⟩ := x
  intro H locs ls hl hP hS
  exact lv_iadd h.1 h.2.1 hd (kk H locs ls hl hP hS)
theorem jl_isub (h : jl_ok x N ad K sa cc own n) {a b : Int32} (hd : decode cc pc = .ok (.isub, 1)) (pc2 : Nat) (hpc : pc + 1 = pc2) (kk : jl_J x N ad cells slots E pc2 lc (.int (a - b) :: st)) : jl_J x N ad cells slots E pc lc (.int b :: .int a :: st) := by
  subst hpc
  obtain ⟨p, l, e, R, s, m, args, below, meth, c, Q, D, A, nL⟩ := x
  intro H locs ls hl hP hS
  exact lv_isub h.1 h.2.1 hd (kk H locs ls hl hP hS)
theorem jl_imul (h : jl_ok x N ad K sa cc own n) {a b : Int32} (hd : decode cc pc = .ok (.imul, 1)) (pc2 : Nat) (hpc : pc + 1 = pc2) (kk : jl_J x N ad cells slots E pc2 lc (.int (a * b) :: st)) : jl_J x N ad cells slots E pc lc (.int b :: .int a :: st) := by
  subst hpc
  obtain ⟨p, l, e, R, s, m, args, below, meth, c, Q, D, A, nL⟩ := x
  intro H locs ls hl hP hS
  exact lv_imul h.1 h.2.1 hd (kk H locs ls hl hP hS)
theorem jl_iand (h : jl_ok x N ad K sa cc own n) {a b : Int32} (hd : decode cc pc = .ok (.iand, 1)) (pc2 : Nat) (hpc : pc + 1 = pc2) (kk : jl_J x N ad cells slots E pc2 lc (.int (a &&& b) :: st)) : jl_J x N ad cells slots E pc lc (.int b :: .int a :: st) := by
  subst hpc
  obtain ⟨p, l, e, R, s, m, args, below, meth, c, Q, D, A, nL⟩ := x
  intro H locs ls hl hP hS
  exact lv_iand h.1 h.2.1 hd (kk H locs ls hl hP hS)
theorem jl_ineg (h : jl_ok x N ad K sa cc own n) {a : Int32} (hd : decode cc pc = .ok (.ineg, 1)) (pc2 : Nat) (hpc : pc + 1 = pc2) (kk : jl_J x N ad cells slots E pc2 lc (.int (-a) :: st)) : jl_J x N ad cells slots E pc lc (.int a :: st) := by
  subst hpc
  obtain ⟨p, l, e, R, s, m, args, below, meth, c, Q, D, A, nL⟩ := x
  intro H locs ls hl hP hS
  exact lv_ineg h.1 h.2.1 hd (kk H locs ls hl hP hS)
theorem jl_ladd (h : jl_ok x N ad K sa cc own n) {a b : Int64} (hd : decode cc pc = .ok (.ladd, 1)) (pc2 : Nat) (hpc : pc + 1 = pc2) (kk : jl_J x N ad cells slots E pc2 lc (.long (a + b) :: st)) : jl_J x N ad cells slots E pc lc (.long b :: .long a :: st) := by
  subst hpc
  obtain ⟨p, l, e, R, s, m, args, below, meth, c, Q, D, A, nL⟩ := x
  intro H locs ls hl hP hS
  exact lv_ladd h.1 h.2.1 hd (kk H locs ls hl hP hS)
theorem jl_lsub (h : jl_ok x N ad K sa cc own n) {a b : Int64} (hd : decode cc pc = .ok (.lsub, 1)) (pc2 : Nat) (hpc : pc + 1 = pc2) (kk : jl_J x N ad cells slots E pc2 lc (.long (a - b) :: st)) : jl_J x N ad cells slots E pc lc (.long b :: .long a :: st) := by
  subst hpc
  obtain ⟨p, l, e, R, s, m, args, below, meth, c, Q, D, A, nL⟩ := x
  intro H locs ls hl hP hS
  exact lv_lsub h.1 h.2.1 hd (kk H locs ls hl hP hS)
theorem jl_i2l (h : jl_ok x N ad K sa cc own n) {a : Int32} {v : Int64} (hv : a.toInt64 = v) (hd : decode cc pc = .ok (.i2l, 1)) (pc2 : Nat) (hpc : pc + 1 = pc2) (kk : jl_J x N ad cells slots E pc2 lc (.long v :: st)) : jl_J x N ad cells slots E pc lc (.int a :: st) := by
  subst hpc
  obtain ⟨p, l, e, R, s, m, args, below, meth, c, Q, D, A, nL⟩ := x
  intro H locs ls hl hP hS
  exact lv_i2l h.1 h.2.1 hd hv (kk H locs ls hl hP hS)
theorem jl_l2i (h : jl_ok x N ad K sa cc own n) {a : Int64} {v : Int32} (hv : a.toInt32 = v) (hd : decode cc pc = .ok (.l2i, 1)) (pc2 : Nat) (hpc : pc + 1 = pc2) (kk : jl_J x N ad cells slots E pc2 lc (.int v :: st)) : jl_J x N ad cells slots E pc lc (.long a :: st) := by
  subst hpc
  obtain ⟨p, l, e, R, s, m, args, below, meth, c, Q, D, A, nL⟩ := x
  intro H locs ls hl hP hS
  exact lv_l2i h.1 h.2.1 hd hv (kk H locs ls hl hP hS)
theorem jl_i2c (h : jl_ok x N ad K sa cc own n) {a : Int32} {v : Int32} (hv : (a.toUInt32 % 65536).toInt32 = v) (hd : decode cc pc = .ok (.i2c, 1)) (pc2 : Nat) (hpc : pc + 1 = pc2) (kk : jl_J x N ad cells slots E pc2 lc (.int v :: st)) : jl_J x N ad cells slots E pc lc (.int a :: st) := by
  subst hpc
  obtain ⟨p, l, e, R, s, m, args, below, meth, c, Q, D, A, nL⟩ := x
  intro H locs ls hl hP hS
  exact lv_i2c h.1 h.2.1 hd hv (kk H locs ls hl hP hS)
theorem jl_lshl (h : jl_ok x N ad K sa cc own n) {a v : Int64} {b : Int32} (hv : a <<< (b.toInt64 &&& 63) = v) (hd : decode cc pc = .ok (.lshl, 1)) (pc2 : Nat) (hpc : pc + 1 = pc2) (kk : jl_J x N ad cells slots E pc2 lc (.long v :: st)) : jl_J x N ad cells slots E pc lc (.int b :: .long a :: st) := by
  subst hpc
  obtain ⟨p, l, e, R, s, m, args, below, meth, c, Q, D, A, nL⟩ := x
  intro H locs ls hl hP hS
  exact lv_lshl h.1 h.2.1 hd hv (kk H locs ls hl hP hS)
theorem jl_lshr (h : jl_ok x N ad K sa cc own n) {a v : Int64} {b : Int32} (hv : a >>> (b.toInt64 &&& 63) = v) (hd : decode cc pc = .ok (.lshr, 1)) (pc2 : Nat) (hpc : pc + 1 = pc2) (kk : jl_J x N ad cells slots E pc2 lc (.long v :: st)) : jl_J x N ad cells slots E pc lc (.int b :: .long a :: st) := by
  subst hpc
  obtain ⟨p, l, e, R, s, m, args, below, meth, c, Q, D, A, nL⟩ := x
  intro H locs ls hl hP hS
  exact lv_lshr h.1 h.2.1 hd hv (kk H locs ls hl hP hS)
theorem jl_lcmp (h : jl_ok x N ad K sa cc own n) {a b : Int64} (hd : decode cc pc = .ok (.lcmp, 1)) (pc2 : Nat) (hpc : pc + 1 = pc2) (kk : jl_J x N ad cells slots E pc2 lc (.int (lg_cmp a b) :: st)) : jl_J x N ad cells slots E pc lc (.long b :: .long a :: st) := by
  subst hpc
  obtain ⟨p, l, e, R, s, m, args, below, meth, c, Q, D, A, nL⟩ := x
  intro H locs ls hl hP hS
  exact W.lcmp h.1 h.2.1 hd (kk H locs ls hl hP hS)
theorem jl_dup (h : jl_ok x N ad K sa cc own n) {va : Value} (hva : va.category = 1) (hd : decode cc pc = .ok (.dup, 1)) (pc2 : Nat) (hpc : pc + 1 = pc2) (kk : jl_J x N ad cells slots E pc2 lc (va :: va :: st)) : jl_J x N ad cells slots E pc lc (va :: st) := by
  subst hpc
  obtain ⟨p, l, e, R, s, m, args, below, meth, c, Q, D, A, nL⟩ := x
  intro H locs ls hl hP hS
  exact lv_dup h.1 h.2.1 hd hva (kk H locs ls hl hP hS)
theorem jl_pop (h : jl_ok x N ad K sa cc own n) {va : Value} (hva : va.category = 1) (hd : decode cc pc = .ok (.pop, 1)) (pc2 : Nat) (hpc : pc + 1 = pc2) (kk : jl_J x N ad cells slots E pc2 lc (st)) : jl_J x N ad cells slots E pc lc (va :: st) := by
  subst hpc
  obtain ⟨p, l, e, R, s, m, args, below, meth, c, Q, D, A, nL⟩ := x
  intro H locs ls hl hP hS
  exact lv_pop h.1 h.2.1 hd hva (kk H locs ls hl hP hS)
theorem jl_dup_x1 (h : jl_ok x N ad K sa cc own n) {va vb : Value} (hva : va.category = 1) (hvb : vb.category = 1) (hd : decode cc pc = .ok (.dup_x1, 1)) (pc2 : Nat) (hpc : pc + 1 = pc2) (kk : jl_J x N ad cells slots E pc2 lc (va :: vb :: va :: st)) : jl_J x N ad cells slots E pc lc (va :: vb :: st) := by
  subst hpc
  obtain ⟨p, l, e, R, s, m, args, below, meth, c, Q, D, A, nL⟩ := x
  intro H locs ls hl hP hS
  exact lv_dup_x1 h.1 h.2.1 hd hva hvb (kk H locs ls hl hP hS)
theorem jl_dup2 (h : jl_ok x N ad K sa cc own n) {va vb : Value} (hva : va.category = 1) (hvb : vb.category = 1) (hd : decode cc pc = .ok (.dup2, 1)) (pc2 : Nat) (hpc : pc + 1 = pc2) (kk : jl_J x N ad cells slots E pc2 lc (va :: vb :: va :: vb :: st)) : jl_J x N ad cells slots E pc lc (va :: vb :: st) := by
  subst hpc
  obtain ⟨p, l, e, R, s, m, args, below, meth, c, Q, D, A, nL⟩ := x
  intro H locs ls hl hP hS
  exact lv_dup2_11 h.1 h.2.1 hd hva hvb (kk H locs ls hl hP hS)
theorem jl_if_eq (h : jl_ok x N ad K sa cc own n) {a : Int32} {off : Int} (tgt : Nat) (ht : (pc : Int) + off = (tgt : Int)) (hd : decode cc pc = .ok (.ifCond .eq off, 3)) (pc2 : Nat) (hpc : pc + 3 = pc2) (kt : a = 0 → jl_J x N ad cells slots E tgt lc st) (kf : ¬ a = 0 → jl_J x N ad cells slots E pc2 lc st) : jl_J x N ad cells slots E pc lc (.int a :: st) := by
  subst hpc
  obtain ⟨p, l, e, R, s, m, args, below, meth, c, Q, D, A, nL⟩ := x
  intro H locs ls hl hP hS
  exact lv_if_eq h.1 h.2.1 hd ht (fun q => kt q H locs ls hl hP hS) (fun q => kf q H locs ls hl hP hS)
theorem jl_icmp_eq (h : jl_ok x N ad K sa cc own n) {a b : Int32} {off : Int} (tgt : Nat) (ht : (pc : Int) + off = (tgt : Int)) (hd : decode cc pc = .ok (.if_icmp .eq off, 3)) (pc2 : Nat) (hpc : pc + 3 = pc2) (kt : a = b → jl_J x N ad cells slots E tgt lc st) (kf : ¬ a = b → jl_J x N ad cells slots E pc2 lc st) : jl_J x N ad cells slots E pc lc (.int b :: .int a :: st) := by
  subst hpc
  obtain ⟨p, l, e, R, s, m, args, below, meth, c, Q, D, A, nL⟩ := x
  intro H locs ls hl hP hS
  exact lv_icmp_eq h.1 h.2.1 hd ht (fun q => kt q H locs ls hl hP hS) (fun q => kf q H locs ls hl hP hS)
theorem jl_if_ne (h : jl_ok x N ad K sa cc own n) {a : Int32} {off : Int} (tgt : Nat) (ht : (pc : Int) + off = (tgt : Int)) (hd : decode cc pc = .ok (.ifCond .ne off, 3)) (pc2 : Nat) (hpc : pc + 3 = pc2) (kt : ¬ a = 0 → jl_J x N ad cells slots E tgt lc st) (kf : a = 0 → jl_J x N ad cells slots E pc2 lc st) : jl_J x N ad cells slots E pc lc (.int a :: st) := by
  subst hpc
  obtain ⟨p, l, e, R, s, m, args, below, meth, c, Q, D, A, nL⟩ := x
  intro H locs ls hl hP hS
  exact lv_if_ne h.1 h.2.1 hd ht (fun q => kt q H locs ls hl hP hS) (fun q => kf q H locs ls hl hP hS)
theorem jl_icmp_ne (h : jl_ok x N ad K sa cc own n) {a b : Int32} {off : Int} (tgt : Nat) (ht : (pc : Int) + off = (tgt : Int)) (hd : decode cc pc = .ok (.if_icmp .ne off, 3)) (pc2 : Nat) (hpc : pc + 3 = pc2) (kt : ¬ a = b → jl_J x N ad cells slots E tgt lc st) (kf : a = b → jl_J x N ad cells slots E pc2 lc st) : jl_J x N ad cells slots E pc lc (.int b :: .int a :: st) := by
  subst hpc
  obtain ⟨p, l, e, R, s, m, args, below, meth, c, Q, D, A, nL⟩ := x
  intro H locs ls hl hP hS
  exact lv_icmp_ne h.1 h.2.1 hd ht (fun q => kt q H locs ls hl hP hS) (fun q => kf q H locs ls hl hP hS)
theorem jl_if_lt (h : jl_ok x N ad K sa cc own n) {a : Int32} {off : Int} (tgt : Nat) (ht : (pc : Int) + off = (tgt : Int)) (hd : decode cc pc = .ok (.ifCond .lt off, 3)) (pc2 : Nat) (hpc : pc + 3 = pc2) (kt : a < 0 → jl_J x N ad cells slots E tgt lc st) (kf : ¬ a < 0 → jl_J x N ad cells slots E pc2 lc st) : jl_J x N ad cells slots E pc lc (.int a :: st) := by
  subst hpc
  obtain ⟨p, l, e, R, s, m, args, below, meth, c, Q, D, A, nL⟩ := x
  intro H locs ls hl hP hS
  exact lv_if_lt h.1 h.2.1 hd ht (fun q => kt q H locs ls hl hP hS) (fun q => kf q H locs ls hl hP hS)
theorem jl_icmp_lt (h : jl_ok x N ad K sa cc own n) {a b : Int32} {off : Int} (tgt : Nat) (ht : (pc : Int) + off = (tgt : Int)) (hd : decode cc pc = .ok (.if_icmp .lt off, 3)) (pc2 : Nat) (hpc : pc + 3 = pc2) (kt : a < b → jl_J x N ad cells slots E tgt lc st) (kf : ¬ a < b → jl_J x N ad cells slots E pc2 lc st) : jl_J x N ad cells slots E pc lc (.int b :: .int a :: st) := by
  subst hpc
  obtain ⟨p, l, e, R, s, m, args, below, meth, c, Q, D, A, nL⟩ := x
  intro H locs ls hl hP hS
  exact lv_icmp_lt h.1 h.2.1 hd ht (fun q => kt q H locs ls hl hP hS) (fun q => kf q H locs ls hl hP hS)
theorem jl_if_ge (h : jl_ok x N ad K sa cc own n) {a : Int32} {off : Int} (tgt : Nat) (ht : (pc : Int) + off = (tgt : Int)) (hd : decode cc pc = .ok (.ifCond .ge off, 3)) (pc2 : Nat) (hpc : pc + 3 = pc2) (kt : 0 ≤ a → jl_J x N ad cells slots E tgt lc st) (kf : ¬ 0 ≤ a → jl_J x N ad cells slots E pc2 lc st) : jl_J x N ad cells slots E pc lc (.int a :: st) := by
  subst hpc
  obtain ⟨p, l, e, R, s, m, args, below, meth, c, Q, D, A, nL⟩ := x
  intro H locs ls hl hP hS
  exact lv_if_ge h.1 h.2.1 hd ht (fun q => kt q H locs ls hl hP hS) (fun q => kf q H locs ls hl hP hS)
theorem jl_icmp_ge (h : jl_ok x N ad K sa cc own n) {a b : Int32} {off : Int} (tgt : Nat) (ht : (pc : Int) + off = (tgt : Int)) (hd : decode cc pc = .ok (.if_icmp .ge off, 3)) (pc2 : Nat) (hpc : pc + 3 = pc2) (kt : b ≤ a → jl_J x N ad cells slots E tgt lc st) (kf : ¬ b ≤ a → jl_J x N ad cells slots E pc2 lc st) : jl_J x N ad cells slots E pc lc (.int b :: .int a :: st) := by
  subst hpc
  obtain ⟨p, l, e, R, s, m, args, below, meth, c, Q, D, A, nL⟩ := x
  intro H locs ls hl hP hS
  exact lv_icmp_ge h.1 h.2.1 hd ht (fun q => kt q H locs ls hl hP hS) (fun q => kf q H locs ls hl hP hS)
theorem jl_if_gt (h : jl_ok x N ad K sa cc own n) {a : Int32} {off : Int} (tgt : Nat) (ht : (pc : Int) + off = (tgt : Int)) (hd : decode cc pc = .ok (.ifCond .gt off, 3)) (pc2 : Nat) (hpc : pc + 3 = pc2) (kt : 0 < a → jl_J x N ad cells slots E tgt lc st) (kf : ¬ 0 < a → jl_J x N ad cells slots E pc2 lc st) : jl_J x N ad cells slots E pc lc (.int a :: st) := by
  subst hpc
  obtain ⟨p, l, e, R, s, m, args, below, meth, c, Q, D, A, nL⟩ := x
  intro H locs ls hl hP hS
  exact lv_if_gt h.1 h.2.1 hd ht (fun q => kt q H locs ls hl hP hS) (fun q => kf q H locs ls hl hP hS)
theorem jl_icmp_gt (h : jl_ok x N ad K sa cc own n) {a b : Int32} {off : Int} (tgt : Nat) (ht : (pc : Int) + off = (tgt : Int)) (hd : decode cc pc = .ok (.if_icmp .gt off, 3)) (pc2 : Nat) (hpc : pc + 3 = pc2) (kt : b < a → jl_J x N ad cells slots E tgt lc st) (kf : ¬ b < a → jl_J x N ad cells slots E pc2 lc st) : jl_J x N ad cells slots E pc lc (.int b :: .int a :: st) := by
  subst hpc
  obtain ⟨p, l, e, R, s, m, args, below, meth, c, Q, D, A, nL⟩ := x
  intro H locs ls hl hP hS
  exact lv_icmp_gt h.1 h.2.1 hd ht (fun q => kt q H locs ls hl hP hS) (fun q => kf q H locs ls hl hP hS)
theorem jl_if_le (h : jl_ok x N ad K sa cc own n) {a : Int32} {off : Int} (tgt : Nat) (ht : (pc : Int) + off = (tgt : Int)) (hd : decode cc pc = .ok (.ifCond .le off, 3)) (pc2 : Nat) (hpc : pc + 3 = pc2) (kt : a ≤ 0 → jl_J x N ad cells slots E tgt lc st) (kf : ¬ a ≤ 0 → jl_J x N ad cells slots E pc2 lc st) : jl_J x N ad cells slots E pc lc (.int a :: st) := by
  subst hpc
  obtain ⟨p, l, e, R, s, m, args, below, meth, c, Q, D, A, nL⟩ := x
  intro H locs ls hl hP hS
  exact lv_if_le h.1 h.2.1 hd ht (fun q => kt q H locs ls hl hP hS) (fun q => kf q H locs ls hl hP hS)
theorem jl_icmp_le (h : jl_ok x N ad K sa cc own n) {a b : Int32} {off : Int} (tgt : Nat) (ht : (pc : Int) + off = (tgt : Int)) (hd : decode cc pc = .ok (.if_icmp .le off, 3)) (pc2 : Nat) (hpc : pc + 3 = pc2) (kt : a ≤ b → jl_J x N ad cells slots E tgt lc st) (kf : ¬ a ≤ b → jl_J x N ad cells slots E pc2 lc st) : jl_J x N ad cells slots E pc lc (.int b :: .int a :: st) := by
  subst hpc
  obtain ⟨p, l, e, R, s, m, args, below, meth, c, Q, D, A, nL⟩ := x
  intro H locs ls hl hP hS
  exact lv_icmp_le h.1 h.2.1 hd ht (fun q => kt q H locs ls hl hP hS) (fun q => kf q H locs ls hl hP hS)
theorem jl_goto (h : jl_ok x N ad K sa cc own n) {off : Int} (tgt : Nat) (ht : (pc : Int) + off = (tgt : Int)) (hd : decode cc pc = .ok (.goto off, 3)) (kk : jl_J x N ad cells slots E tgt lc st) : jl_J x N ad cells slots E pc lc st := by
  obtain ⟨p, l, e, R, s, m, args, below, meth, c, Q, D, A, nL⟩ := x
  intro H locs ls hl hP hS
  exact lv_goto h.1 h.2.1 hd ht (kk H locs ls hl hP hS)
theorem jl_ifnonnull (h : jl_ok x N ad K sa cc own n) {r : Nat} {off : Int} (tgt : Nat) (ht : (pc : Int) + off = (tgt : Int)) (hd : decode cc pc = .ok (.ifnonnull off, 3)) (kk : jl_J x N ad cells slots E tgt lc st) : jl_J x N ad cells slots E pc lc (.ref r :: st) := by
  obtain ⟨p, l, e, R, s, m, args, below, meth, c, Q, D, A, nL⟩ := x
  intro H locs ls hl hP hS
  exact lv_ifnonnull h.1 h.2.1 hd ht (kk H locs ls hl hP hS)
theorem jl_ifnonnullN (h : jl_ok x N ad K sa cc own n) {off : Int} (hd : decode cc pc = .ok (.ifnonnull off, 3)) (pc2 : Nat) (hpc : pc + 3 = pc2) (kk : jl_J x N ad cells slots E pc2 lc st) : jl_J x N ad cells slots E pc lc (.null :: st) := by
  subst hpc
  obtain ⟨p, l, e, R, s, m, args, below, meth, c, Q, D, A, nL⟩ := x
  intro H locs ls hl hP hS
  exact lv_ifnonnullN h.1 h.2.1 hd (kk H locs ls hl hP hS)
theorem jl_ifnull (h : jl_ok x N ad K sa cc own n) {r : Nat} {off : Int} (hd : decode cc pc = .ok (.ifnull off, 3)) (pc2 : Nat) (hpc : pc + 3 = pc2) (kk : jl_J x N ad cells slots E pc2 lc st) : jl_J x N ad cells slots E pc lc (.ref r :: st) := by
  subst hpc
  obtain ⟨p, l, e, R, s, m, args, below, meth, c, Q, D, A, nL⟩ := x
  intro H locs ls hl hP hS
  exact lv_ifnull h.1 h.2.1 hd (kk H locs ls hl hP hS)
theorem jl_ifnullN (h : jl_ok x N ad K sa cc own n) {off : Int} (tgt : Nat) (ht : (pc : Int) + off = (tgt : Int)) (hd : decode cc pc = .ok (.ifnull off, 3)) (kk : jl_J x N ad cells slots E tgt lc st) : jl_J x N ad cells slots E pc lc (.null :: st) := by
  obtain ⟨p, l, e, R, s, m, args, below, meth, c, Q, D, A, nL⟩ := x
  intro H locs ls hl hP hS
  exact lv_ifnullN h.1 h.2.1 hd ht (kk H locs ls hl hP hS)
theorem jl_getf (h : jl_ok x N ad K sa cc own n) {k ci : Nat} {C : String} {T : u_T} {M : Nat} {ty : Nat → FieldType} (hc : jl_c ci C T M ty) (j : Nat) {index : Nat} (hw : Cond.fieldLink own index (T j).1 (T j).2.1 (T j).2.2.1 ∈ jl_T) (hk : k < N) (hj : j < M) {fs : List Value} (hE : E k = .inr (ci, fs)) {v : Value} (hv : fs[j]? = some v) (hd : decode cc pc = .ok (.getfield index, 3)) (pc2 : Nat) (hpc : pc + 3 = pc2) (kk : jl_J x N ad cells slots E pc2 lc (v :: st)) : jl_J x N ad cells slots E pc lc (.ref (ad k) :: st) := by
  subst hpc
  obtain ⟨p, l, e, R, s, m, args, below, meth, c, Q, D, A, nL⟩ := x
  intro H locs ls hl hP hS
  exact va_get (D := D) h.1 h.2.1 h.2.2.2.2.2.1 hc.2.1 h.2.2.2.2.1 h.2.2.2.2.2.2.1 hP k (by rw [jl_get hk, hE]) hc.1 j hj (h.2.2.2.2.2.1 _ hw) (fun _ h9 => h9) hv hd (kk H locs ls hl hP hS)
theorem jl_putf (h : jl_ok x N ad K sa cc own n) {k ci : Nat} {C : String} {T : u_T} {M : Nat} {ty : Nat → FieldType} (hc : jl_c ci C T M ty) (j : Nat) {index : Nat} (hw : Cond.fieldLink own index (T j).1 (T j).2.1 (T j).2.2.1 ∈ jl_T) (hk : k < N) (hj : j < M) (hfin : (T j).2.2.2 = false) {fs fs2 : List Value} (hE : E k = .inr (ci, fs)) {v : Value} (hn : narrow (ty j) v = v) (hfit : fits (ty j) v = true) (hl0 : j < fs.length) (hf2 : fs.set j v = fs2) (hd : decode cc pc = .ok (.putfield index, 3)) {E2 : Nat → va_E} (hE2 : va_up E k (.inr (ci, fs2)) = E2) (pc2 : Nat) (hpc : pc + 3 = pc2) (kk : jl_J x N ad cells slots E2 pc2 lc st) : jl_J x N ad cells slots E pc lc (v :: .ref (ad k) :: st) := by
  subst hpc
  subst hE2
  obtain ⟨p, l, e, R, s, m, args, below, meth, c, Q, D, A, nL⟩ := x
  intro H locs ls hl hP hS
  subst hf2
  refine va_put (D := D) h.1 h.2.1 h.2.2.2.2.2.1 hc.2.1 ty hc.2.2.1 hc.2.2.2 h.2.2.2.2.1 h.2.2.2.2.2.2.1 hP (h.2.2.2.2.2.2.2.1.of E) hS k (by rw [jl_get hk, hE]) hc.1 j hj (h.2.2.2.2.2.1 _ hw) (fun _ h9 => h9) hfin (hc.2.2.1 j hj) hn hfit hl0 hd (fun H1 locs1 hP1 _ hS1 => ?_)
  rw [jl_set] at hP1
  exact kk H1 locs1 ls hl hP1 hS1
theorem jl_iald (h : jl_ok x N ad K sa cc own n) {k len : Nat} {f : Nat → Int32} {i0 v : Int32} (i : Nat) (hi : i0 = nI i) (hk : k < N) (hE : E k = .inl (K 0, len, .inl f)) (hlt : i < len) (h31 : len < 2 ^ 31) (hv : f i = v) (hd : decode cc pc = .ok (.iaload, 1)) (pc2 : Nat) (hpc : pc + 1 = pc2) (kk : jl_J x N ad cells slots E pc2 lc (.int v :: st)) : jl_J x N ad cells slots E pc lc (.int i0 :: .ref (ad k) :: st) := by
  subst hpc
  obtain ⟨p, l, e, R, s, m, args, below, meth, c, Q, D, A, nL⟩ := x
  intro H locs ls hl hP hS
  subst hi
  subst hv
  refine va_iald h.1 h.2.1 h.2.2.2.2.2.2.1 hP k 0 (by rw [jl_get hk, hE]) rfl (vp_in_nI hlt h31) hd ?_
  rw [nI_clamp (Nat.lt_trans hlt h31)]
  exact (kk H locs ls hl hP hS)
theorem jl_iast (h : jl_ok x N ad K sa cc own n) {k len : Nat} {f : Nat → Int32} {i0 v : Int32} (i : Nat) (hi : i0 = nI i) (hk : k < N) (hE : E k = .inl (K 0, len, .inl f)) (hlt : i < len) (h31 : len < 2 ^ 31) (hd : decode cc pc = .ok (.iastore, 1)) {E2 : Nat → va_E} (hE2 : va_up E k (.inl (K 0, len, .inl (upd f i v))) = E2) (pc2 : Nat) (hpc : pc + 1 = pc2) (kk : jl_J x N ad cells slots E2 pc2 lc st) : jl_J x N ad cells slots E pc lc (.int v :: .int i0 :: .ref (ad k) :: st) := by
  subst hpc
  subst hE2
  obtain ⟨p, l, e, R, s, m, args, below, meth, c, Q, D, A, nL⟩ := x
  intro H locs ls hl hP hS
  subst hi
  refine va_iast h.1 h.2.1 h.2.2.2.2.2.2.1 hP (h.2.2.2.2.2.2.2.1.of E) hS k 0 (by rw [jl_get hk, hE]) rfl (vp_in_nI hlt h31) hd (fun H1 locs1 hP1 _ hS1 => ?_)
  rw [jl_set, nI_clamp (Nat.lt_trans hlt h31)] at hP1
  exact kk H1 locs1 ls hl hP1 hS1
theorem jl_cald (h : jl_ok x N ad K sa cc own n) {k len : Nat} {f : Nat → Int32} {i0 v : Int32} (i : Nat) (hi : i0 = nI i) (hk : k < N) (hE : E k = .inl (K 1, len, .inl f)) (hlt : i < len) (h31 : len < 2 ^ 31) (hv : f i = v) (hd : decode cc pc = .ok (.caload, 1)) (pc2 : Nat) (hpc : pc + 1 = pc2) (kk : jl_J x N ad cells slots E pc2 lc (.int v :: st)) : jl_J x N ad cells slots E pc lc (.int i0 :: .ref (ad k) :: st) := by
  subst hpc
  obtain ⟨p, l, e, R, s, m, args, below, meth, c, Q, D, A, nL⟩ := x
  intro H locs ls hl hP hS
  subst hi
  subst hv
  refine va_cald h.1 h.2.1 h.2.2.2.2.2.2.1 hP k 1 (by rw [jl_get hk, hE]) rfl (vp_in_nI hlt h31) hd ?_
  rw [nI_clamp (Nat.lt_trans hlt h31)]
  exact (kk H locs ls hl hP hS)
theorem jl_cast (h : jl_ok x N ad K sa cc own n) {k len : Nat} {f : Nat → Int32} {i0 v : Int32} (i : Nat) (hi : i0 = nI i) (hk : k < N) (hE : E k = .inl (K 1, len, .inl f)) (hlt : i < len) (h31 : len < 2 ^ 31) (hd : decode cc pc = .ok (.castore, 1)) {E2 : Nat → va_E} (hE2 : va_up E k (.inl (K 1, len, .inl (upd f i (vp_nar .char v)))) = E2) (pc2 : Nat) (hpc : pc + 1 = pc2) (kk : jl_J x N ad cells slots E2 pc2 lc st) : jl_J x N ad cells slots E pc lc (.int v :: .int i0 :: .ref (ad k) :: st) := by
  subst hpc
  subst hE2
  obtain ⟨p, l, e, R, s, m, args, below, meth, c, Q, D, A, nL⟩ := x
  intro H locs ls hl hP hS
  subst hi
  refine va_cast h.1 h.2.1 h.2.2.2.2.2.2.1 hP (h.2.2.2.2.2.2.2.1.of E) hS k 1 (by rw [jl_get hk, hE]) rfl (vp_in_nI hlt h31) hd (fun H1 locs1 hP1 _ hS1 => ?_)
  rw [jl_set, nI_clamp (Nat.lt_trans hlt h31)] at hP1
  exact kk H1 locs1 ls hl hP1 hS1
theorem jl_lald (h : jl_ok x N ad K sa cc own n) {k len : Nat} {f : Nat → Int64} {i0 : Int32} {v : Int64} (i : Nat) (hi : i0 = nI i) (hk : k < N) (hE : E k = .inl (K 2, len, .inr (.inl f))) (hlt : i < len) (h31 : len < 2 ^ 31) (hv : f i = v) (hd : decode cc pc = .ok (.laload, 1)) (pc2 : Nat) (hpc : pc + 1 = pc2) (kk : jl_J x N ad cells slots E pc2 lc (.long v :: st)) : jl_J x N ad cells slots E pc lc (.int i0 :: .ref (ad k) :: st) := by
  subst hpc
  obtain ⟨p, l, e, R, s, m, args, below, meth, c, Q, D, A, nL⟩ := x
  intro H locs ls hl hP hS
  subst hi
  subst hv
  refine va_lald h.1 h.2.1 h.2.2.2.2.2.2.1 hP k 2 (by rw [jl_get hk, hE]) rfl (vp_in_nI hlt h31) hd ?_
  rw [nI_clamp (Nat.lt_trans hlt h31)]
  exact (kk H locs ls hl hP hS)
theorem jl_last (h : jl_ok x N ad K sa cc own n) {k len : Nat} {f : Nat → Int64} {i0 : Int32} {v : Int64} (i : Nat) (hi : i0 = nI i) (hk : k < N) (hE : E k = .inl (K 2, len, .inr (.inl f))) (hlt : i < len) (h31 : len < 2 ^ 31) (hd : decode cc pc = .ok (.lastore, 1)) {E2 : Nat → va_E} (hE2 : va_up E k (.inl (K 2, len, .inr (.inl (vp_updL f i v)))) = E2) (pc2 : Nat) (hpc : pc + 1 = pc2) (kk : jl_J x N ad cells slots E2 pc2 lc st) : jl_J x N ad cells slots E pc lc (.long v :: .int i0 :: .ref (ad k) :: st) := by
  subst hpc
  subst hE2
  obtain ⟨p, l, e, R, s, m, args, below, meth, c, Q, D, A, nL⟩ := x
  intro H locs ls hl hP hS
  subst hi
  refine va_last h.1 h.2.1 h.2.2.2.2.2.2.1 hP (h.2.2.2.2.2.2.2.1.of E) hS k 2 (by rw [jl_get hk, hE]) rfl (vp_in_nI hlt h31) hd (fun H1 locs1 hP1 _ hS1 => ?_)
  rw [jl_set, nI_clamp (Nat.lt_trans hlt h31)] at hP1
  exact kk H1 locs1 ls hl hP1 hS1
theorem jl_alen (h : jl_ok x N ad K sa cc own n) {k : Nat} {t0 : Nat} {a : vp_A} {cA : ClassId} {ty : FieldType} {v : Int32} (hk : k < N) (hE : E k = .inl (cA, a)) (ht : (jl_tys K)[t0]? = some (cA, ty)) (hv : Int32.ofNat a.1 = v) (hd : decode cc pc = .ok (.arraylength, 1)) (pc2 : Nat) (hpc : pc + 1 = pc2) (kk : jl_J x N ad cells slots E pc2 lc (.int v :: st)) : jl_J x N ad cells slots E pc lc (.ref (ad k) :: st) := by
  subst hpc
  obtain ⟨p, l, e, R, s, m, args, below, meth, c, Q, D, A, nL⟩ := x
  intro H locs ls hl hP hS
  exact va_alen h.1 h.2.1 h.2.2.2.2.2.2.1 hP k t0 (by rw [jl_get hk, hE]) ht hv hd (kk H locs ls hl hP hS)
/-- a row of a grid, an object of an array of objects -/
theorem jl_aald (h : jl_ok x N ad K sa cc own n) {k len t0 : Nat} {f : Nat → Option Nat} {cA : ClassId} {ty : FieldType} {i0 : Int32} {r : Nat} (i : Nat) (hi : i0 = nI i) (hk : k < N) (hE : E k = .inl (cA, len, .inr (.inr (.inr (.inr f))))) (ht : (jl_tys K)[t0]? = some (cA, ty)) (hty : ty.isReference = true) (hlt : i < len) (h31 : len < 2 ^ 31) (hv : f i = some r) (hd : decode cc pc = .ok (.aaload, 1)) (pc2 : Nat) (hpc : pc + 1 = pc2) (kk : jl_J x N ad cells slots E pc2 lc (.ref r :: st)) : jl_J x N ad cells slots E pc lc (.int i0 :: .ref (ad k) :: st) := by
  subst hpc
  obtain ⟨p, l, e, R, s, m, args, below, meth, c, Q, D, A, nL⟩ := x
  intro H locs ls hl hP hS
  subst hi
  have hin : vp_in (nI i) len := vp_in_nI hlt h31
  have hc0 : va_at D jl_cl (ad k, .inl (cA, len, .inr (.inr (.inr (.inr f))))) H := hP k _ (by rw [jl_get hk, hE])
  have hc1 : H[ad k]? = some (vp_cell cA (len, .inr (.inr (.inr (.inr f))))) := hc0
  refine W.aald (v := va_rf (f (nI i).toNatClampNeg)) (ty := ty) h.1 h.2.1 hc1 ((h.2.2.2.2.2.2.1.2 t0 _ ht).1 len (fun j => va_rf (f j))) hty (fun q => by cases q) (by show ¬ ((nI i) < 0 ∨ (arrV _ _ _).slots.size ≤ _); rw [arrV_size]; exact hin) (by show (arrV _ _ _).slots[_]? = _; rw [arrV_read _ _ (by rw [nI_clamp (Nat.lt_trans hlt h31)]; exact hlt)]) rfl rfl hd ?_
  rw [nI_clamp (Nat.lt_trans hlt h31), hv]
  exact (kk H locs ls hl hP hS)
theorem jl_aast (h : jl_ok x N ad K sa cc own n) {k len t0 k2 ci : Nat} {f : Nat → Option Nat} {cA : ClassId} {C : String} {T : u_T} {M : Nat} {ty : Nat → FieldType} (hc : jl_c ci C T M ty) {fs : List Value} {i0 : Int32} (i : Nat) (hi : i0 = nI i) (hk : k < N) (hE : E k = .inl (cA, len, .inr (.inr (.inr (.inr f))))) (ht : (jl_tys K)[t0]? = some (cA, .object C)) (hk2 : k2 < N) (hEk : E k2 = .inr (ci, fs)) (hlt : i < len) (h31 : len < 2 ^ 31) (hd : decode cc pc = .ok (.aastore, 1)) {E2 : Nat → va_E} (hE2 : va_up E k (.inl (cA, len, .inr (.inr (.inr (.inr (va_up f i (some (ad k2)))))))) = E2) (pc2 : Nat) (hpc : pc + 1 = pc2) (kk : jl_J x N ad cells slots E2 pc2 lc st) : jl_J x N ad cells slots E pc lc (.ref (ad k2) :: .int i0 :: .ref (ad k) :: st) := by
  subst hpc
  subst hE2
  obtain ⟨p, l, e, R, s, m, args, below, meth, c, Q, D, A, nL⟩ := x
  intro H locs ls hl hP hS
  subst hi
  refine va_astq h.1 h.2.1 h.2.2.2.2.2.2.1 hP (h.2.2.2.2.2.2.2.1.of E) hS k t0 k2 ci (r := (C, T, M)) (by rw [jl_get hk, hE]) ht (by rw [jl_get hk2, hEk]) hc.1 (vp_in_nI hlt h31) hd (fun H1 locs1 hP1 _ hS1 => ?_)
  rw [jl_set, nI_clamp (Nat.lt_trans hlt h31)] at hP1
  exact kk H1 locs1 ls hl hP1 hS1
theorem jl_gets (h : jl_ok x N ad K sa cc own n) {C nm d : String} {ty : FieldType} {t : Nat} {vs : List Int32} (pj : ∀ (A : Nat → Prop) (U : State) (H : Heap), jl_S sa A U H → jl_S1 C nm d ty t vs A U H) {index : Nat} (hw : Cond.fieldLink own index C nm d ∈ jl_T) (hd : decode cc pc = .ok (.getstatic index, 3)) (pc2 : Nat) (hpc : pc + 3 = pc2) (kk : jl_J x N ad cells slots E pc2 lc (.ref t :: st)) : jl_J x N ad cells slots E pc lc st := by
  subst hpc
  obtain ⟨p, l, e, R, s, m, args, below, meth, c, Q, D, A, nL⟩ := x
  intro H locs ls hl hP hS
  exact va_gets h.1 h.2.1 (pj _ _ _ h.2.2.2.2.2.2.2.2.2.2).1 hS h.2.2.2.2.1 (h.2.2.2.2.2.1 _ hw) (fun _ h9 => h9) hd (kk H locs ls hl hP hS)
theorem jl_tild (h : jl_ok x N ad K sa cc own n) {C nm d : String} {t : Nat} {vs : List Int32} (pj : ∀ (A : Nat → Prop) (U : State) (H : Heap), jl_S sa A U H → jl_S1 C nm d .int t vs A U H) {i0 v : Int32} (i : Nat) (hi : i0 = nI i) (hlt : i < vs.length) (h31 : vs.length < 2 ^ 31) (hv : vs.getD i 0 = v) (hd : decode cc pc = .ok (.iaload, 1)) (pc2 : Nat) (hpc : pc + 1 = pc2) (kk : jl_J x N ad cells slots E pc2 lc (.int v :: st)) : jl_J x N ad cells slots E pc lc (.int i0 :: .ref t :: st) := by
  subst hpc
  obtain ⟨p, l, e, R, s, m, args, below, meth, c, Q, D, A, nL⟩ := x
  intro H locs ls hl hP hS
  subst hi
  exact va_ti h.1 h.2.1 (pj _ _ _ h.2.2.2.2.2.2.2.2.2.2).2 hS (vp_in_nI hlt h31) (by rw [nI_clamp (Nat.lt_trans hlt h31), hv]) hd (kk H locs ls hl hP hS)
theorem jl_tcld (h : jl_ok x N ad K sa cc own n) {C nm d : String} {t : Nat} {vs : List Int32} (pj : ∀ (A : Nat → Prop) (U : State) (H : Heap), jl_S sa A U H → jl_S1 C nm d .char t vs A U H) {i0 v : Int32} (i : Nat) (hi : i0 = nI i) (hlt : i < vs.length) (h31 : vs.length < 2 ^ 31) (hv : vs.getD i 0 = v) (hd : decode cc pc = .ok (.caload, 1)) (pc2 : Nat) (hpc : pc + 1 = pc2) (kk : jl_J x N ad cells slots E pc2 lc (.int v :: st)) : jl_J x N ad cells slots E pc lc (.int i0 :: .ref t :: st) := by
  subst hpc
  obtain ⟨p, l, e, R, s, m, args, below, meth, c, Q, D, A, nL⟩ := x
  intro H locs ls hl hP hS
  subst hi
  exact va_tc h.1 h.2.1 (pj _ _ _ h.2.2.2.2.2.2.2.2.2.2).2 hS (vp_in_nI hlt h31) (by rw [nI_clamp (Nat.lt_trans hlt h31), hv]) hd (kk H locs ls hl hP hS)
theorem jl_tlen (h : jl_ok x N ad K sa cc own n) {C nm d : String} {ty : FieldType} {t : Nat} {vs : List Int32} (pj : ∀ (A : Nat → Prop) (U : State) (H : Heap), jl_S sa A U H → jl_S1 C nm d ty t vs A U H) {v : Int32} (hv : Int32.ofNat vs.length = v) (hd : decode cc pc = .ok (.arraylength, 1)) (pc2 : Nat) (hpc : pc + 1 = pc2) (kk : jl_J x N ad cells slots E pc2 lc (.int v :: st)) : jl_J x N ad cells slots E pc lc (.ref t :: st) := by
  subst hpc
  obtain ⟨p, l, e, R, s, m, args, below, meth, c, Q, D, A, nL⟩ := x
  intro H locs ls hl hP hS
  exact va_tlen h.1 h.2.1 (pj _ _ _ h.2.2.2.2.2.2.2.2.2.2).2 hS hv hd (kk H locs ls hl hP hS)
theorem jl_tsw (h : jl_ok x N ad K sa cc own n) {dflt lo hi : Int} {offs : Array Int} {len : Nat} {a : Int32} (off : Int) (tgt : Nat) (hd : decode cc pc = .ok (.tableswitch dflt lo hi offs, len)) (h1 : ¬ a.toInt < lo) (h2 : ¬ hi < a.toInt) (ho : offs[(a.toInt - lo).toNat]? = some off) (ht : (pc : Int) + off = (tgt : Int)) (kk : jl_J x N ad cells slots E tgt lc st) : jl_J x N ad cells slots E pc lc (.int a :: st) := by
  obtain ⟨p, l, e, R, s, m, args, below, meth, c, Q, D, A, nL⟩ := x
  intro H locs ls hl hP hS
  exact lv_tableIn h.1 h.2.1 hd h1 h2 ho ht (kk H locs ls hl hP hS)
theorem jl_tswD (h : jl_ok x N ad K sa cc own n) {dflt lo hi : Int} {offs : Array Int} {len : Nat} {a : Int32} (tgt : Nat) (hd : decode cc pc = .ok (.tableswitch dflt lo hi offs, len)) (h1 : a.toInt < lo ∨ hi < a.toInt) (ht : (pc : Int) + dflt = (tgt : Int)) (kk : jl_J x N ad cells slots E tgt lc st) : jl_J x N ad cells slots E pc lc (.int a :: st) := by
  obtain ⟨p, l, e, R, s, m, args, below, meth, c, Q, D, A, nL⟩ := x
  intro H locs ls hl hP hS
  exact lv_tableOut h.1 h.2.1 hd h1 ht (kk H locs ls hl hP hS)
end JL
end
section
/-! Contracts over the numbered world, a method's entry and end, calls. -/
def jl_Q (v2 : Option Value) (E2 : Nat → va_E) (D : va_G) (N : Nat) (ad : Nat → Nat) (A : Nat → Prop) : Array Value → State → Outcome → State → Prop := fun _ st oc t => (oc = .returned v2 ∧ va_P D jl_cl (jl_w N ad E2) t.heap) ∧ va_F A st t
def jl_P (K : Nat → ClassId) (sa : Nat → Nat) (D : va_G) (N : Nat) (ad : Nat → Nat) (E : Nat → va_E) (sz : Nat) (av : List Value) : Array Value → State → Prop := va_Pc av (fun U => U.heap.size = sz ∧ va_P D jl_cl (jl_w N ad E) U.heap ∧ va_K D jl_cl (jl_tys K) U ∧ jl_D (fun _ => True) N ad ∧ jl_S sa (jl_A N ad sz) U U.heap)
/-- a method's contract: from the world E with the arguments av it comes back with v2, to the world E2; it makes nothing -/
def jl_C (l : Launch) (K : Nat → ClassId) (sa : Nat → Nat) (y : MethodName) (cc : ByteArray) (nL : Nat) (ret : Option FieldType) (fr lo : Nat) (N : Nat) (ad : Nat → Nat) (av : List Value) (E : Nat → va_E) (v2 : Option Value) (E2 : Nat → va_E) : Prop :=
  ∀ (D : va_G) (sz : Nat), Met l y (Cond.code y cc nL ret :: jl_T) ({ frames := fr, cells := 0, slots := 0, locals := lo }) (jl_P K sa D N ad E sz av) (jl_Q v2 E2 D N ad (jl_A N ad sz)) 0 0 (jl_A N ad sz)
def jl_end (x : jl_X) (N : Nat) (ad : Nat → Nat) (ret : Option FieldType) (v2 : Option Value) (E2 : Nat → va_E) : Prop := match x with
  | (_, _, _, _, s, _, args, below, meth, _, Q, D, A, _) => meth.sig.returnType = ret ∧ Q = MQ below (jl_Q v2 E2 D N ad A) args s 0 0 A
/-- the room that is left: frames, locals' words, cells, slots -/
def jl_r (x : jl_X) (fr lo cells slots : Nat) : Prop := match x with
  | (_, _, _, R, _, _, _, _, _, _, _, _, _, _) => fr ≤ R.frames ∧ lo ≤ R.locals ∧ cells ≤ R.cells ∧ slots ≤ R.slots
theorem jl_enter {l : Launch} {K : Nat → ClassId} {sa : Nat → Nat} {y : MethodName} {cc : ByteArray} {nL : Nat} {ret : Option FieldType} {fr lo : Nat} {N : Nat} {ad : Nat → Nat} {av : List Value} {E : Nat → va_E} {v2 : Option Value} {E2 : Nat → va_E} (hy : plainName y.cls = true) (hlen : (lg_sl av).length ≤ nL)
    (body : ∀ x : jl_X, jl_ok x N ad K sa cc y.cls nL → jl_end x N ad ret v2 E2 → jl_r x fr lo 0 0 → jl_J x N ad 0 0 E 0 (lv_args 0 av) []) : jl_C l K sa y cc nL ret fr lo N ad av E v2 E2 := by
  intro D sz
  refine Met.ofW (cc := cc) (maxL := nL) (ret := ret) hy rfl ?_
  intro p e s m args below meth c s₁ B hml hv
  obtain ⟨rfl, hsz, hP, hK, hD0, hSt⟩ := hv
  subst hsz
  have hts := atoms_spec (ws := Cond.code y cc nL ret :: jl_T) B.pre
  have hown : s.vm.findClass y.cls = some m.cls := findClass_of_methodNamed B.named
  have key := body (p, l, e, ({ frames := fr, cells := 0, slots := 0, locals := lo } : Room), s, m, av.toArray, below, meth, c, MQ below (jl_Q v2 E2 D N ad (jl_A N ad s.heap.size)) av.toArray s 0 0 (jl_A N ad s.heap.size), D, jl_A N ad s.heap.size, nL)
    ⟨B.exec, B.bytes, rfl, hml, hown, fun w hw => hts w (List.mem_cons_of_mem _ hw), hK, ⟨hD0.1, fun k hk => Or.inl ⟨k, hk, rfl⟩⟩, fun q hq => Or.inr hq, B.notSynchronized, hSt⟩ ⟨B.returns, rfl⟩ ⟨Nat.le_refl _, Nat.le_refl _, Nat.le_refl _, Nat.le_refl _⟩
  have hl := lv_entry av (n := nL) hlen
  rw [lg_entry_eq]
  exact key _ _ _ hl hP va_S.rf
section JC
variable {x : jl_X} {N : Nat} {ad : Nat → Nat} {K : Nat → ClassId} {sa : Nat → Nat} {cells slots : Nat} {cc : ByteArray} {own : String} {n : Nat} {E : Nat → va_E} {pc : Nat} {lc : List (Nat × Value)} {st : List Value} {v2 : Option Value} {E2 : Nat → va_E}
theorem jl_zret (h : jl_ok x N ad K sa cc own n) {ty : FieldType} (he : jl_end x N ad (some ty) v2 E2) {v : Int32} (hn : narrow ty (.int v) = .int v) (hv2 : some (.int v) = v2) (hE2 : E = E2) (hd : decode cc pc = .ok (.ireturn, 1)) : jl_J x N ad 0 0 E pc lc [.int v] := by
  obtain ⟨p, l, e, R, s, m, args, below, meth, c, Q, D, A, nL⟩ := x
  intro H locs ls hl hP hS
  obtain ⟨hr, hQ⟩ := he
  subst hQ
  exact W.zret h.1 h.2.1 hr hn (fun t ht hW => ⟨⟨by rw [← hv2], by rw [ht, ← hE2]; exact hP⟩, hS.F ht⟩) hS.2.2 hd h.2.2.2.2.2.2.2.2.2.1
theorem jl_lret (h : jl_ok x N ad K sa cc own n) (he : jl_end x N ad (some .long) v2 E2) {v : Int64} (hv2 : some (.long v) = v2) (hE2 : E = E2) (hd : decode cc pc = .ok (.lreturn, 1)) : jl_J x N ad 0 0 E pc lc [.long v] := by
  obtain ⟨p, l, e, R, s, m, args, below, meth, c, Q, D, A, nL⟩ := x
  intro H locs ls hl hP hS
  obtain ⟨hr, hQ⟩ := he
  subst hQ
  exact W.lret h.1 h.2.1 hr (fun t ht hW => ⟨⟨by rw [← hv2], by rw [ht, ← hE2]; exact hP⟩, hS.F ht⟩) hS.2.2 hd h.2.2.2.2.2.2.2.2.2.1
theorem jl_aret (h : jl_ok x N ad K sa cc own n) {C : String} (he : jl_end x N ad (some (.object C)) v2 E2) {r : Nat} (hv2 : some (.ref r) = v2) (hE2 : E = E2) (hd : decode cc pc = .ok (.areturn, 1)) : jl_J x N ad 0 0 E pc lc [.ref r] := by
  obtain ⟨p, l, e, R, s, m, args, below, meth, c, Q, D, A, nL⟩ := x
  intro H locs ls hl hP hS
  obtain ⟨hr, hQ⟩ := he
  subst hQ
  exact W.aret h.1 h.2.1 hr (Or.inl ⟨_, rfl⟩) (Or.inr ⟨_, rfl⟩) (fun t ht hW => ⟨⟨by rw [← hv2], by rw [ht, ← hE2]; exact hP⟩, hS.F ht⟩) hS.2.2 hd h.2.2.2.2.2.2.2.2.2.1
theorem jl_vret (h : jl_ok x N ad K sa cc own n) (he : jl_end x N ad none v2 E2) (hv2 : none = v2) (hE2 : E = E2) (hd : decode cc pc = .ok (.return_, 1)) : jl_J x N ad 0 0 E pc lc [] := by
  obtain ⟨p, l, e, R, s, m, args, below, meth, c, Q, D, A, nL⟩ := x
  intro H locs ls hl hP hS
  obtain ⟨hr, hQ⟩ := he
  subst hQ
  exact W.vret h.1 h.2.1 hr (fun t ht hW => ⟨⟨by rw [← hv2], by rw [ht, ← hE2]; exact hP⟩, hS.F ht⟩) hS.2.2 hd h.2.2.2.2.2.2.2.2.2.1
/-- behind a call -/
theorem jl_after {p : Program} {l : Launch} {e : Env} {R : Room} {s : State} {m : MethodId} {args : Array Value} {below : List Frame} {meth : Method} {c : Code} {Q : State → Prop} {D : va_G} {A A1 : Nat → Prop} {nL : Nat} {H : Heap} {locs : List Loc} {ls : Array Slot} {rest : List Value} {a : Array Value}
    (hrun : va_Run p l e R s m args below meth c H locs cells slots 0 0 (F0 m pc ls st) rest (jl_Q v2 E2 D N ad A1 a) A1) (hS : va_S A s.heap H locs) (hA : ∀ q, A1 q → A q) (hl : lv_has ls nL lc)
    (kk : jl_J (p, l, e, R, s, m, args, below, meth, c, Q, D, A, nL) N ad cells slots E2 (pc + 3) lc (v2.toList ++ rest)) : W p l e R s m args below meth c H locs cells slots Q (F0 m pc ls st) := by
  intro T hT X
  obtain ⟨v, st₀, t, T', L, h0, X', hL, e1, e2, ⟨⟨hv, hP'⟩, hz, hk⟩, stp⟩ := hrun T hT X
  cases hv
  rw [h0] at hz hk
  obtain ⟨t2, a1, b1⟩ := kk T'.heap (locs ++ L) ls hl (by rw [e1]; exact hP')
    ⟨Nat.le_trans hS.1 (by rw [e1]; exact hz), fun q h1 h2 => by rw [e1, hk q (Nat.lt_of_lt_of_le h1 hS.1) (fun z => h2 (hA q z))]; exact hS.2.1 q h1 h2, fun q hq => by
      rcases List.mem_append.mp hq with h | h
      · exact hS.2.2 q h
      · exact hA _ (hL q h)⟩ T' rfl X'
  exact ⟨t2, stp t2 a1, b1⟩
theorem jl_blind {K : Nat → ClassId} {sa : Nat → Nat} {D : va_G} {sz : Nat} {av : List Value} : FrameBlind (jl_P K sa D N ad E sz av) := by
  intro a U g mk q
  obtain ⟨q0, q1, qP, qK, qD, qS⟩ := q
  exact ⟨q0, q1, qP, va_K.moved (u := U) (U := U.calling g mk a) (Vm.Alike.refl U.vm) qK, qD, jl_S.moved (u := U) (U := U.calling g mk a) (Vm.Alike.refl U.vm) qS⟩
theorem jl_T_good : ∀ w ∈ jl_T, (w.onTables && w.keeps) = true ∨ ∃ ty, w = .arrayClass ty := fun _ hw => good_of_word (List.mem_filter.mp hw).2
theorem jl_goodIn {y : MethodName} {cc2 : ByteArray} {nL2 : Nat} {ret2 : Option FieldType} (hcode : Cond.code y cc2 nL2 ret2 ∈ jl_T) : GoodIn jl_T (Cond.code y cc2 nL2 ret2 :: jl_T) := by
  intro w hw
  rcases List.mem_cons.mp hw with rfl | hw
  · exact ⟨hcode, jl_T_good _ hcode⟩
  · exact ⟨hw, jl_T_good _ hw⟩
/-- the words of a call site: place in the pool, target, its code -/
def jl_v (own : String) (index : Nat) (y : MethodName) (cc2 : ByteArray) (nL2 : Nat) (ret2 : Option FieldType) (na : Nat) : Prop :=
  Cond.code y cc2 nL2 ret2 ∈ jl_T ∧ Cond.initialized y.cls ∈ jl_T ∧ Cond.methodLink own index y ∈ jl_T ∧ y.cls ≠ "java/lang/invoke/MethodHandle" ∧ y.cls ≠ "java/lang/invoke/VarHandle" ∧ (parseMethodDescriptor y.desc).map (fun d => d.parameters.length) = some na
theorem jl_pre {p : Program} {l : Launch} {e : Env} {R : Room} {s : State} {m : MethodId} {args : Array Value} {below : List Frame} {meth : Method} {c : Code} {Q : State → Prop} {D : va_G} {A : Nat → Prop} {nL : Nat} {H : Heap} {locs : List Loc} (h : jl_ok (p, l, e, R, s, m, args, below, meth, c, Q, D, A, nL) N ad K sa cc own n) (hP : va_P D jl_cl (jl_w N ad E) H) (hS : va_S A s.heap H locs) (av : List Value) :
    (∀ q, jl_A N ad H.size q → A q) ∧ ∀ U : State, U.heap = H → s.WarmedH U.vm → jl_P K sa D N ad E H.size av av.toArray U := by
  have hA : ∀ q, jl_A N ad H.size q → A q := by
    intro q hq
    rcases hq with ⟨k, hk, rfl⟩ | hq
    · exact h.2.2.2.2.2.2.2.1.2 k hk
    · exact h.2.2.2.2.2.2.2.2.1 q (Nat.le_trans hS.1 hq)
  refine ⟨hA, fun U hU hW => ⟨rfl, by rw [hU], by rw [hU]; exact hP, va_K.moved hW.alike h.2.2.2.2.2.2.1, ⟨h.2.2.2.2.2.2.2.1.1, fun _ _ => trivial⟩, ?_⟩⟩
  rw [hU]
  exact jl_S.moved hW.alike ((h.2.2.2.2.2.2.2.2.2.2.kept hS.2.1).narrow hA)
theorem jl_callV (h : jl_ok x N ad K sa cc own n) {fr lo fr2 lo2 : Nat} (hr : jl_r x fr lo cells slots) {y : MethodName} {cc2 : ByteArray} {nL2 : Nat} {ret2 : Option FieldType} {index na : Nat} (hv : jl_v own index y cc2 nL2 ret2 na) (hin : Cond.instanceMethod y ∈ jl_T) (hsel : Cond.selects y.cls y y ∈ jl_T) {k ci : Nat} {T : u_T} {M : Nat} {fs : List Value} (hc : jl_cl[ci]? = some (y.cls, T, M)) (hk : k < N) (hE : E k = .inr (ci, fs)) {As rest : List Value}
    (hC : ∀ l, jl_C l K sa y cc2 nL2 ret2 fr2 lo2 N ad (.ref (ad k) :: As) E v2 E2) (hfr : fr2 + 1 ≤ fr) (hlo : 8 + (nL2 + 11) + lo2 ≤ lo) (hn : As.length = na) (hst : st = As.reverse ++ .ref (ad k) :: rest) (hW : (rest.map fun v => v.category).sum ≤ 8) (hd : decode cc pc = .ok (.invokevirtual index, 3))
    {res : List Value} (hres : v2.toList ++ rest = res) (pc2 : Nat) (hpc : pc + 3 = pc2) (kk : jl_J x N ad cells slots E2 pc2 lc res) : jl_J x N ad cells slots E pc lc st := by
  subst hres
  subst hpc
  obtain ⟨p, l, e, R, s, m, args, below, meth, c, Q, D, A, nL⟩ := x
  intro H locs ls hl hP hS
  obtain ⟨hA, hpre⟩ := jl_pre h hP hS (.ref (ad k) :: As)
  have hts := h.2.2.2.2.2.1
  have cb : CallB R s args own index y cc2 nL2 ret2 (Cond.code y cc2 nL2 ret2 :: jl_T) ({ frames := fr2, cells := 0, slots := 0, locals := lo2 } : Room) 0 0 na := callB_of na hts (jl_goodIn hv.1) rfl rfl rfl (hts _ hv.2.1) (hts _ hv.2.2.1) ⟨hv.2.2.2.1, hv.2.2.2.2.1, hv.2.2.2.2.2⟩ ⟨Nat.le_trans hfr hr.1, Nat.le_trans hlo hr.2.1⟩
  exact jl_after (va_runV (As := As) (rest := rest) (b := ad k) (C := y.cls) ⟨h.1, h.2.1, h.2.2.2.1, h.2.2.2.2.1, hts⟩ (hC l D H.size) ⟨cb, hts _ hin, hts _ hsel⟩ ⟨jl_blind, va_recv h.2.2.2.2.2.2.1 hP hc (by rw [jl_get hk, hE]), hpre⟩ rfl hn hl.1 hst (lv_room hW) hd ⟨hr.2.2.1, hr.2.2.2⟩) hS hA hl kk
theorem jl_callS (h : jl_ok x N ad K sa cc own n) {fr lo fr2 lo2 : Nat} (hr : jl_r x fr lo cells slots) {y : MethodName} {cc2 : ByteArray} {nL2 : Nat} {ret2 : Option FieldType} {index na : Nat} (hv : jl_v own index y cc2 nL2 ret2 na) (hin : Cond.static y ∈ jl_T) {As rest : List Value}
    (hC : ∀ l, jl_C l K sa y cc2 nL2 ret2 fr2 lo2 N ad As E v2 E2) (hfr : fr2 + 1 ≤ fr) (hlo : 8 + (nL2 + 11) + lo2 ≤ lo) (hn : As.length = na) (hst : st = As.reverse ++ rest) (hW : (rest.map fun v => v.category).sum ≤ 8) (hd : decode cc pc = .ok (.invokestatic index, 3))
    {res : List Value} (hres : v2.toList ++ rest = res) (pc2 : Nat) (hpc : pc + 3 = pc2) (kk : jl_J x N ad cells slots E2 pc2 lc res) : jl_J x N ad cells slots E pc lc st := by
  subst hres
  subst hpc
  obtain ⟨p, l, e, R, s, m, args, below, meth, c, Q, D, A, nL⟩ := x
  intro H locs ls hl hP hS
  obtain ⟨hA, hpre⟩ := jl_pre h hP hS As
  have hts := h.2.2.2.2.2.1
  have cb : CallB R s args own index y cc2 nL2 ret2 (Cond.code y cc2 nL2 ret2 :: jl_T) ({ frames := fr2, cells := 0, slots := 0, locals := lo2 } : Room) 0 0 na := callB_of na hts (jl_goodIn hv.1) rfl rfl rfl (hts _ hv.2.1) (hts _ hv.2.2.1) ⟨hv.2.2.2.1, hv.2.2.2.2.1, hv.2.2.2.2.2⟩ ⟨Nat.le_trans hfr hr.1, Nat.le_trans hlo hr.2.1⟩
  exact jl_after (va_runS (As := As) (rest := rest) ⟨h.1, h.2.1, h.2.2.2.1, h.2.2.2.2.1, hts⟩ (hC l D H.size) ⟨cb, hts _ hin⟩ ⟨jl_blind, hpre⟩ rfl hn hl.1 hst (lv_room hW) hd ⟨hr.2.2.1, hr.2.2.2⟩) hS hA hl kk
theorem jl_mmin (h : jl_ok x N ad K sa cc own n) {fr lo : Nat} (hr : jl_r x fr lo cells slots) {index : Nat} (hw : Cond.methodLink own index Lib.Math.min.name ∈ jl_T ∧ Cond.static Lib.Math.min.name ∈ jl_T ∧ Cond.initialized "java/lang/Math" ∈ jl_T ∧ Cond.code Lib.Math.min.name Lib.Math.min.code 2 (some .int) ∈ jl_T) (hfr : 1 ≤ fr) (hlo : 21 ≤ lo) {a b : Int32} (hW : (st.map fun v => v.category).sum ≤ 8) (hd : decode cc pc = .ok (.invokestatic index, 3)) (pc2 : Nat) (hpc : pc + 3 = pc2) (kk : jl_J x N ad cells slots E pc2 lc (.int (if b < a then b else a) :: st)) : jl_J x N ad cells slots E pc lc (.int b :: .int a :: st) := by
  subst hpc
  obtain ⟨p, l, e, R, s, m, args, below, meth, c, Q, D, A, nL⟩ := x
  intro H locs ls hl hP hS
  have hts := h.2.2.2.2.2.1
  have h1 := hr.1
  have h2 := hr.2.1
  exact va_mmin h.1 h.2.1 (h.2.2.2.1.trans hl.1.symm) h.2.2.2.2.1 (hts _ hw.1) (hts _ hw.2.1) (hts _ hw.2.2.1) (hts _ hw.2.2.2) (by omega) (by omega) hr.2.2.1 hr.2.2.2 hd (kk H locs ls hl hP hS)
theorem jl_mmax (h : jl_ok x N ad K sa cc own n) {fr lo : Nat} (hr : jl_r x fr lo cells slots) {index : Nat} (hw : Cond.methodLink own index Lib.Math.max.name ∈ jl_T ∧ Cond.static Lib.Math.max.name ∈ jl_T ∧ Cond.initialized "java/lang/Math" ∈ jl_T ∧ Cond.code Lib.Math.max.name Lib.Math.max.code 2 (some .int) ∈ jl_T) (hfr : 1 ≤ fr) (hlo : 21 ≤ lo) {a b : Int32} (hW : (st.map fun v => v.category).sum ≤ 8) (hd : decode cc pc = .ok (.invokestatic index, 3)) (pc2 : Nat) (hpc : pc + 3 = pc2) (kk : jl_J x N ad cells slots E pc2 lc (.int (if a < b then b else a) :: st)) : jl_J x N ad cells slots E pc lc (.int b :: .int a :: st) := by
  subst hpc
  obtain ⟨p, l, e, R, s, m, args, below, meth, c, Q, D, A, nL⟩ := x
  intro H locs ls hl hP hS
  have hts := h.2.2.2.2.2.1
  have h1 := hr.1
  have h2 := hr.2.1
  exact va_mmax h.1 h.2.1 (h.2.2.2.1.trans hl.1.symm) h.2.2.2.2.1 (hts _ hw.1) (hts _ hw.2.1) (hts _ hw.2.2.1) (hts _ hw.2.2.2) (by omega) (by omega) hr.2.2.1 hr.2.2.2 hd (kk H locs ls hl hP hS)
theorem jl_mabs (h : jl_ok x N ad K sa cc own n) {fr lo : Nat} (hr : jl_r x fr lo cells slots) {index : Nat} (hw : Cond.methodLink own index Lib.Math.abs.name ∈ jl_T ∧ Cond.static Lib.Math.abs.name ∈ jl_T ∧ Cond.initialized "java/lang/Math" ∈ jl_T ∧ Cond.code Lib.Math.abs.name Lib.Math.abs.code 1 (some .int) ∈ jl_T) (hfr : 1 ≤ fr) (hlo : 21 ≤ lo) {a : Int32} (hW : (st.map fun v => v.category).sum ≤ 8) (hd : decode cc pc = .ok (.invokestatic index, 3)) (pc2 : Nat) (hpc : pc + 3 = pc2) (kk : jl_J x N ad cells slots E pc2 lc (.int (if 0 ≤ a then a else 0 - a) :: st)) : jl_J x N ad cells slots E pc lc (.int a :: st) := by
  subst hpc
  obtain ⟨p, l, e, R, s, m, args, below, meth, c, Q, D, A, nL⟩ := x
  intro H locs ls hl hP hS
  have hts := h.2.2.2.2.2.1
  have h1 := hr.1
  have h2 := hr.2.1
  exact va_mabs h.1 h.2.1 (h.2.2.2.1.trans hl.1.symm) h.2.2.2.2.1 (hts _ hw.1) (hts _ hw.2.1) (hts _ hw.2.2.1) (hts _ hw.2.2.2) (by omega) (by omega) hr.2.2.1 hr.2.2.2 hd (kk H locs ls hl hP hS)
end JC
end
section
/-! FoldedStrand$Strand: contracts. Written by wip/whole/walk.py out of wip/whole/src. -/
def iI (z : Int) : Int32 := Int32.ofInt z
theorem iI_add (a b : Int) : iI a + iI b = iI (a + b) := (Int32.ofInt_add a b).symm
theorem iI_nat (n : Nat) : iI (n : Int) = nI n := rfl
theorem iI_toInt {z : Int} (h1 : -2147483648 ≤ z) (h2 : z < 2147483648) : (iI z).toInt = z := Int32.toInt_ofInt_of_le (by omega) (by omega)
theorem iI_lt {a b : Int} (ha1 : -2147483648 ≤ a) (ha2 : a < 2147483648) (hb1 : -2147483648 ≤ b) (hb2 : b < 2147483648) : iI a < iI b ↔ a < b := by
  rw [Int32.lt_iff_toInt_lt, iI_toInt ha1 ha2, iI_toInt hb1 hb2]
theorem iI_le {a b : Int} (ha1 : -2147483648 ≤ a) (ha2 : a < 2147483648) (hb1 : -2147483648 ≤ b) (hb2 : b < 2147483648) : iI a ≤ iI b ↔ a ≤ b := by
  rw [Int32.le_iff_toInt_le, iI_toInt ha1 ha2, iI_toInt hb1 hb2]
/-- the strand: n bases, their numbers -/
def st_ok (K : Nat → ClassId) (ad : Nat → Nat) (E : Nat → va_E) (n : Nat) (b : Nat → Nat) : Prop := E 1 = .inr (1, [.ref (ad 2), .int (nI n)]) ∧ E 2 = .inl (K 0, 18, .inl (fun i => nI (b i))) ∧ n ≤ 18 ∧ ∀ i, b i < 4
def st_bI (c : Bool) : Int32 := if c then 1 else 0
theorem st_kd (a c : Nat) (ha : a < 4) (hc : c < 4) : nm_s1.getD (a * 4 + c) 0 = iI (en_kd a c) := by
  have : ∀ a, a < 4 → ∀ c, c < 4 → nm_s1.getD (a * 4 + c) 0 = iI (en_kd a c) := by decide +kernel
  exact this a ha c hc
theorem en_kd_in (a c : Nat) : -1 ≤ en_kd a c ∧ en_kd a c ≤ 5 := by
  unfold en_kd
  have h : ∀ k, -1 ≤ en_kt.getD k (-1) ∧ en_kt.getD k (-1) ≤ 5 := by
    intro k
    by_cases hk : k < 16
    · have : ∀ k, k < 16 → -1 ≤ en_kt.getD k (-1) ∧ en_kt.getD k (-1) ≤ 5 := by decide +kernel
      exact this k hk
    · rw [List.getD_eq_getElem?_getD, List.getElem?_eq_none (by show 16 ≤ k; omega)]
      simp
  exact h _
abbrev bc_ST_size : ByteArray := prog_6_method_4_code
abbrev yn_ST_size : MethodName := ⟨"FoldedStrand$Strand", "size", "()I"⟩
theorem wl_ST_13 : Cond.fieldLink "FoldedStrand$Strand" 13 "FoldedStrand$Strand" "size" "I" ∈ jl_T := jl_T_of 26 (by decide +kernel) (by decide +kernel)
theorem dc_ST_size_0 : decode bc_ST_size 0 = .ok (.aload_n 0, 1) := by decide +kernel
theorem dc_ST_size_1 : decode bc_ST_size 1 = .ok (.getfield 13, 3) := by decide +kernel
theorem dc_ST_size_4 : decode bc_ST_size 4 = .ok (.ireturn, 1) := by decide +kernel
abbrev bc_ST_kind : ByteArray := prog_6_method_7_code
abbrev yn_ST_kind : MethodName := ⟨"FoldedStrand$Strand", "kind", "(II)I"⟩
theorem wl_ST_25 : Cond.fieldLink "FoldedStrand$Strand" 25 "FoldedStrand$Strand" "KINDS" "[I" ∈ jl_T := jl_T_of 235 (by decide +kernel) (by decide +kernel)
theorem wl_ST_9 : Cond.fieldLink "FoldedStrand$Strand" 9 "FoldedStrand$Strand" "bases" "[I" ∈ jl_T := jl_T_of 25 (by decide +kernel) (by decide +kernel)
theorem wl_ST_28 : Cond.fieldLink "FoldedStrand$Strand" 28 "FoldedStrand$Strand" "LETTERS" "[C" ∈ jl_T := jl_T_of 217 (by decide +kernel) (by decide +kernel)
theorem dc_ST_kind_0 : decode bc_ST_kind 0 = .ok (.getstatic 25, 3) := by decide +kernel
theorem dc_ST_kind_3 : decode bc_ST_kind 3 = .ok (.aload_n 0, 1) := by decide +kernel
theorem dc_ST_kind_4 : decode bc_ST_kind 4 = .ok (.getfield 9, 3) := by decide +kernel
theorem dc_ST_kind_7 : decode bc_ST_kind 7 = .ok (.iload_n 1, 1) := by decide +kernel
theorem dc_ST_kind_8 : decode bc_ST_kind 8 = .ok (.iaload, 1) := by decide +kernel
theorem dc_ST_kind_9 : decode bc_ST_kind 9 = .ok (.getstatic 28, 3) := by decide +kernel
theorem dc_ST_kind_12 : decode bc_ST_kind 12 = .ok (.arraylength, 1) := by decide +kernel
theorem dc_ST_kind_13 : decode bc_ST_kind 13 = .ok (.imul, 1) := by decide +kernel
theorem dc_ST_kind_14 : decode bc_ST_kind 14 = .ok (.aload_n 0, 1) := by decide +kernel
theorem dc_ST_kind_15 : decode bc_ST_kind 15 = .ok (.getfield 9, 3) := by decide +kernel
theorem dc_ST_kind_18 : decode bc_ST_kind 18 = .ok (.iload_n 2, 1) := by decide +kernel
theorem dc_ST_kind_19 : decode bc_ST_kind 19 = .ok (.iaload, 1) := by decide +kernel
theorem dc_ST_kind_20 : decode bc_ST_kind 20 = .ok (.iadd, 1) := by decide +kernel
theorem dc_ST_kind_21 : decode bc_ST_kind 21 = .ok (.iaload, 1) := by decide +kernel
theorem dc_ST_kind_22 : decode bc_ST_kind 22 = .ok (.ireturn, 1) := by decide +kernel
abbrev bc_ST_canPair : ByteArray := prog_6_method_6_code
abbrev yn_ST_canPair : MethodName := ⟨"FoldedStrand$Strand", "canPair", "(II)Z"⟩
theorem vs_ST_21 : jl_v "FoldedStrand$Strand" 21 yn_ST_kind bc_ST_kind 3 (some .int) 2 := ⟨jl_T_of 234 (by decide +kernel) (by decide +kernel), jl_T_of 2 (by decide +kernel) (by decide +kernel), jl_T_of 231 (by decide +kernel) (by decide +kernel), by decide +kernel, by decide +kernel, by decide +kernel⟩
theorem vi_ST_kind : Cond.instanceMethod yn_ST_kind ∈ jl_T := jl_T_of 232 (by decide +kernel) (by decide +kernel)
theorem vx_ST_kind : Cond.selects "FoldedStrand$Strand" yn_ST_kind yn_ST_kind ∈ jl_T := jl_T_of 233 (by decide +kernel) (by decide +kernel)
theorem dc_ST_canPair_0 : decode bc_ST_canPair 0 = .ok (.iload_n 2, 1) := by decide +kernel
theorem dc_ST_canPair_1 : decode bc_ST_canPair 1 = .ok (.iload_n 1, 1) := by decide +kernel
theorem dc_ST_canPair_2 : decode bc_ST_canPair 2 = .ok (.isub, 1) := by decide +kernel
theorem dc_ST_canPair_3 : decode bc_ST_canPair 3 = .ok (.iconst 4, 1) := by decide +kernel
theorem dc_ST_canPair_4 : decode bc_ST_canPair 4 = .ok (.if_icmp .lt 16, 3) := by decide +kernel
theorem dc_ST_canPair_7 : decode bc_ST_canPair 7 = .ok (.aload_n 0, 1) := by decide +kernel
theorem dc_ST_canPair_8 : decode bc_ST_canPair 8 = .ok (.iload_n 1, 1) := by decide +kernel
theorem dc_ST_canPair_9 : decode bc_ST_canPair 9 = .ok (.iload_n 2, 1) := by decide +kernel
theorem dc_ST_canPair_10 : decode bc_ST_canPair 10 = .ok (.invokevirtual 21, 3) := by decide +kernel
theorem dc_ST_canPair_13 : decode bc_ST_canPair 13 = .ok (.ifCond .lt 7, 3) := by decide +kernel
theorem dc_ST_canPair_16 : decode bc_ST_canPair 16 = .ok (.iconst 1, 1) := by decide +kernel
theorem dc_ST_canPair_17 : decode bc_ST_canPair 17 = .ok (.goto 4, 3) := by decide +kernel
theorem dc_ST_canPair_20 : decode bc_ST_canPair 20 = .ok (.iconst 0, 1) := by decide +kernel
theorem dc_ST_canPair_21 : decode bc_ST_canPair 21 = .ok (.ireturn, 1) := by decide +kernel
abbrev bc_ST_ifWeak : ByteArray := prog_6_method_8_code
abbrev yn_ST_ifWeak : MethodName := ⟨"FoldedStrand$Strand", "ifWeak", "(III)I"⟩
theorem dc_ST_ifWeak_0 : decode bc_ST_ifWeak 0 = .ok (.aload_n 0, 1) := by decide +kernel
theorem dc_ST_ifWeak_1 : decode bc_ST_ifWeak 1 = .ok (.iload_n 1, 1) := by decide +kernel
theorem dc_ST_ifWeak_2 : decode bc_ST_ifWeak 2 = .ok (.iload_n 2, 1) := by decide +kernel
theorem dc_ST_ifWeak_3 : decode bc_ST_ifWeak 3 = .ok (.invokevirtual 21, 3) := by decide +kernel
theorem dc_ST_ifWeak_6 : decode bc_ST_ifWeak 6 = .ok (.iconst 2, 1) := by decide +kernel
theorem dc_ST_ifWeak_7 : decode bc_ST_ifWeak 7 = .ok (.if_icmp .lt 7, 3) := by decide +kernel
theorem dc_ST_ifWeak_10 : decode bc_ST_ifWeak 10 = .ok (.iload_n 3, 1) := by decide +kernel
theorem dc_ST_ifWeak_11 : decode bc_ST_ifWeak 11 = .ok (.goto 4, 3) := by decide +kernel
theorem dc_ST_ifWeak_14 : decode bc_ST_ifWeak 14 = .ok (.iconst 0, 1) := by decide +kernel
theorem dc_ST_ifWeak_15 : decode bc_ST_ifWeak 15 = .ok (.ireturn, 1) := by decide +kernel
abbrev bc_ST_has : ByteArray := prog_6_method_5_code
abbrev yn_ST_has : MethodName := ⟨"FoldedStrand$Strand", "has", "(I)Z"⟩
theorem dc_ST_has_0 : decode bc_ST_has 0 = .ok (.iload_n 1, 1) := by decide +kernel
theorem dc_ST_has_1 : decode bc_ST_has 1 = .ok (.ifCond .lt 15, 3) := by decide +kernel
theorem dc_ST_has_4 : decode bc_ST_has 4 = .ok (.iload_n 1, 1) := by decide +kernel
theorem dc_ST_has_5 : decode bc_ST_has 5 = .ok (.aload_n 0, 1) := by decide +kernel
theorem dc_ST_has_6 : decode bc_ST_has 6 = .ok (.getfield 13, 3) := by decide +kernel
theorem dc_ST_has_9 : decode bc_ST_has 9 = .ok (.if_icmp .ge 7, 3) := by decide +kernel
theorem dc_ST_has_12 : decode bc_ST_has 12 = .ok (.iconst 1, 1) := by decide +kernel
theorem dc_ST_has_13 : decode bc_ST_has 13 = .ok (.goto 4, 3) := by decide +kernel
theorem dc_ST_has_16 : decode bc_ST_has 16 = .ok (.iconst 0, 1) := by decide +kernel
theorem dc_ST_has_17 : decode bc_ST_has 17 = .ok (.ireturn, 1) := by decide +kernel
section ST
variable (l : Launch) {K : Nat → ClassId} {sa : Nat → Nat} {N : Nat} {ad : Nat → Nat} {E : Nat → va_E} {n : Nat} {b : Nat → Nat}
theorem c_ST_size (hN : 3 ≤ N) (hS : st_ok K ad E n b) : jl_C l K sa yn_ST_size bc_ST_size 1 (some .int) 0 0 N ad [.ref (ad 1)] E (some (.int (nI n))) E := by
  refine jl_enter (by decide) (Nat.le_of_ble_eq_true rfl) (fun x h he hr => ?_)
  obtain ⟨hST, hbases, hn, hb⟩ := hS
  show jl_J x N ad 0 0 E 0 [(0, .ref (ad 1))] []
  refine jl_aload_n (i := 0) h rfl rfl dc_ST_size_0 1 rfl ?_
  refine jl_getf h nm_c_ST 1 wl_ST_13 (by omega) (by decide) (by exact hST) (by rfl) dc_ST_size_1 4 rfl ?_
  exact jl_zret h he rfl (rfl) (rfl) dc_ST_size_4
theorem c_ST_kind (hN : 3 ≤ N) (hS : st_ok K ad E n b) {i j : Nat} (hi : i < 18) (hj : j < 18) : jl_C l K sa yn_ST_kind bc_ST_kind 3 (some .int) 0 0 N ad [.ref (ad 1), .int (nI i), .int (nI j)] E (some (.int (iI (en_kd (b i) (b j))))) E := by
  refine jl_enter (by decide) (Nat.le_of_ble_eq_true rfl) (fun x h he hr => ?_)
  obtain ⟨hST, hbases, hn, hb⟩ := hS
  have h1 := hb i
  have h2 := hb j
  show jl_J x N ad 0 0 E 0 [(0, .ref (ad 1)), (1, .int (nI i)), (2, .int (nI j))] []
  refine jl_gets h (fun _ _ _ q => q.2.1) wl_ST_25 dc_ST_kind_0 3 rfl ?_
  refine jl_aload_n (i := 0) h rfl rfl dc_ST_kind_3 4 rfl ?_
  refine jl_getf h nm_c_ST 0 wl_ST_9 (by omega) (by decide) (by exact hST) (by rfl) dc_ST_kind_4 7 rfl ?_
  refine jl_iload_n (i := 1) h rfl rfl dc_ST_kind_7 8 rfl ?_
  refine jl_iald (v := nI (b i)) h (i) (by exact rfl) (by omega) (by exact hbases) (by exact hi) (by first | decide | assumption) (by exact rfl) dc_ST_kind_8 9 rfl ?_
  refine jl_gets h (fun _ _ _ q => q.1) wl_ST_28 dc_ST_kind_9 12 rfl ?_
  refine jl_tlen (v := nI 4) h (fun _ _ _ q => q.1) (by decide) dc_ST_kind_12 13 rfl ?_
  refine jl_imul h dc_ST_kind_13 14 rfl ?_
  refine jl_aload_n (i := 0) h rfl rfl dc_ST_kind_14 15 rfl ?_
  refine jl_getf h nm_c_ST 0 wl_ST_9 (by omega) (by decide) (by exact hST) (by rfl) dc_ST_kind_15 18 rfl ?_
  refine jl_iload_n (i := 2) h rfl rfl dc_ST_kind_18 19 rfl ?_
  refine jl_iald (v := nI (b j)) h (j) (by exact rfl) (by omega) (by exact hbases) (by exact hj) (by first | decide | assumption) (by exact rfl) dc_ST_kind_19 20 rfl ?_
  refine jl_iadd h dc_ST_kind_20 21 rfl ?_
  rw [show nI (b i) * nI 4 + nI (b j) = nI (b i * 4 + b j) by rw [pk_mul, nI_add]]
  refine jl_tild (v := iI (en_kd (b i) (b j))) h (fun _ _ _ q => q.2.1) (b i * 4 + b j) (rfl) (by show _ < 16; omega) (by decide) (st_kd _ _ h1 h2) dc_ST_kind_21 22 rfl ?_
  exact jl_zret h he rfl (rfl) (rfl) dc_ST_kind_22
theorem c_ST_canPair (hN : 3 ≤ N) (hS : st_ok K ad E n b) {i j : Nat} (hi : i < 18) (hj : j < 18) : jl_C l K sa yn_ST_canPair bc_ST_canPair 3 (some .boolean) 1 25 N ad [.ref (ad 1), .int (nI i), .int (nI j)] E (some (.int (st_bI (en_cp b i j)))) E := by
  refine jl_enter (by decide) (Nat.le_of_ble_eq_true rfl) (fun x h he hr => ?_)
  obtain ⟨hST, hbases, hn, hb⟩ := id hS
  have hk := en_kd_in (b i) (b j)
  have hsub : (nI j - nI i).toInt = (j : Int) - i := pk_sub_toInt (by omega) (by omega)
  have h4 : ((4 : Int32)).toInt = 4 := by decide
  have h0 : iI 0 = 0 := rfl
  show jl_J x N ad 0 0 E 0 [(0, .ref (ad 1)), (1, .int (nI i)), (2, .int (nI j))] []
  refine jl_iload_n (i := 2) h rfl rfl dc_ST_canPair_0 1 rfl ?_
  refine jl_iload_n (i := 1) h rfl rfl dc_ST_canPair_1 2 rfl ?_
  refine jl_isub h dc_ST_canPair_2 3 rfl ?_
  refine jl_iconst (v := 4) h (by decide) dc_ST_canPair_3 4 rfl ?_
  refine jl_icmp_lt h 20 (by decide) dc_ST_canPair_4 7 rfl (fun c4 => ?_) (fun c4 => ?_)
  · skip
    rw [Int32.lt_iff_toInt_lt, hsub, h4] at c4
    refine jl_iconst (v := 0) h (by decide) dc_ST_canPair_20 21 rfl ?_
    exact jl_zret h he rfl (by unfold st_bI en_cp; simp; omega) (rfl) dc_ST_canPair_21
  · skip
    rw [Int32.lt_iff_toInt_lt, hsub, h4] at c4
    refine jl_aload_n (i := 0) h rfl rfl dc_ST_canPair_7 8 rfl ?_
    refine jl_iload_n (i := 1) h rfl rfl dc_ST_canPair_8 9 rfl ?_
    refine jl_iload_n (i := 2) h rfl rfl dc_ST_canPair_9 10 rfl ?_
    refine jl_callV (As := [_, _]) (rest := []) h hr vs_ST_21 vi_ST_kind vx_ST_kind (ci := 1) rfl (by omega) (by exact hST) (fun l => c_ST_kind l hN hS hi hj) (by first | decide | omega) (by first | decide | omega) rfl rfl (Nat.le_of_ble_eq_true rfl) dc_ST_canPair_10 (res := [_]) rfl 13 rfl ?_
    refine jl_if_lt h 20 (by decide) dc_ST_canPair_13 16 rfl (fun c13 => ?_) (fun c13 => ?_)
    · skip
      rw [← h0, iI_lt (by omega) (by omega) (by omega) (by omega)] at c13
      refine jl_iconst (v := 0) h (by decide) dc_ST_canPair_20 21 rfl ?_
      exact jl_zret h he rfl (by unfold st_bI en_cp; simp; omega) (rfl) dc_ST_canPair_21
    · skip
      rw [← h0, iI_lt (by omega) (by omega) (by omega) (by omega)] at c13
      refine jl_iconst (v := 1) h (by decide) dc_ST_canPair_16 17 rfl ?_
      refine jl_goto h 21 (by decide) dc_ST_canPair_17 ?_
      exact jl_zret h he rfl (by unfold st_bI en_cp; simp; omega) (rfl) dc_ST_canPair_21
theorem c_ST_ifWeak (hN : 3 ≤ N) (hS : st_ok K ad E n b) {i j : Nat} (hi : i < 18) (hj : j < 18) (m : Int) : jl_C l K sa yn_ST_ifWeak bc_ST_ifWeak 4 (some .int) 1 25 N ad [.ref (ad 1), .int (nI i), .int (nI j), .int (iI m)] E (some (.int (iI (if 2 ≤ en_kd (b i) (b j) then m else 0)))) E := by
  refine jl_enter (by decide) (Nat.le_of_ble_eq_true rfl) (fun x h he hr => ?_)
  obtain ⟨hST, hbases, hn, hb⟩ := id hS
  have hk := en_kd_in (b i) (b j)
  have h2 : iI 2 = 2 := rfl
  show jl_J x N ad 0 0 E 0 [(0, .ref (ad 1)), (1, .int (nI i)), (2, .int (nI j)), (3, .int (iI m))] []
  refine jl_aload_n (i := 0) h rfl rfl dc_ST_ifWeak_0 1 rfl ?_
  refine jl_iload_n (i := 1) h rfl rfl dc_ST_ifWeak_1 2 rfl ?_
  refine jl_iload_n (i := 2) h rfl rfl dc_ST_ifWeak_2 3 rfl ?_
  refine jl_callV (As := [_, _]) (rest := []) h hr vs_ST_21 vi_ST_kind vx_ST_kind (ci := 1) rfl (by omega) (by exact hST) (fun l => c_ST_kind l hN hS hi hj) (by first | decide | omega) (by first | decide | omega) rfl rfl (Nat.le_of_ble_eq_true rfl) dc_ST_ifWeak_3 (res := [_]) rfl 6 rfl ?_
  refine jl_iconst (v := 2) h (by decide) dc_ST_ifWeak_6 7 rfl ?_
  refine jl_icmp_lt h 14 (by decide) dc_ST_ifWeak_7 10 rfl (fun c7 => ?_) (fun c7 => ?_)
  · skip
    rw [← h2, iI_lt (by omega) (by omega) (by omega) (by omega)] at c7
    refine jl_iconst (v := 0) h (by decide) dc_ST_ifWeak_14 15 rfl ?_
    exact jl_zret h he rfl (by first | rw [if_pos (by omega)] | (rw [if_neg (by omega)]; rfl)) (rfl) dc_ST_ifWeak_15
  · skip
    rw [← h2, iI_lt (by omega) (by omega) (by omega) (by omega)] at c7
    refine jl_iload_n (i := 3) h rfl rfl dc_ST_ifWeak_10 11 rfl ?_
    refine jl_goto h 15 (by decide) dc_ST_ifWeak_11 ?_
    exact jl_zret h he rfl (by first | rw [if_pos (by omega)] | (rw [if_neg (by omega)]; rfl)) (rfl) dc_ST_ifWeak_15
theorem c_ST_has (hN : 3 ≤ N) (hS : st_ok K ad E n b) (q : Int32) : jl_C l K sa yn_ST_has bc_ST_has 2 (some .boolean) 0 0 N ad [.ref (ad 1), .int q] E (some (.int (st_bI (decide (¬ q < 0 ∧ q < nI n))))) E := by
  refine jl_enter (by decide) (Nat.le_of_ble_eq_true rfl) (fun x h he hr => ?_)
  obtain ⟨hST, hbases, hn, hb⟩ := hS
  show jl_J x N ad 0 0 E 0 [(0, .ref (ad 1)), (1, .int q)] []
  refine jl_iload_n (i := 1) h rfl rfl dc_ST_has_0 1 rfl ?_
  refine jl_if_lt h 16 (by decide) dc_ST_has_1 4 rfl (fun c1 => ?_) (fun c1 => ?_)
  · skip
    refine jl_iconst (v := 0) h (by decide) dc_ST_has_16 17 rfl ?_
    exact jl_zret h he rfl (by unfold st_bI; simp_all) (rfl) dc_ST_has_17
  · skip
    refine jl_iload_n (i := 1) h rfl rfl dc_ST_has_4 5 rfl ?_
    refine jl_aload_n (i := 0) h rfl rfl dc_ST_has_5 6 rfl ?_
    refine jl_getf h nm_c_ST 1 wl_ST_13 (by omega) (by decide) (by exact hST) (by rfl) dc_ST_has_6 9 rfl ?_
    refine jl_icmp_ge h 16 (by decide) dc_ST_has_9 12 rfl (fun c9 => ?_) (fun c9 => ?_)
    · skip
      refine jl_iconst (v := 0) h (by decide) dc_ST_has_16 17 rfl ?_
      exact jl_zret h he rfl (by unfold st_bI; simp_all) (rfl) dc_ST_has_17
    · skip
      refine jl_iconst (v := 1) h (by decide) dc_ST_has_12 13 rfl ?_
      refine jl_goto h 17 (by decide) dc_ST_has_13 ?_
      exact jl_zret h he rfl (by unfold st_bI; simp_all) (rfl) dc_ST_has_17
end ST
end
section
/-! FoldedStrand$Strand: numberOf, append, removeAll, spells. -/
def st_num (c : Int32) : Int := if c = 65 then 0 else if c = 67 then 1 else if c = 71 then 2 else if c = 85 then 3 else -1
theorem st_num_at (k : Nat) (hk : k < 4) : st_num (nm_s0.getD k 0) = k := by
  have : ∀ k, k < 4 → st_num (nm_s0.getD k 0) = k := by decide +kernel
  exact this k hk
theorem st_num_no {c : Int32} (h : ∀ m, m < 4 → nm_s0.getD m 0 ≠ c) : st_num c = -1 := by
  have h0 : (65 : Int32) ≠ c := h 0 (by decide)
  have h1 : (67 : Int32) ≠ c := h 1 (by decide)
  have h2 : (71 : Int32) ≠ c := h 2 (by decide)
  have h3 : (85 : Int32) ≠ c := h 3 (by decide)
  unfold st_num
  rw [if_neg (Ne.symm h0), if_neg (Ne.symm h1), if_neg (Ne.symm h2), if_neg (Ne.symm h3)]
theorem st_num_in (c : Int32) : st_num c = -1 ∨ ∃ a : Nat, a < 4 ∧ st_num c = a := by
  unfold st_num
  split
  · exact Or.inr ⟨0, by decide, rfl⟩
  · split
    · exact Or.inr ⟨1, by decide, rfl⟩
    · split
      · exact Or.inr ⟨2, by decide, rfl⟩
      · split
        · exact Or.inr ⟨3, by decide, rfl⟩
        · exact Or.inl rfl
theorem st_upd (b : Nat → Nat) (k v : Nat) : upd (fun i => nI (b i)) k (nI v) = fun i => nI (va_up b k v i) := by
  funext i
  unfold upd va_up
  split <;> rfl
def en_six (b : Nat → Nat) (i j : Nat) : Bool := decide (j = i + 5) && (List.range 6).all (fun p => nm_s0.getD (b (i + p)) 0 == nm_s2.getD p 0)
theorem en_six_yes {b : Nat → Nat} {i j : Nat} (h : j = i + 5) (h2 : ∀ m, m < 6 → nm_s0.getD (b (i + m)) 0 = nm_s2.getD m 0) : en_six b i j = true := by
  unfold en_six
  rw [Bool.and_eq_true, decide_eq_true_eq, List.all_eq_true]
  exact ⟨h, fun p hp => by rw [beq_iff_eq]; exact h2 p (List.mem_range.mp hp)⟩
theorem en_six_no {b : Nat → Nat} {i j m : Nat} (hm : m < 6) (h2 : ¬ nm_s0.getD (b (i + m)) 0 = nm_s2.getD m 0) : en_six b i j = false := by
  unfold en_six
  rw [Bool.and_eq_false_iff]
  right
  rw [List.all_eq_false]
  exact ⟨m, List.mem_range.mpr hm, by rw [beq_iff_eq]; exact h2⟩
theorem en_six_len {b : Nat → Nat} {i j : Nat} (h : ¬ j = i + 5) : en_six b i j = false := by
  unfold en_six
  simp [h]
/-- the strand behind append -/
def st_app (K : Nat → ClassId) (ad : Nat → Nat) (E : Nat → va_E) (n : Nat) (b : Nat → Nat) : Nat → va_E := va_up (va_up E 2 (.inl (K 0, 18, .inl (fun i => nI (b i))))) 1 (.inr (1, [.ref (ad 2), .int (nI n)]))
theorem st_app_ok {K : Nat → ClassId} {ad : Nat → Nat} {E : Nat → va_E} {n : Nat} {b : Nat → Nat} (h : n ≤ 18) (hb : ∀ i, b i < 4) : st_ok K ad (st_app K ad E n b) n b := ⟨rfl, rfl, h, hb⟩
abbrev bc_ST_numberOf : ByteArray := prog_6_method_10_code
abbrev yn_ST_numberOf : MethodName := ⟨"FoldedStrand$Strand", "numberOf", "(C)I"⟩
theorem dc_ST_numberOf_0 : decode bc_ST_numberOf 0 = .ok (.iconst 0, 1) := by decide +kernel
theorem dc_ST_numberOf_1 : decode bc_ST_numberOf 1 = .ok (.istore_n 1, 1) := by decide +kernel
theorem dc_ST_numberOf_2 : decode bc_ST_numberOf 2 = .ok (.iload_n 1, 1) := by decide +kernel
theorem dc_ST_numberOf_3 : decode bc_ST_numberOf 3 = .ok (.getstatic 28, 3) := by decide +kernel
theorem dc_ST_numberOf_6 : decode bc_ST_numberOf 6 = .ok (.arraylength, 1) := by decide +kernel
theorem dc_ST_numberOf_7 : decode bc_ST_numberOf 7 = .ok (.if_icmp .ge 20, 3) := by decide +kernel
theorem dc_ST_numberOf_10 : decode bc_ST_numberOf 10 = .ok (.getstatic 28, 3) := by decide +kernel
theorem dc_ST_numberOf_13 : decode bc_ST_numberOf 13 = .ok (.iload_n 1, 1) := by decide +kernel
theorem dc_ST_numberOf_14 : decode bc_ST_numberOf 14 = .ok (.caload, 1) := by decide +kernel
theorem dc_ST_numberOf_15 : decode bc_ST_numberOf 15 = .ok (.iload_n 0, 1) := by decide +kernel
theorem dc_ST_numberOf_16 : decode bc_ST_numberOf 16 = .ok (.if_icmp .ne 5, 3) := by decide +kernel
theorem dc_ST_numberOf_19 : decode bc_ST_numberOf 19 = .ok (.iload_n 1, 1) := by decide +kernel
theorem dc_ST_numberOf_20 : decode bc_ST_numberOf 20 = .ok (.ireturn, 1) := by decide +kernel
theorem dc_ST_numberOf_21 : decode bc_ST_numberOf 21 = .ok (.iinc 1 1, 3) := by decide +kernel
theorem dc_ST_numberOf_24 : decode bc_ST_numberOf 24 = .ok (.goto (-22), 3) := by decide +kernel
theorem dc_ST_numberOf_27 : decode bc_ST_numberOf 27 = .ok (.iconst (-1), 1) := by decide +kernel
theorem dc_ST_numberOf_28 : decode bc_ST_numberOf 28 = .ok (.ireturn, 1) := by decide +kernel
abbrev bc_ST_append : ByteArray := prog_6_method_2_code
abbrev yn_ST_append : MethodName := ⟨"FoldedStrand$Strand", "append", "(C)Z"⟩
theorem vs_ST_17 : jl_v "FoldedStrand$Strand" 17 yn_ST_numberOf bc_ST_numberOf 2 (some .int) 1 := ⟨jl_T_of 216 (by decide +kernel) (by decide +kernel), jl_T_of 2 (by decide +kernel) (by decide +kernel), jl_T_of 214 (by decide +kernel) (by decide +kernel), by decide +kernel, by decide +kernel, by decide +kernel⟩
theorem vt_ST_numberOf : Cond.static yn_ST_numberOf ∈ jl_T := jl_T_of 215 (by decide +kernel) (by decide +kernel)
theorem dc_ST_append_0 : decode bc_ST_append 0 = .ok (.iload_n 1, 1) := by decide +kernel
theorem dc_ST_append_1 : decode bc_ST_append 1 = .ok (.invokestatic 17, 3) := by decide +kernel
theorem dc_ST_append_4 : decode bc_ST_append 4 = .ok (.istore_n 2, 1) := by decide +kernel
theorem dc_ST_append_5 : decode bc_ST_append 5 = .ok (.iload_n 2, 1) := by decide +kernel
theorem dc_ST_append_6 : decode bc_ST_append 6 = .ok (.ifCond .lt 12, 3) := by decide +kernel
theorem dc_ST_append_9 : decode bc_ST_append 9 = .ok (.aload_n 0, 1) := by decide +kernel
theorem dc_ST_append_10 : decode bc_ST_append 10 = .ok (.getfield 13, 3) := by decide +kernel
theorem dc_ST_append_13 : decode bc_ST_append 13 = .ok (.bipush 18, 2) := by decide +kernel
theorem dc_ST_append_15 : decode bc_ST_append 15 = .ok (.if_icmp .lt 5, 3) := by decide +kernel
theorem dc_ST_append_18 : decode bc_ST_append 18 = .ok (.iconst 0, 1) := by decide +kernel
theorem dc_ST_append_19 : decode bc_ST_append 19 = .ok (.ireturn, 1) := by decide +kernel
theorem dc_ST_append_20 : decode bc_ST_append 20 = .ok (.aload_n 0, 1) := by decide +kernel
theorem dc_ST_append_21 : decode bc_ST_append 21 = .ok (.getfield 9, 3) := by decide +kernel
theorem dc_ST_append_24 : decode bc_ST_append 24 = .ok (.aload_n 0, 1) := by decide +kernel
theorem dc_ST_append_25 : decode bc_ST_append 25 = .ok (.getfield 13, 3) := by decide +kernel
theorem dc_ST_append_28 : decode bc_ST_append 28 = .ok (.iload_n 2, 1) := by decide +kernel
theorem dc_ST_append_29 : decode bc_ST_append 29 = .ok (.iastore, 1) := by decide +kernel
theorem dc_ST_append_30 : decode bc_ST_append 30 = .ok (.aload_n 0, 1) := by decide +kernel
theorem dc_ST_append_31 : decode bc_ST_append 31 = .ok (.dup, 1) := by decide +kernel
theorem dc_ST_append_32 : decode bc_ST_append 32 = .ok (.getfield 13, 3) := by decide +kernel
theorem dc_ST_append_35 : decode bc_ST_append 35 = .ok (.iconst 1, 1) := by decide +kernel
theorem dc_ST_append_36 : decode bc_ST_append 36 = .ok (.iadd, 1) := by decide +kernel
theorem dc_ST_append_37 : decode bc_ST_append 37 = .ok (.putfield 13, 3) := by decide +kernel
theorem dc_ST_append_40 : decode bc_ST_append 40 = .ok (.iconst 1, 1) := by decide +kernel
theorem dc_ST_append_41 : decode bc_ST_append 41 = .ok (.ireturn, 1) := by decide +kernel
abbrev bc_ST_removeAll : ByteArray := prog_6_method_3_code
abbrev yn_ST_removeAll : MethodName := ⟨"FoldedStrand$Strand", "removeAll", "()I"⟩
theorem dc_ST_removeAll_0 : decode bc_ST_removeAll 0 = .ok (.aload_n 0, 1) := by decide +kernel
theorem dc_ST_removeAll_1 : decode bc_ST_removeAll 1 = .ok (.getfield 13, 3) := by decide +kernel
theorem dc_ST_removeAll_4 : decode bc_ST_removeAll 4 = .ok (.istore_n 1, 1) := by decide +kernel
theorem dc_ST_removeAll_5 : decode bc_ST_removeAll 5 = .ok (.aload_n 0, 1) := by decide +kernel
theorem dc_ST_removeAll_6 : decode bc_ST_removeAll 6 = .ok (.iconst 0, 1) := by decide +kernel
theorem dc_ST_removeAll_7 : decode bc_ST_removeAll 7 = .ok (.putfield 13, 3) := by decide +kernel
theorem dc_ST_removeAll_10 : decode bc_ST_removeAll 10 = .ok (.iload_n 1, 1) := by decide +kernel
theorem dc_ST_removeAll_11 : decode bc_ST_removeAll 11 = .ok (.ireturn, 1) := by decide +kernel
abbrev bc_ST_spells : ByteArray := prog_6_method_9_code
abbrev yn_ST_spells : MethodName := ⟨"FoldedStrand$Strand", "spells", "(II[C)Z"⟩
theorem dc_ST_spells_0 : decode bc_ST_spells 0 = .ok (.iload_n 2, 1) := by decide +kernel
theorem dc_ST_spells_1 : decode bc_ST_spells 1 = .ok (.iload_n 1, 1) := by decide +kernel
theorem dc_ST_spells_2 : decode bc_ST_spells 2 = .ok (.isub, 1) := by decide +kernel
theorem dc_ST_spells_3 : decode bc_ST_spells 3 = .ok (.iconst 1, 1) := by decide +kernel
theorem dc_ST_spells_4 : decode bc_ST_spells 4 = .ok (.iadd, 1) := by decide +kernel
theorem dc_ST_spells_5 : decode bc_ST_spells 5 = .ok (.aload_n 3, 1) := by decide +kernel
theorem dc_ST_spells_6 : decode bc_ST_spells 6 = .ok (.arraylength, 1) := by decide +kernel
theorem dc_ST_spells_7 : decode bc_ST_spells 7 = .ok (.if_icmp .eq 5, 3) := by decide +kernel
theorem dc_ST_spells_10 : decode bc_ST_spells 10 = .ok (.iconst 0, 1) := by decide +kernel
theorem dc_ST_spells_11 : decode bc_ST_spells 11 = .ok (.ireturn, 1) := by decide +kernel
theorem dc_ST_spells_12 : decode bc_ST_spells 12 = .ok (.iconst 0, 1) := by decide +kernel
theorem dc_ST_spells_13 : decode bc_ST_spells 13 = .ok (.istore 4, 2) := by decide +kernel
theorem dc_ST_spells_15 : decode bc_ST_spells 15 = .ok (.iload 4, 2) := by decide +kernel
theorem dc_ST_spells_17 : decode bc_ST_spells 17 = .ok (.aload_n 3, 1) := by decide +kernel
theorem dc_ST_spells_18 : decode bc_ST_spells 18 = .ok (.arraylength, 1) := by decide +kernel
theorem dc_ST_spells_19 : decode bc_ST_spells 19 = .ok (.if_icmp .ge 31, 3) := by decide +kernel
theorem dc_ST_spells_22 : decode bc_ST_spells 22 = .ok (.getstatic 28, 3) := by decide +kernel
theorem dc_ST_spells_25 : decode bc_ST_spells 25 = .ok (.aload_n 0, 1) := by decide +kernel
theorem dc_ST_spells_26 : decode bc_ST_spells 26 = .ok (.getfield 9, 3) := by decide +kernel
theorem dc_ST_spells_29 : decode bc_ST_spells 29 = .ok (.iload_n 1, 1) := by decide +kernel
theorem dc_ST_spells_30 : decode bc_ST_spells 30 = .ok (.iload 4, 2) := by decide +kernel
theorem dc_ST_spells_32 : decode bc_ST_spells 32 = .ok (.iadd, 1) := by decide +kernel
theorem dc_ST_spells_33 : decode bc_ST_spells 33 = .ok (.iaload, 1) := by decide +kernel
theorem dc_ST_spells_34 : decode bc_ST_spells 34 = .ok (.caload, 1) := by decide +kernel
theorem dc_ST_spells_35 : decode bc_ST_spells 35 = .ok (.aload_n 3, 1) := by decide +kernel
theorem dc_ST_spells_36 : decode bc_ST_spells 36 = .ok (.iload 4, 2) := by decide +kernel
theorem dc_ST_spells_38 : decode bc_ST_spells 38 = .ok (.caload, 1) := by decide +kernel
theorem dc_ST_spells_39 : decode bc_ST_spells 39 = .ok (.if_icmp .eq 5, 3) := by decide +kernel
theorem dc_ST_spells_42 : decode bc_ST_spells 42 = .ok (.iconst 0, 1) := by decide +kernel
theorem dc_ST_spells_43 : decode bc_ST_spells 43 = .ok (.ireturn, 1) := by decide +kernel
theorem dc_ST_spells_44 : decode bc_ST_spells 44 = .ok (.iinc 4 1, 3) := by decide +kernel
theorem dc_ST_spells_47 : decode bc_ST_spells 47 = .ok (.goto (-32), 3) := by decide +kernel
theorem dc_ST_spells_50 : decode bc_ST_spells 50 = .ok (.iconst 1, 1) := by decide +kernel
theorem dc_ST_spells_51 : decode bc_ST_spells 51 = .ok (.ireturn, 1) := by decide +kernel
section ST
variable (l : Launch) {K : Nat → ClassId} {sa : Nat → Nat} {N : Nat} {ad : Nat → Nat} {E : Nat → va_E} {n : Nat} {b : Nat → Nat}
theorem c_ST_numberOf (q : Int32) : jl_C l K sa yn_ST_numberOf bc_ST_numberOf 2 (some .int) 0 0 N ad [.int q] E (some (.int (iI (st_num q)))) E := by
  refine jl_enter (by decide) (Nat.le_of_ble_eq_true rfl) (fun x h he hr => ?_)
  show jl_J x N ad 0 0 E 0 [(0, .int q)] []
  have loop : ∀ d k : Nat, k + d = 4 → (∀ m, m < k → nm_s0.getD m 0 ≠ q) → jl_J x N ad 0 0 E 2 [(1, .int (nI k)), (0, .int q)] [] := by
    intro d
    induction d with
    | zero =>
      intro k hk hne
      have hk : k = 4 := by omega
      subst hk
      refine jl_iload_n (i := 1) h rfl rfl dc_ST_numberOf_2 3 rfl ?_
      refine jl_gets h (fun _ _ _ q => q.1) wl_ST_28 dc_ST_numberOf_3 6 rfl ?_
      refine jl_tlen (v := nI 4) h (fun _ _ _ q => q.1) (by decide) dc_ST_numberOf_6 7 rfl ?_
      refine jl_icmp_ge h 27 (by decide) dc_ST_numberOf_7 10 rfl (fun c7 => ?_) (fun c7 => absurd (nI_le (Nat.le_refl 4) (by decide)) c7)
      refine jl_iconst (v := -1) h (by decide) dc_ST_numberOf_27 28 rfl ?_
      exact jl_zret h he rfl (by rw [st_num_no hne]; rfl) (rfl) dc_ST_numberOf_28
    | succ d ih =>
      intro k hk hne
      refine jl_iload_n (i := 1) h rfl rfl dc_ST_numberOf_2 3 rfl ?_
      refine jl_gets h (fun _ _ _ q => q.1) wl_ST_28 dc_ST_numberOf_3 6 rfl ?_
      refine jl_tlen (v := nI 4) h (fun _ _ _ q => q.1) (by decide) dc_ST_numberOf_6 7 rfl ?_
      refine jl_icmp_ge h 27 (by decide) dc_ST_numberOf_7 10 rfl (fun c7 => absurd c7 (nI_ge (by omega) (by decide))) (fun c7 => ?_)
      refine jl_gets h (fun _ _ _ q => q.1) wl_ST_28 dc_ST_numberOf_10 13 rfl ?_
      refine jl_iload_n (i := 1) h rfl rfl dc_ST_numberOf_13 14 rfl ?_
      refine jl_tcld (v := nm_s0.getD k 0) h (fun _ _ _ q => q.1) (k) (rfl) (by show _ < 4; omega) (by decide) (rfl) dc_ST_numberOf_14 15 rfl ?_
      refine jl_iload_n (i := 0) h rfl rfl dc_ST_numberOf_15 16 rfl ?_
      refine jl_icmp_ne h 21 (by decide) dc_ST_numberOf_16 19 rfl (fun c16 => ?_) (fun c16 => ?_)
      · skip
        refine jl_iinc (i := 1) (d := 1) (lc2 := [(1, _), (0, _)]) (v2 := nI (k + 1)) h (by decide) rfl (nI_1 k) rfl dc_ST_numberOf_21 24 rfl ?_
        refine jl_goto h 2 (by decide) dc_ST_numberOf_24 ?_
        exact ih (k + 1) (by omega) (fun m hm => by
          by_cases e : m = k
          · subst e; exact c16
          · exact hne m (by omega))
      · skip
        refine jl_iload_n (i := 1) h rfl rfl dc_ST_numberOf_19 20 rfl ?_
        exact jl_zret h he rfl (by rw [← c16, st_num_at k (by omega)]; rfl) (rfl) dc_ST_numberOf_20
  refine jl_iconst (v := nI 0) h (by decide) dc_ST_numberOf_0 1 rfl ?_
  refine jl_istore_n (i := 1) (lc2 := [(1, _), (0, _)]) h rfl (by decide) rfl dc_ST_numberOf_1 2 rfl ?_
  exact loop 4 0 rfl (fun m hm => absurd hm (by omega))
theorem c_ST_append_no (hN : 3 ≤ N) (hS : st_ok K ad E n b) (q : Int32) (hq : st_num q = -1 ∨ n = 18) : jl_C l K sa yn_ST_append bc_ST_append 3 (some .boolean) 1 25 N ad [.ref (ad 1), .int q] E (some (.int 0)) E := by
  refine jl_enter (by decide) (Nat.le_of_ble_eq_true rfl) (fun x h he hr => ?_)
  obtain ⟨hST, hbases, hn, hb⟩ := id hS
  show jl_J x N ad 0 0 E 0 [(0, .ref (ad 1)), (1, .int q)] []
  have h0 : iI 0 = 0 := rfl
  refine jl_iload_n (i := 1) h rfl rfl dc_ST_append_0 1 rfl ?_
  refine jl_callS (As := [_]) (rest := []) h hr vs_ST_17 vt_ST_numberOf (fun l => c_ST_numberOf l q) (by first | decide | omega) (by first | decide | omega) rfl rfl (Nat.le_of_ble_eq_true rfl) dc_ST_append_1 (res := [_]) rfl 4 rfl ?_
  refine jl_istore_n (i := 2) (lc2 := [(2, _), (0, _), (1, _)]) h rfl (by decide) rfl dc_ST_append_4 5 rfl ?_
  refine jl_iload_n (i := 2) h rfl rfl dc_ST_append_5 6 rfl ?_
  refine jl_if_lt h 18 (by decide) dc_ST_append_6 9 rfl (fun c6 => ?_) (fun c6 => ?_)
  · skip
    skip
    refine jl_iconst (v := 0) h (by decide) dc_ST_append_18 19 rfl ?_
    exact jl_zret h he rfl (rfl) (rfl) dc_ST_append_19
  · skip
    have hn18 : n = 18 := by
      rcases hq with hq | hq
      · rw [hq] at c6; exact absurd (by decide) c6
      · exact hq
    subst hn18
    refine jl_aload_n (i := 0) h rfl rfl dc_ST_append_9 10 rfl ?_
    refine jl_getf h nm_c_ST 1 wl_ST_13 (by omega) (by decide) (by exact hST) (by rfl) dc_ST_append_10 13 rfl ?_
    refine jl_bipush (v := 18) h (by decide) dc_ST_append_13 15 rfl ?_
    refine jl_icmp_lt h 20 (by decide) dc_ST_append_15 18 rfl (fun c15 => absurd c15 (by decide)) (fun c15 => ?_)
    refine jl_iconst (v := 0) h (by decide) dc_ST_append_18 19 rfl ?_
    exact jl_zret h he rfl (rfl) (rfl) dc_ST_append_19
theorem c_ST_append_yes (hN : 3 ≤ N) (hS : st_ok K ad E n b) (q : Int32) {a : Nat} (ha : a < 4) (hq : st_num q = a) (hn18 : n < 18) : jl_C l K sa yn_ST_append bc_ST_append 3 (some .boolean) 1 25 N ad [.ref (ad 1), .int q] E (some (.int 1)) (st_app K ad E (n + 1) (va_up b n a)) := by
  refine jl_enter (by decide) (Nat.le_of_ble_eq_true rfl) (fun x h he hr => ?_)
  obtain ⟨hST, hbases, hn, hb⟩ := id hS
  show jl_J x N ad 0 0 E 0 [(0, .ref (ad 1)), (1, .int q)] []
  refine jl_iload_n (i := 1) h rfl rfl dc_ST_append_0 1 rfl ?_
  refine jl_callS (As := [_]) (rest := []) h hr vs_ST_17 vt_ST_numberOf (fun l => c_ST_numberOf l q) (by first | decide | omega) (by first | decide | omega) rfl rfl (Nat.le_of_ble_eq_true rfl) dc_ST_append_1 (res := [_]) rfl 4 rfl ?_
  rw [hq, iI_nat]
  refine jl_istore_n (i := 2) (lc2 := [(2, _), (0, _), (1, _)]) h rfl (by decide) rfl dc_ST_append_4 5 rfl ?_
  refine jl_iload_n (i := 2) h rfl rfl dc_ST_append_5 6 rfl ?_
  refine jl_if_lt h 18 (by decide) dc_ST_append_6 9 rfl (fun c6 => absurd c6 (nI_pos (by omega))) (fun c6 => ?_)
  refine jl_aload_n (i := 0) h rfl rfl dc_ST_append_9 10 rfl ?_
  refine jl_getf h nm_c_ST 1 wl_ST_13 (by omega) (by decide) (by exact hST) (by rfl) dc_ST_append_10 13 rfl ?_
  refine jl_bipush (v := nI 18) h (by decide) dc_ST_append_13 15 rfl ?_
  refine jl_icmp_lt h 20 (by decide) dc_ST_append_15 18 rfl (fun c15 => ?_) (fun c15 => absurd (nI_lt hn18 (by decide)) c15)
  refine jl_aload_n (i := 0) h rfl rfl dc_ST_append_20 21 rfl ?_
  refine jl_getf h nm_c_ST 0 wl_ST_9 (by omega) (by decide) (by exact hST) (by rfl) dc_ST_append_21 24 rfl ?_
  refine jl_aload_n (i := 0) h rfl rfl dc_ST_append_24 25 rfl ?_
  refine jl_getf h nm_c_ST 1 wl_ST_13 (by omega) (by decide) (by exact hST) (by rfl) dc_ST_append_25 28 rfl ?_
  refine jl_iload_n (i := 2) h rfl rfl dc_ST_append_28 29 rfl ?_
  refine jl_iast h (n) (by exact rfl) (by omega) (by exact hbases) (by exact hn18) (by first | decide | assumption) dc_ST_append_29 (by rw [st_upd]) 30 rfl ?_
  refine jl_aload_n (i := 0) h rfl rfl dc_ST_append_30 31 rfl ?_
  refine jl_dup h rfl dc_ST_append_31 32 rfl ?_
  refine jl_getf h nm_c_ST 1 wl_ST_13 (by omega) (by decide) (by exact hST) (by rfl) dc_ST_append_32 35 rfl ?_
  refine jl_iconst (v := 1) h (by decide) dc_ST_append_35 36 rfl ?_
  refine jl_iadd h dc_ST_append_36 37 rfl ?_
  rw [show nI n + 1 = nI (n + 1) by exact nI_1 n]
  refine jl_putf (fs2 := [_, _]) h nm_c_ST 1 wl_ST_13 (by omega) (by decide) rfl (by exact hST) (by rfl) (by rfl) (by exact Nat.le_of_ble_eq_true rfl) (by rfl) dc_ST_append_37 rfl 40 rfl ?_
  refine jl_iconst (v := 1) h (by decide) dc_ST_append_40 41 rfl ?_
  exact jl_zret h he rfl (rfl) (rfl) dc_ST_append_41
theorem c_ST_removeAll (hN : 3 ≤ N) (hS : st_ok K ad E n b) : jl_C l K sa yn_ST_removeAll bc_ST_removeAll 2 (some .int) 0 0 N ad [.ref (ad 1)] E (some (.int (nI n))) (va_up E 1 (.inr (1, [.ref (ad 2), .int (nI 0)]))) := by
  refine jl_enter (by decide) (Nat.le_of_ble_eq_true rfl) (fun x h he hr => ?_)
  obtain ⟨hST, hbases, hn, hb⟩ := id hS
  show jl_J x N ad 0 0 E 0 [(0, .ref (ad 1))] []
  refine jl_aload_n (i := 0) h rfl rfl dc_ST_removeAll_0 1 rfl ?_
  refine jl_getf h nm_c_ST 1 wl_ST_13 (by omega) (by decide) (by exact hST) (by rfl) dc_ST_removeAll_1 4 rfl ?_
  refine jl_istore_n (i := 1) (lc2 := [(1, _), (0, _)]) h rfl (by decide) rfl dc_ST_removeAll_4 5 rfl ?_
  refine jl_aload_n (i := 0) h rfl rfl dc_ST_removeAll_5 6 rfl ?_
  refine jl_iconst (v := 0) h (by decide) dc_ST_removeAll_6 7 rfl ?_
  refine jl_putf (fs2 := [_, _]) h nm_c_ST 1 wl_ST_13 (by omega) (by decide) rfl (by exact hST) (by rfl) (by rfl) (by exact Nat.le_of_ble_eq_true rfl) (by rfl) dc_ST_removeAll_7 rfl 10 rfl ?_
  refine jl_iload_n (i := 1) h rfl rfl dc_ST_removeAll_10 11 rfl ?_
  exact jl_zret h he rfl (rfl) (rfl) dc_ST_removeAll_11
theorem c_ST_spells (hN : 3 ≤ N) (hS : st_ok K ad E n b) {i j : Nat} (hij : i ≤ j) (hj : j < 18) : jl_C l K sa yn_ST_spells bc_ST_spells 5 (some .boolean) 0 0 N ad [.ref (ad 1), .int (nI i), .int (nI j), .ref (sa 2)] E (some (.int (st_bI (en_six b i j)))) E := by
  refine jl_enter (by decide) (Nat.le_of_ble_eq_true rfl) (fun x h he hr => ?_)
  obtain ⟨hST, hbases, hn, hb⟩ := id hS
  show jl_J x N ad 0 0 E 0 [(0, .ref (ad 1)), (1, .int (nI i)), (2, .int (nI j)), (3, .ref (sa 2))] []
  have loop : ∀ d k : Nat, k + d = 6 → j = i + 5 → (∀ m, m < k → nm_s0.getD (b (i + m)) 0 = nm_s2.getD m 0) → jl_J x N ad 0 0 E 15 [(4, .int (nI k)), (0, .ref (ad 1)), (1, .int (nI i)), (2, .int (nI j)), (3, .ref (sa 2))] [] := by
    intro d
    induction d with
    | zero =>
      intro k hk hj5 hne
      have hk : k = 6 := by omega
      subst hk
      refine jl_iload h rfl dc_ST_spells_15 17 rfl ?_
      refine jl_aload_n (i := 3) h rfl rfl dc_ST_spells_17 18 rfl ?_
      refine jl_tlen (v := nI 6) h (fun _ _ _ q => q.2.2.1) (by decide) dc_ST_spells_18 19 rfl ?_
      refine jl_icmp_ge h 50 (by decide) dc_ST_spells_19 22 rfl (fun c19 => ?_) (fun c19 => absurd (nI_le (Nat.le_refl 6) (by decide)) c19)
      refine jl_iconst (v := 1) h (by decide) dc_ST_spells_50 51 rfl ?_
      exact jl_zret h he rfl (by rw [en_six_yes hj5 hne]; rfl) (rfl) dc_ST_spells_51
    | succ d ih =>
      intro k hk hj5 hne
      have hbk := hb (i + k)
      refine jl_iload h rfl dc_ST_spells_15 17 rfl ?_
      refine jl_aload_n (i := 3) h rfl rfl dc_ST_spells_17 18 rfl ?_
      refine jl_tlen (v := nI 6) h (fun _ _ _ q => q.2.2.1) (by decide) dc_ST_spells_18 19 rfl ?_
      refine jl_icmp_ge h 50 (by decide) dc_ST_spells_19 22 rfl (fun c19 => absurd c19 (nI_ge (by omega) (by decide))) (fun c19 => ?_)
      refine jl_gets h (fun _ _ _ q => q.1) wl_ST_28 dc_ST_spells_22 25 rfl ?_
      refine jl_aload_n (i := 0) h rfl rfl dc_ST_spells_25 26 rfl ?_
      refine jl_getf h nm_c_ST 0 wl_ST_9 (by omega) (by decide) (by exact hST) (by rfl) dc_ST_spells_26 29 rfl ?_
      refine jl_iload_n (i := 1) h rfl rfl dc_ST_spells_29 30 rfl ?_
      refine jl_iload h rfl dc_ST_spells_30 32 rfl ?_
      refine jl_iadd h dc_ST_spells_32 33 rfl ?_
      rw [show nI i + nI k = nI (i + k) by exact nI_add i k]
      refine jl_iald (v := nI (b (i + k))) h (i + k) (by exact rfl) (by omega) (by exact hbases) (by exact by omega) (by first | decide | assumption) (by exact rfl) dc_ST_spells_33 34 rfl ?_
      refine jl_tcld (v := nm_s0.getD (b (i + k)) 0) h (fun _ _ _ q => q.1) (b (i + k)) (rfl) (by show _ < 4; omega) (by decide) (rfl) dc_ST_spells_34 35 rfl ?_
      refine jl_aload_n (i := 3) h rfl rfl dc_ST_spells_35 36 rfl ?_
      refine jl_iload h rfl dc_ST_spells_36 38 rfl ?_
      refine jl_tcld (v := nm_s2.getD k 0) h (fun _ _ _ q => q.2.2.1) (k) (rfl) (by show _ < 6; omega) (by decide) (rfl) dc_ST_spells_38 39 rfl ?_
      refine jl_icmp_eq h 44 (by decide) dc_ST_spells_39 42 rfl (fun c39 => ?_) (fun c39 => ?_)
      · skip
        refine jl_iinc (i := 4) (d := 1) (lc2 := [(4, _), (0, _), (1, _), (2, _), (3, _)]) (v2 := nI (k + 1)) h (by decide) rfl (nI_1 k) rfl dc_ST_spells_44 47 rfl ?_
        refine jl_goto h 15 (by decide) dc_ST_spells_47 ?_
        exact ih (k + 1) (by omega) hj5 (fun m hm => by
          by_cases e : m = k
          · subst e; exact c39
          · exact hne m (by omega))
      · skip
        refine jl_iconst (v := 0) h (by decide) dc_ST_spells_42 43 rfl ?_
        exact jl_zret h he rfl (by rw [en_six_no (show k < 6 by omega) c39]; rfl) (rfl) dc_ST_spells_43
  have hlen : nI j - nI i + 1 = nI (j - i + 1) := by rw [pk_sub hij, nI_1]
  refine jl_iload_n (i := 2) h rfl rfl dc_ST_spells_0 1 rfl ?_
  refine jl_iload_n (i := 1) h rfl rfl dc_ST_spells_1 2 rfl ?_
  refine jl_isub h dc_ST_spells_2 3 rfl ?_
  refine jl_iconst (v := 1) h (by decide) dc_ST_spells_3 4 rfl ?_
  refine jl_iadd h dc_ST_spells_4 5 rfl ?_
  rw [show nI j - nI i + 1 = nI (j - i + 1) by exact hlen]
  refine jl_aload_n (i := 3) h rfl rfl dc_ST_spells_5 6 rfl ?_
  refine jl_tlen (v := nI 6) h (fun _ _ _ q => q.2.2.1) (by decide) dc_ST_spells_6 7 rfl ?_
  refine jl_icmp_eq h 12 (by decide) dc_ST_spells_7 10 rfl (fun c7 => ?_) (fun c7 => ?_)
  · skip
    rw [nI_eq (by omega) (by decide)] at c7
    refine jl_iconst (v := nI 0) h (by decide) dc_ST_spells_12 13 rfl ?_
    refine jl_istore (i := 4) (lc2 := [(4, _), (0, _), (1, _), (2, _), (3, _)]) h (by decide) rfl dc_ST_spells_13 15 rfl ?_
    exact loop 6 0 rfl (by omega) (fun m hm => absurd hm (by omega))
  · skip
    rw [nI_eq (by omega) (by decide)] at c7
    refine jl_iconst (v := 0) h (by decide) dc_ST_spells_10 11 rfl ?_
    exact jl_zret h he rfl (by rw [en_six_len (by omega)]; rfl) (rfl) dc_ST_spells_11
end ST
end
section
/-! FoldedStrand$Loops: the energies, and contracts. -/
abbrev lp_wk (b : Nat → Nat) (i j : Nat) (m : Int) : Int := if 2 ≤ en_kd (b i) (b j) then m else 0
def lp_hpT : List Int := [54, 56, 57, 54, 60, 55]
def lp_hp (b : Nat → Nat) (i j : Nat) : Int := if en_six b i j = true then 26 else lp_hpT.getD (j - i - 4) 64 + lp_wk b i j 5
def lp_stT : List Int := [-24, -33, -21, -14, -21, -21, -33, -34, -25, -15, -22, -24, -21, -25, 13, -5, -14, -13, -14, -15, -5, 3, -6, -10, -21, -22, -14, -6, -11, -9, -21, -24, -13, -10, -9, -13]
def lp_stk (x y : Int) : Int := lp_stT.getD (x.toNat * 6 + y.toNat) 0
def lp_bul (u : Nat) (s : Int) : Int := if u = 0 then s else if u = 1 then 38 + s else if u = 2 then 28 else if u = 3 then 32 else 20 + 4 * u
def lp_inT : List Int := [5, 16, 11, 20]
def lp_dif (x y : Nat) : Nat := (x - y) + (y - x)
def lp_int (x y : Nat) : Int := lp_inT.getD (x + y - 2) (15 + ((x + y : Nat) : Int)) + (if 6 * lp_dif x y < 30 then ((6 * lp_dif x y : Nat) : Int) else 30)
def lp_w1 (b : Nat → Nat) (i j k l : Nat) : Int := if k - i - 1 = 0 ∨ j - l - 1 = 0 then lp_bul (k - i - 1 + (j - l - 1)) (lp_stk (en_kd (b i) (b j)) (en_kd (b l) (b k))) else lp_int (k - i - 1) (j - l - 1) + lp_wk b i j 7 + lp_wk b k l 7
theorem en_kd_sym (a c : Nat) (ha : a < 4) (hc : c < 4) (h : 0 ≤ en_kd a c) : 0 ≤ en_kd c a := by
  have : ∀ a, a < 4 → ∀ c, c < 4 → 0 ≤ en_kd a c → 0 ≤ en_kd c a := by decide +kernel
  exact this a ha c hc h
theorem iI_sub (a b : Int) : iI a - iI b = iI (a - b) := (Int32.ofInt_sub a b).symm
theorem iI_mul (a b : Int) : iI a * iI b = iI (a * b) := (Int32.ofInt_mul a b).symm
theorem lp_h3 : ∀ k, k < 6 → nm_s3.getD k 0 = iI (lp_hpT.getD k 64) := by decide +kernel
theorem lp_h4 : ∀ p : Nat, p < 6 → ∀ q : Nat, q < 6 → nm_s4.getD (p * 6 + q) 0 = iI (lp_stk p q) := by decide +kernel
theorem lp_h5 (k : Nat) (hk : k < 4) (d : Int) : nm_s5.getD k 0 = iI (lp_inT.getD k d) := by
  match k, hk with
  | 0, _ => rfl
  | 1, _ => rfl
  | 2, _ => rfl
  | 3, _ => rfl
def lo_ok (ad : Nat → Nat) (E : Nat → va_E) : Prop := E 3 = .inr (2, [.ref (ad 1)])
abbrev bc_LO_hairpin : ByteArray := prog_3_method_2_code
abbrev yn_LO_hairpin : MethodName := ⟨"FoldedStrand$Loops", "hairpin", "(II)I"⟩
theorem wl_LO_7 : Cond.fieldLink "FoldedStrand$Loops" 7 "FoldedStrand$Loops" "strand" "LFoldedStrand$Strand;" ∈ jl_T := jl_T_of 39 (by decide +kernel) (by decide +kernel)
theorem wl_LO_13 : Cond.fieldLink "FoldedStrand$Loops" 13 "FoldedStrand$Loops" "FIRM_HAIRPIN" "[C" ∈ jl_T := jl_T_of 245 (by decide +kernel) (by decide +kernel)
theorem vs_LO_17 : jl_v "FoldedStrand$Loops" 17 yn_ST_spells bc_ST_spells 5 (some .boolean) 3 := ⟨jl_T_of 250 (by decide +kernel) (by decide +kernel), jl_T_of 2 (by decide +kernel) (by decide +kernel), jl_T_of 247 (by decide +kernel) (by decide +kernel), by decide +kernel, by decide +kernel, by decide +kernel⟩
theorem vi_ST_spells : Cond.instanceMethod yn_ST_spells ∈ jl_T := jl_T_of 248 (by decide +kernel) (by decide +kernel)
theorem vx_ST_spells : Cond.selects "FoldedStrand$Strand" yn_ST_spells yn_ST_spells ∈ jl_T := jl_T_of 249 (by decide +kernel) (by decide +kernel)
theorem wl_LO_23 : Cond.fieldLink "FoldedStrand$Loops" 23 "FoldedStrand$Loops" "HAIRPINS" "[I" ∈ jl_T := jl_T_of 251 (by decide +kernel) (by decide +kernel)
theorem vs_LO_27 : jl_v "FoldedStrand$Loops" 27 yn_ST_ifWeak bc_ST_ifWeak 4 (some .int) 3 := ⟨jl_T_of 256 (by decide +kernel) (by decide +kernel), jl_T_of 2 (by decide +kernel) (by decide +kernel), jl_T_of 253 (by decide +kernel) (by decide +kernel), by decide +kernel, by decide +kernel, by decide +kernel⟩
theorem vi_ST_ifWeak : Cond.instanceMethod yn_ST_ifWeak ∈ jl_T := jl_T_of 254 (by decide +kernel) (by decide +kernel)
theorem vx_ST_ifWeak : Cond.selects "FoldedStrand$Strand" yn_ST_ifWeak yn_ST_ifWeak ∈ jl_T := jl_T_of 255 (by decide +kernel) (by decide +kernel)
theorem dc_LO_hairpin_0 : decode bc_LO_hairpin 0 = .ok (.aload_n 0, 1) := by decide +kernel
theorem dc_LO_hairpin_1 : decode bc_LO_hairpin 1 = .ok (.getfield 7, 3) := by decide +kernel
theorem dc_LO_hairpin_4 : decode bc_LO_hairpin 4 = .ok (.iload_n 1, 1) := by decide +kernel
theorem dc_LO_hairpin_5 : decode bc_LO_hairpin 5 = .ok (.iload_n 2, 1) := by decide +kernel
theorem dc_LO_hairpin_6 : decode bc_LO_hairpin 6 = .ok (.getstatic 13, 3) := by decide +kernel
theorem dc_LO_hairpin_9 : decode bc_LO_hairpin 9 = .ok (.invokevirtual 17, 3) := by decide +kernel
theorem dc_LO_hairpin_12 : decode bc_LO_hairpin 12 = .ok (.ifCond .eq 6, 3) := by decide +kernel
theorem dc_LO_hairpin_15 : decode bc_LO_hairpin 15 = .ok (.bipush 26, 2) := by decide +kernel
theorem dc_LO_hairpin_17 : decode bc_LO_hairpin 17 = .ok (.ireturn, 1) := by decide +kernel
theorem dc_LO_hairpin_18 : decode bc_LO_hairpin 18 = .ok (.iload_n 2, 1) := by decide +kernel
theorem dc_LO_hairpin_19 : decode bc_LO_hairpin 19 = .ok (.iload_n 1, 1) := by decide +kernel
theorem dc_LO_hairpin_20 : decode bc_LO_hairpin 20 = .ok (.isub, 1) := by decide +kernel
theorem dc_LO_hairpin_21 : decode bc_LO_hairpin 21 = .ok (.iconst 1, 1) := by decide +kernel
theorem dc_LO_hairpin_22 : decode bc_LO_hairpin 22 = .ok (.isub, 1) := by decide +kernel
theorem dc_LO_hairpin_23 : decode bc_LO_hairpin 23 = .ok (.iconst 3, 1) := by decide +kernel
theorem dc_LO_hairpin_24 : decode bc_LO_hairpin 24 = .ok (.isub, 1) := by decide +kernel
theorem dc_LO_hairpin_25 : decode bc_LO_hairpin 25 = .ok (.istore_n 3, 1) := by decide +kernel
theorem dc_LO_hairpin_26 : decode bc_LO_hairpin 26 = .ok (.iload_n 3, 1) := by decide +kernel
theorem dc_LO_hairpin_27 : decode bc_LO_hairpin 27 = .ok (.ifCond .lt 19, 3) := by decide +kernel
theorem dc_LO_hairpin_30 : decode bc_LO_hairpin 30 = .ok (.iload_n 3, 1) := by decide +kernel
theorem dc_LO_hairpin_31 : decode bc_LO_hairpin 31 = .ok (.getstatic 23, 3) := by decide +kernel
theorem dc_LO_hairpin_34 : decode bc_LO_hairpin 34 = .ok (.arraylength, 1) := by decide +kernel
theorem dc_LO_hairpin_35 : decode bc_LO_hairpin 35 = .ok (.if_icmp .ge 11, 3) := by decide +kernel
theorem dc_LO_hairpin_38 : decode bc_LO_hairpin 38 = .ok (.getstatic 23, 3) := by decide +kernel
theorem dc_LO_hairpin_41 : decode bc_LO_hairpin 41 = .ok (.iload_n 3, 1) := by decide +kernel
theorem dc_LO_hairpin_42 : decode bc_LO_hairpin 42 = .ok (.iaload, 1) := by decide +kernel
theorem dc_LO_hairpin_43 : decode bc_LO_hairpin 43 = .ok (.goto 5, 3) := by decide +kernel
theorem dc_LO_hairpin_46 : decode bc_LO_hairpin 46 = .ok (.bipush 64, 2) := by decide +kernel
theorem dc_LO_hairpin_48 : decode bc_LO_hairpin 48 = .ok (.istore 4, 2) := by decide +kernel
theorem dc_LO_hairpin_50 : decode bc_LO_hairpin 50 = .ok (.iload 4, 2) := by decide +kernel
theorem dc_LO_hairpin_52 : decode bc_LO_hairpin 52 = .ok (.aload_n 0, 1) := by decide +kernel
theorem dc_LO_hairpin_53 : decode bc_LO_hairpin 53 = .ok (.getfield 7, 3) := by decide +kernel
theorem dc_LO_hairpin_56 : decode bc_LO_hairpin 56 = .ok (.iload_n 1, 1) := by decide +kernel
theorem dc_LO_hairpin_57 : decode bc_LO_hairpin 57 = .ok (.iload_n 2, 1) := by decide +kernel
theorem dc_LO_hairpin_58 : decode bc_LO_hairpin 58 = .ok (.iconst 5, 1) := by decide +kernel
theorem dc_LO_hairpin_59 : decode bc_LO_hairpin 59 = .ok (.invokevirtual 27, 3) := by decide +kernel
theorem dc_LO_hairpin_62 : decode bc_LO_hairpin 62 = .ok (.iadd, 1) := by decide +kernel
theorem dc_LO_hairpin_63 : decode bc_LO_hairpin 63 = .ok (.ireturn, 1) := by decide +kernel
abbrev bc_LO_multiClosing : ByteArray := prog_3_method_4_code
abbrev yn_LO_multiClosing : MethodName := ⟨"FoldedStrand$Loops", "multiClosing", "(II)I"⟩
theorem dc_LO_multiClosing_0 : decode bc_LO_multiClosing 0 = .ok (.bipush 38, 2) := by decide +kernel
theorem dc_LO_multiClosing_2 : decode bc_LO_multiClosing 2 = .ok (.aload_n 0, 1) := by decide +kernel
theorem dc_LO_multiClosing_3 : decode bc_LO_multiClosing 3 = .ok (.getfield 7, 3) := by decide +kernel
theorem dc_LO_multiClosing_6 : decode bc_LO_multiClosing 6 = .ok (.iload_n 1, 1) := by decide +kernel
theorem dc_LO_multiClosing_7 : decode bc_LO_multiClosing 7 = .ok (.iload_n 2, 1) := by decide +kernel
theorem dc_LO_multiClosing_8 : decode bc_LO_multiClosing 8 = .ok (.iconst 5, 1) := by decide +kernel
theorem dc_LO_multiClosing_9 : decode bc_LO_multiClosing 9 = .ok (.invokevirtual 27, 3) := by decide +kernel
theorem dc_LO_multiClosing_12 : decode bc_LO_multiClosing 12 = .ok (.iadd, 1) := by decide +kernel
theorem dc_LO_multiClosing_13 : decode bc_LO_multiClosing 13 = .ok (.ireturn, 1) := by decide +kernel
abbrev bc_LO_multiBranch : ByteArray := prog_3_method_5_code
abbrev yn_LO_multiBranch : MethodName := ⟨"FoldedStrand$Loops", "multiBranch", "(II)I"⟩
theorem dc_LO_multiBranch_0 : decode bc_LO_multiBranch 0 = .ok (.iconst 4, 1) := by decide +kernel
theorem dc_LO_multiBranch_1 : decode bc_LO_multiBranch 1 = .ok (.aload_n 0, 1) := by decide +kernel
theorem dc_LO_multiBranch_2 : decode bc_LO_multiBranch 2 = .ok (.getfield 7, 3) := by decide +kernel
theorem dc_LO_multiBranch_5 : decode bc_LO_multiBranch 5 = .ok (.iload_n 1, 1) := by decide +kernel
theorem dc_LO_multiBranch_6 : decode bc_LO_multiBranch 6 = .ok (.iload_n 2, 1) := by decide +kernel
theorem dc_LO_multiBranch_7 : decode bc_LO_multiBranch 7 = .ok (.iconst 5, 1) := by decide +kernel
theorem dc_LO_multiBranch_8 : decode bc_LO_multiBranch 8 = .ok (.invokevirtual 27, 3) := by decide +kernel
theorem dc_LO_multiBranch_11 : decode bc_LO_multiBranch 11 = .ok (.iadd, 1) := by decide +kernel
theorem dc_LO_multiBranch_12 : decode bc_LO_multiBranch 12 = .ok (.ireturn, 1) := by decide +kernel
abbrev bc_LO_stack : ByteArray := prog_3_method_6_code
abbrev yn_LO_stack : MethodName := ⟨"FoldedStrand$Loops", "stack", "(IIII)I"⟩
theorem wl_LO_42 : Cond.fieldLink "FoldedStrand$Loops" 42 "FoldedStrand$Loops" "STACKS" "[I" ∈ jl_T := jl_T_of 276 (by decide +kernel) (by decide +kernel)
theorem vs_LO_45 : jl_v "FoldedStrand$Loops" 45 yn_ST_kind bc_ST_kind 3 (some .int) 2 := ⟨jl_T_of 234 (by decide +kernel) (by decide +kernel), jl_T_of 2 (by decide +kernel) (by decide +kernel), jl_T_of 278 (by decide +kernel) (by decide +kernel), by decide +kernel, by decide +kernel, by decide +kernel⟩
theorem dc_LO_stack_0 : decode bc_LO_stack 0 = .ok (.getstatic 42, 3) := by decide +kernel
theorem dc_LO_stack_3 : decode bc_LO_stack 3 = .ok (.aload_n 0, 1) := by decide +kernel
theorem dc_LO_stack_4 : decode bc_LO_stack 4 = .ok (.getfield 7, 3) := by decide +kernel
theorem dc_LO_stack_7 : decode bc_LO_stack 7 = .ok (.iload_n 1, 1) := by decide +kernel
theorem dc_LO_stack_8 : decode bc_LO_stack 8 = .ok (.iload_n 2, 1) := by decide +kernel
theorem dc_LO_stack_9 : decode bc_LO_stack 9 = .ok (.invokevirtual 45, 3) := by decide +kernel
theorem dc_LO_stack_12 : decode bc_LO_stack 12 = .ok (.bipush 6, 2) := by decide +kernel
theorem dc_LO_stack_14 : decode bc_LO_stack 14 = .ok (.imul, 1) := by decide +kernel
theorem dc_LO_stack_15 : decode bc_LO_stack 15 = .ok (.aload_n 0, 1) := by decide +kernel
theorem dc_LO_stack_16 : decode bc_LO_stack 16 = .ok (.getfield 7, 3) := by decide +kernel
theorem dc_LO_stack_19 : decode bc_LO_stack 19 = .ok (.iload 4, 2) := by decide +kernel
theorem dc_LO_stack_21 : decode bc_LO_stack 21 = .ok (.iload_n 3, 1) := by decide +kernel
theorem dc_LO_stack_22 : decode bc_LO_stack 22 = .ok (.invokevirtual 45, 3) := by decide +kernel
theorem dc_LO_stack_25 : decode bc_LO_stack 25 = .ok (.iadd, 1) := by decide +kernel
theorem dc_LO_stack_26 : decode bc_LO_stack 26 = .ok (.iaload, 1) := by decide +kernel
theorem dc_LO_stack_27 : decode bc_LO_stack 27 = .ok (.ireturn, 1) := by decide +kernel
abbrev bc_LO_stackOrBulge : ByteArray := prog_3_method_7_code
abbrev yn_LO_stackOrBulge : MethodName := ⟨"FoldedStrand$Loops", "stackOrBulge", "(II)I"⟩
theorem dc_LO_stackOrBulge_0 : decode bc_LO_stackOrBulge 0 = .ok (.iload_n 0, 1) := by decide +kernel
theorem dc_LO_stackOrBulge_1 : decode bc_LO_stackOrBulge 1 = .ok (.tableswitch 44 0 3 #[31, 33, 38, 41], 31) := by decide +kernel
theorem dc_LO_stackOrBulge_32 : decode bc_LO_stackOrBulge 32 = .ok (.iload_n 1, 1) := by decide +kernel
theorem dc_LO_stackOrBulge_33 : decode bc_LO_stackOrBulge 33 = .ok (.ireturn, 1) := by decide +kernel
theorem dc_LO_stackOrBulge_34 : decode bc_LO_stackOrBulge 34 = .ok (.bipush 38, 2) := by decide +kernel
theorem dc_LO_stackOrBulge_36 : decode bc_LO_stackOrBulge 36 = .ok (.iload_n 1, 1) := by decide +kernel
theorem dc_LO_stackOrBulge_37 : decode bc_LO_stackOrBulge 37 = .ok (.iadd, 1) := by decide +kernel
theorem dc_LO_stackOrBulge_38 : decode bc_LO_stackOrBulge 38 = .ok (.ireturn, 1) := by decide +kernel
theorem dc_LO_stackOrBulge_39 : decode bc_LO_stackOrBulge 39 = .ok (.bipush 28, 2) := by decide +kernel
theorem dc_LO_stackOrBulge_41 : decode bc_LO_stackOrBulge 41 = .ok (.ireturn, 1) := by decide +kernel
theorem dc_LO_stackOrBulge_42 : decode bc_LO_stackOrBulge 42 = .ok (.bipush 32, 2) := by decide +kernel
theorem dc_LO_stackOrBulge_44 : decode bc_LO_stackOrBulge 44 = .ok (.ireturn, 1) := by decide +kernel
theorem dc_LO_stackOrBulge_45 : decode bc_LO_stackOrBulge 45 = .ok (.bipush 20, 2) := by decide +kernel
theorem dc_LO_stackOrBulge_47 : decode bc_LO_stackOrBulge 47 = .ok (.iconst 4, 1) := by decide +kernel
theorem dc_LO_stackOrBulge_48 : decode bc_LO_stackOrBulge 48 = .ok (.iload_n 0, 1) := by decide +kernel
theorem dc_LO_stackOrBulge_49 : decode bc_LO_stackOrBulge 49 = .ok (.imul, 1) := by decide +kernel
theorem dc_LO_stackOrBulge_50 : decode bc_LO_stackOrBulge 50 = .ok (.iadd, 1) := by decide +kernel
theorem dc_LO_stackOrBulge_51 : decode bc_LO_stackOrBulge 51 = .ok (.ireturn, 1) := by decide +kernel
abbrev bc_LO_interior : ByteArray := prog_3_method_8_code
abbrev yn_LO_interior : MethodName := ⟨"FoldedStrand$Loops", "interior", "(II)I"⟩
theorem wl_LO_48 : Cond.fieldLink "FoldedStrand$Loops" 48 "FoldedStrand$Loops" "INTERIORS" "[I" ∈ jl_T := jl_T_of 285 (by decide +kernel) (by decide +kernel)
theorem wm_LO_51 : Cond.methodLink "FoldedStrand$Loops" 51 Lib.Math.abs.name ∈ jl_T ∧ Cond.static Lib.Math.abs.name ∈ jl_T ∧ Cond.initialized "java/lang/Math" ∈ jl_T ∧ Cond.code Lib.Math.abs.name Lib.Math.abs.code 1 (some .int) ∈ jl_T := ⟨jl_T_of 287 (by decide +kernel) (by decide +kernel), jl_T_of 288 (by decide +kernel) (by decide +kernel), jl_T_of 10 (by decide +kernel) (by decide +kernel), jl_T_of 289 (by decide +kernel) (by decide +kernel)⟩
theorem wm_LO_57 : Cond.methodLink "FoldedStrand$Loops" 57 Lib.Math.min.name ∈ jl_T ∧ Cond.static Lib.Math.min.name ∈ jl_T ∧ Cond.initialized "java/lang/Math" ∈ jl_T ∧ Cond.code Lib.Math.min.name Lib.Math.min.code 2 (some .int) ∈ jl_T := ⟨jl_T_of 290 (by decide +kernel) (by decide +kernel), jl_T_of 266 (by decide +kernel) (by decide +kernel), jl_T_of 10 (by decide +kernel) (by decide +kernel), jl_T_of 267 (by decide +kernel) (by decide +kernel)⟩
theorem dc_LO_interior_0 : decode bc_LO_interior 0 = .ok (.iload_n 0, 1) := by decide +kernel
theorem dc_LO_interior_1 : decode bc_LO_interior 1 = .ok (.iload_n 1, 1) := by decide +kernel
theorem dc_LO_interior_2 : decode bc_LO_interior 2 = .ok (.iadd, 1) := by decide +kernel
theorem dc_LO_interior_3 : decode bc_LO_interior 3 = .ok (.istore_n 2, 1) := by decide +kernel
theorem dc_LO_interior_4 : decode bc_LO_interior 4 = .ok (.iload_n 2, 1) := by decide +kernel
theorem dc_LO_interior_5 : decode bc_LO_interior 5 = .ok (.iconst 2, 1) := by decide +kernel
theorem dc_LO_interior_6 : decode bc_LO_interior 6 = .ok (.isub, 1) := by decide +kernel
theorem dc_LO_interior_7 : decode bc_LO_interior 7 = .ok (.istore_n 3, 1) := by decide +kernel
theorem dc_LO_interior_8 : decode bc_LO_interior 8 = .ok (.iload_n 3, 1) := by decide +kernel
theorem dc_LO_interior_9 : decode bc_LO_interior 9 = .ok (.ifCond .lt 19, 3) := by decide +kernel
theorem dc_LO_interior_12 : decode bc_LO_interior 12 = .ok (.iload_n 3, 1) := by decide +kernel
theorem dc_LO_interior_13 : decode bc_LO_interior 13 = .ok (.getstatic 48, 3) := by decide +kernel
theorem dc_LO_interior_16 : decode bc_LO_interior 16 = .ok (.arraylength, 1) := by decide +kernel
theorem dc_LO_interior_17 : decode bc_LO_interior 17 = .ok (.if_icmp .ge 11, 3) := by decide +kernel
theorem dc_LO_interior_20 : decode bc_LO_interior 20 = .ok (.getstatic 48, 3) := by decide +kernel
theorem dc_LO_interior_23 : decode bc_LO_interior 23 = .ok (.iload_n 3, 1) := by decide +kernel
theorem dc_LO_interior_24 : decode bc_LO_interior 24 = .ok (.iaload, 1) := by decide +kernel
theorem dc_LO_interior_25 : decode bc_LO_interior 25 = .ok (.goto 7, 3) := by decide +kernel
theorem dc_LO_interior_28 : decode bc_LO_interior 28 = .ok (.bipush 15, 2) := by decide +kernel
theorem dc_LO_interior_30 : decode bc_LO_interior 30 = .ok (.iload_n 2, 1) := by decide +kernel
theorem dc_LO_interior_31 : decode bc_LO_interior 31 = .ok (.iadd, 1) := by decide +kernel
theorem dc_LO_interior_32 : decode bc_LO_interior 32 = .ok (.istore 4, 2) := by decide +kernel
theorem dc_LO_interior_34 : decode bc_LO_interior 34 = .ok (.iload 4, 2) := by decide +kernel
theorem dc_LO_interior_36 : decode bc_LO_interior 36 = .ok (.bipush 30, 2) := by decide +kernel
theorem dc_LO_interior_38 : decode bc_LO_interior 38 = .ok (.bipush 6, 2) := by decide +kernel
theorem dc_LO_interior_40 : decode bc_LO_interior 40 = .ok (.iload_n 0, 1) := by decide +kernel
theorem dc_LO_interior_41 : decode bc_LO_interior 41 = .ok (.iload_n 1, 1) := by decide +kernel
theorem dc_LO_interior_42 : decode bc_LO_interior 42 = .ok (.isub, 1) := by decide +kernel
theorem dc_LO_interior_43 : decode bc_LO_interior 43 = .ok (.invokestatic 51, 3) := by decide +kernel
theorem dc_LO_interior_46 : decode bc_LO_interior 46 = .ok (.imul, 1) := by decide +kernel
theorem dc_LO_interior_47 : decode bc_LO_interior 47 = .ok (.invokestatic 57, 3) := by decide +kernel
theorem dc_LO_interior_50 : decode bc_LO_interior 50 = .ok (.iadd, 1) := by decide +kernel
theorem dc_LO_interior_51 : decode bc_LO_interior 51 = .ok (.ireturn, 1) := by decide +kernel
abbrev bc_LO_withOne : ByteArray := prog_3_method_3_code
abbrev yn_LO_withOne : MethodName := ⟨"FoldedStrand$Loops", "withOne", "(IIII)I"⟩
theorem vs_LO_31 : jl_v "FoldedStrand$Loops" 31 yn_LO_stack bc_LO_stack 5 (some .int) 4 := ⟨jl_T_of 275 (by decide +kernel) (by decide +kernel), jl_T_of 3 (by decide +kernel) (by decide +kernel), jl_T_of 272 (by decide +kernel) (by decide +kernel), by decide +kernel, by decide +kernel, by decide +kernel⟩
theorem vi_LO_stack : Cond.instanceMethod yn_LO_stack ∈ jl_T := jl_T_of 274 (by decide +kernel) (by decide +kernel)
theorem vx_LO_stack : Cond.selects "FoldedStrand$Loops" yn_LO_stack yn_LO_stack ∈ jl_T := jl_T_sel 1 (by decide +kernel) (by decide +kernel)
theorem vs_LO_35 : jl_v "FoldedStrand$Loops" 35 yn_LO_stackOrBulge bc_LO_stackOrBulge 2 (some .int) 2 := ⟨jl_T_of 281 (by decide +kernel) (by decide +kernel), jl_T_of 3 (by decide +kernel) (by decide +kernel), jl_T_of 279 (by decide +kernel) (by decide +kernel), by decide +kernel, by decide +kernel, by decide +kernel⟩
theorem vt_LO_stackOrBulge : Cond.static yn_LO_stackOrBulge ∈ jl_T := jl_T_of 280 (by decide +kernel) (by decide +kernel)
theorem vs_LO_39 : jl_v "FoldedStrand$Loops" 39 yn_LO_interior bc_LO_interior 5 (some .int) 2 := ⟨jl_T_of 284 (by decide +kernel) (by decide +kernel), jl_T_of 3 (by decide +kernel) (by decide +kernel), jl_T_of 282 (by decide +kernel) (by decide +kernel), by decide +kernel, by decide +kernel, by decide +kernel⟩
theorem vt_LO_interior : Cond.static yn_LO_interior ∈ jl_T := jl_T_of 283 (by decide +kernel) (by decide +kernel)
theorem dc_LO_withOne_0 : decode bc_LO_withOne 0 = .ok (.iload_n 3, 1) := by decide +kernel
theorem dc_LO_withOne_1 : decode bc_LO_withOne 1 = .ok (.iload_n 1, 1) := by decide +kernel
theorem dc_LO_withOne_2 : decode bc_LO_withOne 2 = .ok (.isub, 1) := by decide +kernel
theorem dc_LO_withOne_3 : decode bc_LO_withOne 3 = .ok (.iconst 1, 1) := by decide +kernel
theorem dc_LO_withOne_4 : decode bc_LO_withOne 4 = .ok (.isub, 1) := by decide +kernel
theorem dc_LO_withOne_5 : decode bc_LO_withOne 5 = .ok (.istore 5, 2) := by decide +kernel
theorem dc_LO_withOne_7 : decode bc_LO_withOne 7 = .ok (.iload_n 2, 1) := by decide +kernel
theorem dc_LO_withOne_8 : decode bc_LO_withOne 8 = .ok (.iload 4, 2) := by decide +kernel
theorem dc_LO_withOne_10 : decode bc_LO_withOne 10 = .ok (.isub, 1) := by decide +kernel
theorem dc_LO_withOne_11 : decode bc_LO_withOne 11 = .ok (.iconst 1, 1) := by decide +kernel
theorem dc_LO_withOne_12 : decode bc_LO_withOne 12 = .ok (.isub, 1) := by decide +kernel
theorem dc_LO_withOne_13 : decode bc_LO_withOne 13 = .ok (.istore 6, 2) := by decide +kernel
theorem dc_LO_withOne_15 : decode bc_LO_withOne 15 = .ok (.iload 5, 2) := by decide +kernel
theorem dc_LO_withOne_17 : decode bc_LO_withOne 17 = .ok (.ifCond .eq 8, 3) := by decide +kernel
theorem dc_LO_withOne_20 : decode bc_LO_withOne 20 = .ok (.iload 6, 2) := by decide +kernel
theorem dc_LO_withOne_22 : decode bc_LO_withOne 22 = .ok (.ifCond .ne 21, 3) := by decide +kernel
theorem dc_LO_withOne_25 : decode bc_LO_withOne 25 = .ok (.iload 5, 2) := by decide +kernel
theorem dc_LO_withOne_27 : decode bc_LO_withOne 27 = .ok (.iload 6, 2) := by decide +kernel
theorem dc_LO_withOne_29 : decode bc_LO_withOne 29 = .ok (.iadd, 1) := by decide +kernel
theorem dc_LO_withOne_30 : decode bc_LO_withOne 30 = .ok (.aload_n 0, 1) := by decide +kernel
theorem dc_LO_withOne_31 : decode bc_LO_withOne 31 = .ok (.iload_n 1, 1) := by decide +kernel
theorem dc_LO_withOne_32 : decode bc_LO_withOne 32 = .ok (.iload_n 2, 1) := by decide +kernel
theorem dc_LO_withOne_33 : decode bc_LO_withOne 33 = .ok (.iload_n 3, 1) := by decide +kernel
theorem dc_LO_withOne_34 : decode bc_LO_withOne 34 = .ok (.iload 4, 2) := by decide +kernel
theorem dc_LO_withOne_36 : decode bc_LO_withOne 36 = .ok (.invokevirtual 31, 3) := by decide +kernel
theorem dc_LO_withOne_39 : decode bc_LO_withOne 39 = .ok (.invokestatic 35, 3) := by decide +kernel
theorem dc_LO_withOne_42 : decode bc_LO_withOne 42 = .ok (.ireturn, 1) := by decide +kernel
theorem dc_LO_withOne_43 : decode bc_LO_withOne 43 = .ok (.iload 5, 2) := by decide +kernel
theorem dc_LO_withOne_45 : decode bc_LO_withOne 45 = .ok (.iload 6, 2) := by decide +kernel
theorem dc_LO_withOne_47 : decode bc_LO_withOne 47 = .ok (.invokestatic 39, 3) := by decide +kernel
theorem dc_LO_withOne_50 : decode bc_LO_withOne 50 = .ok (.aload_n 0, 1) := by decide +kernel
theorem dc_LO_withOne_51 : decode bc_LO_withOne 51 = .ok (.getfield 7, 3) := by decide +kernel
theorem dc_LO_withOne_54 : decode bc_LO_withOne 54 = .ok (.iload_n 1, 1) := by decide +kernel
theorem dc_LO_withOne_55 : decode bc_LO_withOne 55 = .ok (.iload_n 2, 1) := by decide +kernel
theorem dc_LO_withOne_56 : decode bc_LO_withOne 56 = .ok (.bipush 7, 2) := by decide +kernel
theorem dc_LO_withOne_58 : decode bc_LO_withOne 58 = .ok (.invokevirtual 27, 3) := by decide +kernel
theorem dc_LO_withOne_61 : decode bc_LO_withOne 61 = .ok (.iadd, 1) := by decide +kernel
theorem dc_LO_withOne_62 : decode bc_LO_withOne 62 = .ok (.aload_n 0, 1) := by decide +kernel
theorem dc_LO_withOne_63 : decode bc_LO_withOne 63 = .ok (.getfield 7, 3) := by decide +kernel
theorem dc_LO_withOne_66 : decode bc_LO_withOne 66 = .ok (.iload_n 3, 1) := by decide +kernel
theorem dc_LO_withOne_67 : decode bc_LO_withOne 67 = .ok (.iload 4, 2) := by decide +kernel
theorem dc_LO_withOne_69 : decode bc_LO_withOne 69 = .ok (.bipush 7, 2) := by decide +kernel
theorem dc_LO_withOne_71 : decode bc_LO_withOne 71 = .ok (.invokevirtual 27, 3) := by decide +kernel
theorem dc_LO_withOne_74 : decode bc_LO_withOne 74 = .ok (.iadd, 1) := by decide +kernel
theorem dc_LO_withOne_75 : decode bc_LO_withOne 75 = .ok (.ireturn, 1) := by decide +kernel
section LO
variable (l : Launch) {K : Nat → ClassId} {sa : Nat → Nat} {N : Nat} {ad : Nat → Nat} {E : Nat → va_E} {n : Nat} {b : Nat → Nat}
theorem c_LO_hairpin (hN : 4 ≤ N) (hS : st_ok K ad E n b) (hLO : lo_ok ad E) {i j : Nat} (hij : i + 4 ≤ j) (hj : j < 18) : jl_C l K sa yn_LO_hairpin bc_LO_hairpin 5 (some .int) 2 60 N ad [.ref (ad 3), .int (nI i), .int (nI j)] E (some (.int (iI (lp_hp b i j)))) E := by
  refine jl_enter (by decide) (Nat.le_of_ble_eq_true rfl) (fun x h he hr => ?_)
  obtain ⟨hST, hbases, hn, hb⟩ := id hS
  unfold lo_ok at hLO
  show jl_J x N ad 0 0 E 0 [(0, .ref (ad 3)), (1, .int (nI i)), (2, .int (nI j))] []
  have hrow : nI j - nI i - 1 - 3 = nI (j - i - 4) := by
    rw [pk_sub (by omega), show (1 : Int32) = nI 1 from rfl, pk_sub (by omega), show (3 : Int32) = nI 3 from rfl, pk_sub (by omega)]
    congr 1
  cases hs : en_six b i j with
  | true =>
    refine jl_aload_n (i := 0) h rfl rfl dc_LO_hairpin_0 1 rfl ?_
    refine jl_getf h nm_c_LO 0 wl_LO_7 (by omega) (by decide) (by exact hLO) (by rfl) dc_LO_hairpin_1 4 rfl ?_
    refine jl_iload_n (i := 1) h rfl rfl dc_LO_hairpin_4 5 rfl ?_
    refine jl_iload_n (i := 2) h rfl rfl dc_LO_hairpin_5 6 rfl ?_
    refine jl_gets h (fun _ _ _ q => q.2.2.1) wl_LO_13 dc_LO_hairpin_6 9 rfl ?_
    refine jl_callV (As := [_, _, _]) (rest := []) h hr vs_LO_17 vi_ST_spells vx_ST_spells (ci := 1) rfl (by omega) (by exact hST) (fun l => c_ST_spells l (by omega) hS (by omega) hj) (by first | decide | omega) (by first | decide | omega) rfl rfl (Nat.le_of_ble_eq_true rfl) dc_LO_hairpin_9 (res := [_]) rfl 12 rfl ?_
    rw [hs]
    refine jl_if_eq h 18 (by decide) dc_LO_hairpin_12 15 rfl (fun c12 => absurd c12 (by decide)) (fun c12 => ?_)
    refine jl_bipush (v := 26) h (by decide) dc_LO_hairpin_15 17 rfl ?_
    exact jl_zret h he rfl (by unfold lp_hp; rw [if_pos hs]; rfl) (rfl) dc_LO_hairpin_17
  | false =>
    have hval : lp_hp b i j = lp_hpT.getD (j - i - 4) 64 + lp_wk b i j 5 := by unfold lp_hp; rw [hs]; rfl
    refine jl_aload_n (i := 0) h rfl rfl dc_LO_hairpin_0 1 rfl ?_
    refine jl_getf h nm_c_LO 0 wl_LO_7 (by omega) (by decide) (by exact hLO) (by rfl) dc_LO_hairpin_1 4 rfl ?_
    refine jl_iload_n (i := 1) h rfl rfl dc_LO_hairpin_4 5 rfl ?_
    refine jl_iload_n (i := 2) h rfl rfl dc_LO_hairpin_5 6 rfl ?_
    refine jl_gets h (fun _ _ _ q => q.2.2.1) wl_LO_13 dc_LO_hairpin_6 9 rfl ?_
    refine jl_callV (As := [_, _, _]) (rest := []) h hr vs_LO_17 vi_ST_spells vx_ST_spells (ci := 1) rfl (by omega) (by exact hST) (fun l => c_ST_spells l (by omega) hS (by omega) hj) (by first | decide | omega) (by first | decide | omega) rfl rfl (Nat.le_of_ble_eq_true rfl) dc_LO_hairpin_9 (res := [_]) rfl 12 rfl ?_
    rw [hs]
    refine jl_if_eq h 18 (by decide) dc_LO_hairpin_12 15 rfl (fun c12 => ?_) (fun c12 => absurd (rfl) c12)
    refine jl_iload_n (i := 2) h rfl rfl dc_LO_hairpin_18 19 rfl ?_
    refine jl_iload_n (i := 1) h rfl rfl dc_LO_hairpin_19 20 rfl ?_
    refine jl_isub h dc_LO_hairpin_20 21 rfl ?_
    refine jl_iconst (v := 1) h (by decide) dc_LO_hairpin_21 22 rfl ?_
    refine jl_isub h dc_LO_hairpin_22 23 rfl ?_
    refine jl_iconst (v := 3) h (by decide) dc_LO_hairpin_23 24 rfl ?_
    refine jl_isub h dc_LO_hairpin_24 25 rfl ?_
    rw [show nI j - nI i - 1 - 3 = nI (j - i - 4) by exact hrow]
    refine jl_istore_n (i := 3) (lc2 := [(3, _), (0, _), (1, _), (2, _)]) h rfl (by decide) rfl dc_LO_hairpin_25 26 rfl ?_
    refine jl_iload_n (i := 3) h rfl rfl dc_LO_hairpin_26 27 rfl ?_
    refine jl_if_lt h 46 (by decide) dc_LO_hairpin_27 30 rfl (fun c27 => absurd c27 (nI_pos (by omega))) (fun c27 => ?_)
    refine jl_iload_n (i := 3) h rfl rfl dc_LO_hairpin_30 31 rfl ?_
    refine jl_gets h (fun _ _ _ q => q.2.2.2.1) wl_LO_23 dc_LO_hairpin_31 34 rfl ?_
    refine jl_tlen (v := nI 6) h (fun _ _ _ q => q.2.2.2.1) (by decide) dc_LO_hairpin_34 35 rfl ?_
    refine jl_icmp_ge h 46 (by decide) dc_LO_hairpin_35 38 rfl (fun c35 => ?_) (fun c35 => ?_)
    · skip
      rw [nI_leI (by decide) (by omega)] at c35
      refine jl_bipush (v := 64) h (by decide) dc_LO_hairpin_46 48 rfl ?_
      refine jl_istore (i := 4) (lc2 := [(4, _), (3, _), (0, _), (1, _), (2, _)]) h (by decide) rfl dc_LO_hairpin_48 50 rfl ?_
      refine jl_iload h rfl dc_LO_hairpin_50 52 rfl ?_
      refine jl_aload_n (i := 0) h rfl rfl dc_LO_hairpin_52 53 rfl ?_
      refine jl_getf h nm_c_LO 0 wl_LO_7 (by omega) (by decide) (by exact hLO) (by rfl) dc_LO_hairpin_53 56 rfl ?_
      refine jl_iload_n (i := 1) h rfl rfl dc_LO_hairpin_56 57 rfl ?_
      refine jl_iload_n (i := 2) h rfl rfl dc_LO_hairpin_57 58 rfl ?_
      refine jl_iconst (v := iI 5) h (by decide) dc_LO_hairpin_58 59 rfl ?_
      refine jl_callV (As := [_, _, _]) (rest := [_]) h hr vs_LO_27 vi_ST_ifWeak vx_ST_ifWeak (ci := 1) rfl (by omega) (by exact hST) (fun l => c_ST_ifWeak l (by omega) hS (by omega) hj 5) (by first | decide | omega) (by first | decide | omega) rfl rfl (Nat.le_of_ble_eq_true rfl) dc_LO_hairpin_59 (res := [_, _]) rfl 62 rfl ?_
      refine jl_iadd h dc_LO_hairpin_62 63 rfl ?_
      exact jl_zret h he rfl (by rw [hval]; first | rw [iI_add] | (rw [List.getD_eq_getElem?_getD, List.getElem?_eq_none (by show 6 ≤ _; omega), show (64 : Int32) = iI 64 from rfl, iI_add]; rfl)) (rfl) dc_LO_hairpin_63
    · skip
      rw [nI_leI (by decide) (by omega)] at c35
      refine jl_gets h (fun _ _ _ q => q.2.2.2.1) wl_LO_23 dc_LO_hairpin_38 41 rfl ?_
      refine jl_iload_n (i := 3) h rfl rfl dc_LO_hairpin_41 42 rfl ?_
      refine jl_tild (v := iI (lp_hpT.getD (j - i - 4) 64)) h (fun _ _ _ q => q.2.2.2.1) (j - i - 4) (rfl) (by show _ < 6; omega) (by decide) (lp_h3 _ (by omega)) dc_LO_hairpin_42 43 rfl ?_
      refine jl_goto h 48 (by decide) dc_LO_hairpin_43 ?_
      refine jl_istore (i := 4) (lc2 := [(4, _), (3, _), (0, _), (1, _), (2, _)]) h (by decide) rfl dc_LO_hairpin_48 50 rfl ?_
      refine jl_iload h rfl dc_LO_hairpin_50 52 rfl ?_
      refine jl_aload_n (i := 0) h rfl rfl dc_LO_hairpin_52 53 rfl ?_
      refine jl_getf h nm_c_LO 0 wl_LO_7 (by omega) (by decide) (by exact hLO) (by rfl) dc_LO_hairpin_53 56 rfl ?_
      refine jl_iload_n (i := 1) h rfl rfl dc_LO_hairpin_56 57 rfl ?_
      refine jl_iload_n (i := 2) h rfl rfl dc_LO_hairpin_57 58 rfl ?_
      refine jl_iconst (v := iI 5) h (by decide) dc_LO_hairpin_58 59 rfl ?_
      refine jl_callV (As := [_, _, _]) (rest := [_]) h hr vs_LO_27 vi_ST_ifWeak vx_ST_ifWeak (ci := 1) rfl (by omega) (by exact hST) (fun l => c_ST_ifWeak l (by omega) hS (by omega) hj 5) (by first | decide | omega) (by first | decide | omega) rfl rfl (Nat.le_of_ble_eq_true rfl) dc_LO_hairpin_59 (res := [_, _]) rfl 62 rfl ?_
      refine jl_iadd h dc_LO_hairpin_62 63 rfl ?_
      exact jl_zret h he rfl (by rw [hval]; first | rw [iI_add] | (rw [List.getD_eq_getElem?_getD, List.getElem?_eq_none (by show 6 ≤ _; omega), show (64 : Int32) = iI 64 from rfl, iI_add]; rfl)) (rfl) dc_LO_hairpin_63
theorem c_LO_multiClosing (hN : 4 ≤ N) (hS : st_ok K ad E n b) (hLO : lo_ok ad E) {i j : Nat} (hi : i < 18) (hj : j < 18) : jl_C l K sa yn_LO_multiClosing bc_LO_multiClosing 3 (some .int) 2 60 N ad [.ref (ad 3), .int (nI i), .int (nI j)] E (some (.int (iI (38 + lp_wk b i j 5)))) E := by
  refine jl_enter (by decide) (Nat.le_of_ble_eq_true rfl) (fun x h he hr => ?_)
  obtain ⟨hST, hbases, hn, hb⟩ := id hS
  unfold lo_ok at hLO
  show jl_J x N ad 0 0 E 0 [(0, .ref (ad 3)), (1, .int (nI i)), (2, .int (nI j))] []
  refine jl_bipush (v := iI 38) h (by decide) dc_LO_multiClosing_0 2 rfl ?_
  refine jl_aload_n (i := 0) h rfl rfl dc_LO_multiClosing_2 3 rfl ?_
  refine jl_getf h nm_c_LO 0 wl_LO_7 (by omega) (by decide) (by exact hLO) (by rfl) dc_LO_multiClosing_3 6 rfl ?_
  refine jl_iload_n (i := 1) h rfl rfl dc_LO_multiClosing_6 7 rfl ?_
  refine jl_iload_n (i := 2) h rfl rfl dc_LO_multiClosing_7 8 rfl ?_
  refine jl_iconst (v := iI 5) h (by decide) dc_LO_multiClosing_8 9 rfl ?_
  refine jl_callV (As := [_, _, _]) (rest := [_]) h hr vs_LO_27 vi_ST_ifWeak vx_ST_ifWeak (ci := 1) rfl (by omega) (by exact hST) (fun l => c_ST_ifWeak l (by omega) hS hi hj 5) (by first | decide | omega) (by first | decide | omega) rfl rfl (Nat.le_of_ble_eq_true rfl) dc_LO_multiClosing_9 (res := [_, _]) rfl 12 rfl ?_
  refine jl_iadd h dc_LO_multiClosing_12 13 rfl ?_
  exact jl_zret h he rfl (by rw [iI_add]) (rfl) dc_LO_multiClosing_13
theorem c_LO_multiBranch (hN : 4 ≤ N) (hS : st_ok K ad E n b) (hLO : lo_ok ad E) {i j : Nat} (hi : i < 18) (hj : j < 18) : jl_C l K sa yn_LO_multiBranch bc_LO_multiBranch 3 (some .int) 2 60 N ad [.ref (ad 3), .int (nI i), .int (nI j)] E (some (.int (iI (4 + lp_wk b i j 5)))) E := by
  refine jl_enter (by decide) (Nat.le_of_ble_eq_true rfl) (fun x h he hr => ?_)
  obtain ⟨hST, hbases, hn, hb⟩ := id hS
  unfold lo_ok at hLO
  show jl_J x N ad 0 0 E 0 [(0, .ref (ad 3)), (1, .int (nI i)), (2, .int (nI j))] []
  refine jl_iconst (v := iI 4) h (by decide) dc_LO_multiBranch_0 1 rfl ?_
  refine jl_aload_n (i := 0) h rfl rfl dc_LO_multiBranch_1 2 rfl ?_
  refine jl_getf h nm_c_LO 0 wl_LO_7 (by omega) (by decide) (by exact hLO) (by rfl) dc_LO_multiBranch_2 5 rfl ?_
  refine jl_iload_n (i := 1) h rfl rfl dc_LO_multiBranch_5 6 rfl ?_
  refine jl_iload_n (i := 2) h rfl rfl dc_LO_multiBranch_6 7 rfl ?_
  refine jl_iconst (v := iI 5) h (by decide) dc_LO_multiBranch_7 8 rfl ?_
  refine jl_callV (As := [_, _, _]) (rest := [_]) h hr vs_LO_27 vi_ST_ifWeak vx_ST_ifWeak (ci := 1) rfl (by omega) (by exact hST) (fun l => c_ST_ifWeak l (by omega) hS hi hj 5) (by first | decide | omega) (by first | decide | omega) rfl rfl (Nat.le_of_ble_eq_true rfl) dc_LO_multiBranch_8 (res := [_, _]) rfl 11 rfl ?_
  refine jl_iadd h dc_LO_multiBranch_11 12 rfl ?_
  exact jl_zret h he rfl (by rw [iI_add]) (rfl) dc_LO_multiBranch_12
theorem c_LO_stack (hN : 4 ≤ N) (hS : st_ok K ad E n b) (hLO : lo_ok ad E) {i j k m : Nat} (hi : i < 18) (hj : j < 18) (hk : k < 18) (hm : m < 18) (h1 : 0 ≤ en_kd (b i) (b j)) (h2 : 0 ≤ en_kd (b m) (b k)) : jl_C l K sa yn_LO_stack bc_LO_stack 5 (some .int) 2 60 N ad [.ref (ad 3), .int (nI i), .int (nI j), .int (nI k), .int (nI m)] E (some (.int (iI (lp_stk (en_kd (b i) (b j)) (en_kd (b m) (b k)))))) E := by
  refine jl_enter (by decide) (Nat.le_of_ble_eq_true rfl) (fun x h he hr => ?_)
  obtain ⟨hST, hbases, hn, hb⟩ := id hS
  unfold lo_ok at hLO
  show jl_J x N ad 0 0 E 0 [(0, .ref (ad 3)), (1, .int (nI i)), (2, .int (nI j)), (3, .int (nI k)), (4, .int (nI m))] []
  have g1 := en_kd_in (b i) (b j)
  have g2 := en_kd_in (b m) (b k)
  obtain ⟨p, hp⟩ : ∃ p : Nat, en_kd (b i) (b j) = p := ⟨(en_kd (b i) (b j)).toNat, by omega⟩
  obtain ⟨q, hq⟩ : ∃ q : Nat, en_kd (b m) (b k) = q := ⟨(en_kd (b m) (b k)).toNat, by omega⟩
  have hix : nI p * nI 6 + nI q = nI (p * 6 + q) := by rw [pk_mul, nI_add]
  refine jl_gets h (fun _ _ _ q => q.2.2.2.2.1) wl_LO_42 dc_LO_stack_0 3 rfl ?_
  refine jl_aload_n (i := 0) h rfl rfl dc_LO_stack_3 4 rfl ?_
  refine jl_getf h nm_c_LO 0 wl_LO_7 (by omega) (by decide) (by exact hLO) (by rfl) dc_LO_stack_4 7 rfl ?_
  refine jl_iload_n (i := 1) h rfl rfl dc_LO_stack_7 8 rfl ?_
  refine jl_iload_n (i := 2) h rfl rfl dc_LO_stack_8 9 rfl ?_
  refine jl_callV (As := [_, _]) (rest := [_]) h hr vs_LO_45 vi_ST_kind vx_ST_kind (ci := 1) rfl (by omega) (by exact hST) (fun l => c_ST_kind l (by omega) hS hi hj) (by first | decide | omega) (by first | decide | omega) rfl rfl (Nat.le_of_ble_eq_true rfl) dc_LO_stack_9 (res := [_, _]) rfl 12 rfl ?_
  rw [hp, iI_nat]
  refine jl_bipush (v := nI 6) h (by decide) dc_LO_stack_12 14 rfl ?_
  refine jl_imul h dc_LO_stack_14 15 rfl ?_
  refine jl_aload_n (i := 0) h rfl rfl dc_LO_stack_15 16 rfl ?_
  refine jl_getf h nm_c_LO 0 wl_LO_7 (by omega) (by decide) (by exact hLO) (by rfl) dc_LO_stack_16 19 rfl ?_
  refine jl_iload h rfl dc_LO_stack_19 21 rfl ?_
  refine jl_iload_n (i := 3) h rfl rfl dc_LO_stack_21 22 rfl ?_
  refine jl_callV (As := [_, _]) (rest := [_, _]) h hr vs_LO_45 vi_ST_kind vx_ST_kind (ci := 1) rfl (by omega) (by exact hST) (fun l => c_ST_kind l (by omega) hS hm hk) (by first | decide | omega) (by first | decide | omega) rfl rfl (Nat.le_of_ble_eq_true rfl) dc_LO_stack_22 (res := [_, _, _]) rfl 25 rfl ?_
  rw [hq, iI_nat]
  refine jl_iadd h dc_LO_stack_25 26 rfl ?_
  rw [show nI p * nI 6 + nI q = nI (p * 6 + q) by exact hix]
  refine jl_tild (v := iI (lp_stk p q)) h (fun _ _ _ q => q.2.2.2.2.1) (p * 6 + q) (rfl) (by show _ < 36; omega) (by decide) (lp_h4 p (by omega) q (by omega)) dc_LO_stack_26 27 rfl ?_
  exact jl_zret h he rfl (by rw [hp, hq]) (rfl) dc_LO_stack_27
theorem c_LO_stackOrBulge {u : Nat} (hu : u < 36) (s : Int) : jl_C l K sa yn_LO_stackOrBulge bc_LO_stackOrBulge 2 (some .int) 0 0 N ad [.int (nI u), .int (iI s)] E (some (.int (iI (lp_bul u s)))) E := by
  refine jl_enter (by decide) (Nat.le_of_ble_eq_true rfl) (fun x h he hr => ?_)
  show jl_J x N ad 0 0 E 0 [(0, .int (nI u)), (1, .int (iI s))] []
  rcases (show u = 0 ∨ u = 1 ∨ u = 2 ∨ u = 3 ∨ 4 ≤ u by omega) with rfl | rfl | rfl | rfl | h4
  · skip
    refine jl_iload_n (i := 0) h rfl rfl dc_LO_stackOrBulge_0 1 rfl ?_
    refine jl_tsw h 31 32 dc_LO_stackOrBulge_1 (by decide) (by decide) (by decide) (by decide) ?_
    refine jl_iload_n (i := 1) h rfl rfl dc_LO_stackOrBulge_32 33 rfl ?_
    exact jl_zret h he rfl (rfl) (rfl) dc_LO_stackOrBulge_33
  · skip
    refine jl_iload_n (i := 0) h rfl rfl dc_LO_stackOrBulge_0 1 rfl ?_
    refine jl_tsw h 33 34 dc_LO_stackOrBulge_1 (by decide) (by decide) (by decide) (by decide) ?_
    refine jl_bipush (v := iI 38) h (by decide) dc_LO_stackOrBulge_34 36 rfl ?_
    refine jl_iload_n (i := 1) h rfl rfl dc_LO_stackOrBulge_36 37 rfl ?_
    refine jl_iadd h dc_LO_stackOrBulge_37 38 rfl ?_
    exact jl_zret h he rfl (by rw [iI_add]; rfl) (rfl) dc_LO_stackOrBulge_38
  · skip
    refine jl_iload_n (i := 0) h rfl rfl dc_LO_stackOrBulge_0 1 rfl ?_
    refine jl_tsw h 38 39 dc_LO_stackOrBulge_1 (by decide) (by decide) (by decide) (by decide) ?_
    refine jl_bipush (v := 28) h (by decide) dc_LO_stackOrBulge_39 41 rfl ?_
    exact jl_zret h he rfl (rfl) (rfl) dc_LO_stackOrBulge_41
  · skip
    refine jl_iload_n (i := 0) h rfl rfl dc_LO_stackOrBulge_0 1 rfl ?_
    refine jl_tsw h 41 42 dc_LO_stackOrBulge_1 (by decide) (by decide) (by decide) (by decide) ?_
    refine jl_bipush (v := 32) h (by decide) dc_LO_stackOrBulge_42 44 rfl ?_
    exact jl_zret h he rfl (rfl) (rfl) dc_LO_stackOrBulge_44
  · have hval : lp_bul u s = 20 + 4 * u := by
      unfold lp_bul
      rw [if_neg (by omega), if_neg (by omega), if_neg (by omega), if_neg (by omega)]
    refine jl_iload_n (i := 0) h rfl rfl dc_LO_stackOrBulge_0 1 rfl ?_
    refine jl_tswD h 45 dc_LO_stackOrBulge_1 (by rw [nI_toInt (by omega)]; omega) (by decide) ?_
    refine jl_bipush (v := iI 20) h (by decide) dc_LO_stackOrBulge_45 47 rfl ?_
    refine jl_iconst (v := iI 4) h (by decide) dc_LO_stackOrBulge_47 48 rfl ?_
    refine jl_iload_n (i := 0) h rfl rfl dc_LO_stackOrBulge_48 49 rfl ?_
    refine jl_imul h dc_LO_stackOrBulge_49 50 rfl ?_
    refine jl_iadd h dc_LO_stackOrBulge_50 51 rfl ?_
    exact jl_zret h he rfl (by rw [hval, ← iI_nat u, iI_mul, iI_add]) (rfl) dc_LO_stackOrBulge_51
theorem c_LO_interior {p q : Nat} (hp : 1 ≤ p) (hq : 1 ≤ q) (hpq : p + q < 18) : jl_C l K sa yn_LO_interior bc_LO_interior 5 (some .int) 1 30 N ad [.int (nI p), .int (nI q)] E (some (.int (iI (lp_int p q)))) E := by
  refine jl_enter (by decide) (Nat.le_of_ble_eq_true rfl) (fun x h he hr => ?_)
  show jl_J x N ad 0 0 E 0 [(0, .int (nI p)), (1, .int (nI q))] []
  have e1 : nI p + nI q = nI (p + q) := nI_add p q
  have e2 : nI (p + q) - 2 = nI (p + q - 2) := by rw [show (2 : Int32) = nI 2 from rfl, pk_sub (by omega)]
  have e3 : (if 0 ≤ nI p - nI q then nI p - nI q else 0 - (nI p - nI q)) = nI (lp_dif p q) := by
    unfold lp_dif
    rcases Nat.lt_or_ge p q with hlt | hge
    · have h1 : ¬ 0 ≤ nI p - nI q := by
        have := pk_sneg (a := p) (b := q) (by omega) hlt
        rw [Int32.not_le]
        exact this
      rw [if_neg h1, show (0 : Int32) - (nI p - nI q) = nI q - nI p by simp [Int32.neg_sub], pk_sub (by omega)]
      congr 1
      omega
    · rw [pk_sub hge, if_pos (nI_pos' (by omega))]
      congr 1
      omega
  have e4 : (if nI 6 * nI (lp_dif p q) < nI 30 then nI 6 * nI (lp_dif p q) else nI 30) = iI (if 6 * lp_dif p q < 30 then ((6 * lp_dif p q : Nat) : Int) else 30) := by
    have hd : lp_dif p q < 18 := by unfold lp_dif; omega
    rw [pk_mul]
    by_cases h9 : 6 * lp_dif p q < 30
    · rw [if_pos (nI_lt h9 (by decide)), if_pos h9]
      rfl
    · rw [if_neg (nI_nlt (by omega) (by omega)), if_neg h9]
      rfl
  refine jl_iload_n (i := 0) h rfl rfl dc_LO_interior_0 1 rfl ?_
  refine jl_iload_n (i := 1) h rfl rfl dc_LO_interior_1 2 rfl ?_
  refine jl_iadd h dc_LO_interior_2 3 rfl ?_
  rw [show nI p + nI q = nI (p + q) by exact e1]
  refine jl_istore_n (i := 2) (lc2 := [(2, _), (0, _), (1, _)]) h rfl (by decide) rfl dc_LO_interior_3 4 rfl ?_
  refine jl_iload_n (i := 2) h rfl rfl dc_LO_interior_4 5 rfl ?_
  refine jl_iconst (v := 2) h (by decide) dc_LO_interior_5 6 rfl ?_
  refine jl_isub h dc_LO_interior_6 7 rfl ?_
  rw [show nI (p + q) - 2 = nI (p + q - 2) by exact e2]
  refine jl_istore_n (i := 3) (lc2 := [(3, _), (2, _), (0, _), (1, _)]) h rfl (by decide) rfl dc_LO_interior_7 8 rfl ?_
  refine jl_iload_n (i := 3) h rfl rfl dc_LO_interior_8 9 rfl ?_
  refine jl_if_lt h 28 (by decide) dc_LO_interior_9 12 rfl (fun c9 => absurd c9 (nI_pos (by omega))) (fun c9 => ?_)
  refine jl_iload_n (i := 3) h rfl rfl dc_LO_interior_12 13 rfl ?_
  refine jl_gets h (fun _ _ _ q => q.2.2.2.2.2) wl_LO_48 dc_LO_interior_13 16 rfl ?_
  refine jl_tlen (v := nI 4) h (fun _ _ _ q => q.2.2.2.2.2) (by decide) dc_LO_interior_16 17 rfl ?_
  refine jl_icmp_ge h 28 (by decide) dc_LO_interior_17 20 rfl (fun c17 => ?_) (fun c17 => ?_)
  · skip
    rw [nI_leI (by decide) (by omega)] at c17
    refine jl_bipush (v := iI 15) h (by decide) dc_LO_interior_28 30 rfl ?_
    refine jl_iload_n (i := 2) h rfl rfl dc_LO_interior_30 31 rfl ?_
    refine jl_iadd h dc_LO_interior_31 32 rfl ?_
    refine jl_istore (i := 4) (lc2 := [(4, _), (3, _), (2, _), (0, _), (1, _)]) h (by decide) rfl dc_LO_interior_32 34 rfl ?_
    refine jl_iload h rfl dc_LO_interior_34 36 rfl ?_
    refine jl_bipush (v := nI 30) h (by decide) dc_LO_interior_36 38 rfl ?_
    refine jl_bipush (v := nI 6) h (by decide) dc_LO_interior_38 40 rfl ?_
    refine jl_iload_n (i := 0) h rfl rfl dc_LO_interior_40 41 rfl ?_
    refine jl_iload_n (i := 1) h rfl rfl dc_LO_interior_41 42 rfl ?_
    refine jl_isub h dc_LO_interior_42 43 rfl ?_
    refine jl_mabs h hr wm_LO_51 (by first | decide | omega) (by first | decide | omega) (Nat.le_of_ble_eq_true rfl) dc_LO_interior_43 46 rfl ?_
    rw [show (if 0 ≤ nI p - nI q then nI p - nI q else 0 - (nI p - nI q)) = nI (lp_dif p q) by exact e3]
    refine jl_imul h dc_LO_interior_46 47 rfl ?_
    refine jl_mmin h hr wm_LO_57 (by first | decide | omega) (by first | decide | omega) (Nat.le_of_ble_eq_true rfl) dc_LO_interior_47 50 rfl ?_
    rw [show (if nI 6 * nI (lp_dif p q) < nI 30 then nI 6 * nI (lp_dif p q) else nI 30) = iI (if 6 * lp_dif p q < 30 then ((6 * lp_dif p q : Nat) : Int) else 30) by exact e4]
    refine jl_iadd h dc_LO_interior_50 51 rfl ?_
    exact jl_zret h he rfl (by unfold lp_int; first | rw [iI_add] | (rw [List.getD_eq_getElem?_getD, List.getElem?_eq_none (by show 4 ≤ _; omega), ← iI_nat (p + q), iI_add, iI_add]; rfl)) (rfl) dc_LO_interior_51
  · skip
    rw [nI_leI (by decide) (by omega)] at c17
    refine jl_gets h (fun _ _ _ q => q.2.2.2.2.2) wl_LO_48 dc_LO_interior_20 23 rfl ?_
    refine jl_iload_n (i := 3) h rfl rfl dc_LO_interior_23 24 rfl ?_
    refine jl_tild (v := iI (lp_inT.getD (p + q - 2) (15 + ((p + q : Nat) : Int)))) h (fun _ _ _ q => q.2.2.2.2.2) (p + q - 2) (rfl) (by show _ < 4; omega) (by decide) (lp_h5 _ (by omega) _) dc_LO_interior_24 25 rfl ?_
    refine jl_goto h 32 (by decide) dc_LO_interior_25 ?_
    refine jl_istore (i := 4) (lc2 := [(4, _), (3, _), (2, _), (0, _), (1, _)]) h (by decide) rfl dc_LO_interior_32 34 rfl ?_
    refine jl_iload h rfl dc_LO_interior_34 36 rfl ?_
    refine jl_bipush (v := nI 30) h (by decide) dc_LO_interior_36 38 rfl ?_
    refine jl_bipush (v := nI 6) h (by decide) dc_LO_interior_38 40 rfl ?_
    refine jl_iload_n (i := 0) h rfl rfl dc_LO_interior_40 41 rfl ?_
    refine jl_iload_n (i := 1) h rfl rfl dc_LO_interior_41 42 rfl ?_
    refine jl_isub h dc_LO_interior_42 43 rfl ?_
    refine jl_mabs h hr wm_LO_51 (by first | decide | omega) (by first | decide | omega) (Nat.le_of_ble_eq_true rfl) dc_LO_interior_43 46 rfl ?_
    rw [show (if 0 ≤ nI p - nI q then nI p - nI q else 0 - (nI p - nI q)) = nI (lp_dif p q) by exact e3]
    refine jl_imul h dc_LO_interior_46 47 rfl ?_
    refine jl_mmin h hr wm_LO_57 (by first | decide | omega) (by first | decide | omega) (Nat.le_of_ble_eq_true rfl) dc_LO_interior_47 50 rfl ?_
    rw [show (if nI 6 * nI (lp_dif p q) < nI 30 then nI 6 * nI (lp_dif p q) else nI 30) = iI (if 6 * lp_dif p q < 30 then ((6 * lp_dif p q : Nat) : Int) else 30) by exact e4]
    refine jl_iadd h dc_LO_interior_50 51 rfl ?_
    exact jl_zret h he rfl (by unfold lp_int; first | rw [iI_add] | (rw [List.getD_eq_getElem?_getD, List.getElem?_eq_none (by show 4 ≤ _; omega), ← iI_nat (p + q), iI_add, iI_add]; rfl)) (rfl) dc_LO_interior_51
theorem c_LO_withOne (hN : 4 ≤ N) (hS : st_ok K ad E n b) (hLO : lo_ok ad E) {i j k m : Nat} (hik : i < k) (hkm : k < m) (hmj : m < j) (hj : j < 18) (h1 : 0 ≤ en_kd (b i) (b j)) (h2 : 0 ≤ en_kd (b k) (b m)) : jl_C l K sa yn_LO_withOne bc_LO_withOne 7 (some .int) 3 95 N ad [.ref (ad 3), .int (nI i), .int (nI j), .int (nI k), .int (nI m)] E (some (.int (iI (lp_w1 b i j k m)))) E := by
  refine jl_enter (by decide) (Nat.le_of_ble_eq_true rfl) (fun x h he hr => ?_)
  obtain ⟨hST, hbases, hn, hb⟩ := id hS
  have h3 := en_kd_sym _ _ (hb k) (hb m) h2
  have hLO2 := hLO
  unfold lo_ok at hLO
  show jl_J x N ad 0 0 E 0 [(0, .ref (ad 3)), (1, .int (nI i)), (2, .int (nI j)), (3, .int (nI k)), (4, .int (nI m))] []
  have e1 : nI k - nI i - 1 = nI (k - i - 1) := by rw [pk_sub (by omega), show (1 : Int32) = nI 1 from rfl, pk_sub (by omega)]
  have e2 : nI j - nI m - 1 = nI (j - m - 1) := by rw [pk_sub (by omega), show (1 : Int32) = nI 1 from rfl, pk_sub (by omega)]
  have e3 : nI (k - i - 1) + nI (j - m - 1) = nI (k - i - 1 + (j - m - 1)) := nI_add _ _
  have z0 : (0 : Int32) = nI 0 := rfl
  refine jl_iload_n (i := 3) h rfl rfl dc_LO_withOne_0 1 rfl ?_
  refine jl_iload_n (i := 1) h rfl rfl dc_LO_withOne_1 2 rfl ?_
  refine jl_isub h dc_LO_withOne_2 3 rfl ?_
  refine jl_iconst (v := 1) h (by decide) dc_LO_withOne_3 4 rfl ?_
  refine jl_isub h dc_LO_withOne_4 5 rfl ?_
  rw [show nI k - nI i - 1 = nI (k - i - 1) by exact e1]
  refine jl_istore (i := 5) (lc2 := [(5, _), (0, _), (1, _), (2, _), (3, _), (4, _)]) h (by decide) rfl dc_LO_withOne_5 7 rfl ?_
  refine jl_iload_n (i := 2) h rfl rfl dc_LO_withOne_7 8 rfl ?_
  refine jl_iload h rfl dc_LO_withOne_8 10 rfl ?_
  refine jl_isub h dc_LO_withOne_10 11 rfl ?_
  refine jl_iconst (v := 1) h (by decide) dc_LO_withOne_11 12 rfl ?_
  refine jl_isub h dc_LO_withOne_12 13 rfl ?_
  rw [show nI j - nI m - 1 = nI (j - m - 1) by exact e2]
  refine jl_istore (i := 6) (lc2 := [(6, _), (5, _), (0, _), (1, _), (2, _), (3, _), (4, _)]) h (by decide) rfl dc_LO_withOne_13 15 rfl ?_
  refine jl_iload h rfl dc_LO_withOne_15 17 rfl ?_
  refine jl_if_eq h 25 (by decide) dc_LO_withOne_17 20 rfl (fun c17 => ?_) (fun c17 => ?_)
  · skip
    rw [z0, nI_eq (by omega) (by decide)] at c17
    refine jl_iload h rfl dc_LO_withOne_25 27 rfl ?_
    refine jl_iload h rfl dc_LO_withOne_27 29 rfl ?_
    refine jl_iadd h dc_LO_withOne_29 30 rfl ?_
    rw [show nI (k - i - 1) + nI (j - m - 1) = nI (k - i - 1 + (j - m - 1)) by exact e3]
    refine jl_aload_n (i := 0) h rfl rfl dc_LO_withOne_30 31 rfl ?_
    refine jl_iload_n (i := 1) h rfl rfl dc_LO_withOne_31 32 rfl ?_
    refine jl_iload_n (i := 2) h rfl rfl dc_LO_withOne_32 33 rfl ?_
    refine jl_iload_n (i := 3) h rfl rfl dc_LO_withOne_33 34 rfl ?_
    refine jl_iload h rfl dc_LO_withOne_34 36 rfl ?_
    refine jl_callV (As := [_, _, _, _]) (rest := [_]) h hr vs_LO_31 vi_LO_stack vx_LO_stack (ci := 2) rfl (by omega) (by exact hLO) (fun l => c_LO_stack l hN hS hLO2 (by omega) hj (by omega) (by omega) h1 h3) (by first | decide | omega) (by first | decide | omega) rfl rfl (Nat.le_of_ble_eq_true rfl) dc_LO_withOne_36 (res := [_, _]) rfl 39 rfl ?_
    refine jl_callS (As := [_, _]) (rest := []) h hr vs_LO_35 vt_LO_stackOrBulge (fun l => c_LO_stackOrBulge l (by omega) _) (by first | decide | omega) (by first | decide | omega) rfl rfl (Nat.le_of_ble_eq_true rfl) dc_LO_withOne_39 (res := [_]) rfl 42 rfl ?_
    exact jl_zret h he rfl (by rw [show lp_w1 b i j k m = lp_bul (k - i - 1 + (j - m - 1)) (lp_stk (en_kd (b i) (b j)) (en_kd (b m) (b k))) from if_pos (by omega)]) (rfl) dc_LO_withOne_42
  · skip
    rw [z0, nI_eq (by omega) (by decide)] at c17
    refine jl_iload h rfl dc_LO_withOne_20 22 rfl ?_
    refine jl_if_ne h 43 (by decide) dc_LO_withOne_22 25 rfl (fun c22 => ?_) (fun c22 => ?_)
    · skip
      rw [z0, nI_eq (by omega) (by decide)] at c22
      refine jl_iload h rfl dc_LO_withOne_43 45 rfl ?_
      refine jl_iload h rfl dc_LO_withOne_45 47 rfl ?_
      refine jl_callS (As := [_, _]) (rest := []) h hr vs_LO_39 vt_LO_interior (fun l => c_LO_interior l (by omega) (by omega) (by omega)) (by first | decide | omega) (by first | decide | omega) rfl rfl (Nat.le_of_ble_eq_true rfl) dc_LO_withOne_47 (res := [_]) rfl 50 rfl ?_
      refine jl_aload_n (i := 0) h rfl rfl dc_LO_withOne_50 51 rfl ?_
      refine jl_getf h nm_c_LO 0 wl_LO_7 (by omega) (by decide) (by exact hLO) (by rfl) dc_LO_withOne_51 54 rfl ?_
      refine jl_iload_n (i := 1) h rfl rfl dc_LO_withOne_54 55 rfl ?_
      refine jl_iload_n (i := 2) h rfl rfl dc_LO_withOne_55 56 rfl ?_
      refine jl_bipush (v := iI 7) h (by decide) dc_LO_withOne_56 58 rfl ?_
      refine jl_callV (As := [_, _, _]) (rest := [_]) h hr vs_LO_27 vi_ST_ifWeak vx_ST_ifWeak (ci := 1) rfl (by omega) (by exact hST) (fun l => c_ST_ifWeak l (by omega) hS (by omega) hj 7) (by first | decide | omega) (by first | decide | omega) rfl rfl (Nat.le_of_ble_eq_true rfl) dc_LO_withOne_58 (res := [_, _]) rfl 61 rfl ?_
      refine jl_iadd h dc_LO_withOne_61 62 rfl ?_
      refine jl_aload_n (i := 0) h rfl rfl dc_LO_withOne_62 63 rfl ?_
      refine jl_getf h nm_c_LO 0 wl_LO_7 (by omega) (by decide) (by exact hLO) (by rfl) dc_LO_withOne_63 66 rfl ?_
      refine jl_iload_n (i := 3) h rfl rfl dc_LO_withOne_66 67 rfl ?_
      refine jl_iload h rfl dc_LO_withOne_67 69 rfl ?_
      refine jl_bipush (v := iI 7) h (by decide) dc_LO_withOne_69 71 rfl ?_
      refine jl_callV (As := [_, _, _]) (rest := [_]) h hr vs_LO_27 vi_ST_ifWeak vx_ST_ifWeak (ci := 1) rfl (by omega) (by exact hST) (fun l => c_ST_ifWeak l (by omega) hS (by omega) (by omega) 7) (by first | decide | omega) (by first | decide | omega) rfl rfl (Nat.le_of_ble_eq_true rfl) dc_LO_withOne_71 (res := [_, _]) rfl 74 rfl ?_
      refine jl_iadd h dc_LO_withOne_74 75 rfl ?_
      exact jl_zret h he rfl (by rw [show lp_w1 b i j k m = lp_int (k - i - 1) (j - m - 1) + lp_wk b i j 7 + lp_wk b k m 7 from if_neg (by omega), iI_add, iI_add]) (rfl) dc_LO_withOne_75
    · skip
      rw [z0, nI_eq (by omega) (by decide)] at c22
      refine jl_iload h rfl dc_LO_withOne_25 27 rfl ?_
      refine jl_iload h rfl dc_LO_withOne_27 29 rfl ?_
      refine jl_iadd h dc_LO_withOne_29 30 rfl ?_
      rw [show nI (k - i - 1) + nI (j - m - 1) = nI (k - i - 1 + (j - m - 1)) by exact e3]
      refine jl_aload_n (i := 0) h rfl rfl dc_LO_withOne_30 31 rfl ?_
      refine jl_iload_n (i := 1) h rfl rfl dc_LO_withOne_31 32 rfl ?_
      refine jl_iload_n (i := 2) h rfl rfl dc_LO_withOne_32 33 rfl ?_
      refine jl_iload_n (i := 3) h rfl rfl dc_LO_withOne_33 34 rfl ?_
      refine jl_iload h rfl dc_LO_withOne_34 36 rfl ?_
      refine jl_callV (As := [_, _, _, _]) (rest := [_]) h hr vs_LO_31 vi_LO_stack vx_LO_stack (ci := 2) rfl (by omega) (by exact hLO) (fun l => c_LO_stack l hN hS hLO2 (by omega) hj (by omega) (by omega) h1 h3) (by first | decide | omega) (by first | decide | omega) rfl rfl (Nat.le_of_ble_eq_true rfl) dc_LO_withOne_36 (res := [_, _]) rfl 39 rfl ?_
      refine jl_callS (As := [_, _]) (rest := []) h hr vs_LO_35 vt_LO_stackOrBulge (fun l => c_LO_stackOrBulge l (by omega) _) (by first | decide | omega) (by first | decide | omega) rfl rfl (Nat.le_of_ble_eq_true rfl) dc_LO_withOne_39 (res := [_]) rfl 42 rfl ?_
      exact jl_zret h he rfl (by rw [show lp_w1 b i j k m = lp_bul (k - i - 1 + (j - m - 1)) (lp_stk (en_kd (b i) (b j)) (en_kd (b m) (b k))) from if_pos (by omega)]) (rfl) dc_LO_withOne_42
end LO
end
section
/-! Contracts with a postcondition; contents of arrays up to their lengths; the world gw. Written by wip/whole/genworld.py. -/
def jl_QP (post : Option Value → (Nat → va_E) → Prop) (D : va_G) (N : Nat) (ad : Nat → Nat) (A : Nat → Prop) : Array Value → State → Outcome → State → Prop := fun _ st oc t => (∃ (v : Option Value) (E : Nat → va_E), oc = .returned v ∧ post v E ∧ va_P D jl_cl (jl_w N ad E) t.heap) ∧ va_F A st t
def jl_CP (l : Launch) (K : Nat → ClassId) (sa : Nat → Nat) (y : MethodName) (cc : ByteArray) (nL : Nat) (ret : Option FieldType) (fr lo : Nat) (N : Nat) (ad : Nat → Nat) (av : List Value) (E : Nat → va_E) (post : Option Value → (Nat → va_E) → Prop) : Prop :=
  ∀ (D : va_G) (sz : Nat), Met l y (Cond.code y cc nL ret :: jl_T) ({ frames := fr, cells := 0, slots := 0, locals := lo }) (jl_P K sa D N ad E sz av) (jl_QP post D N ad (jl_A N ad sz)) 0 0 (jl_A N ad sz)
def jl_endP (x : jl_X) (N : Nat) (ad : Nat → Nat) (ret : Option FieldType) (post : Option Value → (Nat → va_E) → Prop) : Prop := match x with
  | (_, _, _, _, s, _, args, below, meth, _, Q, D, A, _) => meth.sig.returnType = ret ∧ Q = MQ below (jl_QP post D N ad A) args s 0 0 A
theorem jl_enterP {l : Launch} {K : Nat → ClassId} {sa : Nat → Nat} {y : MethodName} {cc : ByteArray} {nL : Nat} {ret : Option FieldType} {fr lo : Nat} {N : Nat} {ad : Nat → Nat} {av : List Value} {E : Nat → va_E} {post : Option Value → (Nat → va_E) → Prop} (hy : plainName y.cls = true) (hlen : (lg_sl av).length ≤ nL)
    (body : ∀ x : jl_X, jl_ok x N ad K sa cc y.cls nL → jl_endP x N ad ret post → jl_r x fr lo 0 0 → jl_J x N ad 0 0 E 0 (lv_args 0 av) []) : jl_CP l K sa y cc nL ret fr lo N ad av E post := by
  intro D sz
  refine Met.ofW (cc := cc) (maxL := nL) (ret := ret) hy rfl ?_
  intro p e s m args below meth c s₁ B hml hv
  obtain ⟨rfl, hsz, hP, hK, hD0, hSt⟩ := hv
  subst hsz
  have hts := atoms_spec (ws := Cond.code y cc nL ret :: jl_T) B.pre
  have hown : s.vm.findClass y.cls = some m.cls := findClass_of_methodNamed B.named
  have key := body (p, l, e, ({ frames := fr, cells := 0, slots := 0, locals := lo } : Room), s, m, av.toArray, below, meth, c, MQ below (jl_QP post D N ad (jl_A N ad s.heap.size)) av.toArray s 0 0 (jl_A N ad s.heap.size), D, jl_A N ad s.heap.size, nL)
    ⟨B.exec, B.bytes, rfl, hml, hown, fun w hw => hts w (List.mem_cons_of_mem _ hw), hK, ⟨hD0.1, fun k hk => Or.inl ⟨k, hk, rfl⟩⟩, fun q hq => Or.inr hq, B.notSynchronized, hSt⟩ ⟨B.returns, rfl⟩ ⟨Nat.le_refl _, Nat.le_refl _, Nat.le_refl _, Nat.le_refl _⟩
  have hl := lv_entry av (n := nL) hlen
  rw [lg_entry_eq]
  exact key _ _ _ hl hP va_S.rf
/-- a contract that says more may be used as one that says less -/
theorem jl_CP.weak {l : Launch} {K : Nat → ClassId} {sa : Nat → Nat} {y : MethodName} {cc : ByteArray} {nL : Nat} {ret : Option FieldType} {fr lo : Nat} {N : Nat} {ad : Nat → Nat} {av : List Value} {E E2 : Nat → va_E} {v2 : Option Value} (h : jl_C l K sa y cc nL ret fr lo N ad av E v2 E2) : ∀ (D : va_G) (sz : Nat), Met l y (Cond.code y cc nL ret :: jl_T) ({ frames := fr, cells := 0, slots := 0, locals := lo }) (jl_P K sa D N ad E sz av) (jl_Q v2 E2 D N ad (jl_A N ad sz)) 0 0 (jl_A N ad sz) := h
section JP
variable {x : jl_X} {N : Nat} {ad : Nat → Nat} {K : Nat → ClassId} {sa : Nat → Nat} {cells slots : Nat} {cc : ByteArray} {own : String} {n : Nat} {E : Nat → va_E} {pc : Nat} {lc : List (Nat × Value)} {st : List Value} {post : Option Value → (Nat → va_E) → Prop}
theorem jl_zretP (h : jl_ok x N ad K sa cc own n) {ty : FieldType} (he : jl_endP x N ad (some ty) post) {v : Int32} (hn : narrow ty (.int v) = .int v) (hp : post (some (.int v)) E) (hd : decode cc pc = .ok (.ireturn, 1)) : jl_J x N ad 0 0 E pc lc [.int v] := by
  obtain ⟨p, l, e, R, s, m, args, below, meth, c, Q, D, A, nL⟩ := x
  intro H locs ls hl hP hS
  obtain ⟨hr, hQ⟩ := he
  subst hQ
  exact W.zret h.1 h.2.1 hr hn (fun t ht hW => ⟨⟨_, E, rfl, hp, by rw [ht]; exact hP⟩, hS.F ht⟩) hS.2.2 hd h.2.2.2.2.2.2.2.2.2.1
theorem jl_lretP (h : jl_ok x N ad K sa cc own n) (he : jl_endP x N ad (some .long) post) {v : Int64} (hp : post (some (.long v)) E) (hd : decode cc pc = .ok (.lreturn, 1)) : jl_J x N ad 0 0 E pc lc [.long v] := by
  obtain ⟨p, l, e, R, s, m, args, below, meth, c, Q, D, A, nL⟩ := x
  intro H locs ls hl hP hS
  obtain ⟨hr, hQ⟩ := he
  subst hQ
  exact W.lret h.1 h.2.1 hr (fun t ht hW => ⟨⟨_, E, rfl, hp, by rw [ht]; exact hP⟩, hS.F ht⟩) hS.2.2 hd h.2.2.2.2.2.2.2.2.2.1
theorem jl_vretP (h : jl_ok x N ad K sa cc own n) (he : jl_endP x N ad none post) (hp : post none E) (hd : decode cc pc = .ok (.return_, 1)) : jl_J x N ad 0 0 E pc lc [] := by
  obtain ⟨p, l, e, R, s, m, args, below, meth, c, Q, D, A, nL⟩ := x
  intro H locs ls hl hP hS
  obtain ⟨hr, hQ⟩ := he
  subst hQ
  exact W.vret h.1 h.2.1 hr (fun t ht hW => ⟨⟨_, E, rfl, hp, by rw [ht]; exact hP⟩, hS.F ht⟩) hS.2.2 hd h.2.2.2.2.2.2.2.2.2.1
theorem jl_afterP {p : Program} {l : Launch} {e : Env} {R : Room} {s : State} {m : MethodId} {args : Array Value} {below : List Frame} {meth : Method} {c : Code} {Q : State → Prop} {D : va_G} {A A1 : Nat → Prop} {nL : Nat} {H : Heap} {locs : List Loc} {ls : Array Slot} {rest : List Value} {a : Array Value}
    (hrun : va_Run p l e R s m args below meth c H locs cells slots 0 0 (F0 m pc ls st) rest (jl_QP post D N ad A1 a) A1) (hS : va_S A s.heap H locs) (hA : ∀ q, A1 q → A q) (hl : lv_has ls nL lc)
    (kk : ∀ v E2, post v E2 → jl_J (p, l, e, R, s, m, args, below, meth, c, Q, D, A, nL) N ad cells slots E2 (pc + 3) lc (v.toList ++ rest)) : W p l e R s m args below meth c H locs cells slots Q (F0 m pc ls st) := by
  intro T hT X
  obtain ⟨v, st₀, t, T', L, h0, X', hL, e1, e2, ⟨⟨v', E', hv, hp, hP'⟩, hz, hk⟩, stp⟩ := hrun T hT X
  cases hv
  rw [h0] at hz hk
  obtain ⟨t2, a1, b1⟩ := kk v E' hp T'.heap (locs ++ L) ls hl (by rw [e1]; exact hP')
    ⟨Nat.le_trans hS.1 (by rw [e1]; exact hz), fun q h1 h2 => by rw [e1, hk q (Nat.lt_of_lt_of_le h1 hS.1) (fun z => h2 (hA q z))]; exact hS.2.1 q h1 h2, fun q hq => by
      rcases List.mem_append.mp hq with h | h
      · exact hS.2.2 q h
      · exact hA _ (hL q h)⟩ T' rfl X'
  exact ⟨t2, stp t2 a1, b1⟩
theorem jl_callVP (h : jl_ok x N ad K sa cc own n) {fr lo fr2 lo2 : Nat} (hr : jl_r x fr lo cells slots) {y : MethodName} {cc2 : ByteArray} {nL2 : Nat} {ret2 : Option FieldType} {index na : Nat} (hv : jl_v own index y cc2 nL2 ret2 na) (hin : Cond.instanceMethod y ∈ jl_T) (hsel : Cond.selects y.cls y y ∈ jl_T) {k ci : Nat} {T : u_T} {M : Nat} {fs : List Value} (hc : jl_cl[ci]? = some (y.cls, T, M)) (hk : k < N) (hE : E k = .inr (ci, fs)) {As rest : List Value}
    (hC : ∀ l, jl_CP l K sa y cc2 nL2 ret2 fr2 lo2 N ad (.ref (ad k) :: As) E post) (hfr : fr2 + 1 ≤ fr) (hlo : 8 + (nL2 + 11) + lo2 ≤ lo) (hn : As.length = na) (hst : st = As.reverse ++ .ref (ad k) :: rest) (hW : (rest.map fun v => v.category).sum ≤ 8) (hd : decode cc pc = .ok (.invokevirtual index, 3))
    (pc2 : Nat) (hpc : pc + 3 = pc2) (kk : ∀ v E2, post v E2 → jl_J x N ad cells slots E2 pc2 lc (v.toList ++ rest)) : jl_J x N ad cells slots E pc lc st := by
  subst hpc
  obtain ⟨p, l, e, R, s, m, args, below, meth, c, Q, D, A, nL⟩ := x
  intro H locs ls hl hP hS
  obtain ⟨hA, hpre⟩ := jl_pre h hP hS (.ref (ad k) :: As)
  have hts := h.2.2.2.2.2.1
  have cb : CallB R s args own index y cc2 nL2 ret2 (Cond.code y cc2 nL2 ret2 :: jl_T) ({ frames := fr2, cells := 0, slots := 0, locals := lo2 } : Room) 0 0 na := callB_of na hts (jl_goodIn hv.1) rfl rfl rfl (hts _ hv.2.1) (hts _ hv.2.2.1) ⟨hv.2.2.2.1, hv.2.2.2.2.1, hv.2.2.2.2.2⟩ ⟨Nat.le_trans hfr hr.1, Nat.le_trans hlo hr.2.1⟩
  exact jl_afterP (va_runV (As := As) (rest := rest) (b := ad k) (C := y.cls) ⟨h.1, h.2.1, h.2.2.2.1, h.2.2.2.2.1, hts⟩ (hC l D H.size) ⟨cb, hts _ hin, hts _ hsel⟩ ⟨jl_blind, va_recv h.2.2.2.2.2.2.1 hP hc (by rw [jl_get hk, hE]), hpre⟩ rfl hn hl.1 hst (lv_room hW) hd ⟨hr.2.2.1, hr.2.2.2⟩) hS hA hl kk
theorem jl_callSP (h : jl_ok x N ad K sa cc own n) {fr lo fr2 lo2 : Nat} (hr : jl_r x fr lo cells slots) {y : MethodName} {cc2 : ByteArray} {nL2 : Nat} {ret2 : Option FieldType} {index na : Nat} (hv : jl_v own index y cc2 nL2 ret2 na) (hin : Cond.static y ∈ jl_T) {As rest : List Value}
    (hC : ∀ l, jl_CP l K sa y cc2 nL2 ret2 fr2 lo2 N ad As E post) (hfr : fr2 + 1 ≤ fr) (hlo : 8 + (nL2 + 11) + lo2 ≤ lo) (hn : As.length = na) (hst : st = As.reverse ++ rest) (hW : (rest.map fun v => v.category).sum ≤ 8) (hd : decode cc pc = .ok (.invokestatic index, 3))
    (pc2 : Nat) (hpc : pc + 3 = pc2) (kk : ∀ v E2, post v E2 → jl_J x N ad cells slots E2 pc2 lc (v.toList ++ rest)) : jl_J x N ad cells slots E pc lc st := by
  subst hpc
  obtain ⟨p, l, e, R, s, m, args, below, meth, c, Q, D, A, nL⟩ := x
  intro H locs ls hl hP hS
  obtain ⟨hA, hpre⟩ := jl_pre h hP hS As
  have hts := h.2.2.2.2.2.1
  have cb : CallB R s args own index y cc2 nL2 ret2 (Cond.code y cc2 nL2 ret2 :: jl_T) ({ frames := fr2, cells := 0, slots := 0, locals := lo2 } : Room) 0 0 na := callB_of na hts (jl_goodIn hv.1) rfl rfl rfl (hts _ hv.2.1) (hts _ hv.2.2.1) ⟨hv.2.2.2.1, hv.2.2.2.2.1, hv.2.2.2.2.2⟩ ⟨Nat.le_trans hfr hr.1, Nat.le_trans hlo hr.2.1⟩
  exact jl_afterP (va_runS (As := As) (rest := rest) ⟨h.1, h.2.1, h.2.2.2.1, h.2.2.2.2.1, hts⟩ (hC l D H.size) ⟨cb, hts _ hin⟩ ⟨jl_blind, hpre⟩ rfl hn hl.1 hst (lv_room hW) hd ⟨hr.2.2.1, hr.2.2.2⟩) hS hA hl kk
/-- contents of int arrays matter up to the length alone -/
def jl_eqE (a c : va_E) : Prop := a = c ∨ ∃ (cA : ClassId) (len : Nat) (f g : Nat → Int32), a = .inl (cA, len, .inl f) ∧ c = .inl (cA, len, .inl g) ∧ ∀ j, j < len → f j = g j
theorem jl_ofFn {len : Nat} {f g : Nat → Int32} (h : ∀ j, j < len → f j = g j) : arrSlots len f = arrSlots len g := by
  unfold arrSlots
  congr 1
  funext j
  rw [h j.val j.isLt]
theorem jl_at_eq {D : va_G} {a : Nat} {e1 e2 : va_E} {H : Heap} (h : jl_eqE e1 e2) (hP : va_at D jl_cl (a, e1) H) : va_at D jl_cl (a, e2) H := by
  rcases h with rfl | ⟨cA, len, f, g, rfl, rfl, hfg⟩
  · exact hP
  · have e : vp_cell cA (len, .inl f) = vp_cell cA (len, .inl g) := by
      show arrV cA len (fun j => .int (f j)) = arrV cA len (fun j => .int (g j))
      unfold arrV
      congr 2
      funext j
      show Value.int (f j.val) = Value.int (g j.val)
      rw [hfg j.val j.isLt]
    have h1 : H[a]? = some (vp_cell cA (len, .inl f)) := hP
    show H[a]? = some (vp_cell cA (len, .inl g))
    rw [← e]
    exact h1
theorem jl_norm {E2 : Nat → va_E} (hE : ∀ k, k < N → jl_eqE (E k) (E2 k)) (kk : jl_J x N ad cells slots E2 pc lc st) : jl_J x N ad cells slots E pc lc st := by
  obtain ⟨p, l, e, R, s, m, args, below, meth, c, Q, D, A, nL⟩ := x
  intro H locs ls hl hP hS
  refine kk H locs ls hl (fun k q hk => ?_) hS
  obtain ⟨h1, rfl⟩ := jl_at hk
  exact jl_at_eq (hE k h1) (hP k _ (jl_get h1))
/-- an array's contents in other words -/
theorem jl_normA {k : Nat} {cA : ClassId} {len : Nat} {f g : Nat → Int32} (hfg : ∀ j, j < len → f j = g j) (kk : jl_J x N ad cells slots (va_up E k (.inl (cA, len, .inl g))) pc lc st) : jl_J x N ad cells slots (va_up E k (.inl (cA, len, .inl f))) pc lc st := by
  refine jl_norm (fun j _ => ?_) kk
  by_cases h : j = k
  · subst h
    rw [va_up_self, va_up_self]
    exact Or.inr ⟨cA, len, f, g, rfl, rfl, hfg⟩
  · rw [va_up_ne _ _ h, va_up_ne _ _ h]
    exact Or.inl rfl
end JP
/-- the lengths of the int arrays, by their cells -/
def gw_len (k : Nat) : Nat := if k < 24 then 18 else if k < 151 then 19 else if k < 153 then 40 else if k < 161 then 18 else if k = 161 then 36 else if k = 163 then 20 else if k = 166 then 151 else if k = 167 then 2718 else 18
/-- a cell is an int array -/
def gw_i (k : Nat) : Bool := decide (k ≠ 0) && decide (k ≠ 1) && decide (k ≠ 3) && decide (k ≠ 4) && decide (k ≠ 5) && decide (k ≠ 24) && decide (k ≠ 44) && decide (k ≠ 64) && decide (k ≠ 65) && decide (k ≠ 85) && decide (k ≠ 86) && decide (k ≠ 106) && decide (k ≠ 107) && decide (k ≠ 127) && decide (k ≠ 128) && decide (k ≠ 148) && decide (k ≠ 149) && decide (k ≠ 150) && decide (k ≠ 153) && decide (k ≠ 156) && decide (k ≠ 159) && decide (k ≠ 160)
/-- the world: cell 0 the object, 1 to 159 its parts, 160 the reference, 161 to 167 its arrays. I: the int fields by number (0 size; 1 count, 2 tooMany, 3 limit; 4 openCount, 5 length, 6 pairs of the first structure, 7 8 9 of the second; 10 typedCount; the reference's 11 n, 12 typed, 13 known, 14 least, 15 most, 16 ways, 17 listed); V: the int arrays by cell; L: keys; C: typed; G: the cells of structure and draft; R: the cells of regions -/
def gw (K : Nat → ClassId) (ad : Nat → Nat) (I : Nat → Int32) (V : Nat → Nat → Int32) (L : Nat → Int64) (C : Nat → Int32) (G : Nat → Nat) (R : Nat → Nat) : Nat → va_E := fun k =>
  if k = 0 then .inr (0, [.ref (ad 1), .ref (ad 4), .ref (ad 148), .ref (ad 159), .int (I 10), .ref (ad (G 0)), .ref (ad (G 1))]) else
  if k = 1 then .inr (1, [.ref (ad 2), .int (I 0)]) else
  if k = 3 then .inr (2, [.ref (ad 1)]) else
  if k = 4 then .inr (3, [.ref (ad 64), .ref (ad 127), .ref (ad 5), .ref (ad 106), .ref (ad 85), .ref (ad 24), .ref (ad 44), .ref (ad 1), .ref (ad 3)]) else
  if k = 5 then .inl (K 4, 18, .inr (.inr (.inr (.inr (fun i => if i < 18 then some (ad (6 + i)) else none))))) else
  if k = 24 then .inl (K 4, 19, .inr (.inr (.inr (.inr (fun i => if i < 19 then some (ad (25 + i)) else none))))) else
  if k = 44 then .inl (K 4, 19, .inr (.inr (.inr (.inr (fun i => if i < 19 then some (ad (45 + i)) else none))))) else
  if k = 64 then .inr (4, [.int (nI 0), .int (nI 0), .ref (ad 65), .null]) else
  if k = 65 then .inl (K 4, 19, .inr (.inr (.inr (.inr (fun i => if i < 19 then some (ad (66 + i)) else none))))) else
  if k = 85 then .inr (4, [.int (nI 1), .int (nI 4), .ref (ad 86), .null]) else
  if k = 86 then .inl (K 4, 19, .inr (.inr (.inr (.inr (fun i => if i < 19 then some (ad (87 + i)) else none))))) else
  if k = 106 then .inr (4, [.int (nI 1), .int (nI 4), .ref (ad 107), .ref (ad 85)]) else
  if k = 107 then .inl (K 4, 19, .inr (.inr (.inr (.inr (fun i => if i < 19 then some (ad (108 + i)) else none))))) else
  if k = 127 then .inr (4, [.int (nI 1), .int (nI 4), .ref (ad 128), .ref (ad 106)]) else
  if k = 128 then .inl (K 4, 19, .inr (.inr (.inr (.inr (fun i => if i < 19 then some (ad (129 + i)) else none))))) else
  if k = 148 then .inr (5, [.ref (ad 149), .int (I 1), .int (I 2), .int (I 3), .ref (ad 150), .ref (ad 151), .ref (ad 152), .ref (ad 1), .ref (ad 3), .ref (ad 4)]) else
  if k = 149 then .inl (K 2, 150, .inr (.inl L)) else
  if k = 150 then .inl (K 3, 40, .inr (.inr (.inr (.inr (fun i => some (ad (R i))))))) else
  if k = 153 then .inr (6, [.ref (ad 154), .ref (ad 155), .int (I 4), .int (I 5), .int (I 6), .ref (ad 1), .ref (ad 3)]) else
  if k = 156 then .inr (6, [.ref (ad 157), .ref (ad 158), .int (I 7), .int (I 8), .int (I 9), .ref (ad 1), .ref (ad 3)]) else
  if k = 159 then .inl (K 1, 20, .inl C) else
  if k = 160 then .inr (7, [.ref (ad 161), .int (I 11), .ref (ad 162), .int (I 12), .ref (ad 163), .ref (ad 164), .ref (ad 165), .int (I 13), .int (I 14), .int (I 15), .int (I 16), .int (I 17), .ref (ad 166), .ref (ad 167)]) else
  .inl (K 0, gw_len k, .inl (V k))
section GW
variable {K : Nat → ClassId} {ad : Nat → Nat} {I : Nat → Int32} {V : Nat → Nat → Int32} {L : Nat → Int64} {C : Nat → Int32} {G : Nat → Nat} {R : Nat → Nat}
theorem gw_int {k : Nat} (h : gw_i k = true) : gw K ad I V L C G R k = .inl (K 0, gw_len k, .inl (V k)) := by
  unfold gw_i at h
  simp only [Bool.and_eq_true, decide_eq_true_eq] at h
  simp only [gw, h, if_false]
theorem gw_setV {k : Nat} (h : gw_i k = true) (f : Nat → Int32) : va_up (gw K ad I V L C G R) k (.inl (K 0, gw_len k, .inl f)) = gw K ad I (va_up V k f) L C G R := by
  funext j
  by_cases hj : j = k
  · subst hj
    rw [va_up_self, gw_int h, va_up_self]
  · rw [va_up_ne _ _ hj]
    simp only [gw, va_up_ne _ _ hj]
theorem gw_set_size (z : Int32) : va_up (gw K ad I V L C G R) 1 (.inr (1, [.ref (ad 2), .int z])) = gw K ad (va_up I 0 z) V L C G R := by
  funext j
  by_cases hj : j = 1
  · subst hj
    rfl
  · rw [va_up_ne _ _ hj]
    simp only [gw, if_neg hj]
    all_goals rfl
theorem gw_set_count (z : Int32) : va_up (gw K ad I V L C G R) 148 (.inr (5, [.ref (ad 149), .int z, .int (I 2), .int (I 3), .ref (ad 150), .ref (ad 151), .ref (ad 152), .ref (ad 1), .ref (ad 3), .ref (ad 4)])) = gw K ad (va_up I 1 z) V L C G R := by
  funext j
  by_cases hj : j = 148
  · subst hj
    rfl
  · rw [va_up_ne _ _ hj]
    simp only [gw, if_neg hj]
    all_goals rfl
theorem gw_set_tooMany (z : Int32) : va_up (gw K ad I V L C G R) 148 (.inr (5, [.ref (ad 149), .int (I 1), .int z, .int (I 3), .ref (ad 150), .ref (ad 151), .ref (ad 152), .ref (ad 1), .ref (ad 3), .ref (ad 4)])) = gw K ad (va_up I 2 z) V L C G R := by
  funext j
  by_cases hj : j = 148
  · subst hj
    rfl
  · rw [va_up_ne _ _ hj]
    simp only [gw, if_neg hj]
    all_goals rfl
theorem gw_set_limit (z : Int32) : va_up (gw K ad I V L C G R) 148 (.inr (5, [.ref (ad 149), .int (I 1), .int (I 2), .int z, .ref (ad 150), .ref (ad 151), .ref (ad 152), .ref (ad 1), .ref (ad 3), .ref (ad 4)])) = gw K ad (va_up I 3 z) V L C G R := by
  funext j
  by_cases hj : j = 148
  · subst hj
    rfl
  · rw [va_up_ne _ _ hj]
    simp only [gw, if_neg hj]
    all_goals rfl
theorem gw_set_oc1 (z : Int32) : va_up (gw K ad I V L C G R) 153 (.inr (6, [.ref (ad 154), .ref (ad 155), .int z, .int (I 5), .int (I 6), .ref (ad 1), .ref (ad 3)])) = gw K ad (va_up I 4 z) V L C G R := by
  funext j
  by_cases hj : j = 153
  · subst hj
    rfl
  · rw [va_up_ne _ _ hj]
    simp only [gw, if_neg hj]
    all_goals rfl
theorem gw_set_len1 (z : Int32) : va_up (gw K ad I V L C G R) 153 (.inr (6, [.ref (ad 154), .ref (ad 155), .int (I 4), .int z, .int (I 6), .ref (ad 1), .ref (ad 3)])) = gw K ad (va_up I 5 z) V L C G R := by
  funext j
  by_cases hj : j = 153
  · subst hj
    rfl
  · rw [va_up_ne _ _ hj]
    simp only [gw, if_neg hj]
    all_goals rfl
theorem gw_set_prs1 (z : Int32) : va_up (gw K ad I V L C G R) 153 (.inr (6, [.ref (ad 154), .ref (ad 155), .int (I 4), .int (I 5), .int z, .ref (ad 1), .ref (ad 3)])) = gw K ad (va_up I 6 z) V L C G R := by
  funext j
  by_cases hj : j = 153
  · subst hj
    rfl
  · rw [va_up_ne _ _ hj]
    simp only [gw, if_neg hj]
    all_goals rfl
theorem gw_set_oc2 (z : Int32) : va_up (gw K ad I V L C G R) 156 (.inr (6, [.ref (ad 157), .ref (ad 158), .int z, .int (I 8), .int (I 9), .ref (ad 1), .ref (ad 3)])) = gw K ad (va_up I 7 z) V L C G R := by
  funext j
  by_cases hj : j = 156
  · subst hj
    rfl
  · rw [va_up_ne _ _ hj]
    simp only [gw, if_neg hj]
    all_goals rfl
theorem gw_set_len2 (z : Int32) : va_up (gw K ad I V L C G R) 156 (.inr (6, [.ref (ad 157), .ref (ad 158), .int (I 7), .int z, .int (I 9), .ref (ad 1), .ref (ad 3)])) = gw K ad (va_up I 8 z) V L C G R := by
  funext j
  by_cases hj : j = 156
  · subst hj
    rfl
  · rw [va_up_ne _ _ hj]
    simp only [gw, if_neg hj]
    all_goals rfl
theorem gw_set_prs2 (z : Int32) : va_up (gw K ad I V L C G R) 156 (.inr (6, [.ref (ad 157), .ref (ad 158), .int (I 7), .int (I 8), .int z, .ref (ad 1), .ref (ad 3)])) = gw K ad (va_up I 9 z) V L C G R := by
  funext j
  by_cases hj : j = 156
  · subst hj
    rfl
  · rw [va_up_ne _ _ hj]
    simp only [gw, if_neg hj]
    all_goals rfl
theorem gw_set_tc (z : Int32) : va_up (gw K ad I V L C G R) 0 (.inr (0, [.ref (ad 1), .ref (ad 4), .ref (ad 148), .ref (ad 159), .int z, .ref (ad (G 0)), .ref (ad (G 1))])) = gw K ad (va_up I 10 z) V L C G R := by
  funext j
  by_cases hj : j = 0
  · subst hj
    rfl
  · rw [va_up_ne _ _ hj]
    simp only [gw, if_neg hj]
    all_goals rfl
theorem gw_set_mn (z : Int32) : va_up (gw K ad I V L C G R) 160 (.inr (7, [.ref (ad 161), .int z, .ref (ad 162), .int (I 12), .ref (ad 163), .ref (ad 164), .ref (ad 165), .int (I 13), .int (I 14), .int (I 15), .int (I 16), .int (I 17), .ref (ad 166), .ref (ad 167)])) = gw K ad (va_up I 11 z) V L C G R := by
  funext j
  by_cases hj : j = 160
  · subst hj
    rfl
  · rw [va_up_ne _ _ hj]
    simp only [gw, if_neg hj]
    all_goals rfl
theorem gw_set_mtyped (z : Int32) : va_up (gw K ad I V L C G R) 160 (.inr (7, [.ref (ad 161), .int (I 11), .ref (ad 162), .int z, .ref (ad 163), .ref (ad 164), .ref (ad 165), .int (I 13), .int (I 14), .int (I 15), .int (I 16), .int (I 17), .ref (ad 166), .ref (ad 167)])) = gw K ad (va_up I 12 z) V L C G R := by
  funext j
  by_cases hj : j = 160
  · subst hj
    rfl
  · rw [va_up_ne _ _ hj]
    simp only [gw, if_neg hj]
    all_goals rfl
theorem gw_set_known (z : Int32) : va_up (gw K ad I V L C G R) 160 (.inr (7, [.ref (ad 161), .int (I 11), .ref (ad 162), .int (I 12), .ref (ad 163), .ref (ad 164), .ref (ad 165), .int z, .int (I 14), .int (I 15), .int (I 16), .int (I 17), .ref (ad 166), .ref (ad 167)])) = gw K ad (va_up I 13 z) V L C G R := by
  funext j
  by_cases hj : j = 160
  · subst hj
    rfl
  · rw [va_up_ne _ _ hj]
    simp only [gw, if_neg hj]
    all_goals rfl
theorem gw_set_mleast (z : Int32) : va_up (gw K ad I V L C G R) 160 (.inr (7, [.ref (ad 161), .int (I 11), .ref (ad 162), .int (I 12), .ref (ad 163), .ref (ad 164), .ref (ad 165), .int (I 13), .int z, .int (I 15), .int (I 16), .int (I 17), .ref (ad 166), .ref (ad 167)])) = gw K ad (va_up I 14 z) V L C G R := by
  funext j
  by_cases hj : j = 160
  · subst hj
    rfl
  · rw [va_up_ne _ _ hj]
    simp only [gw, if_neg hj]
    all_goals rfl
theorem gw_set_mmost (z : Int32) : va_up (gw K ad I V L C G R) 160 (.inr (7, [.ref (ad 161), .int (I 11), .ref (ad 162), .int (I 12), .ref (ad 163), .ref (ad 164), .ref (ad 165), .int (I 13), .int (I 14), .int z, .int (I 16), .int (I 17), .ref (ad 166), .ref (ad 167)])) = gw K ad (va_up I 15 z) V L C G R := by
  funext j
  by_cases hj : j = 160
  · subst hj
    rfl
  · rw [va_up_ne _ _ hj]
    simp only [gw, if_neg hj]
    all_goals rfl
theorem gw_set_mways (z : Int32) : va_up (gw K ad I V L C G R) 160 (.inr (7, [.ref (ad 161), .int (I 11), .ref (ad 162), .int (I 12), .ref (ad 163), .ref (ad 164), .ref (ad 165), .int (I 13), .int (I 14), .int (I 15), .int z, .int (I 17), .ref (ad 166), .ref (ad 167)])) = gw K ad (va_up I 16 z) V L C G R := by
  funext j
  by_cases hj : j = 160
  · subst hj
    rfl
  · rw [va_up_ne _ _ hj]
    simp only [gw, if_neg hj]
    all_goals rfl
theorem gw_set_mlisted (z : Int32) : va_up (gw K ad I V L C G R) 160 (.inr (7, [.ref (ad 161), .int (I 11), .ref (ad 162), .int (I 12), .ref (ad 163), .ref (ad 164), .ref (ad 165), .int (I 13), .int (I 14), .int (I 15), .int (I 16), .int z, .ref (ad 166), .ref (ad 167)])) = gw K ad (va_up I 17 z) V L C G R := by
  funext j
  by_cases hj : j = 160
  · subst hj
    rfl
  · rw [va_up_ne _ _ hj]
    simp only [gw, if_neg hj]
    all_goals rfl
theorem gw_set_L (f : Nat → Int64) : va_up (gw K ad I V L C G R) 149 (.inl (K 2, 150, .inr (.inl f))) = gw K ad I V f C G R := by
  funext j
  by_cases hj : j = 149
  · subst hj
    rfl
  · rw [va_up_ne _ _ hj]
    simp only [gw, if_neg hj]
    all_goals rfl
theorem gw_set_C (f : Nat → Int32) : va_up (gw K ad I V L C G R) 159 (.inl (K 1, 20, .inl f)) = gw K ad I V L f G R := by
  funext j
  by_cases hj : j = 159
  · subst hj
    rfl
  · rw [va_up_ne _ _ hj]
    simp only [gw, if_neg hj]
    all_goals rfl
theorem gw_set_R (f : Nat → Nat) : va_up (gw K ad I V L C G R) 150 (.inl (K 3, 40, .inr (.inr (.inr (.inr (fun i => some (ad (f i)))))))) = gw K ad I V L C G f := by
  funext j
  by_cases hj : j = 150
  · subst hj
    rfl
  · rw [va_up_ne _ _ hj]
    simp only [gw, if_neg hj]
    all_goals rfl
theorem gw_set_G0 (z : Nat) : va_up (gw K ad I V L C G R) 0 (.inr (0, [.ref (ad 1), .ref (ad 4), .ref (ad 148), .ref (ad 159), .int (I 10), .ref (ad z), .ref (ad (G 1))])) = gw K ad I V L C (va_up G 0 z) R := by
  funext j
  by_cases hj : j = 0
  · subst hj
    rfl
  · rw [va_up_ne _ _ hj]
    simp only [gw, if_neg hj]
    all_goals rfl
theorem gw_set_G1 (z : Nat) : va_up (gw K ad I V L C G R) 0 (.inr (0, [.ref (ad 1), .ref (ad 4), .ref (ad 148), .ref (ad 159), .int (I 10), .ref (ad (G 0)), .ref (ad z)])) = gw K ad I V L C (va_up G 1 z) R := by
  funext j
  by_cases hj : j = 0
  · subst hj
    rfl
  · rw [va_up_ne _ _ hj]
    simp only [gw, if_neg hj]
    all_goals rfl
theorem gw_i_6 : ∀ i, i < 18 → gw_i (6 + i) = true ∧ gw_len (6 + i) = 18 := by decide +kernel
theorem gw_i_25 : ∀ i, i < 19 → gw_i (25 + i) = true ∧ gw_len (25 + i) = 19 := by decide +kernel
theorem gw_i_45 : ∀ i, i < 19 → gw_i (45 + i) = true ∧ gw_len (45 + i) = 19 := by decide +kernel
theorem gw_i_66 : ∀ i, i < 19 → gw_i (66 + i) = true ∧ gw_len (66 + i) = 19 := by decide +kernel
theorem gw_i_87 : ∀ i, i < 19 → gw_i (87 + i) = true ∧ gw_len (87 + i) = 19 := by decide +kernel
theorem gw_i_108 : ∀ i, i < 19 → gw_i (108 + i) = true ∧ gw_len (108 + i) = 19 := by decide +kernel
theorem gw_i_129 : ∀ i, i < 19 → gw_i (129 + i) = true ∧ gw_len (129 + i) = 19 := by decide +kernel
end GW
end
section
/-! java.util.Arrays.fill, and FoldedStrand$Structure but for the energies: contracts. -/
abbrev bc_AR_fill : ByteArray := prog_11_method_103_code
abbrev yn_AR_fill : MethodName := ⟨"java/util/Arrays", "fill", "([II)V"⟩
theorem dc_AR_fill_0 : decode bc_AR_fill 0 = .ok (.iconst 0, 1) := by decide +kernel
theorem dc_AR_fill_1 : decode bc_AR_fill 1 = .ok (.istore_n 2, 1) := by decide +kernel
theorem dc_AR_fill_2 : decode bc_AR_fill 2 = .ok (.aload_n 0, 1) := by decide +kernel
theorem dc_AR_fill_3 : decode bc_AR_fill 3 = .ok (.arraylength, 1) := by decide +kernel
theorem dc_AR_fill_4 : decode bc_AR_fill 4 = .ok (.istore_n 3, 1) := by decide +kernel
theorem dc_AR_fill_5 : decode bc_AR_fill 5 = .ok (.iload_n 2, 1) := by decide +kernel
theorem dc_AR_fill_6 : decode bc_AR_fill 6 = .ok (.iload_n 3, 1) := by decide +kernel
theorem dc_AR_fill_7 : decode bc_AR_fill 7 = .ok (.if_icmp .ge 13, 3) := by decide +kernel
theorem dc_AR_fill_10 : decode bc_AR_fill 10 = .ok (.aload_n 0, 1) := by decide +kernel
theorem dc_AR_fill_11 : decode bc_AR_fill 11 = .ok (.iload_n 2, 1) := by decide +kernel
theorem dc_AR_fill_12 : decode bc_AR_fill 12 = .ok (.iload_n 1, 1) := by decide +kernel
theorem dc_AR_fill_13 : decode bc_AR_fill 13 = .ok (.iastore, 1) := by decide +kernel
theorem dc_AR_fill_14 : decode bc_AR_fill 14 = .ok (.iinc 2 1, 3) := by decide +kernel
theorem dc_AR_fill_17 : decode bc_AR_fill 17 = .ok (.goto (-12), 3) := by decide +kernel
theorem dc_AR_fill_20 : decode bc_AR_fill 20 = .ok (.return_, 1) := by decide +kernel
abbrev bc_SR_restart : ByteArray := prog_7_method_2_code
abbrev yn_SR_restart : MethodName := ⟨"FoldedStrand$Structure", "restart", "()V"⟩
theorem wl_SR_9 : Cond.fieldLink "FoldedStrand$Structure" 9 "FoldedStrand$Structure" "mates" "[I" ∈ jl_T := jl_T_of 161 (by decide +kernel) (by decide +kernel)
theorem vs_SR_29 : jl_v "FoldedStrand$Structure" 29 yn_AR_fill bc_AR_fill 4 none 2 := ⟨jl_T_of 160 (by decide +kernel) (by decide +kernel), jl_T_of 8 (by decide +kernel) (by decide +kernel), jl_T_of 158 (by decide +kernel) (by decide +kernel), by decide +kernel, by decide +kernel, by decide +kernel⟩
theorem vt_AR_fill : Cond.static yn_AR_fill ∈ jl_T := jl_T_of 159 (by decide +kernel) (by decide +kernel)
theorem wl_SR_35 : Cond.fieldLink "FoldedStrand$Structure" 35 "FoldedStrand$Structure" "openCount" "I" ∈ jl_T := jl_T_of 163 (by decide +kernel) (by decide +kernel)
theorem wl_SR_39 : Cond.fieldLink "FoldedStrand$Structure" 39 "FoldedStrand$Structure" "length" "I" ∈ jl_T := jl_T_of 164 (by decide +kernel) (by decide +kernel)
theorem wl_SR_42 : Cond.fieldLink "FoldedStrand$Structure" 42 "FoldedStrand$Structure" "pairs" "I" ∈ jl_T := jl_T_of 165 (by decide +kernel) (by decide +kernel)
theorem dc_SR_restart_0 : decode bc_SR_restart 0 = .ok (.aload_n 0, 1) := by decide +kernel
theorem dc_SR_restart_1 : decode bc_SR_restart 1 = .ok (.getfield 9, 3) := by decide +kernel
theorem dc_SR_restart_4 : decode bc_SR_restart 4 = .ok (.iconst (-1), 1) := by decide +kernel
theorem dc_SR_restart_5 : decode bc_SR_restart 5 = .ok (.invokestatic 29, 3) := by decide +kernel
theorem dc_SR_restart_8 : decode bc_SR_restart 8 = .ok (.aload_n 0, 1) := by decide +kernel
theorem dc_SR_restart_9 : decode bc_SR_restart 9 = .ok (.iconst 0, 1) := by decide +kernel
theorem dc_SR_restart_10 : decode bc_SR_restart 10 = .ok (.putfield 35, 3) := by decide +kernel
theorem dc_SR_restart_13 : decode bc_SR_restart 13 = .ok (.aload_n 0, 1) := by decide +kernel
theorem dc_SR_restart_14 : decode bc_SR_restart 14 = .ok (.iconst 0, 1) := by decide +kernel
theorem dc_SR_restart_15 : decode bc_SR_restart 15 = .ok (.putfield 39, 3) := by decide +kernel
theorem dc_SR_restart_18 : decode bc_SR_restart 18 = .ok (.aload_n 0, 1) := by decide +kernel
theorem dc_SR_restart_19 : decode bc_SR_restart 19 = .ok (.iconst 0, 1) := by decide +kernel
theorem dc_SR_restart_20 : decode bc_SR_restart 20 = .ok (.putfield 42, 3) := by decide +kernel
theorem dc_SR_restart_23 : decode bc_SR_restart 23 = .ok (.return_, 1) := by decide +kernel
abbrev bc_SR_pairCount : ByteArray := prog_7_method_6_code
abbrev yn_SR_pairCount : MethodName := ⟨"FoldedStrand$Structure", "pairCount", "()I"⟩
theorem dc_SR_pairCount_0 : decode bc_SR_pairCount 0 = .ok (.aload_n 0, 1) := by decide +kernel
theorem dc_SR_pairCount_1 : decode bc_SR_pairCount 1 = .ok (.getfield 42, 3) := by decide +kernel
theorem dc_SR_pairCount_4 : decode bc_SR_pairCount 4 = .ok (.ireturn, 1) := by decide +kernel
abbrev bc_SR_isPaired : ByteArray := prog_7_method_7_code
abbrev yn_SR_isPaired : MethodName := ⟨"FoldedStrand$Structure", "isPaired", "(I)Z"⟩
theorem dc_SR_isPaired_0 : decode bc_SR_isPaired 0 = .ok (.aload_n 0, 1) := by decide +kernel
theorem dc_SR_isPaired_1 : decode bc_SR_isPaired 1 = .ok (.getfield 9, 3) := by decide +kernel
theorem dc_SR_isPaired_4 : decode bc_SR_isPaired 4 = .ok (.iload_n 1, 1) := by decide +kernel
theorem dc_SR_isPaired_5 : decode bc_SR_isPaired 5 = .ok (.iaload, 1) := by decide +kernel
theorem dc_SR_isPaired_6 : decode bc_SR_isPaired 6 = .ok (.iconst (-1), 1) := by decide +kernel
theorem dc_SR_isPaired_7 : decode bc_SR_isPaired 7 = .ok (.if_icmp .eq 7, 3) := by decide +kernel
theorem dc_SR_isPaired_10 : decode bc_SR_isPaired 10 = .ok (.iconst 1, 1) := by decide +kernel
theorem dc_SR_isPaired_11 : decode bc_SR_isPaired 11 = .ok (.goto 4, 3) := by decide +kernel
theorem dc_SR_isPaired_14 : decode bc_SR_isPaired 14 = .ok (.iconst 0, 1) := by decide +kernel
theorem dc_SR_isPaired_15 : decode bc_SR_isPaired 15 = .ok (.ireturn, 1) := by decide +kernel
abbrev bc_SR_mateOf : ByteArray := prog_7_method_8_code
abbrev yn_SR_mateOf : MethodName := ⟨"FoldedStrand$Structure", "mateOf", "(I)I"⟩
theorem dc_SR_mateOf_0 : decode bc_SR_mateOf 0 = .ok (.aload_n 0, 1) := by decide +kernel
theorem dc_SR_mateOf_1 : decode bc_SR_mateOf 1 = .ok (.getfield 9, 3) := by decide +kernel
theorem dc_SR_mateOf_4 : decode bc_SR_mateOf 4 = .ok (.iload_n 1, 1) := by decide +kernel
theorem dc_SR_mateOf_5 : decode bc_SR_mateOf 5 = .ok (.iaload, 1) := by decide +kernel
theorem dc_SR_mateOf_6 : decode bc_SR_mateOf 6 = .ok (.ireturn, 1) := by decide +kernel
abbrev bc_SR_opensAt : ByteArray := prog_7_method_9_code
abbrev yn_SR_opensAt : MethodName := ⟨"FoldedStrand$Structure", "opensAt", "(I)Z"⟩
theorem dc_SR_opensAt_0 : decode bc_SR_opensAt 0 = .ok (.aload_n 0, 1) := by decide +kernel
theorem dc_SR_opensAt_1 : decode bc_SR_opensAt 1 = .ok (.getfield 9, 3) := by decide +kernel
theorem dc_SR_opensAt_4 : decode bc_SR_opensAt 4 = .ok (.iload_n 1, 1) := by decide +kernel
theorem dc_SR_opensAt_5 : decode bc_SR_opensAt 5 = .ok (.iaload, 1) := by decide +kernel
theorem dc_SR_opensAt_6 : decode bc_SR_opensAt 6 = .ok (.iload_n 1, 1) := by decide +kernel
theorem dc_SR_opensAt_7 : decode bc_SR_opensAt 7 = .ok (.if_icmp .le 7, 3) := by decide +kernel
theorem dc_SR_opensAt_10 : decode bc_SR_opensAt 10 = .ok (.iconst 1, 1) := by decide +kernel
theorem dc_SR_opensAt_11 : decode bc_SR_opensAt 11 = .ok (.goto 4, 3) := by decide +kernel
theorem dc_SR_opensAt_14 : decode bc_SR_opensAt 14 = .ok (.iconst 0, 1) := by decide +kernel
theorem dc_SR_opensAt_15 : decode bc_SR_opensAt 15 = .ok (.ireturn, 1) := by decide +kernel
abbrev bc_SR_isWhole : ByteArray := prog_7_method_5_code
abbrev yn_SR_isWhole : MethodName := ⟨"FoldedStrand$Structure", "isWhole", "()Z"⟩
theorem wl_SR_18 : Cond.fieldLink "FoldedStrand$Structure" 18 "FoldedStrand$Structure" "strand" "LFoldedStrand$Strand;" ∈ jl_T := jl_T_of 166 (by decide +kernel) (by decide +kernel)
theorem vs_SR_45 : jl_v "FoldedStrand$Structure" 45 yn_ST_size bc_ST_size 1 (some .int) 0 := ⟨jl_T_of 226 (by decide +kernel) (by decide +kernel), jl_T_of 2 (by decide +kernel) (by decide +kernel), jl_T_of 437 (by decide +kernel) (by decide +kernel), by decide +kernel, by decide +kernel, by decide +kernel⟩
theorem vi_ST_size : Cond.instanceMethod yn_ST_size ∈ jl_T := jl_T_of 224 (by decide +kernel) (by decide +kernel)
theorem vx_ST_size : Cond.selects "FoldedStrand$Strand" yn_ST_size yn_ST_size ∈ jl_T := jl_T_of 225 (by decide +kernel) (by decide +kernel)
theorem dc_SR_isWhole_0 : decode bc_SR_isWhole 0 = .ok (.aload_n 0, 1) := by decide +kernel
theorem dc_SR_isWhole_1 : decode bc_SR_isWhole 1 = .ok (.getfield 39, 3) := by decide +kernel
theorem dc_SR_isWhole_4 : decode bc_SR_isWhole 4 = .ok (.aload_n 0, 1) := by decide +kernel
theorem dc_SR_isWhole_5 : decode bc_SR_isWhole 5 = .ok (.getfield 18, 3) := by decide +kernel
theorem dc_SR_isWhole_8 : decode bc_SR_isWhole 8 = .ok (.invokevirtual 45, 3) := by decide +kernel
theorem dc_SR_isWhole_11 : decode bc_SR_isWhole 11 = .ok (.if_icmp .ne 14, 3) := by decide +kernel
theorem dc_SR_isWhole_14 : decode bc_SR_isWhole 14 = .ok (.aload_n 0, 1) := by decide +kernel
theorem dc_SR_isWhole_15 : decode bc_SR_isWhole 15 = .ok (.getfield 35, 3) := by decide +kernel
theorem dc_SR_isWhole_18 : decode bc_SR_isWhole 18 = .ok (.ifCond .ne 7, 3) := by decide +kernel
theorem dc_SR_isWhole_21 : decode bc_SR_isWhole 21 = .ok (.iconst 1, 1) := by decide +kernel
theorem dc_SR_isWhole_22 : decode bc_SR_isWhole 22 = .ok (.goto 4, 3) := by decide +kernel
theorem dc_SR_isWhole_25 : decode bc_SR_isWhole 25 = .ok (.iconst 0, 1) := by decide +kernel
theorem dc_SR_isWhole_26 : decode bc_SR_isWhole 26 = .ok (.ireturn, 1) := by decide +kernel
abbrev bc_SR_closeLast : ByteArray := prog_7_method_4_code
abbrev yn_SR_closeLast : MethodName := ⟨"FoldedStrand$Structure", "closeLast", "()Z"⟩
theorem wl_SR_15 : Cond.fieldLink "FoldedStrand$Structure" 15 "FoldedStrand$Structure" "opens" "[I" ∈ jl_T := jl_T_of 162 (by decide +kernel) (by decide +kernel)
theorem vs_SR_53 : jl_v "FoldedStrand$Structure" 53 yn_ST_canPair bc_ST_canPair 3 (some .boolean) 2 := ⟨jl_T_of 230 (by decide +kernel) (by decide +kernel), jl_T_of 2 (by decide +kernel) (by decide +kernel), jl_T_of 442 (by decide +kernel) (by decide +kernel), by decide +kernel, by decide +kernel, by decide +kernel⟩
theorem vi_ST_canPair : Cond.instanceMethod yn_ST_canPair ∈ jl_T := jl_T_of 228 (by decide +kernel) (by decide +kernel)
theorem vx_ST_canPair : Cond.selects "FoldedStrand$Strand" yn_ST_canPair yn_ST_canPair ∈ jl_T := jl_T_of 229 (by decide +kernel) (by decide +kernel)
theorem dc_SR_closeLast_0 : decode bc_SR_closeLast 0 = .ok (.aload_n 0, 1) := by decide +kernel
theorem dc_SR_closeLast_1 : decode bc_SR_closeLast 1 = .ok (.getfield 35, 3) := by decide +kernel
theorem dc_SR_closeLast_4 : decode bc_SR_closeLast 4 = .ok (.ifCond .gt 5, 3) := by decide +kernel
theorem dc_SR_closeLast_7 : decode bc_SR_closeLast 7 = .ok (.iconst 0, 1) := by decide +kernel
theorem dc_SR_closeLast_8 : decode bc_SR_closeLast 8 = .ok (.ireturn, 1) := by decide +kernel
theorem dc_SR_closeLast_9 : decode bc_SR_closeLast 9 = .ok (.aload_n 0, 1) := by decide +kernel
theorem dc_SR_closeLast_10 : decode bc_SR_closeLast 10 = .ok (.getfield 15, 3) := by decide +kernel
theorem dc_SR_closeLast_13 : decode bc_SR_closeLast 13 = .ok (.aload_n 0, 1) := by decide +kernel
theorem dc_SR_closeLast_14 : decode bc_SR_closeLast 14 = .ok (.getfield 35, 3) := by decide +kernel
theorem dc_SR_closeLast_17 : decode bc_SR_closeLast 17 = .ok (.iconst 1, 1) := by decide +kernel
theorem dc_SR_closeLast_18 : decode bc_SR_closeLast 18 = .ok (.isub, 1) := by decide +kernel
theorem dc_SR_closeLast_19 : decode bc_SR_closeLast 19 = .ok (.iaload, 1) := by decide +kernel
theorem dc_SR_closeLast_20 : decode bc_SR_closeLast 20 = .ok (.istore_n 1, 1) := by decide +kernel
theorem dc_SR_closeLast_21 : decode bc_SR_closeLast 21 = .ok (.aload_n 0, 1) := by decide +kernel
theorem dc_SR_closeLast_22 : decode bc_SR_closeLast 22 = .ok (.getfield 18, 3) := by decide +kernel
theorem dc_SR_closeLast_25 : decode bc_SR_closeLast 25 = .ok (.iload_n 1, 1) := by decide +kernel
theorem dc_SR_closeLast_26 : decode bc_SR_closeLast 26 = .ok (.aload_n 0, 1) := by decide +kernel
theorem dc_SR_closeLast_27 : decode bc_SR_closeLast 27 = .ok (.getfield 39, 3) := by decide +kernel
theorem dc_SR_closeLast_30 : decode bc_SR_closeLast 30 = .ok (.invokevirtual 53, 3) := by decide +kernel
theorem dc_SR_closeLast_33 : decode bc_SR_closeLast 33 = .ok (.ifCond .ne 5, 3) := by decide +kernel
theorem dc_SR_closeLast_36 : decode bc_SR_closeLast 36 = .ok (.iconst 0, 1) := by decide +kernel
theorem dc_SR_closeLast_37 : decode bc_SR_closeLast 37 = .ok (.ireturn, 1) := by decide +kernel
theorem dc_SR_closeLast_38 : decode bc_SR_closeLast 38 = .ok (.aload_n 0, 1) := by decide +kernel
theorem dc_SR_closeLast_39 : decode bc_SR_closeLast 39 = .ok (.dup, 1) := by decide +kernel
theorem dc_SR_closeLast_40 : decode bc_SR_closeLast 40 = .ok (.getfield 35, 3) := by decide +kernel
theorem dc_SR_closeLast_43 : decode bc_SR_closeLast 43 = .ok (.iconst 1, 1) := by decide +kernel
theorem dc_SR_closeLast_44 : decode bc_SR_closeLast 44 = .ok (.isub, 1) := by decide +kernel
theorem dc_SR_closeLast_45 : decode bc_SR_closeLast 45 = .ok (.putfield 35, 3) := by decide +kernel
theorem dc_SR_closeLast_48 : decode bc_SR_closeLast 48 = .ok (.aload_n 0, 1) := by decide +kernel
theorem dc_SR_closeLast_49 : decode bc_SR_closeLast 49 = .ok (.getfield 9, 3) := by decide +kernel
theorem dc_SR_closeLast_52 : decode bc_SR_closeLast 52 = .ok (.iload_n 1, 1) := by decide +kernel
theorem dc_SR_closeLast_53 : decode bc_SR_closeLast 53 = .ok (.aload_n 0, 1) := by decide +kernel
theorem dc_SR_closeLast_54 : decode bc_SR_closeLast 54 = .ok (.getfield 39, 3) := by decide +kernel
theorem dc_SR_closeLast_57 : decode bc_SR_closeLast 57 = .ok (.iastore, 1) := by decide +kernel
theorem dc_SR_closeLast_58 : decode bc_SR_closeLast 58 = .ok (.aload_n 0, 1) := by decide +kernel
theorem dc_SR_closeLast_59 : decode bc_SR_closeLast 59 = .ok (.getfield 9, 3) := by decide +kernel
theorem dc_SR_closeLast_62 : decode bc_SR_closeLast 62 = .ok (.aload_n 0, 1) := by decide +kernel
theorem dc_SR_closeLast_63 : decode bc_SR_closeLast 63 = .ok (.getfield 39, 3) := by decide +kernel
theorem dc_SR_closeLast_66 : decode bc_SR_closeLast 66 = .ok (.iload_n 1, 1) := by decide +kernel
theorem dc_SR_closeLast_67 : decode bc_SR_closeLast 67 = .ok (.iastore, 1) := by decide +kernel
theorem dc_SR_closeLast_68 : decode bc_SR_closeLast 68 = .ok (.aload_n 0, 1) := by decide +kernel
theorem dc_SR_closeLast_69 : decode bc_SR_closeLast 69 = .ok (.dup, 1) := by decide +kernel
theorem dc_SR_closeLast_70 : decode bc_SR_closeLast 70 = .ok (.getfield 42, 3) := by decide +kernel
theorem dc_SR_closeLast_73 : decode bc_SR_closeLast 73 = .ok (.iconst 1, 1) := by decide +kernel
theorem dc_SR_closeLast_74 : decode bc_SR_closeLast 74 = .ok (.iadd, 1) := by decide +kernel
theorem dc_SR_closeLast_75 : decode bc_SR_closeLast 75 = .ok (.putfield 42, 3) := by decide +kernel
theorem dc_SR_closeLast_78 : decode bc_SR_closeLast 78 = .ok (.iconst 1, 1) := by decide +kernel
theorem dc_SR_closeLast_79 : decode bc_SR_closeLast 79 = .ok (.ireturn, 1) := by decide +kernel
abbrev bc_SR_add : ByteArray := prog_7_method_3_code
abbrev yn_SR_add : MethodName := ⟨"FoldedStrand$Structure", "add", "(C)Z"⟩
theorem vs_SR_49 : jl_v "FoldedStrand$Structure" 49 yn_SR_closeLast bc_SR_closeLast 2 (some .boolean) 0 := ⟨jl_T_of 441 (by decide +kernel) (by decide +kernel), jl_T_of 7 (by decide +kernel) (by decide +kernel), jl_T_of 438 (by decide +kernel) (by decide +kernel), by decide +kernel, by decide +kernel, by decide +kernel⟩
theorem vi_SR_closeLast : Cond.instanceMethod yn_SR_closeLast ∈ jl_T := jl_T_of 440 (by decide +kernel) (by decide +kernel)
theorem vx_SR_closeLast : Cond.selects "FoldedStrand$Structure" yn_SR_closeLast yn_SR_closeLast ∈ jl_T := jl_T_sel 10 (by decide +kernel) (by decide +kernel)
theorem dc_SR_add_0 : decode bc_SR_add 0 = .ok (.aload_n 0, 1) := by decide +kernel
theorem dc_SR_add_1 : decode bc_SR_add 1 = .ok (.getfield 39, 3) := by decide +kernel
theorem dc_SR_add_4 : decode bc_SR_add 4 = .ok (.aload_n 0, 1) := by decide +kernel
theorem dc_SR_add_5 : decode bc_SR_add 5 = .ok (.getfield 18, 3) := by decide +kernel
theorem dc_SR_add_8 : decode bc_SR_add 8 = .ok (.invokevirtual 45, 3) := by decide +kernel
theorem dc_SR_add_11 : decode bc_SR_add 11 = .ok (.if_icmp .lt 5, 3) := by decide +kernel
theorem dc_SR_add_14 : decode bc_SR_add 14 = .ok (.iconst 0, 1) := by decide +kernel
theorem dc_SR_add_15 : decode bc_SR_add 15 = .ok (.ireturn, 1) := by decide +kernel
theorem dc_SR_add_16 : decode bc_SR_add 16 = .ok (.iload_n 1, 1) := by decide +kernel
theorem dc_SR_add_17 : decode bc_SR_add 17 = .ok (.bipush 40, 2) := by decide +kernel
theorem dc_SR_add_19 : decode bc_SR_add 19 = .ok (.if_icmp .ne 29, 3) := by decide +kernel
theorem dc_SR_add_22 : decode bc_SR_add 22 = .ok (.aload_n 0, 1) := by decide +kernel
theorem dc_SR_add_23 : decode bc_SR_add 23 = .ok (.getfield 15, 3) := by decide +kernel
theorem dc_SR_add_26 : decode bc_SR_add 26 = .ok (.aload_n 0, 1) := by decide +kernel
theorem dc_SR_add_27 : decode bc_SR_add 27 = .ok (.getfield 35, 3) := by decide +kernel
theorem dc_SR_add_30 : decode bc_SR_add 30 = .ok (.aload_n 0, 1) := by decide +kernel
theorem dc_SR_add_31 : decode bc_SR_add 31 = .ok (.getfield 39, 3) := by decide +kernel
theorem dc_SR_add_34 : decode bc_SR_add 34 = .ok (.iastore, 1) := by decide +kernel
theorem dc_SR_add_35 : decode bc_SR_add 35 = .ok (.aload_n 0, 1) := by decide +kernel
theorem dc_SR_add_36 : decode bc_SR_add 36 = .ok (.dup, 1) := by decide +kernel
theorem dc_SR_add_37 : decode bc_SR_add 37 = .ok (.getfield 35, 3) := by decide +kernel
theorem dc_SR_add_40 : decode bc_SR_add 40 = .ok (.iconst 1, 1) := by decide +kernel
theorem dc_SR_add_41 : decode bc_SR_add 41 = .ok (.iadd, 1) := by decide +kernel
theorem dc_SR_add_42 : decode bc_SR_add 42 = .ok (.putfield 35, 3) := by decide +kernel
theorem dc_SR_add_45 : decode bc_SR_add 45 = .ok (.goto 26, 3) := by decide +kernel
theorem dc_SR_add_48 : decode bc_SR_add 48 = .ok (.iload_n 1, 1) := by decide +kernel
theorem dc_SR_add_49 : decode bc_SR_add 49 = .ok (.bipush 41, 2) := by decide +kernel
theorem dc_SR_add_51 : decode bc_SR_add 51 = .ok (.if_icmp .ne 12, 3) := by decide +kernel
theorem dc_SR_add_54 : decode bc_SR_add 54 = .ok (.aload_n 0, 1) := by decide +kernel
theorem dc_SR_add_55 : decode bc_SR_add 55 = .ok (.invokevirtual 49, 3) := by decide +kernel
theorem dc_SR_add_58 : decode bc_SR_add 58 = .ok (.ifCond .ne 13, 3) := by decide +kernel
theorem dc_SR_add_61 : decode bc_SR_add 61 = .ok (.iconst 0, 1) := by decide +kernel
theorem dc_SR_add_62 : decode bc_SR_add 62 = .ok (.ireturn, 1) := by decide +kernel
theorem dc_SR_add_63 : decode bc_SR_add 63 = .ok (.iload_n 1, 1) := by decide +kernel
theorem dc_SR_add_64 : decode bc_SR_add 64 = .ok (.bipush 46, 2) := by decide +kernel
theorem dc_SR_add_66 : decode bc_SR_add 66 = .ok (.if_icmp .eq 5, 3) := by decide +kernel
theorem dc_SR_add_69 : decode bc_SR_add 69 = .ok (.iconst 0, 1) := by decide +kernel
theorem dc_SR_add_70 : decode bc_SR_add 70 = .ok (.ireturn, 1) := by decide +kernel
theorem dc_SR_add_71 : decode bc_SR_add 71 = .ok (.aload_n 0, 1) := by decide +kernel
theorem dc_SR_add_72 : decode bc_SR_add 72 = .ok (.dup, 1) := by decide +kernel
theorem dc_SR_add_73 : decode bc_SR_add 73 = .ok (.getfield 39, 3) := by decide +kernel
theorem dc_SR_add_76 : decode bc_SR_add 76 = .ok (.iconst 1, 1) := by decide +kernel
theorem dc_SR_add_77 : decode bc_SR_add 77 = .ok (.iadd, 1) := by decide +kernel
theorem dc_SR_add_78 : decode bc_SR_add 78 = .ok (.putfield 39, 3) := by decide +kernel
theorem dc_SR_add_81 : decode bc_SR_add 81 = .ok (.iconst 1, 1) := by decide +kernel
theorem dc_SR_add_82 : decode bc_SR_add 82 = .ok (.ireturn, 1) := by decide +kernel
theorem gw_at {K : Nat → ClassId} {ad : Nat → Nat} {I : Nat → Int32} {V : Nat → Nat → Int32} {L : Nat → Int64} {C : Nat → Int32} {G : Nat → Nat} {R : Nat → Nat} {k len : Nat} {f : Nat → Int32} (h : gw_i k = true) (hl : gw_len k = len) (hV : V k = f) : gw K ad I V L C G R k = .inl (K 0, len, .inl f) := by rw [gw_int h, hl, hV]
theorem sr_iI_le {a : Int} {i : Nat} (h1 : -1 ≤ a) (h2 : a < 18) (hi : i < 18) : iI a ≤ nI i ↔ a ≤ i := by
  rw [← iI_nat, iI_le (by omega) (by omega) (by omega) (by omega)]
theorem sr_iI_m1 {a : Int} (h1 : -1 ≤ a) (h2 : a < 18) : iI a = (-1 : Int32) ↔ a = -1 := by
  constructor
  · intro h
    have := congrArg Int32.toInt h
    rw [iI_toInt (by omega) (by omega)] at this
    exact this
  · intro h
    rw [h]
    rfl
section SR
variable (l : Launch) {K : Nat → ClassId} {sa : Nat → Nat} {N : Nat} {ad : Nat → Nat} {E : Nat → va_E}
theorem c_AR_fill {m len : Nat} (hm : m < N) {f : Nat → Int32} (hA : E m = .inl (K 0, len, .inl f)) (h31 : len < 2 ^ 31) (v : Int32) : jl_C l K sa yn_AR_fill bc_AR_fill 4 none 0 0 N ad [.ref (ad m), .int v] E none (va_up E m (.inl (K 0, len, .inl (fun _ => v)))) := by
  refine jl_enter (by decide) (Nat.le_of_ble_eq_true rfl) (fun x h he hr => ?_)
  show jl_J x N ad 0 0 E 0 [(0, .ref (ad m)), (1, .int v)] []
  have loop : ∀ d k : Nat, k + d = len → jl_J x N ad 0 0 (va_up E m (.inl (K 0, len, .inl (fun j => if j < k then v else f j)))) 5 [(3, .int (nI len)), (2, .int (nI k)), (0, .ref (ad m)), (1, .int v)] [] := by
    intro d
    induction d with
    | zero =>
      intro k hk
      have hk : k = len := by omega
      subst hk
      refine jl_normA (g := fun _ => v) (fun j hj => by simp [hj]) ?_
      refine jl_iload_n (i := 2) h rfl rfl dc_AR_fill_5 6 rfl ?_
      refine jl_iload_n (i := 3) h rfl rfl dc_AR_fill_6 7 rfl ?_
      refine jl_icmp_ge h 20 (by decide) dc_AR_fill_7 10 rfl (fun c7 => ?_) (fun c7 => absurd (nI_le (Nat.le_refl _) h31) c7)
      exact jl_vret h he (rfl) (rfl) dc_AR_fill_20
    | succ d ih =>
      intro k hk
      refine jl_iload_n (i := 2) h rfl rfl dc_AR_fill_5 6 rfl ?_
      refine jl_iload_n (i := 3) h rfl rfl dc_AR_fill_6 7 rfl ?_
      refine jl_icmp_ge h 20 (by decide) dc_AR_fill_7 10 rfl (fun c7 => absurd c7 (nI_ge (by omega) h31)) (fun c7 => ?_)
      refine jl_aload_n (i := 0) h rfl rfl dc_AR_fill_10 11 rfl ?_
      refine jl_iload_n (i := 2) h rfl rfl dc_AR_fill_11 12 rfl ?_
      refine jl_iload_n (i := 1) h rfl rfl dc_AR_fill_12 13 rfl ?_
      refine jl_iast h (k) (by exact rfl) (hm) (by exact va_up_self _ _ _) (by exact by omega) (by first | decide | assumption) dc_AR_fill_13 (rfl) 14 rfl ?_
      rw [bx_uu]
      refine jl_normA (g := fun j => if j < k + 1 then v else f j) (fun j hj => by
        unfold upd
        by_cases e : j = k
        · subst e; simp
        · by_cases e2 : j < k
          · simp [e, e2, Nat.lt_succ_of_lt e2]
          · simp [e, e2, show ¬ j < k + 1 by omega]) ?_
      refine jl_iinc (i := 2) (d := 1) (lc2 := [(2, _), (3, _), (0, _), (1, _)]) (v2 := nI (k + 1)) h (by decide) rfl (nI_1 k) rfl dc_AR_fill_14 17 rfl ?_
      refine jl_goto h 5 (by decide) dc_AR_fill_17 ?_
      refine jl_sub (lc2 := [(3, _), (2, _), (0, _), (1, _)]) [1, 0, 2, 3] rfl ?_
      exact ih (k + 1) (by omega)
  have h0 : va_up E m (.inl (K 0, len, .inl (fun j => if j < 0 then v else f j))) = E := by
    funext j
    unfold va_up
    split
    · rename_i e
      rw [e, hA]
      simp
    · rfl
  have h00 := loop len 0 (by omega)
  rw [h0] at h00
  refine jl_iconst (v := nI 0) h (by decide) dc_AR_fill_0 1 rfl ?_
  refine jl_istore_n (i := 2) (lc2 := [(2, _), (0, _), (1, _)]) h rfl (by decide) rfl dc_AR_fill_1 2 rfl ?_
  refine jl_aload_n (i := 0) h rfl rfl dc_AR_fill_2 3 rfl ?_
  refine jl_alen (t0 := 0) (v := nI len) h (hm) (by exact hA) (by rfl) (by exact rfl) dc_AR_fill_3 4 rfl ?_
  refine jl_istore_n (i := 3) (lc2 := [(3, _), (2, _), (0, _), (1, _)]) h rfl (by decide) rfl dc_AR_fill_4 5 rfl ?_
  exact h00
theorem c_SR1_restart (hN : 155 < N) {a c d : Int32} {f : Nat → Int32} (hSR : E 153 = .inr (6, [.ref (ad 154), .ref (ad 155), .int a, .int c, .int d, .ref (ad 1), .ref (ad 3)])) (hmates : E 154 = .inl (K 0, 18, .inl f)) : jl_C l K sa yn_SR_restart bc_SR_restart 1 none 1 25 N ad [.ref (ad 153)] E none (va_up (va_up E 154 (.inl (K 0, 18, .inl (fun _ => -1)))) 153 (.inr (6, [.ref (ad 154), .ref (ad 155), .int 0, .int 0, .int 0, .ref (ad 1), .ref (ad 3)]))) := by
  refine jl_enter (by decide) (Nat.le_of_ble_eq_true rfl) (fun x h he hr => ?_)
  show jl_J x N ad 0 0 E 0 [(0, .ref (ad 153))] []
  refine jl_aload_n (i := 0) h rfl rfl dc_SR_restart_0 1 rfl ?_
  refine jl_getf h nm_c_SR 0 wl_SR_9 (by omega) (by decide) (by exact hSR) (by rfl) dc_SR_restart_1 4 rfl ?_
  refine jl_iconst (v := -1) h (by decide) dc_SR_restart_4 5 rfl ?_
  refine jl_callS (As := [_, _]) (rest := []) h hr vs_SR_29 vt_AR_fill (fun l => c_AR_fill l (by omega) hmates (by decide) _) (by first | decide | omega) (by first | decide | omega) rfl rfl (Nat.le_of_ble_eq_true rfl) dc_SR_restart_5 (res := []) rfl 8 rfl ?_
  refine jl_aload_n (i := 0) h rfl rfl dc_SR_restart_8 9 rfl ?_
  refine jl_iconst (v := 0) h (by decide) dc_SR_restart_9 10 rfl ?_
  refine jl_putf (fs2 := [_, _, _, _, _, _, _]) h nm_c_SR 2 wl_SR_35 (by omega) (by decide) rfl (by exact hSR) (by rfl) (by rfl) (by exact Nat.le_of_ble_eq_true rfl) (by rfl) dc_SR_restart_10 rfl 13 rfl ?_
  refine jl_aload_n (i := 0) h rfl rfl dc_SR_restart_13 14 rfl ?_
  refine jl_iconst (v := 0) h (by decide) dc_SR_restart_14 15 rfl ?_
  refine jl_putf (fs2 := [_, _, _, _, _, _, _]) h nm_c_SR 3 wl_SR_39 (by omega) (by decide) rfl (by exact rfl) (by rfl) (by rfl) (by exact Nat.le_of_ble_eq_true rfl) (by rfl) dc_SR_restart_15 rfl 18 rfl ?_
  refine jl_aload_n (i := 0) h rfl rfl dc_SR_restart_18 19 rfl ?_
  refine jl_iconst (v := 0) h (by decide) dc_SR_restart_19 20 rfl ?_
  refine jl_putf (fs2 := [_, _, _, _, _, _, _]) h nm_c_SR 4 wl_SR_42 (by omega) (by decide) rfl (by exact rfl) (by rfl) (by rfl) (by exact Nat.le_of_ble_eq_true rfl) (by rfl) dc_SR_restart_20 rfl 23 rfl ?_
  exact jl_vret h he (rfl) (by rw [bx_uu, bx_uu]) dc_SR_restart_23
theorem c_SR2_restart (hN : 158 < N) {a c d : Int32} {f : Nat → Int32} (hSR : E 156 = .inr (6, [.ref (ad 157), .ref (ad 158), .int a, .int c, .int d, .ref (ad 1), .ref (ad 3)])) (hmates : E 157 = .inl (K 0, 18, .inl f)) : jl_C l K sa yn_SR_restart bc_SR_restart 1 none 1 25 N ad [.ref (ad 156)] E none (va_up (va_up E 157 (.inl (K 0, 18, .inl (fun _ => -1)))) 156 (.inr (6, [.ref (ad 157), .ref (ad 158), .int 0, .int 0, .int 0, .ref (ad 1), .ref (ad 3)]))) := by
  refine jl_enter (by decide) (Nat.le_of_ble_eq_true rfl) (fun x h he hr => ?_)
  show jl_J x N ad 0 0 E 0 [(0, .ref (ad 156))] []
  refine jl_aload_n (i := 0) h rfl rfl dc_SR_restart_0 1 rfl ?_
  refine jl_getf h nm_c_SR 0 wl_SR_9 (by omega) (by decide) (by exact hSR) (by rfl) dc_SR_restart_1 4 rfl ?_
  refine jl_iconst (v := -1) h (by decide) dc_SR_restart_4 5 rfl ?_
  refine jl_callS (As := [_, _]) (rest := []) h hr vs_SR_29 vt_AR_fill (fun l => c_AR_fill l (by omega) hmates (by decide) _) (by first | decide | omega) (by first | decide | omega) rfl rfl (Nat.le_of_ble_eq_true rfl) dc_SR_restart_5 (res := []) rfl 8 rfl ?_
  refine jl_aload_n (i := 0) h rfl rfl dc_SR_restart_8 9 rfl ?_
  refine jl_iconst (v := 0) h (by decide) dc_SR_restart_9 10 rfl ?_
  refine jl_putf (fs2 := [_, _, _, _, _, _, _]) h nm_c_SR 2 wl_SR_35 (by omega) (by decide) rfl (by exact hSR) (by rfl) (by rfl) (by exact Nat.le_of_ble_eq_true rfl) (by rfl) dc_SR_restart_10 rfl 13 rfl ?_
  refine jl_aload_n (i := 0) h rfl rfl dc_SR_restart_13 14 rfl ?_
  refine jl_iconst (v := 0) h (by decide) dc_SR_restart_14 15 rfl ?_
  refine jl_putf (fs2 := [_, _, _, _, _, _, _]) h nm_c_SR 3 wl_SR_39 (by omega) (by decide) rfl (by exact rfl) (by rfl) (by rfl) (by exact Nat.le_of_ble_eq_true rfl) (by rfl) dc_SR_restart_15 rfl 18 rfl ?_
  refine jl_aload_n (i := 0) h rfl rfl dc_SR_restart_18 19 rfl ?_
  refine jl_iconst (v := 0) h (by decide) dc_SR_restart_19 20 rfl ?_
  refine jl_putf (fs2 := [_, _, _, _, _, _, _]) h nm_c_SR 4 wl_SR_42 (by omega) (by decide) rfl (by exact rfl) (by rfl) (by rfl) (by exact Nat.le_of_ble_eq_true rfl) (by rfl) dc_SR_restart_20 rfl 23 rfl ?_
  exact jl_vret h he (rfl) (by rw [bx_uu, bx_uu]) dc_SR_restart_23
variable {I : Nat → Int32} {V : Nat → Nat → Int32} {L : Nat → Int64} {C : Nat → Int32} {G : Nat → Nat} {R : Nat → Nat} {n : Nat} {b : Nat → Nat} {w : Nat → Int} {f : Nat → Nat}
theorem c_SR1_pairCount : jl_C l K sa yn_SR_pairCount bc_SR_pairCount 1 (some .int) 0 0 168 ad [.ref (ad 153)] (gw K ad I V L C G R) (some (.int (I 6))) (gw K ad I V L C G R) := by
  refine jl_enter (by decide) (Nat.le_of_ble_eq_true rfl) (fun x h he hr => ?_)
  show jl_J x 168 ad 0 0 (gw K ad I V L C G R) 0 [(0, .ref (ad 153))] []
  refine jl_aload_n (i := 0) h rfl rfl dc_SR_pairCount_0 1 rfl ?_
  refine jl_getf h nm_c_SR 4 wl_SR_42 (by omega) (by decide) (by exact rfl) (by rfl) dc_SR_pairCount_1 4 rfl ?_
  exact jl_zret h he rfl (rfl) (rfl) dc_SR_pairCount_4
theorem c_SR1_mateOf (hV : V 154 = fun i => iI (w i)) {i : Nat} (hi : i < 18) : jl_C l K sa yn_SR_mateOf bc_SR_mateOf 2 (some .int) 0 0 168 ad [.ref (ad 153), .int (nI i)] (gw K ad I V L C G R) (some (.int (iI (w i)))) (gw K ad I V L C G R) := by
  refine jl_enter (by decide) (Nat.le_of_ble_eq_true rfl) (fun x h he hr => ?_)
  show jl_J x 168 ad 0 0 (gw K ad I V L C G R) 0 [(0, .ref (ad 153)), (1, .int (nI i))] []
  refine jl_aload_n (i := 0) h rfl rfl dc_SR_mateOf_0 1 rfl ?_
  refine jl_getf h nm_c_SR 0 wl_SR_9 (by omega) (by decide) (by exact rfl) (by rfl) dc_SR_mateOf_1 4 rfl ?_
  refine jl_iload_n (i := 1) h rfl rfl dc_SR_mateOf_4 5 rfl ?_
  refine jl_iald (v := iI (w i)) h (i) (by exact rfl) (by omega) (by exact gw_at rfl rfl hV) (by exact hi) (by first | decide | assumption) (by exact rfl) dc_SR_mateOf_5 6 rfl ?_
  exact jl_zret h he rfl (rfl) (rfl) dc_SR_mateOf_6
theorem c_SR1_isPaired (hV : V 154 = fun i => iI (w i)) {i : Nat} (hi : i < 18) (h1 : -1 ≤ w i) (h2 : w i < 18) : jl_C l K sa yn_SR_isPaired bc_SR_isPaired 2 (some .boolean) 0 0 168 ad [.ref (ad 153), .int (nI i)] (gw K ad I V L C G R) (some (.int (st_bI (decide (w i ≠ -1))))) (gw K ad I V L C G R) := by
  refine jl_enter (by decide) (Nat.le_of_ble_eq_true rfl) (fun x h he hr => ?_)
  show jl_J x 168 ad 0 0 (gw K ad I V L C G R) 0 [(0, .ref (ad 153)), (1, .int (nI i))] []
  refine jl_aload_n (i := 0) h rfl rfl dc_SR_isPaired_0 1 rfl ?_
  refine jl_getf h nm_c_SR 0 wl_SR_9 (by omega) (by decide) (by exact rfl) (by rfl) dc_SR_isPaired_1 4 rfl ?_
  refine jl_iload_n (i := 1) h rfl rfl dc_SR_isPaired_4 5 rfl ?_
  refine jl_iald (v := iI (w i)) h (i) (by exact rfl) (by omega) (by exact gw_at rfl rfl hV) (by exact hi) (by first | decide | assumption) (by exact rfl) dc_SR_isPaired_5 6 rfl ?_
  refine jl_iconst (v := -1) h (by decide) dc_SR_isPaired_6 7 rfl ?_
  refine jl_icmp_eq h 14 (by decide) dc_SR_isPaired_7 10 rfl (fun c7 => ?_) (fun c7 => ?_)
  · skip
    rw [sr_iI_m1 h1 h2] at c7
    refine jl_iconst (v := 0) h (by decide) dc_SR_isPaired_14 15 rfl ?_
    exact jl_zret h he rfl (by simp [st_bI, c7]) (rfl) dc_SR_isPaired_15
  · skip
    rw [sr_iI_m1 h1 h2] at c7
    refine jl_iconst (v := 1) h (by decide) dc_SR_isPaired_10 11 rfl ?_
    refine jl_goto h 15 (by decide) dc_SR_isPaired_11 ?_
    exact jl_zret h he rfl (by simp [st_bI, c7]) (rfl) dc_SR_isPaired_15
theorem c_SR1_opensAt (hV : V 154 = fun i => iI (w i)) {i : Nat} (hi : i < 18) (h1 : -1 ≤ w i) (h2 : w i < 18) : jl_C l K sa yn_SR_opensAt bc_SR_opensAt 2 (some .boolean) 0 0 168 ad [.ref (ad 153), .int (nI i)] (gw K ad I V L C G R) (some (.int (st_bI (decide ((i : Int) < w i))))) (gw K ad I V L C G R) := by
  refine jl_enter (by decide) (Nat.le_of_ble_eq_true rfl) (fun x h he hr => ?_)
  show jl_J x 168 ad 0 0 (gw K ad I V L C G R) 0 [(0, .ref (ad 153)), (1, .int (nI i))] []
  refine jl_aload_n (i := 0) h rfl rfl dc_SR_opensAt_0 1 rfl ?_
  refine jl_getf h nm_c_SR 0 wl_SR_9 (by omega) (by decide) (by exact rfl) (by rfl) dc_SR_opensAt_1 4 rfl ?_
  refine jl_iload_n (i := 1) h rfl rfl dc_SR_opensAt_4 5 rfl ?_
  refine jl_iald (v := iI (w i)) h (i) (by exact rfl) (by omega) (by exact gw_at rfl rfl hV) (by exact hi) (by first | decide | assumption) (by exact rfl) dc_SR_opensAt_5 6 rfl ?_
  refine jl_iload_n (i := 1) h rfl rfl dc_SR_opensAt_6 7 rfl ?_
  refine jl_icmp_le h 14 (by decide) dc_SR_opensAt_7 10 rfl (fun c7 => ?_) (fun c7 => ?_)
  · skip
    rw [sr_iI_le h1 h2 hi] at c7
    refine jl_iconst (v := 0) h (by decide) dc_SR_opensAt_14 15 rfl ?_
    exact jl_zret h he rfl (by simp [st_bI]; omega) (rfl) dc_SR_opensAt_15
  · skip
    rw [sr_iI_le h1 h2 hi] at c7
    refine jl_iconst (v := 1) h (by decide) dc_SR_opensAt_10 11 rfl ?_
    refine jl_goto h 15 (by decide) dc_SR_opensAt_11 ?_
    exact jl_zret h he rfl (by simp [st_bI]; omega) (rfl) dc_SR_opensAt_15
theorem c_SR1_isWhole (hS : st_ok K ad (gw K ad I V L C G R) n b) {oc ln : Nat} (hoc : I 4 = nI oc) (hln : I 5 = nI ln) (h1 : oc < 40) (h2 : ln < 40) : jl_C l K sa yn_SR_isWhole bc_SR_isWhole 1 (some .boolean) 1 25 168 ad [.ref (ad 153)] (gw K ad I V L C G R) (some (.int (st_bI (decide (ln = n ∧ oc = 0))))) (gw K ad I V L C G R) := by
  refine jl_enter (by decide) (Nat.le_of_ble_eq_true rfl) (fun x h he hr => ?_)
  obtain ⟨hST, hbases, hn, hb⟩ := id hS
  have hSR : gw K ad I V L C G R 153 = .inr (6, [.ref (ad 154), .ref (ad 155), .int (nI oc), .int (nI ln), .int (I 6), .ref (ad 1), .ref (ad 3)]) := by rw [← hoc, ← hln]; rfl
  have z0 : (0 : Int32) = nI 0 := rfl
  show jl_J x 168 ad 0 0 (gw K ad I V L C G R) 0 [(0, .ref (ad 153))] []
  refine jl_aload_n (i := 0) h rfl rfl dc_SR_isWhole_0 1 rfl ?_
  refine jl_getf h nm_c_SR 3 wl_SR_39 (by omega) (by decide) (by exact hSR) (by rfl) dc_SR_isWhole_1 4 rfl ?_
  refine jl_aload_n (i := 0) h rfl rfl dc_SR_isWhole_4 5 rfl ?_
  refine jl_getf h nm_c_SR 5 wl_SR_18 (by omega) (by decide) (by exact hSR) (by rfl) dc_SR_isWhole_5 8 rfl ?_
  refine jl_callV (As := []) (rest := [_]) h hr vs_SR_45 vi_ST_size vx_ST_size (ci := 1) rfl (by omega) (by exact hST) (fun l => c_ST_size l (by omega) hS) (by first | decide | omega) (by first | decide | omega) rfl rfl (Nat.le_of_ble_eq_true rfl) dc_SR_isWhole_8 (res := [_, _]) rfl 11 rfl ?_
  refine jl_icmp_ne h 25 (by decide) dc_SR_isWhole_11 14 rfl (fun c11 => ?_) (fun c11 => ?_)
  · skip
    rw [nI_eq (by omega) (by omega)] at c11
    refine jl_iconst (v := 0) h (by decide) dc_SR_isWhole_25 26 rfl ?_
    exact jl_zret h he rfl (by simp [st_bI]; omega) (rfl) dc_SR_isWhole_26
  · skip
    rw [nI_eq (by omega) (by omega)] at c11
    refine jl_aload_n (i := 0) h rfl rfl dc_SR_isWhole_14 15 rfl ?_
    refine jl_getf h nm_c_SR 2 wl_SR_35 (by omega) (by decide) (by exact hSR) (by rfl) dc_SR_isWhole_15 18 rfl ?_
    refine jl_if_ne h 25 (by decide) dc_SR_isWhole_18 21 rfl (fun c18 => ?_) (fun c18 => ?_)
    · skip
      rw [z0, nI_eq (by omega) (by decide)] at c18
      refine jl_iconst (v := 0) h (by decide) dc_SR_isWhole_25 26 rfl ?_
      exact jl_zret h he rfl (by simp [st_bI]; omega) (rfl) dc_SR_isWhole_26
    · skip
      rw [z0, nI_eq (by omega) (by decide)] at c18
      refine jl_iconst (v := 1) h (by decide) dc_SR_isWhole_21 22 rfl ?_
      refine jl_goto h 26 (by decide) dc_SR_isWhole_22 ?_
      exact jl_zret h he rfl (by simp [st_bI]; omega) (rfl) dc_SR_isWhole_26
theorem c_SR2_pairCount : jl_C l K sa yn_SR_pairCount bc_SR_pairCount 1 (some .int) 0 0 168 ad [.ref (ad 156)] (gw K ad I V L C G R) (some (.int (I 9))) (gw K ad I V L C G R) := by
  refine jl_enter (by decide) (Nat.le_of_ble_eq_true rfl) (fun x h he hr => ?_)
  show jl_J x 168 ad 0 0 (gw K ad I V L C G R) 0 [(0, .ref (ad 156))] []
  refine jl_aload_n (i := 0) h rfl rfl dc_SR_pairCount_0 1 rfl ?_
  refine jl_getf h nm_c_SR 4 wl_SR_42 (by omega) (by decide) (by exact rfl) (by rfl) dc_SR_pairCount_1 4 rfl ?_
  exact jl_zret h he rfl (rfl) (rfl) dc_SR_pairCount_4
theorem c_SR2_mateOf (hV : V 157 = fun i => iI (w i)) {i : Nat} (hi : i < 18) : jl_C l K sa yn_SR_mateOf bc_SR_mateOf 2 (some .int) 0 0 168 ad [.ref (ad 156), .int (nI i)] (gw K ad I V L C G R) (some (.int (iI (w i)))) (gw K ad I V L C G R) := by
  refine jl_enter (by decide) (Nat.le_of_ble_eq_true rfl) (fun x h he hr => ?_)
  show jl_J x 168 ad 0 0 (gw K ad I V L C G R) 0 [(0, .ref (ad 156)), (1, .int (nI i))] []
  refine jl_aload_n (i := 0) h rfl rfl dc_SR_mateOf_0 1 rfl ?_
  refine jl_getf h nm_c_SR 0 wl_SR_9 (by omega) (by decide) (by exact rfl) (by rfl) dc_SR_mateOf_1 4 rfl ?_
  refine jl_iload_n (i := 1) h rfl rfl dc_SR_mateOf_4 5 rfl ?_
  refine jl_iald (v := iI (w i)) h (i) (by exact rfl) (by omega) (by exact gw_at rfl rfl hV) (by exact hi) (by first | decide | assumption) (by exact rfl) dc_SR_mateOf_5 6 rfl ?_
  exact jl_zret h he rfl (rfl) (rfl) dc_SR_mateOf_6
theorem c_SR2_isPaired (hV : V 157 = fun i => iI (w i)) {i : Nat} (hi : i < 18) (h1 : -1 ≤ w i) (h2 : w i < 18) : jl_C l K sa yn_SR_isPaired bc_SR_isPaired 2 (some .boolean) 0 0 168 ad [.ref (ad 156), .int (nI i)] (gw K ad I V L C G R) (some (.int (st_bI (decide (w i ≠ -1))))) (gw K ad I V L C G R) := by
  refine jl_enter (by decide) (Nat.le_of_ble_eq_true rfl) (fun x h he hr => ?_)
  show jl_J x 168 ad 0 0 (gw K ad I V L C G R) 0 [(0, .ref (ad 156)), (1, .int (nI i))] []
  refine jl_aload_n (i := 0) h rfl rfl dc_SR_isPaired_0 1 rfl ?_
  refine jl_getf h nm_c_SR 0 wl_SR_9 (by omega) (by decide) (by exact rfl) (by rfl) dc_SR_isPaired_1 4 rfl ?_
  refine jl_iload_n (i := 1) h rfl rfl dc_SR_isPaired_4 5 rfl ?_
  refine jl_iald (v := iI (w i)) h (i) (by exact rfl) (by omega) (by exact gw_at rfl rfl hV) (by exact hi) (by first | decide | assumption) (by exact rfl) dc_SR_isPaired_5 6 rfl ?_
  refine jl_iconst (v := -1) h (by decide) dc_SR_isPaired_6 7 rfl ?_
  refine jl_icmp_eq h 14 (by decide) dc_SR_isPaired_7 10 rfl (fun c7 => ?_) (fun c7 => ?_)
  · skip
    rw [sr_iI_m1 h1 h2] at c7
    refine jl_iconst (v := 0) h (by decide) dc_SR_isPaired_14 15 rfl ?_
    exact jl_zret h he rfl (by simp [st_bI, c7]) (rfl) dc_SR_isPaired_15
  · skip
    rw [sr_iI_m1 h1 h2] at c7
    refine jl_iconst (v := 1) h (by decide) dc_SR_isPaired_10 11 rfl ?_
    refine jl_goto h 15 (by decide) dc_SR_isPaired_11 ?_
    exact jl_zret h he rfl (by simp [st_bI, c7]) (rfl) dc_SR_isPaired_15
theorem c_SR2_opensAt (hV : V 157 = fun i => iI (w i)) {i : Nat} (hi : i < 18) (h1 : -1 ≤ w i) (h2 : w i < 18) : jl_C l K sa yn_SR_opensAt bc_SR_opensAt 2 (some .boolean) 0 0 168 ad [.ref (ad 156), .int (nI i)] (gw K ad I V L C G R) (some (.int (st_bI (decide ((i : Int) < w i))))) (gw K ad I V L C G R) := by
  refine jl_enter (by decide) (Nat.le_of_ble_eq_true rfl) (fun x h he hr => ?_)
  show jl_J x 168 ad 0 0 (gw K ad I V L C G R) 0 [(0, .ref (ad 156)), (1, .int (nI i))] []
  refine jl_aload_n (i := 0) h rfl rfl dc_SR_opensAt_0 1 rfl ?_
  refine jl_getf h nm_c_SR 0 wl_SR_9 (by omega) (by decide) (by exact rfl) (by rfl) dc_SR_opensAt_1 4 rfl ?_
  refine jl_iload_n (i := 1) h rfl rfl dc_SR_opensAt_4 5 rfl ?_
  refine jl_iald (v := iI (w i)) h (i) (by exact rfl) (by omega) (by exact gw_at rfl rfl hV) (by exact hi) (by first | decide | assumption) (by exact rfl) dc_SR_opensAt_5 6 rfl ?_
  refine jl_iload_n (i := 1) h rfl rfl dc_SR_opensAt_6 7 rfl ?_
  refine jl_icmp_le h 14 (by decide) dc_SR_opensAt_7 10 rfl (fun c7 => ?_) (fun c7 => ?_)
  · skip
    rw [sr_iI_le h1 h2 hi] at c7
    refine jl_iconst (v := 0) h (by decide) dc_SR_opensAt_14 15 rfl ?_
    exact jl_zret h he rfl (by simp [st_bI]; omega) (rfl) dc_SR_opensAt_15
  · skip
    rw [sr_iI_le h1 h2 hi] at c7
    refine jl_iconst (v := 1) h (by decide) dc_SR_opensAt_10 11 rfl ?_
    refine jl_goto h 15 (by decide) dc_SR_opensAt_11 ?_
    exact jl_zret h he rfl (by simp [st_bI]; omega) (rfl) dc_SR_opensAt_15
theorem c_SR2_isWhole (hS : st_ok K ad (gw K ad I V L C G R) n b) {oc ln : Nat} (hoc : I 7 = nI oc) (hln : I 8 = nI ln) (h1 : oc < 40) (h2 : ln < 40) : jl_C l K sa yn_SR_isWhole bc_SR_isWhole 1 (some .boolean) 1 25 168 ad [.ref (ad 156)] (gw K ad I V L C G R) (some (.int (st_bI (decide (ln = n ∧ oc = 0))))) (gw K ad I V L C G R) := by
  refine jl_enter (by decide) (Nat.le_of_ble_eq_true rfl) (fun x h he hr => ?_)
  obtain ⟨hST, hbases, hn, hb⟩ := id hS
  have hSR : gw K ad I V L C G R 156 = .inr (6, [.ref (ad 157), .ref (ad 158), .int (nI oc), .int (nI ln), .int (I 9), .ref (ad 1), .ref (ad 3)]) := by rw [← hoc, ← hln]; rfl
  have z0 : (0 : Int32) = nI 0 := rfl
  show jl_J x 168 ad 0 0 (gw K ad I V L C G R) 0 [(0, .ref (ad 156))] []
  refine jl_aload_n (i := 0) h rfl rfl dc_SR_isWhole_0 1 rfl ?_
  refine jl_getf h nm_c_SR 3 wl_SR_39 (by omega) (by decide) (by exact hSR) (by rfl) dc_SR_isWhole_1 4 rfl ?_
  refine jl_aload_n (i := 0) h rfl rfl dc_SR_isWhole_4 5 rfl ?_
  refine jl_getf h nm_c_SR 5 wl_SR_18 (by omega) (by decide) (by exact hSR) (by rfl) dc_SR_isWhole_5 8 rfl ?_
  refine jl_callV (As := []) (rest := [_]) h hr vs_SR_45 vi_ST_size vx_ST_size (ci := 1) rfl (by omega) (by exact hST) (fun l => c_ST_size l (by omega) hS) (by first | decide | omega) (by first | decide | omega) rfl rfl (Nat.le_of_ble_eq_true rfl) dc_SR_isWhole_8 (res := [_, _]) rfl 11 rfl ?_
  refine jl_icmp_ne h 25 (by decide) dc_SR_isWhole_11 14 rfl (fun c11 => ?_) (fun c11 => ?_)
  · skip
    rw [nI_eq (by omega) (by omega)] at c11
    refine jl_iconst (v := 0) h (by decide) dc_SR_isWhole_25 26 rfl ?_
    exact jl_zret h he rfl (by simp [st_bI]; omega) (rfl) dc_SR_isWhole_26
  · skip
    rw [nI_eq (by omega) (by omega)] at c11
    refine jl_aload_n (i := 0) h rfl rfl dc_SR_isWhole_14 15 rfl ?_
    refine jl_getf h nm_c_SR 2 wl_SR_35 (by omega) (by decide) (by exact hSR) (by rfl) dc_SR_isWhole_15 18 rfl ?_
    refine jl_if_ne h 25 (by decide) dc_SR_isWhole_18 21 rfl (fun c18 => ?_) (fun c18 => ?_)
    · skip
      rw [z0, nI_eq (by omega) (by decide)] at c18
      refine jl_iconst (v := 0) h (by decide) dc_SR_isWhole_25 26 rfl ?_
      exact jl_zret h he rfl (by simp [st_bI]; omega) (rfl) dc_SR_isWhole_26
    · skip
      rw [z0, nI_eq (by omega) (by decide)] at c18
      refine jl_iconst (v := 1) h (by decide) dc_SR_isWhole_21 22 rfl ?_
      refine jl_goto h 26 (by decide) dc_SR_isWhole_22 ?_
      exact jl_zret h he rfl (by simp [st_bI]; omega) (rfl) dc_SR_isWhole_26
end SR
end
section
/-! FoldedStrand$Structure.closeLast and add: contracts. -/
theorem sr_v {a c : Int32} (h : a = c) : some (Value.int a) = some (Value.int c) := by rw [h]
theorem sr_updpr (w : Nat → Int) (i j : Nat) : upd (upd (fun k => iI (w k)) i (nI j)) j (nI i) = fun k => iI (en_pr w i j k) := by
  funext k
  unfold en_pr en_up upd
  split
  · rfl
  · split <;> rfl
theorem gw_setVf {K : Nat → ClassId} {ad : Nat → Nat} {I : Nat → Int32} {V : Nat → Nat → Int32} {L : Nat → Int64} {C : Nat → Int32} {G : Nat → Nat} {R : Nat → Nat} {k : Nat} {f g : Nat → Int32} (h : gw_i k = true) (e : f = g) : va_up (gw K ad I V L C G R) k (.inl (K 0, gw_len k, .inl f)) = gw K ad I (va_up V k g) L C G R := by
  subst e
  exact gw_setV h f
section SA
variable (l : Launch) {K : Nat → ClassId} {sa : Nat → Nat} {ad : Nat → Nat} {I : Nat → Int32} {V : Nat → Nat → Int32} {L : Nat → Int64} {C : Nat → Int32} {G : Nat → Nat} {R : Nat → Nat} {n : Nat} {b : Nat → Nat} {w : Nat → Int} {f : Nat → Nat} {oc ln pr : Nat}
theorem c_SR1_closeLast_no (hS : st_ok K ad (gw K ad I V L C G R) n b) (hoc : I 4 = nI oc) (hln : I 5 = nI ln) (hO : V 155 = fun k => nI (f k)) (h1 : oc < 18) (h2 : ln < 18) (h3 : ∀ k, k < oc → f k < 18) (hno : 0 < oc → en_cp b (f (oc - 1)) ln = false) : jl_C l K sa yn_SR_closeLast bc_SR_closeLast 2 (some .boolean) 2 50 168 ad [.ref (ad 153)] (gw K ad I V L C G R) (some (.int 0)) (gw K ad I V L C G R) := by
  refine jl_enter (by decide) (Nat.le_of_ble_eq_true rfl) (fun x h he hr => ?_)
  obtain ⟨hST, hbases, hn, hb⟩ := id hS
  show jl_J x 168 ad 0 0 (gw K ad I V L C G R) 0 [(0, .ref (ad 153))] []
  rcases Nat.eq_zero_or_pos oc with h0 | h0
  · subst h0
    refine jl_aload_n (i := 0) h rfl rfl dc_SR_closeLast_0 1 rfl ?_
    refine jl_getf (v := .int (nI 0)) h nm_c_SR 2 wl_SR_35 (by omega) (by decide) (by exact rfl) (by exact sr_v hoc) dc_SR_closeLast_1 4 rfl ?_
    refine jl_if_gt h 9 (by decide) dc_SR_closeLast_4 7 rfl (fun c4 => absurd c4 (by decide)) (fun c4 => ?_)
    refine jl_iconst (v := 0) h (by decide) dc_SR_closeLast_7 8 rfl ?_
    exact jl_zret h he rfl (rfl) (rfl) dc_SR_closeLast_8
  · have hf := h3 (oc - 1) (by omega)
    have e1 : nI oc - 1 = nI (oc - 1) := by rw [show (1 : Int32) = nI 1 from rfl, pk_sub h0]
    have e2 := hno h0
    refine jl_aload_n (i := 0) h rfl rfl dc_SR_closeLast_0 1 rfl ?_
    refine jl_getf (v := .int (nI oc)) h nm_c_SR 2 wl_SR_35 (by omega) (by decide) (by exact rfl) (by exact sr_v hoc) dc_SR_closeLast_1 4 rfl ?_
    refine jl_if_gt h 9 (by decide) dc_SR_closeLast_4 7 rfl (fun c4 => ?_) (fun c4 => absurd (by rw [show (0 : Int32) = nI 0 from rfl]; exact nI_lt h0 (by omega)) c4)
    refine jl_aload_n (i := 0) h rfl rfl dc_SR_closeLast_9 10 rfl ?_
    refine jl_getf h nm_c_SR 1 wl_SR_15 (by omega) (by decide) (by exact rfl) (by rfl) dc_SR_closeLast_10 13 rfl ?_
    refine jl_aload_n (i := 0) h rfl rfl dc_SR_closeLast_13 14 rfl ?_
    refine jl_getf (v := .int (nI oc)) h nm_c_SR 2 wl_SR_35 (by omega) (by decide) (by exact rfl) (by exact sr_v hoc) dc_SR_closeLast_14 17 rfl ?_
    refine jl_iconst (v := 1) h (by decide) dc_SR_closeLast_17 18 rfl ?_
    refine jl_isub h dc_SR_closeLast_18 19 rfl ?_
    rw [show nI oc - 1 = nI (oc - 1) by exact e1]
    refine jl_iald (v := nI (f (oc - 1))) h (oc - 1) (by exact rfl) (by omega) (by exact gw_at (len := 18) rfl rfl hO) (by exact by omega) (by first | decide | assumption) (by exact rfl) dc_SR_closeLast_19 20 rfl ?_
    refine jl_istore_n (i := 1) (lc2 := [(1, _), (0, _)]) h rfl (by decide) rfl dc_SR_closeLast_20 21 rfl ?_
    refine jl_aload_n (i := 0) h rfl rfl dc_SR_closeLast_21 22 rfl ?_
    refine jl_getf h nm_c_SR 5 wl_SR_18 (by omega) (by decide) (by exact rfl) (by rfl) dc_SR_closeLast_22 25 rfl ?_
    refine jl_iload_n (i := 1) h rfl rfl dc_SR_closeLast_25 26 rfl ?_
    refine jl_aload_n (i := 0) h rfl rfl dc_SR_closeLast_26 27 rfl ?_
    refine jl_getf (v := .int (nI ln)) h nm_c_SR 3 wl_SR_39 (by omega) (by decide) (by exact rfl) (by exact sr_v hln) dc_SR_closeLast_27 30 rfl ?_
    refine jl_callV (As := [_, _]) (rest := []) h hr vs_SR_53 vi_ST_canPair vx_ST_canPair (ci := 1) rfl (by omega) (by exact hST) (fun l => c_ST_canPair l (by omega) hS hf h2) (by first | decide | omega) (by first | decide | omega) rfl rfl (Nat.le_of_ble_eq_true rfl) dc_SR_closeLast_30 (res := [_]) rfl 33 rfl ?_
    rw [e2]
    refine jl_if_ne h 38 (by decide) dc_SR_closeLast_33 36 rfl (fun c33 => absurd (by decide) c33) (fun c33 => ?_)
    refine jl_iconst (v := 0) h (by decide) dc_SR_closeLast_36 37 rfl ?_
    exact jl_zret h he rfl (rfl) (rfl) dc_SR_closeLast_37
theorem c_SR1_closeLast_yes (hS : st_ok K ad (gw K ad I V L C G R) n b) (hoc : I 4 = nI oc) (hln : I 5 = nI ln) (hpr : I 6 = nI pr) (hO : V 155 = fun k => nI (f k)) (hM : V 154 = fun k => iI (w k)) (h0 : 0 < oc) (h1 : oc < 18) (h2 : ln < 18) (hf : f (oc - 1) < 18) (e2 : en_cp b (f (oc - 1)) ln = true) : jl_C l K sa yn_SR_closeLast bc_SR_closeLast 2 (some .boolean) 2 50 168 ad [.ref (ad 153)] (gw K ad I V L C G R) (some (.int 1)) (gw K ad (va_up (va_up I 4 (nI (oc - 1))) 6 (nI (pr + 1))) (va_up V 154 (fun k => iI (en_pr w (f (oc - 1)) ln k))) L C G R) := by
  refine jl_enter (by decide) (Nat.le_of_ble_eq_true rfl) (fun x h he hr => ?_)
  obtain ⟨hST, hbases, hn, hb⟩ := id hS
  show jl_J x 168 ad 0 0 (gw K ad I V L C G R) 0 [(0, .ref (ad 153))] []
  have e1 : nI oc - 1 = nI (oc - 1) := by rw [show (1 : Int32) = nI 1 from rfl, pk_sub h0]
  refine jl_aload_n (i := 0) h rfl rfl dc_SR_closeLast_0 1 rfl ?_
  refine jl_getf (v := .int (nI oc)) h nm_c_SR 2 wl_SR_35 (by omega) (by decide) (by exact rfl) (by exact sr_v hoc) dc_SR_closeLast_1 4 rfl ?_
  refine jl_if_gt h 9 (by decide) dc_SR_closeLast_4 7 rfl (fun c4 => ?_) (fun c4 => absurd (by rw [show (0 : Int32) = nI 0 from rfl]; exact nI_lt h0 (by omega)) c4)
  refine jl_aload_n (i := 0) h rfl rfl dc_SR_closeLast_9 10 rfl ?_
  refine jl_getf h nm_c_SR 1 wl_SR_15 (by omega) (by decide) (by exact rfl) (by rfl) dc_SR_closeLast_10 13 rfl ?_
  refine jl_aload_n (i := 0) h rfl rfl dc_SR_closeLast_13 14 rfl ?_
  refine jl_getf (v := .int (nI oc)) h nm_c_SR 2 wl_SR_35 (by omega) (by decide) (by exact rfl) (by exact sr_v hoc) dc_SR_closeLast_14 17 rfl ?_
  refine jl_iconst (v := 1) h (by decide) dc_SR_closeLast_17 18 rfl ?_
  refine jl_isub h dc_SR_closeLast_18 19 rfl ?_
  rw [show nI oc - 1 = nI (oc - 1) by exact e1]
  refine jl_iald (v := nI (f (oc - 1))) h (oc - 1) (by exact rfl) (by omega) (by exact gw_at (len := 18) rfl rfl hO) (by exact by omega) (by first | decide | assumption) (by exact rfl) dc_SR_closeLast_19 20 rfl ?_
  refine jl_istore_n (i := 1) (lc2 := [(1, _), (0, _)]) h rfl (by decide) rfl dc_SR_closeLast_20 21 rfl ?_
  refine jl_aload_n (i := 0) h rfl rfl dc_SR_closeLast_21 22 rfl ?_
  refine jl_getf h nm_c_SR 5 wl_SR_18 (by omega) (by decide) (by exact rfl) (by rfl) dc_SR_closeLast_22 25 rfl ?_
  refine jl_iload_n (i := 1) h rfl rfl dc_SR_closeLast_25 26 rfl ?_
  refine jl_aload_n (i := 0) h rfl rfl dc_SR_closeLast_26 27 rfl ?_
  refine jl_getf (v := .int (nI ln)) h nm_c_SR 3 wl_SR_39 (by omega) (by decide) (by exact rfl) (by exact sr_v hln) dc_SR_closeLast_27 30 rfl ?_
  refine jl_callV (As := [_, _]) (rest := []) h hr vs_SR_53 vi_ST_canPair vx_ST_canPair (ci := 1) rfl (by omega) (by exact hST) (fun l => c_ST_canPair l (by omega) hS hf h2) (by first | decide | omega) (by first | decide | omega) rfl rfl (Nat.le_of_ble_eq_true rfl) dc_SR_closeLast_30 (res := [_]) rfl 33 rfl ?_
  rw [e2]
  refine jl_if_ne h 38 (by decide) dc_SR_closeLast_33 36 rfl (fun c33 => ?_) (fun c33 => absurd c33 (by decide))
  refine jl_aload_n (i := 0) h rfl rfl dc_SR_closeLast_38 39 rfl ?_
  refine jl_dup h rfl dc_SR_closeLast_39 40 rfl ?_
  refine jl_getf (v := .int (nI oc)) h nm_c_SR 2 wl_SR_35 (by omega) (by decide) (by exact rfl) (by exact sr_v hoc) dc_SR_closeLast_40 43 rfl ?_
  refine jl_iconst (v := 1) h (by decide) dc_SR_closeLast_43 44 rfl ?_
  refine jl_isub h dc_SR_closeLast_44 45 rfl ?_
  rw [show nI oc - 1 = nI (oc - 1) by exact e1]
  refine jl_putf (fs2 := [_, _, _, _, _, _, _]) h nm_c_SR 2 wl_SR_35 (by omega) (by decide) rfl (by exact rfl) (by rfl) (by rfl) (by exact Nat.le_of_ble_eq_true rfl) (by rfl) dc_SR_closeLast_45 (gw_set_oc1 _) 48 rfl ?_
  refine jl_aload_n (i := 0) h rfl rfl dc_SR_closeLast_48 49 rfl ?_
  refine jl_getf h nm_c_SR 0 wl_SR_9 (by omega) (by decide) (by exact rfl) (by rfl) dc_SR_closeLast_49 52 rfl ?_
  refine jl_iload_n (i := 1) h rfl rfl dc_SR_closeLast_52 53 rfl ?_
  refine jl_aload_n (i := 0) h rfl rfl dc_SR_closeLast_53 54 rfl ?_
  refine jl_getf (v := .int (nI ln)) h nm_c_SR 3 wl_SR_39 (by omega) (by decide) (by exact rfl) (by exact sr_v hln) dc_SR_closeLast_54 57 rfl ?_
  refine jl_iast h (f (oc - 1)) (by exact rfl) (by omega) (by exact gw_at (len := 18) rfl rfl hM) (by exact hf) (by first | decide | assumption) dc_SR_closeLast_57 (gw_setV rfl _) 58 rfl ?_
  refine jl_aload_n (i := 0) h rfl rfl dc_SR_closeLast_58 59 rfl ?_
  refine jl_getf h nm_c_SR 0 wl_SR_9 (by omega) (by decide) (by exact rfl) (by rfl) dc_SR_closeLast_59 62 rfl ?_
  refine jl_aload_n (i := 0) h rfl rfl dc_SR_closeLast_62 63 rfl ?_
  refine jl_getf (v := .int (nI ln)) h nm_c_SR 3 wl_SR_39 (by omega) (by decide) (by exact rfl) (by exact sr_v hln) dc_SR_closeLast_63 66 rfl ?_
  refine jl_iload_n (i := 1) h rfl rfl dc_SR_closeLast_66 67 rfl ?_
  refine jl_iast h (ln) (by exact rfl) (by omega) (by exact gw_at (len := 18) rfl rfl rfl) (by exact h2) (by first | decide | assumption) dc_SR_closeLast_67 (gw_setVf rfl (sr_updpr w _ _)) 68 rfl ?_
  refine jl_aload_n (i := 0) h rfl rfl dc_SR_closeLast_68 69 rfl ?_
  refine jl_dup h rfl dc_SR_closeLast_69 70 rfl ?_
  refine jl_getf (v := .int (nI pr)) h nm_c_SR 4 wl_SR_42 (by omega) (by decide) (by exact rfl) (by exact sr_v hpr) dc_SR_closeLast_70 73 rfl ?_
  refine jl_iconst (v := 1) h (by decide) dc_SR_closeLast_73 74 rfl ?_
  refine jl_iadd h dc_SR_closeLast_74 75 rfl ?_
  rw [show nI pr + 1 = nI (pr + 1) by exact nI_1 pr]
  refine jl_putf (fs2 := [_, _, _, _, _, _, _]) h nm_c_SR 4 wl_SR_42 (by omega) (by decide) rfl (by exact rfl) (by rfl) (by rfl) (by exact Nat.le_of_ble_eq_true rfl) (by rfl) dc_SR_closeLast_75 (gw_set_prs1 _) 78 rfl ?_
  refine jl_iconst (v := 1) h (by decide) dc_SR_closeLast_78 79 rfl ?_
  exact jl_zret h he rfl (rfl) (by rw [bx_uu]) dc_SR_closeLast_79
theorem c_SR1_add_full (hS : st_ok K ad (gw K ad I V L C G R) n b) (hln : I 5 = nI ln) (h2 : ln < 40) (hfull : n ≤ ln) (q : Int32) : jl_C l K sa yn_SR_add bc_SR_add 2 (some .boolean) 3 75 168 ad [.ref (ad 153), .int q] (gw K ad I V L C G R) (some (.int 0)) (gw K ad I V L C G R) := by
  refine jl_enter (by decide) (Nat.le_of_ble_eq_true rfl) (fun x h he hr => ?_)
  obtain ⟨hST, hbases, hn, hb⟩ := id hS
  show jl_J x 168 ad 0 0 (gw K ad I V L C G R) 0 [(0, .ref (ad 153)), (1, .int q)] []
  refine jl_aload_n (i := 0) h rfl rfl dc_SR_add_0 1 rfl ?_
  refine jl_getf (v := .int (nI ln)) h nm_c_SR 3 wl_SR_39 (by omega) (by decide) (by exact rfl) (by exact sr_v hln) dc_SR_add_1 4 rfl ?_
  refine jl_aload_n (i := 0) h rfl rfl dc_SR_add_4 5 rfl ?_
  refine jl_getf h nm_c_SR 5 wl_SR_18 (by omega) (by decide) (by exact rfl) (by rfl) dc_SR_add_5 8 rfl ?_
  refine jl_callV (As := []) (rest := [_]) h hr vs_SR_45 vi_ST_size vx_ST_size (ci := 1) rfl (by omega) (by exact hST) (fun l => c_ST_size l (by omega) hS) (by first | decide | omega) (by first | decide | omega) rfl rfl (Nat.le_of_ble_eq_true rfl) dc_SR_add_8 (res := [_, _]) rfl 11 rfl ?_
  refine jl_icmp_lt h 16 (by decide) dc_SR_add_11 14 rfl (fun c11 => absurd c11 (nI_nlt hfull (by omega))) (fun c11 => ?_)
  refine jl_iconst (v := 0) h (by decide) dc_SR_add_14 15 rfl ?_
  exact jl_zret h he rfl (rfl) (rfl) dc_SR_add_15
theorem c_SR1_add_open (hS : st_ok K ad (gw K ad I V L C G R) n b) (hoc : I 4 = nI oc) (hln : I 5 = nI ln) (hO : V 155 = fun k => nI (f k)) (h1 : oc < 18) (h2 : ln < n) : jl_C l K sa yn_SR_add bc_SR_add 2 (some .boolean) 3 75 168 ad [.ref (ad 153), .int 40] (gw K ad I V L C G R) (some (.int 1)) (gw K ad (va_up (va_up I 4 (nI (oc + 1))) 5 (nI (ln + 1))) (va_up V 155 (fun k => nI (va_up f oc ln k))) L C G R) := by
  refine jl_enter (by decide) (Nat.le_of_ble_eq_true rfl) (fun x h he hr => ?_)
  obtain ⟨hST, hbases, hn, hb⟩ := id hS
  show jl_J x 168 ad 0 0 (gw K ad I V L C G R) 0 [(0, .ref (ad 153)), (1, .int 40)] []
  refine jl_aload_n (i := 0) h rfl rfl dc_SR_add_0 1 rfl ?_
  refine jl_getf (v := .int (nI ln)) h nm_c_SR 3 wl_SR_39 (by omega) (by decide) (by exact rfl) (by exact sr_v hln) dc_SR_add_1 4 rfl ?_
  refine jl_aload_n (i := 0) h rfl rfl dc_SR_add_4 5 rfl ?_
  refine jl_getf h nm_c_SR 5 wl_SR_18 (by omega) (by decide) (by exact rfl) (by rfl) dc_SR_add_5 8 rfl ?_
  refine jl_callV (As := []) (rest := [_]) h hr vs_SR_45 vi_ST_size vx_ST_size (ci := 1) rfl (by omega) (by exact hST) (fun l => c_ST_size l (by omega) hS) (by first | decide | omega) (by first | decide | omega) rfl rfl (Nat.le_of_ble_eq_true rfl) dc_SR_add_8 (res := [_, _]) rfl 11 rfl ?_
  refine jl_icmp_lt h 16 (by decide) dc_SR_add_11 14 rfl (fun c11 => ?_) (fun c11 => absurd (nI_lt h2 (by omega)) c11)
  refine jl_iload_n (i := 1) h rfl rfl dc_SR_add_16 17 rfl ?_
  refine jl_bipush (v := 40) h (by decide) dc_SR_add_17 19 rfl ?_
  refine jl_icmp_ne h 48 (by decide) dc_SR_add_19 22 rfl (fun c19 => absurd (by decide) c19) (fun c19 => ?_)
  refine jl_aload_n (i := 0) h rfl rfl dc_SR_add_22 23 rfl ?_
  refine jl_getf h nm_c_SR 1 wl_SR_15 (by omega) (by decide) (by exact rfl) (by rfl) dc_SR_add_23 26 rfl ?_
  refine jl_aload_n (i := 0) h rfl rfl dc_SR_add_26 27 rfl ?_
  refine jl_getf (v := .int (nI oc)) h nm_c_SR 2 wl_SR_35 (by omega) (by decide) (by exact rfl) (by exact sr_v hoc) dc_SR_add_27 30 rfl ?_
  refine jl_aload_n (i := 0) h rfl rfl dc_SR_add_30 31 rfl ?_
  refine jl_getf (v := .int (nI ln)) h nm_c_SR 3 wl_SR_39 (by omega) (by decide) (by exact rfl) (by exact sr_v hln) dc_SR_add_31 34 rfl ?_
  refine jl_iast h (oc) (by exact rfl) (by omega) (by exact gw_at (len := 18) rfl rfl hO) (by exact h1) (by first | decide | assumption) dc_SR_add_34 (gw_setVf rfl (st_upd f oc ln)) 35 rfl ?_
  refine jl_aload_n (i := 0) h rfl rfl dc_SR_add_35 36 rfl ?_
  refine jl_dup h rfl dc_SR_add_36 37 rfl ?_
  refine jl_getf (v := .int (nI oc)) h nm_c_SR 2 wl_SR_35 (by omega) (by decide) (by exact rfl) (by exact sr_v hoc) dc_SR_add_37 40 rfl ?_
  refine jl_iconst (v := 1) h (by decide) dc_SR_add_40 41 rfl ?_
  refine jl_iadd h dc_SR_add_41 42 rfl ?_
  rw [show nI oc + 1 = nI (oc + 1) by exact nI_1 oc]
  refine jl_putf (fs2 := [_, _, _, _, _, _, _]) h nm_c_SR 2 wl_SR_35 (by omega) (by decide) rfl (by exact rfl) (by rfl) (by rfl) (by exact Nat.le_of_ble_eq_true rfl) (by rfl) dc_SR_add_42 (gw_set_oc1 _) 45 rfl ?_
  refine jl_goto h 71 (by decide) dc_SR_add_45 ?_
  refine jl_aload_n (i := 0) h rfl rfl dc_SR_add_71 72 rfl ?_
  refine jl_dup h rfl dc_SR_add_72 73 rfl ?_
  refine jl_getf (v := .int (nI ln)) h nm_c_SR 3 wl_SR_39 (by omega) (by decide) (by exact rfl) (by exact sr_v hln) dc_SR_add_73 76 rfl ?_
  refine jl_iconst (v := 1) h (by decide) dc_SR_add_76 77 rfl ?_
  refine jl_iadd h dc_SR_add_77 78 rfl ?_
  rw [show nI ln + 1 = nI (ln + 1) by exact nI_1 ln]
  refine jl_putf (fs2 := [_, _, _, _, _, _, _]) h nm_c_SR 3 wl_SR_39 (by omega) (by decide) rfl (by exact rfl) (by rfl) (by rfl) (by exact Nat.le_of_ble_eq_true rfl) (by rfl) dc_SR_add_78 (gw_set_len1 _) 81 rfl ?_
  refine jl_iconst (v := 1) h (by decide) dc_SR_add_81 82 rfl ?_
  exact jl_zret h he rfl (rfl) (rfl) dc_SR_add_82
theorem c_SR1_add_dot (hS : st_ok K ad (gw K ad I V L C G R) n b) (hln : I 5 = nI ln) (h2 : ln < n) : jl_C l K sa yn_SR_add bc_SR_add 2 (some .boolean) 3 75 168 ad [.ref (ad 153), .int 46] (gw K ad I V L C G R) (some (.int 1)) (gw K ad (va_up I 5 (nI (ln + 1))) V L C G R) := by
  refine jl_enter (by decide) (Nat.le_of_ble_eq_true rfl) (fun x h he hr => ?_)
  obtain ⟨hST, hbases, hn, hb⟩ := id hS
  show jl_J x 168 ad 0 0 (gw K ad I V L C G R) 0 [(0, .ref (ad 153)), (1, .int 46)] []
  refine jl_aload_n (i := 0) h rfl rfl dc_SR_add_0 1 rfl ?_
  refine jl_getf (v := .int (nI ln)) h nm_c_SR 3 wl_SR_39 (by omega) (by decide) (by exact rfl) (by exact sr_v hln) dc_SR_add_1 4 rfl ?_
  refine jl_aload_n (i := 0) h rfl rfl dc_SR_add_4 5 rfl ?_
  refine jl_getf h nm_c_SR 5 wl_SR_18 (by omega) (by decide) (by exact rfl) (by rfl) dc_SR_add_5 8 rfl ?_
  refine jl_callV (As := []) (rest := [_]) h hr vs_SR_45 vi_ST_size vx_ST_size (ci := 1) rfl (by omega) (by exact hST) (fun l => c_ST_size l (by omega) hS) (by first | decide | omega) (by first | decide | omega) rfl rfl (Nat.le_of_ble_eq_true rfl) dc_SR_add_8 (res := [_, _]) rfl 11 rfl ?_
  refine jl_icmp_lt h 16 (by decide) dc_SR_add_11 14 rfl (fun c11 => ?_) (fun c11 => absurd (nI_lt h2 (by omega)) c11)
  refine jl_iload_n (i := 1) h rfl rfl dc_SR_add_16 17 rfl ?_
  refine jl_bipush (v := 40) h (by decide) dc_SR_add_17 19 rfl ?_
  refine jl_icmp_ne h 48 (by decide) dc_SR_add_19 22 rfl (fun c19 => ?_) (fun c19 => absurd c19 (by decide))
  refine jl_iload_n (i := 1) h rfl rfl dc_SR_add_48 49 rfl ?_
  refine jl_bipush (v := 41) h (by decide) dc_SR_add_49 51 rfl ?_
  refine jl_icmp_ne h 63 (by decide) dc_SR_add_51 54 rfl (fun c51 => ?_) (fun c51 => absurd c51 (by decide))
  refine jl_iload_n (i := 1) h rfl rfl dc_SR_add_63 64 rfl ?_
  refine jl_bipush (v := 46) h (by decide) dc_SR_add_64 66 rfl ?_
  refine jl_icmp_eq h 71 (by decide) dc_SR_add_66 69 rfl (fun c66 => ?_) (fun c66 => absurd (by decide) c66)
  refine jl_aload_n (i := 0) h rfl rfl dc_SR_add_71 72 rfl ?_
  refine jl_dup h rfl dc_SR_add_72 73 rfl ?_
  refine jl_getf (v := .int (nI ln)) h nm_c_SR 3 wl_SR_39 (by omega) (by decide) (by exact rfl) (by exact sr_v hln) dc_SR_add_73 76 rfl ?_
  refine jl_iconst (v := 1) h (by decide) dc_SR_add_76 77 rfl ?_
  refine jl_iadd h dc_SR_add_77 78 rfl ?_
  rw [show nI ln + 1 = nI (ln + 1) by exact nI_1 ln]
  refine jl_putf (fs2 := [_, _, _, _, _, _, _]) h nm_c_SR 3 wl_SR_39 (by omega) (by decide) rfl (by exact rfl) (by rfl) (by rfl) (by exact Nat.le_of_ble_eq_true rfl) (by rfl) dc_SR_add_78 (gw_set_len1 _) 81 rfl ?_
  refine jl_iconst (v := 1) h (by decide) dc_SR_add_81 82 rfl ?_
  exact jl_zret h he rfl (rfl) (rfl) dc_SR_add_82
theorem c_SR1_add_bad (hS : st_ok K ad (gw K ad I V L C G R) n b) (hln : I 5 = nI ln) (h2 : ln < n) (q : Int32) (q1 : q ≠ 40) (q2 : q ≠ 41) (q3 : q ≠ 46) : jl_C l K sa yn_SR_add bc_SR_add 2 (some .boolean) 3 75 168 ad [.ref (ad 153), .int q] (gw K ad I V L C G R) (some (.int 0)) (gw K ad I V L C G R) := by
  refine jl_enter (by decide) (Nat.le_of_ble_eq_true rfl) (fun x h he hr => ?_)
  obtain ⟨hST, hbases, hn, hb⟩ := id hS
  show jl_J x 168 ad 0 0 (gw K ad I V L C G R) 0 [(0, .ref (ad 153)), (1, .int q)] []
  refine jl_aload_n (i := 0) h rfl rfl dc_SR_add_0 1 rfl ?_
  refine jl_getf (v := .int (nI ln)) h nm_c_SR 3 wl_SR_39 (by omega) (by decide) (by exact rfl) (by exact sr_v hln) dc_SR_add_1 4 rfl ?_
  refine jl_aload_n (i := 0) h rfl rfl dc_SR_add_4 5 rfl ?_
  refine jl_getf h nm_c_SR 5 wl_SR_18 (by omega) (by decide) (by exact rfl) (by rfl) dc_SR_add_5 8 rfl ?_
  refine jl_callV (As := []) (rest := [_]) h hr vs_SR_45 vi_ST_size vx_ST_size (ci := 1) rfl (by omega) (by exact hST) (fun l => c_ST_size l (by omega) hS) (by first | decide | omega) (by first | decide | omega) rfl rfl (Nat.le_of_ble_eq_true rfl) dc_SR_add_8 (res := [_, _]) rfl 11 rfl ?_
  refine jl_icmp_lt h 16 (by decide) dc_SR_add_11 14 rfl (fun c11 => ?_) (fun c11 => absurd (nI_lt h2 (by omega)) c11)
  refine jl_iload_n (i := 1) h rfl rfl dc_SR_add_16 17 rfl ?_
  refine jl_bipush (v := 40) h (by decide) dc_SR_add_17 19 rfl ?_
  refine jl_icmp_ne h 48 (by decide) dc_SR_add_19 22 rfl (fun c19 => ?_) (fun c19 => absurd c19 (q1))
  refine jl_iload_n (i := 1) h rfl rfl dc_SR_add_48 49 rfl ?_
  refine jl_bipush (v := 41) h (by decide) dc_SR_add_49 51 rfl ?_
  refine jl_icmp_ne h 63 (by decide) dc_SR_add_51 54 rfl (fun c51 => ?_) (fun c51 => absurd c51 (q2))
  refine jl_iload_n (i := 1) h rfl rfl dc_SR_add_63 64 rfl ?_
  refine jl_bipush (v := 46) h (by decide) dc_SR_add_64 66 rfl ?_
  refine jl_icmp_eq h 71 (by decide) dc_SR_add_66 69 rfl (fun c66 => absurd c66 (q3)) (fun c66 => ?_)
  refine jl_iconst (v := 0) h (by decide) dc_SR_add_69 70 rfl ?_
  exact jl_zret h he rfl (rfl) (rfl) dc_SR_add_70
theorem c_SR1_add_close_no (hS : st_ok K ad (gw K ad I V L C G R) n b) (hoc : I 4 = nI oc) (hln : I 5 = nI ln) (hO : V 155 = fun k => nI (f k)) (h1 : oc < 18) (h2 : ln < n) (h3 : ∀ k, k < oc → f k < 18) (hno : 0 < oc → en_cp b (f (oc - 1)) ln = false) : jl_C l K sa yn_SR_add bc_SR_add 2 (some .boolean) 3 75 168 ad [.ref (ad 153), .int 41] (gw K ad I V L C G R) (some (.int 0)) (gw K ad I V L C G R) := by
  refine jl_enter (by decide) (Nat.le_of_ble_eq_true rfl) (fun x h he hr => ?_)
  obtain ⟨hST, hbases, hn, hb⟩ := id hS
  show jl_J x 168 ad 0 0 (gw K ad I V L C G R) 0 [(0, .ref (ad 153)), (1, .int 41)] []
  refine jl_aload_n (i := 0) h rfl rfl dc_SR_add_0 1 rfl ?_
  refine jl_getf (v := .int (nI ln)) h nm_c_SR 3 wl_SR_39 (by omega) (by decide) (by exact rfl) (by exact sr_v hln) dc_SR_add_1 4 rfl ?_
  refine jl_aload_n (i := 0) h rfl rfl dc_SR_add_4 5 rfl ?_
  refine jl_getf h nm_c_SR 5 wl_SR_18 (by omega) (by decide) (by exact rfl) (by rfl) dc_SR_add_5 8 rfl ?_
  refine jl_callV (As := []) (rest := [_]) h hr vs_SR_45 vi_ST_size vx_ST_size (ci := 1) rfl (by omega) (by exact hST) (fun l => c_ST_size l (by omega) hS) (by first | decide | omega) (by first | decide | omega) rfl rfl (Nat.le_of_ble_eq_true rfl) dc_SR_add_8 (res := [_, _]) rfl 11 rfl ?_
  refine jl_icmp_lt h 16 (by decide) dc_SR_add_11 14 rfl (fun c11 => ?_) (fun c11 => absurd (nI_lt h2 (by omega)) c11)
  refine jl_iload_n (i := 1) h rfl rfl dc_SR_add_16 17 rfl ?_
  refine jl_bipush (v := 40) h (by decide) dc_SR_add_17 19 rfl ?_
  refine jl_icmp_ne h 48 (by decide) dc_SR_add_19 22 rfl (fun c19 => ?_) (fun c19 => absurd c19 (by decide))
  refine jl_iload_n (i := 1) h rfl rfl dc_SR_add_48 49 rfl ?_
  refine jl_bipush (v := 41) h (by decide) dc_SR_add_49 51 rfl ?_
  refine jl_icmp_ne h 63 (by decide) dc_SR_add_51 54 rfl (fun c51 => absurd (by decide) c51) (fun c51 => ?_)
  refine jl_aload_n (i := 0) h rfl rfl dc_SR_add_54 55 rfl ?_
  refine jl_callV (As := []) (rest := []) h hr vs_SR_49 vi_SR_closeLast vx_SR_closeLast (ci := 6) rfl (by omega) (by exact rfl) (fun l => c_SR1_closeLast_no l hS hoc hln hO h1 (by omega) h3 hno) (by first | decide | omega) (by first | decide | omega) rfl rfl (Nat.le_of_ble_eq_true rfl) dc_SR_add_55 (res := [_]) rfl 58 rfl ?_
  refine jl_if_ne h 71 (by decide) dc_SR_add_58 61 rfl (fun c58 => absurd (by decide) c58) (fun c58 => ?_)
  refine jl_iconst (v := 0) h (by decide) dc_SR_add_61 62 rfl ?_
  exact jl_zret h he rfl (rfl) (rfl) dc_SR_add_62
theorem c_SR1_add_close_yes (hS : st_ok K ad (gw K ad I V L C G R) n b) (hoc : I 4 = nI oc) (hln : I 5 = nI ln) (hpr : I 6 = nI pr) (hO : V 155 = fun k => nI (f k)) (hM : V 154 = fun k => iI (w k)) (h0 : 0 < oc) (h1 : oc < 18) (h2 : ln < n) (hf : f (oc - 1) < 18) (e2 : en_cp b (f (oc - 1)) ln = true) : jl_C l K sa yn_SR_add bc_SR_add 2 (some .boolean) 3 75 168 ad [.ref (ad 153), .int 41] (gw K ad I V L C G R) (some (.int 1)) (gw K ad (va_up (va_up (va_up I 4 (nI (oc - 1))) 6 (nI (pr + 1))) 5 (nI (ln + 1))) (va_up V 154 (fun k => iI (en_pr w (f (oc - 1)) ln k))) L C G R) := by
  refine jl_enter (by decide) (Nat.le_of_ble_eq_true rfl) (fun x h he hr => ?_)
  obtain ⟨hST, hbases, hn, hb⟩ := id hS
  show jl_J x 168 ad 0 0 (gw K ad I V L C G R) 0 [(0, .ref (ad 153)), (1, .int 41)] []
  refine jl_aload_n (i := 0) h rfl rfl dc_SR_add_0 1 rfl ?_
  refine jl_getf (v := .int (nI ln)) h nm_c_SR 3 wl_SR_39 (by omega) (by decide) (by exact rfl) (by exact sr_v hln) dc_SR_add_1 4 rfl ?_
  refine jl_aload_n (i := 0) h rfl rfl dc_SR_add_4 5 rfl ?_
  refine jl_getf h nm_c_SR 5 wl_SR_18 (by omega) (by decide) (by exact rfl) (by rfl) dc_SR_add_5 8 rfl ?_
  refine jl_callV (As := []) (rest := [_]) h hr vs_SR_45 vi_ST_size vx_ST_size (ci := 1) rfl (by omega) (by exact hST) (fun l => c_ST_size l (by omega) hS) (by first | decide | omega) (by first | decide | omega) rfl rfl (Nat.le_of_ble_eq_true rfl) dc_SR_add_8 (res := [_, _]) rfl 11 rfl ?_
  refine jl_icmp_lt h 16 (by decide) dc_SR_add_11 14 rfl (fun c11 => ?_) (fun c11 => absurd (nI_lt h2 (by omega)) c11)
  refine jl_iload_n (i := 1) h rfl rfl dc_SR_add_16 17 rfl ?_
  refine jl_bipush (v := 40) h (by decide) dc_SR_add_17 19 rfl ?_
  refine jl_icmp_ne h 48 (by decide) dc_SR_add_19 22 rfl (fun c19 => ?_) (fun c19 => absurd c19 (by decide))
  refine jl_iload_n (i := 1) h rfl rfl dc_SR_add_48 49 rfl ?_
  refine jl_bipush (v := 41) h (by decide) dc_SR_add_49 51 rfl ?_
  refine jl_icmp_ne h 63 (by decide) dc_SR_add_51 54 rfl (fun c51 => absurd (by decide) c51) (fun c51 => ?_)
  refine jl_aload_n (i := 0) h rfl rfl dc_SR_add_54 55 rfl ?_
  refine jl_callV (As := []) (rest := []) h hr vs_SR_49 vi_SR_closeLast vx_SR_closeLast (ci := 6) rfl (by omega) (by exact rfl) (fun l => c_SR1_closeLast_yes l hS hoc hln hpr hO hM h0 h1 (by omega) hf e2) (by first | decide | omega) (by first | decide | omega) rfl rfl (Nat.le_of_ble_eq_true rfl) dc_SR_add_55 (res := [_]) rfl 58 rfl ?_
  refine jl_if_ne h 71 (by decide) dc_SR_add_58 61 rfl (fun c58 => ?_) (fun c58 => absurd c58 (by decide))
  refine jl_aload_n (i := 0) h rfl rfl dc_SR_add_71 72 rfl ?_
  refine jl_dup h rfl dc_SR_add_72 73 rfl ?_
  refine jl_getf (v := .int (nI ln)) h nm_c_SR 3 wl_SR_39 (by omega) (by decide) (by exact rfl) (by exact sr_v hln) dc_SR_add_73 76 rfl ?_
  refine jl_iconst (v := 1) h (by decide) dc_SR_add_76 77 rfl ?_
  refine jl_iadd h dc_SR_add_77 78 rfl ?_
  rw [show nI ln + 1 = nI (ln + 1) by exact nI_1 ln]
  refine jl_putf (fs2 := [_, _, _, _, _, _, _]) h nm_c_SR 3 wl_SR_39 (by omega) (by decide) rfl (by exact rfl) (by rfl) (by rfl) (by exact Nat.le_of_ble_eq_true rfl) (by rfl) dc_SR_add_78 (gw_set_len1 _) 81 rfl ?_
  refine jl_iconst (v := 1) h (by decide) dc_SR_add_81 82 rfl ?_
  exact jl_zret h he rfl (rfl) (rfl) dc_SR_add_82
theorem c_SR2_closeLast_no (hS : st_ok K ad (gw K ad I V L C G R) n b) (hoc : I 7 = nI oc) (hln : I 8 = nI ln) (hO : V 158 = fun k => nI (f k)) (h1 : oc < 18) (h2 : ln < 18) (h3 : ∀ k, k < oc → f k < 18) (hno : 0 < oc → en_cp b (f (oc - 1)) ln = false) : jl_C l K sa yn_SR_closeLast bc_SR_closeLast 2 (some .boolean) 2 50 168 ad [.ref (ad 156)] (gw K ad I V L C G R) (some (.int 0)) (gw K ad I V L C G R) := by
  refine jl_enter (by decide) (Nat.le_of_ble_eq_true rfl) (fun x h he hr => ?_)
  obtain ⟨hST, hbases, hn, hb⟩ := id hS
  show jl_J x 168 ad 0 0 (gw K ad I V L C G R) 0 [(0, .ref (ad 156))] []
  rcases Nat.eq_zero_or_pos oc with h0 | h0
  · subst h0
    refine jl_aload_n (i := 0) h rfl rfl dc_SR_closeLast_0 1 rfl ?_
    refine jl_getf (v := .int (nI 0)) h nm_c_SR 2 wl_SR_35 (by omega) (by decide) (by exact rfl) (by exact sr_v hoc) dc_SR_closeLast_1 4 rfl ?_
    refine jl_if_gt h 9 (by decide) dc_SR_closeLast_4 7 rfl (fun c4 => absurd c4 (by decide)) (fun c4 => ?_)
    refine jl_iconst (v := 0) h (by decide) dc_SR_closeLast_7 8 rfl ?_
    exact jl_zret h he rfl (rfl) (rfl) dc_SR_closeLast_8
  · have hf := h3 (oc - 1) (by omega)
    have e1 : nI oc - 1 = nI (oc - 1) := by rw [show (1 : Int32) = nI 1 from rfl, pk_sub h0]
    have e2 := hno h0
    refine jl_aload_n (i := 0) h rfl rfl dc_SR_closeLast_0 1 rfl ?_
    refine jl_getf (v := .int (nI oc)) h nm_c_SR 2 wl_SR_35 (by omega) (by decide) (by exact rfl) (by exact sr_v hoc) dc_SR_closeLast_1 4 rfl ?_
    refine jl_if_gt h 9 (by decide) dc_SR_closeLast_4 7 rfl (fun c4 => ?_) (fun c4 => absurd (by rw [show (0 : Int32) = nI 0 from rfl]; exact nI_lt h0 (by omega)) c4)
    refine jl_aload_n (i := 0) h rfl rfl dc_SR_closeLast_9 10 rfl ?_
    refine jl_getf h nm_c_SR 1 wl_SR_15 (by omega) (by decide) (by exact rfl) (by rfl) dc_SR_closeLast_10 13 rfl ?_
    refine jl_aload_n (i := 0) h rfl rfl dc_SR_closeLast_13 14 rfl ?_
    refine jl_getf (v := .int (nI oc)) h nm_c_SR 2 wl_SR_35 (by omega) (by decide) (by exact rfl) (by exact sr_v hoc) dc_SR_closeLast_14 17 rfl ?_
    refine jl_iconst (v := 1) h (by decide) dc_SR_closeLast_17 18 rfl ?_
    refine jl_isub h dc_SR_closeLast_18 19 rfl ?_
    rw [show nI oc - 1 = nI (oc - 1) by exact e1]
    refine jl_iald (v := nI (f (oc - 1))) h (oc - 1) (by exact rfl) (by omega) (by exact gw_at (len := 18) rfl rfl hO) (by exact by omega) (by first | decide | assumption) (by exact rfl) dc_SR_closeLast_19 20 rfl ?_
    refine jl_istore_n (i := 1) (lc2 := [(1, _), (0, _)]) h rfl (by decide) rfl dc_SR_closeLast_20 21 rfl ?_
    refine jl_aload_n (i := 0) h rfl rfl dc_SR_closeLast_21 22 rfl ?_
    refine jl_getf h nm_c_SR 5 wl_SR_18 (by omega) (by decide) (by exact rfl) (by rfl) dc_SR_closeLast_22 25 rfl ?_
    refine jl_iload_n (i := 1) h rfl rfl dc_SR_closeLast_25 26 rfl ?_
    refine jl_aload_n (i := 0) h rfl rfl dc_SR_closeLast_26 27 rfl ?_
    refine jl_getf (v := .int (nI ln)) h nm_c_SR 3 wl_SR_39 (by omega) (by decide) (by exact rfl) (by exact sr_v hln) dc_SR_closeLast_27 30 rfl ?_
    refine jl_callV (As := [_, _]) (rest := []) h hr vs_SR_53 vi_ST_canPair vx_ST_canPair (ci := 1) rfl (by omega) (by exact hST) (fun l => c_ST_canPair l (by omega) hS hf h2) (by first | decide | omega) (by first | decide | omega) rfl rfl (Nat.le_of_ble_eq_true rfl) dc_SR_closeLast_30 (res := [_]) rfl 33 rfl ?_
    rw [e2]
    refine jl_if_ne h 38 (by decide) dc_SR_closeLast_33 36 rfl (fun c33 => absurd (by decide) c33) (fun c33 => ?_)
    refine jl_iconst (v := 0) h (by decide) dc_SR_closeLast_36 37 rfl ?_
    exact jl_zret h he rfl (rfl) (rfl) dc_SR_closeLast_37
theorem c_SR2_closeLast_yes (hS : st_ok K ad (gw K ad I V L C G R) n b) (hoc : I 7 = nI oc) (hln : I 8 = nI ln) (hpr : I 9 = nI pr) (hO : V 158 = fun k => nI (f k)) (hM : V 157 = fun k => iI (w k)) (h0 : 0 < oc) (h1 : oc < 18) (h2 : ln < 18) (hf : f (oc - 1) < 18) (e2 : en_cp b (f (oc - 1)) ln = true) : jl_C l K sa yn_SR_closeLast bc_SR_closeLast 2 (some .boolean) 2 50 168 ad [.ref (ad 156)] (gw K ad I V L C G R) (some (.int 1)) (gw K ad (va_up (va_up I 7 (nI (oc - 1))) 9 (nI (pr + 1))) (va_up V 157 (fun k => iI (en_pr w (f (oc - 1)) ln k))) L C G R) := by
  refine jl_enter (by decide) (Nat.le_of_ble_eq_true rfl) (fun x h he hr => ?_)
  obtain ⟨hST, hbases, hn, hb⟩ := id hS
  show jl_J x 168 ad 0 0 (gw K ad I V L C G R) 0 [(0, .ref (ad 156))] []
  have e1 : nI oc - 1 = nI (oc - 1) := by rw [show (1 : Int32) = nI 1 from rfl, pk_sub h0]
  refine jl_aload_n (i := 0) h rfl rfl dc_SR_closeLast_0 1 rfl ?_
  refine jl_getf (v := .int (nI oc)) h nm_c_SR 2 wl_SR_35 (by omega) (by decide) (by exact rfl) (by exact sr_v hoc) dc_SR_closeLast_1 4 rfl ?_
  refine jl_if_gt h 9 (by decide) dc_SR_closeLast_4 7 rfl (fun c4 => ?_) (fun c4 => absurd (by rw [show (0 : Int32) = nI 0 from rfl]; exact nI_lt h0 (by omega)) c4)
  refine jl_aload_n (i := 0) h rfl rfl dc_SR_closeLast_9 10 rfl ?_
  refine jl_getf h nm_c_SR 1 wl_SR_15 (by omega) (by decide) (by exact rfl) (by rfl) dc_SR_closeLast_10 13 rfl ?_
  refine jl_aload_n (i := 0) h rfl rfl dc_SR_closeLast_13 14 rfl ?_
  refine jl_getf (v := .int (nI oc)) h nm_c_SR 2 wl_SR_35 (by omega) (by decide) (by exact rfl) (by exact sr_v hoc) dc_SR_closeLast_14 17 rfl ?_
  refine jl_iconst (v := 1) h (by decide) dc_SR_closeLast_17 18 rfl ?_
  refine jl_isub h dc_SR_closeLast_18 19 rfl ?_
  rw [show nI oc - 1 = nI (oc - 1) by exact e1]
  refine jl_iald (v := nI (f (oc - 1))) h (oc - 1) (by exact rfl) (by omega) (by exact gw_at (len := 18) rfl rfl hO) (by exact by omega) (by first | decide | assumption) (by exact rfl) dc_SR_closeLast_19 20 rfl ?_
  refine jl_istore_n (i := 1) (lc2 := [(1, _), (0, _)]) h rfl (by decide) rfl dc_SR_closeLast_20 21 rfl ?_
  refine jl_aload_n (i := 0) h rfl rfl dc_SR_closeLast_21 22 rfl ?_
  refine jl_getf h nm_c_SR 5 wl_SR_18 (by omega) (by decide) (by exact rfl) (by rfl) dc_SR_closeLast_22 25 rfl ?_
  refine jl_iload_n (i := 1) h rfl rfl dc_SR_closeLast_25 26 rfl ?_
  refine jl_aload_n (i := 0) h rfl rfl dc_SR_closeLast_26 27 rfl ?_
  refine jl_getf (v := .int (nI ln)) h nm_c_SR 3 wl_SR_39 (by omega) (by decide) (by exact rfl) (by exact sr_v hln) dc_SR_closeLast_27 30 rfl ?_
  refine jl_callV (As := [_, _]) (rest := []) h hr vs_SR_53 vi_ST_canPair vx_ST_canPair (ci := 1) rfl (by omega) (by exact hST) (fun l => c_ST_canPair l (by omega) hS hf h2) (by first | decide | omega) (by first | decide | omega) rfl rfl (Nat.le_of_ble_eq_true rfl) dc_SR_closeLast_30 (res := [_]) rfl 33 rfl ?_
  rw [e2]
  refine jl_if_ne h 38 (by decide) dc_SR_closeLast_33 36 rfl (fun c33 => ?_) (fun c33 => absurd c33 (by decide))
  refine jl_aload_n (i := 0) h rfl rfl dc_SR_closeLast_38 39 rfl ?_
  refine jl_dup h rfl dc_SR_closeLast_39 40 rfl ?_
  refine jl_getf (v := .int (nI oc)) h nm_c_SR 2 wl_SR_35 (by omega) (by decide) (by exact rfl) (by exact sr_v hoc) dc_SR_closeLast_40 43 rfl ?_
  refine jl_iconst (v := 1) h (by decide) dc_SR_closeLast_43 44 rfl ?_
  refine jl_isub h dc_SR_closeLast_44 45 rfl ?_
  rw [show nI oc - 1 = nI (oc - 1) by exact e1]
  refine jl_putf (fs2 := [_, _, _, _, _, _, _]) h nm_c_SR 2 wl_SR_35 (by omega) (by decide) rfl (by exact rfl) (by rfl) (by rfl) (by exact Nat.le_of_ble_eq_true rfl) (by rfl) dc_SR_closeLast_45 (gw_set_oc2 _) 48 rfl ?_
  refine jl_aload_n (i := 0) h rfl rfl dc_SR_closeLast_48 49 rfl ?_
  refine jl_getf h nm_c_SR 0 wl_SR_9 (by omega) (by decide) (by exact rfl) (by rfl) dc_SR_closeLast_49 52 rfl ?_
  refine jl_iload_n (i := 1) h rfl rfl dc_SR_closeLast_52 53 rfl ?_
  refine jl_aload_n (i := 0) h rfl rfl dc_SR_closeLast_53 54 rfl ?_
  refine jl_getf (v := .int (nI ln)) h nm_c_SR 3 wl_SR_39 (by omega) (by decide) (by exact rfl) (by exact sr_v hln) dc_SR_closeLast_54 57 rfl ?_
  refine jl_iast h (f (oc - 1)) (by exact rfl) (by omega) (by exact gw_at (len := 18) rfl rfl hM) (by exact hf) (by first | decide | assumption) dc_SR_closeLast_57 (gw_setV rfl _) 58 rfl ?_
  refine jl_aload_n (i := 0) h rfl rfl dc_SR_closeLast_58 59 rfl ?_
  refine jl_getf h nm_c_SR 0 wl_SR_9 (by omega) (by decide) (by exact rfl) (by rfl) dc_SR_closeLast_59 62 rfl ?_
  refine jl_aload_n (i := 0) h rfl rfl dc_SR_closeLast_62 63 rfl ?_
  refine jl_getf (v := .int (nI ln)) h nm_c_SR 3 wl_SR_39 (by omega) (by decide) (by exact rfl) (by exact sr_v hln) dc_SR_closeLast_63 66 rfl ?_
  refine jl_iload_n (i := 1) h rfl rfl dc_SR_closeLast_66 67 rfl ?_
  refine jl_iast h (ln) (by exact rfl) (by omega) (by exact gw_at (len := 18) rfl rfl rfl) (by exact h2) (by first | decide | assumption) dc_SR_closeLast_67 (gw_setVf rfl (sr_updpr w _ _)) 68 rfl ?_
  refine jl_aload_n (i := 0) h rfl rfl dc_SR_closeLast_68 69 rfl ?_
  refine jl_dup h rfl dc_SR_closeLast_69 70 rfl ?_
  refine jl_getf (v := .int (nI pr)) h nm_c_SR 4 wl_SR_42 (by omega) (by decide) (by exact rfl) (by exact sr_v hpr) dc_SR_closeLast_70 73 rfl ?_
  refine jl_iconst (v := 1) h (by decide) dc_SR_closeLast_73 74 rfl ?_
  refine jl_iadd h dc_SR_closeLast_74 75 rfl ?_
  rw [show nI pr + 1 = nI (pr + 1) by exact nI_1 pr]
  refine jl_putf (fs2 := [_, _, _, _, _, _, _]) h nm_c_SR 4 wl_SR_42 (by omega) (by decide) rfl (by exact rfl) (by rfl) (by rfl) (by exact Nat.le_of_ble_eq_true rfl) (by rfl) dc_SR_closeLast_75 (gw_set_prs2 _) 78 rfl ?_
  refine jl_iconst (v := 1) h (by decide) dc_SR_closeLast_78 79 rfl ?_
  exact jl_zret h he rfl (rfl) (by rw [bx_uu]) dc_SR_closeLast_79
theorem c_SR2_add_full (hS : st_ok K ad (gw K ad I V L C G R) n b) (hln : I 8 = nI ln) (h2 : ln < 40) (hfull : n ≤ ln) (q : Int32) : jl_C l K sa yn_SR_add bc_SR_add 2 (some .boolean) 3 75 168 ad [.ref (ad 156), .int q] (gw K ad I V L C G R) (some (.int 0)) (gw K ad I V L C G R) := by
  refine jl_enter (by decide) (Nat.le_of_ble_eq_true rfl) (fun x h he hr => ?_)
  obtain ⟨hST, hbases, hn, hb⟩ := id hS
  show jl_J x 168 ad 0 0 (gw K ad I V L C G R) 0 [(0, .ref (ad 156)), (1, .int q)] []
  refine jl_aload_n (i := 0) h rfl rfl dc_SR_add_0 1 rfl ?_
  refine jl_getf (v := .int (nI ln)) h nm_c_SR 3 wl_SR_39 (by omega) (by decide) (by exact rfl) (by exact sr_v hln) dc_SR_add_1 4 rfl ?_
  refine jl_aload_n (i := 0) h rfl rfl dc_SR_add_4 5 rfl ?_
  refine jl_getf h nm_c_SR 5 wl_SR_18 (by omega) (by decide) (by exact rfl) (by rfl) dc_SR_add_5 8 rfl ?_
  refine jl_callV (As := []) (rest := [_]) h hr vs_SR_45 vi_ST_size vx_ST_size (ci := 1) rfl (by omega) (by exact hST) (fun l => c_ST_size l (by omega) hS) (by first | decide | omega) (by first | decide | omega) rfl rfl (Nat.le_of_ble_eq_true rfl) dc_SR_add_8 (res := [_, _]) rfl 11 rfl ?_
  refine jl_icmp_lt h 16 (by decide) dc_SR_add_11 14 rfl (fun c11 => absurd c11 (nI_nlt hfull (by omega))) (fun c11 => ?_)
  refine jl_iconst (v := 0) h (by decide) dc_SR_add_14 15 rfl ?_
  exact jl_zret h he rfl (rfl) (rfl) dc_SR_add_15
theorem c_SR2_add_open (hS : st_ok K ad (gw K ad I V L C G R) n b) (hoc : I 7 = nI oc) (hln : I 8 = nI ln) (hO : V 158 = fun k => nI (f k)) (h1 : oc < 18) (h2 : ln < n) : jl_C l K sa yn_SR_add bc_SR_add 2 (some .boolean) 3 75 168 ad [.ref (ad 156), .int 40] (gw K ad I V L C G R) (some (.int 1)) (gw K ad (va_up (va_up I 7 (nI (oc + 1))) 8 (nI (ln + 1))) (va_up V 158 (fun k => nI (va_up f oc ln k))) L C G R) := by
  refine jl_enter (by decide) (Nat.le_of_ble_eq_true rfl) (fun x h he hr => ?_)
  obtain ⟨hST, hbases, hn, hb⟩ := id hS
  show jl_J x 168 ad 0 0 (gw K ad I V L C G R) 0 [(0, .ref (ad 156)), (1, .int 40)] []
  refine jl_aload_n (i := 0) h rfl rfl dc_SR_add_0 1 rfl ?_
  refine jl_getf (v := .int (nI ln)) h nm_c_SR 3 wl_SR_39 (by omega) (by decide) (by exact rfl) (by exact sr_v hln) dc_SR_add_1 4 rfl ?_
  refine jl_aload_n (i := 0) h rfl rfl dc_SR_add_4 5 rfl ?_
  refine jl_getf h nm_c_SR 5 wl_SR_18 (by omega) (by decide) (by exact rfl) (by rfl) dc_SR_add_5 8 rfl ?_
  refine jl_callV (As := []) (rest := [_]) h hr vs_SR_45 vi_ST_size vx_ST_size (ci := 1) rfl (by omega) (by exact hST) (fun l => c_ST_size l (by omega) hS) (by first | decide | omega) (by first | decide | omega) rfl rfl (Nat.le_of_ble_eq_true rfl) dc_SR_add_8 (res := [_, _]) rfl 11 rfl ?_
  refine jl_icmp_lt h 16 (by decide) dc_SR_add_11 14 rfl (fun c11 => ?_) (fun c11 => absurd (nI_lt h2 (by omega)) c11)
  refine jl_iload_n (i := 1) h rfl rfl dc_SR_add_16 17 rfl ?_
  refine jl_bipush (v := 40) h (by decide) dc_SR_add_17 19 rfl ?_
  refine jl_icmp_ne h 48 (by decide) dc_SR_add_19 22 rfl (fun c19 => absurd (by decide) c19) (fun c19 => ?_)
  refine jl_aload_n (i := 0) h rfl rfl dc_SR_add_22 23 rfl ?_
  refine jl_getf h nm_c_SR 1 wl_SR_15 (by omega) (by decide) (by exact rfl) (by rfl) dc_SR_add_23 26 rfl ?_
  refine jl_aload_n (i := 0) h rfl rfl dc_SR_add_26 27 rfl ?_
  refine jl_getf (v := .int (nI oc)) h nm_c_SR 2 wl_SR_35 (by omega) (by decide) (by exact rfl) (by exact sr_v hoc) dc_SR_add_27 30 rfl ?_
  refine jl_aload_n (i := 0) h rfl rfl dc_SR_add_30 31 rfl ?_
  refine jl_getf (v := .int (nI ln)) h nm_c_SR 3 wl_SR_39 (by omega) (by decide) (by exact rfl) (by exact sr_v hln) dc_SR_add_31 34 rfl ?_
  refine jl_iast h (oc) (by exact rfl) (by omega) (by exact gw_at (len := 18) rfl rfl hO) (by exact h1) (by first | decide | assumption) dc_SR_add_34 (gw_setVf rfl (st_upd f oc ln)) 35 rfl ?_
  refine jl_aload_n (i := 0) h rfl rfl dc_SR_add_35 36 rfl ?_
  refine jl_dup h rfl dc_SR_add_36 37 rfl ?_
  refine jl_getf (v := .int (nI oc)) h nm_c_SR 2 wl_SR_35 (by omega) (by decide) (by exact rfl) (by exact sr_v hoc) dc_SR_add_37 40 rfl ?_
  refine jl_iconst (v := 1) h (by decide) dc_SR_add_40 41 rfl ?_
  refine jl_iadd h dc_SR_add_41 42 rfl ?_
  rw [show nI oc + 1 = nI (oc + 1) by exact nI_1 oc]
  refine jl_putf (fs2 := [_, _, _, _, _, _, _]) h nm_c_SR 2 wl_SR_35 (by omega) (by decide) rfl (by exact rfl) (by rfl) (by rfl) (by exact Nat.le_of_ble_eq_true rfl) (by rfl) dc_SR_add_42 (gw_set_oc2 _) 45 rfl ?_
  refine jl_goto h 71 (by decide) dc_SR_add_45 ?_
  refine jl_aload_n (i := 0) h rfl rfl dc_SR_add_71 72 rfl ?_
  refine jl_dup h rfl dc_SR_add_72 73 rfl ?_
  refine jl_getf (v := .int (nI ln)) h nm_c_SR 3 wl_SR_39 (by omega) (by decide) (by exact rfl) (by exact sr_v hln) dc_SR_add_73 76 rfl ?_
  refine jl_iconst (v := 1) h (by decide) dc_SR_add_76 77 rfl ?_
  refine jl_iadd h dc_SR_add_77 78 rfl ?_
  rw [show nI ln + 1 = nI (ln + 1) by exact nI_1 ln]
  refine jl_putf (fs2 := [_, _, _, _, _, _, _]) h nm_c_SR 3 wl_SR_39 (by omega) (by decide) rfl (by exact rfl) (by rfl) (by rfl) (by exact Nat.le_of_ble_eq_true rfl) (by rfl) dc_SR_add_78 (gw_set_len2 _) 81 rfl ?_
  refine jl_iconst (v := 1) h (by decide) dc_SR_add_81 82 rfl ?_
  exact jl_zret h he rfl (rfl) (rfl) dc_SR_add_82
theorem c_SR2_add_dot (hS : st_ok K ad (gw K ad I V L C G R) n b) (hln : I 8 = nI ln) (h2 : ln < n) : jl_C l K sa yn_SR_add bc_SR_add 2 (some .boolean) 3 75 168 ad [.ref (ad 156), .int 46] (gw K ad I V L C G R) (some (.int 1)) (gw K ad (va_up I 8 (nI (ln + 1))) V L C G R) := by
  refine jl_enter (by decide) (Nat.le_of_ble_eq_true rfl) (fun x h he hr => ?_)
  obtain ⟨hST, hbases, hn, hb⟩ := id hS
  show jl_J x 168 ad 0 0 (gw K ad I V L C G R) 0 [(0, .ref (ad 156)), (1, .int 46)] []
  refine jl_aload_n (i := 0) h rfl rfl dc_SR_add_0 1 rfl ?_
  refine jl_getf (v := .int (nI ln)) h nm_c_SR 3 wl_SR_39 (by omega) (by decide) (by exact rfl) (by exact sr_v hln) dc_SR_add_1 4 rfl ?_
  refine jl_aload_n (i := 0) h rfl rfl dc_SR_add_4 5 rfl ?_
  refine jl_getf h nm_c_SR 5 wl_SR_18 (by omega) (by decide) (by exact rfl) (by rfl) dc_SR_add_5 8 rfl ?_
  refine jl_callV (As := []) (rest := [_]) h hr vs_SR_45 vi_ST_size vx_ST_size (ci := 1) rfl (by omega) (by exact hST) (fun l => c_ST_size l (by omega) hS) (by first | decide | omega) (by first | decide | omega) rfl rfl (Nat.le_of_ble_eq_true rfl) dc_SR_add_8 (res := [_, _]) rfl 11 rfl ?_
  refine jl_icmp_lt h 16 (by decide) dc_SR_add_11 14 rfl (fun c11 => ?_) (fun c11 => absurd (nI_lt h2 (by omega)) c11)
  refine jl_iload_n (i := 1) h rfl rfl dc_SR_add_16 17 rfl ?_
  refine jl_bipush (v := 40) h (by decide) dc_SR_add_17 19 rfl ?_
  refine jl_icmp_ne h 48 (by decide) dc_SR_add_19 22 rfl (fun c19 => ?_) (fun c19 => absurd c19 (by decide))
  refine jl_iload_n (i := 1) h rfl rfl dc_SR_add_48 49 rfl ?_
  refine jl_bipush (v := 41) h (by decide) dc_SR_add_49 51 rfl ?_
  refine jl_icmp_ne h 63 (by decide) dc_SR_add_51 54 rfl (fun c51 => ?_) (fun c51 => absurd c51 (by decide))
  refine jl_iload_n (i := 1) h rfl rfl dc_SR_add_63 64 rfl ?_
  refine jl_bipush (v := 46) h (by decide) dc_SR_add_64 66 rfl ?_
  refine jl_icmp_eq h 71 (by decide) dc_SR_add_66 69 rfl (fun c66 => ?_) (fun c66 => absurd (by decide) c66)
  refine jl_aload_n (i := 0) h rfl rfl dc_SR_add_71 72 rfl ?_
  refine jl_dup h rfl dc_SR_add_72 73 rfl ?_
  refine jl_getf (v := .int (nI ln)) h nm_c_SR 3 wl_SR_39 (by omega) (by decide) (by exact rfl) (by exact sr_v hln) dc_SR_add_73 76 rfl ?_
  refine jl_iconst (v := 1) h (by decide) dc_SR_add_76 77 rfl ?_
  refine jl_iadd h dc_SR_add_77 78 rfl ?_
  rw [show nI ln + 1 = nI (ln + 1) by exact nI_1 ln]
  refine jl_putf (fs2 := [_, _, _, _, _, _, _]) h nm_c_SR 3 wl_SR_39 (by omega) (by decide) rfl (by exact rfl) (by rfl) (by rfl) (by exact Nat.le_of_ble_eq_true rfl) (by rfl) dc_SR_add_78 (gw_set_len2 _) 81 rfl ?_
  refine jl_iconst (v := 1) h (by decide) dc_SR_add_81 82 rfl ?_
  exact jl_zret h he rfl (rfl) (rfl) dc_SR_add_82
theorem c_SR2_add_bad (hS : st_ok K ad (gw K ad I V L C G R) n b) (hln : I 8 = nI ln) (h2 : ln < n) (q : Int32) (q1 : q ≠ 40) (q2 : q ≠ 41) (q3 : q ≠ 46) : jl_C l K sa yn_SR_add bc_SR_add 2 (some .boolean) 3 75 168 ad [.ref (ad 156), .int q] (gw K ad I V L C G R) (some (.int 0)) (gw K ad I V L C G R) := by
  refine jl_enter (by decide) (Nat.le_of_ble_eq_true rfl) (fun x h he hr => ?_)
  obtain ⟨hST, hbases, hn, hb⟩ := id hS
  show jl_J x 168 ad 0 0 (gw K ad I V L C G R) 0 [(0, .ref (ad 156)), (1, .int q)] []
  refine jl_aload_n (i := 0) h rfl rfl dc_SR_add_0 1 rfl ?_
  refine jl_getf (v := .int (nI ln)) h nm_c_SR 3 wl_SR_39 (by omega) (by decide) (by exact rfl) (by exact sr_v hln) dc_SR_add_1 4 rfl ?_
  refine jl_aload_n (i := 0) h rfl rfl dc_SR_add_4 5 rfl ?_
  refine jl_getf h nm_c_SR 5 wl_SR_18 (by omega) (by decide) (by exact rfl) (by rfl) dc_SR_add_5 8 rfl ?_
  refine jl_callV (As := []) (rest := [_]) h hr vs_SR_45 vi_ST_size vx_ST_size (ci := 1) rfl (by omega) (by exact hST) (fun l => c_ST_size l (by omega) hS) (by first | decide | omega) (by first | decide | omega) rfl rfl (Nat.le_of_ble_eq_true rfl) dc_SR_add_8 (res := [_, _]) rfl 11 rfl ?_
  refine jl_icmp_lt h 16 (by decide) dc_SR_add_11 14 rfl (fun c11 => ?_) (fun c11 => absurd (nI_lt h2 (by omega)) c11)
  refine jl_iload_n (i := 1) h rfl rfl dc_SR_add_16 17 rfl ?_
  refine jl_bipush (v := 40) h (by decide) dc_SR_add_17 19 rfl ?_
  refine jl_icmp_ne h 48 (by decide) dc_SR_add_19 22 rfl (fun c19 => ?_) (fun c19 => absurd c19 (q1))
  refine jl_iload_n (i := 1) h rfl rfl dc_SR_add_48 49 rfl ?_
  refine jl_bipush (v := 41) h (by decide) dc_SR_add_49 51 rfl ?_
  refine jl_icmp_ne h 63 (by decide) dc_SR_add_51 54 rfl (fun c51 => ?_) (fun c51 => absurd c51 (q2))
  refine jl_iload_n (i := 1) h rfl rfl dc_SR_add_63 64 rfl ?_
  refine jl_bipush (v := 46) h (by decide) dc_SR_add_64 66 rfl ?_
  refine jl_icmp_eq h 71 (by decide) dc_SR_add_66 69 rfl (fun c66 => absurd c66 (q3)) (fun c66 => ?_)
  refine jl_iconst (v := 0) h (by decide) dc_SR_add_69 70 rfl ?_
  exact jl_zret h he rfl (rfl) (rfl) dc_SR_add_70
theorem c_SR2_add_close_no (hS : st_ok K ad (gw K ad I V L C G R) n b) (hoc : I 7 = nI oc) (hln : I 8 = nI ln) (hO : V 158 = fun k => nI (f k)) (h1 : oc < 18) (h2 : ln < n) (h3 : ∀ k, k < oc → f k < 18) (hno : 0 < oc → en_cp b (f (oc - 1)) ln = false) : jl_C l K sa yn_SR_add bc_SR_add 2 (some .boolean) 3 75 168 ad [.ref (ad 156), .int 41] (gw K ad I V L C G R) (some (.int 0)) (gw K ad I V L C G R) := by
  refine jl_enter (by decide) (Nat.le_of_ble_eq_true rfl) (fun x h he hr => ?_)
  obtain ⟨hST, hbases, hn, hb⟩ := id hS
  show jl_J x 168 ad 0 0 (gw K ad I V L C G R) 0 [(0, .ref (ad 156)), (1, .int 41)] []
  refine jl_aload_n (i := 0) h rfl rfl dc_SR_add_0 1 rfl ?_
  refine jl_getf (v := .int (nI ln)) h nm_c_SR 3 wl_SR_39 (by omega) (by decide) (by exact rfl) (by exact sr_v hln) dc_SR_add_1 4 rfl ?_
  refine jl_aload_n (i := 0) h rfl rfl dc_SR_add_4 5 rfl ?_
  refine jl_getf h nm_c_SR 5 wl_SR_18 (by omega) (by decide) (by exact rfl) (by rfl) dc_SR_add_5 8 rfl ?_
  refine jl_callV (As := []) (rest := [_]) h hr vs_SR_45 vi_ST_size vx_ST_size (ci := 1) rfl (by omega) (by exact hST) (fun l => c_ST_size l (by omega) hS) (by first | decide | omega) (by first | decide | omega) rfl rfl (Nat.le_of_ble_eq_true rfl) dc_SR_add_8 (res := [_, _]) rfl 11 rfl ?_
  refine jl_icmp_lt h 16 (by decide) dc_SR_add_11 14 rfl (fun c11 => ?_) (fun c11 => absurd (nI_lt h2 (by omega)) c11)
  refine jl_iload_n (i := 1) h rfl rfl dc_SR_add_16 17 rfl ?_
  refine jl_bipush (v := 40) h (by decide) dc_SR_add_17 19 rfl ?_
  refine jl_icmp_ne h 48 (by decide) dc_SR_add_19 22 rfl (fun c19 => ?_) (fun c19 => absurd c19 (by decide))
  refine jl_iload_n (i := 1) h rfl rfl dc_SR_add_48 49 rfl ?_
  refine jl_bipush (v := 41) h (by decide) dc_SR_add_49 51 rfl ?_
  refine jl_icmp_ne h 63 (by decide) dc_SR_add_51 54 rfl (fun c51 => absurd (by decide) c51) (fun c51 => ?_)
  refine jl_aload_n (i := 0) h rfl rfl dc_SR_add_54 55 rfl ?_
  refine jl_callV (As := []) (rest := []) h hr vs_SR_49 vi_SR_closeLast vx_SR_closeLast (ci := 6) rfl (by omega) (by exact rfl) (fun l => c_SR2_closeLast_no l hS hoc hln hO h1 (by omega) h3 hno) (by first | decide | omega) (by first | decide | omega) rfl rfl (Nat.le_of_ble_eq_true rfl) dc_SR_add_55 (res := [_]) rfl 58 rfl ?_
  refine jl_if_ne h 71 (by decide) dc_SR_add_58 61 rfl (fun c58 => absurd (by decide) c58) (fun c58 => ?_)
  refine jl_iconst (v := 0) h (by decide) dc_SR_add_61 62 rfl ?_
  exact jl_zret h he rfl (rfl) (rfl) dc_SR_add_62
theorem c_SR2_add_close_yes (hS : st_ok K ad (gw K ad I V L C G R) n b) (hoc : I 7 = nI oc) (hln : I 8 = nI ln) (hpr : I 9 = nI pr) (hO : V 158 = fun k => nI (f k)) (hM : V 157 = fun k => iI (w k)) (h0 : 0 < oc) (h1 : oc < 18) (h2 : ln < n) (hf : f (oc - 1) < 18) (e2 : en_cp b (f (oc - 1)) ln = true) : jl_C l K sa yn_SR_add bc_SR_add 2 (some .boolean) 3 75 168 ad [.ref (ad 156), .int 41] (gw K ad I V L C G R) (some (.int 1)) (gw K ad (va_up (va_up (va_up I 7 (nI (oc - 1))) 9 (nI (pr + 1))) 8 (nI (ln + 1))) (va_up V 157 (fun k => iI (en_pr w (f (oc - 1)) ln k))) L C G R) := by
  refine jl_enter (by decide) (Nat.le_of_ble_eq_true rfl) (fun x h he hr => ?_)
  obtain ⟨hST, hbases, hn, hb⟩ := id hS
  show jl_J x 168 ad 0 0 (gw K ad I V L C G R) 0 [(0, .ref (ad 156)), (1, .int 41)] []
  refine jl_aload_n (i := 0) h rfl rfl dc_SR_add_0 1 rfl ?_
  refine jl_getf (v := .int (nI ln)) h nm_c_SR 3 wl_SR_39 (by omega) (by decide) (by exact rfl) (by exact sr_v hln) dc_SR_add_1 4 rfl ?_
  refine jl_aload_n (i := 0) h rfl rfl dc_SR_add_4 5 rfl ?_
  refine jl_getf h nm_c_SR 5 wl_SR_18 (by omega) (by decide) (by exact rfl) (by rfl) dc_SR_add_5 8 rfl ?_
  refine jl_callV (As := []) (rest := [_]) h hr vs_SR_45 vi_ST_size vx_ST_size (ci := 1) rfl (by omega) (by exact hST) (fun l => c_ST_size l (by omega) hS) (by first | decide | omega) (by first | decide | omega) rfl rfl (Nat.le_of_ble_eq_true rfl) dc_SR_add_8 (res := [_, _]) rfl 11 rfl ?_
  refine jl_icmp_lt h 16 (by decide) dc_SR_add_11 14 rfl (fun c11 => ?_) (fun c11 => absurd (nI_lt h2 (by omega)) c11)
  refine jl_iload_n (i := 1) h rfl rfl dc_SR_add_16 17 rfl ?_
  refine jl_bipush (v := 40) h (by decide) dc_SR_add_17 19 rfl ?_
  refine jl_icmp_ne h 48 (by decide) dc_SR_add_19 22 rfl (fun c19 => ?_) (fun c19 => absurd c19 (by decide))
  refine jl_iload_n (i := 1) h rfl rfl dc_SR_add_48 49 rfl ?_
  refine jl_bipush (v := 41) h (by decide) dc_SR_add_49 51 rfl ?_
  refine jl_icmp_ne h 63 (by decide) dc_SR_add_51 54 rfl (fun c51 => absurd (by decide) c51) (fun c51 => ?_)
  refine jl_aload_n (i := 0) h rfl rfl dc_SR_add_54 55 rfl ?_
  refine jl_callV (As := []) (rest := []) h hr vs_SR_49 vi_SR_closeLast vx_SR_closeLast (ci := 6) rfl (by omega) (by exact rfl) (fun l => c_SR2_closeLast_yes l hS hoc hln hpr hO hM h0 h1 (by omega) hf e2) (by first | decide | omega) (by first | decide | omega) rfl rfl (Nat.le_of_ble_eq_true rfl) dc_SR_add_55 (res := [_]) rfl 58 rfl ?_
  refine jl_if_ne h 71 (by decide) dc_SR_add_58 61 rfl (fun c58 => ?_) (fun c58 => absurd c58 (by decide))
  refine jl_aload_n (i := 0) h rfl rfl dc_SR_add_71 72 rfl ?_
  refine jl_dup h rfl dc_SR_add_72 73 rfl ?_
  refine jl_getf (v := .int (nI ln)) h nm_c_SR 3 wl_SR_39 (by omega) (by decide) (by exact rfl) (by exact sr_v hln) dc_SR_add_73 76 rfl ?_
  refine jl_iconst (v := 1) h (by decide) dc_SR_add_76 77 rfl ?_
  refine jl_iadd h dc_SR_add_77 78 rfl ?_
  rw [show nI ln + 1 = nI (ln + 1) by exact nI_1 ln]
  refine jl_putf (fs2 := [_, _, _, _, _, _, _]) h nm_c_SR 3 wl_SR_39 (by omega) (by decide) rfl (by exact rfl) (by rfl) (by rfl) (by exact Nat.le_of_ble_eq_true rfl) (by rfl) dc_SR_add_78 (gw_set_len2 _) 81 rfl ?_
  refine jl_iconst (v := 1) h (by decide) dc_SR_add_81 82 rfl ?_
  exact jl_zret h he rfl (rfl) (rfl) dc_SR_add_82
end SA
end
section
/-! FoldedStrand$Region and FoldedStrand$Folds: the recursions as folds, and contracts. -/
theorem gw_row {K : Nat → ClassId} {ad : Nat → Nat} {I : Nat → Int32} {V : Nat → Nat → Int32} {L : Nat → Int64} {C : Nat → Int32} {G : Nat → Nat} {R : Nat → Nat} {k len : Nat} (h : gw_i k = true ∧ gw_len k = len) : gw K ad I V L C G R k = .inl (K 0, len, .inl (V k)) := by rw [gw_int h.1, h.2]
theorem gw_rowset {K : Nat → ClassId} {ad : Nat → Nat} {I : Nat → Int32} {V : Nat → Nat → Int32} {L : Nat → Int64} {C : Nat → Int32} {G : Nat → Nat} {R : Nat → Nat} {k len : Nat} (h : gw_i k = true ∧ gw_len k = len) (f : Nat → Int32) : va_up (gw K ad I V L C G R) k (.inl (K 0, len, .inl f)) = gw K ad I (va_up V k f) L C G R := by rw [← h.2]; exact gw_setV h.1 f
/-- per place, per pair, and what is behind a pair, of the regions outside (0), any (1), one (2), two (3) -/
def fo_pp (r : Nat) : Int := if r = 0 then 0 else 1
def fo_pq (r : Nat) : Int := if r = 0 then 0 else 4
def fo_af (r : Nat) : Nat := if r < 2 then r else r - 1
def fo_mi (a c : Int) : Int := if c < a then c else a
/-- counts and most pairs of a part, by its last place -/
def fo_cK (b : Nat → Nat) (cn : Nat → Nat → Int) (s t : Nat) : Nat → Int
  | 0 => cn s t
  | c + 1 => if en_cp b (s + c) t = true then fo_cK b cn s t c + cn s (s + c) * cn (s + c + 1) t else fo_cK b cn s t c
def fo_pK (b : Nat → Nat) (pn : Nat → Nat → Int) (s t : Nat) : Nat → Int
  | 0 => pn s t
  | c + 1 => if en_cp b (s + c) t = true then (if fo_pK b pn s t c < pn s (s + c) + 1 + pn (s + c + 1) t then pn s (s + c) + 1 + pn (s + c + 1) t else fo_pK b pn s t c) else fo_pK b pn s t c
/-- least energies of a region, by its last place -/
def fo_br (b : Nat → Nat) (r : Nat) (pe : Nat → Nat → Int) (k t : Nat) : Int := fo_pq r + lp_wk b k t 5 + pe k t
def fo_rK (b : Nat → Nat) (r : Nat) (pe : Nat → Nat → Int) (rg : Nat → Nat → Nat → Int) (s t : Nat) : Nat → Int
  | 0 => rg r s t + fo_pp r
  | c + 1 => if en_cp b (s + c) t = true then fo_mi (fo_rK b r pe rg s t c) (rg (fo_af r) s (s + c) + fo_br b r pe (s + c) t) else fo_rK b r pe rg s t c
/-- least energies of a pair and all within -/
def fo_iK (b : Nat → Nat) (pe : Nat → Nat → Int) (i j m : Nat) (z : Int) : Nat → Int
  | 0 => z
  | c + 1 => if en_cp b (i + 1 + c) m = true then fo_mi (fo_iK b pe i j m z c) (lp_w1 b i j (i + 1 + c) m + pe (i + 1 + c) m) else fo_iK b pe i j m z c
def fo_many (b : Nat → Nat) (rg : Nat → Nat → Nat → Int) (i j : Nat) : Int := 38 + lp_wk b i j 5 + rg 3 (i + 1) j
def fo_oK (b : Nat → Nat) (pe : Nat → Nat → Int) (rg : Nat → Nat → Nat → Int) (i j : Nat) : Nat → Int
  | 0 => fo_mi (lp_hp b i j) (fo_many b rg i j)
  | c + 1 => fo_iK b pe i j (j - 1 - c) (fo_oK b pe rg i j c) (j - 1 - c - 4 - i)
/-- far from the limits of an int -/
def fo_in (z : Int) : Prop := -100000000 ≤ z ∧ z ≤ 100000000
theorem fo_mi_iI {a c : Int} (ha : fo_in a) (hc : fo_in c) : (if iI c < iI a then iI c else iI a) = iI (fo_mi a c) := by
  unfold fo_mi fo_in at *
  by_cases h : c < a
  · rw [if_pos h, if_pos ((iI_lt (by omega) (by omega) (by omega) (by omega)).mpr h)]
  · rw [if_neg h, if_neg (fun q => h ((iI_lt (by omega) (by omega) (by omega) (by omega)).mp q))]
abbrev bc_RE_mayBeUnpaired : ByteArray := prog_5_method_2_code
abbrev yn_RE_mayBeUnpaired : MethodName := ⟨"FoldedStrand$Region", "mayBeUnpaired", "()Z"⟩
theorem wl_RE_23 : Cond.fieldLink "FoldedStrand$Region" 23 "FoldedStrand$Region" "next" "LFoldedStrand$Region;" ∈ jl_T := jl_T_of 67 (by decide +kernel) (by decide +kernel)
theorem dc_RE_mayBeUnpaired_0 : decode bc_RE_mayBeUnpaired 0 = .ok (.aload_n 0, 1) := by decide +kernel
theorem dc_RE_mayBeUnpaired_1 : decode bc_RE_mayBeUnpaired 1 = .ok (.getfield 23, 3) := by decide +kernel
theorem dc_RE_mayBeUnpaired_4 : decode bc_RE_mayBeUnpaired 4 = .ok (.ifnonnull 7, 3) := by decide +kernel
theorem dc_RE_mayBeUnpaired_7 : decode bc_RE_mayBeUnpaired 7 = .ok (.iconst 1, 1) := by decide +kernel
theorem dc_RE_mayBeUnpaired_8 : decode bc_RE_mayBeUnpaired 8 = .ok (.goto 4, 3) := by decide +kernel
theorem dc_RE_mayBeUnpaired_11 : decode bc_RE_mayBeUnpaired 11 = .ok (.iconst 0, 1) := by decide +kernel
theorem dc_RE_mayBeUnpaired_12 : decode bc_RE_mayBeUnpaired 12 = .ok (.ireturn, 1) := by decide +kernel
abbrev bc_RE_afterPair : ByteArray := prog_5_method_3_code
abbrev yn_RE_afterPair : MethodName := ⟨"FoldedStrand$Region", "afterPair", "()LFoldedStrand$Region;"⟩
theorem dc_RE_afterPair_0 : decode bc_RE_afterPair 0 = .ok (.aload_n 0, 1) := by decide +kernel
theorem dc_RE_afterPair_1 : decode bc_RE_afterPair 1 = .ok (.getfield 23, 3) := by decide +kernel
theorem dc_RE_afterPair_4 : decode bc_RE_afterPair 4 = .ok (.ifnonnull 7, 3) := by decide +kernel
theorem dc_RE_afterPair_7 : decode bc_RE_afterPair 7 = .ok (.aload_n 0, 1) := by decide +kernel
theorem dc_RE_afterPair_8 : decode bc_RE_afterPair 8 = .ok (.goto 7, 3) := by decide +kernel
theorem dc_RE_afterPair_11 : decode bc_RE_afterPair 11 = .ok (.aload_n 0, 1) := by decide +kernel
theorem dc_RE_afterPair_12 : decode bc_RE_afterPair 12 = .ok (.getfield 23, 3) := by decide +kernel
theorem dc_RE_afterPair_15 : decode bc_RE_afterPair 15 = .ok (.areturn, 1) := by decide +kernel
abbrev bc_FO_mostPairs : ByteArray := prog_2_method_2_code
abbrev yn_FO_mostPairs : MethodName := ⟨"FoldedStrand$Folds", "mostPairs", "()I"⟩
theorem wl_FO_19 : Cond.fieldLink "FoldedStrand$Folds" 19 "FoldedStrand$Folds" "pairs" "[[I" ∈ jl_T := jl_T_of 86 (by decide +kernel) (by decide +kernel)
theorem wl_FO_22 : Cond.fieldLink "FoldedStrand$Folds" 22 "FoldedStrand$Folds" "strand" "LFoldedStrand$Strand;" ∈ jl_T := jl_T_of 87 (by decide +kernel) (by decide +kernel)
theorem vs_FO_50 : jl_v "FoldedStrand$Folds" 50 yn_ST_size bc_ST_size 1 (some .int) 0 := ⟨jl_T_of 226 (by decide +kernel) (by decide +kernel), jl_T_of 2 (by decide +kernel) (by decide +kernel), jl_T_of 223 (by decide +kernel) (by decide +kernel), by decide +kernel, by decide +kernel, by decide +kernel⟩
theorem dc_FO_mostPairs_0 : decode bc_FO_mostPairs 0 = .ok (.aload_n 0, 1) := by decide +kernel
theorem dc_FO_mostPairs_1 : decode bc_FO_mostPairs 1 = .ok (.getfield 19, 3) := by decide +kernel
theorem dc_FO_mostPairs_4 : decode bc_FO_mostPairs 4 = .ok (.iconst 0, 1) := by decide +kernel
theorem dc_FO_mostPairs_5 : decode bc_FO_mostPairs 5 = .ok (.aaload, 1) := by decide +kernel
theorem dc_FO_mostPairs_6 : decode bc_FO_mostPairs 6 = .ok (.aload_n 0, 1) := by decide +kernel
theorem dc_FO_mostPairs_7 : decode bc_FO_mostPairs 7 = .ok (.getfield 22, 3) := by decide +kernel
theorem dc_FO_mostPairs_10 : decode bc_FO_mostPairs 10 = .ok (.invokevirtual 50, 3) := by decide +kernel
theorem dc_FO_mostPairs_13 : decode bc_FO_mostPairs 13 = .ok (.iaload, 1) := by decide +kernel
theorem dc_FO_mostPairs_14 : decode bc_FO_mostPairs 14 = .ok (.ireturn, 1) := by decide +kernel
abbrev bc_FO_leastEnergy : ByteArray := prog_2_method_3_code
abbrev yn_FO_leastEnergy : MethodName := ⟨"FoldedStrand$Folds", "leastEnergy", "()I"⟩
theorem wl_FO_35 : Cond.fieldLink "FoldedStrand$Folds" 35 "FoldedStrand$Folds" "outside" "LFoldedStrand$Region;" ∈ jl_T := jl_T_of 77 (by decide +kernel) (by decide +kernel)
theorem wl_FO_54 : Cond.fieldLink "FoldedStrand$Folds" 54 "FoldedStrand$Region" "leastEnergies" "[[I" ∈ jl_T := jl_T_of 65 (by decide +kernel) (by decide +kernel)
theorem dc_FO_leastEnergy_0 : decode bc_FO_leastEnergy 0 = .ok (.aload_n 0, 1) := by decide +kernel
theorem dc_FO_leastEnergy_1 : decode bc_FO_leastEnergy 1 = .ok (.getfield 35, 3) := by decide +kernel
theorem dc_FO_leastEnergy_4 : decode bc_FO_leastEnergy 4 = .ok (.getfield 54, 3) := by decide +kernel
theorem dc_FO_leastEnergy_7 : decode bc_FO_leastEnergy 7 = .ok (.iconst 0, 1) := by decide +kernel
theorem dc_FO_leastEnergy_8 : decode bc_FO_leastEnergy 8 = .ok (.aaload, 1) := by decide +kernel
theorem dc_FO_leastEnergy_9 : decode bc_FO_leastEnergy 9 = .ok (.aload_n 0, 1) := by decide +kernel
theorem dc_FO_leastEnergy_10 : decode bc_FO_leastEnergy 10 = .ok (.getfield 22, 3) := by decide +kernel
theorem dc_FO_leastEnergy_13 : decode bc_FO_leastEnergy 13 = .ok (.invokevirtual 50, 3) := by decide +kernel
theorem dc_FO_leastEnergy_16 : decode bc_FO_leastEnergy 16 = .ok (.iaload, 1) := by decide +kernel
theorem dc_FO_leastEnergy_17 : decode bc_FO_leastEnergy 17 = .ok (.ireturn, 1) := by decide +kernel
abbrev bc_FO_structureCount : ByteArray := prog_2_method_4_code
abbrev yn_FO_structureCount : MethodName := ⟨"FoldedStrand$Folds", "structureCount", "()I"⟩
theorem wl_FO_16 : Cond.fieldLink "FoldedStrand$Folds" 16 "FoldedStrand$Folds" "counts" "[[I" ∈ jl_T := jl_T_of 85 (by decide +kernel) (by decide +kernel)
theorem dc_FO_structureCount_0 : decode bc_FO_structureCount 0 = .ok (.aload_n 0, 1) := by decide +kernel
theorem dc_FO_structureCount_1 : decode bc_FO_structureCount 1 = .ok (.getfield 16, 3) := by decide +kernel
theorem dc_FO_structureCount_4 : decode bc_FO_structureCount 4 = .ok (.iconst 0, 1) := by decide +kernel
theorem dc_FO_structureCount_5 : decode bc_FO_structureCount 5 = .ok (.aaload, 1) := by decide +kernel
theorem dc_FO_structureCount_6 : decode bc_FO_structureCount 6 = .ok (.aload_n 0, 1) := by decide +kernel
theorem dc_FO_structureCount_7 : decode bc_FO_structureCount 7 = .ok (.getfield 22, 3) := by decide +kernel
theorem dc_FO_structureCount_10 : decode bc_FO_structureCount 10 = .ok (.invokevirtual 50, 3) := by decide +kernel
theorem dc_FO_structureCount_13 : decode bc_FO_structureCount 13 = .ok (.iaload, 1) := by decide +kernel
theorem dc_FO_structureCount_14 : decode bc_FO_structureCount 14 = .ok (.ireturn, 1) := by decide +kernel
abbrev bc_FO_branchEnergy : ByteArray := prog_2_method_8_code
abbrev yn_FO_branchEnergy : MethodName := ⟨"FoldedStrand$Folds", "branchEnergy", "(LFoldedStrand$Region;II)I"⟩
theorem wl_FO_94 : Cond.fieldLink "FoldedStrand$Folds" 94 "FoldedStrand$Region" "perPair" "I" ∈ jl_T := jl_T_of 63 (by decide +kernel) (by decide +kernel)
theorem vs_FO_97 : jl_v "FoldedStrand$Folds" 97 yn_ST_ifWeak bc_ST_ifWeak 4 (some .int) 3 := ⟨jl_T_of 256 (by decide +kernel) (by decide +kernel), jl_T_of 2 (by decide +kernel) (by decide +kernel), jl_T_of 311 (by decide +kernel) (by decide +kernel), by decide +kernel, by decide +kernel, by decide +kernel⟩
theorem wl_FO_11 : Cond.fieldLink "FoldedStrand$Folds" 11 "FoldedStrand$Folds" "pairEnergies" "[[I" ∈ jl_T := jl_T_of 81 (by decide +kernel) (by decide +kernel)
theorem dc_FO_branchEnergy_0 : decode bc_FO_branchEnergy 0 = .ok (.aload_n 1, 1) := by decide +kernel
theorem dc_FO_branchEnergy_1 : decode bc_FO_branchEnergy 1 = .ok (.getfield 94, 3) := by decide +kernel
theorem dc_FO_branchEnergy_4 : decode bc_FO_branchEnergy 4 = .ok (.aload_n 0, 1) := by decide +kernel
theorem dc_FO_branchEnergy_5 : decode bc_FO_branchEnergy 5 = .ok (.getfield 22, 3) := by decide +kernel
theorem dc_FO_branchEnergy_8 : decode bc_FO_branchEnergy 8 = .ok (.iload_n 2, 1) := by decide +kernel
theorem dc_FO_branchEnergy_9 : decode bc_FO_branchEnergy 9 = .ok (.iload_n 3, 1) := by decide +kernel
theorem dc_FO_branchEnergy_10 : decode bc_FO_branchEnergy 10 = .ok (.iconst 5, 1) := by decide +kernel
theorem dc_FO_branchEnergy_11 : decode bc_FO_branchEnergy 11 = .ok (.invokevirtual 97, 3) := by decide +kernel
theorem dc_FO_branchEnergy_14 : decode bc_FO_branchEnergy 14 = .ok (.iadd, 1) := by decide +kernel
theorem dc_FO_branchEnergy_15 : decode bc_FO_branchEnergy 15 = .ok (.aload_n 0, 1) := by decide +kernel
theorem dc_FO_branchEnergy_16 : decode bc_FO_branchEnergy 16 = .ok (.getfield 11, 3) := by decide +kernel
theorem dc_FO_branchEnergy_19 : decode bc_FO_branchEnergy 19 = .ok (.iload_n 2, 1) := by decide +kernel
theorem dc_FO_branchEnergy_20 : decode bc_FO_branchEnergy 20 = .ok (.aaload, 1) := by decide +kernel
theorem dc_FO_branchEnergy_21 : decode bc_FO_branchEnergy 21 = .ok (.iload_n 3, 1) := by decide +kernel
theorem dc_FO_branchEnergy_22 : decode bc_FO_branchEnergy 22 = .ok (.iaload, 1) := by decide +kernel
theorem dc_FO_branchEnergy_23 : decode bc_FO_branchEnergy 23 = .ok (.iadd, 1) := by decide +kernel
theorem dc_FO_branchEnergy_24 : decode bc_FO_branchEnergy 24 = .ok (.ireturn, 1) := by decide +kernel
abbrev bc_FO_leastWithMany : ByteArray := prog_2_method_10_code
abbrev yn_FO_leastWithMany : MethodName := ⟨"FoldedStrand$Folds", "leastWithMany", "(II)I"⟩
theorem wl_FO_26 : Cond.fieldLink "FoldedStrand$Folds" 26 "FoldedStrand$Folds" "loops" "LFoldedStrand$Loops;" ∈ jl_T := jl_T_of 88 (by decide +kernel) (by decide +kernel)
theorem vs_FO_111 : jl_v "FoldedStrand$Folds" 111 yn_LO_multiClosing bc_LO_multiClosing 3 (some .int) 2 := ⟨jl_T_of 264 (by decide +kernel) (by decide +kernel), jl_T_of 3 (by decide +kernel) (by decide +kernel), jl_T_of 261 (by decide +kernel) (by decide +kernel), by decide +kernel, by decide +kernel, by decide +kernel⟩
theorem vi_LO_multiClosing : Cond.instanceMethod yn_LO_multiClosing ∈ jl_T := jl_T_of 262 (by decide +kernel) (by decide +kernel)
theorem vx_LO_multiClosing : Cond.selects "FoldedStrand$Loops" yn_LO_multiClosing yn_LO_multiClosing ∈ jl_T := jl_T_of 263 (by decide +kernel) (by decide +kernel)
theorem wl_FO_47 : Cond.fieldLink "FoldedStrand$Folds" 47 "FoldedStrand$Folds" "twoBranches" "LFoldedStrand$Region;" ∈ jl_T := jl_T_of 79 (by decide +kernel) (by decide +kernel)
theorem dc_FO_leastWithMany_0 : decode bc_FO_leastWithMany 0 = .ok (.aload_n 0, 1) := by decide +kernel
theorem dc_FO_leastWithMany_1 : decode bc_FO_leastWithMany 1 = .ok (.getfield 26, 3) := by decide +kernel
theorem dc_FO_leastWithMany_4 : decode bc_FO_leastWithMany 4 = .ok (.iload_n 1, 1) := by decide +kernel
theorem dc_FO_leastWithMany_5 : decode bc_FO_leastWithMany 5 = .ok (.iload_n 2, 1) := by decide +kernel
theorem dc_FO_leastWithMany_6 : decode bc_FO_leastWithMany 6 = .ok (.invokevirtual 111, 3) := by decide +kernel
theorem dc_FO_leastWithMany_9 : decode bc_FO_leastWithMany 9 = .ok (.aload_n 0, 1) := by decide +kernel
theorem dc_FO_leastWithMany_10 : decode bc_FO_leastWithMany 10 = .ok (.getfield 47, 3) := by decide +kernel
theorem dc_FO_leastWithMany_13 : decode bc_FO_leastWithMany 13 = .ok (.getfield 54, 3) := by decide +kernel
theorem dc_FO_leastWithMany_16 : decode bc_FO_leastWithMany 16 = .ok (.iload_n 1, 1) := by decide +kernel
theorem dc_FO_leastWithMany_17 : decode bc_FO_leastWithMany 17 = .ok (.iconst 1, 1) := by decide +kernel
theorem dc_FO_leastWithMany_18 : decode bc_FO_leastWithMany 18 = .ok (.iadd, 1) := by decide +kernel
theorem dc_FO_leastWithMany_19 : decode bc_FO_leastWithMany 19 = .ok (.aaload, 1) := by decide +kernel
theorem dc_FO_leastWithMany_20 : decode bc_FO_leastWithMany 20 = .ok (.iload_n 2, 1) := by decide +kernel
theorem dc_FO_leastWithMany_21 : decode bc_FO_leastWithMany 21 = .ok (.iaload, 1) := by decide +kernel
theorem dc_FO_leastWithMany_22 : decode bc_FO_leastWithMany 22 = .ok (.iadd, 1) := by decide +kernel
theorem dc_FO_leastWithMany_23 : decode bc_FO_leastWithMany 23 = .ok (.ireturn, 1) := by decide +kernel
abbrev bc_FO_leastOfPair : ByteArray := prog_2_method_9_code
abbrev yn_FO_leastOfPair : MethodName := ⟨"FoldedStrand$Folds", "leastOfPair", "(II)I"⟩
theorem vs_FO_101 : jl_v "FoldedStrand$Folds" 101 yn_LO_hairpin bc_LO_hairpin 5 (some .int) 2 := ⟨jl_T_of 244 (by decide +kernel) (by decide +kernel), jl_T_of 3 (by decide +kernel) (by decide +kernel), jl_T_of 241 (by decide +kernel) (by decide +kernel), by decide +kernel, by decide +kernel, by decide +kernel⟩
theorem vi_LO_hairpin : Cond.instanceMethod yn_LO_hairpin ∈ jl_T := jl_T_of 242 (by decide +kernel) (by decide +kernel)
theorem vx_LO_hairpin : Cond.selects "FoldedStrand$Loops" yn_LO_hairpin yn_LO_hairpin ∈ jl_T := jl_T_of 243 (by decide +kernel) (by decide +kernel)
theorem vs_FO_104 : jl_v "FoldedStrand$Folds" 104 yn_FO_leastWithMany bc_FO_leastWithMany 3 (some .int) 2 := ⟨jl_T_of 260 (by decide +kernel) (by decide +kernel), jl_T_of 4 (by decide +kernel) (by decide +kernel), jl_T_of 257 (by decide +kernel) (by decide +kernel), by decide +kernel, by decide +kernel, by decide +kernel⟩
theorem vi_FO_leastWithMany : Cond.instanceMethod yn_FO_leastWithMany ∈ jl_T := jl_T_of 258 (by decide +kernel) (by decide +kernel)
theorem vx_FO_leastWithMany : Cond.selects "FoldedStrand$Folds" yn_FO_leastWithMany yn_FO_leastWithMany ∈ jl_T := jl_T_of 259 (by decide +kernel) (by decide +kernel)
theorem wm_FO_91 : Cond.methodLink "FoldedStrand$Folds" 91 Lib.Math.min.name ∈ jl_T ∧ Cond.static Lib.Math.min.name ∈ jl_T ∧ Cond.initialized "java/lang/Math" ∈ jl_T ∧ Cond.code Lib.Math.min.name Lib.Math.min.code 2 (some .int) ∈ jl_T := ⟨jl_T_of 265 (by decide +kernel) (by decide +kernel), jl_T_of 266 (by decide +kernel) (by decide +kernel), jl_T_of 10 (by decide +kernel) (by decide +kernel), jl_T_of 267 (by decide +kernel) (by decide +kernel)⟩
theorem vs_FO_57 : jl_v "FoldedStrand$Folds" 57 yn_ST_canPair bc_ST_canPair 3 (some .boolean) 2 := ⟨jl_T_of 230 (by decide +kernel) (by decide +kernel), jl_T_of 2 (by decide +kernel) (by decide +kernel), jl_T_of 227 (by decide +kernel) (by decide +kernel), by decide +kernel, by decide +kernel, by decide +kernel⟩
theorem vs_FO_107 : jl_v "FoldedStrand$Folds" 107 yn_LO_withOne bc_LO_withOne 7 (some .int) 4 := ⟨jl_T_of 271 (by decide +kernel) (by decide +kernel), jl_T_of 3 (by decide +kernel) (by decide +kernel), jl_T_of 268 (by decide +kernel) (by decide +kernel), by decide +kernel, by decide +kernel, by decide +kernel⟩
theorem vi_LO_withOne : Cond.instanceMethod yn_LO_withOne ∈ jl_T := jl_T_of 269 (by decide +kernel) (by decide +kernel)
theorem vx_LO_withOne : Cond.selects "FoldedStrand$Loops" yn_LO_withOne yn_LO_withOne ∈ jl_T := jl_T_of 270 (by decide +kernel) (by decide +kernel)
theorem dc_FO_leastOfPair_0 : decode bc_FO_leastOfPair 0 = .ok (.aload_n 0, 1) := by decide +kernel
theorem dc_FO_leastOfPair_1 : decode bc_FO_leastOfPair 1 = .ok (.getfield 26, 3) := by decide +kernel
theorem dc_FO_leastOfPair_4 : decode bc_FO_leastOfPair 4 = .ok (.iload_n 1, 1) := by decide +kernel
theorem dc_FO_leastOfPair_5 : decode bc_FO_leastOfPair 5 = .ok (.iload_n 2, 1) := by decide +kernel
theorem dc_FO_leastOfPair_6 : decode bc_FO_leastOfPair 6 = .ok (.invokevirtual 101, 3) := by decide +kernel
theorem dc_FO_leastOfPair_9 : decode bc_FO_leastOfPair 9 = .ok (.aload_n 0, 1) := by decide +kernel
theorem dc_FO_leastOfPair_10 : decode bc_FO_leastOfPair 10 = .ok (.iload_n 1, 1) := by decide +kernel
theorem dc_FO_leastOfPair_11 : decode bc_FO_leastOfPair 11 = .ok (.iload_n 2, 1) := by decide +kernel
theorem dc_FO_leastOfPair_12 : decode bc_FO_leastOfPair 12 = .ok (.invokevirtual 104, 3) := by decide +kernel
theorem dc_FO_leastOfPair_15 : decode bc_FO_leastOfPair 15 = .ok (.invokestatic 91, 3) := by decide +kernel
theorem dc_FO_leastOfPair_18 : decode bc_FO_leastOfPair 18 = .ok (.istore_n 3, 1) := by decide +kernel
theorem dc_FO_leastOfPair_19 : decode bc_FO_leastOfPair 19 = .ok (.iload_n 2, 1) := by decide +kernel
theorem dc_FO_leastOfPair_20 : decode bc_FO_leastOfPair 20 = .ok (.iconst 1, 1) := by decide +kernel
theorem dc_FO_leastOfPair_21 : decode bc_FO_leastOfPair 21 = .ok (.isub, 1) := by decide +kernel
theorem dc_FO_leastOfPair_22 : decode bc_FO_leastOfPair 22 = .ok (.istore 4, 2) := by decide +kernel
theorem dc_FO_leastOfPair_24 : decode bc_FO_leastOfPair 24 = .ok (.iload 4, 2) := by decide +kernel
theorem dc_FO_leastOfPair_26 : decode bc_FO_leastOfPair 26 = .ok (.iload_n 1, 1) := by decide +kernel
theorem dc_FO_leastOfPair_27 : decode bc_FO_leastOfPair 27 = .ok (.isub, 1) := by decide +kernel
theorem dc_FO_leastOfPair_28 : decode bc_FO_leastOfPair 28 = .ok (.iconst 4, 1) := by decide +kernel
theorem dc_FO_leastOfPair_29 : decode bc_FO_leastOfPair 29 = .ok (.if_icmp .le 72, 3) := by decide +kernel
theorem dc_FO_leastOfPair_32 : decode bc_FO_leastOfPair 32 = .ok (.iload_n 1, 1) := by decide +kernel
theorem dc_FO_leastOfPair_33 : decode bc_FO_leastOfPair 33 = .ok (.iconst 1, 1) := by decide +kernel
theorem dc_FO_leastOfPair_34 : decode bc_FO_leastOfPair 34 = .ok (.iadd, 1) := by decide +kernel
theorem dc_FO_leastOfPair_35 : decode bc_FO_leastOfPair 35 = .ok (.istore 5, 2) := by decide +kernel
theorem dc_FO_leastOfPair_37 : decode bc_FO_leastOfPair 37 = .ok (.iload 5, 2) := by decide +kernel
theorem dc_FO_leastOfPair_39 : decode bc_FO_leastOfPair 39 = .ok (.iload 4, 2) := by decide +kernel
theorem dc_FO_leastOfPair_41 : decode bc_FO_leastOfPair 41 = .ok (.iconst 4, 1) := by decide +kernel
theorem dc_FO_leastOfPair_42 : decode bc_FO_leastOfPair 42 = .ok (.isub, 1) := by decide +kernel
theorem dc_FO_leastOfPair_43 : decode bc_FO_leastOfPair 43 = .ok (.if_icmp .gt 52, 3) := by decide +kernel
theorem dc_FO_leastOfPair_46 : decode bc_FO_leastOfPair 46 = .ok (.aload_n 0, 1) := by decide +kernel
theorem dc_FO_leastOfPair_47 : decode bc_FO_leastOfPair 47 = .ok (.getfield 22, 3) := by decide +kernel
theorem dc_FO_leastOfPair_50 : decode bc_FO_leastOfPair 50 = .ok (.iload 5, 2) := by decide +kernel
theorem dc_FO_leastOfPair_52 : decode bc_FO_leastOfPair 52 = .ok (.iload 4, 2) := by decide +kernel
theorem dc_FO_leastOfPair_54 : decode bc_FO_leastOfPair 54 = .ok (.invokevirtual 57, 3) := by decide +kernel
theorem dc_FO_leastOfPair_57 : decode bc_FO_leastOfPair 57 = .ok (.ifCond .eq 32, 3) := by decide +kernel
theorem dc_FO_leastOfPair_60 : decode bc_FO_leastOfPair 60 = .ok (.iload_n 3, 1) := by decide +kernel
theorem dc_FO_leastOfPair_61 : decode bc_FO_leastOfPair 61 = .ok (.aload_n 0, 1) := by decide +kernel
theorem dc_FO_leastOfPair_62 : decode bc_FO_leastOfPair 62 = .ok (.getfield 26, 3) := by decide +kernel
theorem dc_FO_leastOfPair_65 : decode bc_FO_leastOfPair 65 = .ok (.iload_n 1, 1) := by decide +kernel
theorem dc_FO_leastOfPair_66 : decode bc_FO_leastOfPair 66 = .ok (.iload_n 2, 1) := by decide +kernel
theorem dc_FO_leastOfPair_67 : decode bc_FO_leastOfPair 67 = .ok (.iload 5, 2) := by decide +kernel
theorem dc_FO_leastOfPair_69 : decode bc_FO_leastOfPair 69 = .ok (.iload 4, 2) := by decide +kernel
theorem dc_FO_leastOfPair_71 : decode bc_FO_leastOfPair 71 = .ok (.invokevirtual 107, 3) := by decide +kernel
theorem dc_FO_leastOfPair_74 : decode bc_FO_leastOfPair 74 = .ok (.aload_n 0, 1) := by decide +kernel
theorem dc_FO_leastOfPair_75 : decode bc_FO_leastOfPair 75 = .ok (.getfield 11, 3) := by decide +kernel
theorem dc_FO_leastOfPair_78 : decode bc_FO_leastOfPair 78 = .ok (.iload 5, 2) := by decide +kernel
theorem dc_FO_leastOfPair_80 : decode bc_FO_leastOfPair 80 = .ok (.aaload, 1) := by decide +kernel
theorem dc_FO_leastOfPair_81 : decode bc_FO_leastOfPair 81 = .ok (.iload 4, 2) := by decide +kernel
theorem dc_FO_leastOfPair_83 : decode bc_FO_leastOfPair 83 = .ok (.iaload, 1) := by decide +kernel
theorem dc_FO_leastOfPair_84 : decode bc_FO_leastOfPair 84 = .ok (.iadd, 1) := by decide +kernel
theorem dc_FO_leastOfPair_85 : decode bc_FO_leastOfPair 85 = .ok (.invokestatic 91, 3) := by decide +kernel
theorem dc_FO_leastOfPair_88 : decode bc_FO_leastOfPair 88 = .ok (.istore_n 3, 1) := by decide +kernel
theorem dc_FO_leastOfPair_89 : decode bc_FO_leastOfPair 89 = .ok (.iinc 5 1, 3) := by decide +kernel
theorem dc_FO_leastOfPair_92 : decode bc_FO_leastOfPair 92 = .ok (.goto (-55), 3) := by decide +kernel
theorem dc_FO_leastOfPair_95 : decode bc_FO_leastOfPair 95 = .ok (.iinc 4 (-1), 3) := by decide +kernel
theorem dc_FO_leastOfPair_98 : decode bc_FO_leastOfPair 98 = .ok (.goto (-74), 3) := by decide +kernel
theorem dc_FO_leastOfPair_101 : decode bc_FO_leastOfPair 101 = .ok (.iload_n 3, 1) := by decide +kernel
theorem dc_FO_leastOfPair_102 : decode bc_FO_leastOfPair 102 = .ok (.ireturn, 1) := by decide +kernel
abbrev bc_FO_fillRegion : ByteArray := prog_2_method_7_code
abbrev yn_FO_fillRegion : MethodName := ⟨"FoldedStrand$Folds", "fillRegion", "(LFoldedStrand$Region;II)V"⟩
theorem vs_FO_79 : jl_v "FoldedStrand$Folds" 79 yn_RE_afterPair bc_RE_afterPair 1 (some (.object "FoldedStrand$Region")) 0 := ⟨jl_T_of 306 (by decide +kernel) (by decide +kernel), jl_T_of 5 (by decide +kernel) (by decide +kernel), jl_T_of 303 (by decide +kernel) (by decide +kernel), by decide +kernel, by decide +kernel, by decide +kernel⟩
theorem vi_RE_afterPair : Cond.instanceMethod yn_RE_afterPair ∈ jl_T := jl_T_of 304 (by decide +kernel) (by decide +kernel)
theorem vx_RE_afterPair : Cond.selects "FoldedStrand$Region" yn_RE_afterPair yn_RE_afterPair ∈ jl_T := jl_T_of 305 (by decide +kernel) (by decide +kernel)
theorem wl_FO_83 : Cond.fieldLink "FoldedStrand$Folds" 83 "FoldedStrand$Region" "perPlace" "I" ∈ jl_T := jl_T_of 60 (by decide +kernel) (by decide +kernel)
theorem vs_FO_87 : jl_v "FoldedStrand$Folds" 87 yn_FO_branchEnergy bc_FO_branchEnergy 4 (some .int) 3 := ⟨jl_T_of 310 (by decide +kernel) (by decide +kernel), jl_T_of 4 (by decide +kernel) (by decide +kernel), jl_T_of 307 (by decide +kernel) (by decide +kernel), by decide +kernel, by decide +kernel, by decide +kernel⟩
theorem vi_FO_branchEnergy : Cond.instanceMethod yn_FO_branchEnergy ∈ jl_T := jl_T_of 308 (by decide +kernel) (by decide +kernel)
theorem vx_FO_branchEnergy : Cond.selects "FoldedStrand$Folds" yn_FO_branchEnergy yn_FO_branchEnergy ∈ jl_T := jl_T_of 309 (by decide +kernel) (by decide +kernel)
theorem dc_FO_fillRegion_0 : decode bc_FO_fillRegion 0 = .ok (.iload_n 3, 1) := by decide +kernel
theorem dc_FO_fillRegion_1 : decode bc_FO_fillRegion 1 = .ok (.iconst 1, 1) := by decide +kernel
theorem dc_FO_fillRegion_2 : decode bc_FO_fillRegion 2 = .ok (.isub, 1) := by decide +kernel
theorem dc_FO_fillRegion_3 : decode bc_FO_fillRegion 3 = .ok (.istore 4, 2) := by decide +kernel
theorem dc_FO_fillRegion_5 : decode bc_FO_fillRegion 5 = .ok (.aload_n 1, 1) := by decide +kernel
theorem dc_FO_fillRegion_6 : decode bc_FO_fillRegion 6 = .ok (.invokevirtual 79, 3) := by decide +kernel
theorem dc_FO_fillRegion_9 : decode bc_FO_fillRegion 9 = .ok (.getfield 54, 3) := by decide +kernel
theorem dc_FO_fillRegion_12 : decode bc_FO_fillRegion 12 = .ok (.astore 5, 2) := by decide +kernel
theorem dc_FO_fillRegion_14 : decode bc_FO_fillRegion 14 = .ok (.aload_n 1, 1) := by decide +kernel
theorem dc_FO_fillRegion_15 : decode bc_FO_fillRegion 15 = .ok (.getfield 54, 3) := by decide +kernel
theorem dc_FO_fillRegion_18 : decode bc_FO_fillRegion 18 = .ok (.iload_n 2, 1) := by decide +kernel
theorem dc_FO_fillRegion_19 : decode bc_FO_fillRegion 19 = .ok (.aaload, 1) := by decide +kernel
theorem dc_FO_fillRegion_20 : decode bc_FO_fillRegion 20 = .ok (.iload 4, 2) := by decide +kernel
theorem dc_FO_fillRegion_22 : decode bc_FO_fillRegion 22 = .ok (.iaload, 1) := by decide +kernel
theorem dc_FO_fillRegion_23 : decode bc_FO_fillRegion 23 = .ok (.aload_n 1, 1) := by decide +kernel
theorem dc_FO_fillRegion_24 : decode bc_FO_fillRegion 24 = .ok (.getfield 83, 3) := by decide +kernel
theorem dc_FO_fillRegion_27 : decode bc_FO_fillRegion 27 = .ok (.iadd, 1) := by decide +kernel
theorem dc_FO_fillRegion_28 : decode bc_FO_fillRegion 28 = .ok (.istore 6, 2) := by decide +kernel
theorem dc_FO_fillRegion_30 : decode bc_FO_fillRegion 30 = .ok (.iload_n 2, 1) := by decide +kernel
theorem dc_FO_fillRegion_31 : decode bc_FO_fillRegion 31 = .ok (.istore 7, 2) := by decide +kernel
theorem dc_FO_fillRegion_33 : decode bc_FO_fillRegion 33 = .ok (.iload 7, 2) := by decide +kernel
theorem dc_FO_fillRegion_35 : decode bc_FO_fillRegion 35 = .ok (.iload 4, 2) := by decide +kernel
theorem dc_FO_fillRegion_37 : decode bc_FO_fillRegion 37 = .ok (.iconst 4, 1) := by decide +kernel
theorem dc_FO_fillRegion_38 : decode bc_FO_fillRegion 38 = .ok (.isub, 1) := by decide +kernel
theorem dc_FO_fillRegion_39 : decode bc_FO_fillRegion 39 = .ok (.if_icmp .gt 47, 3) := by decide +kernel
theorem dc_FO_fillRegion_42 : decode bc_FO_fillRegion 42 = .ok (.aload_n 0, 1) := by decide +kernel
theorem dc_FO_fillRegion_43 : decode bc_FO_fillRegion 43 = .ok (.getfield 22, 3) := by decide +kernel
theorem dc_FO_fillRegion_46 : decode bc_FO_fillRegion 46 = .ok (.iload 7, 2) := by decide +kernel
theorem dc_FO_fillRegion_48 : decode bc_FO_fillRegion 48 = .ok (.iload 4, 2) := by decide +kernel
theorem dc_FO_fillRegion_50 : decode bc_FO_fillRegion 50 = .ok (.invokevirtual 57, 3) := by decide +kernel
theorem dc_FO_fillRegion_53 : decode bc_FO_fillRegion 53 = .ok (.ifCond .eq 27, 3) := by decide +kernel
theorem dc_FO_fillRegion_56 : decode bc_FO_fillRegion 56 = .ok (.iload 6, 2) := by decide +kernel
theorem dc_FO_fillRegion_58 : decode bc_FO_fillRegion 58 = .ok (.aload 5, 2) := by decide +kernel
theorem dc_FO_fillRegion_60 : decode bc_FO_fillRegion 60 = .ok (.iload_n 2, 1) := by decide +kernel
theorem dc_FO_fillRegion_61 : decode bc_FO_fillRegion 61 = .ok (.aaload, 1) := by decide +kernel
theorem dc_FO_fillRegion_62 : decode bc_FO_fillRegion 62 = .ok (.iload 7, 2) := by decide +kernel
theorem dc_FO_fillRegion_64 : decode bc_FO_fillRegion 64 = .ok (.iaload, 1) := by decide +kernel
theorem dc_FO_fillRegion_65 : decode bc_FO_fillRegion 65 = .ok (.aload_n 0, 1) := by decide +kernel
theorem dc_FO_fillRegion_66 : decode bc_FO_fillRegion 66 = .ok (.aload_n 1, 1) := by decide +kernel
theorem dc_FO_fillRegion_67 : decode bc_FO_fillRegion 67 = .ok (.iload 7, 2) := by decide +kernel
theorem dc_FO_fillRegion_69 : decode bc_FO_fillRegion 69 = .ok (.iload 4, 2) := by decide +kernel
theorem dc_FO_fillRegion_71 : decode bc_FO_fillRegion 71 = .ok (.invokevirtual 87, 3) := by decide +kernel
theorem dc_FO_fillRegion_74 : decode bc_FO_fillRegion 74 = .ok (.iadd, 1) := by decide +kernel
theorem dc_FO_fillRegion_75 : decode bc_FO_fillRegion 75 = .ok (.invokestatic 91, 3) := by decide +kernel
theorem dc_FO_fillRegion_78 : decode bc_FO_fillRegion 78 = .ok (.istore 6, 2) := by decide +kernel
theorem dc_FO_fillRegion_80 : decode bc_FO_fillRegion 80 = .ok (.iinc 7 1, 3) := by decide +kernel
theorem dc_FO_fillRegion_83 : decode bc_FO_fillRegion 83 = .ok (.goto (-50), 3) := by decide +kernel
theorem dc_FO_fillRegion_86 : decode bc_FO_fillRegion 86 = .ok (.aload_n 1, 1) := by decide +kernel
theorem dc_FO_fillRegion_87 : decode bc_FO_fillRegion 87 = .ok (.getfield 54, 3) := by decide +kernel
theorem dc_FO_fillRegion_90 : decode bc_FO_fillRegion 90 = .ok (.iload_n 2, 1) := by decide +kernel
theorem dc_FO_fillRegion_91 : decode bc_FO_fillRegion 91 = .ok (.aaload, 1) := by decide +kernel
theorem dc_FO_fillRegion_92 : decode bc_FO_fillRegion 92 = .ok (.iload_n 3, 1) := by decide +kernel
theorem dc_FO_fillRegion_93 : decode bc_FO_fillRegion 93 = .ok (.iload 6, 2) := by decide +kernel
theorem dc_FO_fillRegion_95 : decode bc_FO_fillRegion 95 = .ok (.iastore, 1) := by decide +kernel
theorem dc_FO_fillRegion_96 : decode bc_FO_fillRegion 96 = .ok (.return_, 1) := by decide +kernel
abbrev bc_FO_countPart : ByteArray := prog_2_method_6_code
abbrev yn_FO_countPart : MethodName := ⟨"FoldedStrand$Folds", "countPart", "(II)V"⟩
theorem wm_FO_74 : Cond.methodLink "FoldedStrand$Folds" 74 Lib.Math.max.name ∈ jl_T ∧ Cond.static Lib.Math.max.name ∈ jl_T ∧ Cond.initialized "java/lang/Math" ∈ jl_T ∧ Cond.code Lib.Math.max.name Lib.Math.max.code 2 (some .int) ∈ jl_T := ⟨jl_T_of 296 (by decide +kernel) (by decide +kernel), jl_T_of 297 (by decide +kernel) (by decide +kernel), jl_T_of 10 (by decide +kernel) (by decide +kernel), jl_T_of 298 (by decide +kernel) (by decide +kernel)⟩
theorem dc_FO_countPart_0 : decode bc_FO_countPart 0 = .ok (.iload_n 2, 1) := by decide +kernel
theorem dc_FO_countPart_1 : decode bc_FO_countPart 1 = .ok (.iconst 1, 1) := by decide +kernel
theorem dc_FO_countPart_2 : decode bc_FO_countPart 2 = .ok (.isub, 1) := by decide +kernel
theorem dc_FO_countPart_3 : decode bc_FO_countPart 3 = .ok (.istore_n 3, 1) := by decide +kernel
theorem dc_FO_countPart_4 : decode bc_FO_countPart 4 = .ok (.aload_n 0, 1) := by decide +kernel
theorem dc_FO_countPart_5 : decode bc_FO_countPart 5 = .ok (.getfield 16, 3) := by decide +kernel
theorem dc_FO_countPart_8 : decode bc_FO_countPart 8 = .ok (.iload_n 1, 1) := by decide +kernel
theorem dc_FO_countPart_9 : decode bc_FO_countPart 9 = .ok (.aaload, 1) := by decide +kernel
theorem dc_FO_countPart_10 : decode bc_FO_countPart 10 = .ok (.iload_n 3, 1) := by decide +kernel
theorem dc_FO_countPart_11 : decode bc_FO_countPart 11 = .ok (.iaload, 1) := by decide +kernel
theorem dc_FO_countPart_12 : decode bc_FO_countPart 12 = .ok (.istore 4, 2) := by decide +kernel
theorem dc_FO_countPart_14 : decode bc_FO_countPart 14 = .ok (.aload_n 0, 1) := by decide +kernel
theorem dc_FO_countPart_15 : decode bc_FO_countPart 15 = .ok (.getfield 19, 3) := by decide +kernel
theorem dc_FO_countPart_18 : decode bc_FO_countPart 18 = .ok (.iload_n 1, 1) := by decide +kernel
theorem dc_FO_countPart_19 : decode bc_FO_countPart 19 = .ok (.aaload, 1) := by decide +kernel
theorem dc_FO_countPart_20 : decode bc_FO_countPart 20 = .ok (.iload_n 3, 1) := by decide +kernel
theorem dc_FO_countPart_21 : decode bc_FO_countPart 21 = .ok (.iaload, 1) := by decide +kernel
theorem dc_FO_countPart_22 : decode bc_FO_countPart 22 = .ok (.istore 5, 2) := by decide +kernel
theorem dc_FO_countPart_24 : decode bc_FO_countPart 24 = .ok (.iload_n 1, 1) := by decide +kernel
theorem dc_FO_countPart_25 : decode bc_FO_countPart 25 = .ok (.istore 6, 2) := by decide +kernel
theorem dc_FO_countPart_27 : decode bc_FO_countPart 27 = .ok (.iload 6, 2) := by decide +kernel
theorem dc_FO_countPart_29 : decode bc_FO_countPart 29 = .ok (.iload_n 3, 1) := by decide +kernel
theorem dc_FO_countPart_30 : decode bc_FO_countPart 30 = .ok (.iconst 4, 1) := by decide +kernel
theorem dc_FO_countPart_31 : decode bc_FO_countPart 31 = .ok (.isub, 1) := by decide +kernel
theorem dc_FO_countPart_32 : decode bc_FO_countPart 32 = .ok (.if_icmp .gt 78, 3) := by decide +kernel
theorem dc_FO_countPart_35 : decode bc_FO_countPart 35 = .ok (.aload_n 0, 1) := by decide +kernel
theorem dc_FO_countPart_36 : decode bc_FO_countPart 36 = .ok (.getfield 22, 3) := by decide +kernel
theorem dc_FO_countPart_39 : decode bc_FO_countPart 39 = .ok (.iload 6, 2) := by decide +kernel
theorem dc_FO_countPart_41 : decode bc_FO_countPart 41 = .ok (.iload_n 3, 1) := by decide +kernel
theorem dc_FO_countPart_42 : decode bc_FO_countPart 42 = .ok (.invokevirtual 57, 3) := by decide +kernel
theorem dc_FO_countPart_45 : decode bc_FO_countPart 45 = .ok (.ifCond .eq 59, 3) := by decide +kernel
theorem dc_FO_countPart_48 : decode bc_FO_countPart 48 = .ok (.iload 4, 2) := by decide +kernel
theorem dc_FO_countPart_50 : decode bc_FO_countPart 50 = .ok (.aload_n 0, 1) := by decide +kernel
theorem dc_FO_countPart_51 : decode bc_FO_countPart 51 = .ok (.getfield 16, 3) := by decide +kernel
theorem dc_FO_countPart_54 : decode bc_FO_countPart 54 = .ok (.iload_n 1, 1) := by decide +kernel
theorem dc_FO_countPart_55 : decode bc_FO_countPart 55 = .ok (.aaload, 1) := by decide +kernel
theorem dc_FO_countPart_56 : decode bc_FO_countPart 56 = .ok (.iload 6, 2) := by decide +kernel
theorem dc_FO_countPart_58 : decode bc_FO_countPart 58 = .ok (.iaload, 1) := by decide +kernel
theorem dc_FO_countPart_59 : decode bc_FO_countPart 59 = .ok (.aload_n 0, 1) := by decide +kernel
theorem dc_FO_countPart_60 : decode bc_FO_countPart 60 = .ok (.getfield 16, 3) := by decide +kernel
theorem dc_FO_countPart_63 : decode bc_FO_countPart 63 = .ok (.iload 6, 2) := by decide +kernel
theorem dc_FO_countPart_65 : decode bc_FO_countPart 65 = .ok (.iconst 1, 1) := by decide +kernel
theorem dc_FO_countPart_66 : decode bc_FO_countPart 66 = .ok (.iadd, 1) := by decide +kernel
theorem dc_FO_countPart_67 : decode bc_FO_countPart 67 = .ok (.aaload, 1) := by decide +kernel
theorem dc_FO_countPart_68 : decode bc_FO_countPart 68 = .ok (.iload_n 3, 1) := by decide +kernel
theorem dc_FO_countPart_69 : decode bc_FO_countPart 69 = .ok (.iaload, 1) := by decide +kernel
theorem dc_FO_countPart_70 : decode bc_FO_countPart 70 = .ok (.imul, 1) := by decide +kernel
theorem dc_FO_countPart_71 : decode bc_FO_countPart 71 = .ok (.iadd, 1) := by decide +kernel
theorem dc_FO_countPart_72 : decode bc_FO_countPart 72 = .ok (.istore 4, 2) := by decide +kernel
theorem dc_FO_countPart_74 : decode bc_FO_countPart 74 = .ok (.iload 5, 2) := by decide +kernel
theorem dc_FO_countPart_76 : decode bc_FO_countPart 76 = .ok (.aload_n 0, 1) := by decide +kernel
theorem dc_FO_countPart_77 : decode bc_FO_countPart 77 = .ok (.getfield 19, 3) := by decide +kernel
theorem dc_FO_countPart_80 : decode bc_FO_countPart 80 = .ok (.iload_n 1, 1) := by decide +kernel
theorem dc_FO_countPart_81 : decode bc_FO_countPart 81 = .ok (.aaload, 1) := by decide +kernel
theorem dc_FO_countPart_82 : decode bc_FO_countPart 82 = .ok (.iload 6, 2) := by decide +kernel
theorem dc_FO_countPart_84 : decode bc_FO_countPart 84 = .ok (.iaload, 1) := by decide +kernel
theorem dc_FO_countPart_85 : decode bc_FO_countPart 85 = .ok (.iconst 1, 1) := by decide +kernel
theorem dc_FO_countPart_86 : decode bc_FO_countPart 86 = .ok (.iadd, 1) := by decide +kernel
theorem dc_FO_countPart_87 : decode bc_FO_countPart 87 = .ok (.aload_n 0, 1) := by decide +kernel
theorem dc_FO_countPart_88 : decode bc_FO_countPart 88 = .ok (.getfield 19, 3) := by decide +kernel
theorem dc_FO_countPart_91 : decode bc_FO_countPart 91 = .ok (.iload 6, 2) := by decide +kernel
theorem dc_FO_countPart_93 : decode bc_FO_countPart 93 = .ok (.iconst 1, 1) := by decide +kernel
theorem dc_FO_countPart_94 : decode bc_FO_countPart 94 = .ok (.iadd, 1) := by decide +kernel
theorem dc_FO_countPart_95 : decode bc_FO_countPart 95 = .ok (.aaload, 1) := by decide +kernel
theorem dc_FO_countPart_96 : decode bc_FO_countPart 96 = .ok (.iload_n 3, 1) := by decide +kernel
theorem dc_FO_countPart_97 : decode bc_FO_countPart 97 = .ok (.iaload, 1) := by decide +kernel
theorem dc_FO_countPart_98 : decode bc_FO_countPart 98 = .ok (.iadd, 1) := by decide +kernel
theorem dc_FO_countPart_99 : decode bc_FO_countPart 99 = .ok (.invokestatic 74, 3) := by decide +kernel
theorem dc_FO_countPart_102 : decode bc_FO_countPart 102 = .ok (.istore 5, 2) := by decide +kernel
theorem dc_FO_countPart_104 : decode bc_FO_countPart 104 = .ok (.iinc 6 1, 3) := by decide +kernel
theorem dc_FO_countPart_107 : decode bc_FO_countPart 107 = .ok (.goto (-80), 3) := by decide +kernel
theorem dc_FO_countPart_110 : decode bc_FO_countPart 110 = .ok (.aload_n 0, 1) := by decide +kernel
theorem dc_FO_countPart_111 : decode bc_FO_countPart 111 = .ok (.getfield 16, 3) := by decide +kernel
theorem dc_FO_countPart_114 : decode bc_FO_countPart 114 = .ok (.iload_n 1, 1) := by decide +kernel
theorem dc_FO_countPart_115 : decode bc_FO_countPart 115 = .ok (.aaload, 1) := by decide +kernel
theorem dc_FO_countPart_116 : decode bc_FO_countPart 116 = .ok (.iload_n 2, 1) := by decide +kernel
theorem dc_FO_countPart_117 : decode bc_FO_countPart 117 = .ok (.iload 4, 2) := by decide +kernel
theorem dc_FO_countPart_119 : decode bc_FO_countPart 119 = .ok (.iastore, 1) := by decide +kernel
theorem dc_FO_countPart_120 : decode bc_FO_countPart 120 = .ok (.aload_n 0, 1) := by decide +kernel
theorem dc_FO_countPart_121 : decode bc_FO_countPart 121 = .ok (.getfield 19, 3) := by decide +kernel
theorem dc_FO_countPart_124 : decode bc_FO_countPart 124 = .ok (.iload_n 1, 1) := by decide +kernel
theorem dc_FO_countPart_125 : decode bc_FO_countPart 125 = .ok (.aaload, 1) := by decide +kernel
theorem dc_FO_countPart_126 : decode bc_FO_countPart 126 = .ok (.iload_n 2, 1) := by decide +kernel
theorem dc_FO_countPart_127 : decode bc_FO_countPart 127 = .ok (.iload 5, 2) := by decide +kernel
theorem dc_FO_countPart_129 : decode bc_FO_countPart 129 = .ok (.iastore, 1) := by decide +kernel
theorem dc_FO_countPart_130 : decode bc_FO_countPart 130 = .ok (.return_, 1) := by decide +kernel
section FO
variable (l : Launch) {K : Nat → ClassId} {sa : Nat → Nat} {ad : Nat → Nat} {I : Nat → Int32} {V : Nat → Nat → Int32} {L : Nat → Int64} {C : Nat → Int32} {G : Nat → Nat} {R : Nat → Nat} {n : Nat} {b : Nat → Nat} {pe cn pn : Nat → Nat → Int} {rg : Nat → Nat → Nat → Int}
theorem c_RE0_mayBeUnpaired : jl_C l K sa yn_RE_mayBeUnpaired bc_RE_mayBeUnpaired 1 (some .boolean) 0 0 168 ad [.ref (ad 64)] (gw K ad I V L C G R) (some (.int 1)) (gw K ad I V L C G R) := by
  refine jl_enter (by decide) (Nat.le_of_ble_eq_true rfl) (fun x h he hr => ?_)
  show jl_J x 168 ad 0 0 (gw K ad I V L C G R) 0 [(0, .ref (ad 64))] []
  refine jl_aload_n (i := 0) h rfl rfl dc_RE_mayBeUnpaired_0 1 rfl ?_
  refine jl_getf h nm_c_RE 3 wl_RE_23 (by omega) (by decide) (by exact rfl) (by rfl) dc_RE_mayBeUnpaired_1 4 rfl ?_
  refine jl_ifnonnullN h dc_RE_mayBeUnpaired_4 7 rfl ?_
  refine jl_iconst (v := 1) h (by decide) dc_RE_mayBeUnpaired_7 8 rfl ?_
  refine jl_goto h 12 (by decide) dc_RE_mayBeUnpaired_8 ?_
  exact jl_zret h he rfl (rfl) (rfl) dc_RE_mayBeUnpaired_12
theorem c_RE0_afterPair : jl_C l K sa yn_RE_afterPair bc_RE_afterPair 1 (some (.object "FoldedStrand$Region")) 0 0 168 ad [.ref (ad 64)] (gw K ad I V L C G R) (some (.ref (ad 64))) (gw K ad I V L C G R) := by
  refine jl_enter (by decide) (Nat.le_of_ble_eq_true rfl) (fun x h he hr => ?_)
  show jl_J x 168 ad 0 0 (gw K ad I V L C G R) 0 [(0, .ref (ad 64))] []
  refine jl_aload_n (i := 0) h rfl rfl dc_RE_afterPair_0 1 rfl ?_
  refine jl_getf h nm_c_RE 3 wl_RE_23 (by omega) (by decide) (by exact rfl) (by rfl) dc_RE_afterPair_1 4 rfl ?_
  refine jl_ifnonnullN h dc_RE_afterPair_4 7 rfl ?_
  refine jl_aload_n (i := 0) h rfl rfl dc_RE_afterPair_7 8 rfl ?_
  refine jl_goto h 15 (by decide) dc_RE_afterPair_8 ?_
  exact jl_aret h he (rfl) (rfl) dc_RE_afterPair_15
theorem c_FO0_branchEnergy (hS : st_ok K ad (gw K ad I V L C G R) n b) {k t : Nat} (hk : k < 18) (ht : t < 18) (hpe : V (6 + k) t = iI (pe k t)) : jl_C l K sa yn_FO_branchEnergy bc_FO_branchEnergy 4 (some .int) 2 55 168 ad [.ref (ad 4), .ref (ad 64), .int (nI k), .int (nI t)] (gw K ad I V L C G R) (some (.int (iI (fo_br b 0 pe k t)))) (gw K ad I V L C G R) := by
  refine jl_enter (by decide) (Nat.le_of_ble_eq_true rfl) (fun x h he hr => ?_)
  obtain ⟨hST, hbases, hn, hb⟩ := id hS
  show jl_J x 168 ad 0 0 (gw K ad I V L C G R) 0 [(0, .ref (ad 4)), (1, .ref (ad 64)), (2, .int (nI k)), (3, .int (nI t))] []
  refine jl_aload_n (i := 1) h rfl rfl dc_FO_branchEnergy_0 1 rfl ?_
  refine jl_getf (v := .int (iI 0)) h nm_c_RE 1 wl_FO_94 (by omega) (by decide) (by exact rfl) (by exact rfl) dc_FO_branchEnergy_1 4 rfl ?_
  refine jl_aload_n (i := 0) h rfl rfl dc_FO_branchEnergy_4 5 rfl ?_
  refine jl_getf h nm_c_FO 7 wl_FO_22 (by omega) (by decide) (by exact rfl) (by rfl) dc_FO_branchEnergy_5 8 rfl ?_
  refine jl_iload_n (i := 2) h rfl rfl dc_FO_branchEnergy_8 9 rfl ?_
  refine jl_iload_n (i := 3) h rfl rfl dc_FO_branchEnergy_9 10 rfl ?_
  refine jl_iconst (v := iI 5) h (by decide) dc_FO_branchEnergy_10 11 rfl ?_
  refine jl_callV (As := [_, _, _]) (rest := [_]) h hr vs_FO_97 vi_ST_ifWeak vx_ST_ifWeak (ci := 1) rfl (by omega) (by exact hST) (fun l => c_ST_ifWeak l (by omega) hS hk ht 5) (by first | decide | omega) (by first | decide | omega) rfl rfl (Nat.le_of_ble_eq_true rfl) dc_FO_branchEnergy_11 (res := [_, _]) rfl 14 rfl ?_
  refine jl_iadd h dc_FO_branchEnergy_14 15 rfl ?_
  refine jl_aload_n (i := 0) h rfl rfl dc_FO_branchEnergy_15 16 rfl ?_
  refine jl_getf h nm_c_FO 2 wl_FO_11 (by omega) (by decide) (by exact rfl) (by rfl) dc_FO_branchEnergy_16 19 rfl ?_
  refine jl_iload_n (i := 2) h rfl rfl dc_FO_branchEnergy_19 20 rfl ?_
  refine jl_aald (t0 := 4) h (k) (by exact rfl) (by omega) (by exact rfl) (by rfl) (by rfl) (by exact hk) (by first | decide | assumption) (by exact if_pos hk) dc_FO_branchEnergy_20 21 rfl ?_
  refine jl_iload_n (i := 3) h rfl rfl dc_FO_branchEnergy_21 22 rfl ?_
  refine jl_iald (v := iI (pe k t)) h (t) (by exact rfl) (by omega) (by exact gw_row (gw_i_6 k hk)) (by exact ht) (by first | decide | assumption) (by exact hpe) dc_FO_branchEnergy_22 23 rfl ?_
  refine jl_iadd h dc_FO_branchEnergy_23 24 rfl ?_
  exact jl_zret h he rfl (by rw [iI_add, iI_add]; rfl) (rfl) dc_FO_branchEnergy_24
theorem c_RE1_mayBeUnpaired : jl_C l K sa yn_RE_mayBeUnpaired bc_RE_mayBeUnpaired 1 (some .boolean) 0 0 168 ad [.ref (ad 85)] (gw K ad I V L C G R) (some (.int 1)) (gw K ad I V L C G R) := by
  refine jl_enter (by decide) (Nat.le_of_ble_eq_true rfl) (fun x h he hr => ?_)
  show jl_J x 168 ad 0 0 (gw K ad I V L C G R) 0 [(0, .ref (ad 85))] []
  refine jl_aload_n (i := 0) h rfl rfl dc_RE_mayBeUnpaired_0 1 rfl ?_
  refine jl_getf h nm_c_RE 3 wl_RE_23 (by omega) (by decide) (by exact rfl) (by rfl) dc_RE_mayBeUnpaired_1 4 rfl ?_
  refine jl_ifnonnullN h dc_RE_mayBeUnpaired_4 7 rfl ?_
  refine jl_iconst (v := 1) h (by decide) dc_RE_mayBeUnpaired_7 8 rfl ?_
  refine jl_goto h 12 (by decide) dc_RE_mayBeUnpaired_8 ?_
  exact jl_zret h he rfl (rfl) (rfl) dc_RE_mayBeUnpaired_12
theorem c_RE1_afterPair : jl_C l K sa yn_RE_afterPair bc_RE_afterPair 1 (some (.object "FoldedStrand$Region")) 0 0 168 ad [.ref (ad 85)] (gw K ad I V L C G R) (some (.ref (ad 85))) (gw K ad I V L C G R) := by
  refine jl_enter (by decide) (Nat.le_of_ble_eq_true rfl) (fun x h he hr => ?_)
  show jl_J x 168 ad 0 0 (gw K ad I V L C G R) 0 [(0, .ref (ad 85))] []
  refine jl_aload_n (i := 0) h rfl rfl dc_RE_afterPair_0 1 rfl ?_
  refine jl_getf h nm_c_RE 3 wl_RE_23 (by omega) (by decide) (by exact rfl) (by rfl) dc_RE_afterPair_1 4 rfl ?_
  refine jl_ifnonnullN h dc_RE_afterPair_4 7 rfl ?_
  refine jl_aload_n (i := 0) h rfl rfl dc_RE_afterPair_7 8 rfl ?_
  refine jl_goto h 15 (by decide) dc_RE_afterPair_8 ?_
  exact jl_aret h he (rfl) (rfl) dc_RE_afterPair_15
theorem c_FO1_branchEnergy (hS : st_ok K ad (gw K ad I V L C G R) n b) {k t : Nat} (hk : k < 18) (ht : t < 18) (hpe : V (6 + k) t = iI (pe k t)) : jl_C l K sa yn_FO_branchEnergy bc_FO_branchEnergy 4 (some .int) 2 55 168 ad [.ref (ad 4), .ref (ad 85), .int (nI k), .int (nI t)] (gw K ad I V L C G R) (some (.int (iI (fo_br b 1 pe k t)))) (gw K ad I V L C G R) := by
  refine jl_enter (by decide) (Nat.le_of_ble_eq_true rfl) (fun x h he hr => ?_)
  obtain ⟨hST, hbases, hn, hb⟩ := id hS
  show jl_J x 168 ad 0 0 (gw K ad I V L C G R) 0 [(0, .ref (ad 4)), (1, .ref (ad 85)), (2, .int (nI k)), (3, .int (nI t))] []
  refine jl_aload_n (i := 1) h rfl rfl dc_FO_branchEnergy_0 1 rfl ?_
  refine jl_getf (v := .int (iI 4)) h nm_c_RE 1 wl_FO_94 (by omega) (by decide) (by exact rfl) (by exact rfl) dc_FO_branchEnergy_1 4 rfl ?_
  refine jl_aload_n (i := 0) h rfl rfl dc_FO_branchEnergy_4 5 rfl ?_
  refine jl_getf h nm_c_FO 7 wl_FO_22 (by omega) (by decide) (by exact rfl) (by rfl) dc_FO_branchEnergy_5 8 rfl ?_
  refine jl_iload_n (i := 2) h rfl rfl dc_FO_branchEnergy_8 9 rfl ?_
  refine jl_iload_n (i := 3) h rfl rfl dc_FO_branchEnergy_9 10 rfl ?_
  refine jl_iconst (v := iI 5) h (by decide) dc_FO_branchEnergy_10 11 rfl ?_
  refine jl_callV (As := [_, _, _]) (rest := [_]) h hr vs_FO_97 vi_ST_ifWeak vx_ST_ifWeak (ci := 1) rfl (by omega) (by exact hST) (fun l => c_ST_ifWeak l (by omega) hS hk ht 5) (by first | decide | omega) (by first | decide | omega) rfl rfl (Nat.le_of_ble_eq_true rfl) dc_FO_branchEnergy_11 (res := [_, _]) rfl 14 rfl ?_
  refine jl_iadd h dc_FO_branchEnergy_14 15 rfl ?_
  refine jl_aload_n (i := 0) h rfl rfl dc_FO_branchEnergy_15 16 rfl ?_
  refine jl_getf h nm_c_FO 2 wl_FO_11 (by omega) (by decide) (by exact rfl) (by rfl) dc_FO_branchEnergy_16 19 rfl ?_
  refine jl_iload_n (i := 2) h rfl rfl dc_FO_branchEnergy_19 20 rfl ?_
  refine jl_aald (t0 := 4) h (k) (by exact rfl) (by omega) (by exact rfl) (by rfl) (by rfl) (by exact hk) (by first | decide | assumption) (by exact if_pos hk) dc_FO_branchEnergy_20 21 rfl ?_
  refine jl_iload_n (i := 3) h rfl rfl dc_FO_branchEnergy_21 22 rfl ?_
  refine jl_iald (v := iI (pe k t)) h (t) (by exact rfl) (by omega) (by exact gw_row (gw_i_6 k hk)) (by exact ht) (by first | decide | assumption) (by exact hpe) dc_FO_branchEnergy_22 23 rfl ?_
  refine jl_iadd h dc_FO_branchEnergy_23 24 rfl ?_
  exact jl_zret h he rfl (by rw [iI_add, iI_add]; rfl) (rfl) dc_FO_branchEnergy_24
theorem c_RE2_mayBeUnpaired : jl_C l K sa yn_RE_mayBeUnpaired bc_RE_mayBeUnpaired 1 (some .boolean) 0 0 168 ad [.ref (ad 106)] (gw K ad I V L C G R) (some (.int 0)) (gw K ad I V L C G R) := by
  refine jl_enter (by decide) (Nat.le_of_ble_eq_true rfl) (fun x h he hr => ?_)
  show jl_J x 168 ad 0 0 (gw K ad I V L C G R) 0 [(0, .ref (ad 106))] []
  refine jl_aload_n (i := 0) h rfl rfl dc_RE_mayBeUnpaired_0 1 rfl ?_
  refine jl_getf h nm_c_RE 3 wl_RE_23 (by omega) (by decide) (by exact rfl) (by rfl) dc_RE_mayBeUnpaired_1 4 rfl ?_
  refine jl_ifnonnull h 11 (by decide) dc_RE_mayBeUnpaired_4 ?_
  refine jl_iconst (v := 0) h (by decide) dc_RE_mayBeUnpaired_11 12 rfl ?_
  exact jl_zret h he rfl (rfl) (rfl) dc_RE_mayBeUnpaired_12
theorem c_RE2_afterPair : jl_C l K sa yn_RE_afterPair bc_RE_afterPair 1 (some (.object "FoldedStrand$Region")) 0 0 168 ad [.ref (ad 106)] (gw K ad I V L C G R) (some (.ref (ad 85))) (gw K ad I V L C G R) := by
  refine jl_enter (by decide) (Nat.le_of_ble_eq_true rfl) (fun x h he hr => ?_)
  show jl_J x 168 ad 0 0 (gw K ad I V L C G R) 0 [(0, .ref (ad 106))] []
  refine jl_aload_n (i := 0) h rfl rfl dc_RE_afterPair_0 1 rfl ?_
  refine jl_getf h nm_c_RE 3 wl_RE_23 (by omega) (by decide) (by exact rfl) (by rfl) dc_RE_afterPair_1 4 rfl ?_
  refine jl_ifnonnull h 11 (by decide) dc_RE_afterPair_4 ?_
  refine jl_aload_n (i := 0) h rfl rfl dc_RE_afterPair_11 12 rfl ?_
  refine jl_getf h nm_c_RE 3 wl_RE_23 (by omega) (by decide) (by exact rfl) (by rfl) dc_RE_afterPair_12 15 rfl ?_
  exact jl_aret h he (rfl) (rfl) dc_RE_afterPair_15
theorem c_FO2_branchEnergy (hS : st_ok K ad (gw K ad I V L C G R) n b) {k t : Nat} (hk : k < 18) (ht : t < 18) (hpe : V (6 + k) t = iI (pe k t)) : jl_C l K sa yn_FO_branchEnergy bc_FO_branchEnergy 4 (some .int) 2 55 168 ad [.ref (ad 4), .ref (ad 106), .int (nI k), .int (nI t)] (gw K ad I V L C G R) (some (.int (iI (fo_br b 2 pe k t)))) (gw K ad I V L C G R) := by
  refine jl_enter (by decide) (Nat.le_of_ble_eq_true rfl) (fun x h he hr => ?_)
  obtain ⟨hST, hbases, hn, hb⟩ := id hS
  show jl_J x 168 ad 0 0 (gw K ad I V L C G R) 0 [(0, .ref (ad 4)), (1, .ref (ad 106)), (2, .int (nI k)), (3, .int (nI t))] []
  refine jl_aload_n (i := 1) h rfl rfl dc_FO_branchEnergy_0 1 rfl ?_
  refine jl_getf (v := .int (iI 4)) h nm_c_RE 1 wl_FO_94 (by omega) (by decide) (by exact rfl) (by exact rfl) dc_FO_branchEnergy_1 4 rfl ?_
  refine jl_aload_n (i := 0) h rfl rfl dc_FO_branchEnergy_4 5 rfl ?_
  refine jl_getf h nm_c_FO 7 wl_FO_22 (by omega) (by decide) (by exact rfl) (by rfl) dc_FO_branchEnergy_5 8 rfl ?_
  refine jl_iload_n (i := 2) h rfl rfl dc_FO_branchEnergy_8 9 rfl ?_
  refine jl_iload_n (i := 3) h rfl rfl dc_FO_branchEnergy_9 10 rfl ?_
  refine jl_iconst (v := iI 5) h (by decide) dc_FO_branchEnergy_10 11 rfl ?_
  refine jl_callV (As := [_, _, _]) (rest := [_]) h hr vs_FO_97 vi_ST_ifWeak vx_ST_ifWeak (ci := 1) rfl (by omega) (by exact hST) (fun l => c_ST_ifWeak l (by omega) hS hk ht 5) (by first | decide | omega) (by first | decide | omega) rfl rfl (Nat.le_of_ble_eq_true rfl) dc_FO_branchEnergy_11 (res := [_, _]) rfl 14 rfl ?_
  refine jl_iadd h dc_FO_branchEnergy_14 15 rfl ?_
  refine jl_aload_n (i := 0) h rfl rfl dc_FO_branchEnergy_15 16 rfl ?_
  refine jl_getf h nm_c_FO 2 wl_FO_11 (by omega) (by decide) (by exact rfl) (by rfl) dc_FO_branchEnergy_16 19 rfl ?_
  refine jl_iload_n (i := 2) h rfl rfl dc_FO_branchEnergy_19 20 rfl ?_
  refine jl_aald (t0 := 4) h (k) (by exact rfl) (by omega) (by exact rfl) (by rfl) (by rfl) (by exact hk) (by first | decide | assumption) (by exact if_pos hk) dc_FO_branchEnergy_20 21 rfl ?_
  refine jl_iload_n (i := 3) h rfl rfl dc_FO_branchEnergy_21 22 rfl ?_
  refine jl_iald (v := iI (pe k t)) h (t) (by exact rfl) (by omega) (by exact gw_row (gw_i_6 k hk)) (by exact ht) (by first | decide | assumption) (by exact hpe) dc_FO_branchEnergy_22 23 rfl ?_
  refine jl_iadd h dc_FO_branchEnergy_23 24 rfl ?_
  exact jl_zret h he rfl (by rw [iI_add, iI_add]; rfl) (rfl) dc_FO_branchEnergy_24
theorem c_RE3_mayBeUnpaired : jl_C l K sa yn_RE_mayBeUnpaired bc_RE_mayBeUnpaired 1 (some .boolean) 0 0 168 ad [.ref (ad 127)] (gw K ad I V L C G R) (some (.int 0)) (gw K ad I V L C G R) := by
  refine jl_enter (by decide) (Nat.le_of_ble_eq_true rfl) (fun x h he hr => ?_)
  show jl_J x 168 ad 0 0 (gw K ad I V L C G R) 0 [(0, .ref (ad 127))] []
  refine jl_aload_n (i := 0) h rfl rfl dc_RE_mayBeUnpaired_0 1 rfl ?_
  refine jl_getf h nm_c_RE 3 wl_RE_23 (by omega) (by decide) (by exact rfl) (by rfl) dc_RE_mayBeUnpaired_1 4 rfl ?_
  refine jl_ifnonnull h 11 (by decide) dc_RE_mayBeUnpaired_4 ?_
  refine jl_iconst (v := 0) h (by decide) dc_RE_mayBeUnpaired_11 12 rfl ?_
  exact jl_zret h he rfl (rfl) (rfl) dc_RE_mayBeUnpaired_12
theorem c_RE3_afterPair : jl_C l K sa yn_RE_afterPair bc_RE_afterPair 1 (some (.object "FoldedStrand$Region")) 0 0 168 ad [.ref (ad 127)] (gw K ad I V L C G R) (some (.ref (ad 106))) (gw K ad I V L C G R) := by
  refine jl_enter (by decide) (Nat.le_of_ble_eq_true rfl) (fun x h he hr => ?_)
  show jl_J x 168 ad 0 0 (gw K ad I V L C G R) 0 [(0, .ref (ad 127))] []
  refine jl_aload_n (i := 0) h rfl rfl dc_RE_afterPair_0 1 rfl ?_
  refine jl_getf h nm_c_RE 3 wl_RE_23 (by omega) (by decide) (by exact rfl) (by rfl) dc_RE_afterPair_1 4 rfl ?_
  refine jl_ifnonnull h 11 (by decide) dc_RE_afterPair_4 ?_
  refine jl_aload_n (i := 0) h rfl rfl dc_RE_afterPair_11 12 rfl ?_
  refine jl_getf h nm_c_RE 3 wl_RE_23 (by omega) (by decide) (by exact rfl) (by rfl) dc_RE_afterPair_12 15 rfl ?_
  exact jl_aret h he (rfl) (rfl) dc_RE_afterPair_15
theorem c_FO3_branchEnergy (hS : st_ok K ad (gw K ad I V L C G R) n b) {k t : Nat} (hk : k < 18) (ht : t < 18) (hpe : V (6 + k) t = iI (pe k t)) : jl_C l K sa yn_FO_branchEnergy bc_FO_branchEnergy 4 (some .int) 2 55 168 ad [.ref (ad 4), .ref (ad 127), .int (nI k), .int (nI t)] (gw K ad I V L C G R) (some (.int (iI (fo_br b 3 pe k t)))) (gw K ad I V L C G R) := by
  refine jl_enter (by decide) (Nat.le_of_ble_eq_true rfl) (fun x h he hr => ?_)
  obtain ⟨hST, hbases, hn, hb⟩ := id hS
  show jl_J x 168 ad 0 0 (gw K ad I V L C G R) 0 [(0, .ref (ad 4)), (1, .ref (ad 127)), (2, .int (nI k)), (3, .int (nI t))] []
  refine jl_aload_n (i := 1) h rfl rfl dc_FO_branchEnergy_0 1 rfl ?_
  refine jl_getf (v := .int (iI 4)) h nm_c_RE 1 wl_FO_94 (by omega) (by decide) (by exact rfl) (by exact rfl) dc_FO_branchEnergy_1 4 rfl ?_
  refine jl_aload_n (i := 0) h rfl rfl dc_FO_branchEnergy_4 5 rfl ?_
  refine jl_getf h nm_c_FO 7 wl_FO_22 (by omega) (by decide) (by exact rfl) (by rfl) dc_FO_branchEnergy_5 8 rfl ?_
  refine jl_iload_n (i := 2) h rfl rfl dc_FO_branchEnergy_8 9 rfl ?_
  refine jl_iload_n (i := 3) h rfl rfl dc_FO_branchEnergy_9 10 rfl ?_
  refine jl_iconst (v := iI 5) h (by decide) dc_FO_branchEnergy_10 11 rfl ?_
  refine jl_callV (As := [_, _, _]) (rest := [_]) h hr vs_FO_97 vi_ST_ifWeak vx_ST_ifWeak (ci := 1) rfl (by omega) (by exact hST) (fun l => c_ST_ifWeak l (by omega) hS hk ht 5) (by first | decide | omega) (by first | decide | omega) rfl rfl (Nat.le_of_ble_eq_true rfl) dc_FO_branchEnergy_11 (res := [_, _]) rfl 14 rfl ?_
  refine jl_iadd h dc_FO_branchEnergy_14 15 rfl ?_
  refine jl_aload_n (i := 0) h rfl rfl dc_FO_branchEnergy_15 16 rfl ?_
  refine jl_getf h nm_c_FO 2 wl_FO_11 (by omega) (by decide) (by exact rfl) (by rfl) dc_FO_branchEnergy_16 19 rfl ?_
  refine jl_iload_n (i := 2) h rfl rfl dc_FO_branchEnergy_19 20 rfl ?_
  refine jl_aald (t0 := 4) h (k) (by exact rfl) (by omega) (by exact rfl) (by rfl) (by rfl) (by exact hk) (by first | decide | assumption) (by exact if_pos hk) dc_FO_branchEnergy_20 21 rfl ?_
  refine jl_iload_n (i := 3) h rfl rfl dc_FO_branchEnergy_21 22 rfl ?_
  refine jl_iald (v := iI (pe k t)) h (t) (by exact rfl) (by omega) (by exact gw_row (gw_i_6 k hk)) (by exact ht) (by first | decide | assumption) (by exact hpe) dc_FO_branchEnergy_22 23 rfl ?_
  refine jl_iadd h dc_FO_branchEnergy_23 24 rfl ?_
  exact jl_zret h he rfl (by rw [iI_add, iI_add]; rfl) (rfl) dc_FO_branchEnergy_24
theorem c_FO_mostPairs (hS : st_ok K ad (gw K ad I V L C G R) n b) : jl_C l K sa yn_FO_mostPairs bc_FO_mostPairs 1 (some .int) 1 25 168 ad [.ref (ad 4)] (gw K ad I V L C G R) (some (.int (V 45 n))) (gw K ad I V L C G R) := by
  refine jl_enter (by decide) (Nat.le_of_ble_eq_true rfl) (fun x h he hr => ?_)
  obtain ⟨hST, hbases, hn, hb⟩ := id hS
  show jl_J x 168 ad 0 0 (gw K ad I V L C G R) 0 [(0, .ref (ad 4))] []
  refine jl_aload_n (i := 0) h rfl rfl dc_FO_mostPairs_0 1 rfl ?_
  refine jl_getf h nm_c_FO 6 wl_FO_19 (by omega) (by decide) (by exact rfl) (by rfl) dc_FO_mostPairs_1 4 rfl ?_
  refine jl_iconst (v := nI 0) h (by decide) dc_FO_mostPairs_4 5 rfl ?_
  refine jl_aald (t0 := 4) h (0) (by exact rfl) (by omega) (by exact rfl) (by rfl) (by rfl) (by exact by decide) (by first | decide | assumption) (by exact if_pos (by decide)) dc_FO_mostPairs_5 6 rfl ?_
  refine jl_aload_n (i := 0) h rfl rfl dc_FO_mostPairs_6 7 rfl ?_
  refine jl_getf h nm_c_FO 7 wl_FO_22 (by omega) (by decide) (by exact rfl) (by rfl) dc_FO_mostPairs_7 10 rfl ?_
  refine jl_callV (As := []) (rest := [_]) h hr vs_FO_50 vi_ST_size vx_ST_size (ci := 1) rfl (by omega) (by exact hST) (fun l => c_ST_size l (by omega) hS) (by first | decide | omega) (by first | decide | omega) rfl rfl (Nat.le_of_ble_eq_true rfl) dc_FO_mostPairs_10 (res := [_, _]) rfl 13 rfl ?_
  refine jl_iald (v := V 45 n) h (n) (by exact rfl) (by omega) (by exact gw_row (gw_i_45 0 (by decide))) (by exact by omega) (by first | decide | assumption) (by exact rfl) dc_FO_mostPairs_13 14 rfl ?_
  exact jl_zret h he rfl (rfl) (rfl) dc_FO_mostPairs_14
theorem c_FO_structureCount (hS : st_ok K ad (gw K ad I V L C G R) n b) : jl_C l K sa yn_FO_structureCount bc_FO_structureCount 1 (some .int) 1 25 168 ad [.ref (ad 4)] (gw K ad I V L C G R) (some (.int (V 25 n))) (gw K ad I V L C G R) := by
  refine jl_enter (by decide) (Nat.le_of_ble_eq_true rfl) (fun x h he hr => ?_)
  obtain ⟨hST, hbases, hn, hb⟩ := id hS
  show jl_J x 168 ad 0 0 (gw K ad I V L C G R) 0 [(0, .ref (ad 4))] []
  refine jl_aload_n (i := 0) h rfl rfl dc_FO_structureCount_0 1 rfl ?_
  refine jl_getf h nm_c_FO 5 wl_FO_16 (by omega) (by decide) (by exact rfl) (by rfl) dc_FO_structureCount_1 4 rfl ?_
  refine jl_iconst (v := nI 0) h (by decide) dc_FO_structureCount_4 5 rfl ?_
  refine jl_aald (t0 := 4) h (0) (by exact rfl) (by omega) (by exact rfl) (by rfl) (by rfl) (by exact by decide) (by first | decide | assumption) (by exact if_pos (by decide)) dc_FO_structureCount_5 6 rfl ?_
  refine jl_aload_n (i := 0) h rfl rfl dc_FO_structureCount_6 7 rfl ?_
  refine jl_getf h nm_c_FO 7 wl_FO_22 (by omega) (by decide) (by exact rfl) (by rfl) dc_FO_structureCount_7 10 rfl ?_
  refine jl_callV (As := []) (rest := [_]) h hr vs_FO_50 vi_ST_size vx_ST_size (ci := 1) rfl (by omega) (by exact hST) (fun l => c_ST_size l (by omega) hS) (by first | decide | omega) (by first | decide | omega) rfl rfl (Nat.le_of_ble_eq_true rfl) dc_FO_structureCount_10 (res := [_, _]) rfl 13 rfl ?_
  refine jl_iald (v := V 25 n) h (n) (by exact rfl) (by omega) (by exact gw_row (gw_i_25 0 (by decide))) (by exact by omega) (by first | decide | assumption) (by exact rfl) dc_FO_structureCount_13 14 rfl ?_
  exact jl_zret h he rfl (rfl) (rfl) dc_FO_structureCount_14
theorem c_FO_leastEnergy (hS : st_ok K ad (gw K ad I V L C G R) n b) : jl_C l K sa yn_FO_leastEnergy bc_FO_leastEnergy 1 (some .int) 1 25 168 ad [.ref (ad 4)] (gw K ad I V L C G R) (some (.int (V 66 n))) (gw K ad I V L C G R) := by
  refine jl_enter (by decide) (Nat.le_of_ble_eq_true rfl) (fun x h he hr => ?_)
  obtain ⟨hST, hbases, hn, hb⟩ := id hS
  show jl_J x 168 ad 0 0 (gw K ad I V L C G R) 0 [(0, .ref (ad 4))] []
  refine jl_aload_n (i := 0) h rfl rfl dc_FO_leastEnergy_0 1 rfl ?_
  refine jl_getf h nm_c_FO 0 wl_FO_35 (by omega) (by decide) (by exact rfl) (by rfl) dc_FO_leastEnergy_1 4 rfl ?_
  refine jl_getf h nm_c_RE 2 wl_FO_54 (by omega) (by decide) (by exact rfl) (by rfl) dc_FO_leastEnergy_4 7 rfl ?_
  refine jl_iconst (v := nI 0) h (by decide) dc_FO_leastEnergy_7 8 rfl ?_
  refine jl_aald (t0 := 4) h (0) (by exact rfl) (by omega) (by exact rfl) (by rfl) (by rfl) (by exact by decide) (by first | decide | assumption) (by exact if_pos (by decide)) dc_FO_leastEnergy_8 9 rfl ?_
  refine jl_aload_n (i := 0) h rfl rfl dc_FO_leastEnergy_9 10 rfl ?_
  refine jl_getf h nm_c_FO 7 wl_FO_22 (by omega) (by decide) (by exact rfl) (by rfl) dc_FO_leastEnergy_10 13 rfl ?_
  refine jl_callV (As := []) (rest := [_]) h hr vs_FO_50 vi_ST_size vx_ST_size (ci := 1) rfl (by omega) (by exact hST) (fun l => c_ST_size l (by omega) hS) (by first | decide | omega) (by first | decide | omega) rfl rfl (Nat.le_of_ble_eq_true rfl) dc_FO_leastEnergy_13 (res := [_, _]) rfl 16 rfl ?_
  refine jl_iald (v := V 66 n) h (n) (by exact rfl) (by omega) (by exact gw_row (gw_i_66 0 (by decide))) (by exact by omega) (by first | decide | assumption) (by exact rfl) dc_FO_leastEnergy_16 17 rfl ?_
  exact jl_zret h he rfl (rfl) (rfl) dc_FO_leastEnergy_17
theorem c_FO_leastWithMany (hS : st_ok K ad (gw K ad I V L C G R) n b) {i j : Nat} (hi : i < 18) (hj : j < 18) (hrg : V (129 + (i + 1)) j = iI (rg 3 (i + 1) j)) : jl_C l K sa yn_FO_leastWithMany bc_FO_leastWithMany 3 (some .int) 3 90 168 ad [.ref (ad 4), .int (nI i), .int (nI j)] (gw K ad I V L C G R) (some (.int (iI (fo_many b rg i j)))) (gw K ad I V L C G R) := by
  refine jl_enter (by decide) (Nat.le_of_ble_eq_true rfl) (fun x h he hr => ?_)
  obtain ⟨hST, hbases, hn, hb⟩ := id hS
  show jl_J x 168 ad 0 0 (gw K ad I V L C G R) 0 [(0, .ref (ad 4)), (1, .int (nI i)), (2, .int (nI j))] []
  refine jl_aload_n (i := 0) h rfl rfl dc_FO_leastWithMany_0 1 rfl ?_
  refine jl_getf h nm_c_FO 8 wl_FO_26 (by omega) (by decide) (by exact rfl) (by rfl) dc_FO_leastWithMany_1 4 rfl ?_
  refine jl_iload_n (i := 1) h rfl rfl dc_FO_leastWithMany_4 5 rfl ?_
  refine jl_iload_n (i := 2) h rfl rfl dc_FO_leastWithMany_5 6 rfl ?_
  refine jl_callV (As := [_, _]) (rest := []) h hr vs_FO_111 vi_LO_multiClosing vx_LO_multiClosing (ci := 2) rfl (by omega) (by exact rfl) (fun l => c_LO_multiClosing l (by omega) hS rfl hi hj) (by first | decide | omega) (by first | decide | omega) rfl rfl (Nat.le_of_ble_eq_true rfl) dc_FO_leastWithMany_6 (res := [_]) rfl 9 rfl ?_
  refine jl_aload_n (i := 0) h rfl rfl dc_FO_leastWithMany_9 10 rfl ?_
  refine jl_getf h nm_c_FO 1 wl_FO_47 (by omega) (by decide) (by exact rfl) (by rfl) dc_FO_leastWithMany_10 13 rfl ?_
  refine jl_getf h nm_c_RE 2 wl_FO_54 (by omega) (by decide) (by exact rfl) (by rfl) dc_FO_leastWithMany_13 16 rfl ?_
  refine jl_iload_n (i := 1) h rfl rfl dc_FO_leastWithMany_16 17 rfl ?_
  refine jl_iconst (v := 1) h (by decide) dc_FO_leastWithMany_17 18 rfl ?_
  refine jl_iadd h dc_FO_leastWithMany_18 19 rfl ?_
  rw [show nI i + 1 = nI (i + 1) by exact nI_1 i]
  refine jl_aald (t0 := 4) h (i + 1) (by exact rfl) (by omega) (by exact rfl) (by rfl) (by rfl) (by exact by omega) (by first | decide | assumption) (by exact if_pos (by omega)) dc_FO_leastWithMany_19 20 rfl ?_
  refine jl_iload_n (i := 2) h rfl rfl dc_FO_leastWithMany_20 21 rfl ?_
  refine jl_iald (v := iI (rg 3 (i + 1) j)) h (j) (by exact rfl) (by omega) (by exact gw_row (gw_i_129 (i + 1) (by omega))) (by exact by omega) (by first | decide | assumption) (by exact hrg) dc_FO_leastWithMany_21 22 rfl ?_
  refine jl_iadd h dc_FO_leastWithMany_22 23 rfl ?_
  exact jl_zret h he rfl (by rw [iI_add]; rfl) (rfl) dc_FO_leastWithMany_23
end FO
end
section
/-! FoldedStrand$Folds: leastOfPair, countPart, fillRegion. -/
theorem st_b0 {c : Bool} : st_bI c = 0 ↔ c = false := by cases c <;> decide
theorem st_b1 {c : Bool} : ¬ st_bI c = 0 ↔ c = true := by cases c <;> decide
theorem fo_gt {t k : Nat} (ht : t < 40) (hk : k < 40) : nI t - nI 4 < nI k ↔ t < k + 4 := by
  rw [Int32.lt_iff_toInt_lt, pk_sub_toInt (by omega) (by omega), nI_toInt (by omega)]
  omega
theorem fo_hpT_in (k : Nat) : 54 ≤ lp_hpT.getD k 64 ∧ lp_hpT.getD k 64 ≤ 64 := by
  by_cases h : k < 6
  · have : ∀ k, k < 6 → 54 ≤ lp_hpT.getD k 64 ∧ lp_hpT.getD k 64 ≤ 64 := by decide +kernel
    exact this k h
  · rw [List.getD_eq_getElem?_getD, List.getElem?_eq_none (by show 6 ≤ k; omega)]
    decide
theorem lp_wk_in (b : Nat → Nat) (i j : Nat) (m : Int) (hm : 0 ≤ m) : 0 ≤ lp_wk b i j m ∧ lp_wk b i j m ≤ m := by
  unfold lp_wk
  split <;> omega
theorem lp_hp_in (b : Nat → Nat) (i j : Nat) : 26 ≤ lp_hp b i j ∧ lp_hp b i j ≤ 69 := by
  unfold lp_hp
  have h1 := fo_hpT_in (j - i - 4)
  have h2 := lp_wk_in b i j 5 (by decide)
  split <;> omega
theorem lp_stk_in (x y : Int) : -34 ≤ lp_stk x y ∧ lp_stk x y ≤ 13 := by
  unfold lp_stk
  have h : ∀ k, -34 ≤ lp_stT.getD k 0 ∧ lp_stT.getD k 0 ≤ 13 := by
    intro k
    by_cases h : k < 36
    · have : ∀ k, k < 36 → -34 ≤ lp_stT.getD k 0 ∧ lp_stT.getD k 0 ≤ 13 := by decide +kernel
      exact this k h
    · rw [List.getD_eq_getElem?_getD, List.getElem?_eq_none (by show 36 ≤ k; omega)]
      decide
  exact h _
theorem lp_bul_in (u : Nat) (s : Int) (hs : -34 ≤ s ∧ s ≤ 13) (hu : u < 40) : -34 ≤ lp_bul u s ∧ lp_bul u s ≤ 200 := by
  unfold lp_bul
  split
  · omega
  · split
    · omega
    · split
      · omega
      · split <;> omega
theorem lp_int_in (x y : Nat) (h : x + y < 40) : 0 ≤ lp_int x y ∧ lp_int x y ≤ 200 := by
  unfold lp_int
  have h1 : ∀ k, k < 4 → 0 ≤ lp_inT.getD k 0 ∧ lp_inT.getD k 0 ≤ 20 := by decide +kernel
  have h2 : ∀ d : Int, 0 ≤ d → d ≤ 60 → 0 ≤ lp_inT.getD (x + y - 2) d ∧ lp_inT.getD (x + y - 2) d ≤ 60 := by
    intro d hd1 hd2
    by_cases h4 : x + y - 2 < 4
    · have h3 := h1 _ h4
      have e : lp_inT.getD (x + y - 2) d = lp_inT.getD (x + y - 2) 0 := by
        have h5 : x + y - 2 < lp_inT.length := h4
        rw [List.getD_eq_getElem?_getD, List.getD_eq_getElem?_getD, List.getElem?_eq_getElem h5]
        rfl
      omega
    · rw [List.getD_eq_getElem?_getD, List.getElem?_eq_none (by show 4 ≤ _; omega)]
      show 0 ≤ d ∧ d ≤ 60
      omega
  have h3 := h2 (15 + ((x + y : Nat) : Int)) (by omega) (by omega)
  split <;> omega
theorem lp_w1_in (b : Nat → Nat) (i j k m : Nat) (hj : j < 18) (hk : k < 18) : -34 ≤ lp_w1 b i j k m ∧ lp_w1 b i j k m ≤ 300 := by
  unfold lp_w1
  have h1 := lp_wk_in b i j 7 (by decide)
  have h2 := lp_wk_in b k m 7 (by decide)
  have h3 := lp_stk_in (en_kd (b i) (b j)) (en_kd (b m) (b k))
  have h4 := lp_bul_in (k - i - 1 + (j - m - 1)) _ h3 (by omega)
  have h5 := lp_int_in (k - i - 1) (j - m - 1) (by omega)
  split <;> omega
def fo_sm (z : Int) : Prop := -10000000 ≤ z ∧ z ≤ 10000000
theorem fo_mi_in {a c : Int} (ha : fo_in a) (hc : fo_in c) : fo_in (fo_mi a c) := by
  unfold fo_mi
  split
  · exact hc
  · exact ha
theorem fo_iK_in {b : Nat → Nat} {pe : Nat → Nat → Int} {i j m : Nat} {z : Int} (hz : fo_in z) (hj : j < 18) (hm : m < j) (hp : ∀ k, i < k → k ≤ m → fo_sm (pe k m)) : ∀ c, i + c ≤ m → fo_in (fo_iK b pe i j m z c)
  | 0, _ => hz
  | c + 1, hc => by
    have ih := fo_iK_in (b := b) hz hj hm hp c (by omega)
    unfold fo_iK
    split
    · refine fo_mi_in ih ?_
      have h1 := lp_w1_in b i j (i + 1 + c) m hj (by omega)
      have h2 := hp (i + 1 + c) (by omega) (by omega)
      unfold fo_sm at h2
      unfold fo_in
      omega
    · exact ih
theorem fo_oK_in {b : Nat → Nat} {pe : Nat → Nat → Int} {rg : Nat → Nat → Nat → Int} {i j : Nat} (hij : i + 4 ≤ j) (hj : j < 18) (hr : fo_sm (rg 3 (i + 1) j)) (hp : ∀ k m, i < k → k ≤ m → m < j → fo_sm (pe k m)) : ∀ c, c ≤ j - i - 5 → fo_in (fo_oK b pe rg i j c)
  | 0, _ => by
    have h1 := lp_hp_in b i j
    have h2 := lp_wk_in b i j 5 (by decide)
    refine fo_mi_in ?_ ?_
    · unfold fo_in; omega
    · unfold fo_many; unfold fo_sm at hr; unfold fo_in; omega
  | c + 1, hc => by
    have ih := fo_oK_in (b := b) (pe := pe) (rg := rg) hij hj hr hp c (by omega)
    exact fo_iK_in ih hj (by omega) (fun k h1 h2 => hp k _ h1 h2 (by omega)) _ (by omega)
theorem fo_rK_in {b : Nat → Nat} {r : Nat} {pe : Nat → Nat → Int} {rg : Nat → Nat → Nat → Int} {s t : Nat} (h1 : fo_sm (rg r s t)) (h2 : ∀ k, s ≤ k → k < t → fo_sm (rg (fo_af r) s k)) (h3 : ∀ k, s ≤ k → k < t → fo_sm (pe k t)) : ∀ c, s + c ≤ t → fo_in (fo_rK b r pe rg s t c)
  | 0, _ => by
    unfold fo_rK fo_pp
    unfold fo_sm at h1
    unfold fo_in
    split <;> omega
  | c + 1, hc => by
    have ih := fo_rK_in (b := b) h1 h2 h3 c (by omega)
    unfold fo_rK
    split
    · refine fo_mi_in ih ?_
      have e1 := h2 (s + c) (by omega) (by omega)
      have e2 := h3 (s + c) (by omega) (by omega)
      have e3 := lp_wk_in b (s + c) t 5 (by decide)
      unfold fo_br fo_pq
      unfold fo_sm at e1 e2
      unfold fo_in
      split <;> omega
    · exact ih
theorem fo_pK_in {b : Nat → Nat} {pn : Nat → Nat → Int} {s t : Nat} (h1 : ∀ i e, i ≤ e → e ≤ t → 0 ≤ pn i e ∧ pn i e ≤ 1000) : ∀ c, s + c ≤ t → 0 ≤ fo_pK b pn s t c ∧ fo_pK b pn s t c ≤ 3000
  | 0, hc => by
    unfold fo_pK
    have := h1 s t (by omega) (Nat.le_refl t)
    omega
  | c + 1, hc => by
    have ih := fo_pK_in (b := b) (s := s) h1 c (by omega)
    have e1 := h1 s (s + c) (by omega) (by omega)
    have e2 := h1 (s + c + 1) t (by omega) (Nat.le_refl t)
    unfold fo_pK
    split
    · split <;> omega
    · exact ih
section FO
variable (l : Launch) {K : Nat → ClassId} {sa : Nat → Nat} {ad : Nat → Nat} {I : Nat → Int32} {V : Nat → Nat → Int32} {L : Nat → Int64} {C : Nat → Int32} {G : Nat → Nat} {R : Nat → Nat} {n : Nat} {b : Nat → Nat} {pe cn pn : Nat → Nat → Int} {rg : Nat → Nat → Nat → Int}
theorem c_FO_leastOfPair (hS : st_ok K ad (gw K ad I V L C G R) n b) {i j : Nat} (hij : i + 4 ≤ j) (hj : j < 18) (hkd : 0 ≤ en_kd (b i) (b j)) (hrg : V (129 + (i + 1)) j = iI (rg 3 (i + 1) j)) (hpe : ∀ k m, i < k → k ≤ m → m < j → V (6 + k) m = iI (pe k m)) (hr1 : fo_sm (rg 3 (i + 1) j)) (hp1 : ∀ k m, i < k → k ≤ m → m < j → fo_sm (pe k m)) : jl_C l K sa yn_FO_leastOfPair bc_FO_leastOfPair 6 (some .int) 4 125 168 ad [.ref (ad 4), .int (nI i), .int (nI j)] (gw K ad I V L C G R) (some (.int (iI (fo_oK b pe rg i j (j - i - 5))))) (gw K ad I V L C G R) := by
  refine jl_enter (by decide) (Nat.le_of_ble_eq_true rfl) (fun x h he hr => ?_)
  obtain ⟨hST, hbases, hn, hb⟩ := id hS
  show jl_J x 168 ad 0 0 (gw K ad I V L C G R) 0 [(0, .ref (ad 4)), (1, .int (nI i)), (2, .int (nI j))] []
  have outer : ∀ d c : Nat, c + d = j - i - 5 → jl_J x 168 ad 0 0 (gw K ad I V L C G R) 24 [(4, .int (nI (j - 1 - c))), (3, .int (iI (fo_oK b pe rg i j c))), (0, .ref (ad 4)), (1, .int (nI i)), (2, .int (nI j))] [] := by
    intro d
    induction d with
    | zero =>
      intro c hc
      have e1 : nI (j - 1 - c) - nI i = nI (j - 1 - c - i) := pk_sub (by omega)
      have hc : c = j - i - 5 := by omega
      refine jl_iload h rfl dc_FO_leastOfPair_24 26 rfl ?_
      refine jl_iload_n (i := 1) h rfl rfl dc_FO_leastOfPair_26 27 rfl ?_
      refine jl_isub h dc_FO_leastOfPair_27 28 rfl ?_
      rw [show nI (j - 1 - c) - nI i = nI (j - 1 - c - i) by exact e1]
      refine jl_iconst (v := nI 4) h (by decide) dc_FO_leastOfPair_28 29 rfl ?_
      refine jl_icmp_le h 101 (by decide) dc_FO_leastOfPair_29 32 rfl (fun c29 => ?_) (fun c29 => absurd (nI_le (by omega) (by decide)) c29)
      refine jl_iload_n (i := 3) h rfl rfl dc_FO_leastOfPair_101 102 rfl ?_
      exact jl_zret h he rfl (by rw [hc]) (rfl) dc_FO_leastOfPair_102
    | succ d ih =>
      intro c hc
      obtain ⟨m, hm⟩ : ∃ m, m = j - 1 - c := ⟨_, rfl⟩
      have ez : fo_oK b pe rg i j (c + 1) = fo_iK b pe i j m (fo_oK b pe rg i j c) (m - 4 - i) := by rw [hm]; rfl
      have ihn := ih (c + 1) (by omega)
      rw [ez, show j - 1 - (c + 1) = m - 1 by omega] at ihn
      rw [← hm]
      have hz := fo_oK_in (b := b) (pe := pe) (rg := rg) hij hj hr1 hp1 c (by omega)
      generalize fo_oK b pe rg i j c = z at hz ihn ⊢
      have inner : ∀ d2 c2 : Nat, c2 + d2 = m - 4 - i → jl_J x 168 ad 0 0 (gw K ad I V L C G R) 37 [(5, .int (nI (i + 1 + c2))), (4, .int (nI m)), (3, .int (iI (fo_iK b pe i j m z c2))), (0, .ref (ad 4)), (1, .int (nI i)), (2, .int (nI j))] [] := by
        intro d2
        induction d2 with
        | zero =>
          intro c2 hc2
          have e2 : nI m + Int32.ofInt (-1) = nI (m - 1) := by
            have h9 := pk_m1 (m - 1)
            rw [show m - 1 + 1 = m by omega] at h9
            exact h9
          have e3 : c2 = m - 4 - i := by omega
          refine jl_iload h rfl dc_FO_leastOfPair_37 39 rfl ?_
          refine jl_iload h rfl dc_FO_leastOfPair_39 41 rfl ?_
          refine jl_iconst (v := nI 4) h (by decide) dc_FO_leastOfPair_41 42 rfl ?_
          refine jl_isub h dc_FO_leastOfPair_42 43 rfl ?_
          refine jl_icmp_gt h 95 (by decide) dc_FO_leastOfPair_43 46 rfl (fun c43 => ?_) (fun c43 => absurd ((fo_gt (by omega) (by omega)).mpr (by omega)) c43)
          refine jl_iinc (i := 4) (d := -1) (lc2 := [(4, _), (5, _), (3, _), (0, _), (1, _), (2, _)]) (v2 := nI (m - 1)) h (by decide) rfl (e2) rfl dc_FO_leastOfPair_95 98 rfl ?_
          refine jl_goto h 24 (by decide) dc_FO_leastOfPair_98 ?_
          refine jl_sub (lc2 := [(4, _), (3, _), (0, _), (1, _), (2, _)]) [0, 2, 3, 4, 5] rfl ?_
          rw [e3]
          exact ihn
        | succ d2 ih2 =>
          intro c2 hc2
          have hk0 : i + 1 + c2 < 18 := by omega
          have hq := hpe (i + 1 + c2) m (by omega) (by omega) (by omega)
          have hin := fo_iK_in (b := b) (i := i) hz hj (by omega) (fun k h1 h2 => hp1 k m h1 h2 (by omega)) c2 (by omega)
          have h5 := lp_w1_in b i j (i + 1 + c2) m hj (by omega)
          have h6 := hp1 (i + 1 + c2) m (by omega) (by omega) (by omega)
          have hin2 : fo_in (lp_w1 b i j (i + 1 + c2) m + pe (i + 1 + c2) m) := by unfold fo_sm at h6; unfold fo_in; omega
          refine jl_iload h rfl dc_FO_leastOfPair_37 39 rfl ?_
          refine jl_iload h rfl dc_FO_leastOfPair_39 41 rfl ?_
          refine jl_iconst (v := nI 4) h (by decide) dc_FO_leastOfPair_41 42 rfl ?_
          refine jl_isub h dc_FO_leastOfPair_42 43 rfl ?_
          refine jl_icmp_gt h 95 (by decide) dc_FO_leastOfPair_43 46 rfl (fun c43 => absurd c43 (fun q => absurd ((fo_gt (by omega) (by omega)).mp q) (by omega))) (fun c43 => ?_)
          refine jl_aload_n (i := 0) h rfl rfl dc_FO_leastOfPair_46 47 rfl ?_
          refine jl_getf h nm_c_FO 7 wl_FO_22 (by omega) (by decide) (by exact rfl) (by rfl) dc_FO_leastOfPair_47 50 rfl ?_
          refine jl_iload h rfl dc_FO_leastOfPair_50 52 rfl ?_
          refine jl_iload h rfl dc_FO_leastOfPair_52 54 rfl ?_
          refine jl_callV (As := [_, _]) (rest := []) h hr vs_FO_57 vi_ST_canPair vx_ST_canPair (ci := 1) rfl (by omega) (by exact hST) (fun l => c_ST_canPair l (by omega) hS hk0 (by omega)) (by first | decide | omega) (by first | decide | omega) rfl rfl (Nat.le_of_ble_eq_true rfl) dc_FO_leastOfPair_54 (res := [_]) rfl 57 rfl ?_
          refine jl_if_eq h 89 (by decide) dc_FO_leastOfPair_57 60 rfl (fun c57 => ?_) (fun c57 => ?_)
          · skip
            rw [st_b0] at c57
            refine jl_iinc (i := 5) (d := 1) (lc2 := [(5, _), (4, _), (3, _), (0, _), (1, _), (2, _)]) (v2 := nI (i + 1 + (c2 + 1))) h (by decide) rfl (by exact nI_1 (i + 1 + c2)) rfl dc_FO_leastOfPair_89 92 rfl ?_
            refine jl_goto h 37 (by decide) dc_FO_leastOfPair_92 ?_
            first | (rw [show fo_iK b pe i j m z c2 = fo_iK b pe i j m z (c2 + 1) by simp [fo_iK, c57]]; exact ih2 (c2 + 1) (by omega)) | exact ih2 (c2 + 1) (by omega)
          · skip
            rw [st_b1] at c57
            have hcp := c57
            unfold en_cp at hcp
            simp only [Bool.and_eq_true, decide_eq_true_eq] at hcp
            refine jl_iload_n (i := 3) h rfl rfl dc_FO_leastOfPair_60 61 rfl ?_
            refine jl_aload_n (i := 0) h rfl rfl dc_FO_leastOfPair_61 62 rfl ?_
            refine jl_getf h nm_c_FO 8 wl_FO_26 (by omega) (by decide) (by exact rfl) (by rfl) dc_FO_leastOfPair_62 65 rfl ?_
            refine jl_iload_n (i := 1) h rfl rfl dc_FO_leastOfPair_65 66 rfl ?_
            refine jl_iload_n (i := 2) h rfl rfl dc_FO_leastOfPair_66 67 rfl ?_
            refine jl_iload h rfl dc_FO_leastOfPair_67 69 rfl ?_
            refine jl_iload h rfl dc_FO_leastOfPair_69 71 rfl ?_
            refine jl_callV (As := [_, _, _, _]) (rest := [_]) h hr vs_FO_107 vi_LO_withOne vx_LO_withOne (ci := 2) rfl (by omega) (by exact rfl) (fun l => c_LO_withOne l (by omega) hS rfl (by omega) (by omega) (by omega) hj hkd hcp.2) (by first | decide | omega) (by first | decide | omega) rfl rfl (Nat.le_of_ble_eq_true rfl) dc_FO_leastOfPair_71 (res := [_, _]) rfl 74 rfl ?_
            refine jl_aload_n (i := 0) h rfl rfl dc_FO_leastOfPair_74 75 rfl ?_
            refine jl_getf h nm_c_FO 2 wl_FO_11 (by omega) (by decide) (by exact rfl) (by rfl) dc_FO_leastOfPair_75 78 rfl ?_
            refine jl_iload h rfl dc_FO_leastOfPair_78 80 rfl ?_
            refine jl_aald (t0 := 4) h (i + 1 + c2) (by exact rfl) (by omega) (by exact rfl) (by rfl) (by rfl) (by exact hk0) (by first | decide | assumption) (by exact if_pos hk0) dc_FO_leastOfPair_80 81 rfl ?_
            refine jl_iload h rfl dc_FO_leastOfPair_81 83 rfl ?_
            refine jl_iald (v := iI (pe (i + 1 + c2) m)) h (m) (by exact rfl) (by omega) (by exact gw_row (gw_i_6 _ hk0)) (by exact by omega) (by first | decide | assumption) (by exact hq) dc_FO_leastOfPair_83 84 rfl ?_
            refine jl_iadd h dc_FO_leastOfPair_84 85 rfl ?_
            rw [show iI (lp_w1 b i j (i + 1 + c2) m) + iI (pe (i + 1 + c2) m) = iI (lp_w1 b i j (i + 1 + c2) m + pe (i + 1 + c2) m) by exact iI_add _ _]
            refine jl_mmin h hr wm_FO_91 (by first | decide | omega) (by first | decide | omega) (Nat.le_of_ble_eq_true rfl) dc_FO_leastOfPair_85 88 rfl ?_
            rw [show (if iI (lp_w1 b i j (i + 1 + c2) m + pe (i + 1 + c2) m) < iI (fo_iK b pe i j m z c2) then iI (lp_w1 b i j (i + 1 + c2) m + pe (i + 1 + c2) m) else iI (fo_iK b pe i j m z c2)) = iI (fo_iK b pe i j m z (c2 + 1)) by rw [fo_mi_iI hin hin2]; simp only [fo_iK, c57, if_true]]
            refine jl_istore_n (i := 3) (lc2 := [(3, _), (5, _), (4, _), (0, _), (1, _), (2, _)]) h rfl (by decide) rfl dc_FO_leastOfPair_88 89 rfl ?_
            refine jl_iinc (i := 5) (d := 1) (lc2 := [(5, _), (3, _), (4, _), (0, _), (1, _), (2, _)]) (v2 := nI (i + 1 + (c2 + 1))) h (by decide) rfl (by exact nI_1 (i + 1 + c2)) rfl dc_FO_leastOfPair_89 92 rfl ?_
            refine jl_goto h 37 (by decide) dc_FO_leastOfPair_92 ?_
            refine jl_sub (lc2 := [(5, _), (4, _), (3, _), (0, _), (1, _), (2, _)]) [0, 2, 1, 3, 4, 5] rfl ?_
            first | (rw [show fo_iK b pe i j m z c2 = fo_iK b pe i j m z (c2 + 1) by simp [fo_iK, c57]]; exact ih2 (c2 + 1) (by omega)) | exact ih2 (c2 + 1) (by omega)
      have e1 : nI m - nI i = nI (m - i) := pk_sub (by omega)
      refine jl_iload h rfl dc_FO_leastOfPair_24 26 rfl ?_
      refine jl_iload_n (i := 1) h rfl rfl dc_FO_leastOfPair_26 27 rfl ?_
      refine jl_isub h dc_FO_leastOfPair_27 28 rfl ?_
      rw [show nI m - nI i = nI (m - i) by exact e1]
      refine jl_iconst (v := nI 4) h (by decide) dc_FO_leastOfPair_28 29 rfl ?_
      refine jl_icmp_le h 101 (by decide) dc_FO_leastOfPair_29 32 rfl (fun c29 => absurd c29 (nI_ge (by omega) (by omega))) (fun c29 => ?_)
      refine jl_iload_n (i := 1) h rfl rfl dc_FO_leastOfPair_32 33 rfl ?_
      refine jl_iconst (v := 1) h (by decide) dc_FO_leastOfPair_33 34 rfl ?_
      refine jl_iadd h dc_FO_leastOfPair_34 35 rfl ?_
      rw [show nI i + 1 = nI (i + 1 + 0) by exact nI_1 i]
      refine jl_istore (i := 5) (lc2 := [(5, _), (4, _), (3, _), (0, _), (1, _), (2, _)]) h (by decide) rfl dc_FO_leastOfPair_35 37 rfl ?_
      exact inner (m - 4 - i) 0 (by omega)
  have hin1 : fo_in (lp_hp b i j) := by have := lp_hp_in b i j; unfold fo_in; omega
  have hin2 : fo_in (fo_many b rg i j) := by have := lp_wk_in b i j 5 (by decide); unfold fo_many; unfold fo_sm at hr1; unfold fo_in; omega
  have e9 : nI j - 1 = nI (j - 1 - 0) := by rw [show (1 : Int32) = nI 1 from rfl, pk_sub (by omega)]; rfl
  refine jl_aload_n (i := 0) h rfl rfl dc_FO_leastOfPair_0 1 rfl ?_
  refine jl_getf h nm_c_FO 8 wl_FO_26 (by omega) (by decide) (by exact rfl) (by rfl) dc_FO_leastOfPair_1 4 rfl ?_
  refine jl_iload_n (i := 1) h rfl rfl dc_FO_leastOfPair_4 5 rfl ?_
  refine jl_iload_n (i := 2) h rfl rfl dc_FO_leastOfPair_5 6 rfl ?_
  refine jl_callV (As := [_, _]) (rest := []) h hr vs_FO_101 vi_LO_hairpin vx_LO_hairpin (ci := 2) rfl (by omega) (by exact rfl) (fun l => c_LO_hairpin l (by omega) hS rfl hij hj) (by first | decide | omega) (by first | decide | omega) rfl rfl (Nat.le_of_ble_eq_true rfl) dc_FO_leastOfPair_6 (res := [_]) rfl 9 rfl ?_
  refine jl_aload_n (i := 0) h rfl rfl dc_FO_leastOfPair_9 10 rfl ?_
  refine jl_iload_n (i := 1) h rfl rfl dc_FO_leastOfPair_10 11 rfl ?_
  refine jl_iload_n (i := 2) h rfl rfl dc_FO_leastOfPair_11 12 rfl ?_
  refine jl_callV (As := [_, _]) (rest := [_]) h hr vs_FO_104 vi_FO_leastWithMany vx_FO_leastWithMany (ci := 3) rfl (by omega) (by exact rfl) (fun l => c_FO_leastWithMany l hS (by omega) hj hrg) (by first | decide | omega) (by first | decide | omega) rfl rfl (Nat.le_of_ble_eq_true rfl) dc_FO_leastOfPair_12 (res := [_, _]) rfl 15 rfl ?_
  refine jl_mmin h hr wm_FO_91 (by first | decide | omega) (by first | decide | omega) (Nat.le_of_ble_eq_true rfl) dc_FO_leastOfPair_15 18 rfl ?_
  rw [show (if iI (fo_many b rg i j) < iI (lp_hp b i j) then iI (fo_many b rg i j) else iI (lp_hp b i j)) = iI (fo_oK b pe rg i j 0) by rw [fo_mi_iI hin1 hin2]; rfl]
  refine jl_istore_n (i := 3) (lc2 := [(3, _), (0, _), (1, _), (2, _)]) h rfl (by decide) rfl dc_FO_leastOfPair_18 19 rfl ?_
  refine jl_iload_n (i := 2) h rfl rfl dc_FO_leastOfPair_19 20 rfl ?_
  refine jl_iconst (v := 1) h (by decide) dc_FO_leastOfPair_20 21 rfl ?_
  refine jl_isub h dc_FO_leastOfPair_21 22 rfl ?_
  rw [show nI j - 1 = nI (j - 1 - 0) by exact e9]
  refine jl_istore (i := 4) (lc2 := [(4, _), (3, _), (0, _), (1, _), (2, _)]) h (by decide) rfl dc_FO_leastOfPair_22 24 rfl ?_
  exact outer (j - i - 5) 0 (by omega)
end FO
end
section
/-! FoldedStrand$Folds: countPart, fillRegion. -/
theorem fo_ma_iI {a c : Int} (ha : fo_in a) (hc : fo_in c) : (if iI a < iI c then iI c else iI a) = iI (if a < c then c else a) := by
  unfold fo_in at *
  by_cases h : a < c
  · rw [if_pos h, if_pos ((iI_lt (by omega) (by omega) (by omega) (by omega)).mpr h)]
  · rw [if_neg h, if_neg (fun q => h ((iI_lt (by omega) (by omega) (by omega) (by omega)).mp q))]
section FO
variable (l : Launch) {K : Nat → ClassId} {sa : Nat → Nat} {ad : Nat → Nat} {I : Nat → Int32} {V : Nat → Nat → Int32} {L : Nat → Int64} {C : Nat → Int32} {G : Nat → Nat} {R : Nat → Nat} {n : Nat} {b : Nat → Nat} {pe cn pn : Nat → Nat → Int} {rg : Nat → Nat → Nat → Int}
theorem c_FO_countPart (hS : st_ok K ad (gw K ad I V L C G R) n b) {s t : Nat} (hs : s ≤ t) (ht : t < 18) (hC : ∀ i e, i ≤ e → e ≤ t → V (25 + i) e = iI (cn i e)) (hP : ∀ i e, i ≤ e → e ≤ t → V (45 + i) e = iI (pn i e)) (hP1 : ∀ i e, i ≤ e → e ≤ t → 0 ≤ pn i e ∧ pn i e ≤ 1000) : jl_C l K sa yn_FO_countPart bc_FO_countPart 7 none 2 50 168 ad [.ref (ad 4), .int (nI s), .int (nI (t + 1))] (gw K ad I V L C G R) none (gw K ad I (va_up (va_up V (25 + s) (upd (V (25 + s)) (t + 1) (iI (fo_cK b cn s t (t - 3 - s))))) (45 + s) (upd (V (45 + s)) (t + 1) (iI (fo_pK b pn s t (t - 3 - s))))) L C G R) := by
  refine jl_enter (by decide) (Nat.le_of_ble_eq_true rfl) (fun x h he hr => ?_)
  obtain ⟨hST, hbases, hn, hb⟩ := id hS
  show jl_J x 168 ad 0 0 (gw K ad I V L C G R) 0 [(0, .ref (ad 4)), (1, .int (nI s)), (2, .int (nI (t + 1)))] []
  have hs19 : s < 19 := by omega
  have loop : ∀ d c : Nat, c + d = t - 3 - s → jl_J x 168 ad 0 0 (gw K ad I V L C G R) 27 [(6, .int (nI (s + c))), (5, .int (iI (fo_pK b pn s t c))), (4, .int (iI (fo_cK b cn s t c))), (3, .int (nI t)), (0, .ref (ad 4)), (1, .int (nI s)), (2, .int (nI (t + 1)))] [] := by
    intro d
    induction d with
    | zero =>
      intro c hc
      have hc : c = t - 3 - s := by omega
      refine jl_iload h rfl dc_FO_countPart_27 29 rfl ?_
      refine jl_iload_n (i := 3) h rfl rfl dc_FO_countPart_29 30 rfl ?_
      refine jl_iconst (v := nI 4) h (by decide) dc_FO_countPart_30 31 rfl ?_
      refine jl_isub h dc_FO_countPart_31 32 rfl ?_
      refine jl_icmp_gt h 110 (by decide) dc_FO_countPart_32 35 rfl (fun c32 => ?_) (fun c32 => absurd ((fo_gt (by omega) (by omega)).mpr (by omega)) c32)
      refine jl_aload_n (i := 0) h rfl rfl dc_FO_countPart_110 111 rfl ?_
      refine jl_getf h nm_c_FO 5 wl_FO_16 (by omega) (by decide) (by exact rfl) (by rfl) dc_FO_countPart_111 114 rfl ?_
      refine jl_iload_n (i := 1) h rfl rfl dc_FO_countPart_114 115 rfl ?_
      refine jl_aald (t0 := 4) h (s) (by exact rfl) (by omega) (by exact rfl) (by rfl) (by rfl) (by exact hs19) (by first | decide | assumption) (by exact if_pos hs19) dc_FO_countPart_115 116 rfl ?_
      refine jl_iload_n (i := 2) h rfl rfl dc_FO_countPart_116 117 rfl ?_
      refine jl_iload h rfl dc_FO_countPart_117 119 rfl ?_
      refine jl_iast h (t + 1) (by exact rfl) (by omega) (by exact gw_row (gw_i_25 s hs19)) (by exact by omega) (by first | decide | assumption) dc_FO_countPart_119 (gw_rowset (gw_i_25 s hs19) _) 120 rfl ?_
      refine jl_aload_n (i := 0) h rfl rfl dc_FO_countPart_120 121 rfl ?_
      refine jl_getf h nm_c_FO 6 wl_FO_19 (by omega) (by decide) (by exact rfl) (by rfl) dc_FO_countPart_121 124 rfl ?_
      refine jl_iload_n (i := 1) h rfl rfl dc_FO_countPart_124 125 rfl ?_
      refine jl_aald (t0 := 4) h (s) (by exact rfl) (by omega) (by exact rfl) (by rfl) (by rfl) (by exact hs19) (by first | decide | assumption) (by exact if_pos hs19) dc_FO_countPart_125 126 rfl ?_
      refine jl_iload_n (i := 2) h rfl rfl dc_FO_countPart_126 127 rfl ?_
      refine jl_iload h rfl dc_FO_countPart_127 129 rfl ?_
      refine jl_iast h (t + 1) (by exact rfl) (by omega) (by exact gw_row (gw_i_45 s hs19)) (by exact by omega) (by first | decide | assumption) dc_FO_countPart_129 (gw_rowset (gw_i_45 s hs19) _) 130 rfl ?_
      exact jl_vret h he (rfl) (by rw [hc, va_up_ne V (k := 25 + s) (j := 45 + s) _ (by omega)]) dc_FO_countPart_130
    | succ d ih =>
      intro c hc
      have hk0 : s + c < 18 := by omega
      have hk1 : s + c + 1 < 19 := by omega
      have q1 := hC s (s + c) (by omega) (by omega)
      have q2 := hC (s + c + 1) t (by omega) (by omega)
      have q3 := hP s (s + c) (by omega) (by omega)
      have q4 := hP (s + c + 1) t (by omega) (by omega)
      have g3 := hP1 s (s + c) (by omega) (by omega)
      have g4 := hP1 (s + c + 1) t (by omega) (by omega)
      have g5 := fo_pK_in (b := b) (s := s) hP1 c (by omega)
      have i1 : fo_in (fo_pK b pn s t c) := by unfold fo_in; omega
      have i2 : fo_in (pn s (s + c) + 1 + pn (s + c + 1) t) := by unfold fo_in; omega
      refine jl_iload h rfl dc_FO_countPart_27 29 rfl ?_
      refine jl_iload_n (i := 3) h rfl rfl dc_FO_countPart_29 30 rfl ?_
      refine jl_iconst (v := nI 4) h (by decide) dc_FO_countPart_30 31 rfl ?_
      refine jl_isub h dc_FO_countPart_31 32 rfl ?_
      refine jl_icmp_gt h 110 (by decide) dc_FO_countPart_32 35 rfl (fun c32 => absurd c32 (fun q => absurd ((fo_gt (by omega) (by omega)).mp q) (by omega))) (fun c32 => ?_)
      refine jl_aload_n (i := 0) h rfl rfl dc_FO_countPart_35 36 rfl ?_
      refine jl_getf h nm_c_FO 7 wl_FO_22 (by omega) (by decide) (by exact rfl) (by rfl) dc_FO_countPart_36 39 rfl ?_
      refine jl_iload h rfl dc_FO_countPart_39 41 rfl ?_
      refine jl_iload_n (i := 3) h rfl rfl dc_FO_countPart_41 42 rfl ?_
      refine jl_callV (As := [_, _]) (rest := []) h hr vs_FO_57 vi_ST_canPair vx_ST_canPair (ci := 1) rfl (by omega) (by exact hST) (fun l => c_ST_canPair l (by omega) hS hk0 ht) (by first | decide | omega) (by first | decide | omega) rfl rfl (Nat.le_of_ble_eq_true rfl) dc_FO_countPart_42 (res := [_]) rfl 45 rfl ?_
      refine jl_if_eq h 104 (by decide) dc_FO_countPart_45 48 rfl (fun c45 => ?_) (fun c45 => ?_)
      · skip
        rw [st_b0] at c45
        refine jl_iinc (i := 6) (d := 1) (lc2 := [(6, _), (5, _), (4, _), (3, _), (0, _), (1, _), (2, _)]) (v2 := nI (s + (c + 1))) h (by decide) rfl (by exact nI_1 (s + c)) rfl dc_FO_countPart_104 107 rfl ?_
        refine jl_goto h 27 (by decide) dc_FO_countPart_107 ?_
        first | (rw [show fo_pK b pn s t c = fo_pK b pn s t (c + 1) by simp [fo_pK, c45], show fo_cK b cn s t c = fo_cK b cn s t (c + 1) by simp [fo_cK, c45]]; exact ih (c + 1) (by omega)) | exact ih (c + 1) (by omega)
      · skip
        rw [st_b1] at c45
        refine jl_iload h rfl dc_FO_countPart_48 50 rfl ?_
        refine jl_aload_n (i := 0) h rfl rfl dc_FO_countPart_50 51 rfl ?_
        refine jl_getf h nm_c_FO 5 wl_FO_16 (by omega) (by decide) (by exact rfl) (by rfl) dc_FO_countPart_51 54 rfl ?_
        refine jl_iload_n (i := 1) h rfl rfl dc_FO_countPart_54 55 rfl ?_
        refine jl_aald (t0 := 4) h (s) (by exact rfl) (by omega) (by exact rfl) (by rfl) (by rfl) (by exact hs19) (by first | decide | assumption) (by exact if_pos hs19) dc_FO_countPart_55 56 rfl ?_
        refine jl_iload h rfl dc_FO_countPart_56 58 rfl ?_
        refine jl_iald (v := iI (cn s (s + c))) h (s + c) (by exact rfl) (by omega) (by exact gw_row (gw_i_25 s hs19)) (by exact by omega) (by first | decide | assumption) (by exact q1) dc_FO_countPart_58 59 rfl ?_
        refine jl_aload_n (i := 0) h rfl rfl dc_FO_countPart_59 60 rfl ?_
        refine jl_getf h nm_c_FO 5 wl_FO_16 (by omega) (by decide) (by exact rfl) (by rfl) dc_FO_countPart_60 63 rfl ?_
        refine jl_iload h rfl dc_FO_countPart_63 65 rfl ?_
        refine jl_iconst (v := 1) h (by decide) dc_FO_countPart_65 66 rfl ?_
        refine jl_iadd h dc_FO_countPart_66 67 rfl ?_
        rw [show nI (s + c) + 1 = nI (s + c + 1) by exact nI_1 (s + c)]
        refine jl_aald (t0 := 4) h (s + c + 1) (by exact rfl) (by omega) (by exact rfl) (by rfl) (by rfl) (by exact hk1) (by first | decide | assumption) (by exact if_pos hk1) dc_FO_countPart_67 68 rfl ?_
        refine jl_iload_n (i := 3) h rfl rfl dc_FO_countPart_68 69 rfl ?_
        refine jl_iald (v := iI (cn (s + c + 1) t)) h (t) (by exact rfl) (by omega) (by exact gw_row (gw_i_25 _ hk1)) (by exact by omega) (by first | decide | assumption) (by exact q2) dc_FO_countPart_69 70 rfl ?_
        refine jl_imul h dc_FO_countPart_70 71 rfl ?_
        rw [show iI (cn s (s + c)) * iI (cn (s + c + 1) t) = iI (cn s (s + c) * cn (s + c + 1) t) by exact iI_mul _ _]
        refine jl_iadd h dc_FO_countPart_71 72 rfl ?_
        rw [show iI (fo_cK b cn s t c) + iI (cn s (s + c) * cn (s + c + 1) t) = iI (fo_cK b cn s t (c + 1)) by rw [iI_add]; simp only [fo_cK, c45, if_true]]
        refine jl_istore (i := 4) (lc2 := [(4, _), (6, _), (5, _), (3, _), (0, _), (1, _), (2, _)]) h (by decide) rfl dc_FO_countPart_72 74 rfl ?_
        refine jl_iload h rfl dc_FO_countPart_74 76 rfl ?_
        refine jl_aload_n (i := 0) h rfl rfl dc_FO_countPart_76 77 rfl ?_
        refine jl_getf h nm_c_FO 6 wl_FO_19 (by omega) (by decide) (by exact rfl) (by rfl) dc_FO_countPart_77 80 rfl ?_
        refine jl_iload_n (i := 1) h rfl rfl dc_FO_countPart_80 81 rfl ?_
        refine jl_aald (t0 := 4) h (s) (by exact rfl) (by omega) (by exact rfl) (by rfl) (by rfl) (by exact hs19) (by first | decide | assumption) (by exact if_pos hs19) dc_FO_countPart_81 82 rfl ?_
        refine jl_iload h rfl dc_FO_countPart_82 84 rfl ?_
        refine jl_iald (v := iI (pn s (s + c))) h (s + c) (by exact rfl) (by omega) (by exact gw_row (gw_i_45 s hs19)) (by exact by omega) (by first | decide | assumption) (by exact q3) dc_FO_countPart_84 85 rfl ?_
        refine jl_iconst (v := iI 1) h (by decide) dc_FO_countPart_85 86 rfl ?_
        refine jl_iadd h dc_FO_countPart_86 87 rfl ?_
        rw [show iI (pn s (s + c)) + iI 1 = iI (pn s (s + c) + 1) by exact iI_add _ _]
        refine jl_aload_n (i := 0) h rfl rfl dc_FO_countPart_87 88 rfl ?_
        refine jl_getf h nm_c_FO 6 wl_FO_19 (by omega) (by decide) (by exact rfl) (by rfl) dc_FO_countPart_88 91 rfl ?_
        refine jl_iload h rfl dc_FO_countPart_91 93 rfl ?_
        refine jl_iconst (v := 1) h (by decide) dc_FO_countPart_93 94 rfl ?_
        refine jl_iadd h dc_FO_countPart_94 95 rfl ?_
        rw [show nI (s + c) + 1 = nI (s + c + 1) by exact nI_1 (s + c)]
        refine jl_aald (t0 := 4) h (s + c + 1) (by exact rfl) (by omega) (by exact rfl) (by rfl) (by rfl) (by exact hk1) (by first | decide | assumption) (by exact if_pos hk1) dc_FO_countPart_95 96 rfl ?_
        refine jl_iload_n (i := 3) h rfl rfl dc_FO_countPart_96 97 rfl ?_
        refine jl_iald (v := iI (pn (s + c + 1) t)) h (t) (by exact rfl) (by omega) (by exact gw_row (gw_i_45 _ hk1)) (by exact by omega) (by first | decide | assumption) (by exact q4) dc_FO_countPart_97 98 rfl ?_
        refine jl_iadd h dc_FO_countPart_98 99 rfl ?_
        rw [show iI (pn s (s + c) + 1) + iI (pn (s + c + 1) t) = iI (pn s (s + c) + 1 + pn (s + c + 1) t) by exact iI_add _ _]
        refine jl_mmax h hr wm_FO_74 (by first | decide | omega) (by first | decide | omega) (Nat.le_of_ble_eq_true rfl) dc_FO_countPart_99 102 rfl ?_
        rw [show (if iI (fo_pK b pn s t c) < iI (pn s (s + c) + 1 + pn (s + c + 1) t) then iI (pn s (s + c) + 1 + pn (s + c + 1) t) else iI (fo_pK b pn s t c)) = iI (fo_pK b pn s t (c + 1)) by rw [fo_ma_iI i1 i2]; simp only [fo_pK, c45, if_true]]
        refine jl_istore (i := 5) (lc2 := [(5, _), (4, _), (6, _), (3, _), (0, _), (1, _), (2, _)]) h (by decide) rfl dc_FO_countPart_102 104 rfl ?_
        refine jl_iinc (i := 6) (d := 1) (lc2 := [(6, _), (5, _), (4, _), (3, _), (0, _), (1, _), (2, _)]) (v2 := nI (s + (c + 1))) h (by decide) rfl (by exact nI_1 (s + c)) rfl dc_FO_countPart_104 107 rfl ?_
        refine jl_goto h 27 (by decide) dc_FO_countPart_107 ?_
        first | (rw [show fo_pK b pn s t c = fo_pK b pn s t (c + 1) by simp [fo_pK, c45], show fo_cK b cn s t c = fo_cK b cn s t (c + 1) by simp [fo_cK, c45]]; exact ih (c + 1) (by omega)) | exact ih (c + 1) (by omega)
  have e0 : nI (t + 1) - 1 = nI t := nI_pred t
  have q1 := hC s t hs (Nat.le_refl t)
  have q2 := hP s t hs (Nat.le_refl t)
  refine jl_iload_n (i := 2) h rfl rfl dc_FO_countPart_0 1 rfl ?_
  refine jl_iconst (v := 1) h (by decide) dc_FO_countPart_1 2 rfl ?_
  refine jl_isub h dc_FO_countPart_2 3 rfl ?_
  rw [show nI (t + 1) - 1 = nI t by exact e0]
  refine jl_istore_n (i := 3) (lc2 := [(3, _), (0, _), (1, _), (2, _)]) h rfl (by decide) rfl dc_FO_countPart_3 4 rfl ?_
  refine jl_aload_n (i := 0) h rfl rfl dc_FO_countPart_4 5 rfl ?_
  refine jl_getf h nm_c_FO 5 wl_FO_16 (by omega) (by decide) (by exact rfl) (by rfl) dc_FO_countPart_5 8 rfl ?_
  refine jl_iload_n (i := 1) h rfl rfl dc_FO_countPart_8 9 rfl ?_
  refine jl_aald (t0 := 4) h (s) (by exact rfl) (by omega) (by exact rfl) (by rfl) (by rfl) (by exact hs19) (by first | decide | assumption) (by exact if_pos hs19) dc_FO_countPart_9 10 rfl ?_
  refine jl_iload_n (i := 3) h rfl rfl dc_FO_countPart_10 11 rfl ?_
  refine jl_iald (v := iI (fo_cK b cn s t 0)) h (t) (by exact rfl) (by omega) (by exact gw_row (gw_i_25 s hs19)) (by exact by omega) (by first | decide | assumption) (by exact q1) dc_FO_countPart_11 12 rfl ?_
  refine jl_istore (i := 4) (lc2 := [(4, _), (3, _), (0, _), (1, _), (2, _)]) h (by decide) rfl dc_FO_countPart_12 14 rfl ?_
  refine jl_aload_n (i := 0) h rfl rfl dc_FO_countPart_14 15 rfl ?_
  refine jl_getf h nm_c_FO 6 wl_FO_19 (by omega) (by decide) (by exact rfl) (by rfl) dc_FO_countPart_15 18 rfl ?_
  refine jl_iload_n (i := 1) h rfl rfl dc_FO_countPart_18 19 rfl ?_
  refine jl_aald (t0 := 4) h (s) (by exact rfl) (by omega) (by exact rfl) (by rfl) (by rfl) (by exact hs19) (by first | decide | assumption) (by exact if_pos hs19) dc_FO_countPart_19 20 rfl ?_
  refine jl_iload_n (i := 3) h rfl rfl dc_FO_countPart_20 21 rfl ?_
  refine jl_iald (v := iI (fo_pK b pn s t 0)) h (t) (by exact rfl) (by omega) (by exact gw_row (gw_i_45 s hs19)) (by exact by omega) (by first | decide | assumption) (by exact q2) dc_FO_countPart_21 22 rfl ?_
  refine jl_istore (i := 5) (lc2 := [(5, _), (4, _), (3, _), (0, _), (1, _), (2, _)]) h (by decide) rfl dc_FO_countPart_22 24 rfl ?_
  refine jl_iload_n (i := 1) h rfl rfl dc_FO_countPart_24 25 rfl ?_
  refine jl_istore (i := 6) (lc2 := [(6, _), (5, _), (4, _), (3, _), (0, _), (1, _), (2, _)]) h (by decide) rfl dc_FO_countPart_25 27 rfl ?_
  exact loop (t - 3 - s) 0 (by omega)
theorem c_FO0_fillRegion (hS : st_ok K ad (gw K ad I V L C G R) n b) {s t : Nat} (hs : s ≤ t) (ht : t < 18) (h1 : V (66 + s) t = iI (rg 0 s t)) (h2 : ∀ k, s ≤ k → k < t → V (66 + s) k = iI (rg 0 s k)) (h3 : ∀ k, s ≤ k → k < t → V (6 + k) t = iI (pe k t)) (g1 : fo_sm (rg 0 s t)) (g2 : ∀ k, s ≤ k → k < t → fo_sm (rg 0 s k)) (g3 : ∀ k, s ≤ k → k < t → fo_sm (pe k t)) : jl_C l K sa yn_FO_fillRegion bc_FO_fillRegion 8 none 3 90 168 ad [.ref (ad 4), .ref (ad 64), .int (nI s), .int (nI (t + 1))] (gw K ad I V L C G R) none (gw K ad I (va_up V (66 + s) (upd (V (66 + s)) (t + 1) (iI (fo_rK b 0 pe rg s t (t - 3 - s))))) L C G R) := by
  refine jl_enter (by decide) (Nat.le_of_ble_eq_true rfl) (fun x h he hr => ?_)
  obtain ⟨hST, hbases, hn, hb⟩ := id hS
  show jl_J x 168 ad 0 0 (gw K ad I V L C G R) 0 [(0, .ref (ad 4)), (1, .ref (ad 64)), (2, .int (nI s)), (3, .int (nI (t + 1)))] []
  have hs19 : s < 19 := by omega
  have loop : ∀ d c : Nat, c + d = t - 3 - s → jl_J x 168 ad 0 0 (gw K ad I V L C G R) 33 [(7, .int (nI (s + c))), (6, .int (iI (fo_rK b 0 pe rg s t c))), (5, .ref (ad 65)), (4, .int (nI t)), (0, .ref (ad 4)), (1, .ref (ad 64)), (2, .int (nI s)), (3, .int (nI (t + 1)))] [] := by
    intro d
    induction d with
    | zero =>
      intro c hc
      have hc : c = t - 3 - s := by omega
      refine jl_iload h rfl dc_FO_fillRegion_33 35 rfl ?_
      refine jl_iload h rfl dc_FO_fillRegion_35 37 rfl ?_
      refine jl_iconst (v := nI 4) h (by decide) dc_FO_fillRegion_37 38 rfl ?_
      refine jl_isub h dc_FO_fillRegion_38 39 rfl ?_
      refine jl_icmp_gt h 86 (by decide) dc_FO_fillRegion_39 42 rfl (fun c39 => ?_) (fun c39 => absurd ((fo_gt (by omega) (by omega)).mpr (by omega)) c39)
      refine jl_aload_n (i := 1) h rfl rfl dc_FO_fillRegion_86 87 rfl ?_
      refine jl_getf h nm_c_RE 2 wl_FO_54 (by omega) (by decide) (by exact rfl) (by rfl) dc_FO_fillRegion_87 90 rfl ?_
      refine jl_iload_n (i := 2) h rfl rfl dc_FO_fillRegion_90 91 rfl ?_
      refine jl_aald (t0 := 4) h (s) (by exact rfl) (by omega) (by exact rfl) (by rfl) (by rfl) (by exact hs19) (by first | decide | assumption) (by exact if_pos hs19) dc_FO_fillRegion_91 92 rfl ?_
      refine jl_iload_n (i := 3) h rfl rfl dc_FO_fillRegion_92 93 rfl ?_
      refine jl_iload h rfl dc_FO_fillRegion_93 95 rfl ?_
      refine jl_iast h (t + 1) (by exact rfl) (by omega) (by exact gw_row (gw_i_66 s hs19)) (by exact by omega) (by first | decide | assumption) dc_FO_fillRegion_95 (gw_rowset (gw_i_66 s hs19) _) 96 rfl ?_
      exact jl_vret h he (rfl) (by rw [hc]) dc_FO_fillRegion_96
    | succ d ih =>
      intro c hc
      have hk0 : s + c < 18 := by omega
      have q2 := h2 (s + c) (by omega) (by omega)
      have q3 := h3 (s + c) (by omega) (by omega)
      have g5 := fo_rK_in (b := b) (r := 0) g1 g2 g3 c (by omega)
      have i2 : fo_in (rg 0 s (s + c) + fo_br b 0 pe (s + c) t) := by
        have e1 := g2 (s + c) (by omega) (by omega)
        have e2 := g3 (s + c) (by omega) (by omega)
        have e3 := lp_wk_in b (s + c) t 5 (by decide)
        unfold fo_br fo_pq
        unfold fo_sm at e1 e2
        unfold fo_in
        split <;> omega
      refine jl_iload h rfl dc_FO_fillRegion_33 35 rfl ?_
      refine jl_iload h rfl dc_FO_fillRegion_35 37 rfl ?_
      refine jl_iconst (v := nI 4) h (by decide) dc_FO_fillRegion_37 38 rfl ?_
      refine jl_isub h dc_FO_fillRegion_38 39 rfl ?_
      refine jl_icmp_gt h 86 (by decide) dc_FO_fillRegion_39 42 rfl (fun c39 => absurd c39 (fun q => absurd ((fo_gt (by omega) (by omega)).mp q) (by omega))) (fun c39 => ?_)
      refine jl_aload_n (i := 0) h rfl rfl dc_FO_fillRegion_42 43 rfl ?_
      refine jl_getf h nm_c_FO 7 wl_FO_22 (by omega) (by decide) (by exact rfl) (by rfl) dc_FO_fillRegion_43 46 rfl ?_
      refine jl_iload h rfl dc_FO_fillRegion_46 48 rfl ?_
      refine jl_iload h rfl dc_FO_fillRegion_48 50 rfl ?_
      refine jl_callV (As := [_, _]) (rest := []) h hr vs_FO_57 vi_ST_canPair vx_ST_canPair (ci := 1) rfl (by omega) (by exact hST) (fun l => c_ST_canPair l (by omega) hS hk0 ht) (by first | decide | omega) (by first | decide | omega) rfl rfl (Nat.le_of_ble_eq_true rfl) dc_FO_fillRegion_50 (res := [_]) rfl 53 rfl ?_
      refine jl_if_eq h 80 (by decide) dc_FO_fillRegion_53 56 rfl (fun c53 => ?_) (fun c53 => ?_)
      · skip
        rw [st_b0] at c53
        refine jl_iinc (i := 7) (d := 1) (lc2 := [(7, _), (6, _), (5, _), (4, _), (0, _), (1, _), (2, _), (3, _)]) (v2 := nI (s + (c + 1))) h (by decide) rfl (by exact nI_1 (s + c)) rfl dc_FO_fillRegion_80 83 rfl ?_
        refine jl_goto h 33 (by decide) dc_FO_fillRegion_83 ?_
        first | (rw [show fo_rK b 0 pe rg s t c = fo_rK b 0 pe rg s t (c + 1) by simp [fo_rK, c53]]; exact ih (c + 1) (by omega)) | exact ih (c + 1) (by omega)
      · skip
        rw [st_b1] at c53
        refine jl_iload h rfl dc_FO_fillRegion_56 58 rfl ?_
        refine jl_aload h rfl dc_FO_fillRegion_58 60 rfl ?_
        refine jl_iload_n (i := 2) h rfl rfl dc_FO_fillRegion_60 61 rfl ?_
        refine jl_aald (t0 := 4) h (s) (by exact rfl) (by omega) (by exact rfl) (by rfl) (by rfl) (by exact hs19) (by first | decide | assumption) (by exact if_pos hs19) dc_FO_fillRegion_61 62 rfl ?_
        refine jl_iload h rfl dc_FO_fillRegion_62 64 rfl ?_
        refine jl_iald (v := iI (rg 0 s (s + c))) h (s + c) (by exact rfl) (by omega) (by exact gw_row (gw_i_66 s hs19)) (by exact by omega) (by first | decide | assumption) (by exact q2) dc_FO_fillRegion_64 65 rfl ?_
        refine jl_aload_n (i := 0) h rfl rfl dc_FO_fillRegion_65 66 rfl ?_
        refine jl_aload_n (i := 1) h rfl rfl dc_FO_fillRegion_66 67 rfl ?_
        refine jl_iload h rfl dc_FO_fillRegion_67 69 rfl ?_
        refine jl_iload h rfl dc_FO_fillRegion_69 71 rfl ?_
        refine jl_callV (As := [_, _, _]) (rest := [_, _]) h hr vs_FO_87 vi_FO_branchEnergy vx_FO_branchEnergy (ci := 3) rfl (by omega) (by exact rfl) (fun l => c_FO0_branchEnergy l hS hk0 ht q3) (by first | decide | omega) (by first | decide | omega) rfl rfl (Nat.le_of_ble_eq_true rfl) dc_FO_fillRegion_71 (res := [_, _, _]) rfl 74 rfl ?_
        refine jl_iadd h dc_FO_fillRegion_74 75 rfl ?_
        rw [show iI (rg 0 s (s + c)) + iI (fo_br b 0 pe (s + c) t) = iI (rg 0 s (s + c) + fo_br b 0 pe (s + c) t) by exact iI_add _ _]
        refine jl_mmin h hr wm_FO_91 (by first | decide | omega) (by first | decide | omega) (Nat.le_of_ble_eq_true rfl) dc_FO_fillRegion_75 78 rfl ?_
        rw [show (if iI (rg 0 s (s + c) + fo_br b 0 pe (s + c) t) < iI (fo_rK b 0 pe rg s t c) then iI (rg 0 s (s + c) + fo_br b 0 pe (s + c) t) else iI (fo_rK b 0 pe rg s t c)) = iI (fo_rK b 0 pe rg s t (c + 1)) by rw [fo_mi_iI g5 i2]; simp only [fo_rK, c53, if_true]; rfl]
        refine jl_istore (i := 6) (lc2 := [(6, _), (7, _), (5, _), (4, _), (0, _), (1, _), (2, _), (3, _)]) h (by decide) rfl dc_FO_fillRegion_78 80 rfl ?_
        refine jl_iinc (i := 7) (d := 1) (lc2 := [(7, _), (6, _), (5, _), (4, _), (0, _), (1, _), (2, _), (3, _)]) (v2 := nI (s + (c + 1))) h (by decide) rfl (by exact nI_1 (s + c)) rfl dc_FO_fillRegion_80 83 rfl ?_
        refine jl_goto h 33 (by decide) dc_FO_fillRegion_83 ?_
        first | (rw [show fo_rK b 0 pe rg s t c = fo_rK b 0 pe rg s t (c + 1) by simp [fo_rK, c53]]; exact ih (c + 1) (by omega)) | exact ih (c + 1) (by omega)
  have e0 : nI (t + 1) - 1 = nI t := nI_pred t
  refine jl_iload_n (i := 3) h rfl rfl dc_FO_fillRegion_0 1 rfl ?_
  refine jl_iconst (v := 1) h (by decide) dc_FO_fillRegion_1 2 rfl ?_
  refine jl_isub h dc_FO_fillRegion_2 3 rfl ?_
  rw [show nI (t + 1) - 1 = nI t by exact e0]
  refine jl_istore (i := 4) (lc2 := [(4, _), (0, _), (1, _), (2, _), (3, _)]) h (by decide) rfl dc_FO_fillRegion_3 5 rfl ?_
  refine jl_aload_n (i := 1) h rfl rfl dc_FO_fillRegion_5 6 rfl ?_
  refine jl_callV (As := []) (rest := []) h hr vs_FO_79 vi_RE_afterPair vx_RE_afterPair (ci := 4) rfl (by omega) (by exact rfl) (fun l => c_RE0_afterPair l) (by first | decide | omega) (by first | decide | omega) rfl rfl (Nat.le_of_ble_eq_true rfl) dc_FO_fillRegion_6 (res := [_]) rfl 9 rfl ?_
  refine jl_getf h nm_c_RE 2 wl_FO_54 (by omega) (by decide) (by exact rfl) (by rfl) dc_FO_fillRegion_9 12 rfl ?_
  refine jl_astore (i := 5) (lc2 := [(5, _), (4, _), (0, _), (1, _), (2, _), (3, _)]) h (by decide) rfl dc_FO_fillRegion_12 14 rfl ?_
  refine jl_aload_n (i := 1) h rfl rfl dc_FO_fillRegion_14 15 rfl ?_
  refine jl_getf h nm_c_RE 2 wl_FO_54 (by omega) (by decide) (by exact rfl) (by rfl) dc_FO_fillRegion_15 18 rfl ?_
  refine jl_iload_n (i := 2) h rfl rfl dc_FO_fillRegion_18 19 rfl ?_
  refine jl_aald (t0 := 4) h (s) (by exact rfl) (by omega) (by exact rfl) (by rfl) (by rfl) (by exact hs19) (by first | decide | assumption) (by exact if_pos hs19) dc_FO_fillRegion_19 20 rfl ?_
  refine jl_iload h rfl dc_FO_fillRegion_20 22 rfl ?_
  refine jl_iald (v := iI (rg 0 s t)) h (t) (by exact rfl) (by omega) (by exact gw_row (gw_i_66 s hs19)) (by exact by omega) (by first | decide | assumption) (by exact h1) dc_FO_fillRegion_22 23 rfl ?_
  refine jl_aload_n (i := 1) h rfl rfl dc_FO_fillRegion_23 24 rfl ?_
  refine jl_getf (v := .int (iI 0)) h nm_c_RE 0 wl_FO_83 (by omega) (by decide) (by exact rfl) (by exact rfl) dc_FO_fillRegion_24 27 rfl ?_
  refine jl_iadd h dc_FO_fillRegion_27 28 rfl ?_
  rw [show iI (rg 0 s t) + iI 0 = iI (fo_rK b 0 pe rg s t 0) by rw [iI_add]; rfl]
  refine jl_istore (i := 6) (lc2 := [(6, _), (5, _), (4, _), (0, _), (1, _), (2, _), (3, _)]) h (by decide) rfl dc_FO_fillRegion_28 30 rfl ?_
  refine jl_iload_n (i := 2) h rfl rfl dc_FO_fillRegion_30 31 rfl ?_
  refine jl_istore (i := 7) (lc2 := [(7, _), (6, _), (5, _), (4, _), (0, _), (1, _), (2, _), (3, _)]) h (by decide) rfl dc_FO_fillRegion_31 33 rfl ?_
  exact loop (t - 3 - s) 0 (by omega)
theorem c_FO1_fillRegion (hS : st_ok K ad (gw K ad I V L C G R) n b) {s t : Nat} (hs : s ≤ t) (ht : t < 18) (h1 : V (87 + s) t = iI (rg 1 s t)) (h2 : ∀ k, s ≤ k → k < t → V (87 + s) k = iI (rg 1 s k)) (h3 : ∀ k, s ≤ k → k < t → V (6 + k) t = iI (pe k t)) (g1 : fo_sm (rg 1 s t)) (g2 : ∀ k, s ≤ k → k < t → fo_sm (rg 1 s k)) (g3 : ∀ k, s ≤ k → k < t → fo_sm (pe k t)) : jl_C l K sa yn_FO_fillRegion bc_FO_fillRegion 8 none 3 90 168 ad [.ref (ad 4), .ref (ad 85), .int (nI s), .int (nI (t + 1))] (gw K ad I V L C G R) none (gw K ad I (va_up V (87 + s) (upd (V (87 + s)) (t + 1) (iI (fo_rK b 1 pe rg s t (t - 3 - s))))) L C G R) := by
  refine jl_enter (by decide) (Nat.le_of_ble_eq_true rfl) (fun x h he hr => ?_)
  obtain ⟨hST, hbases, hn, hb⟩ := id hS
  show jl_J x 168 ad 0 0 (gw K ad I V L C G R) 0 [(0, .ref (ad 4)), (1, .ref (ad 85)), (2, .int (nI s)), (3, .int (nI (t + 1)))] []
  have hs19 : s < 19 := by omega
  have loop : ∀ d c : Nat, c + d = t - 3 - s → jl_J x 168 ad 0 0 (gw K ad I V L C G R) 33 [(7, .int (nI (s + c))), (6, .int (iI (fo_rK b 1 pe rg s t c))), (5, .ref (ad 86)), (4, .int (nI t)), (0, .ref (ad 4)), (1, .ref (ad 85)), (2, .int (nI s)), (3, .int (nI (t + 1)))] [] := by
    intro d
    induction d with
    | zero =>
      intro c hc
      have hc : c = t - 3 - s := by omega
      refine jl_iload h rfl dc_FO_fillRegion_33 35 rfl ?_
      refine jl_iload h rfl dc_FO_fillRegion_35 37 rfl ?_
      refine jl_iconst (v := nI 4) h (by decide) dc_FO_fillRegion_37 38 rfl ?_
      refine jl_isub h dc_FO_fillRegion_38 39 rfl ?_
      refine jl_icmp_gt h 86 (by decide) dc_FO_fillRegion_39 42 rfl (fun c39 => ?_) (fun c39 => absurd ((fo_gt (by omega) (by omega)).mpr (by omega)) c39)
      refine jl_aload_n (i := 1) h rfl rfl dc_FO_fillRegion_86 87 rfl ?_
      refine jl_getf h nm_c_RE 2 wl_FO_54 (by omega) (by decide) (by exact rfl) (by rfl) dc_FO_fillRegion_87 90 rfl ?_
      refine jl_iload_n (i := 2) h rfl rfl dc_FO_fillRegion_90 91 rfl ?_
      refine jl_aald (t0 := 4) h (s) (by exact rfl) (by omega) (by exact rfl) (by rfl) (by rfl) (by exact hs19) (by first | decide | assumption) (by exact if_pos hs19) dc_FO_fillRegion_91 92 rfl ?_
      refine jl_iload_n (i := 3) h rfl rfl dc_FO_fillRegion_92 93 rfl ?_
      refine jl_iload h rfl dc_FO_fillRegion_93 95 rfl ?_
      refine jl_iast h (t + 1) (by exact rfl) (by omega) (by exact gw_row (gw_i_87 s hs19)) (by exact by omega) (by first | decide | assumption) dc_FO_fillRegion_95 (gw_rowset (gw_i_87 s hs19) _) 96 rfl ?_
      exact jl_vret h he (rfl) (by rw [hc]) dc_FO_fillRegion_96
    | succ d ih =>
      intro c hc
      have hk0 : s + c < 18 := by omega
      have q2 := h2 (s + c) (by omega) (by omega)
      have q3 := h3 (s + c) (by omega) (by omega)
      have g5 := fo_rK_in (b := b) (r := 1) g1 g2 g3 c (by omega)
      have i2 : fo_in (rg 1 s (s + c) + fo_br b 1 pe (s + c) t) := by
        have e1 := g2 (s + c) (by omega) (by omega)
        have e2 := g3 (s + c) (by omega) (by omega)
        have e3 := lp_wk_in b (s + c) t 5 (by decide)
        unfold fo_br fo_pq
        unfold fo_sm at e1 e2
        unfold fo_in
        split <;> omega
      refine jl_iload h rfl dc_FO_fillRegion_33 35 rfl ?_
      refine jl_iload h rfl dc_FO_fillRegion_35 37 rfl ?_
      refine jl_iconst (v := nI 4) h (by decide) dc_FO_fillRegion_37 38 rfl ?_
      refine jl_isub h dc_FO_fillRegion_38 39 rfl ?_
      refine jl_icmp_gt h 86 (by decide) dc_FO_fillRegion_39 42 rfl (fun c39 => absurd c39 (fun q => absurd ((fo_gt (by omega) (by omega)).mp q) (by omega))) (fun c39 => ?_)
      refine jl_aload_n (i := 0) h rfl rfl dc_FO_fillRegion_42 43 rfl ?_
      refine jl_getf h nm_c_FO 7 wl_FO_22 (by omega) (by decide) (by exact rfl) (by rfl) dc_FO_fillRegion_43 46 rfl ?_
      refine jl_iload h rfl dc_FO_fillRegion_46 48 rfl ?_
      refine jl_iload h rfl dc_FO_fillRegion_48 50 rfl ?_
      refine jl_callV (As := [_, _]) (rest := []) h hr vs_FO_57 vi_ST_canPair vx_ST_canPair (ci := 1) rfl (by omega) (by exact hST) (fun l => c_ST_canPair l (by omega) hS hk0 ht) (by first | decide | omega) (by first | decide | omega) rfl rfl (Nat.le_of_ble_eq_true rfl) dc_FO_fillRegion_50 (res := [_]) rfl 53 rfl ?_
      refine jl_if_eq h 80 (by decide) dc_FO_fillRegion_53 56 rfl (fun c53 => ?_) (fun c53 => ?_)
      · skip
        rw [st_b0] at c53
        refine jl_iinc (i := 7) (d := 1) (lc2 := [(7, _), (6, _), (5, _), (4, _), (0, _), (1, _), (2, _), (3, _)]) (v2 := nI (s + (c + 1))) h (by decide) rfl (by exact nI_1 (s + c)) rfl dc_FO_fillRegion_80 83 rfl ?_
        refine jl_goto h 33 (by decide) dc_FO_fillRegion_83 ?_
        first | (rw [show fo_rK b 1 pe rg s t c = fo_rK b 1 pe rg s t (c + 1) by simp [fo_rK, c53]]; exact ih (c + 1) (by omega)) | exact ih (c + 1) (by omega)
      · skip
        rw [st_b1] at c53
        refine jl_iload h rfl dc_FO_fillRegion_56 58 rfl ?_
        refine jl_aload h rfl dc_FO_fillRegion_58 60 rfl ?_
        refine jl_iload_n (i := 2) h rfl rfl dc_FO_fillRegion_60 61 rfl ?_
        refine jl_aald (t0 := 4) h (s) (by exact rfl) (by omega) (by exact rfl) (by rfl) (by rfl) (by exact hs19) (by first | decide | assumption) (by exact if_pos hs19) dc_FO_fillRegion_61 62 rfl ?_
        refine jl_iload h rfl dc_FO_fillRegion_62 64 rfl ?_
        refine jl_iald (v := iI (rg 1 s (s + c))) h (s + c) (by exact rfl) (by omega) (by exact gw_row (gw_i_87 s hs19)) (by exact by omega) (by first | decide | assumption) (by exact q2) dc_FO_fillRegion_64 65 rfl ?_
        refine jl_aload_n (i := 0) h rfl rfl dc_FO_fillRegion_65 66 rfl ?_
        refine jl_aload_n (i := 1) h rfl rfl dc_FO_fillRegion_66 67 rfl ?_
        refine jl_iload h rfl dc_FO_fillRegion_67 69 rfl ?_
        refine jl_iload h rfl dc_FO_fillRegion_69 71 rfl ?_
        refine jl_callV (As := [_, _, _]) (rest := [_, _]) h hr vs_FO_87 vi_FO_branchEnergy vx_FO_branchEnergy (ci := 3) rfl (by omega) (by exact rfl) (fun l => c_FO1_branchEnergy l hS hk0 ht q3) (by first | decide | omega) (by first | decide | omega) rfl rfl (Nat.le_of_ble_eq_true rfl) dc_FO_fillRegion_71 (res := [_, _, _]) rfl 74 rfl ?_
        refine jl_iadd h dc_FO_fillRegion_74 75 rfl ?_
        rw [show iI (rg 1 s (s + c)) + iI (fo_br b 1 pe (s + c) t) = iI (rg 1 s (s + c) + fo_br b 1 pe (s + c) t) by exact iI_add _ _]
        refine jl_mmin h hr wm_FO_91 (by first | decide | omega) (by first | decide | omega) (Nat.le_of_ble_eq_true rfl) dc_FO_fillRegion_75 78 rfl ?_
        rw [show (if iI (rg 1 s (s + c) + fo_br b 1 pe (s + c) t) < iI (fo_rK b 1 pe rg s t c) then iI (rg 1 s (s + c) + fo_br b 1 pe (s + c) t) else iI (fo_rK b 1 pe rg s t c)) = iI (fo_rK b 1 pe rg s t (c + 1)) by rw [fo_mi_iI g5 i2]; simp only [fo_rK, c53, if_true]; rfl]
        refine jl_istore (i := 6) (lc2 := [(6, _), (7, _), (5, _), (4, _), (0, _), (1, _), (2, _), (3, _)]) h (by decide) rfl dc_FO_fillRegion_78 80 rfl ?_
        refine jl_iinc (i := 7) (d := 1) (lc2 := [(7, _), (6, _), (5, _), (4, _), (0, _), (1, _), (2, _), (3, _)]) (v2 := nI (s + (c + 1))) h (by decide) rfl (by exact nI_1 (s + c)) rfl dc_FO_fillRegion_80 83 rfl ?_
        refine jl_goto h 33 (by decide) dc_FO_fillRegion_83 ?_
        first | (rw [show fo_rK b 1 pe rg s t c = fo_rK b 1 pe rg s t (c + 1) by simp [fo_rK, c53]]; exact ih (c + 1) (by omega)) | exact ih (c + 1) (by omega)
  have e0 : nI (t + 1) - 1 = nI t := nI_pred t
  refine jl_iload_n (i := 3) h rfl rfl dc_FO_fillRegion_0 1 rfl ?_
  refine jl_iconst (v := 1) h (by decide) dc_FO_fillRegion_1 2 rfl ?_
  refine jl_isub h dc_FO_fillRegion_2 3 rfl ?_
  rw [show nI (t + 1) - 1 = nI t by exact e0]
  refine jl_istore (i := 4) (lc2 := [(4, _), (0, _), (1, _), (2, _), (3, _)]) h (by decide) rfl dc_FO_fillRegion_3 5 rfl ?_
  refine jl_aload_n (i := 1) h rfl rfl dc_FO_fillRegion_5 6 rfl ?_
  refine jl_callV (As := []) (rest := []) h hr vs_FO_79 vi_RE_afterPair vx_RE_afterPair (ci := 4) rfl (by omega) (by exact rfl) (fun l => c_RE1_afterPair l) (by first | decide | omega) (by first | decide | omega) rfl rfl (Nat.le_of_ble_eq_true rfl) dc_FO_fillRegion_6 (res := [_]) rfl 9 rfl ?_
  refine jl_getf h nm_c_RE 2 wl_FO_54 (by omega) (by decide) (by exact rfl) (by rfl) dc_FO_fillRegion_9 12 rfl ?_
  refine jl_astore (i := 5) (lc2 := [(5, _), (4, _), (0, _), (1, _), (2, _), (3, _)]) h (by decide) rfl dc_FO_fillRegion_12 14 rfl ?_
  refine jl_aload_n (i := 1) h rfl rfl dc_FO_fillRegion_14 15 rfl ?_
  refine jl_getf h nm_c_RE 2 wl_FO_54 (by omega) (by decide) (by exact rfl) (by rfl) dc_FO_fillRegion_15 18 rfl ?_
  refine jl_iload_n (i := 2) h rfl rfl dc_FO_fillRegion_18 19 rfl ?_
  refine jl_aald (t0 := 4) h (s) (by exact rfl) (by omega) (by exact rfl) (by rfl) (by rfl) (by exact hs19) (by first | decide | assumption) (by exact if_pos hs19) dc_FO_fillRegion_19 20 rfl ?_
  refine jl_iload h rfl dc_FO_fillRegion_20 22 rfl ?_
  refine jl_iald (v := iI (rg 1 s t)) h (t) (by exact rfl) (by omega) (by exact gw_row (gw_i_87 s hs19)) (by exact by omega) (by first | decide | assumption) (by exact h1) dc_FO_fillRegion_22 23 rfl ?_
  refine jl_aload_n (i := 1) h rfl rfl dc_FO_fillRegion_23 24 rfl ?_
  refine jl_getf (v := .int (iI 1)) h nm_c_RE 0 wl_FO_83 (by omega) (by decide) (by exact rfl) (by exact rfl) dc_FO_fillRegion_24 27 rfl ?_
  refine jl_iadd h dc_FO_fillRegion_27 28 rfl ?_
  rw [show iI (rg 1 s t) + iI 1 = iI (fo_rK b 1 pe rg s t 0) by rw [iI_add]; rfl]
  refine jl_istore (i := 6) (lc2 := [(6, _), (5, _), (4, _), (0, _), (1, _), (2, _), (3, _)]) h (by decide) rfl dc_FO_fillRegion_28 30 rfl ?_
  refine jl_iload_n (i := 2) h rfl rfl dc_FO_fillRegion_30 31 rfl ?_
  refine jl_istore (i := 7) (lc2 := [(7, _), (6, _), (5, _), (4, _), (0, _), (1, _), (2, _), (3, _)]) h (by decide) rfl dc_FO_fillRegion_31 33 rfl ?_
  exact loop (t - 3 - s) 0 (by omega)
theorem c_FO2_fillRegion (hS : st_ok K ad (gw K ad I V L C G R) n b) {s t : Nat} (hs : s ≤ t) (ht : t < 18) (h1 : V (108 + s) t = iI (rg 2 s t)) (h2 : ∀ k, s ≤ k → k < t → V (87 + s) k = iI (rg 1 s k)) (h3 : ∀ k, s ≤ k → k < t → V (6 + k) t = iI (pe k t)) (g1 : fo_sm (rg 2 s t)) (g2 : ∀ k, s ≤ k → k < t → fo_sm (rg 1 s k)) (g3 : ∀ k, s ≤ k → k < t → fo_sm (pe k t)) : jl_C l K sa yn_FO_fillRegion bc_FO_fillRegion 8 none 3 90 168 ad [.ref (ad 4), .ref (ad 106), .int (nI s), .int (nI (t + 1))] (gw K ad I V L C G R) none (gw K ad I (va_up V (108 + s) (upd (V (108 + s)) (t + 1) (iI (fo_rK b 2 pe rg s t (t - 3 - s))))) L C G R) := by
  refine jl_enter (by decide) (Nat.le_of_ble_eq_true rfl) (fun x h he hr => ?_)
  obtain ⟨hST, hbases, hn, hb⟩ := id hS
  show jl_J x 168 ad 0 0 (gw K ad I V L C G R) 0 [(0, .ref (ad 4)), (1, .ref (ad 106)), (2, .int (nI s)), (3, .int (nI (t + 1)))] []
  have hs19 : s < 19 := by omega
  have loop : ∀ d c : Nat, c + d = t - 3 - s → jl_J x 168 ad 0 0 (gw K ad I V L C G R) 33 [(7, .int (nI (s + c))), (6, .int (iI (fo_rK b 2 pe rg s t c))), (5, .ref (ad 86)), (4, .int (nI t)), (0, .ref (ad 4)), (1, .ref (ad 106)), (2, .int (nI s)), (3, .int (nI (t + 1)))] [] := by
    intro d
    induction d with
    | zero =>
      intro c hc
      have hc : c = t - 3 - s := by omega
      refine jl_iload h rfl dc_FO_fillRegion_33 35 rfl ?_
      refine jl_iload h rfl dc_FO_fillRegion_35 37 rfl ?_
      refine jl_iconst (v := nI 4) h (by decide) dc_FO_fillRegion_37 38 rfl ?_
      refine jl_isub h dc_FO_fillRegion_38 39 rfl ?_
      refine jl_icmp_gt h 86 (by decide) dc_FO_fillRegion_39 42 rfl (fun c39 => ?_) (fun c39 => absurd ((fo_gt (by omega) (by omega)).mpr (by omega)) c39)
      refine jl_aload_n (i := 1) h rfl rfl dc_FO_fillRegion_86 87 rfl ?_
      refine jl_getf h nm_c_RE 2 wl_FO_54 (by omega) (by decide) (by exact rfl) (by rfl) dc_FO_fillRegion_87 90 rfl ?_
      refine jl_iload_n (i := 2) h rfl rfl dc_FO_fillRegion_90 91 rfl ?_
      refine jl_aald (t0 := 4) h (s) (by exact rfl) (by omega) (by exact rfl) (by rfl) (by rfl) (by exact hs19) (by first | decide | assumption) (by exact if_pos hs19) dc_FO_fillRegion_91 92 rfl ?_
      refine jl_iload_n (i := 3) h rfl rfl dc_FO_fillRegion_92 93 rfl ?_
      refine jl_iload h rfl dc_FO_fillRegion_93 95 rfl ?_
      refine jl_iast h (t + 1) (by exact rfl) (by omega) (by exact gw_row (gw_i_108 s hs19)) (by exact by omega) (by first | decide | assumption) dc_FO_fillRegion_95 (gw_rowset (gw_i_108 s hs19) _) 96 rfl ?_
      exact jl_vret h he (rfl) (by rw [hc]) dc_FO_fillRegion_96
    | succ d ih =>
      intro c hc
      have hk0 : s + c < 18 := by omega
      have q2 := h2 (s + c) (by omega) (by omega)
      have q3 := h3 (s + c) (by omega) (by omega)
      have g5 := fo_rK_in (b := b) (r := 2) g1 g2 g3 c (by omega)
      have i2 : fo_in (rg 1 s (s + c) + fo_br b 2 pe (s + c) t) := by
        have e1 := g2 (s + c) (by omega) (by omega)
        have e2 := g3 (s + c) (by omega) (by omega)
        have e3 := lp_wk_in b (s + c) t 5 (by decide)
        unfold fo_br fo_pq
        unfold fo_sm at e1 e2
        unfold fo_in
        split <;> omega
      refine jl_iload h rfl dc_FO_fillRegion_33 35 rfl ?_
      refine jl_iload h rfl dc_FO_fillRegion_35 37 rfl ?_
      refine jl_iconst (v := nI 4) h (by decide) dc_FO_fillRegion_37 38 rfl ?_
      refine jl_isub h dc_FO_fillRegion_38 39 rfl ?_
      refine jl_icmp_gt h 86 (by decide) dc_FO_fillRegion_39 42 rfl (fun c39 => absurd c39 (fun q => absurd ((fo_gt (by omega) (by omega)).mp q) (by omega))) (fun c39 => ?_)
      refine jl_aload_n (i := 0) h rfl rfl dc_FO_fillRegion_42 43 rfl ?_
      refine jl_getf h nm_c_FO 7 wl_FO_22 (by omega) (by decide) (by exact rfl) (by rfl) dc_FO_fillRegion_43 46 rfl ?_
      refine jl_iload h rfl dc_FO_fillRegion_46 48 rfl ?_
      refine jl_iload h rfl dc_FO_fillRegion_48 50 rfl ?_
      refine jl_callV (As := [_, _]) (rest := []) h hr vs_FO_57 vi_ST_canPair vx_ST_canPair (ci := 1) rfl (by omega) (by exact hST) (fun l => c_ST_canPair l (by omega) hS hk0 ht) (by first | decide | omega) (by first | decide | omega) rfl rfl (Nat.le_of_ble_eq_true rfl) dc_FO_fillRegion_50 (res := [_]) rfl 53 rfl ?_
      refine jl_if_eq h 80 (by decide) dc_FO_fillRegion_53 56 rfl (fun c53 => ?_) (fun c53 => ?_)
      · skip
        rw [st_b0] at c53
        refine jl_iinc (i := 7) (d := 1) (lc2 := [(7, _), (6, _), (5, _), (4, _), (0, _), (1, _), (2, _), (3, _)]) (v2 := nI (s + (c + 1))) h (by decide) rfl (by exact nI_1 (s + c)) rfl dc_FO_fillRegion_80 83 rfl ?_
        refine jl_goto h 33 (by decide) dc_FO_fillRegion_83 ?_
        first | (rw [show fo_rK b 2 pe rg s t c = fo_rK b 2 pe rg s t (c + 1) by simp [fo_rK, c53]]; exact ih (c + 1) (by omega)) | exact ih (c + 1) (by omega)
      · skip
        rw [st_b1] at c53
        refine jl_iload h rfl dc_FO_fillRegion_56 58 rfl ?_
        refine jl_aload h rfl dc_FO_fillRegion_58 60 rfl ?_
        refine jl_iload_n (i := 2) h rfl rfl dc_FO_fillRegion_60 61 rfl ?_
        refine jl_aald (t0 := 4) h (s) (by exact rfl) (by omega) (by exact rfl) (by rfl) (by rfl) (by exact hs19) (by first | decide | assumption) (by exact if_pos hs19) dc_FO_fillRegion_61 62 rfl ?_
        refine jl_iload h rfl dc_FO_fillRegion_62 64 rfl ?_
        refine jl_iald (v := iI (rg 1 s (s + c))) h (s + c) (by exact rfl) (by omega) (by exact gw_row (gw_i_87 s hs19)) (by exact by omega) (by first | decide | assumption) (by exact q2) dc_FO_fillRegion_64 65 rfl ?_
        refine jl_aload_n (i := 0) h rfl rfl dc_FO_fillRegion_65 66 rfl ?_
        refine jl_aload_n (i := 1) h rfl rfl dc_FO_fillRegion_66 67 rfl ?_
        refine jl_iload h rfl dc_FO_fillRegion_67 69 rfl ?_
        refine jl_iload h rfl dc_FO_fillRegion_69 71 rfl ?_
        refine jl_callV (As := [_, _, _]) (rest := [_, _]) h hr vs_FO_87 vi_FO_branchEnergy vx_FO_branchEnergy (ci := 3) rfl (by omega) (by exact rfl) (fun l => c_FO2_branchEnergy l hS hk0 ht q3) (by first | decide | omega) (by first | decide | omega) rfl rfl (Nat.le_of_ble_eq_true rfl) dc_FO_fillRegion_71 (res := [_, _, _]) rfl 74 rfl ?_
        refine jl_iadd h dc_FO_fillRegion_74 75 rfl ?_
        rw [show iI (rg 1 s (s + c)) + iI (fo_br b 2 pe (s + c) t) = iI (rg 1 s (s + c) + fo_br b 2 pe (s + c) t) by exact iI_add _ _]
        refine jl_mmin h hr wm_FO_91 (by first | decide | omega) (by first | decide | omega) (Nat.le_of_ble_eq_true rfl) dc_FO_fillRegion_75 78 rfl ?_
        rw [show (if iI (rg 1 s (s + c) + fo_br b 2 pe (s + c) t) < iI (fo_rK b 2 pe rg s t c) then iI (rg 1 s (s + c) + fo_br b 2 pe (s + c) t) else iI (fo_rK b 2 pe rg s t c)) = iI (fo_rK b 2 pe rg s t (c + 1)) by rw [fo_mi_iI g5 i2]; simp only [fo_rK, c53, if_true]; rfl]
        refine jl_istore (i := 6) (lc2 := [(6, _), (7, _), (5, _), (4, _), (0, _), (1, _), (2, _), (3, _)]) h (by decide) rfl dc_FO_fillRegion_78 80 rfl ?_
        refine jl_iinc (i := 7) (d := 1) (lc2 := [(7, _), (6, _), (5, _), (4, _), (0, _), (1, _), (2, _), (3, _)]) (v2 := nI (s + (c + 1))) h (by decide) rfl (by exact nI_1 (s + c)) rfl dc_FO_fillRegion_80 83 rfl ?_
        refine jl_goto h 33 (by decide) dc_FO_fillRegion_83 ?_
        first | (rw [show fo_rK b 2 pe rg s t c = fo_rK b 2 pe rg s t (c + 1) by simp [fo_rK, c53]]; exact ih (c + 1) (by omega)) | exact ih (c + 1) (by omega)
  have e0 : nI (t + 1) - 1 = nI t := nI_pred t
  refine jl_iload_n (i := 3) h rfl rfl dc_FO_fillRegion_0 1 rfl ?_
  refine jl_iconst (v := 1) h (by decide) dc_FO_fillRegion_1 2 rfl ?_
  refine jl_isub h dc_FO_fillRegion_2 3 rfl ?_
  rw [show nI (t + 1) - 1 = nI t by exact e0]
  refine jl_istore (i := 4) (lc2 := [(4, _), (0, _), (1, _), (2, _), (3, _)]) h (by decide) rfl dc_FO_fillRegion_3 5 rfl ?_
  refine jl_aload_n (i := 1) h rfl rfl dc_FO_fillRegion_5 6 rfl ?_
  refine jl_callV (As := []) (rest := []) h hr vs_FO_79 vi_RE_afterPair vx_RE_afterPair (ci := 4) rfl (by omega) (by exact rfl) (fun l => c_RE2_afterPair l) (by first | decide | omega) (by first | decide | omega) rfl rfl (Nat.le_of_ble_eq_true rfl) dc_FO_fillRegion_6 (res := [_]) rfl 9 rfl ?_
  refine jl_getf h nm_c_RE 2 wl_FO_54 (by omega) (by decide) (by exact rfl) (by rfl) dc_FO_fillRegion_9 12 rfl ?_
  refine jl_astore (i := 5) (lc2 := [(5, _), (4, _), (0, _), (1, _), (2, _), (3, _)]) h (by decide) rfl dc_FO_fillRegion_12 14 rfl ?_
  refine jl_aload_n (i := 1) h rfl rfl dc_FO_fillRegion_14 15 rfl ?_
  refine jl_getf h nm_c_RE 2 wl_FO_54 (by omega) (by decide) (by exact rfl) (by rfl) dc_FO_fillRegion_15 18 rfl ?_
  refine jl_iload_n (i := 2) h rfl rfl dc_FO_fillRegion_18 19 rfl ?_
  refine jl_aald (t0 := 4) h (s) (by exact rfl) (by omega) (by exact rfl) (by rfl) (by rfl) (by exact hs19) (by first | decide | assumption) (by exact if_pos hs19) dc_FO_fillRegion_19 20 rfl ?_
  refine jl_iload h rfl dc_FO_fillRegion_20 22 rfl ?_
  refine jl_iald (v := iI (rg 2 s t)) h (t) (by exact rfl) (by omega) (by exact gw_row (gw_i_108 s hs19)) (by exact by omega) (by first | decide | assumption) (by exact h1) dc_FO_fillRegion_22 23 rfl ?_
  refine jl_aload_n (i := 1) h rfl rfl dc_FO_fillRegion_23 24 rfl ?_
  refine jl_getf (v := .int (iI 1)) h nm_c_RE 0 wl_FO_83 (by omega) (by decide) (by exact rfl) (by exact rfl) dc_FO_fillRegion_24 27 rfl ?_
  refine jl_iadd h dc_FO_fillRegion_27 28 rfl ?_
  rw [show iI (rg 2 s t) + iI 1 = iI (fo_rK b 2 pe rg s t 0) by rw [iI_add]; rfl]
  refine jl_istore (i := 6) (lc2 := [(6, _), (5, _), (4, _), (0, _), (1, _), (2, _), (3, _)]) h (by decide) rfl dc_FO_fillRegion_28 30 rfl ?_
  refine jl_iload_n (i := 2) h rfl rfl dc_FO_fillRegion_30 31 rfl ?_
  refine jl_istore (i := 7) (lc2 := [(7, _), (6, _), (5, _), (4, _), (0, _), (1, _), (2, _), (3, _)]) h (by decide) rfl dc_FO_fillRegion_31 33 rfl ?_
  exact loop (t - 3 - s) 0 (by omega)
theorem c_FO3_fillRegion (hS : st_ok K ad (gw K ad I V L C G R) n b) {s t : Nat} (hs : s ≤ t) (ht : t < 18) (h1 : V (129 + s) t = iI (rg 3 s t)) (h2 : ∀ k, s ≤ k → k < t → V (108 + s) k = iI (rg 2 s k)) (h3 : ∀ k, s ≤ k → k < t → V (6 + k) t = iI (pe k t)) (g1 : fo_sm (rg 3 s t)) (g2 : ∀ k, s ≤ k → k < t → fo_sm (rg 2 s k)) (g3 : ∀ k, s ≤ k → k < t → fo_sm (pe k t)) : jl_C l K sa yn_FO_fillRegion bc_FO_fillRegion 8 none 3 90 168 ad [.ref (ad 4), .ref (ad 127), .int (nI s), .int (nI (t + 1))] (gw K ad I V L C G R) none (gw K ad I (va_up V (129 + s) (upd (V (129 + s)) (t + 1) (iI (fo_rK b 3 pe rg s t (t - 3 - s))))) L C G R) := by
  refine jl_enter (by decide) (Nat.le_of_ble_eq_true rfl) (fun x h he hr => ?_)
  obtain ⟨hST, hbases, hn, hb⟩ := id hS
  show jl_J x 168 ad 0 0 (gw K ad I V L C G R) 0 [(0, .ref (ad 4)), (1, .ref (ad 127)), (2, .int (nI s)), (3, .int (nI (t + 1)))] []
  have hs19 : s < 19 := by omega
  have loop : ∀ d c : Nat, c + d = t - 3 - s → jl_J x 168 ad 0 0 (gw K ad I V L C G R) 33 [(7, .int (nI (s + c))), (6, .int (iI (fo_rK b 3 pe rg s t c))), (5, .ref (ad 107)), (4, .int (nI t)), (0, .ref (ad 4)), (1, .ref (ad 127)), (2, .int (nI s)), (3, .int (nI (t + 1)))] [] := by
    intro d
    induction d with
    | zero =>
      intro c hc
      have hc : c = t - 3 - s := by omega
      refine jl_iload h rfl dc_FO_fillRegion_33 35 rfl ?_
      refine jl_iload h rfl dc_FO_fillRegion_35 37 rfl ?_
      refine jl_iconst (v := nI 4) h (by decide) dc_FO_fillRegion_37 38 rfl ?_
      refine jl_isub h dc_FO_fillRegion_38 39 rfl ?_
      refine jl_icmp_gt h 86 (by decide) dc_FO_fillRegion_39 42 rfl (fun c39 => ?_) (fun c39 => absurd ((fo_gt (by omega) (by omega)).mpr (by omega)) c39)
      refine jl_aload_n (i := 1) h rfl rfl dc_FO_fillRegion_86 87 rfl ?_
      refine jl_getf h nm_c_RE 2 wl_FO_54 (by omega) (by decide) (by exact rfl) (by rfl) dc_FO_fillRegion_87 90 rfl ?_
      refine jl_iload_n (i := 2) h rfl rfl dc_FO_fillRegion_90 91 rfl ?_
      refine jl_aald (t0 := 4) h (s) (by exact rfl) (by omega) (by exact rfl) (by rfl) (by rfl) (by exact hs19) (by first | decide | assumption) (by exact if_pos hs19) dc_FO_fillRegion_91 92 rfl ?_
      refine jl_iload_n (i := 3) h rfl rfl dc_FO_fillRegion_92 93 rfl ?_
      refine jl_iload h rfl dc_FO_fillRegion_93 95 rfl ?_
      refine jl_iast h (t + 1) (by exact rfl) (by omega) (by exact gw_row (gw_i_129 s hs19)) (by exact by omega) (by first | decide | assumption) dc_FO_fillRegion_95 (gw_rowset (gw_i_129 s hs19) _) 96 rfl ?_
      exact jl_vret h he (rfl) (by rw [hc]) dc_FO_fillRegion_96
    | succ d ih =>
      intro c hc
      have hk0 : s + c < 18 := by omega
      have q2 := h2 (s + c) (by omega) (by omega)
      have q3 := h3 (s + c) (by omega) (by omega)
      have g5 := fo_rK_in (b := b) (r := 3) g1 g2 g3 c (by omega)
      have i2 : fo_in (rg 2 s (s + c) + fo_br b 3 pe (s + c) t) := by
        have e1 := g2 (s + c) (by omega) (by omega)
        have e2 := g3 (s + c) (by omega) (by omega)
        have e3 := lp_wk_in b (s + c) t 5 (by decide)
        unfold fo_br fo_pq
        unfold fo_sm at e1 e2
        unfold fo_in
        split <;> omega
      refine jl_iload h rfl dc_FO_fillRegion_33 35 rfl ?_
      refine jl_iload h rfl dc_FO_fillRegion_35 37 rfl ?_
      refine jl_iconst (v := nI 4) h (by decide) dc_FO_fillRegion_37 38 rfl ?_
      refine jl_isub h dc_FO_fillRegion_38 39 rfl ?_
      refine jl_icmp_gt h 86 (by decide) dc_FO_fillRegion_39 42 rfl (fun c39 => absurd c39 (fun q => absurd ((fo_gt (by omega) (by omega)).mp q) (by omega))) (fun c39 => ?_)
      refine jl_aload_n (i := 0) h rfl rfl dc_FO_fillRegion_42 43 rfl ?_
      refine jl_getf h nm_c_FO 7 wl_FO_22 (by omega) (by decide) (by exact rfl) (by rfl) dc_FO_fillRegion_43 46 rfl ?_
      refine jl_iload h rfl dc_FO_fillRegion_46 48 rfl ?_
      refine jl_iload h rfl dc_FO_fillRegion_48 50 rfl ?_
      refine jl_callV (As := [_, _]) (rest := []) h hr vs_FO_57 vi_ST_canPair vx_ST_canPair (ci := 1) rfl (by omega) (by exact hST) (fun l => c_ST_canPair l (by omega) hS hk0 ht) (by first | decide | omega) (by first | decide | omega) rfl rfl (Nat.le_of_ble_eq_true rfl) dc_FO_fillRegion_50 (res := [_]) rfl 53 rfl ?_
      refine jl_if_eq h 80 (by decide) dc_FO_fillRegion_53 56 rfl (fun c53 => ?_) (fun c53 => ?_)
      · skip
        rw [st_b0] at c53
        refine jl_iinc (i := 7) (d := 1) (lc2 := [(7, _), (6, _), (5, _), (4, _), (0, _), (1, _), (2, _), (3, _)]) (v2 := nI (s + (c + 1))) h (by decide) rfl (by exact nI_1 (s + c)) rfl dc_FO_fillRegion_80 83 rfl ?_
        refine jl_goto h 33 (by decide) dc_FO_fillRegion_83 ?_
        first | (rw [show fo_rK b 3 pe rg s t c = fo_rK b 3 pe rg s t (c + 1) by simp [fo_rK, c53]]; exact ih (c + 1) (by omega)) | exact ih (c + 1) (by omega)
      · skip
        rw [st_b1] at c53
        refine jl_iload h rfl dc_FO_fillRegion_56 58 rfl ?_
        refine jl_aload h rfl dc_FO_fillRegion_58 60 rfl ?_
        refine jl_iload_n (i := 2) h rfl rfl dc_FO_fillRegion_60 61 rfl ?_
        refine jl_aald (t0 := 4) h (s) (by exact rfl) (by omega) (by exact rfl) (by rfl) (by rfl) (by exact hs19) (by first | decide | assumption) (by exact if_pos hs19) dc_FO_fillRegion_61 62 rfl ?_
        refine jl_iload h rfl dc_FO_fillRegion_62 64 rfl ?_
        refine jl_iald (v := iI (rg 2 s (s + c))) h (s + c) (by exact rfl) (by omega) (by exact gw_row (gw_i_108 s hs19)) (by exact by omega) (by first | decide | assumption) (by exact q2) dc_FO_fillRegion_64 65 rfl ?_
        refine jl_aload_n (i := 0) h rfl rfl dc_FO_fillRegion_65 66 rfl ?_
        refine jl_aload_n (i := 1) h rfl rfl dc_FO_fillRegion_66 67 rfl ?_
        refine jl_iload h rfl dc_FO_fillRegion_67 69 rfl ?_
        refine jl_iload h rfl dc_FO_fillRegion_69 71 rfl ?_
        refine jl_callV (As := [_, _, _]) (rest := [_, _]) h hr vs_FO_87 vi_FO_branchEnergy vx_FO_branchEnergy (ci := 3) rfl (by omega) (by exact rfl) (fun l => c_FO3_branchEnergy l hS hk0 ht q3) (by first | decide | omega) (by first | decide | omega) rfl rfl (Nat.le_of_ble_eq_true rfl) dc_FO_fillRegion_71 (res := [_, _, _]) rfl 74 rfl ?_
        refine jl_iadd h dc_FO_fillRegion_74 75 rfl ?_
        rw [show iI (rg 2 s (s + c)) + iI (fo_br b 3 pe (s + c) t) = iI (rg 2 s (s + c) + fo_br b 3 pe (s + c) t) by exact iI_add _ _]
        refine jl_mmin h hr wm_FO_91 (by first | decide | omega) (by first | decide | omega) (Nat.le_of_ble_eq_true rfl) dc_FO_fillRegion_75 78 rfl ?_
        rw [show (if iI (rg 2 s (s + c) + fo_br b 3 pe (s + c) t) < iI (fo_rK b 3 pe rg s t c) then iI (rg 2 s (s + c) + fo_br b 3 pe (s + c) t) else iI (fo_rK b 3 pe rg s t c)) = iI (fo_rK b 3 pe rg s t (c + 1)) by rw [fo_mi_iI g5 i2]; simp only [fo_rK, c53, if_true]; rfl]
        refine jl_istore (i := 6) (lc2 := [(6, _), (7, _), (5, _), (4, _), (0, _), (1, _), (2, _), (3, _)]) h (by decide) rfl dc_FO_fillRegion_78 80 rfl ?_
        refine jl_iinc (i := 7) (d := 1) (lc2 := [(7, _), (6, _), (5, _), (4, _), (0, _), (1, _), (2, _), (3, _)]) (v2 := nI (s + (c + 1))) h (by decide) rfl (by exact nI_1 (s + c)) rfl dc_FO_fillRegion_80 83 rfl ?_
        refine jl_goto h 33 (by decide) dc_FO_fillRegion_83 ?_
        first | (rw [show fo_rK b 3 pe rg s t c = fo_rK b 3 pe rg s t (c + 1) by simp [fo_rK, c53]]; exact ih (c + 1) (by omega)) | exact ih (c + 1) (by omega)
  have e0 : nI (t + 1) - 1 = nI t := nI_pred t
  refine jl_iload_n (i := 3) h rfl rfl dc_FO_fillRegion_0 1 rfl ?_
  refine jl_iconst (v := 1) h (by decide) dc_FO_fillRegion_1 2 rfl ?_
  refine jl_isub h dc_FO_fillRegion_2 3 rfl ?_
  rw [show nI (t + 1) - 1 = nI t by exact e0]
  refine jl_istore (i := 4) (lc2 := [(4, _), (0, _), (1, _), (2, _), (3, _)]) h (by decide) rfl dc_FO_fillRegion_3 5 rfl ?_
  refine jl_aload_n (i := 1) h rfl rfl dc_FO_fillRegion_5 6 rfl ?_
  refine jl_callV (As := []) (rest := []) h hr vs_FO_79 vi_RE_afterPair vx_RE_afterPair (ci := 4) rfl (by omega) (by exact rfl) (fun l => c_RE3_afterPair l) (by first | decide | omega) (by first | decide | omega) rfl rfl (Nat.le_of_ble_eq_true rfl) dc_FO_fillRegion_6 (res := [_]) rfl 9 rfl ?_
  refine jl_getf h nm_c_RE 2 wl_FO_54 (by omega) (by decide) (by exact rfl) (by rfl) dc_FO_fillRegion_9 12 rfl ?_
  refine jl_astore (i := 5) (lc2 := [(5, _), (4, _), (0, _), (1, _), (2, _), (3, _)]) h (by decide) rfl dc_FO_fillRegion_12 14 rfl ?_
  refine jl_aload_n (i := 1) h rfl rfl dc_FO_fillRegion_14 15 rfl ?_
  refine jl_getf h nm_c_RE 2 wl_FO_54 (by omega) (by decide) (by exact rfl) (by rfl) dc_FO_fillRegion_15 18 rfl ?_
  refine jl_iload_n (i := 2) h rfl rfl dc_FO_fillRegion_18 19 rfl ?_
  refine jl_aald (t0 := 4) h (s) (by exact rfl) (by omega) (by exact rfl) (by rfl) (by rfl) (by exact hs19) (by first | decide | assumption) (by exact if_pos hs19) dc_FO_fillRegion_19 20 rfl ?_
  refine jl_iload h rfl dc_FO_fillRegion_20 22 rfl ?_
  refine jl_iald (v := iI (rg 3 s t)) h (t) (by exact rfl) (by omega) (by exact gw_row (gw_i_129 s hs19)) (by exact by omega) (by first | decide | assumption) (by exact h1) dc_FO_fillRegion_22 23 rfl ?_
  refine jl_aload_n (i := 1) h rfl rfl dc_FO_fillRegion_23 24 rfl ?_
  refine jl_getf (v := .int (iI 1)) h nm_c_RE 0 wl_FO_83 (by omega) (by decide) (by exact rfl) (by exact rfl) dc_FO_fillRegion_24 27 rfl ?_
  refine jl_iadd h dc_FO_fillRegion_27 28 rfl ?_
  rw [show iI (rg 3 s t) + iI 1 = iI (fo_rK b 3 pe rg s t 0) by rw [iI_add]; rfl]
  refine jl_istore (i := 6) (lc2 := [(6, _), (5, _), (4, _), (0, _), (1, _), (2, _), (3, _)]) h (by decide) rfl dc_FO_fillRegion_28 30 rfl ?_
  refine jl_iload_n (i := 2) h rfl rfl dc_FO_fillRegion_30 31 rfl ?_
  refine jl_istore (i := 7) (lc2 := [(7, _), (6, _), (5, _), (4, _), (0, _), (1, _), (2, _), (3, _)]) h (by decide) rfl dc_FO_fillRegion_31 33 rfl ?_
  exact loop (t - 3 - s) 0 (by omega)
end FO
end
section
/-! FoldedStrand$Folds.extend: the tables grow by a column. T 0: counts, T 1: most pairs, T (2 + r): least energies of region r. -/
def fo_b (q : Nat) : Nat := if q = 0 then 25 else if q = 1 then 45 else 66 + 21 * (q - 2)
theorem fo_b_inj {q m k d : Nat} (hq : q < 6) (hm : m < 6) (hk : k < 19) (hd : d < 19) (h : fo_b q + k = fo_b m + d) : q = m ∧ k = d := by
  unfold fo_b at h
  split at h <;> split at h <;> (try split at h) <;> (try split at h) <;> omega
/-- the tables with column n: the pairs that end at n, then the parts that end there -/
def fo_pe (b : Nat → Nat) (n : Nat) (pe : Nat → Nat → Int) (T : Nat → Nat → Nat → Int) : Nat → Nat → Int := fun i j => if j = n then (if en_cp b i n = true then fo_oK b pe (fun r => T (2 + r)) i n (n - i - 5) else 1000000) else pe i j
def fo_col (b : Nat → Nat) (n : Nat) (pe : Nat → Nat → Int) (T : Nat → Nat → Nat → Int) (q s : Nat) : Int := if q = 0 then fo_cK b (T 0) s n (n - 3 - s) else if q = 1 then fo_pK b (T 1) s n (n - 3 - s) else fo_rK b (q - 2) pe (fun r => T (2 + r)) s n (n - 3 - s)
def fo_T (b : Nat → Nat) (n : Nat) (pe : Nat → Nat → Int) (T : Nat → Nat → Nat → Int) : Nat → Nat → Nat → Int := fun q s e => if s ≤ n ∧ e = n + 1 then fo_col b n (fo_pe b n pe T) T q s else T q s e
/-- what the arrays hold: the pairs' table up to column n, the others' -/
def fo_V (n : Nat) (pe : Nat → Nat → Int) (T : Nat → Nat → Nat → Int) (V : Nat → Nat → Int32) : Prop := (∀ i j, i ≤ j → j < n → V (6 + i) j = iI (pe i j)) ∧ ∀ q, q < 6 → ∀ i e, i ≤ e → (e ≤ n ∨ (i = e ∧ e ≤ 18)) → V (fo_b q + i) e = iI (T q i e)
/-- bounds: 17 for each place -/
def fo_B (n : Nat) (pe : Nat → Nat → Int) (T : Nat → Nat → Nat → Int) : Prop := (∀ i j : Nat, i ≤ j → j < n → -17 * ((j : Int) - i + 1) ≤ pe i j ∧ pe i j ≤ 1000000) ∧ (∀ i e : Nat, i ≤ e → (e ≤ n ∨ (i = e ∧ e ≤ 18)) → 0 ≤ T 1 i e ∧ T 1 i e ≤ (e : Int) - i) ∧ ∀ r, r < 4 → ∀ i e : Nat, i ≤ e → (e ≤ n ∨ (i = e ∧ e ≤ 18)) → -17 * ((e : Int) - i) ≤ T (2 + r) i e ∧ T (2 + r) i e ≤ 1000000 + ((e : Int) - i)
theorem fo_iK_lo {b : Nat → Nat} {pe : Nat → Nat → Int} {i j m : Nat} {z : Int} (hz : -17 * ((j : Int) - i + 1) ≤ z) (hj : j < 18) (hm : m < j) (hp : ∀ k : Nat, i < k → k ≤ m → -17 * ((m : Int) - k + 1) ≤ pe k m) : ∀ c : Nat, i + c ≤ m → -17 * ((j : Int) - i + 1) ≤ fo_iK b pe i j m z c ∧ fo_iK b pe i j m z c ≤ z
  | 0, _ => ⟨hz, Int.le_refl _⟩
  | c + 1, hc => by
    have ih := fo_iK_lo (b := b) hz hj hm hp c (by omega)
    unfold fo_iK
    split
    · have h1 := lp_w1_in b i j (i + 1 + c) m hj (by omega)
      have h2 := hp (i + 1 + c) (by omega) (by omega)
      unfold fo_mi
      split <;> omega
    · exact ih
theorem fo_oK_lo {b : Nat → Nat} {pe : Nat → Nat → Int} {rg : Nat → Nat → Nat → Int} {i j : Nat} (hij : i + 4 ≤ j) (hj : j < 18) (hr : -17 * ((j : Int) - (i + 1)) ≤ rg 3 (i + 1) j) (hp : ∀ k m : Nat, i < k → k ≤ m → m < j → -17 * ((m : Int) - k + 1) ≤ pe k m) : ∀ c, c ≤ j - i - 5 → -17 * ((j : Int) - i + 1) ≤ fo_oK b pe rg i j c ∧ fo_oK b pe rg i j c ≤ 69
  | 0, _ => by
    have h1 := lp_hp_in b i j
    have h2 := lp_wk_in b i j 5 (by decide)
    unfold fo_oK fo_mi fo_many
    split <;> omega
  | c + 1, hc => by
    have ih := fo_oK_lo (b := b) (pe := pe) (rg := rg) hij hj hr hp c (by omega)
    have h1 := fo_iK_lo (b := b) (m := j - 1 - c) ih.1 hj (by omega) (fun k h1 h2 => hp k _ h1 h2 (by omega)) (j - 1 - c - 4 - i) (by omega)
    unfold fo_oK
    omega
theorem fo_rK_lo {b : Nat → Nat} {r : Nat} {pe : Nat → Nat → Int} {rg : Nat → Nat → Nat → Int} {s t : Nat} (h1 : -17 * ((t : Int) - s) ≤ rg r s t ∧ rg r s t ≤ 1000000 + ((t : Int) - s)) (h2 : ∀ k : Nat, s ≤ k → k < t → -17 * ((k : Int) - s) ≤ rg (fo_af r) s k) (h3 : ∀ k : Nat, s ≤ k → k < t → -17 * ((t : Int) - k + 1) ≤ pe k t) : ∀ c, s + c ≤ t → -17 * ((t : Int) + 1 - s) ≤ fo_rK b r pe rg s t c ∧ fo_rK b r pe rg s t c ≤ 1000000 + ((t : Int) + 1 - s)
  | 0, hc => by
    unfold fo_rK fo_pp
    split <;> omega
  | c + 1, hc => by
    have ih := fo_rK_lo (b := b) h1 h2 h3 c (by omega)
    unfold fo_rK
    split
    · have e1 := h2 (s + c) (by omega) (by omega)
      have e2 := h3 (s + c) (by omega) (by omega)
      have e3 := lp_wk_in b (s + c) t 5 (by decide)
      have e4 : -17 * ((t : Int) - ((s + c : Nat) : Int) + 1) ≤ fo_br b r pe (s + c) t := by
        unfold fo_br fo_pq
        split <;> omega
      unfold fo_mi
      split <;> omega
    · exact ih
theorem fo_pK_lo {b : Nat → Nat} {pn : Nat → Nat → Int} {s t : Nat} (h1 : ∀ i e : Nat, i ≤ e → e ≤ t → 0 ≤ pn i e ∧ pn i e ≤ (e : Int) - i) : ∀ c, s + c ≤ t → 0 ≤ fo_pK b pn s t c ∧ fo_pK b pn s t c ≤ (t : Int) + 1 - s
  | 0, hc => by
    unfold fo_pK
    have := h1 s t (by omega) (Nat.le_refl t)
    omega
  | c + 1, hc => by
    have ih := fo_pK_lo (b := b) (s := s) h1 c (by omega)
    have e1 := h1 s (s + c) (by omega) (by omega)
    have e2 := h1 (s + c + 1) t (by omega) (Nat.le_refl t)
    unfold fo_pK
    split
    · split <;> omega
    · exact ih
theorem fo_pe_in {b : Nat → Nat} {n : Nat} {pe : Nat → Nat → Int} {T : Nat → Nat → Nat → Int} (hn : n < 18) (hB : fo_B n pe T) {i : Nat} (hi : i ≤ n) : -17 * ((n : Int) - i + 1) ≤ fo_pe b n pe T i n ∧ fo_pe b n pe T i n ≤ 1000000 := by
  unfold fo_pe
  rw [if_pos rfl]
  split
  · rename_i hcp
    unfold en_cp at hcp
    simp only [Bool.and_eq_true, decide_eq_true_eq] at hcp
    have h3 := (hB.2.2 3 (by decide) (i + 1) n (by omega) (Or.inl (Nat.le_refl n))).1
    have := fo_oK_lo (b := b) (pe := pe) (rg := fun r => T (2 + r)) hcp.1 hn (by show _ ≤ T (2 + 3) (i + 1) n; omega) (fun k m h1 h2 h3 => (hB.1 k m h2 h3).1) (n - i - 5) (Nat.le_refl _)
    omega
  · omega
theorem fo_B_step {b : Nat → Nat} {n : Nat} {pe : Nat → Nat → Int} {T : Nat → Nat → Nat → Int} (hn : n < 18) (hB : fo_B n pe T) : fo_B (n + 1) (fo_pe b n pe T) (fo_T b n pe T) := by
  refine ⟨fun i j hij hj => ?_, fun i e hie he => ?_, fun r hr i e hie he => ?_⟩
  · by_cases hjn : j = n
    · subst hjn
      exact fo_pe_in hn hB hij
    · have : fo_pe b n pe T i j = pe i j := by unfold fo_pe; rw [if_neg hjn]
      rw [this]
      exact hB.1 i j hij (by omega)
  · unfold fo_T
    split
    · rename_i h
      obtain ⟨h1, h2⟩ := h
      subst h2
      have := fo_pK_lo (b := b) (pn := T 1) (s := i) (t := n) (fun i e h1 h2 => hB.2.1 i e h1 (Or.inl h2)) (n - 3 - i) (by omega)
      show 0 ≤ fo_pK b (T 1) i n (n - 3 - i) ∧ fo_pK b (T 1) i n (n - 3 - i) ≤ _
      omega
    · exact hB.2.1 i e hie (by omega)
  · unfold fo_T
    split
    · rename_i h
      obtain ⟨h1, h2⟩ := h
      subst h2
      have hc : fo_col b n (fo_pe b n pe T) T (2 + r) i = fo_rK b r (fo_pe b n pe T) (fun r => T (2 + r)) i n (n - 3 - i) := by
        unfold fo_col
        rw [if_neg (by omega), if_neg (by omega), show 2 + r - 2 = r by omega]
      rw [hc]
      have haf : fo_af r < 4 := by unfold fo_af; split <;> omega
      have := fo_rK_lo (b := b) (r := r) (pe := fo_pe b n pe T) (rg := fun r => T (2 + r)) (s := i) (t := n) (hB.2.2 r hr i n h1 (Or.inl (Nat.le_refl n))) (fun k h1 h2 => (hB.2.2 _ haf i k h1 (Or.inl (by omega))).1) (fun k h1 h2 => (fo_pe_in hn hB (by omega)).1) (n - 3 - i) (by omega)
      omega
    · exact hB.2.2 r hr i e hie (by omega)
/-- on the way, first loop: the pairs from d on -/
def fo_X1 (n : Nat) (pe pe2 : Nat → Nat → Int) (T : Nat → Nat → Nat → Int) (V0 : Nat → Nat → Int32) (d : Nat) (V : Nat → Nat → Int32) : Prop := fo_V n pe T V ∧ (∀ i, d ≤ i → i ≤ n → V (6 + i) n = iI (pe2 i n)) ∧ ∀ c, (c < 6 ∨ 148 ≤ c) → V c = V0 c
/-- second loop: rows behind d, and of row d the first m tables -/
def fo_X2 (n : Nat) (pe2 : Nat → Nat → Int) (T T2 : Nat → Nat → Nat → Int) (V0 : Nat → Nat → Int32) (d m : Nat) (V : Nat → Nat → Int32) : Prop := fo_V n pe2 T V ∧ (∀ i, i ≤ n → V (6 + i) n = iI (pe2 i n)) ∧ (∀ c, (c < 6 ∨ 148 ≤ c) → V c = V0 c) ∧ ∀ q, q < 6 → ∀ i, i ≤ n → (d < i ∨ (i = d ∧ q < m)) → V (fo_b q + i) (n + 1) = iI (T2 q i (n + 1))
theorem fo_up2 {V : Nat → Nat → Int32} {c0 e0 x e : Nat} {z : Int32} (h : x ≠ c0 ∨ e ≠ e0) : va_up V c0 (upd (V c0) e0 z) x e = V x e := by
  unfold va_up upd
  by_cases h1 : x = c0
  · subst h1
    rcases h with h | h
    · exact absurd rfl h
    · simp [h]
  · simp [h1]
theorem fo_up2s {V : Nat → Nat → Int32} {c0 e0 : Nat} {z : Int32} : va_up V c0 (upd (V c0) e0 z) c0 e0 = z := by simp [va_up, upd]
theorem fo_b_in (q i : Nat) (hq : q < 6) (hi : i ≤ 18) : 25 ≤ fo_b q + i ∧ fo_b q + i < 148 := by
  unfold fo_b
  split
  · omega
  · split <;> omega
theorem fo_X1_step {n : Nat} {pe pe2 : Nat → Nat → Int} {T : Nat → Nat → Nat → Int} {V0 V : Nat → Nat → Int32} {d : Nat} (hn : n < 18) (hd : d ≤ n) (h : fo_X1 n pe pe2 T V0 (d + 1) V) : fo_X1 n pe pe2 T V0 d (va_up V (6 + d) (upd (V (6 + d)) n (iI (pe2 d n)))) := by
  obtain ⟨⟨h1, h2⟩, h3, h4⟩ := h
  refine ⟨⟨fun i j hij hj => ?_, fun q hq i e hie he => ?_⟩, fun i hi hin => ?_, fun c hc => ?_⟩
  · rw [fo_up2 (by omega)]
    exact h1 i j hij hj
  · have := fo_b_in q i hq (by omega)
    rw [fo_up2 (by omega)]
    exact h2 q hq i e hie he
  · by_cases e : i = d
    · subst e
      rw [fo_up2s]
    · rw [fo_up2 (by omega)]
      exact h3 i (by omega) hin
  · rw [va_up_ne _ _ (by omega)]
    exact h4 c hc
theorem fo_X2_step {n : Nat} {pe2 : Nat → Nat → Int} {T T2 : Nat → Nat → Nat → Int} {V0 V : Nat → Nat → Int32} {d m : Nat} (hn : n < 18) (hd : d ≤ n) (hm : m < 6) {z : Int} (hz : T2 m d (n + 1) = z) (h : fo_X2 n pe2 T T2 V0 d m V) : fo_X2 n pe2 T T2 V0 d (m + 1) (va_up V (fo_b m + d) (upd (V (fo_b m + d)) (n + 1) (iI z))) := by
  obtain ⟨⟨h1, h2⟩, h3, h4, h5⟩ := h
  have hb := fo_b_in m d hm (by omega)
  refine ⟨⟨fun i j hij hj => ?_, fun q hq i e hie he => ?_⟩, fun i hin => ?_, fun c hc => ?_, fun q hq i hi hk => ?_⟩
  · rw [fo_up2 (by omega)]
    exact h1 i j hij hj
  · have hne : fo_b q + i ≠ fo_b m + d ∨ e ≠ n + 1 := by
      rcases he with he | ⟨he1, he2⟩
      · right
        omega
      · by_cases e9 : e = n + 1
        · left
          intro hx
          have := fo_b_inj hq hm (by omega) (by omega) hx
          omega
        · exact Or.inr e9
    rw [fo_up2 hne]
    exact h2 q hq i e hie he
  · rw [fo_up2 (by omega)]
    exact h3 i hin
  · rw [va_up_ne _ _ (by omega)]
    exact h4 c hc
  · by_cases e9 : fo_b q + i = fo_b m + d
    · obtain ⟨rfl, rfl⟩ := fo_b_inj hq hm (by omega) (by omega) e9
      rw [fo_up2s, hz]
    · rw [fo_up2 (Or.inl e9)]
      refine h5 q hq i hi ?_
      rcases hk with hk | ⟨hk1, hk2⟩
      · exact Or.inl hk
      · right
        refine ⟨hk1, ?_⟩
        have : q ≠ m := fun h9 => e9 (by rw [h9, hk1])
        omega
theorem jl_abs {x : jl_X} {N : Nat} {ad : Nat → Nat} {K : Nat → ClassId} {cells slots pc : Nat} {lc : List (Nat × Value)} {st : List Value} {I : Nat → Int32} {L : Nat → Int64} {C : Nat → Int32} {G R : Nat → Nat} {P : (Nat → Nat → Int32) → Prop} {V0 : Nat → Nat → Int32} (h : P V0) (kk : ∀ V1, P V1 → jl_J x N ad cells slots (gw K ad I V1 L C G R) pc lc st) : jl_J x N ad cells slots (gw K ad I V0 L C G R) pc lc st := kk V0 h
abbrev bc_FO_extend : ByteArray := prog_2_method_5_code
abbrev yn_FO_extend : MethodName := ⟨"FoldedStrand$Folds", "extend", "()V"⟩
theorem vs_FO_61 : jl_v "FoldedStrand$Folds" 61 yn_FO_leastOfPair bc_FO_leastOfPair 6 (some .int) 2 := ⟨jl_T_of 240 (by decide +kernel) (by decide +kernel), jl_T_of 4 (by decide +kernel) (by decide +kernel), jl_T_of 237 (by decide +kernel) (by decide +kernel), by decide +kernel, by decide +kernel, by decide +kernel⟩
theorem vi_FO_leastOfPair : Cond.instanceMethod yn_FO_leastOfPair ∈ jl_T := jl_T_of 239 (by decide +kernel) (by decide +kernel)
theorem vx_FO_leastOfPair : Cond.selects "FoldedStrand$Folds" yn_FO_leastOfPair yn_FO_leastOfPair ∈ jl_T := jl_T_sel 0 (by decide +kernel) (by decide +kernel)
theorem wk_FO_65 : Cond.constant "FoldedStrand$Folds" 65 (1000000) ∈ jl_T := jl_T_of 291 (by decide +kernel) (by decide +kernel)
theorem vs_FO_66 : jl_v "FoldedStrand$Folds" 66 yn_FO_countPart bc_FO_countPart 7 none 2 := ⟨jl_T_of 295 (by decide +kernel) (by decide +kernel), jl_T_of 4 (by decide +kernel) (by decide +kernel), jl_T_of 292 (by decide +kernel) (by decide +kernel), by decide +kernel, by decide +kernel, by decide +kernel⟩
theorem vi_FO_countPart : Cond.instanceMethod yn_FO_countPart ∈ jl_T := jl_T_of 294 (by decide +kernel) (by decide +kernel)
theorem vx_FO_countPart : Cond.selects "FoldedStrand$Folds" yn_FO_countPart yn_FO_countPart ∈ jl_T := jl_T_sel 2 (by decide +kernel) (by decide +kernel)
theorem vs_FO_70 : jl_v "FoldedStrand$Folds" 70 yn_FO_fillRegion bc_FO_fillRegion 8 none 3 := ⟨jl_T_of 302 (by decide +kernel) (by decide +kernel), jl_T_of 4 (by decide +kernel) (by decide +kernel), jl_T_of 299 (by decide +kernel) (by decide +kernel), by decide +kernel, by decide +kernel, by decide +kernel⟩
theorem vi_FO_fillRegion : Cond.instanceMethod yn_FO_fillRegion ∈ jl_T := jl_T_of 301 (by decide +kernel) (by decide +kernel)
theorem vx_FO_fillRegion : Cond.selects "FoldedStrand$Folds" yn_FO_fillRegion yn_FO_fillRegion ∈ jl_T := jl_T_sel 3 (by decide +kernel) (by decide +kernel)
theorem wl_FO_41 : Cond.fieldLink "FoldedStrand$Folds" 41 "FoldedStrand$Folds" "anyBranches" "LFoldedStrand$Region;" ∈ jl_T := jl_T_of 84 (by decide +kernel) (by decide +kernel)
theorem wl_FO_44 : Cond.fieldLink "FoldedStrand$Folds" 44 "FoldedStrand$Folds" "oneBranch" "LFoldedStrand$Region;" ∈ jl_T := jl_T_of 83 (by decide +kernel) (by decide +kernel)
theorem dc_FO_extend_0 : decode bc_FO_extend 0 = .ok (.aload_n 0, 1) := by decide +kernel
theorem dc_FO_extend_1 : decode bc_FO_extend 1 = .ok (.getfield 22, 3) := by decide +kernel
theorem dc_FO_extend_4 : decode bc_FO_extend 4 = .ok (.invokevirtual 50, 3) := by decide +kernel
theorem dc_FO_extend_7 : decode bc_FO_extend 7 = .ok (.istore_n 1, 1) := by decide +kernel
theorem dc_FO_extend_8 : decode bc_FO_extend 8 = .ok (.iload_n 1, 1) := by decide +kernel
theorem dc_FO_extend_9 : decode bc_FO_extend 9 = .ok (.iconst 1, 1) := by decide +kernel
theorem dc_FO_extend_10 : decode bc_FO_extend 10 = .ok (.isub, 1) := by decide +kernel
theorem dc_FO_extend_11 : decode bc_FO_extend 11 = .ok (.istore_n 2, 1) := by decide +kernel
theorem dc_FO_extend_12 : decode bc_FO_extend 12 = .ok (.iload_n 2, 1) := by decide +kernel
theorem dc_FO_extend_13 : decode bc_FO_extend 13 = .ok (.ifCond .lt 46, 3) := by decide +kernel
theorem dc_FO_extend_16 : decode bc_FO_extend 16 = .ok (.aload_n 0, 1) := by decide +kernel
theorem dc_FO_extend_17 : decode bc_FO_extend 17 = .ok (.getfield 11, 3) := by decide +kernel
theorem dc_FO_extend_20 : decode bc_FO_extend 20 = .ok (.iload_n 2, 1) := by decide +kernel
theorem dc_FO_extend_21 : decode bc_FO_extend 21 = .ok (.aaload, 1) := by decide +kernel
theorem dc_FO_extend_22 : decode bc_FO_extend 22 = .ok (.iload_n 1, 1) := by decide +kernel
theorem dc_FO_extend_23 : decode bc_FO_extend 23 = .ok (.iconst 1, 1) := by decide +kernel
theorem dc_FO_extend_24 : decode bc_FO_extend 24 = .ok (.isub, 1) := by decide +kernel
theorem dc_FO_extend_25 : decode bc_FO_extend 25 = .ok (.aload_n 0, 1) := by decide +kernel
theorem dc_FO_extend_26 : decode bc_FO_extend 26 = .ok (.getfield 22, 3) := by decide +kernel
theorem dc_FO_extend_29 : decode bc_FO_extend 29 = .ok (.iload_n 2, 1) := by decide +kernel
theorem dc_FO_extend_30 : decode bc_FO_extend 30 = .ok (.iload_n 1, 1) := by decide +kernel
theorem dc_FO_extend_31 : decode bc_FO_extend 31 = .ok (.iconst 1, 1) := by decide +kernel
theorem dc_FO_extend_32 : decode bc_FO_extend 32 = .ok (.isub, 1) := by decide +kernel
theorem dc_FO_extend_33 : decode bc_FO_extend 33 = .ok (.invokevirtual 57, 3) := by decide +kernel
theorem dc_FO_extend_36 : decode bc_FO_extend 36 = .ok (.ifCond .eq 14, 3) := by decide +kernel
theorem dc_FO_extend_39 : decode bc_FO_extend 39 = .ok (.aload_n 0, 1) := by decide +kernel
theorem dc_FO_extend_40 : decode bc_FO_extend 40 = .ok (.iload_n 2, 1) := by decide +kernel
theorem dc_FO_extend_41 : decode bc_FO_extend 41 = .ok (.iload_n 1, 1) := by decide +kernel
theorem dc_FO_extend_42 : decode bc_FO_extend 42 = .ok (.iconst 1, 1) := by decide +kernel
theorem dc_FO_extend_43 : decode bc_FO_extend 43 = .ok (.isub, 1) := by decide +kernel
theorem dc_FO_extend_44 : decode bc_FO_extend 44 = .ok (.invokevirtual 61, 3) := by decide +kernel
theorem dc_FO_extend_47 : decode bc_FO_extend 47 = .ok (.goto 5, 3) := by decide +kernel
theorem dc_FO_extend_50 : decode bc_FO_extend 50 = .ok (.ldc 65, 2) := by decide +kernel
theorem dc_FO_extend_52 : decode bc_FO_extend 52 = .ok (.iastore, 1) := by decide +kernel
theorem dc_FO_extend_53 : decode bc_FO_extend 53 = .ok (.iinc 2 (-1), 3) := by decide +kernel
theorem dc_FO_extend_56 : decode bc_FO_extend 56 = .ok (.goto (-44), 3) := by decide +kernel
theorem dc_FO_extend_59 : decode bc_FO_extend 59 = .ok (.iload_n 1, 1) := by decide +kernel
theorem dc_FO_extend_60 : decode bc_FO_extend 60 = .ok (.iconst 1, 1) := by decide +kernel
theorem dc_FO_extend_61 : decode bc_FO_extend 61 = .ok (.isub, 1) := by decide +kernel
theorem dc_FO_extend_62 : decode bc_FO_extend 62 = .ok (.istore_n 2, 1) := by decide +kernel
theorem dc_FO_extend_63 : decode bc_FO_extend 63 = .ok (.iload_n 2, 1) := by decide +kernel
theorem dc_FO_extend_64 : decode bc_FO_extend 64 = .ok (.ifCond .lt 55, 3) := by decide +kernel
theorem dc_FO_extend_67 : decode bc_FO_extend 67 = .ok (.aload_n 0, 1) := by decide +kernel
theorem dc_FO_extend_68 : decode bc_FO_extend 68 = .ok (.iload_n 2, 1) := by decide +kernel
theorem dc_FO_extend_69 : decode bc_FO_extend 69 = .ok (.iload_n 1, 1) := by decide +kernel
theorem dc_FO_extend_70 : decode bc_FO_extend 70 = .ok (.invokevirtual 66, 3) := by decide +kernel
theorem dc_FO_extend_73 : decode bc_FO_extend 73 = .ok (.aload_n 0, 1) := by decide +kernel
theorem dc_FO_extend_74 : decode bc_FO_extend 74 = .ok (.aload_n 0, 1) := by decide +kernel
theorem dc_FO_extend_75 : decode bc_FO_extend 75 = .ok (.getfield 35, 3) := by decide +kernel
theorem dc_FO_extend_78 : decode bc_FO_extend 78 = .ok (.iload_n 2, 1) := by decide +kernel
theorem dc_FO_extend_79 : decode bc_FO_extend 79 = .ok (.iload_n 1, 1) := by decide +kernel
theorem dc_FO_extend_80 : decode bc_FO_extend 80 = .ok (.invokevirtual 70, 3) := by decide +kernel
theorem dc_FO_extend_83 : decode bc_FO_extend 83 = .ok (.aload_n 0, 1) := by decide +kernel
theorem dc_FO_extend_84 : decode bc_FO_extend 84 = .ok (.aload_n 0, 1) := by decide +kernel
theorem dc_FO_extend_85 : decode bc_FO_extend 85 = .ok (.getfield 41, 3) := by decide +kernel
theorem dc_FO_extend_88 : decode bc_FO_extend 88 = .ok (.iload_n 2, 1) := by decide +kernel
theorem dc_FO_extend_89 : decode bc_FO_extend 89 = .ok (.iload_n 1, 1) := by decide +kernel
theorem dc_FO_extend_90 : decode bc_FO_extend 90 = .ok (.invokevirtual 70, 3) := by decide +kernel
theorem dc_FO_extend_93 : decode bc_FO_extend 93 = .ok (.aload_n 0, 1) := by decide +kernel
theorem dc_FO_extend_94 : decode bc_FO_extend 94 = .ok (.aload_n 0, 1) := by decide +kernel
theorem dc_FO_extend_95 : decode bc_FO_extend 95 = .ok (.getfield 44, 3) := by decide +kernel
theorem dc_FO_extend_98 : decode bc_FO_extend 98 = .ok (.iload_n 2, 1) := by decide +kernel
theorem dc_FO_extend_99 : decode bc_FO_extend 99 = .ok (.iload_n 1, 1) := by decide +kernel
theorem dc_FO_extend_100 : decode bc_FO_extend 100 = .ok (.invokevirtual 70, 3) := by decide +kernel
theorem dc_FO_extend_103 : decode bc_FO_extend 103 = .ok (.aload_n 0, 1) := by decide +kernel
theorem dc_FO_extend_104 : decode bc_FO_extend 104 = .ok (.aload_n 0, 1) := by decide +kernel
theorem dc_FO_extend_105 : decode bc_FO_extend 105 = .ok (.getfield 47, 3) := by decide +kernel
theorem dc_FO_extend_108 : decode bc_FO_extend 108 = .ok (.iload_n 2, 1) := by decide +kernel
theorem dc_FO_extend_109 : decode bc_FO_extend 109 = .ok (.iload_n 1, 1) := by decide +kernel
theorem dc_FO_extend_110 : decode bc_FO_extend 110 = .ok (.invokevirtual 70, 3) := by decide +kernel
theorem dc_FO_extend_113 : decode bc_FO_extend 113 = .ok (.iinc 2 (-1), 3) := by decide +kernel
theorem dc_FO_extend_116 : decode bc_FO_extend 116 = .ok (.goto (-53), 3) := by decide +kernel
theorem dc_FO_extend_119 : decode bc_FO_extend 119 = .ok (.return_, 1) := by decide +kernel
section FO
variable (l : Launch) {K : Nat → ClassId} {sa : Nat → Nat} {ad : Nat → Nat} {I : Nat → Int32} {V : Nat → Nat → Int32} {L : Nat → Int64} {C : Nat → Int32} {G : Nat → Nat} {R : Nat → Nat} {n : Nat} {b : Nat → Nat} {pe : Nat → Nat → Int} {T : Nat → Nat → Nat → Int}
theorem c_FO_extend (hI : I 0 = nI (n + 1)) (hV2 : V 2 = fun i => nI (b i)) (hn : n < 18) (hb : ∀ i, b i < 4) (hV : fo_V n pe T V) (hB : fo_B n pe T) : jl_CP l K sa yn_FO_extend bc_FO_extend 3 none 5 160 168 ad [.ref (ad 4)] (gw K ad I V L C G R) (fun v E2 => v = none ∧ ∃ V2, fo_V (n + 1) (fo_pe b n pe T) (fo_T b n pe T) V2 ∧ (∀ c, (c < 6 ∨ 148 ≤ c) → V2 c = V c) ∧ E2 = gw K ad I V2 L C G R) := by
  refine jl_enterP (by decide) (Nat.le_of_ble_eq_true rfl) (fun x h he hr => ?_)
  show jl_J x 168 ad 0 0 (gw K ad I V L C G R) 0 [(0, .ref (ad 4))] []
  have hSo : ∀ V1 : Nat → Nat → Int32, V1 2 = V 2 → st_ok K ad (gw K ad I V1 L C G R) (n + 1) b := fun V1 h1 => ⟨by show Sum.inr _ = _; rw [hI], gw_at rfl rfl (h1.trans hV2), by omega, hb⟩
  have e1 : nI (n + 1) - 1 = nI n := nI_pred n
  have hz0 : (0 : Int32) = nI 0 := rfl
  have second : ∀ (d : Nat) (V1 : Nat → Nat → Int32), d ≤ n + 1 → (∀ m, fo_X2 n (fo_pe b n pe T) T (fo_T b n pe T) V d m V1 → True) → (fo_V n (fo_pe b n pe T) T V1 ∧ (∀ i, i ≤ n → V1 (6 + i) n = iI (fo_pe b n pe T i n)) ∧ (∀ c, (c < 6 ∨ 148 ≤ c) → V1 c = V c) ∧ ∀ q, q < 6 → ∀ i, i ≤ n → d ≤ i → V1 (fo_b q + i) (n + 1) = iI (fo_T b n pe T q i (n + 1))) → jl_J x 168 ad 0 0 (gw K ad I V1 L C G R) 63 [(2, .int (iI ((d : Int) - 1))), (1, .int (nI (n + 1))), (0, .ref (ad 4))] [] := by
    intro d
    induction d with
    | zero =>
      intro V1 hd _ hX
      obtain ⟨⟨h1, h2⟩, h3, h4, h5⟩ := hX
      have hfin : fo_V (n + 1) (fo_pe b n pe T) (fo_T b n pe T) V1 := by
        refine ⟨fun i j hij hj => ?_, fun q hq i e hie he => ?_⟩
        · by_cases hjn : j = n
          · subst hjn
            exact h3 i hij
          · exact h1 i j hij (by omega)
        · by_cases hen : i ≤ n ∧ e = n + 1
          · obtain ⟨hen1, hen2⟩ := hen
            subst hen2
            exact h5 q hq i hen1 (by omega)
          · have : fo_T b n pe T q i e = T q i e := by unfold fo_T; rw [if_neg hen]
            rw [this]
            exact h2 q hq i e hie (by omega)
      refine jl_iload_n (i := 2) h rfl rfl dc_FO_extend_63 64 rfl ?_
      refine jl_if_lt h 119 (by decide) dc_FO_extend_64 67 rfl (fun c64 => ?_) (fun c64 => absurd (by decide) c64)
      exact jl_vretP h he (⟨rfl, V1, hfin, h4, rfl⟩) dc_FO_extend_119
    | succ d ih =>
      intro V1 hd _ hX
      have hs19 : d < 19 := by omega
      have hX2 : fo_X2 n (fo_pe b n pe T) T (fo_T b n pe T) V d 0 V1 := ⟨hX.1, hX.2.1, hX.2.2.1, fun q hq i hi hk => hX.2.2.2 q hq i hi (by omega)⟩
      have ed : iI (((d + 1 : Nat) : Int) - 1) = nI d := by
        rw [← iI_nat]
        congr 1
        omega
      rw [ed]
      have hval : ∀ q, fo_T b n pe T q d (n + 1) = fo_col b n (fo_pe b n pe T) T q d := fun q => by
        unfold fo_T
        rw [if_pos ⟨by omega, rfl⟩]
      have em : nI d + Int32.ofInt (-1) = iI ((d : Int) - 1) := by
        rw [← iI_nat]
        exact iI_add d (-1)
      have b0 : ∀ V1 m, fo_X2 n (fo_pe b n pe T) T (fo_T b n pe T) V d m V1 → st_ok K ad (gw K ad I V1 L C G R) (n + 1) b := fun V1 m hx => hSo V1 (hx.2.2.1 2 (by omega))
      have hsm : ∀ k, d ≤ k → k < n → fo_sm (fo_pe b n pe T k n) := fun k hk1 hk2 => by
        have := fo_pe_in (b := b) hn hB (show k ≤ n by omega)
        unfold fo_sm
        omega
      have hsT : ∀ r, r < 4 → ∀ k, d ≤ k → k ≤ n → fo_sm (T (2 + r) d k) := fun r h0 k h1 h2 => by
        have := hB.2.2 r h0 d k h1 (Or.inl h2)
        unfold fo_sm
        omega
      refine jl_iload_n (i := 2) h rfl rfl dc_FO_extend_63 64 rfl ?_
      refine jl_if_lt h 119 (by decide) dc_FO_extend_64 67 rfl (fun c64 => absurd c64 (nI_pos (by omega))) (fun c64 => ?_)
      refine jl_aload_n (i := 0) h rfl rfl dc_FO_extend_67 68 rfl ?_
      refine jl_iload_n (i := 2) h rfl rfl dc_FO_extend_68 69 rfl ?_
      refine jl_iload_n (i := 1) h rfl rfl dc_FO_extend_69 70 rfl ?_
      refine jl_callV (As := [_, _]) (rest := []) h hr vs_FO_66 vi_FO_countPart vx_FO_countPart (ci := 3) rfl (by omega) (by exact rfl) (fun l => c_FO_countPart l (b0 _ _ hX2) (cn := T 0) (pn := T 1) (s := d) (t := n) (by omega) hn (fun i e h1 h2 => hX2.1.2 0 (by decide) i e h1 (Or.inl h2)) (fun i e h1 h2 => hX2.1.2 1 (by decide) i e h1 (Or.inl h2)) (fun i e h1 h2 => by have := hB.2.1 i e h1 (Or.inl h2); omega)) (by first | decide | omega) (by first | decide | omega) rfl rfl (Nat.le_of_ble_eq_true rfl) dc_FO_extend_70 (res := []) rfl 73 rfl ?_
      have hX2a := fo_X2_step hn (by omega) (by decide) (hval 0) hX2
      have hX2b := fo_X2_step hn (by omega) (by decide) (hval 1) hX2a
      rw [show va_up V1 (fo_b 0 + d) (upd (V1 (fo_b 0 + d)) (n + 1) (iI (fo_col b n (fo_pe b n pe T) T 0 d))) (fo_b 1 + d) = V1 (fo_b 1 + d) from va_up_ne _ _ (by unfold fo_b; simp)] at hX2b
      refine jl_abs (P := fo_X2 n (fo_pe b n pe T) T (fo_T b n pe T) V d 2) hX2b (fun V2 hX3 => ?_)
      clear hX2a hX2b
      refine jl_aload_n (i := 0) h rfl rfl dc_FO_extend_73 74 rfl ?_
      refine jl_aload_n (i := 0) h rfl rfl dc_FO_extend_74 75 rfl ?_
      refine jl_getf h nm_c_FO 0 wl_FO_35 (by omega) (by decide) (by exact rfl) (by rfl) dc_FO_extend_75 78 rfl ?_
      refine jl_iload_n (i := 2) h rfl rfl dc_FO_extend_78 79 rfl ?_
      refine jl_iload_n (i := 1) h rfl rfl dc_FO_extend_79 80 rfl ?_
      refine jl_callV (As := [_, _, _]) (rest := []) h hr vs_FO_70 vi_FO_fillRegion vx_FO_fillRegion (ci := 3) rfl (by omega) (by exact rfl) (fun l => c_FO0_fillRegion l (b0 _ _ hX3) (rg := fun r => T (2 + r)) (pe := fo_pe b n pe T) (s := d) (t := n) (by omega) hn (hX3.1.2 2 (by decide) d n (by omega) (Or.inl (Nat.le_refl n))) (fun k h1 h2 => hX3.1.2 2 (by decide) d k h1 (Or.inl (by omega))) (fun k h1 h2 => hX3.2.1 k (by omega)) (hsT 0 (by decide) n (by omega) (Nat.le_refl n)) (fun k h1 h2 => hsT 0 (by decide) k h1 (by omega)) (fun k h1 h2 => hsm k h1 h2)) (by first | decide | omega) (by first | decide | omega) rfl rfl (Nat.le_of_ble_eq_true rfl) dc_FO_extend_80 (res := []) rfl 83 rfl ?_
      refine jl_abs (P := fo_X2 n (fo_pe b n pe T) T (fo_T b n pe T) V d 3) (fo_X2_step hn (by omega) (by decide) (hval 2) hX3) (fun V3 hX4 => ?_)
      refine jl_aload_n (i := 0) h rfl rfl dc_FO_extend_83 84 rfl ?_
      refine jl_aload_n (i := 0) h rfl rfl dc_FO_extend_84 85 rfl ?_
      refine jl_getf h nm_c_FO 4 wl_FO_41 (by omega) (by decide) (by exact rfl) (by rfl) dc_FO_extend_85 88 rfl ?_
      refine jl_iload_n (i := 2) h rfl rfl dc_FO_extend_88 89 rfl ?_
      refine jl_iload_n (i := 1) h rfl rfl dc_FO_extend_89 90 rfl ?_
      refine jl_callV (As := [_, _, _]) (rest := []) h hr vs_FO_70 vi_FO_fillRegion vx_FO_fillRegion (ci := 3) rfl (by omega) (by exact rfl) (fun l => c_FO1_fillRegion l (b0 _ _ hX4) (rg := fun r => T (2 + r)) (pe := fo_pe b n pe T) (s := d) (t := n) (by omega) hn (hX4.1.2 3 (by decide) d n (by omega) (Or.inl (Nat.le_refl n))) (fun k h1 h2 => hX4.1.2 3 (by decide) d k h1 (Or.inl (by omega))) (fun k h1 h2 => hX4.2.1 k (by omega)) (hsT 1 (by decide) n (by omega) (Nat.le_refl n)) (fun k h1 h2 => hsT 1 (by decide) k h1 (by omega)) (fun k h1 h2 => hsm k h1 h2)) (by first | decide | omega) (by first | decide | omega) rfl rfl (Nat.le_of_ble_eq_true rfl) dc_FO_extend_90 (res := []) rfl 93 rfl ?_
      refine jl_abs (P := fo_X2 n (fo_pe b n pe T) T (fo_T b n pe T) V d 4) (fo_X2_step hn (by omega) (by decide) (hval 3) hX4) (fun V4 hX5 => ?_)
      refine jl_aload_n (i := 0) h rfl rfl dc_FO_extend_93 94 rfl ?_
      refine jl_aload_n (i := 0) h rfl rfl dc_FO_extend_94 95 rfl ?_
      refine jl_getf h nm_c_FO 3 wl_FO_44 (by omega) (by decide) (by exact rfl) (by rfl) dc_FO_extend_95 98 rfl ?_
      refine jl_iload_n (i := 2) h rfl rfl dc_FO_extend_98 99 rfl ?_
      refine jl_iload_n (i := 1) h rfl rfl dc_FO_extend_99 100 rfl ?_
      refine jl_callV (As := [_, _, _]) (rest := []) h hr vs_FO_70 vi_FO_fillRegion vx_FO_fillRegion (ci := 3) rfl (by omega) (by exact rfl) (fun l => c_FO2_fillRegion l (b0 _ _ hX5) (rg := fun r => T (2 + r)) (pe := fo_pe b n pe T) (s := d) (t := n) (by omega) hn (hX5.1.2 4 (by decide) d n (by omega) (Or.inl (Nat.le_refl n))) (fun k h1 h2 => hX5.1.2 3 (by decide) d k h1 (Or.inl (by omega))) (fun k h1 h2 => hX5.2.1 k (by omega)) (hsT 2 (by decide) n (by omega) (Nat.le_refl n)) (fun k h1 h2 => hsT 1 (by decide) k h1 (by omega)) (fun k h1 h2 => hsm k h1 h2)) (by first | decide | omega) (by first | decide | omega) rfl rfl (Nat.le_of_ble_eq_true rfl) dc_FO_extend_100 (res := []) rfl 103 rfl ?_
      refine jl_abs (P := fo_X2 n (fo_pe b n pe T) T (fo_T b n pe T) V d 5) (fo_X2_step hn (by omega) (by decide) (hval 4) hX5) (fun V5 hX6 => ?_)
      refine jl_aload_n (i := 0) h rfl rfl dc_FO_extend_103 104 rfl ?_
      refine jl_aload_n (i := 0) h rfl rfl dc_FO_extend_104 105 rfl ?_
      refine jl_getf h nm_c_FO 1 wl_FO_47 (by omega) (by decide) (by exact rfl) (by rfl) dc_FO_extend_105 108 rfl ?_
      refine jl_iload_n (i := 2) h rfl rfl dc_FO_extend_108 109 rfl ?_
      refine jl_iload_n (i := 1) h rfl rfl dc_FO_extend_109 110 rfl ?_
      refine jl_callV (As := [_, _, _]) (rest := []) h hr vs_FO_70 vi_FO_fillRegion vx_FO_fillRegion (ci := 3) rfl (by omega) (by exact rfl) (fun l => c_FO3_fillRegion l (b0 _ _ hX6) (rg := fun r => T (2 + r)) (pe := fo_pe b n pe T) (s := d) (t := n) (by omega) hn (hX6.1.2 5 (by decide) d n (by omega) (Or.inl (Nat.le_refl n))) (fun k h1 h2 => hX6.1.2 4 (by decide) d k h1 (Or.inl (by omega))) (fun k h1 h2 => hX6.2.1 k (by omega)) (hsT 3 (by decide) n (by omega) (Nat.le_refl n)) (fun k h1 h2 => hsT 2 (by decide) k h1 (by omega)) (fun k h1 h2 => hsm k h1 h2)) (by first | decide | omega) (by first | decide | omega) rfl rfl (Nat.le_of_ble_eq_true rfl) dc_FO_extend_110 (res := []) rfl 113 rfl ?_
      refine jl_abs (P := fo_X2 n (fo_pe b n pe T) T (fo_T b n pe T) V d 6) (fo_X2_step hn (by omega) (by decide) (hval 5) hX6) (fun V6 hX7 => ?_)
      refine jl_iinc (i := 2) (d := -1) (lc2 := [(2, _), (1, _), (0, _)]) (v2 := iI ((d : Int) - 1)) h (by decide) rfl (em) rfl dc_FO_extend_113 116 rfl ?_
      refine jl_goto h 63 (by decide) dc_FO_extend_116 ?_
      exact ih V6 (by omega) (fun _ _ => trivial) ⟨hX7.1, hX7.2.1, hX7.2.2.1, fun q hq i hi hk => hX7.2.2.2 q hq i hi (by omega)⟩
  have enn : nI n = iI (((n + 1 : Nat) : Int) - 1) := by
    rw [← iI_nat]
    congr 1
    omega
  have first : ∀ (d : Nat) (V1 : Nat → Nat → Int32), d ≤ n + 1 → fo_X1 n pe (fo_pe b n pe T) T V d V1 → jl_J x 168 ad 0 0 (gw K ad I V1 L C G R) 12 [(2, .int (iI ((d : Int) - 1))), (1, .int (nI (n + 1))), (0, .ref (ad 4))] [] := by
    intro d
    induction d with
    | zero =>
      intro V1 hd hX
      have hs := second (n + 1) V1 (Nat.le_refl _) (fun _ _ => trivial) ⟨⟨fun i j hij hj => by
          have : fo_pe b n pe T i j = pe i j := by unfold fo_pe; rw [if_neg (by omega)]
          rw [this]
          exact hX.1.1 i j hij hj, hX.1.2⟩, fun i hi => hX.2.1 i (by omega) hi, hX.2.2, fun q hq i h1 h2 => by omega⟩
      refine jl_iload_n (i := 2) h rfl rfl dc_FO_extend_12 13 rfl ?_
      refine jl_if_lt h 59 (by decide) dc_FO_extend_13 16 rfl (fun c13 => ?_) (fun c13 => absurd (by decide) c13)
      refine jl_iload_n (i := 1) h rfl rfl dc_FO_extend_59 60 rfl ?_
      refine jl_iconst (v := 1) h (by decide) dc_FO_extend_60 61 rfl ?_
      refine jl_isub h dc_FO_extend_61 62 rfl ?_
      rw [show nI (n + 1) - 1 = iI (((n + 1 : Nat) : Int) - 1) by rw [e1, enn]]
      refine jl_istore_n (i := 2) (lc2 := [(2, _), (1, _), (0, _)]) h rfl (by decide) rfl dc_FO_extend_62 63 rfl ?_
      exact hs
    | succ d ih =>
      intro V1 hd hX
      have hs18 : d < 18 := by omega
      have hS1 := hSo V1 (hX.2.2 2 (by omega))
      have ed : iI (((d + 1 : Nat) : Int) - 1) = nI d := by
        rw [← iI_nat]
        congr 1
        omega
      rw [ed]
      have em : nI d + Int32.ofInt (-1) = iI ((d : Int) - 1) := by
        rw [← iI_nat]
        exact iI_add d (-1)
      have hp1 : ∀ k m, d < k → k ≤ m → m < n → fo_sm (pe k m) := fun k m h1 h2 h3 => by
        have := hB.1 k m h2 h3
        unfold fo_sm
        omega
      refine jl_iload_n (i := 2) h rfl rfl dc_FO_extend_12 13 rfl ?_
      refine jl_if_lt h 59 (by decide) dc_FO_extend_13 16 rfl (fun c13 => absurd c13 (nI_pos (by omega))) (fun c13 => ?_)
      refine jl_aload_n (i := 0) h rfl rfl dc_FO_extend_16 17 rfl ?_
      refine jl_getf h nm_c_FO 2 wl_FO_11 (by omega) (by decide) (by exact rfl) (by rfl) dc_FO_extend_17 20 rfl ?_
      refine jl_iload_n (i := 2) h rfl rfl dc_FO_extend_20 21 rfl ?_
      refine jl_aald (t0 := 4) h (d) (by exact rfl) (by omega) (by exact rfl) (by rfl) (by rfl) (by exact hs18) (by first | decide | assumption) (by exact if_pos hs18) dc_FO_extend_21 22 rfl ?_
      refine jl_iload_n (i := 1) h rfl rfl dc_FO_extend_22 23 rfl ?_
      refine jl_iconst (v := 1) h (by decide) dc_FO_extend_23 24 rfl ?_
      refine jl_isub h dc_FO_extend_24 25 rfl ?_
      rw [show nI (n + 1) - 1 = nI n by exact e1]
      refine jl_aload_n (i := 0) h rfl rfl dc_FO_extend_25 26 rfl ?_
      refine jl_getf h nm_c_FO 7 wl_FO_22 (by omega) (by decide) (by exact rfl) (by rfl) dc_FO_extend_26 29 rfl ?_
      refine jl_iload_n (i := 2) h rfl rfl dc_FO_extend_29 30 rfl ?_
      refine jl_iload_n (i := 1) h rfl rfl dc_FO_extend_30 31 rfl ?_
      refine jl_iconst (v := 1) h (by decide) dc_FO_extend_31 32 rfl ?_
      refine jl_isub h dc_FO_extend_32 33 rfl ?_
      rw [show nI (n + 1) - 1 = nI n by exact e1]
      refine jl_callV (As := [_, _]) (rest := [_, _]) h hr vs_FO_57 vi_ST_canPair vx_ST_canPair (ci := 1) rfl (by omega) (by exact hS1.1) (fun l => c_ST_canPair l (by omega) hS1 hs18 hn) (by first | decide | omega) (by first | decide | omega) rfl rfl (Nat.le_of_ble_eq_true rfl) dc_FO_extend_33 (res := [_, _, _]) rfl 36 rfl ?_
      refine jl_if_eq h 50 (by decide) dc_FO_extend_36 39 rfl (fun c36 => ?_) (fun c36 => ?_)
      · skip
        rw [st_b0] at c36
        refine jl_ldc h wk_FO_65 dc_FO_extend_50 52 rfl ?_
        first | rw [show iI (fo_oK b pe (fun r => T (2 + r)) d n (n - d - 5)) = iI (fo_pe b n pe T d n) by unfold fo_pe; rw [if_pos rfl, if_pos c36]] | rw [show (1000000 : Int32) = iI (fo_pe b n pe T d n) by unfold fo_pe; rw [if_pos rfl, if_neg (by rw [c36]; decide)]; rfl]
        refine jl_iast h (n) (by exact rfl) (by omega) (by exact gw_row (gw_i_6 d hs18)) (by exact hn) (by first | decide | assumption) dc_FO_extend_52 (gw_rowset (gw_i_6 d hs18) _) 53 rfl ?_
        refine jl_abs (P := fo_X1 n pe (fo_pe b n pe T) T V d) (fo_X1_step hn (by omega) hX) (fun V2 hX2 => ?_)
        refine jl_iinc (i := 2) (d := -1) (lc2 := [(2, _), (1, _), (0, _)]) (v2 := iI ((d : Int) - 1)) h (by decide) rfl (em) rfl dc_FO_extend_53 56 rfl ?_
        refine jl_goto h 12 (by decide) dc_FO_extend_56 ?_
        exact ih V2 (by omega) hX2
      · skip
        rw [st_b1] at c36
        have hcp := c36
        unfold en_cp at hcp
        simp only [Bool.and_eq_true, decide_eq_true_eq] at hcp
        have hr1 : fo_sm (T (2 + 3) (d + 1) n) := by
          have := hB.2.2 3 (by decide) (d + 1) n (by omega) (Or.inl (Nat.le_refl n))
          unfold fo_sm
          omega
        refine jl_aload_n (i := 0) h rfl rfl dc_FO_extend_39 40 rfl ?_
        refine jl_iload_n (i := 2) h rfl rfl dc_FO_extend_40 41 rfl ?_
        refine jl_iload_n (i := 1) h rfl rfl dc_FO_extend_41 42 rfl ?_
        refine jl_iconst (v := 1) h (by decide) dc_FO_extend_42 43 rfl ?_
        refine jl_isub h dc_FO_extend_43 44 rfl ?_
        rw [show nI (n + 1) - 1 = nI n by exact e1]
        refine jl_callV (As := [_, _]) (rest := [_, _]) h hr vs_FO_61 vi_FO_leastOfPair vx_FO_leastOfPair (ci := 3) rfl (by omega) (by exact rfl) (fun l => c_FO_leastOfPair l hS1 (rg := fun r => T (2 + r)) hcp.1 hn hcp.2 (hX.1.2 5 (by decide) (d + 1) n (by omega) (Or.inl (Nat.le_refl n))) (fun k m h1 h2 h3 => hX.1.1 k m h2 h3) hr1 hp1) (by first | decide | omega) (by first | decide | omega) rfl rfl (Nat.le_of_ble_eq_true rfl) dc_FO_extend_44 (res := [_, _, _]) rfl 47 rfl ?_
        refine jl_goto h 52 (by decide) dc_FO_extend_47 ?_
        first | rw [show iI (fo_oK b pe (fun r => T (2 + r)) d n (n - d - 5)) = iI (fo_pe b n pe T d n) by unfold fo_pe; rw [if_pos rfl, if_pos c36]] | rw [show (1000000 : Int32) = iI (fo_pe b n pe T d n) by unfold fo_pe; rw [if_pos rfl, if_neg (by rw [c36]; decide)]; rfl]
        refine jl_iast h (n) (by exact rfl) (by omega) (by exact gw_row (gw_i_6 d hs18)) (by exact hn) (by first | decide | assumption) dc_FO_extend_52 (gw_rowset (gw_i_6 d hs18) _) 53 rfl ?_
        refine jl_abs (P := fo_X1 n pe (fo_pe b n pe T) T V d) (fo_X1_step hn (by omega) hX) (fun V2 hX2 => ?_)
        refine jl_iinc (i := 2) (d := -1) (lc2 := [(2, _), (1, _), (0, _)]) (v2 := iI ((d : Int) - 1)) h (by decide) rfl (em) rfl dc_FO_extend_53 56 rfl ?_
        refine jl_goto h 12 (by decide) dc_FO_extend_56 ?_
        exact ih V2 (by omega) hX2
  have hS0 := hSo V rfl
  have h00 := first (n + 1) V (Nat.le_refl _) ⟨hV, fun i h1 h2 => by omega, fun _ _ => rfl⟩
  refine jl_aload_n (i := 0) h rfl rfl dc_FO_extend_0 1 rfl ?_
  refine jl_getf h nm_c_FO 7 wl_FO_22 (by omega) (by decide) (by exact rfl) (by rfl) dc_FO_extend_1 4 rfl ?_
  refine jl_callV (As := []) (rest := []) h hr vs_FO_50 vi_ST_size vx_ST_size (ci := 1) rfl (by omega) (by exact hS0.1) (fun l => c_ST_size l (by omega) hS0) (by first | decide | omega) (by first | decide | omega) rfl rfl (Nat.le_of_ble_eq_true rfl) dc_FO_extend_4 (res := [_]) rfl 7 rfl ?_
  refine jl_istore_n (i := 1) (lc2 := [(1, _), (0, _)]) h rfl (by decide) rfl dc_FO_extend_7 8 rfl ?_
  refine jl_iload_n (i := 1) h rfl rfl dc_FO_extend_8 9 rfl ?_
  refine jl_iconst (v := 1) h (by decide) dc_FO_extend_9 10 rfl ?_
  refine jl_isub h dc_FO_extend_10 11 rfl ?_
  rw [show nI (n + 1) - 1 = iI (((n + 1 : Nat) : Int) - 1) by rw [e1, enn]]
  refine jl_istore_n (i := 2) (lc2 := [(2, _), (1, _), (0, _)]) h rfl (by decide) rfl dc_FO_extend_11 12 rfl ?_
  exact h00
end FO
end
section
/-! FoldedStrand$NearList but for the search: numbers, and contracts. -/
def iL (z : Int) : Int64 := Int64.ofInt z
theorem iL_add (a c : Int) : iL a + iL c = iL (a + c) := (Int64.ofInt_add a c).symm
theorem iL_sub (a c : Int) : iL a - iL c = iL (a - c) := (Int64.ofInt_sub a c).symm
theorem iL_toInt {z : Int} (h1 : -9223372036854775808 ≤ z) (h2 : z < 9223372036854775808) : (iL z).toInt = z := Int64.toInt_ofInt_of_le (by omega) (by omega)
theorem iL_of_iI {z : Int} (h1 : -2147483648 ≤ z) (h2 : z < 2147483648) : (iI z).toInt64 = iL z := by
  apply Int64.toInt_inj.mp
  rw [Int32.toInt_toInt64, iI_toInt h1 h2, iL_toInt (by omega) (by omega)]
theorem iL_lt {a c : Int} (ha1 : -9223372036854775808 ≤ a) (ha2 : a < 9223372036854775808) (hc1 : -9223372036854775808 ≤ c) (hc2 : c < 9223372036854775808) : iL a < iL c ↔ a < c := by
  rw [Int64.lt_iff_toInt_lt, iL_toInt ha1 ha2, iL_toInt hc1 hc2]
/-- a place's weight in a text -/
def nl_4 (p : Nat) : Int := 4 ^ (17 - p)
theorem nl_shl2 : ∀ p, p < 18 → (2 : Int64) <<< ((nI (2 * (17 - p))).toInt64 &&& 63) = iL (2 * nl_4 p) := by decide +kernel
theorem nl_shl1 : ∀ p, p < 18 → (1 : Int64) <<< ((nI (2 * (17 - p))).toInt64 &&& 63) = iL (nl_4 p) := by decide +kernel
theorem nl_shl36 (z : Int) : iL z <<< ((36 : Int32).toInt64 &&& 63) = iL (z * 68719476736) := by
  have h : ((36 : Int32).toInt64 &&& 63) = (36 : Int64) := by decide
  rw [h]
  apply Int64.toBitVec_inj.mp
  show (Int64.ofInt z).toBitVec <<< ((36 : Int64).toBitVec.smod 64) = (Int64.ofInt (z * 68719476736)).toBitVec
  rw [show ((36 : Int64).toBitVec.smod 64) = 36#64 by decide]
  rw [Int64.toBitVec_ofInt, Int64.toBitVec_ofInt, BitVec.ofInt_mul]
  rw [BitVec.shiftLeft_eq', show (36#64).toNat = 36 by decide, BitVec.shiftLeft_eq_mul_twoPow]
  congr 1
/-- what a pair takes off a text -/
def nl_dt (i j : Nat) : Int := 2 * nl_4 i + nl_4 j
theorem nl_upR (ad : Nat → Nat) (R : Nat → Nat) (i c : Nat) : va_up (fun k => some (ad (R k))) i (some (ad c)) = fun k => some (ad (va_up R i c k)) := by
  funext k
  unfold va_up
  split <;> rfl
theorem gw_setRf {K : Nat → ClassId} {ad : Nat → Nat} {I : Nat → Int32} {V : Nat → Nat → Int32} {L : Nat → Int64} {C : Nat → Int32} {G : Nat → Nat} {R : Nat → Nat} (i c : Nat) : va_up (gw K ad I V L C G R) 150 (.inl (K 3, 40, .inr (.inr (.inr (.inr (va_up (fun k => some (ad (R k))) i (some (ad c)))))))) = gw K ad I V L C G (va_up R i c) := by
  rw [nl_upR]
  exact gw_set_R _
/-- the regions' objects -/
def nl_nx (ad : Nat → Nat) (r : Nat) : Value := if r < 2 then .null else .ref (ad (64 + 21 * (r - 1)))
theorem gw_re {K : Nat → ClassId} {ad : Nat → Nat} {I : Nat → Int32} {V : Nat → Nat → Int32} {L : Nat → Int64} {C : Nat → Int32} {G : Nat → Nat} {R : Nat → Nat} {r : Nat} (hr : r < 4) : gw K ad I V L C G R (64 + 21 * r) = .inr (4, [.int (iI (fo_pp r)), .int (iI (fo_pq r)), .ref (ad (65 + 21 * r)), nl_nx ad r]) := by
  match r, hr with
  | 0, _ => rfl
  | 1, _ => rfl
  | 2, _ => rfl
  | 3, _ => rfl
theorem gw_ra {K : Nat → ClassId} {ad : Nat → Nat} {I : Nat → Int32} {V : Nat → Nat → Int32} {L : Nat → Int64} {C : Nat → Int32} {G : Nat → Nat} {R : Nat → Nat} {r : Nat} (hr : r < 4) : gw K ad I V L C G R (65 + 21 * r) = .inl (K 4, 19, .inr (.inr (.inr (.inr (fun i => if i < 19 then some (ad (66 + 21 * r + i)) else none))))) := by
  match r, hr with
  | 0, _ => rfl
  | 1, _ => rfl
  | 2, _ => rfl
  | 3, _ => rfl
theorem gw_rr {r i : Nat} (hr : r < 4) (hi : i < 19) : gw_i (66 + 21 * r + i) = true ∧ gw_len (66 + 21 * r + i) = 19 := by
  match r, hr with
  | 0, _ => exact gw_i_66 i hi
  | 1, _ => exact gw_i_87 i hi
  | 2, _ => exact gw_i_108 i hi
  | 3, _ => exact gw_i_129 i hi
abbrev bc_NL_size : ByteArray := prog_4_method_2_code
abbrev yn_NL_size : MethodName := ⟨"FoldedStrand$NearList", "size", "()I"⟩
theorem wl_NL_15 : Cond.fieldLink "FoldedStrand$NearList" 15 "FoldedStrand$NearList" "count" "I" ∈ jl_T := jl_T_of 117 (by decide +kernel) (by decide +kernel)
theorem dc_NL_size_0 : decode bc_NL_size 0 = .ok (.aload_n 0, 1) := by decide +kernel
theorem dc_NL_size_1 : decode bc_NL_size 1 = .ok (.getfield 15, 3) := by decide +kernel
theorem dc_NL_size_4 : decode bc_NL_size 4 = .ok (.ireturn, 1) := by decide +kernel
abbrev bc_NL_has : ByteArray := prog_4_method_3_code
abbrev yn_NL_has : MethodName := ⟨"FoldedStrand$NearList", "has", "(I)Z"⟩
theorem dc_NL_has_0 : decode bc_NL_has 0 = .ok (.iload_n 1, 1) := by decide +kernel
theorem dc_NL_has_1 : decode bc_NL_has 1 = .ok (.ifCond .lt 15, 3) := by decide +kernel
theorem dc_NL_has_4 : decode bc_NL_has 4 = .ok (.iload_n 1, 1) := by decide +kernel
theorem dc_NL_has_5 : decode bc_NL_has 5 = .ok (.aload_n 0, 1) := by decide +kernel
theorem dc_NL_has_6 : decode bc_NL_has 6 = .ok (.getfield 15, 3) := by decide +kernel
theorem dc_NL_has_9 : decode bc_NL_has 9 = .ok (.if_icmp .ge 7, 3) := by decide +kernel
theorem dc_NL_has_12 : decode bc_NL_has 12 = .ok (.iconst 1, 1) := by decide +kernel
theorem dc_NL_has_13 : decode bc_NL_has 13 = .ok (.goto 4, 3) := by decide +kernel
theorem dc_NL_has_16 : decode bc_NL_has 16 = .ok (.iconst 0, 1) := by decide +kernel
theorem dc_NL_has_17 : decode bc_NL_has 17 = .ok (.ireturn, 1) := by decide +kernel
abbrev bc_NL_forget : ByteArray := prog_4_method_4_code
abbrev yn_NL_forget : MethodName := ⟨"FoldedStrand$NearList", "forget", "()V"⟩
theorem dc_NL_forget_0 : decode bc_NL_forget 0 = .ok (.aload_n 0, 1) := by decide +kernel
theorem dc_NL_forget_1 : decode bc_NL_forget 1 = .ok (.iconst 0, 1) := by decide +kernel
theorem dc_NL_forget_2 : decode bc_NL_forget 2 = .ok (.putfield 15, 3) := by decide +kernel
theorem dc_NL_forget_5 : decode bc_NL_forget 5 = .ok (.return_, 1) := by decide +kernel
abbrev bc_NL_shiftOf : ByteArray := prog_4_method_14_code
abbrev yn_NL_shiftOf : MethodName := ⟨"FoldedStrand$NearList", "shiftOf", "(I)I"⟩
theorem dc_NL_shiftOf_0 : decode bc_NL_shiftOf 0 = .ok (.iconst 2, 1) := by decide +kernel
theorem dc_NL_shiftOf_1 : decode bc_NL_shiftOf 1 = .ok (.bipush 17, 2) := by decide +kernel
theorem dc_NL_shiftOf_3 : decode bc_NL_shiftOf 3 = .ok (.iload_n 0, 1) := by decide +kernel
theorem dc_NL_shiftOf_4 : decode bc_NL_shiftOf 4 = .ok (.isub, 1) := by decide +kernel
theorem dc_NL_shiftOf_5 : decode bc_NL_shiftOf 5 = .ok (.imul, 1) := by decide +kernel
theorem dc_NL_shiftOf_6 : decode bc_NL_shiftOf 6 = .ok (.ireturn, 1) := by decide +kernel
abbrev bc_NL_withPair : ByteArray := prog_4_method_13_code
abbrev yn_NL_withPair : MethodName := ⟨"FoldedStrand$NearList", "withPair", "(JII)J"⟩
theorem wk_NL_134 : Cond.constantLong "FoldedStrand$NearList" 134 (2) ∈ jl_T := jl_T_of 371 (by decide +kernel) (by decide +kernel)
theorem vs_NL_57 : jl_v "FoldedStrand$NearList" 57 yn_NL_shiftOf bc_NL_shiftOf 1 (some .int) 1 := ⟨jl_T_of 374 (by decide +kernel) (by decide +kernel), jl_T_of 6 (by decide +kernel) (by decide +kernel), jl_T_of 372 (by decide +kernel) (by decide +kernel), by decide +kernel, by decide +kernel, by decide +kernel⟩
theorem vt_NL_shiftOf : Cond.static yn_NL_shiftOf ∈ jl_T := jl_T_of 373 (by decide +kernel) (by decide +kernel)
theorem dc_NL_withPair_0 : decode bc_NL_withPair 0 = .ok (.lload_n 0, 1) := by decide +kernel
theorem dc_NL_withPair_1 : decode bc_NL_withPair 1 = .ok (.ldc2_w 134, 3) := by decide +kernel
theorem dc_NL_withPair_4 : decode bc_NL_withPair 4 = .ok (.iload_n 2, 1) := by decide +kernel
theorem dc_NL_withPair_5 : decode bc_NL_withPair 5 = .ok (.invokestatic 57, 3) := by decide +kernel
theorem dc_NL_withPair_8 : decode bc_NL_withPair 8 = .ok (.lshl, 1) := by decide +kernel
theorem dc_NL_withPair_9 : decode bc_NL_withPair 9 = .ok (.lsub, 1) := by decide +kernel
theorem dc_NL_withPair_10 : decode bc_NL_withPair 10 = .ok (.lconst 1, 1) := by decide +kernel
theorem dc_NL_withPair_11 : decode bc_NL_withPair 11 = .ok (.iload_n 3, 1) := by decide +kernel
theorem dc_NL_withPair_12 : decode bc_NL_withPair 12 = .ok (.invokestatic 57, 3) := by decide +kernel
theorem dc_NL_withPair_15 : decode bc_NL_withPair 15 = .ok (.lshl, 1) := by decide +kernel
theorem dc_NL_withPair_16 : decode bc_NL_withPair 16 = .ok (.lsub, 1) := by decide +kernel
theorem dc_NL_withPair_17 : decode bc_NL_withPair 17 = .ok (.lreturn, 1) := by decide +kernel
abbrev bc_NL_textWithoutPairs : ByteArray := prog_4_method_12_code
abbrev yn_NL_textWithoutPairs : MethodName := ⟨"FoldedStrand$NearList", "textWithoutPairs", "()J"⟩
theorem wl_NL_39 : Cond.fieldLink "FoldedStrand$NearList" 39 "FoldedStrand$NearList" "strand" "LFoldedStrand$Strand;" ∈ jl_T := jl_T_of 123 (by decide +kernel) (by decide +kernel)
theorem vs_NL_65 : jl_v "FoldedStrand$NearList" 65 yn_ST_size bc_ST_size 1 (some .int) 0 := ⟨jl_T_of 226 (by decide +kernel) (by decide +kernel), jl_T_of 2 (by decide +kernel) (by decide +kernel), jl_T_of 362 (by decide +kernel) (by decide +kernel), by decide +kernel, by decide +kernel, by decide +kernel⟩
theorem dc_NL_textWithoutPairs_0 : decode bc_NL_textWithoutPairs 0 = .ok (.lconst 0, 1) := by decide +kernel
theorem dc_NL_textWithoutPairs_1 : decode bc_NL_textWithoutPairs 1 = .ok (.lstore_n 1, 1) := by decide +kernel
theorem dc_NL_textWithoutPairs_2 : decode bc_NL_textWithoutPairs 2 = .ok (.iconst 0, 1) := by decide +kernel
theorem dc_NL_textWithoutPairs_3 : decode bc_NL_textWithoutPairs 3 = .ok (.istore_n 3, 1) := by decide +kernel
theorem dc_NL_textWithoutPairs_4 : decode bc_NL_textWithoutPairs 4 = .ok (.iload_n 3, 1) := by decide +kernel
theorem dc_NL_textWithoutPairs_5 : decode bc_NL_textWithoutPairs 5 = .ok (.aload_n 0, 1) := by decide +kernel
theorem dc_NL_textWithoutPairs_6 : decode bc_NL_textWithoutPairs 6 = .ok (.getfield 39, 3) := by decide +kernel
theorem dc_NL_textWithoutPairs_9 : decode bc_NL_textWithoutPairs 9 = .ok (.invokevirtual 65, 3) := by decide +kernel
theorem dc_NL_textWithoutPairs_12 : decode bc_NL_textWithoutPairs 12 = .ok (.if_icmp .ge 20, 3) := by decide +kernel
theorem dc_NL_textWithoutPairs_15 : decode bc_NL_textWithoutPairs 15 = .ok (.lload_n 1, 1) := by decide +kernel
theorem dc_NL_textWithoutPairs_16 : decode bc_NL_textWithoutPairs 16 = .ok (.ldc2_w 134, 3) := by decide +kernel
theorem dc_NL_textWithoutPairs_19 : decode bc_NL_textWithoutPairs 19 = .ok (.iload_n 3, 1) := by decide +kernel
theorem dc_NL_textWithoutPairs_20 : decode bc_NL_textWithoutPairs 20 = .ok (.invokestatic 57, 3) := by decide +kernel
theorem dc_NL_textWithoutPairs_23 : decode bc_NL_textWithoutPairs 23 = .ok (.lshl, 1) := by decide +kernel
theorem dc_NL_textWithoutPairs_24 : decode bc_NL_textWithoutPairs 24 = .ok (.ladd, 1) := by decide +kernel
theorem dc_NL_textWithoutPairs_25 : decode bc_NL_textWithoutPairs 25 = .ok (.lstore_n 1, 1) := by decide +kernel
theorem dc_NL_textWithoutPairs_26 : decode bc_NL_textWithoutPairs 26 = .ok (.iinc 3 1, 3) := by decide +kernel
theorem dc_NL_textWithoutPairs_29 : decode bc_NL_textWithoutPairs 29 = .ok (.goto (-25), 3) := by decide +kernel
theorem dc_NL_textWithoutPairs_32 : decode bc_NL_textWithoutPairs 32 = .ok (.lload_n 1, 1) := by decide +kernel
theorem dc_NL_textWithoutPairs_33 : decode bc_NL_textWithoutPairs 33 = .ok (.lreturn, 1) := by decide +kernel
abbrev bc_NL_setRegion : ByteArray := prog_4_method_10_code
abbrev yn_NL_setRegion : MethodName := ⟨"FoldedStrand$NearList", "setRegion", "(ILFoldedStrand$Region;II)V"⟩
theorem wl_NL_28 : Cond.fieldLink "FoldedStrand$NearList" 28 "FoldedStrand$NearList" "regions" "[LFoldedStrand$Region;" ∈ jl_T := jl_T_of 120 (by decide +kernel) (by decide +kernel)
theorem wl_NL_32 : Cond.fieldLink "FoldedStrand$NearList" 32 "FoldedStrand$NearList" "starts" "[I" ∈ jl_T := jl_T_of 121 (by decide +kernel) (by decide +kernel)
theorem wl_NL_36 : Cond.fieldLink "FoldedStrand$NearList" 36 "FoldedStrand$NearList" "ends" "[I" ∈ jl_T := jl_T_of 122 (by decide +kernel) (by decide +kernel)
theorem dc_NL_setRegion_0 : decode bc_NL_setRegion 0 = .ok (.aload_n 0, 1) := by decide +kernel
theorem dc_NL_setRegion_1 : decode bc_NL_setRegion 1 = .ok (.getfield 28, 3) := by decide +kernel
theorem dc_NL_setRegion_4 : decode bc_NL_setRegion 4 = .ok (.iload_n 1, 1) := by decide +kernel
theorem dc_NL_setRegion_5 : decode bc_NL_setRegion 5 = .ok (.aload_n 2, 1) := by decide +kernel
theorem dc_NL_setRegion_6 : decode bc_NL_setRegion 6 = .ok (.aastore, 1) := by decide +kernel
theorem dc_NL_setRegion_7 : decode bc_NL_setRegion 7 = .ok (.aload_n 0, 1) := by decide +kernel
theorem dc_NL_setRegion_8 : decode bc_NL_setRegion 8 = .ok (.getfield 32, 3) := by decide +kernel
theorem dc_NL_setRegion_11 : decode bc_NL_setRegion 11 = .ok (.iload_n 1, 1) := by decide +kernel
theorem dc_NL_setRegion_12 : decode bc_NL_setRegion 12 = .ok (.iload_n 3, 1) := by decide +kernel
theorem dc_NL_setRegion_13 : decode bc_NL_setRegion 13 = .ok (.iastore, 1) := by decide +kernel
theorem dc_NL_setRegion_14 : decode bc_NL_setRegion 14 = .ok (.aload_n 0, 1) := by decide +kernel
theorem dc_NL_setRegion_15 : decode bc_NL_setRegion 15 = .ok (.getfield 36, 3) := by decide +kernel
theorem dc_NL_setRegion_18 : decode bc_NL_setRegion 18 = .ok (.iload_n 1, 1) := by decide +kernel
theorem dc_NL_setRegion_19 : decode bc_NL_setRegion 19 = .ok (.iload 4, 2) := by decide +kernel
theorem dc_NL_setRegion_21 : decode bc_NL_setRegion 21 = .ok (.iastore, 1) := by decide +kernel
theorem dc_NL_setRegion_22 : decode bc_NL_setRegion 22 = .ok (.return_, 1) := by decide +kernel
section NL
variable (l : Launch) {K : Nat → ClassId} {sa : Nat → Nat} {N : Nat} {ad : Nat → Nat} {E : Nat → va_E} {I : Nat → Int32} {V : Nat → Nat → Int32} {L : Nat → Int64} {C : Nat → Int32} {G : Nat → Nat} {R : Nat → Nat} {n : Nat} {b : Nat → Nat}
theorem c_NL_size : jl_C l K sa yn_NL_size bc_NL_size 1 (some .int) 0 0 168 ad [.ref (ad 148)] (gw K ad I V L C G R) (some (.int (I 1))) (gw K ad I V L C G R) := by
  refine jl_enter (by decide) (Nat.le_of_ble_eq_true rfl) (fun x h he hr => ?_)
  show jl_J x 168 ad 0 0 (gw K ad I V L C G R) 0 [(0, .ref (ad 148))] []
  refine jl_aload_n (i := 0) h rfl rfl dc_NL_size_0 1 rfl ?_
  refine jl_getf h nm_c_NL 1 wl_NL_15 (by omega) (by decide) (by exact rfl) (by rfl) dc_NL_size_1 4 rfl ?_
  exact jl_zret h he rfl (rfl) (rfl) dc_NL_size_4
theorem c_NL_has (q : Int32) : jl_C l K sa yn_NL_has bc_NL_has 2 (some .boolean) 0 0 168 ad [.ref (ad 148), .int q] (gw K ad I V L C G R) (some (.int (st_bI (decide (¬ q < 0 ∧ q < I 1))))) (gw K ad I V L C G R) := by
  refine jl_enter (by decide) (Nat.le_of_ble_eq_true rfl) (fun x h he hr => ?_)
  show jl_J x 168 ad 0 0 (gw K ad I V L C G R) 0 [(0, .ref (ad 148)), (1, .int q)] []
  refine jl_iload_n (i := 1) h rfl rfl dc_NL_has_0 1 rfl ?_
  refine jl_if_lt h 16 (by decide) dc_NL_has_1 4 rfl (fun c1 => ?_) (fun c1 => ?_)
  · skip
    refine jl_iconst (v := 0) h (by decide) dc_NL_has_16 17 rfl ?_
    exact jl_zret h he rfl (by unfold st_bI; simp_all) (rfl) dc_NL_has_17
  · skip
    refine jl_iload_n (i := 1) h rfl rfl dc_NL_has_4 5 rfl ?_
    refine jl_aload_n (i := 0) h rfl rfl dc_NL_has_5 6 rfl ?_
    refine jl_getf h nm_c_NL 1 wl_NL_15 (by omega) (by decide) (by exact rfl) (by rfl) dc_NL_has_6 9 rfl ?_
    refine jl_icmp_ge h 16 (by decide) dc_NL_has_9 12 rfl (fun c9 => ?_) (fun c9 => ?_)
    · skip
      refine jl_iconst (v := 0) h (by decide) dc_NL_has_16 17 rfl ?_
      exact jl_zret h he rfl (by unfold st_bI; simp_all) (rfl) dc_NL_has_17
    · skip
      refine jl_iconst (v := 1) h (by decide) dc_NL_has_12 13 rfl ?_
      refine jl_goto h 17 (by decide) dc_NL_has_13 ?_
      exact jl_zret h he rfl (by unfold st_bI; simp_all) (rfl) dc_NL_has_17
theorem c_NL_forget : jl_C l K sa yn_NL_forget bc_NL_forget 1 none 0 0 168 ad [.ref (ad 148)] (gw K ad I V L C G R) none (gw K ad (va_up I 1 (nI 0)) V L C G R) := by
  refine jl_enter (by decide) (Nat.le_of_ble_eq_true rfl) (fun x h he hr => ?_)
  show jl_J x 168 ad 0 0 (gw K ad I V L C G R) 0 [(0, .ref (ad 148))] []
  refine jl_aload_n (i := 0) h rfl rfl dc_NL_forget_0 1 rfl ?_
  refine jl_iconst (v := nI 0) h (by decide) dc_NL_forget_1 2 rfl ?_
  refine jl_putf (fs2 := [_, _, _, _, _, _, _, _, _, _]) h nm_c_NL 1 wl_NL_15 (by omega) (by decide) rfl (by exact rfl) (by rfl) (by rfl) (by exact Nat.le_of_ble_eq_true rfl) (by rfl) dc_NL_forget_2 (gw_set_count _) 5 rfl ?_
  exact jl_vret h he (rfl) (rfl) dc_NL_forget_5
theorem c_NL_shiftOf {p : Nat} (hp : p < 18) : jl_C l K sa yn_NL_shiftOf bc_NL_shiftOf 1 (some .int) 0 0 N ad [.int (nI p)] E (some (.int (nI (2 * (17 - p))))) E := by
  refine jl_enter (by decide) (Nat.le_of_ble_eq_true rfl) (fun x h he hr => ?_)
  show jl_J x N ad 0 0 E 0 [(0, .int (nI p))] []
  refine jl_iconst (v := nI 2) h (by decide) dc_NL_shiftOf_0 1 rfl ?_
  refine jl_bipush (v := nI 17) h (by decide) dc_NL_shiftOf_1 3 rfl ?_
  refine jl_iload_n (i := 0) h rfl rfl dc_NL_shiftOf_3 4 rfl ?_
  refine jl_isub h dc_NL_shiftOf_4 5 rfl ?_
  refine jl_imul h dc_NL_shiftOf_5 6 rfl ?_
  exact jl_zret h he rfl (by rw [pk_sub (by omega), pk_mul]) (rfl) dc_NL_shiftOf_6
theorem c_NL_withPair {i j : Nat} (hi : i < 18) (hj : j < 18) (t : Int) : jl_C l K sa yn_NL_withPair bc_NL_withPair 4 (some .long) 1 25 N ad [.long (iL t), .int (nI i), .int (nI j)] E (some (.long (iL (t - nl_dt i j)))) E := by
  refine jl_enter (by decide) (Nat.le_of_ble_eq_true rfl) (fun x h he hr => ?_)
  show jl_J x N ad 0 0 E 0 [(0, .long (iL t)), (2, .int (nI i)), (3, .int (nI j))] []
  refine jl_lload_n (i := 0) h rfl rfl dc_NL_withPair_0 1 rfl ?_
  refine jl_ldc2 h wk_NL_134 dc_NL_withPair_1 4 rfl ?_
  refine jl_iload_n (i := 2) h rfl rfl dc_NL_withPair_4 5 rfl ?_
  refine jl_callS (As := [_]) (rest := [_, _]) h hr vs_NL_57 vt_NL_shiftOf (fun l => c_NL_shiftOf l hi) (by first | decide | omega) (by first | decide | omega) rfl rfl (Nat.le_of_ble_eq_true rfl) dc_NL_withPair_5 (res := [_, _, _]) rfl 8 rfl ?_
  refine jl_lshl (v := iL (2 * nl_4 i)) h (nl_shl2 i hi) dc_NL_withPair_8 9 rfl ?_
  refine jl_lsub h dc_NL_withPair_9 10 rfl ?_
  refine jl_lconst (v := 1) h (by decide) dc_NL_withPair_10 11 rfl ?_
  refine jl_iload_n (i := 3) h rfl rfl dc_NL_withPair_11 12 rfl ?_
  refine jl_callS (As := [_]) (rest := [_, _]) h hr vs_NL_57 vt_NL_shiftOf (fun l => c_NL_shiftOf l hj) (by first | decide | omega) (by first | decide | omega) rfl rfl (Nat.le_of_ble_eq_true rfl) dc_NL_withPair_12 (res := [_, _, _]) rfl 15 rfl ?_
  refine jl_lshl (v := iL (nl_4 j)) h (nl_shl1 j hj) dc_NL_withPair_15 16 rfl ?_
  refine jl_lsub h dc_NL_withPair_16 17 rfl ?_
  exact jl_lret h he (by rw [iL_sub, iL_sub]; unfold nl_dt; congr 3; omega) (rfl) dc_NL_withPair_17
/-- the text of the structure without pairs -/
def nl_t0 : Nat → Int
  | 0 => 0
  | k + 1 => nl_t0 k + 2 * nl_4 k
theorem c_NL_textWithoutPairs (hS : st_ok K ad (gw K ad I V L C G R) n b) : jl_C l K sa yn_NL_textWithoutPairs bc_NL_textWithoutPairs 4 (some .long) 1 25 168 ad [.ref (ad 148)] (gw K ad I V L C G R) (some (.long (iL (nl_t0 n)))) (gw K ad I V L C G R) := by
  refine jl_enter (by decide) (Nat.le_of_ble_eq_true rfl) (fun x h he hr => ?_)
  obtain ⟨hST, hbases, hn, hb⟩ := id hS
  show jl_J x 168 ad 0 0 (gw K ad I V L C G R) 0 [(0, .ref (ad 148))] []
  have loop : ∀ d k : Nat, k + d = n → jl_J x 168 ad 0 0 (gw K ad I V L C G R) 4 [(3, .int (nI k)), (1, .long (iL (nl_t0 k))), (0, .ref (ad 148))] [] := by
    intro d
    induction d with
    | zero =>
      intro k hk
      have hk : k = n := by omega
      subst hk
      refine jl_iload_n (i := 3) h rfl rfl dc_NL_textWithoutPairs_4 5 rfl ?_
      refine jl_aload_n (i := 0) h rfl rfl dc_NL_textWithoutPairs_5 6 rfl ?_
      refine jl_getf h nm_c_NL 7 wl_NL_39 (by omega) (by decide) (by exact rfl) (by rfl) dc_NL_textWithoutPairs_6 9 rfl ?_
      refine jl_callV (As := []) (rest := [_]) h hr vs_NL_65 vi_ST_size vx_ST_size (ci := 1) rfl (by omega) (by exact hST) (fun l => c_ST_size l (by omega) hS) (by first | decide | omega) (by first | decide | omega) rfl rfl (Nat.le_of_ble_eq_true rfl) dc_NL_textWithoutPairs_9 (res := [_, _]) rfl 12 rfl ?_
      refine jl_icmp_ge h 32 (by decide) dc_NL_textWithoutPairs_12 15 rfl (fun c12 => ?_) (fun c12 => absurd (nI_le (Nat.le_refl _) (by omega)) c12)
      refine jl_lload_n (i := 1) h rfl rfl dc_NL_textWithoutPairs_32 33 rfl ?_
      exact jl_lret h he (rfl) (rfl) dc_NL_textWithoutPairs_33
    | succ d ih =>
      intro k hk
      refine jl_iload_n (i := 3) h rfl rfl dc_NL_textWithoutPairs_4 5 rfl ?_
      refine jl_aload_n (i := 0) h rfl rfl dc_NL_textWithoutPairs_5 6 rfl ?_
      refine jl_getf h nm_c_NL 7 wl_NL_39 (by omega) (by decide) (by exact rfl) (by rfl) dc_NL_textWithoutPairs_6 9 rfl ?_
      refine jl_callV (As := []) (rest := [_]) h hr vs_NL_65 vi_ST_size vx_ST_size (ci := 1) rfl (by omega) (by exact hST) (fun l => c_ST_size l (by omega) hS) (by first | decide | omega) (by first | decide | omega) rfl rfl (Nat.le_of_ble_eq_true rfl) dc_NL_textWithoutPairs_9 (res := [_, _]) rfl 12 rfl ?_
      refine jl_icmp_ge h 32 (by decide) dc_NL_textWithoutPairs_12 15 rfl (fun c12 => absurd c12 (nI_ge (by omega) (by omega))) (fun c12 => ?_)
      refine jl_lload_n (i := 1) h rfl rfl dc_NL_textWithoutPairs_15 16 rfl ?_
      refine jl_ldc2 h wk_NL_134 dc_NL_textWithoutPairs_16 19 rfl ?_
      refine jl_iload_n (i := 3) h rfl rfl dc_NL_textWithoutPairs_19 20 rfl ?_
      refine jl_callS (As := [_]) (rest := [_, _]) h hr vs_NL_57 vt_NL_shiftOf (fun l => c_NL_shiftOf l (show k < 18 by omega)) (by first | decide | omega) (by first | decide | omega) rfl rfl (Nat.le_of_ble_eq_true rfl) dc_NL_textWithoutPairs_20 (res := [_, _, _]) rfl 23 rfl ?_
      refine jl_lshl (v := iL (2 * nl_4 k)) h (nl_shl2 k (by omega)) dc_NL_textWithoutPairs_23 24 rfl ?_
      refine jl_ladd h dc_NL_textWithoutPairs_24 25 rfl ?_
      rw [show iL (nl_t0 k) + iL (2 * nl_4 k) = iL (nl_t0 (k + 1)) by exact iL_add _ _]
      refine jl_lstore_n (i := 1) (lc2 := [(1, _), (3, _), (0, _)]) h rfl (by decide) rfl dc_NL_textWithoutPairs_25 26 rfl ?_
      refine jl_iinc (i := 3) (d := 1) (lc2 := [(3, _), (1, _), (0, _)]) (v2 := nI (k + 1)) h (by decide) rfl (nI_1 k) rfl dc_NL_textWithoutPairs_26 29 rfl ?_
      refine jl_goto h 4 (by decide) dc_NL_textWithoutPairs_29 ?_
      exact ih (k + 1) (by omega)
  refine jl_lconst (v := 0) h (by decide) dc_NL_textWithoutPairs_0 1 rfl ?_
  refine jl_lstore_n (i := 1) (lc2 := [(1, _), (0, _)]) h rfl (by decide) rfl dc_NL_textWithoutPairs_1 2 rfl ?_
  refine jl_iconst (v := nI 0) h (by decide) dc_NL_textWithoutPairs_2 3 rfl ?_
  refine jl_istore_n (i := 3) (lc2 := [(3, _), (1, _), (0, _)]) h rfl (by decide) rfl dc_NL_textWithoutPairs_3 4 rfl ?_
  exact loop n 0 (by omega)
theorem c_NL_setRegion {k r s e : Nat} (hk : k < 40) (hr4 : r < 4) : jl_C l K sa yn_NL_setRegion bc_NL_setRegion 5 none 0 0 168 ad [.ref (ad 148), .int (nI k), .ref (ad (64 + 21 * r)), .int (nI s), .int (nI e)] (gw K ad I V L C G R) none (gw K ad I (va_up (va_up V 151 (upd (V 151) k (nI s))) 152 (upd (V 152) k (nI e))) L C G (va_up R k (64 + 21 * r))) := by
  refine jl_enter (by decide) (Nat.le_of_ble_eq_true rfl) (fun x h he hr => ?_)
  show jl_J x 168 ad 0 0 (gw K ad I V L C G R) 0 [(0, .ref (ad 148)), (1, .int (nI k)), (2, .ref (ad (64 + 21 * r))), (3, .int (nI s)), (4, .int (nI e))] []
  refine jl_aload_n (i := 0) h rfl rfl dc_NL_setRegion_0 1 rfl ?_
  refine jl_getf h nm_c_NL 4 wl_NL_28 (by omega) (by decide) (by exact rfl) (by rfl) dc_NL_setRegion_1 4 rfl ?_
  refine jl_iload_n (i := 1) h rfl rfl dc_NL_setRegion_4 5 rfl ?_
  refine jl_aload_n (i := 2) h rfl rfl dc_NL_setRegion_5 6 rfl ?_
  refine jl_aast (t0 := 3) h nm_c_RE (k) (by exact rfl) (by omega) (by exact rfl) (by rfl) (by omega) (by exact gw_re hr4) (by exact hk) (by first | decide | assumption) dc_NL_setRegion_6 (gw_setRf _ _) 7 rfl ?_
  refine jl_aload_n (i := 0) h rfl rfl dc_NL_setRegion_7 8 rfl ?_
  refine jl_getf h nm_c_NL 5 wl_NL_32 (by omega) (by decide) (by exact rfl) (by rfl) dc_NL_setRegion_8 11 rfl ?_
  refine jl_iload_n (i := 1) h rfl rfl dc_NL_setRegion_11 12 rfl ?_
  refine jl_iload_n (i := 3) h rfl rfl dc_NL_setRegion_12 13 rfl ?_
  refine jl_iast h (k) (by exact rfl) (by omega) (by exact gw_row ⟨rfl, rfl⟩) (by exact hk) (by first | decide | assumption) dc_NL_setRegion_13 (gw_rowset ⟨rfl, rfl⟩ _) 14 rfl ?_
  refine jl_aload_n (i := 0) h rfl rfl dc_NL_setRegion_14 15 rfl ?_
  refine jl_getf h nm_c_NL 6 wl_NL_36 (by omega) (by decide) (by exact rfl) (by rfl) dc_NL_setRegion_15 18 rfl ?_
  refine jl_iload_n (i := 1) h rfl rfl dc_NL_setRegion_18 19 rfl ?_
  refine jl_iload h rfl dc_NL_setRegion_19 21 rfl ?_
  refine jl_iast h (k) (by exact rfl) (by omega) (by exact gw_row ⟨rfl, rfl⟩) (by exact hk) (by first | decide | assumption) dc_NL_setRegion_21 (gw_rowset ⟨rfl, rfl⟩ _) 22 rfl ?_
  exact jl_vret h he (rfl) (by rfl) dc_NL_setRegion_22
end NL
end
section
/-! FoldedStrand$NearList: energyAt, character, insert. -/
theorem nl_shr {z : Int} (h1 : -9223372036854775808 ≤ z) (h2 : z < 9223372036854775808) (s : Nat) (hs : s < 64) : iL z >>> Int64.ofNat s = iL (z / 2 ^ s) := by
  have hp : (0 : Int) < 2 ^ s := Int.pow_pos (by decide)
  have hd1 : -9223372036854775808 ≤ z / 2 ^ s := by
    rcases Int.le_total 0 z with h | h
    · have := Int.ediv_nonneg h (Int.le_of_lt hp)
      omega
    · have h3 : z ≤ z / 2 ^ s := by
        rw [Int.le_ediv_iff_mul_le hp]
        have h4 : (1 : Int) ≤ 2 ^ s := hp
        have h5 := Int.mul_le_mul_of_nonpos_left h h4
        omega
      omega
  have hd2 : z / 2 ^ s < 9223372036854775808 := by
    rcases Int.le_total 0 z with h | h
    · have := Int.ediv_le_self (2 ^ s) h
      omega
    · have := Int.ediv_le_ediv (b := 0) hp h
      rw [Int.zero_ediv] at this
      omega
  apply Int64.toInt_inj.mp
  rw [iL_toInt hd1 hd2]
  have e : (iL z >>> Int64.ofNat s).toBitVec = (iL z).toBitVec.sshiftRight s := by
    show (iL z).toBitVec.sshiftRight' ((Int64.ofNat s).toBitVec.smod 64) = _
    have h3 : ∀ s, s < 64 → ((Int64.ofNat s).toBitVec.smod 64).toNat = s := by decide +kernel
    unfold BitVec.sshiftRight'
    rw [h3 s hs]
  show (iL z >>> Int64.ofNat s).toBitVec.toInt = _
  rw [e, BitVec.toInt_sshiftRight]
  have h5 : (iL z).toBitVec.toInt = z := iL_toInt h1 h2
  rw [h5, Int.shiftRight_eq_div_pow]
  simp
theorem nl_sh36 : ((36 : Int32).toInt64 &&& 63) = Int64.ofNat 36 := by decide
theorem nl_shp : ∀ p, p < 18 → ((nI (2 * (17 - p))).toInt64 &&& 63) = Int64.ofNat (2 * (17 - p)) := by decide +kernel
theorem nl_l2i (y : Int) : (iL y).toInt32 = iI y := by
  apply Int32.toInt_inj.mp
  unfold iL iI
  rw [Int64.toInt_toInt32, Int64.toInt_ofInt, Int32.toInt_ofInt]
  exact Int.bmod_bmod_of_dvd (by decide)
theorem nl_and3 (y : Int) : iI y &&& 3 = nI (y % 4).toNat := by
  rw [pk_and (iI y) 2 (by decide)]
  congr 1
  have e : ((iI y).toBitVec.toNat : Int) = y % 4294967296 := by
    show ((BitVec.ofInt 32 y).toNat : Int) = _
    rw [BitVec.toNat_ofInt]
    omega
  have h4 : ((2 : Nat) ^ 2) = 4 := by decide
  rw [h4]
  omega
def nl_ch (z : Int) : Int32 := if z = 0 then 40 else if z = 1 then 41 else 46
def nl_ins (z : Int) : List Int → List Int
  | [] => [z]
  | a :: l => if z < a then z :: a :: l else a :: nl_ins z l
theorem nl_ins_len (z : Int) : ∀ ks : List Int, (nl_ins z ks).length = ks.length + 1
  | [] => rfl
  | a :: l => by
    unfold nl_ins
    split
    · rfl
    · simp [nl_ins_len z l]
theorem nl_ins_get (z : Int) : ∀ (ks : List Int) (p : Nat), p ≤ ks.length → (∀ k, k < p → ks.getD k 0 ≤ z) → (∀ k, p ≤ k → k < ks.length → z < ks.getD k 0) → ∀ k, k ≤ ks.length → (nl_ins z ks).getD k 0 = if k < p then ks.getD k 0 else if k = p then z else ks.getD (k - 1) 0
  | [], p, hp, _, _, k, hk => by
    have hp : p = 0 := by simpa using hp
    have hk : k = 0 := by simpa using hk
    subst hp
    subst hk
    rfl
  | a :: l, p, hp, h1, h2, k, hk => by
    rw [List.length_cons] at hp hk
    unfold nl_ins
    by_cases h : z < a
    · have hp0 : p = 0 := by
        rcases Nat.eq_zero_or_pos p with h3 | h3
        · exact h3
        · have h4 : a ≤ z := h1 0 h3
          omega
      subst hp0
      rw [if_pos h, if_neg (by omega)]
      cases k with
      | zero => rfl
      | succ k => rw [if_neg (by omega)]; rfl
    · rw [if_neg h]
      cases p with
      | zero =>
        have h4 : z < a := h2 0 (Nat.le_refl 0) (by simp)
        exact absurd h4 h
      | succ p =>
        cases k with
        | zero =>
          rw [if_pos (by omega)]
          rfl
        | succ k =>
          have ih := nl_ins_get z l p (by omega) (fun k hk => h1 (k + 1) (by omega)) (fun k hk1 hk2 => h2 (k + 1) (by omega) (by simp; omega)) k (by omega)
          show (nl_ins z l).getD k 0 = _
          rw [ih]
          by_cases h5 : k < p
          · rw [if_pos h5, if_pos (show k + 1 < p + 1 by omega)]
            rfl
          · rw [if_neg h5, if_neg (show ¬ k + 1 < p + 1 by omega)]
            by_cases h6 : k = p
            · rw [if_pos h6, if_pos (show k + 1 = p + 1 by omega)]
            · rw [if_neg h6, if_neg (show ¬ k + 1 = p + 1 by omega)]
              cases k with
              | zero => omega
              | succ k => rfl
theorem nl_lgc {a c : Int} (ha1 : -9223372036854775808 ≤ a) (ha2 : a < 9223372036854775808) (hc1 : -9223372036854775808 ≤ c) (hc2 : c < 9223372036854775808) : lg_cmp (iL a) (iL c) ≤ 0 ↔ a ≤ c := by
  unfold lg_cmp
  have h1 := iL_lt hc1 hc2 ha1 ha2
  by_cases h : c < a
  · rw [if_pos (h1.mpr h)]
    constructor
    · intro q
      exact absurd q (by decide)
    · intro q
      omega
  · rw [if_neg (fun q => h (h1.mp q))]
    constructor
    · intro _
      omega
    · intro _
      split <;> decide
theorem jl_absL {x : jl_X} {N : Nat} {ad : Nat → Nat} {K : Nat → ClassId} {cells slots pc : Nat} {lc : List (Nat × Value)} {st : List Value} {I : Nat → Int32} {V : Nat → Nat → Int32} {C : Nat → Int32} {G R : Nat → Nat} {P : (Nat → Int64) → Prop} {L0 : Nat → Int64} (h : P L0) (kk : ∀ L1, P L1 → jl_J x N ad cells slots (gw K ad I V L1 C G R) pc lc st) : jl_J x N ad cells slots (gw K ad I V L0 C G R) pc lc st := kk L0 h
/-- the list in the arrays -/
def nl_K (ks : List Int) (L : Nat → Int64) : Prop := ∀ k, k < ks.length → L k = iL (ks.getD k 0)
def nl_big (z : Int) : Prop := -4611686018427387904 ≤ z ∧ z ≤ 4611686018427387904
abbrev bc_NL_energyAt : ByteArray := prog_4_method_5_code
abbrev yn_NL_energyAt : MethodName := ⟨"FoldedStrand$NearList", "energyAt", "(I)I"⟩
theorem wl_NL_11 : Cond.fieldLink "FoldedStrand$NearList" 11 "FoldedStrand$NearList" "keys" "[J" ∈ jl_T := jl_T_of 116 (by decide +kernel) (by decide +kernel)
theorem dc_NL_energyAt_0 : decode bc_NL_energyAt 0 = .ok (.aload_n 0, 1) := by decide +kernel
theorem dc_NL_energyAt_1 : decode bc_NL_energyAt 1 = .ok (.getfield 11, 3) := by decide +kernel
theorem dc_NL_energyAt_4 : decode bc_NL_energyAt 4 = .ok (.iload_n 1, 1) := by decide +kernel
theorem dc_NL_energyAt_5 : decode bc_NL_energyAt 5 = .ok (.laload, 1) := by decide +kernel
theorem dc_NL_energyAt_6 : decode bc_NL_energyAt 6 = .ok (.bipush 36, 2) := by decide +kernel
theorem dc_NL_energyAt_8 : decode bc_NL_energyAt 8 = .ok (.lshr, 1) := by decide +kernel
theorem dc_NL_energyAt_9 : decode bc_NL_energyAt 9 = .ok (.l2i, 1) := by decide +kernel
theorem dc_NL_energyAt_10 : decode bc_NL_energyAt 10 = .ok (.ireturn, 1) := by decide +kernel
abbrev bc_NL_character : ByteArray := prog_4_method_6_code
abbrev yn_NL_character : MethodName := ⟨"FoldedStrand$NearList", "character", "(II)C"⟩
theorem dc_NL_character_0 : decode bc_NL_character 0 = .ok (.aload_n 0, 1) := by decide +kernel
theorem dc_NL_character_1 : decode bc_NL_character 1 = .ok (.getfield 11, 3) := by decide +kernel
theorem dc_NL_character_4 : decode bc_NL_character 4 = .ok (.iload_n 1, 1) := by decide +kernel
theorem dc_NL_character_5 : decode bc_NL_character 5 = .ok (.laload, 1) := by decide +kernel
theorem dc_NL_character_6 : decode bc_NL_character 6 = .ok (.iload_n 2, 1) := by decide +kernel
theorem dc_NL_character_7 : decode bc_NL_character 7 = .ok (.invokestatic 57, 3) := by decide +kernel
theorem dc_NL_character_10 : decode bc_NL_character 10 = .ok (.lshr, 1) := by decide +kernel
theorem dc_NL_character_11 : decode bc_NL_character 11 = .ok (.l2i, 1) := by decide +kernel
theorem dc_NL_character_12 : decode bc_NL_character 12 = .ok (.iconst 3, 1) := by decide +kernel
theorem dc_NL_character_13 : decode bc_NL_character 13 = .ok (.iand, 1) := by decide +kernel
theorem dc_NL_character_14 : decode bc_NL_character 14 = .ok (.istore_n 3, 1) := by decide +kernel
theorem dc_NL_character_15 : decode bc_NL_character 15 = .ok (.iload_n 3, 1) := by decide +kernel
theorem dc_NL_character_16 : decode bc_NL_character 16 = .ok (.ifCond .ne 8, 3) := by decide +kernel
theorem dc_NL_character_19 : decode bc_NL_character 19 = .ok (.bipush 40, 2) := by decide +kernel
theorem dc_NL_character_21 : decode bc_NL_character 21 = .ok (.goto 15, 3) := by decide +kernel
theorem dc_NL_character_24 : decode bc_NL_character 24 = .ok (.iload_n 3, 1) := by decide +kernel
theorem dc_NL_character_25 : decode bc_NL_character 25 = .ok (.iconst 1, 1) := by decide +kernel
theorem dc_NL_character_26 : decode bc_NL_character 26 = .ok (.if_icmp .ne 8, 3) := by decide +kernel
theorem dc_NL_character_29 : decode bc_NL_character 29 = .ok (.bipush 41, 2) := by decide +kernel
theorem dc_NL_character_31 : decode bc_NL_character 31 = .ok (.goto 5, 3) := by decide +kernel
theorem dc_NL_character_34 : decode bc_NL_character 34 = .ok (.bipush 46, 2) := by decide +kernel
theorem dc_NL_character_36 : decode bc_NL_character 36 = .ok (.ireturn, 1) := by decide +kernel
abbrev bc_NL_insert : ByteArray := prog_4_method_11_code
abbrev yn_NL_insert : MethodName := ⟨"FoldedStrand$NearList", "insert", "(IJ)V"⟩
theorem wl_NL_19 : Cond.fieldLink "FoldedStrand$NearList" 19 "FoldedStrand$NearList" "tooMany" "Z" ∈ jl_T := jl_T_of 118 (by decide +kernel) (by decide +kernel)
theorem dc_NL_insert_0 : decode bc_NL_insert 0 = .ok (.aload_n 0, 1) := by decide +kernel
theorem dc_NL_insert_1 : decode bc_NL_insert 1 = .ok (.getfield 15, 3) := by decide +kernel
theorem dc_NL_insert_4 : decode bc_NL_insert 4 = .ok (.sipush 150, 3) := by decide +kernel
theorem dc_NL_insert_7 : decode bc_NL_insert 7 = .ok (.if_icmp .lt 9, 3) := by decide +kernel
theorem dc_NL_insert_10 : decode bc_NL_insert 10 = .ok (.aload_n 0, 1) := by decide +kernel
theorem dc_NL_insert_11 : decode bc_NL_insert 11 = .ok (.iconst 1, 1) := by decide +kernel
theorem dc_NL_insert_12 : decode bc_NL_insert 12 = .ok (.putfield 19, 3) := by decide +kernel
theorem dc_NL_insert_15 : decode bc_NL_insert 15 = .ok (.return_, 1) := by decide +kernel
theorem dc_NL_insert_16 : decode bc_NL_insert 16 = .ok (.iload_n 1, 1) := by decide +kernel
theorem dc_NL_insert_17 : decode bc_NL_insert 17 = .ok (.i2l, 1) := by decide +kernel
theorem dc_NL_insert_18 : decode bc_NL_insert 18 = .ok (.bipush 36, 2) := by decide +kernel
theorem dc_NL_insert_20 : decode bc_NL_insert 20 = .ok (.lshl, 1) := by decide +kernel
theorem dc_NL_insert_21 : decode bc_NL_insert 21 = .ok (.lload_n 2, 1) := by decide +kernel
theorem dc_NL_insert_22 : decode bc_NL_insert 22 = .ok (.ladd, 1) := by decide +kernel
theorem dc_NL_insert_23 : decode bc_NL_insert 23 = .ok (.lstore 4, 2) := by decide +kernel
theorem dc_NL_insert_25 : decode bc_NL_insert 25 = .ok (.aload_n 0, 1) := by decide +kernel
theorem dc_NL_insert_26 : decode bc_NL_insert 26 = .ok (.getfield 15, 3) := by decide +kernel
theorem dc_NL_insert_29 : decode bc_NL_insert 29 = .ok (.istore 6, 2) := by decide +kernel
theorem dc_NL_insert_31 : decode bc_NL_insert 31 = .ok (.iload 6, 2) := by decide +kernel
theorem dc_NL_insert_33 : decode bc_NL_insert 33 = .ok (.ifCond .le 40, 3) := by decide +kernel
theorem dc_NL_insert_36 : decode bc_NL_insert 36 = .ok (.aload_n 0, 1) := by decide +kernel
theorem dc_NL_insert_37 : decode bc_NL_insert 37 = .ok (.getfield 11, 3) := by decide +kernel
theorem dc_NL_insert_40 : decode bc_NL_insert 40 = .ok (.iload 6, 2) := by decide +kernel
theorem dc_NL_insert_42 : decode bc_NL_insert 42 = .ok (.iconst 1, 1) := by decide +kernel
theorem dc_NL_insert_43 : decode bc_NL_insert 43 = .ok (.isub, 1) := by decide +kernel
theorem dc_NL_insert_44 : decode bc_NL_insert 44 = .ok (.laload, 1) := by decide +kernel
theorem dc_NL_insert_45 : decode bc_NL_insert 45 = .ok (.lload 4, 2) := by decide +kernel
theorem dc_NL_insert_47 : decode bc_NL_insert 47 = .ok (.lcmp, 1) := by decide +kernel
theorem dc_NL_insert_48 : decode bc_NL_insert 48 = .ok (.ifCond .le 25, 3) := by decide +kernel
theorem dc_NL_insert_51 : decode bc_NL_insert 51 = .ok (.aload_n 0, 1) := by decide +kernel
theorem dc_NL_insert_52 : decode bc_NL_insert 52 = .ok (.getfield 11, 3) := by decide +kernel
theorem dc_NL_insert_55 : decode bc_NL_insert 55 = .ok (.iload 6, 2) := by decide +kernel
theorem dc_NL_insert_57 : decode bc_NL_insert 57 = .ok (.aload_n 0, 1) := by decide +kernel
theorem dc_NL_insert_58 : decode bc_NL_insert 58 = .ok (.getfield 11, 3) := by decide +kernel
theorem dc_NL_insert_61 : decode bc_NL_insert 61 = .ok (.iload 6, 2) := by decide +kernel
theorem dc_NL_insert_63 : decode bc_NL_insert 63 = .ok (.iconst 1, 1) := by decide +kernel
theorem dc_NL_insert_64 : decode bc_NL_insert 64 = .ok (.isub, 1) := by decide +kernel
theorem dc_NL_insert_65 : decode bc_NL_insert 65 = .ok (.laload, 1) := by decide +kernel
theorem dc_NL_insert_66 : decode bc_NL_insert 66 = .ok (.lastore, 1) := by decide +kernel
theorem dc_NL_insert_67 : decode bc_NL_insert 67 = .ok (.iinc 6 (-1), 3) := by decide +kernel
theorem dc_NL_insert_70 : decode bc_NL_insert 70 = .ok (.goto (-39), 3) := by decide +kernel
theorem dc_NL_insert_73 : decode bc_NL_insert 73 = .ok (.aload_n 0, 1) := by decide +kernel
theorem dc_NL_insert_74 : decode bc_NL_insert 74 = .ok (.getfield 11, 3) := by decide +kernel
theorem dc_NL_insert_77 : decode bc_NL_insert 77 = .ok (.iload 6, 2) := by decide +kernel
theorem dc_NL_insert_79 : decode bc_NL_insert 79 = .ok (.lload 4, 2) := by decide +kernel
theorem dc_NL_insert_81 : decode bc_NL_insert 81 = .ok (.lastore, 1) := by decide +kernel
theorem dc_NL_insert_82 : decode bc_NL_insert 82 = .ok (.aload_n 0, 1) := by decide +kernel
theorem dc_NL_insert_83 : decode bc_NL_insert 83 = .ok (.dup, 1) := by decide +kernel
theorem dc_NL_insert_84 : decode bc_NL_insert 84 = .ok (.getfield 15, 3) := by decide +kernel
theorem dc_NL_insert_87 : decode bc_NL_insert 87 = .ok (.iconst 1, 1) := by decide +kernel
theorem dc_NL_insert_88 : decode bc_NL_insert 88 = .ok (.iadd, 1) := by decide +kernel
theorem dc_NL_insert_89 : decode bc_NL_insert 89 = .ok (.putfield 15, 3) := by decide +kernel
theorem dc_NL_insert_92 : decode bc_NL_insert 92 = .ok (.return_, 1) := by decide +kernel
section NL
variable (l : Launch) {K : Nat → ClassId} {sa : Nat → Nat} {N : Nat} {ad : Nat → Nat} {E : Nat → va_E} {I : Nat → Int32} {V : Nat → Nat → Int32} {L : Nat → Int64} {C : Nat → Int32} {G : Nat → Nat} {R : Nat → Nat} {n : Nat} {b : Nat → Nat}
theorem c_NL_energyAt {k : Nat} (hk : k < 150) {z : Int} (hz : nl_big z) (hL : L k = iL z) : jl_C l K sa yn_NL_energyAt bc_NL_energyAt 2 (some .int) 0 0 168 ad [.ref (ad 148), .int (nI k)] (gw K ad I V L C G R) (some (.int (iI (z / 68719476736)))) (gw K ad I V L C G R) := by
  refine jl_enter (by decide) (Nat.le_of_ble_eq_true rfl) (fun x h he hr => ?_)
  show jl_J x 168 ad 0 0 (gw K ad I V L C G R) 0 [(0, .ref (ad 148)), (1, .int (nI k))] []
  unfold nl_big at hz
  refine jl_aload_n (i := 0) h rfl rfl dc_NL_energyAt_0 1 rfl ?_
  refine jl_getf h nm_c_NL 0 wl_NL_11 (by omega) (by decide) (by exact rfl) (by rfl) dc_NL_energyAt_1 4 rfl ?_
  refine jl_iload_n (i := 1) h rfl rfl dc_NL_energyAt_4 5 rfl ?_
  refine jl_lald (v := iL z) h (k) (by exact rfl) (by omega) (by exact rfl) (by exact hk) (by first | decide | assumption) (by exact hL) dc_NL_energyAt_5 6 rfl ?_
  refine jl_bipush (v := 36) h (by decide) dc_NL_energyAt_6 8 rfl ?_
  refine jl_lshr (v := iL (z / 68719476736)) h (by rw [nl_sh36]; exact nl_shr (by omega) (by omega) 36 (by decide)) dc_NL_energyAt_8 9 rfl ?_
  refine jl_l2i (v := iI (z / 68719476736)) h (nl_l2i _) dc_NL_energyAt_9 10 rfl ?_
  exact jl_zret h he rfl (rfl) (rfl) dc_NL_energyAt_10
theorem c_NL_character {k p : Nat} (hk : k < 150) (hp : p < 18) {z : Int} (hz : nl_big z) (hL : L k = iL z) : jl_C l K sa yn_NL_character bc_NL_character 4 (some .char) 1 25 168 ad [.ref (ad 148), .int (nI k), .int (nI p)] (gw K ad I V L C G R) (some (.int (nl_ch (z / nl_4 p % 4)))) (gw K ad I V L C G R) := by
  refine jl_enter (by decide) (Nat.le_of_ble_eq_true rfl) (fun x h he hr => ?_)
  show jl_J x 168 ad 0 0 (gw K ad I V L C G R) 0 [(0, .ref (ad 148)), (1, .int (nI k)), (2, .int (nI p))] []
  unfold nl_big at hz
  have e4 : (2 : Int) ^ (2 * (17 - p)) = nl_4 p := by
    unfold nl_4
    rw [Int.pow_mul]
    rfl
  have hm : 0 ≤ z / nl_4 p % 4 ∧ z / nl_4 p % 4 < 4 := ⟨Int.emod_nonneg _ (by decide), Int.emod_lt_of_pos _ (by decide)⟩
  have z0 : (0 : Int32) = nI 0 := rfl
  have z1 : (1 : Int32) = nI 1 := rfl
  refine jl_aload_n (i := 0) h rfl rfl dc_NL_character_0 1 rfl ?_
  refine jl_getf h nm_c_NL 0 wl_NL_11 (by omega) (by decide) (by exact rfl) (by rfl) dc_NL_character_1 4 rfl ?_
  refine jl_iload_n (i := 1) h rfl rfl dc_NL_character_4 5 rfl ?_
  refine jl_lald (v := iL z) h (k) (by exact rfl) (by omega) (by exact rfl) (by exact hk) (by first | decide | assumption) (by exact hL) dc_NL_character_5 6 rfl ?_
  refine jl_iload_n (i := 2) h rfl rfl dc_NL_character_6 7 rfl ?_
  refine jl_callS (As := [_]) (rest := [_]) h hr vs_NL_57 vt_NL_shiftOf (fun l => c_NL_shiftOf l hp) (by first | decide | omega) (by first | decide | omega) rfl rfl (Nat.le_of_ble_eq_true rfl) dc_NL_character_7 (res := [_, _]) rfl 10 rfl ?_
  refine jl_lshr (v := iL (z / nl_4 p)) h (by rw [nl_shp p hp, ← e4]; exact nl_shr (by omega) (by omega) _ (by omega)) dc_NL_character_10 11 rfl ?_
  refine jl_l2i (v := iI (z / nl_4 p)) h (nl_l2i _) dc_NL_character_11 12 rfl ?_
  refine jl_iconst (v := 3) h (by decide) dc_NL_character_12 13 rfl ?_
  refine jl_iand h dc_NL_character_13 14 rfl ?_
  rw [show iI (z / nl_4 p) &&& 3 = nI (z / nl_4 p % 4).toNat by exact nl_and3 _]
  refine jl_istore_n (i := 3) (lc2 := [(3, _), (0, _), (1, _), (2, _)]) h rfl (by decide) rfl dc_NL_character_14 15 rfl ?_
  refine jl_iload_n (i := 3) h rfl rfl dc_NL_character_15 16 rfl ?_
  refine jl_if_ne h 24 (by decide) dc_NL_character_16 19 rfl (fun c16 => ?_) (fun c16 => ?_)
  · skip
    rw [z0, nI_eq (by omega) (by decide)] at c16
    refine jl_iload_n (i := 3) h rfl rfl dc_NL_character_24 25 rfl ?_
    refine jl_iconst (v := 1) h (by decide) dc_NL_character_25 26 rfl ?_
    refine jl_icmp_ne h 34 (by decide) dc_NL_character_26 29 rfl (fun c26 => ?_) (fun c26 => ?_)
    · skip
      rw [z1, nI_eq (by omega) (by decide)] at c26
      refine jl_bipush (v := 46) h (by decide) dc_NL_character_34 36 rfl ?_
      exact jl_zret h he rfl (by unfold nl_ch; first | rw [if_pos (by omega)] | rw [if_neg (by omega), if_pos (by omega)] | rw [if_neg (by omega), if_neg (by omega)]) (rfl) dc_NL_character_36
    · skip
      rw [z1, nI_eq (by omega) (by decide)] at c26
      refine jl_bipush (v := 41) h (by decide) dc_NL_character_29 31 rfl ?_
      refine jl_goto h 36 (by decide) dc_NL_character_31 ?_
      exact jl_zret h he rfl (by unfold nl_ch; first | rw [if_pos (by omega)] | rw [if_neg (by omega), if_pos (by omega)] | rw [if_neg (by omega), if_neg (by omega)]) (rfl) dc_NL_character_36
  · skip
    rw [z0, nI_eq (by omega) (by decide)] at c16
    refine jl_bipush (v := 40) h (by decide) dc_NL_character_19 21 rfl ?_
    refine jl_goto h 36 (by decide) dc_NL_character_21 ?_
    exact jl_zret h he rfl (by unfold nl_ch; first | rw [if_pos (by omega)] | rw [if_neg (by omega), if_pos (by omega)] | rw [if_neg (by omega), if_neg (by omega)]) (rfl) dc_NL_character_36
theorem c_NL_insert_full (hc : I 1 = nI 150) (e t : Int) : jl_C l K sa yn_NL_insert bc_NL_insert 7 none 0 0 168 ad [.ref (ad 148), .int (iI e), .long (iL t)] (gw K ad I V L C G R) none (gw K ad (va_up I 2 1) V L C G R) := by
  refine jl_enter (by decide) (Nat.le_of_ble_eq_true rfl) (fun x h he hr => ?_)
  show jl_J x 168 ad 0 0 (gw K ad I V L C G R) 0 [(0, .ref (ad 148)), (1, .int (iI e)), (2, .long (iL t))] []
  refine jl_aload_n (i := 0) h rfl rfl dc_NL_insert_0 1 rfl ?_
  refine jl_getf (v := .int (nI 150)) h nm_c_NL 1 wl_NL_15 (by omega) (by decide) (by exact rfl) (by exact sr_v hc) dc_NL_insert_1 4 rfl ?_
  refine jl_sipush (v := nI 150) h (by decide) dc_NL_insert_4 7 rfl ?_
  refine jl_icmp_lt h 16 (by decide) dc_NL_insert_7 10 rfl (fun c7 => absurd c7 (nI_nlt (Nat.le_refl _) (by decide))) (fun c7 => ?_)
  refine jl_aload_n (i := 0) h rfl rfl dc_NL_insert_10 11 rfl ?_
  refine jl_iconst (v := 1) h (by decide) dc_NL_insert_11 12 rfl ?_
  refine jl_putf (fs2 := [_, _, _, _, _, _, _, _, _, _]) h nm_c_NL 2 wl_NL_19 (by omega) (by decide) rfl (by exact rfl) (by rfl) (by rfl) (by exact Nat.le_of_ble_eq_true rfl) (by rfl) dc_NL_insert_12 (gw_set_tooMany _) 15 rfl ?_
  exact jl_vret h he (rfl) (rfl) dc_NL_insert_15
theorem c_NL_insert {ks : List Int} (hc : I 1 = nI ks.length) (hlen : ks.length < 150) (hK : nl_K ks L) (hs : ks.Pairwise (· ≤ ·)) (hbig : ∀ z ∈ ks, nl_big z) {e t : Int} (he1 : -1000000000 ≤ e) (he2 : e ≤ 1000000000) (hz : nl_big (e * 68719476736 + t)) : jl_CP l K sa yn_NL_insert bc_NL_insert 7 none 0 0 168 ad [.ref (ad 148), .int (iI e), .long (iL t)] (gw K ad I V L C G R) (fun v E2 => v = none ∧ ∃ L2, nl_K (nl_ins (e * 68719476736 + t) ks) L2 ∧ E2 = gw K ad (va_up I 1 (nI (ks.length + 1))) V L2 C G R) := by
  refine jl_enterP (by decide) (Nat.le_of_ble_eq_true rfl) (fun x h he hr => ?_)
  show jl_J x 168 ad 0 0 (gw K ad I V L C G R) 0 [(0, .ref (ad 148)), (1, .int (iI e)), (2, .long (iL t))] []
  obtain ⟨z, hzz⟩ : ∃ z, z = e * 68719476736 + t := ⟨_, rfl⟩
  rw [← hzz] at hz he
  have hbk : ∀ k, k < ks.length → nl_big (ks.getD k 0) := fun k hk => by
    rw [List.getD_eq_getElem?_getD, List.getElem?_eq_getElem hk]
    exact hbig _ (List.getElem_mem hk)
  have hsrt : ∀ i j, i < j → j < ks.length → ks.getD i 0 ≤ ks.getD j 0 := fun i j hij hj => by
    rw [List.getD_eq_getElem?_getD, List.getD_eq_getElem?_getD, List.getElem?_eq_getElem hj, List.getElem?_eq_getElem (Nat.lt_trans hij hj)]
    exact List.pairwise_iff_getElem.mp hs i j (Nat.lt_trans hij hj) hj hij
  have ekey : iL e <<< ((36 : Int32).toInt64 &&& 63) + iL t = iL z := by rw [nl_shl36, iL_add, hzz]
  have fin : ∀ (p : Nat) (L1 : Nat → Int64), p ≤ ks.length → (∀ k, k < p → L1 k = iL (ks.getD k 0)) → (∀ k, p < k → k ≤ ks.length → L1 k = iL (ks.getD (k - 1) 0)) → (∀ k, p ≤ k → k < ks.length → z < ks.getD k 0) → (∀ k, k < p → ks.getD k 0 ≤ z) → jl_J x 168 ad 0 0 (gw K ad I V L1 C G R) 73 [(6, .int (nI p)), (4, .long (iL z)), (0, .ref (ad 148)), (1, .int (iI e)), (2, .long (iL t))] [] := by
    intro p L1 hp g1 g2 g3 g4
    have hfin : nl_K (nl_ins z ks) (vp_updL L1 p (iL z)) := by
      intro k hk
      rw [nl_ins_len] at hk
      rw [nl_ins_get z ks p hp g4 g3 k (by omega)]
      unfold vp_updL
      by_cases h1 : k = p
      · rw [if_pos h1, if_neg (by omega), if_pos h1]
      · rw [if_neg h1]
        by_cases h2 : k < p
        · rw [if_pos h2]
          exact g1 k h2
        · rw [if_neg h2, if_neg h1]
          exact g2 k (by omega) (by omega)
    refine jl_aload_n (i := 0) h rfl rfl dc_NL_insert_73 74 rfl ?_
    refine jl_getf h nm_c_NL 0 wl_NL_11 (by omega) (by decide) (by exact rfl) (by rfl) dc_NL_insert_74 77 rfl ?_
    refine jl_iload h rfl dc_NL_insert_77 79 rfl ?_
    refine jl_lload h rfl dc_NL_insert_79 81 rfl ?_
    refine jl_last h (p) (by exact rfl) (by omega) (by exact rfl) (by exact by omega) (by first | decide | assumption) dc_NL_insert_81 (gw_set_L _) 82 rfl ?_
    refine jl_aload_n (i := 0) h rfl rfl dc_NL_insert_82 83 rfl ?_
    refine jl_dup h rfl dc_NL_insert_83 84 rfl ?_
    refine jl_getf (v := .int (nI ks.length)) h nm_c_NL 1 wl_NL_15 (by omega) (by decide) (by exact rfl) (by exact sr_v hc) dc_NL_insert_84 87 rfl ?_
    refine jl_iconst (v := 1) h (by decide) dc_NL_insert_87 88 rfl ?_
    refine jl_iadd h dc_NL_insert_88 89 rfl ?_
    rw [show nI ks.length + 1 = nI (ks.length + 1) by exact nI_1 _]
    refine jl_putf (fs2 := [_, _, _, _, _, _, _, _, _, _]) h nm_c_NL 1 wl_NL_15 (by omega) (by decide) rfl (by exact rfl) (by rfl) (by rfl) (by exact Nat.le_of_ble_eq_true rfl) (by rfl) dc_NL_insert_89 (gw_set_count _) 92 rfl ?_
    exact jl_vretP h he (⟨rfl, _, hfin, rfl⟩) dc_NL_insert_92
  have loop : ∀ (p : Nat) (L1 : Nat → Int64), p ≤ ks.length → (∀ k, k < p → L1 k = iL (ks.getD k 0)) → (∀ k, p < k → k ≤ ks.length → L1 k = iL (ks.getD (k - 1) 0)) → (∀ k, p ≤ k → k < ks.length → z < ks.getD k 0) → jl_J x 168 ad 0 0 (gw K ad I V L1 C G R) 31 [(6, .int (nI p)), (4, .long (iL z)), (0, .ref (ad 148)), (1, .int (iI e)), (2, .long (iL t))] [] := by
    intro p
    induction p with
    | zero =>
      intro L1 hp g1 g2 g3
      have f0 := fin 0 L1 hp g1 g2 g3 (fun k hk => by omega)
      refine jl_iload h rfl dc_NL_insert_31 33 rfl ?_
      refine jl_if_le h 73 (by decide) dc_NL_insert_33 36 rfl (fun c33 => ?_) (fun c33 => absurd (by decide) c33)
      exact f0
    | succ p ih =>
      intro L1 hp g1 g2 g3
      have e1 : nI (p + 1) - 1 = nI p := nI_pred p
      have em : nI (p + 1) + Int32.ofInt (-1) = nI p := pk_m1 p
      have gp := g1 p (by omega)
      have hbp := hbk p (by omega)
      unfold nl_big at hbp hz
      have z0 : (0 : Int32) = nI 0 := rfl
      refine jl_iload h rfl dc_NL_insert_31 33 rfl ?_
      refine jl_if_le h 73 (by decide) dc_NL_insert_33 36 rfl (fun c33 => absurd c33 (fun q => by rw [z0] at q; exact absurd q (nI_ge (by omega) (by omega)))) (fun c33 => ?_)
      refine jl_aload_n (i := 0) h rfl rfl dc_NL_insert_36 37 rfl ?_
      refine jl_getf h nm_c_NL 0 wl_NL_11 (by omega) (by decide) (by exact rfl) (by rfl) dc_NL_insert_37 40 rfl ?_
      refine jl_iload h rfl dc_NL_insert_40 42 rfl ?_
      refine jl_iconst (v := 1) h (by decide) dc_NL_insert_42 43 rfl ?_
      refine jl_isub h dc_NL_insert_43 44 rfl ?_
      rw [show nI (p + 1) - 1 = nI p by exact e1]
      refine jl_lald (v := iL (ks.getD p 0)) h (p) (by exact rfl) (by omega) (by exact rfl) (by exact by omega) (by first | decide | assumption) (by exact gp) dc_NL_insert_44 45 rfl ?_
      refine jl_lload h rfl dc_NL_insert_45 47 rfl ?_
      refine jl_lcmp h dc_NL_insert_47 48 rfl ?_
      refine jl_if_le h 73 (by decide) dc_NL_insert_48 51 rfl (fun c48 => ?_) (fun c48 => ?_)
      · skip
        rw [nl_lgc (by omega) (by omega) (by omega) (by omega)] at c48
        exact fin (p + 1) L1 hp g1 g2 g3 (fun k hk => by
          by_cases h9 : k = p
          · rw [h9]; exact c48
          · exact Int.le_trans (hsrt k p (by omega) (by omega)) c48)
      · skip
        rw [nl_lgc (by omega) (by omega) (by omega) (by omega)] at c48
        refine jl_aload_n (i := 0) h rfl rfl dc_NL_insert_51 52 rfl ?_
        refine jl_getf h nm_c_NL 0 wl_NL_11 (by omega) (by decide) (by exact rfl) (by rfl) dc_NL_insert_52 55 rfl ?_
        refine jl_iload h rfl dc_NL_insert_55 57 rfl ?_
        refine jl_aload_n (i := 0) h rfl rfl dc_NL_insert_57 58 rfl ?_
        refine jl_getf h nm_c_NL 0 wl_NL_11 (by omega) (by decide) (by exact rfl) (by rfl) dc_NL_insert_58 61 rfl ?_
        refine jl_iload h rfl dc_NL_insert_61 63 rfl ?_
        refine jl_iconst (v := 1) h (by decide) dc_NL_insert_63 64 rfl ?_
        refine jl_isub h dc_NL_insert_64 65 rfl ?_
        rw [show nI (p + 1) - 1 = nI p by exact e1]
        refine jl_lald (v := iL (ks.getD p 0)) h (p) (by exact rfl) (by omega) (by exact rfl) (by exact by omega) (by first | decide | assumption) (by exact gp) dc_NL_insert_65 66 rfl ?_
        refine jl_last h (p + 1) (by exact rfl) (by omega) (by exact rfl) (by exact by omega) (by first | decide | assumption) dc_NL_insert_66 (gw_set_L _) 67 rfl ?_
        refine jl_iinc (i := 6) (d := -1) (lc2 := [(6, _), (4, _), (0, _), (1, _), (2, _)]) (v2 := nI p) h (by decide) rfl (em) rfl dc_NL_insert_67 70 rfl ?_
        refine jl_goto h 31 (by decide) dc_NL_insert_70 ?_
        refine ih _ (by omega) (fun k hk => ?_) (fun k hk1 hk2 => ?_) (fun k hk1 hk2 => ?_)
        · unfold vp_updL
          rw [if_neg (by omega)]
          exact g1 k (by omega)
        · unfold vp_updL
          by_cases h9 : k = p + 1
          · rw [if_pos h9, h9]; rfl
          · rw [if_neg h9]; exact g2 k (by omega) hk2
        · by_cases h9 : k = p
          · rw [h9]; omega
          · exact g3 k (by omega) hk2
  have l0 := loop ks.length L (Nat.le_refl _) hK (fun k h1 h2 => by omega) (fun k h1 h2 => by omega)
  refine jl_aload_n (i := 0) h rfl rfl dc_NL_insert_0 1 rfl ?_
  refine jl_getf (v := .int (nI ks.length)) h nm_c_NL 1 wl_NL_15 (by omega) (by decide) (by exact rfl) (by exact sr_v hc) dc_NL_insert_1 4 rfl ?_
  refine jl_sipush (v := nI 150) h (by decide) dc_NL_insert_4 7 rfl ?_
  refine jl_icmp_lt h 16 (by decide) dc_NL_insert_7 10 rfl (fun c7 => ?_) (fun c7 => absurd (nI_lt hlen (by decide)) c7)
  refine jl_iload_n (i := 1) h rfl rfl dc_NL_insert_16 17 rfl ?_
  refine jl_i2l (v := iL e) h (iL_of_iI (by omega) (by omega)) dc_NL_insert_17 18 rfl ?_
  refine jl_bipush (v := 36) h (by decide) dc_NL_insert_18 20 rfl ?_
  refine jl_lshl h rfl dc_NL_insert_20 21 rfl ?_
  refine jl_lload_n (i := 2) h rfl rfl dc_NL_insert_21 22 rfl ?_
  refine jl_ladd h dc_NL_insert_22 23 rfl ?_
  rw [show iL e <<< ((36 : Int32).toInt64 &&& 63) + iL t = iL z by exact ekey]
  refine jl_lstore (i := 4) (lc2 := [(4, _), (0, _), (1, _), (2, _)]) h (by decide) rfl dc_NL_insert_23 25 rfl ?_
  refine jl_aload_n (i := 0) h rfl rfl dc_NL_insert_25 26 rfl ?_
  refine jl_getf (v := .int (nI ks.length)) h nm_c_NL 1 wl_NL_15 (by omega) (by decide) (by exact rfl) (by exact sr_v hc) dc_NL_insert_26 29 rfl ?_
  refine jl_istore (i := 6) (lc2 := [(6, _), (4, _), (0, _), (1, _), (2, _)]) h (by decide) rfl dc_NL_insert_29 31 rfl ?_
  exact l0
end NL
end
section
/-! The search of FoldedStrand$NearList as lists: all ways to fill the open regions, with their energies and texts; a call of void with a postcondition. -/
theorem jl_callVV {x : jl_X} {N : Nat} {ad : Nat → Nat} {K : Nat → ClassId} {sa : Nat → Nat} {cells slots : Nat} {cc : ByteArray} {own : String} {n : Nat} {E : Nat → va_E} {pc : Nat} {lc : List (Nat × Value)} {st : List Value} {post : (Nat → va_E) → Prop} (h : jl_ok x N ad K sa cc own n) {fr lo fr2 lo2 : Nat} (hr : jl_r x fr lo cells slots) {y : MethodName} {cc2 : ByteArray} {nL2 : Nat} {ret2 : Option FieldType} {index na : Nat} (hv : jl_v own index y cc2 nL2 ret2 na) (hin : Cond.instanceMethod y ∈ jl_T) (hsel : Cond.selects y.cls y y ∈ jl_T) {k ci : Nat} {T : u_T} {M : Nat} {fs : List Value} (hc : jl_cl[ci]? = some (y.cls, T, M)) (hk : k < N) (hE : E k = .inr (ci, fs)) {As rest : List Value}
    (hC : ∀ l, jl_CP l K sa y cc2 nL2 ret2 fr2 lo2 N ad (.ref (ad k) :: As) E (fun v E2 => v = none ∧ post E2)) (hfr : fr2 + 1 ≤ fr) (hlo : 8 + (nL2 + 11) + lo2 ≤ lo) (hn : As.length = na) (hst : st = As.reverse ++ .ref (ad k) :: rest) (hW : (rest.map fun v => v.category).sum ≤ 8) (hd : decode cc pc = .ok (.invokevirtual index, 3))
    (pc2 : Nat) (hpc : pc + 3 = pc2) (kk : ∀ E2, post E2 → jl_J x N ad cells slots E2 pc2 lc rest) : jl_J x N ad cells slots E pc lc st := by
  refine jl_callVP h hr hv hin hsel hc hk hE hC hfr hlo hn hst hW hd pc2 hpc ?_
  rintro v E2 ⟨rfl, hp⟩
  exact kk E2 hp
def nl_F (b : Nat → Nat) : Nat → Option (Nat × Nat) → List (Nat × Nat × Nat) → Int → Int → List (Int × Int)
  | 0, _, _, _, _ => []
  | _ + 1, none, [], x, t => [(x, t)]
  | d + 1, none, (r, s, e) :: rest, x, t => (if r < 2 then nl_F b d none rest (x + fo_pp r * ((e : Int) - s)) t else []) ++ (List.range (e - s - 4)).flatMap (fun c => (List.range (e - 1 - c - 3 - s)).flatMap (fun c2 => if en_cp b (s + c2) (e - 1 - c) = true then nl_F b d (some (s + c2, e - 1 - c)) ((fo_af r, s, s + c2) :: rest) (x + fo_pp r * ((c : Nat) : Int) + (fo_pq r + lp_wk b (s + c2) (e - 1 - c) 5)) (t - nl_dt (s + c2) (e - 1 - c)) else []))
  | d + 1, some (i, j), regs, x, t => nl_F b d none regs (x + lp_hp b i j) t ++ ((List.range (j - i - 5)).flatMap (fun c => (List.range (j - 1 - c - 4 - i)).flatMap (fun c2 => if en_cp b (i + 1 + c2) (j - 1 - c) = true then nl_F b d (some (i + 1 + c2, j - 1 - c)) regs (x + lp_w1 b i j (i + 1 + c2) (j - 1 - c)) (t - nl_dt (i + 1 + c2) (j - 1 - c)) else [])) ++ nl_F b d none ((3, i + 1, j) :: regs) (x + (38 + lp_wk b i j 5)) t)
/-- one of them comes to the list, if its energy is within the limit -/
def nl_put (lim : Int) (ac : List Int × Bool) (c : Int × Int) : List Int × Bool := if ac.2 = true ∨ lim < c.1 then ac else if 150 ≤ ac.1.length then (ac.1, true) else (nl_ins (c.1 * 68719476736 + c.2) ac.1, false)
def nl_run (lim : Int) (ac : List Int × Bool) (cs : List (Int × Int)) : List Int × Bool := cs.foldl (nl_put lim) ac
theorem nl_run_app (lim : Int) (ac : List Int × Bool) (a c : List (Int × Int)) : nl_run lim ac (a ++ c) = nl_run lim (nl_run lim ac a) c := List.foldl_append
theorem nl_run_nil (lim : Int) (ac : List Int × Bool) : nl_run lim ac [] = ac := rfl
theorem nl_run_tm (lim : Int) (ac : List Int × Bool) (h : ac.2 = true) : ∀ cs, nl_run lim ac cs = ac
  | [] => rfl
  | c :: cs => by
    show nl_run lim (nl_put lim ac c) cs = ac
    have e : nl_put lim ac c = ac := by unfold nl_put; rw [if_pos (Or.inl h)]
    rw [e]
    exact nl_run_tm lim ac h cs
theorem nl_run_gt (lim : Int) (ac : List Int × Bool) : ∀ cs : List (Int × Int), (∀ c ∈ cs, lim < c.1) → nl_run lim ac cs = ac
  | [], _ => rfl
  | c :: cs, h => by
    show nl_run lim (nl_put lim ac c) cs = ac
    have e : nl_put lim ac c = ac := by unfold nl_put; rw [if_pos (Or.inr (h c List.mem_cons_self))]
    rw [e]
    exact nl_run_gt lim ac cs (fun c hc => h c (List.mem_cons_of_mem _ hc))
theorem nl_range_flat {α : Type} (f : Nat → List α) (c : Nat) : (List.range (c + 1)).flatMap f = (List.range c).flatMap f ++ f c := by
  rw [List.range_succ, List.flatMap_append]
  simp
/-- the least energies of the open regions -/
def nl_sum (T : Nat → Nat → Nat → Int) : List (Nat × Nat × Nat) → Int
  | [] => 0
  | (r, s, e) :: rest => T (2 + r) s e + nl_sum T rest
def nl_mu : List (Nat × Nat × Nat) → Nat
  | [] => 0
  | (_, s, e) :: rest => 2 * (e - s) + 1 + nl_mu rest
theorem nl_mu_len : ∀ regs : List (Nat × Nat × Nat), regs.length ≤ nl_mu regs
  | [] => Nat.le_refl 0
  | (_, s, e) :: rest => by
    have := nl_mu_len rest
    unfold nl_mu
    rw [List.length_cons]
    omega
def nl_W (n : Nat) (regs : List (Nat × Nat × Nat)) : Prop := ∀ q ∈ regs, q.1 < 4 ∧ q.2.1 ≤ q.2.2 ∧ q.2.2 ≤ n
/-- the tables are lower bounds -/
def nl_LB (b : Nat → Nat) (n : Nat) (pe : Nat → Nat → Int) (T : Nat → Nat → Nat → Int) : Prop :=
  (∀ r s e : Nat, r < 2 → s ≤ e → e ≤ n → T (2 + r) s e ≤ fo_pp r * ((e : Int) - s)) ∧
  (∀ r s i j e : Nat, r < 4 → s ≤ i → j < e → e ≤ n → en_cp b i j = true → T (2 + r) s e ≤ fo_pp r * ((e : Int) - 1 - j) + T (2 + fo_af r) s i + (fo_pq r + lp_wk b i j 5 + pe i j)) ∧
  (∀ i j : Nat, j < n → en_cp b i j = true → pe i j ≤ lp_hp b i j ∧ pe i j ≤ 38 + lp_wk b i j 5 + T 5 (i + 1) j ∧ ∀ k m : Nat, i < k → m < j → en_cp b k m = true → pe i j ≤ lp_w1 b i j k m + pe k m)
theorem en_cp_4 {b : Nat → Nat} {i j : Nat} (h : en_cp b i j = true) : i + 4 ≤ j ∧ 0 ≤ en_kd (b i) (b j) := by
  unfold en_cp at h
  simpa only [Bool.and_eq_true, decide_eq_true_eq] using h
theorem fo_af_lt {r : Nat} (h : r < 4) : fo_af r < 4 := by
  unfold fo_af
  split <;> omega
theorem nl_lb {b : Nat → Nat} {n : Nat} {pe : Nat → Nat → Int} {T : Nat → Nat → Nat → Int} (hLB : nl_LB b n pe T) : ∀ (d : Nat) (p : Option (Nat × Nat)) (regs : List (Nat × Nat × Nat)) (x t : Int), nl_W n regs → (∀ i j, p = some (i, j) → en_cp b i j = true ∧ j < n) → ∀ c ∈ nl_F b d p regs x t, x + (match p with | none => 0 | some (i, j) => pe i j) + nl_sum T regs ≤ c.1
  | 0, _, _, _, _, _, _, c, hc => by simp [nl_F] at hc
  | d + 1, none, [], x, t, _, _, c, hc => by
    simp only [nl_F, List.mem_singleton] at hc
    subst hc
    show x + 0 + 0 ≤ x
    omega
  | d + 1, none, (r, s, e) :: rest, x, t, hW, _, c, hc => by
    have hw : r < 4 ∧ s ≤ e ∧ e ≤ n := hW (r, s, e) List.mem_cons_self
    have hWr : nl_W n rest := fun q hq => hW q (List.mem_cons_of_mem _ hq)
    show x + 0 + (T (2 + r) s e + nl_sum T rest) ≤ c.1
    simp only [nl_F, List.mem_append] at hc
    rcases hc with hc | hc
    · by_cases hr : r < 2
      · rw [if_pos hr] at hc
        have h1 := nl_lb hLB d none rest _ _ hWr (fun i j h => by cases h) c hc
        have h2 := hLB.1 r s e hr hw.2.1 hw.2.2
        have h3 : x + fo_pp r * ((e : Int) - s) + 0 + nl_sum T rest ≤ c.1 := h1
        omega
      · rw [if_neg hr] at hc
        simp at hc
    · obtain ⟨c1, hc1, hc⟩ := List.mem_flatMap.mp hc
      obtain ⟨c2, hc2, hc⟩ := List.mem_flatMap.mp hc
      rw [List.mem_range] at hc1 hc2
      by_cases hcp : en_cp b (s + c2) (e - 1 - c1) = true
      · rw [if_pos hcp] at hc
        have h4 := (en_cp_4 hcp).1
        have h1 := nl_lb hLB d (some (s + c2, e - 1 - c1)) ((fo_af r, s, s + c2) :: rest) _ _ (fun q hq => by
          rcases List.mem_cons.mp hq with rfl | hq
          · exact ⟨fo_af_lt hw.1, by show s ≤ s + c2; omega, by show s + c2 ≤ n; omega⟩
          · exact hWr q hq) (fun i j h => by cases h; exact ⟨hcp, by omega⟩) c hc
        have h2 := hLB.2.1 r s (s + c2) (e - 1 - c1) e hw.1 (by omega) (by omega) hw.2.2 hcp
        have h3 : x + fo_pp r * ((c1 : Nat) : Int) + (fo_pq r + lp_wk b (s + c2) (e - 1 - c1) 5) + pe (s + c2) (e - 1 - c1) + (T (2 + fo_af r) s (s + c2) + nl_sum T rest) ≤ c.1 := h1
        have h5 : ((e : Int) - 1 - ((e - 1 - c1 : Nat) : Int)) = ((c1 : Nat) : Int) := by omega
        rw [h5] at h2
        omega
      · rw [if_neg hcp] at hc
        simp at hc
  | d + 1, some (i, j), regs, x, t, hW, hp, c, hc => by
    obtain ⟨hcp, hjn⟩ := hp i j rfl
    have h4 := (en_cp_4 hcp).1
    obtain ⟨b1, b2, b3⟩ := hLB.2.2 i j hjn hcp
    show x + pe i j + nl_sum T regs ≤ c.1
    simp only [nl_F, List.mem_append] at hc
    rcases hc with hc | hc | hc
    · have h1 : x + lp_hp b i j + 0 + nl_sum T regs ≤ c.1 := nl_lb hLB d none regs _ _ hW (fun i j h => by cases h) c hc
      omega
    · obtain ⟨c1, hc1, hc⟩ := List.mem_flatMap.mp hc
      obtain ⟨c2, hc2, hc⟩ := List.mem_flatMap.mp hc
      rw [List.mem_range] at hc1 hc2
      by_cases hcp2 : en_cp b (i + 1 + c2) (j - 1 - c1) = true
      · rw [if_pos hcp2] at hc
        have h1 : x + lp_w1 b i j (i + 1 + c2) (j - 1 - c1) + pe (i + 1 + c2) (j - 1 - c1) + nl_sum T regs ≤ c.1 := nl_lb hLB d (some (i + 1 + c2, j - 1 - c1)) regs _ _ hW (fun i j h => by cases h; exact ⟨hcp2, by omega⟩) c hc
        have h2 := b3 (i + 1 + c2) (j - 1 - c1) (by omega) (by omega) hcp2
        omega
      · rw [if_neg hcp2] at hc
        simp at hc
    · have h1 : x + (38 + lp_wk b i j 5) + 0 + (T (2 + 3) (i + 1) j + nl_sum T regs) ≤ c.1 := nl_lb hLB d none ((3, i + 1, j) :: regs) _ _ (fun q hq => by
        rcases List.mem_cons.mp hq with rfl | hq
        · exact ⟨by show 3 < 4; decide, by show i + 1 ≤ j; omega, by show j ≤ n; omega⟩
        · exact hW q hq) (fun i j h => by cases h) c hc
      have h2 : T (2 + 3) (i + 1) j = T 5 (i + 1) j := rfl
      omega
end
section
/-! FoldedStrand$NearList.fillRegions and fillPair: what they bring to the list. -/
def nl_ac (ac : List Int × Bool) (I : Nat → Int32) (L : Nat → Int64) : Prop := I 1 = nI ac.1.length ∧ I 2 = st_bI ac.2 ∧ nl_K ac.1 L ∧ ac.1.length ≤ 150 ∧ ac.1.Pairwise (· ≤ ·) ∧ ∀ z ∈ ac.1, nl_big z
def nl_M : List (Nat × Nat × Nat) → (Nat → Nat → Int32) → (Nat → Nat) → Prop
  | [], _, _ => True
  | (r, s, e) :: rest, V, R => R rest.length = 64 + 21 * r ∧ V 151 rest.length = nI s ∧ V 152 rest.length = nI e ∧ nl_M rest V R
def nl_st (I0 : Nat → Int32) (V0 : Nat → Nat → Int32) (ac : List Int × Bool) (regs : List (Nat × Nat × Nat)) (I : Nat → Int32) (V : Nat → Nat → Int32) (L : Nat → Int64) (R : Nat → Nat) : Prop := (∀ k, k ≠ 1 → k ≠ 2 → I k = I0 k) ∧ (∀ c, c ≠ 151 → c ≠ 152 → V c = V0 c) ∧ nl_ac ac I L ∧ nl_M regs V R
theorem nl_st.trans {I0 I1 I2 : Nat → Int32} {V0 V1 V2 : Nat → Nat → Int32} {ac ac2 : List Int × Bool} {regs regs2 : List (Nat × Nat × Nat)} {L1 L2 : Nat → Int64} {R1 R2 : Nat → Nat} (h1 : nl_st I0 V0 ac regs I1 V1 L1 R1) (h2 : nl_st I1 V1 ac2 regs2 I2 V2 L2 R2) : nl_st I0 V0 ac2 regs2 I2 V2 L2 R2 := ⟨fun k a c => (h2.1 k a c).trans (h1.1 k a c), fun k a c => (h2.2.1 k a c).trans (h1.2.1 k a c), h2.2.2⟩
theorem nl_st.tail {I0 I1 : Nat → Int32} {V0 V1 : Nat → Nat → Int32} {ac : List Int × Bool} {q : Nat × Nat × Nat} {regs : List (Nat × Nat × Nat)} {L1 : Nat → Int64} {R1 : Nat → Nat} (h : nl_st I0 V0 ac (q :: regs) I1 V1 L1 R1) : nl_st I0 V0 ac regs I1 V1 L1 R1 := ⟨h.1, h.2.1, h.2.2.1, h.2.2.2.2.2.2⟩
theorem nl_M_up {V : Nat → Nat → Int32} {R : Nat → Nat} {k c : Nat} {u v : Int32} : ∀ regs : List (Nat × Nat × Nat), regs.length ≤ k → nl_M regs V R → nl_M regs (va_up (va_up V 151 (upd (V 151) k u)) 152 (upd (V 152) k v)) (va_up R k c)
  | [], _, _ => trivial
  | (r, s, e) :: rest, hk, h => by
    rw [List.length_cons] at hk
    refine ⟨?_, ?_, ?_, nl_M_up rest (by omega) h.2.2.2⟩
    · rw [va_up_ne _ _ (by omega)]
      exact h.1
    · rw [va_up_ne _ _ (by decide), va_up_self]
      unfold upd
      rw [if_neg (by omega)]
      exact h.2.1
    · rw [va_up_self]
      unfold upd
      rw [if_neg (by omega)]
      exact h.2.2.1
theorem nl_set {I0 I1 : Nat → Int32} {V0 V1 : Nat → Nat → Int32} {ac : List Int × Bool} {regs : List (Nat × Nat × Nat)} {L1 : Nat → Int64} {R1 : Nat → Nat} (r s e : Nat) (h : nl_st I0 V0 ac regs I1 V1 L1 R1) : nl_st I0 V0 ac ((r, s, e) :: regs) I1 (va_up (va_up V1 151 (upd (V1 151) regs.length (nI s))) 152 (upd (V1 152) regs.length (nI e))) L1 (va_up R1 regs.length (64 + 21 * r)) := by
  refine ⟨h.1, fun c h1 h2 => ?_, h.2.2.1, ?_, ?_, ?_, nl_M_up regs (Nat.le_refl _) h.2.2.2⟩
  · rw [va_up_ne _ _ h2, va_up_ne _ _ h1]
    exact h.2.1 c h1 h2
  · rw [va_up_self]
  · rw [va_up_ne _ _ (by decide), va_up_self]
    unfold upd
    rw [if_pos rfl]
  · rw [va_up_self]
    unfold upd
    rw [if_pos rfl]
theorem nl_ins_mem (z : Int) : ∀ (ks : List Int) (y : Int), y ∈ nl_ins z ks → y = z ∨ y ∈ ks
  | [], y, h => by
    simp [nl_ins] at h
    exact Or.inl h
  | a :: l, y, h => by
    unfold nl_ins at h
    split at h
    · rcases List.mem_cons.mp h with h | h
      · exact Or.inl h
      · exact Or.inr h
    · rcases List.mem_cons.mp h with h | h
      · exact Or.inr (by rw [h]; exact List.mem_cons_self)
      · rcases nl_ins_mem z l y h with h | h
        · exact Or.inl h
        · exact Or.inr (List.mem_cons_of_mem _ h)
theorem nl_ins_sorted (z : Int) : ∀ ks : List Int, ks.Pairwise (· ≤ ·) → (nl_ins z ks).Pairwise (· ≤ ·)
  | [], _ => by simp [nl_ins]
  | a :: l, h => by
    rw [List.pairwise_cons] at h
    unfold nl_ins
    split
    · rename_i hz
      rw [List.pairwise_cons, List.pairwise_cons]
      refine ⟨fun y hy => ?_, h⟩
      rcases List.mem_cons.mp hy with rfl | hy
      · omega
      · have := h.1 y hy
        omega
    · rename_i hz
      rw [List.pairwise_cons]
      refine ⟨fun y hy => ?_, nl_ins_sorted z l h.2⟩
      rcases nl_ins_mem z l y hy with rfl | hy
      · omega
      · exact h.1 y hy
/-- what stays as it is in a search -/
def nl_cx (b : Nat → Nat) (n : Nat) (pe : Nat → Nat → Int) (T : Nat → Nat → Nat → Int) (lim : Int) (I : Nat → Int32) (V : Nat → Nat → Int32) : Prop := I 0 = nI n ∧ V 2 = (fun i => nI (b i)) ∧ n ≤ 18 ∧ (∀ i, b i < 4) ∧ I 3 = iI lim ∧ fo_V n pe T V ∧ fo_B n pe T ∧ nl_LB b n pe T ∧ -1000000 ≤ lim ∧ lim ≤ 1000000
theorem nl_cx.to {b : Nat → Nat} {n : Nat} {pe : Nat → Nat → Int} {T : Nat → Nat → Nat → Int} {lim : Int} {I0 I : Nat → Int32} {V0 V : Nat → Nat → Int32} (h : nl_cx b n pe T lim I0 V0) (hI : ∀ k, k ≠ 1 → k ≠ 2 → I k = I0 k) (hV : ∀ c, c ≠ 151 → c ≠ 152 → V c = V0 c) : nl_cx b n pe T lim I V := by
  obtain ⟨h1, h2, h3, h4, h5, ⟨h6, h7⟩, h8⟩ := h
  refine ⟨(hI 0 (by decide) (by decide)).trans h1, (hV 2 (by decide) (by decide)).trans h2, h3, h4, (hI 3 (by decide) (by decide)).trans h5, ⟨fun i j hij hj => ?_, fun q hq i e hie he => ?_⟩, h8⟩
  · rw [hV (6 + i) (by omega) (by omega)]
    exact h6 i j hij hj
  · have := fo_b_in q i hq (by omega)
    rw [hV (fo_b q + i) (by omega) (by omega)]
    exact h7 q hq i e hie he
theorem nl_cx.S {K : Nat → ClassId} {ad : Nat → Nat} {L : Nat → Int64} {C : Nat → Int32} {G R : Nat → Nat} {b : Nat → Nat} {n : Nat} {pe : Nat → Nat → Int} {T : Nat → Nat → Nat → Int} {lim : Int} {I : Nat → Int32} {V : Nat → Nat → Int32} (h : nl_cx b n pe T lim I V) : st_ok K ad (gw K ad I V L C G R) n b := ⟨by show Sum.inr _ = _; rw [h.1], gw_at rfl rfl h.2.1, h.2.2.1, h.2.2.2.1⟩
theorem fo_b2 (r : Nat) : fo_b (2 + r) = 66 + 21 * r := by
  unfold fo_b
  rw [if_neg (by omega), if_neg (by omega)]
  congr 2
  omega
theorem nl_cx.T {b : Nat → Nat} {n : Nat} {pe : Nat → Nat → Int} {T : Nat → Nat → Nat → Int} {lim : Int} {I : Nat → Int32} {V : Nat → Nat → Int32} (h : nl_cx b n pe T lim I V) {r s e : Nat} (hr : r < 4) (hs : s ≤ e) (he : e ≤ n) : V (66 + 21 * r + s) e = iI (T (2 + r) s e) := by
  rw [← fo_b2]
  exact h.2.2.2.2.2.1.2 (2 + r) (by omega) s e hs (Or.inl he)
theorem nl_sum_in {b : Nat → Nat} {n : Nat} {pe : Nat → Nat → Int} {T : Nat → Nat → Nat → Int} {lim : Int} {I : Nat → Int32} {V : Nat → Nat → Int32} (h : nl_cx b n pe T lim I V) : ∀ regs, nl_W n regs → -1000100 * (regs.length : Int) ≤ nl_sum T regs ∧ nl_sum T regs ≤ 1000100 * (regs.length : Int)
  | [], _ => ⟨Int.le_refl _, Int.le_refl _⟩
  | (r, s, e) :: rest, hW => by
    have hw : r < 4 ∧ s ≤ e ∧ e ≤ n := hW (r, s, e) List.mem_cons_self
    have ih := nl_sum_in h rest (fun q hq => hW q (List.mem_cons_of_mem _ hq))
    have h2 := h.2.2.2.2.2.2.1.2.2 r hw.1 s e hw.2.1 (Or.inl hw.2.2)
    have h3 := h.2.2.1
    show _ ≤ T (2 + r) s e + nl_sum T rest ∧ T (2 + r) s e + nl_sum T rest ≤ _
    rw [List.length_cons]
    omega
section NL
variable {K : Nat → ClassId} {sa : Nat → Nat} {ad : Nat → Nat} {C : Nat → Int32} {G : Nat → Nat}
theorem c_RE_may (l : Launch) {I : Nat → Int32} {V : Nat → Nat → Int32} {L : Nat → Int64} {R : Nat → Nat} {r : Nat} (hr : r < 4) : jl_C l K sa yn_RE_mayBeUnpaired bc_RE_mayBeUnpaired 1 (some .boolean) 0 0 168 ad [.ref (ad (64 + 21 * r))] (gw K ad I V L C G R) (some (.int (st_bI (decide (r < 2))))) (gw K ad I V L C G R) := by
  match r, hr with
  | 0, _ => exact c_RE0_mayBeUnpaired l
  | 1, _ => exact c_RE1_mayBeUnpaired l
  | 2, _ => exact c_RE2_mayBeUnpaired l
  | 3, _ => exact c_RE3_mayBeUnpaired l
theorem c_RE_after (l : Launch) {I : Nat → Int32} {V : Nat → Nat → Int32} {L : Nat → Int64} {R : Nat → Nat} {r : Nat} (hr : r < 4) : jl_C l K sa yn_RE_afterPair bc_RE_afterPair 1 (some (.object "FoldedStrand$Region")) 0 0 168 ad [.ref (ad (64 + 21 * r))] (gw K ad I V L C G R) (some (.ref (ad (64 + 21 * fo_af r)))) (gw K ad I V L C G R) := by
  match r, hr with
  | 0, _ => exact c_RE0_afterPair l
  | 1, _ => exact c_RE1_afterPair l
  | 2, _ => exact c_RE2_afterPair l
  | 3, _ => exact c_RE3_afterPair l
theorem c_FO_branch (l : Launch) {I : Nat → Int32} {V : Nat → Nat → Int32} {L : Nat → Int64} {R : Nat → Nat} {n : Nat} {b : Nat → Nat} {pe : Nat → Nat → Int} {r : Nat} (hr : r < 4) (hS : st_ok K ad (gw K ad I V L C G R) n b) {k t : Nat} (hk : k < 18) (ht : t < 18) (hpe : V (6 + k) t = iI (pe k t)) : jl_C l K sa yn_FO_branchEnergy bc_FO_branchEnergy 4 (some .int) 2 55 168 ad [.ref (ad 4), .ref (ad (64 + 21 * r)), .int (nI k), .int (nI t)] (gw K ad I V L C G R) (some (.int (iI (fo_br b r pe k t)))) (gw K ad I V L C G R) := by
  match r, hr with
  | 0, _ => exact c_FO0_branchEnergy l hS hk ht hpe
  | 1, _ => exact c_FO1_branchEnergy l hS hk ht hpe
  | 2, _ => exact c_FO2_branchEnergy l hS hk ht hpe
  | 3, _ => exact c_FO3_branchEnergy l hS hk ht hpe
end NL
abbrev bc_NL_fillRegions : ByteArray := prog_4_method_8_code
abbrev yn_NL_fillRegions : MethodName := ⟨"FoldedStrand$NearList", "fillRegions", "(IIJI)V"⟩
theorem wl_NL_23 : Cond.fieldLink "FoldedStrand$NearList" 23 "FoldedStrand$NearList" "limit" "I" ∈ jl_T := jl_T_of 119 (by decide +kernel) (by decide +kernel)
theorem vs_NL_80 : jl_v "FoldedStrand$NearList" 80 yn_NL_insert bc_NL_insert 7 none 2 := ⟨jl_T_of 382 (by decide +kernel) (by decide +kernel), jl_T_of 6 (by decide +kernel) (by decide +kernel), jl_T_of 379 (by decide +kernel) (by decide +kernel), by decide +kernel, by decide +kernel, by decide +kernel⟩
theorem vi_NL_insert : Cond.instanceMethod yn_NL_insert ∈ jl_T := jl_T_of 381 (by decide +kernel) (by decide +kernel)
theorem vx_NL_insert : Cond.selects "FoldedStrand$NearList" yn_NL_insert yn_NL_insert ∈ jl_T := jl_T_sel 8 (by decide +kernel) (by decide +kernel)
theorem wl_NL_84 : Cond.fieldLink "FoldedStrand$NearList" 84 "FoldedStrand$Region" "leastEnergies" "[[I" ∈ jl_T := jl_T_of 66 (by decide +kernel) (by decide +kernel)
theorem vs_NL_88 : jl_v "FoldedStrand$NearList" 88 yn_RE_mayBeUnpaired bc_RE_mayBeUnpaired 1 (some .boolean) 0 := ⟨jl_T_of 386 (by decide +kernel) (by decide +kernel), jl_T_of 5 (by decide +kernel) (by decide +kernel), jl_T_of 383 (by decide +kernel) (by decide +kernel), by decide +kernel, by decide +kernel, by decide +kernel⟩
theorem vi_RE_mayBeUnpaired : Cond.instanceMethod yn_RE_mayBeUnpaired ∈ jl_T := jl_T_of 384 (by decide +kernel) (by decide +kernel)
theorem vx_RE_mayBeUnpaired : Cond.selects "FoldedStrand$Region" yn_RE_mayBeUnpaired yn_RE_mayBeUnpaired ∈ jl_T := jl_T_of 385 (by decide +kernel) (by decide +kernel)
theorem wl_NL_92 : Cond.fieldLink "FoldedStrand$NearList" 92 "FoldedStrand$Region" "perPlace" "I" ∈ jl_T := jl_T_of 61 (by decide +kernel) (by decide +kernel)
theorem vs_NL_76 : jl_v "FoldedStrand$NearList" 76 yn_NL_fillRegions bc_NL_fillRegions 15 none 4 := ⟨jl_T_of 378 (by decide +kernel) (by decide +kernel), jl_T_of 6 (by decide +kernel) (by decide +kernel), jl_T_of 375 (by decide +kernel) (by decide +kernel), by decide +kernel, by decide +kernel, by decide +kernel⟩
theorem vi_NL_fillRegions : Cond.instanceMethod yn_NL_fillRegions ∈ jl_T := jl_T_of 377 (by decide +kernel) (by decide +kernel)
theorem vx_NL_fillRegions : Cond.selects "FoldedStrand$NearList" yn_NL_fillRegions yn_NL_fillRegions ∈ jl_T := jl_T_sel 7 (by decide +kernel) (by decide +kernel)
theorem vs_NL_95 : jl_v "FoldedStrand$NearList" 95 yn_ST_canPair bc_ST_canPair 3 (some .boolean) 2 := ⟨jl_T_of 230 (by decide +kernel) (by decide +kernel), jl_T_of 2 (by decide +kernel) (by decide +kernel), jl_T_of 387 (by decide +kernel) (by decide +kernel), by decide +kernel, by decide +kernel, by decide +kernel⟩
theorem vs_NL_99 : jl_v "FoldedStrand$NearList" 99 yn_RE_afterPair bc_RE_afterPair 1 (some (.object "FoldedStrand$Region")) 0 := ⟨jl_T_of 306 (by decide +kernel) (by decide +kernel), jl_T_of 5 (by decide +kernel) (by decide +kernel), jl_T_of 388 (by decide +kernel) (by decide +kernel), by decide +kernel, by decide +kernel, by decide +kernel⟩
theorem vs_NL_68 : jl_v "FoldedStrand$NearList" 68 yn_NL_setRegion bc_NL_setRegion 5 none 4 := ⟨jl_T_of 366 (by decide +kernel) (by decide +kernel), jl_T_of 6 (by decide +kernel) (by decide +kernel), jl_T_of 363 (by decide +kernel) (by decide +kernel), by decide +kernel, by decide +kernel, by decide +kernel⟩
theorem vi_NL_setRegion : Cond.instanceMethod yn_NL_setRegion ∈ jl_T := jl_T_of 365 (by decide +kernel) (by decide +kernel)
theorem vx_NL_setRegion : Cond.selects "FoldedStrand$NearList" yn_NL_setRegion yn_NL_setRegion ∈ jl_T := jl_T_sel 5 (by decide +kernel) (by decide +kernel)
theorem wl_NL_47 : Cond.fieldLink "FoldedStrand$NearList" 47 "FoldedStrand$NearList" "folds" "LFoldedStrand$Folds;" ∈ jl_T := jl_T_of 125 (by decide +kernel) (by decide +kernel)
theorem vs_NL_103 : jl_v "FoldedStrand$NearList" 103 yn_FO_branchEnergy bc_FO_branchEnergy 4 (some .int) 3 := ⟨jl_T_of 310 (by decide +kernel) (by decide +kernel), jl_T_of 4 (by decide +kernel) (by decide +kernel), jl_T_of 389 (by decide +kernel) (by decide +kernel), by decide +kernel, by decide +kernel, by decide +kernel⟩
theorem vs_NL_107 : jl_v "FoldedStrand$NearList" 107 yn_NL_withPair bc_NL_withPair 4 (some .long) 3 := ⟨jl_T_of 392 (by decide +kernel) (by decide +kernel), jl_T_of 6 (by decide +kernel) (by decide +kernel), jl_T_of 390 (by decide +kernel) (by decide +kernel), by decide +kernel, by decide +kernel, by decide +kernel⟩
theorem vt_NL_withPair : Cond.static yn_NL_withPair ∈ jl_T := jl_T_of 391 (by decide +kernel) (by decide +kernel)
abbrev bc_NL_fillPair : ByteArray := prog_4_method_9_code
abbrev yn_NL_fillPair : MethodName := ⟨"FoldedStrand$NearList", "fillPair", "(IIIIJI)V"⟩
theorem vs_NL_111 : jl_v "FoldedStrand$NearList" 111 yn_NL_fillPair bc_NL_fillPair 12 none 6 := ⟨jl_T_of 396 (by decide +kernel) (by decide +kernel), jl_T_of 6 (by decide +kernel) (by decide +kernel), jl_T_of 393 (by decide +kernel) (by decide +kernel), by decide +kernel, by decide +kernel, by decide +kernel⟩
theorem vi_NL_fillPair : Cond.instanceMethod yn_NL_fillPair ∈ jl_T := jl_T_of 395 (by decide +kernel) (by decide +kernel)
theorem vx_NL_fillPair : Cond.selects "FoldedStrand$NearList" yn_NL_fillPair yn_NL_fillPair ∈ jl_T := jl_T_sel 9 (by decide +kernel) (by decide +kernel)
theorem dc_NL_fillRegions_0 : decode bc_NL_fillRegions 0 = .ok (.aload_n 0, 1) := by decide +kernel
theorem dc_NL_fillRegions_1 : decode bc_NL_fillRegions 1 = .ok (.getfield 19, 3) := by decide +kernel
theorem dc_NL_fillRegions_4 : decode bc_NL_fillRegions 4 = .ok (.ifCond .ne 18, 3) := by decide +kernel
theorem dc_NL_fillRegions_7 : decode bc_NL_fillRegions 7 = .ok (.iload_n 2, 1) := by decide +kernel
theorem dc_NL_fillRegions_8 : decode bc_NL_fillRegions 8 = .ok (.aload_n 0, 1) := by decide +kernel
theorem dc_NL_fillRegions_9 : decode bc_NL_fillRegions 9 = .ok (.getfield 23, 3) := by decide +kernel
theorem dc_NL_fillRegions_12 : decode bc_NL_fillRegions 12 = .ok (.if_icmp .gt 10, 3) := by decide +kernel
theorem dc_NL_fillRegions_15 : decode bc_NL_fillRegions 15 = .ok (.iload 5, 2) := by decide +kernel
theorem dc_NL_fillRegions_17 : decode bc_NL_fillRegions 17 = .ok (.bipush 40, 2) := by decide +kernel
theorem dc_NL_fillRegions_19 : decode bc_NL_fillRegions 19 = .ok (.if_icmp .le 4, 3) := by decide +kernel
theorem dc_NL_fillRegions_22 : decode bc_NL_fillRegions 22 = .ok (.return_, 1) := by decide +kernel
theorem dc_NL_fillRegions_23 : decode bc_NL_fillRegions 23 = .ok (.iload_n 1, 1) := by decide +kernel
theorem dc_NL_fillRegions_24 : decode bc_NL_fillRegions 24 = .ok (.ifCond .gt 10, 3) := by decide +kernel
theorem dc_NL_fillRegions_27 : decode bc_NL_fillRegions 27 = .ok (.aload_n 0, 1) := by decide +kernel
theorem dc_NL_fillRegions_28 : decode bc_NL_fillRegions 28 = .ok (.iload_n 2, 1) := by decide +kernel
theorem dc_NL_fillRegions_29 : decode bc_NL_fillRegions 29 = .ok (.lload_n 3, 1) := by decide +kernel
theorem dc_NL_fillRegions_30 : decode bc_NL_fillRegions 30 = .ok (.invokevirtual 80, 3) := by decide +kernel
theorem dc_NL_fillRegions_33 : decode bc_NL_fillRegions 33 = .ok (.return_, 1) := by decide +kernel
theorem dc_NL_fillRegions_34 : decode bc_NL_fillRegions 34 = .ok (.aload_n 0, 1) := by decide +kernel
theorem dc_NL_fillRegions_35 : decode bc_NL_fillRegions 35 = .ok (.getfield 28, 3) := by decide +kernel
theorem dc_NL_fillRegions_38 : decode bc_NL_fillRegions 38 = .ok (.iload_n 1, 1) := by decide +kernel
theorem dc_NL_fillRegions_39 : decode bc_NL_fillRegions 39 = .ok (.iconst 1, 1) := by decide +kernel
theorem dc_NL_fillRegions_40 : decode bc_NL_fillRegions 40 = .ok (.isub, 1) := by decide +kernel
theorem dc_NL_fillRegions_41 : decode bc_NL_fillRegions 41 = .ok (.aaload, 1) := by decide +kernel
theorem dc_NL_fillRegions_42 : decode bc_NL_fillRegions 42 = .ok (.astore 6, 2) := by decide +kernel
theorem dc_NL_fillRegions_44 : decode bc_NL_fillRegions 44 = .ok (.aload_n 0, 1) := by decide +kernel
theorem dc_NL_fillRegions_45 : decode bc_NL_fillRegions 45 = .ok (.getfield 32, 3) := by decide +kernel
theorem dc_NL_fillRegions_48 : decode bc_NL_fillRegions 48 = .ok (.iload_n 1, 1) := by decide +kernel
theorem dc_NL_fillRegions_49 : decode bc_NL_fillRegions 49 = .ok (.iconst 1, 1) := by decide +kernel
theorem dc_NL_fillRegions_50 : decode bc_NL_fillRegions 50 = .ok (.isub, 1) := by decide +kernel
theorem dc_NL_fillRegions_51 : decode bc_NL_fillRegions 51 = .ok (.iaload, 1) := by decide +kernel
theorem dc_NL_fillRegions_52 : decode bc_NL_fillRegions 52 = .ok (.istore 7, 2) := by decide +kernel
theorem dc_NL_fillRegions_54 : decode bc_NL_fillRegions 54 = .ok (.aload_n 0, 1) := by decide +kernel
theorem dc_NL_fillRegions_55 : decode bc_NL_fillRegions 55 = .ok (.getfield 36, 3) := by decide +kernel
theorem dc_NL_fillRegions_58 : decode bc_NL_fillRegions 58 = .ok (.iload_n 1, 1) := by decide +kernel
theorem dc_NL_fillRegions_59 : decode bc_NL_fillRegions 59 = .ok (.iconst 1, 1) := by decide +kernel
theorem dc_NL_fillRegions_60 : decode bc_NL_fillRegions 60 = .ok (.isub, 1) := by decide +kernel
theorem dc_NL_fillRegions_61 : decode bc_NL_fillRegions 61 = .ok (.iaload, 1) := by decide +kernel
theorem dc_NL_fillRegions_62 : decode bc_NL_fillRegions 62 = .ok (.istore 8, 2) := by decide +kernel
theorem dc_NL_fillRegions_64 : decode bc_NL_fillRegions 64 = .ok (.iload_n 2, 1) := by decide +kernel
theorem dc_NL_fillRegions_65 : decode bc_NL_fillRegions 65 = .ok (.aload 6, 2) := by decide +kernel
theorem dc_NL_fillRegions_67 : decode bc_NL_fillRegions 67 = .ok (.getfield 84, 3) := by decide +kernel
theorem dc_NL_fillRegions_70 : decode bc_NL_fillRegions 70 = .ok (.iload 7, 2) := by decide +kernel
theorem dc_NL_fillRegions_72 : decode bc_NL_fillRegions 72 = .ok (.aaload, 1) := by decide +kernel
theorem dc_NL_fillRegions_73 : decode bc_NL_fillRegions 73 = .ok (.iload 8, 2) := by decide +kernel
theorem dc_NL_fillRegions_75 : decode bc_NL_fillRegions 75 = .ok (.iaload, 1) := by decide +kernel
theorem dc_NL_fillRegions_76 : decode bc_NL_fillRegions 76 = .ok (.isub, 1) := by decide +kernel
theorem dc_NL_fillRegions_77 : decode bc_NL_fillRegions 77 = .ok (.istore 9, 2) := by decide +kernel
theorem dc_NL_fillRegions_79 : decode bc_NL_fillRegions 79 = .ok (.aload 6, 2) := by decide +kernel
theorem dc_NL_fillRegions_81 : decode bc_NL_fillRegions 81 = .ok (.invokevirtual 88, 3) := by decide +kernel
theorem dc_NL_fillRegions_84 : decode bc_NL_fillRegions 84 = .ok (.ifCond .eq 29, 3) := by decide +kernel
theorem dc_NL_fillRegions_87 : decode bc_NL_fillRegions 87 = .ok (.aload_n 0, 1) := by decide +kernel
theorem dc_NL_fillRegions_88 : decode bc_NL_fillRegions 88 = .ok (.iload_n 1, 1) := by decide +kernel
theorem dc_NL_fillRegions_89 : decode bc_NL_fillRegions 89 = .ok (.iconst 1, 1) := by decide +kernel
theorem dc_NL_fillRegions_90 : decode bc_NL_fillRegions 90 = .ok (.isub, 1) := by decide +kernel
theorem dc_NL_fillRegions_91 : decode bc_NL_fillRegions 91 = .ok (.iload 9, 2) := by decide +kernel
theorem dc_NL_fillRegions_93 : decode bc_NL_fillRegions 93 = .ok (.aload 6, 2) := by decide +kernel
theorem dc_NL_fillRegions_95 : decode bc_NL_fillRegions 95 = .ok (.getfield 92, 3) := by decide +kernel
theorem dc_NL_fillRegions_98 : decode bc_NL_fillRegions 98 = .ok (.iload 8, 2) := by decide +kernel
theorem dc_NL_fillRegions_100 : decode bc_NL_fillRegions 100 = .ok (.iload 7, 2) := by decide +kernel
theorem dc_NL_fillRegions_102 : decode bc_NL_fillRegions 102 = .ok (.isub, 1) := by decide +kernel
theorem dc_NL_fillRegions_103 : decode bc_NL_fillRegions 103 = .ok (.imul, 1) := by decide +kernel
theorem dc_NL_fillRegions_104 : decode bc_NL_fillRegions 104 = .ok (.iadd, 1) := by decide +kernel
theorem dc_NL_fillRegions_105 : decode bc_NL_fillRegions 105 = .ok (.lload_n 3, 1) := by decide +kernel
theorem dc_NL_fillRegions_106 : decode bc_NL_fillRegions 106 = .ok (.iload 5, 2) := by decide +kernel
theorem dc_NL_fillRegions_108 : decode bc_NL_fillRegions 108 = .ok (.iconst 1, 1) := by decide +kernel
theorem dc_NL_fillRegions_109 : decode bc_NL_fillRegions 109 = .ok (.iadd, 1) := by decide +kernel
theorem dc_NL_fillRegions_110 : decode bc_NL_fillRegions 110 = .ok (.invokevirtual 76, 3) := by decide +kernel
theorem dc_NL_fillRegions_113 : decode bc_NL_fillRegions 113 = .ok (.iload 8, 2) := by decide +kernel
theorem dc_NL_fillRegions_115 : decode bc_NL_fillRegions 115 = .ok (.iconst 1, 1) := by decide +kernel
theorem dc_NL_fillRegions_116 : decode bc_NL_fillRegions 116 = .ok (.isub, 1) := by decide +kernel
theorem dc_NL_fillRegions_117 : decode bc_NL_fillRegions 117 = .ok (.istore 10, 2) := by decide +kernel
theorem dc_NL_fillRegions_119 : decode bc_NL_fillRegions 119 = .ok (.iload 10, 2) := by decide +kernel
theorem dc_NL_fillRegions_121 : decode bc_NL_fillRegions 121 = .ok (.iload 7, 2) := by decide +kernel
theorem dc_NL_fillRegions_123 : decode bc_NL_fillRegions 123 = .ok (.isub, 1) := by decide +kernel
theorem dc_NL_fillRegions_124 : decode bc_NL_fillRegions 124 = .ok (.iconst 4, 1) := by decide +kernel
theorem dc_NL_fillRegions_125 : decode bc_NL_fillRegions 125 = .ok (.if_icmp .lt 136, 3) := by decide +kernel
theorem dc_NL_fillRegions_128 : decode bc_NL_fillRegions 128 = .ok (.iload 9, 2) := by decide +kernel
theorem dc_NL_fillRegions_130 : decode bc_NL_fillRegions 130 = .ok (.aload 6, 2) := by decide +kernel
theorem dc_NL_fillRegions_132 : decode bc_NL_fillRegions 132 = .ok (.getfield 92, 3) := by decide +kernel
theorem dc_NL_fillRegions_135 : decode bc_NL_fillRegions 135 = .ok (.iload 8, 2) := by decide +kernel
theorem dc_NL_fillRegions_137 : decode bc_NL_fillRegions 137 = .ok (.iconst 1, 1) := by decide +kernel
theorem dc_NL_fillRegions_138 : decode bc_NL_fillRegions 138 = .ok (.isub, 1) := by decide +kernel
theorem dc_NL_fillRegions_139 : decode bc_NL_fillRegions 139 = .ok (.iload 10, 2) := by decide +kernel
theorem dc_NL_fillRegions_141 : decode bc_NL_fillRegions 141 = .ok (.isub, 1) := by decide +kernel
theorem dc_NL_fillRegions_142 : decode bc_NL_fillRegions 142 = .ok (.imul, 1) := by decide +kernel
theorem dc_NL_fillRegions_143 : decode bc_NL_fillRegions 143 = .ok (.iadd, 1) := by decide +kernel
theorem dc_NL_fillRegions_144 : decode bc_NL_fillRegions 144 = .ok (.istore 11, 2) := by decide +kernel
theorem dc_NL_fillRegions_146 : decode bc_NL_fillRegions 146 = .ok (.iload 7, 2) := by decide +kernel
theorem dc_NL_fillRegions_148 : decode bc_NL_fillRegions 148 = .ok (.istore 12, 2) := by decide +kernel
theorem dc_NL_fillRegions_150 : decode bc_NL_fillRegions 150 = .ok (.iload 12, 2) := by decide +kernel
theorem dc_NL_fillRegions_152 : decode bc_NL_fillRegions 152 = .ok (.iload 10, 2) := by decide +kernel
theorem dc_NL_fillRegions_154 : decode bc_NL_fillRegions 154 = .ok (.iconst 4, 1) := by decide +kernel
theorem dc_NL_fillRegions_155 : decode bc_NL_fillRegions 155 = .ok (.isub, 1) := by decide +kernel
theorem dc_NL_fillRegions_156 : decode bc_NL_fillRegions 156 = .ok (.if_icmp .gt 99, 3) := by decide +kernel
theorem dc_NL_fillRegions_159 : decode bc_NL_fillRegions 159 = .ok (.aload_n 0, 1) := by decide +kernel
theorem dc_NL_fillRegions_160 : decode bc_NL_fillRegions 160 = .ok (.getfield 39, 3) := by decide +kernel
theorem dc_NL_fillRegions_163 : decode bc_NL_fillRegions 163 = .ok (.iload 12, 2) := by decide +kernel
theorem dc_NL_fillRegions_165 : decode bc_NL_fillRegions 165 = .ok (.iload 10, 2) := by decide +kernel
theorem dc_NL_fillRegions_167 : decode bc_NL_fillRegions 167 = .ok (.invokevirtual 95, 3) := by decide +kernel
theorem dc_NL_fillRegions_170 : decode bc_NL_fillRegions 170 = .ok (.ifCond .eq 79, 3) := by decide +kernel
theorem dc_NL_fillRegions_173 : decode bc_NL_fillRegions 173 = .ok (.aload_n 0, 1) := by decide +kernel
theorem dc_NL_fillRegions_174 : decode bc_NL_fillRegions 174 = .ok (.iload_n 1, 1) := by decide +kernel
theorem dc_NL_fillRegions_175 : decode bc_NL_fillRegions 175 = .ok (.iconst 1, 1) := by decide +kernel
theorem dc_NL_fillRegions_176 : decode bc_NL_fillRegions 176 = .ok (.isub, 1) := by decide +kernel
theorem dc_NL_fillRegions_177 : decode bc_NL_fillRegions 177 = .ok (.aload 6, 2) := by decide +kernel
theorem dc_NL_fillRegions_179 : decode bc_NL_fillRegions 179 = .ok (.invokevirtual 99, 3) := by decide +kernel
theorem dc_NL_fillRegions_182 : decode bc_NL_fillRegions 182 = .ok (.iload 7, 2) := by decide +kernel
theorem dc_NL_fillRegions_184 : decode bc_NL_fillRegions 184 = .ok (.iload 12, 2) := by decide +kernel
theorem dc_NL_fillRegions_186 : decode bc_NL_fillRegions 186 = .ok (.invokevirtual 68, 3) := by decide +kernel
theorem dc_NL_fillRegions_189 : decode bc_NL_fillRegions 189 = .ok (.aload 6, 2) := by decide +kernel
theorem dc_NL_fillRegions_191 : decode bc_NL_fillRegions 191 = .ok (.invokevirtual 99, 3) := by decide +kernel
theorem dc_NL_fillRegions_194 : decode bc_NL_fillRegions 194 = .ok (.getfield 84, 3) := by decide +kernel
theorem dc_NL_fillRegions_197 : decode bc_NL_fillRegions 197 = .ok (.iload 7, 2) := by decide +kernel
theorem dc_NL_fillRegions_199 : decode bc_NL_fillRegions 199 = .ok (.aaload, 1) := by decide +kernel
theorem dc_NL_fillRegions_200 : decode bc_NL_fillRegions 200 = .ok (.iload 12, 2) := by decide +kernel
theorem dc_NL_fillRegions_202 : decode bc_NL_fillRegions 202 = .ok (.iaload, 1) := by decide +kernel
theorem dc_NL_fillRegions_203 : decode bc_NL_fillRegions 203 = .ok (.istore 13, 2) := by decide +kernel
theorem dc_NL_fillRegions_205 : decode bc_NL_fillRegions 205 = .ok (.iload 11, 2) := by decide +kernel
theorem dc_NL_fillRegions_207 : decode bc_NL_fillRegions 207 = .ok (.iload 13, 2) := by decide +kernel
theorem dc_NL_fillRegions_209 : decode bc_NL_fillRegions 209 = .ok (.iadd, 1) := by decide +kernel
theorem dc_NL_fillRegions_210 : decode bc_NL_fillRegions 210 = .ok (.aload_n 0, 1) := by decide +kernel
theorem dc_NL_fillRegions_211 : decode bc_NL_fillRegions 211 = .ok (.getfield 47, 3) := by decide +kernel
theorem dc_NL_fillRegions_214 : decode bc_NL_fillRegions 214 = .ok (.aload 6, 2) := by decide +kernel
theorem dc_NL_fillRegions_216 : decode bc_NL_fillRegions 216 = .ok (.iload 12, 2) := by decide +kernel
theorem dc_NL_fillRegions_218 : decode bc_NL_fillRegions 218 = .ok (.iload 10, 2) := by decide +kernel
theorem dc_NL_fillRegions_220 : decode bc_NL_fillRegions 220 = .ok (.invokevirtual 103, 3) := by decide +kernel
theorem dc_NL_fillRegions_223 : decode bc_NL_fillRegions 223 = .ok (.iadd, 1) := by decide +kernel
theorem dc_NL_fillRegions_224 : decode bc_NL_fillRegions 224 = .ok (.istore 14, 2) := by decide +kernel
theorem dc_NL_fillRegions_226 : decode bc_NL_fillRegions 226 = .ok (.aload_n 0, 1) := by decide +kernel
theorem dc_NL_fillRegions_227 : decode bc_NL_fillRegions 227 = .ok (.iload 12, 2) := by decide +kernel
theorem dc_NL_fillRegions_229 : decode bc_NL_fillRegions 229 = .ok (.iload 10, 2) := by decide +kernel
theorem dc_NL_fillRegions_231 : decode bc_NL_fillRegions 231 = .ok (.iload_n 1, 1) := by decide +kernel
theorem dc_NL_fillRegions_232 : decode bc_NL_fillRegions 232 = .ok (.iload 14, 2) := by decide +kernel
theorem dc_NL_fillRegions_234 : decode bc_NL_fillRegions 234 = .ok (.lload_n 3, 1) := by decide +kernel
theorem dc_NL_fillRegions_235 : decode bc_NL_fillRegions 235 = .ok (.iload 12, 2) := by decide +kernel
theorem dc_NL_fillRegions_237 : decode bc_NL_fillRegions 237 = .ok (.iload 10, 2) := by decide +kernel
theorem dc_NL_fillRegions_239 : decode bc_NL_fillRegions 239 = .ok (.invokestatic 107, 3) := by decide +kernel
theorem dc_NL_fillRegions_242 : decode bc_NL_fillRegions 242 = .ok (.iload 5, 2) := by decide +kernel
theorem dc_NL_fillRegions_244 : decode bc_NL_fillRegions 244 = .ok (.iconst 1, 1) := by decide +kernel
theorem dc_NL_fillRegions_245 : decode bc_NL_fillRegions 245 = .ok (.iadd, 1) := by decide +kernel
theorem dc_NL_fillRegions_246 : decode bc_NL_fillRegions 246 = .ok (.invokevirtual 111, 3) := by decide +kernel
theorem dc_NL_fillRegions_249 : decode bc_NL_fillRegions 249 = .ok (.iinc 12 1, 3) := by decide +kernel
theorem dc_NL_fillRegions_252 : decode bc_NL_fillRegions 252 = .ok (.goto (-102), 3) := by decide +kernel
theorem dc_NL_fillRegions_255 : decode bc_NL_fillRegions 255 = .ok (.iinc 10 (-1), 3) := by decide +kernel
theorem dc_NL_fillRegions_258 : decode bc_NL_fillRegions 258 = .ok (.goto (-139), 3) := by decide +kernel
theorem dc_NL_fillRegions_261 : decode bc_NL_fillRegions 261 = .ok (.aload_n 0, 1) := by decide +kernel
theorem dc_NL_fillRegions_262 : decode bc_NL_fillRegions 262 = .ok (.iload_n 1, 1) := by decide +kernel
theorem dc_NL_fillRegions_263 : decode bc_NL_fillRegions 263 = .ok (.iconst 1, 1) := by decide +kernel
theorem dc_NL_fillRegions_264 : decode bc_NL_fillRegions 264 = .ok (.isub, 1) := by decide +kernel
theorem dc_NL_fillRegions_265 : decode bc_NL_fillRegions 265 = .ok (.aload 6, 2) := by decide +kernel
theorem dc_NL_fillRegions_267 : decode bc_NL_fillRegions 267 = .ok (.iload 7, 2) := by decide +kernel
theorem dc_NL_fillRegions_269 : decode bc_NL_fillRegions 269 = .ok (.iload 8, 2) := by decide +kernel
theorem dc_NL_fillRegions_271 : decode bc_NL_fillRegions 271 = .ok (.invokevirtual 68, 3) := by decide +kernel
theorem dc_NL_fillRegions_274 : decode bc_NL_fillRegions 274 = .ok (.return_, 1) := by decide +kernel
theorem wl_NL_115 : Cond.fieldLink "FoldedStrand$NearList" 115 "FoldedStrand$Folds" "pairEnergies" "[[I" ∈ jl_T := jl_T_of 82 (by decide +kernel) (by decide +kernel)
theorem wl_NL_43 : Cond.fieldLink "FoldedStrand$NearList" 43 "FoldedStrand$NearList" "loops" "LFoldedStrand$Loops;" ∈ jl_T := jl_T_of 124 (by decide +kernel) (by decide +kernel)
theorem vs_NL_118 : jl_v "FoldedStrand$NearList" 118 yn_LO_hairpin bc_LO_hairpin 5 (some .int) 2 := ⟨jl_T_of 244 (by decide +kernel) (by decide +kernel), jl_T_of 3 (by decide +kernel) (by decide +kernel), jl_T_of 397 (by decide +kernel) (by decide +kernel), by decide +kernel, by decide +kernel, by decide +kernel⟩
theorem vs_NL_124 : jl_v "FoldedStrand$NearList" 124 yn_LO_withOne bc_LO_withOne 7 (some .int) 4 := ⟨jl_T_of 271 (by decide +kernel) (by decide +kernel), jl_T_of 3 (by decide +kernel) (by decide +kernel), jl_T_of 398 (by decide +kernel) (by decide +kernel), by decide +kernel, by decide +kernel, by decide +kernel⟩
theorem wl_NL_128 : Cond.fieldLink "FoldedStrand$NearList" 128 "FoldedStrand$Folds" "twoBranches" "LFoldedStrand$Region;" ∈ jl_T := jl_T_of 80 (by decide +kernel) (by decide +kernel)
theorem vs_NL_131 : jl_v "FoldedStrand$NearList" 131 yn_FO_leastWithMany bc_FO_leastWithMany 3 (some .int) 2 := ⟨jl_T_of 260 (by decide +kernel) (by decide +kernel), jl_T_of 4 (by decide +kernel) (by decide +kernel), jl_T_of 399 (by decide +kernel) (by decide +kernel), by decide +kernel, by decide +kernel, by decide +kernel⟩
theorem dc_NL_fillPair_0 : decode bc_NL_fillPair 0 = .ok (.aload_n 0, 1) := by decide +kernel
theorem dc_NL_fillPair_1 : decode bc_NL_fillPair 1 = .ok (.getfield 19, 3) := by decide +kernel
theorem dc_NL_fillPair_4 : decode bc_NL_fillPair 4 = .ok (.ifCond .ne 19, 3) := by decide +kernel
theorem dc_NL_fillPair_7 : decode bc_NL_fillPair 7 = .ok (.iload 4, 2) := by decide +kernel
theorem dc_NL_fillPair_9 : decode bc_NL_fillPair 9 = .ok (.aload_n 0, 1) := by decide +kernel
theorem dc_NL_fillPair_10 : decode bc_NL_fillPair 10 = .ok (.getfield 23, 3) := by decide +kernel
theorem dc_NL_fillPair_13 : decode bc_NL_fillPair 13 = .ok (.if_icmp .gt 10, 3) := by decide +kernel
theorem dc_NL_fillPair_16 : decode bc_NL_fillPair 16 = .ok (.iload 7, 2) := by decide +kernel
theorem dc_NL_fillPair_18 : decode bc_NL_fillPair 18 = .ok (.bipush 40, 2) := by decide +kernel
theorem dc_NL_fillPair_20 : decode bc_NL_fillPair 20 = .ok (.if_icmp .le 4, 3) := by decide +kernel
theorem dc_NL_fillPair_23 : decode bc_NL_fillPair 23 = .ok (.return_, 1) := by decide +kernel
theorem dc_NL_fillPair_24 : decode bc_NL_fillPair 24 = .ok (.iload 4, 2) := by decide +kernel
theorem dc_NL_fillPair_26 : decode bc_NL_fillPair 26 = .ok (.aload_n 0, 1) := by decide +kernel
theorem dc_NL_fillPair_27 : decode bc_NL_fillPair 27 = .ok (.getfield 47, 3) := by decide +kernel
theorem dc_NL_fillPair_30 : decode bc_NL_fillPair 30 = .ok (.getfield 115, 3) := by decide +kernel
theorem dc_NL_fillPair_33 : decode bc_NL_fillPair 33 = .ok (.iload_n 1, 1) := by decide +kernel
theorem dc_NL_fillPair_34 : decode bc_NL_fillPair 34 = .ok (.aaload, 1) := by decide +kernel
theorem dc_NL_fillPair_35 : decode bc_NL_fillPair 35 = .ok (.iload_n 2, 1) := by decide +kernel
theorem dc_NL_fillPair_36 : decode bc_NL_fillPair 36 = .ok (.iaload, 1) := by decide +kernel
theorem dc_NL_fillPair_37 : decode bc_NL_fillPair 37 = .ok (.isub, 1) := by decide +kernel
theorem dc_NL_fillPair_38 : decode bc_NL_fillPair 38 = .ok (.istore 8, 2) := by decide +kernel
theorem dc_NL_fillPair_40 : decode bc_NL_fillPair 40 = .ok (.aload_n 0, 1) := by decide +kernel
theorem dc_NL_fillPair_41 : decode bc_NL_fillPair 41 = .ok (.iload_n 3, 1) := by decide +kernel
theorem dc_NL_fillPair_42 : decode bc_NL_fillPair 42 = .ok (.iload 8, 2) := by decide +kernel
theorem dc_NL_fillPair_44 : decode bc_NL_fillPair 44 = .ok (.aload_n 0, 1) := by decide +kernel
theorem dc_NL_fillPair_45 : decode bc_NL_fillPair 45 = .ok (.getfield 43, 3) := by decide +kernel
theorem dc_NL_fillPair_48 : decode bc_NL_fillPair 48 = .ok (.iload_n 1, 1) := by decide +kernel
theorem dc_NL_fillPair_49 : decode bc_NL_fillPair 49 = .ok (.iload_n 2, 1) := by decide +kernel
theorem dc_NL_fillPair_50 : decode bc_NL_fillPair 50 = .ok (.invokevirtual 118, 3) := by decide +kernel
theorem dc_NL_fillPair_53 : decode bc_NL_fillPair 53 = .ok (.iadd, 1) := by decide +kernel
theorem dc_NL_fillPair_54 : decode bc_NL_fillPair 54 = .ok (.lload 5, 2) := by decide +kernel
theorem dc_NL_fillPair_56 : decode bc_NL_fillPair 56 = .ok (.iload 7, 2) := by decide +kernel
theorem dc_NL_fillPair_58 : decode bc_NL_fillPair 58 = .ok (.iconst 1, 1) := by decide +kernel
theorem dc_NL_fillPair_59 : decode bc_NL_fillPair 59 = .ok (.iadd, 1) := by decide +kernel
theorem dc_NL_fillPair_60 : decode bc_NL_fillPair 60 = .ok (.invokevirtual 76, 3) := by decide +kernel
theorem dc_NL_fillPair_63 : decode bc_NL_fillPair 63 = .ok (.iload_n 2, 1) := by decide +kernel
theorem dc_NL_fillPair_64 : decode bc_NL_fillPair 64 = .ok (.iconst 1, 1) := by decide +kernel
theorem dc_NL_fillPair_65 : decode bc_NL_fillPair 65 = .ok (.isub, 1) := by decide +kernel
theorem dc_NL_fillPair_66 : decode bc_NL_fillPair 66 = .ok (.istore 9, 2) := by decide +kernel
theorem dc_NL_fillPair_68 : decode bc_NL_fillPair 68 = .ok (.iload 9, 2) := by decide +kernel
theorem dc_NL_fillPair_70 : decode bc_NL_fillPair 70 = .ok (.iload_n 1, 1) := by decide +kernel
theorem dc_NL_fillPair_71 : decode bc_NL_fillPair 71 = .ok (.isub, 1) := by decide +kernel
theorem dc_NL_fillPair_72 : decode bc_NL_fillPair 72 = .ok (.iconst 4, 1) := by decide +kernel
theorem dc_NL_fillPair_73 : decode bc_NL_fillPair 73 = .ok (.if_icmp .le 99, 3) := by decide +kernel
theorem dc_NL_fillPair_76 : decode bc_NL_fillPair 76 = .ok (.iload_n 1, 1) := by decide +kernel
theorem dc_NL_fillPair_77 : decode bc_NL_fillPair 77 = .ok (.iconst 1, 1) := by decide +kernel
theorem dc_NL_fillPair_78 : decode bc_NL_fillPair 78 = .ok (.iadd, 1) := by decide +kernel
theorem dc_NL_fillPair_79 : decode bc_NL_fillPair 79 = .ok (.istore 10, 2) := by decide +kernel
theorem dc_NL_fillPair_81 : decode bc_NL_fillPair 81 = .ok (.iload 10, 2) := by decide +kernel
theorem dc_NL_fillPair_83 : decode bc_NL_fillPair 83 = .ok (.iload 9, 2) := by decide +kernel
theorem dc_NL_fillPair_85 : decode bc_NL_fillPair 85 = .ok (.iconst 4, 1) := by decide +kernel
theorem dc_NL_fillPair_86 : decode bc_NL_fillPair 86 = .ok (.isub, 1) := by decide +kernel
theorem dc_NL_fillPair_87 : decode bc_NL_fillPair 87 = .ok (.if_icmp .gt 79, 3) := by decide +kernel
theorem dc_NL_fillPair_90 : decode bc_NL_fillPair 90 = .ok (.aload_n 0, 1) := by decide +kernel
theorem dc_NL_fillPair_91 : decode bc_NL_fillPair 91 = .ok (.getfield 39, 3) := by decide +kernel
theorem dc_NL_fillPair_94 : decode bc_NL_fillPair 94 = .ok (.iload 10, 2) := by decide +kernel
theorem dc_NL_fillPair_96 : decode bc_NL_fillPair 96 = .ok (.iload 9, 2) := by decide +kernel
theorem dc_NL_fillPair_98 : decode bc_NL_fillPair 98 = .ok (.invokevirtual 95, 3) := by decide +kernel
theorem dc_NL_fillPair_101 : decode bc_NL_fillPair 101 = .ok (.ifCond .eq 59, 3) := by decide +kernel
theorem dc_NL_fillPair_104 : decode bc_NL_fillPair 104 = .ok (.iload 8, 2) := by decide +kernel
theorem dc_NL_fillPair_106 : decode bc_NL_fillPair 106 = .ok (.aload_n 0, 1) := by decide +kernel
theorem dc_NL_fillPair_107 : decode bc_NL_fillPair 107 = .ok (.getfield 43, 3) := by decide +kernel
theorem dc_NL_fillPair_110 : decode bc_NL_fillPair 110 = .ok (.iload_n 1, 1) := by decide +kernel
theorem dc_NL_fillPair_111 : decode bc_NL_fillPair 111 = .ok (.iload_n 2, 1) := by decide +kernel
theorem dc_NL_fillPair_112 : decode bc_NL_fillPair 112 = .ok (.iload 10, 2) := by decide +kernel
theorem dc_NL_fillPair_114 : decode bc_NL_fillPair 114 = .ok (.iload 9, 2) := by decide +kernel
theorem dc_NL_fillPair_116 : decode bc_NL_fillPair 116 = .ok (.invokevirtual 124, 3) := by decide +kernel
theorem dc_NL_fillPair_119 : decode bc_NL_fillPair 119 = .ok (.iadd, 1) := by decide +kernel
theorem dc_NL_fillPair_120 : decode bc_NL_fillPair 120 = .ok (.aload_n 0, 1) := by decide +kernel
theorem dc_NL_fillPair_121 : decode bc_NL_fillPair 121 = .ok (.getfield 47, 3) := by decide +kernel
theorem dc_NL_fillPair_124 : decode bc_NL_fillPair 124 = .ok (.getfield 115, 3) := by decide +kernel
theorem dc_NL_fillPair_127 : decode bc_NL_fillPair 127 = .ok (.iload 10, 2) := by decide +kernel
theorem dc_NL_fillPair_129 : decode bc_NL_fillPair 129 = .ok (.aaload, 1) := by decide +kernel
theorem dc_NL_fillPair_130 : decode bc_NL_fillPair 130 = .ok (.iload 9, 2) := by decide +kernel
theorem dc_NL_fillPair_132 : decode bc_NL_fillPair 132 = .ok (.iaload, 1) := by decide +kernel
theorem dc_NL_fillPair_133 : decode bc_NL_fillPair 133 = .ok (.iadd, 1) := by decide +kernel
theorem dc_NL_fillPair_134 : decode bc_NL_fillPair 134 = .ok (.istore 11, 2) := by decide +kernel
theorem dc_NL_fillPair_136 : decode bc_NL_fillPair 136 = .ok (.aload_n 0, 1) := by decide +kernel
theorem dc_NL_fillPair_137 : decode bc_NL_fillPair 137 = .ok (.iload 10, 2) := by decide +kernel
theorem dc_NL_fillPair_139 : decode bc_NL_fillPair 139 = .ok (.iload 9, 2) := by decide +kernel
theorem dc_NL_fillPair_141 : decode bc_NL_fillPair 141 = .ok (.iload_n 3, 1) := by decide +kernel
theorem dc_NL_fillPair_142 : decode bc_NL_fillPair 142 = .ok (.iload 11, 2) := by decide +kernel
theorem dc_NL_fillPair_144 : decode bc_NL_fillPair 144 = .ok (.lload 5, 2) := by decide +kernel
theorem dc_NL_fillPair_146 : decode bc_NL_fillPair 146 = .ok (.iload 10, 2) := by decide +kernel
theorem dc_NL_fillPair_148 : decode bc_NL_fillPair 148 = .ok (.iload 9, 2) := by decide +kernel
theorem dc_NL_fillPair_150 : decode bc_NL_fillPair 150 = .ok (.invokestatic 107, 3) := by decide +kernel
theorem dc_NL_fillPair_153 : decode bc_NL_fillPair 153 = .ok (.iload 7, 2) := by decide +kernel
theorem dc_NL_fillPair_155 : decode bc_NL_fillPair 155 = .ok (.iconst 1, 1) := by decide +kernel
theorem dc_NL_fillPair_156 : decode bc_NL_fillPair 156 = .ok (.iadd, 1) := by decide +kernel
theorem dc_NL_fillPair_157 : decode bc_NL_fillPair 157 = .ok (.invokevirtual 111, 3) := by decide +kernel
theorem dc_NL_fillPair_160 : decode bc_NL_fillPair 160 = .ok (.iinc 10 1, 3) := by decide +kernel
theorem dc_NL_fillPair_163 : decode bc_NL_fillPair 163 = .ok (.goto (-82), 3) := by decide +kernel
theorem dc_NL_fillPair_166 : decode bc_NL_fillPair 166 = .ok (.iinc 9 (-1), 3) := by decide +kernel
theorem dc_NL_fillPair_169 : decode bc_NL_fillPair 169 = .ok (.goto (-101), 3) := by decide +kernel
theorem dc_NL_fillPair_172 : decode bc_NL_fillPair 172 = .ok (.iload_n 3, 1) := by decide +kernel
theorem dc_NL_fillPair_173 : decode bc_NL_fillPair 173 = .ok (.bipush 40, 2) := by decide +kernel
theorem dc_NL_fillPair_175 : decode bc_NL_fillPair 175 = .ok (.if_icmp .ge 44, 3) := by decide +kernel
theorem dc_NL_fillPair_178 : decode bc_NL_fillPair 178 = .ok (.aload_n 0, 1) := by decide +kernel
theorem dc_NL_fillPair_179 : decode bc_NL_fillPair 179 = .ok (.iload_n 3, 1) := by decide +kernel
theorem dc_NL_fillPair_180 : decode bc_NL_fillPair 180 = .ok (.aload_n 0, 1) := by decide +kernel
theorem dc_NL_fillPair_181 : decode bc_NL_fillPair 181 = .ok (.getfield 47, 3) := by decide +kernel
theorem dc_NL_fillPair_184 : decode bc_NL_fillPair 184 = .ok (.getfield 128, 3) := by decide +kernel
theorem dc_NL_fillPair_187 : decode bc_NL_fillPair 187 = .ok (.iload_n 1, 1) := by decide +kernel
theorem dc_NL_fillPair_188 : decode bc_NL_fillPair 188 = .ok (.iconst 1, 1) := by decide +kernel
theorem dc_NL_fillPair_189 : decode bc_NL_fillPair 189 = .ok (.iadd, 1) := by decide +kernel
theorem dc_NL_fillPair_190 : decode bc_NL_fillPair 190 = .ok (.iload_n 2, 1) := by decide +kernel
theorem dc_NL_fillPair_191 : decode bc_NL_fillPair 191 = .ok (.invokevirtual 68, 3) := by decide +kernel
theorem dc_NL_fillPair_194 : decode bc_NL_fillPair 194 = .ok (.aload_n 0, 1) := by decide +kernel
theorem dc_NL_fillPair_195 : decode bc_NL_fillPair 195 = .ok (.iload_n 3, 1) := by decide +kernel
theorem dc_NL_fillPair_196 : decode bc_NL_fillPair 196 = .ok (.iconst 1, 1) := by decide +kernel
theorem dc_NL_fillPair_197 : decode bc_NL_fillPair 197 = .ok (.iadd, 1) := by decide +kernel
theorem dc_NL_fillPair_198 : decode bc_NL_fillPair 198 = .ok (.iload 8, 2) := by decide +kernel
theorem dc_NL_fillPair_200 : decode bc_NL_fillPair 200 = .ok (.aload_n 0, 1) := by decide +kernel
theorem dc_NL_fillPair_201 : decode bc_NL_fillPair 201 = .ok (.getfield 47, 3) := by decide +kernel
theorem dc_NL_fillPair_204 : decode bc_NL_fillPair 204 = .ok (.iload_n 1, 1) := by decide +kernel
theorem dc_NL_fillPair_205 : decode bc_NL_fillPair 205 = .ok (.iload_n 2, 1) := by decide +kernel
theorem dc_NL_fillPair_206 : decode bc_NL_fillPair 206 = .ok (.invokevirtual 131, 3) := by decide +kernel
theorem dc_NL_fillPair_209 : decode bc_NL_fillPair 209 = .ok (.iadd, 1) := by decide +kernel
theorem dc_NL_fillPair_210 : decode bc_NL_fillPair 210 = .ok (.lload 5, 2) := by decide +kernel
theorem dc_NL_fillPair_212 : decode bc_NL_fillPair 212 = .ok (.iload 7, 2) := by decide +kernel
theorem dc_NL_fillPair_214 : decode bc_NL_fillPair 214 = .ok (.iconst 1, 1) := by decide +kernel
theorem dc_NL_fillPair_215 : decode bc_NL_fillPair 215 = .ok (.iadd, 1) := by decide +kernel
theorem dc_NL_fillPair_216 : decode bc_NL_fillPair 216 = .ok (.invokevirtual 76, 3) := by decide +kernel
theorem dc_NL_fillPair_219 : decode bc_NL_fillPair 219 = .ok (.return_, 1) := by decide +kernel
/-- the contracts, by the depth that is left -/
def nl_CR (K : Nat → ClassId) (sa ad : Nat → Nat) (C : Nat → Int32) (G : Nat → Nat) (b : Nat → Nat) (n : Nat) (pe : Nat → Nat → Int) (T : Nat → Nat → Nat → Int) (lim : Int) (d : Nat) : Prop := ∀ (l : Launch) (I : Nat → Int32) (V : Nat → Nat → Int32) (L : Nat → Int64) (R : Nat → Nat) (regs : List (Nat × Nat × Nat)) (x t : Int) (ac : List Int × Bool) (dep : Nat), nl_cx b n pe T lim I V → nl_ac ac I L → nl_M regs V R → nl_W n regs → nl_mu regs < d → dep + nl_mu regs ≤ 37 → d ≤ 38 → -1000 * (40 - (d : Int)) ≤ x → x ≤ 1000 * (40 - (d : Int)) → -100000000000 * (41 - (d : Int)) ≤ t → t ≤ 100000000000 * (41 - (d : Int)) →
  jl_CP l K sa yn_NL_fillRegions bc_NL_fillRegions 15 none (d + 12) (60 * d + 300) 168 ad [.ref (ad 148), .int (nI regs.length), .int (iI (x + nl_sum T regs)), .long (iL t), .int (nI dep)] (gw K ad I V L C G R) (fun v E2 => v = none ∧ ∃ I2 V2 L2 R2, nl_st I V (nl_run lim ac (nl_F b d none regs x t)) regs I2 V2 L2 R2 ∧ E2 = gw K ad I2 V2 L2 C G R2)
def nl_CQ (K : Nat → ClassId) (sa ad : Nat → Nat) (C : Nat → Int32) (G : Nat → Nat) (b : Nat → Nat) (n : Nat) (pe : Nat → Nat → Int) (T : Nat → Nat → Nat → Int) (lim : Int) (d : Nat) : Prop := ∀ (l : Launch) (I : Nat → Int32) (V : Nat → Nat → Int32) (L : Nat → Int64) (R : Nat → Nat) (regs : List (Nat × Nat × Nat)) (x t : Int) (ac : List Int × Bool) (dep i j : Nat), nl_cx b n pe T lim I V → nl_ac ac I L → nl_M regs V R → nl_W n regs → en_cp b i j = true → j < n → nl_mu regs + 2 * (j - i) < d → dep + nl_mu regs + 2 * (j - i) ≤ 37 → d ≤ 38 → -1000 * (40 - (d : Int)) ≤ x → x ≤ 1000 * (40 - (d : Int)) → -100000000000 * (41 - (d : Int)) ≤ t → t ≤ 100000000000 * (41 - (d : Int)) →
  jl_CP l K sa yn_NL_fillPair bc_NL_fillPair 12 none (d + 12) (60 * d + 300) 168 ad [.ref (ad 148), .int (nI i), .int (nI j), .int (nI regs.length), .int (iI (x + pe i j + nl_sum T regs)), .long (iL t), .int (nI dep)] (gw K ad I V L C G R) (fun v E2 => v = none ∧ ∃ I2 V2 L2 R2, nl_st I V (nl_run lim ac (nl_F b d (some (i, j)) regs x t)) regs I2 V2 L2 R2 ∧ E2 = gw K ad I2 V2 L2 C G R2)
theorem nl_4_in : ∀ p, 0 ≤ nl_4 p ∧ nl_4 p ≤ 17179869184 := by
  intro p
  by_cases h : p < 18
  · have : ∀ p, p < 18 → 0 ≤ nl_4 p ∧ nl_4 p ≤ 17179869184 := by decide +kernel
    exact this p h
  · unfold nl_4
    rw [show 17 - p = 0 by omega]
    decide
end
section
/-! FoldedStrand$NearList.fillRegions: the contract at a depth out of those at the next. -/
def nl_F2 (b : Nat → Nat) (d r s e : Nat) (rest : List (Nat × Nat × Nat)) (x t : Int) (c c2 : Nat) : List (Int × Int) := if en_cp b (s + c2) (e - 1 - c) = true then nl_F b d (some (s + c2, e - 1 - c)) ((fo_af r, s, s + c2) :: rest) (x + fo_pp r * ((c : Nat) : Int) + (fo_pq r + lp_wk b (s + c2) (e - 1 - c) 5)) (t - nl_dt (s + c2) (e - 1 - c)) else []
theorem nl_F_reg (b : Nat → Nat) (d r s e : Nat) (rest : List (Nat × Nat × Nat)) (x t : Int) : nl_F b (d + 1) none ((r, s, e) :: rest) x t = (if r < 2 then nl_F b d none rest (x + fo_pp r * ((e : Int) - s)) t else []) ++ (List.range (e - s - 4)).flatMap (fun c => (List.range (e - 1 - c - 3 - s)).flatMap (nl_F2 b d r s e rest x t c)) := rfl
theorem jl_absVR {x : jl_X} {N : Nat} {ad : Nat → Nat} {K : Nat → ClassId} {cells slots pc : Nat} {lc : List (Nat × Value)} {st : List Value} {I : Nat → Int32} {L : Nat → Int64} {C : Nat → Int32} {G : Nat → Nat} {P : (Nat → Nat → Int32) → (Nat → Nat) → Prop} {V0 : Nat → Nat → Int32} {R0 : Nat → Nat} (h : P V0 R0) (kk : ∀ V1 R1, P V1 R1 → jl_J x N ad cells slots (gw K ad I V1 L C G R1) pc lc st) : jl_J x N ad cells slots (gw K ad I V0 L C G R0) pc lc st := kk V0 R0 h
section NL
variable {K : Nat → ClassId} {sa : Nat → Nat} {ad : Nat → Nat} {C : Nat → Int32} {G : Nat → Nat} {b : Nat → Nat} {n : Nat} {pe : Nat → Nat → Int} {T : Nat → Nat → Nat → Int} {lim : Int} {d : Nat}
theorem nl_reg34 (hR : nl_CR K sa ad C G b n pe T lim d) (hQ : nl_CQ K sa ad C G b n pe T lim d) {l : Launch} {X : jl_X} {I : Nat → Int32} {V : Nat → Nat → Int32} {L : Nat → Int64} {R : Nat → Nat} {r s e : Nat} {rest : List (Nat × Nat × Nat)} {x t : Int} {ac : List Int × Bool} {dep : Nat} (h : jl_ok X 168 ad K sa bc_NL_fillRegions yn_NL_fillRegions.cls 15) (hr : jl_r X (d + 1 + 12) (60 * (d + 1) + 300) 0 0) (he : jl_endP X 168 ad none (fun v E2 => v = none ∧ ∃ I2 V2 L2 R2, nl_st I V (nl_run lim ac (nl_F b (d + 1) none ((r, s, e) :: rest) x t)) ((r, s, e) :: rest) I2 V2 L2 R2 ∧ E2 = gw K ad I2 V2 L2 C G R2)) (hcx : nl_cx b n pe T lim I V) (hac : nl_ac ac I L) (hM : nl_M ((r, s, e) :: rest) V R) (hW : nl_W n ((r, s, e) :: rest)) (hmu : nl_mu ((r, s, e) :: rest) < d + 1) (hdep : dep + nl_mu ((r, s, e) :: rest) ≤ 37) (hd38 : d + 1 ≤ 38) (hx1 : -1000 * (40 - ((d + 1 : Nat) : Int)) ≤ x) (hx2 : x ≤ 1000 * (40 - ((d + 1 : Nat) : Int))) (ht1 : -100000000000 * (41 - ((d + 1 : Nat) : Int)) ≤ t) (ht2 : t ≤ 100000000000 * (41 - ((d + 1 : Nat) : Int))) :
    jl_J X 168 ad 0 0 (gw K ad I V L C G R) 34 [(0, .ref (ad 148)), (1, .int (nI (rest.length + 1))), (2, .int (iI (x + nl_sum T ((r, s, e) :: rest)))), (3, .long (iL t)), (5, .int (nI dep))] [] := by
  have hw : r < 4 ∧ s ≤ e ∧ e ≤ n := hW (r, s, e) List.mem_cons_self
  obtain ⟨hr4, hse, hen⟩ := hw
  have hWr : nl_W n rest := fun q hq => hW q (List.mem_cons_of_mem _ hq)
  have hn := hcx.2.2.1
  have hmu2 : nl_mu ((r, s, e) :: rest) = 2 * (e - s) + 1 + nl_mu rest := rfl
  have hlen := nl_mu_len rest
  have hs19 : s < 19 := by omega
  have haf : fo_af r < 4 := fo_af_lt hr4
  have hpp : 0 ≤ fo_pp r ∧ fo_pp r ≤ 1 := by unfold fo_pp; split <;> decide
  have hpq : 0 ≤ fo_pq r ∧ fo_pq r ≤ 4 := by unfold fo_pq; split <;> decide
  obtain ⟨A, hA⟩ : ∃ A, A = (if r < 2 then nl_F b d none rest (x + fo_pp r * ((e : Int) - s)) t else []) := ⟨_, rfl⟩
  have eop : nI (rest.length + 1) - 1 = nI rest.length := nI_pred _
  have tail : ∀ (ac0 : List Int × Bool) (I0 : Nat → Int32) (V0 : Nat → Nat → Int32) (L0 : Nat → Int64) (R0 : Nat → Nat), nl_st I V ac0 rest I0 V0 L0 R0 → ac0 = nl_run lim ac A → jl_J X 168 ad 0 0 (gw K ad I0 V0 L0 C G R0) 113 [(9, .int (iI (x + nl_sum T rest))), (8, .int (nI e)), (7, .int (nI s)), (6, .ref (ad (64 + 21 * r))), (0, .ref (ad 148)), (1, .int (nI (rest.length + 1))), (2, .int (iI (x + nl_sum T ((r, s, e) :: rest)))), (3, .long (iL t)), (5, .int (nI dep))] [] := by
    intro ac0 I0 V0 L0 R0 hst0 hac0
    have outer : ∀ (dd c : Nat), c + dd = e - s - 4 → ∀ (ac1 : List Int × Bool) (I1 : Nat → Int32) (V1 : Nat → Nat → Int32) (L1 : Nat → Int64) (R1 : Nat → Nat), nl_st I V ac1 rest I1 V1 L1 R1 → ac1 = nl_run lim ac0 ((List.range c).flatMap (fun c => (List.range (e - 1 - c - 3 - s)).flatMap (nl_F2 b d r s e rest x t c))) → jl_J X 168 ad 0 0 (gw K ad I1 V1 L1 C G R1) 119 [(10, .int (iI ((e : Int) - 1 - c))), (9, .int (iI (x + nl_sum T rest))), (8, .int (nI e)), (7, .int (nI s)), (6, .ref (ad (64 + 21 * r))), (0, .ref (ad 148)), (1, .int (nI (rest.length + 1))), (2, .int (iI (x + nl_sum T ((r, s, e) :: rest)))), (3, .long (iL t)), (5, .int (nI dep))] [] := by
      intro dd
      induction dd with
      | zero =>
        intro c hc ac1 I1 V1 L1 R1 hst1 hac1
        have hc : c = e - s - 4 := by omega
        have ej : iI ((e : Int) - 1 - c) - nI s = iI ((e : Int) - 1 - c - s) := by rw [← iI_nat s, iI_sub]
        have hfin : ac1 = nl_run lim ac (nl_F b (d + 1) none ((r, s, e) :: rest) x t) := by rw [nl_F_reg, ← hA, nl_run_app, ← hac0, ← hc]; exact hac1
        rw [hfin] at hst1
        refine jl_iload h rfl dc_NL_fillRegions_119 121 rfl ?_
        refine jl_iload h rfl dc_NL_fillRegions_121 123 rfl ?_
        refine jl_isub h dc_NL_fillRegions_123 124 rfl ?_
        rw [show iI ((e : Int) - 1 - c) - nI s = iI ((e : Int) - 1 - c - s) by exact ej]
        refine jl_iconst (v := iI 4) h (by decide) dc_NL_fillRegions_124 125 rfl ?_
        refine jl_icmp_lt h 261 (by decide) dc_NL_fillRegions_125 128 rfl (fun c125 => ?_) (fun c125 => absurd ((iI_lt (by omega) (by omega) (by omega) (by omega)).mpr (by omega)) c125)
        refine jl_aload_n (i := 0) h rfl rfl dc_NL_fillRegions_261 262 rfl ?_
        refine jl_iload_n (i := 1) h rfl rfl dc_NL_fillRegions_262 263 rfl ?_
        refine jl_iconst (v := 1) h (by decide) dc_NL_fillRegions_263 264 rfl ?_
        refine jl_isub h dc_NL_fillRegions_264 265 rfl ?_
        rw [show nI (rest.length + 1) - 1 = nI rest.length by exact eop]
        refine jl_aload h rfl dc_NL_fillRegions_265 267 rfl ?_
        refine jl_iload h rfl dc_NL_fillRegions_267 269 rfl ?_
        refine jl_iload h rfl dc_NL_fillRegions_269 271 rfl ?_
        refine jl_callV (As := [_, _, _, _]) (rest := []) h hr vs_NL_68 vi_NL_setRegion vx_NL_setRegion (ci := 5) rfl (by omega) (by exact rfl) (fun l => c_NL_setRegion l (k := rest.length) (r := r) (s := s) (e := e) (by omega) hr4) (by first | decide | omega) (by first | decide | omega) rfl rfl (Nat.le_of_ble_eq_true rfl) dc_NL_fillRegions_271 (res := []) rfl 274 rfl ?_
        exact jl_vretP h he (⟨rfl, _, _, _, _, nl_set r s e hst1, rfl⟩) dc_NL_fillRegions_274
      | succ dd ih =>
        intro c hc ac1 I1 V1 L1 R1 hst1 hac1
        obtain ⟨m, hm⟩ : ∃ m, m = e - 1 - c := ⟨_, rfl⟩
        have ejm : iI ((e : Int) - 1 - c) = nI m := by
          rw [← iI_nat]
          congr 1
          omega
        rw [ejm]
        have ihn := ih (c + 1) (by omega)
        have inner : ∀ (d2 c2 : Nat), c2 + d2 = m - 3 - s → ∀ (ac2 : List Int × Bool) (I2 : Nat → Int32) (V2 : Nat → Nat → Int32) (L2 : Nat → Int64) (R2 : Nat → Nat), nl_st I V ac2 rest I2 V2 L2 R2 → ac2 = nl_run lim ac1 ((List.range c2).flatMap (nl_F2 b d r s e rest x t c)) → jl_J X 168 ad 0 0 (gw K ad I2 V2 L2 C G R2) 150 [(12, .int (nI (s + c2))), (11, .int (iI (x + nl_sum T rest + fo_pp r * ((c : Nat) : Int)))), (10, .int (nI m)), (9, .int (iI (x + nl_sum T rest))), (8, .int (nI e)), (7, .int (nI s)), (6, .ref (ad (64 + 21 * r))), (0, .ref (ad 148)), (1, .int (nI (rest.length + 1))), (2, .int (iI (x + nl_sum T ((r, s, e) :: rest)))), (3, .long (iL t)), (5, .int (nI dep))] [] := by
          intro d2
          induction d2 with
          | zero =>
            intro c2 hc2 ac2 I2 V2 L2 R2 hst2 hac2
            have hc2 : c2 = m - 3 - s := by omega
            have em : nI m + Int32.ofInt (-1) = iI ((e : Int) - 1 - ((c + 1 : Nat) : Int)) := by
              rw [← iI_nat]
              have h9 : iI (m : Int) + iI (-1) = iI ((m : Int) + -1) := iI_add _ _
              rw [show Int32.ofInt (-1) = iI (-1) from rfl, h9]
              congr 1
              omega
            refine jl_iload h rfl dc_NL_fillRegions_150 152 rfl ?_
            refine jl_iload h rfl dc_NL_fillRegions_152 154 rfl ?_
            refine jl_iconst (v := nI 4) h (by decide) dc_NL_fillRegions_154 155 rfl ?_
            refine jl_isub h dc_NL_fillRegions_155 156 rfl ?_
            refine jl_icmp_gt h 255 (by decide) dc_NL_fillRegions_156 159 rfl (fun c156 => ?_) (fun c156 => absurd ((fo_gt (by omega) (by omega)).mpr (by omega)) c156)
            refine jl_iinc (i := 10) (d := -1) (lc2 := [(10, _), (12, _), (11, _), (9, _), (8, _), (7, _), (6, _), (0, _), (1, _), (2, _), (3, _), (5, _)]) (v2 := iI ((e : Int) - 1 - ((c + 1 : Nat) : Int))) h (by decide) rfl (em) rfl dc_NL_fillRegions_255 258 rfl ?_
            refine jl_goto h 119 (by decide) dc_NL_fillRegions_258 ?_
            refine jl_sub (lc2 := [(10, _), (9, _), (8, _), (7, _), (6, _), (0, _), (1, _), (2, _), (3, _), (5, _)]) [0, 3, 4, 5, 6, 7, 8, 9, 10, 11] rfl ?_
            exact ihn ac2 I2 V2 L2 R2 hst2 (by rw [nl_range_flat, nl_run_app, ← hac1, hac2, hc2, hm])
          | succ d2 ih2 =>
            intro c2 hc2 ac2 I2 V2 L2 R2 hst2 hac2
            have hi18 : s + c2 < 18 := by omega
            have hm18 : m < 18 := by omega
            have hcx2 := hcx.to hst2.1 hst2.2.1
            have hS2 : st_ok K ad (gw K ad I2 V2 L2 C G R2) n b := hcx2.S
            have hwk := lp_wk_in b (s + c2) m 5 (by decide)
            have hppc : 0 ≤ fo_pp r * ((c : Nat) : Int) ∧ fo_pp r * ((c : Nat) : Int) ≤ (c : Int) := by
              rcases (show fo_pp r = 0 ∨ fo_pp r = 1 by omega) with h9 | h9 <;> rw [h9] <;> omega
            have hd4 := nl_4_in (s + c2)
            have hd5 := nl_4_in m
            refine jl_iload h rfl dc_NL_fillRegions_150 152 rfl ?_
            refine jl_iload h rfl dc_NL_fillRegions_152 154 rfl ?_
            refine jl_iconst (v := nI 4) h (by decide) dc_NL_fillRegions_154 155 rfl ?_
            refine jl_isub h dc_NL_fillRegions_155 156 rfl ?_
            refine jl_icmp_gt h 255 (by decide) dc_NL_fillRegions_156 159 rfl (fun c156 => absurd c156 (fun q => absurd ((fo_gt (by omega) (by omega)).mp q) (by omega))) (fun c156 => ?_)
            refine jl_aload_n (i := 0) h rfl rfl dc_NL_fillRegions_159 160 rfl ?_
            refine jl_getf h nm_c_NL 7 wl_NL_39 (by omega) (by decide) (by exact rfl) (by rfl) dc_NL_fillRegions_160 163 rfl ?_
            refine jl_iload h rfl dc_NL_fillRegions_163 165 rfl ?_
            refine jl_iload h rfl dc_NL_fillRegions_165 167 rfl ?_
            refine jl_callV (As := [_, _]) (rest := []) h hr vs_NL_95 vi_ST_canPair vx_ST_canPair (ci := 1) rfl (by omega) (by exact hS2.1) (fun l => c_ST_canPair l (by omega) hS2 hi18 hm18) (by first | decide | omega) (by first | decide | omega) rfl rfl (Nat.le_of_ble_eq_true rfl) dc_NL_fillRegions_167 (res := [_]) rfl 170 rfl ?_
            refine jl_if_eq h 249 (by decide) dc_NL_fillRegions_170 173 rfl (fun c170 => ?_) (fun c170 => ?_)
            · skip
              rw [st_b0] at c170
              refine jl_iinc (i := 12) (d := 1) (lc2 := [(12, _), (11, _), (10, _), (9, _), (8, _), (7, _), (6, _), (0, _), (1, _), (2, _), (3, _), (5, _)]) (v2 := nI (s + (c2 + 1))) h (by decide) rfl (by exact nI_1 (s + c2)) rfl dc_NL_fillRegions_249 252 rfl ?_
              refine jl_goto h 150 (by decide) dc_NL_fillRegions_252 ?_
              first | exact ih2 (c2 + 1) (by omega) _ I4 V4 L4 R4 (hst3.trans hst4).tail (by rw [nl_range_flat, nl_run_app, ← hac2, show nl_F2 b d r s e rest x t c c2 = nl_F b d (some (s + c2, m)) ((fo_af r, s, s + c2) :: rest) (x + fo_pp r * ((c : Nat) : Int) + (fo_pq r + lp_wk b (s + c2) m 5)) (t - nl_dt (s + c2) m) by unfold nl_F2; rw [← hm, if_pos c170]]) | exact ih2 (c2 + 1) (by omega) ac2 I2 V2 L2 R2 hst2 (by rw [nl_range_flat, nl_run_app, ← hac2, show nl_F2 b d r s e rest x t c c2 = [] by unfold nl_F2; rw [← hm, if_neg (by rw [c170]; decide)]]; rfl)
            · skip
              rw [st_b1] at c170
              have hcp4 := (en_cp_4 c170).1
              refine jl_aload_n (i := 0) h rfl rfl dc_NL_fillRegions_173 174 rfl ?_
              refine jl_iload_n (i := 1) h rfl rfl dc_NL_fillRegions_174 175 rfl ?_
              refine jl_iconst (v := 1) h (by decide) dc_NL_fillRegions_175 176 rfl ?_
              refine jl_isub h dc_NL_fillRegions_176 177 rfl ?_
              rw [show nI (rest.length + 1) - 1 = nI rest.length by exact eop]
              refine jl_aload h rfl dc_NL_fillRegions_177 179 rfl ?_
              refine jl_callV (As := []) (rest := [_, _]) h hr vs_NL_99 vi_RE_afterPair vx_RE_afterPair (ci := 4) rfl (by omega) (by exact gw_re hr4) (fun l => c_RE_after l hr4) (by first | decide | omega) (by first | decide | omega) rfl rfl (Nat.le_of_ble_eq_true rfl) dc_NL_fillRegions_179 (res := [_, _, _]) rfl 182 rfl ?_
              refine jl_iload h rfl dc_NL_fillRegions_182 184 rfl ?_
              refine jl_iload h rfl dc_NL_fillRegions_184 186 rfl ?_
              refine jl_callV (As := [_, _, _, _]) (rest := []) h hr vs_NL_68 vi_NL_setRegion vx_NL_setRegion (ci := 5) rfl (by omega) (by exact rfl) (fun l => c_NL_setRegion l (k := rest.length) (r := fo_af r) (s := s) (e := s + c2) (by omega) (fo_af_lt hr4)) (by first | decide | omega) (by first | decide | omega) rfl rfl (Nat.le_of_ble_eq_true rfl) dc_NL_fillRegions_186 (res := []) rfl 189 rfl ?_
              refine jl_absVR (P := fun V9 R9 => nl_st I V ac2 ((fo_af r, s, s + c2) :: rest) I2 V9 L2 R9) (nl_set (fo_af r) s (s + c2) hst2) (fun V3 R3 hst3 => ?_)
              have hcx3 := hcx.to hst3.1 hst3.2.1
              have hpe3 : V3 (6 + (s + c2)) m = iI (pe (s + c2) m) := hcx3.2.2.2.2.2.1.1 (s + c2) m (by omega) (by omega)
              refine jl_aload h rfl dc_NL_fillRegions_189 191 rfl ?_
              refine jl_callV (As := []) (rest := []) h hr vs_NL_99 vi_RE_afterPair vx_RE_afterPair (ci := 4) rfl (by omega) (by exact gw_re hr4) (fun l => c_RE_after l hr4) (by first | decide | omega) (by first | decide | omega) rfl rfl (Nat.le_of_ble_eq_true rfl) dc_NL_fillRegions_191 (res := [_]) rfl 194 rfl ?_
              refine jl_getf h nm_c_RE 2 wl_NL_84 (by omega) (by decide) (by exact gw_re (fo_af_lt hr4)) (by rfl) dc_NL_fillRegions_194 197 rfl ?_
              refine jl_iload h rfl dc_NL_fillRegions_197 199 rfl ?_
              refine jl_aald (t0 := 4) h (s) (by exact rfl) (by omega) (by exact gw_ra (fo_af_lt hr4)) (by rfl) (by rfl) (by exact hs19) (by first | decide | assumption) (by exact if_pos hs19) dc_NL_fillRegions_199 200 rfl ?_
              refine jl_iload h rfl dc_NL_fillRegions_200 202 rfl ?_
              refine jl_iald (v := iI (T (2 + fo_af r) s (s + c2))) h (s + c2) (by exact rfl) (by omega) (by exact gw_row (gw_rr (fo_af_lt hr4) hs19)) (by exact by omega) (by first | decide | assumption) (by exact hcx3.T (fo_af_lt hr4) (by omega) (by omega)) dc_NL_fillRegions_202 203 rfl ?_
              refine jl_istore (i := 13) (lc2 := [(13, _), (12, _), (11, _), (10, _), (9, _), (8, _), (7, _), (6, _), (0, _), (1, _), (2, _), (3, _), (5, _)]) h (by decide) rfl dc_NL_fillRegions_203 205 rfl ?_
              refine jl_iload h rfl dc_NL_fillRegions_205 207 rfl ?_
              refine jl_iload h rfl dc_NL_fillRegions_207 209 rfl ?_
              refine jl_iadd h dc_NL_fillRegions_209 210 rfl ?_
              rw [show iI (x + nl_sum T rest + fo_pp r * ((c : Nat) : Int)) + iI (T (2 + fo_af r) s (s + c2)) = iI (x + nl_sum T rest + fo_pp r * ((c : Nat) : Int) + T (2 + fo_af r) s (s + c2)) by exact iI_add _ _]
              refine jl_aload_n (i := 0) h rfl rfl dc_NL_fillRegions_210 211 rfl ?_
              refine jl_getf h nm_c_NL 9 wl_NL_47 (by omega) (by decide) (by exact rfl) (by rfl) dc_NL_fillRegions_211 214 rfl ?_
              refine jl_aload h rfl dc_NL_fillRegions_214 216 rfl ?_
              refine jl_iload h rfl dc_NL_fillRegions_216 218 rfl ?_
              refine jl_iload h rfl dc_NL_fillRegions_218 220 rfl ?_
              refine jl_callV (As := [_, _, _]) (rest := [_]) h hr vs_NL_103 vi_FO_branchEnergy vx_FO_branchEnergy (ci := 3) rfl (by omega) (by exact rfl) (fun l => c_FO_branch l hr4 hcx3.S hi18 hm18 hpe3) (by first | decide | omega) (by first | decide | omega) rfl rfl (Nat.le_of_ble_eq_true rfl) dc_NL_fillRegions_220 (res := [_, _]) rfl 223 rfl ?_
              refine jl_iadd h dc_NL_fillRegions_223 224 rfl ?_
              rw [show iI (x + nl_sum T rest + fo_pp r * ((c : Nat) : Int) + T (2 + fo_af r) s (s + c2)) + iI (fo_br b r pe (s + c2) m) = iI (x + fo_pp r * ((c : Nat) : Int) + (fo_pq r + lp_wk b (s + c2) m 5) + pe (s + c2) m + nl_sum T ((fo_af r, s, s + c2) :: rest)) by rw [iI_add]; congr 1; show _ = _ + (T (2 + fo_af r) s (s + c2) + nl_sum T rest); unfold fo_br; omega]
              refine jl_istore (i := 14) (lc2 := [(14, _), (13, _), (12, _), (11, _), (10, _), (9, _), (8, _), (7, _), (6, _), (0, _), (1, _), (2, _), (3, _), (5, _)]) h (by decide) rfl dc_NL_fillRegions_224 226 rfl ?_
              refine jl_aload_n (i := 0) h rfl rfl dc_NL_fillRegions_226 227 rfl ?_
              refine jl_iload h rfl dc_NL_fillRegions_227 229 rfl ?_
              refine jl_iload h rfl dc_NL_fillRegions_229 231 rfl ?_
              refine jl_iload_n (i := 1) h rfl rfl dc_NL_fillRegions_231 232 rfl ?_
              refine jl_iload h rfl dc_NL_fillRegions_232 234 rfl ?_
              refine jl_lload_n (i := 3) h rfl rfl dc_NL_fillRegions_234 235 rfl ?_
              refine jl_iload h rfl dc_NL_fillRegions_235 237 rfl ?_
              refine jl_iload h rfl dc_NL_fillRegions_237 239 rfl ?_
              refine jl_callS (As := [_, _, _]) (rest := [_, _, _, _, _]) h hr vs_NL_107 vt_NL_withPair (fun l => c_NL_withPair l hi18 hm18 t) (by first | decide | omega) (by first | decide | omega) rfl rfl (Nat.le_of_ble_eq_true rfl) dc_NL_fillRegions_239 (res := [_, _, _, _, _, _]) rfl 242 rfl ?_
              refine jl_iload h rfl dc_NL_fillRegions_242 244 rfl ?_
              refine jl_iconst (v := 1) h (by decide) dc_NL_fillRegions_244 245 rfl ?_
              refine jl_iadd h dc_NL_fillRegions_245 246 rfl ?_
              rw [show nI dep + 1 = nI (dep + 1) by exact nI_1 dep]
              refine jl_callVV (As := [_, _, _, _, _, _]) (rest := []) h hr vs_NL_111 vi_NL_fillPair vx_NL_fillPair (ci := 5) rfl (by omega) (by exact rfl) (fun l => hQ l I2 V3 L2 R3 ((fo_af r, s, s + c2) :: rest) _ _ ac2 (dep + 1) (s + c2) m hcx3 hst3.2.2.1 hst3.2.2.2 (fun q hq => by
                rcases List.mem_cons.mp hq with rfl | hq
                · exact ⟨fo_af_lt hr4, by show s ≤ s + c2; omega, by show s + c2 ≤ n; omega⟩
                · exact hWr q hq) c170 (by omega) (by show 2 * (s + c2 - s) + 1 + nl_mu rest + 2 * (m - (s + c2)) < d; omega) (by show dep + 1 + (2 * (s + c2 - s) + 1 + nl_mu rest) + 2 * (m - (s + c2)) ≤ 37; omega) (by omega) (by omega) (by omega) (by unfold nl_dt; omega) (by unfold nl_dt; omega)) (by first | decide | omega) (by first | decide | omega) rfl rfl (Nat.le_of_ble_eq_true rfl) dc_NL_fillRegions_246 249 rfl ?_
              rintro E9 ⟨I4, V4, L4, R4, hst4, rfl⟩
              refine jl_iinc (i := 12) (d := 1) (lc2 := [(12, _), (14, _), (13, _), (11, _), (10, _), (9, _), (8, _), (7, _), (6, _), (0, _), (1, _), (2, _), (3, _), (5, _)]) (v2 := nI (s + (c2 + 1))) h (by decide) rfl (by exact nI_1 (s + c2)) rfl dc_NL_fillRegions_249 252 rfl ?_
              refine jl_goto h 150 (by decide) dc_NL_fillRegions_252 ?_
              refine jl_sub (lc2 := [(12, _), (11, _), (10, _), (9, _), (8, _), (7, _), (6, _), (0, _), (1, _), (2, _), (3, _), (5, _)]) [0, 3, 4, 5, 6, 7, 8, 9, 10, 11, 12, 13] rfl ?_
              first | exact ih2 (c2 + 1) (by omega) _ I4 V4 L4 R4 (hst3.trans hst4).tail (by rw [nl_range_flat, nl_run_app, ← hac2, show nl_F2 b d r s e rest x t c c2 = nl_F b d (some (s + c2, m)) ((fo_af r, s, s + c2) :: rest) (x + fo_pp r * ((c : Nat) : Int) + (fo_pq r + lp_wk b (s + c2) m 5)) (t - nl_dt (s + c2) m) by unfold nl_F2; rw [← hm, if_pos c170]]) | exact ih2 (c2 + 1) (by omega) ac2 I2 V2 L2 R2 hst2 (by rw [nl_range_flat, nl_run_app, ← hac2, show nl_F2 b d r s e rest x t c c2 = [] by unfold nl_F2; rw [← hm, if_neg (by rw [c170]; decide)]]; rfl)
        have ej2 : nI m - nI s = nI (m - s) := pk_sub (by omega)
        have e138 : nI e - 1 = nI (e - 1) := by rw [show (1 : Int32) = nI 1 from rfl, pk_sub (by omega)]
        have e141 : nI (e - 1) - nI m = nI c := by rw [pk_sub (by omega)]; congr 1; omega
        have e143 : iI (x + nl_sum T rest) + iI (fo_pp r) * nI c = iI (x + nl_sum T rest + fo_pp r * ((c : Nat) : Int)) := by rw [← iI_nat c, iI_mul, iI_add]
        refine jl_iload h rfl dc_NL_fillRegions_119 121 rfl ?_
        refine jl_iload h rfl dc_NL_fillRegions_121 123 rfl ?_
        refine jl_isub h dc_NL_fillRegions_123 124 rfl ?_
        rw [show nI m - nI s = nI (m - s) by exact ej2]
        refine jl_iconst (v := nI 4) h (by decide) dc_NL_fillRegions_124 125 rfl ?_
        refine jl_icmp_lt h 261 (by decide) dc_NL_fillRegions_125 128 rfl (fun c125 => absurd c125 (nI_nlt (by omega) (by omega))) (fun c125 => ?_)
        refine jl_iload h rfl dc_NL_fillRegions_128 130 rfl ?_
        refine jl_aload h rfl dc_NL_fillRegions_130 132 rfl ?_
        refine jl_getf (v := .int (iI (fo_pp r))) h nm_c_RE 0 wl_NL_92 (by omega) (by decide) (by exact gw_re hr4) (by exact rfl) dc_NL_fillRegions_132 135 rfl ?_
        refine jl_iload h rfl dc_NL_fillRegions_135 137 rfl ?_
        refine jl_iconst (v := 1) h (by decide) dc_NL_fillRegions_137 138 rfl ?_
        refine jl_isub h dc_NL_fillRegions_138 139 rfl ?_
        rw [show nI e - 1 = nI (e - 1) by exact e138]
        refine jl_iload h rfl dc_NL_fillRegions_139 141 rfl ?_
        refine jl_isub h dc_NL_fillRegions_141 142 rfl ?_
        rw [show nI (e - 1) - nI m = nI c by exact e141]
        refine jl_imul h dc_NL_fillRegions_142 143 rfl ?_
        refine jl_iadd h dc_NL_fillRegions_143 144 rfl ?_
        rw [show iI (x + nl_sum T rest) + iI (fo_pp r) * nI c = iI (x + nl_sum T rest + fo_pp r * ((c : Nat) : Int)) by exact e143]
        refine jl_istore (i := 11) (lc2 := [(11, _), (10, _), (9, _), (8, _), (7, _), (6, _), (0, _), (1, _), (2, _), (3, _), (5, _)]) h (by decide) rfl dc_NL_fillRegions_144 146 rfl ?_
        refine jl_iload h rfl dc_NL_fillRegions_146 148 rfl ?_
        refine jl_istore (i := 12) (lc2 := [(12, _), (11, _), (10, _), (9, _), (8, _), (7, _), (6, _), (0, _), (1, _), (2, _), (3, _), (5, _)]) h (by decide) rfl dc_NL_fillRegions_148 150 rfl ?_
        exact inner (m - 3 - s) 0 (by omega) ac1 I1 V1 L1 R1 hst1 rfl
    have e116 : nI e - 1 = iI ((e : Int) - 1 - ((0 : Nat) : Int)) := by
      rw [← iI_nat, show (1 : Int32) = iI 1 from rfl, iI_sub]
      congr 1
      omega
    refine jl_iload h rfl dc_NL_fillRegions_113 115 rfl ?_
    refine jl_iconst (v := 1) h (by decide) dc_NL_fillRegions_115 116 rfl ?_
    refine jl_isub h dc_NL_fillRegions_116 117 rfl ?_
    rw [show nI e - 1 = iI ((e : Int) - 1 - ((0 : Nat) : Int)) by exact e116]
    refine jl_istore (i := 10) (lc2 := [(10, _), (9, _), (8, _), (7, _), (6, _), (0, _), (1, _), (2, _), (3, _), (5, _)]) h (by decide) rfl dc_NL_fillRegions_117 119 rfl ?_
    exact outer (e - s - 4) 0 (by omega) ac0 I0 V0 L0 R0 hst0 rfl
  have hT0 := hcx.T hr4 hse hen
  have e76 : iI (x + nl_sum T ((r, s, e) :: rest)) - iI (T (2 + r) s e) = iI (x + nl_sum T rest) := by
    rw [iI_sub]
    congr 1
    show x + (T (2 + r) s e + nl_sum T rest) - T (2 + r) s e = _
    omega
  have e104 : iI (x + nl_sum T rest) + iI (fo_pp r) * (nI e - nI s) = iI (x + fo_pp r * ((e : Int) - s) + nl_sum T rest) := by
    rw [← iI_nat e, ← iI_nat s, iI_sub, iI_mul, iI_add]
    congr 1
    omega
  have hppe : 0 ≤ fo_pp r * ((e : Int) - s) ∧ fo_pp r * ((e : Int) - s) ≤ (e : Int) - s := by
    rcases (show fo_pp r = 0 ∨ fo_pp r = 1 by omega) with h9 | h9 <;> rw [h9] <;> omega
  refine jl_aload_n (i := 0) h rfl rfl dc_NL_fillRegions_34 35 rfl ?_
  refine jl_getf h nm_c_NL 4 wl_NL_28 (by omega) (by decide) (by exact rfl) (by rfl) dc_NL_fillRegions_35 38 rfl ?_
  refine jl_iload_n (i := 1) h rfl rfl dc_NL_fillRegions_38 39 rfl ?_
  refine jl_iconst (v := 1) h (by decide) dc_NL_fillRegions_39 40 rfl ?_
  refine jl_isub h dc_NL_fillRegions_40 41 rfl ?_
  rw [show nI (rest.length + 1) - 1 = nI rest.length by exact eop]
  refine jl_aald (t0 := 3) h (rest.length) (by exact rfl) (by omega) (by exact rfl) (by rfl) (by rfl) (by exact by omega) (by first | decide | assumption) (by exact congrArg (fun z => some (ad z)) hM.1) dc_NL_fillRegions_41 42 rfl ?_
  refine jl_astore (i := 6) (lc2 := [(6, _), (0, _), (1, _), (2, _), (3, _), (5, _)]) h (by decide) rfl dc_NL_fillRegions_42 44 rfl ?_
  refine jl_aload_n (i := 0) h rfl rfl dc_NL_fillRegions_44 45 rfl ?_
  refine jl_getf h nm_c_NL 5 wl_NL_32 (by omega) (by decide) (by exact rfl) (by rfl) dc_NL_fillRegions_45 48 rfl ?_
  refine jl_iload_n (i := 1) h rfl rfl dc_NL_fillRegions_48 49 rfl ?_
  refine jl_iconst (v := 1) h (by decide) dc_NL_fillRegions_49 50 rfl ?_
  refine jl_isub h dc_NL_fillRegions_50 51 rfl ?_
  rw [show nI (rest.length + 1) - 1 = nI rest.length by exact eop]
  refine jl_iald (v := nI s) h (rest.length) (by exact rfl) (by omega) (by exact gw_row (len := 40) ⟨rfl, rfl⟩) (by exact by omega) (by first | decide | assumption) (by exact hM.2.1) dc_NL_fillRegions_51 52 rfl ?_
  refine jl_istore (i := 7) (lc2 := [(7, _), (6, _), (0, _), (1, _), (2, _), (3, _), (5, _)]) h (by decide) rfl dc_NL_fillRegions_52 54 rfl ?_
  refine jl_aload_n (i := 0) h rfl rfl dc_NL_fillRegions_54 55 rfl ?_
  refine jl_getf h nm_c_NL 6 wl_NL_36 (by omega) (by decide) (by exact rfl) (by rfl) dc_NL_fillRegions_55 58 rfl ?_
  refine jl_iload_n (i := 1) h rfl rfl dc_NL_fillRegions_58 59 rfl ?_
  refine jl_iconst (v := 1) h (by decide) dc_NL_fillRegions_59 60 rfl ?_
  refine jl_isub h dc_NL_fillRegions_60 61 rfl ?_
  rw [show nI (rest.length + 1) - 1 = nI rest.length by exact eop]
  refine jl_iald (v := nI e) h (rest.length) (by exact rfl) (by omega) (by exact gw_row (len := 40) ⟨rfl, rfl⟩) (by exact by omega) (by first | decide | assumption) (by exact hM.2.2.1) dc_NL_fillRegions_61 62 rfl ?_
  refine jl_istore (i := 8) (lc2 := [(8, _), (7, _), (6, _), (0, _), (1, _), (2, _), (3, _), (5, _)]) h (by decide) rfl dc_NL_fillRegions_62 64 rfl ?_
  refine jl_iload_n (i := 2) h rfl rfl dc_NL_fillRegions_64 65 rfl ?_
  refine jl_aload h rfl dc_NL_fillRegions_65 67 rfl ?_
  refine jl_getf h nm_c_RE 2 wl_NL_84 (by omega) (by decide) (by exact gw_re hr4) (by rfl) dc_NL_fillRegions_67 70 rfl ?_
  refine jl_iload h rfl dc_NL_fillRegions_70 72 rfl ?_
  refine jl_aald (t0 := 4) h (s) (by exact rfl) (by omega) (by exact gw_ra hr4) (by rfl) (by rfl) (by exact hs19) (by first | decide | assumption) (by exact if_pos hs19) dc_NL_fillRegions_72 73 rfl ?_
  refine jl_iload h rfl dc_NL_fillRegions_73 75 rfl ?_
  refine jl_iald (v := iI (T (2 + r) s e)) h (e) (by exact rfl) (by omega) (by exact gw_row (gw_rr hr4 hs19)) (by exact by omega) (by first | decide | assumption) (by exact hT0) dc_NL_fillRegions_75 76 rfl ?_
  refine jl_isub h dc_NL_fillRegions_76 77 rfl ?_
  rw [show iI (x + nl_sum T ((r, s, e) :: rest)) - iI (T (2 + r) s e) = iI (x + nl_sum T rest) by exact e76]
  refine jl_istore (i := 9) (lc2 := [(9, _), (8, _), (7, _), (6, _), (0, _), (1, _), (2, _), (3, _), (5, _)]) h (by decide) rfl dc_NL_fillRegions_77 79 rfl ?_
  refine jl_aload h rfl dc_NL_fillRegions_79 81 rfl ?_
  refine jl_callV (As := []) (rest := []) h hr vs_NL_88 vi_RE_mayBeUnpaired vx_RE_mayBeUnpaired (ci := 4) rfl (by omega) (by exact gw_re hr4) (fun l => c_RE_may l hr4) (by first | decide | omega) (by first | decide | omega) rfl rfl (Nat.le_of_ble_eq_true rfl) dc_NL_fillRegions_81 (res := [_]) rfl 84 rfl ?_
  refine jl_if_eq h 113 (by decide) dc_NL_fillRegions_84 87 rfl (fun c84 => ?_) (fun c84 => ?_)
  · skip
    rw [st_b0, decide_eq_false_iff_not] at c84
    first | exact tail _ I4 V4 L4 R4 hst4 (by rw [hA, if_pos c84]) | exact tail ac I V L R ⟨fun _ _ _ => rfl, fun _ _ _ => rfl, hac, hM.2.2.2⟩ (by rw [hA, if_neg c84]; rfl)
  · skip
    rw [st_b1, decide_eq_true_eq] at c84
    refine jl_aload_n (i := 0) h rfl rfl dc_NL_fillRegions_87 88 rfl ?_
    refine jl_iload_n (i := 1) h rfl rfl dc_NL_fillRegions_88 89 rfl ?_
    refine jl_iconst (v := 1) h (by decide) dc_NL_fillRegions_89 90 rfl ?_
    refine jl_isub h dc_NL_fillRegions_90 91 rfl ?_
    rw [show nI (rest.length + 1) - 1 = nI rest.length by exact eop]
    refine jl_iload h rfl dc_NL_fillRegions_91 93 rfl ?_
    refine jl_aload h rfl dc_NL_fillRegions_93 95 rfl ?_
    refine jl_getf (v := .int (iI (fo_pp r))) h nm_c_RE 0 wl_NL_92 (by omega) (by decide) (by exact gw_re hr4) (by exact rfl) dc_NL_fillRegions_95 98 rfl ?_
    refine jl_iload h rfl dc_NL_fillRegions_98 100 rfl ?_
    refine jl_iload h rfl dc_NL_fillRegions_100 102 rfl ?_
    refine jl_isub h dc_NL_fillRegions_102 103 rfl ?_
    refine jl_imul h dc_NL_fillRegions_103 104 rfl ?_
    refine jl_iadd h dc_NL_fillRegions_104 105 rfl ?_
    rw [show iI (x + nl_sum T rest) + iI (fo_pp r) * (nI e - nI s) = iI (x + fo_pp r * ((e : Int) - s) + nl_sum T rest) by exact e104]
    refine jl_lload_n (i := 3) h rfl rfl dc_NL_fillRegions_105 106 rfl ?_
    refine jl_iload h rfl dc_NL_fillRegions_106 108 rfl ?_
    refine jl_iconst (v := 1) h (by decide) dc_NL_fillRegions_108 109 rfl ?_
    refine jl_iadd h dc_NL_fillRegions_109 110 rfl ?_
    rw [show nI dep + 1 = nI (dep + 1) by exact nI_1 dep]
    refine jl_callVV (As := [_, _, _, _]) (rest := []) h hr vs_NL_76 vi_NL_fillRegions vx_NL_fillRegions (ci := 5) rfl (by omega) (by exact rfl) (fun l => hR l I V L R rest _ _ ac (dep + 1) hcx hac hM.2.2.2 hWr (by omega) (by omega) (by omega) (by omega) (by omega) (by omega) (by omega)) (by first | decide | omega) (by first | decide | omega) rfl rfl (Nat.le_of_ble_eq_true rfl) dc_NL_fillRegions_110 113 rfl ?_
    rintro E9 ⟨I4, V4, L4, R4, hst4, rfl⟩
    first | exact tail _ I4 V4 L4 R4 hst4 (by rw [hA, if_pos c84]) | exact tail ac I V L R ⟨fun _ _ _ => rfl, fun _ _ _ => rfl, hac, hM.2.2.2⟩ (by rw [hA, if_neg c84]; rfl)
theorem nl_stepR (hR : nl_CR K sa ad C G b n pe T lim d) (hQ : nl_CQ K sa ad C G b n pe T lim d) : nl_CR K sa ad C G b n pe T lim (d + 1) := by
  intro l I V L R regs x t ac dep hcx hac hM hW hmu hdep hd38 hx1 hx2 ht1 ht2
  refine jl_enterP (by decide) (Nat.le_of_ble_eq_true rfl) (fun X h he hr => ?_)
  show jl_J X 168 ad 0 0 (gw K ad I V L C G R) 0 [(0, .ref (ad 148)), (1, .int (nI regs.length)), (2, .int (iI (x + nl_sum T regs))), (3, .long (iL t)), (5, .int (nI dep))] []
  have hS : st_ok K ad (gw K ad I V L C G R) n b := hcx.S
  have hn := hcx.2.2.1
  have hlen := nl_mu_len regs
  have hsum := nl_sum_in hcx regs hW
  have hlim := hcx.2.2.2.2.2.2.2.2
  have hlb := nl_lb hcx.2.2.2.2.2.2.2.1 (d + 1) none regs x t hW (fun i j h => by cases h)
  cases htm : ac.2 with
  | true =>
    have h2 : I 2 = st_bI true := by rw [hac.2.1, htm]
    refine jl_aload_n (i := 0) h rfl rfl dc_NL_fillRegions_0 1 rfl ?_
    refine jl_getf (v := .int (st_bI true)) h nm_c_NL 2 wl_NL_19 (by omega) (by decide) (by exact rfl) (by exact sr_v h2) dc_NL_fillRegions_1 4 rfl ?_
    refine jl_if_ne h 22 (by decide) dc_NL_fillRegions_4 7 rfl (fun c4 => ?_) (fun c4 => absurd c4 (by decide))
    exact jl_vretP h he (⟨rfl, I, V, L, R, ⟨fun _ _ _ => rfl, fun _ _ _ => rfl, by rw [nl_run_tm _ _ htm]; exact hac, hM⟩, rfl⟩) dc_NL_fillRegions_22
  | false =>
    have h2 : I 2 = st_bI false := by rw [hac.2.1, htm]
    have step2 : x + nl_sum T regs ≤ lim → jl_J X 168 ad 0 0 (gw K ad I V L C G R) 23 [(0, .ref (ad 148)), (1, .int (nI regs.length)), (2, .int (iI (x + nl_sum T regs))), (3, .long (iL t)), (5, .int (nI dep))] [] := by
      intro hle
      match regs, hM, hW, hmu, hdep, hlen, hsum, he, hle with
      | [], hM, hW, hmu, hdep, hlen, hsum, he, hle =>
        have hx0 : x + nl_sum T [] = x := Int.add_zero x
        rw [hx0] at hle ⊢
        have hput : nl_run lim ac (nl_F b (d + 1) none [] x t) = nl_put lim ac (x, t) := rfl
        rcases Nat.lt_or_ge ac.1.length 150 with hlt | hge
        · have hz : nl_big (x * 68719476736 + t) := by unfold nl_big; omega
          have hput2 : nl_put lim ac (x, t) = (nl_ins (x * 68719476736 + t) ac.1, false) := by
            unfold nl_put
            rw [if_neg (by rw [htm]; simp; omega), if_neg (by omega)]
          refine jl_iload_n (i := 1) h rfl rfl dc_NL_fillRegions_23 24 rfl ?_
          refine jl_if_gt h 34 (by decide) dc_NL_fillRegions_24 27 rfl (fun c24 => absurd c24 (by decide)) (fun c24 => ?_)
          refine jl_aload_n (i := 0) h rfl rfl dc_NL_fillRegions_27 28 rfl ?_
          refine jl_iload_n (i := 2) h rfl rfl dc_NL_fillRegions_28 29 rfl ?_
          refine jl_lload_n (i := 3) h rfl rfl dc_NL_fillRegions_29 30 rfl ?_
          refine jl_callVV (As := [_, _]) (rest := []) h hr vs_NL_80 vi_NL_insert vx_NL_insert (ci := 5) rfl (by omega) (by exact rfl) (fun l => c_NL_insert l hac.1 hlt hac.2.2.1 hac.2.2.2.2.1 hac.2.2.2.2.2 (by omega) (by omega) hz) (by first | decide | omega) (by first | decide | omega) rfl rfl (Nat.le_of_ble_eq_true rfl) dc_NL_fillRegions_30 33 rfl ?_
          rintro E9 ⟨L2, hL2, rfl⟩
          exact jl_vretP h he (⟨rfl, _, V, L2, R, ⟨fun k h1 _ => va_up_ne _ _ h1, fun _ _ _ => rfl, by rw [hput, hput2]; exact ⟨by show va_up I 1 _ 1 = nI (nl_ins _ _).length; rw [va_up_self, nl_ins_len], (va_up_ne _ _ (by decide)).trans h2, hL2, by show (nl_ins _ _).length ≤ 150; rw [nl_ins_len]; omega, nl_ins_sorted _ _ hac.2.2.2.2.1, fun z hz2 => (nl_ins_mem _ _ z hz2).elim (fun q => by rw [q]; exact hz) (hac.2.2.2.2.2 z)⟩, hM⟩, rfl⟩) dc_NL_fillRegions_33
        · have hlen150 : ac.1.length = 150 := by have := hac.2.2.2.1; omega
          have hput2 : nl_put lim ac (x, t) = (ac.1, true) := by
            unfold nl_put
            rw [if_neg (by rw [htm]; simp; omega), if_pos hge]
          have hc1 : I 1 = nI 150 := by rw [hac.1, hlen150]
          refine jl_iload_n (i := 1) h rfl rfl dc_NL_fillRegions_23 24 rfl ?_
          refine jl_if_gt h 34 (by decide) dc_NL_fillRegions_24 27 rfl (fun c24 => absurd c24 (by decide)) (fun c24 => ?_)
          refine jl_aload_n (i := 0) h rfl rfl dc_NL_fillRegions_27 28 rfl ?_
          refine jl_iload_n (i := 2) h rfl rfl dc_NL_fillRegions_28 29 rfl ?_
          refine jl_lload_n (i := 3) h rfl rfl dc_NL_fillRegions_29 30 rfl ?_
          refine jl_callV (As := [_, _]) (rest := []) h hr vs_NL_80 vi_NL_insert vx_NL_insert (ci := 5) rfl (by omega) (by exact rfl) (fun l => c_NL_insert_full l hc1 x t) (by first | decide | omega) (by first | decide | omega) rfl rfl (Nat.le_of_ble_eq_true rfl) dc_NL_fillRegions_30 (res := []) rfl 33 rfl ?_
          exact jl_vretP h he (⟨rfl, _, V, L, R, ⟨fun k _ h1 => va_up_ne _ _ h1, fun _ _ _ => rfl, by rw [hput, hput2]; exact ⟨(va_up_ne _ _ (by decide)).trans hac.1, by show va_up I 2 1 2 = st_bI true; rw [va_up_self]; rfl, hac.2.2⟩, hM⟩, rfl⟩) dc_NL_fillRegions_33
      | (r, s, e) :: rest, hM, hW, hmu, hdep, hlen, hsum, he, hle =>
        have k34 := nl_reg34 hR hQ (l := l) h hr he hcx hac hM hW hmu hdep hd38 hx1 hx2 ht1 ht2
        have hz0 : (0 : Int32) < nI ((r, s, e) :: rest).length := by
          rw [show (0 : Int32) = nI 0 from rfl]
          exact nI_lt (by rw [List.length_cons]; omega) (by omega)
        refine jl_iload_n (i := 1) h rfl rfl dc_NL_fillRegions_23 24 rfl ?_
        refine jl_if_gt h 34 (by decide) dc_NL_fillRegions_24 27 rfl (fun c24 => ?_) (fun c24 => absurd (hz0) c24)
        exact k34
    refine jl_aload_n (i := 0) h rfl rfl dc_NL_fillRegions_0 1 rfl ?_
    refine jl_getf (v := .int (st_bI false)) h nm_c_NL 2 wl_NL_19 (by omega) (by decide) (by exact rfl) (by exact sr_v h2) dc_NL_fillRegions_1 4 rfl ?_
    refine jl_if_ne h 22 (by decide) dc_NL_fillRegions_4 7 rfl (fun c4 => absurd (by decide) c4) (fun c4 => ?_)
    refine jl_iload_n (i := 2) h rfl rfl dc_NL_fillRegions_7 8 rfl ?_
    refine jl_aload_n (i := 0) h rfl rfl dc_NL_fillRegions_8 9 rfl ?_
    refine jl_getf (v := .int (iI lim)) h nm_c_NL 3 wl_NL_23 (by omega) (by decide) (by exact rfl) (by exact sr_v hcx.2.2.2.2.1) dc_NL_fillRegions_9 12 rfl ?_
    refine jl_icmp_gt h 22 (by decide) dc_NL_fillRegions_12 15 rfl (fun c12 => ?_) (fun c12 => ?_)
    · skip
      rw [iI_lt (by omega) (by omega) (by omega) (by omega)] at c12
      exact jl_vretP h he (⟨rfl, I, V, L, R, ⟨fun _ _ _ => rfl, fun _ _ _ => rfl, by rw [nl_run_gt _ _ _ (fun c hc => Int.lt_of_lt_of_le c12 (by have := hlb c hc; have h9 : x + 0 + nl_sum T regs ≤ c.1 := this; omega))]; exact hac, hM⟩, rfl⟩) dc_NL_fillRegions_22
    · skip
      rw [iI_lt (by omega) (by omega) (by omega) (by omega)] at c12
      refine jl_iload h rfl dc_NL_fillRegions_15 17 rfl ?_
      refine jl_bipush (v := nI 40) h (by decide) dc_NL_fillRegions_17 19 rfl ?_
      refine jl_icmp_le h 23 (by decide) dc_NL_fillRegions_19 22 rfl (fun c19 => ?_) (fun c19 => absurd (nI_le (by omega) (by decide)) c19)
      exact step2 (by omega)
end NL
end
section
/-! FoldedStrand$NearList.fillPair, the two together, and collect. -/
def nl_G2 (b : Nat → Nat) (d i j : Nat) (regs : List (Nat × Nat × Nat)) (x t : Int) (c c2 : Nat) : List (Int × Int) := if en_cp b (i + 1 + c2) (j - 1 - c) = true then nl_F b d (some (i + 1 + c2, j - 1 - c)) regs (x + lp_w1 b i j (i + 1 + c2) (j - 1 - c)) (t - nl_dt (i + 1 + c2) (j - 1 - c)) else []
theorem nl_F_pair (b : Nat → Nat) (d i j : Nat) (regs : List (Nat × Nat × Nat)) (x t : Int) : nl_F b (d + 1) (some (i, j)) regs x t = nl_F b d none regs (x + lp_hp b i j) t ++ ((List.range (j - i - 5)).flatMap (fun c => (List.range (j - 1 - c - 4 - i)).flatMap (nl_G2 b d i j regs x t c)) ++ nl_F b d none ((3, i + 1, j) :: regs) (x + (38 + lp_wk b i j 5)) t) := by
  conv => lhs; unfold nl_F
  rfl
section NL
variable {K : Nat → ClassId} {sa : Nat → Nat} {ad : Nat → Nat} {C : Nat → Int32} {G : Nat → Nat} {b : Nat → Nat} {n : Nat} {pe : Nat → Nat → Int} {T : Nat → Nat → Nat → Int} {lim : Int} {d : Nat}
theorem nl_pair24 (hR : nl_CR K sa ad C G b n pe T lim d) (hQ : nl_CQ K sa ad C G b n pe T lim d) {l : Launch} {X : jl_X} {I : Nat → Int32} {V : Nat → Nat → Int32} {L : Nat → Int64} {R : Nat → Nat} {regs : List (Nat × Nat × Nat)} {x t : Int} {ac : List Int × Bool} {dep i j : Nat} (h : jl_ok X 168 ad K sa bc_NL_fillPair yn_NL_fillPair.cls 12) (hr : jl_r X (d + 1 + 12) (60 * (d + 1) + 300) 0 0) (he : jl_endP X 168 ad none (fun v E2 => v = none ∧ ∃ I2 V2 L2 R2, nl_st I V (nl_run lim ac (nl_F b (d + 1) (some (i, j)) regs x t)) regs I2 V2 L2 R2 ∧ E2 = gw K ad I2 V2 L2 C G R2)) (hcx : nl_cx b n pe T lim I V) (hac : nl_ac ac I L) (hM : nl_M regs V R) (hW : nl_W n regs) (hcp : en_cp b i j = true) (hjn : j < n) (hmu : nl_mu regs + 2 * (j - i) < d + 1) (hdep : dep + nl_mu regs + 2 * (j - i) ≤ 37) (hd38 : d + 1 ≤ 38) (hx1 : -1000 * (40 - ((d + 1 : Nat) : Int)) ≤ x) (hx2 : x ≤ 1000 * (40 - ((d + 1 : Nat) : Int))) (ht1 : -100000000000 * (41 - ((d + 1 : Nat) : Int)) ≤ t) (ht2 : t ≤ 100000000000 * (41 - ((d + 1 : Nat) : Int))) :
    jl_J X 168 ad 0 0 (gw K ad I V L C G R) 24 [(0, .ref (ad 148)), (1, .int (nI i)), (2, .int (nI j)), (3, .int (nI regs.length)), (4, .int (iI (x + pe i j + nl_sum T regs))), (5, .long (iL t)), (7, .int (nI dep))] [] := by
  obtain ⟨hcp4, hkd⟩ := en_cp_4 hcp
  have hn := hcx.2.2.1
  have hlen := nl_mu_len regs
  have hj18 : j < 18 := by omega
  have hi18 : i < 18 := by omega
  have hhp := lp_hp_in b i j
  have hwk := lp_wk_in b i j 5 (by decide)
  have third : ∀ (ac1 : List Int × Bool) (I1 : Nat → Int32) (V1 : Nat → Nat → Int32) (L1 : Nat → Int64) (R1 : Nat → Nat), nl_st I V ac1 regs I1 V1 L1 R1 → ac1 = nl_run lim (nl_run lim ac (nl_F b d none regs (x + lp_hp b i j) t)) ((List.range (j - i - 5)).flatMap (fun c => (List.range (j - 1 - c - 4 - i)).flatMap (nl_G2 b d i j regs x t c))) → jl_J X 168 ad 0 0 (gw K ad I1 V1 L1 C G R1) 172 [(9, .int (nI (j - 1 - (j - i - 5)))), (8, .int (iI (x + nl_sum T regs))), (0, .ref (ad 148)), (1, .int (nI i)), (2, .int (nI j)), (3, .int (nI regs.length)), (4, .int (iI (x + pe i j + nl_sum T regs))), (5, .long (iL t)), (7, .int (nI dep))] [] := by
    intro ac1 I1 V1 L1 R1 hst1 hac1
    have e209 : iI (x + nl_sum T regs) + iI (fo_many b (fun r => T (2 + r)) i j) = iI (x + (38 + lp_wk b i j 5) + nl_sum T ((3, i + 1, j) :: regs)) := by
      rw [iI_add]
      congr 1
      show x + nl_sum T regs + (38 + lp_wk b i j 5 + T (2 + 3) (i + 1) j) = x + (38 + lp_wk b i j 5) + (T (2 + 3) (i + 1) j + nl_sum T regs)
      omega
    have hfin : ∀ ac2 : List Int × Bool, ac2 = nl_run lim ac1 (nl_F b d none ((3, i + 1, j) :: regs) (x + (38 + lp_wk b i j 5)) t) → ac2 = nl_run lim ac (nl_F b (d + 1) (some (i, j)) regs x t) := by
      intro ac2 h2
      rw [nl_F_pair, nl_run_app, nl_run_app, ← hac1]
      exact h2
    refine jl_iload_n (i := 3) h rfl rfl dc_NL_fillPair_172 173 rfl ?_
    refine jl_bipush (v := nI 40) h (by decide) dc_NL_fillPair_173 175 rfl ?_
    refine jl_icmp_ge h 219 (by decide) dc_NL_fillPair_175 178 rfl (fun c175 => absurd c175 (nI_ge (by omega) (by decide))) (fun c175 => ?_)
    refine jl_aload_n (i := 0) h rfl rfl dc_NL_fillPair_178 179 rfl ?_
    refine jl_iload_n (i := 3) h rfl rfl dc_NL_fillPair_179 180 rfl ?_
    refine jl_aload_n (i := 0) h rfl rfl dc_NL_fillPair_180 181 rfl ?_
    refine jl_getf h nm_c_NL 9 wl_NL_47 (by omega) (by decide) (by exact rfl) (by rfl) dc_NL_fillPair_181 184 rfl ?_
    refine jl_getf h nm_c_FO 1 wl_NL_128 (by omega) (by decide) (by exact rfl) (by rfl) dc_NL_fillPair_184 187 rfl ?_
    refine jl_iload_n (i := 1) h rfl rfl dc_NL_fillPair_187 188 rfl ?_
    refine jl_iconst (v := 1) h (by decide) dc_NL_fillPair_188 189 rfl ?_
    refine jl_iadd h dc_NL_fillPair_189 190 rfl ?_
    rw [show nI i + 1 = nI (i + 1) by exact nI_1 i]
    refine jl_iload_n (i := 2) h rfl rfl dc_NL_fillPair_190 191 rfl ?_
    refine jl_callV (As := [_, _, _, _]) (rest := []) h hr vs_NL_68 vi_NL_setRegion vx_NL_setRegion (ci := 5) rfl (by omega) (by exact rfl) (fun l => c_NL_setRegion l (k := regs.length) (r := 3) (s := i + 1) (e := j) (by omega) (by decide)) (by first | decide | omega) (by first | decide | omega) rfl rfl (Nat.le_of_ble_eq_true rfl) dc_NL_fillPair_191 (res := []) rfl 194 rfl ?_
    refine jl_absVR (P := fun V9 R9 => nl_st I V ac1 ((3, i + 1, j) :: regs) I1 V9 L1 R9) (nl_set 3 (i + 1) j hst1) (fun V3 R3 hst3 => ?_)
    have hcx3 := hcx.to hst3.1 hst3.2.1
    refine jl_aload_n (i := 0) h rfl rfl dc_NL_fillPair_194 195 rfl ?_
    refine jl_iload_n (i := 3) h rfl rfl dc_NL_fillPair_195 196 rfl ?_
    refine jl_iconst (v := 1) h (by decide) dc_NL_fillPair_196 197 rfl ?_
    refine jl_iadd h dc_NL_fillPair_197 198 rfl ?_
    rw [show nI regs.length + 1 = nI (regs.length + 1) by exact nI_1 _]
    refine jl_iload h rfl dc_NL_fillPair_198 200 rfl ?_
    refine jl_aload_n (i := 0) h rfl rfl dc_NL_fillPair_200 201 rfl ?_
    refine jl_getf h nm_c_NL 9 wl_NL_47 (by omega) (by decide) (by exact rfl) (by rfl) dc_NL_fillPair_201 204 rfl ?_
    refine jl_iload_n (i := 1) h rfl rfl dc_NL_fillPair_204 205 rfl ?_
    refine jl_iload_n (i := 2) h rfl rfl dc_NL_fillPair_205 206 rfl ?_
    refine jl_callV (As := [_, _]) (rest := [_, _, _]) h hr vs_NL_131 vi_FO_leastWithMany vx_FO_leastWithMany (ci := 3) rfl (by omega) (by exact rfl) (fun l => c_FO_leastWithMany l hcx3.S (rg := fun r => T (2 + r)) hi18 hj18 (hcx3.T (r := 3) (s := i + 1) (e := j) (by decide) (by omega) (by omega))) (by first | decide | omega) (by first | decide | omega) rfl rfl (Nat.le_of_ble_eq_true rfl) dc_NL_fillPair_206 (res := [_, _, _, _]) rfl 209 rfl ?_
    refine jl_iadd h dc_NL_fillPair_209 210 rfl ?_
    rw [show iI (x + nl_sum T regs) + iI (fo_many b (fun r => T (2 + r)) i j) = iI (x + (38 + lp_wk b i j 5) + nl_sum T ((3, i + 1, j) :: regs)) by exact e209]
    refine jl_lload h rfl dc_NL_fillPair_210 212 rfl ?_
    refine jl_iload h rfl dc_NL_fillPair_212 214 rfl ?_
    refine jl_iconst (v := 1) h (by decide) dc_NL_fillPair_214 215 rfl ?_
    refine jl_iadd h dc_NL_fillPair_215 216 rfl ?_
    rw [show nI dep + 1 = nI (dep + 1) by exact nI_1 dep]
    refine jl_callVV (As := [_, _, _, _]) (rest := []) h hr vs_NL_76 vi_NL_fillRegions vx_NL_fillRegions (ci := 5) rfl (by omega) (by exact rfl) (fun l => hR l I1 V3 L1 R3 ((3, i + 1, j) :: regs) _ _ ac1 (dep + 1) hcx3 hst3.2.2.1 hst3.2.2.2 (fun q hq => by
      rcases List.mem_cons.mp hq with rfl | hq
      · exact ⟨by show 3 < 4; decide, by show i + 1 ≤ j; omega, by show j ≤ n; omega⟩
      · exact hW q hq) (by show 2 * (j - (i + 1)) + 1 + nl_mu regs < d; omega) (by show dep + 1 + (2 * (j - (i + 1)) + 1 + nl_mu regs) ≤ 37; omega) (by omega) (by omega) (by omega) (by omega) (by omega)) (by first | decide | omega) (by first | decide | omega) rfl rfl (Nat.le_of_ble_eq_true rfl) dc_NL_fillPair_216 219 rfl ?_
    rintro E9 ⟨I4, V4, L4, R4, hst4, rfl⟩
    exact jl_vretP h he (⟨rfl, I4, V4, L4, R4, by rw [← hfin _ rfl]; exact (hst3.trans hst4).tail, rfl⟩) dc_NL_fillPair_219
  have tail : ∀ (ac0 : List Int × Bool) (I0 : Nat → Int32) (V0 : Nat → Nat → Int32) (L0 : Nat → Int64) (R0 : Nat → Nat), nl_st I V ac0 regs I0 V0 L0 R0 → ac0 = nl_run lim ac (nl_F b d none regs (x + lp_hp b i j) t) → jl_J X 168 ad 0 0 (gw K ad I0 V0 L0 C G R0) 63 [(8, .int (iI (x + nl_sum T regs))), (0, .ref (ad 148)), (1, .int (nI i)), (2, .int (nI j)), (3, .int (nI regs.length)), (4, .int (iI (x + pe i j + nl_sum T regs))), (5, .long (iL t)), (7, .int (nI dep))] [] := by
    intro ac0 I0 V0 L0 R0 hst0 hac0
    have outer : ∀ (dd c : Nat), c + dd = j - i - 5 → ∀ (ac1 : List Int × Bool) (I1 : Nat → Int32) (V1 : Nat → Nat → Int32) (L1 : Nat → Int64) (R1 : Nat → Nat), nl_st I V ac1 regs I1 V1 L1 R1 → ac1 = nl_run lim ac0 ((List.range c).flatMap (fun c => (List.range (j - 1 - c - 4 - i)).flatMap (nl_G2 b d i j regs x t c))) → jl_J X 168 ad 0 0 (gw K ad I1 V1 L1 C G R1) 68 [(9, .int (nI (j - 1 - c))), (8, .int (iI (x + nl_sum T regs))), (0, .ref (ad 148)), (1, .int (nI i)), (2, .int (nI j)), (3, .int (nI regs.length)), (4, .int (iI (x + pe i j + nl_sum T regs))), (5, .long (iL t)), (7, .int (nI dep))] [] := by
      intro dd
      induction dd with
      | zero =>
        intro c hc ac1 I1 V1 L1 R1 hst1 hac1
        have hc : c = j - i - 5 := by omega
        subst hc
        have e1 : nI (j - 1 - (j - i - 5)) - nI i = nI (j - 1 - (j - i - 5) - i) := pk_sub (by omega)
        refine jl_iload h rfl dc_NL_fillPair_68 70 rfl ?_
        refine jl_iload_n (i := 1) h rfl rfl dc_NL_fillPair_70 71 rfl ?_
        refine jl_isub h dc_NL_fillPair_71 72 rfl ?_
        rw [show nI (j - 1 - (j - i - 5)) - nI i = nI (j - 1 - (j - i - 5) - i) by exact e1]
        refine jl_iconst (v := nI 4) h (by decide) dc_NL_fillPair_72 73 rfl ?_
        refine jl_icmp_le h 172 (by decide) dc_NL_fillPair_73 76 rfl (fun c73 => ?_) (fun c73 => absurd (nI_le (by omega) (by decide)) c73)
        exact third ac1 I1 V1 L1 R1 hst1 (by rw [← hac0]; exact hac1)
      | succ dd ih =>
        intro c hc ac1 I1 V1 L1 R1 hst1 hac1
        obtain ⟨m, hm⟩ : ∃ m, m = j - 1 - c := ⟨_, rfl⟩
        have ihn := ih (c + 1) (by omega)
        rw [show j - 1 - (c + 1) = m - 1 by omega] at ihn
        rw [← hm]
        have inner : ∀ (d2 c2 : Nat), c2 + d2 = m - 4 - i → ∀ (ac2 : List Int × Bool) (I2 : Nat → Int32) (V2 : Nat → Nat → Int32) (L2 : Nat → Int64) (R2 : Nat → Nat), nl_st I V ac2 regs I2 V2 L2 R2 → ac2 = nl_run lim ac1 ((List.range c2).flatMap (nl_G2 b d i j regs x t c)) → jl_J X 168 ad 0 0 (gw K ad I2 V2 L2 C G R2) 81 [(10, .int (nI (i + 1 + c2))), (9, .int (nI m)), (8, .int (iI (x + nl_sum T regs))), (0, .ref (ad 148)), (1, .int (nI i)), (2, .int (nI j)), (3, .int (nI regs.length)), (4, .int (iI (x + pe i j + nl_sum T regs))), (5, .long (iL t)), (7, .int (nI dep))] [] := by
          intro d2
          induction d2 with
          | zero =>
            intro c2 hc2 ac2 I2 V2 L2 R2 hst2 hac2
            have hc2 : c2 = m - 4 - i := by omega
            have em : nI m + Int32.ofInt (-1) = nI (m - 1) := by
              have h9 := pk_m1 (m - 1)
              rw [show m - 1 + 1 = m by omega] at h9
              exact h9
            refine jl_iload h rfl dc_NL_fillPair_81 83 rfl ?_
            refine jl_iload h rfl dc_NL_fillPair_83 85 rfl ?_
            refine jl_iconst (v := nI 4) h (by decide) dc_NL_fillPair_85 86 rfl ?_
            refine jl_isub h dc_NL_fillPair_86 87 rfl ?_
            refine jl_icmp_gt h 166 (by decide) dc_NL_fillPair_87 90 rfl (fun c87 => ?_) (fun c87 => absurd ((fo_gt (by omega) (by omega)).mpr (by omega)) c87)
            refine jl_iinc (i := 9) (d := -1) (lc2 := [(9, _), (10, _), (8, _), (0, _), (1, _), (2, _), (3, _), (4, _), (5, _), (7, _)]) (v2 := nI (m - 1)) h (by decide) rfl (em) rfl dc_NL_fillPair_166 169 rfl ?_
            refine jl_goto h 68 (by decide) dc_NL_fillPair_169 ?_
            refine jl_sub (lc2 := [(9, _), (8, _), (0, _), (1, _), (2, _), (3, _), (4, _), (5, _), (7, _)]) [0, 2, 3, 4, 5, 6, 7, 8, 9] rfl ?_
            exact ihn ac2 I2 V2 L2 R2 hst2 (by rw [nl_range_flat, nl_run_app, ← hac1, hac2, hc2, hm])
          | succ d2 ih2 =>
            intro c2 hc2 ac2 I2 V2 L2 R2 hst2 hac2
            have hk18 : i + 1 + c2 < 18 := by omega
            have hm18 : m < 18 := by omega
            have hcx2 := hcx.to hst2.1 hst2.2.1
            have hS2 : st_ok K ad (gw K ad I2 V2 L2 C G R2) n b := hcx2.S
            have hpe2 : V2 (6 + (i + 1 + c2)) m = iI (pe (i + 1 + c2) m) := hcx2.2.2.2.2.2.1.1 (i + 1 + c2) m (by omega) (by omega)
            have hw1 := lp_w1_in b i j (i + 1 + c2) m hj18 hk18
            have hd4 := nl_4_in (i + 1 + c2)
            have hd5 := nl_4_in m
            refine jl_iload h rfl dc_NL_fillPair_81 83 rfl ?_
            refine jl_iload h rfl dc_NL_fillPair_83 85 rfl ?_
            refine jl_iconst (v := nI 4) h (by decide) dc_NL_fillPair_85 86 rfl ?_
            refine jl_isub h dc_NL_fillPair_86 87 rfl ?_
            refine jl_icmp_gt h 166 (by decide) dc_NL_fillPair_87 90 rfl (fun c87 => absurd c87 (fun q => absurd ((fo_gt (by omega) (by omega)).mp q) (by omega))) (fun c87 => ?_)
            refine jl_aload_n (i := 0) h rfl rfl dc_NL_fillPair_90 91 rfl ?_
            refine jl_getf h nm_c_NL 7 wl_NL_39 (by omega) (by decide) (by exact rfl) (by rfl) dc_NL_fillPair_91 94 rfl ?_
            refine jl_iload h rfl dc_NL_fillPair_94 96 rfl ?_
            refine jl_iload h rfl dc_NL_fillPair_96 98 rfl ?_
            refine jl_callV (As := [_, _]) (rest := []) h hr vs_NL_95 vi_ST_canPair vx_ST_canPair (ci := 1) rfl (by omega) (by exact hS2.1) (fun l => c_ST_canPair l (by omega) hS2 hk18 hm18) (by first | decide | omega) (by first | decide | omega) rfl rfl (Nat.le_of_ble_eq_true rfl) dc_NL_fillPair_98 (res := [_]) rfl 101 rfl ?_
            refine jl_if_eq h 160 (by decide) dc_NL_fillPair_101 104 rfl (fun c101 => ?_) (fun c101 => ?_)
            · skip
              rw [st_b0] at c101
              refine jl_iinc (i := 10) (d := 1) (lc2 := [(10, _), (9, _), (8, _), (0, _), (1, _), (2, _), (3, _), (4, _), (5, _), (7, _)]) (v2 := nI (i + 1 + (c2 + 1))) h (by decide) rfl (by exact nI_1 (i + 1 + c2)) rfl dc_NL_fillPair_160 163 rfl ?_
              refine jl_goto h 81 (by decide) dc_NL_fillPair_163 ?_
              first | exact ih2 (c2 + 1) (by omega) _ I4 V4 L4 R4 (hst2.trans hst4) (by rw [nl_range_flat, nl_run_app, ← hac2, show nl_G2 b d i j regs x t c c2 = nl_F b d (some (i + 1 + c2, m)) regs (x + lp_w1 b i j (i + 1 + c2) m) (t - nl_dt (i + 1 + c2) m) by unfold nl_G2; rw [← hm, if_pos c101]]) | exact ih2 (c2 + 1) (by omega) ac2 I2 V2 L2 R2 hst2 (by rw [nl_range_flat, nl_run_app, ← hac2, show nl_G2 b d i j regs x t c c2 = [] by unfold nl_G2; rw [← hm, if_neg (by rw [c101]; decide)]]; rfl)
            · skip
              rw [st_b1] at c101
              have hq4 := en_cp_4 c101
              refine jl_iload h rfl dc_NL_fillPair_104 106 rfl ?_
              refine jl_aload_n (i := 0) h rfl rfl dc_NL_fillPair_106 107 rfl ?_
              refine jl_getf h nm_c_NL 8 wl_NL_43 (by omega) (by decide) (by exact rfl) (by rfl) dc_NL_fillPair_107 110 rfl ?_
              refine jl_iload_n (i := 1) h rfl rfl dc_NL_fillPair_110 111 rfl ?_
              refine jl_iload_n (i := 2) h rfl rfl dc_NL_fillPair_111 112 rfl ?_
              refine jl_iload h rfl dc_NL_fillPair_112 114 rfl ?_
              refine jl_iload h rfl dc_NL_fillPair_114 116 rfl ?_
              refine jl_callV (As := [_, _, _, _]) (rest := [_]) h hr vs_NL_124 vi_LO_withOne vx_LO_withOne (ci := 2) rfl (by omega) (by exact rfl) (fun l => c_LO_withOne l (by omega) hS2 rfl (by omega) (by omega) (by omega) hj18 hkd hq4.2) (by first | decide | omega) (by first | decide | omega) rfl rfl (Nat.le_of_ble_eq_true rfl) dc_NL_fillPair_116 (res := [_, _]) rfl 119 rfl ?_
              refine jl_iadd h dc_NL_fillPair_119 120 rfl ?_
              rw [show iI (x + nl_sum T regs) + iI (lp_w1 b i j (i + 1 + c2) m) = iI (x + nl_sum T regs + lp_w1 b i j (i + 1 + c2) m) by exact iI_add _ _]
              refine jl_aload_n (i := 0) h rfl rfl dc_NL_fillPair_120 121 rfl ?_
              refine jl_getf h nm_c_NL 9 wl_NL_47 (by omega) (by decide) (by exact rfl) (by rfl) dc_NL_fillPair_121 124 rfl ?_
              refine jl_getf h nm_c_FO 2 wl_NL_115 (by omega) (by decide) (by exact rfl) (by rfl) dc_NL_fillPair_124 127 rfl ?_
              refine jl_iload h rfl dc_NL_fillPair_127 129 rfl ?_
              refine jl_aald (t0 := 4) h (i + 1 + c2) (by exact rfl) (by omega) (by exact rfl) (by rfl) (by rfl) (by exact hk18) (by first | decide | assumption) (by exact if_pos hk18) dc_NL_fillPair_129 130 rfl ?_
              refine jl_iload h rfl dc_NL_fillPair_130 132 rfl ?_
              refine jl_iald (v := iI (pe (i + 1 + c2) m)) h (m) (by exact rfl) (by omega) (by exact gw_row (gw_i_6 _ hk18)) (by exact hm18) (by first | decide | assumption) (by exact hpe2) dc_NL_fillPair_132 133 rfl ?_
              refine jl_iadd h dc_NL_fillPair_133 134 rfl ?_
              rw [show iI (x + nl_sum T regs + lp_w1 b i j (i + 1 + c2) m) + iI (pe (i + 1 + c2) m) = iI (x + lp_w1 b i j (i + 1 + c2) m + pe (i + 1 + c2) m + nl_sum T regs) by rw [iI_add]; congr 1; omega]
              refine jl_istore (i := 11) (lc2 := [(11, _), (10, _), (9, _), (8, _), (0, _), (1, _), (2, _), (3, _), (4, _), (5, _), (7, _)]) h (by decide) rfl dc_NL_fillPair_134 136 rfl ?_
              refine jl_aload_n (i := 0) h rfl rfl dc_NL_fillPair_136 137 rfl ?_
              refine jl_iload h rfl dc_NL_fillPair_137 139 rfl ?_
              refine jl_iload h rfl dc_NL_fillPair_139 141 rfl ?_
              refine jl_iload_n (i := 3) h rfl rfl dc_NL_fillPair_141 142 rfl ?_
              refine jl_iload h rfl dc_NL_fillPair_142 144 rfl ?_
              refine jl_lload h rfl dc_NL_fillPair_144 146 rfl ?_
              refine jl_iload h rfl dc_NL_fillPair_146 148 rfl ?_
              refine jl_iload h rfl dc_NL_fillPair_148 150 rfl ?_
              refine jl_callS (As := [_, _, _]) (rest := [_, _, _, _, _]) h hr vs_NL_107 vt_NL_withPair (fun l => c_NL_withPair l hk18 hm18 t) (by first | decide | omega) (by first | decide | omega) rfl rfl (Nat.le_of_ble_eq_true rfl) dc_NL_fillPair_150 (res := [_, _, _, _, _, _]) rfl 153 rfl ?_
              refine jl_iload h rfl dc_NL_fillPair_153 155 rfl ?_
              refine jl_iconst (v := 1) h (by decide) dc_NL_fillPair_155 156 rfl ?_
              refine jl_iadd h dc_NL_fillPair_156 157 rfl ?_
              rw [show nI dep + 1 = nI (dep + 1) by exact nI_1 dep]
              refine jl_callVV (As := [_, _, _, _, _, _]) (rest := []) h hr vs_NL_111 vi_NL_fillPair vx_NL_fillPair (ci := 5) rfl (by omega) (by exact rfl) (fun l => hQ l I2 V2 L2 R2 regs _ _ ac2 (dep + 1) (i + 1 + c2) m hcx2 hst2.2.2.1 hst2.2.2.2 hW c101 (by omega) (by omega) (by omega) (by omega) (by omega) (by omega) (by unfold nl_dt; omega) (by unfold nl_dt; omega)) (by first | decide | omega) (by first | decide | omega) rfl rfl (Nat.le_of_ble_eq_true rfl) dc_NL_fillPair_157 160 rfl ?_
              rintro E9 ⟨I4, V4, L4, R4, hst4, rfl⟩
              refine jl_iinc (i := 10) (d := 1) (lc2 := [(10, _), (11, _), (9, _), (8, _), (0, _), (1, _), (2, _), (3, _), (4, _), (5, _), (7, _)]) (v2 := nI (i + 1 + (c2 + 1))) h (by decide) rfl (by exact nI_1 (i + 1 + c2)) rfl dc_NL_fillPair_160 163 rfl ?_
              refine jl_goto h 81 (by decide) dc_NL_fillPair_163 ?_
              refine jl_sub (lc2 := [(10, _), (9, _), (8, _), (0, _), (1, _), (2, _), (3, _), (4, _), (5, _), (7, _)]) [0, 2, 3, 4, 5, 6, 7, 8, 9, 10] rfl ?_
              first | exact ih2 (c2 + 1) (by omega) _ I4 V4 L4 R4 (hst2.trans hst4) (by rw [nl_range_flat, nl_run_app, ← hac2, show nl_G2 b d i j regs x t c c2 = nl_F b d (some (i + 1 + c2, m)) regs (x + lp_w1 b i j (i + 1 + c2) m) (t - nl_dt (i + 1 + c2) m) by unfold nl_G2; rw [← hm, if_pos c101]]) | exact ih2 (c2 + 1) (by omega) ac2 I2 V2 L2 R2 hst2 (by rw [nl_range_flat, nl_run_app, ← hac2, show nl_G2 b d i j regs x t c c2 = [] by unfold nl_G2; rw [← hm, if_neg (by rw [c101]; decide)]]; rfl)
        have e1 : nI m - nI i = nI (m - i) := pk_sub (by omega)
        refine jl_iload h rfl dc_NL_fillPair_68 70 rfl ?_
        refine jl_iload_n (i := 1) h rfl rfl dc_NL_fillPair_70 71 rfl ?_
        refine jl_isub h dc_NL_fillPair_71 72 rfl ?_
        rw [show nI m - nI i = nI (m - i) by exact e1]
        refine jl_iconst (v := nI 4) h (by decide) dc_NL_fillPair_72 73 rfl ?_
        refine jl_icmp_le h 172 (by decide) dc_NL_fillPair_73 76 rfl (fun c73 => absurd c73 (nI_ge (by omega) (by omega))) (fun c73 => ?_)
        refine jl_iload_n (i := 1) h rfl rfl dc_NL_fillPair_76 77 rfl ?_
        refine jl_iconst (v := 1) h (by decide) dc_NL_fillPair_77 78 rfl ?_
        refine jl_iadd h dc_NL_fillPair_78 79 rfl ?_
        rw [show nI i + 1 = nI (i + 1 + 0) by exact nI_1 i]
        refine jl_istore (i := 10) (lc2 := [(10, _), (9, _), (8, _), (0, _), (1, _), (2, _), (3, _), (4, _), (5, _), (7, _)]) h (by decide) rfl dc_NL_fillPair_79 81 rfl ?_
        exact inner (m - 4 - i) 0 (by omega) ac1 I1 V1 L1 R1 hst1 rfl
    have e9 : nI j - 1 = nI (j - 1 - 0) := by rw [show (1 : Int32) = nI 1 from rfl, pk_sub (by omega)]; rfl
    refine jl_iload_n (i := 2) h rfl rfl dc_NL_fillPair_63 64 rfl ?_
    refine jl_iconst (v := 1) h (by decide) dc_NL_fillPair_64 65 rfl ?_
    refine jl_isub h dc_NL_fillPair_65 66 rfl ?_
    rw [show nI j - 1 = nI (j - 1 - 0) by exact e9]
    refine jl_istore (i := 9) (lc2 := [(9, _), (8, _), (0, _), (1, _), (2, _), (3, _), (4, _), (5, _), (7, _)]) h (by decide) rfl dc_NL_fillPair_66 68 rfl ?_
    exact outer (j - i - 5) 0 (by omega) ac0 I0 V0 L0 R0 hst0 rfl
  have hpe0 : V (6 + i) j = iI (pe i j) := hcx.2.2.2.2.2.1.1 i j (by omega) hjn
  have e37 : iI (x + pe i j + nl_sum T regs) - iI (pe i j) = iI (x + nl_sum T regs) := by
    rw [iI_sub]
    congr 1
    omega
  have e53 : iI (x + nl_sum T regs) + iI (lp_hp b i j) = iI (x + lp_hp b i j + nl_sum T regs) := by
    rw [iI_add]
    congr 1
    omega
  refine jl_iload h rfl dc_NL_fillPair_24 26 rfl ?_
  refine jl_aload_n (i := 0) h rfl rfl dc_NL_fillPair_26 27 rfl ?_
  refine jl_getf h nm_c_NL 9 wl_NL_47 (by omega) (by decide) (by exact rfl) (by rfl) dc_NL_fillPair_27 30 rfl ?_
  refine jl_getf h nm_c_FO 2 wl_NL_115 (by omega) (by decide) (by exact rfl) (by rfl) dc_NL_fillPair_30 33 rfl ?_
  refine jl_iload_n (i := 1) h rfl rfl dc_NL_fillPair_33 34 rfl ?_
  refine jl_aald (t0 := 4) h (i) (by exact rfl) (by omega) (by exact rfl) (by rfl) (by rfl) (by exact hi18) (by first | decide | assumption) (by exact if_pos hi18) dc_NL_fillPair_34 35 rfl ?_
  refine jl_iload_n (i := 2) h rfl rfl dc_NL_fillPair_35 36 rfl ?_
  refine jl_iald (v := iI (pe i j)) h (j) (by exact rfl) (by omega) (by exact gw_row (gw_i_6 i hi18)) (by exact hj18) (by first | decide | assumption) (by exact hpe0) dc_NL_fillPair_36 37 rfl ?_
  refine jl_isub h dc_NL_fillPair_37 38 rfl ?_
  rw [show iI (x + pe i j + nl_sum T regs) - iI (pe i j) = iI (x + nl_sum T regs) by exact e37]
  refine jl_istore (i := 8) (lc2 := [(8, _), (0, _), (1, _), (2, _), (3, _), (4, _), (5, _), (7, _)]) h (by decide) rfl dc_NL_fillPair_38 40 rfl ?_
  refine jl_aload_n (i := 0) h rfl rfl dc_NL_fillPair_40 41 rfl ?_
  refine jl_iload_n (i := 3) h rfl rfl dc_NL_fillPair_41 42 rfl ?_
  refine jl_iload h rfl dc_NL_fillPair_42 44 rfl ?_
  refine jl_aload_n (i := 0) h rfl rfl dc_NL_fillPair_44 45 rfl ?_
  refine jl_getf h nm_c_NL 8 wl_NL_43 (by omega) (by decide) (by exact rfl) (by rfl) dc_NL_fillPair_45 48 rfl ?_
  refine jl_iload_n (i := 1) h rfl rfl dc_NL_fillPair_48 49 rfl ?_
  refine jl_iload_n (i := 2) h rfl rfl dc_NL_fillPair_49 50 rfl ?_
  refine jl_callV (As := [_, _]) (rest := [_, _, _]) h hr vs_NL_118 vi_LO_hairpin vx_LO_hairpin (ci := 2) rfl (by omega) (by exact rfl) (fun l => c_LO_hairpin l (by omega) hcx.S rfl hcp4 hj18) (by first | decide | omega) (by first | decide | omega) rfl rfl (Nat.le_of_ble_eq_true rfl) dc_NL_fillPair_50 (res := [_, _, _, _]) rfl 53 rfl ?_
  refine jl_iadd h dc_NL_fillPair_53 54 rfl ?_
  rw [show iI (x + nl_sum T regs) + iI (lp_hp b i j) = iI (x + lp_hp b i j + nl_sum T regs) by exact e53]
  refine jl_lload h rfl dc_NL_fillPair_54 56 rfl ?_
  refine jl_iload h rfl dc_NL_fillPair_56 58 rfl ?_
  refine jl_iconst (v := 1) h (by decide) dc_NL_fillPair_58 59 rfl ?_
  refine jl_iadd h dc_NL_fillPair_59 60 rfl ?_
  rw [show nI dep + 1 = nI (dep + 1) by exact nI_1 dep]
  refine jl_callVV (As := [_, _, _, _]) (rest := []) h hr vs_NL_76 vi_NL_fillRegions vx_NL_fillRegions (ci := 5) rfl (by omega) (by exact rfl) (fun l => hR l I V L R regs _ _ ac (dep + 1) hcx hac hM hW (by omega) (by omega) (by omega) (by omega) (by omega) (by omega) (by omega)) (by first | decide | omega) (by first | decide | omega) rfl rfl (Nat.le_of_ble_eq_true rfl) dc_NL_fillPair_60 63 rfl ?_
  rintro E9 ⟨I4, V4, L4, R4, hst4, rfl⟩
  exact tail _ I4 V4 L4 R4 hst4 rfl
theorem nl_stepQ (hR : nl_CR K sa ad C G b n pe T lim d) (hQ : nl_CQ K sa ad C G b n pe T lim d) : nl_CQ K sa ad C G b n pe T lim (d + 1) := by
  intro l I V L R regs x t ac dep i j hcx hac hM hW hcp hjn hmu hdep hd38 hx1 hx2 ht1 ht2
  refine jl_enterP (by decide) (Nat.le_of_ble_eq_true rfl) (fun X h he hr => ?_)
  show jl_J X 168 ad 0 0 (gw K ad I V L C G R) 0 [(0, .ref (ad 148)), (1, .int (nI i)), (2, .int (nI j)), (3, .int (nI regs.length)), (4, .int (iI (x + pe i j + nl_sum T regs))), (5, .long (iL t)), (7, .int (nI dep))] []
  have hcp4 := (en_cp_4 hcp).1
  have hn := hcx.2.2.1
  have hlen := nl_mu_len regs
  have hsum := nl_sum_in hcx regs hW
  have hpeB := hcx.2.2.2.2.2.2.1.1 i j (by omega) hjn
  have hlim := hcx.2.2.2.2.2.2.2.2
  have hlb := nl_lb hcx.2.2.2.2.2.2.2.1 (d + 1) (some (i, j)) regs x t hW (fun i2 j2 h => by cases h; exact ⟨hcp, hjn⟩)
  have k24 := nl_pair24 hR hQ (l := l) h hr he hcx hac hM hW hcp hjn hmu hdep hd38 hx1 hx2 ht1 ht2
  cases htm : ac.2 with
  | true =>
    have h2 : I 2 = st_bI true := by rw [hac.2.1, htm]
    refine jl_aload_n (i := 0) h rfl rfl dc_NL_fillPair_0 1 rfl ?_
    refine jl_getf (v := .int (st_bI true)) h nm_c_NL 2 wl_NL_19 (by omega) (by decide) (by exact rfl) (by exact sr_v h2) dc_NL_fillPair_1 4 rfl ?_
    refine jl_if_ne h 23 (by decide) dc_NL_fillPair_4 7 rfl (fun c4 => ?_) (fun c4 => absurd c4 (by decide))
    exact jl_vretP h he (⟨rfl, I, V, L, R, ⟨fun _ _ _ => rfl, fun _ _ _ => rfl, by rw [nl_run_tm _ _ htm]; exact hac, hM⟩, rfl⟩) dc_NL_fillPair_23
  | false =>
    have h2 : I 2 = st_bI false := by rw [hac.2.1, htm]
    refine jl_aload_n (i := 0) h rfl rfl dc_NL_fillPair_0 1 rfl ?_
    refine jl_getf (v := .int (st_bI false)) h nm_c_NL 2 wl_NL_19 (by omega) (by decide) (by exact rfl) (by exact sr_v h2) dc_NL_fillPair_1 4 rfl ?_
    refine jl_if_ne h 23 (by decide) dc_NL_fillPair_4 7 rfl (fun c4 => absurd (by decide) c4) (fun c4 => ?_)
    refine jl_iload h rfl dc_NL_fillPair_7 9 rfl ?_
    refine jl_aload_n (i := 0) h rfl rfl dc_NL_fillPair_9 10 rfl ?_
    refine jl_getf (v := .int (iI lim)) h nm_c_NL 3 wl_NL_23 (by omega) (by decide) (by exact rfl) (by exact sr_v hcx.2.2.2.2.1) dc_NL_fillPair_10 13 rfl ?_
    refine jl_icmp_gt h 23 (by decide) dc_NL_fillPair_13 16 rfl (fun c13 => ?_) (fun c13 => ?_)
    · skip
      rw [iI_lt (by omega) (by omega) (by omega) (by omega)] at c13
      exact jl_vretP h he (⟨rfl, I, V, L, R, ⟨fun _ _ _ => rfl, fun _ _ _ => rfl, by rw [nl_run_gt _ _ _ (fun c hc => Int.lt_of_lt_of_le c13 (by have := hlb c hc; have h9 : x + pe i j + nl_sum T regs ≤ c.1 := this; omega))]; exact hac, hM⟩, rfl⟩) dc_NL_fillPair_23
    · skip
      rw [iI_lt (by omega) (by omega) (by omega) (by omega)] at c13
      refine jl_iload h rfl dc_NL_fillPair_16 18 rfl ?_
      refine jl_bipush (v := nI 40) h (by decide) dc_NL_fillPair_18 20 rfl ?_
      refine jl_icmp_le h 24 (by decide) dc_NL_fillPair_20 23 rfl (fun c20 => ?_) (fun c20 => absurd (nI_le (by omega) (by decide)) c20)
      exact k24
theorem nl_search : ∀ d, nl_CR K sa ad C G b n pe T lim d ∧ nl_CQ K sa ad C G b n pe T lim d
  | 0 => ⟨fun l I V L R regs x t ac dep _ _ _ _ h => absurd h (by omega), fun l I V L R regs x t ac dep i j _ _ _ _ _ _ h => absurd h (by omega)⟩
  | d + 1 => ⟨nl_stepR (nl_search d).1 (nl_search d).2, nl_stepQ (nl_search d).1 (nl_search d).2⟩
end NL
end
section
/-! NearList.collect, and the simple methods of FoldedStrand. -/
theorem nl_t0_in : ∀ n, n < 19 → 0 ≤ nl_t0 n ∧ nl_t0 n ≤ 68719476736 := by decide +kernel
/-- what the search brings for a delta -/
def nl_res (b : Nat → Nat) (n : Nat) (lim : Int) : List Int × Bool := nl_run lim ([], false) (nl_F b 38 none [(0, 0, n)] 0 (nl_t0 n))
/-- a list in the object -/
def nl_li (ks : List Int) (I : Nat → Int32) (L : Nat → Int64) : Prop := I 1 = nI ks.length ∧ nl_K ks L ∧ ks.length ≤ 150 ∧ ks.Pairwise (· ≤ ·) ∧ ∀ z ∈ ks, nl_big z
section GWS
variable {K : Nat → ClassId} {ad : Nat → Nat} {I : Nat → Int32} {V : Nat → Nat → Int32} {L : Nat → Int64} {C : Nat → Int32} {G : Nat → Nat} {R : Nat → Nat}
theorem gw_set_sr1 (u v w : Int32) : va_up (gw K ad I V L C G R) 153 (.inr (6, [.ref (ad 154), .ref (ad 155), .int u, .int v, .int w, .ref (ad 1), .ref (ad 3)])) = gw K ad (va_up (va_up (va_up I 4 u) 5 v) 6 w) V L C G R := by
  funext j
  by_cases hj : j = 153
  · subst hj
    rfl
  · rw [va_up_ne _ _ hj]
    simp only [gw, if_neg hj]
    all_goals rfl
theorem gw_set_sr2 (u v w : Int32) : va_up (gw K ad I V L C G R) 156 (.inr (6, [.ref (ad 157), .ref (ad 158), .int u, .int v, .int w, .ref (ad 1), .ref (ad 3)])) = gw K ad (va_up (va_up (va_up I 7 u) 8 v) 9 w) V L C G R := by
  funext j
  by_cases hj : j = 156
  · subst hj
    rfl
  · rw [va_up_ne _ _ hj]
    simp only [gw, if_neg hj]
    all_goals rfl
end GWS
abbrev bc_NL_collect : ByteArray := prog_4_method_7_code
abbrev yn_NL_collect : MethodName := ⟨"FoldedStrand$NearList", "collect", "(I)Z"⟩
theorem vs_NL_61 : jl_v "FoldedStrand$NearList" 61 yn_FO_leastEnergy bc_FO_leastEnergy 1 (some .int) 0 := ⟨jl_T_of 344 (by decide +kernel) (by decide +kernel), jl_T_of 4 (by decide +kernel) (by decide +kernel), jl_T_of 361 (by decide +kernel) (by decide +kernel), by decide +kernel, by decide +kernel, by decide +kernel⟩
theorem vi_FO_leastEnergy : Cond.instanceMethod yn_FO_leastEnergy ∈ jl_T := jl_T_of 342 (by decide +kernel) (by decide +kernel)
theorem vx_FO_leastEnergy : Cond.selects "FoldedStrand$Folds" yn_FO_leastEnergy yn_FO_leastEnergy ∈ jl_T := jl_T_of 343 (by decide +kernel) (by decide +kernel)
theorem wl_NL_51 : Cond.fieldLink "FoldedStrand$NearList" 51 "FoldedStrand$Folds" "outside" "LFoldedStrand$Region;" ∈ jl_T := jl_T_of 78 (by decide +kernel) (by decide +kernel)
theorem vs_NL_72 : jl_v "FoldedStrand$NearList" 72 yn_NL_textWithoutPairs bc_NL_textWithoutPairs 4 (some .long) 0 := ⟨jl_T_of 370 (by decide +kernel) (by decide +kernel), jl_T_of 6 (by decide +kernel) (by decide +kernel), jl_T_of 367 (by decide +kernel) (by decide +kernel), by decide +kernel, by decide +kernel, by decide +kernel⟩
theorem vi_NL_textWithoutPairs : Cond.instanceMethod yn_NL_textWithoutPairs ∈ jl_T := jl_T_of 369 (by decide +kernel) (by decide +kernel)
theorem vx_NL_textWithoutPairs : Cond.selects "FoldedStrand$NearList" yn_NL_textWithoutPairs yn_NL_textWithoutPairs ∈ jl_T := jl_T_sel 6 (by decide +kernel) (by decide +kernel)
theorem dc_NL_collect_0 : decode bc_NL_collect 0 = .ok (.aload_n 0, 1) := by decide +kernel
theorem dc_NL_collect_1 : decode bc_NL_collect 1 = .ok (.iconst 0, 1) := by decide +kernel
theorem dc_NL_collect_2 : decode bc_NL_collect 2 = .ok (.putfield 15, 3) := by decide +kernel
theorem dc_NL_collect_5 : decode bc_NL_collect 5 = .ok (.aload_n 0, 1) := by decide +kernel
theorem dc_NL_collect_6 : decode bc_NL_collect 6 = .ok (.iconst 0, 1) := by decide +kernel
theorem dc_NL_collect_7 : decode bc_NL_collect 7 = .ok (.putfield 19, 3) := by decide +kernel
theorem dc_NL_collect_10 : decode bc_NL_collect 10 = .ok (.aload_n 0, 1) := by decide +kernel
theorem dc_NL_collect_11 : decode bc_NL_collect 11 = .ok (.aload_n 0, 1) := by decide +kernel
theorem dc_NL_collect_12 : decode bc_NL_collect 12 = .ok (.getfield 47, 3) := by decide +kernel
theorem dc_NL_collect_15 : decode bc_NL_collect 15 = .ok (.invokevirtual 61, 3) := by decide +kernel
theorem dc_NL_collect_18 : decode bc_NL_collect 18 = .ok (.iload_n 1, 1) := by decide +kernel
theorem dc_NL_collect_19 : decode bc_NL_collect 19 = .ok (.iadd, 1) := by decide +kernel
theorem dc_NL_collect_20 : decode bc_NL_collect 20 = .ok (.putfield 23, 3) := by decide +kernel
theorem dc_NL_collect_23 : decode bc_NL_collect 23 = .ok (.aload_n 0, 1) := by decide +kernel
theorem dc_NL_collect_24 : decode bc_NL_collect 24 = .ok (.iconst 0, 1) := by decide +kernel
theorem dc_NL_collect_25 : decode bc_NL_collect 25 = .ok (.aload_n 0, 1) := by decide +kernel
theorem dc_NL_collect_26 : decode bc_NL_collect 26 = .ok (.getfield 47, 3) := by decide +kernel
theorem dc_NL_collect_29 : decode bc_NL_collect 29 = .ok (.getfield 51, 3) := by decide +kernel
theorem dc_NL_collect_32 : decode bc_NL_collect 32 = .ok (.iconst 0, 1) := by decide +kernel
theorem dc_NL_collect_33 : decode bc_NL_collect 33 = .ok (.aload_n 0, 1) := by decide +kernel
theorem dc_NL_collect_34 : decode bc_NL_collect 34 = .ok (.getfield 39, 3) := by decide +kernel
theorem dc_NL_collect_37 : decode bc_NL_collect 37 = .ok (.invokevirtual 65, 3) := by decide +kernel
theorem dc_NL_collect_40 : decode bc_NL_collect 40 = .ok (.invokevirtual 68, 3) := by decide +kernel
theorem dc_NL_collect_43 : decode bc_NL_collect 43 = .ok (.aload_n 0, 1) := by decide +kernel
theorem dc_NL_collect_44 : decode bc_NL_collect 44 = .ok (.iconst 1, 1) := by decide +kernel
theorem dc_NL_collect_45 : decode bc_NL_collect 45 = .ok (.aload_n 0, 1) := by decide +kernel
theorem dc_NL_collect_46 : decode bc_NL_collect 46 = .ok (.getfield 47, 3) := by decide +kernel
theorem dc_NL_collect_49 : decode bc_NL_collect 49 = .ok (.invokevirtual 61, 3) := by decide +kernel
theorem dc_NL_collect_52 : decode bc_NL_collect 52 = .ok (.aload_n 0, 1) := by decide +kernel
theorem dc_NL_collect_53 : decode bc_NL_collect 53 = .ok (.invokevirtual 72, 3) := by decide +kernel
theorem dc_NL_collect_56 : decode bc_NL_collect 56 = .ok (.iconst 0, 1) := by decide +kernel
theorem dc_NL_collect_57 : decode bc_NL_collect 57 = .ok (.invokevirtual 76, 3) := by decide +kernel
theorem dc_NL_collect_60 : decode bc_NL_collect 60 = .ok (.aload_n 0, 1) := by decide +kernel
theorem dc_NL_collect_61 : decode bc_NL_collect 61 = .ok (.getfield 19, 3) := by decide +kernel
theorem dc_NL_collect_64 : decode bc_NL_collect 64 = .ok (.ifCond .eq 8, 3) := by decide +kernel
theorem dc_NL_collect_67 : decode bc_NL_collect 67 = .ok (.aload_n 0, 1) := by decide +kernel
theorem dc_NL_collect_68 : decode bc_NL_collect 68 = .ok (.iconst 0, 1) := by decide +kernel
theorem dc_NL_collect_69 : decode bc_NL_collect 69 = .ok (.putfield 15, 3) := by decide +kernel
theorem dc_NL_collect_72 : decode bc_NL_collect 72 = .ok (.aload_n 0, 1) := by decide +kernel
theorem dc_NL_collect_73 : decode bc_NL_collect 73 = .ok (.getfield 19, 3) := by decide +kernel
theorem dc_NL_collect_76 : decode bc_NL_collect 76 = .ok (.ifCond .ne 7, 3) := by decide +kernel
theorem dc_NL_collect_79 : decode bc_NL_collect 79 = .ok (.iconst 1, 1) := by decide +kernel
theorem dc_NL_collect_80 : decode bc_NL_collect 80 = .ok (.goto 4, 3) := by decide +kernel
theorem dc_NL_collect_83 : decode bc_NL_collect 83 = .ok (.iconst 0, 1) := by decide +kernel
theorem dc_NL_collect_84 : decode bc_NL_collect 84 = .ok (.ireturn, 1) := by decide +kernel
abbrev bc_FS_forgetStructures : ByteArray := prog_1_method_16_code
abbrev yn_FS_forgetStructures : MethodName := ⟨"FoldedStrand", "forgetStructures", "()V"⟩
theorem wl_FS_35 : Cond.fieldLink "FoldedStrand" 35 "FoldedStrand" "nearList" "LFoldedStrand$NearList;" ∈ jl_T := jl_T_of 185 (by decide +kernel) (by decide +kernel)
theorem vs_FS_128 : jl_v "FoldedStrand" 128 yn_NL_forget bc_NL_forget 1 none 0 := ⟨jl_T_of 319 (by decide +kernel) (by decide +kernel), jl_T_of 6 (by decide +kernel) (by decide +kernel), jl_T_of 316 (by decide +kernel) (by decide +kernel), by decide +kernel, by decide +kernel, by decide +kernel⟩
theorem vi_NL_forget : Cond.instanceMethod yn_NL_forget ∈ jl_T := jl_T_of 317 (by decide +kernel) (by decide +kernel)
theorem vx_NL_forget : Cond.selects "FoldedStrand$NearList" yn_NL_forget yn_NL_forget ∈ jl_T := jl_T_of 318 (by decide +kernel) (by decide +kernel)
theorem wl_FS_42 : Cond.fieldLink "FoldedStrand" 42 "FoldedStrand" "structure" "LFoldedStrand$Structure;" ∈ jl_T := jl_T_of 188 (by decide +kernel) (by decide +kernel)
theorem vs_FS_99 : jl_v "FoldedStrand" 99 yn_SR_restart bc_SR_restart 1 none 0 := ⟨jl_T_of 157 (by decide +kernel) (by decide +kernel), jl_T_of 7 (by decide +kernel) (by decide +kernel), jl_T_of 320 (by decide +kernel) (by decide +kernel), by decide +kernel, by decide +kernel, by decide +kernel⟩
theorem vi_SR_restart : Cond.instanceMethod yn_SR_restart ∈ jl_T := jl_T_of 155 (by decide +kernel) (by decide +kernel)
theorem vx_SR_restart : Cond.selects "FoldedStrand$Structure" yn_SR_restart yn_SR_restart ∈ jl_T := jl_T_of 156 (by decide +kernel) (by decide +kernel)
theorem dc_FS_forgetStructures_0 : decode bc_FS_forgetStructures 0 = .ok (.aload_n 0, 1) := by decide +kernel
theorem dc_FS_forgetStructures_1 : decode bc_FS_forgetStructures 1 = .ok (.getfield 35, 3) := by decide +kernel
theorem dc_FS_forgetStructures_4 : decode bc_FS_forgetStructures 4 = .ok (.invokevirtual 128, 3) := by decide +kernel
theorem dc_FS_forgetStructures_7 : decode bc_FS_forgetStructures 7 = .ok (.aload_n 0, 1) := by decide +kernel
theorem dc_FS_forgetStructures_8 : decode bc_FS_forgetStructures 8 = .ok (.getfield 42, 3) := by decide +kernel
theorem dc_FS_forgetStructures_11 : decode bc_FS_forgetStructures 11 = .ok (.invokevirtual 99, 3) := by decide +kernel
theorem dc_FS_forgetStructures_14 : decode bc_FS_forgetStructures 14 = .ok (.return_, 1) := by decide +kernel
abbrev bc_FS_adoptDraft : ByteArray := prog_1_method_17_code
abbrev yn_FS_adoptDraft : MethodName := ⟨"FoldedStrand", "adoptDraft", "()I"⟩
theorem wl_FS_46 : Cond.fieldLink "FoldedStrand" 46 "FoldedStrand" "draft" "LFoldedStrand$Structure;" ∈ jl_T := jl_T_of 189 (by decide +kernel) (by decide +kernel)
theorem vs_FS_131 : jl_v "FoldedStrand" 131 yn_SR_pairCount bc_SR_pairCount 1 (some .int) 0 := ⟨jl_T_of 450 (by decide +kernel) (by decide +kernel), jl_T_of 7 (by decide +kernel) (by decide +kernel), jl_T_of 447 (by decide +kernel) (by decide +kernel), by decide +kernel, by decide +kernel, by decide +kernel⟩
theorem vi_SR_pairCount : Cond.instanceMethod yn_SR_pairCount ∈ jl_T := jl_T_of 448 (by decide +kernel) (by decide +kernel)
theorem vx_SR_pairCount : Cond.selects "FoldedStrand$Structure" yn_SR_pairCount yn_SR_pairCount ∈ jl_T := jl_T_of 449 (by decide +kernel) (by decide +kernel)
theorem dc_FS_adoptDraft_0 : decode bc_FS_adoptDraft 0 = .ok (.aload_n 0, 1) := by decide +kernel
theorem dc_FS_adoptDraft_1 : decode bc_FS_adoptDraft 1 = .ok (.getfield 42, 3) := by decide +kernel
theorem dc_FS_adoptDraft_4 : decode bc_FS_adoptDraft 4 = .ok (.astore_n 1, 1) := by decide +kernel
theorem dc_FS_adoptDraft_5 : decode bc_FS_adoptDraft 5 = .ok (.aload_n 0, 1) := by decide +kernel
theorem dc_FS_adoptDraft_6 : decode bc_FS_adoptDraft 6 = .ok (.aload_n 0, 1) := by decide +kernel
theorem dc_FS_adoptDraft_7 : decode bc_FS_adoptDraft 7 = .ok (.getfield 46, 3) := by decide +kernel
theorem dc_FS_adoptDraft_10 : decode bc_FS_adoptDraft 10 = .ok (.putfield 42, 3) := by decide +kernel
theorem dc_FS_adoptDraft_13 : decode bc_FS_adoptDraft 13 = .ok (.aload_n 0, 1) := by decide +kernel
theorem dc_FS_adoptDraft_14 : decode bc_FS_adoptDraft 14 = .ok (.aload_n 1, 1) := by decide +kernel
theorem dc_FS_adoptDraft_15 : decode bc_FS_adoptDraft 15 = .ok (.putfield 46, 3) := by decide +kernel
theorem dc_FS_adoptDraft_18 : decode bc_FS_adoptDraft 18 = .ok (.aload_n 0, 1) := by decide +kernel
theorem dc_FS_adoptDraft_19 : decode bc_FS_adoptDraft 19 = .ok (.getfield 42, 3) := by decide +kernel
theorem dc_FS_adoptDraft_22 : decode bc_FS_adoptDraft 22 = .ok (.invokevirtual 131, 3) := by decide +kernel
theorem dc_FS_adoptDraft_25 : decode bc_FS_adoptDraft 25 = .ok (.ireturn, 1) := by decide +kernel
abbrev bc_FS_clear : ByteArray := prog_1_method_3_code
abbrev yn_FS_clear : MethodName := ⟨"FoldedStrand", "clear", "()I"⟩
theorem wl_FS_10 : Cond.fieldLink "FoldedStrand" 10 "FoldedStrand" "strand" "LFoldedStrand$Strand;" ∈ jl_T := jl_T_of 183 (by decide +kernel) (by decide +kernel)
theorem vs_FS_67 : jl_v "FoldedStrand" 67 yn_ST_removeAll bc_ST_removeAll 2 (some .int) 0 := ⟨jl_T_of 328 (by decide +kernel) (by decide +kernel), jl_T_of 2 (by decide +kernel) (by decide +kernel), jl_T_of 325 (by decide +kernel) (by decide +kernel), by decide +kernel, by decide +kernel, by decide +kernel⟩
theorem vi_ST_removeAll : Cond.instanceMethod yn_ST_removeAll ∈ jl_T := jl_T_of 326 (by decide +kernel) (by decide +kernel)
theorem vx_ST_removeAll : Cond.selects "FoldedStrand$Strand" yn_ST_removeAll yn_ST_removeAll ∈ jl_T := jl_T_of 327 (by decide +kernel) (by decide +kernel)
theorem vs_FS_64 : jl_v "FoldedStrand" 64 yn_FS_forgetStructures bc_FS_forgetStructures 1 none 0 := ⟨jl_T_of 315 (by decide +kernel) (by decide +kernel), jl_T_of 1 (by decide +kernel) (by decide +kernel), jl_T_of 312 (by decide +kernel) (by decide +kernel), by decide +kernel, by decide +kernel, by decide +kernel⟩
theorem vi_FS_forgetStructures : Cond.instanceMethod yn_FS_forgetStructures ∈ jl_T := jl_T_of 314 (by decide +kernel) (by decide +kernel)
theorem vx_FS_forgetStructures : Cond.selects "FoldedStrand" yn_FS_forgetStructures yn_FS_forgetStructures ∈ jl_T := jl_T_sel 4 (by decide +kernel) (by decide +kernel)
theorem dc_FS_clear_0 : decode bc_FS_clear 0 = .ok (.aload_n 0, 1) := by decide +kernel
theorem dc_FS_clear_1 : decode bc_FS_clear 1 = .ok (.getfield 10, 3) := by decide +kernel
theorem dc_FS_clear_4 : decode bc_FS_clear 4 = .ok (.invokevirtual 67, 3) := by decide +kernel
theorem dc_FS_clear_7 : decode bc_FS_clear 7 = .ok (.istore_n 1, 1) := by decide +kernel
theorem dc_FS_clear_8 : decode bc_FS_clear 8 = .ok (.aload_n 0, 1) := by decide +kernel
theorem dc_FS_clear_9 : decode bc_FS_clear 9 = .ok (.invokevirtual 64, 3) := by decide +kernel
theorem dc_FS_clear_12 : decode bc_FS_clear 12 = .ok (.iload_n 1, 1) := by decide +kernel
theorem dc_FS_clear_13 : decode bc_FS_clear 13 = .ok (.ireturn, 1) := by decide +kernel
abbrev bc_FS_base : ByteArray := prog_1_method_2_code
abbrev yn_FS_base : MethodName := ⟨"FoldedStrand", "base", "(C)Z"⟩
theorem vs_FS_57 : jl_v "FoldedStrand" 57 yn_ST_append bc_ST_append 3 (some .boolean) 1 := ⟨jl_T_of 213 (by decide +kernel) (by decide +kernel), jl_T_of 2 (by decide +kernel) (by decide +kernel), jl_T_of 210 (by decide +kernel) (by decide +kernel), by decide +kernel, by decide +kernel, by decide +kernel⟩
theorem vi_ST_append : Cond.instanceMethod yn_ST_append ∈ jl_T := jl_T_of 211 (by decide +kernel) (by decide +kernel)
theorem vx_ST_append : Cond.selects "FoldedStrand$Strand" yn_ST_append yn_ST_append ∈ jl_T := jl_T_of 212 (by decide +kernel) (by decide +kernel)
theorem wl_FS_26 : Cond.fieldLink "FoldedStrand" 26 "FoldedStrand" "folds" "LFoldedStrand$Folds;" ∈ jl_T := jl_T_of 184 (by decide +kernel) (by decide +kernel)
theorem vs_FS_61 : jl_v "FoldedStrand" 61 yn_FO_extend bc_FO_extend 3 none 0 := ⟨jl_T_of 222 (by decide +kernel) (by decide +kernel), jl_T_of 4 (by decide +kernel) (by decide +kernel), jl_T_of 219 (by decide +kernel) (by decide +kernel), by decide +kernel, by decide +kernel, by decide +kernel⟩
theorem vi_FO_extend : Cond.instanceMethod yn_FO_extend ∈ jl_T := jl_T_of 220 (by decide +kernel) (by decide +kernel)
theorem vx_FO_extend : Cond.selects "FoldedStrand$Folds" yn_FO_extend yn_FO_extend ∈ jl_T := jl_T_of 221 (by decide +kernel) (by decide +kernel)
theorem dc_FS_base_0 : decode bc_FS_base 0 = .ok (.aload_n 0, 1) := by decide +kernel
theorem dc_FS_base_1 : decode bc_FS_base 1 = .ok (.getfield 10, 3) := by decide +kernel
theorem dc_FS_base_4 : decode bc_FS_base 4 = .ok (.iload_n 1, 1) := by decide +kernel
theorem dc_FS_base_5 : decode bc_FS_base 5 = .ok (.invokevirtual 57, 3) := by decide +kernel
theorem dc_FS_base_8 : decode bc_FS_base 8 = .ok (.ifCond .ne 5, 3) := by decide +kernel
theorem dc_FS_base_11 : decode bc_FS_base 11 = .ok (.iconst 0, 1) := by decide +kernel
theorem dc_FS_base_12 : decode bc_FS_base 12 = .ok (.ireturn, 1) := by decide +kernel
theorem dc_FS_base_13 : decode bc_FS_base 13 = .ok (.aload_n 0, 1) := by decide +kernel
theorem dc_FS_base_14 : decode bc_FS_base 14 = .ok (.getfield 26, 3) := by decide +kernel
theorem dc_FS_base_17 : decode bc_FS_base 17 = .ok (.invokevirtual 61, 3) := by decide +kernel
theorem dc_FS_base_20 : decode bc_FS_base 20 = .ok (.aload_n 0, 1) := by decide +kernel
theorem dc_FS_base_21 : decode bc_FS_base 21 = .ok (.invokevirtual 64, 3) := by decide +kernel
theorem dc_FS_base_24 : decode bc_FS_base 24 = .ok (.iconst 1, 1) := by decide +kernel
theorem dc_FS_base_25 : decode bc_FS_base 25 = .ok (.ireturn, 1) := by decide +kernel
abbrev bc_FS_most : ByteArray := prog_1_method_4_code
abbrev yn_FS_most : MethodName := ⟨"FoldedStrand", "most", "()I"⟩
theorem vs_FS_71 : jl_v "FoldedStrand" 71 yn_FO_mostPairs bc_FO_mostPairs 1 (some .int) 0 := ⟨jl_T_of 336 (by decide +kernel) (by decide +kernel), jl_T_of 4 (by decide +kernel) (by decide +kernel), jl_T_of 333 (by decide +kernel) (by decide +kernel), by decide +kernel, by decide +kernel, by decide +kernel⟩
theorem vi_FO_mostPairs : Cond.instanceMethod yn_FO_mostPairs ∈ jl_T := jl_T_of 334 (by decide +kernel) (by decide +kernel)
theorem vx_FO_mostPairs : Cond.selects "FoldedStrand$Folds" yn_FO_mostPairs yn_FO_mostPairs ∈ jl_T := jl_T_of 335 (by decide +kernel) (by decide +kernel)
theorem dc_FS_most_0 : decode bc_FS_most 0 = .ok (.aload_n 0, 1) := by decide +kernel
theorem dc_FS_most_1 : decode bc_FS_most 1 = .ok (.getfield 26, 3) := by decide +kernel
theorem dc_FS_most_4 : decode bc_FS_most 4 = .ok (.invokevirtual 71, 3) := by decide +kernel
theorem dc_FS_most_7 : decode bc_FS_most 7 = .ok (.ireturn, 1) := by decide +kernel
abbrev bc_FS_least : ByteArray := prog_1_method_5_code
abbrev yn_FS_least : MethodName := ⟨"FoldedStrand", "least", "()I"⟩
theorem vs_FS_74 : jl_v "FoldedStrand" 74 yn_FO_leastEnergy bc_FO_leastEnergy 1 (some .int) 0 := ⟨jl_T_of 344 (by decide +kernel) (by decide +kernel), jl_T_of 4 (by decide +kernel) (by decide +kernel), jl_T_of 341 (by decide +kernel) (by decide +kernel), by decide +kernel, by decide +kernel, by decide +kernel⟩
theorem dc_FS_least_0 : decode bc_FS_least 0 = .ok (.aload_n 0, 1) := by decide +kernel
theorem dc_FS_least_1 : decode bc_FS_least 1 = .ok (.getfield 26, 3) := by decide +kernel
theorem dc_FS_least_4 : decode bc_FS_least 4 = .ok (.invokevirtual 74, 3) := by decide +kernel
theorem dc_FS_least_7 : decode bc_FS_least 7 = .ok (.ireturn, 1) := by decide +kernel
abbrev bc_FS_ways : ByteArray := prog_1_method_6_code
abbrev yn_FS_ways : MethodName := ⟨"FoldedStrand", "ways", "()I"⟩
theorem vs_FS_77 : jl_v "FoldedStrand" 77 yn_FO_structureCount bc_FO_structureCount 1 (some .int) 0 := ⟨jl_T_of 352 (by decide +kernel) (by decide +kernel), jl_T_of 4 (by decide +kernel) (by decide +kernel), jl_T_of 349 (by decide +kernel) (by decide +kernel), by decide +kernel, by decide +kernel, by decide +kernel⟩
theorem vi_FO_structureCount : Cond.instanceMethod yn_FO_structureCount ∈ jl_T := jl_T_of 350 (by decide +kernel) (by decide +kernel)
theorem vx_FO_structureCount : Cond.selects "FoldedStrand$Folds" yn_FO_structureCount yn_FO_structureCount ∈ jl_T := jl_T_of 351 (by decide +kernel) (by decide +kernel)
theorem dc_FS_ways_0 : decode bc_FS_ways 0 = .ok (.aload_n 0, 1) := by decide +kernel
theorem dc_FS_ways_1 : decode bc_FS_ways 1 = .ok (.getfield 26, 3) := by decide +kernel
theorem dc_FS_ways_4 : decode bc_FS_ways 4 = .ok (.invokevirtual 77, 3) := by decide +kernel
theorem dc_FS_ways_7 : decode bc_FS_ways 7 = .ok (.ireturn, 1) := by decide +kernel
abbrev bc_FS_list : ByteArray := prog_1_method_7_code
abbrev yn_FS_list : MethodName := ⟨"FoldedStrand", "list", "(I)I"⟩
theorem vs_FS_80 : jl_v "FoldedStrand" 80 yn_NL_collect bc_NL_collect 2 (some .boolean) 1 := ⟨jl_T_of 360 (by decide +kernel) (by decide +kernel), jl_T_of 6 (by decide +kernel) (by decide +kernel), jl_T_of 357 (by decide +kernel) (by decide +kernel), by decide +kernel, by decide +kernel, by decide +kernel⟩
theorem vi_NL_collect : Cond.instanceMethod yn_NL_collect ∈ jl_T := jl_T_of 358 (by decide +kernel) (by decide +kernel)
theorem vx_NL_collect : Cond.selects "FoldedStrand$NearList" yn_NL_collect yn_NL_collect ∈ jl_T := jl_T_of 359 (by decide +kernel) (by decide +kernel)
theorem vs_FS_84 : jl_v "FoldedStrand" 84 yn_NL_size bc_NL_size 1 (some .int) 0 := ⟨jl_T_of 403 (by decide +kernel) (by decide +kernel), jl_T_of 6 (by decide +kernel) (by decide +kernel), jl_T_of 400 (by decide +kernel) (by decide +kernel), by decide +kernel, by decide +kernel, by decide +kernel⟩
theorem vi_NL_size : Cond.instanceMethod yn_NL_size ∈ jl_T := jl_T_of 401 (by decide +kernel) (by decide +kernel)
theorem vx_NL_size : Cond.selects "FoldedStrand$NearList" yn_NL_size yn_NL_size ∈ jl_T := jl_T_of 402 (by decide +kernel) (by decide +kernel)
theorem dc_FS_list_0 : decode bc_FS_list 0 = .ok (.iload_n 1, 1) := by decide +kernel
theorem dc_FS_list_1 : decode bc_FS_list 1 = .ok (.ifCond .lt 10, 3) := by decide +kernel
theorem dc_FS_list_4 : decode bc_FS_list 4 = .ok (.iload_n 1, 1) := by decide +kernel
theorem dc_FS_list_5 : decode bc_FS_list 5 = .ok (.sipush 300, 3) := by decide +kernel
theorem dc_FS_list_8 : decode bc_FS_list 8 = .ok (.if_icmp .le 5, 3) := by decide +kernel
theorem dc_FS_list_11 : decode bc_FS_list 11 = .ok (.iconst (-1), 1) := by decide +kernel
theorem dc_FS_list_12 : decode bc_FS_list 12 = .ok (.ireturn, 1) := by decide +kernel
theorem dc_FS_list_13 : decode bc_FS_list 13 = .ok (.aload_n 0, 1) := by decide +kernel
theorem dc_FS_list_14 : decode bc_FS_list 14 = .ok (.getfield 35, 3) := by decide +kernel
theorem dc_FS_list_17 : decode bc_FS_list 17 = .ok (.iload_n 1, 1) := by decide +kernel
theorem dc_FS_list_18 : decode bc_FS_list 18 = .ok (.invokevirtual 80, 3) := by decide +kernel
theorem dc_FS_list_21 : decode bc_FS_list 21 = .ok (.ifCond .eq 13, 3) := by decide +kernel
theorem dc_FS_list_24 : decode bc_FS_list 24 = .ok (.aload_n 0, 1) := by decide +kernel
theorem dc_FS_list_25 : decode bc_FS_list 25 = .ok (.getfield 35, 3) := by decide +kernel
theorem dc_FS_list_28 : decode bc_FS_list 28 = .ok (.invokevirtual 84, 3) := by decide +kernel
theorem dc_FS_list_31 : decode bc_FS_list 31 = .ok (.goto 5, 3) := by decide +kernel
theorem dc_FS_list_34 : decode bc_FS_list 34 = .ok (.bipush (-2), 2) := by decide +kernel
theorem dc_FS_list_36 : decode bc_FS_list 36 = .ok (.ireturn, 1) := by decide +kernel
abbrev bc_FS_energyOf : ByteArray := prog_1_method_8_code
abbrev yn_FS_energyOf : MethodName := ⟨"FoldedStrand", "energyOf", "(I)I"⟩
theorem vs_FS_87 : jl_v "FoldedStrand" 87 yn_NL_has bc_NL_has 2 (some .boolean) 1 := ⟨jl_T_of 411 (by decide +kernel) (by decide +kernel), jl_T_of 6 (by decide +kernel) (by decide +kernel), jl_T_of 408 (by decide +kernel) (by decide +kernel), by decide +kernel, by decide +kernel, by decide +kernel⟩
theorem vi_NL_has : Cond.instanceMethod yn_NL_has ∈ jl_T := jl_T_of 409 (by decide +kernel) (by decide +kernel)
theorem vx_NL_has : Cond.selects "FoldedStrand$NearList" yn_NL_has yn_NL_has ∈ jl_T := jl_T_of 410 (by decide +kernel) (by decide +kernel)
theorem vs_FS_90 : jl_v "FoldedStrand" 90 yn_NL_energyAt bc_NL_energyAt 2 (some .int) 1 := ⟨jl_T_of 415 (by decide +kernel) (by decide +kernel), jl_T_of 6 (by decide +kernel) (by decide +kernel), jl_T_of 412 (by decide +kernel) (by decide +kernel), by decide +kernel, by decide +kernel, by decide +kernel⟩
theorem vi_NL_energyAt : Cond.instanceMethod yn_NL_energyAt ∈ jl_T := jl_T_of 413 (by decide +kernel) (by decide +kernel)
theorem vx_NL_energyAt : Cond.selects "FoldedStrand$NearList" yn_NL_energyAt yn_NL_energyAt ∈ jl_T := jl_T_of 414 (by decide +kernel) (by decide +kernel)
theorem dc_FS_energyOf_0 : decode bc_FS_energyOf 0 = .ok (.aload_n 0, 1) := by decide +kernel
theorem dc_FS_energyOf_1 : decode bc_FS_energyOf 1 = .ok (.getfield 35, 3) := by decide +kernel
theorem dc_FS_energyOf_4 : decode bc_FS_energyOf 4 = .ok (.iload_n 1, 1) := by decide +kernel
theorem dc_FS_energyOf_5 : decode bc_FS_energyOf 5 = .ok (.invokevirtual 87, 3) := by decide +kernel
theorem dc_FS_energyOf_8 : decode bc_FS_energyOf 8 = .ok (.ifCond .eq 14, 3) := by decide +kernel
theorem dc_FS_energyOf_11 : decode bc_FS_energyOf 11 = .ok (.aload_n 0, 1) := by decide +kernel
theorem dc_FS_energyOf_12 : decode bc_FS_energyOf 12 = .ok (.getfield 35, 3) := by decide +kernel
theorem dc_FS_energyOf_15 : decode bc_FS_energyOf 15 = .ok (.iload_n 1, 1) := by decide +kernel
theorem dc_FS_energyOf_16 : decode bc_FS_energyOf 16 = .ok (.invokevirtual 90, 3) := by decide +kernel
theorem dc_FS_energyOf_19 : decode bc_FS_energyOf 19 = .ok (.goto 4, 3) := by decide +kernel
theorem dc_FS_energyOf_22 : decode bc_FS_energyOf 22 = .ok (.iconst 0, 1) := by decide +kernel
theorem dc_FS_energyOf_23 : decode bc_FS_energyOf 23 = .ok (.ireturn, 1) := by decide +kernel
abbrev bc_FS_at : ByteArray := prog_1_method_9_code
abbrev yn_FS_at : MethodName := ⟨"FoldedStrand", "at", "(II)I"⟩
theorem vs_FS_94 : jl_v "FoldedStrand" 94 yn_ST_has bc_ST_has 2 (some .boolean) 1 := ⟨jl_T_of 423 (by decide +kernel) (by decide +kernel), jl_T_of 2 (by decide +kernel) (by decide +kernel), jl_T_of 420 (by decide +kernel) (by decide +kernel), by decide +kernel, by decide +kernel, by decide +kernel⟩
theorem vi_ST_has : Cond.instanceMethod yn_ST_has ∈ jl_T := jl_T_of 421 (by decide +kernel) (by decide +kernel)
theorem vx_ST_has : Cond.selects "FoldedStrand$Strand" yn_ST_has yn_ST_has ∈ jl_T := jl_T_of 422 (by decide +kernel) (by decide +kernel)
theorem vs_FS_95 : jl_v "FoldedStrand" 95 yn_NL_character bc_NL_character 4 (some .char) 2 := ⟨jl_T_of 427 (by decide +kernel) (by decide +kernel), jl_T_of 6 (by decide +kernel) (by decide +kernel), jl_T_of 424 (by decide +kernel) (by decide +kernel), by decide +kernel, by decide +kernel, by decide +kernel⟩
theorem vi_NL_character : Cond.instanceMethod yn_NL_character ∈ jl_T := jl_T_of 425 (by decide +kernel) (by decide +kernel)
theorem vx_NL_character : Cond.selects "FoldedStrand$NearList" yn_NL_character yn_NL_character ∈ jl_T := jl_T_of 426 (by decide +kernel) (by decide +kernel)
theorem dc_FS_at_0 : decode bc_FS_at 0 = .ok (.aload_n 0, 1) := by decide +kernel
theorem dc_FS_at_1 : decode bc_FS_at 1 = .ok (.getfield 35, 3) := by decide +kernel
theorem dc_FS_at_4 : decode bc_FS_at 4 = .ok (.iload_n 1, 1) := by decide +kernel
theorem dc_FS_at_5 : decode bc_FS_at 5 = .ok (.invokevirtual 87, 3) := by decide +kernel
theorem dc_FS_at_8 : decode bc_FS_at 8 = .ok (.ifCond .eq 26, 3) := by decide +kernel
theorem dc_FS_at_11 : decode bc_FS_at 11 = .ok (.aload_n 0, 1) := by decide +kernel
theorem dc_FS_at_12 : decode bc_FS_at 12 = .ok (.getfield 10, 3) := by decide +kernel
theorem dc_FS_at_15 : decode bc_FS_at 15 = .ok (.iload_n 2, 1) := by decide +kernel
theorem dc_FS_at_16 : decode bc_FS_at 16 = .ok (.invokevirtual 94, 3) := by decide +kernel
theorem dc_FS_at_19 : decode bc_FS_at 19 = .ok (.ifCond .eq 15, 3) := by decide +kernel
theorem dc_FS_at_22 : decode bc_FS_at 22 = .ok (.aload_n 0, 1) := by decide +kernel
theorem dc_FS_at_23 : decode bc_FS_at 23 = .ok (.getfield 35, 3) := by decide +kernel
theorem dc_FS_at_26 : decode bc_FS_at 26 = .ok (.iload_n 1, 1) := by decide +kernel
theorem dc_FS_at_27 : decode bc_FS_at 27 = .ok (.iload_n 2, 1) := by decide +kernel
theorem dc_FS_at_28 : decode bc_FS_at 28 = .ok (.invokevirtual 95, 3) := by decide +kernel
theorem dc_FS_at_31 : decode bc_FS_at 31 = .ok (.goto 4, 3) := by decide +kernel
theorem dc_FS_at_34 : decode bc_FS_at 34 = .ok (.iconst (-1), 1) := by decide +kernel
theorem dc_FS_at_35 : decode bc_FS_at 35 = .ok (.ireturn, 1) := by decide +kernel
abbrev bc_FS_type : ByteArray := prog_1_method_11_code
abbrev yn_FS_type : MethodName := ⟨"FoldedStrand", "type", "(C)Z"⟩
theorem wl_FS_53 : Cond.fieldLink "FoldedStrand" 53 "FoldedStrand" "typedCount" "I" ∈ jl_T := jl_T_of 187 (by decide +kernel) (by decide +kernel)
theorem wl_FS_49 : Cond.fieldLink "FoldedStrand" 49 "FoldedStrand" "typed" "[C" ∈ jl_T := jl_T_of 186 (by decide +kernel) (by decide +kernel)
theorem dc_FS_type_0 : decode bc_FS_type 0 = .ok (.iload_n 1, 1) := by decide +kernel
theorem dc_FS_type_1 : decode bc_FS_type 1 = .ok (.bipush 32, 2) := by decide +kernel
theorem dc_FS_type_3 : decode bc_FS_type 3 = .ok (.if_icmp .lt 18, 3) := by decide +kernel
theorem dc_FS_type_6 : decode bc_FS_type 6 = .ok (.iload_n 1, 1) := by decide +kernel
theorem dc_FS_type_7 : decode bc_FS_type 7 = .ok (.bipush 126, 2) := by decide +kernel
theorem dc_FS_type_9 : decode bc_FS_type 9 = .ok (.if_icmp .gt 12, 3) := by decide +kernel
theorem dc_FS_type_12 : decode bc_FS_type 12 = .ok (.aload_n 0, 1) := by decide +kernel
theorem dc_FS_type_13 : decode bc_FS_type 13 = .ok (.getfield 53, 3) := by decide +kernel
theorem dc_FS_type_16 : decode bc_FS_type 16 = .ok (.bipush 20, 2) := by decide +kernel
theorem dc_FS_type_18 : decode bc_FS_type 18 = .ok (.if_icmp .lt 5, 3) := by decide +kernel
theorem dc_FS_type_21 : decode bc_FS_type 21 = .ok (.iconst 0, 1) := by decide +kernel
theorem dc_FS_type_22 : decode bc_FS_type 22 = .ok (.ireturn, 1) := by decide +kernel
theorem dc_FS_type_23 : decode bc_FS_type 23 = .ok (.aload_n 0, 1) := by decide +kernel
theorem dc_FS_type_24 : decode bc_FS_type 24 = .ok (.getfield 49, 3) := by decide +kernel
theorem dc_FS_type_27 : decode bc_FS_type 27 = .ok (.aload_n 0, 1) := by decide +kernel
theorem dc_FS_type_28 : decode bc_FS_type 28 = .ok (.getfield 53, 3) := by decide +kernel
theorem dc_FS_type_31 : decode bc_FS_type 31 = .ok (.iload_n 1, 1) := by decide +kernel
theorem dc_FS_type_32 : decode bc_FS_type 32 = .ok (.castore, 1) := by decide +kernel
theorem dc_FS_type_33 : decode bc_FS_type 33 = .ok (.aload_n 0, 1) := by decide +kernel
theorem dc_FS_type_34 : decode bc_FS_type 34 = .ok (.dup, 1) := by decide +kernel
theorem dc_FS_type_35 : decode bc_FS_type 35 = .ok (.getfield 53, 3) := by decide +kernel
theorem dc_FS_type_38 : decode bc_FS_type 38 = .ok (.iconst 1, 1) := by decide +kernel
theorem dc_FS_type_39 : decode bc_FS_type 39 = .ok (.iadd, 1) := by decide +kernel
theorem dc_FS_type_40 : decode bc_FS_type 40 = .ok (.putfield 53, 3) := by decide +kernel
theorem dc_FS_type_43 : decode bc_FS_type 43 = .ok (.iconst 1, 1) := by decide +kernel
theorem dc_FS_type_44 : decode bc_FS_type 44 = .ok (.ireturn, 1) := by decide +kernel
abbrev bc_FS_partner : ByteArray := prog_1_method_14_code
abbrev yn_FS_partner : MethodName := ⟨"FoldedStrand", "partner", "(I)I"⟩
theorem vs_FS_116 : jl_v "FoldedStrand" 116 yn_SR_isPaired bc_SR_isPaired 2 (some .boolean) 1 := ⟨jl_T_of 494 (by decide +kernel) (by decide +kernel), jl_T_of 7 (by decide +kernel) (by decide +kernel), jl_T_of 491 (by decide +kernel) (by decide +kernel), by decide +kernel, by decide +kernel, by decide +kernel⟩
theorem vi_SR_isPaired : Cond.instanceMethod yn_SR_isPaired ∈ jl_T := jl_T_of 492 (by decide +kernel) (by decide +kernel)
theorem vx_SR_isPaired : Cond.selects "FoldedStrand$Structure" yn_SR_isPaired yn_SR_isPaired ∈ jl_T := jl_T_of 493 (by decide +kernel) (by decide +kernel)
theorem vs_FS_119 : jl_v "FoldedStrand" 119 yn_SR_mateOf bc_SR_mateOf 2 (some .int) 1 := ⟨jl_T_of 498 (by decide +kernel) (by decide +kernel), jl_T_of 7 (by decide +kernel) (by decide +kernel), jl_T_of 495 (by decide +kernel) (by decide +kernel), by decide +kernel, by decide +kernel, by decide +kernel⟩
theorem vi_SR_mateOf : Cond.instanceMethod yn_SR_mateOf ∈ jl_T := jl_T_of 496 (by decide +kernel) (by decide +kernel)
theorem vx_SR_mateOf : Cond.selects "FoldedStrand$Structure" yn_SR_mateOf yn_SR_mateOf ∈ jl_T := jl_T_of 497 (by decide +kernel) (by decide +kernel)
theorem dc_FS_partner_0 : decode bc_FS_partner 0 = .ok (.aload_n 0, 1) := by decide +kernel
theorem dc_FS_partner_1 : decode bc_FS_partner 1 = .ok (.getfield 10, 3) := by decide +kernel
theorem dc_FS_partner_4 : decode bc_FS_partner 4 = .ok (.iload_n 1, 1) := by decide +kernel
theorem dc_FS_partner_5 : decode bc_FS_partner 5 = .ok (.invokevirtual 94, 3) := by decide +kernel
theorem dc_FS_partner_8 : decode bc_FS_partner 8 = .ok (.ifCond .eq 25, 3) := by decide +kernel
theorem dc_FS_partner_11 : decode bc_FS_partner 11 = .ok (.aload_n 0, 1) := by decide +kernel
theorem dc_FS_partner_12 : decode bc_FS_partner 12 = .ok (.getfield 42, 3) := by decide +kernel
theorem dc_FS_partner_15 : decode bc_FS_partner 15 = .ok (.iload_n 1, 1) := by decide +kernel
theorem dc_FS_partner_16 : decode bc_FS_partner 16 = .ok (.invokevirtual 116, 3) := by decide +kernel
theorem dc_FS_partner_19 : decode bc_FS_partner 19 = .ok (.ifCond .eq 14, 3) := by decide +kernel
theorem dc_FS_partner_22 : decode bc_FS_partner 22 = .ok (.aload_n 0, 1) := by decide +kernel
theorem dc_FS_partner_23 : decode bc_FS_partner 23 = .ok (.getfield 42, 3) := by decide +kernel
theorem dc_FS_partner_26 : decode bc_FS_partner 26 = .ok (.iload_n 1, 1) := by decide +kernel
theorem dc_FS_partner_27 : decode bc_FS_partner 27 = .ok (.invokevirtual 119, 3) := by decide +kernel
theorem dc_FS_partner_30 : decode bc_FS_partner 30 = .ok (.goto 4, 3) := by decide +kernel
theorem dc_FS_partner_33 : decode bc_FS_partner 33 = .ok (.iconst (-1), 1) := by decide +kernel
theorem dc_FS_partner_34 : decode bc_FS_partner 34 = .ok (.ireturn, 1) := by decide +kernel
section FS
variable (l : Launch) {K : Nat → ClassId} {sa : Nat → Nat} {ad : Nat → Nat} {I : Nat → Int32} {V : Nat → Nat → Int32} {L : Nat → Int64} {C : Nat → Int32} {G : Nat → Nat} {R : Nat → Nat} {n : Nat} {b : Nat → Nat} {pe : Nat → Nat → Int} {T : Nat → Nat → Nat → Int}
theorem c_NL_collect (hI0 : I 0 = nI n) (hV2 : V 2 = fun i => nI (b i)) (hn : n ≤ 18) (hb : ∀ i, b i < 4) (hV : fo_V n pe T V) (hB : fo_B n pe T) (hLB : nl_LB b n pe T) {dl : Nat} (hdl : dl ≤ 300) : jl_CP l K sa yn_NL_collect bc_NL_collect 2 (some .boolean) 51 2620 168 ad [.ref (ad 148), .int (nI dl)] (gw K ad I V L C G R) (fun v E2 => ∃ I2 V2 L2 R2, v = some (.int (st_bI (!(nl_res b n (T 2 0 n + dl)).2))) ∧ (∀ k, k ≠ 1 → k ≠ 2 → k ≠ 3 → I2 k = I k) ∧ (∀ c, c ≠ 151 → c ≠ 152 → V2 c = V c) ∧ nl_li (if (nl_res b n (T 2 0 n + dl)).2 = true then [] else (nl_res b n (T 2 0 n + dl)).1) I2 L2 ∧ E2 = gw K ad I2 V2 L2 C G R2) := by
  refine jl_enterP (by decide) (Nat.le_of_ble_eq_true rfl) (fun x h he hr => ?_)
  show jl_J x 168 ad 0 0 (gw K ad I V L C G R) 0 [(0, .ref (ad 148)), (1, .int (nI dl))] []
  have hS : st_ok K ad (gw K ad I V L C G R) n b := ⟨by show Sum.inr _ = _; rw [hI0], gw_at rfl rfl hV2, hn, hb⟩
  have hT1 := hLB.1 0 0 n (by decide) (by omega) (Nat.le_refl n)
  have hT2 := (hB.2.2 0 (by decide) 0 n (by omega) (Or.inl (Nat.le_refl n))).1
  have hTa : T 2 0 n ≤ 0 := by
    have h9 : fo_pp 0 * ((n : Int) - (0 : Nat)) = 0 := by show (0 : Int) * _ = 0; omega
    have h8 : T (2 + 0) 0 n = T 2 0 n := rfl
    omega
  have hTb : -400 ≤ T 2 0 n := by
    have h8 : T (2 + 0) 0 n = T 2 0 n := rfl
    omega
  have hV66 : V 66 n = iI (T 2 0 n) := hV.2 2 (by decide) 0 n (by omega) (Or.inl (Nat.le_refl n))
  obtain ⟨lim, hlim⟩ : ∃ lim, lim = T 2 0 n + (dl : Int) := ⟨_, rfl⟩
  rw [← hlim] at he
  have e20 : V 66 n + nI dl = iI lim := by rw [hV66, ← iI_nat dl, iI_add, hlim]
  have ht0 := nl_t0_in n (by omega)
  have hcx : ∀ (V9 : Nat → Nat → Int32) (u v : Int32), (∀ c, c ≠ 151 → c ≠ 152 → V9 c = V c) → nl_cx b n pe T lim (va_up (va_up (va_up I 1 u) 2 v) 3 (iI lim)) V9 := fun V9 u v h9 => nl_cx.to (I0 := va_up I 3 (iI lim)) (V0 := V) ⟨hI0, hV2, hn, hb, va_up_self _ _ _, hV, hB, hLB, by omega, by omega⟩ (fun k h1 h2 => by
      by_cases h3 : k = 3
      · rw [h3, va_up_self, va_up_self]
      · rw [va_up_ne _ _ h3, va_up_ne _ _ h2, va_up_ne _ _ h1, va_up_ne _ _ h3]) h9
  have eE : iI (T 2 0 n) = iI (0 + nl_sum T [(0, 0, n)]) := by
    congr 1
    show T 2 0 n = 0 + (T (2 + 0) 0 n + 0)
    have h8 : T (2 + 0) 0 n = T 2 0 n := rfl
    omega
  have hac0 : nl_ac ([], false) (va_up (va_up (va_up I 1 (nI 0)) 2 (st_bI false)) 3 (iI lim)) L := ⟨rfl, rfl, fun k hk => absurd hk (by simp), by decide, List.Pairwise.nil, fun z hz => by simp at hz⟩
  refine jl_aload_n (i := 0) h rfl rfl dc_NL_collect_0 1 rfl ?_
  refine jl_iconst (v := nI 0) h (by decide) dc_NL_collect_1 2 rfl ?_
  refine jl_putf (fs2 := [_, _, _, _, _, _, _, _, _, _]) h nm_c_NL 1 wl_NL_15 (by omega) (by decide) rfl (by exact rfl) (by rfl) (by rfl) (by exact Nat.le_of_ble_eq_true rfl) (by rfl) dc_NL_collect_2 (gw_set_count _) 5 rfl ?_
  refine jl_aload_n (i := 0) h rfl rfl dc_NL_collect_5 6 rfl ?_
  refine jl_iconst (v := st_bI false) h (by decide) dc_NL_collect_6 7 rfl ?_
  refine jl_putf (fs2 := [_, _, _, _, _, _, _, _, _, _]) h nm_c_NL 2 wl_NL_19 (by omega) (by decide) rfl (by exact rfl) (by rfl) (by rfl) (by exact Nat.le_of_ble_eq_true rfl) (by rfl) dc_NL_collect_7 (gw_set_tooMany _) 10 rfl ?_
  refine jl_aload_n (i := 0) h rfl rfl dc_NL_collect_10 11 rfl ?_
  refine jl_aload_n (i := 0) h rfl rfl dc_NL_collect_11 12 rfl ?_
  refine jl_getf h nm_c_NL 9 wl_NL_47 (by omega) (by decide) (by exact rfl) (by rfl) dc_NL_collect_12 15 rfl ?_
  refine jl_callV (As := []) (rest := [_]) h hr vs_NL_61 vi_FO_leastEnergy vx_FO_leastEnergy (ci := 3) rfl (by omega) (by exact rfl) (fun l => c_FO_leastEnergy l hS) (by first | decide | omega) (by first | decide | omega) rfl rfl (Nat.le_of_ble_eq_true rfl) dc_NL_collect_15 (res := [_, _]) rfl 18 rfl ?_
  refine jl_iload_n (i := 1) h rfl rfl dc_NL_collect_18 19 rfl ?_
  refine jl_iadd h dc_NL_collect_19 20 rfl ?_
  rw [show V 66 n + nI dl = iI lim by exact e20]
  refine jl_putf (fs2 := [_, _, _, _, _, _, _, _, _, _]) h nm_c_NL 3 wl_NL_23 (by omega) (by decide) rfl (by exact rfl) (by rfl) (by rfl) (by exact Nat.le_of_ble_eq_true rfl) (by rfl) dc_NL_collect_20 (gw_set_limit _) 23 rfl ?_
  refine jl_aload_n (i := 0) h rfl rfl dc_NL_collect_23 24 rfl ?_
  refine jl_iconst (v := nI 0) h (by decide) dc_NL_collect_24 25 rfl ?_
  refine jl_aload_n (i := 0) h rfl rfl dc_NL_collect_25 26 rfl ?_
  refine jl_getf h nm_c_NL 9 wl_NL_47 (by omega) (by decide) (by exact rfl) (by rfl) dc_NL_collect_26 29 rfl ?_
  refine jl_getf h nm_c_FO 0 wl_NL_51 (by omega) (by decide) (by exact rfl) (by rfl) dc_NL_collect_29 32 rfl ?_
  refine jl_iconst (v := nI 0) h (by decide) dc_NL_collect_32 33 rfl ?_
  refine jl_aload_n (i := 0) h rfl rfl dc_NL_collect_33 34 rfl ?_
  refine jl_getf h nm_c_NL 7 wl_NL_39 (by omega) (by decide) (by exact rfl) (by rfl) dc_NL_collect_34 37 rfl ?_
  refine jl_callV (As := []) (rest := [_, _, _, _]) h hr vs_NL_65 vi_ST_size vx_ST_size (ci := 1) rfl (by omega) (by exact hS.1) (fun l => c_ST_size l (by omega) hS) (by first | decide | omega) (by first | decide | omega) rfl rfl (Nat.le_of_ble_eq_true rfl) dc_NL_collect_37 (res := [_, _, _, _, _]) rfl 40 rfl ?_
  refine jl_callV (As := [_, _, _, _]) (rest := []) h hr vs_NL_68 vi_NL_setRegion vx_NL_setRegion (ci := 5) rfl (by omega) (by exact rfl) (fun l => c_NL_setRegion l (k := 0) (r := 0) (s := 0) (e := n) (by decide) (by decide)) (by first | decide | omega) (by first | decide | omega) rfl rfl (Nat.le_of_ble_eq_true rfl) dc_NL_collect_40 (res := []) rfl 43 rfl ?_
  refine jl_absVR (P := fun V9 R9 => nl_st (va_up (va_up (va_up I 1 (nI 0)) 2 (st_bI false)) 3 (iI lim)) V ([], false) [(0, 0, n)] (va_up (va_up (va_up I 1 (nI 0)) 2 (st_bI false)) 3 (iI lim)) V9 L R9) (nl_set (regs := []) 0 0 n ⟨fun _ _ _ => rfl, fun _ _ _ => rfl, hac0, trivial⟩) (fun V3 R3 hst3 => ?_)
  have hcx3 := hcx V3 (nI 0) (st_bI false) hst3.2.1
  have hS3 : st_ok K ad (gw K ad (va_up (va_up (va_up I 1 (nI 0)) 2 (st_bI false)) 3 (iI lim)) V3 L C G R3) n b := hcx3.S
  have hV3 : V3 66 n = iI (0 + nl_sum T [(0, 0, n)]) := by rw [hst3.2.1 66 (by decide) (by decide), hV66, eE]
  refine jl_aload_n (i := 0) h rfl rfl dc_NL_collect_43 44 rfl ?_
  refine jl_iconst (v := nI 1) h (by decide) dc_NL_collect_44 45 rfl ?_
  refine jl_aload_n (i := 0) h rfl rfl dc_NL_collect_45 46 rfl ?_
  refine jl_getf h nm_c_NL 9 wl_NL_47 (by omega) (by decide) (by exact rfl) (by rfl) dc_NL_collect_46 49 rfl ?_
  refine jl_callV (As := []) (rest := [_, _]) h hr vs_NL_61 vi_FO_leastEnergy vx_FO_leastEnergy (ci := 3) rfl (by omega) (by exact rfl) (fun l => c_FO_leastEnergy l hS3) (by first | decide | omega) (by first | decide | omega) rfl rfl (Nat.le_of_ble_eq_true rfl) dc_NL_collect_49 (res := [_, _, _]) rfl 52 rfl ?_
  rw [hV3]
  refine jl_aload_n (i := 0) h rfl rfl dc_NL_collect_52 53 rfl ?_
  refine jl_callV (As := []) (rest := [_, _, _]) h hr vs_NL_72 vi_NL_textWithoutPairs vx_NL_textWithoutPairs (ci := 5) rfl (by omega) (by exact rfl) (fun l => c_NL_textWithoutPairs l hS3) (by first | decide | omega) (by first | decide | omega) rfl rfl (Nat.le_of_ble_eq_true rfl) dc_NL_collect_53 (res := [_, _, _, _]) rfl 56 rfl ?_
  refine jl_iconst (v := nI 0) h (by decide) dc_NL_collect_56 57 rfl ?_
  refine jl_callVV (As := [_, _, _, _]) (rest := []) h hr vs_NL_76 vi_NL_fillRegions vx_NL_fillRegions (ci := 5) rfl (by omega) (by exact rfl) (fun l => (nl_search 38).1 l _ V3 L R3 [(0, 0, n)] 0 (nl_t0 n) ([], false) 0 hcx3 hst3.2.2.1 hst3.2.2.2 (fun q hq => by rw [List.mem_singleton] at hq; subst hq; exact ⟨by show 0 < 4; decide, by show 0 ≤ n; omega, Nat.le_refl n⟩) (by show 2 * (n - 0) + 1 + 0 < 38; omega) (by show 0 + (2 * (n - 0) + 1 + 0) ≤ 37; omega) (by decide) (by decide) (by decide) (by omega) (by omega)) (by first | decide | omega) (by first | decide | omega) rfl rfl (Nat.le_of_ble_eq_true rfl) dc_NL_collect_57 60 rfl ?_
  rintro E9 ⟨I4, V4, L4, R4, hst4, rfl⟩
  refine jl_aload_n (i := 0) h rfl rfl dc_NL_collect_60 61 rfl ?_
  refine jl_getf (v := .int (st_bI (nl_res b n lim).2)) h nm_c_NL 2 wl_NL_19 (by omega) (by decide) (by exact rfl) (by exact sr_v hst4.2.2.1.2.1) dc_NL_collect_61 64 rfl ?_
  refine jl_if_eq h 72 (by decide) dc_NL_collect_64 67 rfl (fun c64 => ?_) (fun c64 => ?_)
  · skip
    rw [st_b0] at c64
    refine jl_aload_n (i := 0) h rfl rfl dc_NL_collect_72 73 rfl ?_
    refine jl_getf (v := .int (st_bI (nl_res b n lim).2)) h nm_c_NL 2 wl_NL_19 (by omega) (by decide) (by exact rfl) (by exact sr_v hst4.2.2.1.2.1) dc_NL_collect_73 76 rfl ?_
    refine jl_if_ne h 83 (by decide) dc_NL_collect_76 79 rfl (fun c76 => ?_) (fun c76 => ?_)
    · skip
      rw [st_b1] at c76
      refine jl_iconst (v := 0) h (by decide) dc_NL_collect_83 84 rfl ?_
      exact jl_zretP h he rfl (by first | exact ⟨I4, V4, L4, R4, by rw [c76]; rfl, fun k h1 h2 h3 => (hst4.1 k h1 h2).trans (by rw [va_up_ne _ _ h3, va_up_ne _ _ h2, va_up_ne _ _ h1]), fun c h1 h2 => (hst4.2.1 c h1 h2).trans (hst3.2.1 c h1 h2), by rw [if_neg (by rw [c76]; decide)]; exact ⟨hst4.2.2.1.1, hst4.2.2.1.2.2.1, hst4.2.2.1.2.2.2.1, hst4.2.2.1.2.2.2.2.1, hst4.2.2.1.2.2.2.2.2⟩, rfl⟩ | exact ⟨_, V4, L4, R4, by rw [c76]; rfl, fun k h1 h2 h3 => (va_up_ne _ _ h1).trans ((hst4.1 k h1 h2).trans (by rw [va_up_ne _ _ h3, va_up_ne _ _ h2, va_up_ne _ _ h1])), fun c h1 h2 => (hst4.2.1 c h1 h2).trans (hst3.2.1 c h1 h2), by rw [if_pos c76]; exact ⟨rfl, fun k hk => absurd hk (by simp), by decide, List.Pairwise.nil, fun z hz => by simp at hz⟩, rfl⟩ | (rw [c64] at c76; cases c76)) dc_NL_collect_84
    · skip
      rw [st_b0] at c76
      refine jl_iconst (v := 1) h (by decide) dc_NL_collect_79 80 rfl ?_
      refine jl_goto h 84 (by decide) dc_NL_collect_80 ?_
      exact jl_zretP h he rfl (by first | exact ⟨I4, V4, L4, R4, by rw [c76]; rfl, fun k h1 h2 h3 => (hst4.1 k h1 h2).trans (by rw [va_up_ne _ _ h3, va_up_ne _ _ h2, va_up_ne _ _ h1]), fun c h1 h2 => (hst4.2.1 c h1 h2).trans (hst3.2.1 c h1 h2), by rw [if_neg (by rw [c76]; decide)]; exact ⟨hst4.2.2.1.1, hst4.2.2.1.2.2.1, hst4.2.2.1.2.2.2.1, hst4.2.2.1.2.2.2.2.1, hst4.2.2.1.2.2.2.2.2⟩, rfl⟩ | exact ⟨_, V4, L4, R4, by rw [c76]; rfl, fun k h1 h2 h3 => (va_up_ne _ _ h1).trans ((hst4.1 k h1 h2).trans (by rw [va_up_ne _ _ h3, va_up_ne _ _ h2, va_up_ne _ _ h1])), fun c h1 h2 => (hst4.2.1 c h1 h2).trans (hst3.2.1 c h1 h2), by rw [if_pos c76]; exact ⟨rfl, fun k hk => absurd hk (by simp), by decide, List.Pairwise.nil, fun z hz => by simp at hz⟩, rfl⟩ | (rw [c64] at c76; cases c76)) dc_NL_collect_84
  · skip
    rw [st_b1] at c64
    refine jl_aload_n (i := 0) h rfl rfl dc_NL_collect_67 68 rfl ?_
    refine jl_iconst (v := nI 0) h (by decide) dc_NL_collect_68 69 rfl ?_
    refine jl_putf (fs2 := [_, _, _, _, _, _, _, _, _, _]) h nm_c_NL 1 wl_NL_15 (by omega) (by decide) rfl (by exact rfl) (by rfl) (by rfl) (by exact Nat.le_of_ble_eq_true rfl) (by rfl) dc_NL_collect_69 (gw_set_count _) 72 rfl ?_
    refine jl_aload_n (i := 0) h rfl rfl dc_NL_collect_72 73 rfl ?_
    refine jl_getf (v := .int (st_bI (nl_res b n lim).2)) h nm_c_NL 2 wl_NL_19 (by omega) (by decide) (by exact rfl) (by exact sr_v hst4.2.2.1.2.1) dc_NL_collect_73 76 rfl ?_
    refine jl_if_ne h 83 (by decide) dc_NL_collect_76 79 rfl (fun c76 => ?_) (fun c76 => ?_)
    · skip
      rw [st_b1] at c76
      refine jl_iconst (v := 0) h (by decide) dc_NL_collect_83 84 rfl ?_
      exact jl_zretP h he rfl (by first | exact ⟨I4, V4, L4, R4, by rw [c76]; rfl, fun k h1 h2 h3 => (hst4.1 k h1 h2).trans (by rw [va_up_ne _ _ h3, va_up_ne _ _ h2, va_up_ne _ _ h1]), fun c h1 h2 => (hst4.2.1 c h1 h2).trans (hst3.2.1 c h1 h2), by rw [if_neg (by rw [c76]; decide)]; exact ⟨hst4.2.2.1.1, hst4.2.2.1.2.2.1, hst4.2.2.1.2.2.2.1, hst4.2.2.1.2.2.2.2.1, hst4.2.2.1.2.2.2.2.2⟩, rfl⟩ | exact ⟨_, V4, L4, R4, by rw [c76]; rfl, fun k h1 h2 h3 => (va_up_ne _ _ h1).trans ((hst4.1 k h1 h2).trans (by rw [va_up_ne _ _ h3, va_up_ne _ _ h2, va_up_ne _ _ h1])), fun c h1 h2 => (hst4.2.1 c h1 h2).trans (hst3.2.1 c h1 h2), by rw [if_pos c76]; exact ⟨rfl, fun k hk => absurd hk (by simp), by decide, List.Pairwise.nil, fun z hz => by simp at hz⟩, rfl⟩ | (rw [c64] at c76; cases c76)) dc_NL_collect_84
    · skip
      rw [st_b0] at c76
      refine jl_iconst (v := 1) h (by decide) dc_NL_collect_79 80 rfl ?_
      refine jl_goto h 84 (by decide) dc_NL_collect_80 ?_
      exact jl_zretP h he rfl (by first | exact ⟨I4, V4, L4, R4, by rw [c76]; rfl, fun k h1 h2 h3 => (hst4.1 k h1 h2).trans (by rw [va_up_ne _ _ h3, va_up_ne _ _ h2, va_up_ne _ _ h1]), fun c h1 h2 => (hst4.2.1 c h1 h2).trans (hst3.2.1 c h1 h2), by rw [if_neg (by rw [c76]; decide)]; exact ⟨hst4.2.2.1.1, hst4.2.2.1.2.2.1, hst4.2.2.1.2.2.2.1, hst4.2.2.1.2.2.2.2.1, hst4.2.2.1.2.2.2.2.2⟩, rfl⟩ | exact ⟨_, V4, L4, R4, by rw [c76]; rfl, fun k h1 h2 h3 => (va_up_ne _ _ h1).trans ((hst4.1 k h1 h2).trans (by rw [va_up_ne _ _ h3, va_up_ne _ _ h2, va_up_ne _ _ h1])), fun c h1 h2 => (hst4.2.1 c h1 h2).trans (hst3.2.1 c h1 h2), by rw [if_pos c76]; exact ⟨rfl, fun k hk => absurd hk (by simp), by decide, List.Pairwise.nil, fun z hz => by simp at hz⟩, rfl⟩ | (rw [c64] at c76; cases c76)) dc_NL_collect_84
end FS
end
section
/-! FoldedStrand: forgetStructures, adoptDraft, clear, base, most, least, ways, list, energyOf, at, type, partner. -/
theorem fs_r {ad : Nat → Nat} {a c : Nat} (h : a = c) : some (Value.ref (ad a)) = some (Value.ref (ad c)) := by rw [h]
theorem fs_app {K : Nat → ClassId} {ad : Nat → Nat} {I : Nat → Int32} {V : Nat → Nat → Int32} {L : Nat → Int64} {C : Nat → Int32} {G : Nat → Nat} {R : Nat → Nat} (n : Nat) (b : Nat → Nat) : st_app K ad (gw K ad I V L C G R) n b = gw K ad (va_up I 0 (nI n)) (va_up V 2 (fun i => nI (b i))) L C G R := by
  unfold st_app
  rw [show va_up (gw K ad I V L C G R) 2 (.inl (K 0, 18, .inl (fun i => nI (b i)))) = gw K ad I (va_up V 2 (fun i => nI (b i))) L C G R from gw_rowset (len := 18) ⟨rfl, rfl⟩ _]
  exact gw_set_size _
section FS
variable (l : Launch) {K : Nat → ClassId} {sa : Nat → Nat} {ad : Nat → Nat} {I : Nat → Int32} {V : Nat → Nat → Int32} {L : Nat → Int64} {C : Nat → Int32} {G : Nat → Nat} {R : Nat → Nat} {n : Nat} {b : Nat → Nat} {pe : Nat → Nat → Int} {T : Nat → Nat → Nat → Int} {w : Nat → Int}
theorem c_FS1_forget (hG : G 0 = 153) : jl_C l K sa yn_FS_forgetStructures bc_FS_forgetStructures 1 none 2 50 168 ad [.ref (ad 0)] (gw K ad I V L C G R) none (gw K ad (va_up (va_up (va_up (va_up I 1 (nI 0)) 4 0) 5 0) 6 0) (va_up V 154 (fun _ => -1)) L C G R) := by
  refine jl_enter (by decide) (Nat.le_of_ble_eq_true rfl) (fun x h he hr => ?_)
  show jl_J x 168 ad 0 0 (gw K ad I V L C G R) 0 [(0, .ref (ad 0))] []
  refine jl_aload_n (i := 0) h rfl rfl dc_FS_forgetStructures_0 1 rfl ?_
  refine jl_getf h nm_c_FS 2 wl_FS_35 (by omega) (by decide) (by exact rfl) (by rfl) dc_FS_forgetStructures_1 4 rfl ?_
  refine jl_callV (As := []) (rest := []) h hr vs_FS_128 vi_NL_forget vx_NL_forget (ci := 5) rfl (by omega) (by exact rfl) (fun l => c_NL_forget l) (by first | decide | omega) (by first | decide | omega) rfl rfl (Nat.le_of_ble_eq_true rfl) dc_FS_forgetStructures_4 (res := []) rfl 7 rfl ?_
  refine jl_aload_n (i := 0) h rfl rfl dc_FS_forgetStructures_7 8 rfl ?_
  refine jl_getf (v := .ref (ad 153)) h nm_c_FS 5 wl_FS_42 (by omega) (by decide) (by exact rfl) (by exact fs_r hG) dc_FS_forgetStructures_8 11 rfl ?_
  refine jl_callV (As := []) (rest := []) h hr vs_FS_99 vi_SR_restart vx_SR_restart (ci := 6) rfl (by omega) (by exact rfl) (fun l => c_SR1_restart l (by decide) rfl (gw_row (len := 18) ⟨rfl, rfl⟩)) (by first | decide | omega) (by first | decide | omega) rfl rfl (Nat.le_of_ble_eq_true rfl) dc_FS_forgetStructures_11 (res := []) rfl 14 rfl ?_
  exact jl_vret h he (rfl) ((congrArg (fun z => va_up z 153 _) (gw_rowset (len := 18) ⟨rfl, rfl⟩ _)).trans (gw_set_sr1 _ _ _)) dc_FS_forgetStructures_14
theorem c_FS1_adoptDraft (hG : G 0 = 153) (hG1 : G 1 = 156) : jl_C l K sa yn_FS_adoptDraft bc_FS_adoptDraft 2 (some .int) 1 25 168 ad [.ref (ad 0)] (gw K ad I V L C G R) (some (.int (I 9))) (gw K ad I V L C (va_up (va_up G 0 156) 1 153) R) := by
  refine jl_enter (by decide) (Nat.le_of_ble_eq_true rfl) (fun x h he hr => ?_)
  show jl_J x 168 ad 0 0 (gw K ad I V L C G R) 0 [(0, .ref (ad 0))] []
  refine jl_aload_n (i := 0) h rfl rfl dc_FS_adoptDraft_0 1 rfl ?_
  refine jl_getf (v := .ref (ad 153)) h nm_c_FS 5 wl_FS_42 (by omega) (by decide) (by exact rfl) (by exact fs_r hG) dc_FS_adoptDraft_1 4 rfl ?_
  refine jl_astore_n (i := 1) (lc2 := [(1, _), (0, _)]) h rfl (by decide) rfl dc_FS_adoptDraft_4 5 rfl ?_
  refine jl_aload_n (i := 0) h rfl rfl dc_FS_adoptDraft_5 6 rfl ?_
  refine jl_aload_n (i := 0) h rfl rfl dc_FS_adoptDraft_6 7 rfl ?_
  refine jl_getf (v := .ref (ad 156)) h nm_c_FS 6 wl_FS_46 (by omega) (by decide) (by exact rfl) (by exact fs_r hG1) dc_FS_adoptDraft_7 10 rfl ?_
  refine jl_putf (fs2 := [_, _, _, _, _, _, _]) h nm_c_FS 5 wl_FS_42 (by omega) (by decide) rfl (by exact rfl) (by rfl) (by rfl) (by exact Nat.le_of_ble_eq_true rfl) (by rfl) dc_FS_adoptDraft_10 (gw_set_G0 _) 13 rfl ?_
  refine jl_aload_n (i := 0) h rfl rfl dc_FS_adoptDraft_13 14 rfl ?_
  refine jl_aload_n (i := 1) h rfl rfl dc_FS_adoptDraft_14 15 rfl ?_
  refine jl_putf (fs2 := [_, _, _, _, _, _, _]) h nm_c_FS 6 wl_FS_46 (by omega) (by decide) rfl (by exact rfl) (by rfl) (by rfl) (by exact Nat.le_of_ble_eq_true rfl) (by rfl) dc_FS_adoptDraft_15 (gw_set_G1 _) 18 rfl ?_
  refine jl_aload_n (i := 0) h rfl rfl dc_FS_adoptDraft_18 19 rfl ?_
  refine jl_getf (v := .ref (ad 156)) h nm_c_FS 5 wl_FS_42 (by omega) (by decide) (by exact rfl) (by exact rfl) dc_FS_adoptDraft_19 22 rfl ?_
  refine jl_callV (As := []) (rest := []) h hr vs_FS_131 vi_SR_pairCount vx_SR_pairCount (ci := 6) rfl (by omega) (by exact rfl) (fun l => c_SR2_pairCount l) (by first | decide | omega) (by first | decide | omega) rfl rfl (Nat.le_of_ble_eq_true rfl) dc_FS_adoptDraft_22 (res := [_]) rfl 25 rfl ?_
  exact jl_zret h he rfl (rfl) (rfl) dc_FS_adoptDraft_25
theorem c_FS1_clear (hG : G 0 = 153) (hS : st_ok K ad (gw K ad I V L C G R) n b) : jl_C l K sa yn_FS_clear bc_FS_clear 2 (some .int) 3 75 168 ad [.ref (ad 0)] (gw K ad I V L C G R) (some (.int (nI n))) (gw K ad (va_up (va_up (va_up (va_up (va_up I 0 (nI 0)) 1 (nI 0)) 4 0) 5 0) 6 0) (va_up V 154 (fun _ => -1)) L C G R) := by
  refine jl_enter (by decide) (Nat.le_of_ble_eq_true rfl) (fun x h he hr => ?_)
  show jl_J x 168 ad 0 0 (gw K ad I V L C G R) 0 [(0, .ref (ad 0))] []
  refine jl_aload_n (i := 0) h rfl rfl dc_FS_clear_0 1 rfl ?_
  refine jl_getf h nm_c_FS 0 wl_FS_10 (by omega) (by decide) (by exact rfl) (by rfl) dc_FS_clear_1 4 rfl ?_
  refine jl_callV (As := []) (rest := []) h hr vs_FS_67 vi_ST_removeAll vx_ST_removeAll (ci := 1) rfl (by omega) (by exact hS.1) (fun l => c_ST_removeAll l (by omega) hS) (by first | decide | omega) (by first | decide | omega) rfl rfl (Nat.le_of_ble_eq_true rfl) dc_FS_clear_4 (res := [_]) rfl 7 rfl ?_
  rw [gw_set_size]
  refine jl_istore_n (i := 1) (lc2 := [(1, _), (0, _)]) h rfl (by decide) rfl dc_FS_clear_7 8 rfl ?_
  refine jl_aload_n (i := 0) h rfl rfl dc_FS_clear_8 9 rfl ?_
  refine jl_callV (As := []) (rest := []) h hr vs_FS_64 vi_FS_forgetStructures vx_FS_forgetStructures (ci := 0) rfl (by omega) (by exact rfl) (fun l => c_FS1_forget l hG) (by first | decide | omega) (by first | decide | omega) rfl rfl (Nat.le_of_ble_eq_true rfl) dc_FS_clear_9 (res := []) rfl 12 rfl ?_
  refine jl_iload_n (i := 1) h rfl rfl dc_FS_clear_12 13 rfl ?_
  exact jl_zret h he rfl (rfl) (rfl) dc_FS_clear_13
theorem c_FS1_base_yes (hG : G 0 = 153) (hI0 : I 0 = nI n) (hV2 : V 2 = fun i => nI (b i)) (hn : n < 18) (hb : ∀ i, b i < 4) (hV : fo_V n pe T V) (hB : fo_B n pe T) (q : Int32) {a : Nat} (ha : a < 4) (hq : st_num q = a) : jl_CP l K sa yn_FS_base bc_FS_base 2 (some .boolean) 6 190 168 ad [.ref (ad 0), .int q] (gw K ad I V L C G R) (fun v E2 => ∃ V2, v = some (.int 1) ∧ fo_V (n + 1) (fo_pe (va_up b n a) n pe T) (fo_T (va_up b n a) n pe T) V2 ∧ (∀ c, (c < 6 ∨ 148 ≤ c) → V2 c = va_up V 2 (fun i => nI (va_up b n a i)) c) ∧ E2 = gw K ad (va_up (va_up (va_up (va_up (va_up I 0 (nI (n + 1))) 1 (nI 0)) 4 0) 5 0) 6 0) (va_up V2 154 (fun _ => -1)) L C G R) := by
  refine jl_enterP (by decide) (Nat.le_of_ble_eq_true rfl) (fun x h he hr => ?_)
  show jl_J x 168 ad 0 0 (gw K ad I V L C G R) 0 [(0, .ref (ad 0)), (1, .int q)] []
  have hS : st_ok K ad (gw K ad I V L C G R) n b := ⟨by show Sum.inr _ = _; rw [hI0], gw_at rfl rfl hV2, by omega, hb⟩
  have hb2 : ∀ i, va_up b n a i < 4 := fun i => by
    unfold va_up
    split
    · exact ha
    · exact hb i
  have hV9 : fo_V n pe T (va_up V 2 (fun i => nI (va_up b n a i))) := by
    refine ⟨fun i j hij hj => ?_, fun q hq i e hie he => ?_⟩
    · rw [va_up_ne _ _ (by omega)]
      exact hV.1 i j hij hj
    · have := fo_b_in q i hq (by omega)
      rw [va_up_ne _ _ (by omega)]
      exact hV.2 q hq i e hie he
  refine jl_aload_n (i := 0) h rfl rfl dc_FS_base_0 1 rfl ?_
  refine jl_getf h nm_c_FS 0 wl_FS_10 (by omega) (by decide) (by exact rfl) (by rfl) dc_FS_base_1 4 rfl ?_
  refine jl_iload_n (i := 1) h rfl rfl dc_FS_base_4 5 rfl ?_
  refine jl_callV (As := [_]) (rest := []) h hr vs_FS_57 vi_ST_append vx_ST_append (ci := 1) rfl (by omega) (by exact hS.1) (fun l => c_ST_append_yes l (by omega) hS q ha hq hn) (by first | decide | omega) (by first | decide | omega) rfl rfl (Nat.le_of_ble_eq_true rfl) dc_FS_base_5 (res := [_]) rfl 8 rfl ?_
  rw [fs_app]
  refine jl_if_ne h 13 (by decide) dc_FS_base_8 11 rfl (fun c8 => ?_) (fun c8 => absurd c8 (by decide))
  refine jl_aload_n (i := 0) h rfl rfl dc_FS_base_13 14 rfl ?_
  refine jl_getf h nm_c_FS 1 wl_FS_26 (by omega) (by decide) (by exact rfl) (by rfl) dc_FS_base_14 17 rfl ?_
  refine jl_callVV (As := []) (rest := []) h hr vs_FS_61 vi_FO_extend vx_FO_extend (ci := 3) rfl (by omega) (by exact rfl) (fun l => c_FO_extend l (b := va_up b n a) (va_up_self _ _ _) (va_up_self _ _ _) hn hb2 hV9 hB) (by first | decide | omega) (by first | decide | omega) rfl rfl (Nat.le_of_ble_eq_true rfl) dc_FS_base_17 20 rfl ?_
  rintro E9 ⟨V2, hV3, hfr, rfl⟩
  refine jl_aload_n (i := 0) h rfl rfl dc_FS_base_20 21 rfl ?_
  refine jl_callV (As := []) (rest := []) h hr vs_FS_64 vi_FS_forgetStructures vx_FS_forgetStructures (ci := 0) rfl (by omega) (by exact rfl) (fun l => c_FS1_forget l hG) (by first | decide | omega) (by first | decide | omega) rfl rfl (Nat.le_of_ble_eq_true rfl) dc_FS_base_21 (res := []) rfl 24 rfl ?_
  refine jl_iconst (v := 1) h (by decide) dc_FS_base_24 25 rfl ?_
  exact jl_zretP h he rfl (⟨V2, rfl, hV3, hfr, rfl⟩) dc_FS_base_25
theorem c_FS2_forget (hG : G 0 = 156) : jl_C l K sa yn_FS_forgetStructures bc_FS_forgetStructures 1 none 2 50 168 ad [.ref (ad 0)] (gw K ad I V L C G R) none (gw K ad (va_up (va_up (va_up (va_up I 1 (nI 0)) 7 0) 8 0) 9 0) (va_up V 157 (fun _ => -1)) L C G R) := by
  refine jl_enter (by decide) (Nat.le_of_ble_eq_true rfl) (fun x h he hr => ?_)
  show jl_J x 168 ad 0 0 (gw K ad I V L C G R) 0 [(0, .ref (ad 0))] []
  refine jl_aload_n (i := 0) h rfl rfl dc_FS_forgetStructures_0 1 rfl ?_
  refine jl_getf h nm_c_FS 2 wl_FS_35 (by omega) (by decide) (by exact rfl) (by rfl) dc_FS_forgetStructures_1 4 rfl ?_
  refine jl_callV (As := []) (rest := []) h hr vs_FS_128 vi_NL_forget vx_NL_forget (ci := 5) rfl (by omega) (by exact rfl) (fun l => c_NL_forget l) (by first | decide | omega) (by first | decide | omega) rfl rfl (Nat.le_of_ble_eq_true rfl) dc_FS_forgetStructures_4 (res := []) rfl 7 rfl ?_
  refine jl_aload_n (i := 0) h rfl rfl dc_FS_forgetStructures_7 8 rfl ?_
  refine jl_getf (v := .ref (ad 156)) h nm_c_FS 5 wl_FS_42 (by omega) (by decide) (by exact rfl) (by exact fs_r hG) dc_FS_forgetStructures_8 11 rfl ?_
  refine jl_callV (As := []) (rest := []) h hr vs_FS_99 vi_SR_restart vx_SR_restart (ci := 6) rfl (by omega) (by exact rfl) (fun l => c_SR2_restart l (by decide) rfl (gw_row (len := 18) ⟨rfl, rfl⟩)) (by first | decide | omega) (by first | decide | omega) rfl rfl (Nat.le_of_ble_eq_true rfl) dc_FS_forgetStructures_11 (res := []) rfl 14 rfl ?_
  exact jl_vret h he (rfl) ((congrArg (fun z => va_up z 156 _) (gw_rowset (len := 18) ⟨rfl, rfl⟩ _)).trans (gw_set_sr2 _ _ _)) dc_FS_forgetStructures_14
theorem c_FS2_adoptDraft (hG : G 0 = 156) (hG1 : G 1 = 153) : jl_C l K sa yn_FS_adoptDraft bc_FS_adoptDraft 2 (some .int) 1 25 168 ad [.ref (ad 0)] (gw K ad I V L C G R) (some (.int (I 6))) (gw K ad I V L C (va_up (va_up G 0 153) 1 156) R) := by
  refine jl_enter (by decide) (Nat.le_of_ble_eq_true rfl) (fun x h he hr => ?_)
  show jl_J x 168 ad 0 0 (gw K ad I V L C G R) 0 [(0, .ref (ad 0))] []
  refine jl_aload_n (i := 0) h rfl rfl dc_FS_adoptDraft_0 1 rfl ?_
  refine jl_getf (v := .ref (ad 156)) h nm_c_FS 5 wl_FS_42 (by omega) (by decide) (by exact rfl) (by exact fs_r hG) dc_FS_adoptDraft_1 4 rfl ?_
  refine jl_astore_n (i := 1) (lc2 := [(1, _), (0, _)]) h rfl (by decide) rfl dc_FS_adoptDraft_4 5 rfl ?_
  refine jl_aload_n (i := 0) h rfl rfl dc_FS_adoptDraft_5 6 rfl ?_
  refine jl_aload_n (i := 0) h rfl rfl dc_FS_adoptDraft_6 7 rfl ?_
  refine jl_getf (v := .ref (ad 153)) h nm_c_FS 6 wl_FS_46 (by omega) (by decide) (by exact rfl) (by exact fs_r hG1) dc_FS_adoptDraft_7 10 rfl ?_
  refine jl_putf (fs2 := [_, _, _, _, _, _, _]) h nm_c_FS 5 wl_FS_42 (by omega) (by decide) rfl (by exact rfl) (by rfl) (by rfl) (by exact Nat.le_of_ble_eq_true rfl) (by rfl) dc_FS_adoptDraft_10 (gw_set_G0 _) 13 rfl ?_
  refine jl_aload_n (i := 0) h rfl rfl dc_FS_adoptDraft_13 14 rfl ?_
  refine jl_aload_n (i := 1) h rfl rfl dc_FS_adoptDraft_14 15 rfl ?_
  refine jl_putf (fs2 := [_, _, _, _, _, _, _]) h nm_c_FS 6 wl_FS_46 (by omega) (by decide) rfl (by exact rfl) (by rfl) (by rfl) (by exact Nat.le_of_ble_eq_true rfl) (by rfl) dc_FS_adoptDraft_15 (gw_set_G1 _) 18 rfl ?_
  refine jl_aload_n (i := 0) h rfl rfl dc_FS_adoptDraft_18 19 rfl ?_
  refine jl_getf (v := .ref (ad 153)) h nm_c_FS 5 wl_FS_42 (by omega) (by decide) (by exact rfl) (by exact rfl) dc_FS_adoptDraft_19 22 rfl ?_
  refine jl_callV (As := []) (rest := []) h hr vs_FS_131 vi_SR_pairCount vx_SR_pairCount (ci := 6) rfl (by omega) (by exact rfl) (fun l => c_SR1_pairCount l) (by first | decide | omega) (by first | decide | omega) rfl rfl (Nat.le_of_ble_eq_true rfl) dc_FS_adoptDraft_22 (res := [_]) rfl 25 rfl ?_
  exact jl_zret h he rfl (rfl) (rfl) dc_FS_adoptDraft_25
theorem c_FS2_clear (hG : G 0 = 156) (hS : st_ok K ad (gw K ad I V L C G R) n b) : jl_C l K sa yn_FS_clear bc_FS_clear 2 (some .int) 3 75 168 ad [.ref (ad 0)] (gw K ad I V L C G R) (some (.int (nI n))) (gw K ad (va_up (va_up (va_up (va_up (va_up I 0 (nI 0)) 1 (nI 0)) 7 0) 8 0) 9 0) (va_up V 157 (fun _ => -1)) L C G R) := by
  refine jl_enter (by decide) (Nat.le_of_ble_eq_true rfl) (fun x h he hr => ?_)
  show jl_J x 168 ad 0 0 (gw K ad I V L C G R) 0 [(0, .ref (ad 0))] []
  refine jl_aload_n (i := 0) h rfl rfl dc_FS_clear_0 1 rfl ?_
  refine jl_getf h nm_c_FS 0 wl_FS_10 (by omega) (by decide) (by exact rfl) (by rfl) dc_FS_clear_1 4 rfl ?_
  refine jl_callV (As := []) (rest := []) h hr vs_FS_67 vi_ST_removeAll vx_ST_removeAll (ci := 1) rfl (by omega) (by exact hS.1) (fun l => c_ST_removeAll l (by omega) hS) (by first | decide | omega) (by first | decide | omega) rfl rfl (Nat.le_of_ble_eq_true rfl) dc_FS_clear_4 (res := [_]) rfl 7 rfl ?_
  rw [gw_set_size]
  refine jl_istore_n (i := 1) (lc2 := [(1, _), (0, _)]) h rfl (by decide) rfl dc_FS_clear_7 8 rfl ?_
  refine jl_aload_n (i := 0) h rfl rfl dc_FS_clear_8 9 rfl ?_
  refine jl_callV (As := []) (rest := []) h hr vs_FS_64 vi_FS_forgetStructures vx_FS_forgetStructures (ci := 0) rfl (by omega) (by exact rfl) (fun l => c_FS2_forget l hG) (by first | decide | omega) (by first | decide | omega) rfl rfl (Nat.le_of_ble_eq_true rfl) dc_FS_clear_9 (res := []) rfl 12 rfl ?_
  refine jl_iload_n (i := 1) h rfl rfl dc_FS_clear_12 13 rfl ?_
  exact jl_zret h he rfl (rfl) (rfl) dc_FS_clear_13
theorem c_FS2_base_yes (hG : G 0 = 156) (hI0 : I 0 = nI n) (hV2 : V 2 = fun i => nI (b i)) (hn : n < 18) (hb : ∀ i, b i < 4) (hV : fo_V n pe T V) (hB : fo_B n pe T) (q : Int32) {a : Nat} (ha : a < 4) (hq : st_num q = a) : jl_CP l K sa yn_FS_base bc_FS_base 2 (some .boolean) 6 190 168 ad [.ref (ad 0), .int q] (gw K ad I V L C G R) (fun v E2 => ∃ V2, v = some (.int 1) ∧ fo_V (n + 1) (fo_pe (va_up b n a) n pe T) (fo_T (va_up b n a) n pe T) V2 ∧ (∀ c, (c < 6 ∨ 148 ≤ c) → V2 c = va_up V 2 (fun i => nI (va_up b n a i)) c) ∧ E2 = gw K ad (va_up (va_up (va_up (va_up (va_up I 0 (nI (n + 1))) 1 (nI 0)) 7 0) 8 0) 9 0) (va_up V2 157 (fun _ => -1)) L C G R) := by
  refine jl_enterP (by decide) (Nat.le_of_ble_eq_true rfl) (fun x h he hr => ?_)
  show jl_J x 168 ad 0 0 (gw K ad I V L C G R) 0 [(0, .ref (ad 0)), (1, .int q)] []
  have hS : st_ok K ad (gw K ad I V L C G R) n b := ⟨by show Sum.inr _ = _; rw [hI0], gw_at rfl rfl hV2, by omega, hb⟩
  have hb2 : ∀ i, va_up b n a i < 4 := fun i => by
    unfold va_up
    split
    · exact ha
    · exact hb i
  have hV9 : fo_V n pe T (va_up V 2 (fun i => nI (va_up b n a i))) := by
    refine ⟨fun i j hij hj => ?_, fun q hq i e hie he => ?_⟩
    · rw [va_up_ne _ _ (by omega)]
      exact hV.1 i j hij hj
    · have := fo_b_in q i hq (by omega)
      rw [va_up_ne _ _ (by omega)]
      exact hV.2 q hq i e hie he
  refine jl_aload_n (i := 0) h rfl rfl dc_FS_base_0 1 rfl ?_
  refine jl_getf h nm_c_FS 0 wl_FS_10 (by omega) (by decide) (by exact rfl) (by rfl) dc_FS_base_1 4 rfl ?_
  refine jl_iload_n (i := 1) h rfl rfl dc_FS_base_4 5 rfl ?_
  refine jl_callV (As := [_]) (rest := []) h hr vs_FS_57 vi_ST_append vx_ST_append (ci := 1) rfl (by omega) (by exact hS.1) (fun l => c_ST_append_yes l (by omega) hS q ha hq hn) (by first | decide | omega) (by first | decide | omega) rfl rfl (Nat.le_of_ble_eq_true rfl) dc_FS_base_5 (res := [_]) rfl 8 rfl ?_
  rw [fs_app]
  refine jl_if_ne h 13 (by decide) dc_FS_base_8 11 rfl (fun c8 => ?_) (fun c8 => absurd c8 (by decide))
  refine jl_aload_n (i := 0) h rfl rfl dc_FS_base_13 14 rfl ?_
  refine jl_getf h nm_c_FS 1 wl_FS_26 (by omega) (by decide) (by exact rfl) (by rfl) dc_FS_base_14 17 rfl ?_
  refine jl_callVV (As := []) (rest := []) h hr vs_FS_61 vi_FO_extend vx_FO_extend (ci := 3) rfl (by omega) (by exact rfl) (fun l => c_FO_extend l (b := va_up b n a) (va_up_self _ _ _) (va_up_self _ _ _) hn hb2 hV9 hB) (by first | decide | omega) (by first | decide | omega) rfl rfl (Nat.le_of_ble_eq_true rfl) dc_FS_base_17 20 rfl ?_
  rintro E9 ⟨V2, hV3, hfr, rfl⟩
  refine jl_aload_n (i := 0) h rfl rfl dc_FS_base_20 21 rfl ?_
  refine jl_callV (As := []) (rest := []) h hr vs_FS_64 vi_FS_forgetStructures vx_FS_forgetStructures (ci := 0) rfl (by omega) (by exact rfl) (fun l => c_FS2_forget l hG) (by first | decide | omega) (by first | decide | omega) rfl rfl (Nat.le_of_ble_eq_true rfl) dc_FS_base_21 (res := []) rfl 24 rfl ?_
  refine jl_iconst (v := 1) h (by decide) dc_FS_base_24 25 rfl ?_
  exact jl_zretP h he rfl (⟨V2, rfl, hV3, hfr, rfl⟩) dc_FS_base_25
theorem c_FS_base_no (hS : st_ok K ad (gw K ad I V L C G R) n b) (q : Int32) (hq : st_num q = -1 ∨ n = 18) : jl_C l K sa yn_FS_base bc_FS_base 2 (some .boolean) 6 190 168 ad [.ref (ad 0), .int q] (gw K ad I V L C G R) (some (.int 0)) (gw K ad I V L C G R) := by
  refine jl_enter (by decide) (Nat.le_of_ble_eq_true rfl) (fun x h he hr => ?_)
  show jl_J x 168 ad 0 0 (gw K ad I V L C G R) 0 [(0, .ref (ad 0)), (1, .int q)] []
  refine jl_aload_n (i := 0) h rfl rfl dc_FS_base_0 1 rfl ?_
  refine jl_getf h nm_c_FS 0 wl_FS_10 (by omega) (by decide) (by exact rfl) (by rfl) dc_FS_base_1 4 rfl ?_
  refine jl_iload_n (i := 1) h rfl rfl dc_FS_base_4 5 rfl ?_
  refine jl_callV (As := [_]) (rest := []) h hr vs_FS_57 vi_ST_append vx_ST_append (ci := 1) rfl (by omega) (by exact hS.1) (fun l => c_ST_append_no l (by omega) hS q hq) (by first | decide | omega) (by first | decide | omega) rfl rfl (Nat.le_of_ble_eq_true rfl) dc_FS_base_5 (res := [_]) rfl 8 rfl ?_
  refine jl_if_ne h 13 (by decide) dc_FS_base_8 11 rfl (fun c8 => absurd (by decide) c8) (fun c8 => ?_)
  refine jl_iconst (v := 0) h (by decide) dc_FS_base_11 12 rfl ?_
  exact jl_zret h he rfl (rfl) (rfl) dc_FS_base_12
theorem c_FS_most (hS : st_ok K ad (gw K ad I V L C G R) n b) : jl_C l K sa yn_FS_most bc_FS_most 1 (some .int) 2 50 168 ad [.ref (ad 0)] (gw K ad I V L C G R) (some (.int (V 45 n))) (gw K ad I V L C G R) := by
  refine jl_enter (by decide) (Nat.le_of_ble_eq_true rfl) (fun x h he hr => ?_)
  show jl_J x 168 ad 0 0 (gw K ad I V L C G R) 0 [(0, .ref (ad 0))] []
  refine jl_aload_n (i := 0) h rfl rfl dc_FS_most_0 1 rfl ?_
  refine jl_getf h nm_c_FS 1 wl_FS_26 (by omega) (by decide) (by exact rfl) (by rfl) dc_FS_most_1 4 rfl ?_
  refine jl_callV (As := []) (rest := []) h hr vs_FS_71 vi_FO_mostPairs vx_FO_mostPairs (ci := 3) rfl (by omega) (by exact rfl) (fun l => c_FO_mostPairs l hS) (by first | decide | omega) (by first | decide | omega) rfl rfl (Nat.le_of_ble_eq_true rfl) dc_FS_most_4 (res := [_]) rfl 7 rfl ?_
  exact jl_zret h he rfl (rfl) (rfl) dc_FS_most_7
theorem c_FS_least (hS : st_ok K ad (gw K ad I V L C G R) n b) : jl_C l K sa yn_FS_least bc_FS_least 1 (some .int) 2 50 168 ad [.ref (ad 0)] (gw K ad I V L C G R) (some (.int (V 66 n))) (gw K ad I V L C G R) := by
  refine jl_enter (by decide) (Nat.le_of_ble_eq_true rfl) (fun x h he hr => ?_)
  show jl_J x 168 ad 0 0 (gw K ad I V L C G R) 0 [(0, .ref (ad 0))] []
  refine jl_aload_n (i := 0) h rfl rfl dc_FS_least_0 1 rfl ?_
  refine jl_getf h nm_c_FS 1 wl_FS_26 (by omega) (by decide) (by exact rfl) (by rfl) dc_FS_least_1 4 rfl ?_
  refine jl_callV (As := []) (rest := []) h hr vs_FS_74 vi_FO_leastEnergy vx_FO_leastEnergy (ci := 3) rfl (by omega) (by exact rfl) (fun l => c_FO_leastEnergy l hS) (by first | decide | omega) (by first | decide | omega) rfl rfl (Nat.le_of_ble_eq_true rfl) dc_FS_least_4 (res := [_]) rfl 7 rfl ?_
  exact jl_zret h he rfl (rfl) (rfl) dc_FS_least_7
theorem c_FS_ways (hS : st_ok K ad (gw K ad I V L C G R) n b) : jl_C l K sa yn_FS_ways bc_FS_ways 1 (some .int) 2 50 168 ad [.ref (ad 0)] (gw K ad I V L C G R) (some (.int (V 25 n))) (gw K ad I V L C G R) := by
  refine jl_enter (by decide) (Nat.le_of_ble_eq_true rfl) (fun x h he hr => ?_)
  show jl_J x 168 ad 0 0 (gw K ad I V L C G R) 0 [(0, .ref (ad 0))] []
  refine jl_aload_n (i := 0) h rfl rfl dc_FS_ways_0 1 rfl ?_
  refine jl_getf h nm_c_FS 1 wl_FS_26 (by omega) (by decide) (by exact rfl) (by rfl) dc_FS_ways_1 4 rfl ?_
  refine jl_callV (As := []) (rest := []) h hr vs_FS_77 vi_FO_structureCount vx_FO_structureCount (ci := 3) rfl (by omega) (by exact rfl) (fun l => c_FO_structureCount l hS) (by first | decide | omega) (by first | decide | omega) rfl rfl (Nat.le_of_ble_eq_true rfl) dc_FS_ways_4 (res := [_]) rfl 7 rfl ?_
  exact jl_zret h he rfl (rfl) (rfl) dc_FS_ways_7
theorem c_FS_list_bad (q : Int32) (hq : q < 0 ∨ 300 < q) : jl_C l K sa yn_FS_list bc_FS_list 2 (some .int) 52 2650 168 ad [.ref (ad 0), .int q] (gw K ad I V L C G R) (some (.int (-1))) (gw K ad I V L C G R) := by
  refine jl_enter (by decide) (Nat.le_of_ble_eq_true rfl) (fun x h he hr => ?_)
  show jl_J x 168 ad 0 0 (gw K ad I V L C G R) 0 [(0, .ref (ad 0)), (1, .int q)] []
  rcases hq with hq | hq
  · skip
    refine jl_iload_n (i := 1) h rfl rfl dc_FS_list_0 1 rfl ?_
    refine jl_if_lt h 11 (by decide) dc_FS_list_1 4 rfl (fun c1 => ?_) (fun c1 => absurd (hq) c1)
    refine jl_iconst (v := -1) h (by decide) dc_FS_list_11 12 rfl ?_
    exact jl_zret h he rfl (rfl) (rfl) dc_FS_list_12
  · have hq0 : ¬ q < 0 := fun h9 => by
      have := Int32.lt_trans h9 (show (0 : Int32) < 300 by decide)
      exact Int32.lt_asymm this hq
    refine jl_iload_n (i := 1) h rfl rfl dc_FS_list_0 1 rfl ?_
    refine jl_if_lt h 11 (by decide) dc_FS_list_1 4 rfl (fun c1 => absurd c1 (hq0)) (fun c1 => ?_)
    refine jl_iload_n (i := 1) h rfl rfl dc_FS_list_4 5 rfl ?_
    refine jl_sipush (v := 300) h (by decide) dc_FS_list_5 8 rfl ?_
    refine jl_icmp_le h 13 (by decide) dc_FS_list_8 11 rfl (fun c8 => absurd c8 (Int32.not_le.mpr hq)) (fun c8 => ?_)
    refine jl_iconst (v := -1) h (by decide) dc_FS_list_11 12 rfl ?_
    exact jl_zret h he rfl (rfl) (rfl) dc_FS_list_12
theorem c_FS_list (hI0 : I 0 = nI n) (hV2 : V 2 = fun i => nI (b i)) (hn : n ≤ 18) (hb : ∀ i, b i < 4) (hV : fo_V n pe T V) (hB : fo_B n pe T) (hLB : nl_LB b n pe T) {dl : Nat} (hdl : dl ≤ 300) : jl_CP l K sa yn_FS_list bc_FS_list 2 (some .int) 52 2650 168 ad [.ref (ad 0), .int (nI dl)] (gw K ad I V L C G R) (fun v E2 => ∃ I2 V2 L2 R2, v = some (.int (if (nl_res b n (T 2 0 n + dl)).2 = true then -2 else nI (nl_res b n (T 2 0 n + dl)).1.length)) ∧ (∀ k, k ≠ 1 → k ≠ 2 → k ≠ 3 → I2 k = I k) ∧ (∀ c, c ≠ 151 → c ≠ 152 → V2 c = V c) ∧ nl_li (if (nl_res b n (T 2 0 n + dl)).2 = true then [] else (nl_res b n (T 2 0 n + dl)).1) I2 L2 ∧ E2 = gw K ad I2 V2 L2 C G R2) := by
  refine jl_enterP (by decide) (Nat.le_of_ble_eq_true rfl) (fun x h he hr => ?_)
  show jl_J x 168 ad 0 0 (gw K ad I V L C G R) 0 [(0, .ref (ad 0)), (1, .int (nI dl))] []
  cases htm : (nl_res b n (T 2 0 n + dl)).2 with
  | true =>
    refine jl_iload_n (i := 1) h rfl rfl dc_FS_list_0 1 rfl ?_
    refine jl_if_lt h 11 (by decide) dc_FS_list_1 4 rfl (fun c1 => absurd c1 (nI_pos (by omega))) (fun c1 => ?_)
    refine jl_iload_n (i := 1) h rfl rfl dc_FS_list_4 5 rfl ?_
    refine jl_sipush (v := nI 300) h (by decide) dc_FS_list_5 8 rfl ?_
    refine jl_icmp_le h 13 (by decide) dc_FS_list_8 11 rfl (fun c8 => ?_) (fun c8 => absurd (nI_le hdl (by decide)) c8)
    refine jl_aload_n (i := 0) h rfl rfl dc_FS_list_13 14 rfl ?_
    refine jl_getf h nm_c_FS 2 wl_FS_35 (by omega) (by decide) (by exact rfl) (by rfl) dc_FS_list_14 17 rfl ?_
    refine jl_iload_n (i := 1) h rfl rfl dc_FS_list_17 18 rfl ?_
    refine jl_callVP (As := [_]) (rest := []) h hr vs_FS_80 vi_NL_collect vx_NL_collect (ci := 5) rfl (by omega) (by exact rfl) (fun l => c_NL_collect l hI0 hV2 hn hb hV hB hLB hdl) (by first | decide | omega) (by first | decide | omega) rfl rfl (Nat.le_of_ble_eq_true rfl) dc_FS_list_18 21 rfl ?_
    rintro v9 E9 ⟨I2, V2, L2, R2, rfl, g1, g2, g3, rfl⟩
    change jl_J _ _ _ _ _ _ _ _ ([_])
    rw [htm]
    refine jl_if_eq h 34 (by decide) dc_FS_list_21 24 rfl (fun c21 => ?_) (fun c21 => absurd (by decide) c21)
    refine jl_bipush (v := -2) h (by decide) dc_FS_list_34 36 rfl ?_
    exact jl_zretP h he rfl (⟨I2, V2, L2, R2, by rw [if_pos htm], g1, g2, g3, rfl⟩) dc_FS_list_36
  | false =>
    refine jl_iload_n (i := 1) h rfl rfl dc_FS_list_0 1 rfl ?_
    refine jl_if_lt h 11 (by decide) dc_FS_list_1 4 rfl (fun c1 => absurd c1 (nI_pos (by omega))) (fun c1 => ?_)
    refine jl_iload_n (i := 1) h rfl rfl dc_FS_list_4 5 rfl ?_
    refine jl_sipush (v := nI 300) h (by decide) dc_FS_list_5 8 rfl ?_
    refine jl_icmp_le h 13 (by decide) dc_FS_list_8 11 rfl (fun c8 => ?_) (fun c8 => absurd (nI_le hdl (by decide)) c8)
    refine jl_aload_n (i := 0) h rfl rfl dc_FS_list_13 14 rfl ?_
    refine jl_getf h nm_c_FS 2 wl_FS_35 (by omega) (by decide) (by exact rfl) (by rfl) dc_FS_list_14 17 rfl ?_
    refine jl_iload_n (i := 1) h rfl rfl dc_FS_list_17 18 rfl ?_
    refine jl_callVP (As := [_]) (rest := []) h hr vs_FS_80 vi_NL_collect vx_NL_collect (ci := 5) rfl (by omega) (by exact rfl) (fun l => c_NL_collect l hI0 hV2 hn hb hV hB hLB hdl) (by first | decide | omega) (by first | decide | omega) rfl rfl (Nat.le_of_ble_eq_true rfl) dc_FS_list_18 21 rfl ?_
    rintro v9 E9 ⟨I2, V2, L2, R2, rfl, g1, g2, g3, rfl⟩
    change jl_J _ _ _ _ _ _ _ _ ([_])
    rw [htm]
    refine jl_if_eq h 34 (by decide) dc_FS_list_21 24 rfl (fun c21 => absurd c21 (by decide)) (fun c21 => ?_)
    refine jl_aload_n (i := 0) h rfl rfl dc_FS_list_24 25 rfl ?_
    refine jl_getf h nm_c_FS 2 wl_FS_35 (by omega) (by decide) (by exact rfl) (by rfl) dc_FS_list_25 28 rfl ?_
    refine jl_callV (As := []) (rest := []) h hr vs_FS_84 vi_NL_size vx_NL_size (ci := 5) rfl (by omega) (by exact rfl) (fun l => c_NL_size l) (by first | decide | omega) (by first | decide | omega) rfl rfl (Nat.le_of_ble_eq_true rfl) dc_FS_list_28 (res := [_]) rfl 31 rfl ?_
    refine jl_goto h 36 (by decide) dc_FS_list_31 ?_
    exact jl_zretP h he rfl (⟨I2, V2, L2, R2, by rw [if_neg (by rw [htm]; decide), g3.1, if_neg (by rw [htm]; decide)], g1, g2, g3, rfl⟩) dc_FS_list_36
theorem c_FS_energyOf_no (q : Int32) (hq : ¬ (¬ q < 0 ∧ q < I 1)) : jl_C l K sa yn_FS_energyOf bc_FS_energyOf 2 (some .int) 2 50 168 ad [.ref (ad 0), .int q] (gw K ad I V L C G R) (some (.int 0)) (gw K ad I V L C G R) := by
  refine jl_enter (by decide) (Nat.le_of_ble_eq_true rfl) (fun x h he hr => ?_)
  show jl_J x 168 ad 0 0 (gw K ad I V L C G R) 0 [(0, .ref (ad 0)), (1, .int q)] []
  refine jl_aload_n (i := 0) h rfl rfl dc_FS_energyOf_0 1 rfl ?_
  refine jl_getf h nm_c_FS 2 wl_FS_35 (by omega) (by decide) (by exact rfl) (by rfl) dc_FS_energyOf_1 4 rfl ?_
  refine jl_iload_n (i := 1) h rfl rfl dc_FS_energyOf_4 5 rfl ?_
  refine jl_callV (As := [_]) (rest := []) h hr vs_FS_87 vi_NL_has vx_NL_has (ci := 5) rfl (by omega) (by exact rfl) (fun l => c_NL_has l q) (by first | decide | omega) (by first | decide | omega) rfl rfl (Nat.le_of_ble_eq_true rfl) dc_FS_energyOf_5 (res := [_]) rfl 8 rfl ?_
  refine jl_if_eq h 22 (by decide) dc_FS_energyOf_8 11 rfl (fun c8 => ?_) (fun c8 => absurd (by rw [st_b0]; exact decide_eq_false hq) c8)
  refine jl_iconst (v := 0) h (by decide) dc_FS_energyOf_22 23 rfl ?_
  exact jl_zret h he rfl (rfl) (rfl) dc_FS_energyOf_23
theorem c_FS_energyOf_yes {ks : List Int} (hli : nl_li ks I L) {k : Nat} (hk : k < ks.length) : jl_C l K sa yn_FS_energyOf bc_FS_energyOf 2 (some .int) 2 50 168 ad [.ref (ad 0), .int (nI k)] (gw K ad I V L C G R) (some (.int (iI (ks.getD k 0 / 68719476736)))) (gw K ad I V L C G R) := by
  refine jl_enter (by decide) (Nat.le_of_ble_eq_true rfl) (fun x h he hr => ?_)
  show jl_J x 168 ad 0 0 (gw K ad I V L C G R) 0 [(0, .ref (ad 0)), (1, .int (nI k))] []
  have h150 := hli.2.2.1
  have hbk : nl_big (ks.getD k 0) := by
    rw [List.getD_eq_getElem?_getD, List.getElem?_eq_getElem hk]
    exact hli.2.2.2.2 _ (List.getElem_mem hk)
  refine jl_aload_n (i := 0) h rfl rfl dc_FS_energyOf_0 1 rfl ?_
  refine jl_getf h nm_c_FS 2 wl_FS_35 (by omega) (by decide) (by exact rfl) (by rfl) dc_FS_energyOf_1 4 rfl ?_
  refine jl_iload_n (i := 1) h rfl rfl dc_FS_energyOf_4 5 rfl ?_
  refine jl_callV (As := [_]) (rest := []) h hr vs_FS_87 vi_NL_has vx_NL_has (ci := 5) rfl (by omega) (by exact rfl) (fun l => c_NL_has l (nI k)) (by first | decide | omega) (by first | decide | omega) rfl rfl (Nat.le_of_ble_eq_true rfl) dc_FS_energyOf_5 (res := [_]) rfl 8 rfl ?_
  refine jl_if_eq h 22 (by decide) dc_FS_energyOf_8 11 rfl (fun c8 => absurd c8 (by rw [st_b1]; exact decide_eq_true ⟨nI_pos (by omega), by rw [hli.1]; exact nI_lt hk (by omega)⟩)) (fun c8 => ?_)
  refine jl_aload_n (i := 0) h rfl rfl dc_FS_energyOf_11 12 rfl ?_
  refine jl_getf h nm_c_FS 2 wl_FS_35 (by omega) (by decide) (by exact rfl) (by rfl) dc_FS_energyOf_12 15 rfl ?_
  refine jl_iload_n (i := 1) h rfl rfl dc_FS_energyOf_15 16 rfl ?_
  refine jl_callV (As := [_]) (rest := []) h hr vs_FS_90 vi_NL_energyAt vx_NL_energyAt (ci := 5) rfl (by omega) (by exact rfl) (fun l => c_NL_energyAt l (by omega) hbk (hli.2.1 k hk)) (by first | decide | omega) (by first | decide | omega) rfl rfl (Nat.le_of_ble_eq_true rfl) dc_FS_energyOf_16 (res := [_]) rfl 19 rfl ?_
  refine jl_goto h 23 (by decide) dc_FS_energyOf_19 ?_
  exact jl_zret h he rfl (rfl) (rfl) dc_FS_energyOf_23
theorem c_FS_at_no (hS : st_ok K ad (gw K ad I V L C G R) n b) (q p : Int32) (hq : ¬ (¬ q < 0 ∧ q < I 1) ∨ ¬ (¬ p < 0 ∧ p < nI n)) : jl_C l K sa yn_FS_at bc_FS_at 3 (some .int) 3 75 168 ad [.ref (ad 0), .int q, .int p] (gw K ad I V L C G R) (some (.int (-1))) (gw K ad I V L C G R) := by
  refine jl_enter (by decide) (Nat.le_of_ble_eq_true rfl) (fun x h he hr => ?_)
  show jl_J x 168 ad 0 0 (gw K ad I V L C G R) 0 [(0, .ref (ad 0)), (1, .int q), (2, .int p)] []
  refine jl_aload_n (i := 0) h rfl rfl dc_FS_at_0 1 rfl ?_
  refine jl_getf h nm_c_FS 2 wl_FS_35 (by omega) (by decide) (by exact rfl) (by rfl) dc_FS_at_1 4 rfl ?_
  refine jl_iload_n (i := 1) h rfl rfl dc_FS_at_4 5 rfl ?_
  refine jl_callV (As := [_]) (rest := []) h hr vs_FS_87 vi_NL_has vx_NL_has (ci := 5) rfl (by omega) (by exact rfl) (fun l => c_NL_has l q) (by first | decide | omega) (by first | decide | omega) rfl rfl (Nat.le_of_ble_eq_true rfl) dc_FS_at_5 (res := [_]) rfl 8 rfl ?_
  refine jl_if_eq h 34 (by decide) dc_FS_at_8 11 rfl (fun c8 => ?_) (fun c8 => ?_)
  · skip
    skip
    refine jl_iconst (v := -1) h (by decide) dc_FS_at_34 35 rfl ?_
    exact jl_zret h he rfl (rfl) (rfl) dc_FS_at_35
  · skip
    rw [st_b1] at c8
    have hq2 : ¬ (¬ p < 0 ∧ p < nI n) := hq.elim (fun h9 => absurd (of_decide_eq_true c8) h9) id
    refine jl_aload_n (i := 0) h rfl rfl dc_FS_at_11 12 rfl ?_
    refine jl_getf h nm_c_FS 0 wl_FS_10 (by omega) (by decide) (by exact rfl) (by rfl) dc_FS_at_12 15 rfl ?_
    refine jl_iload_n (i := 2) h rfl rfl dc_FS_at_15 16 rfl ?_
    refine jl_callV (As := [_]) (rest := []) h hr vs_FS_94 vi_ST_has vx_ST_has (ci := 1) rfl (by omega) (by exact hS.1) (fun l => c_ST_has l (by omega) hS p) (by first | decide | omega) (by first | decide | omega) rfl rfl (Nat.le_of_ble_eq_true rfl) dc_FS_at_16 (res := [_]) rfl 19 rfl ?_
    refine jl_if_eq h 34 (by decide) dc_FS_at_19 22 rfl (fun c19 => ?_) (fun c19 => absurd (by rw [st_b0]; exact decide_eq_false hq2) c19)
    refine jl_iconst (v := -1) h (by decide) dc_FS_at_34 35 rfl ?_
    exact jl_zret h he rfl (rfl) (rfl) dc_FS_at_35
theorem c_FS_at_yes (hS : st_ok K ad (gw K ad I V L C G R) n b) {ks : List Int} (hli : nl_li ks I L) {k p : Nat} (hk : k < ks.length) (hp : p < n) : jl_C l K sa yn_FS_at bc_FS_at 3 (some .int) 3 75 168 ad [.ref (ad 0), .int (nI k), .int (nI p)] (gw K ad I V L C G R) (some (.int (nl_ch (ks.getD k 0 / nl_4 p % 4)))) (gw K ad I V L C G R) := by
  refine jl_enter (by decide) (Nat.le_of_ble_eq_true rfl) (fun x h he hr => ?_)
  obtain ⟨hST, hbases, hn, hb⟩ := id hS
  show jl_J x 168 ad 0 0 (gw K ad I V L C G R) 0 [(0, .ref (ad 0)), (1, .int (nI k)), (2, .int (nI p))] []
  have h150 := hli.2.2.1
  have hbk : nl_big (ks.getD k 0) := by
    rw [List.getD_eq_getElem?_getD, List.getElem?_eq_getElem hk]
    exact hli.2.2.2.2 _ (List.getElem_mem hk)
  refine jl_aload_n (i := 0) h rfl rfl dc_FS_at_0 1 rfl ?_
  refine jl_getf h nm_c_FS 2 wl_FS_35 (by omega) (by decide) (by exact rfl) (by rfl) dc_FS_at_1 4 rfl ?_
  refine jl_iload_n (i := 1) h rfl rfl dc_FS_at_4 5 rfl ?_
  refine jl_callV (As := [_]) (rest := []) h hr vs_FS_87 vi_NL_has vx_NL_has (ci := 5) rfl (by omega) (by exact rfl) (fun l => c_NL_has l (nI k)) (by first | decide | omega) (by first | decide | omega) rfl rfl (Nat.le_of_ble_eq_true rfl) dc_FS_at_5 (res := [_]) rfl 8 rfl ?_
  refine jl_if_eq h 34 (by decide) dc_FS_at_8 11 rfl (fun c8 => absurd c8 (by rw [st_b1]; exact decide_eq_true ⟨nI_pos (by omega), by rw [hli.1]; exact nI_lt hk (by omega)⟩)) (fun c8 => ?_)
  refine jl_aload_n (i := 0) h rfl rfl dc_FS_at_11 12 rfl ?_
  refine jl_getf h nm_c_FS 0 wl_FS_10 (by omega) (by decide) (by exact rfl) (by rfl) dc_FS_at_12 15 rfl ?_
  refine jl_iload_n (i := 2) h rfl rfl dc_FS_at_15 16 rfl ?_
  refine jl_callV (As := [_]) (rest := []) h hr vs_FS_94 vi_ST_has vx_ST_has (ci := 1) rfl (by omega) (by exact hS.1) (fun l => c_ST_has l (by omega) hS (nI p)) (by first | decide | omega) (by first | decide | omega) rfl rfl (Nat.le_of_ble_eq_true rfl) dc_FS_at_16 (res := [_]) rfl 19 rfl ?_
  refine jl_if_eq h 34 (by decide) dc_FS_at_19 22 rfl (fun c19 => absurd c19 (by rw [st_b1]; exact decide_eq_true ⟨nI_pos (by omega), nI_lt hp (by omega)⟩)) (fun c19 => ?_)
  refine jl_aload_n (i := 0) h rfl rfl dc_FS_at_22 23 rfl ?_
  refine jl_getf h nm_c_FS 2 wl_FS_35 (by omega) (by decide) (by exact rfl) (by rfl) dc_FS_at_23 26 rfl ?_
  refine jl_iload_n (i := 1) h rfl rfl dc_FS_at_26 27 rfl ?_
  refine jl_iload_n (i := 2) h rfl rfl dc_FS_at_27 28 rfl ?_
  refine jl_callV (As := [_, _]) (rest := []) h hr vs_FS_95 vi_NL_character vx_NL_character (ci := 5) rfl (by omega) (by exact rfl) (fun l => c_NL_character l (by omega) (by omega) hbk (hli.2.1 k hk)) (by first | decide | omega) (by first | decide | omega) rfl rfl (Nat.le_of_ble_eq_true rfl) dc_FS_at_28 (res := [_]) rfl 31 rfl ?_
  refine jl_goto h 35 (by decide) dc_FS_at_31 ?_
  exact jl_zret h he rfl (rfl) (rfl) dc_FS_at_35
theorem c_FS_type_no {tc : Nat} (htc : I 10 = nI tc) (h20 : tc ≤ 20) (q : Int32) (hq : q < 32 ∨ 126 < q ∨ tc = 20) : jl_C l K sa yn_FS_type bc_FS_type 2 (some .boolean) 0 0 168 ad [.ref (ad 0), .int q] (gw K ad I V L C G R) (some (.int 0)) (gw K ad I V L C G R) := by
  refine jl_enter (by decide) (Nat.le_of_ble_eq_true rfl) (fun x h he hr => ?_)
  show jl_J x 168 ad 0 0 (gw K ad I V L C G R) 0 [(0, .ref (ad 0)), (1, .int q)] []
  refine jl_iload_n (i := 1) h rfl rfl dc_FS_type_0 1 rfl ?_
  refine jl_bipush (v := 32) h (by decide) dc_FS_type_1 3 rfl ?_
  refine jl_icmp_lt h 21 (by decide) dc_FS_type_3 6 rfl (fun c3 => ?_) (fun c3 => ?_)
  · skip
    refine jl_iconst (v := 0) h (by decide) dc_FS_type_21 22 rfl ?_
    exact jl_zret h he rfl (rfl) (rfl) dc_FS_type_22
  · skip
    refine jl_iload_n (i := 1) h rfl rfl dc_FS_type_6 7 rfl ?_
    refine jl_bipush (v := 126) h (by decide) dc_FS_type_7 9 rfl ?_
    refine jl_icmp_gt h 21 (by decide) dc_FS_type_9 12 rfl (fun c9 => ?_) (fun c9 => ?_)
    · skip
      refine jl_iconst (v := 0) h (by decide) dc_FS_type_21 22 rfl ?_
      exact jl_zret h he rfl (rfl) (rfl) dc_FS_type_22
    · skip
      refine jl_aload_n (i := 0) h rfl rfl dc_FS_type_12 13 rfl ?_
      refine jl_getf (v := .int (nI tc)) h nm_c_FS 4 wl_FS_53 (by omega) (by decide) (by exact rfl) (by exact sr_v htc) dc_FS_type_13 16 rfl ?_
      refine jl_bipush (v := nI 20) h (by decide) dc_FS_type_16 18 rfl ?_
      refine jl_icmp_lt h 23 (by decide) dc_FS_type_18 21 rfl (fun c18 => absurd c18 (by rcases hq with h9 | h9 | h9; exact absurd h9 c3; exact absurd h9 c9; exact nI_nlt (by omega) (by omega))) (fun c18 => ?_)
      refine jl_iconst (v := 0) h (by decide) dc_FS_type_21 22 rfl ?_
      exact jl_zret h he rfl (rfl) (rfl) dc_FS_type_22
theorem c_FS_type_yes {tc : Nat} (htc : I 10 = nI tc) (h20 : tc < 20) (q : Int32) (hq1 : ¬ q < 32) (hq2 : ¬ 126 < q) : jl_C l K sa yn_FS_type bc_FS_type 2 (some .boolean) 0 0 168 ad [.ref (ad 0), .int q] (gw K ad I V L C G R) (some (.int 1)) (gw K ad (va_up I 10 (nI (tc + 1))) V L (upd C tc (vp_nar .char q)) G R) := by
  refine jl_enter (by decide) (Nat.le_of_ble_eq_true rfl) (fun x h he hr => ?_)
  show jl_J x 168 ad 0 0 (gw K ad I V L C G R) 0 [(0, .ref (ad 0)), (1, .int q)] []
  refine jl_iload_n (i := 1) h rfl rfl dc_FS_type_0 1 rfl ?_
  refine jl_bipush (v := 32) h (by decide) dc_FS_type_1 3 rfl ?_
  refine jl_icmp_lt h 21 (by decide) dc_FS_type_3 6 rfl (fun c3 => absurd c3 (hq1)) (fun c3 => ?_)
  refine jl_iload_n (i := 1) h rfl rfl dc_FS_type_6 7 rfl ?_
  refine jl_bipush (v := 126) h (by decide) dc_FS_type_7 9 rfl ?_
  refine jl_icmp_gt h 21 (by decide) dc_FS_type_9 12 rfl (fun c9 => absurd c9 (hq2)) (fun c9 => ?_)
  refine jl_aload_n (i := 0) h rfl rfl dc_FS_type_12 13 rfl ?_
  refine jl_getf (v := .int (nI tc)) h nm_c_FS 4 wl_FS_53 (by omega) (by decide) (by exact rfl) (by exact sr_v htc) dc_FS_type_13 16 rfl ?_
  refine jl_bipush (v := nI 20) h (by decide) dc_FS_type_16 18 rfl ?_
  refine jl_icmp_lt h 23 (by decide) dc_FS_type_18 21 rfl (fun c18 => ?_) (fun c18 => absurd (nI_lt h20 (by decide)) c18)
  refine jl_aload_n (i := 0) h rfl rfl dc_FS_type_23 24 rfl ?_
  refine jl_getf h nm_c_FS 3 wl_FS_49 (by omega) (by decide) (by exact rfl) (by rfl) dc_FS_type_24 27 rfl ?_
  refine jl_aload_n (i := 0) h rfl rfl dc_FS_type_27 28 rfl ?_
  refine jl_getf (v := .int (nI tc)) h nm_c_FS 4 wl_FS_53 (by omega) (by decide) (by exact rfl) (by exact sr_v htc) dc_FS_type_28 31 rfl ?_
  refine jl_iload_n (i := 1) h rfl rfl dc_FS_type_31 32 rfl ?_
  refine jl_cast h (tc) (by exact rfl) (by omega) (by exact rfl) (by exact h20) (by first | decide | assumption) dc_FS_type_32 (gw_set_C _) 33 rfl ?_
  refine jl_aload_n (i := 0) h rfl rfl dc_FS_type_33 34 rfl ?_
  refine jl_dup h rfl dc_FS_type_34 35 rfl ?_
  refine jl_getf (v := .int (nI tc)) h nm_c_FS 4 wl_FS_53 (by omega) (by decide) (by exact rfl) (by exact sr_v htc) dc_FS_type_35 38 rfl ?_
  refine jl_iconst (v := 1) h (by decide) dc_FS_type_38 39 rfl ?_
  refine jl_iadd h dc_FS_type_39 40 rfl ?_
  rw [show nI tc + 1 = nI (tc + 1) by exact nI_1 tc]
  refine jl_putf (fs2 := [_, _, _, _, _, _, _]) h nm_c_FS 4 wl_FS_53 (by omega) (by decide) rfl (by exact rfl) (by rfl) (by rfl) (by exact Nat.le_of_ble_eq_true rfl) (by rfl) dc_FS_type_40 (gw_set_tc _) 43 rfl ?_
  refine jl_iconst (v := 1) h (by decide) dc_FS_type_43 44 rfl ?_
  exact jl_zret h he rfl (rfl) (rfl) dc_FS_type_44
theorem c_FS1_partner_no (hG : G 0 = 153) (hS : st_ok K ad (gw K ad I V L C G R) n b) (q : Int32) (hq : ¬ (¬ q < 0 ∧ q < nI n)) : jl_C l K sa yn_FS_partner bc_FS_partner 2 (some .int) 2 50 168 ad [.ref (ad 0), .int q] (gw K ad I V L C G R) (some (.int (-1))) (gw K ad I V L C G R) := by
  refine jl_enter (by decide) (Nat.le_of_ble_eq_true rfl) (fun x h he hr => ?_)
  show jl_J x 168 ad 0 0 (gw K ad I V L C G R) 0 [(0, .ref (ad 0)), (1, .int q)] []
  refine jl_aload_n (i := 0) h rfl rfl dc_FS_partner_0 1 rfl ?_
  refine jl_getf h nm_c_FS 0 wl_FS_10 (by omega) (by decide) (by exact rfl) (by rfl) dc_FS_partner_1 4 rfl ?_
  refine jl_iload_n (i := 1) h rfl rfl dc_FS_partner_4 5 rfl ?_
  refine jl_callV (As := [_]) (rest := []) h hr vs_FS_94 vi_ST_has vx_ST_has (ci := 1) rfl (by omega) (by exact hS.1) (fun l => c_ST_has l (by omega) hS q) (by first | decide | omega) (by first | decide | omega) rfl rfl (Nat.le_of_ble_eq_true rfl) dc_FS_partner_5 (res := [_]) rfl 8 rfl ?_
  refine jl_if_eq h 33 (by decide) dc_FS_partner_8 11 rfl (fun c8 => ?_) (fun c8 => absurd (by rw [st_b0]; exact decide_eq_false hq) c8)
  refine jl_iconst (v := -1) h (by decide) dc_FS_partner_33 34 rfl ?_
  exact jl_zret h he rfl (rfl) (rfl) dc_FS_partner_34
theorem c_FS1_partner (hG : G 0 = 153) (hS : st_ok K ad (gw K ad I V L C G R) n b) (hM : V 154 = fun i => iI (w i)) {i : Nat} (hi : i < n) (h1 : -1 ≤ w i) (h2 : w i < 18) : jl_C l K sa yn_FS_partner bc_FS_partner 2 (some .int) 2 50 168 ad [.ref (ad 0), .int (nI i)] (gw K ad I V L C G R) (some (.int (iI (w i)))) (gw K ad I V L C G R) := by
  refine jl_enter (by decide) (Nat.le_of_ble_eq_true rfl) (fun x h he hr => ?_)
  obtain ⟨hST, hbases, hn, hb⟩ := id hS
  show jl_J x 168 ad 0 0 (gw K ad I V L C G R) 0 [(0, .ref (ad 0)), (1, .int (nI i))] []
  refine jl_aload_n (i := 0) h rfl rfl dc_FS_partner_0 1 rfl ?_
  refine jl_getf h nm_c_FS 0 wl_FS_10 (by omega) (by decide) (by exact rfl) (by rfl) dc_FS_partner_1 4 rfl ?_
  refine jl_iload_n (i := 1) h rfl rfl dc_FS_partner_4 5 rfl ?_
  refine jl_callV (As := [_]) (rest := []) h hr vs_FS_94 vi_ST_has vx_ST_has (ci := 1) rfl (by omega) (by exact hS.1) (fun l => c_ST_has l (by omega) hS (nI i)) (by first | decide | omega) (by first | decide | omega) rfl rfl (Nat.le_of_ble_eq_true rfl) dc_FS_partner_5 (res := [_]) rfl 8 rfl ?_
  refine jl_if_eq h 33 (by decide) dc_FS_partner_8 11 rfl (fun c8 => absurd c8 (by rw [st_b1]; exact decide_eq_true ⟨nI_pos (by omega), nI_lt hi (by omega)⟩)) (fun c8 => ?_)
  refine jl_aload_n (i := 0) h rfl rfl dc_FS_partner_11 12 rfl ?_
  refine jl_getf (v := .ref (ad 153)) h nm_c_FS 5 wl_FS_42 (by omega) (by decide) (by exact rfl) (by exact fs_r hG) dc_FS_partner_12 15 rfl ?_
  refine jl_iload_n (i := 1) h rfl rfl dc_FS_partner_15 16 rfl ?_
  refine jl_callV (As := [_]) (rest := []) h hr vs_FS_116 vi_SR_isPaired vx_SR_isPaired (ci := 6) rfl (by omega) (by exact rfl) (fun l => c_SR1_isPaired l hM (by omega) h1 h2) (by first | decide | omega) (by first | decide | omega) rfl rfl (Nat.le_of_ble_eq_true rfl) dc_FS_partner_16 (res := [_]) rfl 19 rfl ?_
  refine jl_if_eq h 33 (by decide) dc_FS_partner_19 22 rfl (fun c19 => ?_) (fun c19 => ?_)
  · skip
    rw [st_b0] at c19
    have c19 := of_decide_eq_false c19
    refine jl_iconst (v := -1) h (by decide) dc_FS_partner_33 34 rfl ?_
    exact jl_zret h he rfl (by first | rfl | (rw [show w i = -1 by omega]; rfl)) (rfl) dc_FS_partner_34
  · skip
    skip
    refine jl_aload_n (i := 0) h rfl rfl dc_FS_partner_22 23 rfl ?_
    refine jl_getf (v := .ref (ad 153)) h nm_c_FS 5 wl_FS_42 (by omega) (by decide) (by exact rfl) (by exact fs_r hG) dc_FS_partner_23 26 rfl ?_
    refine jl_iload_n (i := 1) h rfl rfl dc_FS_partner_26 27 rfl ?_
    refine jl_callV (As := [_]) (rest := []) h hr vs_FS_119 vi_SR_mateOf vx_SR_mateOf (ci := 6) rfl (by omega) (by exact rfl) (fun l => c_SR1_mateOf l hM (by omega)) (by first | decide | omega) (by first | decide | omega) rfl rfl (Nat.le_of_ble_eq_true rfl) dc_FS_partner_27 (res := [_]) rfl 30 rfl ?_
    refine jl_goto h 34 (by decide) dc_FS_partner_30 ?_
    exact jl_zret h he rfl (by first | rfl | (rw [show w i = -1 by omega]; rfl)) (rfl) dc_FS_partner_34
theorem c_FS2_partner_no (hG : G 0 = 156) (hS : st_ok K ad (gw K ad I V L C G R) n b) (q : Int32) (hq : ¬ (¬ q < 0 ∧ q < nI n)) : jl_C l K sa yn_FS_partner bc_FS_partner 2 (some .int) 2 50 168 ad [.ref (ad 0), .int q] (gw K ad I V L C G R) (some (.int (-1))) (gw K ad I V L C G R) := by
  refine jl_enter (by decide) (Nat.le_of_ble_eq_true rfl) (fun x h he hr => ?_)
  show jl_J x 168 ad 0 0 (gw K ad I V L C G R) 0 [(0, .ref (ad 0)), (1, .int q)] []
  refine jl_aload_n (i := 0) h rfl rfl dc_FS_partner_0 1 rfl ?_
  refine jl_getf h nm_c_FS 0 wl_FS_10 (by omega) (by decide) (by exact rfl) (by rfl) dc_FS_partner_1 4 rfl ?_
  refine jl_iload_n (i := 1) h rfl rfl dc_FS_partner_4 5 rfl ?_
  refine jl_callV (As := [_]) (rest := []) h hr vs_FS_94 vi_ST_has vx_ST_has (ci := 1) rfl (by omega) (by exact hS.1) (fun l => c_ST_has l (by omega) hS q) (by first | decide | omega) (by first | decide | omega) rfl rfl (Nat.le_of_ble_eq_true rfl) dc_FS_partner_5 (res := [_]) rfl 8 rfl ?_
  refine jl_if_eq h 33 (by decide) dc_FS_partner_8 11 rfl (fun c8 => ?_) (fun c8 => absurd (by rw [st_b0]; exact decide_eq_false hq) c8)
  refine jl_iconst (v := -1) h (by decide) dc_FS_partner_33 34 rfl ?_
  exact jl_zret h he rfl (rfl) (rfl) dc_FS_partner_34
theorem c_FS2_partner (hG : G 0 = 156) (hS : st_ok K ad (gw K ad I V L C G R) n b) (hM : V 157 = fun i => iI (w i)) {i : Nat} (hi : i < n) (h1 : -1 ≤ w i) (h2 : w i < 18) : jl_C l K sa yn_FS_partner bc_FS_partner 2 (some .int) 2 50 168 ad [.ref (ad 0), .int (nI i)] (gw K ad I V L C G R) (some (.int (iI (w i)))) (gw K ad I V L C G R) := by
  refine jl_enter (by decide) (Nat.le_of_ble_eq_true rfl) (fun x h he hr => ?_)
  obtain ⟨hST, hbases, hn, hb⟩ := id hS
  show jl_J x 168 ad 0 0 (gw K ad I V L C G R) 0 [(0, .ref (ad 0)), (1, .int (nI i))] []
  refine jl_aload_n (i := 0) h rfl rfl dc_FS_partner_0 1 rfl ?_
  refine jl_getf h nm_c_FS 0 wl_FS_10 (by omega) (by decide) (by exact rfl) (by rfl) dc_FS_partner_1 4 rfl ?_
  refine jl_iload_n (i := 1) h rfl rfl dc_FS_partner_4 5 rfl ?_
  refine jl_callV (As := [_]) (rest := []) h hr vs_FS_94 vi_ST_has vx_ST_has (ci := 1) rfl (by omega) (by exact hS.1) (fun l => c_ST_has l (by omega) hS (nI i)) (by first | decide | omega) (by first | decide | omega) rfl rfl (Nat.le_of_ble_eq_true rfl) dc_FS_partner_5 (res := [_]) rfl 8 rfl ?_
  refine jl_if_eq h 33 (by decide) dc_FS_partner_8 11 rfl (fun c8 => absurd c8 (by rw [st_b1]; exact decide_eq_true ⟨nI_pos (by omega), nI_lt hi (by omega)⟩)) (fun c8 => ?_)
  refine jl_aload_n (i := 0) h rfl rfl dc_FS_partner_11 12 rfl ?_
  refine jl_getf (v := .ref (ad 156)) h nm_c_FS 5 wl_FS_42 (by omega) (by decide) (by exact rfl) (by exact fs_r hG) dc_FS_partner_12 15 rfl ?_
  refine jl_iload_n (i := 1) h rfl rfl dc_FS_partner_15 16 rfl ?_
  refine jl_callV (As := [_]) (rest := []) h hr vs_FS_116 vi_SR_isPaired vx_SR_isPaired (ci := 6) rfl (by omega) (by exact rfl) (fun l => c_SR2_isPaired l hM (by omega) h1 h2) (by first | decide | omega) (by first | decide | omega) rfl rfl (Nat.le_of_ble_eq_true rfl) dc_FS_partner_16 (res := [_]) rfl 19 rfl ?_
  refine jl_if_eq h 33 (by decide) dc_FS_partner_19 22 rfl (fun c19 => ?_) (fun c19 => ?_)
  · skip
    rw [st_b0] at c19
    have c19 := of_decide_eq_false c19
    refine jl_iconst (v := -1) h (by decide) dc_FS_partner_33 34 rfl ?_
    exact jl_zret h he rfl (by first | rfl | (rw [show w i = -1 by omega]; rfl)) (rfl) dc_FS_partner_34
  · skip
    skip
    refine jl_aload_n (i := 0) h rfl rfl dc_FS_partner_22 23 rfl ?_
    refine jl_getf (v := .ref (ad 156)) h nm_c_FS 5 wl_FS_42 (by omega) (by decide) (by exact rfl) (by exact fs_r hG) dc_FS_partner_23 26 rfl ?_
    refine jl_iload_n (i := 1) h rfl rfl dc_FS_partner_26 27 rfl ?_
    refine jl_callV (As := [_]) (rest := []) h hr vs_FS_119 vi_SR_mateOf vx_SR_mateOf (ci := 6) rfl (by omega) (by exact rfl) (fun l => c_SR2_mateOf l hM (by omega)) (by first | decide | omega) (by first | decide | omega) rfl rfl (Nat.le_of_ble_eq_true rfl) dc_FS_partner_27 (res := [_]) rfl 30 rfl ?_
    refine jl_goto h 34 (by decide) dc_FS_partner_30 ?_
    exact jl_zret h he rfl (by first | rfl | (rw [show w i = -1 by omega]; rfl)) (rfl) dc_FS_partner_34
end FS
end
section
/-! The energy of a structure by scans of what is directly within; FoldedStrand$Structure.loopEnergy, totalEnergy. -/
def tp_f (w : Nat → Int) : Nat → Nat → Nat → List (Nat × Nat) × Nat
  | 0, _, _ => ([], 0)
  | d + 1, p, e => if e ≤ p then ([], 0) else if (p : Int) < w p then ((p, (w p).toNat) :: (tp_f w d ((w p).toNat + 1) e).1, (tp_f w d ((w p).toNat + 1) e).2) else ((tp_f w d (p + 1) e).1, (tp_f w d (p + 1) e).2 + 1)
theorem tp_f_fuel (w : Nat → Int) (e : Nat) : ∀ (d d2 p : Nat), e - p ≤ d → e - p ≤ d2 → tp_f w d p e = tp_f w d2 p e
  | 0, 0, _, _, _ => rfl
  | 0, d2 + 1, p, h, _ => by
    unfold tp_f
    rw [if_pos (by omega)]
  | d + 1, 0, p, _, h => by
    unfold tp_f
    rw [if_pos (by omega)]
  | d + 1, d2 + 1, p, h1, h2 => by
    unfold tp_f
    by_cases he : e ≤ p
    · rw [if_pos he, if_pos he]
    · rw [if_neg he, if_neg he]
      by_cases hp : (p : Int) < w p
      · rw [if_pos hp, if_pos hp, tp_f_fuel w e d d2 ((w p).toNat + 1) (by omega) (by omega)]
      · rw [if_neg hp, if_neg hp, tp_f_fuel w e d d2 (p + 1) (by omega) (by omega)]
/-- the pairs directly within, and how many places are in none of them -/
def tp_l (w : Nat → Int) (p e : Nat) : List (Nat × Nat) × Nat := tp_f w (e - p) p e
theorem tp_end {w : Nat → Int} {p e : Nat} (h : e ≤ p) : tp_l w p e = ([], 0) := by
  unfold tp_l
  rw [show e - p = 0 by omega]
  rfl
theorem tp_pair {w : Nat → Int} {p e q : Nat} (h : p < e) (hp : p < q) (hq : w p = q) : tp_l w p e = ((p, q) :: (tp_l w (q + 1) e).1, (tp_l w (q + 1) e).2) := by
  unfold tp_l
  obtain ⟨d, hd⟩ : ∃ d, e - p = d + 1 := ⟨e - p - 1, by omega⟩
  have e1 : tp_f w (e - p) p e = ((p, q) :: (tp_f w d (q + 1) e).1, (tp_f w d (q + 1) e).2) := by
    rw [hd]
    conv => lhs; unfold tp_f
    rw [if_neg (by omega), if_pos (by rw [hq]; omega), hq, Int.toNat_natCast]
  rw [e1, tp_f_fuel w e d (e - (q + 1)) (q + 1) (by omega) (by omega)]
theorem tp_free {w : Nat → Int} {p e : Nat} (h : p < e) (hp : ¬ (p : Int) < w p) : tp_l w p e = ((tp_l w (p + 1) e).1, (tp_l w (p + 1) e).2 + 1) := by
  unfold tp_l
  obtain ⟨d, hd⟩ : ∃ d, e - p = d + 1 := ⟨e - p - 1, by omega⟩
  have e1 : tp_f w (e - p) p e = ((tp_f w d (p + 1) e).1, (tp_f w d (p + 1) e).2 + 1) := by
    rw [hd]
    conv => lhs; unfold tp_f
    rw [if_neg (by omega), if_neg hp]
  rw [e1, tp_f_fuel w e d (e - (p + 1)) (p + 1) (by omega) (by omega)]
def lp_ws (b : Nat → Nat) (bs : List (Nat × Nat)) : Int := (bs.map (fun q => lp_wk b q.1 q.2 5)).sum
def lp_of (b : Nat → Nat) (i j : Nat) (r : List (Nat × Nat) × Nat) : Int := match r.1 with
  | [] => lp_hp b i j
  | [(k, m)] => lp_w1 b i j k m
  | _ => 34 + 4 * ((r.1.length : Int) + 1) + r.2 + lp_wk b i j 5 + lp_ws b r.1
/-- the energy of the loop of the pair i, j -/
def lp_loop (b : Nat → Nat) (w : Nat → Int) (i j : Nat) : Int := lp_of b i j (tp_l w (i + 1) j)
theorem lp_of_many {b : Nat → Nat} {i j : Nat} {r : List (Nat × Nat) × Nat} (h : 2 ≤ r.1.length) : lp_of b i j r = 34 + 4 * ((r.1.length : Int) + 1) + r.2 + lp_wk b i j 5 + lp_ws b r.1 := by
  unfold lp_of
  obtain ⟨bs, u⟩ := r
  match bs, h with
  | a :: c :: l, _ => rfl
def st_S (b : Nat → Nat) (w : Nat → Int) : Nat → Int
  | 0 => 0
  | k + 1 => st_S b w k + (if (k : Int) < w k then lp_loop b w k (w k).toNat else 0)
/-- the energy of a structure -/
def st_E (b : Nat → Nat) (n : Nat) (w : Nat → Int) : Int := st_S b w n + lp_ws b (tp_l w 0 n).1
theorem lp_ws_app (b : Nat → Nat) (x y : List (Nat × Nat)) : lp_ws b (x ++ y) = lp_ws b x + lp_ws b y := by
  unfold lp_ws
  rw [List.map_append, List.sum_append]
theorem en_V_in {b : Nat → Nat} {n : Nat} {w : Nat → Int} (h : en_V b n w) (p : Nat) : -1 ≤ w p ∧ w p < n + 1 := by
  rcases h.1 p with h1 | h1 <;> omega
abbrev bc_SR_loopEnergy : ByteArray := prog_7_method_11_code
abbrev yn_SR_loopEnergy : MethodName := ⟨"FoldedStrand$Structure", "loopEnergy", "(I)I"⟩
theorem wl_SR_22 : Cond.fieldLink "FoldedStrand$Structure" 22 "FoldedStrand$Structure" "loops" "LFoldedStrand$Loops;" ∈ jl_T := jl_T_of 167 (by decide +kernel) (by decide +kernel)
theorem vs_SR_71 : jl_v "FoldedStrand$Structure" 71 yn_LO_multiClosing bc_LO_multiClosing 3 (some .int) 2 := ⟨jl_T_of 264 (by decide +kernel) (by decide +kernel), jl_T_of 3 (by decide +kernel) (by decide +kernel), jl_T_of 479 (by decide +kernel) (by decide +kernel), by decide +kernel, by decide +kernel, by decide +kernel⟩
theorem vs_SR_57 : jl_v "FoldedStrand$Structure" 57 yn_SR_opensAt bc_SR_opensAt 2 (some .boolean) 1 := ⟨jl_T_of 474 (by decide +kernel) (by decide +kernel), jl_T_of 7 (by decide +kernel) (by decide +kernel), jl_T_of 471 (by decide +kernel) (by decide +kernel), by decide +kernel, by decide +kernel, by decide +kernel⟩
theorem vi_SR_opensAt : Cond.instanceMethod yn_SR_opensAt ∈ jl_T := jl_T_of 472 (by decide +kernel) (by decide +kernel)
theorem vx_SR_opensAt : Cond.selects "FoldedStrand$Structure" yn_SR_opensAt yn_SR_opensAt ∈ jl_T := jl_T_of 473 (by decide +kernel) (by decide +kernel)
theorem vs_SR_75 : jl_v "FoldedStrand$Structure" 75 yn_LO_multiBranch bc_LO_multiBranch 3 (some .int) 2 := ⟨jl_T_of 483 (by decide +kernel) (by decide +kernel), jl_T_of 3 (by decide +kernel) (by decide +kernel), jl_T_of 480 (by decide +kernel) (by decide +kernel), by decide +kernel, by decide +kernel, by decide +kernel⟩
theorem vi_LO_multiBranch : Cond.instanceMethod yn_LO_multiBranch ∈ jl_T := jl_T_of 481 (by decide +kernel) (by decide +kernel)
theorem vx_LO_multiBranch : Cond.selects "FoldedStrand$Loops" yn_LO_multiBranch yn_LO_multiBranch ∈ jl_T := jl_T_of 482 (by decide +kernel) (by decide +kernel)
theorem vs_SR_78 : jl_v "FoldedStrand$Structure" 78 yn_LO_hairpin bc_LO_hairpin 5 (some .int) 2 := ⟨jl_T_of 244 (by decide +kernel) (by decide +kernel), jl_T_of 3 (by decide +kernel) (by decide +kernel), jl_T_of 484 (by decide +kernel) (by decide +kernel), by decide +kernel, by decide +kernel, by decide +kernel⟩
theorem vs_SR_81 : jl_v "FoldedStrand$Structure" 81 yn_LO_withOne bc_LO_withOne 7 (some .int) 4 := ⟨jl_T_of 271 (by decide +kernel) (by decide +kernel), jl_T_of 3 (by decide +kernel) (by decide +kernel), jl_T_of 485 (by decide +kernel) (by decide +kernel), by decide +kernel, by decide +kernel, by decide +kernel⟩
theorem dc_SR_loopEnergy_0 : decode bc_SR_loopEnergy 0 = .ok (.aload_n 0, 1) := by decide +kernel
theorem dc_SR_loopEnergy_1 : decode bc_SR_loopEnergy 1 = .ok (.getfield 9, 3) := by decide +kernel
theorem dc_SR_loopEnergy_4 : decode bc_SR_loopEnergy 4 = .ok (.iload_n 1, 1) := by decide +kernel
theorem dc_SR_loopEnergy_5 : decode bc_SR_loopEnergy 5 = .ok (.iaload, 1) := by decide +kernel
theorem dc_SR_loopEnergy_6 : decode bc_SR_loopEnergy 6 = .ok (.istore_n 2, 1) := by decide +kernel
theorem dc_SR_loopEnergy_7 : decode bc_SR_loopEnergy 7 = .ok (.iconst 0, 1) := by decide +kernel
theorem dc_SR_loopEnergy_8 : decode bc_SR_loopEnergy 8 = .ok (.istore_n 3, 1) := by decide +kernel
theorem dc_SR_loopEnergy_9 : decode bc_SR_loopEnergy 9 = .ok (.iload_n 1, 1) := by decide +kernel
theorem dc_SR_loopEnergy_10 : decode bc_SR_loopEnergy 10 = .ok (.istore 4, 2) := by decide +kernel
theorem dc_SR_loopEnergy_12 : decode bc_SR_loopEnergy 12 = .ok (.aload_n 0, 1) := by decide +kernel
theorem dc_SR_loopEnergy_13 : decode bc_SR_loopEnergy 13 = .ok (.getfield 22, 3) := by decide +kernel
theorem dc_SR_loopEnergy_16 : decode bc_SR_loopEnergy 16 = .ok (.iload_n 1, 1) := by decide +kernel
theorem dc_SR_loopEnergy_17 : decode bc_SR_loopEnergy 17 = .ok (.iload_n 2, 1) := by decide +kernel
theorem dc_SR_loopEnergy_18 : decode bc_SR_loopEnergy 18 = .ok (.invokevirtual 71, 3) := by decide +kernel
theorem dc_SR_loopEnergy_21 : decode bc_SR_loopEnergy 21 = .ok (.istore 5, 2) := by decide +kernel
theorem dc_SR_loopEnergy_23 : decode bc_SR_loopEnergy 23 = .ok (.iload_n 1, 1) := by decide +kernel
theorem dc_SR_loopEnergy_24 : decode bc_SR_loopEnergy 24 = .ok (.istore 6, 2) := by decide +kernel
theorem dc_SR_loopEnergy_26 : decode bc_SR_loopEnergy 26 = .ok (.iload_n 1, 1) := by decide +kernel
theorem dc_SR_loopEnergy_27 : decode bc_SR_loopEnergy 27 = .ok (.iconst 1, 1) := by decide +kernel
theorem dc_SR_loopEnergy_28 : decode bc_SR_loopEnergy 28 = .ok (.iadd, 1) := by decide +kernel
theorem dc_SR_loopEnergy_29 : decode bc_SR_loopEnergy 29 = .ok (.istore 7, 2) := by decide +kernel
theorem dc_SR_loopEnergy_31 : decode bc_SR_loopEnergy 31 = .ok (.iload 7, 2) := by decide +kernel
theorem dc_SR_loopEnergy_33 : decode bc_SR_loopEnergy 33 = .ok (.iload_n 2, 1) := by decide +kernel
theorem dc_SR_loopEnergy_34 : decode bc_SR_loopEnergy 34 = .ok (.if_icmp .ge 70, 3) := by decide +kernel
theorem dc_SR_loopEnergy_37 : decode bc_SR_loopEnergy 37 = .ok (.iload 7, 2) := by decide +kernel
theorem dc_SR_loopEnergy_39 : decode bc_SR_loopEnergy 39 = .ok (.iload 6, 2) := by decide +kernel
theorem dc_SR_loopEnergy_41 : decode bc_SR_loopEnergy 41 = .ok (.if_icmp .le 47, 3) := by decide +kernel
theorem dc_SR_loopEnergy_44 : decode bc_SR_loopEnergy 44 = .ok (.aload_n 0, 1) := by decide +kernel
theorem dc_SR_loopEnergy_45 : decode bc_SR_loopEnergy 45 = .ok (.iload 7, 2) := by decide +kernel
theorem dc_SR_loopEnergy_47 : decode bc_SR_loopEnergy 47 = .ok (.invokevirtual 57, 3) := by decide +kernel
theorem dc_SR_loopEnergy_50 : decode bc_SR_loopEnergy 50 = .ok (.ifCond .eq 38, 3) := by decide +kernel
theorem dc_SR_loopEnergy_53 : decode bc_SR_loopEnergy 53 = .ok (.iinc 3 1, 3) := by decide +kernel
theorem dc_SR_loopEnergy_56 : decode bc_SR_loopEnergy 56 = .ok (.iload 7, 2) := by decide +kernel
theorem dc_SR_loopEnergy_58 : decode bc_SR_loopEnergy 58 = .ok (.istore 4, 2) := by decide +kernel
theorem dc_SR_loopEnergy_60 : decode bc_SR_loopEnergy 60 = .ok (.aload_n 0, 1) := by decide +kernel
theorem dc_SR_loopEnergy_61 : decode bc_SR_loopEnergy 61 = .ok (.getfield 9, 3) := by decide +kernel
theorem dc_SR_loopEnergy_64 : decode bc_SR_loopEnergy 64 = .ok (.iload 7, 2) := by decide +kernel
theorem dc_SR_loopEnergy_66 : decode bc_SR_loopEnergy 66 = .ok (.iaload, 1) := by decide +kernel
theorem dc_SR_loopEnergy_67 : decode bc_SR_loopEnergy 67 = .ok (.istore 6, 2) := by decide +kernel
theorem dc_SR_loopEnergy_69 : decode bc_SR_loopEnergy 69 = .ok (.iload 5, 2) := by decide +kernel
theorem dc_SR_loopEnergy_71 : decode bc_SR_loopEnergy 71 = .ok (.aload_n 0, 1) := by decide +kernel
theorem dc_SR_loopEnergy_72 : decode bc_SR_loopEnergy 72 = .ok (.getfield 22, 3) := by decide +kernel
theorem dc_SR_loopEnergy_75 : decode bc_SR_loopEnergy 75 = .ok (.iload 7, 2) := by decide +kernel
theorem dc_SR_loopEnergy_77 : decode bc_SR_loopEnergy 77 = .ok (.iload 6, 2) := by decide +kernel
theorem dc_SR_loopEnergy_79 : decode bc_SR_loopEnergy 79 = .ok (.invokevirtual 75, 3) := by decide +kernel
theorem dc_SR_loopEnergy_82 : decode bc_SR_loopEnergy 82 = .ok (.iadd, 1) := by decide +kernel
theorem dc_SR_loopEnergy_83 : decode bc_SR_loopEnergy 83 = .ok (.istore 5, 2) := by decide +kernel
theorem dc_SR_loopEnergy_85 : decode bc_SR_loopEnergy 85 = .ok (.goto 13, 3) := by decide +kernel
theorem dc_SR_loopEnergy_88 : decode bc_SR_loopEnergy 88 = .ok (.iload 7, 2) := by decide +kernel
theorem dc_SR_loopEnergy_90 : decode bc_SR_loopEnergy 90 = .ok (.iload 6, 2) := by decide +kernel
theorem dc_SR_loopEnergy_92 : decode bc_SR_loopEnergy 92 = .ok (.if_icmp .le 6, 3) := by decide +kernel
theorem dc_SR_loopEnergy_95 : decode bc_SR_loopEnergy 95 = .ok (.iinc 5 1, 3) := by decide +kernel
theorem dc_SR_loopEnergy_98 : decode bc_SR_loopEnergy 98 = .ok (.iinc 7 1, 3) := by decide +kernel
theorem dc_SR_loopEnergy_101 : decode bc_SR_loopEnergy 101 = .ok (.goto (-70), 3) := by decide +kernel
theorem dc_SR_loopEnergy_104 : decode bc_SR_loopEnergy 104 = .ok (.iload_n 3, 1) := by decide +kernel
theorem dc_SR_loopEnergy_105 : decode bc_SR_loopEnergy 105 = .ok (.ifCond .ne 13, 3) := by decide +kernel
theorem dc_SR_loopEnergy_108 : decode bc_SR_loopEnergy 108 = .ok (.aload_n 0, 1) := by decide +kernel
theorem dc_SR_loopEnergy_109 : decode bc_SR_loopEnergy 109 = .ok (.getfield 22, 3) := by decide +kernel
theorem dc_SR_loopEnergy_112 : decode bc_SR_loopEnergy 112 = .ok (.iload_n 1, 1) := by decide +kernel
theorem dc_SR_loopEnergy_113 : decode bc_SR_loopEnergy 113 = .ok (.iload_n 2, 1) := by decide +kernel
theorem dc_SR_loopEnergy_114 : decode bc_SR_loopEnergy 114 = .ok (.invokevirtual 78, 3) := by decide +kernel
theorem dc_SR_loopEnergy_117 : decode bc_SR_loopEnergy 117 = .ok (.ireturn, 1) := by decide +kernel
theorem dc_SR_loopEnergy_118 : decode bc_SR_loopEnergy 118 = .ok (.iload_n 3, 1) := by decide +kernel
theorem dc_SR_loopEnergy_119 : decode bc_SR_loopEnergy 119 = .ok (.iconst 1, 1) := by decide +kernel
theorem dc_SR_loopEnergy_120 : decode bc_SR_loopEnergy 120 = .ok (.if_icmp .ne 24, 3) := by decide +kernel
theorem dc_SR_loopEnergy_123 : decode bc_SR_loopEnergy 123 = .ok (.aload_n 0, 1) := by decide +kernel
theorem dc_SR_loopEnergy_124 : decode bc_SR_loopEnergy 124 = .ok (.getfield 22, 3) := by decide +kernel
theorem dc_SR_loopEnergy_127 : decode bc_SR_loopEnergy 127 = .ok (.iload_n 1, 1) := by decide +kernel
theorem dc_SR_loopEnergy_128 : decode bc_SR_loopEnergy 128 = .ok (.iload_n 2, 1) := by decide +kernel
theorem dc_SR_loopEnergy_129 : decode bc_SR_loopEnergy 129 = .ok (.iload 4, 2) := by decide +kernel
theorem dc_SR_loopEnergy_131 : decode bc_SR_loopEnergy 131 = .ok (.aload_n 0, 1) := by decide +kernel
theorem dc_SR_loopEnergy_132 : decode bc_SR_loopEnergy 132 = .ok (.getfield 9, 3) := by decide +kernel
theorem dc_SR_loopEnergy_135 : decode bc_SR_loopEnergy 135 = .ok (.iload 4, 2) := by decide +kernel
theorem dc_SR_loopEnergy_137 : decode bc_SR_loopEnergy 137 = .ok (.iaload, 1) := by decide +kernel
theorem dc_SR_loopEnergy_138 : decode bc_SR_loopEnergy 138 = .ok (.invokevirtual 81, 3) := by decide +kernel
theorem dc_SR_loopEnergy_141 : decode bc_SR_loopEnergy 141 = .ok (.goto 5, 3) := by decide +kernel
theorem dc_SR_loopEnergy_144 : decode bc_SR_loopEnergy 144 = .ok (.iload 5, 2) := by decide +kernel
theorem dc_SR_loopEnergy_146 : decode bc_SR_loopEnergy 146 = .ok (.ireturn, 1) := by decide +kernel
abbrev bc_SR_totalEnergy : ByteArray := prog_7_method_10_code
abbrev yn_SR_totalEnergy : MethodName := ⟨"FoldedStrand$Structure", "totalEnergy", "()I"⟩
theorem vs_SR_61 : jl_v "FoldedStrand$Structure" 61 yn_SR_loopEnergy bc_SR_loopEnergy 8 (some .int) 1 := ⟨jl_T_of 478 (by decide +kernel) (by decide +kernel), jl_T_of 7 (by decide +kernel) (by decide +kernel), jl_T_of 475 (by decide +kernel) (by decide +kernel), by decide +kernel, by decide +kernel, by decide +kernel⟩
theorem vi_SR_loopEnergy : Cond.instanceMethod yn_SR_loopEnergy ∈ jl_T := jl_T_of 476 (by decide +kernel) (by decide +kernel)
theorem vx_SR_loopEnergy : Cond.selects "FoldedStrand$Structure" yn_SR_loopEnergy yn_SR_loopEnergy ∈ jl_T := jl_T_of 477 (by decide +kernel) (by decide +kernel)
theorem vs_SR_67 : jl_v "FoldedStrand$Structure" 67 yn_ST_ifWeak bc_ST_ifWeak 4 (some .int) 3 := ⟨jl_T_of 256 (by decide +kernel) (by decide +kernel), jl_T_of 2 (by decide +kernel) (by decide +kernel), jl_T_of 486 (by decide +kernel) (by decide +kernel), by decide +kernel, by decide +kernel, by decide +kernel⟩
theorem dc_SR_totalEnergy_0 : decode bc_SR_totalEnergy 0 = .ok (.iconst 0, 1) := by decide +kernel
theorem dc_SR_totalEnergy_1 : decode bc_SR_totalEnergy 1 = .ok (.istore_n 1, 1) := by decide +kernel
theorem dc_SR_totalEnergy_2 : decode bc_SR_totalEnergy 2 = .ok (.iconst (-1), 1) := by decide +kernel
theorem dc_SR_totalEnergy_3 : decode bc_SR_totalEnergy 3 = .ok (.istore_n 2, 1) := by decide +kernel
theorem dc_SR_totalEnergy_4 : decode bc_SR_totalEnergy 4 = .ok (.iconst 0, 1) := by decide +kernel
theorem dc_SR_totalEnergy_5 : decode bc_SR_totalEnergy 5 = .ok (.istore_n 3, 1) := by decide +kernel
theorem dc_SR_totalEnergy_6 : decode bc_SR_totalEnergy 6 = .ok (.iload_n 3, 1) := by decide +kernel
theorem dc_SR_totalEnergy_7 : decode bc_SR_totalEnergy 7 = .ok (.aload_n 0, 1) := by decide +kernel
theorem dc_SR_totalEnergy_8 : decode bc_SR_totalEnergy 8 = .ok (.getfield 18, 3) := by decide +kernel
theorem dc_SR_totalEnergy_11 : decode bc_SR_totalEnergy 11 = .ok (.invokevirtual 45, 3) := by decide +kernel
theorem dc_SR_totalEnergy_14 : decode bc_SR_totalEnergy 14 = .ok (.if_icmp .ge 55, 3) := by decide +kernel
theorem dc_SR_totalEnergy_17 : decode bc_SR_totalEnergy 17 = .ok (.aload_n 0, 1) := by decide +kernel
theorem dc_SR_totalEnergy_18 : decode bc_SR_totalEnergy 18 = .ok (.iload_n 3, 1) := by decide +kernel
theorem dc_SR_totalEnergy_19 : decode bc_SR_totalEnergy 19 = .ok (.invokevirtual 57, 3) := by decide +kernel
theorem dc_SR_totalEnergy_22 : decode bc_SR_totalEnergy 22 = .ok (.ifCond .eq 41, 3) := by decide +kernel
theorem dc_SR_totalEnergy_25 : decode bc_SR_totalEnergy 25 = .ok (.iload_n 1, 1) := by decide +kernel
theorem dc_SR_totalEnergy_26 : decode bc_SR_totalEnergy 26 = .ok (.aload_n 0, 1) := by decide +kernel
theorem dc_SR_totalEnergy_27 : decode bc_SR_totalEnergy 27 = .ok (.iload_n 3, 1) := by decide +kernel
theorem dc_SR_totalEnergy_28 : decode bc_SR_totalEnergy 28 = .ok (.invokevirtual 61, 3) := by decide +kernel
theorem dc_SR_totalEnergy_31 : decode bc_SR_totalEnergy 31 = .ok (.iadd, 1) := by decide +kernel
theorem dc_SR_totalEnergy_32 : decode bc_SR_totalEnergy 32 = .ok (.istore_n 1, 1) := by decide +kernel
theorem dc_SR_totalEnergy_33 : decode bc_SR_totalEnergy 33 = .ok (.iload_n 3, 1) := by decide +kernel
theorem dc_SR_totalEnergy_34 : decode bc_SR_totalEnergy 34 = .ok (.iload_n 2, 1) := by decide +kernel
theorem dc_SR_totalEnergy_35 : decode bc_SR_totalEnergy 35 = .ok (.if_icmp .le 28, 3) := by decide +kernel
theorem dc_SR_totalEnergy_38 : decode bc_SR_totalEnergy 38 = .ok (.iload_n 1, 1) := by decide +kernel
theorem dc_SR_totalEnergy_39 : decode bc_SR_totalEnergy 39 = .ok (.aload_n 0, 1) := by decide +kernel
theorem dc_SR_totalEnergy_40 : decode bc_SR_totalEnergy 40 = .ok (.getfield 18, 3) := by decide +kernel
theorem dc_SR_totalEnergy_43 : decode bc_SR_totalEnergy 43 = .ok (.iload_n 3, 1) := by decide +kernel
theorem dc_SR_totalEnergy_44 : decode bc_SR_totalEnergy 44 = .ok (.aload_n 0, 1) := by decide +kernel
theorem dc_SR_totalEnergy_45 : decode bc_SR_totalEnergy 45 = .ok (.getfield 9, 3) := by decide +kernel
theorem dc_SR_totalEnergy_48 : decode bc_SR_totalEnergy 48 = .ok (.iload_n 3, 1) := by decide +kernel
theorem dc_SR_totalEnergy_49 : decode bc_SR_totalEnergy 49 = .ok (.iaload, 1) := by decide +kernel
theorem dc_SR_totalEnergy_50 : decode bc_SR_totalEnergy 50 = .ok (.iconst 5, 1) := by decide +kernel
theorem dc_SR_totalEnergy_51 : decode bc_SR_totalEnergy 51 = .ok (.invokevirtual 67, 3) := by decide +kernel
theorem dc_SR_totalEnergy_54 : decode bc_SR_totalEnergy 54 = .ok (.iadd, 1) := by decide +kernel
theorem dc_SR_totalEnergy_55 : decode bc_SR_totalEnergy 55 = .ok (.istore_n 1, 1) := by decide +kernel
theorem dc_SR_totalEnergy_56 : decode bc_SR_totalEnergy 56 = .ok (.aload_n 0, 1) := by decide +kernel
theorem dc_SR_totalEnergy_57 : decode bc_SR_totalEnergy 57 = .ok (.getfield 9, 3) := by decide +kernel
theorem dc_SR_totalEnergy_60 : decode bc_SR_totalEnergy 60 = .ok (.iload_n 3, 1) := by decide +kernel
theorem dc_SR_totalEnergy_61 : decode bc_SR_totalEnergy 61 = .ok (.iaload, 1) := by decide +kernel
theorem dc_SR_totalEnergy_62 : decode bc_SR_totalEnergy 62 = .ok (.istore_n 2, 1) := by decide +kernel
theorem dc_SR_totalEnergy_63 : decode bc_SR_totalEnergy 63 = .ok (.iinc 3 1, 3) := by decide +kernel
theorem dc_SR_totalEnergy_66 : decode bc_SR_totalEnergy 66 = .ok (.goto (-60), 3) := by decide +kernel
theorem dc_SR_totalEnergy_69 : decode bc_SR_totalEnergy 69 = .ok (.iload_n 1, 1) := by decide +kernel
theorem dc_SR_totalEnergy_70 : decode bc_SR_totalEnergy 70 = .ok (.ireturn, 1) := by decide +kernel
abbrev bc_FS_energy : ByteArray := prog_1_method_13_code
abbrev yn_FS_energy : MethodName := ⟨"FoldedStrand", "energy", "()I"⟩
theorem vs_FS_113 : jl_v "FoldedStrand" 113 yn_SR_totalEnergy bc_SR_totalEnergy 4 (some .int) 0 := ⟨jl_T_of 470 (by decide +kernel) (by decide +kernel), jl_T_of 7 (by decide +kernel) (by decide +kernel), jl_T_of 467 (by decide +kernel) (by decide +kernel), by decide +kernel, by decide +kernel, by decide +kernel⟩
theorem vi_SR_totalEnergy : Cond.instanceMethod yn_SR_totalEnergy ∈ jl_T := jl_T_of 468 (by decide +kernel) (by decide +kernel)
theorem vx_SR_totalEnergy : Cond.selects "FoldedStrand$Structure" yn_SR_totalEnergy yn_SR_totalEnergy ∈ jl_T := jl_T_of 469 (by decide +kernel) (by decide +kernel)
theorem dc_FS_energy_0 : decode bc_FS_energy 0 = .ok (.aload_n 0, 1) := by decide +kernel
theorem dc_FS_energy_1 : decode bc_FS_energy 1 = .ok (.getfield 42, 3) := by decide +kernel
theorem dc_FS_energy_4 : decode bc_FS_energy 4 = .ok (.invokevirtual 113, 3) := by decide +kernel
theorem dc_FS_energy_7 : decode bc_FS_energy 7 = .ok (.ireturn, 1) := by decide +kernel
abbrev bc_FS_loop : ByteArray := prog_1_method_15_code
abbrev yn_FS_loop : MethodName := ⟨"FoldedStrand", "loop", "(I)I"⟩
theorem vs_FS_122 : jl_v "FoldedStrand" 122 yn_SR_opensAt bc_SR_opensAt 2 (some .boolean) 1 := ⟨jl_T_of 474 (by decide +kernel) (by decide +kernel), jl_T_of 7 (by decide +kernel) (by decide +kernel), jl_T_of 503 (by decide +kernel) (by decide +kernel), by decide +kernel, by decide +kernel, by decide +kernel⟩
theorem vs_FS_125 : jl_v "FoldedStrand" 125 yn_SR_loopEnergy bc_SR_loopEnergy 8 (some .int) 1 := ⟨jl_T_of 478 (by decide +kernel) (by decide +kernel), jl_T_of 7 (by decide +kernel) (by decide +kernel), jl_T_of 504 (by decide +kernel) (by decide +kernel), by decide +kernel, by decide +kernel, by decide +kernel⟩
theorem dc_FS_loop_0 : decode bc_FS_loop 0 = .ok (.aload_n 0, 1) := by decide +kernel
theorem dc_FS_loop_1 : decode bc_FS_loop 1 = .ok (.getfield 10, 3) := by decide +kernel
theorem dc_FS_loop_4 : decode bc_FS_loop 4 = .ok (.iload_n 1, 1) := by decide +kernel
theorem dc_FS_loop_5 : decode bc_FS_loop 5 = .ok (.invokevirtual 94, 3) := by decide +kernel
theorem dc_FS_loop_8 : decode bc_FS_loop 8 = .ok (.ifCond .eq 25, 3) := by decide +kernel
theorem dc_FS_loop_11 : decode bc_FS_loop 11 = .ok (.aload_n 0, 1) := by decide +kernel
theorem dc_FS_loop_12 : decode bc_FS_loop 12 = .ok (.getfield 42, 3) := by decide +kernel
theorem dc_FS_loop_15 : decode bc_FS_loop 15 = .ok (.iload_n 1, 1) := by decide +kernel
theorem dc_FS_loop_16 : decode bc_FS_loop 16 = .ok (.invokevirtual 122, 3) := by decide +kernel
theorem dc_FS_loop_19 : decode bc_FS_loop 19 = .ok (.ifCond .eq 14, 3) := by decide +kernel
theorem dc_FS_loop_22 : decode bc_FS_loop 22 = .ok (.aload_n 0, 1) := by decide +kernel
theorem dc_FS_loop_23 : decode bc_FS_loop 23 = .ok (.getfield 42, 3) := by decide +kernel
theorem dc_FS_loop_26 : decode bc_FS_loop 26 = .ok (.iload_n 1, 1) := by decide +kernel
theorem dc_FS_loop_27 : decode bc_FS_loop 27 = .ok (.invokevirtual 125, 3) := by decide +kernel
theorem dc_FS_loop_30 : decode bc_FS_loop 30 = .ok (.goto 4, 3) := by decide +kernel
theorem dc_FS_loop_33 : decode bc_FS_loop 33 = .ok (.iconst 0, 1) := by decide +kernel
theorem dc_FS_loop_34 : decode bc_FS_loop 34 = .ok (.ireturn, 1) := by decide +kernel
section SR
variable (l : Launch) {K : Nat → ClassId} {sa : Nat → Nat} {ad : Nat → Nat} {I : Nat → Int32} {V : Nat → Nat → Int32} {L : Nat → Int64} {C : Nat → Int32} {G : Nat → Nat} {R : Nat → Nat} {n : Nat} {b : Nat → Nat} {w : Nat → Int}
theorem c_SR1_loopEnergy (hS : st_ok K ad (gw K ad I V L C G R) n b) (hM : V 154 = fun k => iI (w k)) (hw : en_V b n w) {i j : Nat} (hij : i < j) (hwi : w i = j) : jl_C l K sa yn_SR_loopEnergy bc_SR_loopEnergy 8 (some .int) 4 125 168 ad [.ref (ad 153), .int (nI i)] (gw K ad I V L C G R) (some (.int (iI (lp_loop b w i j)))) (gw K ad I V L C G R) := by
  refine jl_enter (by decide) (Nat.le_of_ble_eq_true rfl) (fun x h he hr => ?_)
  obtain ⟨hST, hbases, hn, hb⟩ := id hS
  show jl_J x 168 ad 0 0 (gw K ad I V L C G R) 0 [(0, .ref (ad 153)), (1, .int (nI i))] []
  have hcp0 : en_cp b i j = true := by
    have := hw.2.1 i (by omega)
    rwa [hwi, Int.toNat_natCast] at this
  have hj18 : j < n := by
    rcases hw.1 i with h1 | h1 <;> omega
  obtain ⟨hcp4, hkd⟩ := en_cp_4 hcp0
  have hmat : gw K ad I V L C G R 154 = .inl (K 0, 18, .inl (fun k => iI (w k))) := gw_at rfl rfl hM
  have loop : ∀ (dd p : Nat), p + dd = j → i < p → ∀ (bs : List (Nat × Nat)) (u r la : Nat), i ≤ r → r < j → (∀ s, s ∈ bs → i < s.1 ∧ s.1 < s.2 ∧ s.2 < j ∧ w s.1 = (s.2 : Int)) → (bs = [] ∨ ∃ bs0 m, bs = bs0 ++ [(la, m)]) → tp_l w (i + 1) j = (bs ++ (tp_l w (if p ≤ r then r + 1 else p) j).1, u + (tp_l w (if p ≤ r then r + 1 else p) j).2) → u ≤ p → bs.length ≤ p → la < 18 → jl_J x 168 ad 0 0 (gw K ad I V L C G R) 31 [(7, .int (nI p)), (6, .int (nI r)), (5, .int (iI (38 + lp_wk b i j 5 + 4 * (bs.length : Int) + lp_ws b bs + u))), (4, .int (nI la)), (3, .int (nI bs.length)), (2, .int (nI j)), (0, .ref (ad 153)), (1, .int (nI i))] [] := by
    intro dd
    induction dd with
    | zero =>
      intro p hp hip bs u r la hir hrj hbs hla htp hu hlen hla18
      have hp : p = j := by omega
      subst hp
      rw [tp_end (show p ≤ (if p ≤ r then r + 1 else p) by split <;> omega), List.append_nil] at htp
      have z0 : (0 : Int32) = nI 0 := rfl
      have z1 : (1 : Int32) = nI 1 := rfl
      match bs, hbs, hla, htp, hlen with
      | [], hbs, hla, htp, hlen =>
        refine jl_iload h rfl dc_SR_loopEnergy_31 33 rfl ?_
        refine jl_iload_n (i := 2) h rfl rfl dc_SR_loopEnergy_33 34 rfl ?_
        refine jl_icmp_ge h 104 (by decide) dc_SR_loopEnergy_34 37 rfl (fun c34 => ?_) (fun c34 => absurd (nI_le (Nat.le_refl _) (by omega)) c34)
        refine jl_iload_n (i := 3) h rfl rfl dc_SR_loopEnergy_104 105 rfl ?_
        refine jl_if_ne h 118 (by decide) dc_SR_loopEnergy_105 108 rfl (fun c105 => absurd (rfl) c105) (fun c105 => ?_)
        refine jl_aload_n (i := 0) h rfl rfl dc_SR_loopEnergy_108 109 rfl ?_
        refine jl_getf h nm_c_SR 6 wl_SR_22 (by omega) (by decide) (by exact rfl) (by rfl) dc_SR_loopEnergy_109 112 rfl ?_
        refine jl_iload_n (i := 1) h rfl rfl dc_SR_loopEnergy_112 113 rfl ?_
        refine jl_iload_n (i := 2) h rfl rfl dc_SR_loopEnergy_113 114 rfl ?_
        refine jl_callV (As := [_, _]) (rest := []) h hr vs_SR_78 vi_LO_hairpin vx_LO_hairpin (ci := 2) rfl (by omega) (by exact rfl) (fun l => c_LO_hairpin l (by omega) hS rfl hcp4 (by omega)) (by first | decide | omega) (by first | decide | omega) rfl rfl (Nat.le_of_ble_eq_true rfl) dc_SR_loopEnergy_114 (res := [_]) rfl 117 rfl ?_
        exact jl_zret h he rfl (by unfold lp_loop; rw [htp]; rfl) (rfl) dc_SR_loopEnergy_117
      | [(k, m)], hbs, hla, htp, hlen =>
        have hk := hbs (k, m) List.mem_cons_self
        have hlk : la = k := by
          rcases hla with h9 | ⟨bs0, m0, h9⟩
          · cases h9
          · have h8 := congrArg List.getLast? h9
            rw [List.getLast?_concat] at h8
            have h7 := Option.some.inj h8
            exact (congrArg Prod.fst h7).symm
        subst hlk
        have hk1 : i < la ∧ la < m ∧ m < p ∧ w la = (m : Int) := hk
        have hcp1 : en_cp b la m = true := by
          have := hw.2.1 la (by omega)
          rwa [hk1.2.2.2, Int.toNat_natCast] at this
        refine jl_iload h rfl dc_SR_loopEnergy_31 33 rfl ?_
        refine jl_iload_n (i := 2) h rfl rfl dc_SR_loopEnergy_33 34 rfl ?_
        refine jl_icmp_ge h 104 (by decide) dc_SR_loopEnergy_34 37 rfl (fun c34 => ?_) (fun c34 => absurd (nI_le (Nat.le_refl _) (by omega)) c34)
        refine jl_iload_n (i := 3) h rfl rfl dc_SR_loopEnergy_104 105 rfl ?_
        refine jl_if_ne h 118 (by decide) dc_SR_loopEnergy_105 108 rfl (fun c105 => ?_) (fun c105 => absurd c105 (by show ¬ nI 1 = 0; decide))
        refine jl_iload_n (i := 3) h rfl rfl dc_SR_loopEnergy_118 119 rfl ?_
        refine jl_iconst (v := 1) h (by decide) dc_SR_loopEnergy_119 120 rfl ?_
        refine jl_icmp_ne h 144 (by decide) dc_SR_loopEnergy_120 123 rfl (fun c120 => absurd (rfl) c120) (fun c120 => ?_)
        refine jl_aload_n (i := 0) h rfl rfl dc_SR_loopEnergy_123 124 rfl ?_
        refine jl_getf h nm_c_SR 6 wl_SR_22 (by omega) (by decide) (by exact rfl) (by rfl) dc_SR_loopEnergy_124 127 rfl ?_
        refine jl_iload_n (i := 1) h rfl rfl dc_SR_loopEnergy_127 128 rfl ?_
        refine jl_iload_n (i := 2) h rfl rfl dc_SR_loopEnergy_128 129 rfl ?_
        refine jl_iload h rfl dc_SR_loopEnergy_129 131 rfl ?_
        refine jl_aload_n (i := 0) h rfl rfl dc_SR_loopEnergy_131 132 rfl ?_
        refine jl_getf h nm_c_SR 0 wl_SR_9 (by omega) (by decide) (by exact rfl) (by rfl) dc_SR_loopEnergy_132 135 rfl ?_
        refine jl_iload h rfl dc_SR_loopEnergy_135 137 rfl ?_
        refine jl_iald (v := nI m) h (la) (by exact rfl) (by omega) (by exact hmat) (by exact by omega) (by first | decide | assumption) (by exact by show iI (w la) = nI m; rw [hk1.2.2.2, iI_nat]) dc_SR_loopEnergy_137 138 rfl ?_
        refine jl_callV (As := [_, _, _, _]) (rest := []) h hr vs_SR_81 vi_LO_withOne vx_LO_withOne (ci := 2) rfl (by omega) (by exact rfl) (fun l => c_LO_withOne l (by omega) hS rfl hk1.1 hk1.2.1 hk1.2.2.1 (by omega) hkd (en_cp_4 hcp1).2) (by first | decide | omega) (by first | decide | omega) rfl rfl (Nat.le_of_ble_eq_true rfl) dc_SR_loopEnergy_138 (res := [_]) rfl 141 rfl ?_
        refine jl_goto h 146 (by decide) dc_SR_loopEnergy_141 ?_
        exact jl_zret h he rfl (by unfold lp_loop; rw [htp]; rfl) (rfl) dc_SR_loopEnergy_146
      | a :: c :: bs, hbs, hla, htp, hlen =>
        have hl2 : 2 ≤ (a :: c :: bs).length := by simp
        have hmany : lp_loop b w i p = 38 + lp_wk b i p 5 + 4 * (((a :: c :: bs).length : Nat) : Int) + lp_ws b (a :: c :: bs) + u := by
          unfold lp_loop
          rw [htp, lp_of_many hl2]
          show 34 + 4 * (((a :: c :: bs).length : Int) + 1) + ((u + 0 : Nat) : Int) + lp_wk b i p 5 + lp_ws b (a :: c :: bs) = _
          omega
        have hne0 : ¬ nI (a :: c :: bs).length = 0 := nI_ne0 (by simp) (by omega)
        have hne1 : ¬ nI (a :: c :: bs).length = 1 := by
          rw [z1, nI_eq (by omega) (by decide)]
          omega
        refine jl_iload h rfl dc_SR_loopEnergy_31 33 rfl ?_
        refine jl_iload_n (i := 2) h rfl rfl dc_SR_loopEnergy_33 34 rfl ?_
        refine jl_icmp_ge h 104 (by decide) dc_SR_loopEnergy_34 37 rfl (fun c34 => ?_) (fun c34 => absurd (nI_le (Nat.le_refl _) (by omega)) c34)
        refine jl_iload_n (i := 3) h rfl rfl dc_SR_loopEnergy_104 105 rfl ?_
        refine jl_if_ne h 118 (by decide) dc_SR_loopEnergy_105 108 rfl (fun c105 => ?_) (fun c105 => absurd c105 (hne0))
        refine jl_iload_n (i := 3) h rfl rfl dc_SR_loopEnergy_118 119 rfl ?_
        refine jl_iconst (v := 1) h (by decide) dc_SR_loopEnergy_119 120 rfl ?_
        refine jl_icmp_ne h 144 (by decide) dc_SR_loopEnergy_120 123 rfl (fun c120 => ?_) (fun c120 => absurd c120 (hne1))
        refine jl_iload h rfl dc_SR_loopEnergy_144 146 rfl ?_
        exact jl_zret h he rfl (by rw [hmany]) (rfl) dc_SR_loopEnergy_146
    | succ dd ih =>
      intro p hp hip bs u r la hir hrj hbs hla htp hu hlen hla18
      have hp18 : p < 18 := by omega
      have hin := en_V_in hw p
      have h39 : (p : Int) < w p → w p < j := fun h9 => by
        rcases hw.2.2 i p hip (by omega) with h8 | h8 <;> omega
      have hin2 : w p < 18 := by omega
      refine jl_iload h rfl dc_SR_loopEnergy_31 33 rfl ?_
      refine jl_iload_n (i := 2) h rfl rfl dc_SR_loopEnergy_33 34 rfl ?_
      refine jl_icmp_ge h 104 (by decide) dc_SR_loopEnergy_34 37 rfl (fun c34 => absurd c34 (nI_ge (by omega) (by omega))) (fun c34 => ?_)
      refine jl_iload h rfl dc_SR_loopEnergy_37 39 rfl ?_
      refine jl_iload h rfl dc_SR_loopEnergy_39 41 rfl ?_
      refine jl_icmp_le h 88 (by decide) dc_SR_loopEnergy_41 44 rfl (fun c41 => ?_) (fun c41 => ?_)
      · skip
        rw [nI_leI (by omega) (by omega)] at c41
        refine jl_iload h rfl dc_SR_loopEnergy_88 90 rfl ?_
        refine jl_iload h rfl dc_SR_loopEnergy_90 92 rfl ?_
        refine jl_icmp_le h 98 (by decide) dc_SR_loopEnergy_92 95 rfl (fun c92 => ?_) (fun c92 => ?_)
        · skip
          rw [nI_leI (by omega) (by omega)] at c92
          refine jl_iinc (i := 7) (d := 1) (lc2 := [(7, _), (6, _), (5, _), (4, _), (3, _), (2, _), (0, _), (1, _)]) (v2 := nI (p + 1)) h (by decide) rfl (nI_1 p) rfl dc_SR_loopEnergy_98 101 rfl ?_
          refine jl_goto h 31 (by decide) dc_SR_loopEnergy_101 ?_
          first
            | exact absurd c92 (by omega)
            | (have e9 : bs.length + 1 = (bs ++ [(p, m)]).length := by simp
               rw [e9]
               refine ih (p + 1) (by omega) (by omega) (bs ++ [(p, m)]) u m p (by omega) (by omega) (fun s hs => ?_) (Or.inr ⟨bs, m, rfl⟩) ?_ (by omega) (by rw [← e9]; omega) hp18
               · rcases List.mem_append.mp hs with h9 | h9
                 · exact hbs s h9
                 · rw [List.mem_singleton] at h9; subst h9; exact ⟨hip, hpm, by show m < j; omega, hm⟩
               · rw [if_neg c41, tp_pair (show p < j by omega) hpm hm] at htp
                 rw [if_pos (by omega), htp, List.append_assoc]; rfl)
            | (refine ih (p + 1) (by omega) (by omega) bs (u + 1) r la hir hrj hbs hla ?_ (by omega) (by omega) hla18
               rw [if_neg c41, tp_free (show p < j by omega) c50] at htp
               rw [if_neg (by omega), htp]
               refine Prod.ext rfl ?_
               show u + ((tp_l w (p + 1) j).2 + 1) = u + 1 + (tp_l w (p + 1) j).2
               omega)
            | (refine ih (p + 1) (by omega) (by omega) bs u r la hir hrj hbs hla ?_ (by omega) (by omega) hla18
               rw [if_pos c41] at htp
               rw [htp]
               by_cases h9 : p + 1 ≤ r
               · rw [if_pos h9]
               · rw [if_neg h9, show p + 1 = r + 1 by omega])
        · skip
          rw [nI_leI (by omega) (by omega)] at c92
          refine jl_iinc (i := 5) (d := 1) (lc2 := [(5, _), (7, _), (6, _), (4, _), (3, _), (2, _), (0, _), (1, _)]) (v2 := iI (38 + lp_wk b i j 5 + 4 * (bs.length : Int) + lp_ws b bs + ((u + 1 : Nat) : Int))) h (by decide) rfl (by rw [show Int32.ofInt 1 = iI 1 from rfl, iI_add]; congr 1; omega) rfl dc_SR_loopEnergy_95 98 rfl ?_
          refine jl_iinc (i := 7) (d := 1) (lc2 := [(7, _), (5, _), (6, _), (4, _), (3, _), (2, _), (0, _), (1, _)]) (v2 := nI (p + 1)) h (by decide) rfl (nI_1 p) rfl dc_SR_loopEnergy_98 101 rfl ?_
          refine jl_goto h 31 (by decide) dc_SR_loopEnergy_101 ?_
          refine jl_sub (lc2 := [(7, _), (6, _), (5, _), (4, _), (3, _), (2, _), (0, _), (1, _)]) [0, 2, 1, 3, 4, 5, 6, 7] rfl ?_
          first
            | exact absurd c92 (by omega)
            | (have e9 : bs.length + 1 = (bs ++ [(p, m)]).length := by simp
               rw [e9]
               refine ih (p + 1) (by omega) (by omega) (bs ++ [(p, m)]) u m p (by omega) (by omega) (fun s hs => ?_) (Or.inr ⟨bs, m, rfl⟩) ?_ (by omega) (by rw [← e9]; omega) hp18
               · rcases List.mem_append.mp hs with h9 | h9
                 · exact hbs s h9
                 · rw [List.mem_singleton] at h9; subst h9; exact ⟨hip, hpm, by show m < j; omega, hm⟩
               · rw [if_neg c41, tp_pair (show p < j by omega) hpm hm] at htp
                 rw [if_pos (by omega), htp, List.append_assoc]; rfl)
            | (refine ih (p + 1) (by omega) (by omega) bs (u + 1) r la hir hrj hbs hla ?_ (by omega) (by omega) hla18
               rw [if_neg c41, tp_free (show p < j by omega) c50] at htp
               rw [if_neg (by omega), htp]
               refine Prod.ext rfl ?_
               show u + ((tp_l w (p + 1) j).2 + 1) = u + 1 + (tp_l w (p + 1) j).2
               omega)
            | (refine ih (p + 1) (by omega) (by omega) bs u r la hir hrj hbs hla ?_ (by omega) (by omega) hla18
               rw [if_pos c41] at htp
               rw [htp]
               by_cases h9 : p + 1 ≤ r
               · rw [if_pos h9]
               · rw [if_neg h9, show p + 1 = r + 1 by omega])
      · skip
        rw [nI_leI (by omega) (by omega)] at c41
        refine jl_aload_n (i := 0) h rfl rfl dc_SR_loopEnergy_44 45 rfl ?_
        refine jl_iload h rfl dc_SR_loopEnergy_45 47 rfl ?_
        refine jl_callV (As := [_]) (rest := []) h hr vs_SR_57 vi_SR_opensAt vx_SR_opensAt (ci := 6) rfl (by omega) (by exact rfl) (fun l => c_SR1_opensAt l hM hp18 hin.1 hin2) (by first | decide | omega) (by first | decide | omega) rfl rfl (Nat.le_of_ble_eq_true rfl) dc_SR_loopEnergy_47 (res := [_]) rfl 50 rfl ?_
        refine jl_if_eq h 88 (by decide) dc_SR_loopEnergy_50 53 rfl (fun c50 => ?_) (fun c50 => ?_)
        · skip
          rw [st_b0] at c50
          have c50 := of_decide_eq_false c50
          refine jl_iload h rfl dc_SR_loopEnergy_88 90 rfl ?_
          refine jl_iload h rfl dc_SR_loopEnergy_90 92 rfl ?_
          refine jl_icmp_le h 98 (by decide) dc_SR_loopEnergy_92 95 rfl (fun c92 => ?_) (fun c92 => ?_)
          · skip
            rw [nI_leI (by omega) (by omega)] at c92
            refine jl_iinc (i := 7) (d := 1) (lc2 := [(7, _), (6, _), (5, _), (4, _), (3, _), (2, _), (0, _), (1, _)]) (v2 := nI (p + 1)) h (by decide) rfl (nI_1 p) rfl dc_SR_loopEnergy_98 101 rfl ?_
            refine jl_goto h 31 (by decide) dc_SR_loopEnergy_101 ?_
            first
              | exact absurd c92 (by omega)
              | (have e9 : bs.length + 1 = (bs ++ [(p, m)]).length := by simp
                 rw [e9]
                 refine ih (p + 1) (by omega) (by omega) (bs ++ [(p, m)]) u m p (by omega) (by omega) (fun s hs => ?_) (Or.inr ⟨bs, m, rfl⟩) ?_ (by omega) (by rw [← e9]; omega) hp18
                 · rcases List.mem_append.mp hs with h9 | h9
                   · exact hbs s h9
                   · rw [List.mem_singleton] at h9; subst h9; exact ⟨hip, hpm, by show m < j; omega, hm⟩
                 · rw [if_neg c41, tp_pair (show p < j by omega) hpm hm] at htp
                   rw [if_pos (by omega), htp, List.append_assoc]; rfl)
              | (refine ih (p + 1) (by omega) (by omega) bs (u + 1) r la hir hrj hbs hla ?_ (by omega) (by omega) hla18
                 rw [if_neg c41, tp_free (show p < j by omega) c50] at htp
                 rw [if_neg (by omega), htp]
                 refine Prod.ext rfl ?_
                 show u + ((tp_l w (p + 1) j).2 + 1) = u + 1 + (tp_l w (p + 1) j).2
                 omega)
              | (refine ih (p + 1) (by omega) (by omega) bs u r la hir hrj hbs hla ?_ (by omega) (by omega) hla18
                 rw [if_pos c41] at htp
                 rw [htp]
                 by_cases h9 : p + 1 ≤ r
                 · rw [if_pos h9]
                 · rw [if_neg h9, show p + 1 = r + 1 by omega])
          · skip
            rw [nI_leI (by omega) (by omega)] at c92
            refine jl_iinc (i := 5) (d := 1) (lc2 := [(5, _), (7, _), (6, _), (4, _), (3, _), (2, _), (0, _), (1, _)]) (v2 := iI (38 + lp_wk b i j 5 + 4 * (bs.length : Int) + lp_ws b bs + ((u + 1 : Nat) : Int))) h (by decide) rfl (by rw [show Int32.ofInt 1 = iI 1 from rfl, iI_add]; congr 1; omega) rfl dc_SR_loopEnergy_95 98 rfl ?_
            refine jl_iinc (i := 7) (d := 1) (lc2 := [(7, _), (5, _), (6, _), (4, _), (3, _), (2, _), (0, _), (1, _)]) (v2 := nI (p + 1)) h (by decide) rfl (nI_1 p) rfl dc_SR_loopEnergy_98 101 rfl ?_
            refine jl_goto h 31 (by decide) dc_SR_loopEnergy_101 ?_
            refine jl_sub (lc2 := [(7, _), (6, _), (5, _), (4, _), (3, _), (2, _), (0, _), (1, _)]) [0, 2, 1, 3, 4, 5, 6, 7] rfl ?_
            first
              | exact absurd c92 (by omega)
              | (have e9 : bs.length + 1 = (bs ++ [(p, m)]).length := by simp
                 rw [e9]
                 refine ih (p + 1) (by omega) (by omega) (bs ++ [(p, m)]) u m p (by omega) (by omega) (fun s hs => ?_) (Or.inr ⟨bs, m, rfl⟩) ?_ (by omega) (by rw [← e9]; omega) hp18
                 · rcases List.mem_append.mp hs with h9 | h9
                   · exact hbs s h9
                   · rw [List.mem_singleton] at h9; subst h9; exact ⟨hip, hpm, by show m < j; omega, hm⟩
                 · rw [if_neg c41, tp_pair (show p < j by omega) hpm hm] at htp
                   rw [if_pos (by omega), htp, List.append_assoc]; rfl)
              | (refine ih (p + 1) (by omega) (by omega) bs (u + 1) r la hir hrj hbs hla ?_ (by omega) (by omega) hla18
                 rw [if_neg c41, tp_free (show p < j by omega) c50] at htp
                 rw [if_neg (by omega), htp]
                 refine Prod.ext rfl ?_
                 show u + ((tp_l w (p + 1) j).2 + 1) = u + 1 + (tp_l w (p + 1) j).2
                 omega)
              | (refine ih (p + 1) (by omega) (by omega) bs u r la hir hrj hbs hla ?_ (by omega) (by omega) hla18
                 rw [if_pos c41] at htp
                 rw [htp]
                 by_cases h9 : p + 1 ≤ r
                 · rw [if_pos h9]
                 · rw [if_neg h9, show p + 1 = r + 1 by omega])
        · skip
          rw [st_b1] at c50
          have c50 := of_decide_eq_true c50
          obtain ⟨m, hm⟩ : ∃ m : Nat, w p = m := ⟨(w p).toNat, by omega⟩
          have hmj := h39 c50
          have hpm : p < m := by omega
          refine jl_iinc (i := 3) (d := 1) (lc2 := [(3, _), (7, _), (6, _), (5, _), (4, _), (2, _), (0, _), (1, _)]) (v2 := nI (bs.length + 1)) h (by decide) rfl (nI_1 _) rfl dc_SR_loopEnergy_53 56 rfl ?_
          refine jl_iload h rfl dc_SR_loopEnergy_56 58 rfl ?_
          refine jl_istore (i := 4) (lc2 := [(4, _), (3, _), (7, _), (6, _), (5, _), (2, _), (0, _), (1, _)]) h (by decide) rfl dc_SR_loopEnergy_58 60 rfl ?_
          refine jl_aload_n (i := 0) h rfl rfl dc_SR_loopEnergy_60 61 rfl ?_
          refine jl_getf h nm_c_SR 0 wl_SR_9 (by omega) (by decide) (by exact rfl) (by rfl) dc_SR_loopEnergy_61 64 rfl ?_
          refine jl_iload h rfl dc_SR_loopEnergy_64 66 rfl ?_
          refine jl_iald (v := nI m) h (p) (by exact rfl) (by omega) (by exact hmat) (by exact hp18) (by first | decide | assumption) (by exact by show iI (w p) = nI m; rw [hm, iI_nat]) dc_SR_loopEnergy_66 67 rfl ?_
          refine jl_istore (i := 6) (lc2 := [(6, _), (4, _), (3, _), (7, _), (5, _), (2, _), (0, _), (1, _)]) h (by decide) rfl dc_SR_loopEnergy_67 69 rfl ?_
          refine jl_iload h rfl dc_SR_loopEnergy_69 71 rfl ?_
          refine jl_aload_n (i := 0) h rfl rfl dc_SR_loopEnergy_71 72 rfl ?_
          refine jl_getf h nm_c_SR 6 wl_SR_22 (by omega) (by decide) (by exact rfl) (by rfl) dc_SR_loopEnergy_72 75 rfl ?_
          refine jl_iload h rfl dc_SR_loopEnergy_75 77 rfl ?_
          refine jl_iload h rfl dc_SR_loopEnergy_77 79 rfl ?_
          refine jl_callV (As := [_, _]) (rest := [_]) h hr vs_SR_75 vi_LO_multiBranch vx_LO_multiBranch (ci := 2) rfl (by omega) (by exact rfl) (fun l => c_LO_multiBranch l (by omega) hS rfl hp18 (show m < 18 by omega)) (by first | decide | omega) (by first | decide | omega) rfl rfl (Nat.le_of_ble_eq_true rfl) dc_SR_loopEnergy_79 (res := [_, _]) rfl 82 rfl ?_
          refine jl_iadd h dc_SR_loopEnergy_82 83 rfl ?_
          rw [show iI (38 + lp_wk b i j 5 + 4 * (bs.length : Int) + lp_ws b bs + u) + iI (4 + lp_wk b p m 5) = iI (38 + lp_wk b i j 5 + 4 * (((bs ++ [(p, m)]).length : Nat) : Int) + lp_ws b (bs ++ [(p, m)]) + u) by rw [iI_add, lp_ws_app]; congr 1; have h9 : lp_ws b [(p, m)] = lp_wk b p m 5 := Int.add_zero _; rw [h9, List.length_append, List.length_singleton]; omega]
          refine jl_istore (i := 5) (lc2 := [(5, _), (6, _), (4, _), (3, _), (7, _), (2, _), (0, _), (1, _)]) h (by decide) rfl dc_SR_loopEnergy_83 85 rfl ?_
          refine jl_goto h 98 (by decide) dc_SR_loopEnergy_85 ?_
          refine jl_iinc (i := 7) (d := 1) (lc2 := [(7, _), (5, _), (6, _), (4, _), (3, _), (2, _), (0, _), (1, _)]) (v2 := nI (p + 1)) h (by decide) rfl (nI_1 p) rfl dc_SR_loopEnergy_98 101 rfl ?_
          refine jl_goto h 31 (by decide) dc_SR_loopEnergy_101 ?_
          refine jl_sub (lc2 := [(7, _), (6, _), (5, _), (4, _), (3, _), (2, _), (0, _), (1, _)]) [0, 2, 1, 3, 4, 5, 6, 7] rfl ?_
          first
            | exact absurd c92 (by omega)
            | (have e9 : bs.length + 1 = (bs ++ [(p, m)]).length := by simp
               rw [e9]
               refine ih (p + 1) (by omega) (by omega) (bs ++ [(p, m)]) u m p (by omega) (by omega) (fun s hs => ?_) (Or.inr ⟨bs, m, rfl⟩) ?_ (by omega) (by rw [← e9]; omega) hp18
               · rcases List.mem_append.mp hs with h9 | h9
                 · exact hbs s h9
                 · rw [List.mem_singleton] at h9; subst h9; exact ⟨hip, hpm, by show m < j; omega, hm⟩
               · rw [if_neg c41, tp_pair (show p < j by omega) hpm hm] at htp
                 rw [if_pos (by omega), htp, List.append_assoc]; rfl)
            | (refine ih (p + 1) (by omega) (by omega) bs (u + 1) r la hir hrj hbs hla ?_ (by omega) (by omega) hla18
               rw [if_neg c41, tp_free (show p < j by omega) c50] at htp
               rw [if_neg (by omega), htp]
               refine Prod.ext rfl ?_
               show u + ((tp_l w (p + 1) j).2 + 1) = u + 1 + (tp_l w (p + 1) j).2
               omega)
            | (refine ih (p + 1) (by omega) (by omega) bs u r la hir hrj hbs hla ?_ (by omega) (by omega) hla18
               rw [if_pos c41] at htp
               rw [htp]
               by_cases h9 : p + 1 ≤ r
               · rw [if_pos h9]
               · rw [if_neg h9, show p + 1 = r + 1 by omega])
  have l0 := loop (j - (i + 1)) (i + 1) (by omega) (by omega) [] 0 i i (Nat.le_refl i) hij (fun s hs => absurd hs List.not_mem_nil) (Or.inl rfl) (by rw [if_neg (by omega)]; simp) (by omega) (by simp) (by omega)
  have e0 : 38 + lp_wk b i j 5 + 4 * (([] : List (Nat × Nat)).length : Int) + lp_ws b [] + ((0 : Nat) : Int) = 38 + lp_wk b i j 5 := by
    show 38 + lp_wk b i j 5 + 4 * ((0 : Nat) : Int) + 0 + ((0 : Nat) : Int) = _
    omega
  rw [e0] at l0
  refine jl_aload_n (i := 0) h rfl rfl dc_SR_loopEnergy_0 1 rfl ?_
  refine jl_getf h nm_c_SR 0 wl_SR_9 (by omega) (by decide) (by exact rfl) (by rfl) dc_SR_loopEnergy_1 4 rfl ?_
  refine jl_iload_n (i := 1) h rfl rfl dc_SR_loopEnergy_4 5 rfl ?_
  refine jl_iald (v := nI j) h (i) (by exact rfl) (by omega) (by exact hmat) (by exact by omega) (by first | decide | assumption) (by exact by show iI (w i) = nI j; rw [hwi, iI_nat]) dc_SR_loopEnergy_5 6 rfl ?_
  refine jl_istore_n (i := 2) (lc2 := [(2, _), (0, _), (1, _)]) h rfl (by decide) rfl dc_SR_loopEnergy_6 7 rfl ?_
  refine jl_iconst (v := nI 0) h (by decide) dc_SR_loopEnergy_7 8 rfl ?_
  refine jl_istore_n (i := 3) (lc2 := [(3, _), (2, _), (0, _), (1, _)]) h rfl (by decide) rfl dc_SR_loopEnergy_8 9 rfl ?_
  refine jl_iload_n (i := 1) h rfl rfl dc_SR_loopEnergy_9 10 rfl ?_
  refine jl_istore (i := 4) (lc2 := [(4, _), (3, _), (2, _), (0, _), (1, _)]) h (by decide) rfl dc_SR_loopEnergy_10 12 rfl ?_
  refine jl_aload_n (i := 0) h rfl rfl dc_SR_loopEnergy_12 13 rfl ?_
  refine jl_getf h nm_c_SR 6 wl_SR_22 (by omega) (by decide) (by exact rfl) (by rfl) dc_SR_loopEnergy_13 16 rfl ?_
  refine jl_iload_n (i := 1) h rfl rfl dc_SR_loopEnergy_16 17 rfl ?_
  refine jl_iload_n (i := 2) h rfl rfl dc_SR_loopEnergy_17 18 rfl ?_
  refine jl_callV (As := [_, _]) (rest := []) h hr vs_SR_71 vi_LO_multiClosing vx_LO_multiClosing (ci := 2) rfl (by omega) (by exact rfl) (fun l => c_LO_multiClosing l (by omega) hS rfl (by omega) (by omega)) (by first | decide | omega) (by first | decide | omega) rfl rfl (Nat.le_of_ble_eq_true rfl) dc_SR_loopEnergy_18 (res := [_]) rfl 21 rfl ?_
  refine jl_istore (i := 5) (lc2 := [(5, _), (4, _), (3, _), (2, _), (0, _), (1, _)]) h (by decide) rfl dc_SR_loopEnergy_21 23 rfl ?_
  refine jl_iload_n (i := 1) h rfl rfl dc_SR_loopEnergy_23 24 rfl ?_
  refine jl_istore (i := 6) (lc2 := [(6, _), (5, _), (4, _), (3, _), (2, _), (0, _), (1, _)]) h (by decide) rfl dc_SR_loopEnergy_24 26 rfl ?_
  refine jl_iload_n (i := 1) h rfl rfl dc_SR_loopEnergy_26 27 rfl ?_
  refine jl_iconst (v := 1) h (by decide) dc_SR_loopEnergy_27 28 rfl ?_
  refine jl_iadd h dc_SR_loopEnergy_28 29 rfl ?_
  rw [show nI i + 1 = nI (i + 1) by exact nI_1 i]
  refine jl_istore (i := 7) (lc2 := [(7, _), (6, _), (5, _), (4, _), (3, _), (2, _), (0, _), (1, _)]) h (by decide) rfl dc_SR_loopEnergy_29 31 rfl ?_
  exact l0
theorem c_SR1_totalEnergy (hS : st_ok K ad (gw K ad I V L C G R) n b) (hM : V 154 = fun k => iI (w k)) (hw : en_V b n w) : jl_C l K sa yn_SR_totalEnergy bc_SR_totalEnergy 4 (some .int) 5 155 168 ad [.ref (ad 153)] (gw K ad I V L C G R) (some (.int (iI (st_E b n w)))) (gw K ad I V L C G R) := by
  refine jl_enter (by decide) (Nat.le_of_ble_eq_true rfl) (fun x h he hr => ?_)
  obtain ⟨hST, hbases, hn, hb⟩ := id hS
  show jl_J x 168 ad 0 0 (gw K ad I V L C G R) 0 [(0, .ref (ad 153))] []
  have hmat : gw K ad I V L C G R 154 = .inl (K 0, 18, .inl (fun k => iI (w k))) := gw_at rfl rfl hM
  have loop : ∀ (dd p : Nat), p + dd = n → ∀ (bs : List (Nat × Nat)) (r : Int), -1 ≤ r → r < n → (tp_l w 0 n).1 = bs ++ (tp_l w (if (p : Int) ≤ r then r.toNat + 1 else p) n).1 → jl_J x 168 ad 0 0 (gw K ad I V L C G R) 6 [(3, .int (nI p)), (2, .int (iI r)), (1, .int (iI (st_S b w p + lp_ws b bs))), (0, .ref (ad 153))] [] := by
    intro dd
    induction dd with
    | zero =>
      intro p hp bs r hr1 hr2 htp
      have hp : p = n := by omega
      subst hp
      rw [tp_end (show p ≤ (if (p : Int) ≤ r then r.toNat + 1 else p) by split <;> omega), List.append_nil] at htp
      refine jl_iload_n (i := 3) h rfl rfl dc_SR_totalEnergy_6 7 rfl ?_
      refine jl_aload_n (i := 0) h rfl rfl dc_SR_totalEnergy_7 8 rfl ?_
      refine jl_getf h nm_c_SR 5 wl_SR_18 (by omega) (by decide) (by exact rfl) (by rfl) dc_SR_totalEnergy_8 11 rfl ?_
      refine jl_callV (As := []) (rest := [_]) h hr vs_SR_45 vi_ST_size vx_ST_size (ci := 1) rfl (by omega) (by exact hST) (fun l => c_ST_size l (by omega) hS) (by first | decide | omega) (by first | decide | omega) rfl rfl (Nat.le_of_ble_eq_true rfl) dc_SR_totalEnergy_11 (res := [_, _]) rfl 14 rfl ?_
      refine jl_icmp_ge h 69 (by decide) dc_SR_totalEnergy_14 17 rfl (fun c14 => ?_) (fun c14 => absurd (nI_le (Nat.le_refl _) (by omega)) c14)
      refine jl_iload_n (i := 1) h rfl rfl dc_SR_totalEnergy_69 70 rfl ?_
      exact jl_zret h he rfl (by unfold st_E; rw [htp]) (rfl) dc_SR_totalEnergy_70
    | succ dd ih =>
      intro p hp bs r hr1 hr2 htp
      have hp18 : p < 18 := by omega
      have hin := en_V_in hw p
      have hin2 : w p < 18 := by rcases hw.1 p with h1 | h1 <;> omega
      have hSn : ¬ (p : Int) < w p → st_S b w (p + 1) = st_S b w p := fun h9 => by
        show st_S b w p + (if (p : Int) < w p then _ else 0) = _
        rw [if_neg h9]
        omega
      have hSy : ∀ m : Nat, p < m → w p = m → st_S b w (p + 1) = st_S b w p + lp_loop b w p m := fun m h8 h9 => by
        show st_S b w p + (if (p : Int) < w p then _ else 0) = _
        rw [if_pos (by omega), h9, Int.toNat_natCast]
      refine jl_iload_n (i := 3) h rfl rfl dc_SR_totalEnergy_6 7 rfl ?_
      refine jl_aload_n (i := 0) h rfl rfl dc_SR_totalEnergy_7 8 rfl ?_
      refine jl_getf h nm_c_SR 5 wl_SR_18 (by omega) (by decide) (by exact rfl) (by rfl) dc_SR_totalEnergy_8 11 rfl ?_
      refine jl_callV (As := []) (rest := [_]) h hr vs_SR_45 vi_ST_size vx_ST_size (ci := 1) rfl (by omega) (by exact hST) (fun l => c_ST_size l (by omega) hS) (by first | decide | omega) (by first | decide | omega) rfl rfl (Nat.le_of_ble_eq_true rfl) dc_SR_totalEnergy_11 (res := [_, _]) rfl 14 rfl ?_
      refine jl_icmp_ge h 69 (by decide) dc_SR_totalEnergy_14 17 rfl (fun c14 => absurd c14 (nI_ge (by omega) (by omega))) (fun c14 => ?_)
      refine jl_aload_n (i := 0) h rfl rfl dc_SR_totalEnergy_17 18 rfl ?_
      refine jl_iload_n (i := 3) h rfl rfl dc_SR_totalEnergy_18 19 rfl ?_
      refine jl_callV (As := [_]) (rest := []) h hr vs_SR_57 vi_SR_opensAt vx_SR_opensAt (ci := 6) rfl (by omega) (by exact rfl) (fun l => c_SR1_opensAt l hM hp18 hin.1 hin2) (by first | decide | omega) (by first | decide | omega) rfl rfl (Nat.le_of_ble_eq_true rfl) dc_SR_totalEnergy_19 (res := [_]) rfl 22 rfl ?_
      refine jl_if_eq h 63 (by decide) dc_SR_totalEnergy_22 25 rfl (fun c22 => ?_) (fun c22 => ?_)
      · skip
        rw [st_b0] at c22
        have c22 := of_decide_eq_false c22
        refine jl_iinc (i := 3) (d := 1) (lc2 := [(3, _), (2, _), (1, _), (0, _)]) (v2 := nI (p + 1)) h (by decide) rfl (nI_1 p) rfl dc_SR_totalEnergy_63 66 rfl ?_
        refine jl_goto h 6 (by decide) dc_SR_totalEnergy_66 ?_
        first
          | (refine ih (p + 1) (by omega) (bs ++ [(p, m)]) m (by omega) (by omega) ?_
             rw [if_neg (by omega), tp_pair (show p < n by omega) hpm hm] at htp
             rw [if_pos (by omega), htp, Int.toNat_natCast, List.append_assoc]
             rfl)
          | (refine ih (p + 1) (by omega) bs r hr1 hr2 ?_
             rw [if_pos (by omega)] at htp
             rw [htp]
             by_cases h9 : ((p + 1 : Nat) : Int) ≤ r
             · rw [if_pos h9]
             · rw [if_neg h9, show p + 1 = r.toNat + 1 by omega])
          | (rw [← hSn c22]
             refine ih (p + 1) (by omega) bs r hr1 hr2 ?_
             by_cases h8 : (p : Int) ≤ r
             · rw [if_pos h8] at htp
               rw [htp]
               by_cases h9 : ((p + 1 : Nat) : Int) ≤ r
               · rw [if_pos h9]
               · rw [if_neg h9, show p + 1 = r.toNat + 1 by omega]
             · rw [if_neg h8, tp_free (show p < n by omega) c22] at htp
               rw [if_neg (by omega), htp])
      · skip
        rw [st_b1] at c22
        have c22 := of_decide_eq_true c22
        obtain ⟨m, hm⟩ : ∃ m : Nat, w p = m := ⟨(w p).toNat, by omega⟩
        have hpm : p < m := by omega
        have hmn : m < n := by rcases hw.1 p with h1 | h1 <;> omega
        refine jl_iload_n (i := 1) h rfl rfl dc_SR_totalEnergy_25 26 rfl ?_
        refine jl_aload_n (i := 0) h rfl rfl dc_SR_totalEnergy_26 27 rfl ?_
        refine jl_iload_n (i := 3) h rfl rfl dc_SR_totalEnergy_27 28 rfl ?_
        refine jl_callV (As := [_]) (rest := [_]) h hr vs_SR_61 vi_SR_loopEnergy vx_SR_loopEnergy (ci := 6) rfl (by omega) (by exact rfl) (fun l => c_SR1_loopEnergy l hS hM hw hpm hm) (by first | decide | omega) (by first | decide | omega) rfl rfl (Nat.le_of_ble_eq_true rfl) dc_SR_totalEnergy_28 (res := [_, _]) rfl 31 rfl ?_
        refine jl_iadd h dc_SR_totalEnergy_31 32 rfl ?_
        rw [show iI (st_S b w p + lp_ws b bs) + iI (lp_loop b w p m) = iI (st_S b w (p + 1) + lp_ws b bs) by rw [iI_add, hSy m hpm hm]; congr 1; omega]
        refine jl_istore_n (i := 1) (lc2 := [(1, _), (3, _), (2, _), (0, _)]) h rfl (by decide) rfl dc_SR_totalEnergy_32 33 rfl ?_
        refine jl_iload_n (i := 3) h rfl rfl dc_SR_totalEnergy_33 34 rfl ?_
        refine jl_iload_n (i := 2) h rfl rfl dc_SR_totalEnergy_34 35 rfl ?_
        refine jl_icmp_le h 63 (by decide) dc_SR_totalEnergy_35 38 rfl (fun c35 => ?_) (fun c35 => ?_)
        · skip
          rw [← iI_nat, iI_le (by omega) (by omega) (by omega) (by omega)] at c35
          refine jl_iinc (i := 3) (d := 1) (lc2 := [(3, _), (1, _), (2, _), (0, _)]) (v2 := nI (p + 1)) h (by decide) rfl (nI_1 p) rfl dc_SR_totalEnergy_63 66 rfl ?_
          refine jl_goto h 6 (by decide) dc_SR_totalEnergy_66 ?_
          refine jl_sub (lc2 := [(3, _), (2, _), (1, _), (0, _)]) [0, 2, 1, 3] rfl ?_
          first
            | (refine ih (p + 1) (by omega) (bs ++ [(p, m)]) m (by omega) (by omega) ?_
               rw [if_neg (by omega), tp_pair (show p < n by omega) hpm hm] at htp
               rw [if_pos (by omega), htp, Int.toNat_natCast, List.append_assoc]
               rfl)
            | (refine ih (p + 1) (by omega) bs r hr1 hr2 ?_
               rw [if_pos (by omega)] at htp
               rw [htp]
               by_cases h9 : ((p + 1 : Nat) : Int) ≤ r
               · rw [if_pos h9]
               · rw [if_neg h9, show p + 1 = r.toNat + 1 by omega])
            | (rw [← hSn c22]
               refine ih (p + 1) (by omega) bs r hr1 hr2 ?_
               by_cases h8 : (p : Int) ≤ r
               · rw [if_pos h8] at htp
                 rw [htp]
                 by_cases h9 : ((p + 1 : Nat) : Int) ≤ r
                 · rw [if_pos h9]
                 · rw [if_neg h9, show p + 1 = r.toNat + 1 by omega]
               · rw [if_neg h8, tp_free (show p < n by omega) c22] at htp
                 rw [if_neg (by omega), htp])
        · skip
          rw [← iI_nat, iI_le (by omega) (by omega) (by omega) (by omega)] at c35
          refine jl_iload_n (i := 1) h rfl rfl dc_SR_totalEnergy_38 39 rfl ?_
          refine jl_aload_n (i := 0) h rfl rfl dc_SR_totalEnergy_39 40 rfl ?_
          refine jl_getf h nm_c_SR 5 wl_SR_18 (by omega) (by decide) (by exact rfl) (by rfl) dc_SR_totalEnergy_40 43 rfl ?_
          refine jl_iload_n (i := 3) h rfl rfl dc_SR_totalEnergy_43 44 rfl ?_
          refine jl_aload_n (i := 0) h rfl rfl dc_SR_totalEnergy_44 45 rfl ?_
          refine jl_getf h nm_c_SR 0 wl_SR_9 (by omega) (by decide) (by exact rfl) (by rfl) dc_SR_totalEnergy_45 48 rfl ?_
          refine jl_iload_n (i := 3) h rfl rfl dc_SR_totalEnergy_48 49 rfl ?_
          refine jl_iald (v := nI m) h (p) (by exact rfl) (by omega) (by exact hmat) (by exact hp18) (by first | decide | assumption) (by exact by show iI (w p) = nI m; rw [hm, iI_nat]) dc_SR_totalEnergy_49 50 rfl ?_
          refine jl_iconst (v := iI 5) h (by decide) dc_SR_totalEnergy_50 51 rfl ?_
          refine jl_callV (As := [_, _, _]) (rest := [_]) h hr vs_SR_67 vi_ST_ifWeak vx_ST_ifWeak (ci := 1) rfl (by omega) (by exact hST) (fun l => c_ST_ifWeak l (by omega) hS hp18 (show m < 18 by omega) 5) (by first | decide | omega) (by first | decide | omega) rfl rfl (Nat.le_of_ble_eq_true rfl) dc_SR_totalEnergy_51 (res := [_, _]) rfl 54 rfl ?_
          refine jl_iadd h dc_SR_totalEnergy_54 55 rfl ?_
          rw [show iI (st_S b w (p + 1) + lp_ws b bs) + iI (if 2 ≤ en_kd (b p) (b m) then 5 else 0) = iI (st_S b w (p + 1) + lp_ws b (bs ++ [(p, m)])) by rw [iI_add, lp_ws_app]; congr 1; have h9 : lp_ws b [(p, m)] = lp_wk b p m 5 := Int.add_zero _; rw [h9]; show _ + _ + lp_wk b p m 5 = _; omega]
          refine jl_istore_n (i := 1) (lc2 := [(1, _), (3, _), (2, _), (0, _)]) h rfl (by decide) rfl dc_SR_totalEnergy_55 56 rfl ?_
          refine jl_aload_n (i := 0) h rfl rfl dc_SR_totalEnergy_56 57 rfl ?_
          refine jl_getf h nm_c_SR 0 wl_SR_9 (by omega) (by decide) (by exact rfl) (by rfl) dc_SR_totalEnergy_57 60 rfl ?_
          refine jl_iload_n (i := 3) h rfl rfl dc_SR_totalEnergy_60 61 rfl ?_
          refine jl_iald (v := iI (m : Int)) h (p) (by exact rfl) (by omega) (by exact hmat) (by exact hp18) (by first | decide | assumption) (by exact by show iI (w p) = iI m; rw [hm]) dc_SR_totalEnergy_61 62 rfl ?_
          refine jl_istore_n (i := 2) (lc2 := [(2, _), (1, _), (3, _), (0, _)]) h rfl (by decide) rfl dc_SR_totalEnergy_62 63 rfl ?_
          refine jl_iinc (i := 3) (d := 1) (lc2 := [(3, _), (2, _), (1, _), (0, _)]) (v2 := nI (p + 1)) h (by decide) rfl (nI_1 p) rfl dc_SR_totalEnergy_63 66 rfl ?_
          refine jl_goto h 6 (by decide) dc_SR_totalEnergy_66 ?_
          first
            | (refine ih (p + 1) (by omega) (bs ++ [(p, m)]) m (by omega) (by omega) ?_
               rw [if_neg (by omega), tp_pair (show p < n by omega) hpm hm] at htp
               rw [if_pos (by omega), htp, Int.toNat_natCast, List.append_assoc]
               rfl)
            | (refine ih (p + 1) (by omega) bs r hr1 hr2 ?_
               rw [if_pos (by omega)] at htp
               rw [htp]
               by_cases h9 : ((p + 1 : Nat) : Int) ≤ r
               · rw [if_pos h9]
               · rw [if_neg h9, show p + 1 = r.toNat + 1 by omega])
            | (rw [← hSn c22]
               refine ih (p + 1) (by omega) bs r hr1 hr2 ?_
               by_cases h8 : (p : Int) ≤ r
               · rw [if_pos h8] at htp
                 rw [htp]
                 by_cases h9 : ((p + 1 : Nat) : Int) ≤ r
                 · rw [if_pos h9]
                 · rw [if_neg h9, show p + 1 = r.toNat + 1 by omega]
               · rw [if_neg h8, tp_free (show p < n by omega) c22] at htp
                 rw [if_neg (by omega), htp])
  have l0 := loop n 0 (by omega) [] (-1) (by omega) (by omega) (by rw [if_neg (by omega)]; simp)
  have e0 : st_S b w 0 + lp_ws b [] = 0 := rfl
  rw [e0] at l0
  refine jl_iconst (v := iI 0) h (by decide) dc_SR_totalEnergy_0 1 rfl ?_
  refine jl_istore_n (i := 1) (lc2 := [(1, _), (0, _)]) h rfl (by decide) rfl dc_SR_totalEnergy_1 2 rfl ?_
  refine jl_iconst (v := iI (-1)) h (by decide) dc_SR_totalEnergy_2 3 rfl ?_
  refine jl_istore_n (i := 2) (lc2 := [(2, _), (1, _), (0, _)]) h rfl (by decide) rfl dc_SR_totalEnergy_3 4 rfl ?_
  refine jl_iconst (v := nI 0) h (by decide) dc_SR_totalEnergy_4 5 rfl ?_
  refine jl_istore_n (i := 3) (lc2 := [(3, _), (2, _), (1, _), (0, _)]) h rfl (by decide) rfl dc_SR_totalEnergy_5 6 rfl ?_
  exact l0
theorem c_FS1_energy (hG : G 0 = 153) (hS : st_ok K ad (gw K ad I V L C G R) n b) (hM : V 154 = fun k => iI (w k)) (hw : en_V b n w) : jl_C l K sa yn_FS_energy bc_FS_energy 1 (some .int) 6 180 168 ad [.ref (ad 0)] (gw K ad I V L C G R) (some (.int (iI (st_E b n w)))) (gw K ad I V L C G R) := by
  refine jl_enter (by decide) (Nat.le_of_ble_eq_true rfl) (fun x h he hr => ?_)
  show jl_J x 168 ad 0 0 (gw K ad I V L C G R) 0 [(0, .ref (ad 0))] []
  refine jl_aload_n (i := 0) h rfl rfl dc_FS_energy_0 1 rfl ?_
  refine jl_getf (v := .ref (ad 153)) h nm_c_FS 5 wl_FS_42 (by omega) (by decide) (by exact rfl) (by exact fs_r hG) dc_FS_energy_1 4 rfl ?_
  refine jl_callV (As := []) (rest := []) h hr vs_FS_113 vi_SR_totalEnergy vx_SR_totalEnergy (ci := 6) rfl (by omega) (by exact rfl) (fun l => c_SR1_totalEnergy l hS hM hw) (by first | decide | omega) (by first | decide | omega) rfl rfl (Nat.le_of_ble_eq_true rfl) dc_FS_energy_4 (res := [_]) rfl 7 rfl ?_
  exact jl_zret h he rfl (rfl) (rfl) dc_FS_energy_7
theorem c_FS1_loop_no (hG : G 0 = 153) (hS : st_ok K ad (gw K ad I V L C G R) n b) (q : Int32) (hq : ¬ (¬ q < 0 ∧ q < nI n)) : jl_C l K sa yn_FS_loop bc_FS_loop 2 (some .int) 5 160 168 ad [.ref (ad 0), .int q] (gw K ad I V L C G R) (some (.int 0)) (gw K ad I V L C G R) := by
  refine jl_enter (by decide) (Nat.le_of_ble_eq_true rfl) (fun x h he hr => ?_)
  show jl_J x 168 ad 0 0 (gw K ad I V L C G R) 0 [(0, .ref (ad 0)), (1, .int q)] []
  refine jl_aload_n (i := 0) h rfl rfl dc_FS_loop_0 1 rfl ?_
  refine jl_getf h nm_c_FS 0 wl_FS_10 (by omega) (by decide) (by exact rfl) (by rfl) dc_FS_loop_1 4 rfl ?_
  refine jl_iload_n (i := 1) h rfl rfl dc_FS_loop_4 5 rfl ?_
  refine jl_callV (As := [_]) (rest := []) h hr vs_FS_94 vi_ST_has vx_ST_has (ci := 1) rfl (by omega) (by exact hS.1) (fun l => c_ST_has l (by omega) hS q) (by first | decide | omega) (by first | decide | omega) rfl rfl (Nat.le_of_ble_eq_true rfl) dc_FS_loop_5 (res := [_]) rfl 8 rfl ?_
  refine jl_if_eq h 33 (by decide) dc_FS_loop_8 11 rfl (fun c8 => ?_) (fun c8 => absurd (by rw [st_b0]; exact decide_eq_false hq) c8)
  refine jl_iconst (v := 0) h (by decide) dc_FS_loop_33 34 rfl ?_
  exact jl_zret h he rfl (rfl) (rfl) dc_FS_loop_34
theorem c_FS1_loop (hG : G 0 = 153) (hS : st_ok K ad (gw K ad I V L C G R) n b) (hM : V 154 = fun i => iI (w i)) (hw : en_V b n w) {i : Nat} (hi : i < n) : jl_C l K sa yn_FS_loop bc_FS_loop 2 (some .int) 5 160 168 ad [.ref (ad 0), .int (nI i)] (gw K ad I V L C G R) (some (.int (iI (if (i : Int) < w i then lp_loop b w i (w i).toNat else 0)))) (gw K ad I V L C G R) := by
  refine jl_enter (by decide) (Nat.le_of_ble_eq_true rfl) (fun x h he hr => ?_)
  obtain ⟨hST, hbases, hn, hb⟩ := id hS
  show jl_J x 168 ad 0 0 (gw K ad I V L C G R) 0 [(0, .ref (ad 0)), (1, .int (nI i))] []
  have hin := en_V_in hw i
  have hin2 : w i < 18 := by rcases hw.1 i with h1 | h1 <;> omega
  refine jl_aload_n (i := 0) h rfl rfl dc_FS_loop_0 1 rfl ?_
  refine jl_getf h nm_c_FS 0 wl_FS_10 (by omega) (by decide) (by exact rfl) (by rfl) dc_FS_loop_1 4 rfl ?_
  refine jl_iload_n (i := 1) h rfl rfl dc_FS_loop_4 5 rfl ?_
  refine jl_callV (As := [_]) (rest := []) h hr vs_FS_94 vi_ST_has vx_ST_has (ci := 1) rfl (by omega) (by exact hS.1) (fun l => c_ST_has l (by omega) hS (nI i)) (by first | decide | omega) (by first | decide | omega) rfl rfl (Nat.le_of_ble_eq_true rfl) dc_FS_loop_5 (res := [_]) rfl 8 rfl ?_
  refine jl_if_eq h 33 (by decide) dc_FS_loop_8 11 rfl (fun c8 => absurd c8 (by rw [st_b1]; exact decide_eq_true ⟨nI_pos (by omega), nI_lt hi (by omega)⟩)) (fun c8 => ?_)
  refine jl_aload_n (i := 0) h rfl rfl dc_FS_loop_11 12 rfl ?_
  refine jl_getf (v := .ref (ad 153)) h nm_c_FS 5 wl_FS_42 (by omega) (by decide) (by exact rfl) (by exact fs_r hG) dc_FS_loop_12 15 rfl ?_
  refine jl_iload_n (i := 1) h rfl rfl dc_FS_loop_15 16 rfl ?_
  refine jl_callV (As := [_]) (rest := []) h hr vs_FS_122 vi_SR_opensAt vx_SR_opensAt (ci := 6) rfl (by omega) (by exact rfl) (fun l => c_SR1_opensAt l hM (by omega) hin.1 hin2) (by first | decide | omega) (by first | decide | omega) rfl rfl (Nat.le_of_ble_eq_true rfl) dc_FS_loop_16 (res := [_]) rfl 19 rfl ?_
  refine jl_if_eq h 33 (by decide) dc_FS_loop_19 22 rfl (fun c19 => ?_) (fun c19 => ?_)
  · skip
    rw [st_b0] at c19
    have c19 := of_decide_eq_false c19
    refine jl_iconst (v := 0) h (by decide) dc_FS_loop_33 34 rfl ?_
    exact jl_zret h he rfl (by first | (rw [if_neg c19]; rfl) | rw [if_pos c19, hm, Int.toNat_natCast]) (rfl) dc_FS_loop_34
  · skip
    rw [st_b1] at c19
    have c19 := of_decide_eq_true c19
    obtain ⟨m, hm⟩ : ∃ m : Nat, w i = m := ⟨(w i).toNat, by omega⟩
    refine jl_aload_n (i := 0) h rfl rfl dc_FS_loop_22 23 rfl ?_
    refine jl_getf (v := .ref (ad 153)) h nm_c_FS 5 wl_FS_42 (by omega) (by decide) (by exact rfl) (by exact fs_r hG) dc_FS_loop_23 26 rfl ?_
    refine jl_iload_n (i := 1) h rfl rfl dc_FS_loop_26 27 rfl ?_
    refine jl_callV (As := [_]) (rest := []) h hr vs_FS_125 vi_SR_loopEnergy vx_SR_loopEnergy (ci := 6) rfl (by omega) (by exact rfl) (fun l => c_SR1_loopEnergy l hS hM hw (show i < m by omega) hm) (by first | decide | omega) (by first | decide | omega) rfl rfl (Nat.le_of_ble_eq_true rfl) dc_FS_loop_27 (res := [_]) rfl 30 rfl ?_
    refine jl_goto h 34 (by decide) dc_FS_loop_30 ?_
    exact jl_zret h he rfl (by first | (rw [if_neg c19]; rfl) | rw [if_pos c19, hm, Int.toNat_natCast]) (rfl) dc_FS_loop_34
theorem c_SR2_loopEnergy (hS : st_ok K ad (gw K ad I V L C G R) n b) (hM : V 157 = fun k => iI (w k)) (hw : en_V b n w) {i j : Nat} (hij : i < j) (hwi : w i = j) : jl_C l K sa yn_SR_loopEnergy bc_SR_loopEnergy 8 (some .int) 4 125 168 ad [.ref (ad 156), .int (nI i)] (gw K ad I V L C G R) (some (.int (iI (lp_loop b w i j)))) (gw K ad I V L C G R) := by
  refine jl_enter (by decide) (Nat.le_of_ble_eq_true rfl) (fun x h he hr => ?_)
  obtain ⟨hST, hbases, hn, hb⟩ := id hS
  show jl_J x 168 ad 0 0 (gw K ad I V L C G R) 0 [(0, .ref (ad 156)), (1, .int (nI i))] []
  have hcp0 : en_cp b i j = true := by
    have := hw.2.1 i (by omega)
    rwa [hwi, Int.toNat_natCast] at this
  have hj18 : j < n := by
    rcases hw.1 i with h1 | h1 <;> omega
  obtain ⟨hcp4, hkd⟩ := en_cp_4 hcp0
  have hmat : gw K ad I V L C G R 157 = .inl (K 0, 18, .inl (fun k => iI (w k))) := gw_at rfl rfl hM
  have loop : ∀ (dd p : Nat), p + dd = j → i < p → ∀ (bs : List (Nat × Nat)) (u r la : Nat), i ≤ r → r < j → (∀ s, s ∈ bs → i < s.1 ∧ s.1 < s.2 ∧ s.2 < j ∧ w s.1 = (s.2 : Int)) → (bs = [] ∨ ∃ bs0 m, bs = bs0 ++ [(la, m)]) → tp_l w (i + 1) j = (bs ++ (tp_l w (if p ≤ r then r + 1 else p) j).1, u + (tp_l w (if p ≤ r then r + 1 else p) j).2) → u ≤ p → bs.length ≤ p → la < 18 → jl_J x 168 ad 0 0 (gw K ad I V L C G R) 31 [(7, .int (nI p)), (6, .int (nI r)), (5, .int (iI (38 + lp_wk b i j 5 + 4 * (bs.length : Int) + lp_ws b bs + u))), (4, .int (nI la)), (3, .int (nI bs.length)), (2, .int (nI j)), (0, .ref (ad 156)), (1, .int (nI i))] [] := by
    intro dd
    induction dd with
    | zero =>
      intro p hp hip bs u r la hir hrj hbs hla htp hu hlen hla18
      have hp : p = j := by omega
      subst hp
      rw [tp_end (show p ≤ (if p ≤ r then r + 1 else p) by split <;> omega), List.append_nil] at htp
      have z0 : (0 : Int32) = nI 0 := rfl
      have z1 : (1 : Int32) = nI 1 := rfl
      match bs, hbs, hla, htp, hlen with
      | [], hbs, hla, htp, hlen =>
        refine jl_iload h rfl dc_SR_loopEnergy_31 33 rfl ?_
        refine jl_iload_n (i := 2) h rfl rfl dc_SR_loopEnergy_33 34 rfl ?_
        refine jl_icmp_ge h 104 (by decide) dc_SR_loopEnergy_34 37 rfl (fun c34 => ?_) (fun c34 => absurd (nI_le (Nat.le_refl _) (by omega)) c34)
        refine jl_iload_n (i := 3) h rfl rfl dc_SR_loopEnergy_104 105 rfl ?_
        refine jl_if_ne h 118 (by decide) dc_SR_loopEnergy_105 108 rfl (fun c105 => absurd (rfl) c105) (fun c105 => ?_)
        refine jl_aload_n (i := 0) h rfl rfl dc_SR_loopEnergy_108 109 rfl ?_
        refine jl_getf h nm_c_SR 6 wl_SR_22 (by omega) (by decide) (by exact rfl) (by rfl) dc_SR_loopEnergy_109 112 rfl ?_
        refine jl_iload_n (i := 1) h rfl rfl dc_SR_loopEnergy_112 113 rfl ?_
        refine jl_iload_n (i := 2) h rfl rfl dc_SR_loopEnergy_113 114 rfl ?_
        refine jl_callV (As := [_, _]) (rest := []) h hr vs_SR_78 vi_LO_hairpin vx_LO_hairpin (ci := 2) rfl (by omega) (by exact rfl) (fun l => c_LO_hairpin l (by omega) hS rfl hcp4 (by omega)) (by first | decide | omega) (by first | decide | omega) rfl rfl (Nat.le_of_ble_eq_true rfl) dc_SR_loopEnergy_114 (res := [_]) rfl 117 rfl ?_
        exact jl_zret h he rfl (by unfold lp_loop; rw [htp]; rfl) (rfl) dc_SR_loopEnergy_117
      | [(k, m)], hbs, hla, htp, hlen =>
        have hk := hbs (k, m) List.mem_cons_self
        have hlk : la = k := by
          rcases hla with h9 | ⟨bs0, m0, h9⟩
          · cases h9
          · have h8 := congrArg List.getLast? h9
            rw [List.getLast?_concat] at h8
            have h7 := Option.some.inj h8
            exact (congrArg Prod.fst h7).symm
        subst hlk
        have hk1 : i < la ∧ la < m ∧ m < p ∧ w la = (m : Int) := hk
        have hcp1 : en_cp b la m = true := by
          have := hw.2.1 la (by omega)
          rwa [hk1.2.2.2, Int.toNat_natCast] at this
        refine jl_iload h rfl dc_SR_loopEnergy_31 33 rfl ?_
        refine jl_iload_n (i := 2) h rfl rfl dc_SR_loopEnergy_33 34 rfl ?_
        refine jl_icmp_ge h 104 (by decide) dc_SR_loopEnergy_34 37 rfl (fun c34 => ?_) (fun c34 => absurd (nI_le (Nat.le_refl _) (by omega)) c34)
        refine jl_iload_n (i := 3) h rfl rfl dc_SR_loopEnergy_104 105 rfl ?_
        refine jl_if_ne h 118 (by decide) dc_SR_loopEnergy_105 108 rfl (fun c105 => ?_) (fun c105 => absurd c105 (by show ¬ nI 1 = 0; decide))
        refine jl_iload_n (i := 3) h rfl rfl dc_SR_loopEnergy_118 119 rfl ?_
        refine jl_iconst (v := 1) h (by decide) dc_SR_loopEnergy_119 120 rfl ?_
        refine jl_icmp_ne h 144 (by decide) dc_SR_loopEnergy_120 123 rfl (fun c120 => absurd (rfl) c120) (fun c120 => ?_)
        refine jl_aload_n (i := 0) h rfl rfl dc_SR_loopEnergy_123 124 rfl ?_
        refine jl_getf h nm_c_SR 6 wl_SR_22 (by omega) (by decide) (by exact rfl) (by rfl) dc_SR_loopEnergy_124 127 rfl ?_
        refine jl_iload_n (i := 1) h rfl rfl dc_SR_loopEnergy_127 128 rfl ?_
        refine jl_iload_n (i := 2) h rfl rfl dc_SR_loopEnergy_128 129 rfl ?_
        refine jl_iload h rfl dc_SR_loopEnergy_129 131 rfl ?_
        refine jl_aload_n (i := 0) h rfl rfl dc_SR_loopEnergy_131 132 rfl ?_
        refine jl_getf h nm_c_SR 0 wl_SR_9 (by omega) (by decide) (by exact rfl) (by rfl) dc_SR_loopEnergy_132 135 rfl ?_
        refine jl_iload h rfl dc_SR_loopEnergy_135 137 rfl ?_
        refine jl_iald (v := nI m) h (la) (by exact rfl) (by omega) (by exact hmat) (by exact by omega) (by first | decide | assumption) (by exact by show iI (w la) = nI m; rw [hk1.2.2.2, iI_nat]) dc_SR_loopEnergy_137 138 rfl ?_
        refine jl_callV (As := [_, _, _, _]) (rest := []) h hr vs_SR_81 vi_LO_withOne vx_LO_withOne (ci := 2) rfl (by omega) (by exact rfl) (fun l => c_LO_withOne l (by omega) hS rfl hk1.1 hk1.2.1 hk1.2.2.1 (by omega) hkd (en_cp_4 hcp1).2) (by first | decide | omega) (by first | decide | omega) rfl rfl (Nat.le_of_ble_eq_true rfl) dc_SR_loopEnergy_138 (res := [_]) rfl 141 rfl ?_
        refine jl_goto h 146 (by decide) dc_SR_loopEnergy_141 ?_
        exact jl_zret h he rfl (by unfold lp_loop; rw [htp]; rfl) (rfl) dc_SR_loopEnergy_146
      | a :: c :: bs, hbs, hla, htp, hlen =>
        have hl2 : 2 ≤ (a :: c :: bs).length := by simp
        have hmany : lp_loop b w i p = 38 + lp_wk b i p 5 + 4 * (((a :: c :: bs).length : Nat) : Int) + lp_ws b (a :: c :: bs) + u := by
          unfold lp_loop
          rw [htp, lp_of_many hl2]
          show 34 + 4 * (((a :: c :: bs).length : Int) + 1) + ((u + 0 : Nat) : Int) + lp_wk b i p 5 + lp_ws b (a :: c :: bs) = _
          omega
        have hne0 : ¬ nI (a :: c :: bs).length = 0 := nI_ne0 (by simp) (by omega)
        have hne1 : ¬ nI (a :: c :: bs).length = 1 := by
          rw [z1, nI_eq (by omega) (by decide)]
          omega
        refine jl_iload h rfl dc_SR_loopEnergy_31 33 rfl ?_
        refine jl_iload_n (i := 2) h rfl rfl dc_SR_loopEnergy_33 34 rfl ?_
        refine jl_icmp_ge h 104 (by decide) dc_SR_loopEnergy_34 37 rfl (fun c34 => ?_) (fun c34 => absurd (nI_le (Nat.le_refl _) (by omega)) c34)
        refine jl_iload_n (i := 3) h rfl rfl dc_SR_loopEnergy_104 105 rfl ?_
        refine jl_if_ne h 118 (by decide) dc_SR_loopEnergy_105 108 rfl (fun c105 => ?_) (fun c105 => absurd c105 (hne0))
        refine jl_iload_n (i := 3) h rfl rfl dc_SR_loopEnergy_118 119 rfl ?_
        refine jl_iconst (v := 1) h (by decide) dc_SR_loopEnergy_119 120 rfl ?_
        refine jl_icmp_ne h 144 (by decide) dc_SR_loopEnergy_120 123 rfl (fun c120 => ?_) (fun c120 => absurd c120 (hne1))
        refine jl_iload h rfl dc_SR_loopEnergy_144 146 rfl ?_
        exact jl_zret h he rfl (by rw [hmany]) (rfl) dc_SR_loopEnergy_146
    | succ dd ih =>
      intro p hp hip bs u r la hir hrj hbs hla htp hu hlen hla18
      have hp18 : p < 18 := by omega
      have hin := en_V_in hw p
      have h39 : (p : Int) < w p → w p < j := fun h9 => by
        rcases hw.2.2 i p hip (by omega) with h8 | h8 <;> omega
      have hin2 : w p < 18 := by omega
      refine jl_iload h rfl dc_SR_loopEnergy_31 33 rfl ?_
      refine jl_iload_n (i := 2) h rfl rfl dc_SR_loopEnergy_33 34 rfl ?_
      refine jl_icmp_ge h 104 (by decide) dc_SR_loopEnergy_34 37 rfl (fun c34 => absurd c34 (nI_ge (by omega) (by omega))) (fun c34 => ?_)
      refine jl_iload h rfl dc_SR_loopEnergy_37 39 rfl ?_
      refine jl_iload h rfl dc_SR_loopEnergy_39 41 rfl ?_
      refine jl_icmp_le h 88 (by decide) dc_SR_loopEnergy_41 44 rfl (fun c41 => ?_) (fun c41 => ?_)
      · skip
        rw [nI_leI (by omega) (by omega)] at c41
        refine jl_iload h rfl dc_SR_loopEnergy_88 90 rfl ?_
        refine jl_iload h rfl dc_SR_loopEnergy_90 92 rfl ?_
        refine jl_icmp_le h 98 (by decide) dc_SR_loopEnergy_92 95 rfl (fun c92 => ?_) (fun c92 => ?_)
        · skip
          rw [nI_leI (by omega) (by omega)] at c92
          refine jl_iinc (i := 7) (d := 1) (lc2 := [(7, _), (6, _), (5, _), (4, _), (3, _), (2, _), (0, _), (1, _)]) (v2 := nI (p + 1)) h (by decide) rfl (nI_1 p) rfl dc_SR_loopEnergy_98 101 rfl ?_
          refine jl_goto h 31 (by decide) dc_SR_loopEnergy_101 ?_
          first
            | exact absurd c92 (by omega)
            | (have e9 : bs.length + 1 = (bs ++ [(p, m)]).length := by simp
               rw [e9]
               refine ih (p + 1) (by omega) (by omega) (bs ++ [(p, m)]) u m p (by omega) (by omega) (fun s hs => ?_) (Or.inr ⟨bs, m, rfl⟩) ?_ (by omega) (by rw [← e9]; omega) hp18
               · rcases List.mem_append.mp hs with h9 | h9
                 · exact hbs s h9
                 · rw [List.mem_singleton] at h9; subst h9; exact ⟨hip, hpm, by show m < j; omega, hm⟩
               · rw [if_neg c41, tp_pair (show p < j by omega) hpm hm] at htp
                 rw [if_pos (by omega), htp, List.append_assoc]; rfl)
            | (refine ih (p + 1) (by omega) (by omega) bs (u + 1) r la hir hrj hbs hla ?_ (by omega) (by omega) hla18
               rw [if_neg c41, tp_free (show p < j by omega) c50] at htp
               rw [if_neg (by omega), htp]
               refine Prod.ext rfl ?_
               show u + ((tp_l w (p + 1) j).2 + 1) = u + 1 + (tp_l w (p + 1) j).2
               omega)
            | (refine ih (p + 1) (by omega) (by omega) bs u r la hir hrj hbs hla ?_ (by omega) (by omega) hla18
               rw [if_pos c41] at htp
               rw [htp]
               by_cases h9 : p + 1 ≤ r
               · rw [if_pos h9]
               · rw [if_neg h9, show p + 1 = r + 1 by omega])
        · skip
          rw [nI_leI (by omega) (by omega)] at c92
          refine jl_iinc (i := 5) (d := 1) (lc2 := [(5, _), (7, _), (6, _), (4, _), (3, _), (2, _), (0, _), (1, _)]) (v2 := iI (38 + lp_wk b i j 5 + 4 * (bs.length : Int) + lp_ws b bs + ((u + 1 : Nat) : Int))) h (by decide) rfl (by rw [show Int32.ofInt 1 = iI 1 from rfl, iI_add]; congr 1; omega) rfl dc_SR_loopEnergy_95 98 rfl ?_
          refine jl_iinc (i := 7) (d := 1) (lc2 := [(7, _), (5, _), (6, _), (4, _), (3, _), (2, _), (0, _), (1, _)]) (v2 := nI (p + 1)) h (by decide) rfl (nI_1 p) rfl dc_SR_loopEnergy_98 101 rfl ?_
          refine jl_goto h 31 (by decide) dc_SR_loopEnergy_101 ?_
          refine jl_sub (lc2 := [(7, _), (6, _), (5, _), (4, _), (3, _), (2, _), (0, _), (1, _)]) [0, 2, 1, 3, 4, 5, 6, 7] rfl ?_
          first
            | exact absurd c92 (by omega)
            | (have e9 : bs.length + 1 = (bs ++ [(p, m)]).length := by simp
               rw [e9]
               refine ih (p + 1) (by omega) (by omega) (bs ++ [(p, m)]) u m p (by omega) (by omega) (fun s hs => ?_) (Or.inr ⟨bs, m, rfl⟩) ?_ (by omega) (by rw [← e9]; omega) hp18
               · rcases List.mem_append.mp hs with h9 | h9
                 · exact hbs s h9
                 · rw [List.mem_singleton] at h9; subst h9; exact ⟨hip, hpm, by show m < j; omega, hm⟩
               · rw [if_neg c41, tp_pair (show p < j by omega) hpm hm] at htp
                 rw [if_pos (by omega), htp, List.append_assoc]; rfl)
            | (refine ih (p + 1) (by omega) (by omega) bs (u + 1) r la hir hrj hbs hla ?_ (by omega) (by omega) hla18
               rw [if_neg c41, tp_free (show p < j by omega) c50] at htp
               rw [if_neg (by omega), htp]
               refine Prod.ext rfl ?_
               show u + ((tp_l w (p + 1) j).2 + 1) = u + 1 + (tp_l w (p + 1) j).2
               omega)
            | (refine ih (p + 1) (by omega) (by omega) bs u r la hir hrj hbs hla ?_ (by omega) (by omega) hla18
               rw [if_pos c41] at htp
               rw [htp]
               by_cases h9 : p + 1 ≤ r
               · rw [if_pos h9]
               · rw [if_neg h9, show p + 1 = r + 1 by omega])
      · skip
        rw [nI_leI (by omega) (by omega)] at c41
        refine jl_aload_n (i := 0) h rfl rfl dc_SR_loopEnergy_44 45 rfl ?_
        refine jl_iload h rfl dc_SR_loopEnergy_45 47 rfl ?_
        refine jl_callV (As := [_]) (rest := []) h hr vs_SR_57 vi_SR_opensAt vx_SR_opensAt (ci := 6) rfl (by omega) (by exact rfl) (fun l => c_SR2_opensAt l hM hp18 hin.1 hin2) (by first | decide | omega) (by first | decide | omega) rfl rfl (Nat.le_of_ble_eq_true rfl) dc_SR_loopEnergy_47 (res := [_]) rfl 50 rfl ?_
        refine jl_if_eq h 88 (by decide) dc_SR_loopEnergy_50 53 rfl (fun c50 => ?_) (fun c50 => ?_)
        · skip
          rw [st_b0] at c50
          have c50 := of_decide_eq_false c50
          refine jl_iload h rfl dc_SR_loopEnergy_88 90 rfl ?_
          refine jl_iload h rfl dc_SR_loopEnergy_90 92 rfl ?_
          refine jl_icmp_le h 98 (by decide) dc_SR_loopEnergy_92 95 rfl (fun c92 => ?_) (fun c92 => ?_)
          · skip
            rw [nI_leI (by omega) (by omega)] at c92
            refine jl_iinc (i := 7) (d := 1) (lc2 := [(7, _), (6, _), (5, _), (4, _), (3, _), (2, _), (0, _), (1, _)]) (v2 := nI (p + 1)) h (by decide) rfl (nI_1 p) rfl dc_SR_loopEnergy_98 101 rfl ?_
            refine jl_goto h 31 (by decide) dc_SR_loopEnergy_101 ?_
            first
              | exact absurd c92 (by omega)
              | (have e9 : bs.length + 1 = (bs ++ [(p, m)]).length := by simp
                 rw [e9]
                 refine ih (p + 1) (by omega) (by omega) (bs ++ [(p, m)]) u m p (by omega) (by omega) (fun s hs => ?_) (Or.inr ⟨bs, m, rfl⟩) ?_ (by omega) (by rw [← e9]; omega) hp18
                 · rcases List.mem_append.mp hs with h9 | h9
                   · exact hbs s h9
                   · rw [List.mem_singleton] at h9; subst h9; exact ⟨hip, hpm, by show m < j; omega, hm⟩
                 · rw [if_neg c41, tp_pair (show p < j by omega) hpm hm] at htp
                   rw [if_pos (by omega), htp, List.append_assoc]; rfl)
              | (refine ih (p + 1) (by omega) (by omega) bs (u + 1) r la hir hrj hbs hla ?_ (by omega) (by omega) hla18
                 rw [if_neg c41, tp_free (show p < j by omega) c50] at htp
                 rw [if_neg (by omega), htp]
                 refine Prod.ext rfl ?_
                 show u + ((tp_l w (p + 1) j).2 + 1) = u + 1 + (tp_l w (p + 1) j).2
                 omega)
              | (refine ih (p + 1) (by omega) (by omega) bs u r la hir hrj hbs hla ?_ (by omega) (by omega) hla18
                 rw [if_pos c41] at htp
                 rw [htp]
                 by_cases h9 : p + 1 ≤ r
                 · rw [if_pos h9]
                 · rw [if_neg h9, show p + 1 = r + 1 by omega])
          · skip
            rw [nI_leI (by omega) (by omega)] at c92
            refine jl_iinc (i := 5) (d := 1) (lc2 := [(5, _), (7, _), (6, _), (4, _), (3, _), (2, _), (0, _), (1, _)]) (v2 := iI (38 + lp_wk b i j 5 + 4 * (bs.length : Int) + lp_ws b bs + ((u + 1 : Nat) : Int))) h (by decide) rfl (by rw [show Int32.ofInt 1 = iI 1 from rfl, iI_add]; congr 1; omega) rfl dc_SR_loopEnergy_95 98 rfl ?_
            refine jl_iinc (i := 7) (d := 1) (lc2 := [(7, _), (5, _), (6, _), (4, _), (3, _), (2, _), (0, _), (1, _)]) (v2 := nI (p + 1)) h (by decide) rfl (nI_1 p) rfl dc_SR_loopEnergy_98 101 rfl ?_
            refine jl_goto h 31 (by decide) dc_SR_loopEnergy_101 ?_
            refine jl_sub (lc2 := [(7, _), (6, _), (5, _), (4, _), (3, _), (2, _), (0, _), (1, _)]) [0, 2, 1, 3, 4, 5, 6, 7] rfl ?_
            first
              | exact absurd c92 (by omega)
              | (have e9 : bs.length + 1 = (bs ++ [(p, m)]).length := by simp
                 rw [e9]
                 refine ih (p + 1) (by omega) (by omega) (bs ++ [(p, m)]) u m p (by omega) (by omega) (fun s hs => ?_) (Or.inr ⟨bs, m, rfl⟩) ?_ (by omega) (by rw [← e9]; omega) hp18
                 · rcases List.mem_append.mp hs with h9 | h9
                   · exact hbs s h9
                   · rw [List.mem_singleton] at h9; subst h9; exact ⟨hip, hpm, by show m < j; omega, hm⟩
                 · rw [if_neg c41, tp_pair (show p < j by omega) hpm hm] at htp
                   rw [if_pos (by omega), htp, List.append_assoc]; rfl)
              | (refine ih (p + 1) (by omega) (by omega) bs (u + 1) r la hir hrj hbs hla ?_ (by omega) (by omega) hla18
                 rw [if_neg c41, tp_free (show p < j by omega) c50] at htp
                 rw [if_neg (by omega), htp]
                 refine Prod.ext rfl ?_
                 show u + ((tp_l w (p + 1) j).2 + 1) = u + 1 + (tp_l w (p + 1) j).2
                 omega)
              | (refine ih (p + 1) (by omega) (by omega) bs u r la hir hrj hbs hla ?_ (by omega) (by omega) hla18
                 rw [if_pos c41] at htp
                 rw [htp]
                 by_cases h9 : p + 1 ≤ r
                 · rw [if_pos h9]
                 · rw [if_neg h9, show p + 1 = r + 1 by omega])
        · skip
          rw [st_b1] at c50
          have c50 := of_decide_eq_true c50
          obtain ⟨m, hm⟩ : ∃ m : Nat, w p = m := ⟨(w p).toNat, by omega⟩
          have hmj := h39 c50
          have hpm : p < m := by omega
          refine jl_iinc (i := 3) (d := 1) (lc2 := [(3, _), (7, _), (6, _), (5, _), (4, _), (2, _), (0, _), (1, _)]) (v2 := nI (bs.length + 1)) h (by decide) rfl (nI_1 _) rfl dc_SR_loopEnergy_53 56 rfl ?_
          refine jl_iload h rfl dc_SR_loopEnergy_56 58 rfl ?_
          refine jl_istore (i := 4) (lc2 := [(4, _), (3, _), (7, _), (6, _), (5, _), (2, _), (0, _), (1, _)]) h (by decide) rfl dc_SR_loopEnergy_58 60 rfl ?_
          refine jl_aload_n (i := 0) h rfl rfl dc_SR_loopEnergy_60 61 rfl ?_
          refine jl_getf h nm_c_SR 0 wl_SR_9 (by omega) (by decide) (by exact rfl) (by rfl) dc_SR_loopEnergy_61 64 rfl ?_
          refine jl_iload h rfl dc_SR_loopEnergy_64 66 rfl ?_
          refine jl_iald (v := nI m) h (p) (by exact rfl) (by omega) (by exact hmat) (by exact hp18) (by first | decide | assumption) (by exact by show iI (w p) = nI m; rw [hm, iI_nat]) dc_SR_loopEnergy_66 67 rfl ?_
          refine jl_istore (i := 6) (lc2 := [(6, _), (4, _), (3, _), (7, _), (5, _), (2, _), (0, _), (1, _)]) h (by decide) rfl dc_SR_loopEnergy_67 69 rfl ?_
          refine jl_iload h rfl dc_SR_loopEnergy_69 71 rfl ?_
          refine jl_aload_n (i := 0) h rfl rfl dc_SR_loopEnergy_71 72 rfl ?_
          refine jl_getf h nm_c_SR 6 wl_SR_22 (by omega) (by decide) (by exact rfl) (by rfl) dc_SR_loopEnergy_72 75 rfl ?_
          refine jl_iload h rfl dc_SR_loopEnergy_75 77 rfl ?_
          refine jl_iload h rfl dc_SR_loopEnergy_77 79 rfl ?_
          refine jl_callV (As := [_, _]) (rest := [_]) h hr vs_SR_75 vi_LO_multiBranch vx_LO_multiBranch (ci := 2) rfl (by omega) (by exact rfl) (fun l => c_LO_multiBranch l (by omega) hS rfl hp18 (show m < 18 by omega)) (by first | decide | omega) (by first | decide | omega) rfl rfl (Nat.le_of_ble_eq_true rfl) dc_SR_loopEnergy_79 (res := [_, _]) rfl 82 rfl ?_
          refine jl_iadd h dc_SR_loopEnergy_82 83 rfl ?_
          rw [show iI (38 + lp_wk b i j 5 + 4 * (bs.length : Int) + lp_ws b bs + u) + iI (4 + lp_wk b p m 5) = iI (38 + lp_wk b i j 5 + 4 * (((bs ++ [(p, m)]).length : Nat) : Int) + lp_ws b (bs ++ [(p, m)]) + u) by rw [iI_add, lp_ws_app]; congr 1; have h9 : lp_ws b [(p, m)] = lp_wk b p m 5 := Int.add_zero _; rw [h9, List.length_append, List.length_singleton]; omega]
          refine jl_istore (i := 5) (lc2 := [(5, _), (6, _), (4, _), (3, _), (7, _), (2, _), (0, _), (1, _)]) h (by decide) rfl dc_SR_loopEnergy_83 85 rfl ?_
          refine jl_goto h 98 (by decide) dc_SR_loopEnergy_85 ?_
          refine jl_iinc (i := 7) (d := 1) (lc2 := [(7, _), (5, _), (6, _), (4, _), (3, _), (2, _), (0, _), (1, _)]) (v2 := nI (p + 1)) h (by decide) rfl (nI_1 p) rfl dc_SR_loopEnergy_98 101 rfl ?_
          refine jl_goto h 31 (by decide) dc_SR_loopEnergy_101 ?_
          refine jl_sub (lc2 := [(7, _), (6, _), (5, _), (4, _), (3, _), (2, _), (0, _), (1, _)]) [0, 2, 1, 3, 4, 5, 6, 7] rfl ?_
          first
            | exact absurd c92 (by omega)
            | (have e9 : bs.length + 1 = (bs ++ [(p, m)]).length := by simp
               rw [e9]
               refine ih (p + 1) (by omega) (by omega) (bs ++ [(p, m)]) u m p (by omega) (by omega) (fun s hs => ?_) (Or.inr ⟨bs, m, rfl⟩) ?_ (by omega) (by rw [← e9]; omega) hp18
               · rcases List.mem_append.mp hs with h9 | h9
                 · exact hbs s h9
                 · rw [List.mem_singleton] at h9; subst h9; exact ⟨hip, hpm, by show m < j; omega, hm⟩
               · rw [if_neg c41, tp_pair (show p < j by omega) hpm hm] at htp
                 rw [if_pos (by omega), htp, List.append_assoc]; rfl)
            | (refine ih (p + 1) (by omega) (by omega) bs (u + 1) r la hir hrj hbs hla ?_ (by omega) (by omega) hla18
               rw [if_neg c41, tp_free (show p < j by omega) c50] at htp
               rw [if_neg (by omega), htp]
               refine Prod.ext rfl ?_
               show u + ((tp_l w (p + 1) j).2 + 1) = u + 1 + (tp_l w (p + 1) j).2
               omega)
            | (refine ih (p + 1) (by omega) (by omega) bs u r la hir hrj hbs hla ?_ (by omega) (by omega) hla18
               rw [if_pos c41] at htp
               rw [htp]
               by_cases h9 : p + 1 ≤ r
               · rw [if_pos h9]
               · rw [if_neg h9, show p + 1 = r + 1 by omega])
  have l0 := loop (j - (i + 1)) (i + 1) (by omega) (by omega) [] 0 i i (Nat.le_refl i) hij (fun s hs => absurd hs List.not_mem_nil) (Or.inl rfl) (by rw [if_neg (by omega)]; simp) (by omega) (by simp) (by omega)
  have e0 : 38 + lp_wk b i j 5 + 4 * (([] : List (Nat × Nat)).length : Int) + lp_ws b [] + ((0 : Nat) : Int) = 38 + lp_wk b i j 5 := by
    show 38 + lp_wk b i j 5 + 4 * ((0 : Nat) : Int) + 0 + ((0 : Nat) : Int) = _
    omega
  rw [e0] at l0
  refine jl_aload_n (i := 0) h rfl rfl dc_SR_loopEnergy_0 1 rfl ?_
  refine jl_getf h nm_c_SR 0 wl_SR_9 (by omega) (by decide) (by exact rfl) (by rfl) dc_SR_loopEnergy_1 4 rfl ?_
  refine jl_iload_n (i := 1) h rfl rfl dc_SR_loopEnergy_4 5 rfl ?_
  refine jl_iald (v := nI j) h (i) (by exact rfl) (by omega) (by exact hmat) (by exact by omega) (by first | decide | assumption) (by exact by show iI (w i) = nI j; rw [hwi, iI_nat]) dc_SR_loopEnergy_5 6 rfl ?_
  refine jl_istore_n (i := 2) (lc2 := [(2, _), (0, _), (1, _)]) h rfl (by decide) rfl dc_SR_loopEnergy_6 7 rfl ?_
  refine jl_iconst (v := nI 0) h (by decide) dc_SR_loopEnergy_7 8 rfl ?_
  refine jl_istore_n (i := 3) (lc2 := [(3, _), (2, _), (0, _), (1, _)]) h rfl (by decide) rfl dc_SR_loopEnergy_8 9 rfl ?_
  refine jl_iload_n (i := 1) h rfl rfl dc_SR_loopEnergy_9 10 rfl ?_
  refine jl_istore (i := 4) (lc2 := [(4, _), (3, _), (2, _), (0, _), (1, _)]) h (by decide) rfl dc_SR_loopEnergy_10 12 rfl ?_
  refine jl_aload_n (i := 0) h rfl rfl dc_SR_loopEnergy_12 13 rfl ?_
  refine jl_getf h nm_c_SR 6 wl_SR_22 (by omega) (by decide) (by exact rfl) (by rfl) dc_SR_loopEnergy_13 16 rfl ?_
  refine jl_iload_n (i := 1) h rfl rfl dc_SR_loopEnergy_16 17 rfl ?_
  refine jl_iload_n (i := 2) h rfl rfl dc_SR_loopEnergy_17 18 rfl ?_
  refine jl_callV (As := [_, _]) (rest := []) h hr vs_SR_71 vi_LO_multiClosing vx_LO_multiClosing (ci := 2) rfl (by omega) (by exact rfl) (fun l => c_LO_multiClosing l (by omega) hS rfl (by omega) (by omega)) (by first | decide | omega) (by first | decide | omega) rfl rfl (Nat.le_of_ble_eq_true rfl) dc_SR_loopEnergy_18 (res := [_]) rfl 21 rfl ?_
  refine jl_istore (i := 5) (lc2 := [(5, _), (4, _), (3, _), (2, _), (0, _), (1, _)]) h (by decide) rfl dc_SR_loopEnergy_21 23 rfl ?_
  refine jl_iload_n (i := 1) h rfl rfl dc_SR_loopEnergy_23 24 rfl ?_
  refine jl_istore (i := 6) (lc2 := [(6, _), (5, _), (4, _), (3, _), (2, _), (0, _), (1, _)]) h (by decide) rfl dc_SR_loopEnergy_24 26 rfl ?_
  refine jl_iload_n (i := 1) h rfl rfl dc_SR_loopEnergy_26 27 rfl ?_
  refine jl_iconst (v := 1) h (by decide) dc_SR_loopEnergy_27 28 rfl ?_
  refine jl_iadd h dc_SR_loopEnergy_28 29 rfl ?_
  rw [show nI i + 1 = nI (i + 1) by exact nI_1 i]
  refine jl_istore (i := 7) (lc2 := [(7, _), (6, _), (5, _), (4, _), (3, _), (2, _), (0, _), (1, _)]) h (by decide) rfl dc_SR_loopEnergy_29 31 rfl ?_
  exact l0
theorem c_SR2_totalEnergy (hS : st_ok K ad (gw K ad I V L C G R) n b) (hM : V 157 = fun k => iI (w k)) (hw : en_V b n w) : jl_C l K sa yn_SR_totalEnergy bc_SR_totalEnergy 4 (some .int) 5 155 168 ad [.ref (ad 156)] (gw K ad I V L C G R) (some (.int (iI (st_E b n w)))) (gw K ad I V L C G R) := by
  refine jl_enter (by decide) (Nat.le_of_ble_eq_true rfl) (fun x h he hr => ?_)
  obtain ⟨hST, hbases, hn, hb⟩ := id hS
  show jl_J x 168 ad 0 0 (gw K ad I V L C G R) 0 [(0, .ref (ad 156))] []
  have hmat : gw K ad I V L C G R 157 = .inl (K 0, 18, .inl (fun k => iI (w k))) := gw_at rfl rfl hM
  have loop : ∀ (dd p : Nat), p + dd = n → ∀ (bs : List (Nat × Nat)) (r : Int), -1 ≤ r → r < n → (tp_l w 0 n).1 = bs ++ (tp_l w (if (p : Int) ≤ r then r.toNat + 1 else p) n).1 → jl_J x 168 ad 0 0 (gw K ad I V L C G R) 6 [(3, .int (nI p)), (2, .int (iI r)), (1, .int (iI (st_S b w p + lp_ws b bs))), (0, .ref (ad 156))] [] := by
    intro dd
    induction dd with
    | zero =>
      intro p hp bs r hr1 hr2 htp
      have hp : p = n := by omega
      subst hp
      rw [tp_end (show p ≤ (if (p : Int) ≤ r then r.toNat + 1 else p) by split <;> omega), List.append_nil] at htp
      refine jl_iload_n (i := 3) h rfl rfl dc_SR_totalEnergy_6 7 rfl ?_
      refine jl_aload_n (i := 0) h rfl rfl dc_SR_totalEnergy_7 8 rfl ?_
      refine jl_getf h nm_c_SR 5 wl_SR_18 (by omega) (by decide) (by exact rfl) (by rfl) dc_SR_totalEnergy_8 11 rfl ?_
      refine jl_callV (As := []) (rest := [_]) h hr vs_SR_45 vi_ST_size vx_ST_size (ci := 1) rfl (by omega) (by exact hST) (fun l => c_ST_size l (by omega) hS) (by first | decide | omega) (by first | decide | omega) rfl rfl (Nat.le_of_ble_eq_true rfl) dc_SR_totalEnergy_11 (res := [_, _]) rfl 14 rfl ?_
      refine jl_icmp_ge h 69 (by decide) dc_SR_totalEnergy_14 17 rfl (fun c14 => ?_) (fun c14 => absurd (nI_le (Nat.le_refl _) (by omega)) c14)
      refine jl_iload_n (i := 1) h rfl rfl dc_SR_totalEnergy_69 70 rfl ?_
      exact jl_zret h he rfl (by unfold st_E; rw [htp]) (rfl) dc_SR_totalEnergy_70
    | succ dd ih =>
      intro p hp bs r hr1 hr2 htp
      have hp18 : p < 18 := by omega
      have hin := en_V_in hw p
      have hin2 : w p < 18 := by rcases hw.1 p with h1 | h1 <;> omega
      have hSn : ¬ (p : Int) < w p → st_S b w (p + 1) = st_S b w p := fun h9 => by
        show st_S b w p + (if (p : Int) < w p then _ else 0) = _
        rw [if_neg h9]
        omega
      have hSy : ∀ m : Nat, p < m → w p = m → st_S b w (p + 1) = st_S b w p + lp_loop b w p m := fun m h8 h9 => by
        show st_S b w p + (if (p : Int) < w p then _ else 0) = _
        rw [if_pos (by omega), h9, Int.toNat_natCast]
      refine jl_iload_n (i := 3) h rfl rfl dc_SR_totalEnergy_6 7 rfl ?_
      refine jl_aload_n (i := 0) h rfl rfl dc_SR_totalEnergy_7 8 rfl ?_
      refine jl_getf h nm_c_SR 5 wl_SR_18 (by omega) (by decide) (by exact rfl) (by rfl) dc_SR_totalEnergy_8 11 rfl ?_
      refine jl_callV (As := []) (rest := [_]) h hr vs_SR_45 vi_ST_size vx_ST_size (ci := 1) rfl (by omega) (by exact hST) (fun l => c_ST_size l (by omega) hS) (by first | decide | omega) (by first | decide | omega) rfl rfl (Nat.le_of_ble_eq_true rfl) dc_SR_totalEnergy_11 (res := [_, _]) rfl 14 rfl ?_
      refine jl_icmp_ge h 69 (by decide) dc_SR_totalEnergy_14 17 rfl (fun c14 => absurd c14 (nI_ge (by omega) (by omega))) (fun c14 => ?_)
      refine jl_aload_n (i := 0) h rfl rfl dc_SR_totalEnergy_17 18 rfl ?_
      refine jl_iload_n (i := 3) h rfl rfl dc_SR_totalEnergy_18 19 rfl ?_
      refine jl_callV (As := [_]) (rest := []) h hr vs_SR_57 vi_SR_opensAt vx_SR_opensAt (ci := 6) rfl (by omega) (by exact rfl) (fun l => c_SR2_opensAt l hM hp18 hin.1 hin2) (by first | decide | omega) (by first | decide | omega) rfl rfl (Nat.le_of_ble_eq_true rfl) dc_SR_totalEnergy_19 (res := [_]) rfl 22 rfl ?_
      refine jl_if_eq h 63 (by decide) dc_SR_totalEnergy_22 25 rfl (fun c22 => ?_) (fun c22 => ?_)
      · skip
        rw [st_b0] at c22
        have c22 := of_decide_eq_false c22
        refine jl_iinc (i := 3) (d := 1) (lc2 := [(3, _), (2, _), (1, _), (0, _)]) (v2 := nI (p + 1)) h (by decide) rfl (nI_1 p) rfl dc_SR_totalEnergy_63 66 rfl ?_
        refine jl_goto h 6 (by decide) dc_SR_totalEnergy_66 ?_
        first
          | (refine ih (p + 1) (by omega) (bs ++ [(p, m)]) m (by omega) (by omega) ?_
             rw [if_neg (by omega), tp_pair (show p < n by omega) hpm hm] at htp
             rw [if_pos (by omega), htp, Int.toNat_natCast, List.append_assoc]
             rfl)
          | (refine ih (p + 1) (by omega) bs r hr1 hr2 ?_
             rw [if_pos (by omega)] at htp
             rw [htp]
             by_cases h9 : ((p + 1 : Nat) : Int) ≤ r
             · rw [if_pos h9]
             · rw [if_neg h9, show p + 1 = r.toNat + 1 by omega])
          | (rw [← hSn c22]
             refine ih (p + 1) (by omega) bs r hr1 hr2 ?_
             by_cases h8 : (p : Int) ≤ r
             · rw [if_pos h8] at htp
               rw [htp]
               by_cases h9 : ((p + 1 : Nat) : Int) ≤ r
               · rw [if_pos h9]
               · rw [if_neg h9, show p + 1 = r.toNat + 1 by omega]
             · rw [if_neg h8, tp_free (show p < n by omega) c22] at htp
               rw [if_neg (by omega), htp])
      · skip
        rw [st_b1] at c22
        have c22 := of_decide_eq_true c22
        obtain ⟨m, hm⟩ : ∃ m : Nat, w p = m := ⟨(w p).toNat, by omega⟩
        have hpm : p < m := by omega
        have hmn : m < n := by rcases hw.1 p with h1 | h1 <;> omega
        refine jl_iload_n (i := 1) h rfl rfl dc_SR_totalEnergy_25 26 rfl ?_
        refine jl_aload_n (i := 0) h rfl rfl dc_SR_totalEnergy_26 27 rfl ?_
        refine jl_iload_n (i := 3) h rfl rfl dc_SR_totalEnergy_27 28 rfl ?_
        refine jl_callV (As := [_]) (rest := [_]) h hr vs_SR_61 vi_SR_loopEnergy vx_SR_loopEnergy (ci := 6) rfl (by omega) (by exact rfl) (fun l => c_SR2_loopEnergy l hS hM hw hpm hm) (by first | decide | omega) (by first | decide | omega) rfl rfl (Nat.le_of_ble_eq_true rfl) dc_SR_totalEnergy_28 (res := [_, _]) rfl 31 rfl ?_
        refine jl_iadd h dc_SR_totalEnergy_31 32 rfl ?_
        rw [show iI (st_S b w p + lp_ws b bs) + iI (lp_loop b w p m) = iI (st_S b w (p + 1) + lp_ws b bs) by rw [iI_add, hSy m hpm hm]; congr 1; omega]
        refine jl_istore_n (i := 1) (lc2 := [(1, _), (3, _), (2, _), (0, _)]) h rfl (by decide) rfl dc_SR_totalEnergy_32 33 rfl ?_
        refine jl_iload_n (i := 3) h rfl rfl dc_SR_totalEnergy_33 34 rfl ?_
        refine jl_iload_n (i := 2) h rfl rfl dc_SR_totalEnergy_34 35 rfl ?_
        refine jl_icmp_le h 63 (by decide) dc_SR_totalEnergy_35 38 rfl (fun c35 => ?_) (fun c35 => ?_)
        · skip
          rw [← iI_nat, iI_le (by omega) (by omega) (by omega) (by omega)] at c35
          refine jl_iinc (i := 3) (d := 1) (lc2 := [(3, _), (1, _), (2, _), (0, _)]) (v2 := nI (p + 1)) h (by decide) rfl (nI_1 p) rfl dc_SR_totalEnergy_63 66 rfl ?_
          refine jl_goto h 6 (by decide) dc_SR_totalEnergy_66 ?_
          refine jl_sub (lc2 := [(3, _), (2, _), (1, _), (0, _)]) [0, 2, 1, 3] rfl ?_
          first
            | (refine ih (p + 1) (by omega) (bs ++ [(p, m)]) m (by omega) (by omega) ?_
               rw [if_neg (by omega), tp_pair (show p < n by omega) hpm hm] at htp
               rw [if_pos (by omega), htp, Int.toNat_natCast, List.append_assoc]
               rfl)
            | (refine ih (p + 1) (by omega) bs r hr1 hr2 ?_
               rw [if_pos (by omega)] at htp
               rw [htp]
               by_cases h9 : ((p + 1 : Nat) : Int) ≤ r
               · rw [if_pos h9]
               · rw [if_neg h9, show p + 1 = r.toNat + 1 by omega])
            | (rw [← hSn c22]
               refine ih (p + 1) (by omega) bs r hr1 hr2 ?_
               by_cases h8 : (p : Int) ≤ r
               · rw [if_pos h8] at htp
                 rw [htp]
                 by_cases h9 : ((p + 1 : Nat) : Int) ≤ r
                 · rw [if_pos h9]
                 · rw [if_neg h9, show p + 1 = r.toNat + 1 by omega]
               · rw [if_neg h8, tp_free (show p < n by omega) c22] at htp
                 rw [if_neg (by omega), htp])
        · skip
          rw [← iI_nat, iI_le (by omega) (by omega) (by omega) (by omega)] at c35
          refine jl_iload_n (i := 1) h rfl rfl dc_SR_totalEnergy_38 39 rfl ?_
          refine jl_aload_n (i := 0) h rfl rfl dc_SR_totalEnergy_39 40 rfl ?_
          refine jl_getf h nm_c_SR 5 wl_SR_18 (by omega) (by decide) (by exact rfl) (by rfl) dc_SR_totalEnergy_40 43 rfl ?_
          refine jl_iload_n (i := 3) h rfl rfl dc_SR_totalEnergy_43 44 rfl ?_
          refine jl_aload_n (i := 0) h rfl rfl dc_SR_totalEnergy_44 45 rfl ?_
          refine jl_getf h nm_c_SR 0 wl_SR_9 (by omega) (by decide) (by exact rfl) (by rfl) dc_SR_totalEnergy_45 48 rfl ?_
          refine jl_iload_n (i := 3) h rfl rfl dc_SR_totalEnergy_48 49 rfl ?_
          refine jl_iald (v := nI m) h (p) (by exact rfl) (by omega) (by exact hmat) (by exact hp18) (by first | decide | assumption) (by exact by show iI (w p) = nI m; rw [hm, iI_nat]) dc_SR_totalEnergy_49 50 rfl ?_
          refine jl_iconst (v := iI 5) h (by decide) dc_SR_totalEnergy_50 51 rfl ?_
          refine jl_callV (As := [_, _, _]) (rest := [_]) h hr vs_SR_67 vi_ST_ifWeak vx_ST_ifWeak (ci := 1) rfl (by omega) (by exact hST) (fun l => c_ST_ifWeak l (by omega) hS hp18 (show m < 18 by omega) 5) (by first | decide | omega) (by first | decide | omega) rfl rfl (Nat.le_of_ble_eq_true rfl) dc_SR_totalEnergy_51 (res := [_, _]) rfl 54 rfl ?_
          refine jl_iadd h dc_SR_totalEnergy_54 55 rfl ?_
          rw [show iI (st_S b w (p + 1) + lp_ws b bs) + iI (if 2 ≤ en_kd (b p) (b m) then 5 else 0) = iI (st_S b w (p + 1) + lp_ws b (bs ++ [(p, m)])) by rw [iI_add, lp_ws_app]; congr 1; have h9 : lp_ws b [(p, m)] = lp_wk b p m 5 := Int.add_zero _; rw [h9]; show _ + _ + lp_wk b p m 5 = _; omega]
          refine jl_istore_n (i := 1) (lc2 := [(1, _), (3, _), (2, _), (0, _)]) h rfl (by decide) rfl dc_SR_totalEnergy_55 56 rfl ?_
          refine jl_aload_n (i := 0) h rfl rfl dc_SR_totalEnergy_56 57 rfl ?_
          refine jl_getf h nm_c_SR 0 wl_SR_9 (by omega) (by decide) (by exact rfl) (by rfl) dc_SR_totalEnergy_57 60 rfl ?_
          refine jl_iload_n (i := 3) h rfl rfl dc_SR_totalEnergy_60 61 rfl ?_
          refine jl_iald (v := iI (m : Int)) h (p) (by exact rfl) (by omega) (by exact hmat) (by exact hp18) (by first | decide | assumption) (by exact by show iI (w p) = iI m; rw [hm]) dc_SR_totalEnergy_61 62 rfl ?_
          refine jl_istore_n (i := 2) (lc2 := [(2, _), (1, _), (3, _), (0, _)]) h rfl (by decide) rfl dc_SR_totalEnergy_62 63 rfl ?_
          refine jl_iinc (i := 3) (d := 1) (lc2 := [(3, _), (2, _), (1, _), (0, _)]) (v2 := nI (p + 1)) h (by decide) rfl (nI_1 p) rfl dc_SR_totalEnergy_63 66 rfl ?_
          refine jl_goto h 6 (by decide) dc_SR_totalEnergy_66 ?_
          first
            | (refine ih (p + 1) (by omega) (bs ++ [(p, m)]) m (by omega) (by omega) ?_
               rw [if_neg (by omega), tp_pair (show p < n by omega) hpm hm] at htp
               rw [if_pos (by omega), htp, Int.toNat_natCast, List.append_assoc]
               rfl)
            | (refine ih (p + 1) (by omega) bs r hr1 hr2 ?_
               rw [if_pos (by omega)] at htp
               rw [htp]
               by_cases h9 : ((p + 1 : Nat) : Int) ≤ r
               · rw [if_pos h9]
               · rw [if_neg h9, show p + 1 = r.toNat + 1 by omega])
            | (rw [← hSn c22]
               refine ih (p + 1) (by omega) bs r hr1 hr2 ?_
               by_cases h8 : (p : Int) ≤ r
               · rw [if_pos h8] at htp
                 rw [htp]
                 by_cases h9 : ((p + 1 : Nat) : Int) ≤ r
                 · rw [if_pos h9]
                 · rw [if_neg h9, show p + 1 = r.toNat + 1 by omega]
               · rw [if_neg h8, tp_free (show p < n by omega) c22] at htp
                 rw [if_neg (by omega), htp])
  have l0 := loop n 0 (by omega) [] (-1) (by omega) (by omega) (by rw [if_neg (by omega)]; simp)
  have e0 : st_S b w 0 + lp_ws b [] = 0 := rfl
  rw [e0] at l0
  refine jl_iconst (v := iI 0) h (by decide) dc_SR_totalEnergy_0 1 rfl ?_
  refine jl_istore_n (i := 1) (lc2 := [(1, _), (0, _)]) h rfl (by decide) rfl dc_SR_totalEnergy_1 2 rfl ?_
  refine jl_iconst (v := iI (-1)) h (by decide) dc_SR_totalEnergy_2 3 rfl ?_
  refine jl_istore_n (i := 2) (lc2 := [(2, _), (1, _), (0, _)]) h rfl (by decide) rfl dc_SR_totalEnergy_3 4 rfl ?_
  refine jl_iconst (v := nI 0) h (by decide) dc_SR_totalEnergy_4 5 rfl ?_
  refine jl_istore_n (i := 3) (lc2 := [(3, _), (2, _), (1, _), (0, _)]) h rfl (by decide) rfl dc_SR_totalEnergy_5 6 rfl ?_
  exact l0
theorem c_FS2_energy (hG : G 0 = 156) (hS : st_ok K ad (gw K ad I V L C G R) n b) (hM : V 157 = fun k => iI (w k)) (hw : en_V b n w) : jl_C l K sa yn_FS_energy bc_FS_energy 1 (some .int) 6 180 168 ad [.ref (ad 0)] (gw K ad I V L C G R) (some (.int (iI (st_E b n w)))) (gw K ad I V L C G R) := by
  refine jl_enter (by decide) (Nat.le_of_ble_eq_true rfl) (fun x h he hr => ?_)
  show jl_J x 168 ad 0 0 (gw K ad I V L C G R) 0 [(0, .ref (ad 0))] []
  refine jl_aload_n (i := 0) h rfl rfl dc_FS_energy_0 1 rfl ?_
  refine jl_getf (v := .ref (ad 156)) h nm_c_FS 5 wl_FS_42 (by omega) (by decide) (by exact rfl) (by exact fs_r hG) dc_FS_energy_1 4 rfl ?_
  refine jl_callV (As := []) (rest := []) h hr vs_FS_113 vi_SR_totalEnergy vx_SR_totalEnergy (ci := 6) rfl (by omega) (by exact rfl) (fun l => c_SR2_totalEnergy l hS hM hw) (by first | decide | omega) (by first | decide | omega) rfl rfl (Nat.le_of_ble_eq_true rfl) dc_FS_energy_4 (res := [_]) rfl 7 rfl ?_
  exact jl_zret h he rfl (rfl) (rfl) dc_FS_energy_7
theorem c_FS2_loop_no (hG : G 0 = 156) (hS : st_ok K ad (gw K ad I V L C G R) n b) (q : Int32) (hq : ¬ (¬ q < 0 ∧ q < nI n)) : jl_C l K sa yn_FS_loop bc_FS_loop 2 (some .int) 5 160 168 ad [.ref (ad 0), .int q] (gw K ad I V L C G R) (some (.int 0)) (gw K ad I V L C G R) := by
  refine jl_enter (by decide) (Nat.le_of_ble_eq_true rfl) (fun x h he hr => ?_)
  show jl_J x 168 ad 0 0 (gw K ad I V L C G R) 0 [(0, .ref (ad 0)), (1, .int q)] []
  refine jl_aload_n (i := 0) h rfl rfl dc_FS_loop_0 1 rfl ?_
  refine jl_getf h nm_c_FS 0 wl_FS_10 (by omega) (by decide) (by exact rfl) (by rfl) dc_FS_loop_1 4 rfl ?_
  refine jl_iload_n (i := 1) h rfl rfl dc_FS_loop_4 5 rfl ?_
  refine jl_callV (As := [_]) (rest := []) h hr vs_FS_94 vi_ST_has vx_ST_has (ci := 1) rfl (by omega) (by exact hS.1) (fun l => c_ST_has l (by omega) hS q) (by first | decide | omega) (by first | decide | omega) rfl rfl (Nat.le_of_ble_eq_true rfl) dc_FS_loop_5 (res := [_]) rfl 8 rfl ?_
  refine jl_if_eq h 33 (by decide) dc_FS_loop_8 11 rfl (fun c8 => ?_) (fun c8 => absurd (by rw [st_b0]; exact decide_eq_false hq) c8)
  refine jl_iconst (v := 0) h (by decide) dc_FS_loop_33 34 rfl ?_
  exact jl_zret h he rfl (rfl) (rfl) dc_FS_loop_34
theorem c_FS2_loop (hG : G 0 = 156) (hS : st_ok K ad (gw K ad I V L C G R) n b) (hM : V 157 = fun i => iI (w i)) (hw : en_V b n w) {i : Nat} (hi : i < n) : jl_C l K sa yn_FS_loop bc_FS_loop 2 (some .int) 5 160 168 ad [.ref (ad 0), .int (nI i)] (gw K ad I V L C G R) (some (.int (iI (if (i : Int) < w i then lp_loop b w i (w i).toNat else 0)))) (gw K ad I V L C G R) := by
  refine jl_enter (by decide) (Nat.le_of_ble_eq_true rfl) (fun x h he hr => ?_)
  obtain ⟨hST, hbases, hn, hb⟩ := id hS
  show jl_J x 168 ad 0 0 (gw K ad I V L C G R) 0 [(0, .ref (ad 0)), (1, .int (nI i))] []
  have hin := en_V_in hw i
  have hin2 : w i < 18 := by rcases hw.1 i with h1 | h1 <;> omega
  refine jl_aload_n (i := 0) h rfl rfl dc_FS_loop_0 1 rfl ?_
  refine jl_getf h nm_c_FS 0 wl_FS_10 (by omega) (by decide) (by exact rfl) (by rfl) dc_FS_loop_1 4 rfl ?_
  refine jl_iload_n (i := 1) h rfl rfl dc_FS_loop_4 5 rfl ?_
  refine jl_callV (As := [_]) (rest := []) h hr vs_FS_94 vi_ST_has vx_ST_has (ci := 1) rfl (by omega) (by exact hS.1) (fun l => c_ST_has l (by omega) hS (nI i)) (by first | decide | omega) (by first | decide | omega) rfl rfl (Nat.le_of_ble_eq_true rfl) dc_FS_loop_5 (res := [_]) rfl 8 rfl ?_
  refine jl_if_eq h 33 (by decide) dc_FS_loop_8 11 rfl (fun c8 => absurd c8 (by rw [st_b1]; exact decide_eq_true ⟨nI_pos (by omega), nI_lt hi (by omega)⟩)) (fun c8 => ?_)
  refine jl_aload_n (i := 0) h rfl rfl dc_FS_loop_11 12 rfl ?_
  refine jl_getf (v := .ref (ad 156)) h nm_c_FS 5 wl_FS_42 (by omega) (by decide) (by exact rfl) (by exact fs_r hG) dc_FS_loop_12 15 rfl ?_
  refine jl_iload_n (i := 1) h rfl rfl dc_FS_loop_15 16 rfl ?_
  refine jl_callV (As := [_]) (rest := []) h hr vs_FS_122 vi_SR_opensAt vx_SR_opensAt (ci := 6) rfl (by omega) (by exact rfl) (fun l => c_SR2_opensAt l hM (by omega) hin.1 hin2) (by first | decide | omega) (by first | decide | omega) rfl rfl (Nat.le_of_ble_eq_true rfl) dc_FS_loop_16 (res := [_]) rfl 19 rfl ?_
  refine jl_if_eq h 33 (by decide) dc_FS_loop_19 22 rfl (fun c19 => ?_) (fun c19 => ?_)
  · skip
    rw [st_b0] at c19
    have c19 := of_decide_eq_false c19
    refine jl_iconst (v := 0) h (by decide) dc_FS_loop_33 34 rfl ?_
    exact jl_zret h he rfl (by first | (rw [if_neg c19]; rfl) | rw [if_pos c19, hm, Int.toNat_natCast]) (rfl) dc_FS_loop_34
  · skip
    rw [st_b1] at c19
    have c19 := of_decide_eq_true c19
    obtain ⟨m, hm⟩ : ∃ m : Nat, w i = m := ⟨(w i).toNat, by omega⟩
    refine jl_aload_n (i := 0) h rfl rfl dc_FS_loop_22 23 rfl ?_
    refine jl_getf (v := .ref (ad 156)) h nm_c_FS 5 wl_FS_42 (by omega) (by decide) (by exact rfl) (by exact fs_r hG) dc_FS_loop_23 26 rfl ?_
    refine jl_iload_n (i := 1) h rfl rfl dc_FS_loop_26 27 rfl ?_
    refine jl_callV (As := [_]) (rest := []) h hr vs_FS_125 vi_SR_loopEnergy vx_SR_loopEnergy (ci := 6) rfl (by omega) (by exact rfl) (fun l => c_SR2_loopEnergy l hS hM hw (show i < m by omega) hm) (by first | decide | omega) (by first | decide | omega) rfl rfl (Nat.le_of_ble_eq_true rfl) dc_FS_loop_27 (res := [_]) rfl 30 rfl ?_
    refine jl_goto h 34 (by decide) dc_FS_loop_30 ?_
    exact jl_zret h he rfl (by first | (rw [if_neg c19]; rfl) | rw [if_pos c19, hm, Int.toNat_natCast]) (rfl) dc_FS_loop_34
end SR
end
