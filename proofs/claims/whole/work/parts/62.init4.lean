/-! The constructor of NearList. -/
theorem nu_swap {X : Nat → Option va_E} {a b : Option va_E} : ∀ k, k < 150 → va_up (va_up X 150 b) 148 a k = va_up X 148 a k := by
  intro k hk
  by_cases h : k = 148
  · subst h
    rw [va_up_self, va_up_self]
  · rw [va_up_ne _ _ h, va_up_ne _ _ (by omega), va_up_ne _ _ h]
theorem nu_set {K : Nat → ClassId} {ad : Nat → Nat} {V : Nat → Nat → Int32} {X : Nat → Option va_E} {a b : Option va_E} {c : va_E} : va_up (gu K ad V (va_up (va_up X 150 b) 148 a)) 150 c = gu K ad V (va_up (va_up X 150 (some c)) 148 a) := by
  rw [gu_up]
  congr 1
  funext k
  by_cases h : k = 150
  · subst h
    rw [va_up_self, va_up_ne _ _ (by decide), va_up_self]
  · rw [va_up_ne _ _ h]
    by_cases h2 : k = 148
    · subst h2
      rw [va_up_self, va_up_self]
    · rw [va_up_ne _ _ h2, va_up_ne _ _ h2, va_up_ne _ _ h, va_up_ne _ _ h]
theorem nu_fill {m r : Nat} : va_up (fun i => if i < m then some r else none) m (some r) = (fun i => if i < m + 1 then some r else none) := by
  funext i
  by_cases h : i = m
  · subst h
    rw [va_up_self, if_pos (by omega)]
  · rw [va_up_ne _ _ h]
    by_cases h2 : i < m
    · rw [if_pos h2, if_pos (by omega)]
    · rw [if_neg h2, if_neg (by omega)]
/-- contents of an array of references matter up to its length alone -/
theorem jl_normR {x : jl_X} {N : Nat} {ad : Nat → Nat} {cells slots : Nat} {E E2 : Nat → va_E} {pc : Nat} {lc : List (Nat × Value)} {st : List Value} {k len : Nat} {cA : ClassId} {f g : Nat → Option Nat} (h1 : ∀ j, j < N → j ≠ k → E j = E2 j) (h2 : E k = .inl (cA, len, .inr (.inr (.inr (.inr f))))) (h3 : E2 k = .inl (cA, len, .inr (.inr (.inr (.inr g))))) (hfg : ∀ j, j < len → f j = g j) (kk : jl_J x N ad cells slots E2 pc lc st) : jl_J x N ad cells slots E pc lc st := by
  obtain ⟨p, l, e, R, s, m, args, below, meth, c, Q, D, A, nL⟩ := x
  intro H locs ls hl hP hS
  refine kk H locs ls hl (fun j q hj => ?_) hS
  obtain ⟨h4, rfl⟩ := jl_at hj
  have h5 := hP j _ (jl_get h4)
  by_cases h6 : j = k
  · subst h6
    rw [h2] at h5
    rw [h3]
    have h7 : H[ad j]? = some (vp_cell cA (len, .inr (.inr (.inr (.inr f))))) := h5
    show H[ad j]? = some (vp_cell cA (len, .inr (.inr (.inr (.inr g)))))
    rw [h7, vp_cell_q, vp_cell_q]
    unfold arrV
    congr 3
    funext i
    show va_rf (f i.val) = va_rf (g i.val)
    rw [hfg i.val i.isLt]
  · rw [← h1 j h4 h6]
    exact h5
abbrev bc_NL_init : ByteArray := prog_4_method_1_code
abbrev yn_NL_init : MethodName := ⟨"FoldedStrand$NearList", "<init>", "(LFoldedStrand$Strand;LFoldedStrand$Loops;LFoldedStrand$Folds;)V"⟩
theorem wo_NL : Cond.methodLink "FoldedStrand$NearList" 3 Lib.objectInit ∈ jl_T ∧ Cond.instanceMethod Lib.objectInit ∈ jl_T ∧ Cond.code Lib.objectInit ⟨#[0xb1]⟩ 1 none ∈ jl_T := ⟨jl_T_of 113 (by decide +kernel) (by decide +kernel), jl_T_of 17 (by decide +kernel) (by decide +kernel), jl_T_of 18 (by decide +kernel) (by decide +kernel)⟩
theorem wa_long : Cond.arrayClass .long ∈ jl_T := jl_T_of 147 (by decide +kernel) (by decide +kernel)
theorem wc_NL_26 : Cond.classLink "FoldedStrand$NearList" 26 "FoldedStrand$Region" ∈ jl_T := jl_T_of 114 (by decide +kernel) (by decide +kernel)
theorem dc_NL_init_0 : decode bc_NL_init 0 = .ok (.aload_n 0, 1) := by decide +kernel
theorem dc_NL_init_1 : decode bc_NL_init 1 = .ok (.invokespecial 3, 3) := by decide +kernel
theorem dc_NL_init_4 : decode bc_NL_init 4 = .ok (.aload_n 0, 1) := by decide +kernel
theorem dc_NL_init_5 : decode bc_NL_init 5 = .ok (.sipush 150, 3) := by decide +kernel
theorem dc_NL_init_8 : decode bc_NL_init 8 = .ok (.newarray .long, 2) := by decide +kernel
theorem dc_NL_init_10 : decode bc_NL_init 10 = .ok (.putfield 11, 3) := by decide +kernel
theorem dc_NL_init_13 : decode bc_NL_init 13 = .ok (.aload_n 0, 1) := by decide +kernel
theorem dc_NL_init_14 : decode bc_NL_init 14 = .ok (.iconst 0, 1) := by decide +kernel
theorem dc_NL_init_15 : decode bc_NL_init 15 = .ok (.putfield 15, 3) := by decide +kernel
theorem dc_NL_init_18 : decode bc_NL_init 18 = .ok (.aload_n 0, 1) := by decide +kernel
theorem dc_NL_init_19 : decode bc_NL_init 19 = .ok (.iconst 0, 1) := by decide +kernel
theorem dc_NL_init_20 : decode bc_NL_init 20 = .ok (.putfield 19, 3) := by decide +kernel
theorem dc_NL_init_23 : decode bc_NL_init 23 = .ok (.aload_n 0, 1) := by decide +kernel
theorem dc_NL_init_24 : decode bc_NL_init 24 = .ok (.iconst 0, 1) := by decide +kernel
theorem dc_NL_init_25 : decode bc_NL_init 25 = .ok (.putfield 23, 3) := by decide +kernel
theorem dc_NL_init_28 : decode bc_NL_init 28 = .ok (.aload_n 0, 1) := by decide +kernel
theorem dc_NL_init_29 : decode bc_NL_init 29 = .ok (.bipush 40, 2) := by decide +kernel
theorem dc_NL_init_31 : decode bc_NL_init 31 = .ok (.anewarray 26, 3) := by decide +kernel
theorem dc_NL_init_34 : decode bc_NL_init 34 = .ok (.putfield 28, 3) := by decide +kernel
theorem dc_NL_init_37 : decode bc_NL_init 37 = .ok (.aload_n 0, 1) := by decide +kernel
theorem dc_NL_init_38 : decode bc_NL_init 38 = .ok (.bipush 40, 2) := by decide +kernel
theorem dc_NL_init_40 : decode bc_NL_init 40 = .ok (.newarray .int, 2) := by decide +kernel
theorem dc_NL_init_42 : decode bc_NL_init 42 = .ok (.putfield 32, 3) := by decide +kernel
theorem dc_NL_init_45 : decode bc_NL_init 45 = .ok (.aload_n 0, 1) := by decide +kernel
theorem dc_NL_init_46 : decode bc_NL_init 46 = .ok (.bipush 40, 2) := by decide +kernel
theorem dc_NL_init_48 : decode bc_NL_init 48 = .ok (.newarray .int, 2) := by decide +kernel
theorem dc_NL_init_50 : decode bc_NL_init 50 = .ok (.putfield 36, 3) := by decide +kernel
theorem dc_NL_init_53 : decode bc_NL_init 53 = .ok (.aload_n 0, 1) := by decide +kernel
theorem dc_NL_init_54 : decode bc_NL_init 54 = .ok (.aload_n 1, 1) := by decide +kernel
theorem dc_NL_init_55 : decode bc_NL_init 55 = .ok (.putfield 39, 3) := by decide +kernel
theorem dc_NL_init_58 : decode bc_NL_init 58 = .ok (.aload_n 0, 1) := by decide +kernel
theorem dc_NL_init_59 : decode bc_NL_init 59 = .ok (.aload_n 2, 1) := by decide +kernel
theorem dc_NL_init_60 : decode bc_NL_init 60 = .ok (.putfield 43, 3) := by decide +kernel
theorem dc_NL_init_63 : decode bc_NL_init 63 = .ok (.aload_n 0, 1) := by decide +kernel
theorem dc_NL_init_64 : decode bc_NL_init 64 = .ok (.aload_n 3, 1) := by decide +kernel
theorem dc_NL_init_65 : decode bc_NL_init 65 = .ok (.putfield 47, 3) := by decide +kernel
theorem dc_NL_init_68 : decode bc_NL_init 68 = .ok (.iconst 0, 1) := by decide +kernel
theorem dc_NL_init_69 : decode bc_NL_init 69 = .ok (.istore 4, 2) := by decide +kernel
theorem dc_NL_init_71 : decode bc_NL_init 71 = .ok (.iload 4, 2) := by decide +kernel
theorem dc_NL_init_73 : decode bc_NL_init 73 = .ok (.bipush 40, 2) := by decide +kernel
theorem dc_NL_init_75 : decode bc_NL_init 75 = .ok (.if_icmp .ge 20, 3) := by decide +kernel
theorem dc_NL_init_78 : decode bc_NL_init 78 = .ok (.aload_n 0, 1) := by decide +kernel
theorem dc_NL_init_79 : decode bc_NL_init 79 = .ok (.getfield 28, 3) := by decide +kernel
theorem dc_NL_init_82 : decode bc_NL_init 82 = .ok (.iload 4, 2) := by decide +kernel
theorem dc_NL_init_84 : decode bc_NL_init 84 = .ok (.aload_n 3, 1) := by decide +kernel
theorem dc_NL_init_85 : decode bc_NL_init 85 = .ok (.getfield 51, 3) := by decide +kernel
theorem dc_NL_init_88 : decode bc_NL_init 88 = .ok (.aastore, 1) := by decide +kernel
theorem dc_NL_init_89 : decode bc_NL_init 89 = .ok (.iinc 4 1, 3) := by decide +kernel
theorem dc_NL_init_92 : decode bc_NL_init 92 = .ok (.goto (-21), 3) := by decide +kernel
theorem dc_NL_init_95 : decode bc_NL_init 95 = .ok (.return_, 1) := by decide +kernel
section INI
variable (l : Launch) {K : Nat → ClassId} {sa : Nat → Nat} {ad : Nat → Nat} {V : Nat → Nat → Int32} {e0 : va_E}
theorem c_NL_init (hV1 : V 151 = fun _ => 0) (hV2 : V 152 = fun _ => 0) : jl_CN l K sa yn_NL_init bc_NL_init 5 1 20 4 270 149 ad [.ref (ad 148), .ref (ad 1), .ref (ad 3), .ref (ad 4)] (gu K ad V (va_up (va_up (fun _ => none) 0 (some e0)) 148 (some (.inr (5, [.null, .int 0, .int 0, .int 0, .null, .null, .null, .null, .null, .null]))))) 153 (fun ad2 => gu K ad2 V (va_up (fun _ => none) 0 (some e0))) := by
  refine jl_enterN (by decide) rfl (Nat.le_of_ble_eq_true rfl) (fun x h he hxV hr => ?_)
  have hg : ∀ k, k < 149 → ad k = ad k := fun _ _ => rfl
  show jl_J x 149 ad 0 0 (gu K ad V (va_up (va_up (fun _ => none) 0 (some e0)) 148 (some (.inr (5, [.null, .int 0, .int 0, .int 0, .null, .null, .null, .null, .null, .null]))))) 0 [(0, .ref (ad 148)), (1, .ref (ad 1)), (2, .ref (ad 3)), (3, .ref (ad 4))] []
  have loop : ∀ (ad2 : Nat → Nat), (∀ k, k < 149 → ad2 k = ad k) → jl_ok x 153 ad2 K sa bc_NL_init "FoldedStrand$NearList" 5 → ∀ (dd m : Nat), m + dd = 40 → jl_J x 153 ad2 4 270 (gu K ad2 V (va_up (va_up (va_up (fun _ => none) 0 (some e0)) 150 (some (.inl (K 3, 40, .inr (.inr (.inr (.inr (fun i => if i < m then some (ad2 64) else none))))))) ) 148 (some (.inr (5, [.ref (ad2 149), .int 0, .int 0, .int 0, .ref (ad2 150), .ref (ad2 151), .ref (ad2 152), .ref (ad2 1), .ref (ad2 3), .ref (ad2 4)]))))) 71 [(4, .int (nI m)), (0, .ref (ad2 148)), (1, .ref (ad2 1)), (2, .ref (ad2 3)), (3, .ref (ad2 4))] [] := by
    intro ad2 hg h dd
    induction dd with
    | zero =>
      intro m hm
      have hm : m = 40 := by omega
      subst hm
      refine jl_normR (k := 150) (E2 := gu K ad2 V (va_up (va_up (fun _ => none) 0 (some e0)) 148 (some (.inr (5, [.ref (ad2 149), .int 0, .int 0, .int 0, .ref (ad2 150), .ref (ad2 151), .ref (ad2 152), .ref (ad2 1), .ref (ad2 3), .ref (ad2 4)]))))) (f := fun i => if i < 40 then some (ad2 64) else none) (g := fun _ => some (ad2 64)) (fun j _ hj => ?_) rfl rfl (fun j hj => if_pos hj) ?_
      · unfold gu
        by_cases h2 : j = 148
        · subst h2
          rw [va_up_self, va_up_self]
        · rw [va_up_ne _ _ h2, va_up_ne _ _ h2, va_up_ne _ _ hj]
      refine jl_iload h rfl dc_NL_init_71 73 rfl ?_
      refine jl_bipush (v := nI 40) h (by decide) dc_NL_init_73 75 rfl ?_
      refine jl_icmp_ge h 95 (by decide) dc_NL_init_75 78 rfl (fun c75 => ?_) (fun c75 => absurd (nI_le (Nat.le_refl _) (by decide)) c75)
      exact jl_vretN h he (by decide) hg (fun k _ => congrFun (gu_fin rfl rfl) k) dc_NL_init_95
    | succ dd ih =>
      intro m hm
      have hl := ih (m + 1) (by omega)
      refine jl_iload h rfl dc_NL_init_71 73 rfl ?_
      refine jl_bipush (v := nI 40) h (by decide) dc_NL_init_73 75 rfl ?_
      refine jl_icmp_ge h 95 (by decide) dc_NL_init_75 78 rfl (fun c75 => absurd c75 (nI_ge (by omega) (by omega))) (fun c75 => ?_)
      refine jl_aload_n (i := 0) h rfl rfl dc_NL_init_78 79 rfl ?_
      refine jl_getf h nm_c_NL 4 wl_NL_28 (by omega) (by decide) (by exact rfl) (by rfl) dc_NL_init_79 82 rfl ?_
      refine jl_iload h rfl dc_NL_init_82 84 rfl ?_
      refine jl_aload_n (i := 3) h rfl rfl dc_NL_init_84 85 rfl ?_
      refine jl_getf h nm_c_FO 0 wl_NL_51 (by omega) (by decide) (by exact rfl) (by rfl) dc_NL_init_85 88 rfl ?_
      refine jl_aast (t0 := 3) h nm_c_RE (m) (by exact rfl) (by omega) (by exact rfl) (by rfl) (by omega) (by exact rfl) (by exact by omega) (by first | decide | assumption) dc_NL_init_88 ((nu_set (K := K)).trans (by rw [nu_fill])) 89 rfl ?_
      refine jl_iinc (i := 4) (d := 1) (lc2 := [(4, _), (0, _), (1, _), (2, _), (3, _)]) (v2 := nI (m + 1)) h (by decide) rfl (nI_1 m) rfl dc_NL_init_89 92 rfl ?_
      refine jl_goto h 71 (by decide) dc_NL_init_92 ?_
      exact hl
  refine jl_aload_n (i := 0) h rfl rfl dc_NL_init_0 1 rfl ?_
  refine jl_oinit h (hr.le (by decide) (by decide)) wo_NL (by omega) (by omega) (Nat.le_of_ble_eq_true rfl) dc_NL_init_1 4 rfl ?_
  refine jl_aload_n (i := 0) h rfl rfl dc_NL_init_4 5 rfl ?_
  refine jl_sipush (v := 150) h (by decide) dc_NL_init_5 8 rfl ?_
  refine jl_newa (atype := .long) (ty := .long) h (hr.le (by decide) (by decide)) wa_long rfl (j := 2) rfl (a0 := (150, .inr (.inl (fun _ => 0)))) (fun _ => rfl) (by decide) (by decide) (by decide) (fun U c1 c2 (a : U.vm.findClass ("[" ++ FieldType.long.toString) = some c1) (b : U.vm.findClass ("[" ++ FieldType.long.toString) = some c2) => Option.some.inj (a.symm.trans b)) dc_NL_init_8 10 rfl (jl_news (fun ad2 => gu K ad2 V (va_up (va_up (fun _ => none) 0 (some e0)) 148 (some (.inr (5, [.null, .int 0, .int 0, .int 0, .null, .null, .null, .null, .null, .null]))))) (fun ad2 hag => gu_eq [0, 148] ⟨rfl, rfl, trivial⟩ (fun _ _ => rfl) (by decide +kernel) hag) (fun _ => rfl) (fun ad2 hag h => ?_))
  simp only [← hag 1 (by decide), ← hag 3 (by decide), ← hag 4 (by decide), ← hag 148 (by decide)]
  have hg := jl_ag hg hag (by decide)
  refine jl_putF he (fs2 := [_, _, _, _, _, _, _, _, _, _]) h nm_c_NL 0 wl_NL_11 (by omega) (by decide) rfl rfl (by exact rfl) (by rfl) (by rfl) (by exact Nat.le_of_ble_eq_true rfl) (by rfl) dc_NL_init_10 gu_up2 13 rfl ?_
  refine jl_aload_n (i := 0) h rfl rfl dc_NL_init_13 14 rfl ?_
  refine jl_iconst (v := 0) h (by decide) dc_NL_init_14 15 rfl ?_
  refine jl_putf (fs2 := [_, _, _, _, _, _, _, _, _, _]) h nm_c_NL 1 wl_NL_15 (by omega) (by decide) rfl (by exact rfl) (by rfl) (by rfl) (by exact Nat.le_of_ble_eq_true rfl) (by rfl) dc_NL_init_15 gu_up2 18 rfl ?_
  refine jl_aload_n (i := 0) h rfl rfl dc_NL_init_18 19 rfl ?_
  refine jl_iconst (v := 0) h (by decide) dc_NL_init_19 20 rfl ?_
  refine jl_putf (fs2 := [_, _, _, _, _, _, _, _, _, _]) h nm_c_NL 2 wl_NL_19 (by omega) (by decide) rfl (by exact rfl) (by rfl) (by rfl) (by exact Nat.le_of_ble_eq_true rfl) (by rfl) dc_NL_init_20 gu_up2 23 rfl ?_
  refine jl_aload_n (i := 0) h rfl rfl dc_NL_init_23 24 rfl ?_
  refine jl_iconst (v := 0) h (by decide) dc_NL_init_24 25 rfl ?_
  refine jl_putf (fs2 := [_, _, _, _, _, _, _, _, _, _]) h nm_c_NL 3 wl_NL_23 (by omega) (by decide) rfl (by exact rfl) (by rfl) (by rfl) (by exact Nat.le_of_ble_eq_true rfl) (by rfl) dc_NL_init_25 gu_up2 28 rfl ?_
  refine jl_aload_n (i := 0) h rfl rfl dc_NL_init_28 29 rfl ?_
  refine jl_bipush (v := 40) h (by decide) dc_NL_init_29 31 rfl ?_
  refine jl_newr (M := 40) h hxV (hr.le (by decide) (by decide)) wc_NL_26 (by decide) (by decide) (by decide) dc_NL_init_31 34 rfl (jl_news (fun ad3 => gu K ad3 V (va_up (va_up (va_up (fun _ => none) 0 (some e0)) 150 (some (.inl (K 3, 40, .inr (.inr (.inr (.inr (fun _ => none))))))) ) 148 (some (.inr (5, [.ref (ad2 149), .int 0, .int 0, .int 0, .null, .null, .null, .null, .null, .null]))))) (fun ad2 hag => gu_eq [0, 148] ⟨rfl, rfl, trivial⟩ nu_swap (by decide +kernel) hag) (fun _ => rfl) (fun ad2 hag h => ?_))
  simp only [← hag 1 (by decide), ← hag 3 (by decide), ← hag 4 (by decide), ← hag 148 (by decide), ← hag 149 (by decide)]
  have hg := jl_ag hg hag (by decide)
  refine jl_putF he (fs2 := [_, _, _, _, _, _, _, _, _, _]) h nm_c_NL 4 wl_NL_28 (by omega) (by decide) rfl rfl (by exact rfl) (by rfl) (by rfl) (by exact Nat.le_of_ble_eq_true rfl) (by rfl) dc_NL_init_34 gu_up2 37 rfl ?_
  refine jl_aload_n (i := 0) h rfl rfl dc_NL_init_37 38 rfl ?_
  refine jl_bipush (v := 40) h (by decide) dc_NL_init_38 40 rfl ?_
  refine jl_newi (len := 40) h (hr.le (by decide) (by decide)) wa_int [0, 148, 150] ⟨rfl, rfl, rfl, trivial⟩ (by decide +kernel) hV1 rfl ⟨rfl, rfl⟩ (by decide) (by decide) (by decide) dc_NL_init_40 42 rfl (fun ad2 hag h => ?_)
  simp only [← hag 1 (by decide), ← hag 3 (by decide), ← hag 4 (by decide), ← hag 148 (by decide), ← hag 149 (by decide), ← hag 150 (by decide)]
  have hg := jl_ag hg hag (by decide)
  refine jl_putF he (fs2 := [_, _, _, _, _, _, _, _, _, _]) h nm_c_NL 5 wl_NL_32 (by omega) (by decide) rfl rfl (by exact rfl) (by rfl) (by rfl) (by exact Nat.le_of_ble_eq_true rfl) (by rfl) dc_NL_init_42 gu_up2 45 rfl ?_
  refine jl_aload_n (i := 0) h rfl rfl dc_NL_init_45 46 rfl ?_
  refine jl_bipush (v := 40) h (by decide) dc_NL_init_46 48 rfl ?_
  refine jl_newi (len := 40) h (hr.le (by decide) (by decide)) wa_int [0, 148, 150] ⟨rfl, rfl, rfl, trivial⟩ (by decide +kernel) hV2 rfl ⟨rfl, rfl⟩ (by decide) (by decide) (by decide) dc_NL_init_48 50 rfl (fun ad2 hag h => ?_)
  simp only [← hag 1 (by decide), ← hag 3 (by decide), ← hag 4 (by decide), ← hag 148 (by decide), ← hag 149 (by decide), ← hag 150 (by decide), ← hag 151 (by decide)]
  have hg := jl_ag hg hag (by decide)
  refine jl_putF he (fs2 := [_, _, _, _, _, _, _, _, _, _]) h nm_c_NL 6 wl_NL_36 (by omega) (by decide) rfl rfl (by exact rfl) (by rfl) (by rfl) (by exact Nat.le_of_ble_eq_true rfl) (by rfl) dc_NL_init_50 gu_up2 53 rfl ?_
  refine jl_aload_n (i := 0) h rfl rfl dc_NL_init_53 54 rfl ?_
  refine jl_aload_n (i := 1) h rfl rfl dc_NL_init_54 55 rfl ?_
  refine jl_putF he (fs2 := [_, _, _, _, _, _, _, _, _, _]) h nm_c_NL 7 wl_NL_39 (by omega) (by decide) rfl rfl (by exact rfl) (by rfl) (by rfl) (by exact Nat.le_of_ble_eq_true rfl) (by rfl) dc_NL_init_55 gu_up2 58 rfl ?_
  refine jl_aload_n (i := 0) h rfl rfl dc_NL_init_58 59 rfl ?_
  refine jl_aload_n (i := 2) h rfl rfl dc_NL_init_59 60 rfl ?_
  refine jl_putF he (fs2 := [_, _, _, _, _, _, _, _, _, _]) h nm_c_NL 8 wl_NL_43 (by omega) (by decide) rfl rfl (by exact rfl) (by rfl) (by rfl) (by exact Nat.le_of_ble_eq_true rfl) (by rfl) dc_NL_init_60 gu_up2 63 rfl ?_
  refine jl_aload_n (i := 0) h rfl rfl dc_NL_init_63 64 rfl ?_
  refine jl_aload_n (i := 3) h rfl rfl dc_NL_init_64 65 rfl ?_
  refine jl_putF he (fs2 := [_, _, _, _, _, _, _, _, _, _]) h nm_c_NL 9 wl_NL_47 (by omega) (by decide) rfl rfl (by exact rfl) (by rfl) (by rfl) (by exact Nat.le_of_ble_eq_true rfl) (by rfl) dc_NL_init_65 gu_up2 68 rfl ?_
  refine jl_iconst (v := nI 0) h (by decide) dc_NL_init_68 69 rfl ?_
  refine jl_istore (i := 4) (lc2 := [(4, _), (0, _), (1, _), (2, _), (3, _)]) h (by decide) rfl dc_NL_init_69 71 rfl ?_
  exact loop ad2 hg h 40 0 (by omega)
end INI

