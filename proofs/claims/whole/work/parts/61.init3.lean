/-! The constructor of Folds. -/
theorem nf_RE : ∀ j, j < 4 → defaultValue (nm_t_RE j) = vp_V [.int 0, .int 0, .null, .null] j := (fun j hj => by rcases (show j = 0 ∨ j = 1 ∨ j = 2 ∨ j = 3 by omega) with rfl | rfl | rfl | rfl <;> rfl)
theorem dg_off {m o : Nat} {d : Int32} {V : Nat → Nat → Int32} {k : Nat} (h : k < o ∨ o + m ≤ k) : dg m o d V k = V k := if_neg (by omega)
abbrev bc_FO_init : ByteArray := prog_2_method_1_code
abbrev yn_FO_init : MethodName := ⟨"FoldedStrand$Folds", "<init>", "(LFoldedStrand$Strand;LFoldedStrand$Loops;)V"⟩
theorem wo_FO : Cond.methodLink "FoldedStrand$Folds" 1 Lib.objectInit ∈ jl_T ∧ Cond.instanceMethod Lib.objectInit ∈ jl_T ∧ Cond.code Lib.objectInit ⟨#[0xb1]⟩ 1 none ∈ jl_T := ⟨jl_T_of 48 (by decide +kernel) (by decide +kernel), jl_T_of 17 (by decide +kernel) (by decide +kernel), jl_T_of 18 (by decide +kernel) (by decide +kernel)⟩
theorem wc_FO_9 : Cond.classLink "FoldedStrand$Folds" 9 "[[I" ∈ jl_T := jl_T_of 49 (by decide +kernel) (by decide +kernel)
theorem wn_FO_30 : Cond.classLink "FoldedStrand$Folds" 30 "FoldedStrand$Region" ∈ jl_T ∧ Cond.instantiable "FoldedStrand$Region" 4 ∈ jl_T ∧ Cond.initialized "FoldedStrand$Region" ∈ jl_T := ⟨jl_T_of 51 (by decide +kernel) (by decide +kernel), jl_T_of 52 (by decide +kernel) (by decide +kernel), jl_T_of 5 (by decide +kernel) (by decide +kernel)⟩
theorem vs_FO_32 : jl_v "FoldedStrand$Folds" 32 yn_RE_init bc_RE_init 5 none 3 := ⟨jl_T_of 55 (by decide +kernel) (by decide +kernel), jl_T_of 5 (by decide +kernel) (by decide +kernel), jl_T_of 53 (by decide +kernel) (by decide +kernel), by decide +kernel, by decide +kernel, by decide +kernel⟩
theorem vi_RE_init : Cond.instanceMethod yn_RE_init ∈ jl_T := jl_T_of 54 (by decide +kernel) (by decide +kernel)
theorem dc_FO_init_0 : decode bc_FO_init 0 = .ok (.aload_n 0, 1) := by decide +kernel
theorem dc_FO_init_1 : decode bc_FO_init 1 = .ok (.invokespecial 1, 3) := by decide +kernel
theorem dc_FO_init_4 : decode bc_FO_init 4 = .ok (.aload_n 0, 1) := by decide +kernel
theorem dc_FO_init_5 : decode bc_FO_init 5 = .ok (.bipush 18, 2) := by decide +kernel
theorem dc_FO_init_7 : decode bc_FO_init 7 = .ok (.bipush 18, 2) := by decide +kernel
theorem dc_FO_init_9 : decode bc_FO_init 9 = .ok (.multianewarray 9 2, 4) := by decide +kernel
theorem dc_FO_init_13 : decode bc_FO_init 13 = .ok (.putfield 11, 3) := by decide +kernel
theorem dc_FO_init_16 : decode bc_FO_init 16 = .ok (.aload_n 0, 1) := by decide +kernel
theorem dc_FO_init_17 : decode bc_FO_init 17 = .ok (.bipush 19, 2) := by decide +kernel
theorem dc_FO_init_19 : decode bc_FO_init 19 = .ok (.bipush 19, 2) := by decide +kernel
theorem dc_FO_init_21 : decode bc_FO_init 21 = .ok (.multianewarray 9 2, 4) := by decide +kernel
theorem dc_FO_init_25 : decode bc_FO_init 25 = .ok (.putfield 16, 3) := by decide +kernel
theorem dc_FO_init_28 : decode bc_FO_init 28 = .ok (.aload_n 0, 1) := by decide +kernel
theorem dc_FO_init_29 : decode bc_FO_init 29 = .ok (.bipush 19, 2) := by decide +kernel
theorem dc_FO_init_31 : decode bc_FO_init 31 = .ok (.bipush 19, 2) := by decide +kernel
theorem dc_FO_init_33 : decode bc_FO_init 33 = .ok (.multianewarray 9 2, 4) := by decide +kernel
theorem dc_FO_init_37 : decode bc_FO_init 37 = .ok (.putfield 19, 3) := by decide +kernel
theorem dc_FO_init_40 : decode bc_FO_init 40 = .ok (.aload_n 0, 1) := by decide +kernel
theorem dc_FO_init_41 : decode bc_FO_init 41 = .ok (.aload_n 1, 1) := by decide +kernel
theorem dc_FO_init_42 : decode bc_FO_init 42 = .ok (.putfield 22, 3) := by decide +kernel
theorem dc_FO_init_45 : decode bc_FO_init 45 = .ok (.aload_n 0, 1) := by decide +kernel
theorem dc_FO_init_46 : decode bc_FO_init 46 = .ok (.aload_n 2, 1) := by decide +kernel
theorem dc_FO_init_47 : decode bc_FO_init 47 = .ok (.putfield 26, 3) := by decide +kernel
theorem dc_FO_init_50 : decode bc_FO_init 50 = .ok (.aload_n 0, 1) := by decide +kernel
theorem dc_FO_init_51 : decode bc_FO_init 51 = .ok (.new 30, 3) := by decide +kernel
theorem dc_FO_init_54 : decode bc_FO_init 54 = .ok (.dup, 1) := by decide +kernel
theorem dc_FO_init_55 : decode bc_FO_init 55 = .ok (.iconst 0, 1) := by decide +kernel
theorem dc_FO_init_56 : decode bc_FO_init 56 = .ok (.iconst 0, 1) := by decide +kernel
theorem dc_FO_init_57 : decode bc_FO_init 57 = .ok (.aconst_null, 1) := by decide +kernel
theorem dc_FO_init_58 : decode bc_FO_init 58 = .ok (.invokespecial 32, 3) := by decide +kernel
theorem dc_FO_init_61 : decode bc_FO_init 61 = .ok (.putfield 35, 3) := by decide +kernel
theorem dc_FO_init_64 : decode bc_FO_init 64 = .ok (.aload_n 0, 1) := by decide +kernel
theorem dc_FO_init_65 : decode bc_FO_init 65 = .ok (.new 30, 3) := by decide +kernel
theorem dc_FO_init_68 : decode bc_FO_init 68 = .ok (.dup, 1) := by decide +kernel
theorem dc_FO_init_69 : decode bc_FO_init 69 = .ok (.iconst 1, 1) := by decide +kernel
theorem dc_FO_init_70 : decode bc_FO_init 70 = .ok (.iconst 4, 1) := by decide +kernel
theorem dc_FO_init_71 : decode bc_FO_init 71 = .ok (.aconst_null, 1) := by decide +kernel
theorem dc_FO_init_72 : decode bc_FO_init 72 = .ok (.invokespecial 32, 3) := by decide +kernel
theorem dc_FO_init_75 : decode bc_FO_init 75 = .ok (.putfield 41, 3) := by decide +kernel
theorem dc_FO_init_78 : decode bc_FO_init 78 = .ok (.aload_n 0, 1) := by decide +kernel
theorem dc_FO_init_79 : decode bc_FO_init 79 = .ok (.new 30, 3) := by decide +kernel
theorem dc_FO_init_82 : decode bc_FO_init 82 = .ok (.dup, 1) := by decide +kernel
theorem dc_FO_init_83 : decode bc_FO_init 83 = .ok (.iconst 1, 1) := by decide +kernel
theorem dc_FO_init_84 : decode bc_FO_init 84 = .ok (.iconst 4, 1) := by decide +kernel
theorem dc_FO_init_85 : decode bc_FO_init 85 = .ok (.aload_n 0, 1) := by decide +kernel
theorem dc_FO_init_86 : decode bc_FO_init 86 = .ok (.getfield 41, 3) := by decide +kernel
theorem dc_FO_init_89 : decode bc_FO_init 89 = .ok (.invokespecial 32, 3) := by decide +kernel
theorem dc_FO_init_92 : decode bc_FO_init 92 = .ok (.putfield 44, 3) := by decide +kernel
theorem dc_FO_init_95 : decode bc_FO_init 95 = .ok (.aload_n 0, 1) := by decide +kernel
theorem dc_FO_init_96 : decode bc_FO_init 96 = .ok (.new 30, 3) := by decide +kernel
theorem dc_FO_init_99 : decode bc_FO_init 99 = .ok (.dup, 1) := by decide +kernel
theorem dc_FO_init_100 : decode bc_FO_init 100 = .ok (.iconst 1, 1) := by decide +kernel
theorem dc_FO_init_101 : decode bc_FO_init 101 = .ok (.iconst 4, 1) := by decide +kernel
theorem dc_FO_init_102 : decode bc_FO_init 102 = .ok (.aload_n 0, 1) := by decide +kernel
theorem dc_FO_init_103 : decode bc_FO_init 103 = .ok (.getfield 44, 3) := by decide +kernel
theorem dc_FO_init_106 : decode bc_FO_init 106 = .ok (.invokespecial 32, 3) := by decide +kernel
theorem dc_FO_init_109 : decode bc_FO_init 109 = .ok (.putfield 47, 3) := by decide +kernel
theorem dc_FO_init_112 : decode bc_FO_init 112 = .ok (.iconst 0, 1) := by decide +kernel
theorem dc_FO_init_113 : decode bc_FO_init 113 = .ok (.istore_n 3, 1) := by decide +kernel
theorem dc_FO_init_114 : decode bc_FO_init 114 = .ok (.iload_n 3, 1) := by decide +kernel
theorem dc_FO_init_115 : decode bc_FO_init 115 = .ok (.bipush 18, 2) := by decide +kernel
theorem dc_FO_init_117 : decode bc_FO_init 117 = .ok (.if_icmp .gt 18, 3) := by decide +kernel
theorem dc_FO_init_120 : decode bc_FO_init 120 = .ok (.aload_n 0, 1) := by decide +kernel
theorem dc_FO_init_121 : decode bc_FO_init 121 = .ok (.getfield 16, 3) := by decide +kernel
theorem dc_FO_init_124 : decode bc_FO_init 124 = .ok (.iload_n 3, 1) := by decide +kernel
theorem dc_FO_init_125 : decode bc_FO_init 125 = .ok (.aaload, 1) := by decide +kernel
theorem dc_FO_init_126 : decode bc_FO_init 126 = .ok (.iload_n 3, 1) := by decide +kernel
theorem dc_FO_init_127 : decode bc_FO_init 127 = .ok (.iconst 1, 1) := by decide +kernel
theorem dc_FO_init_128 : decode bc_FO_init 128 = .ok (.iastore, 1) := by decide +kernel
theorem dc_FO_init_129 : decode bc_FO_init 129 = .ok (.iinc 3 1, 3) := by decide +kernel
theorem dc_FO_init_132 : decode bc_FO_init 132 = .ok (.goto (-18), 3) := by decide +kernel
theorem dc_FO_init_135 : decode bc_FO_init 135 = .ok (.return_, 1) := by decide +kernel
section INI
variable (l : Launch) {K : Nat → ClassId} {sa : Nat → Nat} {ad : Nat → Nat} {V : Nat → Nat → Int32} {e0 : va_E}
theorem c_FO_init (hV : ∀ k, 5 ≤ k → k < 148 → V k = fun _ => 0) : jl_CN l K sa yn_FO_init bc_FO_init 4 2 44 143 2638 5 ad [.ref (ad 4), .ref (ad 1), .ref (ad 3)] (gu K ad V (va_up (va_up (fun _ => none) 0 (some e0)) 4 (some (.inr (3, [.null, .null, .null, .null, .null, .null, .null, .null, .null]))))) 148 (fun ad2 => gu K ad2 (dg 19 25 1 (dg 19 129 1000000 (dg 19 108 1000000 (dg 19 87 0 (dg 19 66 0 V))))) (va_up (fun _ => none) 0 (some e0))) := by
  refine jl_enterN (by decide) rfl (Nat.le_of_ble_eq_true rfl) (fun x h he hxV hr => ?_)
  have hg : ∀ k, k < 5 → ad k = ad k := fun _ _ => rfl
  show jl_J x 5 ad 0 0 (gu K ad V (va_up (va_up (fun _ => none) 0 (some e0)) 4 (some (.inr (3, [.null, .null, .null, .null, .null, .null, .null, .null, .null]))))) 0 [(0, .ref (ad 4)), (1, .ref (ad 1)), (2, .ref (ad 3))] []
  have loop : ∀ (ad2 : Nat → Nat), (∀ k, k < 5 → ad2 k = ad k) → jl_ok x 148 ad2 K sa bc_FO_init "FoldedStrand$Folds" 4 → ∀ (dd m : Nat), m + dd = 19 → jl_J x 148 ad2 143 2638 (gu K ad2 (dg m 25 1 (dg 19 129 1000000 (dg 19 108 1000000 (dg 19 87 0 (dg 19 66 0 V))))) (va_up (va_up (fun _ => none) 0 (some e0)) 4 (some (.inr (3, [.ref (ad2 64), .ref (ad2 127), .ref (ad2 5), .ref (ad2 106), .ref (ad2 85), .ref (ad2 24), .ref (ad2 44), .ref (ad2 1), .ref (ad2 3)]))))) 114 [(3, .int (nI m)), (0, .ref (ad2 4)), (1, .ref (ad2 1)), (2, .ref (ad2 3))] [] := by
    intro ad2 hg h dd
    induction dd with
    | zero =>
      intro m hm
      have hm : m = 19 := by omega
      subst hm
      refine jl_iload_n (i := 3) h rfl rfl dc_FO_init_114 115 rfl ?_
      refine jl_bipush (v := nI 18) h (by decide) dc_FO_init_115 117 rfl ?_
      refine jl_icmp_gt h 135 (by decide) dc_FO_init_117 120 rfl (fun c117 => ?_) (fun c117 => absurd (nI_lt (by decide) (by decide)) c117)
      exact jl_vretN h he (by decide) hg (fun k _ => congrFun (gu_fin rfl rfl) k) dc_FO_init_135
    | succ dd ih =>
      intro m hm
      have hl := ih (m + 1) (by omega)
      have hno : (va_up (va_up (fun _ => none) 0 (some e0)) 4 (some (.inr (3, [.ref (ad2 64), .ref (ad2 127), .ref (ad2 5), .ref (ad2 106), .ref (ad2 85), .ref (ad2 24), .ref (ad2 44), .ref (ad2 1), .ref (ad2 3)])))) (25 + m) = none := by rw [va_up_ne _ _ (by omega), va_up_ne _ _ (by omega)]
      refine jl_iload_n (i := 3) h rfl rfl dc_FO_init_114 115 rfl ?_
      refine jl_bipush (v := nI 18) h (by decide) dc_FO_init_115 117 rfl ?_
      refine jl_icmp_gt h 135 (by decide) dc_FO_init_117 120 rfl (fun c117 => absurd c117 (by rw [nI_ltI (by omega) (by omega)]; omega)) (fun c117 => ?_)
      refine jl_aload_n (i := 0) h rfl rfl dc_FO_init_120 121 rfl ?_
      refine jl_getf h nm_c_FO 5 wl_FO_16 (by omega) (by decide) (by exact rfl) (by rfl) dc_FO_init_121 124 rfl ?_
      refine jl_iload_n (i := 3) h rfl rfl dc_FO_init_124 125 rfl ?_
      refine jl_aald (t0 := 4) h (m) (by exact rfl) (by omega) (by exact rfl) (by rfl) (by rfl) (by exact by omega) (by first | decide | assumption) (by exact if_pos (by omega)) dc_FO_init_125 126 rfl ?_
      refine jl_iload_n (i := 3) h rfl rfl dc_FO_init_126 127 rfl ?_
      refine jl_iconst (v := 1) h (by decide) dc_FO_init_127 128 rfl ?_
      refine jl_iast h (m) (by exact rfl) (by omega) (by exact gu_row hno (gw_i_25 m (by omega))) (by exact by omega) (by first | decide | assumption) dc_FO_init_128 ((gu_set hno (gw_i_25 m (by omega))).trans (congrArg (fun W => gu K ad2 W (va_up (va_up (fun _ => none) 0 (some e0)) 4 (some (.inr (3, [.ref (ad2 64), .ref (ad2 127), .ref (ad2 5), .ref (ad2 106), .ref (ad2 85), .ref (ad2 24), .ref (ad2 44), .ref (ad2 1), .ref (ad2 3)]))))) dg_s)) 129 rfl ?_
      refine jl_iinc (i := 3) (d := 1) (lc2 := [(3, _), (0, _), (1, _), (2, _)]) (v2 := nI (m + 1)) h (by decide) rfl (nI_1 m) rfl dc_FO_init_129 132 rfl ?_
      refine jl_goto h 114 (by decide) dc_FO_init_132 ?_
      exact hl
  refine jl_aload_n (i := 0) h rfl rfl dc_FO_init_0 1 rfl ?_
  refine jl_oinit h (hr.le (by decide) (by decide)) wo_FO (by omega) (by omega) (Nat.le_of_ble_eq_true rfl) dc_FO_init_1 4 rfl ?_
  refine jl_aload_n (i := 0) h rfl rfl dc_FO_init_4 5 rfl ?_
  refine jl_bipush (v := 18) h (by decide) dc_FO_init_5 7 rfl ?_
  refine jl_bipush (v := 18) h (by decide) dc_FO_init_7 9 rfl ?_
  refine jl_mnau (M := 18) h hxV (hr.le (by decide) (by decide)) wc_FO_9 wa_int [0, 4] ⟨rfl, rfl, trivial⟩ (by decide +kernel) (fun i hi => hV _ (by omega) (by omega)) (fun i hi => by rw [va_up_ne _ _ (by omega), va_up_ne _ _ (by omega)]) gw_i_6 (fun _ => rfl) (by decide) (by decide) (by decide) dc_FO_init_9 13 rfl (fun ad2 hag h => ?_)
  simp only [← hag 1 (by decide), ← hag 3 (by decide), ← hag 4 (by decide)]
  have hg := jl_ag hg hag (by decide)
  refine jl_putF he (fs2 := [_, _, _, _, _, _, _, _, _]) h nm_c_FO 2 wl_FO_11 (by omega) (by decide) rfl rfl (by exact rfl) (by rfl) (by rfl) (by exact Nat.le_of_ble_eq_true rfl) (by rfl) dc_FO_init_13 gu_up2 16 rfl ?_
  refine jl_aload_n (i := 0) h rfl rfl dc_FO_init_16 17 rfl ?_
  refine jl_bipush (v := 19) h (by decide) dc_FO_init_17 19 rfl ?_
  refine jl_bipush (v := 19) h (by decide) dc_FO_init_19 21 rfl ?_
  refine jl_mnau (M := 19) h hxV (hr.le (by decide) (by decide)) wc_FO_9 wa_int [0, 4] ⟨rfl, rfl, trivial⟩ (by decide +kernel) (fun i hi => hV _ (by omega) (by omega)) (fun i hi => by rw [va_up_ne _ _ (by omega), va_up_ne _ _ (by omega)]) gw_i_25 (fun _ => rfl) (by decide) (by decide) (by decide) dc_FO_init_21 25 rfl (fun ad2 hag h => ?_)
  simp only [← hag 1 (by decide), ← hag 3 (by decide), ← hag 4 (by decide), ← hag 5 (by decide)]
  have hg := jl_ag hg hag (by decide)
  refine jl_putF he (fs2 := [_, _, _, _, _, _, _, _, _]) h nm_c_FO 5 wl_FO_16 (by omega) (by decide) rfl rfl (by exact rfl) (by rfl) (by rfl) (by exact Nat.le_of_ble_eq_true rfl) (by rfl) dc_FO_init_25 gu_up2 28 rfl ?_
  refine jl_aload_n (i := 0) h rfl rfl dc_FO_init_28 29 rfl ?_
  refine jl_bipush (v := 19) h (by decide) dc_FO_init_29 31 rfl ?_
  refine jl_bipush (v := 19) h (by decide) dc_FO_init_31 33 rfl ?_
  refine jl_mnau (M := 19) h hxV (hr.le (by decide) (by decide)) wc_FO_9 wa_int [0, 4] ⟨rfl, rfl, trivial⟩ (by decide +kernel) (fun i hi => hV _ (by omega) (by omega)) (fun i hi => by rw [va_up_ne _ _ (by omega), va_up_ne _ _ (by omega)]) gw_i_45 (fun _ => rfl) (by decide) (by decide) (by decide) dc_FO_init_33 37 rfl (fun ad2 hag h => ?_)
  simp only [← hag 1 (by decide), ← hag 3 (by decide), ← hag 4 (by decide), ← hag 5 (by decide), ← hag 24 (by decide)]
  have hg := jl_ag hg hag (by decide)
  refine jl_putF he (fs2 := [_, _, _, _, _, _, _, _, _]) h nm_c_FO 6 wl_FO_19 (by omega) (by decide) rfl rfl (by exact rfl) (by rfl) (by rfl) (by exact Nat.le_of_ble_eq_true rfl) (by rfl) dc_FO_init_37 gu_up2 40 rfl ?_
  refine jl_aload_n (i := 0) h rfl rfl dc_FO_init_40 41 rfl ?_
  refine jl_aload_n (i := 1) h rfl rfl dc_FO_init_41 42 rfl ?_
  refine jl_putF he (fs2 := [_, _, _, _, _, _, _, _, _]) h nm_c_FO 7 wl_FO_22 (by omega) (by decide) rfl rfl (by exact rfl) (by rfl) (by rfl) (by exact Nat.le_of_ble_eq_true rfl) (by rfl) dc_FO_init_42 gu_up2 45 rfl ?_
  refine jl_aload_n (i := 0) h rfl rfl dc_FO_init_45 46 rfl ?_
  refine jl_aload_n (i := 2) h rfl rfl dc_FO_init_46 47 rfl ?_
  refine jl_putF he (fs2 := [_, _, _, _, _, _, _, _, _]) h nm_c_FO 8 wl_FO_26 (by omega) (by decide) rfl rfl (by exact rfl) (by rfl) (by rfl) (by exact Nat.le_of_ble_eq_true rfl) (by rfl) dc_FO_init_47 gu_up2 50 rfl ?_
  refine jl_aload_n (i := 0) h rfl rfl dc_FO_init_50 51 rfl ?_
  refine jl_newu (fs := [.int 0, .int 0, .null, .null]) h (hr.le (by decide) (by decide)) nm_c_RE wn_FO_30 nf_RE [0, 4] ⟨rfl, rfl, trivial⟩ (by decide +kernel) dc_FO_init_51 54 rfl (fun ad2 hag h => ?_)
  simp only [← hag 1 (by decide), ← hag 3 (by decide), ← hag 4 (by decide), ← hag 5 (by decide), ← hag 24 (by decide), ← hag 44 (by decide)]
  have hg := jl_ag hg hag (by decide)
  refine jl_dup h rfl dc_FO_init_54 55 rfl ?_
  refine jl_iconst (v := nI 0) h (by decide) dc_FO_init_55 56 rfl ?_
  refine jl_iconst (v := nI 0) h (by decide) dc_FO_init_56 57 rfl ?_
  refine jl_null h dc_FO_init_57 58 rfl ?_
  refine jl_callN (As := [_, _, _]) (rest := [_, _]) h hxV (hr.le (by decide) (by decide)) vs_FO_32 rfl vi_RE_init (fun l => c_RE_init_64 l (fun k h1 h2 => by exact hV k (by omega) (by omega))) (by omega) (by omega) rfl rfl (Nat.le_of_ble_eq_true rfl) dc_FO_init_58 61 rfl (fun ad2 hag h => ?_)
  simp only [← hag 1 (by decide), ← hag 3 (by decide), ← hag 4 (by decide), ← hag 5 (by decide), ← hag 24 (by decide), ← hag 44 (by decide), ← hag 64 (by decide)]
  have hg := jl_ag hg hag (by decide)
  refine jl_putF he (fs2 := [_, _, _, _, _, _, _, _, _]) h nm_c_FO 0 wl_FO_35 (by omega) (by decide) rfl rfl (by exact rfl) (by rfl) (by rfl) (by exact Nat.le_of_ble_eq_true rfl) (by rfl) dc_FO_init_61 gu_up2 64 rfl ?_
  refine jl_aload_n (i := 0) h rfl rfl dc_FO_init_64 65 rfl ?_
  refine jl_newu (fs := [.int 0, .int 0, .null, .null]) h (hr.le (by decide) (by decide)) nm_c_RE wn_FO_30 nf_RE [0, 4] ⟨rfl, rfl, trivial⟩ (by decide +kernel) dc_FO_init_65 68 rfl (fun ad2 hag h => ?_)
  simp only [← hag 1 (by decide), ← hag 3 (by decide), ← hag 4 (by decide), ← hag 5 (by decide), ← hag 24 (by decide), ← hag 44 (by decide), ← hag 64 (by decide)]
  have hg := jl_ag hg hag (by decide)
  refine jl_dup h rfl dc_FO_init_68 69 rfl ?_
  refine jl_iconst (v := nI 1) h (by decide) dc_FO_init_69 70 rfl ?_
  refine jl_iconst (v := nI 4) h (by decide) dc_FO_init_70 71 rfl ?_
  refine jl_null h dc_FO_init_71 72 rfl ?_
  refine jl_callN (As := [_, _, _]) (rest := [_, _]) h hxV (hr.le (by decide) (by decide)) vs_FO_32 rfl vi_RE_init (fun l => c_RE_init_85 l (fun k h1 h2 => by rw [dg_off (by omega)]; exact hV k (by omega) (by omega))) (by omega) (by omega) rfl rfl (Nat.le_of_ble_eq_true rfl) dc_FO_init_72 75 rfl (fun ad2 hag h => ?_)
  simp only [← hag 1 (by decide), ← hag 3 (by decide), ← hag 4 (by decide), ← hag 5 (by decide), ← hag 24 (by decide), ← hag 44 (by decide), ← hag 64 (by decide), ← hag 85 (by decide)]
  have hg := jl_ag hg hag (by decide)
  refine jl_putF he (fs2 := [_, _, _, _, _, _, _, _, _]) h nm_c_FO 4 wl_FO_41 (by omega) (by decide) rfl rfl (by exact rfl) (by rfl) (by rfl) (by exact Nat.le_of_ble_eq_true rfl) (by rfl) dc_FO_init_75 gu_up2 78 rfl ?_
  refine jl_aload_n (i := 0) h rfl rfl dc_FO_init_78 79 rfl ?_
  refine jl_newu (fs := [.int 0, .int 0, .null, .null]) h (hr.le (by decide) (by decide)) nm_c_RE wn_FO_30 nf_RE [0, 4] ⟨rfl, rfl, trivial⟩ (by decide +kernel) dc_FO_init_79 82 rfl (fun ad2 hag h => ?_)
  simp only [← hag 1 (by decide), ← hag 3 (by decide), ← hag 4 (by decide), ← hag 5 (by decide), ← hag 24 (by decide), ← hag 44 (by decide), ← hag 64 (by decide), ← hag 85 (by decide)]
  have hg := jl_ag hg hag (by decide)
  refine jl_dup h rfl dc_FO_init_82 83 rfl ?_
  refine jl_iconst (v := nI 1) h (by decide) dc_FO_init_83 84 rfl ?_
  refine jl_iconst (v := nI 4) h (by decide) dc_FO_init_84 85 rfl ?_
  refine jl_aload_n (i := 0) h rfl rfl dc_FO_init_85 86 rfl ?_
  refine jl_getf h nm_c_FO 4 wl_FO_41 (by omega) (by decide) (by exact rfl) (by rfl) dc_FO_init_86 89 rfl ?_
  refine jl_callN (As := [_, _, _]) (rest := [_, _]) h hxV (hr.le (by decide) (by decide)) vs_FO_32 rfl vi_RE_init (fun l => c_RE_init_106 l (fun k h1 h2 => by rw [dg_off (by omega), dg_off (by omega)]; exact hV k (by omega) (by omega))) (by omega) (by omega) rfl rfl (Nat.le_of_ble_eq_true rfl) dc_FO_init_89 92 rfl (fun ad2 hag h => ?_)
  simp only [← hag 1 (by decide), ← hag 3 (by decide), ← hag 4 (by decide), ← hag 5 (by decide), ← hag 24 (by decide), ← hag 44 (by decide), ← hag 64 (by decide), ← hag 85 (by decide), ← hag 106 (by decide)]
  have hg := jl_ag hg hag (by decide)
  refine jl_putF he (fs2 := [_, _, _, _, _, _, _, _, _]) h nm_c_FO 3 wl_FO_44 (by omega) (by decide) rfl rfl (by exact rfl) (by rfl) (by rfl) (by exact Nat.le_of_ble_eq_true rfl) (by rfl) dc_FO_init_92 gu_up2 95 rfl ?_
  refine jl_aload_n (i := 0) h rfl rfl dc_FO_init_95 96 rfl ?_
  refine jl_newu (fs := [.int 0, .int 0, .null, .null]) h (hr.le (by decide) (by decide)) nm_c_RE wn_FO_30 nf_RE [0, 4] ⟨rfl, rfl, trivial⟩ (by decide +kernel) dc_FO_init_96 99 rfl (fun ad2 hag h => ?_)
  simp only [← hag 1 (by decide), ← hag 3 (by decide), ← hag 4 (by decide), ← hag 5 (by decide), ← hag 24 (by decide), ← hag 44 (by decide), ← hag 64 (by decide), ← hag 85 (by decide), ← hag 106 (by decide)]
  have hg := jl_ag hg hag (by decide)
  refine jl_dup h rfl dc_FO_init_99 100 rfl ?_
  refine jl_iconst (v := nI 1) h (by decide) dc_FO_init_100 101 rfl ?_
  refine jl_iconst (v := nI 4) h (by decide) dc_FO_init_101 102 rfl ?_
  refine jl_aload_n (i := 0) h rfl rfl dc_FO_init_102 103 rfl ?_
  refine jl_getf h nm_c_FO 3 wl_FO_44 (by omega) (by decide) (by exact rfl) (by rfl) dc_FO_init_103 106 rfl ?_
  refine jl_callN (As := [_, _, _]) (rest := [_, _]) h hxV (hr.le (by decide) (by decide)) vs_FO_32 rfl vi_RE_init (fun l => c_RE_init_127 l (fun k h1 h2 => by rw [dg_off (by omega), dg_off (by omega), dg_off (by omega)]; exact hV k (by omega) (by omega))) (by omega) (by omega) rfl rfl (Nat.le_of_ble_eq_true rfl) dc_FO_init_106 109 rfl (fun ad2 hag h => ?_)
  simp only [← hag 1 (by decide), ← hag 3 (by decide), ← hag 4 (by decide), ← hag 5 (by decide), ← hag 24 (by decide), ← hag 44 (by decide), ← hag 64 (by decide), ← hag 85 (by decide), ← hag 106 (by decide), ← hag 127 (by decide)]
  have hg := jl_ag hg hag (by decide)
  refine jl_putF he (fs2 := [_, _, _, _, _, _, _, _, _]) h nm_c_FO 1 wl_FO_47 (by omega) (by decide) rfl rfl (by exact rfl) (by rfl) (by rfl) (by exact Nat.le_of_ble_eq_true rfl) (by rfl) dc_FO_init_109 gu_up2 112 rfl ?_
  refine jl_iconst (v := nI 0) h (by decide) dc_FO_init_112 113 rfl ?_
  refine jl_istore_n (i := 3) (lc2 := [(3, _), (0, _), (1, _), (2, _)]) h rfl (by decide) rfl dc_FO_init_113 114 rfl ?_
  have l0 := loop ad2 hg h 19 0 (by omega)
  rw [dg_0] at l0
  exact l0
end INI

