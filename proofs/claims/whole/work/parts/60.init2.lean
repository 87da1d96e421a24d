/-! The constructor of Region, at its four places. -/
abbrev bc_RE_init : ByteArray := prog_5_method_1_code
abbrev yn_RE_init : MethodName := ⟨"FoldedStrand$Region", "<init>", "(IILFoldedStrand$Region;)V"⟩
theorem wo_RE : Cond.methodLink "FoldedStrand$Region" 1 Lib.objectInit ∈ jl_T ∧ Cond.instanceMethod Lib.objectInit ∈ jl_T ∧ Cond.code Lib.objectInit ⟨#[0xb1]⟩ 1 none ∈ jl_T := ⟨jl_T_of 56 (by decide +kernel) (by decide +kernel), jl_T_of 17 (by decide +kernel) (by decide +kernel), jl_T_of 18 (by decide +kernel) (by decide +kernel)⟩
theorem wc_RE_9 : Cond.classLink "FoldedStrand$Region" 9 "[[I" ∈ jl_T := jl_T_of 57 (by decide +kernel) (by decide +kernel)
theorem wl_RE_11 : Cond.fieldLink "FoldedStrand$Region" 11 "FoldedStrand$Region" "leastEnergies" "[[I" ∈ jl_T := jl_T_of 64 (by decide +kernel) (by decide +kernel)
theorem wl_RE_16 : Cond.fieldLink "FoldedStrand$Region" 16 "FoldedStrand$Region" "perPlace" "I" ∈ jl_T := jl_T_of 59 (by decide +kernel) (by decide +kernel)
theorem wl_RE_20 : Cond.fieldLink "FoldedStrand$Region" 20 "FoldedStrand$Region" "perPair" "I" ∈ jl_T := jl_T_of 62 (by decide +kernel) (by decide +kernel)
theorem wk_RE_27 : Cond.constant "FoldedStrand$Region" 27 (1000000) ∈ jl_T := jl_T_of 58 (by decide +kernel) (by decide +kernel)
theorem dc_RE_init_0 : decode bc_RE_init 0 = .ok (.aload_n 0, 1) := by decide +kernel
theorem dc_RE_init_1 : decode bc_RE_init 1 = .ok (.invokespecial 1, 3) := by decide +kernel
theorem dc_RE_init_4 : decode bc_RE_init 4 = .ok (.aload_n 0, 1) := by decide +kernel
theorem dc_RE_init_5 : decode bc_RE_init 5 = .ok (.bipush 19, 2) := by decide +kernel
theorem dc_RE_init_7 : decode bc_RE_init 7 = .ok (.bipush 19, 2) := by decide +kernel
theorem dc_RE_init_9 : decode bc_RE_init 9 = .ok (.multianewarray 9 2, 4) := by decide +kernel
theorem dc_RE_init_13 : decode bc_RE_init 13 = .ok (.putfield 11, 3) := by decide +kernel
theorem dc_RE_init_16 : decode bc_RE_init 16 = .ok (.aload_n 0, 1) := by decide +kernel
theorem dc_RE_init_17 : decode bc_RE_init 17 = .ok (.iload_n 1, 1) := by decide +kernel
theorem dc_RE_init_18 : decode bc_RE_init 18 = .ok (.putfield 16, 3) := by decide +kernel
theorem dc_RE_init_21 : decode bc_RE_init 21 = .ok (.aload_n 0, 1) := by decide +kernel
theorem dc_RE_init_22 : decode bc_RE_init 22 = .ok (.iload_n 2, 1) := by decide +kernel
theorem dc_RE_init_23 : decode bc_RE_init 23 = .ok (.putfield 20, 3) := by decide +kernel
theorem dc_RE_init_26 : decode bc_RE_init 26 = .ok (.aload_n 0, 1) := by decide +kernel
theorem dc_RE_init_27 : decode bc_RE_init 27 = .ok (.aload_n 3, 1) := by decide +kernel
theorem dc_RE_init_28 : decode bc_RE_init 28 = .ok (.putfield 23, 3) := by decide +kernel
theorem dc_RE_init_31 : decode bc_RE_init 31 = .ok (.iconst 0, 1) := by decide +kernel
theorem dc_RE_init_32 : decode bc_RE_init 32 = .ok (.istore 4, 2) := by decide +kernel
theorem dc_RE_init_34 : decode bc_RE_init 34 = .ok (.iload 4, 2) := by decide +kernel
theorem dc_RE_init_36 : decode bc_RE_init 36 = .ok (.bipush 18, 2) := by decide +kernel
theorem dc_RE_init_38 : decode bc_RE_init 38 = .ok (.if_icmp .gt 29, 3) := by decide +kernel
theorem dc_RE_init_41 : decode bc_RE_init 41 = .ok (.aload_n 0, 1) := by decide +kernel
theorem dc_RE_init_42 : decode bc_RE_init 42 = .ok (.getfield 11, 3) := by decide +kernel
theorem dc_RE_init_45 : decode bc_RE_init 45 = .ok (.iload 4, 2) := by decide +kernel
theorem dc_RE_init_47 : decode bc_RE_init 47 = .ok (.aaload, 1) := by decide +kernel
theorem dc_RE_init_48 : decode bc_RE_init 48 = .ok (.iload 4, 2) := by decide +kernel
theorem dc_RE_init_50 : decode bc_RE_init 50 = .ok (.aload_n 3, 1) := by decide +kernel
theorem dc_RE_init_51 : decode bc_RE_init 51 = .ok (.ifnonnull 7, 3) := by decide +kernel
theorem dc_RE_init_54 : decode bc_RE_init 54 = .ok (.iconst 0, 1) := by decide +kernel
theorem dc_RE_init_55 : decode bc_RE_init 55 = .ok (.goto 5, 3) := by decide +kernel
theorem dc_RE_init_58 : decode bc_RE_init 58 = .ok (.ldc 27, 2) := by decide +kernel
theorem dc_RE_init_60 : decode bc_RE_init 60 = .ok (.iastore, 1) := by decide +kernel
theorem dc_RE_init_61 : decode bc_RE_init 61 = .ok (.iinc 4 1, 3) := by decide +kernel
theorem dc_RE_init_64 : decode bc_RE_init 64 = .ok (.goto (-30), 3) := by decide +kernel
theorem dc_RE_init_67 : decode bc_RE_init 67 = .ok (.return_, 1) := by decide +kernel
section INI
variable (l : Launch) {K : Nat → ClassId} {sa : Nat → Nat} {ad : Nat → Nat} {V : Nat → Nat → Int32} {e0 e4 : va_E}
theorem c_RE_init_64 (hV : ∀ k, 66 ≤ k → k < 85 → V k = fun _ => 0) : jl_CN l K sa yn_RE_init bc_RE_init 5 1 20 20 380 65 ad [.ref (ad 64), .int (nI 0), .int (nI 0), .null] (gu K ad V (va_up (va_up (va_up (fun _ => none) 0 (some e0)) 4 (some e4)) 64 (some (.inr (4, [.int 0, .int 0, .null, .null]))))) 85 (fun ad2 => gu K ad2 (dg 19 66 0 V) (va_up (va_up (fun _ => none) 0 (some e0)) 4 (some e4))) := by
  refine jl_enterN (by decide) rfl (Nat.le_of_ble_eq_true rfl) (fun x h he hxV hr => ?_)
  have hg : ∀ k, k < 65 → ad k = ad k := fun _ _ => rfl
  show jl_J x 65 ad 0 0 (gu K ad V (va_up (va_up (va_up (fun _ => none) 0 (some e0)) 4 (some e4)) 64 (some (.inr (4, [.int 0, .int 0, .null, .null]))))) 0 [(0, .ref (ad 64)), (1, .int (nI 0)), (2, .int (nI 0)), (3, .null)] []
  have loop : ∀ (ad2 : Nat → Nat), (∀ k, k < 65 → ad2 k = ad k) → jl_ok x 85 ad2 K sa bc_RE_init "FoldedStrand$Region" 5 → ∀ (dd m : Nat), m + dd = 19 → jl_J x 85 ad2 20 380 (gu K ad2 (dg m 66 0 V) (va_up (va_up (va_up (fun _ => none) 0 (some e0)) 4 (some e4)) 64 (some (.inr (4, [.int (nI 0), .int (nI 0), .ref (ad2 65), .null]))))) 34 [(4, .int (nI m)), (0, .ref (ad2 64)), (1, .int (nI 0)), (2, .int (nI 0)), (3, .null)] [] := by
    intro ad2 hg h dd
    induction dd with
    | zero =>
      intro m hm
      have hm : m = 19 := by omega
      subst hm
      refine jl_iload h rfl dc_RE_init_34 36 rfl ?_
      refine jl_bipush (v := nI 18) h (by decide) dc_RE_init_36 38 rfl ?_
      refine jl_icmp_gt h 67 (by decide) dc_RE_init_38 41 rfl (fun c38 => ?_) (fun c38 => absurd (nI_lt (by decide) (by decide)) c38)
      exact jl_vretN h he (by decide) hg (fun k _ => congrFun (gu_fin rfl rfl) k) dc_RE_init_67
    | succ dd ih =>
      intro m hm
      have hl := ih (m + 1) (by omega)
      have hno : (va_up (va_up (va_up (fun _ => none) 0 (some e0)) 4 (some e4)) 64 (some (.inr (4, [.int (nI 0), .int (nI 0), .ref (ad2 65), .null])))) (66 + m) = none := by rw [va_up_ne _ _ (by omega), va_up_ne _ _ (by omega), va_up_ne _ _ (by omega)]
      refine jl_iload h rfl dc_RE_init_34 36 rfl ?_
      refine jl_bipush (v := nI 18) h (by decide) dc_RE_init_36 38 rfl ?_
      refine jl_icmp_gt h 67 (by decide) dc_RE_init_38 41 rfl (fun c38 => absurd c38 (by rw [nI_ltI (by omega) (by omega)]; omega)) (fun c38 => ?_)
      refine jl_aload_n (i := 0) h rfl rfl dc_RE_init_41 42 rfl ?_
      refine jl_getf h nm_c_RE 2 wl_RE_11 (by omega) (by decide) (by exact rfl) (by rfl) dc_RE_init_42 45 rfl ?_
      refine jl_iload h rfl dc_RE_init_45 47 rfl ?_
      refine jl_aald (t0 := 4) h (m) (by exact rfl) (by omega) (by exact rfl) (by rfl) (by rfl) (by exact by omega) (by first | decide | assumption) (by exact if_pos (by omega)) dc_RE_init_47 48 rfl ?_
      refine jl_iload h rfl dc_RE_init_48 50 rfl ?_
      refine jl_aloadN_n (i := 3) h rfl rfl dc_RE_init_50 51 rfl ?_
      refine jl_ifnonnullN h dc_RE_init_51 54 rfl ?_
      refine jl_iconst (v := 0) h (by decide) dc_RE_init_54 55 rfl ?_
      refine jl_goto h 60 (by decide) dc_RE_init_55 ?_
      refine jl_iast h (m) (by exact rfl) (by omega) (by exact gu_row hno (gw_i_66 m (by omega))) (by exact by omega) (by first | decide | assumption) dc_RE_init_60 ((gu_set hno (gw_i_66 m (by omega))).trans (congrArg (fun W => gu K ad2 W (va_up (va_up (va_up (fun _ => none) 0 (some e0)) 4 (some e4)) 64 (some (.inr (4, [.int (nI 0), .int (nI 0), .ref (ad2 65), .null]))))) dg_s)) 61 rfl ?_
      refine jl_iinc (i := 4) (d := 1) (lc2 := [(4, _), (0, _), (1, _), (2, _), (3, _)]) (v2 := nI (m + 1)) h (by decide) rfl (nI_1 m) rfl dc_RE_init_61 64 rfl ?_
      refine jl_goto h 34 (by decide) dc_RE_init_64 ?_
      exact hl
  refine jl_aload_n (i := 0) h rfl rfl dc_RE_init_0 1 rfl ?_
  refine jl_oinit h (hr.le (by decide) (by decide)) wo_RE (by omega) (by omega) (Nat.le_of_ble_eq_true rfl) dc_RE_init_1 4 rfl ?_
  refine jl_aload_n (i := 0) h rfl rfl dc_RE_init_4 5 rfl ?_
  refine jl_bipush (v := 19) h (by decide) dc_RE_init_5 7 rfl ?_
  refine jl_bipush (v := 19) h (by decide) dc_RE_init_7 9 rfl ?_
  refine jl_mnau (M := 19) h hxV (hr.le (by decide) (by decide)) wc_RE_9 wa_int [0, 4, 64] ⟨rfl, rfl, rfl, trivial⟩ (by decide +kernel) (fun i hi => hV _ (by omega) (by omega)) (fun i hi => by rw [va_up_ne _ _ (by omega), va_up_ne _ _ (by omega), va_up_ne _ _ (by omega)]) gw_i_66 (fun _ => rfl) (by decide) (by decide) (by decide) dc_RE_init_9 13 rfl (fun ad2 hag h => ?_)
  simp only [← hag 64 (by decide)]
  have hg := jl_ag hg hag (by decide)
  refine jl_putF he (fs2 := [_, _, _, _]) h nm_c_RE 2 wl_RE_11 (by omega) (by decide) rfl rfl (by exact rfl) (by rfl) (by rfl) (by exact Nat.le_of_ble_eq_true rfl) (by rfl) dc_RE_init_13 gu_up2 16 rfl ?_
  refine jl_aload_n (i := 0) h rfl rfl dc_RE_init_16 17 rfl ?_
  refine jl_iload_n (i := 1) h rfl rfl dc_RE_init_17 18 rfl ?_
  refine jl_putF he (fs2 := [_, _, _, _]) h nm_c_RE 0 wl_RE_16 (by omega) (by decide) rfl rfl (by exact rfl) (by rfl) (by rfl) (by exact Nat.le_of_ble_eq_true rfl) (by rfl) dc_RE_init_18 gu_up2 21 rfl ?_
  refine jl_aload_n (i := 0) h rfl rfl dc_RE_init_21 22 rfl ?_
  refine jl_iload_n (i := 2) h rfl rfl dc_RE_init_22 23 rfl ?_
  refine jl_putF he (fs2 := [_, _, _, _]) h nm_c_RE 1 wl_RE_20 (by omega) (by decide) rfl rfl (by exact rfl) (by rfl) (by rfl) (by exact Nat.le_of_ble_eq_true rfl) (by rfl) dc_RE_init_23 gu_up2 26 rfl ?_
  refine jl_aload_n (i := 0) h rfl rfl dc_RE_init_26 27 rfl ?_
  refine jl_aloadN_n (i := 3) h rfl rfl dc_RE_init_27 28 rfl ?_
  refine jl_putF he (fs2 := [_, _, _, _]) h nm_c_RE 3 wl_RE_23 (by omega) (by decide) rfl rfl (by exact rfl) (by rfl) (by rfl) (by exact Nat.le_of_ble_eq_true rfl) (by rfl) dc_RE_init_28 gu_up2 31 rfl ?_
  refine jl_iconst (v := nI 0) h (by decide) dc_RE_init_31 32 rfl ?_
  refine jl_istore (i := 4) (lc2 := [(4, _), (0, _), (1, _), (2, _), (3, _)]) h (by decide) rfl dc_RE_init_32 34 rfl ?_
  have l0 := loop ad2 hg h 19 0 (by omega)
  rw [dg_0] at l0
  exact l0
theorem c_RE_init_85 (hV : ∀ k, 87 ≤ k → k < 106 → V k = fun _ => 0) : jl_CN l K sa yn_RE_init bc_RE_init 5 1 20 20 380 86 ad [.ref (ad 85), .int (nI 1), .int (nI 4), .null] (gu K ad V (va_up (va_up (va_up (fun _ => none) 0 (some e0)) 4 (some e4)) 85 (some (.inr (4, [.int 0, .int 0, .null, .null]))))) 106 (fun ad2 => gu K ad2 (dg 19 87 0 V) (va_up (va_up (fun _ => none) 0 (some e0)) 4 (some e4))) := by
  refine jl_enterN (by decide) rfl (Nat.le_of_ble_eq_true rfl) (fun x h he hxV hr => ?_)
  have hg : ∀ k, k < 86 → ad k = ad k := fun _ _ => rfl
  show jl_J x 86 ad 0 0 (gu K ad V (va_up (va_up (va_up (fun _ => none) 0 (some e0)) 4 (some e4)) 85 (some (.inr (4, [.int 0, .int 0, .null, .null]))))) 0 [(0, .ref (ad 85)), (1, .int (nI 1)), (2, .int (nI 4)), (3, .null)] []
  have loop : ∀ (ad2 : Nat → Nat), (∀ k, k < 86 → ad2 k = ad k) → jl_ok x 106 ad2 K sa bc_RE_init "FoldedStrand$Region" 5 → ∀ (dd m : Nat), m + dd = 19 → jl_J x 106 ad2 20 380 (gu K ad2 (dg m 87 0 V) (va_up (va_up (va_up (fun _ => none) 0 (some e0)) 4 (some e4)) 85 (some (.inr (4, [.int (nI 1), .int (nI 4), .ref (ad2 86), .null]))))) 34 [(4, .int (nI m)), (0, .ref (ad2 85)), (1, .int (nI 1)), (2, .int (nI 4)), (3, .null)] [] := by
    intro ad2 hg h dd
    induction dd with
    | zero =>
      intro m hm
      have hm : m = 19 := by omega
      subst hm
      refine jl_iload h rfl dc_RE_init_34 36 rfl ?_
      refine jl_bipush (v := nI 18) h (by decide) dc_RE_init_36 38 rfl ?_
      refine jl_icmp_gt h 67 (by decide) dc_RE_init_38 41 rfl (fun c38 => ?_) (fun c38 => absurd (nI_lt (by decide) (by decide)) c38)
      exact jl_vretN h he (by decide) hg (fun k _ => congrFun (gu_fin rfl rfl) k) dc_RE_init_67
    | succ dd ih =>
      intro m hm
      have hl := ih (m + 1) (by omega)
      have hno : (va_up (va_up (va_up (fun _ => none) 0 (some e0)) 4 (some e4)) 85 (some (.inr (4, [.int (nI 1), .int (nI 4), .ref (ad2 86), .null])))) (87 + m) = none := by rw [va_up_ne _ _ (by omega), va_up_ne _ _ (by omega), va_up_ne _ _ (by omega)]
      refine jl_iload h rfl dc_RE_init_34 36 rfl ?_
      refine jl_bipush (v := nI 18) h (by decide) dc_RE_init_36 38 rfl ?_
      refine jl_icmp_gt h 67 (by decide) dc_RE_init_38 41 rfl (fun c38 => absurd c38 (by rw [nI_ltI (by omega) (by omega)]; omega)) (fun c38 => ?_)
      refine jl_aload_n (i := 0) h rfl rfl dc_RE_init_41 42 rfl ?_
      refine jl_getf h nm_c_RE 2 wl_RE_11 (by omega) (by decide) (by exact rfl) (by rfl) dc_RE_init_42 45 rfl ?_
      refine jl_iload h rfl dc_RE_init_45 47 rfl ?_
      refine jl_aald (t0 := 4) h (m) (by exact rfl) (by omega) (by exact rfl) (by rfl) (by rfl) (by exact by omega) (by first | decide | assumption) (by exact if_pos (by omega)) dc_RE_init_47 48 rfl ?_
      refine jl_iload h rfl dc_RE_init_48 50 rfl ?_
      refine jl_aloadN_n (i := 3) h rfl rfl dc_RE_init_50 51 rfl ?_
      refine jl_ifnonnullN h dc_RE_init_51 54 rfl ?_
      refine jl_iconst (v := 0) h (by decide) dc_RE_init_54 55 rfl ?_
      refine jl_goto h 60 (by decide) dc_RE_init_55 ?_
      refine jl_iast h (m) (by exact rfl) (by omega) (by exact gu_row hno (gw_i_87 m (by omega))) (by exact by omega) (by first | decide | assumption) dc_RE_init_60 ((gu_set hno (gw_i_87 m (by omega))).trans (congrArg (fun W => gu K ad2 W (va_up (va_up (va_up (fun _ => none) 0 (some e0)) 4 (some e4)) 85 (some (.inr (4, [.int (nI 1), .int (nI 4), .ref (ad2 86), .null]))))) dg_s)) 61 rfl ?_
      refine jl_iinc (i := 4) (d := 1) (lc2 := [(4, _), (0, _), (1, _), (2, _), (3, _)]) (v2 := nI (m + 1)) h (by decide) rfl (nI_1 m) rfl dc_RE_init_61 64 rfl ?_
      refine jl_goto h 34 (by decide) dc_RE_init_64 ?_
      exact hl
  refine jl_aload_n (i := 0) h rfl rfl dc_RE_init_0 1 rfl ?_
  refine jl_oinit h (hr.le (by decide) (by decide)) wo_RE (by omega) (by omega) (Nat.le_of_ble_eq_true rfl) dc_RE_init_1 4 rfl ?_
  refine jl_aload_n (i := 0) h rfl rfl dc_RE_init_4 5 rfl ?_
  refine jl_bipush (v := 19) h (by decide) dc_RE_init_5 7 rfl ?_
  refine jl_bipush (v := 19) h (by decide) dc_RE_init_7 9 rfl ?_
  refine jl_mnau (M := 19) h hxV (hr.le (by decide) (by decide)) wc_RE_9 wa_int [0, 4, 85] ⟨rfl, rfl, rfl, trivial⟩ (by decide +kernel) (fun i hi => hV _ (by omega) (by omega)) (fun i hi => by rw [va_up_ne _ _ (by omega), va_up_ne _ _ (by omega), va_up_ne _ _ (by omega)]) gw_i_87 (fun _ => rfl) (by decide) (by decide) (by decide) dc_RE_init_9 13 rfl (fun ad2 hag h => ?_)
  simp only [← hag 85 (by decide)]
  have hg := jl_ag hg hag (by decide)
  refine jl_putF he (fs2 := [_, _, _, _]) h nm_c_RE 2 wl_RE_11 (by omega) (by decide) rfl rfl (by exact rfl) (by rfl) (by rfl) (by exact Nat.le_of_ble_eq_true rfl) (by rfl) dc_RE_init_13 gu_up2 16 rfl ?_
  refine jl_aload_n (i := 0) h rfl rfl dc_RE_init_16 17 rfl ?_
  refine jl_iload_n (i := 1) h rfl rfl dc_RE_init_17 18 rfl ?_
  refine jl_putF he (fs2 := [_, _, _, _]) h nm_c_RE 0 wl_RE_16 (by omega) (by decide) rfl rfl (by exact rfl) (by rfl) (by rfl) (by exact Nat.le_of_ble_eq_true rfl) (by rfl) dc_RE_init_18 gu_up2 21 rfl ?_
  refine jl_aload_n (i := 0) h rfl rfl dc_RE_init_21 22 rfl ?_
  refine jl_iload_n (i := 2) h rfl rfl dc_RE_init_22 23 rfl ?_
  refine jl_putF he (fs2 := [_, _, _, _]) h nm_c_RE 1 wl_RE_20 (by omega) (by decide) rfl rfl (by exact rfl) (by rfl) (by rfl) (by exact Nat.le_of_ble_eq_true rfl) (by rfl) dc_RE_init_23 gu_up2 26 rfl ?_
  refine jl_aload_n (i := 0) h rfl rfl dc_RE_init_26 27 rfl ?_
  refine jl_aloadN_n (i := 3) h rfl rfl dc_RE_init_27 28 rfl ?_
  refine jl_putF he (fs2 := [_, _, _, _]) h nm_c_RE 3 wl_RE_23 (by omega) (by decide) rfl rfl (by exact rfl) (by rfl) (by rfl) (by exact Nat.le_of_ble_eq_true rfl) (by rfl) dc_RE_init_28 gu_up2 31 rfl ?_
  refine jl_iconst (v := nI 0) h (by decide) dc_RE_init_31 32 rfl ?_
  refine jl_istore (i := 4) (lc2 := [(4, _), (0, _), (1, _), (2, _), (3, _)]) h (by decide) rfl dc_RE_init_32 34 rfl ?_
  have l0 := loop ad2 hg h 19 0 (by omega)
  rw [dg_0] at l0
  exact l0
theorem c_RE_init_106 (hV : ∀ k, 108 ≤ k → k < 127 → V k = fun _ => 0) : jl_CN l K sa yn_RE_init bc_RE_init 5 1 20 20 380 107 ad [.ref (ad 106), .int (nI 1), .int (nI 4), .ref (ad 85)] (gu K ad V (va_up (va_up (va_up (fun _ => none) 0 (some e0)) 4 (some e4)) 106 (some (.inr (4, [.int 0, .int 0, .null, .null]))))) 127 (fun ad2 => gu K ad2 (dg 19 108 1000000 V) (va_up (va_up (fun _ => none) 0 (some e0)) 4 (some e4))) := by
  refine jl_enterN (by decide) rfl (Nat.le_of_ble_eq_true rfl) (fun x h he hxV hr => ?_)
  have hg : ∀ k, k < 107 → ad k = ad k := fun _ _ => rfl
  show jl_J x 107 ad 0 0 (gu K ad V (va_up (va_up (va_up (fun _ => none) 0 (some e0)) 4 (some e4)) 106 (some (.inr (4, [.int 0, .int 0, .null, .null]))))) 0 [(0, .ref (ad 106)), (1, .int (nI 1)), (2, .int (nI 4)), (3, .ref (ad 85))] []
  have loop : ∀ (ad2 : Nat → Nat), (∀ k, k < 107 → ad2 k = ad k) → jl_ok x 127 ad2 K sa bc_RE_init "FoldedStrand$Region" 5 → ∀ (dd m : Nat), m + dd = 19 → jl_J x 127 ad2 20 380 (gu K ad2 (dg m 108 1000000 V) (va_up (va_up (va_up (fun _ => none) 0 (some e0)) 4 (some e4)) 106 (some (.inr (4, [.int (nI 1), .int (nI 4), .ref (ad2 107), .ref (ad2 85)]))))) 34 [(4, .int (nI m)), (0, .ref (ad2 106)), (1, .int (nI 1)), (2, .int (nI 4)), (3, .ref (ad2 85))] [] := by
    intro ad2 hg h dd
    induction dd with
    | zero =>
      intro m hm
      have hm : m = 19 := by omega
      subst hm
      refine jl_iload h rfl dc_RE_init_34 36 rfl ?_
      refine jl_bipush (v := nI 18) h (by decide) dc_RE_init_36 38 rfl ?_
      refine jl_icmp_gt h 67 (by decide) dc_RE_init_38 41 rfl (fun c38 => ?_) (fun c38 => absurd (nI_lt (by decide) (by decide)) c38)
      exact jl_vretN h he (by decide) hg (fun k _ => congrFun (gu_fin rfl rfl) k) dc_RE_init_67
    | succ dd ih =>
      intro m hm
      have hl := ih (m + 1) (by omega)
      have hno : (va_up (va_up (va_up (fun _ => none) 0 (some e0)) 4 (some e4)) 106 (some (.inr (4, [.int (nI 1), .int (nI 4), .ref (ad2 107), .ref (ad2 85)])))) (108 + m) = none := by rw [va_up_ne _ _ (by omega), va_up_ne _ _ (by omega), va_up_ne _ _ (by omega)]
      refine jl_iload h rfl dc_RE_init_34 36 rfl ?_
      refine jl_bipush (v := nI 18) h (by decide) dc_RE_init_36 38 rfl ?_
      refine jl_icmp_gt h 67 (by decide) dc_RE_init_38 41 rfl (fun c38 => absurd c38 (by rw [nI_ltI (by omega) (by omega)]; omega)) (fun c38 => ?_)
      refine jl_aload_n (i := 0) h rfl rfl dc_RE_init_41 42 rfl ?_
      refine jl_getf h nm_c_RE 2 wl_RE_11 (by omega) (by decide) (by exact rfl) (by rfl) dc_RE_init_42 45 rfl ?_
      refine jl_iload h rfl dc_RE_init_45 47 rfl ?_
      refine jl_aald (t0 := 4) h (m) (by exact rfl) (by omega) (by exact rfl) (by rfl) (by rfl) (by exact by omega) (by first | decide | assumption) (by exact if_pos (by omega)) dc_RE_init_47 48 rfl ?_
      refine jl_iload h rfl dc_RE_init_48 50 rfl ?_
      refine jl_aload_n (i := 3) h rfl rfl dc_RE_init_50 51 rfl ?_
      refine jl_ifnonnull h 58 (by decide) dc_RE_init_51 ?_
      refine jl_ldc h wk_RE_27 dc_RE_init_58 60 rfl ?_
      refine jl_iast h (m) (by exact rfl) (by omega) (by exact gu_row hno (gw_i_108 m (by omega))) (by exact by omega) (by first | decide | assumption) dc_RE_init_60 ((gu_set hno (gw_i_108 m (by omega))).trans (congrArg (fun W => gu K ad2 W (va_up (va_up (va_up (fun _ => none) 0 (some e0)) 4 (some e4)) 106 (some (.inr (4, [.int (nI 1), .int (nI 4), .ref (ad2 107), .ref (ad2 85)]))))) dg_s)) 61 rfl ?_
      refine jl_iinc (i := 4) (d := 1) (lc2 := [(4, _), (0, _), (1, _), (2, _), (3, _)]) (v2 := nI (m + 1)) h (by decide) rfl (nI_1 m) rfl dc_RE_init_61 64 rfl ?_
      refine jl_goto h 34 (by decide) dc_RE_init_64 ?_
      exact hl
  refine jl_aload_n (i := 0) h rfl rfl dc_RE_init_0 1 rfl ?_
  refine jl_oinit h (hr.le (by decide) (by decide)) wo_RE (by omega) (by omega) (Nat.le_of_ble_eq_true rfl) dc_RE_init_1 4 rfl ?_
  refine jl_aload_n (i := 0) h rfl rfl dc_RE_init_4 5 rfl ?_
  refine jl_bipush (v := 19) h (by decide) dc_RE_init_5 7 rfl ?_
  refine jl_bipush (v := 19) h (by decide) dc_RE_init_7 9 rfl ?_
  refine jl_mnau (M := 19) h hxV (hr.le (by decide) (by decide)) wc_RE_9 wa_int [0, 4, 106] ⟨rfl, rfl, rfl, trivial⟩ (by decide +kernel) (fun i hi => hV _ (by omega) (by omega)) (fun i hi => by rw [va_up_ne _ _ (by omega), va_up_ne _ _ (by omega), va_up_ne _ _ (by omega)]) gw_i_108 (fun _ => rfl) (by decide) (by decide) (by decide) dc_RE_init_9 13 rfl (fun ad2 hag h => ?_)
  simp only [← hag 106 (by decide), ← hag 85 (by decide)]
  have hg := jl_ag hg hag (by decide)
  refine jl_putF he (fs2 := [_, _, _, _]) h nm_c_RE 2 wl_RE_11 (by omega) (by decide) rfl rfl (by exact rfl) (by rfl) (by rfl) (by exact Nat.le_of_ble_eq_true rfl) (by rfl) dc_RE_init_13 gu_up2 16 rfl ?_
  refine jl_aload_n (i := 0) h rfl rfl dc_RE_init_16 17 rfl ?_
  refine jl_iload_n (i := 1) h rfl rfl dc_RE_init_17 18 rfl ?_
  refine jl_putF he (fs2 := [_, _, _, _]) h nm_c_RE 0 wl_RE_16 (by omega) (by decide) rfl rfl (by exact rfl) (by rfl) (by rfl) (by exact Nat.le_of_ble_eq_true rfl) (by rfl) dc_RE_init_18 gu_up2 21 rfl ?_
  refine jl_aload_n (i := 0) h rfl rfl dc_RE_init_21 22 rfl ?_
  refine jl_iload_n (i := 2) h rfl rfl dc_RE_init_22 23 rfl ?_
  refine jl_putF he (fs2 := [_, _, _, _]) h nm_c_RE 1 wl_RE_20 (by omega) (by decide) rfl rfl (by exact rfl) (by rfl) (by rfl) (by exact Nat.le_of_ble_eq_true rfl) (by rfl) dc_RE_init_23 gu_up2 26 rfl ?_
  refine jl_aload_n (i := 0) h rfl rfl dc_RE_init_26 27 rfl ?_
  refine jl_aload_n (i := 3) h rfl rfl dc_RE_init_27 28 rfl ?_
  refine jl_putF he (fs2 := [_, _, _, _]) h nm_c_RE 3 wl_RE_23 (by omega) (by decide) rfl rfl (by exact rfl) (by rfl) (by rfl) (by exact Nat.le_of_ble_eq_true rfl) (by rfl) dc_RE_init_28 gu_up2 31 rfl ?_
  refine jl_iconst (v := nI 0) h (by decide) dc_RE_init_31 32 rfl ?_
  refine jl_istore (i := 4) (lc2 := [(4, _), (0, _), (1, _), (2, _), (3, _)]) h (by decide) rfl dc_RE_init_32 34 rfl ?_
  have l0 := loop ad2 hg h 19 0 (by omega)
  rw [dg_0] at l0
  exact l0
theorem c_RE_init_127 (hV : ∀ k, 129 ≤ k → k < 148 → V k = fun _ => 0) : jl_CN l K sa yn_RE_init bc_RE_init 5 1 20 20 380 128 ad [.ref (ad 127), .int (nI 1), .int (nI 4), .ref (ad 106)] (gu K ad V (va_up (va_up (va_up (fun _ => none) 0 (some e0)) 4 (some e4)) 127 (some (.inr (4, [.int 0, .int 0, .null, .null]))))) 148 (fun ad2 => gu K ad2 (dg 19 129 1000000 V) (va_up (va_up (fun _ => none) 0 (some e0)) 4 (some e4))) := by
  refine jl_enterN (by decide) rfl (Nat.le_of_ble_eq_true rfl) (fun x h he hxV hr => ?_)
  have hg : ∀ k, k < 128 → ad k = ad k := fun _ _ => rfl
  show jl_J x 128 ad 0 0 (gu K ad V (va_up (va_up (va_up (fun _ => none) 0 (some e0)) 4 (some e4)) 127 (some (.inr (4, [.int 0, .int 0, .null, .null]))))) 0 [(0, .ref (ad 127)), (1, .int (nI 1)), (2, .int (nI 4)), (3, .ref (ad 106))] []
  have loop : ∀ (ad2 : Nat → Nat), (∀ k, k < 128 → ad2 k = ad k) → jl_ok x 148 ad2 K sa bc_RE_init "FoldedStrand$Region" 5 → ∀ (dd m : Nat), m + dd = 19 → jl_J x 148 ad2 20 380 (gu K ad2 (dg m 129 1000000 V) (va_up (va_up (va_up (fun _ => none) 0 (some e0)) 4 (some e4)) 127 (some (.inr (4, [.int (nI 1), .int (nI 4), .ref (ad2 128), .ref (ad2 106)]))))) 34 [(4, .int (nI m)), (0, .ref (ad2 127)), (1, .int (nI 1)), (2, .int (nI 4)), (3, .ref (ad2 106))] [] := by
    intro ad2 hg h dd
    induction dd with
    | zero =>
      intro m hm
      have hm : m = 19 := by omega
      subst hm
      refine jl_iload h rfl dc_RE_init_34 36 rfl ?_
      refine jl_bipush (v := nI 18) h (by decide) dc_RE_init_36 38 rfl ?_
      refine jl_icmp_gt h 67 (by decide) dc_RE_init_38 41 rfl (fun c38 => ?_) (fun c38 => absurd (nI_lt (by decide) (by decide)) c38)
      exact jl_vretN h he (by decide) hg (fun k _ => congrFun (gu_fin rfl rfl) k) dc_RE_init_67
    | succ dd ih =>
      intro m hm
      have hl := ih (m + 1) (by omega)
      have hno : (va_up (va_up (va_up (fun _ => none) 0 (some e0)) 4 (some e4)) 127 (some (.inr (4, [.int (nI 1), .int (nI 4), .ref (ad2 128), .ref (ad2 106)])))) (129 + m) = none := by rw [va_up_ne _ _ (by omega), va_up_ne _ _ (by omega), va_up_ne _ _ (by omega)]
      refine jl_iload h rfl dc_RE_init_34 36 rfl ?_
      refine jl_bipush (v := nI 18) h (by decide) dc_RE_init_36 38 rfl ?_
      refine jl_icmp_gt h 67 (by decide) dc_RE_init_38 41 rfl (fun c38 => absurd c38 (by rw [nI_ltI (by omega) (by omega)]; omega)) (fun c38 => ?_)
      refine jl_aload_n (i := 0) h rfl rfl dc_RE_init_41 42 rfl ?_
      refine jl_getf h nm_c_RE 2 wl_RE_11 (by omega) (by decide) (by exact rfl) (by rfl) dc_RE_init_42 45 rfl ?_
      refine jl_iload h rfl dc_RE_init_45 47 rfl ?_
      refine jl_aald (t0 := 4) h (m) (by exact rfl) (by omega) (by exact rfl) (by rfl) (by rfl) (by exact by omega) (by first | decide | assumption) (by exact if_pos (by omega)) dc_RE_init_47 48 rfl ?_
      refine jl_iload h rfl dc_RE_init_48 50 rfl ?_
      refine jl_aload_n (i := 3) h rfl rfl dc_RE_init_50 51 rfl ?_
      refine jl_ifnonnull h 58 (by decide) dc_RE_init_51 ?_
      refine jl_ldc h wk_RE_27 dc_RE_init_58 60 rfl ?_
      refine jl_iast h (m) (by exact rfl) (by omega) (by exact gu_row hno (gw_i_129 m (by omega))) (by exact by omega) (by first | decide | assumption) dc_RE_init_60 ((gu_set hno (gw_i_129 m (by omega))).trans (congrArg (fun W => gu K ad2 W (va_up (va_up (va_up (fun _ => none) 0 (some e0)) 4 (some e4)) 127 (some (.inr (4, [.int (nI 1), .int (nI 4), .ref (ad2 128), .ref (ad2 106)]))))) dg_s)) 61 rfl ?_
      refine jl_iinc (i := 4) (d := 1) (lc2 := [(4, _), (0, _), (1, _), (2, _), (3, _)]) (v2 := nI (m + 1)) h (by decide) rfl (nI_1 m) rfl dc_RE_init_61 64 rfl ?_
      refine jl_goto h 34 (by decide) dc_RE_init_64 ?_
      exact hl
  refine jl_aload_n (i := 0) h rfl rfl dc_RE_init_0 1 rfl ?_
  refine jl_oinit h (hr.le (by decide) (by decide)) wo_RE (by omega) (by omega) (Nat.le_of_ble_eq_true rfl) dc_RE_init_1 4 rfl ?_
  refine jl_aload_n (i := 0) h rfl rfl dc_RE_init_4 5 rfl ?_
  refine jl_bipush (v := 19) h (by decide) dc_RE_init_5 7 rfl ?_
  refine jl_bipush (v := 19) h (by decide) dc_RE_init_7 9 rfl ?_
  refine jl_mnau (M := 19) h hxV (hr.le (by decide) (by decide)) wc_RE_9 wa_int [0, 4, 127] ⟨rfl, rfl, rfl, trivial⟩ (by decide +kernel) (fun i hi => hV _ (by omega) (by omega)) (fun i hi => by rw [va_up_ne _ _ (by omega), va_up_ne _ _ (by omega), va_up_ne _ _ (by omega)]) gw_i_129 (fun _ => rfl) (by decide) (by decide) (by decide) dc_RE_init_9 13 rfl (fun ad2 hag h => ?_)
  simp only [← hag 127 (by decide), ← hag 106 (by decide)]
  have hg := jl_ag hg hag (by decide)
  refine jl_putF he (fs2 := [_, _, _, _]) h nm_c_RE 2 wl_RE_11 (by omega) (by decide) rfl rfl (by exact rfl) (by rfl) (by rfl) (by exact Nat.le_of_ble_eq_true rfl) (by rfl) dc_RE_init_13 gu_up2 16 rfl ?_
  refine jl_aload_n (i := 0) h rfl rfl dc_RE_init_16 17 rfl ?_
  refine jl_iload_n (i := 1) h rfl rfl dc_RE_init_17 18 rfl ?_
  refine jl_putF he (fs2 := [_, _, _, _]) h nm_c_RE 0 wl_RE_16 (by omega) (by decide) rfl rfl (by exact rfl) (by rfl) (by rfl) (by exact Nat.le_of_ble_eq_true rfl) (by rfl) dc_RE_init_18 gu_up2 21 rfl ?_
  refine jl_aload_n (i := 0) h rfl rfl dc_RE_init_21 22 rfl ?_
  refine jl_iload_n (i := 2) h rfl rfl dc_RE_init_22 23 rfl ?_
  refine jl_putF he (fs2 := [_, _, _, _]) h nm_c_RE 1 wl_RE_20 (by omega) (by decide) rfl rfl (by exact rfl) (by rfl) (by rfl) (by exact Nat.le_of_ble_eq_true rfl) (by rfl) dc_RE_init_23 gu_up2 26 rfl ?_
  refine jl_aload_n (i := 0) h rfl rfl dc_RE_init_26 27 rfl ?_
  refine jl_aload_n (i := 3) h rfl rfl dc_RE_init_27 28 rfl ?_
  refine jl_putF he (fs2 := [_, _, _, _]) h nm_c_RE 3 wl_RE_23 (by omega) (by decide) rfl rfl (by exact rfl) (by rfl) (by rfl) (by exact Nat.le_of_ble_eq_true rfl) (by rfl) dc_RE_init_28 gu_up2 31 rfl ?_
  refine jl_iconst (v := nI 0) h (by decide) dc_RE_init_31 32 rfl ?_
  refine jl_istore (i := 4) (lc2 := [(4, _), (0, _), (1, _), (2, _), (3, _)]) h (by decide) rfl dc_RE_init_32 34 rfl ?_
  have l0 := loop ad2 hg h 19 0 (by omega)
  rw [dg_0] at l0
  exact l0
end INI

