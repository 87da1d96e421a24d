/-! The constructors of Structure and of FoldedStrand. -/
theorem nf_ST : ∀ j, j < 2 → defaultValue (nm_t_ST j) = vp_V [.null, .int 0] j := (fun j hj => by rcases (show j = 0 ∨ j = 1 by omega) with rfl | rfl <;> rfl)
theorem nf_LO : ∀ j, j < 1 → defaultValue (nm_t_LO j) = vp_V [.null] j := (fun j hj => by rcases (show j = 0 by omega) with rfl <;> rfl)
theorem nf_FO : ∀ j, j < 9 → defaultValue (nm_t_FO j) = vp_V [.null, .null, .null, .null, .null, .null, .null, .null, .null] j := (fun j hj => by rcases (show j = 0 ∨ j = 1 ∨ j = 2 ∨ j = 3 ∨ j = 4 ∨ j = 5 ∨ j = 6 ∨ j = 7 ∨ j = 8 by omega) with rfl | rfl | rfl | rfl | rfl | rfl | rfl | rfl | rfl <;> rfl)
theorem nf_NL : ∀ j, j < 10 → defaultValue (nm_t_NL j) = vp_V [.null, .int 0, .int 0, .int 0, .null, .null, .null, .null, .null, .null] j := (fun j hj => by rcases (show j = 0 ∨ j = 1 ∨ j = 2 ∨ j = 3 ∨ j = 4 ∨ j = 5 ∨ j = 6 ∨ j = 7 ∨ j = 8 ∨ j = 9 by omega) with rfl | rfl | rfl | rfl | rfl | rfl | rfl | rfl | rfl | rfl <;> rfl)
theorem nf_SR : ∀ j, j < 7 → defaultValue (nm_t_SR j) = vp_V [.null, .null, .int 0, .int 0, .int 0, .null, .null] j := (fun j hj => by rcases (show j = 0 ∨ j = 1 ∨ j = 2 ∨ j = 3 ∨ j = 4 ∨ j = 5 ∨ j = 6 by omega) with rfl | rfl | rfl | rfl | rfl | rfl | rfl <;> rfl)
theorem nf_FS : ∀ j, j < 7 → defaultValue (nm_t_FS j) = vp_V [.null, .null, .null, .null, .int 0, .null, .null] j := (fun j hj => by rcases (show j = 0 ∨ j = 1 ∨ j = 2 ∨ j = 3 ∨ j = 4 ∨ j = 5 ∨ j = 6 by omega) with rfl | rfl | rfl | rfl | rfl | rfl | rfl <;> rfl)
theorem nf_MO : ∀ j, j < 14 → defaultValue (nm_t_MO j) = vp_V [.null, .int 0, .null, .int 0, .null, .null, .null, .int 0, .int 0, .int 0, .int 0, .int 0, .null, .null] j := (fun j hj => by rcases (show j = 0 ∨ j = 1 ∨ j = 2 ∨ j = 3 ∨ j = 4 ∨ j = 5 ∨ j = 6 ∨ j = 7 ∨ j = 8 ∨ j = 9 ∨ j = 10 ∨ j = 11 ∨ j = 12 ∨ j = 13 by omega) with rfl | rfl | rfl | rfl | rfl | rfl | rfl | rfl | rfl | rfl | rfl | rfl | rfl | rfl <;> rfl)
abbrev bc_SR_init : ByteArray := prog_7_method_1_code
abbrev yn_SR_init : MethodName := ⟨"FoldedStrand$Structure", "<init>", "(LFoldedStrand$Strand;LFoldedStrand$Loops;)V"⟩
theorem wo_SR : Cond.methodLink "FoldedStrand$Structure" 1 Lib.objectInit ∈ jl_T ∧ Cond.instanceMethod Lib.objectInit ∈ jl_T ∧ Cond.code Lib.objectInit ⟨#[0xb1]⟩ 1 none ∈ jl_T := ⟨jl_T_of 153 (by decide +kernel) (by decide +kernel), jl_T_of 17 (by decide +kernel) (by decide +kernel), jl_T_of 18 (by decide +kernel) (by decide +kernel)⟩
theorem vs_SR_26 : jl_v "FoldedStrand$Structure" 26 yn_SR_restart bc_SR_restart 1 none 0 := ⟨jl_T_of 157 (by decide +kernel) (by decide +kernel), jl_T_of 7 (by decide +kernel) (by decide +kernel), jl_T_of 154 (by decide +kernel) (by decide +kernel), by decide +kernel, by decide +kernel, by decide +kernel⟩
theorem dc_SR_init_0 : decode bc_SR_init 0 = .ok (.aload_n 0, 1) := by decide +kernel
theorem dc_SR_init_1 : decode bc_SR_init 1 = .ok (.invokespecial 1, 3) := by decide +kernel
theorem dc_SR_init_4 : decode bc_SR_init 4 = .ok (.aload_n 0, 1) := by decide +kernel
theorem dc_SR_init_5 : decode bc_SR_init 5 = .ok (.bipush 18, 2) := by decide +kernel
theorem dc_SR_init_7 : decode bc_SR_init 7 = .ok (.newarray .int, 2) := by decide +kernel
theorem dc_SR_init_9 : decode bc_SR_init 9 = .ok (.putfield 9, 3) := by decide +kernel
theorem dc_SR_init_12 : decode bc_SR_init 12 = .ok (.aload_n 0, 1) := by decide +kernel
theorem dc_SR_init_13 : decode bc_SR_init 13 = .ok (.bipush 18, 2) := by decide +kernel
theorem dc_SR_init_15 : decode bc_SR_init 15 = .ok (.newarray .int, 2) := by decide +kernel
theorem dc_SR_init_17 : decode bc_SR_init 17 = .ok (.putfield 15, 3) := by decide +kernel
theorem dc_SR_init_20 : decode bc_SR_init 20 = .ok (.aload_n 0, 1) := by decide +kernel
theorem dc_SR_init_21 : decode bc_SR_init 21 = .ok (.aload_n 1, 1) := by decide +kernel
theorem dc_SR_init_22 : decode bc_SR_init 22 = .ok (.putfield 18, 3) := by decide +kernel
theorem dc_SR_init_25 : decode bc_SR_init 25 = .ok (.aload_n 0, 1) := by decide +kernel
theorem dc_SR_init_26 : decode bc_SR_init 26 = .ok (.aload_n 2, 1) := by decide +kernel
theorem dc_SR_init_27 : decode bc_SR_init 27 = .ok (.putfield 22, 3) := by decide +kernel
theorem dc_SR_init_30 : decode bc_SR_init 30 = .ok (.aload_n 0, 1) := by decide +kernel
theorem dc_SR_init_31 : decode bc_SR_init 31 = .ok (.invokevirtual 26, 3) := by decide +kernel
theorem dc_SR_init_34 : decode bc_SR_init 34 = .ok (.return_, 1) := by decide +kernel
section INI
variable (l : Launch) {K : Nat → ClassId} {sa : Nat → Nat} {ad : Nat → Nat} {V : Nat → Nat → Int32} {e0 : va_E}
theorem c_SR_init_153 (hV1 : V 154 = fun _ => 0) (hV2 : V 155 = fun _ => 0) : jl_CN l K sa yn_SR_init bc_SR_init 3 2 45 2 36 154 ad [.ref (ad 153), .ref (ad 1), .ref (ad 3)] (gu K ad V (va_up (va_up (fun _ => none) 0 (some e0)) 153 (some (.inr (6, [.null, .null, .int 0, .int 0, .int 0, .null, .null]))))) 156 (fun ad2 => gu K ad2 (va_up V 154 (fun _ => -1)) (va_up (fun _ => none) 0 (some e0))) := by
  refine jl_enterN (by decide) rfl (Nat.le_of_ble_eq_true rfl) (fun x h he hxV hr => ?_)
  have hg : ∀ k, k < 154 → ad k = ad k := fun _ _ => rfl
  show jl_J x 154 ad 0 0 (gu K ad V (va_up (va_up (fun _ => none) 0 (some e0)) 153 (some (.inr (6, [.null, .null, .int 0, .int 0, .int 0, .null, .null]))))) 0 [(0, .ref (ad 153)), (1, .ref (ad 1)), (2, .ref (ad 3))] []
  refine jl_aload_n (i := 0) h rfl rfl dc_SR_init_0 1 rfl ?_
  refine jl_oinit h (hr.le (by decide) (by decide)) wo_SR (by omega) (by omega) (Nat.le_of_ble_eq_true rfl) dc_SR_init_1 4 rfl ?_
  refine jl_aload_n (i := 0) h rfl rfl dc_SR_init_4 5 rfl ?_
  refine jl_bipush (v := 18) h (by decide) dc_SR_init_5 7 rfl ?_
  refine jl_newi (len := 18) h (hr.le (by decide) (by decide)) wa_int [0, 153] ⟨rfl, rfl, trivial⟩ (by decide +kernel) hV1 rfl ⟨rfl, rfl⟩ (by decide) (by decide) (by decide) dc_SR_init_7 9 rfl (fun ad2 hag h => ?_)
  simp only [← hag 1 (by decide), ← hag 3 (by decide), ← hag 153 (by decide)]
  have hg := jl_ag hg hag (by decide)
  refine jl_putF he (fs2 := [_, _, _, _, _, _, _]) h nm_c_SR 0 wl_SR_9 (by omega) (by decide) rfl rfl (by exact rfl) (by rfl) (by rfl) (by exact Nat.le_of_ble_eq_true rfl) (by rfl) dc_SR_init_9 gu_up2 12 rfl ?_
  refine jl_aload_n (i := 0) h rfl rfl dc_SR_init_12 13 rfl ?_
  refine jl_bipush (v := 18) h (by decide) dc_SR_init_13 15 rfl ?_
  refine jl_newi (len := 18) h (hr.le (by decide) (by decide)) wa_int [0, 153] ⟨rfl, rfl, trivial⟩ (by decide +kernel) hV2 rfl ⟨rfl, rfl⟩ (by decide) (by decide) (by decide) dc_SR_init_15 17 rfl (fun ad2 hag h => ?_)
  simp only [← hag 1 (by decide), ← hag 3 (by decide), ← hag 153 (by decide), ← hag 154 (by decide)]
  have hg := jl_ag hg hag (by decide)
  refine jl_putF he (fs2 := [_, _, _, _, _, _, _]) h nm_c_SR 1 wl_SR_15 (by omega) (by decide) rfl rfl (by exact rfl) (by rfl) (by rfl) (by exact Nat.le_of_ble_eq_true rfl) (by rfl) dc_SR_init_17 gu_up2 20 rfl ?_
  refine jl_aload_n (i := 0) h rfl rfl dc_SR_init_20 21 rfl ?_
  refine jl_aload_n (i := 1) h rfl rfl dc_SR_init_21 22 rfl ?_
  refine jl_putF he (fs2 := [_, _, _, _, _, _, _]) h nm_c_SR 5 wl_SR_18 (by omega) (by decide) rfl rfl (by exact rfl) (by rfl) (by rfl) (by exact Nat.le_of_ble_eq_true rfl) (by rfl) dc_SR_init_22 gu_up2 25 rfl ?_
  refine jl_aload_n (i := 0) h rfl rfl dc_SR_init_25 26 rfl ?_
  refine jl_aload_n (i := 2) h rfl rfl dc_SR_init_26 27 rfl ?_
  refine jl_putF he (fs2 := [_, _, _, _, _, _, _]) h nm_c_SR 6 wl_SR_22 (by omega) (by decide) rfl rfl (by exact rfl) (by rfl) (by rfl) (by exact Nat.le_of_ble_eq_true rfl) (by rfl) dc_SR_init_27 gu_up2 30 rfl ?_
  refine jl_aload_n (i := 0) h rfl rfl dc_SR_init_30 31 rfl ?_
  refine jl_callV (As := []) (rest := []) h hr vs_SR_26 vi_SR_restart vx_SR_restart (ci := 6) rfl (by omega) (by exact rfl) (fun l => c_SR1_restart l (by decide) rfl (gu_row rfl ⟨rfl, rfl⟩)) (by first | decide | omega) (by first | decide | omega) rfl rfl (Nat.le_of_ble_eq_true rfl) dc_SR_init_31 (res := []) rfl 34 rfl ?_
  exact jl_vretN h he (by decide) hg (fun k _ => congrFun (by rw [gu_set (k := 154) (len := 18) (by rfl) ⟨rfl, rfl⟩, gu_up2]; exact gu_fin rfl rfl) k) dc_SR_init_34
theorem c_SR_init_156 (hV1 : V 157 = fun _ => 0) (hV2 : V 158 = fun _ => 0) : jl_CN l K sa yn_SR_init bc_SR_init 3 2 45 2 36 157 ad [.ref (ad 156), .ref (ad 1), .ref (ad 3)] (gu K ad V (va_up (va_up (fun _ => none) 0 (some e0)) 156 (some (.inr (6, [.null, .null, .int 0, .int 0, .int 0, .null, .null]))))) 159 (fun ad2 => gu K ad2 (va_up V 157 (fun _ => -1)) (va_up (fun _ => none) 0 (some e0))) := by
  refine jl_enterN (by decide) rfl (Nat.le_of_ble_eq_true rfl) (fun x h he hxV hr => ?_)
  have hg : ∀ k, k < 157 → ad k = ad k := fun _ _ => rfl
  show jl_J x 157 ad 0 0 (gu K ad V (va_up (va_up (fun _ => none) 0 (some e0)) 156 (some (.inr (6, [.null, .null, .int 0, .int 0, .int 0, .null, .null]))))) 0 [(0, .ref (ad 156)), (1, .ref (ad 1)), (2, .ref (ad 3))] []
  refine jl_aload_n (i := 0) h rfl rfl dc_SR_init_0 1 rfl ?_
  refine jl_oinit h (hr.le (by decide) (by decide)) wo_SR (by omega) (by omega) (Nat.le_of_ble_eq_true rfl) dc_SR_init_1 4 rfl ?_
  refine jl_aload_n (i := 0) h rfl rfl dc_SR_init_4 5 rfl ?_
  refine jl_bipush (v := 18) h (by decide) dc_SR_init_5 7 rfl ?_
  refine jl_newi (len := 18) h (hr.le (by decide) (by decide)) wa_int [0, 156] ⟨rfl, rfl, trivial⟩ (by decide +kernel) hV1 rfl ⟨rfl, rfl⟩ (by decide) (by decide) (by decide) dc_SR_init_7 9 rfl (fun ad2 hag h => ?_)
  simp only [← hag 1 (by decide), ← hag 3 (by decide), ← hag 156 (by decide)]
  have hg := jl_ag hg hag (by decide)
  refine jl_putF he (fs2 := [_, _, _, _, _, _, _]) h nm_c_SR 0 wl_SR_9 (by omega) (by decide) rfl rfl (by exact rfl) (by rfl) (by rfl) (by exact Nat.le_of_ble_eq_true rfl) (by rfl) dc_SR_init_9 gu_up2 12 rfl ?_
  refine jl_aload_n (i := 0) h rfl rfl dc_SR_init_12 13 rfl ?_
  refine jl_bipush (v := 18) h (by decide) dc_SR_init_13 15 rfl ?_
  refine jl_newi (len := 18) h (hr.le (by decide) (by decide)) wa_int [0, 156] ⟨rfl, rfl, trivial⟩ (by decide +kernel) hV2 rfl ⟨rfl, rfl⟩ (by decide) (by decide) (by decide) dc_SR_init_15 17 rfl (fun ad2 hag h => ?_)
  simp only [← hag 1 (by decide), ← hag 3 (by decide), ← hag 156 (by decide), ← hag 157 (by decide)]
  have hg := jl_ag hg hag (by decide)
  refine jl_putF he (fs2 := [_, _, _, _, _, _, _]) h nm_c_SR 1 wl_SR_15 (by omega) (by decide) rfl rfl (by exact rfl) (by rfl) (by rfl) (by exact Nat.le_of_ble_eq_true rfl) (by rfl) dc_SR_init_17 gu_up2 20 rfl ?_
  refine jl_aload_n (i := 0) h rfl rfl dc_SR_init_20 21 rfl ?_
  refine jl_aload_n (i := 1) h rfl rfl dc_SR_init_21 22 rfl ?_
  refine jl_putF he (fs2 := [_, _, _, _, _, _, _]) h nm_c_SR 5 wl_SR_18 (by omega) (by decide) rfl rfl (by exact rfl) (by rfl) (by rfl) (by exact Nat.le_of_ble_eq_true rfl) (by rfl) dc_SR_init_22 gu_up2 25 rfl ?_
  refine jl_aload_n (i := 0) h rfl rfl dc_SR_init_25 26 rfl ?_
  refine jl_aload_n (i := 2) h rfl rfl dc_SR_init_26 27 rfl ?_
  refine jl_putF he (fs2 := [_, _, _, _, _, _, _]) h nm_c_SR 6 wl_SR_22 (by omega) (by decide) rfl rfl (by exact rfl) (by rfl) (by rfl) (by exact Nat.le_of_ble_eq_true rfl) (by rfl) dc_SR_init_27 gu_up2 30 rfl ?_
  refine jl_aload_n (i := 0) h rfl rfl dc_SR_init_30 31 rfl ?_
  refine jl_callV (As := []) (rest := []) h hr vs_SR_26 vi_SR_restart vx_SR_restart (ci := 6) rfl (by omega) (by exact rfl) (fun l => c_SR2_restart l (by decide) rfl (gu_row rfl ⟨rfl, rfl⟩)) (by first | decide | omega) (by first | decide | omega) rfl rfl (Nat.le_of_ble_eq_true rfl) dc_SR_init_31 (res := []) rfl 34 rfl ?_
  exact jl_vretN h he (by decide) hg (fun k _ => congrFun (by rw [gu_set (k := 157) (len := 18) (by rfl) ⟨rfl, rfl⟩, gu_up2]; exact gu_fin rfl rfl) k) dc_SR_init_34
end INI
theorem wst_code : Cond.code yn_ST_init bc_ST_init 1 none ∈ jl_T := jl_T_of 23 (by decide +kernel) (by decide +kernel)
theorem wst_ini : Cond.initialized yn_ST_init.cls ∈ jl_T := jl_T_of 2 (by decide +kernel) (by decide +kernel)
theorem wst_in : Cond.instanceMethod yn_ST_init ∈ jl_T := jl_T_of 22 (by decide +kernel) (by decide +kernel)
abbrev bc_FS_init : ByteArray := prog_1_method_1_code
abbrev yn_FS_init : MethodName := ⟨"FoldedStrand", "<init>", "()V"⟩
theorem wo_FS : Cond.methodLink "FoldedStrand" 1 Lib.objectInit ∈ jl_T ∧ Cond.instanceMethod Lib.objectInit ∈ jl_T ∧ Cond.code Lib.objectInit ⟨#[0xb1]⟩ 1 none ∈ jl_T := ⟨jl_T_of 16 (by decide +kernel) (by decide +kernel), jl_T_of 17 (by decide +kernel) (by decide +kernel), jl_T_of 18 (by decide +kernel) (by decide +kernel)⟩
theorem wn_FS_7 : Cond.classLink "FoldedStrand" 7 "FoldedStrand$Strand" ∈ jl_T ∧ Cond.instantiable "FoldedStrand$Strand" 2 ∈ jl_T ∧ Cond.initialized "FoldedStrand$Strand" ∈ jl_T := ⟨jl_T_of 19 (by decide +kernel) (by decide +kernel), jl_T_of 20 (by decide +kernel) (by decide +kernel), jl_T_of 2 (by decide +kernel) (by decide +kernel)⟩
theorem wn_FS_16 : Cond.classLink "FoldedStrand" 16 "FoldedStrand$Loops" ∈ jl_T ∧ Cond.instantiable "FoldedStrand$Loops" 1 ∈ jl_T ∧ Cond.initialized "FoldedStrand$Loops" ∈ jl_T := ⟨jl_T_of 33 (by decide +kernel) (by decide +kernel), jl_T_of 34 (by decide +kernel) (by decide +kernel), jl_T_of 3 (by decide +kernel) (by decide +kernel)⟩
theorem vs_FS_18 : jl_v "FoldedStrand" 18 yn_LO_init bc_LO_init 2 none 1 := ⟨jl_T_of 37 (by decide +kernel) (by decide +kernel), jl_T_of 3 (by decide +kernel) (by decide +kernel), jl_T_of 35 (by decide +kernel) (by decide +kernel), by decide +kernel, by decide +kernel, by decide +kernel⟩
theorem vi_LO_init : Cond.instanceMethod yn_LO_init ∈ jl_T := jl_T_of 36 (by decide +kernel) (by decide +kernel)
theorem wn_FS_21 : Cond.classLink "FoldedStrand" 21 "FoldedStrand$Folds" ∈ jl_T ∧ Cond.instantiable "FoldedStrand$Folds" 9 ∈ jl_T ∧ Cond.initialized "FoldedStrand$Folds" ∈ jl_T := ⟨jl_T_of 43 (by decide +kernel) (by decide +kernel), jl_T_of 44 (by decide +kernel) (by decide +kernel), jl_T_of 4 (by decide +kernel) (by decide +kernel)⟩
theorem vs_FS_23 : jl_v "FoldedStrand" 23 yn_FO_init bc_FO_init 4 none 2 := ⟨jl_T_of 47 (by decide +kernel) (by decide +kernel), jl_T_of 4 (by decide +kernel) (by decide +kernel), jl_T_of 45 (by decide +kernel) (by decide +kernel), by decide +kernel, by decide +kernel, by decide +kernel⟩
theorem vi_FO_init : Cond.instanceMethod yn_FO_init ∈ jl_T := jl_T_of 46 (by decide +kernel) (by decide +kernel)
theorem wn_FS_30 : Cond.classLink "FoldedStrand" 30 "FoldedStrand$NearList" ∈ jl_T ∧ Cond.instantiable "FoldedStrand$NearList" 10 ∈ jl_T ∧ Cond.initialized "FoldedStrand$NearList" ∈ jl_T := ⟨jl_T_of 108 (by decide +kernel) (by decide +kernel), jl_T_of 109 (by decide +kernel) (by decide +kernel), jl_T_of 6 (by decide +kernel) (by decide +kernel)⟩
theorem vs_FS_32 : jl_v "FoldedStrand" 32 yn_NL_init bc_NL_init 5 none 3 := ⟨jl_T_of 112 (by decide +kernel) (by decide +kernel), jl_T_of 6 (by decide +kernel) (by decide +kernel), jl_T_of 110 (by decide +kernel) (by decide +kernel), by decide +kernel, by decide +kernel, by decide +kernel⟩
theorem vi_NL_init : Cond.instanceMethod yn_NL_init ∈ jl_T := jl_T_of 111 (by decide +kernel) (by decide +kernel)
theorem wn_FS_39 : Cond.classLink "FoldedStrand" 39 "FoldedStrand$Structure" ∈ jl_T ∧ Cond.instantiable "FoldedStrand$Structure" 7 ∈ jl_T ∧ Cond.initialized "FoldedStrand$Structure" ∈ jl_T := ⟨jl_T_of 148 (by decide +kernel) (by decide +kernel), jl_T_of 149 (by decide +kernel) (by decide +kernel), jl_T_of 7 (by decide +kernel) (by decide +kernel)⟩
theorem vs_FS_41 : jl_v "FoldedStrand" 41 yn_SR_init bc_SR_init 3 none 2 := ⟨jl_T_of 152 (by decide +kernel) (by decide +kernel), jl_T_of 7 (by decide +kernel) (by decide +kernel), jl_T_of 150 (by decide +kernel) (by decide +kernel), by decide +kernel, by decide +kernel, by decide +kernel⟩
theorem vi_SR_init : Cond.instanceMethod yn_SR_init ∈ jl_T := jl_T_of 151 (by decide +kernel) (by decide +kernel)
theorem wa_char : Cond.arrayClass .char ∈ jl_T := jl_T_of 205 (by decide +kernel) (by decide +kernel)
theorem dc_FS_init_0 : decode bc_FS_init 0 = .ok (.aload_n 0, 1) := by decide +kernel
theorem dc_FS_init_1 : decode bc_FS_init 1 = .ok (.invokespecial 1, 3) := by decide +kernel
theorem dc_FS_init_4 : decode bc_FS_init 4 = .ok (.aload_n 0, 1) := by decide +kernel
theorem dc_FS_init_5 : decode bc_FS_init 5 = .ok (.new 7, 3) := by decide +kernel
theorem dc_FS_init_8 : decode bc_FS_init 8 = .ok (.dup, 1) := by decide +kernel
theorem dc_FS_init_9 : decode bc_FS_init 9 = .ok (.invokespecial 9, 3) := by decide +kernel
theorem dc_FS_init_12 : decode bc_FS_init 12 = .ok (.putfield 10, 3) := by decide +kernel
theorem dc_FS_init_15 : decode bc_FS_init 15 = .ok (.new 16, 3) := by decide +kernel
theorem dc_FS_init_18 : decode bc_FS_init 18 = .ok (.dup, 1) := by decide +kernel
theorem dc_FS_init_19 : decode bc_FS_init 19 = .ok (.aload_n 0, 1) := by decide +kernel
theorem dc_FS_init_20 : decode bc_FS_init 20 = .ok (.getfield 10, 3) := by decide +kernel
theorem dc_FS_init_23 : decode bc_FS_init 23 = .ok (.invokespecial 18, 3) := by decide +kernel
theorem dc_FS_init_26 : decode bc_FS_init 26 = .ok (.astore_n 1, 1) := by decide +kernel
theorem dc_FS_init_27 : decode bc_FS_init 27 = .ok (.aload_n 0, 1) := by decide +kernel
theorem dc_FS_init_28 : decode bc_FS_init 28 = .ok (.new 21, 3) := by decide +kernel
theorem dc_FS_init_31 : decode bc_FS_init 31 = .ok (.dup, 1) := by decide +kernel
theorem dc_FS_init_32 : decode bc_FS_init 32 = .ok (.aload_n 0, 1) := by decide +kernel
theorem dc_FS_init_33 : decode bc_FS_init 33 = .ok (.getfield 10, 3) := by decide +kernel
theorem dc_FS_init_36 : decode bc_FS_init 36 = .ok (.aload_n 1, 1) := by decide +kernel
theorem dc_FS_init_37 : decode bc_FS_init 37 = .ok (.invokespecial 23, 3) := by decide +kernel
theorem dc_FS_init_40 : decode bc_FS_init 40 = .ok (.putfield 26, 3) := by decide +kernel
theorem dc_FS_init_43 : decode bc_FS_init 43 = .ok (.aload_n 0, 1) := by decide +kernel
theorem dc_FS_init_44 : decode bc_FS_init 44 = .ok (.new 30, 3) := by decide +kernel
theorem dc_FS_init_47 : decode bc_FS_init 47 = .ok (.dup, 1) := by decide +kernel
theorem dc_FS_init_48 : decode bc_FS_init 48 = .ok (.aload_n 0, 1) := by decide +kernel
theorem dc_FS_init_49 : decode bc_FS_init 49 = .ok (.getfield 10, 3) := by decide +kernel
theorem dc_FS_init_52 : decode bc_FS_init 52 = .ok (.aload_n 1, 1) := by decide +kernel
theorem dc_FS_init_53 : decode bc_FS_init 53 = .ok (.aload_n 0, 1) := by decide +kernel
theorem dc_FS_init_54 : decode bc_FS_init 54 = .ok (.getfield 26, 3) := by decide +kernel
theorem dc_FS_init_57 : decode bc_FS_init 57 = .ok (.invokespecial 32, 3) := by decide +kernel
theorem dc_FS_init_60 : decode bc_FS_init 60 = .ok (.putfield 35, 3) := by decide +kernel
theorem dc_FS_init_63 : decode bc_FS_init 63 = .ok (.aload_n 0, 1) := by decide +kernel
theorem dc_FS_init_64 : decode bc_FS_init 64 = .ok (.new 39, 3) := by decide +kernel
theorem dc_FS_init_67 : decode bc_FS_init 67 = .ok (.dup, 1) := by decide +kernel
theorem dc_FS_init_68 : decode bc_FS_init 68 = .ok (.aload_n 0, 1) := by decide +kernel
theorem dc_FS_init_69 : decode bc_FS_init 69 = .ok (.getfield 10, 3) := by decide +kernel
theorem dc_FS_init_72 : decode bc_FS_init 72 = .ok (.aload_n 1, 1) := by decide +kernel
theorem dc_FS_init_73 : decode bc_FS_init 73 = .ok (.invokespecial 41, 3) := by decide +kernel
theorem dc_FS_init_76 : decode bc_FS_init 76 = .ok (.putfield 42, 3) := by decide +kernel
theorem dc_FS_init_79 : decode bc_FS_init 79 = .ok (.aload_n 0, 1) := by decide +kernel
theorem dc_FS_init_80 : decode bc_FS_init 80 = .ok (.new 39, 3) := by decide +kernel
theorem dc_FS_init_83 : decode bc_FS_init 83 = .ok (.dup, 1) := by decide +kernel
theorem dc_FS_init_84 : decode bc_FS_init 84 = .ok (.aload_n 0, 1) := by decide +kernel
theorem dc_FS_init_85 : decode bc_FS_init 85 = .ok (.getfield 10, 3) := by decide +kernel
theorem dc_FS_init_88 : decode bc_FS_init 88 = .ok (.aload_n 1, 1) := by decide +kernel
theorem dc_FS_init_89 : decode bc_FS_init 89 = .ok (.invokespecial 41, 3) := by decide +kernel
theorem dc_FS_init_92 : decode bc_FS_init 92 = .ok (.putfield 46, 3) := by decide +kernel
theorem dc_FS_init_95 : decode bc_FS_init 95 = .ok (.aload_n 0, 1) := by decide +kernel
theorem dc_FS_init_96 : decode bc_FS_init 96 = .ok (.bipush 20, 2) := by decide +kernel
theorem dc_FS_init_98 : decode bc_FS_init 98 = .ok (.newarray .char, 2) := by decide +kernel
theorem dc_FS_init_100 : decode bc_FS_init 100 = .ok (.putfield 49, 3) := by decide +kernel
theorem dc_FS_init_103 : decode bc_FS_init 103 = .ok (.aload_n 0, 1) := by decide +kernel
theorem dc_FS_init_104 : decode bc_FS_init 104 = .ok (.iconst 0, 1) := by decide +kernel
theorem dc_FS_init_105 : decode bc_FS_init 105 = .ok (.putfield 53, 3) := by decide +kernel
theorem dc_FS_init_108 : decode bc_FS_init 108 = .ok (.return_, 1) := by decide +kernel
/-- the int arrays at the start -/
def vz0 : Nat → Nat → Int32 := dg 19 25 1 (dg 19 129 1000000 (dg 19 108 1000000 (dg 19 87 0 (dg 19 66 0 (fun _ _ => 0)))))
def vz : Nat → Nat → Int32 := va_up (va_up vz0 154 (fun _ => -1)) 157 (fun _ => -1)
theorem vz0_hi {k : Nat} (h : 148 ≤ k) : vz0 k = fun _ => 0 := by
  unfold vz0
  rw [dg_off (by omega), dg_off (by omega), dg_off (by omega), dg_off (by omega), dg_off (by omega)]
section INI
variable (l : Launch) {K : Nat → ClassId} {sa : Nat → Nat} {ad : Nat → Nat}
theorem c_FS_init : jl_CN l K sa yn_FS_init bc_FS_init 2 3 67 159 3054 1 ad [.ref (ad 0)] (gu K ad (fun _ _ => 0) (va_up (fun _ => none) 0 (some (.inr (0, [.null, .null, .null, .null, .int 0, .null, .null]))))) 160 (fun ad2 => gz K ad2 vz) := by
  refine jl_enterN (by decide) rfl (Nat.le_of_ble_eq_true rfl) (fun x h he hxV hr => ?_)
  have hg : ∀ k, k < 1 → ad k = ad k := fun _ _ => rfl
  show jl_J x 1 ad 0 0 (gu K ad (fun _ _ => 0) (va_up (fun _ => none) 0 (some (.inr (0, [.null, .null, .null, .null, .int 0, .null, .null]))))) 0 [(0, .ref (ad 0))] []
  refine jl_aload_n (i := 0) h rfl rfl dc_FS_init_0 1 rfl ?_
  refine jl_oinit h (hr.le (by decide) (by decide)) wo_FS (by omega) (by omega) (Nat.le_of_ble_eq_true rfl) dc_FS_init_1 4 rfl ?_
  refine jl_aload_n (i := 0) h rfl rfl dc_FS_init_4 5 rfl ?_
  refine jl_newu (fs := [.null, .int 0]) h (hr.le (by decide) (by decide)) nm_c_ST wn_FS_7 nf_ST [0] ⟨rfl, trivial⟩ (by decide +kernel) dc_FS_init_5 8 rfl (fun ad2 hag h => ?_)
  simp only [← hag 0 (by decide)]
  have hg := jl_ag hg hag (by decide)
  refine jl_dup h rfl dc_FS_init_8 9 rfl ?_
  refine jl_callNN (rest := [_, _]) h hxV (hr.le (by decide) (by decide)) rfl wst_code wst_ini wst_in (fun l => c_ST_init l rfl) (by omega) (by omega) rfl (Nat.le_of_ble_eq_true rfl) dc_FS_init_9 12 rfl (fun ad2 hag h => ?_)
  simp only [← hag 0 (by decide), ← hag 1 (by decide)]
  have hg := jl_ag hg hag (by decide)
  refine jl_putF he (fs2 := [_, _, _, _, _, _, _]) h nm_c_FS 0 wl_FS_10 (by omega) (by decide) rfl rfl (by exact rfl) (by rfl) (by rfl) (by exact Nat.le_of_ble_eq_true rfl) (by rfl) dc_FS_init_12 gu_up2 15 rfl ?_
  refine jl_newu (fs := [.null]) h (hr.le (by decide) (by decide)) nm_c_LO wn_FS_16 nf_LO [0] ⟨rfl, trivial⟩ (by decide +kernel) dc_FS_init_15 18 rfl (fun ad2 hag h => ?_)
  simp only [← hag 0 (by decide), ← hag 1 (by decide)]
  have hg := jl_ag hg hag (by decide)
  refine jl_dup h rfl dc_FS_init_18 19 rfl ?_
  refine jl_aload_n (i := 0) h rfl rfl dc_FS_init_19 20 rfl ?_
  refine jl_getf h nm_c_FS 0 wl_FS_10 (by omega) (by decide) (by exact rfl) (by rfl) dc_FS_init_20 23 rfl ?_
  refine jl_callN (As := [_]) (rest := [_]) h hxV (hr.le (by decide) (by decide)) vs_FS_18 rfl vi_LO_init (fun l => c_LO_init l) (by omega) (by omega) rfl rfl (Nat.le_of_ble_eq_true rfl) dc_FS_init_23 26 rfl (fun ad2 hag h => ?_)
  simp only [← hag 0 (by decide), ← hag 1 (by decide), ← hag 3 (by decide)]
  have hg := jl_ag hg hag (by decide)
  refine jl_astore_n (i := 1) (lc2 := [(1, _), (0, _)]) h rfl (by decide) rfl dc_FS_init_26 27 rfl ?_
  refine jl_aload_n (i := 0) h rfl rfl dc_FS_init_27 28 rfl ?_
  refine jl_newu (fs := [.null, .null, .null, .null, .null, .null, .null, .null, .null]) h (hr.le (by decide) (by decide)) nm_c_FO wn_FS_21 nf_FO [0] ⟨rfl, trivial⟩ (by decide +kernel) dc_FS_init_28 31 rfl (fun ad2 hag h => ?_)
  simp only [← hag 0 (by decide), ← hag 1 (by decide), ← hag 3 (by decide)]
  have hg := jl_ag hg hag (by decide)
  refine jl_dup h rfl dc_FS_init_31 32 rfl ?_
  refine jl_aload_n (i := 0) h rfl rfl dc_FS_init_32 33 rfl ?_
  refine jl_getf h nm_c_FS 0 wl_FS_10 (by omega) (by decide) (by exact rfl) (by rfl) dc_FS_init_33 36 rfl ?_
  refine jl_aload_n (i := 1) h rfl rfl dc_FS_init_36 37 rfl ?_
  refine jl_callN (As := [_, _]) (rest := [_, _]) h hxV (hr.le (by decide) (by decide)) vs_FS_23 rfl vi_FO_init (fun l => c_FO_init l (fun _ _ _ => rfl)) (by omega) (by omega) rfl rfl (Nat.le_of_ble_eq_true rfl) dc_FS_init_37 40 rfl (fun ad2 hag h => ?_)
  simp only [← hag 0 (by decide), ← hag 1 (by decide), ← hag 3 (by decide), ← hag 4 (by decide)]
  have hg := jl_ag hg hag (by decide)
  refine jl_putF he (fs2 := [_, _, _, _, _, _, _]) h nm_c_FS 1 wl_FS_26 (by omega) (by decide) rfl rfl (by exact rfl) (by rfl) (by rfl) (by exact Nat.le_of_ble_eq_true rfl) (by rfl) dc_FS_init_40 gu_up2 43 rfl ?_
  refine jl_aload_n (i := 0) h rfl rfl dc_FS_init_43 44 rfl ?_
  refine jl_newu (fs := [.null, .int 0, .int 0, .int 0, .null, .null, .null, .null, .null, .null]) h (hr.le (by decide) (by decide)) nm_c_NL wn_FS_30 nf_NL [0] ⟨rfl, trivial⟩ (by decide +kernel) dc_FS_init_44 47 rfl (fun ad2 hag h => ?_)
  simp only [← hag 0 (by decide), ← hag 1 (by decide), ← hag 3 (by decide), ← hag 4 (by decide)]
  have hg := jl_ag hg hag (by decide)
  refine jl_dup h rfl dc_FS_init_47 48 rfl ?_
  refine jl_aload_n (i := 0) h rfl rfl dc_FS_init_48 49 rfl ?_
  refine jl_getf h nm_c_FS 0 wl_FS_10 (by omega) (by decide) (by exact rfl) (by rfl) dc_FS_init_49 52 rfl ?_
  refine jl_aload_n (i := 1) h rfl rfl dc_FS_init_52 53 rfl ?_
  refine jl_aload_n (i := 0) h rfl rfl dc_FS_init_53 54 rfl ?_
  refine jl_getf h nm_c_FS 1 wl_FS_26 (by omega) (by decide) (by exact rfl) (by rfl) dc_FS_init_54 57 rfl ?_
  refine jl_callN (As := [_, _, _]) (rest := [_, _]) h hxV (hr.le (by decide) (by decide)) vs_FS_32 rfl vi_NL_init (fun l => c_NL_init (V := vz0) l (vz0_hi (by decide)) (vz0_hi (by decide))) (by omega) (by omega) rfl rfl (Nat.le_of_ble_eq_true rfl) dc_FS_init_57 60 rfl (fun ad2 hag h => ?_)
  simp only [← hag 0 (by decide), ← hag 1 (by decide), ← hag 3 (by decide), ← hag 4 (by decide), ← hag 148 (by decide)]
  have hg := jl_ag hg hag (by decide)
  refine jl_putF he (fs2 := [_, _, _, _, _, _, _]) h nm_c_FS 2 wl_FS_35 (by omega) (by decide) rfl rfl (by exact rfl) (by rfl) (by rfl) (by exact Nat.le_of_ble_eq_true rfl) (by rfl) dc_FS_init_60 gu_up2 63 rfl ?_
  refine jl_aload_n (i := 0) h rfl rfl dc_FS_init_63 64 rfl ?_
  refine jl_newu (fs := [.null, .null, .int 0, .int 0, .int 0, .null, .null]) h (hr.le (by decide) (by decide)) nm_c_SR wn_FS_39 nf_SR [0] ⟨rfl, trivial⟩ (by decide +kernel) dc_FS_init_64 67 rfl (fun ad2 hag h => ?_)
  simp only [← hag 0 (by decide), ← hag 1 (by decide), ← hag 3 (by decide), ← hag 4 (by decide), ← hag 148 (by decide)]
  have hg := jl_ag hg hag (by decide)
  refine jl_dup h rfl dc_FS_init_67 68 rfl ?_
  refine jl_aload_n (i := 0) h rfl rfl dc_FS_init_68 69 rfl ?_
  refine jl_getf h nm_c_FS 0 wl_FS_10 (by omega) (by decide) (by exact rfl) (by rfl) dc_FS_init_69 72 rfl ?_
  refine jl_aload_n (i := 1) h rfl rfl dc_FS_init_72 73 rfl ?_
  refine jl_callN (As := [_, _]) (rest := [_, _]) h hxV (hr.le (by decide) (by decide)) vs_FS_41 rfl vi_SR_init (fun l => c_SR_init_153 (V := vz0) l (vz0_hi (by decide)) (vz0_hi (by decide))) (by omega) (by omega) rfl rfl (Nat.le_of_ble_eq_true rfl) dc_FS_init_73 76 rfl (fun ad2 hag h => ?_)
  simp only [← hag 0 (by decide), ← hag 1 (by decide), ← hag 3 (by decide), ← hag 4 (by decide), ← hag 148 (by decide), ← hag 153 (by decide)]
  have hg := jl_ag hg hag (by decide)
  refine jl_putf (fs2 := [_, _, _, _, _, _, _]) h nm_c_FS 5 wl_FS_42 (by omega) (by decide) rfl (by exact rfl) (by rfl) (by rfl) (by exact Nat.le_of_ble_eq_true rfl) (by rfl) dc_FS_init_76 gu_up2 79 rfl ?_
  refine jl_aload_n (i := 0) h rfl rfl dc_FS_init_79 80 rfl ?_
  refine jl_newu (fs := [.null, .null, .int 0, .int 0, .int 0, .null, .null]) h (hr.le (by decide) (by decide)) nm_c_SR wn_FS_39 nf_SR [0] ⟨rfl, trivial⟩ (by decide +kernel) dc_FS_init_80 83 rfl (fun ad2 hag h => ?_)
  simp only [← hag 0 (by decide), ← hag 1 (by decide), ← hag 3 (by decide), ← hag 4 (by decide), ← hag 148 (by decide), ← hag 153 (by decide)]
  have hg := jl_ag hg hag (by decide)
  refine jl_dup h rfl dc_FS_init_83 84 rfl ?_
  refine jl_aload_n (i := 0) h rfl rfl dc_FS_init_84 85 rfl ?_
  refine jl_getf h nm_c_FS 0 wl_FS_10 (by omega) (by decide) (by exact rfl) (by rfl) dc_FS_init_85 88 rfl ?_
  refine jl_aload_n (i := 1) h rfl rfl dc_FS_init_88 89 rfl ?_
  refine jl_callN (As := [_, _]) (rest := [_, _]) h hxV (hr.le (by decide) (by decide)) vs_FS_41 rfl vi_SR_init (fun l => c_SR_init_156 (V := va_up vz0 154 (fun _ => -1)) l ((va_up_ne _ _ (by decide)).trans (vz0_hi (by decide))) ((va_up_ne _ _ (by decide)).trans (vz0_hi (by decide)))) (by omega) (by omega) rfl rfl (Nat.le_of_ble_eq_true rfl) dc_FS_init_89 92 rfl (fun ad2 hag h => ?_)
  simp only [← hag 0 (by decide), ← hag 1 (by decide), ← hag 3 (by decide), ← hag 4 (by decide), ← hag 148 (by decide), ← hag 153 (by decide), ← hag 156 (by decide)]
  have hg := jl_ag hg hag (by decide)
  refine jl_putf (fs2 := [_, _, _, _, _, _, _]) h nm_c_FS 6 wl_FS_46 (by omega) (by decide) rfl (by exact rfl) (by rfl) (by rfl) (by exact Nat.le_of_ble_eq_true rfl) (by rfl) dc_FS_init_92 gu_up2 95 rfl ?_
  refine jl_aload_n (i := 0) h rfl rfl dc_FS_init_95 96 rfl ?_
  refine jl_bipush (v := 20) h (by decide) dc_FS_init_96 98 rfl ?_
  refine jl_newa (atype := .char) (ty := .char) h (hr.le (by decide) (by decide)) wa_char rfl (j := 1) rfl (a0 := (20, .inl (fun _ => 0))) (fun _ => rfl) (by decide) (by decide) (by decide) (fun U c1 c2 (a : U.vm.findClass ("[" ++ FieldType.char.toString) = some c1) (b : U.vm.findClass ("[" ++ FieldType.char.toString) = some c2) => Option.some.inj (a.symm.trans b)) dc_FS_init_98 100 rfl (jl_news (fun ad3 => gu K ad3 vz (va_up (fun _ => none) 0 (some (.inr (0, [.ref (ad2 1), .ref (ad2 4), .ref (ad2 148), .null, .int 0, .ref (ad2 153), .ref (ad2 156)]))))) (fun ad2 hag => gu_eq [0] ⟨rfl, trivial⟩ (fun _ _ => rfl) (by decide +kernel) hag) (fun _ => rfl) (fun ad2 hag h => ?_))
  simp only [← hag 0 (by decide), ← hag 1 (by decide), ← hag 3 (by decide), ← hag 4 (by decide), ← hag 148 (by decide), ← hag 153 (by decide), ← hag 156 (by decide)]
  have hg := jl_ag hg hag (by decide)
  refine jl_putF he (fs2 := [_, _, _, _, _, _, _]) h nm_c_FS 3 wl_FS_49 (by omega) (by decide) rfl rfl (by exact rfl) (by rfl) (by rfl) (by exact Nat.le_of_ble_eq_true rfl) (by rfl) dc_FS_init_100 gu_up2 103 rfl ?_
  refine jl_aload_n (i := 0) h rfl rfl dc_FS_init_103 104 rfl ?_
  refine jl_iconst (v := 0) h (by decide) dc_FS_init_104 105 rfl ?_
  refine jl_putf (fs2 := [_, _, _, _, _, _, _]) h nm_c_FS 4 wl_FS_53 (by omega) (by decide) rfl (by exact rfl) (by rfl) (by rfl) (by exact Nat.le_of_ble_eq_true rfl) (by rfl) dc_FS_init_105 gu_up2 108 rfl ?_
  exact jl_vretN h he (by decide) hg (fun k _ => congrFun (gu_fin rfl rfl) k) dc_FS_init_108
end INI

