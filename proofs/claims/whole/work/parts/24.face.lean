/-! FoldedStrand: forgetStructures, adoptDraft, clear, base, most, least, ways, list, energyOf, at, type, partner. -/
theorem fs_r {ad : Nat → Nat} {a c : Nat} (h : a = c) : some (Value.ref (ad a)) = some (Value.ref (ad c)) := by rw [h]
theorem fs_app {K : Nat → ClassId} {ad : Nat → Nat} {I : Nat → Int32} {V : Nat → Nat → Int32} {L : Nat → Int64} {C : Nat → Int32} {G : Nat → Nat} {R : Nat → Nat} (n : Nat) (b : Nat → Nat) : st_app K ad (gw K ad I V L C G R) n b = gw K ad (va_up I 0 (nI n)) (va_up V 2 (fun i => nI (b i))) L C G R := by
  unfold st_app
  rw [show va_up (gw K ad I V L C G R) 2 (.inl (K 0, 18, .inl (fun i => nI (b i)))) = gw K ad I (va_up V 2 (fun i => nI (b i))) L C G R from gw_rowset (len := 18) ⟨rfl, rfl⟩ _]
  exact gw_set_size _
section FS
variable (l : Launch) {K : Nat → ClassId} {sa : Nat → Nat} {ad : Nat → Nat} {I : Nat → Int32} {V : Nat → Nat → Int32} {L : Nat → Int64} {C : Nat → Int32} {G : Nat → Nat} {R : Nat → Nat} {n : Nat} {b : Nat → Nat} {pe : Nat → Nat → Int} {T : Nat → Nat → Nat → Int} {w : Nat → Int}
theorem c_FS1_forget (hG : G 0 = 153) : jl_C l K sa yn_FS_forgetStructures bc_FS_forgetStructures 1 none 2 50 168 ad [.ref (ad 0)] (gw K ad I V L C G R) none (gw K ad (va_up (va_up (va_up (va_up I 1 (nI 0)) 4 0) 5 0) 6 0) (va_up V 154 (fun _ => -1)) L C G R) := by
  refine jl_enter (by decide) (Nat.le_of_ble_eq_true rfl) (fun x h he hr => ?_)
  show jl_J x 168 ad 0 0 (gw K ad I V L C G R) 0 [(0, .ref (ad 0))] []
  refine jl_aload_n (i := 0) h rfl rfl dc_FS_forgetStructures_0 1 rfl ?_
  refine jl_getf h nm_c_FS 2 wl_FS_35 (by omega) (by decide) (by exact rfl) (by rfl) dc_FS_forgetStructures_1 4 rfl ?_
  refine jl_callV (As := []) (rest := []) h hr vs_FS_128 vi_NL_forget vx_NL_forget (ci := 5) rfl (by omega) (by exact rfl) (fun l => c_NL_forget l) (by first | decide | omega) (by first | decide | omega) rfl rfl (Nat.le_of_ble_eq_true rfl) dc_FS_forgetStructures_4 (res := []) rfl 7 rfl ?_
  refine jl_aload_n (i := 0) h rfl rfl dc_FS_forgetStructures_7 8 rfl ?_
  refine jl_getf (v := .ref (ad 153)) h nm_c_FS 5 wl_FS_42 (by omega) (by decide) (by exact rfl) (by exact fs_r hG) dc_FS_forgetStructures_8 11 rfl ?_
  refine jl_callV (As := []) (rest := []) h hr vs_FS_99 vi_SR_restart vx_SR_restart (ci := 6) rfl (by omega) (by exact rfl) (fun l => c_SR1_restart l (by decide) rfl (gw_row (len := 18) ⟨rfl, rfl⟩)) (by first | decide | omega) (by first | decide | omega) rfl rfl (Nat.le_of_ble_eq_true rfl) dc_FS_forgetStructures_11 (res := []) rfl 14 rfl ?_
  exact jl_vret h he (rfl) ((congrArg (fun z => va_up z 153 _) (gw_rowset (len := 18) ⟨rfl, rfl⟩ _)).trans (gw_set_sr1 _ _ _)) dc_FS_forgetStructures_14
theorem c_FS1_adoptDraft (hG : G 0 = 153) (hG1 : G 1 = 156) : jl_C l K sa yn_FS_adoptDraft bc_FS_adoptDraft 2 (some .int) 1 25 168 ad [.ref (ad 0)] (gw K ad I V L C G R) (some (.int (I 9))) (gw K ad I V L C (va_up (va_up G 0 156) 1 153) R) := by
  refine jl_enter (by decide) (Nat.le_of_ble_eq_true rfl) (fun x h he hr => ?_)
  show jl_J x 168 ad 0 0 (gw K ad I V L C G R) 0 [(0, .ref (ad 0))] []
  refine jl_aload_n (i := 0) h rfl rfl dc_FS_adoptDraft_0 1 rfl ?_
  refine jl_getf (v := .ref (ad 153)) h nm_c_FS 5 wl_FS_42 (by omega) (by decide) (by exact rfl) (by exact fs_r hG) dc_FS_adoptDraft_1 4 rfl ?_
  refine jl_astore_n (i := 1) (lc2 := [(1, _), (0, _)]) h rfl (by decide) rfl dc_FS_adoptDraft_4 5 rfl ?_
  refine jl_aload_n (i := 0) h rfl rfl dc_FS_adoptDraft_5 6 rfl ?_
  refine jl_aload_n (i := 0) h rfl rfl dc_FS_adoptDraft_6 7 rfl ?_
  refine jl_getf (v := .ref (ad 156)) h nm_c_FS 6 wl_FS_46 (by omega) (by decide) (by exact rfl) (by exact fs_r hG1) dc_FS_adoptDraft_7 10 rfl ?_
  refine jl_putf (fs2 := [_, _, _, _, _, _, _]) h nm_c_FS 5 wl_FS_42 (by omega) (by decide) rfl (by exact rfl) (by rfl) (by rfl) (by exact Nat.le_of_ble_eq_true rfl) (by rfl) dc_FS_adoptDraft_10 (gw_set_G0 _) 13 rfl ?_
  refine jl_aload_n (i := 0) h rfl rfl dc_FS_adoptDraft_13 14 rfl ?_
  refine jl_aload_n (i := 1) h rfl rfl dc_FS_adoptDraft_14 15 rfl ?_
  refine jl_putf (fs2 := [_, _, _, _, _, _, _]) h nm_c_FS 6 wl_FS_46 (by omega) (by decide) rfl (by exact rfl) (by rfl) (by rfl) (by exact Nat.le_of_ble_eq_true rfl) (by rfl) dc_FS_adoptDraft_15 (gw_set_G1 _) 18 rfl ?_
  refine jl_aload_n (i := 0) h rfl rfl dc_FS_adoptDraft_18 19 rfl ?_
  refine jl_getf (v := .ref (ad 156)) h nm_c_FS 5 wl_FS_42 (by omega) (by decide) (by exact rfl) (by exact rfl) dc_FS_adoptDraft_19 22 rfl ?_
  refine jl_callV (As := []) (rest := []) h hr vs_FS_131 vi_SR_pairCount vx_SR_pairCount (ci := 6) rfl (by omega) (by exact rfl) (fun l => c_SR2_pairCount l) (by first | decide | omega) (by first | decide | omega) rfl rfl (Nat.le_of_ble_eq_true rfl) dc_FS_adoptDraft_22 (res := [_]) rfl 25 rfl ?_
  exact jl_zret h he rfl (rfl) (rfl) dc_FS_adoptDraft_25
theorem c_FS1_clear (hG : G 0 = 153) (hS : st_ok K ad (gw K ad I V L C G R) n b) : jl_C l K sa yn_FS_clear bc_FS_clear 2 (some .int) 3 75 168 ad [.ref (ad 0)] (gw K ad I V L C G R) (some (.int (nI n))) (gw K ad (va_up (va_up (va_up (va_up (va_up I 0 (nI 0)) 1 (nI 0)) 4 0) 5 0) 6 0) (va_up V 154 (fun _ => -1)) L C G R) := by
  refine jl_enter (by decide) (Nat.le_of_ble_eq_true rfl) (fun x h he hr => ?_)
  show jl_J x 168 ad 0 0 (gw K ad I V L C G R) 0 [(0, .ref (ad 0))] []
  refine jl_aload_n (i := 0) h rfl rfl dc_FS_clear_0 1 rfl ?_
  refine jl_getf h nm_c_FS 0 wl_FS_10 (by omega) (by decide) (by exact rfl) (by rfl) dc_FS_clear_1 4 rfl ?_
  refine jl_callV (As := []) (rest := []) h hr vs_FS_67 vi_ST_removeAll vx_ST_removeAll (ci := 1) rfl (by omega) (by exact hS.1) (fun l => c_ST_removeAll l (by omega) hS) (by first | decide | omega) (by first | decide | omega) rfl rfl (Nat.le_of_ble_eq_true rfl) dc_FS_clear_4 (res := [_]) rfl 7 rfl ?_
  rw [gw_set_size]
  refine jl_istore_n (i := 1) (lc2 := [(1, _), (0, _)]) h rfl (by decide) rfl dc_FS_clear_7 8 rfl ?_
  refine jl_aload_n (i := 0) h rfl rfl dc_FS_clear_8 9 rfl ?_
  refine jl_callV (As := []) (rest := []) h hr vs_FS_64 vi_FS_forgetStructures vx_FS_forgetStructures (ci := 0) rfl (by omega) (by exact rfl) (fun l => c_FS1_forget l hG) (by first | decide | omega) (by first | decide | omega) rfl rfl (Nat.le_of_ble_eq_true rfl) dc_FS_clear_9 (res := []) rfl 12 rfl ?_
  refine jl_iload_n (i := 1) h rfl rfl dc_FS_clear_12 13 rfl ?_
  exact jl_zret h he rfl (rfl) (rfl) dc_FS_clear_13
theorem c_FS1_base_yes (hG : G 0 = 153) (hI0 : I 0 = nI n) (hV2 : V 2 = fun i => nI (b i)) (hn : n < 18) (hb : ∀ i, b i < 4) (hV : fo_V n pe T V) (hB : fo_B n pe T) (q : Int32) {a : Nat} (ha : a < 4) (hq : st_num q = a) : jl_CP l K sa yn_FS_base bc_FS_base 2 (some .boolean) 6 190 168 ad [.ref (ad 0), .int q] (gw K ad I V L C G R) (fun v E2 => ∃ V2, v = some (.int 1) ∧ fo_V (n + 1) (fo_pe (va_up b n a) n pe T) (fo_T (va_up b n a) n pe T) V2 ∧ (∀ c, (c < 6 ∨ 148 ≤ c) → V2 c = va_up V 2 (fun i => nI (va_up b n a i)) c) ∧ E2 = gw K ad (va_up (va_up (va_up (va_up (va_up I 0 (nI (n + 1))) 1 (nI 0)) 4 0) 5 0) 6 0) (va_up V2 154 (fun _ => -1)) L C G R) := by
  refine jl_enterP (by decide) (Nat.le_of_ble_eq_true rfl) (fun x h he hr => ?_)
  show jl_J x 168 ad 0 0 (gw K ad I V L C G R) 0 [(0, .ref (ad 0)), (1, .int q)] []
  have hS : st_ok K ad (gw K ad I V L C G R) n b := ⟨by show Sum.inr _ = _; rw [hI0], gw_at rfl rfl hV2, by omega, hb⟩
  have hb2 : ∀ i, va_up b n a i < 4 := fun i => by
    unfold va_up
    split
    · exact ha
    · exact hb i
  have hV9 : fo_V n pe T (va_up V 2 (fun i => nI (va_up b n a i))) := by
    refine ⟨fun i j hij hj => ?_, fun q hq i e hie he => ?_⟩
    · rw [va_up_ne _ _ (by omega)]
      exact hV.1 i j hij hj
    · have := fo_b_in q i hq (by omega)
      rw [va_up_ne _ _ (by omega)]
      exact hV.2 q hq i e hie he
  refine jl_aload_n (i := 0) h rfl rfl dc_FS_base_0 1 rfl ?_
  refine jl_getf h nm_c_FS 0 wl_FS_10 (by omega) (by decide) (by exact rfl) (by rfl) dc_FS_base_1 4 rfl ?_
  refine jl_iload_n (i := 1) h rfl rfl dc_FS_base_4 5 rfl ?_
  refine jl_callV (As := [_]) (rest := []) h hr vs_FS_57 vi_ST_append vx_ST_append (ci := 1) rfl (by omega) (by exact hS.1) (fun l => c_ST_append_yes l (by omega) hS q ha hq hn) (by first | decide | omega) (by first | decide | omega) rfl rfl (Nat.le_of_ble_eq_true rfl) dc_FS_base_5 (res := [_]) rfl 8 rfl ?_
  rw [fs_app]
  refine jl_if_ne h 13 (by decide) dc_FS_base_8 11 rfl (fun c8 => ?_) (fun c8 => absurd c8 (by decide))
  refine jl_aload_n (i := 0) h rfl rfl dc_FS_base_13 14 rfl ?_
  refine jl_getf h nm_c_FS 1 wl_FS_26 (by omega) (by decide) (by exact rfl) (by rfl) dc_FS_base_14 17 rfl ?_
  refine jl_callVV (As := []) (rest := []) h hr vs_FS_61 vi_FO_extend vx_FO_extend (ci := 3) rfl (by omega) (by exact rfl) (fun l => c_FO_extend l (b := va_up b n a) (va_up_self _ _ _) (va_up_self _ _ _) hn hb2 hV9 hB) (by first | decide | omega) (by first | decide | omega) rfl rfl (Nat.le_of_ble_eq_true rfl) dc_FS_base_17 20 rfl ?_
  rintro E9 ⟨V2, hV3, hfr, rfl⟩
  refine jl_aload_n (i := 0) h rfl rfl dc_FS_base_20 21 rfl ?_
  refine jl_callV (As := []) (rest := []) h hr vs_FS_64 vi_FS_forgetStructures vx_FS_forgetStructures (ci := 0) rfl (by omega) (by exact rfl) (fun l => c_FS1_forget l hG) (by first | decide | omega) (by first | decide | omega) rfl rfl (Nat.le_of_ble_eq_true rfl) dc_FS_base_21 (res := []) rfl 24 rfl ?_
  refine jl_iconst (v := 1) h (by decide) dc_FS_base_24 25 rfl ?_
  exact jl_zretP h he rfl (⟨V2, rfl, hV3, hfr, rfl⟩) dc_FS_base_25
theorem c_FS2_forget (hG : G 0 = 156) : jl_C l K sa yn_FS_forgetStructures bc_FS_forgetStructures 1 none 2 50 168 ad [.ref (ad 0)] (gw K ad I V L C G R) none (gw K ad (va_up (va_up (va_up (va_up I 1 (nI 0)) 7 0) 8 0) 9 0) (va_up V 157 (fun _ => -1)) L C G R) := by
  refine jl_enter (by decide) (Nat.le_of_ble_eq_true rfl) (fun x h he hr => ?_)
  show jl_J x 168 ad 0 0 (gw K ad I V L C G R) 0 [(0, .ref (ad 0))] []
  refine jl_aload_n (i := 0) h rfl rfl dc_FS_forgetStructures_0 1 rfl ?_
  refine jl_getf h nm_c_FS 2 wl_FS_35 (by omega) (by decide) (by exact rfl) (by rfl) dc_FS_forgetStructures_1 4 rfl ?_
  refine jl_callV (As := []) (rest := []) h hr vs_FS_128 vi_NL_forget vx_NL_forget (ci := 5) rfl (by omega) (by exact rfl) (fun l => c_NL_forget l) (by first | decide | omega) (by first | decide | omega) rfl rfl (Nat.le_of_ble_eq_true rfl) dc_FS_forgetStructures_4 (res := []) rfl 7 rfl ?_
  refine jl_aload_n (i := 0) h rfl rfl dc_FS_forgetStructures_7 8 rfl ?_
  refine jl_getf (v := .ref (ad 156)) h nm_c_FS 5 wl_FS_42 (by omega) (by decide) (by exact rfl) (by exact fs_r hG) dc_FS_forgetStructures_8 11 rfl ?_
  refine jl_callV (As := []) (rest := []) h hr vs_FS_99 vi_SR_restart vx_SR_restart (ci := 6) rfl (by omega) (by exact rfl) (fun l => c_SR2_restart l (by decide) rfl (gw_row (len := 18) ⟨rfl, rfl⟩)) (by first | decide | omega) (by first | decide | omega) rfl rfl (Nat.le_of_ble_eq_true rfl) dc_FS_forgetStructures_11 (res := []) rfl 14 rfl ?_
  exact jl_vret h he (rfl) ((congrArg (fun z => va_up z 156 _) (gw_rowset (len := 18) ⟨rfl, rfl⟩ _)).trans (gw_set_sr2 _ _ _)) dc_FS_forgetStructures_14
theorem c_FS2_adoptDraft (hG : G 0 = 156) (hG1 : G 1 = 153) : jl_C l K sa yn_FS_adoptDraft bc_FS_adoptDraft 2 (some .int) 1 25 168 ad [.ref (ad 0)] (gw K ad I V L C G R) (some (.int (I 6))) (gw K ad I V L C (va_up (va_up G 0 153) 1 156) R) := by
  refine jl_enter (by decide) (Nat.le_of_ble_eq_true rfl) (fun x h he hr => ?_)
  show jl_J x 168 ad 0 0 (gw K ad I V L C G R) 0 [(0, .ref (ad 0))] []
  refine jl_aload_n (i := 0) h rfl rfl dc_FS_adoptDraft_0 1 rfl ?_
  refine jl_getf (v := .ref (ad 156)) h nm_c_FS 5 wl_FS_42 (by omega) (by decide) (by exact rfl) (by exact fs_r hG) dc_FS_adoptDraft_1 4 rfl ?_
  refine jl_astore_n (i := 1) (lc2 := [(1, _), (0, _)]) h rfl (by decide) rfl dc_FS_adoptDraft_4 5 rfl ?_
  refine jl_aload_n (i := 0) h rfl rfl dc_FS_adoptDraft_5 6 rfl ?_
  refine jl_aload_n (i := 0) h rfl rfl dc_FS_adoptDraft_6 7 rfl ?_
  refine jl_getf (v := .ref (ad 153)) h nm_c_FS 6 wl_FS_46 (by omega) (by decide) (by exact rfl) (by exact fs_r hG1) dc_FS_adoptDraft_7 10 rfl ?_
  refine jl_putf (fs2 := [_, _, _, _, _, _, _]) h nm_c_FS 5 wl_FS_42 (by omega) (by decide) rfl (by exact rfl) (by rfl) (by rfl) (by exact Nat.le_of_ble_eq_true rfl) (by rfl) dc_FS_adoptDraft_10 (gw_set_G0 _) 13 rfl ?_
  refine jl_aload_n (i := 0) h rfl rfl dc_FS_adoptDraft_13 14 rfl ?_
  refine jl_aload_n (i := 1) h rfl rfl dc_FS_adoptDraft_14 15 rfl ?_
  refine jl_putf (fs2 := [_, _, _, _, _, _, _]) h nm_c_FS 6 wl_FS_46 (by omega) (by decide) rfl (by exact rfl) (by rfl) (by rfl) (by exact Nat.le_of_ble_eq_true rfl) (by rfl) dc_FS_adoptDraft_15 (gw_set_G1 _) 18 rfl ?_
  refine jl_aload_n (i := 0) h rfl rfl dc_FS_adoptDraft_18 19 rfl ?_
  refine jl_getf (v := .ref (ad 153)) h nm_c_FS 5 wl_FS_42 (by omega) (by decide) (by exact rfl) (by exact rfl) dc_FS_adoptDraft_19 22 rfl ?_
  refine jl_callV (As := []) (rest := []) h hr vs_FS_131 vi_SR_pairCount vx_SR_pairCount (ci := 6) rfl (by omega) (by exact rfl) (fun l => c_SR1_pairCount l) (by first | decide | omega) (by first | decide | omega) rfl rfl (Nat.le_of_ble_eq_true rfl) dc_FS_adoptDraft_22 (res := [_]) rfl 25 rfl ?_
  exact jl_zret h he rfl (rfl) (rfl) dc_FS_adoptDraft_25
theorem c_FS2_clear (hG : G 0 = 156) (hS : st_ok K ad (gw K ad I V L C G R) n b) : jl_C l K sa yn_FS_clear bc_FS_clear 2 (some .int) 3 75 168 ad [.ref (ad 0)] (gw K ad I V L C G R) (some (.int (nI n))) (gw K ad (va_up (va_up (va_up (va_up (va_up I 0 (nI 0)) 1 (nI 0)) 7 0) 8 0) 9 0) (va_up V 157 (fun _ => -1)) L C G R) := by
  refine jl_enter (by decide) (Nat.le_of_ble_eq_true rfl) (fun x h he hr => ?_)
  show jl_J x 168 ad 0 0 (gw K ad I V L C G R) 0 [(0, .ref (ad 0))] []
  refine jl_aload_n (i := 0) h rfl rfl dc_FS_clear_0 1 rfl ?_
  refine jl_getf h nm_c_FS 0 wl_FS_10 (by omega) (by decide) (by exact rfl) (by rfl) dc_FS_clear_1 4 rfl ?_
  refine jl_callV (As := []) (rest := []) h hr vs_FS_67 vi_ST_removeAll vx_ST_removeAll (ci := 1) rfl (by omega) (by exact hS.1) (fun l => c_ST_removeAll l (by omega) hS) (by first | decide | omega) (by first | decide | omega) rfl rfl (Nat.le_of_ble_eq_true rfl) dc_FS_clear_4 (res := [_]) rfl 7 rfl ?_
  rw [gw_set_size]
  refine jl_istore_n (i := 1) (lc2 := [(1, _), (0, _)]) h rfl (by decide) rfl dc_FS_clear_7 8 rfl ?_
  refine jl_aload_n (i := 0) h rfl rfl dc_FS_clear_8 9 rfl ?_
  refine jl_callV (As := []) (rest := []) h hr vs_FS_64 vi_FS_forgetStructures vx_FS_forgetStructures (ci := 0) rfl (by omega) (by exact rfl) (fun l => c_FS2_forget l hG) (by first | decide | omega) (by first | decide | omega) rfl rfl (Nat.le_of_ble_eq_true rfl) dc_FS_clear_9 (res := []) rfl 12 rfl ?_
  refine jl_iload_n (i := 1) h rfl rfl dc_FS_clear_12 13 rfl ?_
  exact jl_zret h he rfl (rfl) (rfl) dc_FS_clear_13
theorem c_FS2_base_yes (hG : G 0 = 156) (hI0 : I 0 = nI n) (hV2 : V 2 = fun i => nI (b i)) (hn : n < 18) (hb : ∀ i, b i < 4) (hV : fo_V n pe T V) (hB : fo_B n pe T) (q : Int32) {a : Nat} (ha : a < 4) (hq : st_num q = a) : jl_CP l K sa yn_FS_base bc_FS_base 2 (some .boolean) 6 190 168 ad [.ref (ad 0), .int q] (gw K ad I V L C G R) (fun v E2 => ∃ V2, v = some (.int 1) ∧ fo_V (n + 1) (fo_pe (va_up b n a) n pe T) (fo_T (va_up b n a) n pe T) V2 ∧ (∀ c, (c < 6 ∨ 148 ≤ c) → V2 c = va_up V 2 (fun i => nI (va_up b n a i)) c) ∧ E2 = gw K ad (va_up (va_up (va_up (va_up (va_up I 0 (nI (n + 1))) 1 (nI 0)) 7 0) 8 0) 9 0) (va_up V2 157 (fun _ => -1)) L C G R) := by
  refine jl_enterP (by decide) (Nat.le_of_ble_eq_true rfl) (fun x h he hr => ?_)
  show jl_J x 168 ad 0 0 (gw K ad I V L C G R) 0 [(0, .ref (ad 0)), (1, .int q)] []
  have hS : st_ok K ad (gw K ad I V L C G R) n b := ⟨by show Sum.inr _ = _; rw [hI0], gw_at rfl rfl hV2, by omega, hb⟩
  have hb2 : ∀ i, va_up b n a i < 4 := fun i => by
    unfold va_up
    split
    · exact ha
    · exact hb i
  have hV9 : fo_V n pe T (va_up V 2 (fun i => nI (va_up b n a i))) := by
    refine ⟨fun i j hij hj => ?_, fun q hq i e hie he => ?_⟩
    · rw [va_up_ne _ _ (by omega)]
      exact hV.1 i j hij hj
    · have := fo_b_in q i hq (by omega)
      rw [va_up_ne _ _ (by omega)]
      exact hV.2 q hq i e hie he
  refine jl_aload_n (i := 0) h rfl rfl dc_FS_base_0 1 rfl ?_
  refine jl_getf h nm_c_FS 0 wl_FS_10 (by omega) (by decide) (by exact rfl) (by rfl) dc_FS_base_1 4 rfl ?_
  refine jl_iload_n (i := 1) h rfl rfl dc_FS_base_4 5 rfl ?_
  refine jl_callV (As := [_]) (rest := []) h hr vs_FS_57 vi_ST_append vx_ST_append (ci := 1) rfl (by omega) (by exact hS.1) (fun l => c_ST_append_yes l (by omega) hS q ha hq hn) (by first | decide | omega) (by first | decide | omega) rfl rfl (Nat.le_of_ble_eq_true rfl) dc_FS_base_5 (res := [_]) rfl 8 rfl ?_
  rw [fs_app]
  refine jl_if_ne h 13 (by decide) dc_FS_base_8 11 rfl (fun c8 => ?_) (fun c8 => absurd c8 (by decide))
  refine jl_aload_n (i := 0) h rfl rfl dc_FS_base_13 14 rfl ?_
  refine jl_getf h nm_c_FS 1 wl_FS_26 (by omega) (by decide) (by exact rfl) (by rfl) dc_FS_base_14 17 rfl ?_
  refine jl_callVV (As := []) (rest := []) h hr vs_FS_61 vi_FO_extend vx_FO_extend (ci := 3) rfl (by omega) (by exact rfl) (fun l => c_FO_extend l (b := va_up b n a) (va_up_self _ _ _) (va_up_self _ _ _) hn hb2 hV9 hB) (by first | decide | omega) (by first | decide | omega) rfl rfl (Nat.le_of_ble_eq_true rfl) dc_FS_base_17 20 rfl ?_
  rintro E9 ⟨V2, hV3, hfr, rfl⟩
  refine jl_aload_n (i := 0) h rfl rfl dc_FS_base_20 21 rfl ?_
  refine jl_callV (As := []) (rest := []) h hr vs_FS_64 vi_FS_forgetStructures vx_FS_forgetStructures (ci := 0) rfl (by omega) (by exact rfl) (fun l => c_FS2_forget l hG) (by first | decide | omega) (by first | decide | omega) rfl rfl (Nat.le_of_ble_eq_true rfl) dc_FS_base_21 (res := []) rfl 24 rfl ?_
  refine jl_iconst (v := 1) h (by decide) dc_FS_base_24 25 rfl ?_
  exact jl_zretP h he rfl (⟨V2, rfl, hV3, hfr, rfl⟩) dc_FS_base_25
theorem c_FS_base_no (hS : st_ok K ad (gw K ad I V L C G R) n b) (q : Int32) (hq : st_num q = -1 ∨ n = 18) : jl_C l K sa yn_FS_base bc_FS_base 2 (some .boolean) 6 190 168 ad [.ref (ad 0), .int q] (gw K ad I V L C G R) (some (.int 0)) (gw K ad I V L C G R) := by
  refine jl_enter (by decide) (Nat.le_of_ble_eq_true rfl) (fun x h he hr => ?_)
  show jl_J x 168 ad 0 0 (gw K ad I V L C G R) 0 [(0, .ref (ad 0)), (1, .int q)] []
  refine jl_aload_n (i := 0) h rfl rfl dc_FS_base_0 1 rfl ?_
  refine jl_getf h nm_c_FS 0 wl_FS_10 (by omega) (by decide) (by exact rfl) (by rfl) dc_FS_base_1 4 rfl ?_
  refine jl_iload_n (i := 1) h rfl rfl dc_FS_base_4 5 rfl ?_
  refine jl_callV (As := [_]) (rest := []) h hr vs_FS_57 vi_ST_append vx_ST_append (ci := 1) rfl (by omega) (by exact hS.1) (fun l => c_ST_append_no l (by omega) hS q hq) (by first | decide | omega) (by first | decide | omega) rfl rfl (Nat.le_of_ble_eq_true rfl) dc_FS_base_5 (res := [_]) rfl 8 rfl ?_
  refine jl_if_ne h 13 (by decide) dc_FS_base_8 11 rfl (fun c8 => absurd (by decide) c8) (fun c8 => ?_)
  refine jl_iconst (v := 0) h (by decide) dc_FS_base_11 12 rfl ?_
  exact jl_zret h he rfl (rfl) (rfl) dc_FS_base_12
theorem c_FS_most (hS : st_ok K ad (gw K ad I V L C G R) n b) : jl_C l K sa yn_FS_most bc_FS_most 1 (some .int) 2 50 168 ad [.ref (ad 0)] (gw K ad I V L C G R) (some (.int (V 45 n))) (gw K ad I V L C G R) := by
  refine jl_enter (by decide) (Nat.le_of_ble_eq_true rfl) (fun x h he hr => ?_)
  show jl_J x 168 ad 0 0 (gw K ad I V L C G R) 0 [(0, .ref (ad 0))] []
  refine jl_aload_n (i := 0) h rfl rfl dc_FS_most_0 1 rfl ?_
  refine jl_getf h nm_c_FS 1 wl_FS_26 (by omega) (by decide) (by exact rfl) (by rfl) dc_FS_most_1 4 rfl ?_
  refine jl_callV (As := []) (rest := []) h hr vs_FS_71 vi_FO_mostPairs vx_FO_mostPairs (ci := 3) rfl (by omega) (by exact rfl) (fun l => c_FO_mostPairs l hS) (by first | decide | omega) (by first | decide | omega) rfl rfl (Nat.le_of_ble_eq_true rfl) dc_FS_most_4 (res := [_]) rfl 7 rfl ?_
  exact jl_zret h he rfl (rfl) (rfl) dc_FS_most_7
theorem c_FS_least (hS : st_ok K ad (gw K ad I V L C G R) n b) : jl_C l K sa yn_FS_least bc_FS_least 1 (some .int) 2 50 168 ad [.ref (ad 0)] (gw K ad I V L C G R) (some (.int (V 66 n))) (gw K ad I V L C G R) := by
  refine jl_enter (by decide) (Nat.le_of_ble_eq_true rfl) (fun x h he hr => ?_)
  show jl_J x 168 ad 0 0 (gw K ad I V L C G R) 0 [(0, .ref (ad 0))] []
  refine jl_aload_n (i := 0) h rfl rfl dc_FS_least_0 1 rfl ?_
  refine jl_getf h nm_c_FS 1 wl_FS_26 (by omega) (by decide) (by exact rfl) (by rfl) dc_FS_least_1 4 rfl ?_
  refine jl_callV (As := []) (rest := []) h hr vs_FS_74 vi_FO_leastEnergy vx_FO_leastEnergy (ci := 3) rfl (by omega) (by exact rfl) (fun l => c_FO_leastEnergy l hS) (by first | decide | omega) (by first | decide | omega) rfl rfl (Nat.le_of_ble_eq_true rfl) dc_FS_least_4 (res := [_]) rfl 7 rfl ?_
  exact jl_zret h he rfl (rfl) (rfl) dc_FS_least_7
theorem c_FS_ways (hS : st_ok K ad (gw K ad I V L C G R) n b) : jl_C l K sa yn_FS_ways bc_FS_ways 1 (some .int) 2 50 168 ad [.ref (ad 0)] (gw K ad I V L C G R) (some (.int (V 25 n))) (gw K ad I V L C G R) := by
  refine jl_enter (by decide) (Nat.le_of_ble_eq_true rfl) (fun x h he hr => ?_)
  show jl_J x 168 ad 0 0 (gw K ad I V L C G R) 0 [(0, .ref (ad 0))] []
  refine jl_aload_n (i := 0) h rfl rfl dc_FS_ways_0 1 rfl ?_
  refine jl_getf h nm_c_FS 1 wl_FS_26 (by omega) (by decide) (by exact rfl) (by rfl) dc_FS_ways_1 4 rfl ?_
  refine jl_callV (As := []) (rest := []) h hr vs_FS_77 vi_FO_structureCount vx_FO_structureCount (ci := 3) rfl (by omega) (by exact rfl) (fun l => c_FO_structureCount l hS) (by first | decide | omega) (by first | decide | omega) rfl rfl (Nat.le_of_ble_eq_true rfl) dc_FS_ways_4 (res := [_]) rfl 7 rfl ?_
  exact jl_zret h he rfl (rfl) (rfl) dc_FS_ways_7
theorem c_FS_list_bad (q : Int32) (hq : q < 0 ∨ 300 < q) : jl_C l K sa yn_FS_list bc_FS_list 2 (some .int) 52 2650 168 ad [.ref (ad 0), .int q] (gw K ad I V L C G R) (some (.int (-1))) (gw K ad I V L C G R) := by
  refine jl_enter (by decide) (Nat.le_of_ble_eq_true rfl) (fun x h he hr => ?_)
  show jl_J x 168 ad 0 0 (gw K ad I V L C G R) 0 [(0, .ref (ad 0)), (1, .int q)] []
  rcases hq with hq | hq
  · skip
    refine jl_iload_n (i := 1) h rfl rfl dc_FS_list_0 1 rfl ?_
    refine jl_if_lt h 11 (by decide) dc_FS_list_1 4 rfl (fun c1 => ?_) (fun c1 => absurd (hq) c1)
    refine jl_iconst (v := -1) h (by decide) dc_FS_list_11 12 rfl ?_
    exact jl_zret h he rfl (rfl) (rfl) dc_FS_list_12
  · have hq0 : ¬ q < 0 := fun h9 => by
      have := Int32.lt_trans h9 (show (0 : Int32) < 300 by decide)
      exact Int32.lt_asymm this hq
    refine jl_iload_n (i := 1) h rfl rfl dc_FS_list_0 1 rfl ?_
    refine jl_if_lt h 11 (by decide) dc_FS_list_1 4 rfl (fun c1 => absurd c1 (hq0)) (fun c1 => ?_)
    refine jl_iload_n (i := 1) h rfl rfl dc_FS_list_4 5 rfl ?_
    refine jl_sipush (v := 300) h (by decide) dc_FS_list_5 8 rfl ?_
    refine jl_icmp_le h 13 (by decide) dc_FS_list_8 11 rfl (fun c8 => absurd c8 (Int32.not_le.mpr hq)) (fun c8 => ?_)
    refine jl_iconst (v := -1) h (by decide) dc_FS_list_11 12 rfl ?_
    exact jl_zret h he rfl (rfl) (rfl) dc_FS_list_12
theorem c_FS_list (hI0 : I 0 = nI n) (hV2 : V 2 = fun i => nI (b i)) (hn : n ≤ 18) (hb : ∀ i, b i < 4) (hV : fo_V n pe T V) (hB : fo_B n pe T) (hLB : nl_LB b n pe T) {dl : Nat} (hdl : dl ≤ 300) : jl_CP l K sa yn_FS_list bc_FS_list 2 (some .int) 52 2650 168 ad [.ref (ad 0), .int (nI dl)] (gw K ad I V L C G R) (fun v E2 => ∃ I2 V2 L2 R2, v = some (.int (if (nl_res b n (T 2 0 n + dl)).2 = true then -2 else nI (nl_res b n (T 2 0 n + dl)).1.length)) ∧ (∀ k, k ≠ 1 → k ≠ 2 → k ≠ 3 → I2 k = I k) ∧ (∀ c, c ≠ 151 → c ≠ 152 → V2 c = V c) ∧ nl_li (if (nl_res b n (T 2 0 n + dl)).2 = true then [] else (nl_res b n (T 2 0 n + dl)).1) I2 L2 ∧ E2 = gw K ad I2 V2 L2 C G R2) := by
  refine jl_enterP (by decide) (Nat.le_of_ble_eq_true rfl) (fun x h he hr => ?_)
  show jl_J x 168 ad 0 0 (gw K ad I V L C G R) 0 [(0, .ref (ad 0)), (1, .int (nI dl))] []
  cases htm : (nl_res b n (T 2 0 n + dl)).2 with
  | true =>
    refine jl_iload_n (i := 1) h rfl rfl dc_FS_list_0 1 rfl ?_
    refine jl_if_lt h 11 (by decide) dc_FS_list_1 4 rfl (fun c1 => absurd c1 (nI_pos (by omega))) (fun c1 => ?_)
    refine jl_iload_n (i := 1) h rfl rfl dc_FS_list_4 5 rfl ?_
    refine jl_sipush (v := nI 300) h (by decide) dc_FS_list_5 8 rfl ?_
    refine jl_icmp_le h 13 (by decide) dc_FS_list_8 11 rfl (fun c8 => ?_) (fun c8 => absurd (nI_le hdl (by decide)) c8)
    refine jl_aload_n (i := 0) h rfl rfl dc_FS_list_13 14 rfl ?_
    refine jl_getf h nm_c_FS 2 wl_FS_35 (by omega) (by decide) (by exact rfl) (by rfl) dc_FS_list_14 17 rfl ?_
    refine jl_iload_n (i := 1) h rfl rfl dc_FS_list_17 18 rfl ?_
    refine jl_callVP (As := [_]) (rest := []) h hr vs_FS_80 vi_NL_collect vx_NL_collect (ci := 5) rfl (by omega) (by exact rfl) (fun l => c_NL_collect l hI0 hV2 hn hb hV hB hLB hdl) (by first | decide | omega) (by first | decide | omega) rfl rfl (Nat.le_of_ble_eq_true rfl) dc_FS_list_18 21 rfl ?_
    rintro v9 E9 ⟨I2, V2, L2, R2, rfl, g1, g2, g3, rfl⟩
    change jl_J _ _ _ _ _ _ _ _ ([_])
    rw [htm]
    refine jl_if_eq h 34 (by decide) dc_FS_list_21 24 rfl (fun c21 => ?_) (fun c21 => absurd (by decide) c21)
    refine jl_bipush (v := -2) h (by decide) dc_FS_list_34 36 rfl ?_
    exact jl_zretP h he rfl (⟨I2, V2, L2, R2, by rw [if_pos htm], g1, g2, g3, rfl⟩) dc_FS_list_36
  | false =>
    refine jl_iload_n (i := 1) h rfl rfl dc_FS_list_0 1 rfl ?_
    refine jl_if_lt h 11 (by decide) dc_FS_list_1 4 rfl (fun c1 => absurd c1 (nI_pos (by omega))) (fun c1 => ?_)
    refine jl_iload_n (i := 1) h rfl rfl dc_FS_list_4 5 rfl ?_
    refine jl_sipush (v := nI 300) h (by decide) dc_FS_list_5 8 rfl ?_
    refine jl_icmp_le h 13 (by decide) dc_FS_list_8 11 rfl (fun c8 => ?_) (fun c8 => absurd (nI_le hdl (by decide)) c8)
    refine jl_aload_n (i := 0) h rfl rfl dc_FS_list_13 14 rfl ?_
    refine jl_getf h nm_c_FS 2 wl_FS_35 (by omega) (by decide) (by exact rfl) (by rfl) dc_FS_list_14 17 rfl ?_
    refine jl_iload_n (i := 1) h rfl rfl dc_FS_list_17 18 rfl ?_
    refine jl_callVP (As := [_]) (rest := []) h hr vs_FS_80 vi_NL_collect vx_NL_collect (ci := 5) rfl (by omega) (by exact rfl) (fun l => c_NL_collect l hI0 hV2 hn hb hV hB hLB hdl) (by first | decide | omega) (by first | decide | omega) rfl rfl (Nat.le_of_ble_eq_true rfl) dc_FS_list_18 21 rfl ?_
    rintro v9 E9 ⟨I2, V2, L2, R2, rfl, g1, g2, g3, rfl⟩
    change jl_J _ _ _ _ _ _ _ _ ([_])
    rw [htm]
    refine jl_if_eq h 34 (by decide) dc_FS_list_21 24 rfl (fun c21 => absurd c21 (by decide)) (fun c21 => ?_)
    refine jl_aload_n (i := 0) h rfl rfl dc_FS_list_24 25 rfl ?_
    refine jl_getf h nm_c_FS 2 wl_FS_35 (by omega) (by decide) (by exact rfl) (by rfl) dc_FS_list_25 28 rfl ?_
    refine jl_callV (As := []) (rest := []) h hr vs_FS_84 vi_NL_size vx_NL_size (ci := 5) rfl (by omega) (by exact rfl) (fun l => c_NL_size l) (by first | decide | omega) (by first | decide | omega) rfl rfl (Nat.le_of_ble_eq_true rfl) dc_FS_list_28 (res := [_]) rfl 31 rfl ?_
    refine jl_goto h 36 (by decide) dc_FS_list_31 ?_
    exact jl_zretP h he rfl (⟨I2, V2, L2, R2, by rw [if_neg (by rw [htm]; decide), g3.1, if_neg (by rw [htm]; decide)], g1, g2, g3, rfl⟩) dc_FS_list_36
theorem c_FS_energyOf_no (q : Int32) (hq : ¬ (¬ q < 0 ∧ q < I 1)) : jl_C l K sa yn_FS_energyOf bc_FS_energyOf 2 (some .int) 2 50 168 ad [.ref (ad 0), .int q] (gw K ad I V L C G R) (some (.int 0)) (gw K ad I V L C G R) := by
  refine jl_enter (by decide) (Nat.le_of_ble_eq_true rfl) (fun x h he hr => ?_)
  show jl_J x 168 ad 0 0 (gw K ad I V L C G R) 0 [(0, .ref (ad 0)), (1, .int q)] []
  refine jl_aload_n (i := 0) h rfl rfl dc_FS_energyOf_0 1 rfl ?_
  refine jl_getf h nm_c_FS 2 wl_FS_35 (by omega) (by decide) (by exact rfl) (by rfl) dc_FS_energyOf_1 4 rfl ?_
  refine jl_iload_n (i := 1) h rfl rfl dc_FS_energyOf_4 5 rfl ?_
  refine jl_callV (As := [_]) (rest := []) h hr vs_FS_87 vi_NL_has vx_NL_has (ci := 5) rfl (by omega) (by exact rfl) (fun l => c_NL_has l q) (by first | decide | omega) (by first | decide | omega) rfl rfl (Nat.le_of_ble_eq_true rfl) dc_FS_energyOf_5 (res := [_]) rfl 8 rfl ?_
  refine jl_if_eq h 22 (by decide) dc_FS_energyOf_8 11 rfl (fun c8 => ?_) (fun c8 => absurd (by rw [st_b0]; exact decide_eq_false hq) c8)
  refine jl_iconst (v := 0) h (by decide) dc_FS_energyOf_22 23 rfl ?_
  exact jl_zret h he rfl (rfl) (rfl) dc_FS_energyOf_23
theorem c_FS_energyOf_yes {ks : List Int} (hli : nl_li ks I L) {k : Nat} (hk : k < ks.length) : jl_C l K sa yn_FS_energyOf bc_FS_energyOf 2 (some .int) 2 50 168 ad [.ref (ad 0), .int (nI k)] (gw K ad I V L C G R) (some (.int (iI (ks.getD k 0 / 68719476736)))) (gw K ad I V L C G R) := by
  refine jl_enter (by decide) (Nat.le_of_ble_eq_true rfl) (fun x h he hr => ?_)
  show jl_J x 168 ad 0 0 (gw K ad I V L C G R) 0 [(0, .ref (ad 0)), (1, .int (nI k))] []
  have h150 := hli.2.2.1
  have hbk : nl_big (ks.getD k 0) := by
    rw [List.getD_eq_getElem?_getD, List.getElem?_eq_getElem hk]
    exact hli.2.2.2.2 _ (List.getElem_mem hk)
  refine jl_aload_n (i := 0) h rfl rfl dc_FS_energyOf_0 1 rfl ?_
  refine jl_getf h nm_c_FS 2 wl_FS_35 (by omega) (by decide) (by exact rfl) (by rfl) dc_FS_energyOf_1 4 rfl ?_
  refine jl_iload_n (i := 1) h rfl rfl dc_FS_energyOf_4 5 rfl ?_
  refine jl_callV (As := [_]) (rest := []) h hr vs_FS_87 vi_NL_has vx_NL_has (ci := 5) rfl (by omega) (by exact rfl) (fun l => c_NL_has l (nI k)) (by first | decide | omega) (by first | decide | omega) rfl rfl (Nat.le_of_ble_eq_true rfl) dc_FS_energyOf_5 (res := [_]) rfl 8 rfl ?_
  refine jl_if_eq h 22 (by decide) dc_FS_energyOf_8 11 rfl (fun c8 => absurd c8 (by rw [st_b1]; exact decide_eq_true ⟨nI_pos (by omega), by rw [hli.1]; exact nI_lt hk (by omega)⟩)) (fun c8 => ?_)
  refine jl_aload_n (i := 0) h rfl rfl dc_FS_energyOf_11 12 rfl ?_
  refine jl_getf h nm_c_FS 2 wl_FS_35 (by omega) (by decide) (by exact rfl) (by rfl) dc_FS_energyOf_12 15 rfl ?_
  refine jl_iload_n (i := 1) h rfl rfl dc_FS_energyOf_15 16 rfl ?_
  refine jl_callV (As := [_]) (rest := []) h hr vs_FS_90 vi_NL_energyAt vx_NL_energyAt (ci := 5) rfl (by omega) (by exact rfl) (fun l => c_NL_energyAt l (by omega) hbk (hli.2.1 k hk)) (by first | decide | omega) (by first | decide | omega) rfl rfl (Nat.le_of_ble_eq_true rfl) dc_FS_energyOf_16 (res := [_]) rfl 19 rfl ?_
  refine jl_goto h 23 (by decide) dc_FS_energyOf_19 ?_
  exact jl_zret h he rfl (rfl) (rfl) dc_FS_energyOf_23
theorem c_FS_at_no (hS : st_ok K ad (gw K ad I V L C G R) n b) (q p : Int32) (hq : ¬ (¬ q < 0 ∧ q < I 1) ∨ ¬ (¬ p < 0 ∧ p < nI n)) : jl_C l K sa yn_FS_at bc_FS_at 3 (some .int) 3 75 168 ad [.ref (ad 0), .int q, .int p] (gw K ad I V L C G R) (some (.int (-1))) (gw K ad I V L C G R) := by
  refine jl_enter (by decide) (Nat.le_of_ble_eq_true rfl) (fun x h he hr => ?_)
  show jl_J x 168 ad 0 0 (gw K ad I V L C G R) 0 [(0, .ref (ad 0)), (1, .int q), (2, .int p)] []
  refine jl_aload_n (i := 0) h rfl rfl dc_FS_at_0 1 rfl ?_
  refine jl_getf h nm_c_FS 2 wl_FS_35 (by omega) (by decide) (by exact rfl) (by rfl) dc_FS_at_1 4 rfl ?_
  refine jl_iload_n (i := 1) h rfl rfl dc_FS_at_4 5 rfl ?_
  refine jl_callV (As := [_]) (rest := []) h hr vs_FS_87 vi_NL_has vx_NL_has (ci := 5) rfl (by omega) (by exact rfl) (fun l => c_NL_has l q) (by first | decide | omega) (by first | decide | omega) rfl rfl (Nat.le_of_ble_eq_true rfl) dc_FS_at_5 (res := [_]) rfl 8 rfl ?_
  refine jl_if_eq h 34 (by decide) dc_FS_at_8 11 rfl (fun c8 => ?_) (fun c8 => ?_)
  · skip
    skip
    refine jl_iconst (v := -1) h (by decide) dc_FS_at_34 35 rfl ?_
    exact jl_zret h he rfl (rfl) (rfl) dc_FS_at_35
  · skip
    rw [st_b1] at c8
    have hq2 : ¬ (¬ p < 0 ∧ p < nI n) := hq.elim (fun h9 => absurd (of_decide_eq_true c8) h9) id
    refine jl_aload_n (i := 0) h rfl rfl dc_FS_at_11 12 rfl ?_
    refine jl_getf h nm_c_FS 0 wl_FS_10 (by omega) (by decide) (by exact rfl) (by rfl) dc_FS_at_12 15 rfl ?_
    refine jl_iload_n (i := 2) h rfl rfl dc_FS_at_15 16 rfl ?_
    refine jl_callV (As := [_]) (rest := []) h hr vs_FS_94 vi_ST_has vx_ST_has (ci := 1) rfl (by omega) (by exact hS.1) (fun l => c_ST_has l (by omega) hS p) (by first | decide | omega) (by first | decide | omega) rfl rfl (Nat.le_of_ble_eq_true rfl) dc_FS_at_16 (res := [_]) rfl 19 rfl ?_
    refine jl_if_eq h 34 (by decide) dc_FS_at_19 22 rfl (fun c19 => ?_) (fun c19 => absurd (by rw [st_b0]; exact decide_eq_false hq2) c19)
    refine jl_iconst (v := -1) h (by decide) dc_FS_at_34 35 rfl ?_
    exact jl_zret h he rfl (rfl) (rfl) dc_FS_at_35
theorem c_FS_at_yes (hS : st_ok K ad (gw K ad I V L C G R) n b) {ks : List Int} (hli : nl_li ks I L) {k p : Nat} (hk : k < ks.length) (hp : p < n) : jl_C l K sa yn_FS_at bc_FS_at 3 (some .int) 3 75 168 ad [.ref (ad 0), .int (nI k), .int (nI p)] (gw K ad I V L C G R) (some (.int (nl_ch (ks.getD k 0 / nl_4 p % 4)))) (gw K ad I V L C G R) := by
  refine jl_enter (by decide) (Nat.le_of_ble_eq_true rfl) (fun x h he hr => ?_)
  obtain ⟨hST, hbases, hn, hb⟩ := id hS
  show jl_J x 168 ad 0 0 (gw K ad I V L C G R) 0 [(0, .ref (ad 0)), (1, .int (nI k)), (2, .int (nI p))] []
  have h150 := hli.2.2.1
  have hbk : nl_big (ks.getD k 0) := by
    rw [List.getD_eq_getElem?_getD, List.getElem?_eq_getElem hk]
    exact hli.2.2.2.2 _ (List.getElem_mem hk)
  refine jl_aload_n (i := 0) h rfl rfl dc_FS_at_0 1 rfl ?_
  refine jl_getf h nm_c_FS 2 wl_FS_35 (by omega) (by decide) (by exact rfl) (by rfl) dc_FS_at_1 4 rfl ?_
  refine jl_iload_n (i := 1) h rfl rfl dc_FS_at_4 5 rfl ?_
  refine jl_callV (As := [_]) (rest := []) h hr vs_FS_87 vi_NL_has vx_NL_has (ci := 5) rfl (by omega) (by exact rfl) (fun l => c_NL_has l (nI k)) (by first | decide | omega) (by first | decide | omega) rfl rfl (Nat.le_of_ble_eq_true rfl) dc_FS_at_5 (res := [_]) rfl 8 rfl ?_
  refine jl_if_eq h 34 (by decide) dc_FS_at_8 11 rfl (fun c8 => absurd c8 (by rw [st_b1]; exact decide_eq_true ⟨nI_pos (by omega), by rw [hli.1]; exact nI_lt hk (by omega)⟩)) (fun c8 => ?_)
  refine jl_aload_n (i := 0) h rfl rfl dc_FS_at_11 12 rfl ?_
  refine jl_getf h nm_c_FS 0 wl_FS_10 (by omega) (by decide) (by exact rfl) (by rfl) dc_FS_at_12 15 rfl ?_
  refine jl_iload_n (i := 2) h rfl rfl dc_FS_at_15 16 rfl ?_
  refine jl_callV (As := [_]) (rest := []) h hr vs_FS_94 vi_ST_has vx_ST_has (ci := 1) rfl (by omega) (by exact hS.1) (fun l => c_ST_has l (by omega) hS (nI p)) (by first | decide | omega) (by first | decide | omega) rfl rfl (Nat.le_of_ble_eq_true rfl) dc_FS_at_16 (res := [_]) rfl 19 rfl ?_
  refine jl_if_eq h 34 (by decide) dc_FS_at_19 22 rfl (fun c19 => absurd c19 (by rw [st_b1]; exact decide_eq_true ⟨nI_pos (by omega), nI_lt hp (by omega)⟩)) (fun c19 => ?_)
  refine jl_aload_n (i := 0) h rfl rfl dc_FS_at_22 23 rfl ?_
  refine jl_getf h nm_c_FS 2 wl_FS_35 (by omega) (by decide) (by exact rfl) (by rfl) dc_FS_at_23 26 rfl ?_
  refine jl_iload_n (i := 1) h rfl rfl dc_FS_at_26 27 rfl ?_
  refine jl_iload_n (i := 2) h rfl rfl dc_FS_at_27 28 rfl ?_
  refine jl_callV (As := [_, _]) (rest := []) h hr vs_FS_95 vi_NL_character vx_NL_character (ci := 5) rfl (by omega) (by exact rfl) (fun l => c_NL_character l (by omega) (by omega) hbk (hli.2.1 k hk)) (by first | decide | omega) (by first | decide | omega) rfl rfl (Nat.le_of_ble_eq_true rfl) dc_FS_at_28 (res := [_]) rfl 31 rfl ?_
  refine jl_goto h 35 (by decide) dc_FS_at_31 ?_
  exact jl_zret h he rfl (rfl) (rfl) dc_FS_at_35
theorem c_FS_type_no {tc : Nat} (htc : I 10 = nI tc) (h20 : tc ≤ 20) (q : Int32) (hq : q < 32 ∨ 126 < q ∨ tc = 20) : jl_C l K sa yn_FS_type bc_FS_type 2 (some .boolean) 0 0 168 ad [.ref (ad 0), .int q] (gw K ad I V L C G R) (some (.int 0)) (gw K ad I V L C G R) := by
  refine jl_enter (by decide) (Nat.le_of_ble_eq_true rfl) (fun x h he hr => ?_)
  show jl_J x 168 ad 0 0 (gw K ad I V L C G R) 0 [(0, .ref (ad 0)), (1, .int q)] []
  refine jl_iload_n (i := 1) h rfl rfl dc_FS_type_0 1 rfl ?_
  refine jl_bipush (v := 32) h (by decide) dc_FS_type_1 3 rfl ?_
  refine jl_icmp_lt h 21 (by decide) dc_FS_type_3 6 rfl (fun c3 => ?_) (fun c3 => ?_)
  · skip
    refine jl_iconst (v := 0) h (by decide) dc_FS_type_21 22 rfl ?_
    exact jl_zret h he rfl (rfl) (rfl) dc_FS_type_22
  · skip
    refine jl_iload_n (i := 1) h rfl rfl dc_FS_type_6 7 rfl ?_
    refine jl_bipush (v := 126) h (by decide) dc_FS_type_7 9 rfl ?_
    refine jl_icmp_gt h 21 (by decide) dc_FS_type_9 12 rfl (fun c9 => ?_) (fun c9 => ?_)
    · skip
      refine jl_iconst (v := 0) h (by decide) dc_FS_type_21 22 rfl ?_
      exact jl_zret h he rfl (rfl) (rfl) dc_FS_type_22
    · skip
      refine jl_aload_n (i := 0) h rfl rfl dc_FS_type_12 13 rfl ?_
      refine jl_getf (v := .int (nI tc)) h nm_c_FS 4 wl_FS_53 (by omega) (by decide) (by exact rfl) (by exact sr_v htc) dc_FS_type_13 16 rfl ?_
      refine jl_bipush (v := nI 20) h (by decide) dc_FS_type_16 18 rfl ?_
      refine jl_icmp_lt h 23 (by decide) dc_FS_type_18 21 rfl (fun c18 => absurd c18 (by rcases hq with h9 | h9 | h9; exact absurd h9 c3; exact absurd h9 c9; exact nI_nlt (by omega) (by omega))) (fun c18 => ?_)
      refine jl_iconst (v := 0) h (by decide) dc_FS_type_21 22 rfl ?_
      exact jl_zret h he rfl (rfl) (rfl) dc_FS_type_22
theorem c_FS_type_yes {tc : Nat} (htc : I 10 = nI tc) (h20 : tc < 20) (q : Int32) (hq1 : ¬ q < 32) (hq2 : ¬ 126 < q) : jl_C l K sa yn_FS_type bc_FS_type 2 (some .boolean) 0 0 168 ad [.ref (ad 0), .int q] (gw K ad I V L C G R) (some (.int 1)) (gw K ad (va_up I 10 (nI (tc + 1))) V L (upd C tc (vp_nar .char q)) G R) := by
  refine jl_enter (by decide) (Nat.le_of_ble_eq_true rfl) (fun x h he hr => ?_)
  show jl_J x 168 ad 0 0 (gw K ad I V L C G R) 0 [(0, .ref (ad 0)), (1, .int q)] []
  refine jl_iload_n (i := 1) h rfl rfl dc_FS_type_0 1 rfl ?_
  refine jl_bipush (v := 32) h (by decide) dc_FS_type_1 3 rfl ?_
  refine jl_icmp_lt h 21 (by decide) dc_FS_type_3 6 rfl (fun c3 => absurd c3 (hq1)) (fun c3 => ?_)
  refine jl_iload_n (i := 1) h rfl rfl dc_FS_type_6 7 rfl ?_
  refine jl_bipush (v := 126) h (by decide) dc_FS_type_7 9 rfl ?_
  refine jl_icmp_gt h 21 (by decide) dc_FS_type_9 12 rfl (fun c9 => absurd c9 (hq2)) (fun c9 => ?_)
  refine jl_aload_n (i := 0) h rfl rfl dc_FS_type_12 13 rfl ?_
  refine jl_getf (v := .int (nI tc)) h nm_c_FS 4 wl_FS_53 (by omega) (by decide) (by exact rfl) (by exact sr_v htc) dc_FS_type_13 16 rfl ?_
  refine jl_bipush (v := nI 20) h (by decide) dc_FS_type_16 18 rfl ?_
  refine jl_icmp_lt h 23 (by decide) dc_FS_type_18 21 rfl (fun c18 => ?_) (fun c18 => absurd (nI_lt h20 (by decide)) c18)
  refine jl_aload_n (i := 0) h rfl rfl dc_FS_type_23 24 rfl ?_
  refine jl_getf h nm_c_FS 3 wl_FS_49 (by omega) (by decide) (by exact rfl) (by rfl) dc_FS_type_24 27 rfl ?_
  refine jl_aload_n (i := 0) h rfl rfl dc_FS_type_27 28 rfl ?_
  refine jl_getf (v := .int (nI tc)) h nm_c_FS 4 wl_FS_53 (by omega) (by decide) (by exact rfl) (by exact sr_v htc) dc_FS_type_28 31 rfl ?_
  refine jl_iload_n (i := 1) h rfl rfl dc_FS_type_31 32 rfl ?_
  refine jl_cast h (tc) (by exact rfl) (by omega) (by exact rfl) (by exact h20) (by first | decide | assumption) dc_FS_type_32 (gw_set_C _) 33 rfl ?_
  refine jl_aload_n (i := 0) h rfl rfl dc_FS_type_33 34 rfl ?_
  refine jl_dup h rfl dc_FS_type_34 35 rfl ?_
  refine jl_getf (v := .int (nI tc)) h nm_c_FS 4 wl_FS_53 (by omega) (by decide) (by exact rfl) (by exact sr_v htc) dc_FS_type_35 38 rfl ?_
  refine jl_iconst (v := 1) h (by decide) dc_FS_type_38 39 rfl ?_
  refine jl_iadd h dc_FS_type_39 40 rfl ?_
  rw [show nI tc + 1 = nI (tc + 1) by exact nI_1 tc]
  refine jl_putf (fs2 := [_, _, _, _, _, _, _]) h nm_c_FS 4 wl_FS_53 (by omega) (by decide) rfl (by exact rfl) (by rfl) (by rfl) (by exact Nat.le_of_ble_eq_true rfl) (by rfl) dc_FS_type_40 (gw_set_tc _) 43 rfl ?_
  refine jl_iconst (v := 1) h (by decide) dc_FS_type_43 44 rfl ?_
  exact jl_zret h he rfl (rfl) (rfl) dc_FS_type_44
theorem c_FS1_partner_no (hG : G 0 = 153) (hS : st_ok K ad (gw K ad I V L C G R) n b) (q : Int32) (hq : ¬ (¬ q < 0 ∧ q < nI n)) : jl_C l K sa yn_FS_partner bc_FS_partner 2 (some .int) 2 50 168 ad [.ref (ad 0), .int q] (gw K ad I V L C G R) (some (.int (-1))) (gw K ad I V L C G R) := by
  refine jl_enter (by decide) (Nat.le_of_ble_eq_true rfl) (fun x h he hr => ?_)
  show jl_J x 168 ad 0 0 (gw K ad I V L C G R) 0 [(0, .ref (ad 0)), (1, .int q)] []
  refine jl_aload_n (i := 0) h rfl rfl dc_FS_partner_0 1 rfl ?_
  refine jl_getf h nm_c_FS 0 wl_FS_10 (by omega) (by decide) (by exact rfl) (by rfl) dc_FS_partner_1 4 rfl ?_
  refine jl_iload_n (i := 1) h rfl rfl dc_FS_partner_4 5 rfl ?_
  refine jl_callV (As := [_]) (rest := []) h hr vs_FS_94 vi_ST_has vx_ST_has (ci := 1) rfl (by omega) (by exact hS.1) (fun l => c_ST_has l (by omega) hS q) (by first | decide | omega) (by first | decide | omega) rfl rfl (Nat.le_of_ble_eq_true rfl) dc_FS_partner_5 (res := [_]) rfl 8 rfl ?_
  refine jl_if_eq h 33 (by decide) dc_FS_partner_8 11 rfl (fun c8 => ?_) (fun c8 => absurd (by rw [st_b0]; exact decide_eq_false hq) c8)
  refine jl_iconst (v := -1) h (by decide) dc_FS_partner_33 34 rfl ?_
  exact jl_zret h he rfl (rfl) (rfl) dc_FS_partner_34
theorem c_FS1_partner (hG : G 0 = 153) (hS : st_ok K ad (gw K ad I V L C G R) n b) (hM : V 154 = fun i => iI (w i)) {i : Nat} (hi : i < n) (h1 : -1 ≤ w i) (h2 : w i < 18) : jl_C l K sa yn_FS_partner bc_FS_partner 2 (some .int) 2 50 168 ad [.ref (ad 0), .int (nI i)] (gw K ad I V L C G R) (some (.int (iI (w i)))) (gw K ad I V L C G R) := by
  refine jl_enter (by decide) (Nat.le_of_ble_eq_true rfl) (fun x h he hr => ?_)
  obtain ⟨hST, hbases, hn, hb⟩ := id hS
  show jl_J x 168 ad 0 0 (gw K ad I V L C G R) 0 [(0, .ref (ad 0)), (1, .int (nI i))] []
  refine jl_aload_n (i := 0) h rfl rfl dc_FS_partner_0 1 rfl ?_
  refine jl_getf h nm_c_FS 0 wl_FS_10 (by omega) (by decide) (by exact rfl) (by rfl) dc_FS_partner_1 4 rfl ?_
  refine jl_iload_n (i := 1) h rfl rfl dc_FS_partner_4 5 rfl ?_
  refine jl_callV (As := [_]) (rest := []) h hr vs_FS_94 vi_ST_has vx_ST_has (ci := 1) rfl (by omega) (by exact hS.1) (fun l => c_ST_has l (by omega) hS (nI i)) (by first | decide | omega) (by first | decide | omega) rfl rfl (Nat.le_of_ble_eq_true rfl) dc_FS_partner_5 (res := [_]) rfl 8 rfl ?_
  refine jl_if_eq h 33 (by decide) dc_FS_partner_8 11 rfl (fun c8 => absurd c8 (by rw [st_b1]; exact decide_eq_true ⟨nI_pos (by omega), nI_lt hi (by omega)⟩)) (fun c8 => ?_)
  refine jl_aload_n (i := 0) h rfl rfl dc_FS_partner_11 12 rfl ?_
  refine jl_getf (v := .ref (ad 153)) h nm_c_FS 5 wl_FS_42 (by omega) (by decide) (by exact rfl) (by exact fs_r hG) dc_FS_partner_12 15 rfl ?_
  refine jl_iload_n (i := 1) h rfl rfl dc_FS_partner_15 16 rfl ?_
  refine jl_callV (As := [_]) (rest := []) h hr vs_FS_116 vi_SR_isPaired vx_SR_isPaired (ci := 6) rfl (by omega) (by exact rfl) (fun l => c_SR1_isPaired l hM (by omega) h1 h2) (by first | decide | omega) (by first | decide | omega) rfl rfl (Nat.le_of_ble_eq_true rfl) dc_FS_partner_16 (res := [_]) rfl 19 rfl ?_
  refine jl_if_eq h 33 (by decide) dc_FS_partner_19 22 rfl (fun c19 => ?_) (fun c19 => ?_)
  · skip
    rw [st_b0] at c19
    have c19 := of_decide_eq_false c19
    refine jl_iconst (v := -1) h (by decide) dc_FS_partner_33 34 rfl ?_
    exact jl_zret h he rfl (by first | rfl | (rw [show w i = -1 by omega]; rfl)) (rfl) dc_FS_partner_34
  · skip
    skip
    refine jl_aload_n (i := 0) h rfl rfl dc_FS_partner_22 23 rfl ?_
    refine jl_getf (v := .ref (ad 153)) h nm_c_FS 5 wl_FS_42 (by omega) (by decide) (by exact rfl) (by exact fs_r hG) dc_FS_partner_23 26 rfl ?_
    refine jl_iload_n (i := 1) h rfl rfl dc_FS_partner_26 27 rfl ?_
    refine jl_callV (As := [_]) (rest := []) h hr vs_FS_119 vi_SR_mateOf vx_SR_mateOf (ci := 6) rfl (by omega) (by exact rfl) (fun l => c_SR1_mateOf l hM (by omega)) (by first | decide | omega) (by first | decide | omega) rfl rfl (Nat.le_of_ble_eq_true rfl) dc_FS_partner_27 (res := [_]) rfl 30 rfl ?_
    refine jl_goto h 34 (by decide) dc_FS_partner_30 ?_
    exact jl_zret h he rfl (by first | rfl | (rw [show w i = -1 by omega]; rfl)) (rfl) dc_FS_partner_34
theorem c_FS2_partner_no (hG : G 0 = 156) (hS : st_ok K ad (gw K ad I V L C G R) n b) (q : Int32) (hq : ¬ (¬ q < 0 ∧ q < nI n)) : jl_C l K sa yn_FS_partner bc_FS_partner 2 (some .int) 2 50 168 ad [.ref (ad 0), .int q] (gw K ad I V L C G R) (some (.int (-1))) (gw K ad I V L C G R) := by
  refine jl_enter (by decide) (Nat.le_of_ble_eq_true rfl) (fun x h he hr => ?_)
  show jl_J x 168 ad 0 0 (gw K ad I V L C G R) 0 [(0, .ref (ad 0)), (1, .int q)] []
  refine jl_aload_n (i := 0) h rfl rfl dc_FS_partner_0 1 rfl ?_
  refine jl_getf h nm_c_FS 0 wl_FS_10 (by omega) (by decide) (by exact rfl) (by rfl) dc_FS_partner_1 4 rfl ?_
  refine jl_iload_n (i := 1) h rfl rfl dc_FS_partner_4 5 rfl ?_
  refine jl_callV (As := [_]) (rest := []) h hr vs_FS_94 vi_ST_has vx_ST_has (ci := 1) rfl (by omega) (by exact hS.1) (fun l => c_ST_has l (by omega) hS q) (by first | decide | omega) (by first | decide | omega) rfl rfl (Nat.le_of_ble_eq_true rfl) dc_FS_partner_5 (res := [_]) rfl 8 rfl ?_
  refine jl_if_eq h 33 (by decide) dc_FS_partner_8 11 rfl (fun c8 => ?_) (fun c8 => absurd (by rw [st_b0]; exact decide_eq_false hq) c8)
  refine jl_iconst (v := -1) h (by decide) dc_FS_partner_33 34 rfl ?_
  exact jl_zret h he rfl (rfl) (rfl) dc_FS_partner_34
theorem c_FS2_partner (hG : G 0 = 156) (hS : st_ok K ad (gw K ad I V L C G R) n b) (hM : V 157 = fun i => iI (w i)) {i : Nat} (hi : i < n) (h1 : -1 ≤ w i) (h2 : w i < 18) : jl_C l K sa yn_FS_partner bc_FS_partner 2 (some .int) 2 50 168 ad [.ref (ad 0), .int (nI i)] (gw K ad I V L C G R) (some (.int (iI (w i)))) (gw K ad I V L C G R) := by
  refine jl_enter (by decide) (Nat.le_of_ble_eq_true rfl) (fun x h he hr => ?_)
  obtain ⟨hST, hbases, hn, hb⟩ := id hS
  show jl_J x 168 ad 0 0 (gw K ad I V L C G R) 0 [(0, .ref (ad 0)), (1, .int (nI i))] []
  refine jl_aload_n (i := 0) h rfl rfl dc_FS_partner_0 1 rfl ?_
  refine jl_getf h nm_c_FS 0 wl_FS_10 (by omega) (by decide) (by exact rfl) (by rfl) dc_FS_partner_1 4 rfl ?_
  refine jl_iload_n (i := 1) h rfl rfl dc_FS_partner_4 5 rfl ?_
  refine jl_callV (As := [_]) (rest := []) h hr vs_FS_94 vi_ST_has vx_ST_has (ci := 1) rfl (by omega) (by exact hS.1) (fun l => c_ST_has l (by omega) hS (nI i)) (by first | decide | omega) (by first | decide | omega) rfl rfl (Nat.le_of_ble_eq_true rfl) dc_FS_partner_5 (res := [_]) rfl 8 rfl ?_
  refine jl_if_eq h 33 (by decide) dc_FS_partner_8 11 rfl (fun c8 => absurd c8 (by rw [st_b1]; exact decide_eq_true ⟨nI_pos (by omega), nI_lt hi (by omega)⟩)) (fun c8 => ?_)
  refine jl_aload_n (i := 0) h rfl rfl dc_FS_partner_11 12 rfl ?_
  refine jl_getf (v := .ref (ad 156)) h nm_c_FS 5 wl_FS_42 (by omega) (by decide) (by exact rfl) (by exact fs_r hG) dc_FS_partner_12 15 rfl ?_
  refine jl_iload_n (i := 1) h rfl rfl dc_FS_partner_15 16 rfl ?_
  refine jl_callV (As := [_]) (rest := []) h hr vs_FS_116 vi_SR_isPaired vx_SR_isPaired (ci := 6) rfl (by omega) (by exact rfl) (fun l => c_SR2_isPaired l hM (by omega) h1 h2) (by first | decide | omega) (by first | decide | omega) rfl rfl (Nat.le_of_ble_eq_true rfl) dc_FS_partner_16 (res := [_]) rfl 19 rfl ?_
  refine jl_if_eq h 33 (by decide) dc_FS_partner_19 22 rfl (fun c19 => ?_) (fun c19 => ?_)
  · skip
    rw [st_b0] at c19
    have c19 := of_decide_eq_false c19
    refine jl_iconst (v := -1) h (by decide) dc_FS_partner_33 34 rfl ?_
    exact jl_zret h he rfl (by first | rfl | (rw [show w i = -1 by omega]; rfl)) (rfl) dc_FS_partner_34
  · skip
    skip
    refine jl_aload_n (i := 0) h rfl rfl dc_FS_partner_22 23 rfl ?_
    refine jl_getf (v := .ref (ad 156)) h nm_c_FS 5 wl_FS_42 (by omega) (by decide) (by exact rfl) (by exact fs_r hG) dc_FS_partner_23 26 rfl ?_
    refine jl_iload_n (i := 1) h rfl rfl dc_FS_partner_26 27 rfl ?_
    refine jl_callV (As := [_]) (rest := []) h hr vs_FS_119 vi_SR_mateOf vx_SR_mateOf (ci := 6) rfl (by omega) (by exact rfl) (fun l => c_SR2_mateOf l hM (by omega)) (by first | decide | omega) (by first | decide | omega) rfl rfl (Nat.le_of_ble_eq_true rfl) dc_FS_partner_27 (res := [_]) rfl 30 rfl ?_
    refine jl_goto h 34 (by decide) dc_FS_partner_30 ?_
    exact jl_zret h he rfl (by first | rfl | (rw [show w i = -1 by omega]; rfl)) (rfl) dc_FS_partner_34
end FS

