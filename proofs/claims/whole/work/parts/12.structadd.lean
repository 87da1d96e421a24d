/-! FoldedStrand$Structure.closeLast and add: contracts. -/
theorem sr_v {a c : Int32} (h : a = c) : some (Value.int a) = some (Value.int c) := by rw [h]
theorem sr_updpr (w : Nat → Int) (i j : Nat) : upd (upd (fun k => iI (w k)) i (nI j)) j (nI i) = fun k => iI (en_pr w i j k) := by
  funext k
  unfold en_pr en_up upd
  split
  · rfl
  · split <;> rfl
theorem gw_setVf {K : Nat → ClassId} {ad : Nat → Nat} {I : Nat → Int32} {V : Nat → Nat → Int32} {L : Nat → Int64} {C : Nat → Int32} {G : Nat → Nat} {R : Nat → Nat} {k : Nat} {f g : Nat → Int32} (h : gw_i k = true) (e : f = g) : va_up (gw K ad I V L C G R) k (.inl (K 0, gw_len k, .inl f)) = gw K ad I (va_up V k g) L C G R := by
  subst e
  exact gw_setV h f
section SA
variable (l : Launch) {K : Nat → ClassId} {sa : Nat → Nat} {ad : Nat → Nat} {I : Nat → Int32} {V : Nat → Nat → Int32} {L : Nat → Int64} {C : Nat → Int32} {G : Nat → Nat} {R : Nat → Nat} {n : Nat} {b : Nat → Nat} {w : Nat → Int} {f : Nat → Nat} {oc ln pr : Nat}
theorem c_SR1_closeLast_no (hS : st_ok K ad (gw K ad I V L C G R) n b) (hoc : I 4 = nI oc) (hln : I 5 = nI ln) (hO : V 155 = fun k => nI (f k)) (h1 : oc < 18) (h2 : ln < 18) (h3 : ∀ k, k < oc → f k < 18) (hno : 0 < oc → en_cp b (f (oc - 1)) ln = false) : jl_C l K sa yn_SR_closeLast bc_SR_closeLast 2 (some .boolean) 2 50 168 ad [.ref (ad 153)] (gw K ad I V L C G R) (some (.int 0)) (gw K ad I V L C G R) := by
  refine jl_enter (by decide) (Nat.le_of_ble_eq_true rfl) (fun x h he hr => ?_)
  obtain ⟨hST, hbases, hn, hb⟩ := id hS
  show jl_J x 168 ad 0 0 (gw K ad I V L C G R) 0 [(0, .ref (ad 153))] []
  rcases Nat.eq_zero_or_pos oc with h0 | h0
  · subst h0
    refine jl_aload_n (i := 0) h rfl rfl dc_SR_closeLast_0 1 rfl ?_
    refine jl_getf (v := .int (nI 0)) h nm_c_SR 2 wl_SR_35 (by omega) (by decide) (by exact rfl) (by exact sr_v hoc) dc_SR_closeLast_1 4 rfl ?_
    refine jl_if_gt h 9 (by decide) dc_SR_closeLast_4 7 rfl (fun c4 => absurd c4 (by decide)) (fun c4 => ?_)
    refine jl_iconst (v := 0) h (by decide) dc_SR_closeLast_7 8 rfl ?_
    exact jl_zret h he rfl (rfl) (rfl) dc_SR_closeLast_8
  · have hf := h3 (oc - 1) (by omega)
    have e1 : nI oc - 1 = nI (oc - 1) := by rw [show (1 : Int32) = nI 1 from rfl, pk_sub h0]
    have e2 := hno h0
    refine jl_aload_n (i := 0) h rfl rfl dc_SR_closeLast_0 1 rfl ?_
    refine jl_getf (v := .int (nI oc)) h nm_c_SR 2 wl_SR_35 (by omega) (by decide) (by exact rfl) (by exact sr_v hoc) dc_SR_closeLast_1 4 rfl ?_
    refine jl_if_gt h 9 (by decide) dc_SR_closeLast_4 7 rfl (fun c4 => ?_) (fun c4 => absurd (by rw [show (0 : Int32) = nI 0 from rfl]; exact nI_lt h0 (by omega)) c4)
    refine jl_aload_n (i := 0) h rfl rfl dc_SR_closeLast_9 10 rfl ?_
    refine jl_getf h nm_c_SR 1 wl_SR_15 (by omega) (by decide) (by exact rfl) (by rfl) dc_SR_closeLast_10 13 rfl ?_
    refine jl_aload_n (i := 0) h rfl rfl dc_SR_closeLast_13 14 rfl ?_
    refine jl_getf (v := .int (nI oc)) h nm_c_SR 2 wl_SR_35 (by omega) (by decide) (by exact rfl) (by exact sr_v hoc) dc_SR_closeLast_14 17 rfl ?_
    refine jl_iconst (v := 1) h (by decide) dc_SR_closeLast_17 18 rfl ?_
    refine jl_isub h dc_SR_closeLast_18 19 rfl ?_
    rw [show nI oc - 1 = nI (oc - 1) by exact e1]
    refine jl_iald (v := nI (f (oc - 1))) h (oc - 1) (by exact rfl) (by omega) (by exact gw_at (len := 18) rfl rfl hO) (by exact by omega) (by first | decide | assumption) (by exact rfl) dc_SR_closeLast_19 20 rfl ?_
    refine jl_istore_n (i := 1) (lc2 := [(1, _), (0, _)]) h rfl (by decide) rfl dc_SR_closeLast_20 21 rfl ?_
    refine jl_aload_n (i := 0) h rfl rfl dc_SR_closeLast_21 22 rfl ?_
    refine jl_getf h nm_c_SR 5 wl_SR_18 (by omega) (by decide) (by exact rfl) (by rfl) dc_SR_closeLast_22 25 rfl ?_
    refine jl_iload_n (i := 1) h rfl rfl dc_SR_closeLast_25 26 rfl ?_
    refine jl_aload_n (i := 0) h rfl rfl dc_SR_closeLast_26 27 rfl ?_
    refine jl_getf (v := .int (nI ln)) h nm_c_SR 3 wl_SR_39 (by omega) (by decide) (by exact rfl) (by exact sr_v hln) dc_SR_closeLast_27 30 rfl ?_
    refine jl_callV (As := [_, _]) (rest := []) h hr vs_SR_53 vi_ST_canPair vx_ST_canPair (ci := 1) rfl (by omega) (by exact hST) (fun l => c_ST_canPair l (by omega) hS hf h2) (by first | decide | omega) (by first | decide | omega) rfl rfl (Nat.le_of_ble_eq_true rfl) dc_SR_closeLast_30 (res := [_]) rfl 33 rfl ?_
    rw [e2]
    refine jl_if_ne h 38 (by decide) dc_SR_closeLast_33 36 rfl (fun c33 => absurd (by decide) c33) (fun c33 => ?_)
    refine jl_iconst (v := 0) h (by decide) dc_SR_closeLast_36 37 rfl ?_
    exact jl_zret h he rfl (rfl) (rfl) dc_SR_closeLast_37
theorem c_SR1_closeLast_yes (hS : st_ok K ad (gw K ad I V L C G R) n b) (hoc : I 4 = nI oc) (hln : I 5 = nI ln) (hpr : I 6 = nI pr) (hO : V 155 = fun k => nI (f k)) (hM : V 154 = fun k => iI (w k)) (h0 : 0 < oc) (h1 : oc < 18) (h2 : ln < 18) (hf : f (oc - 1) < 18) (e2 : en_cp b (f (oc - 1)) ln = true) : jl_C l K sa yn_SR_closeLast bc_SR_closeLast 2 (some .boolean) 2 50 168 ad [.ref (ad 153)] (gw K ad I V L C G R) (some (.int 1)) (gw K ad (va_up (va_up I 4 (nI (oc - 1))) 6 (nI (pr + 1))) (va_up V 154 (fun k => iI (en_pr w (f (oc - 1)) ln k))) L C G R) := by
  refine jl_enter (by decide) (Nat.le_of_ble_eq_true rfl) (fun x h he hr => ?_)
  obtain ⟨hST, hbases, hn, hb⟩ := id hS
  show jl_J x 168 ad 0 0 (gw K ad I V L C G R) 0 [(0, .ref (ad 153))] []
  have e1 : nI oc - 1 = nI (oc - 1) := by rw [show (1 : Int32) = nI 1 from rfl, pk_sub h0]
  refine jl_aload_n (i := 0) h rfl rfl dc_SR_closeLast_0 1 rfl ?_
  refine jl_getf (v := .int (nI oc)) h nm_c_SR 2 wl_SR_35 (by omega) (by decide) (by exact rfl) (by exact sr_v hoc) dc_SR_closeLast_1 4 rfl ?_
  refine jl_if_gt h 9 (by decide) dc_SR_closeLast_4 7 rfl (fun c4 => ?_) (fun c4 => absurd (by rw [show (0 : Int32) = nI 0 from rfl]; exact nI_lt h0 (by omega)) c4)
  refine jl_aload_n (i := 0) h rfl rfl dc_SR_closeLast_9 10 rfl ?_
  refine jl_getf h nm_c_SR 1 wl_SR_15 (by omega) (by decide) (by exact rfl) (by rfl) dc_SR_closeLast_10 13 rfl ?_
  refine jl_aload_n (i := 0) h rfl rfl dc_SR_closeLast_13 14 rfl ?_
  refine jl_getf (v := .int (nI oc)) h nm_c_SR 2 wl_SR_35 (by omega) (by decide) (by exact rfl) (by exact sr_v hoc) dc_SR_closeLast_14 17 rfl ?_
  refine jl_iconst (v := 1) h (by decide) dc_SR_closeLast_17 18 rfl ?_
  refine jl_isub h dc_SR_closeLast_18 19 rfl ?_
  rw [show nI oc - 1 = nI (oc - 1) by exact e1]
  refine jl_iald (v := nI (f (oc - 1))) h (oc - 1) (by exact rfl) (by omega) (by exact gw_at (len := 18) rfl rfl hO) (by exact by omega) (by first | decide | assumption) (by exact rfl) dc_SR_closeLast_19 20 rfl ?_
  refine jl_istore_n (i := 1) (lc2 := [(1, _), (0, _)]) h rfl (by decide) rfl dc_SR_closeLast_20 21 rfl ?_
  refine jl_aload_n (i := 0) h rfl rfl dc_SR_closeLast_21 22 rfl ?_
  refine jl_getf h nm_c_SR 5 wl_SR_18 (by omega) (by decide) (by exact rfl) (by rfl) dc_SR_closeLast_22 25 rfl ?_
  refine jl_iload_n (i := 1) h rfl rfl dc_SR_closeLast_25 26 rfl ?_
  refine jl_aload_n (i := 0) h rfl rfl dc_SR_closeLast_26 27 rfl ?_
  refine jl_getf (v := .int (nI ln)) h nm_c_SR 3 wl_SR_39 (by omega) (by decide) (by exact rfl) (by exact sr_v hln) dc_SR_closeLast_27 30 rfl ?_
  refine jl_callV (As := [_, _]) (rest := []) h hr vs_SR_53 vi_ST_canPair vx_ST_canPair (ci := 1) rfl (by omega) (by exact hST) (fun l => c_ST_canPair l (by omega) hS hf h2) (by first | decide | omega) (by first | decide | omega) rfl rfl (Nat.le_of_ble_eq_true rfl) dc_SR_closeLast_30 (res := [_]) rfl 33 rfl ?_
  rw [e2]
  refine jl_if_ne h 38 (by decide) dc_SR_closeLast_33 36 rfl (fun c33 => ?_) (fun c33 => absurd c33 (by decide))
  refine jl_aload_n (i := 0) h rfl rfl dc_SR_closeLast_38 39 rfl ?_
  refine jl_dup h rfl dc_SR_closeLast_39 40 rfl ?_
  refine jl_getf (v := .int (nI oc)) h nm_c_SR 2 wl_SR_35 (by omega) (by decide) (by exact rfl) (by exact sr_v hoc) dc_SR_closeLast_40 43 rfl ?_
  refine jl_iconst (v := 1) h (by decide) dc_SR_closeLast_43 44 rfl ?_
  refine jl_isub h dc_SR_closeLast_44 45 rfl ?_
  rw [show nI oc - 1 = nI (oc - 1) by exact e1]
  refine jl_putf (fs2 := [_, _, _, _, _, _, _]) h nm_c_SR 2 wl_SR_35 (by omega) (by decide) rfl (by exact rfl) (by rfl) (by rfl) (by exact Nat.le_of_ble_eq_true rfl) (by rfl) dc_SR_closeLast_45 (gw_set_oc1 _) 48 rfl ?_
  refine jl_aload_n (i := 0) h rfl rfl dc_SR_closeLast_48 49 rfl ?_
  refine jl_getf h nm_c_SR 0 wl_SR_9 (by omega) (by decide) (by exact rfl) (by rfl) dc_SR_closeLast_49 52 rfl ?_
  refine jl_iload_n (i := 1) h rfl rfl dc_SR_closeLast_52 53 rfl ?_
  refine jl_aload_n (i := 0) h rfl rfl dc_SR_closeLast_53 54 rfl ?_
  refine jl_getf (v := .int (nI ln)) h nm_c_SR 3 wl_SR_39 (by omega) (by decide) (by exact rfl) (by exact sr_v hln) dc_SR_closeLast_54 57 rfl ?_
  refine jl_iast h (f (oc - 1)) (by exact rfl) (by omega) (by exact gw_at (len := 18) rfl rfl hM) (by exact hf) (by first | decide | assumption) dc_SR_closeLast_57 (gw_setV rfl _) 58 rfl ?_
  refine jl_aload_n (i := 0) h rfl rfl dc_SR_closeLast_58 59 rfl ?_
  refine jl_getf h nm_c_SR 0 wl_SR_9 (by omega) (by decide) (by exact rfl) (by rfl) dc_SR_closeLast_59 62 rfl ?_
  refine jl_aload_n (i := 0) h rfl rfl dc_SR_closeLast_62 63 rfl ?_
  refine jl_getf (v := .int (nI ln)) h nm_c_SR 3 wl_SR_39 (by omega) (by decide) (by exact rfl) (by exact sr_v hln) dc_SR_closeLast_63 66 rfl ?_
  refine jl_iload_n (i := 1) h rfl rfl dc_SR_closeLast_66 67 rfl ?_
  refine jl_iast h (ln) (by exact rfl) (by omega) (by exact gw_at (len := 18) rfl rfl rfl) (by exact h2) (by first | decide | assumption) dc_SR_closeLast_67 (gw_setVf rfl (sr_updpr w _ _)) 68 rfl ?_
  refine jl_aload_n (i := 0) h rfl rfl dc_SR_closeLast_68 69 rfl ?_
  refine jl_dup h rfl dc_SR_closeLast_69 70 rfl ?_
  refine jl_getf (v := .int (nI pr)) h nm_c_SR 4 wl_SR_42 (by omega) (by decide) (by exact rfl) (by exact sr_v hpr) dc_SR_closeLast_70 73 rfl ?_
  refine jl_iconst (v := 1) h (by decide) dc_SR_closeLast_73 74 rfl ?_
  refine jl_iadd h dc_SR_closeLast_74 75 rfl ?_
  rw [show nI pr + 1 = nI (pr + 1) by exact nI_1 pr]
  refine jl_putf (fs2 := [_, _, _, _, _, _, _]) h nm_c_SR 4 wl_SR_42 (by omega) (by decide) rfl (by exact rfl) (by rfl) (by rfl) (by exact Nat.le_of_ble_eq_true rfl) (by rfl) dc_SR_closeLast_75 (gw_set_prs1 _) 78 rfl ?_
  refine jl_iconst (v := 1) h (by decide) dc_SR_closeLast_78 79 rfl ?_
  exact jl_zret h he rfl (rfl) (by rw [bx_uu]) dc_SR_closeLast_79
theorem c_SR1_add_full (hS : st_ok K ad (gw K ad I V L C G R) n b) (hln : I 5 = nI ln) (h2 : ln < 40) (hfull : n ≤ ln) (q : Int32) : jl_C l K sa yn_SR_add bc_SR_add 2 (some .boolean) 3 75 168 ad [.ref (ad 153), .int q] (gw K ad I V L C G R) (some (.int 0)) (gw K ad I V L C G R) := by
  refine jl_enter (by decide) (Nat.le_of_ble_eq_true rfl) (fun x h he hr => ?_)
  obtain ⟨hST, hbases, hn, hb⟩ := id hS
  show jl_J x 168 ad 0 0 (gw K ad I V L C G R) 0 [(0, .ref (ad 153)), (1, .int q)] []
  refine jl_aload_n (i := 0) h rfl rfl dc_SR_add_0 1 rfl ?_
  refine jl_getf (v := .int (nI ln)) h nm_c_SR 3 wl_SR_39 (by omega) (by decide) (by exact rfl) (by exact sr_v hln) dc_SR_add_1 4 rfl ?_
  refine jl_aload_n (i := 0) h rfl rfl dc_SR_add_4 5 rfl ?_
  refine jl_getf h nm_c_SR 5 wl_SR_18 (by omega) (by decide) (by exact rfl) (by rfl) dc_SR_add_5 8 rfl ?_
  refine jl_callV (As := []) (rest := [_]) h hr vs_SR_45 vi_ST_size vx_ST_size (ci := 1) rfl (by omega) (by exact hST) (fun l => c_ST_size l (by omega) hS) (by first | decide | omega) (by first | decide | omega) rfl rfl (Nat.le_of_ble_eq_true rfl) dc_SR_add_8 (res := [_, _]) rfl 11 rfl ?_
  refine jl_icmp_lt h 16 (by decide) dc_SR_add_11 14 rfl (fun c11 => absurd c11 (nI_nlt hfull (by omega))) (fun c11 => ?_)
  refine jl_iconst (v := 0) h (by decide) dc_SR_add_14 15 rfl ?_
  exact jl_zret h he rfl (rfl) (rfl) dc_SR_add_15
theorem c_SR1_add_open (hS : st_ok K ad (gw K ad I V L C G R) n b) (hoc : I 4 = nI oc) (hln : I 5 = nI ln) (hO : V 155 = fun k => nI (f k)) (h1 : oc < 18) (h2 : ln < n) : jl_C l K sa yn_SR_add bc_SR_add 2 (some .boolean) 3 75 168 ad [.ref (ad 153), .int 40] (gw K ad I V L C G R) (some (.int 1)) (gw K ad (va_up (va_up I 4 (nI (oc + 1))) 5 (nI (ln + 1))) (va_up V 155 (fun k => nI (va_up f oc ln k))) L C G R) := by
  refine jl_enter (by decide) (Nat.le_of_ble_eq_true rfl) (fun x h he hr => ?_)
  obtain ⟨hST, hbases, hn, hb⟩ := id hS
  show jl_J x 168 ad 0 0 (gw K ad I V L C G R) 0 [(0, .ref (ad 153)), (1, .int 40)] []
  refine jl_aload_n (i := 0) h rfl rfl dc_SR_add_0 1 rfl ?_
  refine jl_getf (v := .int (nI ln)) h nm_c_SR 3 wl_SR_39 (by omega) (by decide) (by exact rfl) (by exact sr_v hln) dc_SR_add_1 4 rfl ?_
  refine jl_aload_n (i := 0) h rfl rfl dc_SR_add_4 5 rfl ?_
  refine jl_getf h nm_c_SR 5 wl_SR_18 (by omega) (by decide) (by exact rfl) (by rfl) dc_SR_add_5 8 rfl ?_
  refine jl_callV (As := []) (rest := [_]) h hr vs_SR_45 vi_ST_size vx_ST_size (ci := 1) rfl (by omega) (by exact hST) (fun l => c_ST_size l (by omega) hS) (by first | decide | omega) (by first | decide | omega) rfl rfl (Nat.le_of_ble_eq_true rfl) dc_SR_add_8 (res := [_, _]) rfl 11 rfl ?_
  refine jl_icmp_lt h 16 (by decide) dc_SR_add_11 14 rfl (fun c11 => ?_) (fun c11 => absurd (nI_lt h2 (by omega)) c11)
  refine jl_iload_n (i := 1) h rfl rfl dc_SR_add_16 17 rfl ?_
  refine jl_bipush (v := 40) h (by decide) dc_SR_add_17 19 rfl ?_
  refine jl_icmp_ne h 48 (by decide) dc_SR_add_19 22 rfl (fun c19 => absurd (by decide) c19) (fun c19 => ?_)
  refine jl_aload_n (i := 0) h rfl rfl dc_SR_add_22 23 rfl ?_
  refine jl_getf h nm_c_SR 1 wl_SR_15 (by omega) (by decide) (by exact rfl) (by rfl) dc_SR_add_23 26 rfl ?_
  refine jl_aload_n (i := 0) h rfl rfl dc_SR_add_26 27 rfl ?_
  refine jl_getf (v := .int (nI oc)) h nm_c_SR 2 wl_SR_35 (by omega) (by decide) (by exact rfl) (by exact sr_v hoc) dc_SR_add_27 30 rfl ?_
  refine jl_aload_n (i := 0) h rfl rfl dc_SR_add_30 31 rfl ?_
  refine jl_getf (v := .int (nI ln)) h nm_c_SR 3 wl_SR_39 (by omega) (by decide) (by exact rfl) (by exact sr_v hln) dc_SR_add_31 34 rfl ?_
  refine jl_iast h (oc) (by exact rfl) (by omega) (by exact gw_at (len := 18) rfl rfl hO) (by exact h1) (by first | decide | assumption) dc_SR_add_34 (gw_setVf rfl (st_upd f oc ln)) 35 rfl ?_
  refine jl_aload_n (i := 0) h rfl rfl dc_SR_add_35 36 rfl ?_
  refine jl_dup h rfl dc_SR_add_36 37 rfl ?_
  refine jl_getf (v := .int (nI oc)) h nm_c_SR 2 wl_SR_35 (by omega) (by decide) (by exact rfl) (by exact sr_v hoc) dc_SR_add_37 40 rfl ?_
  refine jl_iconst (v := 1) h (by decide) dc_SR_add_40 41 rfl ?_
  refine jl_iadd h dc_SR_add_41 42 rfl ?_
  rw [show nI oc + 1 = nI (oc + 1) by exact nI_1 oc]
  refine jl_putf (fs2 := [_, _, _, _, _, _, _]) h nm_c_SR 2 wl_SR_35 (by omega) (by decide) rfl (by exact rfl) (by rfl) (by rfl) (by exact Nat.le_of_ble_eq_true rfl) (by rfl) dc_SR_add_42 (gw_set_oc1 _) 45 rfl ?_
  refine jl_goto h 71 (by decide) dc_SR_add_45 ?_
  refine jl_aload_n (i := 0) h rfl rfl dc_SR_add_71 72 rfl ?_
  refine jl_dup h rfl dc_SR_add_72 73 rfl ?_
  refine jl_getf (v := .int (nI ln)) h nm_c_SR 3 wl_SR_39 (by omega) (by decide) (by exact rfl) (by exact sr_v hln) dc_SR_add_73 76 rfl ?_
  refine jl_iconst (v := 1) h (by decide) dc_SR_add_76 77 rfl ?_
  refine jl_iadd h dc_SR_add_77 78 rfl ?_
  rw [show nI ln + 1 = nI (ln + 1) by exact nI_1 ln]
  refine jl_putf (fs2 := [_, _, _, _, _, _, _]) h nm_c_SR 3 wl_SR_39 (by omega) (by decide) rfl (by exact rfl) (by rfl) (by rfl) (by exact Nat.le_of_ble_eq_true rfl) (by rfl) dc_SR_add_78 (gw_set_len1 _) 81 rfl ?_
  refine jl_iconst (v := 1) h (by decide) dc_SR_add_81 82 rfl ?_
  exact jl_zret h he rfl (rfl) (rfl) dc_SR_add_82
theorem c_SR1_add_dot (hS : st_ok K ad (gw K ad I V L C G R) n b) (hln : I 5 = nI ln) (h2 : ln < n) : jl_C l K sa yn_SR_add bc_SR_add 2 (some .boolean) 3 75 168 ad [.ref (ad 153), .int 46] (gw K ad I V L C G R) (some (.int 1)) (gw K ad (va_up I 5 (nI (ln + 1))) V L C G R) := by
  refine jl_enter (by decide) (Nat.le_of_ble_eq_true rfl) (fun x h he hr => ?_)
  obtain ⟨hST, hbases, hn, hb⟩ := id hS
  show jl_J x 168 ad 0 0 (gw K ad I V L C G R) 0 [(0, .ref (ad 153)), (1, .int 46)] []
  refine jl_aload_n (i := 0) h rfl rfl dc_SR_add_0 1 rfl ?_
  refine jl_getf (v := .int (nI ln)) h nm_c_SR 3 wl_SR_39 (by omega) (by decide) (by exact rfl) (by exact sr_v hln) dc_SR_add_1 4 rfl ?_
  refine jl_aload_n (i := 0) h rfl rfl dc_SR_add_4 5 rfl ?_
  refine jl_getf h nm_c_SR 5 wl_SR_18 (by omega) (by decide) (by exact rfl) (by rfl) dc_SR_add_5 8 rfl ?_
  refine jl_callV (As := []) (rest := [_]) h hr vs_SR_45 vi_ST_size vx_ST_size (ci := 1) rfl (by omega) (by exact hST) (fun l => c_ST_size l (by omega) hS) (by first | decide | omega) (by first | decide | omega) rfl rfl (Nat.le_of_ble_eq_true rfl) dc_SR_add_8 (res := [_, _]) rfl 11 rfl ?_
  refine jl_icmp_lt h 16 (by decide) dc_SR_add_11 14 rfl (fun c11 => ?_) (fun c11 => absurd (nI_lt h2 (by omega)) c11)
  refine jl_iload_n (i := 1) h rfl rfl dc_SR_add_16 17 rfl ?_
  refine jl_bipush (v := 40) h (by decide) dc_SR_add_17 19 rfl ?_
  refine jl_icmp_ne h 48 (by decide) dc_SR_add_19 22 rfl (fun c19 => ?_) (fun c19 => absurd c19 (by decide))
  refine jl_iload_n (i := 1) h rfl rfl dc_SR_add_48 49 rfl ?_
  refine jl_bipush (v := 41) h (by decide) dc_SR_add_49 51 rfl ?_
  refine jl_icmp_ne h 63 (by decide) dc_SR_add_51 54 rfl (fun c51 => ?_) (fun c51 => absurd c51 (by decide))
  refine jl_iload_n (i := 1) h rfl rfl dc_SR_add_63 64 rfl ?_
  refine jl_bipush (v := 46) h (by decide) dc_SR_add_64 66 rfl ?_
  refine jl_icmp_eq h 71 (by decide) dc_SR_add_66 69 rfl (fun c66 => ?_) (fun c66 => absurd (by decide) c66)
  refine jl_aload_n (i := 0) h rfl rfl dc_SR_add_71 72 rfl ?_
  refine jl_dup h rfl dc_SR_add_72 73 rfl ?_
  refine jl_getf (v := .int (nI ln)) h nm_c_SR 3 wl_SR_39 (by omega) (by decide) (by exact rfl) (by exact sr_v hln) dc_SR_add_73 76 rfl ?_
  refine jl_iconst (v := 1) h (by decide) dc_SR_add_76 77 rfl ?_
  refine jl_iadd h dc_SR_add_77 78 rfl ?_
  rw [show nI ln + 1 = nI (ln + 1) by exact nI_1 ln]
  refine jl_putf (fs2 := [_, _, _, _, _, _, _]) h nm_c_SR 3 wl_SR_39 (by omega) (by decide) rfl (by exact rfl) (by rfl) (by rfl) (by exact Nat.le_of_ble_eq_true rfl) (by rfl) dc_SR_add_78 (gw_set_len1 _) 81 rfl ?_
  refine jl_iconst (v := 1) h (by decide) dc_SR_add_81 82 rfl ?_
  exact jl_zret h he rfl (rfl) (rfl) dc_SR_add_82
theorem c_SR1_add_bad (hS : st_ok K ad (gw K ad I V L C G R) n b) (hln : I 5 = nI ln) (h2 : ln < n) (q : Int32) (q1 : q ≠ 40) (q2 : q ≠ 41) (q3 : q ≠ 46) : jl_C l K sa yn_SR_add bc_SR_add 2 (some .boolean) 3 75 168 ad [.ref (ad 153), .int q] (gw K ad I V L C G R) (some (.int 0)) (gw K ad I V L C G R) := by
  refine jl_enter (by decide) (Nat.le_of_ble_eq_true rfl) (fun x h he hr => ?_)
  obtain ⟨hST, hbases, hn, hb⟩ := id hS
  show jl_J x 168 ad 0 0 (gw K ad I V L C G R) 0 [(0, .ref (ad 153)), (1, .int q)] []
  refine jl_aload_n (i := 0) h rfl rfl dc_SR_add_0 1 rfl ?_
  refine jl_getf (v := .int (nI ln)) h nm_c_SR 3 wl_SR_39 (by omega) (by decide) (by exact rfl) (by exact sr_v hln) dc_SR_add_1 4 rfl ?_
  refine jl_aload_n (i := 0) h rfl rfl dc_SR_add_4 5 rfl ?_
  refine jl_getf h nm_c_SR 5 wl_SR_18 (by omega) (by decide) (by exact rfl) (by rfl) dc_SR_add_5 8 rfl ?_
  refine jl_callV (As := []) (rest := [_]) h hr vs_SR_45 vi_ST_size vx_ST_size (ci := 1) rfl (by omega) (by exact hST) (fun l => c_ST_size l (by omega) hS) (by first | decide | omega) (by first | decide | omega) rfl rfl (Nat.le_of_ble_eq_true rfl) dc_SR_add_8 (res := [_, _]) rfl 11 rfl ?_
  refine jl_icmp_lt h 16 (by decide) dc_SR_add_11 14 rfl (fun c11 => ?_) (fun c11 => absurd (nI_lt h2 (by omega)) c11)
  refine jl_iload_n (i := 1) h rfl rfl dc_SR_add_16 17 rfl ?_
  refine jl_bipush (v := 40) h (by decide) dc_SR_add_17 19 rfl ?_
  refine jl_icmp_ne h 48 (by decide) dc_SR_add_19 22 rfl (fun c19 => ?_) (fun c19 => absurd c19 (q1))
  refine jl_iload_n (i := 1) h rfl rfl dc_SR_add_48 49 rfl ?_
  refine jl_bipush (v := 41) h (by decide) dc_SR_add_49 51 rfl ?_
  refine jl_icmp_ne h 63 (by decide) dc_SR_add_51 54 rfl (fun c51 => ?_) (fun c51 => absurd c51 (q2))
  refine jl_iload_n (i := 1) h rfl rfl dc_SR_add_63 64 rfl ?_
  refine jl_bipush (v := 46) h (by decide) dc_SR_add_64 66 rfl ?_
  refine jl_icmp_eq h 71 (by decide) dc_SR_add_66 69 rfl (fun c66 => absurd c66 (q3)) (fun c66 => ?_)
  refine jl_iconst (v := 0) h (by decide) dc_SR_add_69 70 rfl ?_
  exact jl_zret h he rfl (rfl) (rfl) dc_SR_add_70
theorem c_SR1_add_close_no (hS : st_ok K ad (gw K ad I V L C G R) n b) (hoc : I 4 = nI oc) (hln : I 5 = nI ln) (hO : V 155 = fun k => nI (f k)) (h1 : oc < 18) (h2 : ln < n) (h3 : ∀ k, k < oc → f k < 18) (hno : 0 < oc → en_cp b (f (oc - 1)) ln = false) : jl_C l K sa yn_SR_add bc_SR_add 2 (some .boolean) 3 75 168 ad [.ref (ad 153), .int 41] (gw K ad I V L C G R) (some (.int 0)) (gw K ad I V L C G R) := by
  refine jl_enter (by decide) (Nat.le_of_ble_eq_true rfl) (fun x h he hr => ?_)
  obtain ⟨hST, hbases, hn, hb⟩ := id hS
  show jl_J x 168 ad 0 0 (gw K ad I V L C G R) 0 [(0, .ref (ad 153)), (1, .int 41)] []
  refine jl_aload_n (i := 0) h rfl rfl dc_SR_add_0 1 rfl ?_
  refine jl_getf (v := .int (nI ln)) h nm_c_SR 3 wl_SR_39 (by omega) (by decide) (by exact rfl) (by exact sr_v hln) dc_SR_add_1 4 rfl ?_
  refine jl_aload_n (i := 0) h rfl rfl dc_SR_add_4 5 rfl ?_
  refine jl_getf h nm_c_SR 5 wl_SR_18 (by omega) (by decide) (by exact rfl) (by rfl) dc_SR_add_5 8 rfl ?_
  refine jl_callV (As := []) (rest := [_]) h hr vs_SR_45 vi_ST_size vx_ST_size (ci := 1) rfl (by omega) (by exact hST) (fun l => c_ST_size l (by omega) hS) (by first | decide | omega) (by first | decide | omega) rfl rfl (Nat.le_of_ble_eq_true rfl) dc_SR_add_8 (res := [_, _]) rfl 11 rfl ?_
  refine jl_icmp_lt h 16 (by decide) dc_SR_add_11 14 rfl (fun c11 => ?_) (fun c11 => absurd (nI_lt h2 (by omega)) c11)
  refine jl_iload_n (i := 1) h rfl rfl dc_SR_add_16 17 rfl ?_
  refine jl_bipush (v := 40) h (by decide) dc_SR_add_17 19 rfl ?_
  refine jl_icmp_ne h 48 (by decide) dc_SR_add_19 22 rfl (fun c19 => ?_) (fun c19 => absurd c19 (by decide))
  refine jl_iload_n (i := 1) h rfl rfl dc_SR_add_48 49 rfl ?_
  refine jl_bipush (v := 41) h (by decide) dc_SR_add_49 51 rfl ?_
  refine jl_icmp_ne h 63 (by decide) dc_SR_add_51 54 rfl (fun c51 => absurd (by decide) c51) (fun c51 => ?_)
  refine jl_aload_n (i := 0) h rfl rfl dc_SR_add_54 55 rfl ?_
  refine jl_callV (As := []) (rest := []) h hr vs_SR_49 vi_SR_closeLast vx_SR_closeLast (ci := 6) rfl (by omega) (by exact rfl) (fun l => c_SR1_closeLast_no l hS hoc hln hO h1 (by omega) h3 hno) (by first | decide | omega) (by first | decide | omega) rfl rfl (Nat.le_of_ble_eq_true rfl) dc_SR_add_55 (res := [_]) rfl 58 rfl ?_
  refine jl_if_ne h 71 (by decide) dc_SR_add_58 61 rfl (fun c58 => absurd (by decide) c58) (fun c58 => ?_)
  refine jl_iconst (v := 0) h (by decide) dc_SR_add_61 62 rfl ?_
  exact jl_zret h he rfl (rfl) (rfl) dc_SR_add_62
theorem c_SR1_add_close_yes (hS : st_ok K ad (gw K ad I V L C G R) n b) (hoc : I 4 = nI oc) (hln : I 5 = nI ln) (hpr : I 6 = nI pr) (hO : V 155 = fun k => nI (f k)) (hM : V 154 = fun k => iI (w k)) (h0 : 0 < oc) (h1 : oc < 18) (h2 : ln < n) (hf : f (oc - 1) < 18) (e2 : en_cp b (f (oc - 1)) ln = true) : jl_C l K sa yn_SR_add bc_SR_add 2 (some .boolean) 3 75 168 ad [.ref (ad 153), .int 41] (gw K ad I V L C G R) (some (.int 1)) (gw K ad (va_up (va_up (va_up I 4 (nI (oc - 1))) 6 (nI (pr + 1))) 5 (nI (ln + 1))) (va_up V 154 (fun k => iI (en_pr w (f (oc - 1)) ln k))) L C G R) := by
  refine jl_enter (by decide) (Nat.le_of_ble_eq_true rfl) (fun x h he hr => ?_)
  obtain ⟨hST, hbases, hn, hb⟩ := id hS
  show jl_J x 168 ad 0 0 (gw K ad I V L C G R) 0 [(0, .ref (ad 153)), (1, .int 41)] []
  refine jl_aload_n (i := 0) h rfl rfl dc_SR_add_0 1 rfl ?_
  refine jl_getf (v := .int (nI ln)) h nm_c_SR 3 wl_SR_39 (by omega) (by decide) (by exact rfl) (by exact sr_v hln) dc_SR_add_1 4 rfl ?_
  refine jl_aload_n (i := 0) h rfl rfl dc_SR_add_4 5 rfl ?_
  refine jl_getf h nm_c_SR 5 wl_SR_18 (by omega) (by decide) (by exact rfl) (by rfl) dc_SR_add_5 8 rfl ?_
  refine jl_callV (As := []) (rest := [_]) h hr vs_SR_45 vi_ST_size vx_ST_size (ci := 1) rfl (by omega) (by exact hST) (fun l => c_ST_size l (by omega) hS) (by first | decide | omega) (by first | decide | omega) rfl rfl (Nat.le_of_ble_eq_true rfl) dc_SR_add_8 (res := [_, _]) rfl 11 rfl ?_
  refine jl_icmp_lt h 16 (by decide) dc_SR_add_11 14 rfl (fun c11 => ?_) (fun c11 => absurd (nI_lt h2 (by omega)) c11)
  refine jl_iload_n (i := 1) h rfl rfl dc_SR_add_16 17 rfl ?_
  refine jl_bipush (v := 40) h (by decide) dc_SR_add_17 19 rfl ?_
  refine jl_icmp_ne h 48 (by decide) dc_SR_add_19 22 rfl (fun c19 => ?_) (fun c19 => absurd c19 (by decide))
  refine jl_iload_n (i := 1) h rfl rfl dc_SR_add_48 49 rfl ?_
  refine jl_bipush (v := 41) h (by decide) dc_SR_add_49 51 rfl ?_
  refine jl_icmp_ne h 63 (by decide) dc_SR_add_51 54 rfl (fun c51 => absurd (by decide) c51) (fun c51 => ?_)
  refine jl_aload_n (i := 0) h rfl rfl dc_SR_add_54 55 rfl ?_
  refine jl_callV (As := []) (rest := []) h hr vs_SR_49 vi_SR_closeLast vx_SR_closeLast (ci := 6) rfl (by omega) (by exact rfl) (fun l => c_SR1_closeLast_yes l hS hoc hln hpr hO hM h0 h1 (by omega) hf e2) (by first | decide | omega) (by first | decide | omega) rfl rfl (Nat.le_of_ble_eq_true rfl) dc_SR_add_55 (res := [_]) rfl 58 rfl ?_
  refine jl_if_ne h 71 (by decide) dc_SR_add_58 61 rfl (fun c58 => ?_) (fun c58 => absurd c58 (by decide))
  refine jl_aload_n (i := 0) h rfl rfl dc_SR_add_71 72 rfl ?_
  refine jl_dup h rfl dc_SR_add_72 73 rfl ?_
  refine jl_getf (v := .int (nI ln)) h nm_c_SR 3 wl_SR_39 (by omega) (by decide) (by exact rfl) (by exact sr_v hln) dc_SR_add_73 76 rfl ?_
  refine jl_iconst (v := 1) h (by decide) dc_SR_add_76 77 rfl ?_
  refine jl_iadd h dc_SR_add_77 78 rfl ?_
  rw [show nI ln + 1 = nI (ln + 1) by exact nI_1 ln]
  refine jl_putf (fs2 := [_, _, _, _, _, _, _]) h nm_c_SR 3 wl_SR_39 (by omega) (by decide) rfl (by exact rfl) (by rfl) (by rfl) (by exact Nat.le_of_ble_eq_true rfl) (by rfl) dc_SR_add_78 (gw_set_len1 _) 81 rfl ?_
  refine jl_iconst (v := 1) h (by decide) dc_SR_add_81 82 rfl ?_
  exact jl_zret h he rfl (rfl) (rfl) dc_SR_add_82
theorem c_SR2_closeLast_no (hS : st_ok K ad (gw K ad I V L C G R) n b) (hoc : I 7 = nI oc) (hln : I 8 = nI ln) (hO : V 158 = fun k => nI (f k)) (h1 : oc < 18) (h2 : ln < 18) (h3 : ∀ k, k < oc → f k < 18) (hno : 0 < oc → en_cp b (f (oc - 1)) ln = false) : jl_C l K sa yn_SR_closeLast bc_SR_closeLast 2 (some .boolean) 2 50 168 ad [.ref (ad 156)] (gw K ad I V L C G R) (some (.int 0)) (gw K ad I V L C G R) := by
  refine jl_enter (by decide) (Nat.le_of_ble_eq_true rfl) (fun x h he hr => ?_)
  obtain ⟨hST, hbases, hn, hb⟩ := id hS
  show jl_J x 168 ad 0 0 (gw K ad I V L C G R) 0 [(0, .ref (ad 156))] []
  rcases Nat.eq_zero_or_pos oc with h0 | h0
  · subst h0
    refine jl_aload_n (i := 0) h rfl rfl dc_SR_closeLast_0 1 rfl ?_
    refine jl_getf (v := .int (nI 0)) h nm_c_SR 2 wl_SR_35 (by omega) (by decide) (by exact rfl) (by exact sr_v hoc) dc_SR_closeLast_1 4 rfl ?_
    refine jl_if_gt h 9 (by decide) dc_SR_closeLast_4 7 rfl (fun c4 => absurd c4 (by decide)) (fun c4 => ?_)
    refine jl_iconst (v := 0) h (by decide) dc_SR_closeLast_7 8 rfl ?_
    exact jl_zret h he rfl (rfl) (rfl) dc_SR_closeLast_8
  · have hf := h3 (oc - 1) (by omega)
    have e1 : nI oc - 1 = nI (oc - 1) := by rw [show (1 : Int32) = nI 1 from rfl, pk_sub h0]
    have e2 := hno h0
    refine jl_aload_n (i := 0) h rfl rfl dc_SR_closeLast_0 1 rfl ?_
    refine jl_getf (v := .int (nI oc)) h nm_c_SR 2 wl_SR_35 (by omega) (by decide) (by exact rfl) (by exact sr_v hoc) dc_SR_closeLast_1 4 rfl ?_
    refine jl_if_gt h 9 (by decide) dc_SR_closeLast_4 7 rfl (fun c4 => ?_) (fun c4 => absurd (by rw [show (0 : Int32) = nI 0 from rfl]; exact nI_lt h0 (by omega)) c4)
    refine jl_aload_n (i := 0) h rfl rfl dc_SR_closeLast_9 10 rfl ?_
    refine jl_getf h nm_c_SR 1 wl_SR_15 (by omega) (by decide) (by exact rfl) (by rfl) dc_SR_closeLast_10 13 rfl ?_
    refine jl_aload_n (i := 0) h rfl rfl dc_SR_closeLast_13 14 rfl ?_
    refine jl_getf (v := .int (nI oc)) h nm_c_SR 2 wl_SR_35 (by omega) (by decide) (by exact rfl) (by exact sr_v hoc) dc_SR_closeLast_14 17 rfl ?_
    refine jl_iconst (v := 1) h (by decide) dc_SR_closeLast_17 18 rfl ?_
    refine jl_isub h dc_SR_closeLast_18 19 rfl ?_
    rw [show nI oc - 1 = nI (oc - 1) by exact e1]
    refine jl_iald (v := nI (f (oc - 1))) h (oc - 1) (by exact rfl) (by omega) (by exact gw_at (len := 18) rfl rfl hO) (by exact by omega) (by first | decide | assumption) (by exact rfl) dc_SR_closeLast_19 20 rfl ?_
    refine jl_istore_n (i := 1) (lc2 := [(1, _), (0, _)]) h rfl (by decide) rfl dc_SR_closeLast_20 21 rfl ?_
    refine jl_aload_n (i := 0) h rfl rfl dc_SR_closeLast_21 22 rfl ?_
    refine jl_getf h nm_c_SR 5 wl_SR_18 (by omega) (by decide) (by exact rfl) (by rfl) dc_SR_closeLast_22 25 rfl ?_
    refine jl_iload_n (i := 1) h rfl rfl dc_SR_closeLast_25 26 rfl ?_
    refine jl_aload_n (i := 0) h rfl rfl dc_SR_closeLast_26 27 rfl ?_
    refine jl_getf (v := .int (nI ln)) h nm_c_SR 3 wl_SR_39 (by omega) (by decide) (by exact rfl) (by exact sr_v hln) dc_SR_closeLast_27 30 rfl ?_
    refine jl_callV (As := [_, _]) (rest := []) h hr vs_SR_53 vi_ST_canPair vx_ST_canPair (ci := 1) rfl (by omega) (by exact hST) (fun l => c_ST_canPair l (by omega) hS hf h2) (by first | decide | omega) (by first | decide | omega) rfl rfl (Nat.le_of_ble_eq_true rfl) dc_SR_closeLast_30 (res := [_]) rfl 33 rfl ?_
    rw [e2]
    refine jl_if_ne h 38 (by decide) dc_SR_closeLast_33 36 rfl (fun c33 => absurd (by decide) c33) (fun c33 => ?_)
    refine jl_iconst (v := 0) h (by decide) dc_SR_closeLast_36 37 rfl ?_
    exact jl_zret h he rfl (rfl) (rfl) dc_SR_closeLast_37
theorem c_SR2_closeLast_yes (hS : st_ok K ad (gw K ad I V L C G R) n b) (hoc : I 7 = nI oc) (hln : I 8 = nI ln) (hpr : I 9 = nI pr) (hO : V 158 = fun k => nI (f k)) (hM : V 157 = fun k => iI (w k)) (h0 : 0 < oc) (h1 : oc < 18) (h2 : ln < 18) (hf : f (oc - 1) < 18) (e2 : en_cp b (f (oc - 1)) ln = true) : jl_C l K sa yn_SR_closeLast bc_SR_closeLast 2 (some .boolean) 2 50 168 ad [.ref (ad 156)] (gw K ad I V L C G R) (some (.int 1)) (gw K ad (va_up (va_up I 7 (nI (oc - 1))) 9 (nI (pr + 1))) (va_up V 157 (fun k => iI (en_pr w (f (oc - 1)) ln k))) L C G R) := by
  refine jl_enter (by decide) (Nat.le_of_ble_eq_true rfl) (fun x h he hr => ?_)
  obtain ⟨hST, hbases, hn, hb⟩ := id hS
  show jl_J x 168 ad 0 0 (gw K ad I V L C G R) 0 [(0, .ref (ad 156))] []
  have e1 : nI oc - 1 = nI (oc - 1) := by rw [show (1 : Int32) = nI 1 from rfl, pk_sub h0]
  refine jl_aload_n (i := 0) h rfl rfl dc_SR_closeLast_0 1 rfl ?_
  refine jl_getf (v := .int (nI oc)) h nm_c_SR 2 wl_SR_35 (by omega) (by decide) (by exact rfl) (by exact sr_v hoc) dc_SR_closeLast_1 4 rfl ?_
  refine jl_if_gt h 9 (by decide) dc_SR_closeLast_4 7 rfl (fun c4 => ?_) (fun c4 => absurd (by rw [show (0 : Int32) = nI 0 from rfl]; exact nI_lt h0 (by omega)) c4)
  refine jl_aload_n (i := 0) h rfl rfl dc_SR_closeLast_9 10 rfl ?_
  refine jl_getf h nm_c_SR 1 wl_SR_15 (by omega) (by decide) (by exact rfl) (by rfl) dc_SR_closeLast_10 13 rfl ?_
  refine jl_aload_n (i := 0) h rfl rfl dc_SR_closeLast_13 14 rfl ?_
  refine jl_getf (v := .int (nI oc)) h nm_c_SR 2 wl_SR_35 (by omega) (by decide) (by exact rfl) (by exact sr_v hoc) dc_SR_closeLast_14 17 rfl ?_
  refine jl_iconst (v := 1) h (by decide) dc_SR_closeLast_17 18 rfl ?_
  refine jl_isub h dc_SR_closeLast_18 19 rfl ?_
  rw [show nI oc - 1 = nI (oc - 1) by exact e1]
  refine jl_iald (v := nI (f (oc - 1))) h (oc - 1) (by exact rfl) (by omega) (by exact gw_at (len := 18) rfl rfl hO) (by exact by omega) (by first | decide | assumption) (by exact rfl) dc_SR_closeLast_19 20 rfl ?_
  refine jl_istore_n (i := 1) (lc2 := [(1, _), (0, _)]) h rfl (by decide) rfl dc_SR_closeLast_20 21 rfl ?_
  refine jl_aload_n (i := 0) h rfl rfl dc_SR_closeLast_21 22 rfl ?_
  refine jl_getf h nm_c_SR 5 wl_SR_18 (by omega) (by decide) (by exact rfl) (by rfl) dc_SR_closeLast_22 25 rfl ?_
  refine jl_iload_n (i := 1) h rfl rfl dc_SR_closeLast_25 26 rfl ?_
  refine jl_aload_n (i := 0) h rfl rfl dc_SR_closeLast_26 27 rfl ?_
  refine jl_getf (v := .int (nI ln)) h nm_c_SR 3 wl_SR_39 (by omega) (by decide) (by exact rfl) (by exact sr_v hln) dc_SR_closeLast_27 30 rfl ?_
  refine jl_callV (As := [_, _]) (rest := []) h hr vs_SR_53 vi_ST_canPair vx_ST_canPair (ci := 1) rfl (by omega) (by exact hST) (fun l => c_ST_canPair l (by omega) hS hf h2) (by first | decide | omega) (by first | decide | omega) rfl rfl (Nat.le_of_ble_eq_true rfl) dc_SR_closeLast_30 (res := [_]) rfl 33 rfl ?_
  rw [e2]
  refine jl_if_ne h 38 (by decide) dc_SR_closeLast_33 36 rfl (fun c33 => ?_) (fun c33 => absurd c33 (by decide))
  refine jl_aload_n (i := 0) h rfl rfl dc_SR_closeLast_38 39 rfl ?_
  refine jl_dup h rfl dc_SR_closeLast_39 40 rfl ?_
  refine jl_getf (v := .int (nI oc)) h nm_c_SR 2 wl_SR_35 (by omega) (by decide) (by exact rfl) (by exact sr_v hoc) dc_SR_closeLast_40 43 rfl ?_
  refine jl_iconst (v := 1) h (by decide) dc_SR_closeLast_43 44 rfl ?_
  refine jl_isub h dc_SR_closeLast_44 45 rfl ?_
  rw [show nI oc - 1 = nI (oc - 1) by exact e1]
  refine jl_putf (fs2 := [_, _, _, _, _, _, _]) h nm_c_SR 2 wl_SR_35 (by omega) (by decide) rfl (by exact rfl) (by rfl) (by rfl) (by exact Nat.le_of_ble_eq_true rfl) (by rfl) dc_SR_closeLast_45 (gw_set_oc2 _) 48 rfl ?_
  refine jl_aload_n (i := 0) h rfl rfl dc_SR_closeLast_48 49 rfl ?_
  refine jl_getf h nm_c_SR 0 wl_SR_9 (by omega) (by decide) (by exact rfl) (by rfl) dc_SR_closeLast_49 52 rfl ?_
  refine jl_iload_n (i := 1) h rfl rfl dc_SR_closeLast_52 53 rfl ?_
  refine jl_aload_n (i := 0) h rfl rfl dc_SR_closeLast_53 54 rfl ?_
  refine jl_getf (v := .int (nI ln)) h nm_c_SR 3 wl_SR_39 (by omega) (by decide) (by exact rfl) (by exact sr_v hln) dc_SR_closeLast_54 57 rfl ?_
  refine jl_iast h (f (oc - 1)) (by exact rfl) (by omega) (by exact gw_at (len := 18) rfl rfl hM) (by exact hf) (by first | decide | assumption) dc_SR_closeLast_57 (gw_setV rfl _) 58 rfl ?_
  refine jl_aload_n (i := 0) h rfl rfl dc_SR_closeLast_58 59 rfl ?_
  refine jl_getf h nm_c_SR 0 wl_SR_9 (by omega) (by decide) (by exact rfl) (by rfl) dc_SR_closeLast_59 62 rfl ?_
  refine jl_aload_n (i := 0) h rfl rfl dc_SR_closeLast_62 63 rfl ?_
  refine jl_getf (v := .int (nI ln)) h nm_c_SR 3 wl_SR_39 (by omega) (by decide) (by exact rfl) (by exact sr_v hln) dc_SR_closeLast_63 66 rfl ?_
  refine jl_iload_n (i := 1) h rfl rfl dc_SR_closeLast_66 67 rfl ?_
  refine jl_iast h (ln) (by exact rfl) (by omega) (by exact gw_at (len := 18) rfl rfl rfl) (by exact h2) (by first | decide | assumption) dc_SR_closeLast_67 (gw_setVf rfl (sr_updpr w _ _)) 68 rfl ?_
  refine jl_aload_n (i := 0) h rfl rfl dc_SR_closeLast_68 69 rfl ?_
  refine jl_dup h rfl dc_SR_closeLast_69 70 rfl ?_
  refine jl_getf (v := .int (nI pr)) h nm_c_SR 4 wl_SR_42 (by omega) (by decide) (by exact rfl) (by exact sr_v hpr) dc_SR_closeLast_70 73 rfl ?_
  refine jl_iconst (v := 1) h (by decide) dc_SR_closeLast_73 74 rfl ?_
  refine jl_iadd h dc_SR_closeLast_74 75 rfl ?_
  rw [show nI pr + 1 = nI (pr + 1) by exact nI_1 pr]
  refine jl_putf (fs2 := [_, _, _, _, _, _, _]) h nm_c_SR 4 wl_SR_42 (by omega) (by decide) rfl (by exact rfl) (by rfl) (by rfl) (by exact Nat.le_of_ble_eq_true rfl) (by rfl) dc_SR_closeLast_75 (gw_set_prs2 _) 78 rfl ?_
  refine jl_iconst (v := 1) h (by decide) dc_SR_closeLast_78 79 rfl ?_
  exact jl_zret h he rfl (rfl) (by rw [bx_uu]) dc_SR_closeLast_79
theorem c_SR2_add_full (hS : st_ok K ad (gw K ad I V L C G R) n b) (hln : I 8 = nI ln) (h2 : ln < 40) (hfull : n ≤ ln) (q : Int32) : jl_C l K sa yn_SR_add bc_SR_add 2 (some .boolean) 3 75 168 ad [.ref (ad 156), .int q] (gw K ad I V L C G R) (some (.int 0)) (gw K ad I V L C G R) := by
  refine jl_enter (by decide) (Nat.le_of_ble_eq_true rfl) (fun x h he hr => ?_)
  obtain ⟨hST, hbases, hn, hb⟩ := id hS
  show jl_J x 168 ad 0 0 (gw K ad I V L C G R) 0 [(0, .ref (ad 156)), (1, .int q)] []
  refine jl_aload_n (i := 0) h rfl rfl dc_SR_add_0 1 rfl ?_
  refine jl_getf (v := .int (nI ln)) h nm_c_SR 3 wl_SR_39 (by omega) (by decide) (by exact rfl) (by exact sr_v hln) dc_SR_add_1 4 rfl ?_
  refine jl_aload_n (i := 0) h rfl rfl dc_SR_add_4 5 rfl ?_
  refine jl_getf h nm_c_SR 5 wl_SR_18 (by omega) (by decide) (by exact rfl) (by rfl) dc_SR_add_5 8 rfl ?_
  refine jl_callV (As := []) (rest := [_]) h hr vs_SR_45 vi_ST_size vx_ST_size (ci := 1) rfl (by omega) (by exact hST) (fun l => c_ST_size l (by omega) hS) (by first | decide | omega) (by first | decide | omega) rfl rfl (Nat.le_of_ble_eq_true rfl) dc_SR_add_8 (res := [_, _]) rfl 11 rfl ?_
  refine jl_icmp_lt h 16 (by decide) dc_SR_add_11 14 rfl (fun c11 => absurd c11 (nI_nlt hfull (by omega))) (fun c11 => ?_)
  refine jl_iconst (v := 0) h (by decide) dc_SR_add_14 15 rfl ?_
  exact jl_zret h he rfl (rfl) (rfl) dc_SR_add_15
theorem c_SR2_add_open (hS : st_ok K ad (gw K ad I V L C G R) n b) (hoc : I 7 = nI oc) (hln : I 8 = nI ln) (hO : V 158 = fun k => nI (f k)) (h1 : oc < 18) (h2 : ln < n) : jl_C l K sa yn_SR_add bc_SR_add 2 (some .boolean) 3 75 168 ad [.ref (ad 156), .int 40] (gw K ad I V L C G R) (some (.int 1)) (gw K ad (va_up (va_up I 7 (nI (oc + 1))) 8 (nI (ln + 1))) (va_up V 158 (fun k => nI (va_up f oc ln k))) L C G R) := by
  refine jl_enter (by decide) (Nat.le_of_ble_eq_true rfl) (fun x h he hr => ?_)
  obtain ⟨hST, hbases, hn, hb⟩ := id hS
  show jl_J x 168 ad 0 0 (gw K ad I V L C G R) 0 [(0, .ref (ad 156)), (1, .int 40)] []
  refine jl_aload_n (i := 0) h rfl rfl dc_SR_add_0 1 rfl ?_
  refine jl_getf (v := .int (nI ln)) h nm_c_SR 3 wl_SR_39 (by omega) (by decide) (by exact rfl) (by exact sr_v hln) dc_SR_add_1 4 rfl ?_
  refine jl_aload_n (i := 0) h rfl rfl dc_SR_add_4 5 rfl ?_
  refine jl_getf h nm_c_SR 5 wl_SR_18 (by omega) (by decide) (by exact rfl) (by rfl) dc_SR_add_5 8 rfl ?_
  refine jl_callV (As := []) (rest := [_]) h hr vs_SR_45 vi_ST_size vx_ST_size (ci := 1) rfl (by omega) (by exact hST) (fun l => c_ST_size l (by omega) hS) (by first | decide | omega) (by first | decide | omega) rfl rfl (Nat.le_of_ble_eq_true rfl) dc_SR_add_8 (res := [_, _]) rfl 11 rfl ?_
  refine jl_icmp_lt h 16 (by decide) dc_SR_add_11 14 rfl (fun c11 => ?_) (fun c11 => absurd (nI_lt h2 (by omega)) c11)
  refine jl_iload_n (i := 1) h rfl rfl dc_SR_add_16 17 rfl ?_
  refine jl_bipush (v := 40) h (by decide) dc_SR_add_17 19 rfl ?_
  refine jl_icmp_ne h 48 (by decide) dc_SR_add_19 22 rfl (fun c19 => absurd (by decide) c19) (fun c19 => ?_)
  refine jl_aload_n (i := 0) h rfl rfl dc_SR_add_22 23 rfl ?_
  refine jl_getf h nm_c_SR 1 wl_SR_15 (by omega) (by decide) (by exact rfl) (by rfl) dc_SR_add_23 26 rfl ?_
  refine jl_aload_n (i := 0) h rfl rfl dc_SR_add_26 27 rfl ?_
  refine jl_getf (v := .int (nI oc)) h nm_c_SR 2 wl_SR_35 (by omega) (by decide) (by exact rfl) (by exact sr_v hoc) dc_SR_add_27 30 rfl ?_
  refine jl_aload_n (i := 0) h rfl rfl dc_SR_add_30 31 rfl ?_
  refine jl_getf (v := .int (nI ln)) h nm_c_SR 3 wl_SR_39 (by omega) (by decide) (by exact rfl) (by exact sr_v hln) dc_SR_add_31 34 rfl ?_
  refine jl_iast h (oc) (by exact rfl) (by omega) (by exact gw_at (len := 18) rfl rfl hO) (by exact h1) (by first | decide | assumption) dc_SR_add_34 (gw_setVf rfl (st_upd f oc ln)) 35 rfl ?_
  refine jl_aload_n (i := 0) h rfl rfl dc_SR_add_35 36 rfl ?_
  refine jl_dup h rfl dc_SR_add_36 37 rfl ?_
  refine jl_getf (v := .int (nI oc)) h nm_c_SR 2 wl_SR_35 (by omega) (by decide) (by exact rfl) (by exact sr_v hoc) dc_SR_add_37 40 rfl ?_
  refine jl_iconst (v := 1) h (by decide) dc_SR_add_40 41 rfl ?_
  refine jl_iadd h dc_SR_add_41 42 rfl ?_
  rw [show nI oc + 1 = nI (oc + 1) by exact nI_1 oc]
  refine jl_putf (fs2 := [_, _, _, _, _, _, _]) h nm_c_SR 2 wl_SR_35 (by omega) (by decide) rfl (by exact rfl) (by rfl) (by rfl) (by exact Nat.le_of_ble_eq_true rfl) (by rfl) dc_SR_add_42 (gw_set_oc2 _) 45 rfl ?_
  refine jl_goto h 71 (by decide) dc_SR_add_45 ?_
  refine jl_aload_n (i := 0) h rfl rfl dc_SR_add_71 72 rfl ?_
  refine jl_dup h rfl dc_SR_add_72 73 rfl ?_
  refine jl_getf (v := .int (nI ln)) h nm_c_SR 3 wl_SR_39 (by omega) (by decide) (by exact rfl) (by exact sr_v hln) dc_SR_add_73 76 rfl ?_
  refine jl_iconst (v := 1) h (by decide) dc_SR_add_76 77 rfl ?_
  refine jl_iadd h dc_SR_add_77 78 rfl ?_
  rw [show nI ln + 1 = nI (ln + 1) by exact nI_1 ln]
  refine jl_putf (fs2 := [_, _, _, _, _, _, _]) h nm_c_SR 3 wl_SR_39 (by omega) (by decide) rfl (by exact rfl) (by rfl) (by rfl) (by exact Nat.le_of_ble_eq_true rfl) (by rfl) dc_SR_add_78 (gw_set_len2 _) 81 rfl ?_
  refine jl_iconst (v := 1) h (by decide) dc_SR_add_81 82 rfl ?_
  exact jl_zret h he rfl (rfl) (rfl) dc_SR_add_82
theorem c_SR2_add_dot (hS : st_ok K ad (gw K ad I V L C G R) n b) (hln : I 8 = nI ln) (h2 : ln < n) : jl_C l K sa yn_SR_add bc_SR_add 2 (some .boolean) 3 75 168 ad [.ref (ad 156), .int 46] (gw K ad I V L C G R) (some (.int 1)) (gw K ad (va_up I 8 (nI (ln + 1))) V L C G R) := by
  refine jl_enter (by decide) (Nat.le_of_ble_eq_true rfl) (fun x h he hr => ?_)
  obtain ⟨hST, hbases, hn, hb⟩ := id hS
  show jl_J x 168 ad 0 0 (gw K ad I V L C G R) 0 [(0, .ref (ad 156)), (1, .int 46)] []
  refine jl_aload_n (i := 0) h rfl rfl dc_SR_add_0 1 rfl ?_
  refine jl_getf (v := .int (nI ln)) h nm_c_SR 3 wl_SR_39 (by omega) (by decide) (by exact rfl) (by exact sr_v hln) dc_SR_add_1 4 rfl ?_
  refine jl_aload_n (i := 0) h rfl rfl dc_SR_add_4 5 rfl ?_
  refine jl_getf h nm_c_SR 5 wl_SR_18 (by omega) (by decide) (by exact rfl) (by rfl) dc_SR_add_5 8 rfl ?_
  refine jl_callV (As := []) (rest := [_]) h hr vs_SR_45 vi_ST_size vx_ST_size (ci := 1) rfl (by omega) (by exact hST) (fun l => c_ST_size l (by omega) hS) (by first | decide | omega) (by first | decide | omega) rfl rfl (Nat.le_of_ble_eq_true rfl) dc_SR_add_8 (res := [_, _]) rfl 11 rfl ?_
  refine jl_icmp_lt h 16 (by decide) dc_SR_add_11 14 rfl (fun c11 => ?_) (fun c11 => absurd (nI_lt h2 (by omega)) c11)
  refine jl_iload_n (i := 1) h rfl rfl dc_SR_add_16 17 rfl ?_
  refine jl_bipush (v := 40) h (by decide) dc_SR_add_17 19 rfl ?_
  refine jl_icmp_ne h 48 (by decide) dc_SR_add_19 22 rfl (fun c19 => ?_) (fun c19 => absurd c19 (by decide))
  refine jl_iload_n (i := 1) h rfl rfl dc_SR_add_48 49 rfl ?_
  refine jl_bipush (v := 41) h (by decide) dc_SR_add_49 51 rfl ?_
  refine jl_icmp_ne h 63 (by decide) dc_SR_add_51 54 rfl (fun c51 => ?_) (fun c51 => absurd c51 (by decide))
  refine jl_iload_n (i := 1) h rfl rfl dc_SR_add_63 64 rfl ?_
  refine jl_bipush (v := 46) h (by decide) dc_SR_add_64 66 rfl ?_
  refine jl_icmp_eq h 71 (by decide) dc_SR_add_66 69 rfl (fun c66 => ?_) (fun c66 => absurd (by decide) c66)
  refine jl_aload_n (i := 0) h rfl rfl dc_SR_add_71 72 rfl ?_
  refine jl_dup h rfl dc_SR_add_72 73 rfl ?_
  refine jl_getf (v := .int (nI ln)) h nm_c_SR 3 wl_SR_39 (by omega) (by decide) (by exact rfl) (by exact sr_v hln) dc_SR_add_73 76 rfl ?_
  refine jl_iconst (v := 1) h (by decide) dc_SR_add_76 77 rfl ?_
  refine jl_iadd h dc_SR_add_77 78 rfl ?_
  rw [show nI ln + 1 = nI (ln + 1) by exact nI_1 ln]
  refine jl_putf (fs2 := [_, _, _, _, _, _, _]) h nm_c_SR 3 wl_SR_39 (by omega) (by decide) rfl (by exact rfl) (by rfl) (by rfl) (by exact Nat.le_of_ble_eq_true rfl) (by rfl) dc_SR_add_78 (gw_set_len2 _) 81 rfl ?_
  refine jl_iconst (v := 1) h (by decide) dc_SR_add_81 82 rfl ?_
  exact jl_zret h he rfl (rfl) (rfl) dc_SR_add_82
theorem c_SR2_add_bad (hS : st_ok K ad (gw K ad I V L C G R) n b) (hln : I 8 = nI ln) (h2 : ln < n) (q : Int32) (q1 : q ≠ 40) (q2 : q ≠ 41) (q3 : q ≠ 46) : jl_C l K sa yn_SR_add bc_SR_add 2 (some .boolean) 3 75 168 ad [.ref (ad 156), .int q] (gw K ad I V L C G R) (some (.int 0)) (gw K ad I V L C G R) := by
  refine jl_enter (by decide) (Nat.le_of_ble_eq_true rfl) (fun x h he hr => ?_)
  obtain ⟨hST, hbases, hn, hb⟩ := id hS
  show jl_J x 168 ad 0 0 (gw K ad I V L C G R) 0 [(0, .ref (ad 156)), (1, .int q)] []
  refine jl_aload_n (i := 0) h rfl rfl dc_SR_add_0 1 rfl ?_
  refine jl_getf (v := .int (nI ln)) h nm_c_SR 3 wl_SR_39 (by omega) (by decide) (by exact rfl) (by exact sr_v hln) dc_SR_add_1 4 rfl ?_
  refine jl_aload_n (i := 0) h rfl rfl dc_SR_add_4 5 rfl ?_
  refine jl_getf h nm_c_SR 5 wl_SR_18 (by omega) (by decide) (by exact rfl) (by rfl) dc_SR_add_5 8 rfl ?_
  refine jl_callV (As := []) (rest := [_]) h hr vs_SR_45 vi_ST_size vx_ST_size (ci := 1) rfl (by omega) (by exact hST) (fun l => c_ST_size l (by omega) hS) (by first | decide | omega) (by first | decide | omega) rfl rfl (Nat.le_of_ble_eq_true rfl) dc_SR_add_8 (res := [_, _]) rfl 11 rfl ?_
  refine jl_icmp_lt h 16 (by decide) dc_SR_add_11 14 rfl (fun c11 => ?_) (fun c11 => absurd (nI_lt h2 (by omega)) c11)
  refine jl_iload_n (i := 1) h rfl rfl dc_SR_add_16 17 rfl ?_
  refine jl_bipush (v := 40) h (by decide) dc_SR_add_17 19 rfl ?_
  refine jl_icmp_ne h 48 (by decide) dc_SR_add_19 22 rfl (fun c19 => ?_) (fun c19 => absurd c19 (q1))
  refine jl_iload_n (i := 1) h rfl rfl dc_SR_add_48 49 rfl ?_
  refine jl_bipush (v := 41) h (by decide) dc_SR_add_49 51 rfl ?_
  refine jl_icmp_ne h 63 (by decide) dc_SR_add_51 54 rfl (fun c51 => ?_) (fun c51 => absurd c51 (q2))
  refine jl_iload_n (i := 1) h rfl rfl dc_SR_add_63 64 rfl ?_
  refine jl_bipush (v := 46) h (by decide) dc_SR_add_64 66 rfl ?_
  refine jl_icmp_eq h 71 (by decide) dc_SR_add_66 69 rfl (fun c66 => absurd c66 (q3)) (fun c66 => ?_)
  refine jl_iconst (v := 0) h (by decide) dc_SR_add_69 70 rfl ?_
  exact jl_zret h he rfl (rfl) (rfl) dc_SR_add_70
theorem c_SR2_add_close_no (hS : st_ok K ad (gw K ad I V L C G R) n b) (hoc : I 7 = nI oc) (hln : I 8 = nI ln) (hO : V 158 = fun k => nI (f k)) (h1 : oc < 18) (h2 : ln < n) (h3 : ∀ k, k < oc → f k < 18) (hno : 0 < oc → en_cp b (f (oc - 1)) ln = false) : jl_C l K sa yn_SR_add bc_SR_add 2 (some .boolean) 3 75 168 ad [.ref (ad 156), .int 41] (gw K ad I V L C G R) (some (.int 0)) (gw K ad I V L C G R) := by
  refine jl_enter (by decide) (Nat.le_of_ble_eq_true rfl) (fun x h he hr => ?_)
  obtain ⟨hST, hbases, hn, hb⟩ := id hS
  show jl_J x 168 ad 0 0 (gw K ad I V L C G R) 0 [(0, .ref (ad 156)), (1, .int 41)] []
  refine jl_aload_n (i := 0) h rfl rfl dc_SR_add_0 1 rfl ?_
  refine jl_getf (v := .int (nI ln)) h nm_c_SR 3 wl_SR_39 (by omega) (by decide) (by exact rfl) (by exact sr_v hln) dc_SR_add_1 4 rfl ?_
  refine jl_aload_n (i := 0) h rfl rfl dc_SR_add_4 5 rfl ?_
  refine jl_getf h nm_c_SR 5 wl_SR_18 (by omega) (by decide) (by exact rfl) (by rfl) dc_SR_add_5 8 rfl ?_
  refine jl_callV (As := []) (rest := [_]) h hr vs_SR_45 vi_ST_size vx_ST_size (ci := 1) rfl (by omega) (by exact hST) (fun l => c_ST_size l (by omega) hS) (by first | decide | omega) (by first | decide | omega) rfl rfl (Nat.le_of_ble_eq_true rfl) dc_SR_add_8 (res := [_, _]) rfl 11 rfl ?_
  refine jl_icmp_lt h 16 (by decide) dc_SR_add_11 14 rfl (fun c11 => ?_) (fun c11 => absurd (nI_lt h2 (by omega)) c11)
  refine jl_iload_n (i := 1) h rfl rfl dc_SR_add_16 17 rfl ?_
  refine jl_bipush (v := 40) h (by decide) dc_SR_add_17 19 rfl ?_
  refine jl_icmp_ne h 48 (by decide) dc_SR_add_19 22 rfl (fun c19 => ?_) (fun c19 => absurd c19 (by decide))
  refine jl_iload_n (i := 1) h rfl rfl dc_SR_add_48 49 rfl ?_
  refine jl_bipush (v := 41) h (by decide) dc_SR_add_49 51 rfl ?_
  refine jl_icmp_ne h 63 (by decide) dc_SR_add_51 54 rfl (fun c51 => absurd (by decide) c51) (fun c51 => ?_)
  refine jl_aload_n (i := 0) h rfl rfl dc_SR_add_54 55 rfl ?_
  refine jl_callV (As := []) (rest := []) h hr vs_SR_49 vi_SR_closeLast vx_SR_closeLast (ci := 6) rfl (by omega) (by exact rfl) (fun l => c_SR2_closeLast_no l hS hoc hln hO h1 (by omega) h3 hno) (by first | decide | omega) (by first | decide | omega) rfl rfl (Nat.le_of_ble_eq_true rfl) dc_SR_add_55 (res := [_]) rfl 58 rfl ?_
  refine jl_if_ne h 71 (by decide) dc_SR_add_58 61 rfl (fun c58 => absurd (by decide) c58) (fun c58 => ?_)
  refine jl_iconst (v := 0) h (by decide) dc_SR_add_61 62 rfl ?_
  exact jl_zret h he rfl (rfl) (rfl) dc_SR_add_62
theorem c_SR2_add_close_yes (hS : st_ok K ad (gw K ad I V L C G R) n b) (hoc : I 7 = nI oc) (hln : I 8 = nI ln) (hpr : I 9 = nI pr) (hO : V 158 = fun k => nI (f k)) (hM : V 157 = fun k => iI (w k)) (h0 : 0 < oc) (h1 : oc < 18) (h2 : ln < n) (hf : f (oc - 1) < 18) (e2 : en_cp b (f (oc - 1)) ln = true) : jl_C l K sa yn_SR_add bc_SR_add 2 (some .boolean) 3 75 168 ad [.ref (ad 156), .int 41] (gw K ad I V L C G R) (some (.int 1)) (gw K ad (va_up (va_up (va_up I 7 (nI (oc - 1))) 9 (nI (pr + 1))) 8 (nI (ln + 1))) (va_up V 157 (fun k => iI (en_pr w (f (oc - 1)) ln k))) L C G R) := by
  refine jl_enter (by decide) (Nat.le_of_ble_eq_true rfl) (fun x h he hr => ?_)
  obtain ⟨hST, hbases, hn, hb⟩ := id hS
  show jl_J x 168 ad 0 0 (gw K ad I V L C G R) 0 [(0, .ref (ad 156)), (1, .int 41)] []
  refine jl_aload_n (i := 0) h rfl rfl dc_SR_add_0 1 rfl ?_
  refine jl_getf (v := .int (nI ln)) h nm_c_SR 3 wl_SR_39 (by omega) (by decide) (by exact rfl) (by exact sr_v hln) dc_SR_add_1 4 rfl ?_
  refine jl_aload_n (i := 0) h rfl rfl dc_SR_add_4 5 rfl ?_
  refine jl_getf h nm_c_SR 5 wl_SR_18 (by omega) (by decide) (by exact rfl) (by rfl) dc_SR_add_5 8 rfl ?_
  refine jl_callV (As := []) (rest := [_]) h hr vs_SR_45 vi_ST_size vx_ST_size (ci := 1) rfl (by omega) (by exact hST) (fun l => c_ST_size l (by omega) hS) (by first | decide | omega) (by first | decide | omega) rfl rfl (Nat.le_of_ble_eq_true rfl) dc_SR_add_8 (res := [_, _]) rfl 11 rfl ?_
  refine jl_icmp_lt h 16 (by decide) dc_SR_add_11 14 rfl (fun c11 => ?_) (fun c11 => absurd (nI_lt h2 (by omega)) c11)
  refine jl_iload_n (i := 1) h rfl rfl dc_SR_add_16 17 rfl ?_
  refine jl_bipush (v := 40) h (by decide) dc_SR_add_17 19 rfl ?_
  refine jl_icmp_ne h 48 (by decide) dc_SR_add_19 22 rfl (fun c19 => ?_) (fun c19 => absurd c19 (by decide))
  refine jl_iload_n (i := 1) h rfl rfl dc_SR_add_48 49 rfl ?_
  refine jl_bipush (v := 41) h (by decide) dc_SR_add_49 51 rfl ?_
  refine jl_icmp_ne h 63 (by decide) dc_SR_add_51 54 rfl (fun c51 => absurd (by decide) c51) (fun c51 => ?_)
  refine jl_aload_n (i := 0) h rfl rfl dc_SR_add_54 55 rfl ?_
  refine jl_callV (As := []) (rest := []) h hr vs_SR_49 vi_SR_closeLast vx_SR_closeLast (ci := 6) rfl (by omega) (by exact rfl) (fun l => c_SR2_closeLast_yes l hS hoc hln hpr hO hM h0 h1 (by omega) hf e2) (by first | decide | omega) (by first | decide | omega) rfl rfl (Nat.le_of_ble_eq_true rfl) dc_SR_add_55 (res := [_]) rfl 58 rfl ?_
  refine jl_if_ne h 71 (by decide) dc_SR_add_58 61 rfl (fun c58 => ?_) (fun c58 => absurd c58 (by decide))
  refine jl_aload_n (i := 0) h rfl rfl dc_SR_add_71 72 rfl ?_
  refine jl_dup h rfl dc_SR_add_72 73 rfl ?_
  refine jl_getf (v := .int (nI ln)) h nm_c_SR 3 wl_SR_39 (by omega) (by decide) (by exact rfl) (by exact sr_v hln) dc_SR_add_73 76 rfl ?_
  refine jl_iconst (v := 1) h (by decide) dc_SR_add_76 77 rfl ?_
  refine jl_iadd h dc_SR_add_77 78 rfl ?_
  rw [show nI ln + 1 = nI (ln + 1) by exact nI_1 ln]
  refine jl_putf (fs2 := [_, _, _, _, _, _, _]) h nm_c_SR 3 wl_SR_39 (by omega) (by decide) rfl (by exact rfl) (by rfl) (by rfl) (by exact Nat.le_of_ble_eq_true rfl) (by rfl) dc_SR_add_78 (gw_set_len2 _) 81 rfl ?_
  refine jl_iconst (v := 1) h (by decide) dc_SR_add_81 82 rfl ?_
  exact jl_zret h he rfl (rfl) (rfl) dc_SR_add_82
end SA

