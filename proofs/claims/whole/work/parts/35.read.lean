/-! FoldedStrand: read, take. -/
def ps_go (b : Nat → Nat) (n : Nat) (ch : Nat → Int32) : Nat → Nat → ps_S → Nat ⊕ (Nat → Int)
  | 0, p, s => if p = n ∧ s.2 = [] then .inr s.1 else .inl p
  | d + 1, p, s => match ps_step b n p (ch p) s with
    | none => .inl p
    | some s2 => ps_go b n ch d (p + 1) s2
/-- the first fault, or the structure -/
def ps_res (b : Nat → Nat) (n : Nat) (ch : Nat → Int32) (tc : Nat) : Nat ⊕ (Nat → Int) := ps_go b n ch tc 0 (fun _ => -1, [])
theorem ps_go_none {b : Nat → Nat} {n : Nat} {ch : Nat → Int32} {d p : Nat} {s : ps_S} (h : ps_step b n p (ch p) s = none) : ps_go b n ch (d + 1) p s = .inl p := by
  unfold ps_go
  rw [h]
theorem ps_go_some {b : Nat → Nat} {n : Nat} {ch : Nat → Int32} {d p : Nat} {s s2 : ps_S} (h : ps_step b n p (ch p) s = some s2) : ps_go b n ch (d + 1) p s = ps_go b n ch d (p + 1) s2 := by
  conv => lhs; unfold ps_go
  rw [h]
theorem nI_surj (x : Int32) : ∃ m, x = nI m := by
  refine ⟨x.toBitVec.toNat, ?_⟩
  apply Int32.toBitVec_inj.mp
  show x.toBitVec = BitVec.ofNat 32 x.toBitVec.toNat
  rw [BitVec.ofNat_toNat, BitVec.setWidth_eq]
theorem nI_surjF (g : Nat → Int32) : ∃ f : Nat → Nat, g = fun k => nI (f k) := ⟨fun k => Classical.choose (nI_surj (g k)), funext fun k => Classical.choose_spec (nI_surj (g k))⟩
theorem st_okF {K : Nat → ClassId} {ad : Nat → Nat} {I : Nat → Int32} {V : Nat → Nat → Int32} {L : Nat → Int64} {C : Nat → Int32} {G R : Nat → Nat} {n : Nat} {b : Nat → Nat} (hI0 : I 0 = nI n) (hV2 : V 2 = fun i => nI (b i)) (hn : n ≤ 18) (hb : ∀ i, b i < 4) : st_ok K ad (gw K ad I V L C G R) n b := ⟨by show Sum.inr _ = _; rw [hI0], gw_at rfl rfl hV2, hn, hb⟩
abbrev bc_FS_read : ByteArray := prog_1_method_12_code
abbrev yn_FS_read : MethodName := ⟨"FoldedStrand", "read", "()I"⟩
theorem vs_FS_103 : jl_v "FoldedStrand" 103 yn_SR_add bc_SR_add 2 (some .boolean) 1 := ⟨jl_T_of 436 (by decide +kernel) (by decide +kernel), jl_T_of 7 (by decide +kernel) (by decide +kernel), jl_T_of 433 (by decide +kernel) (by decide +kernel), by decide +kernel, by decide +kernel, by decide +kernel⟩
theorem vi_SR_add : Cond.instanceMethod yn_SR_add ∈ jl_T := jl_T_of 434 (by decide +kernel) (by decide +kernel)
theorem vx_SR_add : Cond.selects "FoldedStrand$Structure" yn_SR_add yn_SR_add ∈ jl_T := jl_T_of 435 (by decide +kernel) (by decide +kernel)
theorem vs_FS_109 : jl_v "FoldedStrand" 109 yn_SR_isWhole bc_SR_isWhole 1 (some .boolean) 0 := ⟨jl_T_of 462 (by decide +kernel) (by decide +kernel), jl_T_of 7 (by decide +kernel) (by decide +kernel), jl_T_of 459 (by decide +kernel) (by decide +kernel), by decide +kernel, by decide +kernel, by decide +kernel⟩
theorem vi_SR_isWhole : Cond.instanceMethod yn_SR_isWhole ∈ jl_T := jl_T_of 460 (by decide +kernel) (by decide +kernel)
theorem vx_SR_isWhole : Cond.selects "FoldedStrand$Structure" yn_SR_isWhole yn_SR_isWhole ∈ jl_T := jl_T_of 461 (by decide +kernel) (by decide +kernel)
theorem vs_FS_106 : jl_v "FoldedStrand" 106 yn_FS_adoptDraft bc_FS_adoptDraft 2 (some .int) 0 := ⟨jl_T_of 446 (by decide +kernel) (by decide +kernel), jl_T_of 1 (by decide +kernel) (by decide +kernel), jl_T_of 443 (by decide +kernel) (by decide +kernel), by decide +kernel, by decide +kernel, by decide +kernel⟩
theorem vi_FS_adoptDraft : Cond.instanceMethod yn_FS_adoptDraft ∈ jl_T := jl_T_of 445 (by decide +kernel) (by decide +kernel)
theorem vx_FS_adoptDraft : Cond.selects "FoldedStrand" yn_FS_adoptDraft yn_FS_adoptDraft ∈ jl_T := jl_T_sel 11 (by decide +kernel) (by decide +kernel)
theorem dc_FS_read_0 : decode bc_FS_read 0 = .ok (.aload_n 0, 1) := by decide +kernel
theorem dc_FS_read_1 : decode bc_FS_read 1 = .ok (.getfield 53, 3) := by decide +kernel
theorem dc_FS_read_4 : decode bc_FS_read 4 = .ok (.istore_n 1, 1) := by decide +kernel
theorem dc_FS_read_5 : decode bc_FS_read 5 = .ok (.aload_n 0, 1) := by decide +kernel
theorem dc_FS_read_6 : decode bc_FS_read 6 = .ok (.iconst 0, 1) := by decide +kernel
theorem dc_FS_read_7 : decode bc_FS_read 7 = .ok (.putfield 53, 3) := by decide +kernel
theorem dc_FS_read_10 : decode bc_FS_read 10 = .ok (.aload_n 0, 1) := by decide +kernel
theorem dc_FS_read_11 : decode bc_FS_read 11 = .ok (.getfield 46, 3) := by decide +kernel
theorem dc_FS_read_14 : decode bc_FS_read 14 = .ok (.invokevirtual 99, 3) := by decide +kernel
theorem dc_FS_read_17 : decode bc_FS_read 17 = .ok (.iconst 0, 1) := by decide +kernel
theorem dc_FS_read_18 : decode bc_FS_read 18 = .ok (.istore_n 2, 1) := by decide +kernel
theorem dc_FS_read_19 : decode bc_FS_read 19 = .ok (.iload_n 2, 1) := by decide +kernel
theorem dc_FS_read_20 : decode bc_FS_read 20 = .ok (.iload_n 1, 1) := by decide +kernel
theorem dc_FS_read_21 : decode bc_FS_read 21 = .ok (.if_icmp .ge 30, 3) := by decide +kernel
theorem dc_FS_read_24 : decode bc_FS_read 24 = .ok (.aload_n 0, 1) := by decide +kernel
theorem dc_FS_read_25 : decode bc_FS_read 25 = .ok (.getfield 46, 3) := by decide +kernel
theorem dc_FS_read_28 : decode bc_FS_read 28 = .ok (.aload_n 0, 1) := by decide +kernel
theorem dc_FS_read_29 : decode bc_FS_read 29 = .ok (.getfield 49, 3) := by decide +kernel
theorem dc_FS_read_32 : decode bc_FS_read 32 = .ok (.iload_n 2, 1) := by decide +kernel
theorem dc_FS_read_33 : decode bc_FS_read 33 = .ok (.caload, 1) := by decide +kernel
theorem dc_FS_read_34 : decode bc_FS_read 34 = .ok (.invokevirtual 103, 3) := by decide +kernel
theorem dc_FS_read_37 : decode bc_FS_read 37 = .ok (.ifCond .ne 8, 3) := by decide +kernel
theorem dc_FS_read_40 : decode bc_FS_read 40 = .ok (.bipush (-10), 2) := by decide +kernel
theorem dc_FS_read_42 : decode bc_FS_read 42 = .ok (.iload_n 2, 1) := by decide +kernel
theorem dc_FS_read_43 : decode bc_FS_read 43 = .ok (.isub, 1) := by decide +kernel
theorem dc_FS_read_44 : decode bc_FS_read 44 = .ok (.ireturn, 1) := by decide +kernel
theorem dc_FS_read_45 : decode bc_FS_read 45 = .ok (.iinc 2 1, 3) := by decide +kernel
theorem dc_FS_read_48 : decode bc_FS_read 48 = .ok (.goto (-29), 3) := by decide +kernel
theorem dc_FS_read_51 : decode bc_FS_read 51 = .ok (.aload_n 0, 1) := by decide +kernel
theorem dc_FS_read_52 : decode bc_FS_read 52 = .ok (.getfield 46, 3) := by decide +kernel
theorem dc_FS_read_55 : decode bc_FS_read 55 = .ok (.invokevirtual 109, 3) := by decide +kernel
theorem dc_FS_read_58 : decode bc_FS_read 58 = .ok (.ifCond .eq 10, 3) := by decide +kernel
theorem dc_FS_read_61 : decode bc_FS_read 61 = .ok (.aload_n 0, 1) := by decide +kernel
theorem dc_FS_read_62 : decode bc_FS_read 62 = .ok (.invokevirtual 106, 3) := by decide +kernel
theorem dc_FS_read_65 : decode bc_FS_read 65 = .ok (.goto 7, 3) := by decide +kernel
theorem dc_FS_read_68 : decode bc_FS_read 68 = .ok (.bipush (-10), 2) := by decide +kernel
theorem dc_FS_read_70 : decode bc_FS_read 70 = .ok (.iload_n 1, 1) := by decide +kernel
theorem dc_FS_read_71 : decode bc_FS_read 71 = .ok (.isub, 1) := by decide +kernel
theorem dc_FS_read_72 : decode bc_FS_read 72 = .ok (.ireturn, 1) := by decide +kernel
abbrev bc_FS_take : ByteArray := prog_1_method_10_code
abbrev yn_FS_take : MethodName := ⟨"FoldedStrand", "take", "(I)I"⟩
theorem vs_FS_102 : jl_v "FoldedStrand" 102 yn_ST_size bc_ST_size 1 (some .int) 0 := ⟨jl_T_of 226 (by decide +kernel) (by decide +kernel), jl_T_of 2 (by decide +kernel) (by decide +kernel), jl_T_of 432 (by decide +kernel) (by decide +kernel), by decide +kernel, by decide +kernel, by decide +kernel⟩
theorem dc_FS_take_0 : decode bc_FS_take 0 = .ok (.aload_n 0, 1) := by decide +kernel
theorem dc_FS_take_1 : decode bc_FS_take 1 = .ok (.getfield 35, 3) := by decide +kernel
theorem dc_FS_take_4 : decode bc_FS_take 4 = .ok (.iload_n 1, 1) := by decide +kernel
theorem dc_FS_take_5 : decode bc_FS_take 5 = .ok (.invokevirtual 87, 3) := by decide +kernel
theorem dc_FS_take_8 : decode bc_FS_take 8 = .ok (.ifCond .ne 5, 3) := by decide +kernel
theorem dc_FS_take_11 : decode bc_FS_take 11 = .ok (.iconst (-1), 1) := by decide +kernel
theorem dc_FS_take_12 : decode bc_FS_take 12 = .ok (.ireturn, 1) := by decide +kernel
theorem dc_FS_take_13 : decode bc_FS_take 13 = .ok (.aload_n 0, 1) := by decide +kernel
theorem dc_FS_take_14 : decode bc_FS_take 14 = .ok (.getfield 46, 3) := by decide +kernel
theorem dc_FS_take_17 : decode bc_FS_take 17 = .ok (.invokevirtual 99, 3) := by decide +kernel
theorem dc_FS_take_20 : decode bc_FS_take 20 = .ok (.iconst 0, 1) := by decide +kernel
theorem dc_FS_take_21 : decode bc_FS_take 21 = .ok (.istore_n 2, 1) := by decide +kernel
theorem dc_FS_take_22 : decode bc_FS_take 22 = .ok (.iload_n 2, 1) := by decide +kernel
theorem dc_FS_take_23 : decode bc_FS_take 23 = .ok (.aload_n 0, 1) := by decide +kernel
theorem dc_FS_take_24 : decode bc_FS_take 24 = .ok (.getfield 10, 3) := by decide +kernel
theorem dc_FS_take_27 : decode bc_FS_take 27 = .ok (.invokevirtual 102, 3) := by decide +kernel
theorem dc_FS_take_30 : decode bc_FS_take 30 = .ok (.if_icmp .ge 26, 3) := by decide +kernel
theorem dc_FS_take_33 : decode bc_FS_take 33 = .ok (.aload_n 0, 1) := by decide +kernel
theorem dc_FS_take_34 : decode bc_FS_take 34 = .ok (.getfield 46, 3) := by decide +kernel
theorem dc_FS_take_37 : decode bc_FS_take 37 = .ok (.aload_n 0, 1) := by decide +kernel
theorem dc_FS_take_38 : decode bc_FS_take 38 = .ok (.getfield 35, 3) := by decide +kernel
theorem dc_FS_take_41 : decode bc_FS_take 41 = .ok (.iload_n 1, 1) := by decide +kernel
theorem dc_FS_take_42 : decode bc_FS_take 42 = .ok (.iload_n 2, 1) := by decide +kernel
theorem dc_FS_take_43 : decode bc_FS_take 43 = .ok (.invokevirtual 95, 3) := by decide +kernel
theorem dc_FS_take_46 : decode bc_FS_take 46 = .ok (.invokevirtual 103, 3) := by decide +kernel
theorem dc_FS_take_49 : decode bc_FS_take 49 = .ok (.pop, 1) := by decide +kernel
theorem dc_FS_take_50 : decode bc_FS_take 50 = .ok (.iinc 2 1, 3) := by decide +kernel
theorem dc_FS_take_53 : decode bc_FS_take 53 = .ok (.goto (-31), 3) := by decide +kernel
theorem dc_FS_take_56 : decode bc_FS_take 56 = .ok (.aload_n 0, 1) := by decide +kernel
theorem dc_FS_take_57 : decode bc_FS_take 57 = .ok (.invokevirtual 106, 3) := by decide +kernel
theorem dc_FS_take_60 : decode bc_FS_take 60 = .ok (.ireturn, 1) := by decide +kernel
section FS
variable (l : Launch) {K : Nat → ClassId} {sa : Nat → Nat} {ad : Nat → Nat} {I : Nat → Int32} {V : Nat → Nat → Int32} {L : Nat → Int64} {C : Nat → Int32} {G : Nat → Nat} {R : Nat → Nat} {n : Nat} {b : Nat → Nat} {w : Nat → Int}
def fs_fr1 (I I2 : Nat → Int32) (V V2 : Nat → Nat → Int32) : Prop := (∀ k, k ≠ 10 → k ≠ 7 → k ≠ 8 → k ≠ 9 → I2 k = I k) ∧ ∀ c, c ≠ 157 → c ≠ 158 → V2 c = V c
theorem c_FS1_read (hG : G 0 = 153) (hG1 : G 1 = 156) (hI0 : I 0 = nI n) (hV2 : V 2 = fun i => nI (b i)) (hn : n ≤ 18) (hb : ∀ i, b i < 4) {tc : Nat} (htc : I 10 = nI tc) (ht20 : tc ≤ 20) : jl_CP l K sa yn_FS_read bc_FS_read 3 (some .int) 4 100 168 ad [.ref (ad 0)] (gw K ad I V L C G R) (fun v E2 => ∃ I2 V2, fs_fr1 I I2 V V2 ∧ I2 10 = 0 ∧ ((∃ p, ps_res b n C tc = .inl p ∧ v = some (.int (iI (-10 - (p : Int)))) ∧ E2 = gw K ad I2 V2 L C G R) ∨ (∃ w, ps_res b n C tc = .inr w ∧ en_V b n w ∧ v = some (.int (nI (mo_pc w n))) ∧ V2 157 = (fun k => iI (w k)) ∧ E2 = gw K ad I2 V2 L C (va_up (va_up G 0 156) 1 153) R))) := by
  refine jl_enterP (by decide) (Nat.le_of_ble_eq_true rfl) (fun x h he hr => ?_)
  show jl_J x 168 ad 0 0 (gw K ad I V L C G R) 0 [(0, .ref (ad 0))] []
  have loop : ∀ (d p : Nat) (I1 : Nat → Int32) (V1 : Nat → Nat → Int32) (w : Nat → Int) (os : List Nat), p + d = tc → fs_fr1 I I1 V V1 → I1 10 = 0 → ps_I b n p w os → ps_rel2 I1 V1 p w os → ps_res b n C tc = ps_go b n C d p (w, os) → jl_J x 168 ad 0 0 (gw K ad I1 V1 L C G R) 19 [(2, .int (nI p)), (1, .int (nI tc)), (0, .ref (ad 0))] [] := by
    intro d
    induction d with
    | zero =>
      intro p I1 V1 w os hp hf h10 hps hrel hres
      have hp : p = tc := by omega
      subst hp
      have hS : st_ok K ad (gw K ad I1 V1 L C G R) n b := st_okF (by rw [hf.1 0 (by decide) (by decide) (by decide) (by decide)]; exact hI0) (by rw [hf.2 2 (by decide) (by decide)]; exact hV2) hn hb
      have hl9 := ps_len hps.2.2.2.2.2 (fun i hi => (hps.2.2.2.2.1 i hi).1)
      have hle := hps.1
      have hw := hps.2.1
      have hrel2 := hrel
      obtain ⟨r1, r2, r3, r4, f, r5, r6⟩ := hrel2
      by_cases hfin : p = n ∧ os.length = 0
      · have hos : os = [] := List.eq_nil_of_length_eq_zero hfin.2
        have hres : ps_res b n C p = .inr w := by rw [hres]; unfold ps_go; rw [if_pos ⟨hfin.1, hos⟩]
        have hpn := hfin.1
        subst hpn
        refine jl_iload_n (i := 2) h rfl rfl dc_FS_read_19 20 rfl ?_
        refine jl_iload_n (i := 1) h rfl rfl dc_FS_read_20 21 rfl ?_
        refine jl_icmp_ge h 51 (by decide) dc_FS_read_21 24 rfl (fun c21 => ?_) (fun c21 => absurd (nI_le (Nat.le_refl _) (by omega)) c21)
        refine jl_aload_n (i := 0) h rfl rfl dc_FS_read_51 52 rfl ?_
        refine jl_getf (v := .ref (ad 156)) h nm_c_FS 6 wl_FS_46 (by omega) (by decide) (by exact rfl) (by exact fs_r hG1) dc_FS_read_52 55 rfl ?_
        refine jl_callV (As := []) (rest := []) h hr vs_FS_109 vi_SR_isWhole vx_SR_isWhole (ci := 6) rfl (by omega) (by exact rfl) (fun l => c_SR2_isWhole l hS r1 r2 (by omega) (by omega)) (by first | decide | omega) (by first | decide | omega) rfl rfl (Nat.le_of_ble_eq_true rfl) dc_FS_read_55 (res := [_]) rfl 58 rfl ?_
        refine jl_if_eq h 68 (by decide) dc_FS_read_58 61 rfl (fun c58 => absurd c58 (by rw [st_b1]; exact decide_eq_true hfin)) (fun c58 => ?_)
        refine jl_aload_n (i := 0) h rfl rfl dc_FS_read_61 62 rfl ?_
        refine jl_callV (As := []) (rest := []) h hr vs_FS_106 vi_FS_adoptDraft vx_FS_adoptDraft (ci := 0) rfl (by omega) (by exact rfl) (fun l => c_FS1_adoptDraft l hG hG1) (by first | decide | omega) (by first | decide | omega) rfl rfl (Nat.le_of_ble_eq_true rfl) dc_FS_read_62 (res := [_]) rfl 65 rfl ?_
        refine jl_goto h 72 (by decide) dc_FS_read_65 ?_
        exact jl_zretP h he rfl (⟨I1, V1, hf, h10, Or.inr ⟨w, hres, hw, by rw [r3], r4, rfl⟩⟩) dc_FS_read_72
      · have hres : ps_res b n C p = .inl p := by rw [hres]; unfold ps_go; rw [if_neg (fun h9 => hfin ⟨h9.1, by rw [show os = [] from h9.2]; rfl⟩)]
        refine jl_iload_n (i := 2) h rfl rfl dc_FS_read_19 20 rfl ?_
        refine jl_iload_n (i := 1) h rfl rfl dc_FS_read_20 21 rfl ?_
        refine jl_icmp_ge h 51 (by decide) dc_FS_read_21 24 rfl (fun c21 => ?_) (fun c21 => absurd (nI_le (Nat.le_refl _) (by omega)) c21)
        refine jl_aload_n (i := 0) h rfl rfl dc_FS_read_51 52 rfl ?_
        refine jl_getf (v := .ref (ad 156)) h nm_c_FS 6 wl_FS_46 (by omega) (by decide) (by exact rfl) (by exact fs_r hG1) dc_FS_read_52 55 rfl ?_
        refine jl_callV (As := []) (rest := []) h hr vs_FS_109 vi_SR_isWhole vx_SR_isWhole (ci := 6) rfl (by omega) (by exact rfl) (fun l => c_SR2_isWhole l hS r1 r2 (by omega) (by omega)) (by first | decide | omega) (by first | decide | omega) rfl rfl (Nat.le_of_ble_eq_true rfl) dc_FS_read_55 (res := [_]) rfl 58 rfl ?_
        refine jl_if_eq h 68 (by decide) dc_FS_read_58 61 rfl (fun c58 => ?_) (fun c58 => absurd (by rw [st_b0]; exact decide_eq_false hfin) c58)
        refine jl_bipush (v := iI (-10)) h (by decide) dc_FS_read_68 70 rfl ?_
        refine jl_iload_n (i := 1) h rfl rfl dc_FS_read_70 71 rfl ?_
        refine jl_isub h dc_FS_read_71 72 rfl ?_
        rw [show iI (-10) - nI p = iI (-10 - (p : Int)) by rw [← iI_nat, iI_sub]]
        exact jl_zretP h he rfl (⟨I1, V1, hf, h10, Or.inl ⟨p, hres, rfl, rfl⟩⟩) dc_FS_read_72
    | succ d ih =>
      intro p I1 V1 w os hp hf h10 hps hrel hres
      have hS : st_ok K ad (gw K ad I1 V1 L C G R) n b := st_okF (by rw [hf.1 0 (by decide) (by decide) (by decide) (by decide)]; exact hI0) (by rw [hf.2 2 (by decide) (by decide)]; exact hV2) hn hb
      cases hst : ps_step b n p (C p) (w, os) with
      | none =>
        rw [ps_go_none hst] at hres
        refine jl_iload_n (i := 2) h rfl rfl dc_FS_read_19 20 rfl ?_
        refine jl_iload_n (i := 1) h rfl rfl dc_FS_read_20 21 rfl ?_
        refine jl_icmp_ge h 51 (by decide) dc_FS_read_21 24 rfl (fun c21 => absurd c21 (nI_ge (by omega) (by omega))) (fun c21 => ?_)
        refine jl_aload_n (i := 0) h rfl rfl dc_FS_read_24 25 rfl ?_
        refine jl_getf (v := .ref (ad 156)) h nm_c_FS 6 wl_FS_46 (by omega) (by decide) (by exact rfl) (by exact fs_r hG1) dc_FS_read_25 28 rfl ?_
        refine jl_aload_n (i := 0) h rfl rfl dc_FS_read_28 29 rfl ?_
        refine jl_getf h nm_c_FS 3 wl_FS_49 (by omega) (by decide) (by exact rfl) (by rfl) dc_FS_read_29 32 rfl ?_
        refine jl_iload_n (i := 2) h rfl rfl dc_FS_read_32 33 rfl ?_
        refine jl_cald (v := C p) h (p) (by exact rfl) (by omega) (by exact rfl) (by exact by omega) (by first | decide | assumption) (by exact rfl) dc_FS_read_33 34 rfl ?_
        refine jl_callV (As := [_]) (rest := []) h hr vs_FS_103 vi_SR_add vx_SR_add (ci := 6) rfl (by omega) (by exact rfl) (fun l => c_SR2_add_no l hS hps hrel (C p) hst) (by first | decide | omega) (by first | decide | omega) rfl rfl (Nat.le_of_ble_eq_true rfl) dc_FS_read_34 (res := [_]) rfl 37 rfl ?_
        refine jl_if_ne h 45 (by decide) dc_FS_read_37 40 rfl (fun c37 => absurd (by decide) c37) (fun c37 => ?_)
        refine jl_bipush (v := iI (-10)) h (by decide) dc_FS_read_40 42 rfl ?_
        refine jl_iload_n (i := 2) h rfl rfl dc_FS_read_42 43 rfl ?_
        refine jl_isub h dc_FS_read_43 44 rfl ?_
        rw [show iI (-10) - nI p = iI (-10 - (p : Int)) by rw [← iI_nat, iI_sub]]
        exact jl_zretP h he rfl (⟨I1, V1, hf, h10, Or.inl ⟨p, hres, rfl, rfl⟩⟩) dc_FS_read_44
      | some s2 =>
        obtain ⟨w2, os2⟩ := s2
        rw [ps_go_some hst] at hres
        obtain ⟨I2, V2, g1, g2, hadd⟩ := c_SR2_add_yes (L := L) (C := C) (G := G) (R := R) (sa := sa) hS hps hrel (C p) hst
        have hf2 : fs_fr1 I I2 V V2 := ⟨fun k k1 k2 k3 k4 => by rw [g1.1 k k2 k3 k4]; exact hf.1 k k1 k2 k3 k4, fun c c1 c2 => by rw [g1.2 c c1 c2]; exact hf.2 c c1 c2⟩
        have h102 : I2 10 = 0 := by rw [g1.1 10 (by decide) (by decide) (by decide)]; exact h10
        refine jl_iload_n (i := 2) h rfl rfl dc_FS_read_19 20 rfl ?_
        refine jl_iload_n (i := 1) h rfl rfl dc_FS_read_20 21 rfl ?_
        refine jl_icmp_ge h 51 (by decide) dc_FS_read_21 24 rfl (fun c21 => absurd c21 (nI_ge (by omega) (by omega))) (fun c21 => ?_)
        refine jl_aload_n (i := 0) h rfl rfl dc_FS_read_24 25 rfl ?_
        refine jl_getf (v := .ref (ad 156)) h nm_c_FS 6 wl_FS_46 (by omega) (by decide) (by exact rfl) (by exact fs_r hG1) dc_FS_read_25 28 rfl ?_
        refine jl_aload_n (i := 0) h rfl rfl dc_FS_read_28 29 rfl ?_
        refine jl_getf h nm_c_FS 3 wl_FS_49 (by omega) (by decide) (by exact rfl) (by rfl) dc_FS_read_29 32 rfl ?_
        refine jl_iload_n (i := 2) h rfl rfl dc_FS_read_32 33 rfl ?_
        refine jl_cald (v := C p) h (p) (by exact rfl) (by omega) (by exact rfl) (by exact by omega) (by first | decide | assumption) (by exact rfl) dc_FS_read_33 34 rfl ?_
        refine jl_callV (As := [_]) (rest := []) h hr vs_FS_103 vi_SR_add vx_SR_add (ci := 6) rfl (by omega) (by exact rfl) (fun l => hadd l) (by first | decide | omega) (by first | decide | omega) rfl rfl (Nat.le_of_ble_eq_true rfl) dc_FS_read_34 (res := [_]) rfl 37 rfl ?_
        refine jl_if_ne h 45 (by decide) dc_FS_read_37 40 rfl (fun c37 => ?_) (fun c37 => absurd c37 (by decide))
        refine jl_iinc (i := 2) (d := 1) (lc2 := [(2, _), (1, _), (0, _)]) (v2 := nI (p + 1)) h (by decide) rfl (nI_1 p) rfl dc_FS_read_45 48 rfl ?_
        refine jl_goto h 19 (by decide) dc_FS_read_48 ?_
        exact ih (p + 1) I2 V2 w2 os2 (by omega) hf2 h102 (ps_I_step hps hst) g2 hres
  obtain ⟨f, hf0⟩ := nI_surjF (V 158)
  have l0 := loop tc 0 (va_up (va_up (va_up (va_up I 10 0) 7 0) 8 0) 9 0) (va_up V 157 (fun _ => -1)) (fun _ => -1) [] (by omega) ⟨fun k k1 k2 k3 k4 => by rw [va_up_ne _ _ k4, va_up_ne _ _ k3, va_up_ne _ _ k2, va_up_ne _ _ k1], fun c c1 c2 => va_up_ne _ _ c1⟩ rfl (ps_I0 b n) ⟨rfl, rfl, rfl, rfl, f, hf0, fun k hk => absurd hk (Nat.not_lt_zero k)⟩ rfl
  refine jl_aload_n (i := 0) h rfl rfl dc_FS_read_0 1 rfl ?_
  refine jl_getf (v := .int (nI tc)) h nm_c_FS 4 wl_FS_53 (by omega) (by decide) (by exact rfl) (by exact sr_v htc) dc_FS_read_1 4 rfl ?_
  refine jl_istore_n (i := 1) (lc2 := [(1, _), (0, _)]) h rfl (by decide) rfl dc_FS_read_4 5 rfl ?_
  refine jl_aload_n (i := 0) h rfl rfl dc_FS_read_5 6 rfl ?_
  refine jl_iconst (v := 0) h (by decide) dc_FS_read_6 7 rfl ?_
  refine jl_putf (fs2 := [_, _, _, _, _, _, _]) h nm_c_FS 4 wl_FS_53 (by omega) (by decide) rfl (by exact rfl) (by rfl) (by rfl) (by exact Nat.le_of_ble_eq_true rfl) (by rfl) dc_FS_read_7 (gw_set_tc _) 10 rfl ?_
  refine jl_aload_n (i := 0) h rfl rfl dc_FS_read_10 11 rfl ?_
  refine jl_getf (v := .ref (ad 156)) h nm_c_FS 6 wl_FS_46 (by omega) (by decide) (by exact rfl) (by exact fs_r hG1) dc_FS_read_11 14 rfl ?_
  refine jl_callV (As := []) (rest := []) h hr vs_FS_99 vi_SR_restart vx_SR_restart (ci := 6) rfl (by omega) (by exact rfl) (fun l => c_SR2_restart l (by decide) rfl (gw_row (len := 18) ⟨rfl, rfl⟩)) (by first | decide | omega) (by first | decide | omega) rfl rfl (Nat.le_of_ble_eq_true rfl) dc_FS_read_14 (res := []) rfl 17 rfl ?_
  rw [gw_rowset (len := 18) (k := 157) ⟨rfl, rfl⟩, gw_set_sr2]
  refine jl_iconst (v := nI 0) h (by decide) dc_FS_read_17 18 rfl ?_
  refine jl_istore_n (i := 2) (lc2 := [(2, _), (1, _), (0, _)]) h rfl (by decide) rfl dc_FS_read_18 19 rfl ?_
  exact l0
theorem c_FS1_take_no (q : Int32) (hq : ¬ (¬ q < 0 ∧ q < I 1)) : jl_C l K sa yn_FS_take bc_FS_take 3 (some .int) 4 100 168 ad [.ref (ad 0), .int q] (gw K ad I V L C G R) (some (.int (-1))) (gw K ad I V L C G R) := by
  refine jl_enter (by decide) (Nat.le_of_ble_eq_true rfl) (fun x h he hr => ?_)
  show jl_J x 168 ad 0 0 (gw K ad I V L C G R) 0 [(0, .ref (ad 0)), (1, .int q)] []
  refine jl_aload_n (i := 0) h rfl rfl dc_FS_take_0 1 rfl ?_
  refine jl_getf h nm_c_FS 2 wl_FS_35 (by omega) (by decide) (by exact rfl) (by rfl) dc_FS_take_1 4 rfl ?_
  refine jl_iload_n (i := 1) h rfl rfl dc_FS_take_4 5 rfl ?_
  refine jl_callV (As := [_]) (rest := []) h hr vs_FS_87 vi_NL_has vx_NL_has (ci := 5) rfl (by omega) (by exact rfl) (fun l => c_NL_has l q) (by first | decide | omega) (by first | decide | omega) rfl rfl (Nat.le_of_ble_eq_true rfl) dc_FS_take_5 (res := [_]) rfl 8 rfl ?_
  refine jl_if_ne h 13 (by decide) dc_FS_take_8 11 rfl (fun c8 => absurd (by rw [st_b0]; exact decide_eq_false hq) c8) (fun c8 => ?_)
  refine jl_iconst (v := -1) h (by decide) dc_FS_take_11 12 rfl ?_
  exact jl_zret h he rfl (rfl) (rfl) dc_FS_take_12
theorem c_FS1_take (hG : G 0 = 153) (hG1 : G 1 = 156) (hI0 : I 0 = nI n) (hV2 : V 2 = fun i => nI (b i)) (hn : n ≤ 18) (hb : ∀ i, b i < 4) {ks : List Int} (hli : nl_li ks I L) {k : Nat} (hk : k < ks.length) {ch : Nat → Int32} (hch : ∀ p, p < n → ch p = nl_ch (ks.getD k 0 / nl_4 p % 4)) {w0 : Nat → Int} (hres : ps_res b n ch n = .inr w0) : jl_CP l K sa yn_FS_take bc_FS_take 3 (some .int) 4 100 168 ad [.ref (ad 0), .int (nI k)] (gw K ad I V L C G R) (fun v E2 => ∃ I2 V2, fs_fr1 I I2 V V2 ∧ I2 10 = I 10 ∧ en_V b n w0 ∧ v = some (.int (nI (mo_pc w0 n))) ∧ V2 157 = (fun k => iI (w0 k)) ∧ E2 = gw K ad I2 V2 L C (va_up (va_up G 0 156) 1 153) R) := by
  refine jl_enterP (by decide) (Nat.le_of_ble_eq_true rfl) (fun x h he hr => ?_)
  show jl_J x 168 ad 0 0 (gw K ad I V L C G R) 0 [(0, .ref (ad 0)), (1, .int (nI k))] []
  obtain ⟨li1, li2, li3, li4, li5⟩ := hli
  have hLk := li2 k hk
  have hbg : nl_big (ks.getD k 0) := by
    rw [List.getD_eq_getElem?_getD, List.getElem?_eq_getElem hk]
    exact li5 _ (List.getElem_mem hk)
  have loop : ∀ (d p : Nat) (I1 : Nat → Int32) (V1 : Nat → Nat → Int32) (w : Nat → Int) (os : List Nat), p + d = n → fs_fr1 I I1 V V1 → I1 10 = I 10 → ps_I b n p w os → ps_rel2 I1 V1 p w os → .inr w0 = ps_go b n ch d p (w, os) → jl_J x 168 ad 0 0 (gw K ad I1 V1 L C G R) 22 [(2, .int (nI p)), (0, .ref (ad 0)), (1, .int (nI k))] [] := by
    intro d
    induction d with
    | zero =>
      intro p I1 V1 w os hp hf h10 hps hrel hres
      have hp : p = n := by omega
      subst hp
      have hS : st_ok K ad (gw K ad I1 V1 L C G R) p b := st_okF (by rw [hf.1 0 (by decide) (by decide) (by decide) (by decide)]; exact hI0) (by rw [hf.2 2 (by decide) (by decide)]; exact hV2) hn hb
      have hw := hps.2.1
      obtain ⟨r1, r2, r3, r4, f, r5, r6⟩ := hrel
      have hw0 : w0 = w := by
        unfold ps_go at hres
        by_cases h9 : p = p ∧ (w, os).2 = []
        · rw [if_pos h9] at hres
          exact Sum.inr.inj hres
        · rw [if_neg h9] at hres
          cases hres
      subst hw0
      refine jl_iload_n (i := 2) h rfl rfl dc_FS_take_22 23 rfl ?_
      refine jl_aload_n (i := 0) h rfl rfl dc_FS_take_23 24 rfl ?_
      refine jl_getf h nm_c_FS 0 wl_FS_10 (by omega) (by decide) (by exact rfl) (by rfl) dc_FS_take_24 27 rfl ?_
      refine jl_callV (As := []) (rest := [_]) h hr vs_FS_102 vi_ST_size vx_ST_size (ci := 1) rfl (by omega) (by exact hS.1) (fun l => c_ST_size l (by omega) hS) (by first | decide | omega) (by first | decide | omega) rfl rfl (Nat.le_of_ble_eq_true rfl) dc_FS_take_27 (res := [_, _]) rfl 30 rfl ?_
      refine jl_icmp_ge h 56 (by decide) dc_FS_take_30 33 rfl (fun c30 => ?_) (fun c30 => absurd (nI_le (Nat.le_refl _) (by omega)) c30)
      refine jl_aload_n (i := 0) h rfl rfl dc_FS_take_56 57 rfl ?_
      refine jl_callV (As := []) (rest := []) h hr vs_FS_106 vi_FS_adoptDraft vx_FS_adoptDraft (ci := 0) rfl (by omega) (by exact rfl) (fun l => c_FS1_adoptDraft l hG hG1) (by first | decide | omega) (by first | decide | omega) rfl rfl (Nat.le_of_ble_eq_true rfl) dc_FS_take_57 (res := [_]) rfl 60 rfl ?_
      exact jl_zretP h he rfl (⟨I1, V1, hf, h10, hw, by rw [r3], r4, rfl⟩) dc_FS_take_60
    | succ d ih =>
      intro p I1 V1 w os hp hf h10 hps hrel hres
      have hS : st_ok K ad (gw K ad I1 V1 L C G R) n b := st_okF (by rw [hf.1 0 (by decide) (by decide) (by decide) (by decide)]; exact hI0) (by rw [hf.2 2 (by decide) (by decide)]; exact hV2) hn hb
      cases hst : ps_step b n p (ch p) (w, os) with
      | none =>
        rw [ps_go_none hst] at hres
        cases hres
      | some s2 =>
        obtain ⟨w2, os2⟩ := s2
        rw [ps_go_some hst] at hres
        obtain ⟨I2, V2, g1, g2, hadd⟩ := c_SR2_add_yes (L := L) (C := C) (G := G) (R := R) (sa := sa) hS hps hrel (ch p) hst
        rw [hch p (by omega)] at hadd
        have hf2 : fs_fr1 I I2 V V2 := ⟨fun k k1 k2 k3 k4 => by rw [g1.1 k k2 k3 k4]; exact hf.1 k k1 k2 k3 k4, fun c c1 c2 => by rw [g1.2 c c1 c2]; exact hf.2 c c1 c2⟩
        have h102 : I2 10 = I 10 := by rw [g1.1 10 (by decide) (by decide) (by decide)]; exact h10
        refine jl_iload_n (i := 2) h rfl rfl dc_FS_take_22 23 rfl ?_
        refine jl_aload_n (i := 0) h rfl rfl dc_FS_take_23 24 rfl ?_
        refine jl_getf h nm_c_FS 0 wl_FS_10 (by omega) (by decide) (by exact rfl) (by rfl) dc_FS_take_24 27 rfl ?_
        refine jl_callV (As := []) (rest := [_]) h hr vs_FS_102 vi_ST_size vx_ST_size (ci := 1) rfl (by omega) (by exact hS.1) (fun l => c_ST_size l (by omega) hS) (by first | decide | omega) (by first | decide | omega) rfl rfl (Nat.le_of_ble_eq_true rfl) dc_FS_take_27 (res := [_, _]) rfl 30 rfl ?_
        refine jl_icmp_ge h 56 (by decide) dc_FS_take_30 33 rfl (fun c30 => absurd c30 (nI_ge (by omega) (by omega))) (fun c30 => ?_)
        refine jl_aload_n (i := 0) h rfl rfl dc_FS_take_33 34 rfl ?_
        refine jl_getf (v := .ref (ad 156)) h nm_c_FS 6 wl_FS_46 (by omega) (by decide) (by exact rfl) (by exact fs_r hG1) dc_FS_take_34 37 rfl ?_
        refine jl_aload_n (i := 0) h rfl rfl dc_FS_take_37 38 rfl ?_
        refine jl_getf h nm_c_FS 2 wl_FS_35 (by omega) (by decide) (by exact rfl) (by rfl) dc_FS_take_38 41 rfl ?_
        refine jl_iload_n (i := 1) h rfl rfl dc_FS_take_41 42 rfl ?_
        refine jl_iload_n (i := 2) h rfl rfl dc_FS_take_42 43 rfl ?_
        refine jl_callV (As := [_, _]) (rest := [_]) h hr vs_FS_95 vi_NL_character vx_NL_character (ci := 5) rfl (by omega) (by exact rfl) (fun l => c_NL_character l (show k < 150 by omega) (show p < 18 by omega) hbg hLk) (by first | decide | omega) (by first | decide | omega) rfl rfl (Nat.le_of_ble_eq_true rfl) dc_FS_take_43 (res := [_, _]) rfl 46 rfl ?_
        refine jl_callV (As := [_]) (rest := []) h hr vs_FS_103 vi_SR_add vx_SR_add (ci := 6) rfl (by omega) (by exact rfl) (fun l => hadd l) (by first | decide | omega) (by first | decide | omega) rfl rfl (Nat.le_of_ble_eq_true rfl) dc_FS_take_46 (res := [_]) rfl 49 rfl ?_
        refine jl_pop h rfl dc_FS_take_49 50 rfl ?_
        refine jl_iinc (i := 2) (d := 1) (lc2 := [(2, _), (0, _), (1, _)]) (v2 := nI (p + 1)) h (by decide) rfl (nI_1 p) rfl dc_FS_take_50 53 rfl ?_
        refine jl_goto h 22 (by decide) dc_FS_take_53 ?_
        exact ih (p + 1) I2 V2 w2 os2 (by omega) hf2 h102 (ps_I_step hps hst) g2 hres
  obtain ⟨f, hf0⟩ := nI_surjF (V 158)
  have l0 := loop n 0 (va_up (va_up (va_up I 7 0) 8 0) 9 0) (va_up V 157 (fun _ => -1)) (fun _ => -1) [] (by omega) ⟨fun k k1 k2 k3 k4 => by rw [va_up_ne _ _ k4, va_up_ne _ _ k3, va_up_ne _ _ k2], fun c c1 c2 => va_up_ne _ _ c1⟩ rfl (ps_I0 b n) ⟨rfl, rfl, rfl, rfl, f, hf0, fun k hk => absurd hk (Nat.not_lt_zero k)⟩ hres.symm
  refine jl_aload_n (i := 0) h rfl rfl dc_FS_take_0 1 rfl ?_
  refine jl_getf h nm_c_FS 2 wl_FS_35 (by omega) (by decide) (by exact rfl) (by rfl) dc_FS_take_1 4 rfl ?_
  refine jl_iload_n (i := 1) h rfl rfl dc_FS_take_4 5 rfl ?_
  refine jl_callV (As := [_]) (rest := []) h hr vs_FS_87 vi_NL_has vx_NL_has (ci := 5) rfl (by omega) (by exact rfl) (fun l => c_NL_has l (nI k)) (by first | decide | omega) (by first | decide | omega) rfl rfl (Nat.le_of_ble_eq_true rfl) dc_FS_take_5 (res := [_]) rfl 8 rfl ?_
  refine jl_if_ne h 13 (by decide) dc_FS_take_8 11 rfl (fun c8 => ?_) (fun c8 => absurd c8 (by rw [decide_eq_true (show ¬ nI k < 0 ∧ nI k < I 1 from ⟨nI_pos (by omega), by rw [li1]; exact nI_lt hk (by omega)⟩)]; decide))
  refine jl_aload_n (i := 0) h rfl rfl dc_FS_take_13 14 rfl ?_
  refine jl_getf (v := .ref (ad 156)) h nm_c_FS 6 wl_FS_46 (by omega) (by decide) (by exact rfl) (by exact fs_r hG1) dc_FS_take_14 17 rfl ?_
  refine jl_callV (As := []) (rest := []) h hr vs_FS_99 vi_SR_restart vx_SR_restart (ci := 6) rfl (by omega) (by exact rfl) (fun l => c_SR2_restart l (by decide) rfl (gw_row (len := 18) ⟨rfl, rfl⟩)) (by first | decide | omega) (by first | decide | omega) rfl rfl (Nat.le_of_ble_eq_true rfl) dc_FS_take_17 (res := []) rfl 20 rfl ?_
  rw [gw_rowset (len := 18) (k := 157) ⟨rfl, rfl⟩, gw_set_sr2]
  refine jl_iconst (v := nI 0) h (by decide) dc_FS_take_20 21 rfl ?_
  refine jl_istore_n (i := 2) (lc2 := [(2, _), (0, _), (1, _)]) h rfl (by decide) rfl dc_FS_take_21 22 rfl ?_
  exact l0
def fs_fr2 (I I2 : Nat → Int32) (V V2 : Nat → Nat → Int32) : Prop := (∀ k, k ≠ 10 → k ≠ 4 → k ≠ 5 → k ≠ 6 → I2 k = I k) ∧ ∀ c, c ≠ 154 → c ≠ 155 → V2 c = V c
theorem c_FS2_read (hG : G 0 = 156) (hG1 : G 1 = 153) (hI0 : I 0 = nI n) (hV2 : V 2 = fun i => nI (b i)) (hn : n ≤ 18) (hb : ∀ i, b i < 4) {tc : Nat} (htc : I 10 = nI tc) (ht20 : tc ≤ 20) : jl_CP l K sa yn_FS_read bc_FS_read 3 (some .int) 4 100 168 ad [.ref (ad 0)] (gw K ad I V L C G R) (fun v E2 => ∃ I2 V2, fs_fr2 I I2 V V2 ∧ I2 10 = 0 ∧ ((∃ p, ps_res b n C tc = .inl p ∧ v = some (.int (iI (-10 - (p : Int)))) ∧ E2 = gw K ad I2 V2 L C G R) ∨ (∃ w, ps_res b n C tc = .inr w ∧ en_V b n w ∧ v = some (.int (nI (mo_pc w n))) ∧ V2 154 = (fun k => iI (w k)) ∧ E2 = gw K ad I2 V2 L C (va_up (va_up G 0 153) 1 156) R))) := by
  refine jl_enterP (by decide) (Nat.le_of_ble_eq_true rfl) (fun x h he hr => ?_)
  show jl_J x 168 ad 0 0 (gw K ad I V L C G R) 0 [(0, .ref (ad 0))] []
  have loop : ∀ (d p : Nat) (I1 : Nat → Int32) (V1 : Nat → Nat → Int32) (w : Nat → Int) (os : List Nat), p + d = tc → fs_fr2 I I1 V V1 → I1 10 = 0 → ps_I b n p w os → ps_rel1 I1 V1 p w os → ps_res b n C tc = ps_go b n C d p (w, os) → jl_J x 168 ad 0 0 (gw K ad I1 V1 L C G R) 19 [(2, .int (nI p)), (1, .int (nI tc)), (0, .ref (ad 0))] [] := by
    intro d
    induction d with
    | zero =>
      intro p I1 V1 w os hp hf h10 hps hrel hres
      have hp : p = tc := by omega
      subst hp
      have hS : st_ok K ad (gw K ad I1 V1 L C G R) n b := st_okF (by rw [hf.1 0 (by decide) (by decide) (by decide) (by decide)]; exact hI0) (by rw [hf.2 2 (by decide) (by decide)]; exact hV2) hn hb
      have hl9 := ps_len hps.2.2.2.2.2 (fun i hi => (hps.2.2.2.2.1 i hi).1)
      have hle := hps.1
      have hw := hps.2.1
      have hrel2 := hrel
      obtain ⟨r1, r2, r3, r4, f, r5, r6⟩ := hrel2
      by_cases hfin : p = n ∧ os.length = 0
      · have hos : os = [] := List.eq_nil_of_length_eq_zero hfin.2
        have hres : ps_res b n C p = .inr w := by rw [hres]; unfold ps_go; rw [if_pos ⟨hfin.1, hos⟩]
        have hpn := hfin.1
        subst hpn
        refine jl_iload_n (i := 2) h rfl rfl dc_FS_read_19 20 rfl ?_
        refine jl_iload_n (i := 1) h rfl rfl dc_FS_read_20 21 rfl ?_
        refine jl_icmp_ge h 51 (by decide) dc_FS_read_21 24 rfl (fun c21 => ?_) (fun c21 => absurd (nI_le (Nat.le_refl _) (by omega)) c21)
        refine jl_aload_n (i := 0) h rfl rfl dc_FS_read_51 52 rfl ?_
        refine jl_getf (v := .ref (ad 153)) h nm_c_FS 6 wl_FS_46 (by omega) (by decide) (by exact rfl) (by exact fs_r hG1) dc_FS_read_52 55 rfl ?_
        refine jl_callV (As := []) (rest := []) h hr vs_FS_109 vi_SR_isWhole vx_SR_isWhole (ci := 6) rfl (by omega) (by exact rfl) (fun l => c_SR1_isWhole l hS r1 r2 (by omega) (by omega)) (by first | decide | omega) (by first | decide | omega) rfl rfl (Nat.le_of_ble_eq_true rfl) dc_FS_read_55 (res := [_]) rfl 58 rfl ?_
        refine jl_if_eq h 68 (by decide) dc_FS_read_58 61 rfl (fun c58 => absurd c58 (by rw [st_b1]; exact decide_eq_true hfin)) (fun c58 => ?_)
        refine jl_aload_n (i := 0) h rfl rfl dc_FS_read_61 62 rfl ?_
        refine jl_callV (As := []) (rest := []) h hr vs_FS_106 vi_FS_adoptDraft vx_FS_adoptDraft (ci := 0) rfl (by omega) (by exact rfl) (fun l => c_FS2_adoptDraft l hG hG1) (by first | decide | omega) (by first | decide | omega) rfl rfl (Nat.le_of_ble_eq_true rfl) dc_FS_read_62 (res := [_]) rfl 65 rfl ?_
        refine jl_goto h 72 (by decide) dc_FS_read_65 ?_
        exact jl_zretP h he rfl (⟨I1, V1, hf, h10, Or.inr ⟨w, hres, hw, by rw [r3], r4, rfl⟩⟩) dc_FS_read_72
      · have hres : ps_res b n C p = .inl p := by rw [hres]; unfold ps_go; rw [if_neg (fun h9 => hfin ⟨h9.1, by rw [show os = [] from h9.2]; rfl⟩)]
        refine jl_iload_n (i := 2) h rfl rfl dc_FS_read_19 20 rfl ?_
        refine jl_iload_n (i := 1) h rfl rfl dc_FS_read_20 21 rfl ?_
        refine jl_icmp_ge h 51 (by decide) dc_FS_read_21 24 rfl (fun c21 => ?_) (fun c21 => absurd (nI_le (Nat.le_refl _) (by omega)) c21)
        refine jl_aload_n (i := 0) h rfl rfl dc_FS_read_51 52 rfl ?_
        refine jl_getf (v := .ref (ad 153)) h nm_c_FS 6 wl_FS_46 (by omega) (by decide) (by exact rfl) (by exact fs_r hG1) dc_FS_read_52 55 rfl ?_
        refine jl_callV (As := []) (rest := []) h hr vs_FS_109 vi_SR_isWhole vx_SR_isWhole (ci := 6) rfl (by omega) (by exact rfl) (fun l => c_SR1_isWhole l hS r1 r2 (by omega) (by omega)) (by first | decide | omega) (by first | decide | omega) rfl rfl (Nat.le_of_ble_eq_true rfl) dc_FS_read_55 (res := [_]) rfl 58 rfl ?_
        refine jl_if_eq h 68 (by decide) dc_FS_read_58 61 rfl (fun c58 => ?_) (fun c58 => absurd (by rw [st_b0]; exact decide_eq_false hfin) c58)
        refine jl_bipush (v := iI (-10)) h (by decide) dc_FS_read_68 70 rfl ?_
        refine jl_iload_n (i := 1) h rfl rfl dc_FS_read_70 71 rfl ?_
        refine jl_isub h dc_FS_read_71 72 rfl ?_
        rw [show iI (-10) - nI p = iI (-10 - (p : Int)) by rw [← iI_nat, iI_sub]]
        exact jl_zretP h he rfl (⟨I1, V1, hf, h10, Or.inl ⟨p, hres, rfl, rfl⟩⟩) dc_FS_read_72
    | succ d ih =>
      intro p I1 V1 w os hp hf h10 hps hrel hres
      have hS : st_ok K ad (gw K ad I1 V1 L C G R) n b := st_okF (by rw [hf.1 0 (by decide) (by decide) (by decide) (by decide)]; exact hI0) (by rw [hf.2 2 (by decide) (by decide)]; exact hV2) hn hb
      cases hst : ps_step b n p (C p) (w, os) with
      | none =>
        rw [ps_go_none hst] at hres
        refine jl_iload_n (i := 2) h rfl rfl dc_FS_read_19 20 rfl ?_
        refine jl_iload_n (i := 1) h rfl rfl dc_FS_read_20 21 rfl ?_
        refine jl_icmp_ge h 51 (by decide) dc_FS_read_21 24 rfl (fun c21 => absurd c21 (nI_ge (by omega) (by omega))) (fun c21 => ?_)
        refine jl_aload_n (i := 0) h rfl rfl dc_FS_read_24 25 rfl ?_
        refine jl_getf (v := .ref (ad 153)) h nm_c_FS 6 wl_FS_46 (by omega) (by decide) (by exact rfl) (by exact fs_r hG1) dc_FS_read_25 28 rfl ?_
        refine jl_aload_n (i := 0) h rfl rfl dc_FS_read_28 29 rfl ?_
        refine jl_getf h nm_c_FS 3 wl_FS_49 (by omega) (by decide) (by exact rfl) (by rfl) dc_FS_read_29 32 rfl ?_
        refine jl_iload_n (i := 2) h rfl rfl dc_FS_read_32 33 rfl ?_
        refine jl_cald (v := C p) h (p) (by exact rfl) (by omega) (by exact rfl) (by exact by omega) (by first | decide | assumption) (by exact rfl) dc_FS_read_33 34 rfl ?_
        refine jl_callV (As := [_]) (rest := []) h hr vs_FS_103 vi_SR_add vx_SR_add (ci := 6) rfl (by omega) (by exact rfl) (fun l => c_SR1_add_no l hS hps hrel (C p) hst) (by first | decide | omega) (by first | decide | omega) rfl rfl (Nat.le_of_ble_eq_true rfl) dc_FS_read_34 (res := [_]) rfl 37 rfl ?_
        refine jl_if_ne h 45 (by decide) dc_FS_read_37 40 rfl (fun c37 => absurd (by decide) c37) (fun c37 => ?_)
        refine jl_bipush (v := iI (-10)) h (by decide) dc_FS_read_40 42 rfl ?_
        refine jl_iload_n (i := 2) h rfl rfl dc_FS_read_42 43 rfl ?_
        refine jl_isub h dc_FS_read_43 44 rfl ?_
        rw [show iI (-10) - nI p = iI (-10 - (p : Int)) by rw [← iI_nat, iI_sub]]
        exact jl_zretP h he rfl (⟨I1, V1, hf, h10, Or.inl ⟨p, hres, rfl, rfl⟩⟩) dc_FS_read_44
      | some s2 =>
        obtain ⟨w2, os2⟩ := s2
        rw [ps_go_some hst] at hres
        obtain ⟨I2, V2, g1, g2, hadd⟩ := c_SR1_add_yes (L := L) (C := C) (G := G) (R := R) (sa := sa) hS hps hrel (C p) hst
        have hf2 : fs_fr2 I I2 V V2 := ⟨fun k k1 k2 k3 k4 => by rw [g1.1 k k2 k3 k4]; exact hf.1 k k1 k2 k3 k4, fun c c1 c2 => by rw [g1.2 c c1 c2]; exact hf.2 c c1 c2⟩
        have h102 : I2 10 = 0 := by rw [g1.1 10 (by decide) (by decide) (by decide)]; exact h10
        refine jl_iload_n (i := 2) h rfl rfl dc_FS_read_19 20 rfl ?_
        refine jl_iload_n (i := 1) h rfl rfl dc_FS_read_20 21 rfl ?_
        refine jl_icmp_ge h 51 (by decide) dc_FS_read_21 24 rfl (fun c21 => absurd c21 (nI_ge (by omega) (by omega))) (fun c21 => ?_)
        refine jl_aload_n (i := 0) h rfl rfl dc_FS_read_24 25 rfl ?_
        refine jl_getf (v := .ref (ad 153)) h nm_c_FS 6 wl_FS_46 (by omega) (by decide) (by exact rfl) (by exact fs_r hG1) dc_FS_read_25 28 rfl ?_
        refine jl_aload_n (i := 0) h rfl rfl dc_FS_read_28 29 rfl ?_
        refine jl_getf h nm_c_FS 3 wl_FS_49 (by omega) (by decide) (by exact rfl) (by rfl) dc_FS_read_29 32 rfl ?_
        refine jl_iload_n (i := 2) h rfl rfl dc_FS_read_32 33 rfl ?_
        refine jl_cald (v := C p) h (p) (by exact rfl) (by omega) (by exact rfl) (by exact by omega) (by first | decide | assumption) (by exact rfl) dc_FS_read_33 34 rfl ?_
        refine jl_callV (As := [_]) (rest := []) h hr vs_FS_103 vi_SR_add vx_SR_add (ci := 6) rfl (by omega) (by exact rfl) (fun l => hadd l) (by first | decide | omega) (by first | decide | omega) rfl rfl (Nat.le_of_ble_eq_true rfl) dc_FS_read_34 (res := [_]) rfl 37 rfl ?_
        refine jl_if_ne h 45 (by decide) dc_FS_read_37 40 rfl (fun c37 => ?_) (fun c37 => absurd c37 (by decide))
        refine jl_iinc (i := 2) (d := 1) (lc2 := [(2, _), (1, _), (0, _)]) (v2 := nI (p + 1)) h (by decide) rfl (nI_1 p) rfl dc_FS_read_45 48 rfl ?_
        refine jl_goto h 19 (by decide) dc_FS_read_48 ?_
        exact ih (p + 1) I2 V2 w2 os2 (by omega) hf2 h102 (ps_I_step hps hst) g2 hres
  obtain ⟨f, hf0⟩ := nI_surjF (V 155)
  have l0 := loop tc 0 (va_up (va_up (va_up (va_up I 10 0) 4 0) 5 0) 6 0) (va_up V 154 (fun _ => -1)) (fun _ => -1) [] (by omega) ⟨fun k k1 k2 k3 k4 => by rw [va_up_ne _ _ k4, va_up_ne _ _ k3, va_up_ne _ _ k2, va_up_ne _ _ k1], fun c c1 c2 => va_up_ne _ _ c1⟩ rfl (ps_I0 b n) ⟨rfl, rfl, rfl, rfl, f, hf0, fun k hk => absurd hk (Nat.not_lt_zero k)⟩ rfl
  refine jl_aload_n (i := 0) h rfl rfl dc_FS_read_0 1 rfl ?_
  refine jl_getf (v := .int (nI tc)) h nm_c_FS 4 wl_FS_53 (by omega) (by decide) (by exact rfl) (by exact sr_v htc) dc_FS_read_1 4 rfl ?_
  refine jl_istore_n (i := 1) (lc2 := [(1, _), (0, _)]) h rfl (by decide) rfl dc_FS_read_4 5 rfl ?_
  refine jl_aload_n (i := 0) h rfl rfl dc_FS_read_5 6 rfl ?_
  refine jl_iconst (v := 0) h (by decide) dc_FS_read_6 7 rfl ?_
  refine jl_putf (fs2 := [_, _, _, _, _, _, _]) h nm_c_FS 4 wl_FS_53 (by omega) (by decide) rfl (by exact rfl) (by rfl) (by rfl) (by exact Nat.le_of_ble_eq_true rfl) (by rfl) dc_FS_read_7 (gw_set_tc _) 10 rfl ?_
  refine jl_aload_n (i := 0) h rfl rfl dc_FS_read_10 11 rfl ?_
  refine jl_getf (v := .ref (ad 153)) h nm_c_FS 6 wl_FS_46 (by omega) (by decide) (by exact rfl) (by exact fs_r hG1) dc_FS_read_11 14 rfl ?_
  refine jl_callV (As := []) (rest := []) h hr vs_FS_99 vi_SR_restart vx_SR_restart (ci := 6) rfl (by omega) (by exact rfl) (fun l => c_SR1_restart l (by decide) rfl (gw_row (len := 18) ⟨rfl, rfl⟩)) (by first | decide | omega) (by first | decide | omega) rfl rfl (Nat.le_of_ble_eq_true rfl) dc_FS_read_14 (res := []) rfl 17 rfl ?_
  rw [gw_rowset (len := 18) (k := 154) ⟨rfl, rfl⟩, gw_set_sr1]
  refine jl_iconst (v := nI 0) h (by decide) dc_FS_read_17 18 rfl ?_
  refine jl_istore_n (i := 2) (lc2 := [(2, _), (1, _), (0, _)]) h rfl (by decide) rfl dc_FS_read_18 19 rfl ?_
  exact l0
theorem c_FS2_take_no (q : Int32) (hq : ¬ (¬ q < 0 ∧ q < I 1)) : jl_C l K sa yn_FS_take bc_FS_take 3 (some .int) 4 100 168 ad [.ref (ad 0), .int q] (gw K ad I V L C G R) (some (.int (-1))) (gw K ad I V L C G R) := by
  refine jl_enter (by decide) (Nat.le_of_ble_eq_true rfl) (fun x h he hr => ?_)
  show jl_J x 168 ad 0 0 (gw K ad I V L C G R) 0 [(0, .ref (ad 0)), (1, .int q)] []
  refine jl_aload_n (i := 0) h rfl rfl dc_FS_take_0 1 rfl ?_
  refine jl_getf h nm_c_FS 2 wl_FS_35 (by omega) (by decide) (by exact rfl) (by rfl) dc_FS_take_1 4 rfl ?_
  refine jl_iload_n (i := 1) h rfl rfl dc_FS_take_4 5 rfl ?_
  refine jl_callV (As := [_]) (rest := []) h hr vs_FS_87 vi_NL_has vx_NL_has (ci := 5) rfl (by omega) (by exact rfl) (fun l => c_NL_has l q) (by first | decide | omega) (by first | decide | omega) rfl rfl (Nat.le_of_ble_eq_true rfl) dc_FS_take_5 (res := [_]) rfl 8 rfl ?_
  refine jl_if_ne h 13 (by decide) dc_FS_take_8 11 rfl (fun c8 => absurd (by rw [st_b0]; exact decide_eq_false hq) c8) (fun c8 => ?_)
  refine jl_iconst (v := -1) h (by decide) dc_FS_take_11 12 rfl ?_
  exact jl_zret h he rfl (rfl) (rfl) dc_FS_take_12
theorem c_FS2_take (hG : G 0 = 156) (hG1 : G 1 = 153) (hI0 : I 0 = nI n) (hV2 : V 2 = fun i => nI (b i)) (hn : n ≤ 18) (hb : ∀ i, b i < 4) {ks : List Int} (hli : nl_li ks I L) {k : Nat} (hk : k < ks.length) {ch : Nat → Int32} (hch : ∀ p, p < n → ch p = nl_ch (ks.getD k 0 / nl_4 p % 4)) {w0 : Nat → Int} (hres : ps_res b n ch n = .inr w0) : jl_CP l K sa yn_FS_take bc_FS_take 3 (some .int) 4 100 168 ad [.ref (ad 0), .int (nI k)] (gw K ad I V L C G R) (fun v E2 => ∃ I2 V2, fs_fr2 I I2 V V2 ∧ I2 10 = I 10 ∧ en_V b n w0 ∧ v = some (.int (nI (mo_pc w0 n))) ∧ V2 154 = (fun k => iI (w0 k)) ∧ E2 = gw K ad I2 V2 L C (va_up (va_up G 0 153) 1 156) R) := by
  refine jl_enterP (by decide) (Nat.le_of_ble_eq_true rfl) (fun x h he hr => ?_)
  show jl_J x 168 ad 0 0 (gw K ad I V L C G R) 0 [(0, .ref (ad 0)), (1, .int (nI k))] []
  obtain ⟨li1, li2, li3, li4, li5⟩ := hli
  have hLk := li2 k hk
  have hbg : nl_big (ks.getD k 0) := by
    rw [List.getD_eq_getElem?_getD, List.getElem?_eq_getElem hk]
    exact li5 _ (List.getElem_mem hk)
  have loop : ∀ (d p : Nat) (I1 : Nat → Int32) (V1 : Nat → Nat → Int32) (w : Nat → Int) (os : List Nat), p + d = n → fs_fr2 I I1 V V1 → I1 10 = I 10 → ps_I b n p w os → ps_rel1 I1 V1 p w os → .inr w0 = ps_go b n ch d p (w, os) → jl_J x 168 ad 0 0 (gw K ad I1 V1 L C G R) 22 [(2, .int (nI p)), (0, .ref (ad 0)), (1, .int (nI k))] [] := by
    intro d
    induction d with
    | zero =>
      intro p I1 V1 w os hp hf h10 hps hrel hres
      have hp : p = n := by omega
      subst hp
      have hS : st_ok K ad (gw K ad I1 V1 L C G R) p b := st_okF (by rw [hf.1 0 (by decide) (by decide) (by decide) (by decide)]; exact hI0) (by rw [hf.2 2 (by decide) (by decide)]; exact hV2) hn hb
      have hw := hps.2.1
      obtain ⟨r1, r2, r3, r4, f, r5, r6⟩ := hrel
      have hw0 : w0 = w := by
        unfold ps_go at hres
        by_cases h9 : p = p ∧ (w, os).2 = []
        · rw [if_pos h9] at hres
          exact Sum.inr.inj hres
        · rw [if_neg h9] at hres
          cases hres
      subst hw0
      refine jl_iload_n (i := 2) h rfl rfl dc_FS_take_22 23 rfl ?_
      refine jl_aload_n (i := 0) h rfl rfl dc_FS_take_23 24 rfl ?_
      refine jl_getf h nm_c_FS 0 wl_FS_10 (by omega) (by decide) (by exact rfl) (by rfl) dc_FS_take_24 27 rfl ?_
      refine jl_callV (As := []) (rest := [_]) h hr vs_FS_102 vi_ST_size vx_ST_size (ci := 1) rfl (by omega) (by exact hS.1) (fun l => c_ST_size l (by omega) hS) (by first | decide | omega) (by first | decide | omega) rfl rfl (Nat.le_of_ble_eq_true rfl) dc_FS_take_27 (res := [_, _]) rfl 30 rfl ?_
      refine jl_icmp_ge h 56 (by decide) dc_FS_take_30 33 rfl (fun c30 => ?_) (fun c30 => absurd (nI_le (Nat.le_refl _) (by omega)) c30)
      refine jl_aload_n (i := 0) h rfl rfl dc_FS_take_56 57 rfl ?_
      refine jl_callV (As := []) (rest := []) h hr vs_FS_106 vi_FS_adoptDraft vx_FS_adoptDraft (ci := 0) rfl (by omega) (by exact rfl) (fun l => c_FS2_adoptDraft l hG hG1) (by first | decide | omega) (by first | decide | omega) rfl rfl (Nat.le_of_ble_eq_true rfl) dc_FS_take_57 (res := [_]) rfl 60 rfl ?_
      exact jl_zretP h he rfl (⟨I1, V1, hf, h10, hw, by rw [r3], r4, rfl⟩) dc_FS_take_60
    | succ d ih =>
      intro p I1 V1 w os hp hf h10 hps hrel hres
      have hS : st_ok K ad (gw K ad I1 V1 L C G R) n b := st_okF (by rw [hf.1 0 (by decide) (by decide) (by decide) (by decide)]; exact hI0) (by rw [hf.2 2 (by decide) (by decide)]; exact hV2) hn hb
      cases hst : ps_step b n p (ch p) (w, os) with
      | none =>
        rw [ps_go_none hst] at hres
        cases hres
      | some s2 =>
        obtain ⟨w2, os2⟩ := s2
        rw [ps_go_some hst] at hres
        obtain ⟨I2, V2, g1, g2, hadd⟩ := c_SR1_add_yes (L := L) (C := C) (G := G) (R := R) (sa := sa) hS hps hrel (ch p) hst
        rw [hch p (by omega)] at hadd
        have hf2 : fs_fr2 I I2 V V2 := ⟨fun k k1 k2 k3 k4 => by rw [g1.1 k k2 k3 k4]; exact hf.1 k k1 k2 k3 k4, fun c c1 c2 => by rw [g1.2 c c1 c2]; exact hf.2 c c1 c2⟩
        have h102 : I2 10 = I 10 := by rw [g1.1 10 (by decide) (by decide) (by decide)]; exact h10
        refine jl_iload_n (i := 2) h rfl rfl dc_FS_take_22 23 rfl ?_
        refine jl_aload_n (i := 0) h rfl rfl dc_FS_take_23 24 rfl ?_
        refine jl_getf h nm_c_FS 0 wl_FS_10 (by omega) (by decide) (by exact rfl) (by rfl) dc_FS_take_24 27 rfl ?_
        refine jl_callV (As := []) (rest := [_]) h hr vs_FS_102 vi_ST_size vx_ST_size (ci := 1) rfl (by omega) (by exact hS.1) (fun l => c_ST_size l (by omega) hS) (by first | decide | omega) (by first | decide | omega) rfl rfl (Nat.le_of_ble_eq_true rfl) dc_FS_take_27 (res := [_, _]) rfl 30 rfl ?_
        refine jl_icmp_ge h 56 (by decide) dc_FS_take_30 33 rfl (fun c30 => absurd c30 (nI_ge (by omega) (by omega))) (fun c30 => ?_)
        refine jl_aload_n (i := 0) h rfl rfl dc_FS_take_33 34 rfl ?_
        refine jl_getf (v := .ref (ad 153)) h nm_c_FS 6 wl_FS_46 (by omega) (by decide) (by exact rfl) (by exact fs_r hG1) dc_FS_take_34 37 rfl ?_
        refine jl_aload_n (i := 0) h rfl rfl dc_FS_take_37 38 rfl ?_
        refine jl_getf h nm_c_FS 2 wl_FS_35 (by omega) (by decide) (by exact rfl) (by rfl) dc_FS_take_38 41 rfl ?_
        refine jl_iload_n (i := 1) h rfl rfl dc_FS_take_41 42 rfl ?_
        refine jl_iload_n (i := 2) h rfl rfl dc_FS_take_42 43 rfl ?_
        refine jl_callV (As := [_, _]) (rest := [_]) h hr vs_FS_95 vi_NL_character vx_NL_character (ci := 5) rfl (by omega) (by exact rfl) (fun l => c_NL_character l (show k < 150 by omega) (show p < 18 by omega) hbg hLk) (by first | decide | omega) (by first | decide | omega) rfl rfl (Nat.le_of_ble_eq_true rfl) dc_FS_take_43 (res := [_, _]) rfl 46 rfl ?_
        refine jl_callV (As := [_]) (rest := []) h hr vs_FS_103 vi_SR_add vx_SR_add (ci := 6) rfl (by omega) (by exact rfl) (fun l => hadd l) (by first | decide | omega) (by first | decide | omega) rfl rfl (Nat.le_of_ble_eq_true rfl) dc_FS_take_46 (res := [_]) rfl 49 rfl ?_
        refine jl_pop h rfl dc_FS_take_49 50 rfl ?_
        refine jl_iinc (i := 2) (d := 1) (lc2 := [(2, _), (0, _), (1, _)]) (v2 := nI (p + 1)) h (by decide) rfl (nI_1 p) rfl dc_FS_take_50 53 rfl ?_
        refine jl_goto h 22 (by decide) dc_FS_take_53 ?_
        exact ih (p + 1) I2 V2 w2 os2 (by omega) hf2 h102 (ps_I_step hps hst) g2 hres
  obtain ⟨f, hf0⟩ := nI_surjF (V 155)
  have l0 := loop n 0 (va_up (va_up (va_up I 4 0) 5 0) 6 0) (va_up V 154 (fun _ => -1)) (fun _ => -1) [] (by omega) ⟨fun k k1 k2 k3 k4 => by rw [va_up_ne _ _ k4, va_up_ne _ _ k3, va_up_ne _ _ k2], fun c c1 c2 => va_up_ne _ _ c1⟩ rfl (ps_I0 b n) ⟨rfl, rfl, rfl, rfl, f, hf0, fun k hk => absurd hk (Nat.not_lt_zero k)⟩ hres.symm
  refine jl_aload_n (i := 0) h rfl rfl dc_FS_take_0 1 rfl ?_
  refine jl_getf h nm_c_FS 2 wl_FS_35 (by omega) (by decide) (by exact rfl) (by rfl) dc_FS_take_1 4 rfl ?_
  refine jl_iload_n (i := 1) h rfl rfl dc_FS_take_4 5 rfl ?_
  refine jl_callV (As := [_]) (rest := []) h hr vs_FS_87 vi_NL_has vx_NL_has (ci := 5) rfl (by omega) (by exact rfl) (fun l => c_NL_has l (nI k)) (by first | decide | omega) (by first | decide | omega) rfl rfl (Nat.le_of_ble_eq_true rfl) dc_FS_take_5 (res := [_]) rfl 8 rfl ?_
  refine jl_if_ne h 13 (by decide) dc_FS_take_8 11 rfl (fun c8 => ?_) (fun c8 => absurd c8 (by rw [decide_eq_true (show ¬ nI k < 0 ∧ nI k < I 1 from ⟨nI_pos (by omega), by rw [li1]; exact nI_lt hk (by omega)⟩)]; decide))
  refine jl_aload_n (i := 0) h rfl rfl dc_FS_take_13 14 rfl ?_
  refine jl_getf (v := .ref (ad 153)) h nm_c_FS 6 wl_FS_46 (by omega) (by decide) (by exact rfl) (by exact fs_r hG1) dc_FS_take_14 17 rfl ?_
  refine jl_callV (As := []) (rest := []) h hr vs_FS_99 vi_SR_restart vx_SR_restart (ci := 6) rfl (by omega) (by exact rfl) (fun l => c_SR1_restart l (by decide) rfl (gw_row (len := 18) ⟨rfl, rfl⟩)) (by first | decide | omega) (by first | decide | omega) rfl rfl (Nat.le_of_ble_eq_true rfl) dc_FS_take_17 (res := []) rfl 20 rfl ?_
  rw [gw_rowset (len := 18) (k := 154) ⟨rfl, rfl⟩, gw_set_sr1]
  refine jl_iconst (v := nI 0) h (by decide) dc_FS_take_20 21 rfl ?_
  refine jl_istore_n (i := 2) (lc2 := [(2, _), (0, _), (1, _)]) h rfl (by decide) rfl dc_FS_take_21 22 rfl ?_
  exact l0
end FS

