/-! The reference: bound, begin, advance, nextStructure. -/
def mo_bw (n : Nat) (w : Nat → Int) : Prop := ∀ p : Nat, -1 ≤ w p ∧ w p < n
theorem mo_bw_V {b : Nat → Nat} {n : Nat} {w : Nat → Int} (h : en_V b n w) : mo_bw n w := fun p => by rcases h.1 p with h1 | h1 <;> omega
theorem mo_bw_up {n : Nat} {w : Nat → Int} (h : mo_bw n w) (k : Nat) {v : Int} (h1 : -1 ≤ v) (h2 : v < n) : mo_bw n (en_up w k v) := fun p => by
  unfold en_up
  split
  · exact ⟨h1, h2⟩
  · exact h p
theorem mo_fe_end {b : Nat → Nat} {i j e : Nat} (h : e ≤ j) : en_fe b i j e = [] := by
  unfold en_fe
  rw [show e - j = 0 by omega]
  rfl
theorem mo_fe_no {b : Nat → Nat} {i j e : Nat} (h : j < e) (hc : en_cp b i j = false) : en_fe b i j e = en_fe b i (j + 1) e := by
  unfold en_fe
  rw [show e - j = (e - (j + 1)) + 1 by omega, List.range'_succ, List.filter_cons, hc]
  rfl
theorem mo_fe_yes {b : Nat → Nat} {i j e : Nat} (h : j < e) (hc : en_cp b i j = true) : en_fe b i j e = j :: en_fe b i (j + 1) e := by
  unfold en_fe
  rw [show e - j = (e - (j + 1)) + 1 by omega, List.range'_succ, List.filter_cons, hc]
  rfl
theorem mo_up_up {V : Nat → Nat → Int32} {c : Nat} {f g : Nat → Int32} : va_up (va_up V c f) c g = va_up V c g := by
  funext k
  unfold va_up
  split <;> rfl
theorem mo_set {K : Nat → ClassId} {ad : Nat → Nat} {I : Nat → Int32} {V : Nat → Nat → Int32} {L : Nat → Int64} {C : Nat → Int32} {G : Nat → Nat} {R : Nat → Nat} {c len : Nat} (hc : gw_i c = true ∧ gw_len c = len) {f f2 g : Nat → Int32} (e : f2 = g) : va_up (gw K ad I (va_up V c f) L C G R) c (.inl (K 0, len, .inl f2)) = gw K ad I (va_up V c g) L C G R := by
  subst e
  rw [gw_rowset hc, mo_up_up]
theorem mo_upd (w : Nat → Int) (k : Nat) (v : Int) : upd (fun i => iI (w i)) k (iI v) = fun i => iI (en_up w k v i) := by
  funext i
  unfold upd en_up
  split <;> rfl
theorem mo_okV {I : Nat → Int32} {V : Nat → Nat → Int32} {n : Nat} {b : Nat → Nat} {c : Nat} {f : Nat → Int32} (h : mo_ok I V n b) (h1 : 162 < c) : mo_ok I (va_up V c f) n b := ⟨h.1, fun i hi => by rw [va_up_ne _ _ (by omega)]; exact h.2.1 i hi, h.2.2.1, h.2.2.2.1, fun k hk => by rw [va_up_ne _ _ (by omega)]; exact h.2.2.2.2 k hk⟩
theorem mo_bw_adv {b : Nat → Nat} {n i : Nat} {w : Nat → Int} (hi : i < n) (h : mo_bw n w) : mo_bw n (en_adv b n i w).2 := by
  unfold en_adv
  split
  · exact h
  · have h2 : mo_bw n (en_up (if 0 ≤ w i then en_up w (w i).toNat (-1) else w) i (-1)) := by
      refine mo_bw_up ?_ _ (by omega) (by omega)
      split
      · exact mo_bw_up h _ (by omega) (by omega)
      · exact h
    dsimp only
    split
    · exact h2
    · rename_i j js hj
      have hm : j ∈ en_fe b i (if w i < 0 then i + 4 else (w i).toNat + 1) (en_bd n (en_up (if 0 ≤ w i then en_up w (w i).toNat (-1) else w) i (-1)) i i).toNat := by rw [hj]; exact List.mem_cons_self
      have h3 := (en_mem_fe.mp hm).1.2
      have h4 := en_bd_le n (en_up (if 0 ≤ w i then en_up w (w i).toNat (-1) else w) i (-1)) i i
      show mo_bw n (en_up (en_up _ i j) j i)
      exact mo_bw_up (mo_bw_up h2 _ (by omega) (by omega)) _ (by omega) (by omega)
def mo_ad (b : Nat → Nat) (i : Nat) (w2 : Nat → Int) : List Nat → Bool × (Nat → Int)
  | [] => (false, w2)
  | j :: _ => (true, en_pr w2 i j)
theorem mo_adv {b : Nat → Nat} {n i : Nat} {w : Nat → Int} (h : ¬ (0 ≤ w i ∧ w i < i)) : en_adv b n i w = mo_ad b i (en_up (if 0 ≤ w i then en_up w (w i).toNat (-1) else w) i (-1)) (en_fe b i (if w i < 0 then i + 4 else (w i).toNat + 1) (en_bd n (en_up (if 0 ≤ w i then en_up w (w i).toNat (-1) else w) i (-1)) i i).toNat) := by
  unfold en_adv
  rw [if_neg h]
  dsimp only
  generalize en_fe b i (if w i < 0 then i + 4 else (w i).toNat + 1) (en_bd n (en_up (if 0 ≤ w i then en_up w (w i).toNat (-1) else w) i (-1)) i i).toNat = q
  cases q <;> rfl
abbrev bc_MO_advance : ByteArray := prog_9_method_16_code
abbrev yn_MO_advance : MethodName := ⟨"FoldedStrandModel", "advance", "(I)Z"⟩
theorem vs_MO_67 : jl_v "FoldedStrandModel" 67 yn_MO_bound bc_MO_bound 4 (some .int) 1 := ⟨jl_T_of 621 (by decide +kernel) (by decide +kernel), jl_T_of 9 (by decide +kernel) (by decide +kernel), jl_T_of 618 (by decide +kernel) (by decide +kernel), by decide +kernel, by decide +kernel, by decide +kernel⟩
theorem vi_MO_bound : Cond.instanceMethod yn_MO_bound ∈ jl_T := jl_T_of 620 (by decide +kernel) (by decide +kernel)
theorem vx_MO_bound : Cond.selects "FoldedStrandModel" yn_MO_bound yn_MO_bound ∈ jl_T := jl_T_sel 25 (by decide +kernel) (by decide +kernel)
theorem vs_MO_71 : jl_v "FoldedStrandModel" 71 yn_MO_canPair bc_MO_canPair 3 (some .boolean) 2 := ⟨jl_T_of 625 (by decide +kernel) (by decide +kernel), jl_T_of 9 (by decide +kernel) (by decide +kernel), jl_T_of 622 (by decide +kernel) (by decide +kernel), by decide +kernel, by decide +kernel, by decide +kernel⟩
theorem vi_MO_canPair : Cond.instanceMethod yn_MO_canPair ∈ jl_T := jl_T_of 624 (by decide +kernel) (by decide +kernel)
theorem vx_MO_canPair : Cond.selects "FoldedStrandModel" yn_MO_canPair yn_MO_canPair ∈ jl_T := jl_T_sel 26 (by decide +kernel) (by decide +kernel)
theorem dc_MO_advance_0 : decode bc_MO_advance 0 = .ok (.aload_n 0, 1) := by decide +kernel
theorem dc_MO_advance_1 : decode bc_MO_advance 1 = .ok (.getfield 19, 3) := by decide +kernel
theorem dc_MO_advance_4 : decode bc_MO_advance 4 = .ok (.iload_n 1, 1) := by decide +kernel
theorem dc_MO_advance_5 : decode bc_MO_advance 5 = .ok (.iaload, 1) := by decide +kernel
theorem dc_MO_advance_6 : decode bc_MO_advance 6 = .ok (.ifCond .lt 15, 3) := by decide +kernel
theorem dc_MO_advance_9 : decode bc_MO_advance 9 = .ok (.aload_n 0, 1) := by decide +kernel
theorem dc_MO_advance_10 : decode bc_MO_advance 10 = .ok (.getfield 19, 3) := by decide +kernel
theorem dc_MO_advance_13 : decode bc_MO_advance 13 = .ok (.iload_n 1, 1) := by decide +kernel
theorem dc_MO_advance_14 : decode bc_MO_advance 14 = .ok (.iaload, 1) := by decide +kernel
theorem dc_MO_advance_15 : decode bc_MO_advance 15 = .ok (.iload_n 1, 1) := by decide +kernel
theorem dc_MO_advance_16 : decode bc_MO_advance 16 = .ok (.if_icmp .ge 5, 3) := by decide +kernel
theorem dc_MO_advance_19 : decode bc_MO_advance 19 = .ok (.iconst 0, 1) := by decide +kernel
theorem dc_MO_advance_20 : decode bc_MO_advance 20 = .ok (.ireturn, 1) := by decide +kernel
theorem dc_MO_advance_21 : decode bc_MO_advance 21 = .ok (.aload_n 0, 1) := by decide +kernel
theorem dc_MO_advance_22 : decode bc_MO_advance 22 = .ok (.getfield 19, 3) := by decide +kernel
theorem dc_MO_advance_25 : decode bc_MO_advance 25 = .ok (.iload_n 1, 1) := by decide +kernel
theorem dc_MO_advance_26 : decode bc_MO_advance 26 = .ok (.iaload, 1) := by decide +kernel
theorem dc_MO_advance_27 : decode bc_MO_advance 27 = .ok (.ifCond .ge 9, 3) := by decide +kernel
theorem dc_MO_advance_30 : decode bc_MO_advance 30 = .ok (.iload_n 1, 1) := by decide +kernel
theorem dc_MO_advance_31 : decode bc_MO_advance 31 = .ok (.iconst 4, 1) := by decide +kernel
theorem dc_MO_advance_32 : decode bc_MO_advance 32 = .ok (.iadd, 1) := by decide +kernel
theorem dc_MO_advance_33 : decode bc_MO_advance 33 = .ok (.goto 11, 3) := by decide +kernel
theorem dc_MO_advance_36 : decode bc_MO_advance 36 = .ok (.aload_n 0, 1) := by decide +kernel
theorem dc_MO_advance_37 : decode bc_MO_advance 37 = .ok (.getfield 19, 3) := by decide +kernel
theorem dc_MO_advance_40 : decode bc_MO_advance 40 = .ok (.iload_n 1, 1) := by decide +kernel
theorem dc_MO_advance_41 : decode bc_MO_advance 41 = .ok (.iaload, 1) := by decide +kernel
theorem dc_MO_advance_42 : decode bc_MO_advance 42 = .ok (.iconst 1, 1) := by decide +kernel
theorem dc_MO_advance_43 : decode bc_MO_advance 43 = .ok (.iadd, 1) := by decide +kernel
theorem dc_MO_advance_44 : decode bc_MO_advance 44 = .ok (.istore_n 2, 1) := by decide +kernel
theorem dc_MO_advance_45 : decode bc_MO_advance 45 = .ok (.aload_n 0, 1) := by decide +kernel
theorem dc_MO_advance_46 : decode bc_MO_advance 46 = .ok (.getfield 19, 3) := by decide +kernel
theorem dc_MO_advance_49 : decode bc_MO_advance 49 = .ok (.iload_n 1, 1) := by decide +kernel
theorem dc_MO_advance_50 : decode bc_MO_advance 50 = .ok (.iaload, 1) := by decide +kernel
theorem dc_MO_advance_51 : decode bc_MO_advance 51 = .ok (.ifCond .lt 15, 3) := by decide +kernel
theorem dc_MO_advance_54 : decode bc_MO_advance 54 = .ok (.aload_n 0, 1) := by decide +kernel
theorem dc_MO_advance_55 : decode bc_MO_advance 55 = .ok (.getfield 19, 3) := by decide +kernel
theorem dc_MO_advance_58 : decode bc_MO_advance 58 = .ok (.aload_n 0, 1) := by decide +kernel
theorem dc_MO_advance_59 : decode bc_MO_advance 59 = .ok (.getfield 19, 3) := by decide +kernel
theorem dc_MO_advance_62 : decode bc_MO_advance 62 = .ok (.iload_n 1, 1) := by decide +kernel
theorem dc_MO_advance_63 : decode bc_MO_advance 63 = .ok (.iaload, 1) := by decide +kernel
theorem dc_MO_advance_64 : decode bc_MO_advance 64 = .ok (.iconst (-1), 1) := by decide +kernel
theorem dc_MO_advance_65 : decode bc_MO_advance 65 = .ok (.iastore, 1) := by decide +kernel
theorem dc_MO_advance_66 : decode bc_MO_advance 66 = .ok (.aload_n 0, 1) := by decide +kernel
theorem dc_MO_advance_67 : decode bc_MO_advance 67 = .ok (.getfield 19, 3) := by decide +kernel
theorem dc_MO_advance_70 : decode bc_MO_advance 70 = .ok (.iload_n 1, 1) := by decide +kernel
theorem dc_MO_advance_71 : decode bc_MO_advance 71 = .ok (.iconst (-1), 1) := by decide +kernel
theorem dc_MO_advance_72 : decode bc_MO_advance 72 = .ok (.iastore, 1) := by decide +kernel
theorem dc_MO_advance_73 : decode bc_MO_advance 73 = .ok (.aload_n 0, 1) := by decide +kernel
theorem dc_MO_advance_74 : decode bc_MO_advance 74 = .ok (.iload_n 1, 1) := by decide +kernel
theorem dc_MO_advance_75 : decode bc_MO_advance 75 = .ok (.invokevirtual 67, 3) := by decide +kernel
theorem dc_MO_advance_78 : decode bc_MO_advance 78 = .ok (.istore_n 3, 1) := by decide +kernel
theorem dc_MO_advance_79 : decode bc_MO_advance 79 = .ok (.iload_n 2, 1) := by decide +kernel
theorem dc_MO_advance_80 : decode bc_MO_advance 80 = .ok (.iload_n 3, 1) := by decide +kernel
theorem dc_MO_advance_81 : decode bc_MO_advance 81 = .ok (.if_icmp .ge 18, 3) := by decide +kernel
theorem dc_MO_advance_84 : decode bc_MO_advance 84 = .ok (.aload_n 0, 1) := by decide +kernel
theorem dc_MO_advance_85 : decode bc_MO_advance 85 = .ok (.iload_n 1, 1) := by decide +kernel
theorem dc_MO_advance_86 : decode bc_MO_advance 86 = .ok (.iload_n 2, 1) := by decide +kernel
theorem dc_MO_advance_87 : decode bc_MO_advance 87 = .ok (.invokevirtual 71, 3) := by decide +kernel
theorem dc_MO_advance_90 : decode bc_MO_advance 90 = .ok (.ifCond .ne 9, 3) := by decide +kernel
theorem dc_MO_advance_93 : decode bc_MO_advance 93 = .ok (.iinc 2 1, 3) := by decide +kernel
theorem dc_MO_advance_96 : decode bc_MO_advance 96 = .ok (.goto (-17), 3) := by decide +kernel
theorem dc_MO_advance_99 : decode bc_MO_advance 99 = .ok (.iload_n 2, 1) := by decide +kernel
theorem dc_MO_advance_100 : decode bc_MO_advance 100 = .ok (.iload_n 3, 1) := by decide +kernel
theorem dc_MO_advance_101 : decode bc_MO_advance 101 = .ok (.if_icmp .lt 5, 3) := by decide +kernel
theorem dc_MO_advance_104 : decode bc_MO_advance 104 = .ok (.iconst 0, 1) := by decide +kernel
theorem dc_MO_advance_105 : decode bc_MO_advance 105 = .ok (.ireturn, 1) := by decide +kernel
theorem dc_MO_advance_106 : decode bc_MO_advance 106 = .ok (.aload_n 0, 1) := by decide +kernel
theorem dc_MO_advance_107 : decode bc_MO_advance 107 = .ok (.getfield 19, 3) := by decide +kernel
theorem dc_MO_advance_110 : decode bc_MO_advance 110 = .ok (.iload_n 1, 1) := by decide +kernel
theorem dc_MO_advance_111 : decode bc_MO_advance 111 = .ok (.iload_n 2, 1) := by decide +kernel
theorem dc_MO_advance_112 : decode bc_MO_advance 112 = .ok (.iastore, 1) := by decide +kernel
theorem dc_MO_advance_113 : decode bc_MO_advance 113 = .ok (.aload_n 0, 1) := by decide +kernel
theorem dc_MO_advance_114 : decode bc_MO_advance 114 = .ok (.getfield 19, 3) := by decide +kernel
theorem dc_MO_advance_117 : decode bc_MO_advance 117 = .ok (.iload_n 2, 1) := by decide +kernel
theorem dc_MO_advance_118 : decode bc_MO_advance 118 = .ok (.iload_n 1, 1) := by decide +kernel
theorem dc_MO_advance_119 : decode bc_MO_advance 119 = .ok (.iastore, 1) := by decide +kernel
theorem dc_MO_advance_120 : decode bc_MO_advance 120 = .ok (.iconst 1, 1) := by decide +kernel
theorem dc_MO_advance_121 : decode bc_MO_advance 121 = .ok (.ireturn, 1) := by decide +kernel
abbrev bc_MO_nextStructure : ByteArray := prog_9_method_17_code
abbrev yn_MO_nextStructure : MethodName := ⟨"FoldedStrandModel", "nextStructure", "()Z"⟩
theorem vs_MO_74 : jl_v "FoldedStrandModel" 74 yn_MO_advance bc_MO_advance 4 (some .boolean) 1 := ⟨jl_T_of 617 (by decide +kernel) (by decide +kernel), jl_T_of 9 (by decide +kernel) (by decide +kernel), jl_T_of 614 (by decide +kernel) (by decide +kernel), by decide +kernel, by decide +kernel, by decide +kernel⟩
theorem vi_MO_advance : Cond.instanceMethod yn_MO_advance ∈ jl_T := jl_T_of 616 (by decide +kernel) (by decide +kernel)
theorem vx_MO_advance : Cond.selects "FoldedStrandModel" yn_MO_advance yn_MO_advance ∈ jl_T := jl_T_sel 24 (by decide +kernel) (by decide +kernel)
theorem dc_MO_nextStructure_0 : decode bc_MO_nextStructure 0 = .ok (.aload_n 0, 1) := by decide +kernel
theorem dc_MO_nextStructure_1 : decode bc_MO_nextStructure 1 = .ok (.getfield 42, 3) := by decide +kernel
theorem dc_MO_nextStructure_4 : decode bc_MO_nextStructure 4 = .ok (.iconst 1, 1) := by decide +kernel
theorem dc_MO_nextStructure_5 : decode bc_MO_nextStructure 5 = .ok (.isub, 1) := by decide +kernel
theorem dc_MO_nextStructure_6 : decode bc_MO_nextStructure 6 = .ok (.istore_n 1, 1) := by decide +kernel
theorem dc_MO_nextStructure_7 : decode bc_MO_nextStructure 7 = .ok (.iload_n 1, 1) := by decide +kernel
theorem dc_MO_nextStructure_8 : decode bc_MO_nextStructure 8 = .ok (.ifCond .lt 19, 3) := by decide +kernel
theorem dc_MO_nextStructure_11 : decode bc_MO_nextStructure 11 = .ok (.aload_n 0, 1) := by decide +kernel
theorem dc_MO_nextStructure_12 : decode bc_MO_nextStructure 12 = .ok (.iload_n 1, 1) := by decide +kernel
theorem dc_MO_nextStructure_13 : decode bc_MO_nextStructure 13 = .ok (.invokevirtual 74, 3) := by decide +kernel
theorem dc_MO_nextStructure_16 : decode bc_MO_nextStructure 16 = .ok (.ifCond .eq 5, 3) := by decide +kernel
theorem dc_MO_nextStructure_19 : decode bc_MO_nextStructure 19 = .ok (.iconst 1, 1) := by decide +kernel
theorem dc_MO_nextStructure_20 : decode bc_MO_nextStructure 20 = .ok (.ireturn, 1) := by decide +kernel
theorem dc_MO_nextStructure_21 : decode bc_MO_nextStructure 21 = .ok (.iinc 1 (-1), 3) := by decide +kernel
theorem dc_MO_nextStructure_24 : decode bc_MO_nextStructure 24 = .ok (.goto (-17), 3) := by decide +kernel
theorem dc_MO_nextStructure_27 : decode bc_MO_nextStructure 27 = .ok (.iconst 0, 1) := by decide +kernel
theorem dc_MO_nextStructure_28 : decode bc_MO_nextStructure 28 = .ok (.ireturn, 1) := by decide +kernel
section MO
variable (l : Launch) {K : Nat → ClassId} {sa : Nat → Nat} {ad : Nat → Nat} {I : Nat → Int32} {V : Nat → Nat → Int32} {L : Nat → Int64} {C : Nat → Int32} {G : Nat → Nat} {R : Nat → Nat} {n : Nat} {b : Nat → Nat} {w : Nat → Int}
theorem c_MO_bound (hO : mo_ok I V n b) (hM : V 164 = fun k => iI (w k)) (hw : mo_bw n w) {i : Nat} (hi : i < n) : jl_C l K sa yn_MO_bound bc_MO_bound 4 (some .int) 0 0 168 ad [.ref (ad 160), .int (nI i)] (gw K ad I V L C G R) (some (.int (iI (en_bd n w i i)))) (gw K ad I V L C G R) := by
  refine jl_enter (by decide) (Nat.le_of_ble_eq_true rfl) (fun x h he hr => ?_)
  have hn := hO.2.2.1
  show jl_J x 168 ad 0 0 (gw K ad I V L C G R) 0 [(0, .ref (ad 160)), (1, .int (nI i))] []
  have hmat : gw K ad I V L C G R 164 = .inl (K 0, 18, .inl (fun k => iI (w k))) := gw_at rfl rfl hM
  have loop : ∀ (dd p : Nat), p + dd = i → jl_J x 168 ad 0 0 (gw K ad I V L C G R) 7 [(3, .int (nI p)), (2, .int (iI (en_bd n w i p))), (0, .ref (ad 160)), (1, .int (nI i))] [] := by
    intro dd
    induction dd with
    | zero =>
      intro p hp
      have hp : p = i := by omega
      subst hp
      refine jl_iload_n (i := 3) h rfl rfl dc_MO_bound_7 8 rfl ?_
      refine jl_iload_n (i := 1) h rfl rfl dc_MO_bound_8 9 rfl ?_
      refine jl_icmp_ge h 49 (by decide) dc_MO_bound_9 12 rfl (fun c9 => ?_) (fun c9 => absurd (nI_le (Nat.le_refl _) (by omega)) c9)
      refine jl_iload_n (i := 2) h rfl rfl dc_MO_bound_49 50 rfl ?_
      exact jl_zret h he rfl (rfl) (rfl) dc_MO_bound_50
    | succ dd ih =>
      intro p hp
      have hp18 : p < 18 := by omega
      have hin := hw p
      have b1 := en_bd_le n w i p
      have b2 := en_bd_pos n w i p
      have hl := ih (p + 1) (by omega)
      unfold en_bd at hl
      have hn : iI (w p) ≤ nI i ↔ w p ≤ i := sr_iI_le hin.1 (by omega) (by omega)
      have hm : iI (w p) < iI (en_bd n w i p) ↔ w p < en_bd n w i p := iI_lt (by omega) (by omega) (by omega) (by omega)
      refine jl_iload_n (i := 3) h rfl rfl dc_MO_bound_7 8 rfl ?_
      refine jl_iload_n (i := 1) h rfl rfl dc_MO_bound_8 9 rfl ?_
      refine jl_icmp_ge h 49 (by decide) dc_MO_bound_9 12 rfl (fun c9 => absurd c9 (nI_ge (by omega) (by omega))) (fun c9 => ?_)
      refine jl_aload_n (i := 0) h rfl rfl dc_MO_bound_12 13 rfl ?_
      refine jl_getf h nm_c_MO 5 wl_MO_19 (by omega) (by decide) (by exact rfl) (by rfl) dc_MO_bound_13 16 rfl ?_
      refine jl_iload_n (i := 3) h rfl rfl dc_MO_bound_16 17 rfl ?_
      refine jl_iald (v := iI (w p)) h (p) (by exact rfl) (by omega) (by exact hmat) (by exact hp18) (by first | decide | assumption) (by exact rfl) dc_MO_bound_17 18 rfl ?_
      refine jl_iload_n (i := 1) h rfl rfl dc_MO_bound_18 19 rfl ?_
      refine jl_icmp_le h 41 (by decide) dc_MO_bound_19 22 rfl (fun c19 => ?_) (fun c19 => ?_)
      · skip
        rw [hn] at c19
        refine jl_iload_n (i := 2) h rfl rfl dc_MO_bound_41 42 rfl ?_
        refine jl_istore_n (i := 2) (lc2 := [(2, _), (3, _), (0, _), (1, _)]) h rfl (by decide) rfl dc_MO_bound_42 43 rfl ?_
        refine jl_iinc (i := 3) (d := 1) (lc2 := [(3, _), (2, _), (0, _), (1, _)]) (v2 := nI (p + 1)) h (by decide) rfl (nI_1 p) rfl dc_MO_bound_43 46 rfl ?_
        refine jl_goto h 7 (by decide) dc_MO_bound_46 ?_
        first | (rw [if_pos (by omega)] at hl; exact hl) | (rw [if_neg (by omega)] at hl; exact hl)
      · skip
        rw [hn] at c19
        refine jl_aload_n (i := 0) h rfl rfl dc_MO_bound_22 23 rfl ?_
        refine jl_getf h nm_c_MO 5 wl_MO_19 (by omega) (by decide) (by exact rfl) (by rfl) dc_MO_bound_23 26 rfl ?_
        refine jl_iload_n (i := 3) h rfl rfl dc_MO_bound_26 27 rfl ?_
        refine jl_iald (v := iI (w p)) h (p) (by exact rfl) (by omega) (by exact hmat) (by exact hp18) (by first | decide | assumption) (by exact rfl) dc_MO_bound_27 28 rfl ?_
        refine jl_iload_n (i := 2) h rfl rfl dc_MO_bound_28 29 rfl ?_
        refine jl_icmp_ge h 41 (by decide) dc_MO_bound_29 32 rfl (fun c29 => ?_) (fun c29 => ?_)
        · skip
          simp only [Int32.not_lt, ← Int32.not_lt] at c29
          rw [hm] at c29
          refine jl_iload_n (i := 2) h rfl rfl dc_MO_bound_41 42 rfl ?_
          refine jl_istore_n (i := 2) (lc2 := [(2, _), (3, _), (0, _), (1, _)]) h rfl (by decide) rfl dc_MO_bound_42 43 rfl ?_
          refine jl_iinc (i := 3) (d := 1) (lc2 := [(3, _), (2, _), (0, _), (1, _)]) (v2 := nI (p + 1)) h (by decide) rfl (nI_1 p) rfl dc_MO_bound_43 46 rfl ?_
          refine jl_goto h 7 (by decide) dc_MO_bound_46 ?_
          first | (rw [if_pos (by omega)] at hl; exact hl) | (rw [if_neg (by omega)] at hl; exact hl)
        · skip
          simp only [Int32.not_lt, ← Int32.not_lt] at c29
          rw [hm] at c29
          refine jl_aload_n (i := 0) h rfl rfl dc_MO_bound_32 33 rfl ?_
          refine jl_getf h nm_c_MO 5 wl_MO_19 (by omega) (by decide) (by exact rfl) (by rfl) dc_MO_bound_33 36 rfl ?_
          refine jl_iload_n (i := 3) h rfl rfl dc_MO_bound_36 37 rfl ?_
          refine jl_iald (v := iI (w p)) h (p) (by exact rfl) (by omega) (by exact hmat) (by exact hp18) (by first | decide | assumption) (by exact rfl) dc_MO_bound_37 38 rfl ?_
          refine jl_goto h 42 (by decide) dc_MO_bound_38 ?_
          refine jl_istore_n (i := 2) (lc2 := [(2, _), (3, _), (0, _), (1, _)]) h rfl (by decide) rfl dc_MO_bound_42 43 rfl ?_
          refine jl_iinc (i := 3) (d := 1) (lc2 := [(3, _), (2, _), (0, _), (1, _)]) (v2 := nI (p + 1)) h (by decide) rfl (nI_1 p) rfl dc_MO_bound_43 46 rfl ?_
          refine jl_goto h 7 (by decide) dc_MO_bound_46 ?_
          first | (rw [if_pos (by omega)] at hl; exact hl) | (rw [if_neg (by omega)] at hl; exact hl)
  have l0 := loop i 0 (by omega)
  have e0 : iI (en_bd n w i 0) = nI n := iI_nat n
  rw [e0] at l0
  refine jl_aload_n (i := 0) h rfl rfl dc_MO_bound_0 1 rfl ?_
  refine jl_getf (v := .int (nI n)) h nm_c_MO 1 wl_MO_42 (by omega) (by decide) (by exact rfl) (by exact sr_v hO.1) dc_MO_bound_1 4 rfl ?_
  refine jl_istore_n (i := 2) (lc2 := [(2, _), (0, _), (1, _)]) h rfl (by decide) rfl dc_MO_bound_4 5 rfl ?_
  refine jl_iconst (v := nI 0) h (by decide) dc_MO_bound_5 6 rfl ?_
  refine jl_istore_n (i := 3) (lc2 := [(3, _), (2, _), (0, _), (1, _)]) h rfl (by decide) rfl dc_MO_bound_6 7 rfl ?_
  exact l0
theorem c_MO_begin : jl_C l K sa yn_MO_begin bc_MO_begin 2 none 0 0 168 ad [.ref (ad 160)] (gw K ad I V L C G R) none (gw K ad I (va_up V 164 (fun _ => iI (-1))) L C G R) := by
  refine jl_enter (by decide) (Nat.le_of_ble_eq_true rfl) (fun x h he hr => ?_)
  show jl_J x 168 ad 0 0 (gw K ad I V L C G R) 0 [(0, .ref (ad 160))] []
  have loop : ∀ (dd p : Nat), p + dd = 18 → jl_J x 168 ad 0 0 (gw K ad I (va_up V 164 (fun j => if j < p then iI (-1) else V 164 j)) L C G R) 2 [(1, .int (nI p)), (0, .ref (ad 160))] [] := by
    intro dd
    induction dd with
    | zero =>
      intro p hp
      have hp : p = 18 := by omega
      subst hp
      rw [← gw_rowset (len := 18) (k := 164) ⟨rfl, rfl⟩]
      refine jl_normA (g := fun _ => iI (-1)) (fun j hj => by simp [hj]) ?_
      rw [gw_rowset (len := 18) (k := 164) ⟨rfl, rfl⟩]
      refine jl_iload_n (i := 1) h rfl rfl dc_MO_begin_2 3 rfl ?_
      refine jl_bipush (v := nI 18) h (by decide) dc_MO_begin_3 5 rfl ?_
      refine jl_icmp_ge h 21 (by decide) dc_MO_begin_5 8 rfl (fun c5 => ?_) (fun c5 => absurd (nI_le (Nat.le_refl _) (by omega)) c5)
      exact jl_vret h he (rfl) (rfl) dc_MO_begin_21
    | succ dd ih =>
      intro p hp
      have hl := ih (p + 1) (by omega)
      have hu : upd (fun j => if j < p then iI (-1) else V 164 j) p (iI (-1)) = fun j => if j < p + 1 then iI (-1) else V 164 j := by
        funext j
        unfold upd
        by_cases e : j = p
        · subst e; simp
        · by_cases e2 : j < p
          · simp [e, e2, Nat.lt_succ_of_lt e2]
          · simp [e, e2, show ¬ j < p + 1 by omega]
      refine jl_iload_n (i := 1) h rfl rfl dc_MO_begin_2 3 rfl ?_
      refine jl_bipush (v := nI 18) h (by decide) dc_MO_begin_3 5 rfl ?_
      refine jl_icmp_ge h 21 (by decide) dc_MO_begin_5 8 rfl (fun c5 => absurd c5 (nI_ge (by omega) (by omega))) (fun c5 => ?_)
      refine jl_aload_n (i := 0) h rfl rfl dc_MO_begin_8 9 rfl ?_
      refine jl_getf h nm_c_MO 5 wl_MO_19 (by omega) (by decide) (by exact rfl) (by rfl) dc_MO_begin_9 12 rfl ?_
      refine jl_iload_n (i := 1) h rfl rfl dc_MO_begin_12 13 rfl ?_
      refine jl_iconst (v := iI (-1)) h (by decide) dc_MO_begin_13 14 rfl ?_
      refine jl_iast h (p) (by exact rfl) (by omega) (by exact gw_at (len := 18) rfl rfl (va_up_self _ _ _)) (by exact by omega) (by first | decide | assumption) dc_MO_begin_14 (mo_set (len := 18) ⟨rfl, rfl⟩ hu) 15 rfl ?_
      refine jl_iinc (i := 1) (d := 1) (lc2 := [(1, _), (0, _)]) (v2 := nI (p + 1)) h (by decide) rfl (nI_1 p) rfl dc_MO_begin_15 18 rfl ?_
      refine jl_goto h 2 (by decide) dc_MO_begin_18 ?_
      exact hl
  have l0 := loop 18 0 (by omega)
  have e0 : va_up V 164 (fun j => if j < 0 then iI (-1) else V 164 j) = V := by
    funext k
    unfold va_up
    split
    · rename_i e
      rw [e]
      rfl
    · rfl
  rw [e0] at l0
  refine jl_iconst (v := nI 0) h (by decide) dc_MO_begin_0 1 rfl ?_
  refine jl_istore_n (i := 1) (lc2 := [(1, _), (0, _)]) h rfl (by decide) rfl dc_MO_begin_1 2 rfl ?_
  exact l0
theorem c_MO_advance (hO : mo_ok I V n b) (hw : mo_bw n w) {i : Nat} (hi : i < n) : jl_C l K sa yn_MO_advance bc_MO_advance 4 (some .boolean) 2 50 168 ad [.ref (ad 160), .int (nI i)] (gw K ad I (va_up V 164 (fun k => iI (w k))) L C G R) (some (.int (st_bI (en_adv b n i w).1))) (gw K ad I (va_up V 164 (fun k => iI ((en_adv b n i w).2 k))) L C G R) := by
  refine jl_enter (by decide) (Nat.le_of_ble_eq_true rfl) (fun x h he hr => ?_)
  have hn := hO.2.2.1
  show jl_J x 168 ad 0 0 (gw K ad I (va_up V 164 (fun k => iI (w k))) L C G R) 0 [(0, .ref (ad 160)), (1, .int (nI i))] []
  have hin := hw i
  have h0 : (iI (w i) < 0) ↔ w i < 0 := by rw [show (0 : Int32) = iI 0 from rfl]; exact iI_lt (by omega) (by omega) (by omega) (by omega)
  have hlt : (iI (w i) < nI i) ↔ w i < i := by rw [← iI_nat]; exact iI_lt (by omega) (by omega) (by omega) (by omega)
  have t73 : ∀ (w2 : Nat → Int) (j0 : Nat), j0 < 40 → mo_bw n w2 → en_adv b n i w = mo_ad b i w2 (en_fe b i j0 (en_bd n w2 i i).toNat) → jl_J x 168 ad 0 0 (gw K ad I (va_up V 164 (fun k => iI (w2 k))) L C G R) 73 [(2, .int (nI j0)), (0, .ref (ad 160)), (1, .int (nI i))] [] := by
    intro w2 j0 hj0 hw2 hadv
    have b1 := en_bd_le n w2 i i
    have b2 := en_bd_pos n w2 i i
    obtain ⟨e, hee⟩ : ∃ e : Nat, en_bd n w2 i i = e := ⟨(en_bd n w2 i i).toNat, by omega⟩
    rw [hee, Int.toNat_natCast] at hadv
    have loop : ∀ (dd j : Nat), e - j ≤ dd → j < 40 → en_fe b i j0 e = en_fe b i j e → jl_J x 168 ad 0 0 (gw K ad I (va_up V 164 (fun k => iI (w2 k))) L C G R) 79 [(3, .int (nI e)), (2, .int (nI j)), (0, .ref (ad 160)), (1, .int (nI i))] [] := by
      intro dd
      induction dd with
      | zero =>
        intro j hj h40 hfe
        rw [hfe, mo_fe_end (by omega)] at hadv
        refine jl_iload_n (i := 2) h rfl rfl dc_MO_advance_79 80 rfl ?_
        refine jl_iload_n (i := 3) h rfl rfl dc_MO_advance_80 81 rfl ?_
        refine jl_icmp_ge h 99 (by decide) dc_MO_advance_81 84 rfl (fun c81 => ?_) (fun c81 => absurd (nI_le (by omega) (by omega)) c81)
        refine jl_iload_n (i := 2) h rfl rfl dc_MO_advance_99 100 rfl ?_
        refine jl_iload_n (i := 3) h rfl rfl dc_MO_advance_100 101 rfl ?_
        refine jl_icmp_lt h 106 (by decide) dc_MO_advance_101 104 rfl (fun c101 => absurd c101 (Int32.not_lt.mpr (nI_le (by omega) (by omega)))) (fun c101 => ?_)
        refine jl_iconst (v := 0) h (by decide) dc_MO_advance_104 105 rfl ?_
        exact jl_zret h he rfl (by rw [hadv]; rfl) (by rw [hadv]; rfl) dc_MO_advance_105
      | succ dd ih =>
        intro j hj h40 hfe
        by_cases hje : e ≤ j
        · exact ih j (by omega) h40 hfe
        have hje : j < e := by omega
        cases hc : en_cp b i j with
        | true =>
          rw [hfe, mo_fe_yes hje hc] at hadv
          refine jl_iload_n (i := 2) h rfl rfl dc_MO_advance_79 80 rfl ?_
          refine jl_iload_n (i := 3) h rfl rfl dc_MO_advance_80 81 rfl ?_
          refine jl_icmp_ge h 99 (by decide) dc_MO_advance_81 84 rfl (fun c81 => absurd c81 (nI_ge hje (by omega))) (fun c81 => ?_)
          refine jl_aload_n (i := 0) h rfl rfl dc_MO_advance_84 85 rfl ?_
          refine jl_iload_n (i := 1) h rfl rfl dc_MO_advance_85 86 rfl ?_
          refine jl_iload_n (i := 2) h rfl rfl dc_MO_advance_86 87 rfl ?_
          refine jl_callV (As := [_, _]) (rest := []) h hr vs_MO_71 vi_MO_canPair vx_MO_canPair (ci := 7) rfl (by omega) (by exact rfl) (fun l => c_MO_canPair l (mo_okV hO (by decide)) hi (show j < n by omega)) (by first | decide | omega) (by first | decide | omega) rfl rfl (Nat.le_of_ble_eq_true rfl) dc_MO_advance_87 (res := [_]) rfl 90 rfl ?_
          rw [hc]
          refine jl_if_ne h 99 (by decide) dc_MO_advance_90 93 rfl (fun c90 => ?_) (fun c90 => absurd c90 (by decide))
          refine jl_iload_n (i := 2) h rfl rfl dc_MO_advance_99 100 rfl ?_
          refine jl_iload_n (i := 3) h rfl rfl dc_MO_advance_100 101 rfl ?_
          refine jl_icmp_lt h 106 (by decide) dc_MO_advance_101 104 rfl (fun c101 => ?_) (fun c101 => absurd (nI_lt hje (by omega)) c101)
          refine jl_aload_n (i := 0) h rfl rfl dc_MO_advance_106 107 rfl ?_
          refine jl_getf h nm_c_MO 5 wl_MO_19 (by omega) (by decide) (by exact rfl) (by rfl) dc_MO_advance_107 110 rfl ?_
          refine jl_iload_n (i := 1) h rfl rfl dc_MO_advance_110 111 rfl ?_
          refine jl_iload_n (i := 2) h rfl rfl dc_MO_advance_111 112 rfl ?_
          refine jl_iast h (i) (by exact rfl) (by omega) (by exact gw_at (len := 18) rfl rfl (va_up_self _ _ _)) (by exact by omega) (by first | decide | assumption) dc_MO_advance_112 (mo_set (len := 18) ⟨rfl, rfl⟩ rfl) 113 rfl ?_
          refine jl_aload_n (i := 0) h rfl rfl dc_MO_advance_113 114 rfl ?_
          refine jl_getf h nm_c_MO 5 wl_MO_19 (by omega) (by decide) (by exact rfl) (by rfl) dc_MO_advance_114 117 rfl ?_
          refine jl_iload_n (i := 2) h rfl rfl dc_MO_advance_117 118 rfl ?_
          refine jl_iload_n (i := 1) h rfl rfl dc_MO_advance_118 119 rfl ?_
          refine jl_iast h (j) (by exact rfl) (by omega) (by exact gw_at (len := 18) rfl rfl (va_up_self _ _ _)) (by exact by omega) (by first | decide | assumption) dc_MO_advance_119 (mo_set (len := 18) ⟨rfl, rfl⟩ (sr_updpr w2 i j)) 120 rfl ?_
          refine jl_iconst (v := 1) h (by decide) dc_MO_advance_120 121 rfl ?_
          exact jl_zret h he rfl (by rw [hadv]; rfl) (by rw [hadv]; rfl) dc_MO_advance_121
        | false =>
          rw [mo_fe_no hje hc] at hfe
          refine jl_iload_n (i := 2) h rfl rfl dc_MO_advance_79 80 rfl ?_
          refine jl_iload_n (i := 3) h rfl rfl dc_MO_advance_80 81 rfl ?_
          refine jl_icmp_ge h 99 (by decide) dc_MO_advance_81 84 rfl (fun c81 => absurd c81 (nI_ge hje (by omega))) (fun c81 => ?_)
          refine jl_aload_n (i := 0) h rfl rfl dc_MO_advance_84 85 rfl ?_
          refine jl_iload_n (i := 1) h rfl rfl dc_MO_advance_85 86 rfl ?_
          refine jl_iload_n (i := 2) h rfl rfl dc_MO_advance_86 87 rfl ?_
          refine jl_callV (As := [_, _]) (rest := []) h hr vs_MO_71 vi_MO_canPair vx_MO_canPair (ci := 7) rfl (by omega) (by exact rfl) (fun l => c_MO_canPair l (mo_okV hO (by decide)) hi (show j < n by omega)) (by first | decide | omega) (by first | decide | omega) rfl rfl (Nat.le_of_ble_eq_true rfl) dc_MO_advance_87 (res := [_]) rfl 90 rfl ?_
          rw [hc]
          refine jl_if_ne h 99 (by decide) dc_MO_advance_90 93 rfl (fun c90 => absurd (by decide) c90) (fun c90 => ?_)
          refine jl_iinc (i := 2) (d := 1) (lc2 := [(2, _), (3, _), (0, _), (1, _)]) (v2 := nI (j + 1)) h (by decide) rfl (nI_1 j) rfl dc_MO_advance_93 96 rfl ?_
          refine jl_goto h 79 (by decide) dc_MO_advance_96 ?_
          refine jl_sub (lc2 := [(3, _), (2, _), (0, _), (1, _)]) [1, 0, 2, 3] rfl ?_
          exact ih (j + 1) (by omega) (by omega) hfe
    have l0 := loop (e - j0) j0 (Nat.le_refl _) hj0 rfl
    refine jl_aload_n (i := 0) h rfl rfl dc_MO_advance_73 74 rfl ?_
    refine jl_iload_n (i := 1) h rfl rfl dc_MO_advance_74 75 rfl ?_
    refine jl_callV (As := [_]) (rest := []) h hr vs_MO_67 vi_MO_bound vx_MO_bound (ci := 7) rfl (by omega) (by exact rfl) (fun l => c_MO_bound l (mo_okV hO (by decide)) (va_up_self _ _ _) hw2 hi) (by first | decide | omega) (by first | decide | omega) rfl rfl (Nat.le_of_ble_eq_true rfl) dc_MO_advance_75 (res := [_]) rfl 78 rfl ?_
    rw [hee, iI_nat]
    refine jl_istore_n (i := 3) (lc2 := [(3, _), (2, _), (0, _), (1, _)]) h rfl (by decide) rfl dc_MO_advance_78 79 rfl ?_
    exact l0
  by_cases hA : 0 ≤ w i ∧ w i < i
  · have hadv : en_adv b n i w = (false, w) := by unfold en_adv; rw [if_pos hA]
    refine jl_aload_n (i := 0) h rfl rfl dc_MO_advance_0 1 rfl ?_
    refine jl_getf h nm_c_MO 5 wl_MO_19 (by omega) (by decide) (by exact rfl) (by rfl) dc_MO_advance_1 4 rfl ?_
    refine jl_iload_n (i := 1) h rfl rfl dc_MO_advance_4 5 rfl ?_
    refine jl_iald (v := iI (w i)) h (i) (by exact rfl) (by omega) (by exact gw_at (len := 18) rfl rfl (va_up_self _ _ _)) (by exact by omega) (by first | decide | assumption) (by exact rfl) dc_MO_advance_5 6 rfl ?_
    refine jl_if_lt h 21 (by decide) dc_MO_advance_6 9 rfl (fun c6 => absurd c6 (fun h9 => absurd (h0.mp h9) (by omega))) (fun c6 => ?_)
    refine jl_aload_n (i := 0) h rfl rfl dc_MO_advance_9 10 rfl ?_
    refine jl_getf h nm_c_MO 5 wl_MO_19 (by omega) (by decide) (by exact rfl) (by rfl) dc_MO_advance_10 13 rfl ?_
    refine jl_iload_n (i := 1) h rfl rfl dc_MO_advance_13 14 rfl ?_
    refine jl_iald (v := iI (w i)) h (i) (by exact rfl) (by omega) (by exact gw_at (len := 18) rfl rfl (va_up_self _ _ _)) (by exact by omega) (by first | decide | assumption) (by exact rfl) dc_MO_advance_14 15 rfl ?_
    refine jl_iload_n (i := 1) h rfl rfl dc_MO_advance_15 16 rfl ?_
    refine jl_icmp_ge h 21 (by decide) dc_MO_advance_16 19 rfl (fun c16 => absurd c16 (Int32.not_le.mpr (hlt.mpr hA.2))) (fun c16 => ?_)
    refine jl_iconst (v := 0) h (by decide) dc_MO_advance_19 20 rfl ?_
    exact jl_zret h he rfl (by rw [hadv]; rfl) (by rw [hadv]) dc_MO_advance_20
  by_cases hB : w i < 0
  · have t := t73 (en_up w i (-1)) (i + 4) (by omega) (mo_bw_up hw _ (by omega) (by omega)) (by rw [mo_adv hA, if_neg (show ¬ 0 ≤ w i by omega), if_pos hB])
    refine jl_aload_n (i := 0) h rfl rfl dc_MO_advance_0 1 rfl ?_
    refine jl_getf h nm_c_MO 5 wl_MO_19 (by omega) (by decide) (by exact rfl) (by rfl) dc_MO_advance_1 4 rfl ?_
    refine jl_iload_n (i := 1) h rfl rfl dc_MO_advance_4 5 rfl ?_
    refine jl_iald (v := iI (w i)) h (i) (by exact rfl) (by omega) (by exact gw_at (len := 18) rfl rfl (va_up_self _ _ _)) (by exact by omega) (by first | decide | assumption) (by exact rfl) dc_MO_advance_5 6 rfl ?_
    refine jl_if_lt h 21 (by decide) dc_MO_advance_6 9 rfl (fun c6 => ?_) (fun c6 => absurd (h0.mpr hB) c6)
    refine jl_aload_n (i := 0) h rfl rfl dc_MO_advance_21 22 rfl ?_
    refine jl_getf h nm_c_MO 5 wl_MO_19 (by omega) (by decide) (by exact rfl) (by rfl) dc_MO_advance_22 25 rfl ?_
    refine jl_iload_n (i := 1) h rfl rfl dc_MO_advance_25 26 rfl ?_
    refine jl_iald (v := iI (w i)) h (i) (by exact rfl) (by omega) (by exact gw_at (len := 18) rfl rfl (va_up_self _ _ _)) (by exact by omega) (by first | decide | assumption) (by exact rfl) dc_MO_advance_26 27 rfl ?_
    refine jl_if_ge h 36 (by decide) dc_MO_advance_27 30 rfl (fun c27 => absurd c27 (Int32.not_le.mpr (h0.mpr hB))) (fun c27 => ?_)
    refine jl_iload_n (i := 1) h rfl rfl dc_MO_advance_30 31 rfl ?_
    refine jl_iconst (v := nI 4) h (by decide) dc_MO_advance_31 32 rfl ?_
    refine jl_iadd h dc_MO_advance_32 33 rfl ?_
    rw [show nI i + nI 4 = nI (i + 4) by exact nI_add i 4]
    refine jl_goto h 44 (by decide) dc_MO_advance_33 ?_
    refine jl_istore_n (i := 2) (lc2 := [(2, _), (0, _), (1, _)]) h rfl (by decide) rfl dc_MO_advance_44 45 rfl ?_
    refine jl_aload_n (i := 0) h rfl rfl dc_MO_advance_45 46 rfl ?_
    refine jl_getf h nm_c_MO 5 wl_MO_19 (by omega) (by decide) (by exact rfl) (by rfl) dc_MO_advance_46 49 rfl ?_
    refine jl_iload_n (i := 1) h rfl rfl dc_MO_advance_49 50 rfl ?_
    refine jl_iald (v := iI (w i)) h (i) (by exact rfl) (by omega) (by exact gw_at (len := 18) rfl rfl (va_up_self _ _ _)) (by exact by omega) (by first | decide | assumption) (by exact rfl) dc_MO_advance_50 51 rfl ?_
    refine jl_if_lt h 66 (by decide) dc_MO_advance_51 54 rfl (fun c51 => ?_) (fun c51 => absurd (h0.mpr hB) c51)
    refine jl_aload_n (i := 0) h rfl rfl dc_MO_advance_66 67 rfl ?_
    refine jl_getf h nm_c_MO 5 wl_MO_19 (by omega) (by decide) (by exact rfl) (by rfl) dc_MO_advance_67 70 rfl ?_
    refine jl_iload_n (i := 1) h rfl rfl dc_MO_advance_70 71 rfl ?_
    refine jl_iconst (v := iI (-1)) h (by decide) dc_MO_advance_71 72 rfl ?_
    refine jl_iast h (i) (by exact rfl) (by omega) (by exact gw_at (len := 18) rfl rfl (va_up_self _ _ _)) (by exact by omega) (by first | decide | assumption) dc_MO_advance_72 (mo_set (len := 18) ⟨rfl, rfl⟩ (mo_upd w i (-1))) 73 rfl ?_
    exact t
  · obtain ⟨m, hm⟩ : ∃ m : Nat, w i = m := ⟨(w i).toNat, by omega⟩
    have t := t73 (en_up (en_up w m (-1)) i (-1)) (m + 1) (by omega) (mo_bw_up (mo_bw_up hw _ (by omega) (by omega)) _ (by omega) (by omega)) (by rw [mo_adv hA, if_pos (show 0 ≤ w i by omega), if_neg hB, hm, Int.toNat_natCast])
    refine jl_aload_n (i := 0) h rfl rfl dc_MO_advance_0 1 rfl ?_
    refine jl_getf h nm_c_MO 5 wl_MO_19 (by omega) (by decide) (by exact rfl) (by rfl) dc_MO_advance_1 4 rfl ?_
    refine jl_iload_n (i := 1) h rfl rfl dc_MO_advance_4 5 rfl ?_
    refine jl_iald (v := iI (w i)) h (i) (by exact rfl) (by omega) (by exact gw_at (len := 18) rfl rfl (va_up_self _ _ _)) (by exact by omega) (by first | decide | assumption) (by exact rfl) dc_MO_advance_5 6 rfl ?_
    refine jl_if_lt h 21 (by decide) dc_MO_advance_6 9 rfl (fun c6 => absurd c6 (fun h9 => hB (h0.mp h9))) (fun c6 => ?_)
    refine jl_aload_n (i := 0) h rfl rfl dc_MO_advance_9 10 rfl ?_
    refine jl_getf h nm_c_MO 5 wl_MO_19 (by omega) (by decide) (by exact rfl) (by rfl) dc_MO_advance_10 13 rfl ?_
    refine jl_iload_n (i := 1) h rfl rfl dc_MO_advance_13 14 rfl ?_
    refine jl_iald (v := iI (w i)) h (i) (by exact rfl) (by omega) (by exact gw_at (len := 18) rfl rfl (va_up_self _ _ _)) (by exact by omega) (by first | decide | assumption) (by exact rfl) dc_MO_advance_14 15 rfl ?_
    refine jl_iload_n (i := 1) h rfl rfl dc_MO_advance_15 16 rfl ?_
    refine jl_icmp_ge h 21 (by decide) dc_MO_advance_16 19 rfl (fun c16 => ?_) (fun c16 => absurd (Int32.not_lt.mp (fun h9 => hA ⟨by omega, hlt.mp h9⟩)) c16)
    refine jl_aload_n (i := 0) h rfl rfl dc_MO_advance_21 22 rfl ?_
    refine jl_getf h nm_c_MO 5 wl_MO_19 (by omega) (by decide) (by exact rfl) (by rfl) dc_MO_advance_22 25 rfl ?_
    refine jl_iload_n (i := 1) h rfl rfl dc_MO_advance_25 26 rfl ?_
    refine jl_iald (v := iI (w i)) h (i) (by exact rfl) (by omega) (by exact gw_at (len := 18) rfl rfl (va_up_self _ _ _)) (by exact by omega) (by first | decide | assumption) (by exact rfl) dc_MO_advance_26 27 rfl ?_
    refine jl_if_ge h 36 (by decide) dc_MO_advance_27 30 rfl (fun c27 => ?_) (fun c27 => absurd (Int32.not_lt.mp (fun h9 => hB (h0.mp h9))) c27)
    refine jl_aload_n (i := 0) h rfl rfl dc_MO_advance_36 37 rfl ?_
    refine jl_getf h nm_c_MO 5 wl_MO_19 (by omega) (by decide) (by exact rfl) (by rfl) dc_MO_advance_37 40 rfl ?_
    refine jl_iload_n (i := 1) h rfl rfl dc_MO_advance_40 41 rfl ?_
    refine jl_iald (v := nI m) h (i) (by exact rfl) (by omega) (by exact gw_at (len := 18) rfl rfl (va_up_self _ _ _)) (by exact by omega) (by first | decide | assumption) (by exact by rw [hm, iI_nat]) dc_MO_advance_41 42 rfl ?_
    refine jl_iconst (v := nI 1) h (by decide) dc_MO_advance_42 43 rfl ?_
    refine jl_iadd h dc_MO_advance_43 44 rfl ?_
    rw [show nI m + nI 1 = nI (m + 1) by exact nI_add m 1]
    refine jl_istore_n (i := 2) (lc2 := [(2, _), (0, _), (1, _)]) h rfl (by decide) rfl dc_MO_advance_44 45 rfl ?_
    refine jl_aload_n (i := 0) h rfl rfl dc_MO_advance_45 46 rfl ?_
    refine jl_getf h nm_c_MO 5 wl_MO_19 (by omega) (by decide) (by exact rfl) (by rfl) dc_MO_advance_46 49 rfl ?_
    refine jl_iload_n (i := 1) h rfl rfl dc_MO_advance_49 50 rfl ?_
    refine jl_iald (v := iI (w i)) h (i) (by exact rfl) (by omega) (by exact gw_at (len := 18) rfl rfl (va_up_self _ _ _)) (by exact by omega) (by first | decide | assumption) (by exact rfl) dc_MO_advance_50 51 rfl ?_
    refine jl_if_lt h 66 (by decide) dc_MO_advance_51 54 rfl (fun c51 => absurd c51 (fun h9 => hB (h0.mp h9))) (fun c51 => ?_)
    refine jl_aload_n (i := 0) h rfl rfl dc_MO_advance_54 55 rfl ?_
    refine jl_getf h nm_c_MO 5 wl_MO_19 (by omega) (by decide) (by exact rfl) (by rfl) dc_MO_advance_55 58 rfl ?_
    refine jl_aload_n (i := 0) h rfl rfl dc_MO_advance_58 59 rfl ?_
    refine jl_getf h nm_c_MO 5 wl_MO_19 (by omega) (by decide) (by exact rfl) (by rfl) dc_MO_advance_59 62 rfl ?_
    refine jl_iload_n (i := 1) h rfl rfl dc_MO_advance_62 63 rfl ?_
    refine jl_iald (v := nI m) h (i) (by exact rfl) (by omega) (by exact gw_at (len := 18) rfl rfl (va_up_self _ _ _)) (by exact by omega) (by first | decide | assumption) (by exact by rw [hm, iI_nat]) dc_MO_advance_63 64 rfl ?_
    refine jl_iconst (v := iI (-1)) h (by decide) dc_MO_advance_64 65 rfl ?_
    refine jl_iast h (m) (by exact rfl) (by omega) (by exact gw_at (len := 18) rfl rfl (va_up_self _ _ _)) (by exact by omega) (by first | decide | assumption) dc_MO_advance_65 (mo_set (len := 18) ⟨rfl, rfl⟩ (mo_upd w m (-1))) 66 rfl ?_
    refine jl_aload_n (i := 0) h rfl rfl dc_MO_advance_66 67 rfl ?_
    refine jl_getf h nm_c_MO 5 wl_MO_19 (by omega) (by decide) (by exact rfl) (by rfl) dc_MO_advance_67 70 rfl ?_
    refine jl_iload_n (i := 1) h rfl rfl dc_MO_advance_70 71 rfl ?_
    refine jl_iconst (v := iI (-1)) h (by decide) dc_MO_advance_71 72 rfl ?_
    refine jl_iast h (i) (by exact rfl) (by omega) (by exact gw_at (len := 18) rfl rfl (va_up_self _ _ _)) (by exact by omega) (by first | decide | assumption) dc_MO_advance_72 (mo_set (len := 18) ⟨rfl, rfl⟩ (mo_upd (en_up w m (-1)) i (-1))) 73 rfl ?_
    exact t
theorem c_MO_nextStructure (hO : mo_ok I V n b) (hw : mo_bw n w) : jl_C l K sa yn_MO_nextStructure bc_MO_nextStructure 2 (some .boolean) 3 75 168 ad [.ref (ad 160)] (gw K ad I (va_up V 164 (fun k => iI (w k))) L C G R) (some (.int (st_bI (en_dn b n n w).1))) (gw K ad I (va_up V 164 (fun k => iI ((en_dn b n n w).2 k))) L C G R) := by
  refine jl_enter (by decide) (Nat.le_of_ble_eq_true rfl) (fun x h he hr => ?_)
  have hn := hO.2.2.1
  show jl_J x 168 ad 0 0 (gw K ad I (va_up V 164 (fun k => iI (w k))) L C G R) 0 [(0, .ref (ad 160))] []
  have loop : ∀ (i : Nat) (w1 : Nat → Int), i ≤ n → mo_bw n w1 → en_dn b n n w = en_dn b n i w1 → jl_J x 168 ad 0 0 (gw K ad I (va_up V 164 (fun k => iI (w1 k))) L C G R) 7 [(1, .int (iI ((i : Int) - 1))), (0, .ref (ad 160))] [] := by
    intro i
    induction i with
    | zero =>
      intro w1 hi hw1 hd
      have hd : en_dn b n n w = (false, w1) := hd
      refine jl_iload_n (i := 1) h rfl rfl dc_MO_nextStructure_7 8 rfl ?_
      refine jl_if_lt h 27 (by decide) dc_MO_nextStructure_8 11 rfl (fun c8 => ?_) (fun c8 => absurd (by decide) c8)
      refine jl_iconst (v := 0) h (by decide) dc_MO_nextStructure_27 28 rfl ?_
      exact jl_zret h he rfl (by rw [hd]; rfl) (by rw [hd]) dc_MO_nextStructure_28
    | succ i ih =>
      intro w1 hi hw1 hd
      have e9 : iI (((i + 1 : Nat) : Int) - 1) = nI i := by rw [← iI_nat]; congr 1; omega
      rw [e9]
      cases ha : (en_adv b n i w1).1 with
      | true =>
        have hd : en_dn b n n w = en_adv b n i w1 := by rw [hd]; unfold en_dn; rw [if_pos ha]
        refine jl_iload_n (i := 1) h rfl rfl dc_MO_nextStructure_7 8 rfl ?_
        refine jl_if_lt h 27 (by decide) dc_MO_nextStructure_8 11 rfl (fun c8 => absurd c8 (nI_pos (by omega))) (fun c8 => ?_)
        refine jl_aload_n (i := 0) h rfl rfl dc_MO_nextStructure_11 12 rfl ?_
        refine jl_iload_n (i := 1) h rfl rfl dc_MO_nextStructure_12 13 rfl ?_
        refine jl_callV (As := [_]) (rest := []) h hr vs_MO_74 vi_MO_advance vx_MO_advance (ci := 7) rfl (by omega) (by exact rfl) (fun l => c_MO_advance l hO hw1 (show i < n by omega)) (by first | decide | omega) (by first | decide | omega) rfl rfl (Nat.le_of_ble_eq_true rfl) dc_MO_nextStructure_13 (res := [_]) rfl 16 rfl ?_
        rw [ha]
        refine jl_if_eq h 21 (by decide) dc_MO_nextStructure_16 19 rfl (fun c16 => absurd c16 (by decide)) (fun c16 => ?_)
        refine jl_iconst (v := 1) h (by decide) dc_MO_nextStructure_19 20 rfl ?_
        exact jl_zret h he rfl (by rw [hd, ha]; rfl) (by rw [hd]) dc_MO_nextStructure_20
      | false =>
        have hd : en_dn b n n w = en_dn b n i (en_adv b n i w1).2 := by rw [hd]; conv => lhs; unfold en_dn
                                                                        rw [if_neg (by rw [ha]; decide)]
        refine jl_iload_n (i := 1) h rfl rfl dc_MO_nextStructure_7 8 rfl ?_
        refine jl_if_lt h 27 (by decide) dc_MO_nextStructure_8 11 rfl (fun c8 => absurd c8 (nI_pos (by omega))) (fun c8 => ?_)
        refine jl_aload_n (i := 0) h rfl rfl dc_MO_nextStructure_11 12 rfl ?_
        refine jl_iload_n (i := 1) h rfl rfl dc_MO_nextStructure_12 13 rfl ?_
        refine jl_callV (As := [_]) (rest := []) h hr vs_MO_74 vi_MO_advance vx_MO_advance (ci := 7) rfl (by omega) (by exact rfl) (fun l => c_MO_advance l hO hw1 (show i < n by omega)) (by first | decide | omega) (by first | decide | omega) rfl rfl (Nat.le_of_ble_eq_true rfl) dc_MO_nextStructure_13 (res := [_]) rfl 16 rfl ?_
        rw [ha]
        refine jl_if_eq h 21 (by decide) dc_MO_nextStructure_16 19 rfl (fun c16 => ?_) (fun c16 => absurd (rfl) c16)
        refine jl_iinc (i := 1) (d := -1) (lc2 := [(1, _), (0, _)]) (v2 := iI ((i : Int) - 1)) h (by decide) rfl (by rw [← iI_nat, show Int32.ofInt (-1) = iI (-1) from rfl, iI_add]; rfl) rfl dc_MO_nextStructure_21 24 rfl ?_
        refine jl_goto h 7 (by decide) dc_MO_nextStructure_24 ?_
        exact ih _ (by omega) (mo_bw_adv (by omega) hw1) hd
  have l0 := loop n w (Nat.le_refl n) hw rfl
  refine jl_aload_n (i := 0) h rfl rfl dc_MO_nextStructure_0 1 rfl ?_
  refine jl_getf (v := .int (nI n)) h nm_c_MO 1 wl_MO_42 (by omega) (by decide) (by exact rfl) (by exact sr_v hO.1) dc_MO_nextStructure_1 4 rfl ?_
  refine jl_iconst (v := 1) h (by decide) dc_MO_nextStructure_4 5 rfl ?_
  refine jl_isub h dc_MO_nextStructure_5 6 rfl ?_
  rw [show nI n - 1 = iI ((n : Int) - 1) by rw [← iI_nat, show (1 : Int32) = iI 1 from rfl, iI_sub]]
  refine jl_istore_n (i := 1) (lc2 := [(1, _), (0, _)]) h rfl (by decide) rfl dc_MO_nextStructure_6 7 rfl ?_
  exact l0
end MO

