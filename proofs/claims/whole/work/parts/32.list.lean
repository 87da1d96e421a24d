/-! The reference: list. -/
def mo_run (b : Nat → Nat) (n : Nat) (lim : Int) : List (Nat → Int) → List (Nat → Int) → List (Nat → Int)
  | ms, [] => ms
  | ms, w :: ws => if 150 < ms.length then ms else mo_run b n lim (if st_E b n w ≤ lim then mo_ins (mo_key b n) w ms else ms) ws
theorem mo_lo_in {b : Nat → Nat} {n : Nat} (hn : n ≤ 18) : ∀ (ws : List (Nat → Int)) (a : Int), (∀ w ∈ ws, en_V b n w) → -1000 ≤ a → a ≤ 0 → -1000 ≤ mo_lo b n a ws ∧ mo_lo b n a ws ≤ 0
  | [], a, _, h1, h2 => ⟨h1, h2⟩
  | w :: ws, a, hV, h1, h2 => by
    have h3 := st_E_in hn (mo_bw_V (hV w List.mem_cons_self)) (b := b)
    have h4 : -1000 ≤ fo_mi a (st_E b n w) ∧ fo_mi a (st_E b n w) ≤ 0 := by
      unfold fo_mi
      split <;> omega
    exact mo_lo_in hn ws _ (fun u hu => hV u (List.mem_cons_of_mem _ hu)) h4.1 h4.2
theorem mo_iu {I : Nat → Int32} {c : Nat} {x y : Int32} : va_up (va_up I c x) c y = va_up I c y := by
  funext k
  unfold va_up
  split <;> rfl
theorem mo_vs {V : Nat → Nat → Int32} {c : Nat} {f : Nat → Int32} (h : V c = f) : V = va_up V c f := by
  funext k
  unfold va_up
  split
  · rename_i e
    rw [e, h]
  · rfl
def mo_fr3 (V0 V : Nat → Nat → Int32) : Prop := ∀ c, c ≠ 164 → c ≠ 166 → c ≠ 167 → V c = V0 c
theorem mo_rowsV {b : Nat → Nat} {n : Nat} {ms : List (Nat → Int)} {V : Nat → Nat → Int32} {f : Nat → Int32} (h : mo_rows b n ms V) : mo_rows b n ms (va_up V 164 f) := h
theorem mo_okF {I : Nat → Int32} {V V1 : Nat → Nat → Int32} {n : Nat} {b : Nat → Nat} (h : mo_ok I V n b) (hf : mo_fr3 V V1) : mo_ok I V1 n b := ⟨h.1, fun i hi => by rw [hf 162 (by decide) (by decide) (by decide)]; exact h.2.1 i hi, h.2.2.1, h.2.2.2.1, fun k hk => by rw [hf 161 (by decide) (by decide) (by decide)]; exact h.2.2.2.2 k hk⟩
theorem mo_ok17 {I : Nat → Int32} {V : Nat → Nat → Int32} {n : Nat} {b : Nat → Nat} {z : Int32} (h : mo_ok I V n b) : mo_ok (va_up I 17 z) V n b := h
theorem mo_len_iI {m : Nat} (hm : m < 1000) : ¬ (nI 150 < nI m) ↔ m ≤ 150 := by rw [Int32.not_lt, nI_leI (by omega) (by omega)]
/-- the answer of the listing, and the number that is kept -/
def mo_ans (m : Nat) : Int32 := if 150 < m then -2 else nI m
def mo_kept (m : Nat) : Nat := if 150 < m then 0 else m
theorem mo_step_ok {b : Nat → Nat} {n : Nat} {lim : Int} {w : Nat → Int} {ms : List (Nat → Int)} (hw : en_V b n w) (hl : ms.length ≤ 150) (hmV : ∀ u ∈ ms, en_V b n u) (hs : (ms.map (mo_key b n)).Pairwise (· ≤ ·)) : (if st_E b n w ≤ lim then mo_ins (mo_key b n) w ms else ms).length ≤ 151 ∧ (∀ u ∈ (if st_E b n w ≤ lim then mo_ins (mo_key b n) w ms else ms), en_V b n u) ∧ ((if st_E b n w ≤ lim then mo_ins (mo_key b n) w ms else ms).map (mo_key b n)).Pairwise (· ≤ ·) := by
  by_cases h : st_E b n w ≤ lim
  · rw [if_pos h]
    refine ⟨by rw [mo_ins_len]; omega, fun u hu => ?_, ?_⟩
    · rcases mo_ins_mem _ _ _ _ hu with h1 | h1
      · rw [h1]; exact hw
      · exact hmV u h1
    · rw [mo_ins_map]
      exact nl_ins_sorted _ _ hs
  · rw [if_neg h]
    exact ⟨by omega, hmV, hs⟩
abbrev bc_MO_list : ByteArray := prog_9_method_26_code
abbrev yn_MO_list : MethodName := ⟨"FoldedStrandModel", "list", "(I)I"⟩
theorem vs_MO_113 : jl_v "FoldedStrandModel" 113 yn_MO_put bc_MO_put 4 none 1 := ⟨jl_T_of 641 (by decide +kernel) (by decide +kernel), jl_T_of 9 (by decide +kernel) (by decide +kernel), jl_T_of 638 (by decide +kernel) (by decide +kernel), by decide +kernel, by decide +kernel, by decide +kernel⟩
theorem vi_MO_put : Cond.instanceMethod yn_MO_put ∈ jl_T := jl_T_of 640 (by decide +kernel) (by decide +kernel)
theorem vx_MO_put : Cond.selects "FoldedStrandModel" yn_MO_put yn_MO_put ∈ jl_T := jl_T_sel 27 (by decide +kernel) (by decide +kernel)
theorem dc_MO_list_0 : decode bc_MO_list 0 = .ok (.iload_n 1, 1) := by decide +kernel
theorem dc_MO_list_1 : decode bc_MO_list 1 = .ok (.ifCond .lt 10, 3) := by decide +kernel
theorem dc_MO_list_4 : decode bc_MO_list 4 = .ok (.iload_n 1, 1) := by decide +kernel
theorem dc_MO_list_5 : decode bc_MO_list 5 = .ok (.sipush 300, 3) := by decide +kernel
theorem dc_MO_list_8 : decode bc_MO_list 8 = .ok (.if_icmp .le 5, 3) := by decide +kernel
theorem dc_MO_list_11 : decode bc_MO_list 11 = .ok (.iconst (-1), 1) := by decide +kernel
theorem dc_MO_list_12 : decode bc_MO_list 12 = .ok (.ireturn, 1) := by decide +kernel
theorem dc_MO_list_13 : decode bc_MO_list 13 = .ok (.aload_n 0, 1) := by decide +kernel
theorem dc_MO_list_14 : decode bc_MO_list 14 = .ok (.invokevirtual 101, 3) := by decide +kernel
theorem dc_MO_list_17 : decode bc_MO_list 17 = .ok (.aload_n 0, 1) := by decide +kernel
theorem dc_MO_list_18 : decode bc_MO_list 18 = .ok (.iconst 0, 1) := by decide +kernel
theorem dc_MO_list_19 : decode bc_MO_list 19 = .ok (.putfield 34, 3) := by decide +kernel
theorem dc_MO_list_22 : decode bc_MO_list 22 = .ok (.aload_n 0, 1) := by decide +kernel
theorem dc_MO_list_23 : decode bc_MO_list 23 = .ok (.invokevirtual 78, 3) := by decide +kernel
theorem dc_MO_list_26 : decode bc_MO_list 26 = .ok (.iconst 1, 1) := by decide +kernel
theorem dc_MO_list_27 : decode bc_MO_list 27 = .ok (.istore_n 2, 1) := by decide +kernel
theorem dc_MO_list_28 : decode bc_MO_list 28 = .ok (.iload_n 2, 1) := by decide +kernel
theorem dc_MO_list_29 : decode bc_MO_list 29 = .ok (.ifCond .eq 41, 3) := by decide +kernel
theorem dc_MO_list_32 : decode bc_MO_list 32 = .ok (.aload_n 0, 1) := by decide +kernel
theorem dc_MO_list_33 : decode bc_MO_list 33 = .ok (.getfield 34, 3) := by decide +kernel
theorem dc_MO_list_36 : decode bc_MO_list 36 = .ok (.sipush 150, 3) := by decide +kernel
theorem dc_MO_list_39 : decode bc_MO_list 39 = .ok (.if_icmp .gt 31, 3) := by decide +kernel
theorem dc_MO_list_42 : decode bc_MO_list 42 = .ok (.aload_n 0, 1) := by decide +kernel
theorem dc_MO_list_43 : decode bc_MO_list 43 = .ok (.invokevirtual 90, 3) := by decide +kernel
theorem dc_MO_list_46 : decode bc_MO_list 46 = .ok (.istore_n 3, 1) := by decide +kernel
theorem dc_MO_list_47 : decode bc_MO_list 47 = .ok (.iload_n 3, 1) := by decide +kernel
theorem dc_MO_list_48 : decode bc_MO_list 48 = .ok (.aload_n 0, 1) := by decide +kernel
theorem dc_MO_list_49 : decode bc_MO_list 49 = .ok (.getfield 81, 3) := by decide +kernel
theorem dc_MO_list_52 : decode bc_MO_list 52 = .ok (.iload_n 1, 1) := by decide +kernel
theorem dc_MO_list_53 : decode bc_MO_list 53 = .ok (.iadd, 1) := by decide +kernel
theorem dc_MO_list_54 : decode bc_MO_list 54 = .ok (.if_icmp .gt 8, 3) := by decide +kernel
theorem dc_MO_list_57 : decode bc_MO_list 57 = .ok (.aload_n 0, 1) := by decide +kernel
theorem dc_MO_list_58 : decode bc_MO_list 58 = .ok (.iload_n 3, 1) := by decide +kernel
theorem dc_MO_list_59 : decode bc_MO_list 59 = .ok (.invokevirtual 113, 3) := by decide +kernel
theorem dc_MO_list_62 : decode bc_MO_list 62 = .ok (.aload_n 0, 1) := by decide +kernel
theorem dc_MO_list_63 : decode bc_MO_list 63 = .ok (.invokevirtual 97, 3) := by decide +kernel
theorem dc_MO_list_66 : decode bc_MO_list 66 = .ok (.istore_n 2, 1) := by decide +kernel
theorem dc_MO_list_67 : decode bc_MO_list 67 = .ok (.goto (-39), 3) := by decide +kernel
theorem dc_MO_list_70 : decode bc_MO_list 70 = .ok (.aload_n 0, 1) := by decide +kernel
theorem dc_MO_list_71 : decode bc_MO_list 71 = .ok (.getfield 34, 3) := by decide +kernel
theorem dc_MO_list_74 : decode bc_MO_list 74 = .ok (.sipush 150, 3) := by decide +kernel
theorem dc_MO_list_77 : decode bc_MO_list 77 = .ok (.if_icmp .le 8, 3) := by decide +kernel
theorem dc_MO_list_80 : decode bc_MO_list 80 = .ok (.bipush (-2), 2) := by decide +kernel
theorem dc_MO_list_82 : decode bc_MO_list 82 = .ok (.goto 7, 3) := by decide +kernel
theorem dc_MO_list_85 : decode bc_MO_list 85 = .ok (.aload_n 0, 1) := by decide +kernel
theorem dc_MO_list_86 : decode bc_MO_list 86 = .ok (.getfield 34, 3) := by decide +kernel
theorem dc_MO_list_89 : decode bc_MO_list 89 = .ok (.istore_n 3, 1) := by decide +kernel
theorem dc_MO_list_90 : decode bc_MO_list 90 = .ok (.aload_n 0, 1) := by decide +kernel
theorem dc_MO_list_91 : decode bc_MO_list 91 = .ok (.aload_n 0, 1) := by decide +kernel
theorem dc_MO_list_92 : decode bc_MO_list 92 = .ok (.getfield 34, 3) := by decide +kernel
theorem dc_MO_list_95 : decode bc_MO_list 95 = .ok (.sipush 150, 3) := by decide +kernel
theorem dc_MO_list_98 : decode bc_MO_list 98 = .ok (.if_icmp .le 7, 3) := by decide +kernel
theorem dc_MO_list_101 : decode bc_MO_list 101 = .ok (.iconst 0, 1) := by decide +kernel
theorem dc_MO_list_102 : decode bc_MO_list 102 = .ok (.goto 7, 3) := by decide +kernel
theorem dc_MO_list_105 : decode bc_MO_list 105 = .ok (.aload_n 0, 1) := by decide +kernel
theorem dc_MO_list_106 : decode bc_MO_list 106 = .ok (.getfield 34, 3) := by decide +kernel
theorem dc_MO_list_109 : decode bc_MO_list 109 = .ok (.putfield 34, 3) := by decide +kernel
theorem dc_MO_list_112 : decode bc_MO_list 112 = .ok (.iload_n 3, 1) := by decide +kernel
theorem dc_MO_list_113 : decode bc_MO_list 113 = .ok (.ireturn, 1) := by decide +kernel
section MO
variable (l : Launch) {K : Nat → ClassId} {sa : Nat → Nat} {ad : Nat → Nat} {I : Nat → Int32} {V : Nat → Nat → Int32} {L : Nat → Int64} {C : Nat → Int32} {G : Nat → Nat} {R : Nat → Nat} {n : Nat} {b : Nat → Nat} {w u : Nat → Int}
theorem c_MO_list_bad (q : Int32) (hq : q < 0 ∨ nI 300 < q) : jl_C l K sa yn_MO_list bc_MO_list 4 (some .int) 6 190 168 ad [.ref (ad 160), .int q] (gw K ad I V L C G R) (some (.int (-1))) (gw K ad I V L C G R) := by
  refine jl_enter (by decide) (Nat.le_of_ble_eq_true rfl) (fun x h he hr => ?_)
  show jl_J x 168 ad 0 0 (gw K ad I V L C G R) 0 [(0, .ref (ad 160)), (1, .int q)] []
  by_cases h0 : q < 0
  · skip
    refine jl_iload_n (i := 1) h rfl rfl dc_MO_list_0 1 rfl ?_
    refine jl_if_lt h 11 (by decide) dc_MO_list_1 4 rfl (fun c1 => ?_) (fun c1 => absurd (h0) c1)
    refine jl_iconst (v := -1) h (by decide) dc_MO_list_11 12 rfl ?_
    exact jl_zret h he rfl (rfl) (rfl) dc_MO_list_12
  · have h1 : nI 300 < q := hq.resolve_left h0
    refine jl_iload_n (i := 1) h rfl rfl dc_MO_list_0 1 rfl ?_
    refine jl_if_lt h 11 (by decide) dc_MO_list_1 4 rfl (fun c1 => absurd c1 (h0)) (fun c1 => ?_)
    refine jl_iload_n (i := 1) h rfl rfl dc_MO_list_4 5 rfl ?_
    refine jl_sipush (v := nI 300) h (by decide) dc_MO_list_5 8 rfl ?_
    refine jl_icmp_le h 13 (by decide) dc_MO_list_8 11 rfl (fun c8 => absurd c8 (Int32.not_le.mpr h1)) (fun c8 => ?_)
    refine jl_iconst (v := -1) h (by decide) dc_MO_list_11 12 rfl ?_
    exact jl_zret h he rfl (rfl) (rfl) dc_MO_list_12
def mo_lpost (K : Nat → ClassId) (ad : Nat → Nat) (I : Nat → Int32) (V : Nat → Nat → Int32) (L : Nat → Int64) (C : Nat → Int32) (G R : Nat → Nat) (n : Nat) (b : Nat → Nat) (d : Nat) (v : Option Value) (E2 : Nat → va_E) : Prop :=
  ∃ (ms : List (Nat → Int)) (V2 : Nat → Nat → Int32), ms = mo_run b n (mo_lo b n 0 (en_all b n) + (d : Int)) [] (en_all b n) ∧ v = some (.int (mo_ans ms.length)) ∧ mo_fr3 V V2 ∧ mo_rows b n ms V2 ∧ (∀ u ∈ ms, en_V b n u) ∧ (ms.map (mo_key b n)).Pairwise (· ≤ ·) ∧ ms.length ≤ 151 ∧ E2 = gw K ad (va_up I 17 (nI (mo_kept ms.length))) V2 L C G R
theorem mo_list17 (hO : mo_ok I V n b) (hK : mo_known I n b) {d : Nat} (hd : d ≤ 300) {V00 : Nat → Nat → Int32} (hV00 : mo_fr3 V00 V) {x : jl_X} (h : jl_ok x 168 ad K sa bc_MO_list yn_MO_list.cls 4) (he : jl_endP x 168 ad (some .int) (mo_lpost K ad I V00 L C G R n b d)) (hr : jl_r x 6 190 0 0) : jl_J x 168 ad 0 0 (gw K ad I V L C G R) 17 [(0, .ref (ad 160)), (1, .int (nI d))] [] := by
  have hn := hO.2.2.1
  have hm9 := fun u => (en_all_mem b n u).mp
  obtain ⟨lo1, lo2⟩ := mo_lo_in hn (en_all b n) 0 hm9 (by decide) (by decide)
  obtain ⟨lim, hlim⟩ : ∃ lim : Int, lim = mo_lo b n 0 (en_all b n) + (d : Int) := ⟨_, rfl⟩
  have hsum : iI (mo_lo b n 0 (en_all b n)) + nI d = iI lim := by rw [hlim, ← iI_nat, iI_add]
  obtain ⟨fin, hfin⟩ : ∃ fin, fin = mo_run b n lim [] (en_all b n) := ⟨_, rfl⟩
  have t70 : ∀ (V2 : Nat → Nat → Int32), fin.length ≤ 151 → (∀ u ∈ fin, en_V b n u) → (fin.map (mo_key b n)).Pairwise (· ≤ ·) → mo_fr3 V00 V2 → mo_rows b n fin V2 → jl_J x 168 ad 0 0 (gw K ad (va_up I 17 (nI fin.length)) V2 L C G R) 70 [(0, .ref (ad 160)), (1, .int (nI d))] [] := by
    intro V2 hl hV hs hf hro
    have hpost : ∀ v z, v = mo_ans fin.length → z = nI (mo_kept fin.length) → mo_lpost K ad I V00 L C G R n b d (some (.int v)) (gw K ad (va_up I 17 z) V2 L C G R) := fun v z h1 h2 => ⟨fin, V2, by rw [hfin, hlim], by rw [h1], hf, hro, hV, hs, hl, by rw [h2]⟩
    by_cases hful : 150 < fin.length
    · have c9 : ¬ nI fin.length ≤ nI 150 := Int32.not_le.mpr (nI_lt hful (by omega))
      refine jl_aload_n (i := 0) h rfl rfl dc_MO_list_70 71 rfl ?_
      refine jl_getf (v := .int (nI fin.length)) h nm_c_MO 11 wl_MO_34 (by omega) (by decide) (by exact rfl) (by exact rfl) dc_MO_list_71 74 rfl ?_
      refine jl_sipush (v := nI 150) h (by decide) dc_MO_list_74 77 rfl ?_
      refine jl_icmp_le h 85 (by decide) dc_MO_list_77 80 rfl (fun c77 => absurd c77 (c9)) (fun c77 => ?_)
      refine jl_bipush (v := -2) h (by decide) dc_MO_list_80 82 rfl ?_
      refine jl_goto h 89 (by decide) dc_MO_list_82 ?_
      refine jl_istore_n (i := 3) (lc2 := [(3, _), (0, _), (1, _)]) h rfl (by decide) rfl dc_MO_list_89 90 rfl ?_
      refine jl_aload_n (i := 0) h rfl rfl dc_MO_list_90 91 rfl ?_
      refine jl_aload_n (i := 0) h rfl rfl dc_MO_list_91 92 rfl ?_
      refine jl_getf (v := .int (nI fin.length)) h nm_c_MO 11 wl_MO_34 (by omega) (by decide) (by exact rfl) (by exact rfl) dc_MO_list_92 95 rfl ?_
      refine jl_sipush (v := nI 150) h (by decide) dc_MO_list_95 98 rfl ?_
      refine jl_icmp_le h 105 (by decide) dc_MO_list_98 101 rfl (fun c98 => absurd c98 (c9)) (fun c98 => ?_)
      refine jl_iconst (v := nI 0) h (by decide) dc_MO_list_101 102 rfl ?_
      refine jl_goto h 109 (by decide) dc_MO_list_102 ?_
      refine jl_putf (fs2 := [_, _, _, _, _, _, _, _, _, _, _, _, _, _]) h nm_c_MO 11 wl_MO_34 (by omega) (by decide) rfl (by exact rfl) (by rfl) (by rfl) (by exact Nat.le_of_ble_eq_true rfl) (by rfl) dc_MO_list_109 ((gw_set_mlisted _).trans (by rw [mo_iu])) 112 rfl ?_
      refine jl_iload_n (i := 3) h rfl rfl dc_MO_list_112 113 rfl ?_
      exact jl_zretP h he rfl (hpost _ _ (by unfold mo_ans; rw [if_pos hful]) (by unfold mo_kept; rw [if_pos hful])) dc_MO_list_113
    · have c9 : nI fin.length ≤ nI 150 := nI_le (by omega) (by omega)
      refine jl_aload_n (i := 0) h rfl rfl dc_MO_list_70 71 rfl ?_
      refine jl_getf (v := .int (nI fin.length)) h nm_c_MO 11 wl_MO_34 (by omega) (by decide) (by exact rfl) (by exact rfl) dc_MO_list_71 74 rfl ?_
      refine jl_sipush (v := nI 150) h (by decide) dc_MO_list_74 77 rfl ?_
      refine jl_icmp_le h 85 (by decide) dc_MO_list_77 80 rfl (fun c77 => ?_) (fun c77 => absurd (c9) c77)
      refine jl_aload_n (i := 0) h rfl rfl dc_MO_list_85 86 rfl ?_
      refine jl_getf (v := .int (nI fin.length)) h nm_c_MO 11 wl_MO_34 (by omega) (by decide) (by exact rfl) (by exact rfl) dc_MO_list_86 89 rfl ?_
      refine jl_istore_n (i := 3) (lc2 := [(3, _), (0, _), (1, _)]) h rfl (by decide) rfl dc_MO_list_89 90 rfl ?_
      refine jl_aload_n (i := 0) h rfl rfl dc_MO_list_90 91 rfl ?_
      refine jl_aload_n (i := 0) h rfl rfl dc_MO_list_91 92 rfl ?_
      refine jl_getf (v := .int (nI fin.length)) h nm_c_MO 11 wl_MO_34 (by omega) (by decide) (by exact rfl) (by exact rfl) dc_MO_list_92 95 rfl ?_
      refine jl_sipush (v := nI 150) h (by decide) dc_MO_list_95 98 rfl ?_
      refine jl_icmp_le h 105 (by decide) dc_MO_list_98 101 rfl (fun c98 => ?_) (fun c98 => absurd (c9) c98)
      refine jl_aload_n (i := 0) h rfl rfl dc_MO_list_105 106 rfl ?_
      refine jl_getf (v := .int (nI fin.length)) h nm_c_MO 11 wl_MO_34 (by omega) (by decide) (by exact rfl) (by exact rfl) dc_MO_list_106 109 rfl ?_
      refine jl_putf (fs2 := [_, _, _, _, _, _, _, _, _, _, _, _, _, _]) h nm_c_MO 11 wl_MO_34 (by omega) (by decide) rfl (by exact rfl) (by rfl) (by rfl) (by exact Nat.le_of_ble_eq_true rfl) (by rfl) dc_MO_list_109 ((gw_set_mlisted _).trans (by rw [mo_iu])) 112 rfl ?_
      refine jl_iload_n (i := 3) h rfl rfl dc_MO_list_112 113 rfl ?_
      exact jl_zretP h he rfl (hpost _ _ (by unfold mo_ans; rw [if_neg hful]) (by unfold mo_kept; rw [if_neg hful])) dc_MO_list_113
  have step : ∀ (w : Nat → Int) (V1 : Nat → Nat → Int32) (ms ms2 : List (Nat → Int)), en_V b n w → ms.length ≤ 150 → (∀ u ∈ ms, en_V b n u) → (ms.map (mo_key b n)).Pairwise (· ≤ ·) → mo_fr3 V00 V1 → mo_rows b n ms V1 → ms2 = (if st_E b n w ≤ lim then mo_ins (mo_key b n) w ms else ms) → (∀ V2, mo_fr3 V00 V2 → mo_rows b n ms2 V2 → jl_J x 168 ad 0 0 (gw K ad (va_up I 17 (nI ms2.length)) (va_up V2 164 (fun k => iI ((en_dn b n n w).2 k))) L C G R) 28 [(2, .int (st_bI (en_dn b n n w).1)), (0, .ref (ad 160)), (1, .int (nI d))] []) → jl_J x 168 ad 0 0 (gw K ad (va_up I 17 (nI ms.length)) (va_up V1 164 (fun k => iI (w k))) L C G R) 28 [(2, .int 1), (0, .ref (ad 160)), (1, .int (nI d))] [] := by
    intro w V1 ms ms2 hw hl hmV hs hf hro hms2 kk
    have hO1 : mo_ok I V1 n b := mo_okF (mo_okF hO (fun c h1 h2 h3 => (hV00 c h1 h2 h3).symm)) hf
    have hEi := st_E_in hn (mo_bw_V hw) (b := b)
    have hle9 : iI (st_E b n w) ≤ iI lim ↔ st_E b n w ≤ lim := iI_le (by omega) (by omega) (by omega) (by omega)
    by_cases hin : st_E b n w ≤ lim
    · rw [if_pos hin] at hms2
      have hlen2 : nI (ms.length + 1) = nI ms2.length := by rw [hms2, mo_ins_len]
      have hput := fun l => c_MO_put l (K := K) (sa := sa) (ad := ad) (L := L) (C := C) (G := G) (R := R) (b := b) (w := w) (I := va_up I 17 (nI ms.length)) (V := va_up V1 164 (fun k => iI (w k))) (n := n) (ms := ms) hO.1 hn (va_up_self _ _ _) (mo_bw_V hw) (va_up_self _ _ _) (by omega) (mo_rowsV hro) (fun u hu => mo_bw_V (hmV u hu)) hs
      refine jl_iload_n (i := 2) h rfl rfl dc_MO_list_28 29 rfl ?_
      refine jl_if_eq h 70 (by decide) dc_MO_list_29 32 rfl (fun c29 => absurd c29 (by decide)) (fun c29 => ?_)
      refine jl_aload_n (i := 0) h rfl rfl dc_MO_list_32 33 rfl ?_
      refine jl_getf (v := .int (nI ms.length)) h nm_c_MO 11 wl_MO_34 (by omega) (by decide) (by exact rfl) (by exact rfl) dc_MO_list_33 36 rfl ?_
      refine jl_sipush (v := nI 150) h (by decide) dc_MO_list_36 39 rfl ?_
      refine jl_icmp_gt h 70 (by decide) dc_MO_list_39 42 rfl (fun c39 => absurd c39 (Int32.not_lt.mpr (nI_le (by omega) (by omega)))) (fun c39 => ?_)
      refine jl_aload_n (i := 0) h rfl rfl dc_MO_list_42 43 rfl ?_
      refine jl_callV (As := []) (rest := []) h hr vs_MO_90 vi_MO_energyNow vx_MO_energyNow (ci := 7) rfl (by omega) (by exact rfl) (fun l => c_MO_energyNow l (mo_ok17 (mo_okV hO1 (by decide))) (va_up_self _ _ _) hw) (by first | decide | omega) (by first | decide | omega) rfl rfl (Nat.le_of_ble_eq_true rfl) dc_MO_list_43 (res := [_]) rfl 46 rfl ?_
      refine jl_istore_n (i := 3) (lc2 := [(3, _), (2, _), (0, _), (1, _)]) h rfl (by decide) rfl dc_MO_list_46 47 rfl ?_
      refine jl_iload_n (i := 3) h rfl rfl dc_MO_list_47 48 rfl ?_
      refine jl_aload_n (i := 0) h rfl rfl dc_MO_list_48 49 rfl ?_
      refine jl_getf (v := .int (iI (mo_lo b n 0 (en_all b n)))) h nm_c_MO 8 wl_MO_81 (by omega) (by decide) (by exact rfl) (by exact sr_v hK.2.1) dc_MO_list_49 52 rfl ?_
      refine jl_iload_n (i := 1) h rfl rfl dc_MO_list_52 53 rfl ?_
      refine jl_iadd h dc_MO_list_53 54 rfl ?_
      rw [show iI (mo_lo b n 0 (en_all b n)) + nI d = iI lim by exact hsum]
      refine jl_icmp_gt h 62 (by decide) dc_MO_list_54 57 rfl (fun c54 => absurd c54 (Int32.not_lt.mpr (hle9.mpr hin))) (fun c54 => ?_)
      refine jl_aload_n (i := 0) h rfl rfl dc_MO_list_57 58 rfl ?_
      refine jl_iload_n (i := 3) h rfl rfl dc_MO_list_58 59 rfl ?_
      refine jl_callVV (As := [_]) (rest := []) h hr vs_MO_113 vi_MO_put vx_MO_put (ci := 7) rfl (by omega) (by exact rfl) (fun l => hput l) (by first | decide | omega) (by first | decide | omega) rfl rfl (Nat.le_of_ble_eq_true rfl) dc_MO_list_59 62 rfl ?_
      rintro E9 ⟨V2, q1, q2, rfl⟩
      rw [mo_iu, hlen2, mo_vs (V := V2) (q1 164 (by decide) (by decide))]
      rw [← hms2] at q2
      refine jl_aload_n (i := 0) h rfl rfl dc_MO_list_62 63 rfl ?_
      refine jl_callV (As := []) (rest := []) h hr vs_MO_97 vi_MO_nextStructure vx_MO_nextStructure (ci := 7) rfl (by omega) (by exact rfl) (fun l => c_MO_nextStructure l (mo_ok17 (mo_okF (mo_okV hO1 (by decide) (c := 164)) (fun c h1 h2 h3 => q1 c h2 h3))) (mo_bw_V hw)) (by first | decide | omega) (by first | decide | omega) rfl rfl (Nat.le_of_ble_eq_true rfl) dc_MO_list_63 (res := [_]) rfl 66 rfl ?_
      refine jl_istore_n (i := 2) (lc2 := [(2, _), (3, _), (0, _), (1, _)]) h rfl (by decide) rfl dc_MO_list_66 67 rfl ?_
      refine jl_goto h 28 (by decide) dc_MO_list_67 ?_
      refine jl_sub (lc2 := [(2, _), (0, _), (1, _)]) [0, 2, 3] rfl ?_
      exact kk V2 (fun c h1 h2 h3 => by rw [q1 c h2 h3, va_up_ne _ _ h1]; exact hf c h1 h2 h3) q2
    · rw [if_neg hin] at hms2
      subst hms2
      refine jl_iload_n (i := 2) h rfl rfl dc_MO_list_28 29 rfl ?_
      refine jl_if_eq h 70 (by decide) dc_MO_list_29 32 rfl (fun c29 => absurd c29 (by decide)) (fun c29 => ?_)
      refine jl_aload_n (i := 0) h rfl rfl dc_MO_list_32 33 rfl ?_
      refine jl_getf (v := .int (nI ms2.length)) h nm_c_MO 11 wl_MO_34 (by omega) (by decide) (by exact rfl) (by exact rfl) dc_MO_list_33 36 rfl ?_
      refine jl_sipush (v := nI 150) h (by decide) dc_MO_list_36 39 rfl ?_
      refine jl_icmp_gt h 70 (by decide) dc_MO_list_39 42 rfl (fun c39 => absurd c39 (Int32.not_lt.mpr (nI_le (by omega) (by omega)))) (fun c39 => ?_)
      refine jl_aload_n (i := 0) h rfl rfl dc_MO_list_42 43 rfl ?_
      refine jl_callV (As := []) (rest := []) h hr vs_MO_90 vi_MO_energyNow vx_MO_energyNow (ci := 7) rfl (by omega) (by exact rfl) (fun l => c_MO_energyNow l (mo_ok17 (mo_okV hO1 (by decide))) (va_up_self _ _ _) hw) (by first | decide | omega) (by first | decide | omega) rfl rfl (Nat.le_of_ble_eq_true rfl) dc_MO_list_43 (res := [_]) rfl 46 rfl ?_
      refine jl_istore_n (i := 3) (lc2 := [(3, _), (2, _), (0, _), (1, _)]) h rfl (by decide) rfl dc_MO_list_46 47 rfl ?_
      refine jl_iload_n (i := 3) h rfl rfl dc_MO_list_47 48 rfl ?_
      refine jl_aload_n (i := 0) h rfl rfl dc_MO_list_48 49 rfl ?_
      refine jl_getf (v := .int (iI (mo_lo b n 0 (en_all b n)))) h nm_c_MO 8 wl_MO_81 (by omega) (by decide) (by exact rfl) (by exact sr_v hK.2.1) dc_MO_list_49 52 rfl ?_
      refine jl_iload_n (i := 1) h rfl rfl dc_MO_list_52 53 rfl ?_
      refine jl_iadd h dc_MO_list_53 54 rfl ?_
      rw [show iI (mo_lo b n 0 (en_all b n)) + nI d = iI lim by exact hsum]
      refine jl_icmp_gt h 62 (by decide) dc_MO_list_54 57 rfl (fun c54 => ?_) (fun c54 => absurd (Int32.not_le.mp (fun h9 => hin (hle9.mp h9))) c54)
      refine jl_aload_n (i := 0) h rfl rfl dc_MO_list_62 63 rfl ?_
      refine jl_callV (As := []) (rest := []) h hr vs_MO_97 vi_MO_nextStructure vx_MO_nextStructure (ci := 7) rfl (by omega) (by exact rfl) (fun l => c_MO_nextStructure l (mo_ok17 hO1) (mo_bw_V hw)) (by first | decide | omega) (by first | decide | omega) rfl rfl (Nat.le_of_ble_eq_true rfl) dc_MO_list_63 (res := [_]) rfl 66 rfl ?_
      refine jl_istore_n (i := 2) (lc2 := [(2, _), (3, _), (0, _), (1, _)]) h rfl (by decide) rfl dc_MO_list_66 67 rfl ?_
      refine jl_goto h 28 (by decide) dc_MO_list_67 ?_
      refine jl_sub (lc2 := [(2, _), (0, _), (1, _)]) [0, 2, 3] rfl ?_
      exact kk V1 hf hro
  have loop : ∀ (ws : List (Nat → Int)) (w : Nat → Int) (V1 : Nat → Nat → Int32) (ms : List (Nat → Int)), (∀ u ∈ w :: ws, en_V b n u) → en_Ch (en_dn b n n) (fun _ => -1) (w :: ws) → ms.length ≤ 151 → (∀ u ∈ ms, en_V b n u) → (ms.map (mo_key b n)).Pairwise (· ≤ ·) → mo_fr3 V00 V1 → mo_rows b n ms V1 → fin = mo_run b n lim ms (w :: ws) → jl_J x 168 ad 0 0 (gw K ad (va_up I 17 (nI ms.length)) (va_up V1 164 (fun k => iI (w k))) L C G R) 28 [(2, .int 1), (0, .ref (ad 160)), (1, .int (nI d))] [] := by
    intro ws
    induction ws with
    | nil =>
      intro w V1 ms hV hch hl hmV hs hf hro hf9
      have hch : en_dn b n n w = (false, fun _ => -1) := hch
      by_cases hful : 150 < ms.length
      · have e9 : fin = ms := by rw [hf9]; unfold mo_run; rw [if_pos hful]
        subst e9
        refine jl_iload_n (i := 2) h rfl rfl dc_MO_list_28 29 rfl ?_
        refine jl_if_eq h 70 (by decide) dc_MO_list_29 32 rfl (fun c29 => absurd c29 (by decide)) (fun c29 => ?_)
        refine jl_aload_n (i := 0) h rfl rfl dc_MO_list_32 33 rfl ?_
        refine jl_getf (v := .int (nI fin.length)) h nm_c_MO 11 wl_MO_34 (by omega) (by decide) (by exact rfl) (by exact rfl) dc_MO_list_33 36 rfl ?_
        refine jl_sipush (v := nI 150) h (by decide) dc_MO_list_36 39 rfl ?_
        refine jl_icmp_gt h 70 (by decide) dc_MO_list_39 42 rfl (fun c39 => ?_) (fun c39 => absurd (nI_lt hful (by omega)) c39)
        refine jl_sub (lc2 := [(0, _), (1, _)]) [1, 2] rfl ?_
        exact t70 _ hl hmV hs (fun c h1 h2 h3 => by rw [va_up_ne _ _ h1]; exact hf c h1 h2 h3) (mo_rowsV hro)
      · have e9 : fin = (if st_E b n w ≤ lim then mo_ins (mo_key b n) w ms else ms) := by rw [hf9]; unfold mo_run; rw [if_neg hful]; rfl
        have hms2 : fin.length ≤ 151 ∧ (∀ u ∈ fin, en_V b n u) ∧ (fin.map (mo_key b n)).Pairwise (· ≤ ·) := by
          rw [e9]
          exact mo_step_ok (hV w List.mem_cons_self) (by omega) hmV hs
        refine step w V1 ms fin (hV w List.mem_cons_self) (by omega) hmV hs hf hro e9 (fun V2 k1 k2 => ?_)
        rw [hch]
        refine jl_iload_n (i := 2) h rfl rfl dc_MO_list_28 29 rfl ?_
        refine jl_if_eq h 70 (by decide) dc_MO_list_29 32 rfl (fun c29 => ?_) (fun c29 => absurd (rfl) c29)
        refine jl_sub (lc2 := [(0, _), (1, _)]) [1, 2] rfl ?_
        exact t70 _ hms2.1 hms2.2.1 hms2.2.2 (fun c h1 h2 h3 => by rw [va_up_ne _ _ h1]; exact k1 c h1 h2 h3) (mo_rowsV k2)
    | cons w2 ws ih =>
      intro w V1 ms hV hch hl hmV hs hf hro hf9
      have hch : en_dn b n n w = (true, w2) ∧ en_Ch (en_dn b n n) (fun _ => -1) (w2 :: ws) := hch
      by_cases hful : 150 < ms.length
      · have e9 : fin = ms := by rw [hf9]; unfold mo_run; rw [if_pos hful]
        subst e9
        refine jl_iload_n (i := 2) h rfl rfl dc_MO_list_28 29 rfl ?_
        refine jl_if_eq h 70 (by decide) dc_MO_list_29 32 rfl (fun c29 => absurd c29 (by decide)) (fun c29 => ?_)
        refine jl_aload_n (i := 0) h rfl rfl dc_MO_list_32 33 rfl ?_
        refine jl_getf (v := .int (nI fin.length)) h nm_c_MO 11 wl_MO_34 (by omega) (by decide) (by exact rfl) (by exact rfl) dc_MO_list_33 36 rfl ?_
        refine jl_sipush (v := nI 150) h (by decide) dc_MO_list_36 39 rfl ?_
        refine jl_icmp_gt h 70 (by decide) dc_MO_list_39 42 rfl (fun c39 => ?_) (fun c39 => absurd (nI_lt hful (by omega)) c39)
        refine jl_sub (lc2 := [(0, _), (1, _)]) [1, 2] rfl ?_
        exact t70 _ hl hmV hs (fun c h1 h2 h3 => by rw [va_up_ne _ _ h1]; exact hf c h1 h2 h3) (mo_rowsV hro)
      · have e9 : fin = mo_run b n lim (if st_E b n w ≤ lim then mo_ins (mo_key b n) w ms else ms) (w2 :: ws) := by
          rw [hf9]
          show (if 150 < ms.length then ms else mo_run b n lim (if st_E b n w ≤ lim then mo_ins (mo_key b n) w ms else ms) (w2 :: ws)) = _
          rw [if_neg hful]
        have hms2 := mo_step_ok (lim := lim) (hV w List.mem_cons_self) (show ms.length ≤ 150 by omega) hmV hs
        refine step w V1 ms _ (hV w List.mem_cons_self) (by omega) hmV hs hf hro rfl (fun V2 k1 k2 => ?_)
        rw [hch.1]
        exact ih w2 V2 _ (fun u hu => hV u (List.mem_cons_of_mem _ hu)) hch.2 hms2.1 hms2.2.1 hms2.2.2 k1 k2 e9
  obtain ⟨w, ws, hall⟩ : ∃ w ws, en_all b n = w :: ws := by
    have := en_all_chain b n
    cases hq : en_all b n with
    | nil => rw [hq] at this; exact absurd this id
    | cons w ws => exact ⟨w, ws, rfl⟩
  have hw0 : w = fun _ => -1 := by
    obtain ⟨l0, h9⟩ := en_L_head b n n 0 (fun _ => -1)
    have h8 : en_all b n = (fun _ => -1) :: l0 := h9
    rw [hall] at h8
    exact (List.cons.inj h8).1
  have hc9 := en_all_chain b n
  have hf0 := hfin
  rw [hall] at hc9 hf0
  have l0 := loop ws w V [] (by rw [← hall]; exact hm9) hc9 (by simp) (fun u hu => absurd hu List.not_mem_nil) List.Pairwise.nil hV00 (fun j hj => absurd hj (Nat.not_lt_zero j)) hf0
  rw [hw0] at l0
  refine jl_aload_n (i := 0) h rfl rfl dc_MO_list_17 18 rfl ?_
  refine jl_iconst (v := nI 0) h (by decide) dc_MO_list_18 19 rfl ?_
  refine jl_putf (fs2 := [_, _, _, _, _, _, _, _, _, _, _, _, _, _]) h nm_c_MO 11 wl_MO_34 (by omega) (by decide) rfl (by exact rfl) (by rfl) (by rfl) (by exact Nat.le_of_ble_eq_true rfl) (by rfl) dc_MO_list_19 (gw_set_mlisted _) 22 rfl ?_
  refine jl_aload_n (i := 0) h rfl rfl dc_MO_list_22 23 rfl ?_
  refine jl_callV (As := []) (rest := []) h hr vs_MO_78 vi_MO_begin vx_MO_begin (ci := 7) rfl (by omega) (by exact rfl) (fun l => c_MO_begin l) (by first | decide | omega) (by first | decide | omega) rfl rfl (Nat.le_of_ble_eq_true rfl) dc_MO_list_23 (res := []) rfl 26 rfl ?_
  refine jl_iconst (v := 1) h (by decide) dc_MO_list_26 27 rfl ?_
  refine jl_istore_n (i := 2) (lc2 := [(2, _), (0, _), (1, _)]) h rfl (by decide) rfl dc_MO_list_27 28 rfl ?_
  exact l0
theorem c_MO_list_known (hO : mo_ok I V n b) (hK : mo_known I n b) {d : Nat} (hd : d ≤ 300) : jl_CP l K sa yn_MO_list bc_MO_list 4 (some .int) 6 190 168 ad [.ref (ad 160), .int (nI d)] (gw K ad I V L C G R) (mo_lpost K ad I V L C G R n b d) := by
  refine jl_enterP (by decide) (Nat.le_of_ble_eq_true rfl) (fun x h he hr => ?_)
  show jl_J x 168 ad 0 0 (gw K ad I V L C G R) 0 [(0, .ref (ad 160)), (1, .int (nI d))] []
  have t := mo_list17 hO hK hd (fun _ _ _ _ => rfl) h he hr
  refine jl_iload_n (i := 1) h rfl rfl dc_MO_list_0 1 rfl ?_
  refine jl_if_lt h 11 (by decide) dc_MO_list_1 4 rfl (fun c1 => absurd c1 (nI_pos (by omega))) (fun c1 => ?_)
  refine jl_iload_n (i := 1) h rfl rfl dc_MO_list_4 5 rfl ?_
  refine jl_sipush (v := nI 300) h (by decide) dc_MO_list_5 8 rfl ?_
  refine jl_icmp_le h 13 (by decide) dc_MO_list_8 11 rfl (fun c8 => ?_) (fun c8 => absurd (nI_le hd (by decide)) c8)
  refine jl_aload_n (i := 0) h rfl rfl dc_MO_list_13 14 rfl ?_
  refine jl_callV (As := []) (rest := []) h hr vs_MO_101 vi_MO_look vx_MO_look (ci := 7) rfl (by omega) (by exact rfl) (fun l => c_MO_look_known l hK.1) (by first | decide | omega) (by first | decide | omega) rfl rfl (Nat.le_of_ble_eq_true rfl) dc_MO_list_14 (res := []) rfl 17 rfl ?_
  exact t
theorem c_MO_list (hO : mo_ok I V n b) (hK : I 13 = 0) {d : Nat} (hd : d ≤ 300) : jl_CP l K sa yn_MO_list bc_MO_list 4 (some .int) 6 190 168 ad [.ref (ad 160), .int (nI d)] (gw K ad I V L C G R) (mo_lpost K ad (mo_done I n b) V L C G R n b d) := by
  refine jl_enterP (by decide) (Nat.le_of_ble_eq_true rfl) (fun x h he hr => ?_)
  show jl_J x 168 ad 0 0 (gw K ad I V L C G R) 0 [(0, .ref (ad 160)), (1, .int (nI d))] []
  have t := mo_list17 (V := va_up V 164 (fun _ => iI (-1))) (mo_okI (mo_okV hO (by decide))) (mo_done_known I n b) hd (V00 := V) (fun c h1 _ _ => va_up_ne _ _ h1) h he hr
  refine jl_iload_n (i := 1) h rfl rfl dc_MO_list_0 1 rfl ?_
  refine jl_if_lt h 11 (by decide) dc_MO_list_1 4 rfl (fun c1 => absurd c1 (nI_pos (by omega))) (fun c1 => ?_)
  refine jl_iload_n (i := 1) h rfl rfl dc_MO_list_4 5 rfl ?_
  refine jl_sipush (v := nI 300) h (by decide) dc_MO_list_5 8 rfl ?_
  refine jl_icmp_le h 13 (by decide) dc_MO_list_8 11 rfl (fun c8 => ?_) (fun c8 => absurd (nI_le hd (by decide)) c8)
  refine jl_aload_n (i := 0) h rfl rfl dc_MO_list_13 14 rfl ?_
  refine jl_callV (As := []) (rest := []) h hr vs_MO_101 vi_MO_look vx_MO_look (ci := 7) rfl (by omega) (by exact rfl) (fun l => c_MO_look l hO hK) (by first | decide | omega) (by first | decide | omega) rfl rfl (Nat.le_of_ble_eq_true rfl) dc_MO_list_14 (res := []) rfl 17 rfl ?_
  exact t
end MO

