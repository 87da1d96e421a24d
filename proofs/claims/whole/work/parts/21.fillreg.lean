/-! FoldedStrand$NearList.fillRegions: the contract at a depth out of those at the next. -/
def nl_F2 (b : Nat → Nat) (d r s e : Nat) (rest : List (Nat × Nat × Nat)) (x t : Int) (c c2 : Nat) : List (Int × Int) := if en_cp b (s + c2) (e - 1 - c) = true then nl_F b d (some (s + c2, e - 1 - c)) ((fo_af r, s, s + c2) :: rest) (x + fo_pp r * ((c : Nat) : Int) + (fo_pq r + lp_wk b (s + c2) (e - 1 - c) 5)) (t - nl_dt (s + c2) (e - 1 - c)) else []
theorem nl_F_reg (b : Nat → Nat) (d r s e : Nat) (rest : List (Nat × Nat × Nat)) (x t : Int) : nl_F b (d + 1) none ((r, s, e) :: rest) x t = (if r < 2 then nl_F b d none rest (x + fo_pp r * ((e : Int) - s)) t else []) ++ (List.range (e - s - 4)).flatMap (fun c => (List.range (e - 1 - c - 3 - s)).flatMap (nl_F2 b d r s e rest x t c)) := rfl
theorem jl_absVR {x : jl_X} {N : Nat} {ad : Nat → Nat} {K : Nat → ClassId} {cells slots pc : Nat} {lc : List (Nat × Value)} {st : List Value} {I : Nat → Int32} {L : Nat → Int64} {C : Nat → Int32} {G : Nat → Nat} {P : (Nat → Nat → Int32) → (Nat → Nat) → Prop} {V0 : Nat → Nat → Int32} {R0 : Nat → Nat} (h : P V0 R0) (kk : ∀ V1 R1, P V1 R1 → jl_J x N ad cells slots (gw K ad I V1 L C G R1) pc lc st) : jl_J x N ad cells slots (gw K ad I V0 L C G R0) pc lc st := kk V0 R0 h
section NL
variable {K : Nat → ClassId} {sa : Nat → Nat} {ad : Nat → Nat} {C : Nat → Int32} {G : Nat → Nat} {b : Nat → Nat} {n : Nat} {pe : Nat → Nat → Int} {T : Nat → Nat → Nat → Int} {lim : Int} {d : Nat}
theorem nl_reg34 (hR : nl_CR K sa ad C G b n pe T lim d) (hQ : nl_CQ K sa ad C G b n pe T lim d) {l : Launch} {X : jl_X} {I : Nat → Int32} {V : Nat → Nat → Int32} {L : Nat → Int64} {R : Nat → Nat} {r s e : Nat} {rest : List (Nat × Nat × Nat)} {x t : Int} {ac : List Int × Bool} {dep : Nat} (h : jl_ok X 168 ad K sa bc_NL_fillRegions yn_NL_fillRegions.cls 15) (hr : jl_r X (d + 1 + 12) (60 * (d + 1) + 300) 0 0) (he : jl_endP X 168 ad none (fun v E2 => v = none ∧ ∃ I2 V2 L2 R2, nl_st I V (nl_run lim ac (nl_F b (d + 1) none ((r, s, e) :: rest) x t)) ((r, s, e) :: rest) I2 V2 L2 R2 ∧ E2 = gw K ad I2 V2 L2 C G R2)) (hcx : nl_cx b n pe T lim I V) (hac : nl_ac ac I L) (hM : nl_M ((r, s, e) :: rest) V R) (hW : nl_W n ((r, s, e) :: rest)) (hmu : nl_mu ((r, s, e) :: rest) < d + 1) (hdep : dep + nl_mu ((r, s, e) :: rest) ≤ 37) (hd38 : d + 1 ≤ 38) (hx1 : -1000 * (40 - ((d + 1 : Nat) : Int)) ≤ x) (hx2 : x ≤ 1000 * (40 - ((d + 1 : Nat) : Int))) (ht1 : -100000000000 * (41 - ((d + 1 : Nat) : Int)) ≤ t) (ht2 : t ≤ 100000000000 * (41 - ((d + 1 : Nat) : Int))) :
    jl_J X 168 ad 0 0 (gw K ad I V L C G R) 34 [(0, .ref (ad 148)), (1, .int (nI (rest.length + 1))), (2, .int (iI (x + nl_sum T ((r, s, e) :: rest)))), (3, .long (iL t)), (5, .int (nI dep))] [] := by
  have hw : r < 4 ∧ s ≤ e ∧ e ≤ n := hW (r, s, e) List.mem_cons_self
  obtain ⟨hr4, hse, hen⟩ := hw
  have hWr : nl_W n rest := fun q hq => hW q (List.mem_cons_of_mem _ hq)
  have hn := hcx.2.2.1
  have hmu2 : nl_mu ((r, s, e) :: rest) = 2 * (e - s) + 1 + nl_mu rest := rfl
  have hlen := nl_mu_len rest
  have hs19 : s < 19 := by omega
  have haf : fo_af r < 4 := fo_af_lt hr4
  have hpp : 0 ≤ fo_pp r ∧ fo_pp r ≤ 1 := by unfold fo_pp; split <;> decide
  have hpq : 0 ≤ fo_pq r ∧ fo_pq r ≤ 4 := by unfold fo_pq; split <;> decide
  obtain ⟨A, hA⟩ : ∃ A, A = (if r < 2 then nl_F b d none rest (x + fo_pp r * ((e : Int) - s)) t else []) := ⟨_, rfl⟩
  have eop : nI (rest.length + 1) - 1 = nI rest.length := nI_pred _
  have tail : ∀ (ac0 : List Int × Bool) (I0 : Nat → Int32) (V0 : Nat → Nat → Int32) (L0 : Nat → Int64) (R0 : Nat → Nat), nl_st I V ac0 rest I0 V0 L0 R0 → ac0 = nl_run lim ac A → jl_J X 168 ad 0 0 (gw K ad I0 V0 L0 C G R0) 113 [(9, .int (iI (x + nl_sum T rest))), (8, .int (nI e)), (7, .int (nI s)), (6, .ref (ad (64 + 21 * r))), (0, .ref (ad 148)), (1, .int (nI (rest.length + 1))), (2, .int (iI (x + nl_sum T ((r, s, e) :: rest)))), (3, .long (iL t)), (5, .int (nI dep))] [] := by
    intro ac0 I0 V0 L0 R0 hst0 hac0
    have outer : ∀ (dd c : Nat), c + dd = e - s - 4 → ∀ (ac1 : List Int × Bool) (I1 : Nat → Int32) (V1 : Nat → Nat → Int32) (L1 : Nat → Int64) (R1 : Nat → Nat), nl_st I V ac1 rest I1 V1 L1 R1 → ac1 = nl_run lim ac0 ((List.range c).flatMap (fun c => (List.range (e - 1 - c - 3 - s)).flatMap (nl_F2 b d r s e rest x t c))) → jl_J X 168 ad 0 0 (gw K ad I1 V1 L1 C G R1) 119 [(10, .int (iI ((e : Int) - 1 - c))), (9, .int (iI (x + nl_sum T rest))), (8, .int (nI e)), (7, .int (nI s)), (6, .ref (ad (64 + 21 * r))), (0, .ref (ad 148)), (1, .int (nI (rest.length + 1))), (2, .int (iI (x + nl_sum T ((r, s, e) :: rest)))), (3, .long (iL t)), (5, .int (nI dep))] [] := by
      intro dd
      induction dd with
      | zero =>
        intro c hc ac1 I1 V1 L1 R1 hst1 hac1
        have hc : c = e - s - 4 := by omega
        have ej : iI ((e : Int) - 1 - c) - nI s = iI ((e : Int) - 1 - c - s) := by rw [← iI_nat s, iI_sub]
        have hfin : ac1 = nl_run lim ac (nl_F b (d + 1) none ((r, s, e) :: rest) x t) := by rw [nl_F_reg, ← hA, nl_run_app, ← hac0, ← hc]; exact hac1
        rw [hfin] at hst1
        refine jl_iload h rfl dc_NL_fillRegions_119 121 rfl ?_
        refine jl_iload h rfl dc_NL_fillRegions_121 123 rfl ?_
        refine jl_isub h dc_NL_fillRegions_123 124 rfl ?_
        rw [show iI ((e : Int) - 1 - c) - nI s = iI ((e : Int) - 1 - c - s) by exact ej]
        refine jl_iconst (v := iI 4) h (by decide) dc_NL_fillRegions_124 125 rfl ?_
        refine jl_icmp_lt h 261 (by decide) dc_NL_fillRegions_125 128 rfl (fun c125 => ?_) (fun c125 => absurd ((iI_lt (by omega) (by omega) (by omega) (by omega)).mpr (by omega)) c125)
        refine jl_aload_n (i := 0) h rfl rfl dc_NL_fillRegions_261 262 rfl ?_
        refine jl_iload_n (i := 1) h rfl rfl dc_NL_fillRegions_262 263 rfl ?_
        refine jl_iconst (v := 1) h (by decide) dc_NL_fillRegions_263 264 rfl ?_
        refine jl_isub h dc_NL_fillRegions_264 265 rfl ?_
        rw [show nI (rest.length + 1) - 1 = nI rest.length by exact eop]
        refine jl_aload h rfl dc_NL_fillRegions_265 267 rfl ?_
        refine jl_iload h rfl dc_NL_fillRegions_267 269 rfl ?_
        refine jl_iload h rfl dc_NL_fillRegions_269 271 rfl ?_
        refine jl_callV (As := [_, _, _, _]) (rest := []) h hr vs_NL_68 vi_NL_setRegion vx_NL_setRegion (ci := 5) rfl (by omega) (by exact rfl) (fun l => c_NL_setRegion l (k := rest.length) (r := r) (s := s) (e := e) (by omega) hr4) (by first | decide | omega) (by first | decide | omega) rfl rfl (Nat.le_of_ble_eq_true rfl) dc_NL_fillRegions_271 (res := []) rfl 274 rfl ?_
        exact jl_vretP h he (⟨rfl, _, _, _, _, nl_set r s e hst1, rfl⟩) dc_NL_fillRegions_274
      | succ dd ih =>
        intro c hc ac1 I1 V1 L1 R1 hst1 hac1
        obtain ⟨m, hm⟩ : ∃ m, m = e - 1 - c := ⟨_, rfl⟩
        have ejm : iI ((e : Int) - 1 - c) = nI m := by
          rw [← iI_nat]
          congr 1
          omega
        rw [ejm]
        have ihn := ih (c + 1) (by omega)
        have inner : ∀ (d2 c2 : Nat), c2 + d2 = m - 3 - s → ∀ (ac2 : List Int × Bool) (I2 : Nat → Int32) (V2 : Nat → Nat → Int32) (L2 : Nat → Int64) (R2 : Nat → Nat), nl_st I V ac2 rest I2 V2 L2 R2 → ac2 = nl_run lim ac1 ((List.range c2).flatMap (nl_F2 b d r s e rest x t c)) → jl_J X 168 ad 0 0 (gw K ad I2 V2 L2 C G R2) 150 [(12, .int (nI (s + c2))), (11, .int (iI (x + nl_sum T rest + fo_pp r * ((c : Nat) : Int)))), (10, .int (nI m)), (9, .int (iI (x + nl_sum T rest))), (8, .int (nI e)), (7, .int (nI s)), (6, .ref (ad (64 + 21 * r))), (0, .ref (ad 148)), (1, .int (nI (rest.length + 1))), (2, .int (iI (x + nl_sum T ((r, s, e) :: rest)))), (3, .long (iL t)), (5, .int (nI dep))] [] := by
          intro d2
          induction d2 with
          | zero =>
            intro c2 hc2 ac2 I2 V2 L2 R2 hst2 hac2
            have hc2 : c2 = m - 3 - s := by omega
            have em : nI m + Int32.ofInt (-1) = iI ((e : Int) - 1 - ((c + 1 : Nat) : Int)) := by
              rw [← iI_nat]
              have h9 : iI (m : Int) + iI (-1) = iI ((m : Int) + -1) := iI_add _ _
              rw [show Int32.ofInt (-1) = iI (-1) from rfl, h9]
              congr 1
              omega
            refine jl_iload h rfl dc_NL_fillRegions_150 152 rfl ?_
            refine jl_iload h rfl dc_NL_fillRegions_152 154 rfl ?_
            refine jl_iconst (v := nI 4) h (by decide) dc_NL_fillRegions_154 155 rfl ?_
            refine jl_isub h dc_NL_fillRegions_155 156 rfl ?_
            refine jl_icmp_gt h 255 (by decide) dc_NL_fillRegions_156 159 rfl (fun c156 => ?_) (fun c156 => absurd ((fo_gt (by omega) (by omega)).mpr (by omega)) c156)
            refine jl_iinc (i := 10) (d := -1) (lc2 := [(10, _), (12, _), (11, _), (9, _), (8, _), (7, _), (6, _), (0, _), (1, _), (2, _), (3, _), (5, _)]) (v2 := iI ((e : Int) - 1 - ((c + 1 : Nat) : Int))) h (by decide) rfl (em) rfl dc_NL_fillRegions_255 258 rfl ?_
            refine jl_goto h 119 (by decide) dc_NL_fillRegions_258 ?_
            refine jl_sub (lc2 := [(10, _), (9, _), (8, _), (7, _), (6, _), (0, _), (1, _), (2, _), (3, _), (5, _)]) [0, 3, 4, 5, 6, 7, 8, 9, 10, 11] rfl ?_
            exact ihn ac2 I2 V2 L2 R2 hst2 (by rw [nl_range_flat, nl_run_app, ← hac1, hac2, hc2, hm])
          | succ d2 ih2 =>
            intro c2 hc2 ac2 I2 V2 L2 R2 hst2 hac2
            have hi18 : s + c2 < 18 := by omega
            have hm18 : m < 18 := by omega
            have hcx2 := hcx.to hst2.1 hst2.2.1
            have hS2 : st_ok K ad (gw K ad I2 V2 L2 C G R2) n b := hcx2.S
            have hwk := lp_wk_in b (s + c2) m 5 (by decide)
            have hppc : 0 ≤ fo_pp r * ((c : Nat) : Int) ∧ fo_pp r * ((c : Nat) : Int) ≤ (c : Int) := by
              rcases (show fo_pp r = 0 ∨ fo_pp r = 1 by omega) with h9 | h9 <;> rw [h9] <;> omega
            have hd4 := nl_4_in (s + c2)
            have hd5 := nl_4_in m
            refine jl_iload h rfl dc_NL_fillRegions_150 152 rfl ?_
            refine jl_iload h rfl dc_NL_fillRegions_152 154 rfl ?_
            refine jl_iconst (v := nI 4) h (by decide) dc_NL_fillRegions_154 155 rfl ?_
            refine jl_isub h dc_NL_fillRegions_155 156 rfl ?_
            refine jl_icmp_gt h 255 (by decide) dc_NL_fillRegions_156 159 rfl (fun c156 => absurd c156 (fun q => absurd ((fo_gt (by omega) (by omega)).mp q) (by omega))) (fun c156 => ?_)
            refine jl_aload_n (i := 0) h rfl rfl dc_NL_fillRegions_159 160 rfl ?_
            refine jl_getf h nm_c_NL 7 wl_NL_39 (by omega) (by decide) (by exact rfl) (by rfl) dc_NL_fillRegions_160 163 rfl ?_
            refine jl_iload h rfl dc_NL_fillRegions_163 165 rfl ?_
            refine jl_iload h rfl dc_NL_fillRegions_165 167 rfl ?_
            refine jl_callV (As := [_, _]) (rest := []) h hr vs_NL_95 vi_ST_canPair vx_ST_canPair (ci := 1) rfl (by omega) (by exact hS2.1) (fun l => c_ST_canPair l (by omega) hS2 hi18 hm18) (by first | decide | omega) (by first | decide | omega) rfl rfl (Nat.le_of_ble_eq_true rfl) dc_NL_fillRegions_167 (res := [_]) rfl 170 rfl ?_
            refine jl_if_eq h 249 (by decide) dc_NL_fillRegions_170 173 rfl (fun c170 => ?_) (fun c170 => ?_)
            · skip
              rw [st_b0] at c170
              refine jl_iinc (i := 12) (d := 1) (lc2 := [(12, _), (11, _), (10, _), (9, _), (8, _), (7, _), (6, _), (0, _), (1, _), (2, _), (3, _), (5, _)]) (v2 := nI (s + (c2 + 1))) h (by decide) rfl (by exact nI_1 (s + c2)) rfl dc_NL_fillRegions_249 252 rfl ?_
              refine jl_goto h 150 (by decide) dc_NL_fillRegions_252 ?_
              first | exact ih2 (c2 + 1) (by omega) _ I4 V4 L4 R4 (hst3.trans hst4).tail (by rw [nl_range_flat, nl_run_app, ← hac2, show nl_F2 b d r s e rest x t c c2 = nl_F b d (some (s + c2, m)) ((fo_af r, s, s + c2) :: rest) (x + fo_pp r * ((c : Nat) : Int) + (fo_pq r + lp_wk b (s + c2) m 5)) (t - nl_dt (s + c2) m) by unfold nl_F2; rw [← hm, if_pos c170]]) | exact ih2 (c2 + 1) (by omega) ac2 I2 V2 L2 R2 hst2 (by rw [nl_range_flat, nl_run_app, ← hac2, show nl_F2 b d r s e rest x t c c2 = [] by unfold nl_F2; rw [← hm, if_neg (by rw [c170]; decide)]]; rfl)
            · skip
              rw [st_b1] at c170
              have hcp4 := (en_cp_4 c170).1
              refine jl_aload_n (i := 0) h rfl rfl dc_NL_fillRegions_173 174 rfl ?_
              refine jl_iload_n (i := 1) h rfl rfl dc_NL_fillRegions_174 175 rfl ?_
              refine jl_iconst (v := 1) h (by decide) dc_NL_fillRegions_175 176 rfl ?_
              refine jl_isub h dc_NL_fillRegions_176 177 rfl ?_
              rw [show nI (rest.length + 1) - 1 = nI rest.length by exact eop]
              refine jl_aload h rfl dc_NL_fillRegions_177 179 rfl ?_
              refine jl_callV (As := []) (rest := [_, _]) h hr vs_NL_99 vi_RE_afterPair vx_RE_afterPair (ci := 4) rfl (by omega) (by exact gw_re hr4) (fun l => c_RE_after l hr4) (by first | decide | omega) (by first | decide | omega) rfl rfl (Nat.le_of_ble_eq_true rfl) dc_NL_fillRegions_179 (res := [_, _, _]) rfl 182 rfl ?_
              refine jl_iload h rfl dc_NL_fillRegions_182 184 rfl ?_
              refine jl_iload h rfl dc_NL_fillRegions_184 186 rfl ?_
              refine jl_callV (As := [_, _, _, _]) (rest := []) h hr vs_NL_68 vi_NL_setRegion vx_NL_setRegion (ci := 5) rfl (by omega) (by exact rfl) (fun l => c_NL_setRegion l (k := rest.length) (r := fo_af r) (s := s) (e := s + c2) (by omega) (fo_af_lt hr4)) (by first | decide | omega) (by first | decide | omega) rfl rfl (Nat.le_of_ble_eq_true rfl) dc_NL_fillRegions_186 (res := []) rfl 189 rfl ?_
              refine jl_absVR (P := fun V9 R9 => nl_st I V ac2 ((fo_af r, s, s + c2) :: rest) I2 V9 L2 R9) (nl_set (fo_af r) s (s + c2) hst2) (fun V3 R3 hst3 => ?_)
              have hcx3 := hcx.to hst3.1 hst3.2.1
              have hpe3 : V3 (6 + (s + c2)) m = iI (pe (s + c2) m) := hcx3.2.2.2.2.2.1.1 (s + c2) m (by omega) (by omega)
              refine jl_aload h rfl dc_NL_fillRegions_189 191 rfl ?_
              refine jl_callV (As := []) (rest := []) h hr vs_NL_99 vi_RE_afterPair vx_RE_afterPair (ci := 4) rfl (by omega) (by exact gw_re hr4) (fun l => c_RE_after l hr4) (by first | decide | omega) (by first | decide | omega) rfl rfl (Nat.le_of_ble_eq_true rfl) dc_NL_fillRegions_191 (res := [_]) rfl 194 rfl ?_
              refine jl_getf h nm_c_RE 2 wl_NL_84 (by omega) (by decide) (by exact gw_re (fo_af_lt hr4)) (by rfl) dc_NL_fillRegions_194 197 rfl ?_
              refine jl_iload h rfl dc_NL_fillRegions_197 199 rfl ?_
              refine jl_aald (t0 := 4) h (s) (by exact rfl) (by omega) (by exact gw_ra (fo_af_lt hr4)) (by rfl) (by rfl) (by exact hs19) (by first | decide | assumption) (by exact if_pos hs19) dc_NL_fillRegions_199 200 rfl ?_
              refine jl_iload h rfl dc_NL_fillRegions_200 202 rfl ?_
              refine jl_iald (v := iI (T (2 + fo_af r) s (s + c2))) h (s + c2) (by exact rfl) (by omega) (by exact gw_row (gw_rr (fo_af_lt hr4) hs19)) (by exact by omega) (by first | decide | assumption) (by exact hcx3.T (fo_af_lt hr4) (by omega) (by omega)) dc_NL_fillRegions_202 203 rfl ?_
              refine jl_istore (i := 13) (lc2 := [(13, _), (12, _), (11, _), (10, _), (9, _), (8, _), (7, _), (6, _), (0, _), (1, _), (2, _), (3, _), (5, _)]) h (by decide) rfl dc_NL_fillRegions_203 205 rfl ?_
              refine jl_iload h rfl dc_NL_fillRegions_205 207 rfl ?_
              refine jl_iload h rfl dc_NL_fillRegions_207 209 rfl ?_
              refine jl_iadd h dc_NL_fillRegions_209 210 rfl ?_
              rw [show iI (x + nl_sum T rest + fo_pp r * ((c : Nat) : Int)) + iI (T (2 + fo_af r) s (s + c2)) = iI (x + nl_sum T rest + fo_pp r * ((c : Nat) : Int) + T (2 + fo_af r) s (s + c2)) by exact iI_add _ _]
              refine jl_aload_n (i := 0) h rfl rfl dc_NL_fillRegions_210 211 rfl ?_
              refine jl_getf h nm_c_NL 9 wl_NL_47 (by omega) (by decide) (by exact rfl) (by rfl) dc_NL_fillRegions_211 214 rfl ?_
              refine jl_aload h rfl dc_NL_fillRegions_214 216 rfl ?_
              refine jl_iload h rfl dc_NL_fillRegions_216 218 rfl ?_
              refine jl_iload h rfl dc_NL_fillRegions_218 220 rfl ?_
              refine jl_callV (As := [_, _, _]) (rest := [_]) h hr vs_NL_103 vi_FO_branchEnergy vx_FO_branchEnergy (ci := 3) rfl (by omega) (by exact rfl) (fun l => c_FO_branch l hr4 hcx3.S hi18 hm18 hpe3) (by first | decide | omega) (by first | decide | omega) rfl rfl (Nat.le_of_ble_eq_true rfl) dc_NL_fillRegions_220 (res := [_, _]) rfl 223 rfl ?_
              refine jl_iadd h dc_NL_fillRegions_223 224 rfl ?_
              rw [show iI (x + nl_sum T rest + fo_pp r * ((c : Nat) : Int) + T (2 + fo_af r) s (s + c2)) + iI (fo_br b r pe (s + c2) m) = iI (x + fo_pp r * ((c : Nat) : Int) + (fo_pq r + lp_wk b (s + c2) m 5) + pe (s + c2) m + nl_sum T ((fo_af r, s, s + c2) :: rest)) by rw [iI_add]; congr 1; show _ = _ + (T (2 + fo_af r) s (s + c2) + nl_sum T rest); unfold fo_br; omega]
              refine jl_istore (i := 14) (lc2 := [(14, _), (13, _), (12, _), (11, _), (10, _), (9, _), (8, _), (7, _), (6, _), (0, _), (1, _), (2, _), (3, _), (5, _)]) h (by decide) rfl dc_NL_fillRegions_224 226 rfl ?_
              refine jl_aload_n (i := 0) h rfl rfl dc_NL_fillRegions_226 227 rfl ?_
              refine jl_iload h rfl dc_NL_fillRegions_227 229 rfl ?_
              refine jl_iload h rfl dc_NL_fillRegions_229 231 rfl ?_
              refine jl_iload_n (i := 1) h rfl rfl dc_NL_fillRegions_231 232 rfl ?_
              refine jl_iload h rfl dc_NL_fillRegions_232 234 rfl ?_
              refine jl_lload_n (i := 3) h rfl rfl dc_NL_fillRegions_234 235 rfl ?_
              refine jl_iload h rfl dc_NL_fillRegions_235 237 rfl ?_
              refine jl_iload h rfl dc_NL_fillRegions_237 239 rfl ?_
              refine jl_callS (As := [_, _, _]) (rest := [_, _, _, _, _]) h hr vs_NL_107 vt_NL_withPair (fun l => c_NL_withPair l hi18 hm18 t) (by first | decide | omega) (by first | decide | omega) rfl rfl (Nat.le_of_ble_eq_true rfl) dc_NL_fillRegions_239 (res := [_, _, _, _, _, _]) rfl 242 rfl ?_
              refine jl_iload h rfl dc_NL_fillRegions_242 244 rfl ?_
              refine jl_iconst (v := 1) h (by decide) dc_NL_fillRegions_244 245 rfl ?_
              refine jl_iadd h dc_NL_fillRegions_245 246 rfl ?_
              rw [show nI dep + 1 = nI (dep + 1) by exact nI_1 dep]
              refine jl_callVV (As := [_, _, _, _, _, _]) (rest := []) h hr vs_NL_111 vi_NL_fillPair vx_NL_fillPair (ci := 5) rfl (by omega) (by exact rfl) (fun l => hQ l I2 V3 L2 R3 ((fo_af r, s, s + c2) :: rest) _ _ ac2 (dep + 1) (s + c2) m hcx3 hst3.2.2.1 hst3.2.2.2 (fun q hq => by
                rcases List.mem_cons.mp hq with rfl | hq
                · exact ⟨fo_af_lt hr4, by show s ≤ s + c2; omega, by show s + c2 ≤ n; omega⟩
                · exact hWr q hq) c170 (by omega) (by show 2 * (s + c2 - s) + 1 + nl_mu rest + 2 * (m - (s + c2)) < d; omega) (by show dep + 1 + (2 * (s + c2 - s) + 1 + nl_mu rest) + 2 * (m - (s + c2)) ≤ 37; omega) (by omega) (by omega) (by omega) (by unfold nl_dt; omega) (by unfold nl_dt; omega)) (by first | decide | omega) (by first | decide | omega) rfl rfl (Nat.le_of_ble_eq_true rfl) dc_NL_fillRegions_246 249 rfl ?_
              rintro E9 ⟨I4, V4, L4, R4, hst4, rfl⟩
              refine jl_iinc (i := 12) (d := 1) (lc2 := [(12, _), (14, _), (13, _), (11, _), (10, _), (9, _), (8, _), (7, _), (6, _), (0, _), (1, _), (2, _), (3, _), (5, _)]) (v2 := nI (s + (c2 + 1))) h (by decide) rfl (by exact nI_1 (s + c2)) rfl dc_NL_fillRegions_249 252 rfl ?_
              refine jl_goto h 150 (by decide) dc_NL_fillRegions_252 ?_
              refine jl_sub (lc2 := [(12, _), (11, _), (10, _), (9, _), (8, _), (7, _), (6, _), (0, _), (1, _), (2, _), (3, _), (5, _)]) [0, 3, 4, 5, 6, 7, 8, 9, 10, 11, 12, 13] rfl ?_
              first | exact ih2 (c2 + 1) (by omega) _ I4 V4 L4 R4 (hst3.trans hst4).tail (by rw [nl_range_flat, nl_run_app, ← hac2, show nl_F2 b d r s e rest x t c c2 = nl_F b d (some (s + c2, m)) ((fo_af r, s, s + c2) :: rest) (x + fo_pp r * ((c : Nat) : Int) + (fo_pq r + lp_wk b (s + c2) m 5)) (t - nl_dt (s + c2) m) by unfold nl_F2; rw [← hm, if_pos c170]]) | exact ih2 (c2 + 1) (by omega) ac2 I2 V2 L2 R2 hst2 (by rw [nl_range_flat, nl_run_app, ← hac2, show nl_F2 b d r s e rest x t c c2 = [] by unfold nl_F2; rw [← hm, if_neg (by rw [c170]; decide)]]; rfl)
        have ej2 : nI m - nI s = nI (m - s) := pk_sub (by omega)
        have e138 : nI e - 1 = nI (e - 1) := by rw [show (1 : Int32) = nI 1 from rfl, pk_sub (by omega)]
        have e141 : nI (e - 1) - nI m = nI c := by rw [pk_sub (by omega)]; congr 1; omega
        have e143 : iI (x + nl_sum T rest) + iI (fo_pp r) * nI c = iI (x + nl_sum T rest + fo_pp r * ((c : Nat) : Int)) := by rw [← iI_nat c, iI_mul, iI_add]
        refine jl_iload h rfl dc_NL_fillRegions_119 121 rfl ?_
        refine jl_iload h rfl dc_NL_fillRegions_121 123 rfl ?_
        refine jl_isub h dc_NL_fillRegions_123 124 rfl ?_
        rw [show nI m - nI s = nI (m - s) by exact ej2]
        refine jl_iconst (v := nI 4) h (by decide) dc_NL_fillRegions_124 125 rfl ?_
        refine jl_icmp_lt h 261 (by decide) dc_NL_fillRegions_125 128 rfl (fun c125 => absurd c125 (nI_nlt (by omega) (by omega))) (fun c125 => ?_)
        refine jl_iload h rfl dc_NL_fillRegions_128 130 rfl ?_
        refine jl_aload h rfl dc_NL_fillRegions_130 132 rfl ?_
        refine jl_getf (v := .int (iI (fo_pp r))) h nm_c_RE 0 wl_NL_92 (by omega) (by decide) (by exact gw_re hr4) (by exact rfl) dc_NL_fillRegions_132 135 rfl ?_
        refine jl_iload h rfl dc_NL_fillRegions_135 137 rfl ?_
        refine jl_iconst (v := 1) h (by decide) dc_NL_fillRegions_137 138 rfl ?_
        refine jl_isub h dc_NL_fillRegions_138 139 rfl ?_
        rw [show nI e - 1 = nI (e - 1) by exact e138]
        refine jl_iload h rfl dc_NL_fillRegions_139 141 rfl ?_
        refine jl_isub h dc_NL_fillRegions_141 142 rfl ?_
        rw [show nI (e - 1) - nI m = nI c by exact e141]
        refine jl_imul h dc_NL_fillRegions_142 143 rfl ?_
        refine jl_iadd h dc_NL_fillRegions_143 144 rfl ?_
        rw [show iI (x + nl_sum T rest) + iI (fo_pp r) * nI c = iI (x + nl_sum T rest + fo_pp r * ((c : Nat) : Int)) by exact e143]
        refine jl_istore (i := 11) (lc2 := [(11, _), (10, _), (9, _), (8, _), (7, _), (6, _), (0, _), (1, _), (2, _), (3, _), (5, _)]) h (by decide) rfl dc_NL_fillRegions_144 146 rfl ?_
        refine jl_iload h rfl dc_NL_fillRegions_146 148 rfl ?_
        refine jl_istore (i := 12) (lc2 := [(12, _), (11, _), (10, _), (9, _), (8, _), (7, _), (6, _), (0, _), (1, _), (2, _), (3, _), (5, _)]) h (by decide) rfl dc_NL_fillRegions_148 150 rfl ?_
        exact inner (m - 3 - s) 0 (by omega) ac1 I1 V1 L1 R1 hst1 rfl
    have e116 : nI e - 1 = iI ((e : Int) - 1 - ((0 : Nat) : Int)) := by
      rw [← iI_nat, show (1 : Int32) = iI 1 from rfl, iI_sub]
      congr 1
      omega
    refine jl_iload h rfl dc_NL_fillRegions_113 115 rfl ?_
    refine jl_iconst (v := 1) h (by decide) dc_NL_fillRegions_115 116 rfl ?_
    refine jl_isub h dc_NL_fillRegions_116 117 rfl ?_
    rw [show nI e - 1 = iI ((e : Int) - 1 - ((0 : Nat) : Int)) by exact e116]
    refine jl_istore (i := 10) (lc2 := [(10, _), (9, _), (8, _), (7, _), (6, _), (0, _), (1, _), (2, _), (3, _), (5, _)]) h (by decide) rfl dc_NL_fillRegions_117 119 rfl ?_
    exact outer (e - s - 4) 0 (by omega) ac0 I0 V0 L0 R0 hst0 rfl
  have hT0 := hcx.T hr4 hse hen
  have e76 : iI (x + nl_sum T ((r, s, e) :: rest)) - iI (T (2 + r) s e) = iI (x + nl_sum T rest) := by
    rw [iI_sub]
    congr 1
    show x + (T (2 + r) s e + nl_sum T rest) - T (2 + r) s e = _
    omega
  have e104 : iI (x + nl_sum T rest) + iI (fo_pp r) * (nI e - nI s) = iI (x + fo_pp r * ((e : Int) - s) + nl_sum T rest) := by
    rw [← iI_nat e, ← iI_nat s, iI_sub, iI_mul, iI_add]
    congr 1
    omega
  have hppe : 0 ≤ fo_pp r * ((e : Int) - s) ∧ fo_pp r * ((e : Int) - s) ≤ (e : Int) - s := by
    rcases (show fo_pp r = 0 ∨ fo_pp r = 1 by omega) with h9 | h9 <;> rw [h9] <;> omega
  refine jl_aload_n (i := 0) h rfl rfl dc_NL_fillRegions_34 35 rfl ?_
  refine jl_getf h nm_c_NL 4 wl_NL_28 (by omega) (by decide) (by exact rfl) (by rfl) dc_NL_fillRegions_35 38 rfl ?_
  refine jl_iload_n (i := 1) h rfl rfl dc_NL_fillRegions_38 39 rfl ?_
  refine jl_iconst (v := 1) h (by decide) dc_NL_fillRegions_39 40 rfl ?_
  refine jl_isub h dc_NL_fillRegions_40 41 rfl ?_
  rw [show nI (rest.length + 1) - 1 = nI rest.length by exact eop]
  refine jl_aald (t0 := 3) h (rest.length) (by exact rfl) (by omega) (by exact rfl) (by rfl) (by rfl) (by exact by omega) (by first | decide | assumption) (by exact congrArg (fun z => some (ad z)) hM.1) dc_NL_fillRegions_41 42 rfl ?_
  refine jl_astore (i := 6) (lc2 := [(6, _), (0, _), (1, _), (2, _), (3, _), (5, _)]) h (by decide) rfl dc_NL_fillRegions_42 44 rfl ?_
  refine jl_aload_n (i := 0) h rfl rfl dc_NL_fillRegions_44 45 rfl ?_
  refine jl_getf h nm_c_NL 5 wl_NL_32 (by omega) (by decide) (by exact rfl) (by rfl) dc_NL_fillRegions_45 48 rfl ?_
  refine jl_iload_n (i := 1) h rfl rfl dc_NL_fillRegions_48 49 rfl ?_
  refine jl_iconst (v := 1) h (by decide) dc_NL_fillRegions_49 50 rfl ?_
  refine jl_isub h dc_NL_fillRegions_50 51 rfl ?_
  rw [show nI (rest.length + 1) - 1 = nI rest.length by exact eop]
  refine jl_iald (v := nI s) h (rest.length) (by exact rfl) (by omega) (by exact gw_row (len := 40) ⟨rfl, rfl⟩) (by exact by omega) (by first | decide | assumption) (by exact hM.2.1) dc_NL_fillRegions_51 52 rfl ?_
  refine jl_istore (i := 7) (lc2 := [(7, _), (6, _), (0, _), (1, _), (2, _), (3, _), (5, _)]) h (by decide) rfl dc_NL_fillRegions_52 54 rfl ?_
  refine jl_aload_n (i := 0) h rfl rfl dc_NL_fillRegions_54 55 rfl ?_
  refine jl_getf h nm_c_NL 6 wl_NL_36 (by omega) (by decide) (by exact rfl) (by rfl) dc_NL_fillRegions_55 58 rfl ?_
  refine jl_iload_n (i := 1) h rfl rfl dc_NL_fillRegions_58 59 rfl ?_
  refine jl_iconst (v := 1) h (by decide) dc_NL_fillRegions_59 60 rfl ?_
  refine jl_isub h dc_NL_fillRegions_60 61 rfl ?_
  rw [show nI (rest.length + 1) - 1 = nI rest.length by exact eop]
  refine jl_iald (v := nI e) h (rest.length) (by exact rfl) (by omega) (by exact gw_row (len := 40) ⟨rfl, rfl⟩) (by exact by omega) (by first | decide | assumption) (by exact hM.2.2.1) dc_NL_fillRegions_61 62 rfl ?_
  refine jl_istore (i := 8) (lc2 := [(8, _), (7, _), (6, _), (0, _), (1, _), (2, _), (3, _), (5, _)]) h (by decide) rfl dc_NL_fillRegions_62 64 rfl ?_
  refine jl_iload_n (i := 2) h rfl rfl dc_NL_fillRegions_64 65 rfl ?_
  refine jl_aload h rfl dc_NL_fillRegions_65 67 rfl ?_
  refine jl_getf h nm_c_RE 2 wl_NL_84 (by omega) (by decide) (by exact gw_re hr4) (by rfl) dc_NL_fillRegions_67 70 rfl ?_
  refine jl_iload h rfl dc_NL_fillRegions_70 72 rfl ?_
  refine jl_aald (t0 := 4) h (s) (by exact rfl) (by omega) (by exact gw_ra hr4) (by rfl) (by rfl) (by exact hs19) (by first | decide | assumption) (by exact if_pos hs19) dc_NL_fillRegions_72 73 rfl ?_
  refine jl_iload h rfl dc_NL_fillRegions_73 75 rfl ?_
  refine jl_iald (v := iI (T (2 + r) s e)) h (e) (by exact rfl) (by omega) (by exact gw_row (gw_rr hr4 hs19)) (by exact by omega) (by first | decide | assumption) (by exact hT0) dc_NL_fillRegions_75 76 rfl ?_
  refine jl_isub h dc_NL_fillRegions_76 77 rfl ?_
  rw [show iI (x + nl_sum T ((r, s, e) :: rest)) - iI (T (2 + r) s e) = iI (x + nl_sum T rest) by exact e76]
  refine jl_istore (i := 9) (lc2 := [(9, _), (8, _), (7, _), (6, _), (0, _), (1, _), (2, _), (3, _), (5, _)]) h (by decide) rfl dc_NL_fillRegions_77 79 rfl ?_
  refine jl_aload h rfl dc_NL_fillRegions_79 81 rfl ?_
  refine jl_callV (As := []) (rest := []) h hr vs_NL_88 vi_RE_mayBeUnpaired vx_RE_mayBeUnpaired (ci := 4) rfl (by omega) (by exact gw_re hr4) (fun l => c_RE_may l hr4) (by first | decide | omega) (by first | decide | omega) rfl rfl (Nat.le_of_ble_eq_true rfl) dc_NL_fillRegions_81 (res := [_]) rfl 84 rfl ?_
  refine jl_if_eq h 113 (by decide) dc_NL_fillRegions_84 87 rfl (fun c84 => ?_) (fun c84 => ?_)
  · skip
    rw [st_b0, decide_eq_false_iff_not] at c84
    first | exact tail _ I4 V4 L4 R4 hst4 (by rw [hA, if_pos c84]) | exact tail ac I V L R ⟨fun _ _ _ => rfl, fun _ _ _ => rfl, hac, hM.2.2.2⟩ (by rw [hA, if_neg c84]; rfl)
  · skip
    rw [st_b1, decide_eq_true_eq] at c84
    refine jl_aload_n (i := 0) h rfl rfl dc_NL_fillRegions_87 88 rfl ?_
    refine jl_iload_n (i := 1) h rfl rfl dc_NL_fillRegions_88 89 rfl ?_
    refine jl_iconst (v := 1) h (by decide) dc_NL_fillRegions_89 90 rfl ?_
    refine jl_isub h dc_NL_fillRegions_90 91 rfl ?_
    rw [show nI (rest.length + 1) - 1 = nI rest.length by exact eop]
    refine jl_iload h rfl dc_NL_fillRegions_91 93 rfl ?_
    refine jl_aload h rfl dc_NL_fillRegions_93 95 rfl ?_
    refine jl_getf (v := .int (iI (fo_pp r))) h nm_c_RE 0 wl_NL_92 (by omega) (by decide) (by exact gw_re hr4) (by exact rfl) dc_NL_fillRegions_95 98 rfl ?_
    refine jl_iload h rfl dc_NL_fillRegions_98 100 rfl ?_
    refine jl_iload h rfl dc_NL_fillRegions_100 102 rfl ?_
    refine jl_isub h dc_NL_fillRegions_102 103 rfl ?_
    refine jl_imul h dc_NL_fillRegions_103 104 rfl ?_
    refine jl_iadd h dc_NL_fillRegions_104 105 rfl ?_
    rw [show iI (x + nl_sum T rest) + iI (fo_pp r) * (nI e - nI s) = iI (x + fo_pp r * ((e : Int) - s) + nl_sum T rest) by exact e104]
    refine jl_lload_n (i := 3) h rfl rfl dc_NL_fillRegions_105 106 rfl ?_
    refine jl_iload h rfl dc_NL_fillRegions_106 108 rfl ?_
    refine jl_iconst (v := 1) h (by decide) dc_NL_fillRegions_108 109 rfl ?_
    refine jl_iadd h dc_NL_fillRegions_109 110 rfl ?_
    rw [show nI dep + 1 = nI (dep + 1) by exact nI_1 dep]
    refine jl_callVV (As := [_, _, _, _]) (rest := []) h hr vs_NL_76 vi_NL_fillRegions vx_NL_fillRegions (ci := 5) rfl (by omega) (by exact rfl) (fun l => hR l I V L R rest _ _ ac (dep + 1) hcx hac hM.2.2.2 hWr (by omega) (by omega) (by omega) (by omega) (by omega) (by omega) (by omega)) (by first | decide | omega) (by first | decide | omega) rfl rfl (Nat.le_of_ble_eq_true rfl) dc_NL_fillRegions_110 113 rfl ?_
    rintro E9 ⟨I4, V4, L4, R4, hst4, rfl⟩
    first | exact tail _ I4 V4 L4 R4 hst4 (by rw [hA, if_pos c84]) | exact tail ac I V L R ⟨fun _ _ _ => rfl, fun _ _ _ => rfl, hac, hM.2.2.2⟩ (by rw [hA, if_neg c84]; rfl)
theorem nl_stepR (hR : nl_CR K sa ad C G b n pe T lim d) (hQ : nl_CQ K sa ad C G b n pe T lim d) : nl_CR K sa ad C G b n pe T lim (d + 1) := by
  intro l I V L R regs x t ac dep hcx hac hM hW hmu hdep hd38 hx1 hx2 ht1 ht2
  refine jl_enterP (by decide) (Nat.le_of_ble_eq_true rfl) (fun X h he hr => ?_)
  show jl_J X 168 ad 0 0 (gw K ad I V L C G R) 0 [(0, .ref (ad 148)), (1, .int (nI regs.length)), (2, .int (iI (x + nl_sum T regs))), (3, .long (iL t)), (5, .int (nI dep))] []
  have hS : st_ok K ad (gw K ad I V L C G R) n b := hcx.S
  have hn := hcx.2.2.1
  have hlen := nl_mu_len regs
  have hsum := nl_sum_in hcx regs hW
  have hlim := hcx.2.2.2.2.2.2.2.2
  have hlb := nl_lb hcx.2.2.2.2.2.2.2.1 (d + 1) none regs x t hW (fun i j h => by cases h)
  cases htm : ac.2 with
  | true =>
    have h2 : I 2 = st_bI true := by rw [hac.2.1, htm]
    refine jl_aload_n (i := 0) h rfl rfl dc_NL_fillRegions_0 1 rfl ?_
    refine jl_getf (v := .int (st_bI true)) h nm_c_NL 2 wl_NL_19 (by omega) (by decide) (by exact rfl) (by exact sr_v h2) dc_NL_fillRegions_1 4 rfl ?_
    refine jl_if_ne h 22 (by decide) dc_NL_fillRegions_4 7 rfl (fun c4 => ?_) (fun c4 => absurd c4 (by decide))
    exact jl_vretP h he (⟨rfl, I, V, L, R, ⟨fun _ _ _ => rfl, fun _ _ _ => rfl, by rw [nl_run_tm _ _ htm]; exact hac, hM⟩, rfl⟩) dc_NL_fillRegions_22
  | false =>
    have h2 : I 2 = st_bI false := by rw [hac.2.1, htm]
    have step2 : x + nl_sum T regs ≤ lim → jl_J X 168 ad 0 0 (gw K ad I V L C G R) 23 [(0, .ref (ad 148)), (1, .int (nI regs.length)), (2, .int (iI (x + nl_sum T regs))), (3, .long (iL t)), (5, .int (nI dep))] [] := by
      intro hle
      match regs, hM, hW, hmu, hdep, hlen, hsum, he, hle with
      | [], hM, hW, hmu, hdep, hlen, hsum, he, hle =>
        have hx0 : x + nl_sum T [] = x := Int.add_zero x
        rw [hx0] at hle ⊢
        have hput : nl_run lim ac (nl_F b (d + 1) none [] x t) = nl_put lim ac (x, t) := rfl
        rcases Nat.lt_or_ge ac.1.length 150 with hlt | hge
        · have hz : nl_big (x * 68719476736 + t) := by unfold nl_big; omega
          have hput2 : nl_put lim ac (x, t) = (nl_ins (x * 68719476736 + t) ac.1, false) := by
            unfold nl_put
            rw [if_neg (by rw [htm]; simp; omega), if_neg (by omega)]
          refine jl_iload_n (i := 1) h rfl rfl dc_NL_fillRegions_23 24 rfl ?_
          refine jl_if_gt h 34 (by decide) dc_NL_fillRegions_24 27 rfl (fun c24 => absurd c24 (by decide)) (fun c24 => ?_)
          refine jl_aload_n (i := 0) h rfl rfl dc_NL_fillRegions_27 28 rfl ?_
          refine jl_iload_n (i := 2) h rfl rfl dc_NL_fillRegions_28 29 rfl ?_
          refine jl_lload_n (i := 3) h rfl rfl dc_NL_fillRegions_29 30 rfl ?_
          refine jl_callVV (As := [_, _]) (rest := []) h hr vs_NL_80 vi_NL_insert vx_NL_insert (ci := 5) rfl (by omega) (by exact rfl) (fun l => c_NL_insert l hac.1 hlt hac.2.2.1 hac.2.2.2.2.1 hac.2.2.2.2.2 (by omega) (by omega) hz) (by first | decide | omega) (by first | decide | omega) rfl rfl (Nat.le_of_ble_eq_true rfl) dc_NL_fillRegions_30 33 rfl ?_
          rintro E9 ⟨L2, hL2, rfl⟩
          exact jl_vretP h he (⟨rfl, _, V, L2, R, ⟨fun k h1 _ => va_up_ne _ _ h1, fun _ _ _ => rfl, by rw [hput, hput2]; exact ⟨by show va_up I 1 _ 1 = nI (nl_ins _ _).length; rw [va_up_self, nl_ins_len], (va_up_ne _ _ (by decide)).trans h2, hL2, by show (nl_ins _ _).length ≤ 150; rw [nl_ins_len]; omega, nl_ins_sorted _ _ hac.2.2.2.2.1, fun z hz2 => (nl_ins_mem _ _ z hz2).elim (fun q => by rw [q]; exact hz) (hac.2.2.2.2.2 z)⟩, hM⟩, rfl⟩) dc_NL_fillRegions_33
        · have hlen150 : ac.1.length = 150 := by have := hac.2.2.2.1; omega
          have hput2 : nl_put lim ac (x, t) = (ac.1, true) := by
            unfold nl_put
            rw [if_neg (by rw [htm]; simp; omega), if_pos hge]
          have hc1 : I 1 = nI 150 := by rw [hac.1, hlen150]
          refine jl_iload_n (i := 1) h rfl rfl dc_NL_fillRegions_23 24 rfl ?_
          refine jl_if_gt h 34 (by decide) dc_NL_fillRegions_24 27 rfl (fun c24 => absurd c24 (by decide)) (fun c24 => ?_)
          refine jl_aload_n (i := 0) h rfl rfl dc_NL_fillRegions_27 28 rfl ?_
          refine jl_iload_n (i := 2) h rfl rfl dc_NL_fillRegions_28 29 rfl ?_
          refine jl_lload_n (i := 3) h rfl rfl dc_NL_fillRegions_29 30 rfl ?_
          refine jl_callV (As := [_, _]) (rest := []) h hr vs_NL_80 vi_NL_insert vx_NL_insert (ci := 5) rfl (by omega) (by exact rfl) (fun l => c_NL_insert_full l hc1 x t) (by first | decide | omega) (by first | decide | omega) rfl rfl (Nat.le_of_ble_eq_true rfl) dc_NL_fillRegions_30 (res := []) rfl 33 rfl ?_
          exact jl_vretP h he (⟨rfl, _, V, L, R, ⟨fun k _ h1 => va_up_ne _ _ h1, fun _ _ _ => rfl, by rw [hput, hput2]; exact ⟨(va_up_ne _ _ (by decide)).trans hac.1, by show va_up I 2 1 2 = st_bI true; rw [va_up_self]; rfl, hac.2.2⟩, hM⟩, rfl⟩) dc_NL_fillRegions_33
      | (r, s, e) :: rest, hM, hW, hmu, hdep, hlen, hsum, he, hle =>
        have k34 := nl_reg34 hR hQ (l := l) h hr he hcx hac hM hW hmu hdep hd38 hx1 hx2 ht1 ht2
        have hz0 : (0 : Int32) < nI ((r, s, e) :: rest).length := by
          rw [show (0 : Int32) = nI 0 from rfl]
          exact nI_lt (by rw [List.length_cons]; omega) (by omega)
        refine jl_iload_n (i := 1) h rfl rfl dc_NL_fillRegions_23 24 rfl ?_
        refine jl_if_gt h 34 (by decide) dc_NL_fillRegions_24 27 rfl (fun c24 => ?_) (fun c24 => absurd (hz0) c24)
        exact k34
    refine jl_aload_n (i := 0) h rfl rfl dc_NL_fillRegions_0 1 rfl ?_
    refine jl_getf (v := .int (st_bI false)) h nm_c_NL 2 wl_NL_19 (by omega) (by decide) (by exact rfl) (by exact sr_v h2) dc_NL_fillRegions_1 4 rfl ?_
    refine jl_if_ne h 22 (by decide) dc_NL_fillRegions_4 7 rfl (fun c4 => absurd (by decide) c4) (fun c4 => ?_)
    refine jl_iload_n (i := 2) h rfl rfl dc_NL_fillRegions_7 8 rfl ?_
    refine jl_aload_n (i := 0) h rfl rfl dc_NL_fillRegions_8 9 rfl ?_
    refine jl_getf (v := .int (iI lim)) h nm_c_NL 3 wl_NL_23 (by omega) (by decide) (by exact rfl) (by exact sr_v hcx.2.2.2.2.1) dc_NL_fillRegions_9 12 rfl ?_
    refine jl_icmp_gt h 22 (by decide) dc_NL_fillRegions_12 15 rfl (fun c12 => ?_) (fun c12 => ?_)
    · skip
      rw [iI_lt (by omega) (by omega) (by omega) (by omega)] at c12
      exact jl_vretP h he (⟨rfl, I, V, L, R, ⟨fun _ _ _ => rfl, fun _ _ _ => rfl, by rw [nl_run_gt _ _ _ (fun c hc => Int.lt_of_lt_of_le c12 (by have := hlb c hc; have h9 : x + 0 + nl_sum T regs ≤ c.1 := this; omega))]; exact hac, hM⟩, rfl⟩) dc_NL_fillRegions_22
    · skip
      rw [iI_lt (by omega) (by omega) (by omega) (by omega)] at c12
      refine jl_iload h rfl dc_NL_fillRegions_15 17 rfl ?_
      refine jl_bipush (v := nI 40) h (by decide) dc_NL_fillRegions_17 19 rfl ?_
      refine jl_icmp_le h 23 (by decide) dc_NL_fillRegions_19 22 rfl (fun c19 => ?_) (fun c19 => absurd (nI_le (by omega) (by decide)) c19)
      exact step2 (by omega)
end NL

