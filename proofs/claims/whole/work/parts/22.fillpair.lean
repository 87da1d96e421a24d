/-! FoldedStrand$NearList.fillPair, the two together, and collect. -/
def nl_G2 (b : Nat → Nat) (d i j : Nat) (regs : List (Nat × Nat × Nat)) (x t : Int) (c c2 : Nat) : List (Int × Int) := if en_cp b (i + 1 + c2) (j - 1 - c) = true then nl_F b d (some (i + 1 + c2, j - 1 - c)) regs (x + lp_w1 b i j (i + 1 + c2) (j - 1 - c)) (t - nl_dt (i + 1 + c2) (j - 1 - c)) else []
theorem nl_F_pair (b : Nat → Nat) (d i j : Nat) (regs : List (Nat × Nat × Nat)) (x t : Int) : nl_F b (d + 1) (some (i, j)) regs x t = nl_F b d none regs (x + lp_hp b i j) t ++ ((List.range (j - i - 5)).flatMap (fun c => (List.range (j - 1 - c - 4 - i)).flatMap (nl_G2 b d i j regs x t c)) ++ nl_F b d none ((3, i + 1, j) :: regs) (x + (38 + lp_wk b i j 5)) t) := by
  conv => lhs; unfold nl_F
  rfl
section NL
variable {K : Nat → ClassId} {sa : Nat → Nat} {ad : Nat → Nat} {C : Nat → Int32} {G : Nat → Nat} {b : Nat → Nat} {n : Nat} {pe : Nat → Nat → Int} {T : Nat → Nat → Nat → Int} {lim : Int} {d : Nat}
theorem nl_pair24 (hR : nl_CR K sa ad C G b n pe T lim d) (hQ : nl_CQ K sa ad C G b n pe T lim d) {l : Launch} {X : jl_X} {I : Nat → Int32} {V : Nat → Nat → Int32} {L : Nat → Int64} {R : Nat → Nat} {regs : List (Nat × Nat × Nat)} {x t : Int} {ac : List Int × Bool} {dep i j : Nat} (h : jl_ok X 168 ad K sa bc_NL_fillPair yn_NL_fillPair.cls 12) (hr : jl_r X (d + 1 + 12) (60 * (d + 1) + 300) 0 0) (he : jl_endP X 168 ad none (fun v E2 => v = none ∧ ∃ I2 V2 L2 R2, nl_st I V (nl_run lim ac (nl_F b (d + 1) (some (i, j)) regs x t)) regs I2 V2 L2 R2 ∧ E2 = gw K ad I2 V2 L2 C G R2)) (hcx : nl_cx b n pe T lim I V) (hac : nl_ac ac I L) (hM : nl_M regs V R) (hW : nl_W n regs) (hcp : en_cp b i j = true) (hjn : j < n) (hmu : nl_mu regs + 2 * (j - i) < d + 1) (hdep : dep + nl_mu regs + 2 * (j - i) ≤ 37) (hd38 : d + 1 ≤ 38) (hx1 : -1000 * (40 - ((d + 1 : Nat) : Int)) ≤ x) (hx2 : x ≤ 1000 * (40 - ((d + 1 : Nat) : Int))) (ht1 : -100000000000 * (41 - ((d + 1 : Nat) : Int)) ≤ t) (ht2 : t ≤ 100000000000 * (41 - ((d + 1 : Nat) : Int))) :
    jl_J X 168 ad 0 0 (gw K ad I V L C G R) 24 [(0, .ref (ad 148)), (1, .int (nI i)), (2, .int (nI j)), (3, .int (nI regs.length)), (4, .int (iI (x + pe i j + nl_sum T regs))), (5, .long (iL t)), (7, .int (nI dep))] [] := by
  obtain ⟨hcp4, hkd⟩ := en_cp_4 hcp
  have hn := hcx.2.2.1
  have hlen := nl_mu_len regs
  have hj18 : j < 18 := by omega
  have hi18 : i < 18 := by omega
  have hhp := lp_hp_in b i j
  have hwk := lp_wk_in b i j 5 (by decide)
  have third : ∀ (ac1 : List Int × Bool) (I1 : Nat → Int32) (V1 : Nat → Nat → Int32) (L1 : Nat → Int64) (R1 : Nat → Nat), nl_st I V ac1 regs I1 V1 L1 R1 → ac1 = nl_run lim (nl_run lim ac (nl_F b d none regs (x + lp_hp b i j) t)) ((List.range (j - i - 5)).flatMap (fun c => (List.range (j - 1 - c - 4 - i)).flatMap (nl_G2 b d i j regs x t c))) → jl_J X 168 ad 0 0 (gw K ad I1 V1 L1 C G R1) 172 [(9, .int (nI (j - 1 - (j - i - 5)))), (8, .int (iI (x + nl_sum T regs))), (0, .ref (ad 148)), (1, .int (nI i)), (2, .int (nI j)), (3, .int (nI regs.length)), (4, .int (iI (x + pe i j + nl_sum T regs))), (5, .long (iL t)), (7, .int (nI dep))] [] := by
    intro ac1 I1 V1 L1 R1 hst1 hac1
    have e209 : iI (x + nl_sum T regs) + iI (fo_many b (fun r => T (2 + r)) i j) = iI (x + (38 + lp_wk b i j 5) + nl_sum T ((3, i + 1, j) :: regs)) := by
      rw [iI_add]
      congr 1
      show x + nl_sum T regs + (38 + lp_wk b i j 5 + T (2 + 3) (i + 1) j) = x + (38 + lp_wk b i j 5) + (T (2 + 3) (i + 1) j + nl_sum T regs)
      omega
    have hfin : ∀ ac2 : List Int × Bool, ac2 = nl_run lim ac1 (nl_F b d none ((3, i + 1, j) :: regs) (x + (38 + lp_wk b i j 5)) t) → ac2 = nl_run lim ac (nl_F b (d + 1) (some (i, j)) regs x t) := by
      intro ac2 h2
      rw [nl_F_pair, nl_run_app, nl_run_app, ← hac1]
      exact h2
    refine jl_iload_n (i := 3) h rfl rfl dc_NL_fillPair_172 173 rfl ?_
    refine jl_bipush (v := nI 40) h (by decide) dc_NL_fillPair_173 175 rfl ?_
    refine jl_icmp_ge h 219 (by decide) dc_NL_fillPair_175 178 rfl (fun c175 => absurd c175 (nI_ge (by omega) (by decide))) (fun c175 => ?_)
    refine jl_aload_n (i := 0) h rfl rfl dc_NL_fillPair_178 179 rfl ?_
    refine jl_iload_n (i := 3) h rfl rfl dc_NL_fillPair_179 180 rfl ?_
    refine jl_aload_n (i := 0) h rfl rfl dc_NL_fillPair_180 181 rfl ?_
    refine jl_getf h nm_c_NL 9 wl_NL_47 (by omega) (by decide) (by exact rfl) (by rfl) dc_NL_fillPair_181 184 rfl ?_
    refine jl_getf h nm_c_FO 1 wl_NL_128 (by omega) (by decide) (by exact rfl) (by rfl) dc_NL_fillPair_184 187 rfl ?_
    refine jl_iload_n (i := 1) h rfl rfl dc_NL_fillPair_187 188 rfl ?_
    refine jl_iconst (v := 1) h (by decide) dc_NL_fillPair_188 189 rfl ?_
    refine jl_iadd h dc_NL_fillPair_189 190 rfl ?_
    rw [show nI i + 1 = nI (i + 1) by exact nI_1 i]
    refine jl_iload_n (i := 2) h rfl rfl dc_NL_fillPair_190 191 rfl ?_
    refine jl_callV (As := [_, _, _, _]) (rest := []) h hr vs_NL_68 vi_NL_setRegion vx_NL_setRegion (ci := 5) rfl (by omega) (by exact rfl) (fun l => c_NL_setRegion l (k := regs.length) (r := 3) (s := i + 1) (e := j) (by omega) (by decide)) (by first | decide | omega) (by first | decide | omega) rfl rfl (Nat.le_of_ble_eq_true rfl) dc_NL_fillPair_191 (res := []) rfl 194 rfl ?_
    refine jl_absVR (P := fun V9 R9 => nl_st I V ac1 ((3, i + 1, j) :: regs) I1 V9 L1 R9) (nl_set 3 (i + 1) j hst1) (fun V3 R3 hst3 => ?_)
    have hcx3 := hcx.to hst3.1 hst3.2.1
    refine jl_aload_n (i := 0) h rfl rfl dc_NL_fillPair_194 195 rfl ?_
    refine jl_iload_n (i := 3) h rfl rfl dc_NL_fillPair_195 196 rfl ?_
    refine jl_iconst (v := 1) h (by decide) dc_NL_fillPair_196 197 rfl ?_
    refine jl_iadd h dc_NL_fillPair_197 198 rfl ?_
    rw [show nI regs.length + 1 = nI (regs.length + 1) by exact nI_1 _]
    refine jl_iload h rfl dc_NL_fillPair_198 200 rfl ?_
    refine jl_aload_n (i := 0) h rfl rfl dc_NL_fillPair_200 201 rfl ?_
    refine jl_getf h nm_c_NL 9 wl_NL_47 (by omega) (by decide) (by exact rfl) (by rfl) dc_NL_fillPair_201 204 rfl ?_
    refine jl_iload_n (i := 1) h rfl rfl dc_NL_fillPair_204 205 rfl ?_
    refine jl_iload_n (i := 2) h rfl rfl dc_NL_fillPair_205 206 rfl ?_
    refine jl_callV (As := [_, _]) (rest := [_, _, _]) h hr vs_NL_131 vi_FO_leastWithMany vx_FO_leastWithMany (ci := 3) rfl (by omega) (by exact rfl) (fun l => c_FO_leastWithMany l hcx3.S (rg := fun r => T (2 + r)) hi18 hj18 (hcx3.T (r := 3) (s := i + 1) (e := j) (by decide) (by omega) (by omega))) (by first | decide | omega) (by first | decide | omega) rfl rfl (Nat.le_of_ble_eq_true rfl) dc_NL_fillPair_206 (res := [_, _, _, _]) rfl 209 rfl ?_
    refine jl_iadd h dc_NL_fillPair_209 210 rfl ?_
    rw [show iI (x + nl_sum T regs) + iI (fo_many b (fun r => T (2 + r)) i j) = iI (x + (38 + lp_wk b i j 5) + nl_sum T ((3, i + 1, j) :: regs)) by exact e209]
    refine jl_lload h rfl dc_NL_fillPair_210 212 rfl ?_
    refine jl_iload h rfl dc_NL_fillPair_212 214 rfl ?_
    refine jl_iconst (v := 1) h (by decide) dc_NL_fillPair_214 215 rfl ?_
    refine jl_iadd h dc_NL_fillPair_215 216 rfl ?_
    rw [show nI dep + 1 = nI (dep + 1) by exact nI_1 dep]
    refine jl_callVV (As := [_, _, _, _]) (rest := []) h hr vs_NL_76 vi_NL_fillRegions vx_NL_fillRegions (ci := 5) rfl (by omega) (by exact rfl) (fun l => hR l I1 V3 L1 R3 ((3, i + 1, j) :: regs) _ _ ac1 (dep + 1) hcx3 hst3.2.2.1 hst3.2.2.2 (fun q hq => by
      rcases List.mem_cons.mp hq with rfl | hq
      · exact ⟨by show 3 < 4; decide, by show i + 1 ≤ j; omega, by show j ≤ n; omega⟩
      · exact hW q hq) (by show 2 * (j - (i + 1)) + 1 + nl_mu regs < d; omega) (by show dep + 1 + (2 * (j - (i + 1)) + 1 + nl_mu regs) ≤ 37; omega) (by omega) (by omega) (by omega) (by omega) (by omega)) (by first | decide | omega) (by first | decide | omega) rfl rfl (Nat.le_of_ble_eq_true rfl) dc_NL_fillPair_216 219 rfl ?_
    rintro E9 ⟨I4, V4, L4, R4, hst4, rfl⟩
    exact jl_vretP h he (⟨rfl, I4, V4, L4, R4, by rw [← hfin _ rfl]; exact (hst3.trans hst4).tail, rfl⟩) dc_NL_fillPair_219
  have tail : ∀ (ac0 : List Int × Bool) (I0 : Nat → Int32) (V0 : Nat → Nat → Int32) (L0 : Nat → Int64) (R0 : Nat → Nat), nl_st I V ac0 regs I0 V0 L0 R0 → ac0 = nl_run lim ac (nl_F b d none regs (x + lp_hp b i j) t) → jl_J X 168 ad 0 0 (gw K ad I0 V0 L0 C G R0) 63 [(8, .int (iI (x + nl_sum T regs))), (0, .ref (ad 148)), (1, .int (nI i)), (2, .int (nI j)), (3, .int (nI regs.length)), (4, .int (iI (x + pe i j + nl_sum T regs))), (5, .long (iL t)), (7, .int (nI dep))] [] := by
    intro ac0 I0 V0 L0 R0 hst0 hac0
    have outer : ∀ (dd c : Nat), c + dd = j - i - 5 → ∀ (ac1 : List Int × Bool) (I1 : Nat → Int32) (V1 : Nat → Nat → Int32) (L1 : Nat → Int64) (R1 : Nat → Nat), nl_st I V ac1 regs I1 V1 L1 R1 → ac1 = nl_run lim ac0 ((List.range c).flatMap (fun c => (List.range (j - 1 - c - 4 - i)).flatMap (nl_G2 b d i j regs x t c))) → jl_J X 168 ad 0 0 (gw K ad I1 V1 L1 C G R1) 68 [(9, .int (nI (j - 1 - c))), (8, .int (iI (x + nl_sum T regs))), (0, .ref (ad 148)), (1, .int (nI i)), (2, .int (nI j)), (3, .int (nI regs.length)), (4, .int (iI (x + pe i j + nl_sum T regs))), (5, .long (iL t)), (7, .int (nI dep))] [] := by
      intro dd
      induction dd with
      | zero =>
        intro c hc ac1 I1 V1 L1 R1 hst1 hac1
        have hc : c = j - i - 5 := by omega
        subst hc
        have e1 : nI (j - 1 - (j - i - 5)) - nI i = nI (j - 1 - (j - i - 5) - i) := pk_sub (by omega)
        refine jl_iload h rfl dc_NL_fillPair_68 70 rfl ?_
        refine jl_iload_n (i := 1) h rfl rfl dc_NL_fillPair_70 71 rfl ?_
        refine jl_isub h dc_NL_fillPair_71 72 rfl ?_
        rw [show nI (j - 1 - (j - i - 5)) - nI i = nI (j - 1 - (j - i - 5) - i) by exact e1]
        refine jl_iconst (v := nI 4) h (by decide) dc_NL_fillPair_72 73 rfl ?_
        refine jl_icmp_le h 172 (by decide) dc_NL_fillPair_73 76 rfl (fun c73 => ?_) (fun c73 => absurd (nI_le (by omega) (by decide)) c73)
        exact third ac1 I1 V1 L1 R1 hst1 (by rw [← hac0]; exact hac1)
      | succ dd ih =>
        intro c hc ac1 I1 V1 L1 R1 hst1 hac1
        obtain ⟨m, hm⟩ : ∃ m, m = j - 1 - c := ⟨_, rfl⟩
        have ihn := ih (c + 1) (by omega)
        rw [show j - 1 - (c + 1) = m - 1 by omega] at ihn
        rw [← hm]
        have inner : ∀ (d2 c2 : Nat), c2 + d2 = m - 4 - i → ∀ (ac2 : List Int × Bool) (I2 : Nat → Int32) (V2 : Nat → Nat → Int32) (L2 : Nat → Int64) (R2 : Nat → Nat), nl_st I V ac2 regs I2 V2 L2 R2 → ac2 = nl_run lim ac1 ((List.range c2).flatMap (nl_G2 b d i j regs x t c)) → jl_J X 168 ad 0 0 (gw K ad I2 V2 L2 C G R2) 81 [(10, .int (nI (i + 1 + c2))), (9, .int (nI m)), (8, .int (iI (x + nl_sum T regs))), (0, .ref (ad 148)), (1, .int (nI i)), (2, .int (nI j)), (3, .int (nI regs.length)), (4, .int (iI (x + pe i j + nl_sum T regs))), (5, .long (iL t)), (7, .int (nI dep))] [] := by
          intro d2
          induction d2 with
          | zero =>
            intro c2 hc2 ac2 I2 V2 L2 R2 hst2 hac2
            have hc2 : c2 = m - 4 - i := by omega
            have em : nI m + Int32.ofInt (-1) = nI (m - 1) := by
              have h9 := pk_m1 (m - 1)
              rw [show m - 1 + 1 = m by omega] at h9
              exact h9
            refine jl_iload h rfl dc_NL_fillPair_81 83 rfl ?_
            refine jl_iload h rfl dc_NL_fillPair_83 85 rfl ?_
            refine jl_iconst (v := nI 4) h (by decide) dc_NL_fillPair_85 86 rfl ?_
            refine jl_isub h dc_NL_fillPair_86 87 rfl ?_
            refine jl_icmp_gt h 166 (by decide) dc_NL_fillPair_87 90 rfl (fun c87 => ?_) (fun c87 => absurd ((fo_gt (by omega) (by omega)).mpr (by omega)) c87)
            refine jl_iinc (i := 9) (d := -1) (lc2 := [(9, _), (10, _), (8, _), (0, _), (1, _), (2, _), (3, _), (4, _), (5, _), (7, _)]) (v2 := nI (m - 1)) h (by decide) rfl (em) rfl dc_NL_fillPair_166 169 rfl ?_
            refine jl_goto h 68 (by decide) dc_NL_fillPair_169 ?_
            refine jl_sub (lc2 := [(9, _), (8, _), (0, _), (1, _), (2, _), (3, _), (4, _), (5, _), (7, _)]) [0, 2, 3, 4, 5, 6, 7, 8, 9] rfl ?_
            exact ihn ac2 I2 V2 L2 R2 hst2 (by rw [nl_range_flat, nl_run_app, ← hac1, hac2, hc2, hm])
          | succ d2 ih2 =>
            intro c2 hc2 ac2 I2 V2 L2 R2 hst2 hac2
            have hk18 : i + 1 + c2 < 18 := by omega
            have hm18 : m < 18 := by omega
            have hcx2 := hcx.to hst2.1 hst2.2.1
            have hS2 : st_ok K ad (gw K ad I2 V2 L2 C G R2) n b := hcx2.S
            have hpe2 : V2 (6 + (i + 1 + c2)) m = iI (pe (i + 1 + c2) m) := hcx2.2.2.2.2.2.1.1 (i + 1 + c2) m (by omega) (by omega)
            have hw1 := lp_w1_in b i j (i + 1 + c2) m hj18 hk18
            have hd4 := nl_4_in (i + 1 + c2)
            have hd5 := nl_4_in m
            refine jl_iload h rfl dc_NL_fillPair_81 83 rfl ?_
            refine jl_iload h rfl dc_NL_fillPair_83 85 rfl ?_
            refine jl_iconst (v := nI 4) h (by decide) dc_NL_fillPair_85 86 rfl ?_
            refine jl_isub h dc_NL_fillPair_86 87 rfl ?_
            refine jl_icmp_gt h 166 (by decide) dc_NL_fillPair_87 90 rfl (fun c87 => absurd c87 (fun q => absurd ((fo_gt (by omega) (by omega)).mp q) (by omega))) (fun c87 => ?_)
            refine jl_aload_n (i := 0) h rfl rfl dc_NL_fillPair_90 91 rfl ?_
            refine jl_getf h nm_c_NL 7 wl_NL_39 (by omega) (by decide) (by exact rfl) (by rfl) dc_NL_fillPair_91 94 rfl ?_
            refine jl_iload h rfl dc_NL_fillPair_94 96 rfl ?_
            refine jl_iload h rfl dc_NL_fillPair_96 98 rfl ?_
            refine jl_callV (As := [_, _]) (rest := []) h hr vs_NL_95 vi_ST_canPair vx_ST_canPair (ci := 1) rfl (by omega) (by exact hS2.1) (fun l => c_ST_canPair l (by omega) hS2 hk18 hm18) (by first | decide | omega) (by first | decide | omega) rfl rfl (Nat.le_of_ble_eq_true rfl) dc_NL_fillPair_98 (res := [_]) rfl 101 rfl ?_
            refine jl_if_eq h 160 (by decide) dc_NL_fillPair_101 104 rfl (fun c101 => ?_) (fun c101 => ?_)
            · skip
              rw [st_b0] at c101
              refine jl_iinc (i := 10) (d := 1) (lc2 := [(10, _), (9, _), (8, _), (0, _), (1, _), (2, _), (3, _), (4, _), (5, _), (7, _)]) (v2 := nI (i + 1 + (c2 + 1))) h (by decide) rfl (by exact nI_1 (i + 1 + c2)) rfl dc_NL_fillPair_160 163 rfl ?_
              refine jl_goto h 81 (by decide) dc_NL_fillPair_163 ?_
              first | exact ih2 (c2 + 1) (by omega) _ I4 V4 L4 R4 (hst2.trans hst4) (by rw [nl_range_flat, nl_run_app, ← hac2, show nl_G2 b d i j regs x t c c2 = nl_F b d (some (i + 1 + c2, m)) regs (x + lp_w1 b i j (i + 1 + c2) m) (t - nl_dt (i + 1 + c2) m) by unfold nl_G2; rw [← hm, if_pos c101]]) | exact ih2 (c2 + 1) (by omega) ac2 I2 V2 L2 R2 hst2 (by rw [nl_range_flat, nl_run_app, ← hac2, show nl_G2 b d i j regs x t c c2 = [] by unfold nl_G2; rw [← hm, if_neg (by rw [c101]; decide)]]; rfl)
            · skip
              rw [st_b1] at c101
              have hq4 := en_cp_4 c101
              refine jl_iload h rfl dc_NL_fillPair_104 106 rfl ?_
              refine jl_aload_n (i := 0) h rfl rfl dc_NL_fillPair_106 107 rfl ?_
              refine jl_getf h nm_c_NL 8 wl_NL_43 (by omega) (by decide) (by exact rfl) (by rfl) dc_NL_fillPair_107 110 rfl ?_
              refine jl_iload_n (i := 1) h rfl rfl dc_NL_fillPair_110 111 rfl ?_
              refine jl_iload_n (i := 2) h rfl rfl dc_NL_fillPair_111 112 rfl ?_
              refine jl_iload h rfl dc_NL_fillPair_112 114 rfl ?_
              refine jl_iload h rfl dc_NL_fillPair_114 116 rfl ?_
              refine jl_callV (As := [_, _, _, _]) (rest := [_]) h hr vs_NL_124 vi_LO_withOne vx_LO_withOne (ci := 2) rfl (by omega) (by exact rfl) (fun l => c_LO_withOne l (by omega) hS2 rfl (by omega) (by omega) (by omega) hj18 hkd hq4.2) (by first | decide | omega) (by first | decide | omega) rfl rfl (Nat.le_of_ble_eq_true rfl) dc_NL_fillPair_116 (res := [_, _]) rfl 119 rfl ?_
              refine jl_iadd h dc_NL_fillPair_119 120 rfl ?_
              rw [show iI (x + nl_sum T regs) + iI (lp_w1 b i j (i + 1 + c2) m) = iI (x + nl_sum T regs + lp_w1 b i j (i + 1 + c2) m) by exact iI_add _ _]
              refine jl_aload_n (i := 0) h rfl rfl dc_NL_fillPair_120 121 rfl ?_
              refine jl_getf h nm_c_NL 9 wl_NL_47 (by omega) (by decide) (by exact rfl) (by rfl) dc_NL_fillPair_121 124 rfl ?_
              refine jl_getf h nm_c_FO 2 wl_NL_115 (by omega) (by decide) (by exact rfl) (by rfl) dc_NL_fillPair_124 127 rfl ?_
              refine jl_iload h rfl dc_NL_fillPair_127 129 rfl ?_
              refine jl_aald (t0 := 4) h (i + 1 + c2) (by exact rfl) (by omega) (by exact rfl) (by rfl) (by rfl) (by exact hk18) (by first | decide | assumption) (by exact if_pos hk18) dc_NL_fillPair_129 130 rfl ?_
              refine jl_iload h rfl dc_NL_fillPair_130 132 rfl ?_
              refine jl_iald (v := iI (pe (i + 1 + c2) m)) h (m) (by exact rfl) (by omega) (by exact gw_row (gw_i_6 _ hk18)) (by exact hm18) (by first | decide | assumption) (by exact hpe2) dc_NL_fillPair_132 133 rfl ?_
              refine jl_iadd h dc_NL_fillPair_133 134 rfl ?_
              rw [show iI (x + nl_sum T regs + lp_w1 b i j (i + 1 + c2) m) + iI (pe (i + 1 + c2) m) = iI (x + lp_w1 b i j (i + 1 + c2) m + pe (i + 1 + c2) m + nl_sum T regs) by rw [iI_add]; congr 1; omega]
              refine jl_istore (i := 11) (lc2 := [(11, _), (10, _), (9, _), (8, _), (0, _), (1, _), (2, _), (3, _), (4, _), (5, _), (7, _)]) h (by decide) rfl dc_NL_fillPair_134 136 rfl ?_
              refine jl_aload_n (i := 0) h rfl rfl dc_NL_fillPair_136 137 rfl ?_
              refine jl_iload h rfl dc_NL_fillPair_137 139 rfl ?_
              refine jl_iload h rfl dc_NL_fillPair_139 141 rfl ?_
              refine jl_iload_n (i := 3) h rfl rfl dc_NL_fillPair_141 142 rfl ?_
              refine jl_iload h rfl dc_NL_fillPair_142 144 rfl ?_
              refine jl_lload h rfl dc_NL_fillPair_144 146 rfl ?_
              refine jl_iload h rfl dc_NL_fillPair_146 148 rfl ?_
              refine jl_iload h rfl dc_NL_fillPair_148 150 rfl ?_
              refine jl_callS (As := [_, _, _]) (rest := [_, _, _, _, _]) h hr vs_NL_107 vt_NL_withPair (fun l => c_NL_withPair l hk18 hm18 t) (by first | decide | omega) (by first | decide | omega) rfl rfl (Nat.le_of_ble_eq_true rfl) dc_NL_fillPair_150 (res := [_, _, _, _, _, _]) rfl 153 rfl ?_
              refine jl_iload h rfl dc_NL_fillPair_153 155 rfl ?_
              refine jl_iconst (v := 1) h (by decide) dc_NL_fillPair_155 156 rfl ?_
              refine jl_iadd h dc_NL_fillPair_156 157 rfl ?_
              rw [show nI dep + 1 = nI (dep + 1) by exact nI_1 dep]
              refine jl_callVV (As := [_, _, _, _, _, _]) (rest := []) h hr vs_NL_111 vi_NL_fillPair vx_NL_fillPair (ci := 5) rfl (by omega) (by exact rfl) (fun l => hQ l I2 V2 L2 R2 regs _ _ ac2 (dep + 1) (i + 1 + c2) m hcx2 hst2.2.2.1 hst2.2.2.2 hW c101 (by omega) (by omega) (by omega) (by omega) (by omega) (by omega) (by unfold nl_dt; omega) (by unfold nl_dt; omega)) (by first | decide | omega) (by first | decide | omega) rfl rfl (Nat.le_of_ble_eq_true rfl) dc_NL_fillPair_157 160 rfl ?_
              rintro E9 ⟨I4, V4, L4, R4, hst4, rfl⟩
              refine jl_iinc (i := 10) (d := 1) (lc2 := [(10, _), (11, _), (9, _), (8, _), (0, _), (1, _), (2, _), (3, _), (4, _), (5, _), (7, _)]) (v2 := nI (i + 1 + (c2 + 1))) h (by decide) rfl (by exact nI_1 (i + 1 + c2)) rfl dc_NL_fillPair_160 163 rfl ?_
              refine jl_goto h 81 (by decide) dc_NL_fillPair_163 ?_
              refine jl_sub (lc2 := [(10, _), (9, _), (8, _), (0, _), (1, _), (2, _), (3, _), (4, _), (5, _), (7, _)]) [0, 2, 3, 4, 5, 6, 7, 8, 9, 10] rfl ?_
              first | exact ih2 (c2 + 1) (by omega) _ I4 V4 L4 R4 (hst2.trans hst4) (by rw [nl_range_flat, nl_run_app, ← hac2, show nl_G2 b d i j regs x t c c2 = nl_F b d (some (i + 1 + c2, m)) regs (x + lp_w1 b i j (i + 1 + c2) m) (t - nl_dt (i + 1 + c2) m) by unfold nl_G2; rw [← hm, if_pos c101]]) | exact ih2 (c2 + 1) (by omega) ac2 I2 V2 L2 R2 hst2 (by rw [nl_range_flat, nl_run_app, ← hac2, show nl_G2 b d i j regs x t c c2 = [] by unfold nl_G2; rw [← hm, if_neg (by rw [c101]; decide)]]; rfl)
        have e1 : nI m - nI i = nI (m - i) := pk_sub (by omega)
        refine jl_iload h rfl dc_NL_fillPair_68 70 rfl ?_
        refine jl_iload_n (i := 1) h rfl rfl dc_NL_fillPair_70 71 rfl ?_
        refine jl_isub h dc_NL_fillPair_71 72 rfl ?_
        rw [show nI m - nI i = nI (m - i) by exact e1]
        refine jl_iconst (v := nI 4) h (by decide) dc_NL_fillPair_72 73 rfl ?_
        refine jl_icmp_le h 172 (by decide) dc_NL_fillPair_73 76 rfl (fun c73 => absurd c73 (nI_ge (by omega) (by omega))) (fun c73 => ?_)
        refine jl_iload_n (i := 1) h rfl rfl dc_NL_fillPair_76 77 rfl ?_
        refine jl_iconst (v := 1) h (by decide) dc_NL_fillPair_77 78 rfl ?_
        refine jl_iadd h dc_NL_fillPair_78 79 rfl ?_
        rw [show nI i + 1 = nI (i + 1 + 0) by exact nI_1 i]
        refine jl_istore (i := 10) (lc2 := [(10, _), (9, _), (8, _), (0, _), (1, _), (2, _), (3, _), (4, _), (5, _), (7, _)]) h (by decide) rfl dc_NL_fillPair_79 81 rfl ?_
        exact inner (m - 4 - i) 0 (by omega) ac1 I1 V1 L1 R1 hst1 rfl
    have e9 : nI j - 1 = nI (j - 1 - 0) := by rw [show (1 : Int32) = nI 1 from rfl, pk_sub (by omega)]; rfl
    refine jl_iload_n (i := 2) h rfl rfl dc_NL_fillPair_63 64 rfl ?_
    refine jl_iconst (v := 1) h (by decide) dc_NL_fillPair_64 65 rfl ?_
    refine jl_isub h dc_NL_fillPair_65 66 rfl ?_
    rw [show nI j - 1 = nI (j - 1 - 0) by exact e9]
    refine jl_istore (i := 9) (lc2 := [(9, _), (8, _), (0, _), (1, _), (2, _), (3, _), (4, _), (5, _), (7, _)]) h (by decide) rfl dc_NL_fillPair_66 68 rfl ?_
    exact outer (j - i - 5) 0 (by omega) ac0 I0 V0 L0 R0 hst0 rfl
  have hpe0 : V (6 + i) j = iI (pe i j) := hcx.2.2.2.2.2.1.1 i j (by omega) hjn
  have e37 : iI (x + pe i j + nl_sum T regs) - iI (pe i j) = iI (x + nl_sum T regs) := by
    rw [iI_sub]
    congr 1
    omega
  have e53 : iI (x + nl_sum T regs) + iI (lp_hp b i j) = iI (x + lp_hp b i j + nl_sum T regs) := by
    rw [iI_add]
    congr 1
    omega
  refine jl_iload h rfl dc_NL_fillPair_24 26 rfl ?_
  refine jl_aload_n (i := 0) h rfl rfl dc_NL_fillPair_26 27 rfl ?_
  refine jl_getf h nm_c_NL 9 wl_NL_47 (by omega) (by decide) (by exact rfl) (by rfl) dc_NL_fillPair_27 30 rfl ?_
  refine jl_getf h nm_c_FO 2 wl_NL_115 (by omega) (by decide) (by exact rfl) (by rfl) dc_NL_fillPair_30 33 rfl ?_
  refine jl_iload_n (i := 1) h rfl rfl dc_NL_fillPair_33 34 rfl ?_
  refine jl_aald (t0 := 4) h (i) (by exact rfl) (by omega) (by exact rfl) (by rfl) (by rfl) (by exact hi18) (by first | decide | assumption) (by exact if_pos hi18) dc_NL_fillPair_34 35 rfl ?_
  refine jl_iload_n (i := 2) h rfl rfl dc_NL_fillPair_35 36 rfl ?_
  refine jl_iald (v := iI (pe i j)) h (j) (by exact rfl) (by omega) (by exact gw_row (gw_i_6 i hi18)) (by exact hj18) (by first | decide | assumption) (by exact hpe0) dc_NL_fillPair_36 37 rfl ?_
  refine jl_isub h dc_NL_fillPair_37 38 rfl ?_
  rw [show iI (x + pe i j + nl_sum T regs) - iI (pe i j) = iI (x + nl_sum T regs) by exact e37]
  refine jl_istore (i := 8) (lc2 := [(8, _), (0, _), (1, _), (2, _), (3, _), (4, _), (5, _), (7, _)]) h (by decide) rfl dc_NL_fillPair_38 40 rfl ?_
  refine jl_aload_n (i := 0) h rfl rfl dc_NL_fillPair_40 41 rfl ?_
  refine jl_iload_n (i := 3) h rfl rfl dc_NL_fillPair_41 42 rfl ?_
  refine jl_iload h rfl dc_NL_fillPair_42 44 rfl ?_
  refine jl_aload_n (i := 0) h rfl rfl dc_NL_fillPair_44 45 rfl ?_
  refine jl_getf h nm_c_NL 8 wl_NL_43 (by omega) (by decide) (by exact rfl) (by rfl) dc_NL_fillPair_45 48 rfl ?_
  refine jl_iload_n (i := 1) h rfl rfl dc_NL_fillPair_48 49 rfl ?_
  refine jl_iload_n (i := 2) h rfl rfl dc_NL_fillPair_49 50 rfl ?_
  refine jl_callV (As := [_, _]) (rest := [_, _, _]) h hr vs_NL_118 vi_LO_hairpin vx_LO_hairpin (ci := 2) rfl (by omega) (by exact rfl) (fun l => c_LO_hairpin l (by omega) hcx.S rfl hcp4 hj18) (by first | decide | omega) (by first | decide | omega) rfl rfl (Nat.le_of_ble_eq_true rfl) dc_NL_fillPair_50 (res := [_, _, _, _]) rfl 53 rfl ?_
  refine jl_iadd h dc_NL_fillPair_53 54 rfl ?_
  rw [show iI (x + nl_sum T regs) + iI (lp_hp b i j) = iI (x + lp_hp b i j + nl_sum T regs) by exact e53]
  refine jl_lload h rfl dc_NL_fillPair_54 56 rfl ?_
  refine jl_iload h rfl dc_NL_fillPair_56 58 rfl ?_
  refine jl_iconst (v := 1) h (by decide) dc_NL_fillPair_58 59 rfl ?_
  refine jl_iadd h dc_NL_fillPair_59 60 rfl ?_
  rw [show nI dep + 1 = nI (dep + 1) by exact nI_1 dep]
  refine jl_callVV (As := [_, _, _, _]) (rest := []) h hr vs_NL_76 vi_NL_fillRegions vx_NL_fillRegions (ci := 5) rfl (by omega) (by exact rfl) (fun l => hR l I V L R regs _ _ ac (dep + 1) hcx hac hM hW (by omega) (by omega) (by omega) (by omega) (by omega) (by omega) (by omega)) (by first | decide | omega) (by first | decide | omega) rfl rfl (Nat.le_of_ble_eq_true rfl) dc_NL_fillPair_60 63 rfl ?_
  rintro E9 ⟨I4, V4, L4, R4, hst4, rfl⟩
  exact tail _ I4 V4 L4 R4 hst4 rfl
theorem nl_stepQ (hR : nl_CR K sa ad C G b n pe T lim d) (hQ : nl_CQ K sa ad C G b n pe T lim d) : nl_CQ K sa ad C G b n pe T lim (d + 1) := by
  intro l I V L R regs x t ac dep i j hcx hac hM hW hcp hjn hmu hdep hd38 hx1 hx2 ht1 ht2
  refine jl_enterP (by decide) (Nat.le_of_ble_eq_true rfl) (fun X h he hr => ?_)
  show jl_J X 168 ad 0 0 (gw K ad I V L C G R) 0 [(0, .ref (ad 148)), (1, .int (nI i)), (2, .int (nI j)), (3, .int (nI regs.length)), (4, .int (iI (x + pe i j + nl_sum T regs))), (5, .long (iL t)), (7, .int (nI dep))] []
  have hcp4 := (en_cp_4 hcp).1
  have hn := hcx.2.2.1
  have hlen := nl_mu_len regs
  have hsum := nl_sum_in hcx regs hW
  have hpeB := hcx.2.2.2.2.2.2.1.1 i j (by omega) hjn
  have hlim := hcx.2.2.2.2.2.2.2.2
  have hlb := nl_lb hcx.2.2.2.2.2.2.2.1 (d + 1) (some (i, j)) regs x t hW (fun i2 j2 h => by cases h; exact ⟨hcp, hjn⟩)
  have k24 := nl_pair24 hR hQ (l := l) h hr he hcx hac hM hW hcp hjn hmu hdep hd38 hx1 hx2 ht1 ht2
  cases htm : ac.2 with
  | true =>
    have h2 : I 2 = st_bI true := by rw [hac.2.1, htm]
    refine jl_aload_n (i := 0) h rfl rfl dc_NL_fillPair_0 1 rfl ?_
    refine jl_getf (v := .int (st_bI true)) h nm_c_NL 2 wl_NL_19 (by omega) (by decide) (by exact rfl) (by exact sr_v h2) dc_NL_fillPair_1 4 rfl ?_
    refine jl_if_ne h 23 (by decide) dc_NL_fillPair_4 7 rfl (fun c4 => ?_) (fun c4 => absurd c4 (by decide))
    exact jl_vretP h he (⟨rfl, I, V, L, R, ⟨fun _ _ _ => rfl, fun _ _ _ => rfl, by rw [nl_run_tm _ _ htm]; exact hac, hM⟩, rfl⟩) dc_NL_fillPair_23
  | false =>
    have h2 : I 2 = st_bI false := by rw [hac.2.1, htm]
    refine jl_aload_n (i := 0) h rfl rfl dc_NL_fillPair_0 1 rfl ?_
    refine jl_getf (v := .int (st_bI false)) h nm_c_NL 2 wl_NL_19 (by omega) (by decide) (by exact rfl) (by exact sr_v h2) dc_NL_fillPair_1 4 rfl ?_
    refine jl_if_ne h 23 (by decide) dc_NL_fillPair_4 7 rfl (fun c4 => absurd (by decide) c4) (fun c4 => ?_)
    refine jl_iload h rfl dc_NL_fillPair_7 9 rfl ?_
    refine jl_aload_n (i := 0) h rfl rfl dc_NL_fillPair_9 10 rfl ?_
    refine jl_getf (v := .int (iI lim)) h nm_c_NL 3 wl_NL_23 (by omega) (by decide) (by exact rfl) (by exact sr_v hcx.2.2.2.2.1) dc_NL_fillPair_10 13 rfl ?_
    refine jl_icmp_gt h 23 (by decide) dc_NL_fillPair_13 16 rfl (fun c13 => ?_) (fun c13 => ?_)
    · skip
      rw [iI_lt (by omega) (by omega) (by omega) (by omega)] at c13
      exact jl_vretP h he (⟨rfl, I, V, L, R, ⟨fun _ _ _ => rfl, fun _ _ _ => rfl, by rw [nl_run_gt _ _ _ (fun c hc => Int.lt_of_lt_of_le c13 (by have := hlb c hc; have h9 : x + pe i j + nl_sum T regs ≤ c.1 := this; omega))]; exact hac, hM⟩, rfl⟩) dc_NL_fillPair_23
    · skip
      rw [iI_lt (by omega) (by omega) (by omega) (by omega)] at c13
      refine jl_iload h rfl dc_NL_fillPair_16 18 rfl ?_
      refine jl_bipush (v := nI 40) h (by decide) dc_NL_fillPair_18 20 rfl ?_
      refine jl_icmp_le h 24 (by decide) dc_NL_fillPair_20 23 rfl (fun c20 => ?_) (fun c20 => absurd (nI_le (by omega) (by decide)) c20)
      exact k24
theorem nl_search : ∀ d, nl_CR K sa ad C G b n pe T lim d ∧ nl_CQ K sa ad C G b n pe T lim d
  | 0 => ⟨fun l I V L R regs x t ac dep _ _ _ _ h => absurd h (by omega), fun l I V L R regs x t ac dep i j _ _ _ _ _ _ h => absurd h (by omega)⟩
  | d + 1 => ⟨nl_stepR (nl_search d).1 (nl_search d).2, nl_stepQ (nl_search d).1 (nl_search d).2⟩
end NL

