/-! FoldedStrand$Folds: countPart, fillRegion. -/
theorem fo_ma_iI {a c : Int} (ha : fo_in a) (hc : fo_in c) : (if iI a < iI c then iI c else iI a) = iI (if a < c then c else a) := by
  unfold fo_in at *
  by_cases h : a < c
  · rw [if_pos h, if_pos ((iI_lt (by omega) (by omega) (by omega) (by omega)).mpr h)]
  · rw [if_neg h, if_neg (fun q => h ((iI_lt (by omega) (by omega) (by omega) (by omega)).mp q))]
section FO
variable (l : Launch) {K : Nat → ClassId} {sa : Nat → Nat} {ad : Nat → Nat} {I : Nat → Int32} {V : Nat → Nat → Int32} {L : Nat → Int64} {C : Nat → Int32} {G : Nat → Nat} {R : Nat → Nat} {n : Nat} {b : Nat → Nat} {pe cn pn : Nat → Nat → Int} {rg : Nat → Nat → Nat → Int}
theorem c_FO_countPart (hS : st_ok K ad (gw K ad I V L C G R) n b) {s t : Nat} (hs : s ≤ t) (ht : t < 18) (hC : ∀ i e, i ≤ e → e ≤ t → V (25 + i) e = iI (cn i e)) (hP : ∀ i e, i ≤ e → e ≤ t → V (45 + i) e = iI (pn i e)) (hP1 : ∀ i e, i ≤ e → e ≤ t → 0 ≤ pn i e ∧ pn i e ≤ 1000) : jl_C l K sa yn_FO_countPart bc_FO_countPart 7 none 2 50 168 ad [.ref (ad 4), .int (nI s), .int (nI (t + 1))] (gw K ad I V L C G R) none (gw K ad I (va_up (va_up V (25 + s) (upd (V (25 + s)) (t + 1) (iI (fo_cK b cn s t (t - 3 - s))))) (45 + s) (upd (V (45 + s)) (t + 1) (iI (fo_pK b pn s t (t - 3 - s))))) L C G R) := by
  refine jl_enter (by decide) (Nat.le_of_ble_eq_true rfl) (fun x h he hr => ?_)
  obtain ⟨hST, hbases, hn, hb⟩ := id hS
  show jl_J x 168 ad 0 0 (gw K ad I V L C G R) 0 [(0, .ref (ad 4)), (1, .int (nI s)), (2, .int (nI (t + 1)))] []
  have hs19 : s < 19 := by omega
  have loop : ∀ d c : Nat, c + d = t - 3 - s → jl_J x 168 ad 0 0 (gw K ad I V L C G R) 27 [(6, .int (nI (s + c))), (5, .int (iI (fo_pK b pn s t c))), (4, .int (iI (fo_cK b cn s t c))), (3, .int (nI t)), (0, .ref (ad 4)), (1, .int (nI s)), (2, .int (nI (t + 1)))] [] := by
    intro d
    induction d with
    | zero =>
      intro c hc
      have hc : c = t - 3 - s := by omega
      refine jl_iload h rfl dc_FO_countPart_27 29 rfl ?_
      refine jl_iload_n (i := 3) h rfl rfl dc_FO_countPart_29 30 rfl ?_
      refine jl_iconst (v := nI 4) h (by decide) dc_FO_countPart_30 31 rfl ?_
      refine jl_isub h dc_FO_countPart_31 32 rfl ?_
      refine jl_icmp_gt h 110 (by decide) dc_FO_countPart_32 35 rfl (fun c32 => ?_) (fun c32 => absurd ((fo_gt (by omega) (by omega)).mpr (by omega)) c32)
      refine jl_aload_n (i := 0) h rfl rfl dc_FO_countPart_110 111 rfl ?_
      refine jl_getf h nm_c_FO 5 wl_FO_16 (by omega) (by decide) (by exact rfl) (by rfl) dc_FO_countPart_111 114 rfl ?_
      refine jl_iload_n (i := 1) h rfl rfl dc_FO_countPart_114 115 rfl ?_
      refine jl_aald (t0 := 4) h (s) (by exact rfl) (by omega) (by exact rfl) (by rfl) (by rfl) (by exact hs19) (by first | decide | assumption) (by exact if_pos hs19) dc_FO_countPart_115 116 rfl ?_
      refine jl_iload_n (i := 2) h rfl rfl dc_FO_countPart_116 117 rfl ?_
      refine jl_iload h rfl dc_FO_countPart_117 119 rfl ?_
      refine jl_iast h (t + 1) (by exact rfl) (by omega) (by exact gw_row (gw_i_25 s hs19)) (by exact by omega) (by first | decide | assumption) dc_FO_countPart_119 (gw_rowset (gw_i_25 s hs19) _) 120 rfl ?_
      refine jl_aload_n (i := 0) h rfl rfl dc_FO_countPart_120 121 rfl ?_
      refine jl_getf h nm_c_FO 6 wl_FO_19 (by omega) (by decide) (by exact rfl) (by rfl) dc_FO_countPart_121 124 rfl ?_
      refine jl_iload_n (i := 1) h rfl rfl dc_FO_countPart_124 125 rfl ?_
      refine jl_aald (t0 := 4) h (s) (by exact rfl) (by omega) (by exact rfl) (by rfl) (by rfl) (by exact hs19) (by first | decide | assumption) (by exact if_pos hs19) dc_FO_countPart_125 126 rfl ?_
      refine jl_iload_n (i := 2) h rfl rfl dc_FO_countPart_126 127 rfl ?_
      refine jl_iload h rfl dc_FO_countPart_127 129 rfl ?_
      refine jl_iast h (t + 1) (by exact rfl) (by omega) (by exact gw_row (gw_i_45 s hs19)) (by exact by omega) (by first | decide | assumption) dc_FO_countPart_129 (gw_rowset (gw_i_45 s hs19) _) 130 rfl ?_
      exact jl_vret h he (rfl) (by rw [hc, va_up_ne V (k := 25 + s) (j := 45 + s) _ (by omega)]) dc_FO_countPart_130
    | succ d ih =>
      intro c hc
      have hk0 : s + c < 18 := by omega
      have hk1 : s + c + 1 < 19 := by omega
      have q1 := hC s (s + c) (by omega) (by omega)
      have q2 := hC (s + c + 1) t (by omega) (by omega)
      have q3 := hP s (s + c) (by omega) (by omega)
      have q4 := hP (s + c + 1) t (by omega) (by omega)
      have g3 := hP1 s (s + c) (by omega) (by omega)
      have g4 := hP1 (s + c + 1) t (by omega) (by omega)
      have g5 := fo_pK_in (b := b) (s := s) hP1 c (by omega)
      have i1 : fo_in (fo_pK b pn s t c) := by unfold fo_in; omega
      have i2 : fo_in (pn s (s + c) + 1 + pn (s + c + 1) t) := by unfold fo_in; omega
      refine jl_iload h rfl dc_FO_countPart_27 29 rfl ?_
      refine jl_iload_n (i := 3) h rfl rfl dc_FO_countPart_29 30 rfl ?_
      refine jl_iconst (v := nI 4) h (by decide) dc_FO_countPart_30 31 rfl ?_
      refine jl_isub h dc_FO_countPart_31 32 rfl ?_
      refine jl_icmp_gt h 110 (by decide) dc_FO_countPart_32 35 rfl (fun c32 => absurd c32 (fun q => absurd ((fo_gt (by omega) (by omega)).mp q) (by omega))) (fun c32 => ?_)
      refine jl_aload_n (i := 0) h rfl rfl dc_FO_countPart_35 36 rfl ?_
      refine jl_getf h nm_c_FO 7 wl_FO_22 (by omega) (by decide) (by exact rfl) (by rfl) dc_FO_countPart_36 39 rfl ?_
      refine jl_iload h rfl dc_FO_countPart_39 41 rfl ?_
      refine jl_iload_n (i := 3) h rfl rfl dc_FO_countPart_41 42 rfl ?_
      refine jl_callV (As := [_, _]) (rest := []) h hr vs_FO_57 vi_ST_canPair vx_ST_canPair (ci := 1) rfl (by omega) (by exact hST) (fun l => c_ST_canPair l (by omega) hS hk0 ht) (by first | decide | omega) (by first | decide | omega) rfl rfl (Nat.le_of_ble_eq_true rfl) dc_FO_countPart_42 (res := [_]) rfl 45 rfl ?_
      refine jl_if_eq h 104 (by decide) dc_FO_countPart_45 48 rfl (fun c45 => ?_) (fun c45 => ?_)
      · skip
        rw [st_b0] at c45
        refine jl_iinc (i := 6) (d := 1) (lc2 := [(6, _), (5, _), (4, _), (3, _), (0, _), (1, _), (2, _)]) (v2 := nI (s + (c + 1))) h (by decide) rfl (by exact nI_1 (s + c)) rfl dc_FO_countPart_104 107 rfl ?_
        refine jl_goto h 27 (by decide) dc_FO_countPart_107 ?_
        first | (rw [show fo_pK b pn s t c = fo_pK b pn s t (c + 1) by simp [fo_pK, c45], show fo_cK b cn s t c = fo_cK b cn s t (c + 1) by simp [fo_cK, c45]]; exact ih (c + 1) (by omega)) | exact ih (c + 1) (by omega)
      · skip
        rw [st_b1] at c45
        refine jl_iload h rfl dc_FO_countPart_48 50 rfl ?_
        refine jl_aload_n (i := 0) h rfl rfl dc_FO_countPart_50 51 rfl ?_
        refine jl_getf h nm_c_FO 5 wl_FO_16 (by omega) (by decide) (by exact rfl) (by rfl) dc_FO_countPart_51 54 rfl ?_
        refine jl_iload_n (i := 1) h rfl rfl dc_FO_countPart_54 55 rfl ?_
        refine jl_aald (t0 := 4) h (s) (by exact rfl) (by omega) (by exact rfl) (by rfl) (by rfl) (by exact hs19) (by first | decide | assumption) (by exact if_pos hs19) dc_FO_countPart_55 56 rfl ?_
        refine jl_iload h rfl dc_FO_countPart_56 58 rfl ?_
        refine jl_iald (v := iI (cn s (s + c))) h (s + c) (by exact rfl) (by omega) (by exact gw_row (gw_i_25 s hs19)) (by exact by omega) (by first | decide | assumption) (by exact q1) dc_FO_countPart_58 59 rfl ?_
        refine jl_aload_n (i := 0) h rfl rfl dc_FO_countPart_59 60 rfl ?_
        refine jl_getf h nm_c_FO 5 wl_FO_16 (by omega) (by decide) (by exact rfl) (by rfl) dc_FO_countPart_60 63 rfl ?_
        refine jl_iload h rfl dc_FO_countPart_63 65 rfl ?_
        refine jl_iconst (v := 1) h (by decide) dc_FO_countPart_65 66 rfl ?_
        refine jl_iadd h dc_FO_countPart_66 67 rfl ?_
        rw [show nI (s + c) + 1 = nI (s + c + 1) by exact nI_1 (s + c)]
        refine jl_aald (t0 := 4) h (s + c + 1) (by exact rfl) (by omega) (by exact rfl) (by rfl) (by rfl) (by exact hk1) (by first | decide | assumption) (by exact if_pos hk1) dc_FO_countPart_67 68 rfl ?_
        refine jl_iload_n (i := 3) h rfl rfl dc_FO_countPart_68 69 rfl ?_
        refine jl_iald (v := iI (cn (s + c + 1) t)) h (t) (by exact rfl) (by omega) (by exact gw_row (gw_i_25 _ hk1)) (by exact by omega) (by first | decide | assumption) (by exact q2) dc_FO_countPart_69 70 rfl ?_
        refine jl_imul h dc_FO_countPart_70 71 rfl ?_
        rw [show iI (cn s (s + c)) * iI (cn (s + c + 1) t) = iI (cn s (s + c) * cn (s + c + 1) t) by exact iI_mul _ _]
        refine jl_iadd h dc_FO_countPart_71 72 rfl ?_
        rw [show iI (fo_cK b cn s t c) + iI (cn s (s + c) * cn (s + c + 1) t) = iI (fo_cK b cn s t (c + 1)) by rw [iI_add]; simp only [fo_cK, c45, if_true]]
        refine jl_istore (i := 4) (lc2 := [(4, _), (6, _), (5, _), (3, _), (0, _), (1, _), (2, _)]) h (by decide) rfl dc_FO_countPart_72 74 rfl ?_
        refine jl_iload h rfl dc_FO_countPart_74 76 rfl ?_
        refine jl_aload_n (i := 0) h rfl rfl dc_FO_countPart_76 77 rfl ?_
        refine jl_getf h nm_c_FO 6 wl_FO_19 (by omega) (by decide) (by exact rfl) (by rfl) dc_FO_countPart_77 80 rfl ?_
        refine jl_iload_n (i := 1) h rfl rfl dc_FO_countPart_80 81 rfl ?_
        refine jl_aald (t0 := 4) h (s) (by exact rfl) (by omega) (by exact rfl) (by rfl) (by rfl) (by exact hs19) (by first | decide | assumption) (by exact if_pos hs19) dc_FO_countPart_81 82 rfl ?_
        refine jl_iload h rfl dc_FO_countPart_82 84 rfl ?_
        refine jl_iald (v := iI (pn s (s + c))) h (s + c) (by exact rfl) (by omega) (by exact gw_row (gw_i_45 s hs19)) (by exact by omega) (by first | decide | assumption) (by exact q3) dc_FO_countPart_84 85 rfl ?_
        refine jl_iconst (v := iI 1) h (by decide) dc_FO_countPart_85 86 rfl ?_
        refine jl_iadd h dc_FO_countPart_86 87 rfl ?_
        rw [show iI (pn s (s + c)) + iI 1 = iI (pn s (s + c) + 1) by exact iI_add _ _]
        refine jl_aload_n (i := 0) h rfl rfl dc_FO_countPart_87 88 rfl ?_
        refine jl_getf h nm_c_FO 6 wl_FO_19 (by omega) (by decide) (by exact rfl) (by rfl) dc_FO_countPart_88 91 rfl ?_
        refine jl_iload h rfl dc_FO_countPart_91 93 rfl ?_
        refine jl_iconst (v := 1) h (by decide) dc_FO_countPart_93 94 rfl ?_
        refine jl_iadd h dc_FO_countPart_94 95 rfl ?_
        rw [show nI (s + c) + 1 = nI (s + c + 1) by exact nI_1 (s + c)]
        refine jl_aald (t0 := 4) h (s + c + 1) (by exact rfl) (by omega) (by exact rfl) (by rfl) (by rfl) (by exact hk1) (by first | decide | assumption) (by exact if_pos hk1) dc_FO_countPart_95 96 rfl ?_
        refine jl_iload_n (i := 3) h rfl rfl dc_FO_countPart_96 97 rfl ?_
        refine jl_iald (v := iI (pn (s + c + 1) t)) h (t) (by exact rfl) (by omega) (by exact gw_row (gw_i_45 _ hk1)) (by exact by omega) (by first | decide | assumption) (by exact q4) dc_FO_countPart_97 98 rfl ?_
        refine jl_iadd h dc_FO_countPart_98 99 rfl ?_
        rw [show iI (pn s (s + c) + 1) + iI (pn (s + c + 1) t) = iI (pn s (s + c) + 1 + pn (s + c + 1) t) by exact iI_add _ _]
        refine jl_mmax h hr wm_FO_74 (by first | decide | omega) (by first | decide | omega) (Nat.le_of_ble_eq_true rfl) dc_FO_countPart_99 102 rfl ?_
        rw [show (if iI (fo_pK b pn s t c) < iI (pn s (s + c) + 1 + pn (s + c + 1) t) then iI (pn s (s + c) + 1 + pn (s + c + 1) t) else iI (fo_pK b pn s t c)) = iI (fo_pK b pn s t (c + 1)) by rw [fo_ma_iI i1 i2]; simp only [fo_pK, c45, if_true]]
        refine jl_istore (i := 5) (lc2 := [(5, _), (4, _), (6, _), (3, _), (0, _), (1, _), (2, _)]) h (by decide) rfl dc_FO_countPart_102 104 rfl ?_
        refine jl_iinc (i := 6) (d := 1) (lc2 := [(6, _), (5, _), (4, _), (3, _), (0, _), (1, _), (2, _)]) (v2 := nI (s + (c + 1))) h (by decide) rfl (by exact nI_1 (s + c)) rfl dc_FO_countPart_104 107 rfl ?_
        refine jl_goto h 27 (by decide) dc_FO_countPart_107 ?_
        first | (rw [show fo_pK b pn s t c = fo_pK b pn s t (c + 1) by simp [fo_pK, c45], show fo_cK b cn s t c = fo_cK b cn s t (c + 1) by simp [fo_cK, c45]]; exact ih (c + 1) (by omega)) | exact ih (c + 1) (by omega)
  have e0 : nI (t + 1) - 1 = nI t := nI_pred t
  have q1 := hC s t hs (Nat.le_refl t)
  have q2 := hP s t hs (Nat.le_refl t)
  refine jl_iload_n (i := 2) h rfl rfl dc_FO_countPart_0 1 rfl ?_
  refine jl_iconst (v := 1) h (by decide) dc_FO_countPart_1 2 rfl ?_
  refine jl_isub h dc_FO_countPart_2 3 rfl ?_
  rw [show nI (t + 1) - 1 = nI t by exact e0]
  refine jl_istore_n (i := 3) (lc2 := [(3, _), (0, _), (1, _), (2, _)]) h rfl (by decide) rfl dc_FO_countPart_3 4 rfl ?_
  refine jl_aload_n (i := 0) h rfl rfl dc_FO_countPart_4 5 rfl ?_
  refine jl_getf h nm_c_FO 5 wl_FO_16 (by omega) (by decide) (by exact rfl) (by rfl) dc_FO_countPart_5 8 rfl ?_
  refine jl_iload_n (i := 1) h rfl rfl dc_FO_countPart_8 9 rfl ?_
  refine jl_aald (t0 := 4) h (s) (by exact rfl) (by omega) (by exact rfl) (by rfl) (by rfl) (by exact hs19) (by first | decide | assumption) (by exact if_pos hs19) dc_FO_countPart_9 10 rfl ?_
  refine jl_iload_n (i := 3) h rfl rfl dc_FO_countPart_10 11 rfl ?_
  refine jl_iald (v := iI (fo_cK b cn s t 0)) h (t) (by exact rfl) (by omega) (by exact gw_row (gw_i_25 s hs19)) (by exact by omega) (by first | decide | assumption) (by exact q1) dc_FO_countPart_11 12 rfl ?_
  refine jl_istore (i := 4) (lc2 := [(4, _), (3, _), (0, _), (1, _), (2, _)]) h (by decide) rfl dc_FO_countPart_12 14 rfl ?_
  refine jl_aload_n (i := 0) h rfl rfl dc_FO_countPart_14 15 rfl ?_
  refine jl_getf h nm_c_FO 6 wl_FO_19 (by omega) (by decide) (by exact rfl) (by rfl) dc_FO_countPart_15 18 rfl ?_
  refine jl_iload_n (i := 1) h rfl rfl dc_FO_countPart_18 19 rfl ?_
  refine jl_aald (t0 := 4) h (s) (by exact rfl) (by omega) (by exact rfl) (by rfl) (by rfl) (by exact hs19) (by first | decide | assumption) (by exact if_pos hs19) dc_FO_countPart_19 20 rfl ?_
  refine jl_iload_n (i := 3) h rfl rfl dc_FO_countPart_20 21 rfl ?_
  refine jl_iald (v := iI (fo_pK b pn s t 0)) h (t) (by exact rfl) (by omega) (by exact gw_row (gw_i_45 s hs19)) (by exact by omega) (by first | decide | assumption) (by exact q2) dc_FO_countPart_21 22 rfl ?_
  refine jl_istore (i := 5) (lc2 := [(5, _), (4, _), (3, _), (0, _), (1, _), (2, _)]) h (by decide) rfl dc_FO_countPart_22 24 rfl ?_
  refine jl_iload_n (i := 1) h rfl rfl dc_FO_countPart_24 25 rfl ?_
  refine jl_istore (i := 6) (lc2 := [(6, _), (5, _), (4, _), (3, _), (0, _), (1, _), (2, _)]) h (by decide) rfl dc_FO_countPart_25 27 rfl ?_
  exact loop (t - 3 - s) 0 (by omega)
theorem c_FO0_fillRegion (hS : st_ok K ad (gw K ad I V L C G R) n b) {s t : Nat} (hs : s ≤ t) (ht : t < 18) (h1 : V (66 + s) t = iI (rg 0 s t)) (h2 : ∀ k, s ≤ k → k < t → V (66 + s) k = iI (rg 0 s k)) (h3 : ∀ k, s ≤ k → k < t → V (6 + k) t = iI (pe k t)) (g1 : fo_sm (rg 0 s t)) (g2 : ∀ k, s ≤ k → k < t → fo_sm (rg 0 s k)) (g3 : ∀ k, s ≤ k → k < t → fo_sm (pe k t)) : jl_C l K sa yn_FO_fillRegion bc_FO_fillRegion 8 none 3 90 168 ad [.ref (ad 4), .ref (ad 64), .int (nI s), .int (nI (t + 1))] (gw K ad I V L C G R) none (gw K ad I (va_up V (66 + s) (upd (V (66 + s)) (t + 1) (iI (fo_rK b 0 pe rg s t (t - 3 - s))))) L C G R) := by
  refine jl_enter (by decide) (Nat.le_of_ble_eq_true rfl) (fun x h he hr => ?_)
  obtain ⟨hST, hbases, hn, hb⟩ := id hS
  show jl_J x 168 ad 0 0 (gw K ad I V L C G R) 0 [(0, .ref (ad 4)), (1, .ref (ad 64)), (2, .int (nI s)), (3, .int (nI (t + 1)))] []
  have hs19 : s < 19 := by omega
  have loop : ∀ d c : Nat, c + d = t - 3 - s → jl_J x 168 ad 0 0 (gw K ad I V L C G R) 33 [(7, .int (nI (s + c))), (6, .int (iI (fo_rK b 0 pe rg s t c))), (5, .ref (ad 65)), (4, .int (nI t)), (0, .ref (ad 4)), (1, .ref (ad 64)), (2, .int (nI s)), (3, .int (nI (t + 1)))] [] := by
    intro d
    induction d with
    | zero =>
      intro c hc
      have hc : c = t - 3 - s := by omega
      refine jl_iload h rfl dc_FO_fillRegion_33 35 rfl ?_
      refine jl_iload h rfl dc_FO_fillRegion_35 37 rfl ?_
      refine jl_iconst (v := nI 4) h (by decide) dc_FO_fillRegion_37 38 rfl ?_
      refine jl_isub h dc_FO_fillRegion_38 39 rfl ?_
      refine jl_icmp_gt h 86 (by decide) dc_FO_fillRegion_39 42 rfl (fun c39 => ?_) (fun c39 => absurd ((fo_gt (by omega) (by omega)).mpr (by omega)) c39)
      refine jl_aload_n (i := 1) h rfl rfl dc_FO_fillRegion_86 87 rfl ?_
      refine jl_getf h nm_c_RE 2 wl_FO_54 (by omega) (by decide) (by exact rfl) (by rfl) dc_FO_fillRegion_87 90 rfl ?_
      refine jl_iload_n (i := 2) h rfl rfl dc_FO_fillRegion_90 91 rfl ?_
      refine jl_aald (t0 := 4) h (s) (by exact rfl) (by omega) (by exact rfl) (by rfl) (by rfl) (by exact hs19) (by first | decide | assumption) (by exact if_pos hs19) dc_FO_fillRegion_91 92 rfl ?_
      refine jl_iload_n (i := 3) h rfl rfl dc_FO_fillRegion_92 93 rfl ?_
      refine jl_iload h rfl dc_FO_fillRegion_93 95 rfl ?_
      refine jl_iast h (t + 1) (by exact rfl) (by omega) (by exact gw_row (gw_i_66 s hs19)) (by exact by omega) (by first | decide | assumption) dc_FO_fillRegion_95 (gw_rowset (gw_i_66 s hs19) _) 96 rfl ?_
      exact jl_vret h he (rfl) (by rw [hc]) dc_FO_fillRegion_96
    | succ d ih =>
      intro c hc
      have hk0 : s + c < 18 := by omega
      have q2 := h2 (s + c) (by omega) (by omega)
      have q3 := h3 (s + c) (by omega) (by omega)
      have g5 := fo_rK_in (b := b) (r := 0) g1 g2 g3 c (by omega)
      have i2 : fo_in (rg 0 s (s + c) + fo_br b 0 pe (s + c) t) := by
        have e1 := g2 (s + c) (by omega) (by omega)
        have e2 := g3 (s + c) (by omega) (by omega)
        have e3 := lp_wk_in b (s + c) t 5 (by decide)
        unfold fo_br fo_pq
        unfold fo_sm at e1 e2
        unfold fo_in
        split <;> omega
      refine jl_iload h rfl dc_FO_fillRegion_33 35 rfl ?_
      refine jl_iload h rfl dc_FO_fillRegion_35 37 rfl ?_
      refine jl_iconst (v := nI 4) h (by decide) dc_FO_fillRegion_37 38 rfl ?_
      refine jl_isub h dc_FO_fillRegion_38 39 rfl ?_
      refine jl_icmp_gt h 86 (by decide) dc_FO_fillRegion_39 42 rfl (fun c39 => absurd c39 (fun q => absurd ((fo_gt (by omega) (by omega)).mp q) (by omega))) (fun c39 => ?_)
      refine jl_aload_n (i := 0) h rfl rfl dc_FO_fillRegion_42 43 rfl ?_
      refine jl_getf h nm_c_FO 7 wl_FO_22 (by omega) (by decide) (by exact rfl) (by rfl) dc_FO_fillRegion_43 46 rfl ?_
      refine jl_iload h rfl dc_FO_fillRegion_46 48 rfl ?_
      refine jl_iload h rfl dc_FO_fillRegion_48 50 rfl ?_
      refine jl_callV (As := [_, _]) (rest := []) h hr vs_FO_57 vi_ST_canPair vx_ST_canPair (ci := 1) rfl (by omega) (by exact hST) (fun l => c_ST_canPair l (by omega) hS hk0 ht) (by first | decide | omega) (by first | decide | omega) rfl rfl (Nat.le_of_ble_eq_true rfl) dc_FO_fillRegion_50 (res := [_]) rfl 53 rfl ?_
      refine jl_if_eq h 80 (by decide) dc_FO_fillRegion_53 56 rfl (fun c53 => ?_) (fun c53 => ?_)
      · skip
        rw [st_b0] at c53
        refine jl_iinc (i := 7) (d := 1) (lc2 := [(7, _), (6, _), (5, _), (4, _), (0, _), (1, _), (2, _), (3, _)]) (v2 := nI (s + (c + 1))) h (by decide) rfl (by exact nI_1 (s + c)) rfl dc_FO_fillRegion_80 83 rfl ?_
        refine jl_goto h 33 (by decide) dc_FO_fillRegion_83 ?_
        first | (rw [show fo_rK b 0 pe rg s t c = fo_rK b 0 pe rg s t (c + 1) by simp [fo_rK, c53]]; exact ih (c + 1) (by omega)) | exact ih (c + 1) (by omega)
      · skip
        rw [st_b1] at c53
        refine jl_iload h rfl dc_FO_fillRegion_56 58 rfl ?_
        refine jl_aload h rfl dc_FO_fillRegion_58 60 rfl ?_
        refine jl_iload_n (i := 2) h rfl rfl dc_FO_fillRegion_60 61 rfl ?_
        refine jl_aald (t0 := 4) h (s) (by exact rfl) (by omega) (by exact rfl) (by rfl) (by rfl) (by exact hs19) (by first | decide | assumption) (by exact if_pos hs19) dc_FO_fillRegion_61 62 rfl ?_
        refine jl_iload h rfl dc_FO_fillRegion_62 64 rfl ?_
        refine jl_iald (v := iI (rg 0 s (s + c))) h (s + c) (by exact rfl) (by omega) (by exact gw_row (gw_i_66 s hs19)) (by exact by omega) (by first | decide | assumption) (by exact q2) dc_FO_fillRegion_64 65 rfl ?_
        refine jl_aload_n (i := 0) h rfl rfl dc_FO_fillRegion_65 66 rfl ?_
        refine jl_aload_n (i := 1) h rfl rfl dc_FO_fillRegion_66 67 rfl ?_
        refine jl_iload h rfl dc_FO_fillRegion_67 69 rfl ?_
        refine jl_iload h rfl dc_FO_fillRegion_69 71 rfl ?_
        refine jl_callV (As := [_, _, _]) (rest := [_, _]) h hr vs_FO_87 vi_FO_branchEnergy vx_FO_branchEnergy (ci := 3) rfl (by omega) (by exact rfl) (fun l => c_FO0_branchEnergy l hS hk0 ht q3) (by first | decide | omega) (by first | decide | omega) rfl rfl (Nat.le_of_ble_eq_true rfl) dc_FO_fillRegion_71 (res := [_, _, _]) rfl 74 rfl ?_
        refine jl_iadd h dc_FO_fillRegion_74 75 rfl ?_
        rw [show iI (rg 0 s (s + c)) + iI (fo_br b 0 pe (s + c) t) = iI (rg 0 s (s + c) + fo_br b 0 pe (s + c) t) by exact iI_add _ _]
        refine jl_mmin h hr wm_FO_91 (by first | decide | omega) (by first | decide | omega) (Nat.le_of_ble_eq_true rfl) dc_FO_fillRegion_75 78 rfl ?_
        rw [show (if iI (rg 0 s (s + c) + fo_br b 0 pe (s + c) t) < iI (fo_rK b 0 pe rg s t c) then iI (rg 0 s (s + c) + fo_br b 0 pe (s + c) t) else iI (fo_rK b 0 pe rg s t c)) = iI (fo_rK b 0 pe rg s t (c + 1)) by rw [fo_mi_iI g5 i2]; simp only [fo_rK, c53, if_true]; rfl]
        refine jl_istore (i := 6) (lc2 := [(6, _), (7, _), (5, _), (4, _), (0, _), (1, _), (2, _), (3, _)]) h (by decide) rfl dc_FO_fillRegion_78 80 rfl ?_
        refine jl_iinc (i := 7) (d := 1) (lc2 := [(7, _), (6, _), (5, _), (4, _), (0, _), (1, _), (2, _), (3, _)]) (v2 := nI (s + (c + 1))) h (by decide) rfl (by exact nI_1 (s + c)) rfl dc_FO_fillRegion_80 83 rfl ?_
        refine jl_goto h 33 (by decide) dc_FO_fillRegion_83 ?_
        first | (rw [show fo_rK b 0 pe rg s t c = fo_rK b 0 pe rg s t (c + 1) by simp [fo_rK, c53]]; exact ih (c + 1) (by omega)) | exact ih (c + 1) (by omega)
  have e0 : nI (t + 1) - 1 = nI t := nI_pred t
  refine jl_iload_n (i := 3) h rfl rfl dc_FO_fillRegion_0 1 rfl ?_
  refine jl_iconst (v := 1) h (by decide) dc_FO_fillRegion_1 2 rfl ?_
  refine jl_isub h dc_FO_fillRegion_2 3 rfl ?_
  rw [show nI (t + 1) - 1 = nI t by exact e0]
  refine jl_istore (i := 4) (lc2 := [(4, _), (0, _), (1, _), (2, _), (3, _)]) h (by decide) rfl dc_FO_fillRegion_3 5 rfl ?_
  refine jl_aload_n (i := 1) h rfl rfl dc_FO_fillRegion_5 6 rfl ?_
  refine jl_callV (As := []) (rest := []) h hr vs_FO_79 vi_RE_afterPair vx_RE_afterPair (ci := 4) rfl (by omega) (by exact rfl) (fun l => c_RE0_afterPair l) (by first | decide | omega) (by first | decide | omega) rfl rfl (Nat.le_of_ble_eq_true rfl) dc_FO_fillRegion_6 (res := [_]) rfl 9 rfl ?_
  refine jl_getf h nm_c_RE 2 wl_FO_54 (by omega) (by decide) (by exact rfl) (by rfl) dc_FO_fillRegion_9 12 rfl ?_
  refine jl_astore (i := 5) (lc2 := [(5, _), (4, _), (0, _), (1, _), (2, _), (3, _)]) h (by decide) rfl dc_FO_fillRegion_12 14 rfl ?_
  refine jl_aload_n (i := 1) h rfl rfl dc_FO_fillRegion_14 15 rfl ?_
  refine jl_getf h nm_c_RE 2 wl_FO_54 (by omega) (by decide) (by exact rfl) (by rfl) dc_FO_fillRegion_15 18 rfl ?_
  refine jl_iload_n (i := 2) h rfl rfl dc_FO_fillRegion_18 19 rfl ?_
  refine jl_aald (t0 := 4) h (s) (by exact rfl) (by omega) (by exact rfl) (by rfl) (by rfl) (by exact hs19) (by first | decide | assumption) (by exact if_pos hs19) dc_FO_fillRegion_19 20 rfl ?_
  refine jl_iload h rfl dc_FO_fillRegion_20 22 rfl ?_
  refine jl_iald (v := iI (rg 0 s t)) h (t) (by exact rfl) (by omega) (by exact gw_row (gw_i_66 s hs19)) (by exact by omega) (by first | decide | assumption) (by exact h1) dc_FO_fillRegion_22 23 rfl ?_
  refine jl_aload_n (i := 1) h rfl rfl dc_FO_fillRegion_23 24 rfl ?_
  refine jl_getf (v := .int (iI 0)) h nm_c_RE 0 wl_FO_83 (by omega) (by decide) (by exact rfl) (by exact rfl) dc_FO_fillRegion_24 27 rfl ?_
  refine jl_iadd h dc_FO_fillRegion_27 28 rfl ?_
  rw [show iI (rg 0 s t) + iI 0 = iI (fo_rK b 0 pe rg s t 0) by rw [iI_add]; rfl]
  refine jl_istore (i := 6) (lc2 := [(6, _), (5, _), (4, _), (0, _), (1, _), (2, _), (3, _)]) h (by decide) rfl dc_FO_fillRegion_28 30 rfl ?_
  refine jl_iload_n (i := 2) h rfl rfl dc_FO_fillRegion_30 31 rfl ?_
  refine jl_istore (i := 7) (lc2 := [(7, _), (6, _), (5, _), (4, _), (0, _), (1, _), (2, _), (3, _)]) h (by decide) rfl dc_FO_fillRegion_31 33 rfl ?_
  exact loop (t - 3 - s) 0 (by omega)
theorem c_FO1_fillRegion (hS : st_ok K ad (gw K ad I V L C G R) n b) {s t : Nat} (hs : s ≤ t) (ht : t < 18) (h1 : V (87 + s) t = iI (rg 1 s t)) (h2 : ∀ k, s ≤ k → k < t → V (87 + s) k = iI (rg 1 s k)) (h3 : ∀ k, s ≤ k → k < t → V (6 + k) t = iI (pe k t)) (g1 : fo_sm (rg 1 s t)) (g2 : ∀ k, s ≤ k → k < t → fo_sm (rg 1 s k)) (g3 : ∀ k, s ≤ k → k < t → fo_sm (pe k t)) : jl_C l K sa yn_FO_fillRegion bc_FO_fillRegion 8 none 3 90 168 ad [.ref (ad 4), .ref (ad 85), .int (nI s), .int (nI (t + 1))] (gw K ad I V L C G R) none (gw K ad I (va_up V (87 + s) (upd (V (87 + s)) (t + 1) (iI (fo_rK b 1 pe rg s t (t - 3 - s))))) L C G R) := by
  refine jl_enter (by decide) (Nat.le_of_ble_eq_true rfl) (fun x h he hr => ?_)
  obtain ⟨hST, hbases, hn, hb⟩ := id hS
  show jl_J x 168 ad 0 0 (gw K ad I V L C G R) 0 [(0, .ref (ad 4)), (1, .ref (ad 85)), (2, .int (nI s)), (3, .int (nI (t + 1)))] []
  have hs19 : s < 19 := by omega
  have loop : ∀ d c : Nat, c + d = t - 3 - s → jl_J x 168 ad 0 0 (gw K ad I V L C G R) 33 [(7, .int (nI (s + c))), (6, .int (iI (fo_rK b 1 pe rg s t c))), (5, .ref (ad 86)), (4, .int (nI t)), (0, .ref (ad 4)), (1, .ref (ad 85)), (2, .int (nI s)), (3, .int (nI (t + 1)))] [] := by
    intro d
    induction d with
    | zero =>
      intro c hc
      have hc : c = t - 3 - s := by omega
      refine jl_iload h rfl dc_FO_fillRegion_33 35 rfl ?_
      refine jl_iload h rfl dc_FO_fillRegion_35 37 rfl ?_
      refine jl_iconst (v := nI 4) h (by decide) dc_FO_fillRegion_37 38 rfl ?_
      refine jl_isub h dc_FO_fillRegion_38 39 rfl ?_
      refine jl_icmp_gt h 86 (by decide) dc_FO_fillRegion_39 42 rfl (fun c39 => ?_) (fun c39 => absurd ((fo_gt (by omega) (by omega)).mpr (by omega)) c39)
      refine jl_aload_n (i := 1) h rfl rfl dc_FO_fillRegion_86 87 rfl ?_
      refine jl_getf h nm_c_RE 2 wl_FO_54 (by omega) (by decide) (by exact rfl) (by rfl) dc_FO_fillRegion_87 90 rfl ?_
      refine jl_iload_n (i := 2) h rfl rfl dc_FO_fillRegion_90 91 rfl ?_
      refine jl_aald (t0 := 4) h (s) (by exact rfl) (by omega) (by exact rfl) (by rfl) (by rfl) (by exact hs19) (by first | decide | assumption) (by exact if_pos hs19) dc_FO_fillRegion_91 92 rfl ?_
      refine jl_iload_n (i := 3) h rfl rfl dc_FO_fillRegion_92 93 rfl ?_
      refine jl_iload h rfl dc_FO_fillRegion_93 95 rfl ?_
      refine jl_iast h (t + 1) (by exact rfl) (by omega) (by exact gw_row (gw_i_87 s hs19)) (by exact by omega) (by first | decide | assumption) dc_FO_fillRegion_95 (gw_rowset (gw_i_87 s hs19) _) 96 rfl ?_
      exact jl_vret h he (rfl) (by rw [hc]) dc_FO_fillRegion_96
    | succ d ih =>
      intro c hc
      have hk0 : s + c < 18 := by omega
      have q2 := h2 (s + c) (by omega) (by omega)
      have q3 := h3 (s + c) (by omega) (by omega)
      have g5 := fo_rK_in (b := b) (r := 1) g1 g2 g3 c (by omega)
      have i2 : fo_in (rg 1 s (s + c) + fo_br b 1 pe (s + c) t) := by
        have e1 := g2 (s + c) (by omega) (by omega)
        have e2 := g3 (s + c) (by omega) (by omega)
        have e3 := lp_wk_in b (s + c) t 5 (by decide)
        unfold fo_br fo_pq
        unfold fo_sm at e1 e2
        unfold fo_in
        split <;> omega
      refine jl_iload h rfl dc_FO_fillRegion_33 35 rfl ?_
      refine jl_iload h rfl dc_FO_fillRegion_35 37 rfl ?_
      refine jl_iconst (v := nI 4) h (by decide) dc_FO_fillRegion_37 38 rfl ?_
      refine jl_isub h dc_FO_fillRegion_38 39 rfl ?_
      refine jl_icmp_gt h 86 (by decide) dc_FO_fillRegion_39 42 rfl (fun c39 => absurd c39 (fun q => absurd ((fo_gt (by omega) (by omega)).mp q) (by omega))) (fun c39 => ?_)
      refine jl_aload_n (i := 0) h rfl rfl dc_FO_fillRegion_42 43 rfl ?_
      refine jl_getf h nm_c_FO 7 wl_FO_22 (by omega) (by decide) (by exact rfl) (by rfl) dc_FO_fillRegion_43 46 rfl ?_
      refine jl_iload h rfl dc_FO_fillRegion_46 48 rfl ?_
      refine jl_iload h rfl dc_FO_fillRegion_48 50 rfl ?_
      refine jl_callV (As := [_, _]) (rest := []) h hr vs_FO_57 vi_ST_canPair vx_ST_canPair (ci := 1) rfl (by omega) (by exact hST) (fun l => c_ST_canPair l (by omega) hS hk0 ht) (by first | decide | omega) (by first | decide | omega) rfl rfl (Nat.le_of_ble_eq_true rfl) dc_FO_fillRegion_50 (res := [_]) rfl 53 rfl ?_
      refine jl_if_eq h 80 (by decide) dc_FO_fillRegion_53 56 rfl (fun c53 => ?_) (fun c53 => ?_)
      · skip
        rw [st_b0] at c53
        refine jl_iinc (i := 7) (d := 1) (lc2 := [(7, _), (6, _), (5, _), (4, _), (0, _), (1, _), (2, _), (3, _)]) (v2 := nI (s + (c + 1))) h (by decide) rfl (by exact nI_1 (s + c)) rfl dc_FO_fillRegion_80 83 rfl ?_
        refine jl_goto h 33 (by decide) dc_FO_fillRegion_83 ?_
        first | (rw [show fo_rK b 1 pe rg s t c = fo_rK b 1 pe rg s t (c + 1) by simp [fo_rK, c53]]; exact ih (c + 1) (by omega)) | exact ih (c + 1) (by omega)
      · skip
        rw [st_b1] at c53
        refine jl_iload h rfl dc_FO_fillRegion_56 58 rfl ?_
        refine jl_aload h rfl dc_FO_fillRegion_58 60 rfl ?_
        refine jl_iload_n (i := 2) h rfl rfl dc_FO_fillRegion_60 61 rfl ?_
        refine jl_aald (t0 := 4) h (s) (by exact rfl) (by omega) (by exact rfl) (by rfl) (by rfl) (by exact hs19) (by first | decide | assumption) (by exact if_pos hs19) dc_FO_fillRegion_61 62 rfl ?_
        refine jl_iload h rfl dc_FO_fillRegion_62 64 rfl ?_
        refine jl_iald (v := iI (rg 1 s (s + c))) h (s + c) (by exact rfl) (by omega) (by exact gw_row (gw_i_87 s hs19)) (by exact by omega) (by first | decide | assumption) (by exact q2) dc_FO_fillRegion_64 65 rfl ?_
        refine jl_aload_n (i := 0) h rfl rfl dc_FO_fillRegion_65 66 rfl ?_
        refine jl_aload_n (i := 1) h rfl rfl dc_FO_fillRegion_66 67 rfl ?_
        refine jl_iload h rfl dc_FO_fillRegion_67 69 rfl ?_
        refine jl_iload h rfl dc_FO_fillRegion_69 71 rfl ?_
        refine jl_callV (As := [_, _, _]) (rest := [_, _]) h hr vs_FO_87 vi_FO_branchEnergy vx_FO_branchEnergy (ci := 3) rfl (by omega) (by exact rfl) (fun l => c_FO1_branchEnergy l hS hk0 ht q3) (by first | decide | omega) (by first | decide | omega) rfl rfl (Nat.le_of_ble_eq_true rfl) dc_FO_fillRegion_71 (res := [_, _, _]) rfl 74 rfl ?_
        refine jl_iadd h dc_FO_fillRegion_74 75 rfl ?_
        rw [show iI (rg 1 s (s + c)) + iI (fo_br b 1 pe (s + c) t) = iI (rg 1 s (s + c) + fo_br b 1 pe (s + c) t) by exact iI_add _ _]
        refine jl_mmin h hr wm_FO_91 (by first | decide | omega) (by first | decide | omega) (Nat.le_of_ble_eq_true rfl) dc_FO_fillRegion_75 78 rfl ?_
        rw [show (if iI (rg 1 s (s + c) + fo_br b 1 pe (s + c) t) < iI (fo_rK b 1 pe rg s t c) then iI (rg 1 s (s + c) + fo_br b 1 pe (s + c) t) else iI (fo_rK b 1 pe rg s t c)) = iI (fo_rK b 1 pe rg s t (c + 1)) by rw [fo_mi_iI g5 i2]; simp only [fo_rK, c53, if_true]; rfl]
        refine jl_istore (i := 6) (lc2 := [(6, _), (7, _), (5, _), (4, _), (0, _), (1, _), (2, _), (3, _)]) h (by decide) rfl dc_FO_fillRegion_78 80 rfl ?_
        refine jl_iinc (i := 7) (d := 1) (lc2 := [(7, _), (6, _), (5, _), (4, _), (0, _), (1, _), (2, _), (3, _)]) (v2 := nI (s + (c + 1))) h (by decide) rfl (by exact nI_1 (s + c)) rfl dc_FO_fillRegion_80 83 rfl ?_
        refine jl_goto h 33 (by decide) dc_FO_fillRegion_83 ?_
        first | (rw [show fo_rK b 1 pe rg s t c = fo_rK b 1 pe rg s t (c + 1) by simp [fo_rK, c53]]; exact ih (c + 1) (by omega)) | exact ih (c + 1) (by omega)
  have e0 : nI (t + 1) - 1 = nI t := nI_pred t
  refine jl_iload_n (i := 3) h rfl rfl dc_FO_fillRegion_0 1 rfl ?_
  refine jl_iconst (v := 1) h (by decide) dc_FO_fillRegion_1 2 rfl ?_
  refine jl_isub h dc_FO_fillRegion_2 3 rfl ?_
  rw [show nI (t + 1) - 1 = nI t by exact e0]
  refine jl_istore (i := 4) (lc2 := [(4, _), (0, _), (1, _), (2, _), (3, _)]) h (by decide) rfl dc_FO_fillRegion_3 5 rfl ?_
  refine jl_aload_n (i := 1) h rfl rfl dc_FO_fillRegion_5 6 rfl ?_
  refine jl_callV (As := []) (rest := []) h hr vs_FO_79 vi_RE_afterPair vx_RE_afterPair (ci := 4) rfl (by omega) (by exact rfl) (fun l => c_RE1_afterPair l) (by first | decide | omega) (by first | decide | omega) rfl rfl (Nat.le_of_ble_eq_true rfl) dc_FO_fillRegion_6 (res := [_]) rfl 9 rfl ?_
  refine jl_getf h nm_c_RE 2 wl_FO_54 (by omega) (by decide) (by exact rfl) (by rfl) dc_FO_fillRegion_9 12 rfl ?_
  refine jl_astore (i := 5) (lc2 := [(5, _), (4, _), (0, _), (1, _), (2, _), (3, _)]) h (by decide) rfl dc_FO_fillRegion_12 14 rfl ?_
  refine jl_aload_n (i := 1) h rfl rfl dc_FO_fillRegion_14 15 rfl ?_
  refine jl_getf h nm_c_RE 2 wl_FO_54 (by omega) (by decide) (by exact rfl) (by rfl) dc_FO_fillRegion_15 18 rfl ?_
  refine jl_iload_n (i := 2) h rfl rfl dc_FO_fillRegion_18 19 rfl ?_
  refine jl_aald (t0 := 4) h (s) (by exact rfl) (by omega) (by exact rfl) (by rfl) (by rfl) (by exact hs19) (by first | decide | assumption) (by exact if_pos hs19) dc_FO_fillRegion_19 20 rfl ?_
  refine jl_iload h rfl dc_FO_fillRegion_20 22 rfl ?_
  refine jl_iald (v := iI (rg 1 s t)) h (t) (by exact rfl) (by omega) (by exact gw_row (gw_i_87 s hs19)) (by exact by omega) (by first | decide | assumption) (by exact h1) dc_FO_fillRegion_22 23 rfl ?_
  refine jl_aload_n (i := 1) h rfl rfl dc_FO_fillRegion_23 24 rfl ?_
  refine jl_getf (v := .int (iI 1)) h nm_c_RE 0 wl_FO_83 (by omega) (by decide) (by exact rfl) (by exact rfl) dc_FO_fillRegion_24 27 rfl ?_
  refine jl_iadd h dc_FO_fillRegion_27 28 rfl ?_
  rw [show iI (rg 1 s t) + iI 1 = iI (fo_rK b 1 pe rg s t 0) by rw [iI_add]; rfl]
  refine jl_istore (i := 6) (lc2 := [(6, _), (5, _), (4, _), (0, _), (1, _), (2, _), (3, _)]) h (by decide) rfl dc_FO_fillRegion_28 30 rfl ?_
  refine jl_iload_n (i := 2) h rfl rfl dc_FO_fillRegion_30 31 rfl ?_
  refine jl_istore (i := 7) (lc2 := [(7, _), (6, _), (5, _), (4, _), (0, _), (1, _), (2, _), (3, _)]) h (by decide) rfl dc_FO_fillRegion_31 33 rfl ?_
  exact loop (t - 3 - s) 0 (by omega)
theorem c_FO2_fillRegion (hS : st_ok K ad (gw K ad I V L C G R) n b) {s t : Nat} (hs : s ≤ t) (ht : t < 18) (h1 : V (108 + s) t = iI (rg 2 s t)) (h2 : ∀ k, s ≤ k → k < t → V (87 + s) k = iI (rg 1 s k)) (h3 : ∀ k, s ≤ k → k < t → V (6 + k) t = iI (pe k t)) (g1 : fo_sm (rg 2 s t)) (g2 : ∀ k, s ≤ k → k < t → fo_sm (rg 1 s k)) (g3 : ∀ k, s ≤ k → k < t → fo_sm (pe k t)) : jl_C l K sa yn_FO_fillRegion bc_FO_fillRegion 8 none 3 90 168 ad [.ref (ad 4), .ref (ad 106), .int (nI s), .int (nI (t + 1))] (gw K ad I V L C G R) none (gw K ad I (va_up V (108 + s) (upd (V (108 + s)) (t + 1) (iI (fo_rK b 2 pe rg s t (t - 3 - s))))) L C G R) := by
  refine jl_enter (by decide) (Nat.le_of_ble_eq_true rfl) (fun x h he hr => ?_)
  obtain ⟨hST, hbases, hn, hb⟩ := id hS
  show jl_J x 168 ad 0 0 (gw K ad I V L C G R) 0 [(0, .ref (ad 4)), (1, .ref (ad 106)), (2, .int (nI s)), (3, .int (nI (t + 1)))] []
  have hs19 : s < 19 := by omega
  have loop : ∀ d c : Nat, c + d = t - 3 - s → jl_J x 168 ad 0 0 (gw K ad I V L C G R) 33 [(7, .int (nI (s + c))), (6, .int (iI (fo_rK b 2 pe rg s t c))), (5, .ref (ad 86)), (4, .int (nI t)), (0, .ref (ad 4)), (1, .ref (ad 106)), (2, .int (nI s)), (3, .int (nI (t + 1)))] [] := by
    intro d
    induction d with
    | zero =>
      intro c hc
      have hc : c = t - 3 - s := by omega
      refine jl_iload h rfl dc_FO_fillRegion_33 35 rfl ?_
      refine jl_iload h rfl dc_FO_fillRegion_35 37 rfl ?_
      refine jl_iconst (v := nI 4) h (by decide) dc_FO_fillRegion_37 38 rfl ?_
      refine jl_isub h dc_FO_fillRegion_38 39 rfl ?_
      refine jl_icmp_gt h 86 (by decide) dc_FO_fillRegion_39 42 rfl (fun c39 => ?_) (fun c39 => absurd ((fo_gt (by omega) (by omega)).mpr (by omega)) c39)
      refine jl_aload_n (i := 1) h rfl rfl dc_FO_fillRegion_86 87 rfl ?_
      refine jl_getf h nm_c_RE 2 wl_FO_54 (by omega) (by decide) (by exact rfl) (by rfl) dc_FO_fillRegion_87 90 rfl ?_
      refine jl_iload_n (i := 2) h rfl rfl dc_FO_fillRegion_90 91 rfl ?_
      refine jl_aald (t0 := 4) h (s) (by exact rfl) (by omega) (by exact rfl) (by rfl) (by rfl) (by exact hs19) (by first | decide | assumption) (by exact if_pos hs19) dc_FO_fillRegion_91 92 rfl ?_
      refine jl_iload_n (i := 3) h rfl rfl dc_FO_fillRegion_92 93 rfl ?_
      refine jl_iload h rfl dc_FO_fillRegion_93 95 rfl ?_
      refine jl_iast h (t + 1) (by exact rfl) (by omega) (by exact gw_row (gw_i_108 s hs19)) (by exact by omega) (by first | decide | assumption) dc_FO_fillRegion_95 (gw_rowset (gw_i_108 s hs19) _) 96 rfl ?_
      exact jl_vret h he (rfl) (by rw [hc]) dc_FO_fillRegion_96
    | succ d ih =>
      intro c hc
      have hk0 : s + c < 18 := by omega
      have q2 := h2 (s + c) (by omega) (by omega)
      have q3 := h3 (s + c) (by omega) (by omega)
      have g5 := fo_rK_in (b := b) (r := 2) g1 g2 g3 c (by omega)
      have i2 : fo_in (rg 1 s (s + c) + fo_br b 2 pe (s + c) t) := by
        have e1 := g2 (s + c) (by omega) (by omega)
        have e2 := g3 (s + c) (by omega) (by omega)
        have e3 := lp_wk_in b (s + c) t 5 (by decide)
        unfold fo_br fo_pq
        unfold fo_sm at e1 e2
        unfold fo_in
        split <;> omega
      refine jl_iload h rfl dc_FO_fillRegion_33 35 rfl ?_
      refine jl_iload h rfl dc_FO_fillRegion_35 37 rfl ?_
      refine jl_iconst (v := nI 4) h (by decide) dc_FO_fillRegion_37 38 rfl ?_
      refine jl_isub h dc_FO_fillRegion_38 39 rfl ?_
      refine jl_icmp_gt h 86 (by decide) dc_FO_fillRegion_39 42 rfl (fun c39 => absurd c39 (fun q => absurd ((fo_gt (by omega) (by omega)).mp q) (by omega))) (fun c39 => ?_)
      refine jl_aload_n (i := 0) h rfl rfl dc_FO_fillRegion_42 43 rfl ?_
      refine jl_getf h nm_c_FO 7 wl_FO_22 (by omega) (by decide) (by exact rfl) (by rfl) dc_FO_fillRegion_43 46 rfl ?_
      refine jl_iload h rfl dc_FO_fillRegion_46 48 rfl ?_
      refine jl_iload h rfl dc_FO_fillRegion_48 50 rfl ?_
      refine jl_callV (As := [_, _]) (rest := []) h hr vs_FO_57 vi_ST_canPair vx_ST_canPair (ci := 1) rfl (by omega) (by exact hST) (fun l => c_ST_canPair l (by omega) hS hk0 ht) (by first | decide | omega) (by first | decide | omega) rfl rfl (Nat.le_of_ble_eq_true rfl) dc_FO_fillRegion_50 (res := [_]) rfl 53 rfl ?_
      refine jl_if_eq h 80 (by decide) dc_FO_fillRegion_53 56 rfl (fun c53 => ?_) (fun c53 => ?_)
      · skip
        rw [st_b0] at c53
        refine jl_iinc (i := 7) (d := 1) (lc2 := [(7, _), (6, _), (5, _), (4, _), (0, _), (1, _), (2, _), (3, _)]) (v2 := nI (s + (c + 1))) h (by decide) rfl (by exact nI_1 (s + c)) rfl dc_FO_fillRegion_80 83 rfl ?_
        refine jl_goto h 33 (by decide) dc_FO_fillRegion_83 ?_
        first | (rw [show fo_rK b 2 pe rg s t c = fo_rK b 2 pe rg s t (c + 1) by simp [fo_rK, c53]]; exact ih (c + 1) (by omega)) | exact ih (c + 1) (by omega)
      · skip
        rw [st_b1] at c53
        refine jl_iload h rfl dc_FO_fillRegion_56 58 rfl ?_
        refine jl_aload h rfl dc_FO_fillRegion_58 60 rfl ?_
        refine jl_iload_n (i := 2) h rfl rfl dc_FO_fillRegion_60 61 rfl ?_
        refine jl_aald (t0 := 4) h (s) (by exact rfl) (by omega) (by exact rfl) (by rfl) (by rfl) (by exact hs19) (by first | decide | assumption) (by exact if_pos hs19) dc_FO_fillRegion_61 62 rfl ?_
        refine jl_iload h rfl dc_FO_fillRegion_62 64 rfl ?_
        refine jl_iald (v := iI (rg 1 s (s + c))) h (s + c) (by exact rfl) (by omega) (by exact gw_row (gw_i_87 s hs19)) (by exact by omega) (by first | decide | assumption) (by exact q2) dc_FO_fillRegion_64 65 rfl ?_
        refine jl_aload_n (i := 0) h rfl rfl dc_FO_fillRegion_65 66 rfl ?_
        refine jl_aload_n (i := 1) h rfl rfl dc_FO_fillRegion_66 67 rfl ?_
        refine jl_iload h rfl dc_FO_fillRegion_67 69 rfl ?_
        refine jl_iload h rfl dc_FO_fillRegion_69 71 rfl ?_
        refine jl_callV (As := [_, _, _]) (rest := [_, _]) h hr vs_FO_87 vi_FO_branchEnergy vx_FO_branchEnergy (ci := 3) rfl (by omega) (by exact rfl) (fun l => c_FO2_branchEnergy l hS hk0 ht q3) (by first | decide | omega) (by first | decide | omega) rfl rfl (Nat.le_of_ble_eq_true rfl) dc_FO_fillRegion_71 (res := [_, _, _]) rfl 74 rfl ?_
        refine jl_iadd h dc_FO_fillRegion_74 75 rfl ?_
        rw [show iI (rg 1 s (s + c)) + iI (fo_br b 2 pe (s + c) t) = iI (rg 1 s (s + c) + fo_br b 2 pe (s + c) t) by exact iI_add _ _]
        refine jl_mmin h hr wm_FO_91 (by first | decide | omega) (by first | decide | omega) (Nat.le_of_ble_eq_true rfl) dc_FO_fillRegion_75 78 rfl ?_
        rw [show (if iI (rg 1 s (s + c) + fo_br b 2 pe (s + c) t) < iI (fo_rK b 2 pe rg s t c) then iI (rg 1 s (s + c) + fo_br b 2 pe (s + c) t) else iI (fo_rK b 2 pe rg s t c)) = iI (fo_rK b 2 pe rg s t (c + 1)) by rw [fo_mi_iI g5 i2]; simp only [fo_rK, c53, if_true]; rfl]
        refine jl_istore (i := 6) (lc2 := [(6, _), (7, _), (5, _), (4, _), (0, _), (1, _), (2, _), (3, _)]) h (by decide) rfl dc_FO_fillRegion_78 80 rfl ?_
        refine jl_iinc (i := 7) (d := 1) (lc2 := [(7, _), (6, _), (5, _), (4, _), (0, _), (1, _), (2, _), (3, _)]) (v2 := nI (s + (c + 1))) h (by decide) rfl (by exact nI_1 (s + c)) rfl dc_FO_fillRegion_80 83 rfl ?_
        refine jl_goto h 33 (by decide) dc_FO_fillRegion_83 ?_
        first | (rw [show fo_rK b 2 pe rg s t c = fo_rK b 2 pe rg s t (c + 1) by simp [fo_rK, c53]]; exact ih (c + 1) (by omega)) | exact ih (c + 1) (by omega)
  have e0 : nI (t + 1) - 1 = nI t := nI_pred t
  refine jl_iload_n (i := 3) h rfl rfl dc_FO_fillRegion_0 1 rfl ?_
  refine jl_iconst (v := 1) h (by decide) dc_FO_fillRegion_1 2 rfl ?_
  refine jl_isub h dc_FO_fillRegion_2 3 rfl ?_
  rw [show nI (t + 1) - 1 = nI t by exact e0]
  refine jl_istore (i := 4) (lc2 := [(4, _), (0, _), (1, _), (2, _), (3, _)]) h (by decide) rfl dc_FO_fillRegion_3 5 rfl ?_
  refine jl_aload_n (i := 1) h rfl rfl dc_FO_fillRegion_5 6 rfl ?_
  refine jl_callV (As := []) (rest := []) h hr vs_FO_79 vi_RE_afterPair vx_RE_afterPair (ci := 4) rfl (by omega) (by exact rfl) (fun l => c_RE2_afterPair l) (by first | decide | omega) (by first | decide | omega) rfl rfl (Nat.le_of_ble_eq_true rfl) dc_FO_fillRegion_6 (res := [_]) rfl 9 rfl ?_
  refine jl_getf h nm_c_RE 2 wl_FO_54 (by omega) (by decide) (by exact rfl) (by rfl) dc_FO_fillRegion_9 12 rfl ?_
  refine jl_astore (i := 5) (lc2 := [(5, _), (4, _), (0, _), (1, _), (2, _), (3, _)]) h (by decide) rfl dc_FO_fillRegion_12 14 rfl ?_
  refine jl_aload_n (i := 1) h rfl rfl dc_FO_fillRegion_14 15 rfl ?_
  refine jl_getf h nm_c_RE 2 wl_FO_54 (by omega) (by decide) (by exact rfl) (by rfl) dc_FO_fillRegion_15 18 rfl ?_
  refine jl_iload_n (i := 2) h rfl rfl dc_FO_fillRegion_18 19 rfl ?_
  refine jl_aald (t0 := 4) h (s) (by exact rfl) (by omega) (by exact rfl) (by rfl) (by rfl) (by exact hs19) (by first | decide | assumption) (by exact if_pos hs19) dc_FO_fillRegion_19 20 rfl ?_
  refine jl_iload h rfl dc_FO_fillRegion_20 22 rfl ?_
  refine jl_iald (v := iI (rg 2 s t)) h (t) (by exact rfl) (by omega) (by exact gw_row (gw_i_108 s hs19)) (by exact by omega) (by first | decide | assumption) (by exact h1) dc_FO_fillRegion_22 23 rfl ?_
  refine jl_aload_n (i := 1) h rfl rfl dc_FO_fillRegion_23 24 rfl ?_
  refine jl_getf (v := .int (iI 1)) h nm_c_RE 0 wl_FO_83 (by omega) (by decide) (by exact rfl) (by exact rfl) dc_FO_fillRegion_24 27 rfl ?_
  refine jl_iadd h dc_FO_fillRegion_27 28 rfl ?_
  rw [show iI (rg 2 s t) + iI 1 = iI (fo_rK b 2 pe rg s t 0) by rw [iI_add]; rfl]
  refine jl_istore (i := 6) (lc2 := [(6, _), (5, _), (4, _), (0, _), (1, _), (2, _), (3, _)]) h (by decide) rfl dc_FO_fillRegion_28 30 rfl ?_
  refine jl_iload_n (i := 2) h rfl rfl dc_FO_fillRegion_30 31 rfl ?_
  refine jl_istore (i := 7) (lc2 := [(7, _), (6, _), (5, _), (4, _), (0, _), (1, _), (2, _), (3, _)]) h (by decide) rfl dc_FO_fillRegion_31 33 rfl ?_
  exact loop (t - 3 - s) 0 (by omega)
theorem c_FO3_fillRegion (hS : st_ok K ad (gw K ad I V L C G R) n b) {s t : Nat} (hs : s ≤ t) (ht : t < 18) (h1 : V (129 + s) t = iI (rg 3 s t)) (h2 : ∀ k, s ≤ k → k < t → V (108 + s) k = iI (rg 2 s k)) (h3 : ∀ k, s ≤ k → k < t → V (6 + k) t = iI (pe k t)) (g1 : fo_sm (rg 3 s t)) (g2 : ∀ k, s ≤ k → k < t → fo_sm (rg 2 s k)) (g3 : ∀ k, s ≤ k → k < t → fo_sm (pe k t)) : jl_C l K sa yn_FO_fillRegion bc_FO_fillRegion 8 none 3 90 168 ad [.ref (ad 4), .ref (ad 127), .int (nI s), .int (nI (t + 1))] (gw K ad I V L C G R) none (gw K ad I (va_up V (129 + s) (upd (V (129 + s)) (t + 1) (iI (fo_rK b 3 pe rg s t (t - 3 - s))))) L C G R) := by
  refine jl_enter (by decide) (Nat.le_of_ble_eq_true rfl) (fun x h he hr => ?_)
  obtain ⟨hST, hbases, hn, hb⟩ := id hS
  show jl_J x 168 ad 0 0 (gw K ad I V L C G R) 0 [(0, .ref (ad 4)), (1, .ref (ad 127)), (2, .int (nI s)), (3, .int (nI (t + 1)))] []
  have hs19 : s < 19 := by omega
  have loop : ∀ d c : Nat, c + d = t - 3 - s → jl_J x 168 ad 0 0 (gw K ad I V L C G R) 33 [(7, .int (nI (s + c))), (6, .int (iI (fo_rK b 3 pe rg s t c))), (5, .ref (ad 107)), (4, .int (nI t)), (0, .ref (ad 4)), (1, .ref (ad 127)), (2, .int (nI s)), (3, .int (nI (t + 1)))] [] := by
    intro d
    induction d with
    | zero =>
      intro c hc
      have hc : c = t - 3 - s := by omega
      refine jl_iload h rfl dc_FO_fillRegion_33 35 rfl ?_
      refine jl_iload h rfl dc_FO_fillRegion_35 37 rfl ?_
      refine jl_iconst (v := nI 4) h (by decide) dc_FO_fillRegion_37 38 rfl ?_
      refine jl_isub h dc_FO_fillRegion_38 39 rfl ?_
      refine jl_icmp_gt h 86 (by decide) dc_FO_fillRegion_39 42 rfl (fun c39 => ?_) (fun c39 => absurd ((fo_gt (by omega) (by omega)).mpr (by omega)) c39)
      refine jl_aload_n (i := 1) h rfl rfl dc_FO_fillRegion_86 87 rfl ?_
      refine jl_getf h nm_c_RE 2 wl_FO_54 (by omega) (by decide) (by exact rfl) (by rfl) dc_FO_fillRegion_87 90 rfl ?_
      refine jl_iload_n (i := 2) h rfl rfl dc_FO_fillRegion_90 91 rfl ?_
      refine jl_aald (t0 := 4) h (s) (by exact rfl) (by omega) (by exact rfl) (by rfl) (by rfl) (by exact hs19) (by first | decide | assumption) (by exact if_pos hs19) dc_FO_fillRegion_91 92 rfl ?_
      refine jl_iload_n (i := 3) h rfl rfl dc_FO_fillRegion_92 93 rfl ?_
      refine jl_iload h rfl dc_FO_fillRegion_93 95 rfl ?_
      refine jl_iast h (t + 1) (by exact rfl) (by omega) (by exact gw_row (gw_i_129 s hs19)) (by exact by omega) (by first | decide | assumption) dc_FO_fillRegion_95 (gw_rowset (gw_i_129 s hs19) _) 96 rfl ?_
      exact jl_vret h he (rfl) (by rw [hc]) dc_FO_fillRegion_96
    | succ d ih =>
      intro c hc
      have hk0 : s + c < 18 := by omega
      have q2 := h2 (s + c) (by omega) (by omega)
      have q3 := h3 (s + c) (by omega) (by omega)
      have g5 := fo_rK_in (b := b) (r := 3) g1 g2 g3 c (by omega)
      have i2 : fo_in (rg 2 s (s + c) + fo_br b 3 pe (s + c) t) := by
        have e1 := g2 (s + c) (by omega) (by omega)
        have e2 := g3 (s + c) (by omega) (by omega)
        have e3 := lp_wk_in b (s + c) t 5 (by decide)
        unfold fo_br fo_pq
        unfold fo_sm at e1 e2
        unfold fo_in
        split <;> omega
      refine jl_iload h rfl dc_FO_fillRegion_33 35 rfl ?_
      refine jl_iload h rfl dc_FO_fillRegion_35 37 rfl ?_
      refine jl_iconst (v := nI 4) h (by decide) dc_FO_fillRegion_37 38 rfl ?_
      refine jl_isub h dc_FO_fillRegion_38 39 rfl ?_
      refine jl_icmp_gt h 86 (by decide) dc_FO_fillRegion_39 42 rfl (fun c39 => absurd c39 (fun q => absurd ((fo_gt (by omega) (by omega)).mp q) (by omega))) (fun c39 => ?_)
      refine jl_aload_n (i := 0) h rfl rfl dc_FO_fillRegion_42 43 rfl ?_
      refine jl_getf h nm_c_FO 7 wl_FO_22 (by omega) (by decide) (by exact rfl) (by rfl) dc_FO_fillRegion_43 46 rfl ?_
      refine jl_iload h rfl dc_FO_fillRegion_46 48 rfl ?_
      refine jl_iload h rfl dc_FO_fillRegion_48 50 rfl ?_
      refine jl_callV (As := [_, _]) (rest := []) h hr vs_FO_57 vi_ST_canPair vx_ST_canPair (ci := 1) rfl (by omega) (by exact hST) (fun l => c_ST_canPair l (by omega) hS hk0 ht) (by first | decide | omega) (by first | decide | omega) rfl rfl (Nat.le_of_ble_eq_true rfl) dc_FO_fillRegion_50 (res := [_]) rfl 53 rfl ?_
      refine jl_if_eq h 80 (by decide) dc_FO_fillRegion_53 56 rfl (fun c53 => ?_) (fun c53 => ?_)
      · skip
        rw [st_b0] at c53
        refine jl_iinc (i := 7) (d := 1) (lc2 := [(7, _), (6, _), (5, _), (4, _), (0, _), (1, _), (2, _), (3, _)]) (v2 := nI (s + (c + 1))) h (by decide) rfl (by exact nI_1 (s + c)) rfl dc_FO_fillRegion_80 83 rfl ?_
        refine jl_goto h 33 (by decide) dc_FO_fillRegion_83 ?_
        first | (rw [show fo_rK b 3 pe rg s t c = fo_rK b 3 pe rg s t (c + 1) by simp [fo_rK, c53]]; exact ih (c + 1) (by omega)) | exact ih (c + 1) (by omega)
      · skip
        rw [st_b1] at c53
        refine jl_iload h rfl dc_FO_fillRegion_56 58 rfl ?_
        refine jl_aload h rfl dc_FO_fillRegion_58 60 rfl ?_
        refine jl_iload_n (i := 2) h rfl rfl dc_FO_fillRegion_60 61 rfl ?_
        refine jl_aald (t0 := 4) h (s) (by exact rfl) (by omega) (by exact rfl) (by rfl) (by rfl) (by exact hs19) (by first | decide | assumption) (by exact if_pos hs19) dc_FO_fillRegion_61 62 rfl ?_
        refine jl_iload h rfl dc_FO_fillRegion_62 64 rfl ?_
        refine jl_iald (v := iI (rg 2 s (s + c))) h (s + c) (by exact rfl) (by omega) (by exact gw_row (gw_i_108 s hs19)) (by exact by omega) (by first | decide | assumption) (by exact q2) dc_FO_fillRegion_64 65 rfl ?_
        refine jl_aload_n (i := 0) h rfl rfl dc_FO_fillRegion_65 66 rfl ?_
        refine jl_aload_n (i := 1) h rfl rfl dc_FO_fillRegion_66 67 rfl ?_
        refine jl_iload h rfl dc_FO_fillRegion_67 69 rfl ?_
        refine jl_iload h rfl dc_FO_fillRegion_69 71 rfl ?_
        refine jl_callV (As := [_, _, _]) (rest := [_, _]) h hr vs_FO_87 vi_FO_branchEnergy vx_FO_branchEnergy (ci := 3) rfl (by omega) (by exact rfl) (fun l => c_FO3_branchEnergy l hS hk0 ht q3) (by first | decide | omega) (by first | decide | omega) rfl rfl (Nat.le_of_ble_eq_true rfl) dc_FO_fillRegion_71 (res := [_, _, _]) rfl 74 rfl ?_
        refine jl_iadd h dc_FO_fillRegion_74 75 rfl ?_
        rw [show iI (rg 2 s (s + c)) + iI (fo_br b 3 pe (s + c) t) = iI (rg 2 s (s + c) + fo_br b 3 pe (s + c) t) by exact iI_add _ _]
        refine jl_mmin h hr wm_FO_91 (by first | decide | omega) (by first | decide | omega) (Nat.le_of_ble_eq_true rfl) dc_FO_fillRegion_75 78 rfl ?_
        rw [show (if iI (rg 2 s (s + c) + fo_br b 3 pe (s + c) t) < iI (fo_rK b 3 pe rg s t c) then iI (rg 2 s (s + c) + fo_br b 3 pe (s + c) t) else iI (fo_rK b 3 pe rg s t c)) = iI (fo_rK b 3 pe rg s t (c + 1)) by rw [fo_mi_iI g5 i2]; simp only [fo_rK, c53, if_true]; rfl]
        refine jl_istore (i := 6) (lc2 := [(6, _), (7, _), (5, _), (4, _), (0, _), (1, _), (2, _), (3, _)]) h (by decide) rfl dc_FO_fillRegion_78 80 rfl ?_
        refine jl_iinc (i := 7) (d := 1) (lc2 := [(7, _), (6, _), (5, _), (4, _), (0, _), (1, _), (2, _), (3, _)]) (v2 := nI (s + (c + 1))) h (by decide) rfl (by exact nI_1 (s + c)) rfl dc_FO_fillRegion_80 83 rfl ?_
        refine jl_goto h 33 (by decide) dc_FO_fillRegion_83 ?_
        first | (rw [show fo_rK b 3 pe rg s t c = fo_rK b 3 pe rg s t (c + 1) by simp [fo_rK, c53]]; exact ih (c + 1) (by omega)) | exact ih (c + 1) (by omega)
  have e0 : nI (t + 1) - 1 = nI t := nI_pred t
  refine jl_iload_n (i := 3) h rfl rfl dc_FO_fillRegion_0 1 rfl ?_
  refine jl_iconst (v := 1) h (by decide) dc_FO_fillRegion_1 2 rfl ?_
  refine jl_isub h dc_FO_fillRegion_2 3 rfl ?_
  rw [show nI (t + 1) - 1 = nI t by exact e0]
  refine jl_istore (i := 4) (lc2 := [(4, _), (0, _), (1, _), (2, _), (3, _)]) h (by decide) rfl dc_FO_fillRegion_3 5 rfl ?_
  refine jl_aload_n (i := 1) h rfl rfl dc_FO_fillRegion_5 6 rfl ?_
  refine jl_callV (As := []) (rest := []) h hr vs_FO_79 vi_RE_afterPair vx_RE_afterPair (ci := 4) rfl (by omega) (by exact rfl) (fun l => c_RE3_afterPair l) (by first | decide | omega) (by first | decide | omega) rfl rfl (Nat.le_of_ble_eq_true rfl) dc_FO_fillRegion_6 (res := [_]) rfl 9 rfl ?_
  refine jl_getf h nm_c_RE 2 wl_FO_54 (by omega) (by decide) (by exact rfl) (by rfl) dc_FO_fillRegion_9 12 rfl ?_
  refine jl_astore (i := 5) (lc2 := [(5, _), (4, _), (0, _), (1, _), (2, _), (3, _)]) h (by decide) rfl dc_FO_fillRegion_12 14 rfl ?_
  refine jl_aload_n (i := 1) h rfl rfl dc_FO_fillRegion_14 15 rfl ?_
  refine jl_getf h nm_c_RE 2 wl_FO_54 (by omega) (by decide) (by exact rfl) (by rfl) dc_FO_fillRegion_15 18 rfl ?_
  refine jl_iload_n (i := 2) h rfl rfl dc_FO_fillRegion_18 19 rfl ?_
  refine jl_aald (t0 := 4) h (s) (by exact rfl) (by omega) (by exact rfl) (by rfl) (by rfl) (by exact hs19) (by first | decide | assumption) (by exact if_pos hs19) dc_FO_fillRegion_19 20 rfl ?_
  refine jl_iload h rfl dc_FO_fillRegion_20 22 rfl ?_
  refine jl_iald (v := iI (rg 3 s t)) h (t) (by exact rfl) (by omega) (by exact gw_row (gw_i_129 s hs19)) (by exact by omega) (by first | decide | assumption) (by exact h1) dc_FO_fillRegion_22 23 rfl ?_
  refine jl_aload_n (i := 1) h rfl rfl dc_FO_fillRegion_23 24 rfl ?_
  refine jl_getf (v := .int (iI 1)) h nm_c_RE 0 wl_FO_83 (by omega) (by decide) (by exact rfl) (by exact rfl) dc_FO_fillRegion_24 27 rfl ?_
  refine jl_iadd h dc_FO_fillRegion_27 28 rfl ?_
  rw [show iI (rg 3 s t) + iI 1 = iI (fo_rK b 3 pe rg s t 0) by rw [iI_add]; rfl]
  refine jl_istore (i := 6) (lc2 := [(6, _), (5, _), (4, _), (0, _), (1, _), (2, _), (3, _)]) h (by decide) rfl dc_FO_fillRegion_28 30 rfl ?_
  refine jl_iload_n (i := 2) h rfl rfl dc_FO_fillRegion_30 31 rfl ?_
  refine jl_istore (i := 7) (lc2 := [(7, _), (6, _), (5, _), (4, _), (0, _), (1, _), (2, _), (3, _)]) h (by decide) rfl dc_FO_fillRegion_31 33 rfl ?_
  exact loop (t - 3 - s) 0 (by omega)
end FO

