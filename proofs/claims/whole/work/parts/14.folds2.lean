/-! FoldedStrand$Folds: leastOfPair, countPart, fillRegion. -/
theorem st_b0 {c : Bool} : st_bI c = 0 ↔ c = false := by cases c <;> decide
theorem st_b1 {c : Bool} : ¬ st_bI c = 0 ↔ c = true := by cases c <;> decide
theorem fo_gt {t k : Nat} (ht : t < 40) (hk : k < 40) : nI t - nI 4 < nI k ↔ t < k + 4 := by
  rw [Int32.lt_iff_toInt_lt, pk_sub_toInt (by omega) (by omega), nI_toInt (by omega)]
  omega
theorem fo_hpT_in (k : Nat) : 54 ≤ lp_hpT.getD k 64 ∧ lp_hpT.getD k 64 ≤ 64 := by
  by_cases h : k < 6
  · have : ∀ k, k < 6 → 54 ≤ lp_hpT.getD k 64 ∧ lp_hpT.getD k 64 ≤ 64 := by decide +kernel
    exact this k h
  · rw [List.getD_eq_getElem?_getD, List.getElem?_eq_none (by show 6 ≤ k; omega)]
    decide
theorem lp_wk_in (b : Nat → Nat) (i j : Nat) (m : Int) (hm : 0 ≤ m) : 0 ≤ lp_wk b i j m ∧ lp_wk b i j m ≤ m := by
  unfold lp_wk
  split <;> omega
theorem lp_hp_in (b : Nat → Nat) (i j : Nat) : 26 ≤ lp_hp b i j ∧ lp_hp b i j ≤ 69 := by
  unfold lp_hp
  have h1 := fo_hpT_in (j - i - 4)
  have h2 := lp_wk_in b i j 5 (by decide)
  split <;> omega
theorem lp_stk_in (x y : Int) : -34 ≤ lp_stk x y ∧ lp_stk x y ≤ 13 := by
  unfold lp_stk
  have h : ∀ k, -34 ≤ lp_stT.getD k 0 ∧ lp_stT.getD k 0 ≤ 13 := by
    intro k
    by_cases h : k < 36
    · have : ∀ k, k < 36 → -34 ≤ lp_stT.getD k 0 ∧ lp_stT.getD k 0 ≤ 13 := by decide +kernel
      exact this k h
    · rw [List.getD_eq_getElem?_getD, List.getElem?_eq_none (by show 36 ≤ k; omega)]
      decide
  exact h _
theorem lp_bul_in (u : Nat) (s : Int) (hs : -34 ≤ s ∧ s ≤ 13) (hu : u < 40) : -34 ≤ lp_bul u s ∧ lp_bul u s ≤ 200 := by
  unfold lp_bul
  split
  · omega
  · split
    · omega
    · split
      · omega
      · split <;> omega
theorem lp_int_in (x y : Nat) (h : x + y < 40) : 0 ≤ lp_int x y ∧ lp_int x y ≤ 200 := by
  unfold lp_int
  have h1 : ∀ k, k < 4 → 0 ≤ lp_inT.getD k 0 ∧ lp_inT.getD k 0 ≤ 20 := by decide +kernel
  have h2 : ∀ d : Int, 0 ≤ d → d ≤ 60 → 0 ≤ lp_inT.getD (x + y - 2) d ∧ lp_inT.getD (x + y - 2) d ≤ 60 := by
    intro d hd1 hd2
    by_cases h4 : x + y - 2 < 4
    · have h3 := h1 _ h4
      have e : lp_inT.getD (x + y - 2) d = lp_inT.getD (x + y - 2) 0 := by
        have h5 : x + y - 2 < lp_inT.length := h4
        rw [List.getD_eq_getElem?_getD, List.getD_eq_getElem?_getD, List.getElem?_eq_getElem h5]
        rfl
      omega
    · rw [List.getD_eq_getElem?_getD, List.getElem?_eq_none (by show 4 ≤ _; omega)]
      show 0 ≤ d ∧ d ≤ 60
      omega
  have h3 := h2 (15 + ((x + y : Nat) : Int)) (by omega) (by omega)
  split <;> omega
theorem lp_w1_in (b : Nat → Nat) (i j k m : Nat) (hj : j < 18) (hk : k < 18) : -34 ≤ lp_w1 b i j k m ∧ lp_w1 b i j k m ≤ 300 := by
  unfold lp_w1
  have h1 := lp_wk_in b i j 7 (by decide)
  have h2 := lp_wk_in b k m 7 (by decide)
  have h3 := lp_stk_in (en_kd (b i) (b j)) (en_kd (b m) (b k))
  have h4 := lp_bul_in (k - i - 1 + (j - m - 1)) _ h3 (by omega)
  have h5 := lp_int_in (k - i - 1) (j - m - 1) (by omega)
  split <;> omega
def fo_sm (z : Int) : Prop := -10000000 ≤ z ∧ z ≤ 10000000
theorem fo_mi_in {a c : Int} (ha : fo_in a) (hc : fo_in c) : fo_in (fo_mi a c) := by
  unfold fo_mi
  split
  · exact hc
  · exact ha
theorem fo_iK_in {b : Nat → Nat} {pe : Nat → Nat → Int} {i j m : Nat} {z : Int} (hz : fo_in z) (hj : j < 18) (hm : m < j) (hp : ∀ k, i < k → k ≤ m → fo_sm (pe k m)) : ∀ c, i + c ≤ m → fo_in (fo_iK b pe i j m z c)
  | 0, _ => hz
  | c + 1, hc => by
    have ih := fo_iK_in (b := b) hz hj hm hp c (by omega)
    unfold fo_iK
    split
    · refine fo_mi_in ih ?_
      have h1 := lp_w1_in b i j (i + 1 + c) m hj (by omega)
      have h2 := hp (i + 1 + c) (by omega) (by omega)
      unfold fo_sm at h2
      unfold fo_in
      omega
    · exact ih
theorem fo_oK_in {b : Nat → Nat} {pe : Nat → Nat → Int} {rg : Nat → Nat → Nat → Int} {i j : Nat} (hij : i + 4 ≤ j) (hj : j < 18) (hr : fo_sm (rg 3 (i + 1) j)) (hp : ∀ k m, i < k → k ≤ m → m < j → fo_sm (pe k m)) : ∀ c, c ≤ j - i - 5 → fo_in (fo_oK b pe rg i j c)
  | 0, _ => by
    have h1 := lp_hp_in b i j
    have h2 := lp_wk_in b i j 5 (by decide)
    refine fo_mi_in ?_ ?_
    · unfold fo_in; omega
    · unfold fo_many; unfold fo_sm at hr; unfold fo_in; omega
  | c + 1, hc => by
    have ih := fo_oK_in (b := b) (pe := pe) (rg := rg) hij hj hr hp c (by omega)
    exact fo_iK_in ih hj (by omega) (fun k h1 h2 => hp k _ h1 h2 (by omega)) _ (by omega)
theorem fo_rK_in {b : Nat → Nat} {r : Nat} {pe : Nat → Nat → Int} {rg : Nat → Nat → Nat → Int} {s t : Nat} (h1 : fo_sm (rg r s t)) (h2 : ∀ k, s ≤ k → k < t → fo_sm (rg (fo_af r) s k)) (h3 : ∀ k, s ≤ k → k < t → fo_sm (pe k t)) : ∀ c, s + c ≤ t → fo_in (fo_rK b r pe rg s t c)
  | 0, _ => by
    unfold fo_rK fo_pp
    unfold fo_sm at h1
    unfold fo_in
    split <;> omega
  | c + 1, hc => by
    have ih := fo_rK_in (b := b) h1 h2 h3 c (by omega)
    unfold fo_rK
    split
    · refine fo_mi_in ih ?_
      have e1 := h2 (s + c) (by omega) (by omega)
      have e2 := h3 (s + c) (by omega) (by omega)
      have e3 := lp_wk_in b (s + c) t 5 (by decide)
      unfold fo_br fo_pq
      unfold fo_sm at e1 e2
      unfold fo_in
      split <;> omega
    · exact ih
theorem fo_pK_in {b : Nat → Nat} {pn : Nat → Nat → Int} {s t : Nat} (h1 : ∀ i e, i ≤ e → e ≤ t → 0 ≤ pn i e ∧ pn i e ≤ 1000) : ∀ c, s + c ≤ t → 0 ≤ fo_pK b pn s t c ∧ fo_pK b pn s t c ≤ 3000
  | 0, hc => by
    unfold fo_pK
    have := h1 s t (by omega) (Nat.le_refl t)
    omega
  | c + 1, hc => by
    have ih := fo_pK_in (b := b) (s := s) h1 c (by omega)
    have e1 := h1 s (s + c) (by omega) (by omega)
    have e2 := h1 (s + c + 1) t (by omega) (Nat.le_refl t)
    unfold fo_pK
    split
    · split <;> omega
    · exact ih
section FO
variable (l : Launch) {K : Nat → ClassId} {sa : Nat → Nat} {ad : Nat → Nat} {I : Nat → Int32} {V : Nat → Nat → Int32} {L : Nat → Int64} {C : Nat → Int32} {G : Nat → Nat} {R : Nat → Nat} {n : Nat} {b : Nat → Nat} {pe cn pn : Nat → Nat → Int} {rg : Nat → Nat → Nat → Int}
theorem c_FO_leastOfPair (hS : st_ok K ad (gw K ad I V L C G R) n b) {i j : Nat} (hij : i + 4 ≤ j) (hj : j < 18) (hkd : 0 ≤ en_kd (b i) (b j)) (hrg : V (129 + (i + 1)) j = iI (rg 3 (i + 1) j)) (hpe : ∀ k m, i < k → k ≤ m → m < j → V (6 + k) m = iI (pe k m)) (hr1 : fo_sm (rg 3 (i + 1) j)) (hp1 : ∀ k m, i < k → k ≤ m → m < j → fo_sm (pe k m)) : jl_C l K sa yn_FO_leastOfPair bc_FO_leastOfPair 6 (some .int) 4 125 168 ad [.ref (ad 4), .int (nI i), .int (nI j)] (gw K ad I V L C G R) (some (.int (iI (fo_oK b pe rg i j (j - i - 5))))) (gw K ad I V L C G R) := by
  refine jl_enter (by decide) (Nat.le_of_ble_eq_true rfl) (fun x h he hr => ?_)
  obtain ⟨hST, hbases, hn, hb⟩ := id hS
  show jl_J x 168 ad 0 0 (gw K ad I V L C G R) 0 [(0, .ref (ad 4)), (1, .int (nI i)), (2, .int (nI j))] []
  have outer : ∀ d c : Nat, c + d = j - i - 5 → jl_J x 168 ad 0 0 (gw K ad I V L C G R) 24 [(4, .int (nI (j - 1 - c))), (3, .int (iI (fo_oK b pe rg i j c))), (0, .ref (ad 4)), (1, .int (nI i)), (2, .int (nI j))] [] := by
    intro d
    induction d with
    | zero =>
      intro c hc
      have e1 : nI (j - 1 - c) - nI i = nI (j - 1 - c - i) := pk_sub (by omega)
      have hc : c = j - i - 5 := by omega
      refine jl_iload h rfl dc_FO_leastOfPair_24 26 rfl ?_
      refine jl_iload_n (i := 1) h rfl rfl dc_FO_leastOfPair_26 27 rfl ?_
      refine jl_isub h dc_FO_leastOfPair_27 28 rfl ?_
      rw [show nI (j - 1 - c) - nI i = nI (j - 1 - c - i) by exact e1]
      refine jl_iconst (v := nI 4) h (by decide) dc_FO_leastOfPair_28 29 rfl ?_
      refine jl_icmp_le h 101 (by decide) dc_FO_leastOfPair_29 32 rfl (fun c29 => ?_) (fun c29 => absurd (nI_le (by omega) (by decide)) c29)
      refine jl_iload_n (i := 3) h rfl rfl dc_FO_leastOfPair_101 102 rfl ?_
      exact jl_zret h he rfl (by rw [hc]) (rfl) dc_FO_leastOfPair_102
    | succ d ih =>
      intro c hc
      obtain ⟨m, hm⟩ : ∃ m, m = j - 1 - c := ⟨_, rfl⟩
      have ez : fo_oK b pe rg i j (c + 1) = fo_iK b pe i j m (fo_oK b pe rg i j c) (m - 4 - i) := by rw [hm]; rfl
      have ihn := ih (c + 1) (by omega)
      rw [ez, show j - 1 - (c + 1) = m - 1 by omega] at ihn
      rw [← hm]
      have hz := fo_oK_in (b := b) (pe := pe) (rg := rg) hij hj hr1 hp1 c (by omega)
      generalize fo_oK b pe rg i j c = z at hz ihn ⊢
      have inner : ∀ d2 c2 : Nat, c2 + d2 = m - 4 - i → jl_J x 168 ad 0 0 (gw K ad I V L C G R) 37 [(5, .int (nI (i + 1 + c2))), (4, .int (nI m)), (3, .int (iI (fo_iK b pe i j m z c2))), (0, .ref (ad 4)), (1, .int (nI i)), (2, .int (nI j))] [] := by
        intro d2
        induction d2 with
        | zero =>
          intro c2 hc2
          have e2 : nI m + Int32.ofInt (-1) = nI (m - 1) := by
            have h9 := pk_m1 (m - 1)
            rw [show m - 1 + 1 = m by omega] at h9
            exact h9
          have e3 : c2 = m - 4 - i := by omega
          refine jl_iload h rfl dc_FO_leastOfPair_37 39 rfl ?_
          refine jl_iload h rfl dc_FO_leastOfPair_39 41 rfl ?_
          refine jl_iconst (v := nI 4) h (by decide) dc_FO_leastOfPair_41 42 rfl ?_
          refine jl_isub h dc_FO_leastOfPair_42 43 rfl ?_
          refine jl_icmp_gt h 95 (by decide) dc_FO_leastOfPair_43 46 rfl (fun c43 => ?_) (fun c43 => absurd ((fo_gt (by omega) (by omega)).mpr (by omega)) c43)
          refine jl_iinc (i := 4) (d := -1) (lc2 := [(4, _), (5, _), (3, _), (0, _), (1, _), (2, _)]) (v2 := nI (m - 1)) h (by decide) rfl (e2) rfl dc_FO_leastOfPair_95 98 rfl ?_
          refine jl_goto h 24 (by decide) dc_FO_leastOfPair_98 ?_
          refine jl_sub (lc2 := [(4, _), (3, _), (0, _), (1, _), (2, _)]) [0, 2, 3, 4, 5] rfl ?_
          rw [e3]
          exact ihn
        | succ d2 ih2 =>
          intro c2 hc2
          have hk0 : i + 1 + c2 < 18 := by omega
          have hq := hpe (i + 1 + c2) m (by omega) (by omega) (by omega)
          have hin := fo_iK_in (b := b) (i := i) hz hj (by omega) (fun k h1 h2 => hp1 k m h1 h2 (by omega)) c2 (by omega)
          have h5 := lp_w1_in b i j (i + 1 + c2) m hj (by omega)
          have h6 := hp1 (i + 1 + c2) m (by omega) (by omega) (by omega)
          have hin2 : fo_in (lp_w1 b i j (i + 1 + c2) m + pe (i + 1 + c2) m) := by unfold fo_sm at h6; unfold fo_in; omega
          refine jl_iload h rfl dc_FO_leastOfPair_37 39 rfl ?_
          refine jl_iload h rfl dc_FO_leastOfPair_39 41 rfl ?_
          refine jl_iconst (v := nI 4) h (by decide) dc_FO_leastOfPair_41 42 rfl ?_
          refine jl_isub h dc_FO_leastOfPair_42 43 rfl ?_
          refine jl_icmp_gt h 95 (by decide) dc_FO_leastOfPair_43 46 rfl (fun c43 => absurd c43 (fun q => absurd ((fo_gt (by omega) (by omega)).mp q) (by omega))) (fun c43 => ?_)
          refine jl_aload_n (i := 0) h rfl rfl dc_FO_leastOfPair_46 47 rfl ?_
          refine jl_getf h nm_c_FO 7 wl_FO_22 (by omega) (by decide) (by exact rfl) (by rfl) dc_FO_leastOfPair_47 50 rfl ?_
          refine jl_iload h rfl dc_FO_leastOfPair_50 52 rfl ?_
          refine jl_iload h rfl dc_FO_leastOfPair_52 54 rfl ?_
          refine jl_callV (As := [_, _]) (rest := []) h hr vs_FO_57 vi_ST_canPair vx_ST_canPair (ci := 1) rfl (by omega) (by exact hST) (fun l => c_ST_canPair l (by omega) hS hk0 (by omega)) (by first | decide | omega) (by first | decide | omega) rfl rfl (Nat.le_of_ble_eq_true rfl) dc_FO_leastOfPair_54 (res := [_]) rfl 57 rfl ?_
          refine jl_if_eq h 89 (by decide) dc_FO_leastOfPair_57 60 rfl (fun c57 => ?_) (fun c57 => ?_)
          · skip
            rw [st_b0] at c57
            refine jl_iinc (i := 5) (d := 1) (lc2 := [(5, _), (4, _), (3, _), (0, _), (1, _), (2, _)]) (v2 := nI (i + 1 + (c2 + 1))) h (by decide) rfl (by exact nI_1 (i + 1 + c2)) rfl dc_FO_leastOfPair_89 92 rfl ?_
            refine jl_goto h 37 (by decide) dc_FO_leastOfPair_92 ?_
            first | (rw [show fo_iK b pe i j m z c2 = fo_iK b pe i j m z (c2 + 1) by simp [fo_iK, c57]]; exact ih2 (c2 + 1) (by omega)) | exact ih2 (c2 + 1) (by omega)
          · skip
            rw [st_b1] at c57
            have hcp := c57
            unfold en_cp at hcp
            simp only [Bool.and_eq_true, decide_eq_true_eq] at hcp
            refine jl_iload_n (i := 3) h rfl rfl dc_FO_leastOfPair_60 61 rfl ?_
            refine jl_aload_n (i := 0) h rfl rfl dc_FO_leastOfPair_61 62 rfl ?_
            refine jl_getf h nm_c_FO 8 wl_FO_26 (by omega) (by decide) (by exact rfl) (by rfl) dc_FO_leastOfPair_62 65 rfl ?_
            refine jl_iload_n (i := 1) h rfl rfl dc_FO_leastOfPair_65 66 rfl ?_
            refine jl_iload_n (i := 2) h rfl rfl dc_FO_leastOfPair_66 67 rfl ?_
            refine jl_iload h rfl dc_FO_leastOfPair_67 69 rfl ?_
            refine jl_iload h rfl dc_FO_leastOfPair_69 71 rfl ?_
            refine jl_callV (As := [_, _, _, _]) (rest := [_]) h hr vs_FO_107 vi_LO_withOne vx_LO_withOne (ci := 2) rfl (by omega) (by exact rfl) (fun l => c_LO_withOne l (by omega) hS rfl (by omega) (by omega) (by omega) hj hkd hcp.2) (by first | decide | omega) (by first | decide | omega) rfl rfl (Nat.le_of_ble_eq_true rfl) dc_FO_leastOfPair_71 (res := [_, _]) rfl 74 rfl ?_
            refine jl_aload_n (i := 0) h rfl rfl dc_FO_leastOfPair_74 75 rfl ?_
            refine jl_getf h nm_c_FO 2 wl_FO_11 (by omega) (by decide) (by exact rfl) (by rfl) dc_FO_leastOfPair_75 78 rfl ?_
            refine jl_iload h rfl dc_FO_leastOfPair_78 80 rfl ?_
            refine jl_aald (t0 := 4) h (i + 1 + c2) (by exact rfl) (by omega) (by exact rfl) (by rfl) (by rfl) (by exact hk0) (by first | decide | assumption) (by exact if_pos hk0) dc_FO_leastOfPair_80 81 rfl ?_
            refine jl_iload h rfl dc_FO_leastOfPair_81 83 rfl ?_
            refine jl_iald (v := iI (pe (i + 1 + c2) m)) h (m) (by exact rfl) (by omega) (by exact gw_row (gw_i_6 _ hk0)) (by exact by omega) (by first | decide | assumption) (by exact hq) dc_FO_leastOfPair_83 84 rfl ?_
            refine jl_iadd h dc_FO_leastOfPair_84 85 rfl ?_
            rw [show iI (lp_w1 b i j (i + 1 + c2) m) + iI (pe (i + 1 + c2) m) = iI (lp_w1 b i j (i + 1 + c2) m + pe (i + 1 + c2) m) by exact iI_add _ _]
            refine jl_mmin h hr wm_FO_91 (by first | decide | omega) (by first | decide | omega) (Nat.le_of_ble_eq_true rfl) dc_FO_leastOfPair_85 88 rfl ?_
            rw [show (if iI (lp_w1 b i j (i + 1 + c2) m + pe (i + 1 + c2) m) < iI (fo_iK b pe i j m z c2) then iI (lp_w1 b i j (i + 1 + c2) m + pe (i + 1 + c2) m) else iI (fo_iK b pe i j m z c2)) = iI (fo_iK b pe i j m z (c2 + 1)) by rw [fo_mi_iI hin hin2]; simp only [fo_iK, c57, if_true]]
            refine jl_istore_n (i := 3) (lc2 := [(3, _), (5, _), (4, _), (0, _), (1, _), (2, _)]) h rfl (by decide) rfl dc_FO_leastOfPair_88 89 rfl ?_
            refine jl_iinc (i := 5) (d := 1) (lc2 := [(5, _), (3, _), (4, _), (0, _), (1, _), (2, _)]) (v2 := nI (i + 1 + (c2 + 1))) h (by decide) rfl (by exact nI_1 (i + 1 + c2)) rfl dc_FO_leastOfPair_89 92 rfl ?_
            refine jl_goto h 37 (by decide) dc_FO_leastOfPair_92 ?_
            refine jl_sub (lc2 := [(5, _), (4, _), (3, _), (0, _), (1, _), (2, _)]) [0, 2, 1, 3, 4, 5] rfl ?_
            first | (rw [show fo_iK b pe i j m z c2 = fo_iK b pe i j m z (c2 + 1) by simp [fo_iK, c57]]; exact ih2 (c2 + 1) (by omega)) | exact ih2 (c2 + 1) (by omega)
      have e1 : nI m - nI i = nI (m - i) := pk_sub (by omega)
      refine jl_iload h rfl dc_FO_leastOfPair_24 26 rfl ?_
      refine jl_iload_n (i := 1) h rfl rfl dc_FO_leastOfPair_26 27 rfl ?_
      refine jl_isub h dc_FO_leastOfPair_27 28 rfl ?_
      rw [show nI m - nI i = nI (m - i) by exact e1]
      refine jl_iconst (v := nI 4) h (by decide) dc_FO_leastOfPair_28 29 rfl ?_
      refine jl_icmp_le h 101 (by decide) dc_FO_leastOfPair_29 32 rfl (fun c29 => absurd c29 (nI_ge (by omega) (by omega))) (fun c29 => ?_)
      refine jl_iload_n (i := 1) h rfl rfl dc_FO_leastOfPair_32 33 rfl ?_
      refine jl_iconst (v := 1) h (by decide) dc_FO_leastOfPair_33 34 rfl ?_
      refine jl_iadd h dc_FO_leastOfPair_34 35 rfl ?_
      rw [show nI i + 1 = nI (i + 1 + 0) by exact nI_1 i]
      refine jl_istore (i := 5) (lc2 := [(5, _), (4, _), (3, _), (0, _), (1, _), (2, _)]) h (by decide) rfl dc_FO_leastOfPair_35 37 rfl ?_
      exact inner (m - 4 - i) 0 (by omega)
  have hin1 : fo_in (lp_hp b i j) := by have := lp_hp_in b i j; unfold fo_in; omega
  have hin2 : fo_in (fo_many b rg i j) := by have := lp_wk_in b i j 5 (by decide); unfold fo_many; unfold fo_sm at hr1; unfold fo_in; omega
  have e9 : nI j - 1 = nI (j - 1 - 0) := by rw [show (1 : Int32) = nI 1 from rfl, pk_sub (by omega)]; rfl
  refine jl_aload_n (i := 0) h rfl rfl dc_FO_leastOfPair_0 1 rfl ?_
  refine jl_getf h nm_c_FO 8 wl_FO_26 (by omega) (by decide) (by exact rfl) (by rfl) dc_FO_leastOfPair_1 4 rfl ?_
  refine jl_iload_n (i := 1) h rfl rfl dc_FO_leastOfPair_4 5 rfl ?_
  refine jl_iload_n (i := 2) h rfl rfl dc_FO_leastOfPair_5 6 rfl ?_
  refine jl_callV (As := [_, _]) (rest := []) h hr vs_FO_101 vi_LO_hairpin vx_LO_hairpin (ci := 2) rfl (by omega) (by exact rfl) (fun l => c_LO_hairpin l (by omega) hS rfl hij hj) (by first | decide | omega) (by first | decide | omega) rfl rfl (Nat.le_of_ble_eq_true rfl) dc_FO_leastOfPair_6 (res := [_]) rfl 9 rfl ?_
  refine jl_aload_n (i := 0) h rfl rfl dc_FO_leastOfPair_9 10 rfl ?_
  refine jl_iload_n (i := 1) h rfl rfl dc_FO_leastOfPair_10 11 rfl ?_
  refine jl_iload_n (i := 2) h rfl rfl dc_FO_leastOfPair_11 12 rfl ?_
  refine jl_callV (As := [_, _]) (rest := [_]) h hr vs_FO_104 vi_FO_leastWithMany vx_FO_leastWithMany (ci := 3) rfl (by omega) (by exact rfl) (fun l => c_FO_leastWithMany l hS (by omega) hj hrg) (by first | decide | omega) (by first | decide | omega) rfl rfl (Nat.le_of_ble_eq_true rfl) dc_FO_leastOfPair_12 (res := [_, _]) rfl 15 rfl ?_
  refine jl_mmin h hr wm_FO_91 (by first | decide | omega) (by first | decide | omega) (Nat.le_of_ble_eq_true rfl) dc_FO_leastOfPair_15 18 rfl ?_
  rw [show (if iI (fo_many b rg i j) < iI (lp_hp b i j) then iI (fo_many b rg i j) else iI (lp_hp b i j)) = iI (fo_oK b pe rg i j 0) by rw [fo_mi_iI hin1 hin2]; rfl]
  refine jl_istore_n (i := 3) (lc2 := [(3, _), (0, _), (1, _), (2, _)]) h rfl (by decide) rfl dc_FO_leastOfPair_18 19 rfl ?_
  refine jl_iload_n (i := 2) h rfl rfl dc_FO_leastOfPair_19 20 rfl ?_
  refine jl_iconst (v := 1) h (by decide) dc_FO_leastOfPair_20 21 rfl ?_
  refine jl_isub h dc_FO_leastOfPair_21 22 rfl ?_
  rw [show nI j - 1 = nI (j - 1 - 0) by exact e9]
  refine jl_istore (i := 4) (lc2 := [(4, _), (3, _), (0, _), (1, _), (2, _)]) h (by decide) rfl dc_FO_leastOfPair_22 24 rfl ?_
  exact outer (j - i - 5) 0 (by omega)
end FO

