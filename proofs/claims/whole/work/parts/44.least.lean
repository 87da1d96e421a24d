/-! The least energy of the tables is the least over all structures. -/
theorem fo_mi_or (a c : Int) : fo_mi a c = a ∨ fo_mi a c = c := by
  unfold fo_mi
  split
  · exact Or.inr rfl
  · exact Or.inl rfl
theorem rK_att {b : Nat → Nat} {r : Nat} {pe : Nat → Nat → Int} {rg : Nat → Nat → Nat → Int} {s t : Nat} : ∀ c, fo_rK b r pe rg s t c = rg r s t + fo_pp r ∨ ∃ c2, c2 < c ∧ en_cp b (s + c2) t = true ∧ fo_rK b r pe rg s t c = rg (fo_af r) s (s + c2) + fo_br b r pe (s + c2) t
  | 0 => Or.inl rfl
  | c + 1 => by
    have ih := rK_att (b := b) (r := r) (pe := pe) (rg := rg) (s := s) (t := t) c
    have e : fo_rK b r pe rg s t (c + 1) = if en_cp b (s + c) t = true then fo_mi (fo_rK b r pe rg s t c) (rg (fo_af r) s (s + c) + fo_br b r pe (s + c) t) else fo_rK b r pe rg s t c := rfl
    have old : fo_rK b r pe rg s t (c + 1) = fo_rK b r pe rg s t c → (fo_rK b r pe rg s t (c + 1) = rg r s t + fo_pp r ∨ ∃ c2, c2 < c + 1 ∧ en_cp b (s + c2) t = true ∧ fo_rK b r pe rg s t (c + 1) = rg (fo_af r) s (s + c2) + fo_br b r pe (s + c2) t) := fun h9 => by
      rcases ih with h1 | ⟨c2, h1, h2, h3⟩
      · exact Or.inl (h9.trans h1)
      · exact Or.inr ⟨c2, by omega, h2, h9.trans h3⟩
    by_cases hc : en_cp b (s + c) t = true
    · rw [if_pos hc] at e
      rcases fo_mi_or (fo_rK b r pe rg s t c) (rg (fo_af r) s (s + c) + fo_br b r pe (s + c) t) with h | h
      · exact old (e.trans h)
      · exact Or.inr ⟨c, by omega, hc, e.trans h⟩
    · rw [if_neg hc] at e
      exact old e
theorem iK_att {b : Nat → Nat} {pe : Nat → Nat → Int} {i j m : Nat} {z : Int} : ∀ c, fo_iK b pe i j m z c = z ∨ ∃ c2, c2 < c ∧ en_cp b (i + 1 + c2) m = true ∧ fo_iK b pe i j m z c = lp_w1 b i j (i + 1 + c2) m + pe (i + 1 + c2) m
  | 0 => Or.inl rfl
  | c + 1 => by
    have ih := iK_att (b := b) (pe := pe) (i := i) (j := j) (m := m) (z := z) c
    have e : fo_iK b pe i j m z (c + 1) = if en_cp b (i + 1 + c) m = true then fo_mi (fo_iK b pe i j m z c) (lp_w1 b i j (i + 1 + c) m + pe (i + 1 + c) m) else fo_iK b pe i j m z c := rfl
    have old : fo_iK b pe i j m z (c + 1) = fo_iK b pe i j m z c → (fo_iK b pe i j m z (c + 1) = z ∨ ∃ c2, c2 < c + 1 ∧ en_cp b (i + 1 + c2) m = true ∧ fo_iK b pe i j m z (c + 1) = lp_w1 b i j (i + 1 + c2) m + pe (i + 1 + c2) m) := fun h9 => by
      rcases ih with h1 | ⟨c2, h1, h2, h3⟩
      · exact Or.inl (h9.trans h1)
      · exact Or.inr ⟨c2, by omega, h2, h9.trans h3⟩
    by_cases hc : en_cp b (i + 1 + c) m = true
    · rw [if_pos hc] at e
      rcases fo_mi_or (fo_iK b pe i j m z c) (lp_w1 b i j (i + 1 + c) m + pe (i + 1 + c) m) with h | h
      · exact old (e.trans h)
      · exact Or.inr ⟨c, by omega, hc, e.trans h⟩
    · rw [if_neg hc] at e
      exact old e
theorem oK_att {b : Nat → Nat} {pe : Nat → Nat → Int} {rg : Nat → Nat → Nat → Int} {i j : Nat} : ∀ c, c ≤ j - i - 5 → fo_oK b pe rg i j c = lp_hp b i j ∨ fo_oK b pe rg i j c = fo_many b rg i j ∨ ∃ k m, i < k ∧ k < m ∧ m < j ∧ en_cp b k m = true ∧ fo_oK b pe rg i j c = lp_w1 b i j k m + pe k m
  | 0, _ => by
    rcases fo_mi_or (lp_hp b i j) (fo_many b rg i j) with h | h
    · exact Or.inl h
    · exact Or.inr (Or.inl h)
  | c + 1, hc => by
    have ih := oK_att (b := b) (pe := pe) (rg := rg) (i := i) (j := j) c (by omega)
    have e : fo_oK b pe rg i j (c + 1) = fo_iK b pe i j (j - 1 - c) (fo_oK b pe rg i j c) (j - 1 - c - 4 - i) := rfl
    rcases iK_att (b := b) (pe := pe) (i := i) (j := j) (m := j - 1 - c) (z := fo_oK b pe rg i j c) (j - 1 - c - 4 - i) with h | ⟨c2, h1, h2, h3⟩
    · have h9 := e.trans h
      rcases ih with g | g | ⟨k, m, g1, g2, g3, g4, g5⟩
      · exact Or.inl (h9.trans g)
      · exact Or.inr (Or.inl (h9.trans g))
      · exact Or.inr (Or.inr ⟨k, m, g1, g2, g3, g4, h9.trans g5⟩)
    · have := (en_cp_4 h2).1
      exact Or.inr (Or.inr ⟨i + 1 + c2, j - 1 - c, by omega, by omega, by omega, h2, e.trans h3⟩)
theorem reg_att {b : Nat → Nat} {n : Nat} {pe : Nat → Nat → Int} {T : Nat → Nat → Nat → Int} (h : tb_ok b n pe T) {r s : Nat} : ∀ d, s + d ≤ n → T (2 + r) s (s + d) = T (2 + r) s s + fo_pp r * (d : Int) ∨ ∃ k m, s ≤ k ∧ k < m ∧ m < s + d ∧ en_cp b k m = true ∧ T (2 + r) s (s + d) = fo_pp r * ((s + d - 1 - m : Nat) : Int) + T (2 + fo_af r) s k + (fo_pq r + lp_wk b k m 5 + pe k m)
  | 0, _ => Or.inl (by simp)
  | d + 1, hd => by
    have e := tb_r h (r := r) (show s ≤ s + d by omega) (show s + d < n by omega)
    rcases rK_att (b := b) (r := r) (pe := pe) (rg := fun r => T (2 + r)) (s := s) (t := s + d) (s + d - 3 - s) with h1 | ⟨c2, h1, h2, h3⟩
    · have h9 : T (2 + r) s (s + (d + 1)) = T (2 + r) s (s + d) + fo_pp r := e.trans h1
      have hm : fo_pp r * ((d + 1 : Nat) : Int) = fo_pp r * (d : Int) + fo_pp r := by rw [Int.natCast_add, Int.mul_add]; simp
      rcases reg_att h (r := r) (s := s) d (by omega) with g | ⟨k, m, g1, g2, g3, g4, g5⟩
      · left
        rw [h9, g, hm]
        omega
      · right
        refine ⟨k, m, g1, g2, by omega, g4, ?_⟩
        have hm2 : fo_pp r * ((s + (d + 1) - 1 - m : Nat) : Int) = fo_pp r * ((s + d - 1 - m : Nat) : Int) + fo_pp r := by
          rw [show s + (d + 1) - 1 - m = (s + d - 1 - m) + 1 by omega, Int.natCast_add, Int.mul_add]
          simp
        rw [h9, g5, hm2]
        omega
    · right
      have h4 := (en_cp_4 h2).1
      refine ⟨s + c2, s + d, by omega, by omega, by omega, h2, ?_⟩
      have h9 : T (2 + r) s (s + (d + 1)) = T (2 + fo_af r) s (s + c2) + (fo_pq r + lp_wk b (s + c2) (s + d) 5 + pe (s + c2) (s + d)) := e.trans h3
      rw [h9, show s + (d + 1) - 1 - (s + d) = 0 by omega]
      simp
def nl_po (pe : Nat → Nat → Int) : Option (Nat × Nat) → Int
  | none => 0
  | some (i, j) => pe i j
theorem fo_pp_in (r : Nat) : 0 ≤ fo_pp r ∧ 0 ≤ fo_pq r := by
  unfold fo_pp fo_pq
  split <;> exact ⟨by omega, by omega⟩
theorem nl_att {b : Nat → Nat} {n : Nat} {pe : Nat → Nat → Int} {T : Nat → Nat → Nat → Int} (hn : n ≤ 18) (h : tb_ok b n pe T) (hB : fo_B n pe T) : ∀ (d : Nat) (p : Option (Nat × Nat)) (regs : List (Nat × Nat × Nat)) (x t : Int), nl_W n regs → (∀ i j, p = some (i, j) → en_cp b i j = true ∧ j < n) → nl_mu regs + nl_pm p < d → d ≤ 40 → (∀ a ∈ regs, T (2 + a.1) a.2.1 a.2.2 ≤ 1000 * (50 - (d : Int))) → nl_po pe p ≤ 1000 * (50 - (d : Int)) → ∃ c ∈ nl_F b d p regs x t, c.1 = x + nl_sum T regs + nl_po pe p
  | 0, _, _, _, _, _, _, hd, _, _, _ => absurd hd (Nat.not_lt_zero _)
  | d + 1, none, [], x, t, _, _, hd, _, _, _ => ⟨(x, t), by unfold nl_F; exact List.mem_singleton.mpr rfl, by show x = x + 0 + 0; omega⟩
  | d + 1, none, (r, s, e) :: rest, x, t, hW, hp, hd, hd40, hT, hpo => by
    have hd : 2 * (e - s) + 1 + nl_mu rest + 0 < d + 1 := hd
    obtain ⟨w1, w2, w3⟩ := hW (r, s, e) List.mem_cons_self
    have w1 : r < 4 := w1
    have w2 : s ≤ e := w2
    have w3 : e ≤ n := w3
    have hTr : T (2 + r) s e ≤ 1000 * (50 - ((d + 1 : Nat) : Int)) := hT (r, s, e) List.mem_cons_self
    have hWr : nl_W n rest := fun q hq => hW q (List.mem_cons_of_mem _ hq)
    have hTrest : ∀ a ∈ rest, T (2 + a.1) a.2.1 a.2.2 ≤ 1000 * (50 - (d : Int)) := fun a ha => by
      have := hT a (List.mem_cons_of_mem _ ha)
      omega
    have hpp := fo_pp_in r
    rcases reg_att h (r := r) (s := s) (e - s) (by omega) with g | ⟨k, m, g1, g2, g3, g4, g5⟩
    · rw [show s + (e - s) = e by omega, show ((e - s : Nat) : Int) = (e : Int) - s by omega] at g
      have hb := h.2.2 s
      have hmul : 0 ≤ fo_pp r * ((e : Int) - s) := Int.mul_nonneg hpp.1 (by omega)
      have hr2 : r < 2 := by
        match r, w1, g, hmul with
        | 0, _, _, _ => omega
        | 1, _, _, _ => omega
        | 2, _, g, hmul => have := hb.2.2.2.2.1; have g : T 4 s e = T 4 s s + _ := g; have hTr : T 4 s e ≤ _ := hTr; omega
        | 3, _, g, hmul => have := hb.2.2.2.2.2; have g : T 5 s e = T 5 s s + _ := g; have hTr : T 5 s e ≤ _ := hTr; omega
      have hT0 : T (2 + r) s s = 0 := by
        match r, hr2 with
        | 0, _ => exact hb.2.2.1
        | 1, _ => exact hb.2.2.2.1
      obtain ⟨c, hc, he⟩ := nl_att hn h hB d none rest (x + fo_pp r * ((e : Int) - s)) t hWr (fun i j hij => by cases hij) (by show nl_mu rest + 0 < d; omega) (by omega) hTrest (by show (0 : Int) ≤ _; omega)
      refine ⟨c, ?_, ?_⟩
      · rw [nl_F_reg, if_pos hr2]
        exact List.mem_append.mpr (Or.inl hc)
      · rw [he]
        show x + fo_pp r * ((e : Int) - s) + nl_sum T rest + 0 = x + (T (2 + r) s e + nl_sum T rest) + 0
        rw [g, hT0]
        omega
    · rw [show s + (e - s) = e by omega] at g3 g5
      have h4 := (en_cp_4 g4).1
      have b1 := hB.1 k m (by omega) (by omega)
      have b2 := hB.2.2 (fo_af r) (fo_af_lt w1) s k g1 (Or.inl (by omega))
      have b3 := lp_wk_in b k m 5 (by decide)
      have hmul : 0 ≤ fo_pp r * ((e - 1 - m : Nat) : Int) := Int.mul_nonneg hpp.1 (by omega)
      obtain ⟨c, hc, he⟩ := nl_att hn h hB d (some (k, m)) ((fo_af r, s, k) :: rest) (x + fo_pp r * ((e - 1 - m : Nat) : Int) + (fo_pq r + lp_wk b k m 5)) (t - nl_dt k m) (fun q hq => by
        rcases List.mem_cons.mp hq with k5 | k5
        · subst k5
          exact ⟨fo_af_lt w1, g1, by show k ≤ n; omega⟩
        · exact hWr q k5) (fun i j hij => by cases hij; exact ⟨g4, by omega⟩) (by show 2 * (k - s) + 1 + nl_mu rest + 2 * (m - k) < d; omega) (by omega) (fun a ha => by
        rcases List.mem_cons.mp ha with k5 | k5
        · subst k5
          show T (2 + fo_af r) s k ≤ _
          omega
        · exact hTrest a k5) (by show pe k m ≤ _; omega)
      refine ⟨c, ?_, ?_⟩
      · rw [nl_F_reg]
        refine List.mem_append.mpr (Or.inr (List.mem_flatMap.mpr ⟨e - 1 - m, List.mem_range.mpr (by omega), List.mem_flatMap.mpr ⟨k - s, List.mem_range.mpr (by omega), ?_⟩⟩))
        unfold nl_F2
        rw [show s + (k - s) = k by omega, show e - 1 - (e - 1 - m) = m by omega, if_pos g4]
        exact hc
      · rw [he]
        show x + fo_pp r * ((e - 1 - m : Nat) : Int) + (fo_pq r + lp_wk b k m 5) + (T (2 + fo_af r) s k + nl_sum T rest) + pe k m = x + (T (2 + r) s e + nl_sum T rest) + 0
        rw [g5]
        omega
  | d + 1, some (i, j), regs, x, t, hW, hp, hd, hd40, hT, hpo => by
    have hd : nl_mu regs + 2 * (j - i) < d + 1 := hd
    obtain ⟨hcp, hj⟩ := hp i j rfl
    have h4 := (en_cp_4 hcp).1
    have hpo : pe i j ≤ 1000 * (50 - ((d + 1 : Nat) : Int)) := hpo
    have hT2 : ∀ a ∈ regs, T (2 + a.1) a.2.1 a.2.2 ≤ 1000 * (50 - (d : Int)) := fun a ha => by
      have := hT a ha
      omega
    have hpe := h.1 i j (by omega) hj
    rw [if_pos hcp] at hpe
    rw [nl_F_pair]
    rcases oK_att (b := b) (pe := pe) (rg := fun r => T (2 + r)) (i := i) (j := j) (j - i - 5) (Nat.le_refl _) with g | g | ⟨k, m, g1, g2, g3, g4, g5⟩
    · obtain ⟨c, hc, he⟩ := nl_att hn h hB d none regs (x + lp_hp b i j) t hW (fun i j hij => by cases hij) (by show nl_mu regs + 0 < d; omega) (by omega) hT2 (by show (0 : Int) ≤ _; omega)
      refine ⟨c, List.mem_append.mpr (Or.inl hc), ?_⟩
      rw [he]
      show x + lp_hp b i j + nl_sum T regs + 0 = x + nl_sum T regs + pe i j
      rw [hpe, g]
      omega
    · have b3 := lp_wk_in b i j 5 (by decide)
      have g : fo_oK b pe (fun r => T (2 + r)) i j (j - i - 5) = 38 + lp_wk b i j 5 + T 5 (i + 1) j := g
      obtain ⟨c, hc, he⟩ := nl_att hn h hB d none ((3, i + 1, j) :: regs) (x + (38 + lp_wk b i j 5)) t (fun q hq => by
        rcases List.mem_cons.mp hq with k5 | k5
        · subst k5
          exact ⟨by show 3 < 4; omega, by show i + 1 ≤ j; omega, by show j ≤ n; omega⟩
        · exact hW q k5) (fun i j hij => by cases hij) (by show 2 * (j - (i + 1)) + 1 + nl_mu regs + 0 < d; omega) (by omega) (fun a ha => by
        rcases List.mem_cons.mp ha with k5 | k5
        · subst k5
          show T 5 (i + 1) j ≤ _
          omega
        · exact hT2 a k5) (by show (0 : Int) ≤ _; omega)
      refine ⟨c, List.mem_append.mpr (Or.inr (List.mem_append.mpr (Or.inr hc))), ?_⟩
      rw [he]
      show x + (38 + lp_wk b i j 5) + (T 5 (i + 1) j + nl_sum T regs) + 0 = x + nl_sum T regs + pe i j
      rw [hpe, g]
      omega
    · have b3 := lp_w1_in b i j k m (by omega) (by omega)
      have h44 := (en_cp_4 g4).1
      obtain ⟨c, hc, he⟩ := nl_att hn h hB d (some (k, m)) regs (x + lp_w1 b i j k m) (t - nl_dt k m) hW (fun i j hij => by cases hij; exact ⟨g4, by omega⟩) (by show nl_mu regs + 2 * (m - k) < d; omega) (by omega) hT2 (by show pe k m ≤ _; omega)
      refine ⟨c, List.mem_append.mpr (Or.inr (List.mem_append.mpr (Or.inl (List.mem_flatMap.mpr ⟨j - 1 - m, List.mem_range.mpr (by omega), List.mem_flatMap.mpr ⟨k - i - 1, List.mem_range.mpr (by omega), ?_⟩⟩)))), ?_⟩
      · unfold nl_G2
        rw [show i + 1 + (k - i - 1) = k by omega, show j - 1 - (j - 1 - m) = m by omega, if_pos g4]
        exact hc
      · rw [he]
        show x + lp_w1 b i j k m + nl_sum T regs + pe k m = x + nl_sum T regs + pe i j
        rw [hpe, g5]
        omega
theorem mo_lo_spec (b : Nat → Nat) (n : Nat) : ∀ (ws : List (Nat → Int)) (a : Int), mo_lo b n a ws ≤ a ∧ (∀ w ∈ ws, mo_lo b n a ws ≤ st_E b n w) ∧ (mo_lo b n a ws = a ∨ ∃ w ∈ ws, mo_lo b n a ws = st_E b n w)
  | [], a => ⟨Int.le_refl _, fun w hw => absurd hw List.not_mem_nil, Or.inl rfl⟩
  | w :: ws, a => by
    obtain ⟨h1, h2, h3⟩ := mo_lo_spec b n ws (fo_mi a (st_E b n w))
    have e : mo_lo b n a (w :: ws) = mo_lo b n (fo_mi a (st_E b n w)) ws := rfl
    have h4 := fo_mi_le a (st_E b n w)
    rw [e]
    refine ⟨by omega, fun u hu => ?_, ?_⟩
    · rcases List.mem_cons.mp hu with k | k
      · rw [k]
        omega
      · exact h2 u k
    · rcases h3 with h3 | ⟨u, hu, h3⟩
      · rcases fo_mi_or a (st_E b n w) with h5 | h5
        · exact Or.inl (h3.trans h5)
        · exact Or.inr ⟨w, List.mem_cons_self, h3.trans h5⟩
      · exact Or.inr ⟨u, List.mem_cons_of_mem _ hu, h3⟩
/-- the least energy -/
theorem tb_least {b : Nat → Nat} {n : Nat} {pe : Nat → Nat → Int} {T : Nat → Nat → Nat → Int} (hn : n ≤ 18) (h : tb_ok b n pe T) (hB : fo_B n pe T) : T 2 0 n = mo_lo b n 0 (en_all b n) := by
  have hp := nl_perm b hn
  have hLB := tb_LB h
  have hW : nl_W n [(0, 0, n)] := fun q hq => by
    rw [List.mem_singleton] at hq
    subst hq
    exact ⟨by show 0 < 4; omega, Nat.zero_le n, Nat.le_refl n⟩
  have h0 : T 2 0 n ≤ 0 := by
    have := hLB.1 0 0 n (by omega) (Nat.zero_le n) (Nat.le_refl n)
    have e : fo_pp 0 * ((n : Int) - ((0 : Nat) : Int)) = 0 := by show 0 * _ = _; rw [Int.zero_mul]
    rw [e] at this
    exact this
  have hlow : ∀ w ∈ en_all b n, T 2 0 n ≤ st_E b n w := fun w hw => by
    have hm : (st_E b n w, mo_tx w n) ∈ nl_F b 38 none [(0, 0, n)] 0 (nl_t0 n) := hp.symm.subset (List.mem_map.mpr ⟨w, hw, rfl⟩)
    have := nl_lb hLB 38 none [(0, 0, n)] 0 (nl_t0 n) hW (fun i j hij => by cases hij) _ hm
    have e : (0 : Int) + nl_sum T [(0, 0, n)] = T 2 0 n := by show 0 + (T 2 0 n + 0) = _; omega
    first
      | (have := this; omega)
      | (show T 2 0 n ≤ (st_E b n w, mo_tx w n).1; rw [← e]; simpa using this)
  obtain ⟨c, hc, he⟩ := nl_att hn h hB 38 none [(0, 0, n)] 0 (nl_t0 n) hW (fun i j hij => by cases hij) (by show 2 * (n - 0) + 1 + 0 + 0 < 38; omega) (by omega) (fun a ha => by
    rw [List.mem_singleton] at ha
    subst ha
    show T 2 0 n ≤ _
    omega) (by show (0 : Int) ≤ _; omega)
  have he : c.1 = 0 + (T 2 0 n + 0) + 0 := he
  obtain ⟨w, hw, hwc⟩ := List.mem_map.mp (hp.subset hc)
  have hE : st_E b n w = T 2 0 n := by
    have : c.1 = st_E b n w := by rw [← hwc]
    omega
  obtain ⟨s1, s2, s3⟩ := mo_lo_spec b n (en_all b n) 0
  have h1 := s2 w hw
  rcases s3 with h2 | ⟨u, hu, h2⟩
  · omega
  · have := hlow u hu
    omega

