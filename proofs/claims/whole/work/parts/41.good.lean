/-! Good fillings, step by step, both ways. -/
theorem nl_back {b : Nat → Nat} {n : Nat} {w : Nat → Int} (h : en_V b n w) {i j : Nat} (hw : w i = j) : w j = i := by
  rcases h.1 i with h4 | ⟨_, _, _, _, h4⟩
  · omega
  · rwa [hw, Int.toNat_natCast] at h4
theorem nl_g_none {b : Nat → Nat} {n : Nat} {w w2 : Nat → Int} {r s e : Nat} {rest : List (Nat × Nat × Nat)} (hr : r < 2) (h0 : nl_P0 b n w none ((r, s, e) :: rest)) (hg : nl_Good b n w none rest w2) : nl_Good b n w none ((r, s, e) :: rest) w2 ∧ ∀ x : Nat, s ≤ x → x < e → w2 x = -1 := by
  obtain ⟨g1, g2, g3, g4⟩ := hg
  obtain ⟨h1, h2, h3, h4, h5⟩ := h0
  rw [List.pairwise_cons] at h3
  have hnot : ∀ x, s ≤ x → ¬ nl_rg rest x := fun x hx ⟨a, ha, k1, k2⟩ => by
    have : a.2.2 ≤ s := h3.1 a ha
    omega
  have hin : ∀ x, ¬ nl_in none x := fun x ⟨i, j, hij, _⟩ => by cases hij
  have hfr : ∀ x : Nat, s ≤ x → x < e → w2 x = -1 := fun x k1 k2 => by
    rw [g2 x (hnot x k1) (hin x)]
    exact h2 x (Or.inl ⟨(r, s, e), List.mem_cons_self, k1, k2⟩)
  refine ⟨⟨g1, fun q hq1 hq2 => g2 q (fun ⟨a, ha, k1, k2⟩ => hq1 ⟨a, List.mem_cons_of_mem _ ha, k1, k2⟩) hq2, fun a ha => ?_, fun i j hij => by cases hij⟩, hfr⟩
  rcases List.mem_cons.mp ha with k3 | k3
  · subst k3
    refine ⟨fun q k1 k2 => Or.inl (hfr q k1 k2), ?_⟩
    show r - 1 ≤ _
    rw [show r - 1 = 0 by omega]
    exact Nat.zero_le _
  · exact g3 a k3
theorem nl_g_pair {b : Nat → Nat} {n : Nat} {w w2 : Nat → Int} {r s e k m : Nat} {rest : List (Nat × Nat × Nat)} (h0 : nl_P0 b n w none ((r, s, e) :: rest)) (hs : s ≤ k) (hkm : k < m) (hm : m < e) (hg : nl_Good b n (en_pr w k m) (some (k, m)) ((fo_af r, s, k) :: rest) w2) : nl_Good b n w none ((r, s, e) :: rest) w2 ∧ w2 k = m ∧ (∀ x : Nat, s ≤ x → x < k → (x : Int) < w2 x → w2 x < k) ∧ ∀ x : Nat, m < x → x < e → w2 x = -1 := by
  obtain ⟨g1, g2, g3, g4⟩ := hg
  obtain ⟨h1, h2, h3, h4, h5⟩ := h0
  rw [List.pairwise_cons] at h3
  have hwk := g4 k m rfl
  have hwm := nl_back g1 hwk
  have hcl : nl_cl w2 s k := (g3 (fo_af r, s, k) List.mem_cons_self).1
  have hlen : fo_af r - 1 ≤ (tp_l w2 s k).1.length := (g3 (fo_af r, s, k) List.mem_cons_self).2
  have hl : ∀ x : Nat, s ≤ x → x < k → (x : Int) < w2 x → w2 x < k := fun x k1 k2 k3 => by
    rcases hcl x k1 k2 with k4 | k4 <;> omega
  have hfr : ∀ x : Nat, m < x → x < e → w2 x = -1 := fun x k1 k2 => by
    rw [g2 x (fun ⟨a, ha, k3, k4⟩ => ?_) (fun ⟨i, j, hij, k3, k4⟩ => ?_), en_pr_at, if_neg (by omega), if_neg (by omega)]
    · exact h2 x (Or.inl ⟨(r, s, e), List.mem_cons_self, by show s ≤ x; omega, k2⟩)
    · rcases List.mem_cons.mp ha with k5 | k5
      · subst k5
        have k4 : x < k := k4
        omega
      · have : a.2.2 ≤ s := h3.1 a k5
        omega
    · cases hij
      omega
  refine ⟨⟨g1, fun q hq1 hq2 => ?_, fun a ha => ?_, fun i j hij => by cases hij⟩, hwk, hl, hfr⟩
  · have hqo : ¬ (s ≤ q ∧ q < e) := fun k9 => hq1 ⟨(r, s, e), List.mem_cons_self, k9.1, k9.2⟩
    rw [g2 q (fun ⟨a, ha, k3, k4⟩ => ?_) (fun ⟨i, j, hij, k3, k4⟩ => ?_), en_pr_at, if_neg (by omega), if_neg (by omega)]
    · rcases List.mem_cons.mp ha with k5 | k5
      · subst k5
        have k3 : s ≤ q := k3
        have k4 : q < k := k4
        omega
      · exact hq1 ⟨a, List.mem_cons_of_mem _ k5, k3, k4⟩
    · cases hij
      omega
  · rcases List.mem_cons.mp ha with k5 | k5
    · subst k5
      refine ⟨fun q k1 k2 => ?_, ?_⟩
      · have k1 : s ≤ q := k1
        have k2 : q < e := k2
        show w2 q = -1 ∨ ((s : Int) ≤ w2 q ∧ w2 q < (e : Int))
        by_cases e1 : q < k
        · rcases hcl q k1 e1 with k4 | k4
          · exact Or.inl k4
          · right; omega
        · by_cases e2 : q = k
          · rw [e2, hwk]
            right; omega
          · by_cases e3 : q < m
            · rcases g1.2.2 k q (by omega) (by omega) with k4 | k4
              · exact Or.inl k4
              · right; omega
            · by_cases e4 : q = m
              · rw [e4, hwm]
                right; omega
              · exact Or.inl (hfr q (by omega) k2)
      · show r - 1 ≤ (tp_l w2 s e).1.length
        rw [tp_split hs hkm hm hwk hl (fun x k1 k2 => by rw [hfr x k1 k2]; omega)]
        show r - 1 ≤ ((tp_l w2 s k).1 ++ [(k, m)]).length
        rw [List.length_append, List.length_singleton]
        unfold fo_af at hlen
        split at hlen <;> omega
    · exact g3 a (List.mem_cons_of_mem _ k5)
theorem nl_g_hp {b : Nat → Nat} {n : Nat} {w w2 : Nat → Int} {i j : Nat} {regs : List (Nat × Nat × Nat)} (h0 : nl_P0 b n w (some (i, j)) regs) (hg : nl_Good b n w none regs w2) : nl_Good b n w (some (i, j)) regs w2 ∧ ∀ x : Nat, i < x → x < j → w2 x = -1 := by
  obtain ⟨g1, g2, g3, g4⟩ := hg
  obtain ⟨h1, h2, h3, h4, h5⟩ := h0
  obtain ⟨f1, f2, f3, f4, f5⟩ := h5 i j rfl
  have hin : ∀ x, ¬ nl_in none x := fun x ⟨i, j, hij, _⟩ => by cases hij
  have hnot : ∀ x, i ≤ x → ¬ nl_rg regs x := fun x hx ⟨a, ha, k1, k2⟩ => by
    have := f5 a ha
    omega
  refine ⟨⟨g1, fun q hq1 hq2 => g2 q hq1 (hin q), g3, fun i2 j2 hij => ?_⟩, fun x k1 k2 => ?_⟩
  · cases hij
    rw [g2 i (hnot i (Nat.le_refl i)) (hin i)]
    exact f3
  · rw [g2 x (hnot x (by omega)) (hin x)]
    exact h2 x (Or.inr ⟨i, j, rfl, k1, k2⟩)
theorem nl_g_one {b : Nat → Nat} {n : Nat} {w w2 : Nat → Int} {i j k m : Nat} {regs : List (Nat × Nat × Nat)} (h0 : nl_P0 b n w (some (i, j)) regs) (hik : i < k) (hkm : k < m) (hm : m < j) (hg : nl_Good b n (en_pr w k m) (some (k, m)) regs w2) : nl_Good b n w (some (i, j)) regs w2 ∧ w2 k = m ∧ (∀ x : Nat, i < x → x < k → w2 x = -1) ∧ ∀ x : Nat, m < x → x < j → w2 x = -1 := by
  obtain ⟨g1, g2, g3, g4⟩ := hg
  obtain ⟨h1, h2, h3, h4, h5⟩ := h0
  obtain ⟨f1, f2, f3, f4, f5⟩ := h5 i j rfl
  have hwk := g4 k m rfl
  have hnot : ∀ x, i ≤ x → ¬ nl_rg regs x := fun x hx ⟨a, ha, k1, k2⟩ => by
    have := f5 a ha
    omega
  have hout : ∀ x, (x < k ∨ m < x) → ¬ nl_rg regs x → w2 x = w x := fun x k1 k2 => by
    rw [g2 x k2 (fun ⟨i, j, hij, k3, k4⟩ => by cases hij; omega), en_pr_at, if_neg (by omega), if_neg (by omega)]
  refine ⟨⟨g1, fun q hq1 hq2 => ?_, g3, fun i2 j2 hij => ?_⟩, hwk, fun x k1 k2 => ?_, fun x k1 k2 => ?_⟩
  · by_cases e1 : i < q ∧ q < j
    · exact absurd ⟨i, j, rfl, e1.1, e1.2⟩ hq2
    · exact hout q (by omega) hq1
  · cases hij
    rw [hout i (by omega) (hnot i (Nat.le_refl i))]
    exact f3
  · rw [hout x (by omega) (hnot x (by omega))]
    exact h2 x (Or.inr ⟨i, j, rfl, k1, by omega⟩)
  · rw [hout x (by omega) (hnot x (by omega))]
    exact h2 x (Or.inr ⟨i, j, rfl, by omega, k2⟩)
theorem nl_g_many {b : Nat → Nat} {n : Nat} {w w2 : Nat → Int} {i j : Nat} {regs : List (Nat × Nat × Nat)} (h0 : nl_P0 b n w (some (i, j)) regs) (hg : nl_Good b n w none ((3, i + 1, j) :: regs) w2) : nl_Good b n w (some (i, j)) regs w2 ∧ 2 ≤ (tp_l w2 (i + 1) j).1.length := by
  obtain ⟨g1, g2, g3, g4⟩ := hg
  obtain ⟨h1, h2, h3, h4, h5⟩ := h0
  obtain ⟨f1, f2, f3, f4, f5⟩ := h5 i j rfl
  have hin : ∀ x, ¬ nl_in none x := fun x ⟨i, j, hij, _⟩ => by cases hij
  refine ⟨⟨g1, fun q hq1 hq2 => g2 q (fun ⟨a, ha, k1, k2⟩ => ?_) (hin q), fun a ha => g3 a (List.mem_cons_of_mem _ ha), fun i2 j2 hij => ?_⟩, (g3 (3, i + 1, j) List.mem_cons_self).2⟩
  · rcases List.mem_cons.mp ha with k5 | k5
    · subst k5
      have k1 : i + 1 ≤ q := k1
      have k2 : q < j := k2
      exact hq2 ⟨i, j, rfl, by omega, k2⟩
    · exact hq1 ⟨a, k5, k1, k2⟩
  · cases hij
    rw [g2 i (fun ⟨a, ha, k1, k2⟩ => ?_) (hin i)]
    · exact f3
    · rcases List.mem_cons.mp ha with k5 | k5
      · subst k5
        have k1 : i + 1 ≤ i := k1
        omega
      · have := f5 a k5
        omega
/-- a part without openings is free -/
theorem nl_free {b : Nat → Nat} {n : Nat} {w : Nat → Int} (h : en_V b n w) {s e : Nat} (hc : nl_cl w s e) (hno : ∀ x : Nat, s ≤ x → x < e → ¬ (x : Int) < w x) : ∀ x : Nat, s ≤ x → x < e → w x = -1 := fun x h1 h2 => by
  rcases hc x h1 h2 with h3 | h3
  · exact h3
  · obtain ⟨a, ha⟩ : ∃ a : Nat, w x = a := ⟨(w x).toNat, by omega⟩
    have hb := nl_back h ha
    have k1 := hno x h1 h2
    have k2 := hno a (by omega) (by omega)
    rcases h.1 x with h4 | ⟨_, _, _, h4, _⟩ <;> omega
theorem nl_c_reg {b : Nat → Nat} {n : Nat} {w w2 : Nat → Int} {r s e : Nat} {rest : List (Nat × Nat × Nat)} (h0 : nl_P0 b n w none ((r, s, e) :: rest)) (hg : nl_Good b n w none ((r, s, e) :: rest) w2) : (r < 2 ∧ nl_Good b n w none rest w2) ∨ ∃ k m, s ≤ k ∧ k < m ∧ m < e ∧ en_cp b k m = true ∧ nl_Good b n (en_pr w k m) (some (k, m)) ((fo_af r, s, k) :: rest) w2 := by
  obtain ⟨g1, g2, g3, g4⟩ := hg
  obtain ⟨h1, h2, h3, h4, h5⟩ := h0
  rw [List.pairwise_cons] at h3
  have hcl : nl_cl w2 s e := (g3 (r, s, e) List.mem_cons_self).1
  have hlen : r - 1 ≤ (tp_l w2 s e).1.length := (g3 (r, s, e) List.mem_cons_self).2
  have hin : ∀ x, ¬ nl_in none x := fun x ⟨i, j, hij, _⟩ => by cases hij
  have hfw : ∀ q : Nat, s ≤ q → q < e → w q = -1 := fun q k1 k2 => h2 q (Or.inl ⟨(r, s, e), List.mem_cons_self, k1, k2⟩)
  have hout : ∀ q, ¬ (s ≤ q ∧ q < e) → ¬ nl_rg rest q → w2 q = w q := fun q k1 k2 => g2 q (fun ⟨a, ha, k3, k4⟩ => by
    rcases List.mem_cons.mp ha with k5 | k5
    · subst k5
      exact k1 ⟨k3, k4⟩
    · exact k2 ⟨a, k5, k3, k4⟩) (hin q)
  by_cases hemp : (tp_l w2 s e).1 = []
  · left
    have hno := tp_empty (e - s) s (Nat.le_refl _) hemp
    have hfr := nl_free g1 hcl hno
    rw [hemp] at hlen
    have hlen : r - 1 ≤ 0 := hlen
    refine ⟨by omega, g1, fun q hq1 hq2 => ?_, fun a ha => g3 a (List.mem_cons_of_mem _ ha), fun i j hij => by cases hij⟩
    by_cases e1 : s ≤ q ∧ q < e
    · rw [hfr q e1.1 e1.2, hfw q e1.1 e1.2]
    · exact hout q e1 hq1
  · right
    obtain ⟨k, m, k1, k2, k3, k4, k5, k6⟩ := tp_last g1 (e - s) s (Nat.le_refl _) (fun x j1 j2 j3 => by rcases hcl x j1 j2 with j4 | j4 <;> omega) hemp
    have hwm := nl_back g1 k4
    have hcp : en_cp b k m = true := by
      have := g1.2.1 k (by omega)
      rwa [k4, Int.toNat_natCast] at this
    have hfr : ∀ x : Nat, m < x → x < e → w2 x = -1 := fun x j1 j2 => by
      rcases hcl x (by omega) j2 with j3 | j3
      · exact j3
      · obtain ⟨a, ha⟩ : ∃ a : Nat, w2 x = a := ⟨(w2 x).toNat, by omega⟩
        have hb := nl_back g1 ha
        have j4 := k6 x j1 j2
        have j5 : a ≠ x := fun j6 => by rcases g1.1 x with j7 | ⟨_, _, _, j7, _⟩ <;> omega
        by_cases e1 : a < k
        · have := k5 a (by omega) e1 (by omega)
          omega
        · by_cases e2 : a = k
          · rw [e2, k4] at hb
            omega
          · by_cases e3 : a < m
            · rcases g1.2.2 k a (by omega) (by omega) with j6 | j6 <;> omega
            · by_cases e4 : a = m
              · rw [e4, hwm] at hb
                omega
              · have := k6 a (by omega) (by omega)
                omega
    refine ⟨k, m, k1, k2, k3, hcp, g1, fun q hq1 hq2 => ?_, fun a ha => ?_, fun i j hij => by cases hij; exact k4⟩
    · rw [en_pr_at]
      by_cases e1 : q = m
      · rw [if_pos e1, e1]
        exact hwm
      · rw [if_neg e1]
        by_cases e2 : q = k
        · rw [if_pos e2, e2]
          exact k4
        · rw [if_neg e2]
          by_cases e3 : s ≤ q ∧ q < e
          · have j1 : ¬ q < k := fun j2 => hq1 ⟨(fo_af r, s, k), List.mem_cons_self, e3.1, j2⟩
            have j2 : ¬ q < m := fun j3 => hq2 ⟨k, m, rfl, by omega, j3⟩
            rw [hfr q (by omega) e3.2, hfw q e3.1 e3.2]
          · exact hout q e3 (fun ⟨a, ha, j3, j4⟩ => hq1 ⟨a, List.mem_cons_of_mem _ ha, j3, j4⟩)
    · rcases List.mem_cons.mp ha with j5 | j5
      · subst j5
        refine ⟨fun q j1 j2 => ?_, ?_⟩
        · have j1 : s ≤ q := j1
          have j2 : q < k := j2
          show w2 q = -1 ∨ ((s : Int) ≤ w2 q ∧ w2 q < (k : Int))
          rcases hcl q j1 (by omega) with j3 | j3
          · exact Or.inl j3
          · right
            by_cases e1 : (q : Int) < w2 q
            · have := k5 q j1 j2 e1
              omega
            · omega
        · show fo_af r - 1 ≤ (tp_l w2 s k).1.length
          rw [tp_split k1 k2 k3 k4 k5 k6] at hlen
          have hlen : r - 1 ≤ ((tp_l w2 s k).1 ++ [(k, m)]).length := hlen
          rw [List.length_append, List.length_singleton] at hlen
          unfold fo_af
          split <;> omega
      · exact g3 a (List.mem_cons_of_mem _ j5)
theorem nl_c_pair {b : Nat → Nat} {n : Nat} {w w2 : Nat → Int} {i j : Nat} {regs : List (Nat × Nat × Nat)} (h0 : nl_P0 b n w (some (i, j)) regs) (hg : nl_Good b n w (some (i, j)) regs w2) : nl_Good b n w none regs w2 ∨ (∃ k m, i < k ∧ k < m ∧ m < j ∧ en_cp b k m = true ∧ nl_Good b n (en_pr w k m) (some (k, m)) regs w2) ∨ nl_Good b n w none ((3, i + 1, j) :: regs) w2 := by
  obtain ⟨g1, g2, g3, g4⟩ := hg
  obtain ⟨h1, h2, h3, h4, h5⟩ := id h0
  obtain ⟨f1, f2, f3, f4, f5⟩ := h5 i j rfl
  have hwi := g4 i j rfl
  have hin : ∀ x, ¬ nl_in none x := fun x ⟨i, j, hij, _⟩ => by cases hij
  have hcl : nl_cl w2 (i + 1) j := fun q k1 k2 => by
    rcases g1.2.2 i q (by omega) (by omega) with k3 | k3
    · exact Or.inl k3
    · right; omega
  have hinn : ∀ q, ¬ (i < q ∧ q < j) → ¬ nl_in (some (i, j)) q := fun q k1 ⟨i2, j2, hij, k3, k4⟩ => by
    cases hij
    exact k1 ⟨k3, k4⟩
  by_cases h2l : 2 ≤ (tp_l w2 (i + 1) j).1.length
  · right; right
    refine ⟨g1, fun q hq1 hq2 => g2 q (fun ⟨a, ha, k1, k2⟩ => hq1 ⟨a, List.mem_cons_of_mem _ ha, k1, k2⟩) (hinn q (fun k9 => hq1 ⟨(3, i + 1, j), List.mem_cons_self, k9.1, k9.2⟩)), fun a ha => ?_, fun i j hij => by cases hij⟩
    rcases List.mem_cons.mp ha with k5 | k5
    · subst k5
      exact ⟨hcl, h2l⟩
    · exact g3 a k5
  · have hg2 : nl_Good b n w none ((1, i + 1, j) :: regs) w2 := by
      refine ⟨g1, fun q hq1 hq2 => g2 q (fun ⟨a, ha, k1, k2⟩ => hq1 ⟨a, List.mem_cons_of_mem _ ha, k1, k2⟩) (hinn q (fun k9 => hq1 ⟨(1, i + 1, j), List.mem_cons_self, k9.1, k9.2⟩)), fun a ha => ?_, fun i j hij => by cases hij⟩
      rcases List.mem_cons.mp ha with k5 | k5
      · subst k5
        exact ⟨hcl, Nat.zero_le _⟩
      · exact g3 a k5
    have h01 : nl_P0 b n w none ((1, i + 1, j) :: regs) := by
      obtain ⟨q1, q2, q3, q4, q5⟩ := nl_P0_many h0
      refine ⟨q1, fun q hq => q2 q ?_, ?_, fun a ha => ?_, fun i j hij => by cases hij⟩
      · rcases hq with ⟨a, ha, k1, k2⟩ | hq
        · rcases List.mem_cons.mp ha with k5 | k5
          · subst k5
            exact Or.inl ⟨(3, i + 1, j), List.mem_cons_self, k1, k2⟩
          · exact Or.inl ⟨a, List.mem_cons_of_mem _ k5, k1, k2⟩
        · exact Or.inr hq
      · rw [List.pairwise_cons] at q3 ⊢
        exact ⟨fun a ha => q3.1 a ha, q3.2⟩
      · rcases List.mem_cons.mp ha with k5 | k5
        · subst k5
          exact ⟨by show i + 1 ≤ j; omega, by show j ≤ n; omega⟩
        · exact h4 a k5
    rcases nl_c_reg h01 hg2 with k1 | ⟨k, m, k1, k2, k3, k4, k5⟩
    · exact Or.inl k1.2
    · right; left
      refine ⟨k, m, by omega, k2, k3, k4, k5.1, fun q hq1 hq2 => ?_, fun a ha => k5.2.2.1 a (List.mem_cons_of_mem _ ha), k5.2.2.2⟩
      by_cases e1 : i + 1 ≤ q ∧ q < k
      · have hwk := k5.2.2.2 k m rfl
        obtain ⟨_, p2, p3, p4⟩ := nl_g_pair h01 k1 k2 k3 k5
        have hsp := tp_split k1 k2 k3 p2 p3 (fun x j1 j2 => by rw [p4 x j1 j2]; omega)
        rw [hsp] at h2l
        have h2l : ¬ 2 ≤ ((tp_l w2 (i + 1) k).1 ++ [(k, m)]).length := h2l
        rw [List.length_append, List.length_singleton] at h2l
        have hnil : (tp_l w2 (i + 1) k).1 = [] := List.eq_nil_of_length_eq_zero (by omega)
        have hno := tp_empty (k - (i + 1)) (i + 1) (Nat.le_refl _) hnil
        have hcl2 : nl_cl w2 (i + 1) k := (k5.2.2.1 (fo_af 1, i + 1, k) List.mem_cons_self).1
        rw [nl_free k5.1 hcl2 hno q e1.1 e1.2, en_pr_at, if_neg (by omega), if_neg (by omega)]
        exact (h2 q (Or.inr ⟨i, j, rfl, by omega, by omega⟩)).symm
      · exact k5.2.1 q (fun ⟨a, ha, j3, j4⟩ => by
          rcases List.mem_cons.mp ha with j5 | j5
          · subst j5
            exact e1 ⟨j3, j4⟩
          · exact hq1 ⟨a, j5, j3, j4⟩) hq2

