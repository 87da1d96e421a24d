/-! The search with the structures that it makes: what it makes is good, with its energy and text. -/
def nl_H (b : Nat → Nat) : Nat → Option (Nat × Nat) → List (Nat × Nat × Nat) → Int → Int → (Nat → Int) → List (Int × Int × (Nat → Int))
  | 0, _, _, _, _, _ => []
  | _ + 1, none, [], x, t, w => [(x, t, w)]
  | d + 1, none, (r, s, e) :: rest, x, t, w => (if r < 2 then nl_H b d none rest (x + fo_pp r * ((e : Int) - s)) t w else []) ++ (List.range (e - s - 4)).flatMap (fun c => (List.range (e - 1 - c - 3 - s)).flatMap (fun c2 => if en_cp b (s + c2) (e - 1 - c) = true then nl_H b d (some (s + c2, e - 1 - c)) ((fo_af r, s, s + c2) :: rest) (x + fo_pp r * ((c : Nat) : Int) + (fo_pq r + lp_wk b (s + c2) (e - 1 - c) 5)) (t - nl_dt (s + c2) (e - 1 - c)) (en_pr w (s + c2) (e - 1 - c)) else []))
  | d + 1, some (i, j), regs, x, t, w => nl_H b d none regs (x + lp_hp b i j) t w ++ ((List.range (j - i - 5)).flatMap (fun c => (List.range (j - 1 - c - 4 - i)).flatMap (fun c2 => if en_cp b (i + 1 + c2) (j - 1 - c) = true then nl_H b d (some (i + 1 + c2, j - 1 - c)) regs (x + lp_w1 b i j (i + 1 + c2) (j - 1 - c)) (t - nl_dt (i + 1 + c2) (j - 1 - c)) (en_pr w (i + 1 + c2) (j - 1 - c)) else [])) ++ nl_H b d none ((3, i + 1, j) :: regs) (x + (38 + lp_wk b i j 5)) t w)
theorem nl_H_F (b : Nat → Nat) : ∀ (d : Nat) (p : Option (Nat × Nat)) (regs : List (Nat × Nat × Nat)) (x t : Int) (w : Nat → Int), nl_F b d p regs x t = (nl_H b d p regs x t w).map (fun h => (h.1, h.2.1))
  | 0, _, _, _, _, _ => rfl
  | d + 1, none, [], x, t, w => rfl
  | d + 1, none, (r, s, e) :: rest, x, t, w => by
    unfold nl_F nl_H
    rw [List.map_append, List.map_flatMap]
    congr 1
    · split
      · exact nl_H_F b d _ _ _ _ _
      · rfl
    · congr 1
      funext c
      rw [List.map_flatMap]
      congr 1
      funext c2
      split
      · exact nl_H_F b d _ _ _ _ _
      · rfl
  | d + 1, some (i, j), regs, x, t, w => by
    unfold nl_F nl_H
    rw [List.map_append, List.map_append, List.map_flatMap]
    congr 1
    · exact nl_H_F b d _ _ _ _ _
    · congr 1
      · congr 1
        funext c
        rw [List.map_flatMap]
        congr 1
        funext c2
        split
        · exact nl_H_F b d _ _ _ _ _
        · rfl
      · exact nl_H_F b d _ _ _ _ _
def nl_rg (regs : List (Nat × Nat × Nat)) (q : Nat) : Prop := ∃ a ∈ regs, a.2.1 ≤ q ∧ q < a.2.2
def nl_in (p : Option (Nat × Nat)) (q : Nat) : Prop := ∃ i j, p = some (i, j) ∧ i < q ∧ q < j
def nl_cl (w : Nat → Int) (s e : Nat) : Prop := ∀ q : Nat, s ≤ q → q < e → w q = -1 ∨ ((s : Int) ≤ w q ∧ w q < e)
def nl_Good (b : Nat → Nat) (n : Nat) (w : Nat → Int) (p : Option (Nat × Nat)) (regs : List (Nat × Nat × Nat)) (w2 : Nat → Int) : Prop := en_V b n w2 ∧ (∀ q, ¬ nl_rg regs q → ¬ nl_in p q → w2 q = w q) ∧ (∀ a ∈ regs, nl_cl w2 a.2.1 a.2.2 ∧ a.1 - 1 ≤ (tp_l w2 a.2.1 a.2.2).1.length) ∧ ∀ i j : Nat, p = some (i, j) → w2 i = j
def nl_P0 (b : Nat → Nat) (n : Nat) (w : Nat → Int) (p : Option (Nat × Nat)) (regs : List (Nat × Nat × Nat)) : Prop := en_V b n w ∧ (∀ q, nl_rg regs q ∨ nl_in p q → w q = -1) ∧ regs.Pairwise (fun a c => c.2.2 ≤ a.2.1) ∧ (∀ a ∈ regs, a.2.1 ≤ a.2.2 ∧ a.2.2 ≤ n) ∧ ∀ i j : Nat, p = some (i, j) → i < j ∧ j < n ∧ w i = j ∧ w j = i ∧ ∀ a ∈ regs, a.2.2 ≤ i
theorem nl_V_pr {b : Nat → Nat} {n : Nat} {w : Nat → Int} {s e k m : Nat} (h : en_V b n w) (hf : ∀ q : Nat, s ≤ q → q < e → w q = -1) (hs : s ≤ k) (hkm : k < m) (hm : m < e) (he : e ≤ n) (hc : en_cp b k m = true) : en_V b n (en_pr w k m) := by
  obtain ⟨h1, h2, h3⟩ := h
  refine ⟨en_V1_pr h1 hkm (by omega) (hf k hs (by omega)) (hf m (by omega) hm), fun p hp => ?_, fun p q hpq hq => ?_⟩
  · rw [en_pr_at] at hp ⊢
    by_cases e1 : p = m
    · rw [if_pos e1] at hp
      omega
    · rw [if_neg e1] at hp ⊢
      by_cases e2 : p = k
      · subst e2
        rw [if_pos rfl, Int.toNat_natCast]
        exact hc
      · rw [if_neg e2] at hp ⊢
        exact h2 p hp
  · rw [en_pr_at p] at hq ⊢
    rw [en_pr_at q]
    by_cases e1 : p = m
    · rw [if_pos e1] at hq
      omega
    · rw [if_neg e1] at hq ⊢
      by_cases e2 : p = k
      · rw [if_pos e2] at hq ⊢
        rw [if_neg (by omega), if_neg (by omega)]
        exact Or.inl (hf q (by omega) (by omega))
      · rw [if_neg e2] at hq ⊢
        have hpo : ¬ (s ≤ p ∧ p < e) := fun h9 => by have := hf p h9.1 h9.2; omega
        have hwo : ∀ c : Nat, w p = c → ¬ (s ≤ c ∧ c < e) := fun c h8 h9 => by
          have := hf c h9.1 h9.2
          rcases h1 p with g | ⟨_, _, _, _, g⟩
          · omega
          · rw [h8, Int.toNat_natCast] at g
            omega
        obtain ⟨c, hc9⟩ : ∃ c : Nat, w p = c := ⟨(w p).toNat, by omega⟩
        have hwc := hwo c hc9
        by_cases e3 : q = m
        · rw [if_pos e3]
          right
          omega
        · rw [if_neg e3]
          by_cases e4 : q = k
          · rw [if_pos e4]
            right
            omega
          · rw [if_neg e4]
            exact h3 p q hpq hq
theorem nl_P0_reg {b : Nat → Nat} {n : Nat} {w : Nat → Int} {r s e k m : Nat} {rest : List (Nat × Nat × Nat)} (h : nl_P0 b n w none ((r, s, e) :: rest)) (hs : s ≤ k) (hkm : k < m) (hm : m < e) (hc : en_cp b k m = true) : nl_P0 b n (en_pr w k m) (some (k, m)) ((fo_af r, s, k) :: rest) := by
  obtain ⟨h1, h2, h3, h4, h5⟩ := h
  rw [List.pairwise_cons] at h3
  have he : s ≤ e ∧ e ≤ n := h4 (r, s, e) List.mem_cons_self
  have hf : ∀ q : Nat, s ≤ q → q < e → w q = -1 := fun q g1 g2 => h2 q (Or.inl ⟨(r, s, e), List.mem_cons_self, g1, g2⟩)
  have hrest : ∀ a ∈ rest, a.2.2 ≤ s := fun a ha => h3.1 a ha
  refine ⟨nl_V_pr h1 hf hs hkm hm he.2 hc, fun q hq => ?_, ?_, fun a ha => ?_, fun i j hij => ?_⟩
  · rcases hq with ⟨a, ha, g1, g2⟩ | ⟨i, j, hij, g1, g2⟩
    · rcases List.mem_cons.mp ha with g3 | g3
      · subst g3
        have g1 : s ≤ q := g1
        have g2 : q < k := g2
        rw [en_pr_at, if_neg (by omega), if_neg (by omega)]
        exact hf q g1 (by omega)
      · have := hrest a g3
        rw [en_pr_at, if_neg (by omega), if_neg (by omega)]
        exact h2 q (Or.inl ⟨a, List.mem_cons_of_mem _ g3, g1, g2⟩)
    · cases hij
      rw [en_pr_at, if_neg (by omega), if_neg (by omega)]
      exact hf q (by omega) (by omega)
  · exact List.pairwise_cons.mpr ⟨fun a ha => hrest a ha, h3.2⟩
  · rcases List.mem_cons.mp ha with g3 | g3
    · subst g3
      exact ⟨hs, by show k ≤ n; omega⟩
    · exact h4 a (List.mem_cons_of_mem _ g3)
  · cases hij
    refine ⟨hkm, by omega, ?_, ?_, fun a ha => ?_⟩
    · rw [en_pr_at, if_neg (by omega), if_pos rfl]
    · rw [en_pr_at, if_pos rfl]
    · rcases List.mem_cons.mp ha with g3 | g3
      · subst g3
        exact Nat.le_refl k
      · have := hrest a g3
        omega
theorem nl_P0_drop {b : Nat → Nat} {n : Nat} {w : Nat → Int} {a : Nat × Nat × Nat} {rest : List (Nat × Nat × Nat)} (h : nl_P0 b n w none (a :: rest)) : nl_P0 b n w none rest := by
  obtain ⟨h1, h2, h3, h4, h5⟩ := h
  rw [List.pairwise_cons] at h3
  refine ⟨h1, fun q hq => ?_, h3.2, fun a ha => h4 a (List.mem_cons_of_mem _ ha), fun i j hij => by cases hij⟩
  rcases hq with ⟨a, ha, g1, g2⟩ | ⟨i, j, hij, _⟩
  · exact h2 q (Or.inl ⟨a, List.mem_cons_of_mem _ ha, g1, g2⟩)
  · cases hij
theorem nl_P0_un {b : Nat → Nat} {n : Nat} {w : Nat → Int} {i j : Nat} {regs : List (Nat × Nat × Nat)} (h : nl_P0 b n w (some (i, j)) regs) : nl_P0 b n w none regs := by
  obtain ⟨h1, h2, h3, h4, h5⟩ := h
  refine ⟨h1, fun q hq => ?_, h3, h4, fun i j hij => by cases hij⟩
  rcases hq with hq | ⟨i, j, hij, _⟩
  · exact h2 q (Or.inl hq)
  · cases hij
theorem nl_P0_many {b : Nat → Nat} {n : Nat} {w : Nat → Int} {i j : Nat} {regs : List (Nat × Nat × Nat)} (h : nl_P0 b n w (some (i, j)) regs) : nl_P0 b n w none ((3, i + 1, j) :: regs) := by
  obtain ⟨h1, h2, h3, h4, h5⟩ := h
  obtain ⟨g1, g2, g3, g4, g5⟩ := h5 i j rfl
  refine ⟨h1, fun q hq => ?_, List.pairwise_cons.mpr ⟨fun a ha => by have := g5 a ha; show a.2.2 ≤ i + 1; omega, h3⟩, fun a ha => ?_, fun i j hij => by cases hij⟩
  · rcases hq with ⟨a, ha, k1, k2⟩ | ⟨i, j, hij, _⟩
    · rcases List.mem_cons.mp ha with k3 | k3
      · subst k3
        have k1 : i + 1 ≤ q := k1
        have k2 : q < j := k2
        exact h2 q (Or.inr ⟨i, j, rfl, by omega, k2⟩)
      · exact h2 q (Or.inl ⟨a, k3, k1, k2⟩)
    · cases hij
  · rcases List.mem_cons.mp ha with k3 | k3
    · subst k3
      exact ⟨by show i + 1 ≤ j; omega, by show j ≤ n; omega⟩
    · exact h4 a k3
theorem nl_P0_one {b : Nat → Nat} {n : Nat} {w : Nat → Int} {i j k m : Nat} {regs : List (Nat × Nat × Nat)} (h : nl_P0 b n w (some (i, j)) regs) (hik : i < k) (hkm : k < m) (hm : m < j) (hc : en_cp b k m = true) : nl_P0 b n (en_pr w k m) (some (k, m)) regs := by
  have h9 := nl_P0_reg (r := 3) (nl_P0_many h) (show i + 1 ≤ k by omega) hkm hm hc
  obtain ⟨h1, h2, h3, h4, h5⟩ := h9
  rw [List.pairwise_cons] at h3
  refine ⟨h1, fun q hq => ?_, h3.2, fun a ha => h4 a (List.mem_cons_of_mem _ ha), fun i j hij => ?_⟩
  · rcases hq with ⟨a, ha, g1, g2⟩ | hq
    · exact h2 q (Or.inl ⟨a, List.mem_cons_of_mem _ ha, g1, g2⟩)
    · exact h2 q (Or.inr hq)
  · obtain ⟨g1, g2, g3, g4, g5⟩ := h5 i j hij
    exact ⟨g1, g2, g3, g4, fun a ha => g5 a (List.mem_cons_of_mem _ ha)⟩
theorem mo_tx_pr {w : Nat → Int} {k m : Nat} (hkm : k < m) (hk : w k = -1) (hm : w m = -1) : ∀ n, mo_tx (en_pr w k m) n = mo_tx w n - (if k < n then 2 * nl_4 k else 0) - (if m < n then nl_4 m else 0)
  | 0 => by
    show (0 : Int) = 0 - (if k < 0 then 2 * nl_4 k else 0) - (if m < 0 then nl_4 m else 0)
    rw [if_neg (by omega), if_neg (by omega)]
    rfl
  | n + 1 => by
    have ih := mo_tx_pr hkm hk hm n
    have e1 : mo_tx (en_pr w k m) (n + 1) = mo_tx (en_pr w k m) n + (mo_sg (en_pr w k m) n : Int) * nl_4 n := rfl
    have e2 : mo_tx w (n + 1) = mo_tx w n + (mo_sg w n : Int) * nl_4 n := rfl
    rw [e1, e2, ih]
    by_cases h1 : n = k
    · subst h1
      have s1 : mo_sg (en_pr w n m) n = 0 := by
        have e3 : en_pr w n m n = m := by rw [en_pr_at, if_neg (by omega), if_pos rfl]
        unfold mo_sg
        rw [e3, if_pos (by omega)]
      have s2 : mo_sg w n = 2 := by unfold mo_sg; rw [if_neg (by omega), if_neg (by omega)]
      rw [s1, s2, if_neg (by omega), if_neg (by omega), if_pos (by omega), if_neg (by omega)]
      omega
    · by_cases h2 : n = m
      · subst h2
        have s1 : mo_sg (en_pr w k n) n = 1 := by
          unfold mo_sg
          rw [en_pr_at, if_pos rfl, if_neg (by omega), if_pos (by omega)]
        have s2 : mo_sg w n = 2 := by unfold mo_sg; rw [if_neg (by omega), if_neg (by omega)]
        rw [s1, s2, if_pos (by omega), if_neg (by omega), if_pos (by omega), if_pos (by omega)]
        omega
      · have s1 : mo_sg (en_pr w k m) n = mo_sg w n := by
          unfold mo_sg
          rw [en_pr_at, if_neg h2, if_neg h1]
        rw [s1]
        by_cases h3 : k < n
        · by_cases h4 : m < n
          · rw [if_pos h3, if_pos h4, if_pos (by omega), if_pos (by omega)]
            omega
          · rw [if_pos h3, if_neg h4, if_pos (by omega), if_neg (by omega)]
            omega
        · rw [if_neg h3, if_neg (by omega), if_neg (by omega), if_neg (by omega)]
          omega

