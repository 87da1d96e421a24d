/-! The enumeration has every structure, and each once: pure. -/
def en_V (b : Nat → Nat) (n : Nat) (w : Nat → Int) : Prop := en_V1 n w ∧ (∀ p : Nat, (p : Int) < w p → en_cp b p (w p).toNat = true) ∧ ∀ p q : Nat, p < q → (q : Int) < w p → w q = -1 ∨ ((p : Int) < w q ∧ w q < w p)
/-- only the pairs that begin before i -/
def en_clr (i : Nat) (w : Nat → Int) : Nat → Int := fun p => if w p = -1 then -1 else if p < i ∨ w p < i then w p else -1
theorem en_clr_clr (i : Nat) (w : Nat → Int) : en_clr i (en_clr (i + 1) w) = en_clr i w := by
  funext p
  unfold en_clr
  by_cases h1 : w p = -1
  · simp [h1]
  · by_cases h2 : p < i + 1 ∨ w p < ((i + 1 : Nat) : Int)
    · simp only [h1, h2, if_true, if_false]
    · have h3 : ¬ (p < i ∨ w p < (i : Int)) := by omega
      simp only [h1, h2, h3, if_true, if_false]
theorem en_clr_fr {i : Nat} {w : Nat → Int} (h : en_Fr i w) : en_clr i w = w := by
  funext p
  unfold en_clr
  by_cases h1 : w p = -1
  · simp [h1]
  · by_cases h2 : p < i
    · simp [h1, h2]
    · have h3 : w p < i := by
        rcases h p (by omega) with h4 | h4
        · exact absurd h4 h1
        · exact h4.2
      simp [h1, h3]
theorem en_clr_pr {i j : Nat} {w : Nat → Int} (h : en_Fr i w) (hij : i < j) (hi : w i = -1) (hj : w j = -1) : en_clr i (en_pr w i j) = w := by
  funext p
  have h0 := congrFun (en_clr_fr h) p
  unfold en_clr at h0 ⊢
  rw [en_pr_at]
  by_cases h1 : p = j
  · subst h1
    rw [if_pos rfl, hj, if_neg (by omega), if_neg (by omega)]
  · rw [if_neg h1]
    by_cases h2 : p = i
    · subst h2
      rw [if_pos rfl, hi, if_neg (by omega), if_neg (by omega)]
    · rw [if_neg h2]
      exact h0
/-- where no pair begins at i, i or i + 1 is the same -/
theorem en_clr_no {n i : Nat} {w : Nat → Int} (hV : en_V1 n w) (h : ¬ (i : Int) < w i) : en_clr (i + 1) w = en_clr i w := by
  funext p
  unfold en_clr
  by_cases h1 : w p = -1
  · simp [h1]
  · rcases hV p with h2 | ⟨a1, a2, a3, a4, a5⟩
    · exact absurd h2 h1
    · by_cases h3 : p < i ∨ w p < (i : Int)
      · have h4 : p < i + 1 ∨ w p < ((i + 1 : Nat) : Int) := by omega
        simp only [h1, h3, h4, if_true, if_false]
      · have h4 : ¬ (p < i + 1 ∨ w p < ((i + 1 : Nat) : Int)) := by
          intro h5
          have h6 : p = i ∨ w p = i := by omega
          rcases h6 with h6 | h6
          · subst h6
            omega
          · rw [h6, Int.toNat_natCast] at a5
            omega
        simp only [h1, h3, h4, if_true, if_false]
theorem en_V_pr {b : Nat → Nat} {n : Nat} {w : Nat → Int} {i j : Nat} (h : en_V b n w) (hF : en_Fr i w) (hij : i < j) (hjn : j < n) (hw : w i = -1) (hjb : (j : Int) < en_bd n w i i) (hc : en_cp b i j = true) : en_V b n (en_pr w i j) := by
  obtain ⟨h1, h2, h3⟩ := h
  have hfree : ∀ q : Nat, i < q → q ≤ j → w q = -1 := fun q hq1 hq2 => en_free h1 hF hq1 (by omega)
  have hj := hfree j hij (Nat.le_refl j)
  refine ⟨en_V1_pr h1 hij hjn hw hj, fun p hp => ?_, fun p q hpq hq => ?_⟩
  · rw [en_pr_at] at hp ⊢
    by_cases e1 : p = j
    · rw [if_pos e1] at hp
      omega
    · rw [if_neg e1] at hp ⊢
      by_cases e2 : p = i
      · subst e2
        rw [if_pos rfl, Int.toNat_natCast]
        exact hc
      · rw [if_neg e2] at hp ⊢
        exact h2 p hp
  · rw [en_pr_at p] at hq ⊢
    rw [en_pr_at q]
    by_cases e1 : p = j
    · rw [if_pos e1] at hq
      omega
    · rw [if_neg e1] at hq ⊢
      by_cases e2 : p = i
      · rw [if_pos e2] at hq ⊢
        rw [if_neg (by omega), if_neg (by omega)]
        exact Or.inl (hfree q (by omega) (by omega))
      · rw [if_neg e2] at hq ⊢
        by_cases e3 : q = j
        · rw [if_pos e3]
          by_cases e4 : p < i
          · right
            omega
          · have := hfree p (by omega) (by omega)
            omega
        · rw [if_neg e3]
          by_cases e4 : q = i
          · rw [if_pos e4]
            right
            have := en_bd_lt n w i i p (by omega) (by omega)
            omega
          · rw [if_neg e4]
            exact h3 p q hpq hq
theorem en_mem (b : Nat → Nat) (n : Nat) : ∀ (k i : Nat) (w0 : Nat → Int), i + k = n → en_V b n w0 → en_Fr i w0 → ∀ w, w ∈ en_L b n k i w0 ↔ en_V b n w ∧ en_clr i w = w0
  | 0, i, w0, hn, hV, hF, w => by
    have hin : i = n := by omega
    subst hin
    have full : ∀ v, en_V b i v → en_clr i v = v := by
      intro v hv
      funext p
      unfold en_clr
      rcases hv.1 p with h1 | ⟨a1, a2, a3, a4, a5⟩
      · simp [h1]
      · rw [if_neg (by omega), if_pos (Or.inl a3)]
    unfold en_L
    rw [List.mem_singleton]
    constructor
    · intro h
      subst h
      exact ⟨hV, full _ hV⟩
    · intro h
      rw [← h.2, full _ h.1]
  | k + 1, i, w0, hn, hV, hF, w => by
    have hF1 : en_Fr (i + 1) w0 := by
      intro p hp
      rcases hF p (by omega) with h | h
      · exact Or.inl h
      · exact Or.inr (by omega)
    have ih := en_mem b n k (i + 1) w0 (by omega) hV hF1 w
    unfold en_L
    by_cases hc : 0 ≤ w0 i
    · rw [if_pos hc, ih]
      have hlt : w0 i < i := by
        rcases hF i (Nat.le_refl i) with h1 | h1
        · omega
        · exact h1.2
      refine and_congr_right (fun hw => ?_)
      constructor
      · intro h
        rw [← en_clr_no hw.1, h]
        have := congrFun h i
        unfold en_clr at this
        split at this
        · omega
        · rw [if_pos (by omega)] at this
          omega
      · intro h
        rw [en_clr_no hw.1, h]
        have := congrFun h i
        unfold en_clr at this
        split at this
        · omega
        · split at this
          · omega
          · omega
    · rw [if_neg hc]
      have hwi : w0 i = -1 := by
        rcases hF i (Nat.le_refl i) with h1 | h1
        · exact h1
        · omega
      have hbn := en_bd_le n w0 i i
      have hbp := en_bd_pos n w0 i i
      have good : ∀ j, j ∈ en_fe b i (i + 4) (en_bd n w0 i i).toNat → i < j ∧ j < n ∧ (j : Int) < en_bd n w0 i i ∧ en_cp b i j = true := by
        intro j hj
        obtain ⟨⟨m1, m2⟩, m3⟩ := en_mem_fe.mp hj
        exact ⟨by omega, by omega, by omega, m3⟩
      rw [List.mem_append, List.mem_flatMap, ih]
      constructor
      · rintro (⟨h1, h2⟩ | ⟨j, hj, h2⟩)
        · refine ⟨h1, ?_⟩
          rw [← en_clr_clr, h2, en_clr_fr hF]
        · obtain ⟨g1, g2, g3, g4⟩ := good j hj
          obtain ⟨h3, h4⟩ := (en_mem b n k (i + 1) (en_pr w0 i j) (by omega) (en_V_pr hV hF g1 g2 hwi g3 g4) (en_Fr_pr hF g1) w).mp h2
          refine ⟨h3, ?_⟩
          rw [← en_clr_clr, h4, en_clr_pr hF g1 hwi (en_free hV.1 hF g1 g3)]
      · rintro ⟨h1, h2⟩
        have hi := congrFun h2 i
        rw [hwi] at hi
        by_cases h3 : w i = -1
        · left
          refine ⟨h1, ?_⟩
          rw [en_clr_no h1.1 (by omega), h2]
        · right
          obtain ⟨a1, a2, a3, a4, a5⟩ : 0 ≤ w i ∧ w i < n ∧ i < n ∧ w i ≠ i ∧ w (w i).toNat = i := by
            rcases h1.1 i with h4 | h4
            · exact absurd h4 h3
            · exact h4
          have h5 : (i : Int) < w i := by
            unfold en_clr at hi
            rw [if_neg h3] at hi
            split at hi
            · omega
            · omega
          obtain ⟨j, hj⟩ : ∃ j : Nat, w i = j := ⟨(w i).toNat, by omega⟩
          rw [hj, Int.toNat_natCast] at a5
          have hcp := h1.2.1 i h5
          rw [hj, Int.toNat_natCast] at hcp
          have h4 : i + 4 ≤ j := by
            unfold en_cp at hcp
            simp only [Bool.and_eq_true, decide_eq_true_eq] at hcp
            exact hcp.1
          have hb : (j : Int) < en_bd n w0 i i := by
            refine en_bd_gt n w0 i j (by omega) i (fun p hp hp2 => ?_)
            have e1 := congrFun h2 p
            unfold en_clr at e1
            split at e1
            · omega
            · rw [if_pos (Or.inl hp)] at e1
              rw [← e1] at hp2 ⊢
              rcases h1.2.2 p i hp hp2 with h6 | h6
              · exact absurd h6 h3
              · omega
          have hjm : j ∈ en_fe b i (i + 4) (en_bd n w0 i i).toNat := en_mem_fe.mpr ⟨⟨h4, by omega⟩, hcp⟩
          obtain ⟨g1, g2, g3, g4⟩ := good j hjm
          refine ⟨j, hjm, (en_mem b n k (i + 1) (en_pr w0 i j) (by omega) (en_V_pr hV hF g1 g2 hwi g3 g4) (en_Fr_pr hF g1) w).mpr ⟨h1, ?_⟩⟩
          funext p
          have e1 := congrFun h2 p
          rw [en_pr_at]
          unfold en_clr at e1 ⊢
          by_cases e2 : p = j
          · subst e2
            rw [if_pos rfl, a5, if_neg (by omega), if_pos (by omega)]
          · rw [if_neg e2]
            by_cases e3 : p = i
            · subst e3
              rw [if_pos rfl, hj, if_neg (by omega), if_pos (by omega)]
            · rw [if_neg e3, ← e1]
              by_cases e4 : w p = -1
              · simp [e4]
              · rw [if_neg e4, if_neg e4]
                by_cases e5 : p < i ∨ w p < (i : Int)
                · rw [if_pos e5, if_pos (by omega)]
                · rw [if_neg e5, if_neg]
                  intro e6
                  have e7 : w p = i := by omega
                  rcases h1.1 p with h8 | ⟨b1, b2, b3, b4, b5⟩
                  · omega
                  · rw [e7, Int.toNat_natCast, hj] at b5
                    omega
theorem en_nodup_flat {α β : Type} (f : α → List β) (g : β → α) : ∀ (l : List α), l.Nodup → (∀ a ∈ l, (f a).Nodup) → (∀ a ∈ l, ∀ y ∈ f a, g y = a) → (l.flatMap f).Nodup
  | [], _, _, _ => by simp
  | a :: l, h, h1, h2 => by
    rw [List.nodup_cons] at h
    rw [List.flatMap_cons, List.nodup_append]
    refine ⟨h1 a List.mem_cons_self, en_nodup_flat f g l h.2 (fun c hc => h1 c (List.mem_cons_of_mem _ hc)) (fun c hc => h2 c (List.mem_cons_of_mem _ hc)), ?_⟩
    intro y hy z hz hyz
    subst hyz
    obtain ⟨c, hc, hyc⟩ := List.mem_flatMap.mp hz
    have e1 := h2 a List.mem_cons_self y hy
    have e2 := h2 c (List.mem_cons_of_mem _ hc) y hyc
    rw [e1] at e2
    subst e2
    exact h.1 hc
theorem en_nodup (b : Nat → Nat) (n : Nat) : ∀ (k i : Nat) (w0 : Nat → Int), i + k = n → en_V b n w0 → en_Fr i w0 → (en_L b n k i w0).Nodup
  | 0, _, _, _, _, _ => by simp [en_L]
  | k + 1, i, w0, hn, hV, hF => by
    have hF1 : en_Fr (i + 1) w0 := by
      intro p hp
      rcases hF p (by omega) with h | h
      · exact Or.inl h
      · exact Or.inr (by omega)
    have ih := en_nodup b n k (i + 1) w0 (by omega) hV hF1
    unfold en_L
    by_cases hc : 0 ≤ w0 i
    · rw [if_pos hc]
      exact ih
    · rw [if_neg hc]
      have hwi : w0 i = -1 := by
        rcases hF i (Nat.le_refl i) with h1 | h1
        · exact h1
        · omega
      have hbn := en_bd_le n w0 i i
      have hbp := en_bd_pos n w0 i i
      have good : ∀ j, j ∈ en_fe b i (i + 4) (en_bd n w0 i i).toNat → i < j ∧ j < n ∧ (j : Int) < en_bd n w0 i i ∧ en_cp b i j = true := by
        intro j hj
        obtain ⟨⟨m1, m2⟩, m3⟩ := en_mem_fe.mp hj
        exact ⟨by omega, by omega, by omega, m3⟩
      have at_i : ∀ j ∈ en_fe b i (i + 4) (en_bd n w0 i i).toNat, ∀ y ∈ en_L b n k (i + 1) (en_pr w0 i j), (y i).toNat = j := by
        intro j hj y hy
        obtain ⟨g1, g2, g3, g4⟩ := good j hj
        obtain ⟨h3, h4⟩ := (en_mem b n k (i + 1) (en_pr w0 i j) (by omega) (en_V_pr hV hF g1 g2 hwi g3 g4) (en_Fr_pr hF g1) y).mp hy
        have e := congrFun h4 i
        rw [en_pr_at, if_neg (by omega), if_pos rfl] at e
        unfold en_clr at e
        split at e
        · omega
        · rw [if_pos (by omega)] at e
          omega
      rw [List.nodup_append]
      refine ⟨ih, en_nodup_flat _ (fun y => (y i).toNat) _ ?_ ?_ at_i, ?_⟩
      · unfold en_fe
        exact List.Pairwise.filter _ List.nodup_range'
      · intro j hj
        obtain ⟨g1, g2, g3, g4⟩ := good j hj
        exact en_nodup b n k (i + 1) (en_pr w0 i j) (by omega) (en_V_pr hV hF g1 g2 hwi g3 g4) (en_Fr_pr hF g1)
      · intro y hy z hz hyz
        subst hyz
        obtain ⟨j, hj, hyj⟩ := List.mem_flatMap.mp hz
        obtain ⟨g1, g2, g3, g4⟩ := good j hj
        have e1 := at_i j hj y hyj
        have e2 := congrFun ((en_mem b n k (i + 1) w0 (by omega) hV hF1 y).mp hy).2 i
        rw [hwi] at e2
        unfold en_clr at e2
        split at e2
        · rename_i e3
          rw [e3] at e1
          omega
        · rw [if_pos (by omega)] at e2
          omega
/-- all structures of the strand -/
def en_all (b : Nat → Nat) (n : Nat) : List (Nat → Int) := en_L b n n 0 (fun _ => -1)
theorem en_V_none (b : Nat → Nat) (n : Nat) : en_V b n (fun _ => -1) := ⟨fun _ => Or.inl rfl, fun p hp => by have h : (p : Int) < -1 := hp; omega, fun p q h1 h2 => Or.inl rfl⟩
theorem en_all_mem (b : Nat → Nat) (n : Nat) (w : Nat → Int) : w ∈ en_all b n ↔ en_V b n w := by
  unfold en_all
  rw [en_mem b n n 0 _ (by omega) (en_V_none b n) (fun p _ => Or.inl rfl)]
  refine ⟨fun h => h.1, fun h => ⟨h, ?_⟩⟩
  funext p
  unfold en_clr
  split
  · rfl
  · rcases h.1 p with h1 | h1
    · contradiction
    · rw [if_neg (by omega)]
theorem en_all_nodup (b : Nat → Nat) (n : Nat) : (en_all b n).Nodup := en_nodup b n n 0 _ (by omega) (en_V_none b n) (fun p _ => Or.inl rfl)
theorem en_all_chain (b : Nat → Nat) (n : Nat) : en_Ch (en_dn b n n) (fun _ => -1) (en_all b n) := by
  have h : en_dn b n n = en_nf b n n 0 := funext (en_dn_all b n)
  rw [h]
  exact en_chain b n n 0 _ (by omega) (fun _ => Or.inl rfl) (fun p _ => Or.inl rfl)
