/-! The tables' count and most pairs. -/
theorem len_flat {α β : Type} (f : α → List β) (m : Nat) : ∀ l : List α, (∀ a ∈ l, (f a).length = m) → (l.flatMap f).length = l.length * m
  | [], _ => by simp
  | a :: l, h => by
    rw [List.flatMap_cons, List.length_append, h a List.mem_cons_self, len_flat f m l (fun c hc => h c (List.mem_cons_of_mem _ hc)), List.length_cons, Nat.add_mul]
    omega
theorem tb_c {b : Nat → Nat} {n : Nat} {pe : Nat → Nat → Int} {T : Nat → Nat → Nat → Int} (h : tb_ok b n pe T) {s t : Nat} (hs : s ≤ t) (ht : t < n) : T 0 s (t + 1) = fo_cK b (T 0) s t (t - 3 - s) := by
  rw [h.2.1 0 s t hs ht]
  rfl
theorem tb_p {b : Nat → Nat} {n : Nat} {pe : Nat → Nat → Int} {T : Nat → Nat → Nat → Int} (h : tb_ok b n pe T) {s t : Nat} (hs : s ≤ t) (ht : t < n) : T 1 s (t + 1) = fo_pK b (T 1) s t (t - 3 - s) := by
  rw [h.2.1 1 s t hs ht]
  rfl
theorem sl_len {b : Nat → Nat} {n : Nat} {pe : Nat → Nat → Int} {T : Nat → Nat → Nat → Int} (h : tb_ok b n pe T) : ∀ (d s e : Nat), s ≤ e → e ≤ n → e - s ≤ d → ((sl b d s e).length : Int) = T 0 s e
  | 0, s, e, hse, he, hd => by
    have : e = s := by omega
    subst this
    rw [(h.2.2 e).1]
    rfl
  | d + 1, s, e, hse, he, hd => by
    by_cases hes : e ≤ s
    · have : e = s := by omega
      subst this
      unfold sl
      rw [if_pos hes, (h.2.2 e).1]
      rfl
    obtain ⟨t, rfl⟩ : ∃ t, e = t + 1 := ⟨e - 1, by omega⟩
    unfold sl
    rw [if_neg hes, show t + 1 - 1 = t by omega, tb_c h (by omega) (by omega), List.length_append, Int.natCast_add, sl_len h d s t (by omega) (by omega) (by omega)]
    have key : ∀ c, s + c ≤ t → T 0 s t + (((List.range c).flatMap (fun c => if en_cp b (s + c) t = true then (sl b d s (s + c)).flatMap (fun w1 => (sl b d (s + c + 1) t).flatMap (fun w2 => [sl_cm w1 w2 (s + c) t])) else [])).length : Int) = fo_cK b (T 0) s t c := by
      intro c
      induction c with
      | zero => intro _; show T 0 s t + ((0 : Nat) : Int) = T 0 s t; omega
      | succ c ih =>
        intro hc
        have ih := ih (by omega)
        rw [nl_range_flat, List.length_append, Int.natCast_add]
        show _ = (if en_cp b (s + c) t = true then fo_cK b (T 0) s t c + T 0 s (s + c) * T 0 (s + c + 1) t else fo_cK b (T 0) s t c)
        by_cases hcp : en_cp b (s + c) t = true
        · rw [if_pos hcp, if_pos hcp, ← ih, len_flat _ ((sl b d (s + c + 1) t).length * 1) _ (fun w1 _ => len_flat _ 1 _ (fun w2 _ => rfl)), Nat.mul_one, Int.natCast_mul, sl_len h d s (s + c) (by omega) (by omega) (by omega), sl_len h d (s + c + 1) t (by omega) (by omega) (by omega)]
          omega
        · rw [if_neg hcp, if_neg hcp, ← ih]
          show _ + (_ + ((0 : Nat) : Int)) = _
          omega
    exact key (t - 3 - s) (by omega)
theorem tb_count {b : Nat → Nat} {n : Nat} {pe : Nat → Nat → Int} {T : Nat → Nat → Nat → Int} (h : tb_ok b n pe T) : T 0 0 n = ((en_all b n).length : Int) := by
  rw [← sl_len h n 0 n (Nat.zero_le n) (Nat.le_refl n) (by omega), (sl_perm b n).length_eq]
theorem mo_pc_cm {w1 w2 : Nat → Int} {s k m : Nat} (hS1 : sl_S w1 s k) (hS2 : sl_S w2 (k + 1) m) (hkm : k < m) : ∀ j, mo_pc (sl_cm w1 w2 k m) j = mo_pc w1 j + mo_pc w2 j + (if k < j then 1 else 0)
  | 0 => rfl
  | j + 1 => by
    have ih := mo_pc_cm hS1 hS2 hkm j
    have n1 : ∀ q, k ≤ q → w1 q = -1 := fun q hq => Classical.byContradiction (fun h9 => by have := hS1 q h9; omega)
    have n2 : ∀ q, (q ≤ k ∨ m ≤ q) → w2 q = -1 := fun q hq => Classical.byContradiction (fun h9 => by have := hS2 q h9; omega)
    show mo_pc (sl_cm w1 w2 k m) j + (if (j : Int) < sl_cm w1 w2 k m j then 1 else 0) = mo_pc w1 j + (if (j : Int) < w1 j then 1 else 0) + (mo_pc w2 j + (if (j : Int) < w2 j then 1 else 0)) + (if k < j + 1 then 1 else 0)
    rw [ih]
    by_cases e1 : j = m
    · have e9 : sl_cm w1 w2 k m j = k := by unfold sl_cm; rw [if_pos e1]
      have q1 := n1 j (by omega)
      have q2 := n2 j (by omega)
      rw [e9, q1, q2, if_neg (show ¬ ((j : Int) < (k : Int)) by omega), if_neg (show ¬ ((j : Int) < -1) by omega), if_pos (show k < j by omega), if_pos (show k < j + 1 by omega)]
      omega
    · by_cases e2 : j = k
      · have e9 : sl_cm w1 w2 k m j = m := by unfold sl_cm; rw [if_neg e1, if_pos e2]
        have q1 := n1 j (by omega)
        have q2 := n2 j (by omega)
        rw [e9, q1, q2, if_pos (show ((j : Int) < (m : Int)) by omega), if_neg (show ¬ ((j : Int) < -1) by omega), if_neg (show ¬ k < j by omega), if_pos (show k < j + 1 by omega)]
        omega
      · by_cases e3 : j < k
        · have e9 : sl_cm w1 w2 k m j = w1 j := by unfold sl_cm; rw [if_neg e1, if_neg e2, if_pos e3]
          have q2 := n2 j (by omega)
          rw [e9, q2, if_neg (show ¬ ((j : Int) < -1) by omega), if_neg (show ¬ k < j by omega), if_neg (show ¬ k < j + 1 by omega)]
          omega
        · have e9 : sl_cm w1 w2 k m j = w2 j := by unfold sl_cm; rw [if_neg e1, if_neg e2, if_neg e3]
          have q1 := n1 j (by omega)
          rw [e9, q1, if_neg (show ¬ ((j : Int) < -1) by omega), if_pos (show k < j by omega), if_pos (show k < j + 1 by omega)]
          omega
theorem mo_pc_none : ∀ n, mo_pc (fun _ => -1) n = 0
  | 0 => rfl
  | n + 1 => by
    show mo_pc (fun _ => -1) n + (if (n : Int) < -1 then 1 else 0) = 0
    rw [mo_pc_none n, if_neg (by omega)]
theorem sl_most {b : Nat → Nat} {n : Nat} {pe : Nat → Nat → Int} {T : Nat → Nat → Nat → Int} (h : tb_ok b n pe T) : ∀ (d s e : Nat), s ≤ e → e ≤ n → e - s ≤ d → (∀ w ∈ sl b d s e, (mo_pc w n : Int) ≤ T 1 s e) ∧ ∃ w ∈ sl b d s e, (mo_pc w n : Int) = T 1 s e
  | 0, s, e, hse, he, hd => by
    have : e = s := by omega
    subst this
    unfold sl
    rw [(h.2.2 e).2.1]
    refine ⟨fun w hw => ?_, ⟨_, List.mem_singleton.mpr rfl, by rw [mo_pc_none]; rfl⟩⟩
    rw [List.mem_singleton.mp hw, mo_pc_none]
    exact Int.le_refl _
  | d + 1, s, e, hse, he, hd => by
    by_cases hes : e ≤ s
    · have : e = s := by omega
      subst this
      unfold sl
      rw [if_pos hes, (h.2.2 e).2.1]
      refine ⟨fun w hw => ?_, ⟨_, List.mem_singleton.mpr rfl, by rw [mo_pc_none]; rfl⟩⟩
      rw [List.mem_singleton.mp hw, mo_pc_none]
      exact Int.le_refl _
    obtain ⟨t, rfl⟩ : ∃ t, e = t + 1 := ⟨e - 1, by omega⟩
    unfold sl
    rw [if_neg hes, show t + 1 - 1 = t by omega, tb_p h (by omega) (by omega)]
    obtain ⟨i1, i2⟩ := sl_most h d s t (by omega) (by omega) (by omega)
    have key : ∀ c, s + c + 3 ≤ t ∨ c = 0 → (∀ w ∈ sl b d s t ++ (List.range c).flatMap (fun c => if en_cp b (s + c) t = true then (sl b d s (s + c)).flatMap (fun w1 => (sl b d (s + c + 1) t).flatMap (fun w2 => [sl_cm w1 w2 (s + c) t])) else []), (mo_pc w n : Int) ≤ fo_pK b (T 1) s t c) ∧ ∃ w ∈ sl b d s t ++ (List.range c).flatMap (fun c => if en_cp b (s + c) t = true then (sl b d s (s + c)).flatMap (fun w1 => (sl b d (s + c + 1) t).flatMap (fun w2 => [sl_cm w1 w2 (s + c) t])) else []), (mo_pc w n : Int) = fo_pK b (T 1) s t c := by
      intro c
      induction c with
      | zero =>
        intro _
        have e0 : (List.range 0).flatMap (fun c => if en_cp b (s + c) t = true then (sl b d s (s + c)).flatMap (fun w1 => (sl b d (s + c + 1) t).flatMap (fun w2 => [sl_cm w1 w2 (s + c) t])) else []) = [] := rfl
        rw [e0, List.append_nil]
        exact ⟨i1, i2⟩
      | succ c ih =>
        intro hc
        obtain ⟨j1, w0, j2, j3⟩ := ih (by omega)
        rw [nl_range_flat, ← List.append_assoc]
        have e : fo_pK b (T 1) s t (c + 1) = if en_cp b (s + c) t = true then (if fo_pK b (T 1) s t c < T 1 s (s + c) + 1 + T 1 (s + c + 1) t then T 1 s (s + c) + 1 + T 1 (s + c + 1) t else fo_pK b (T 1) s t c) else fo_pK b (T 1) s t c := rfl
        rw [e]
        clear e
        by_cases hcp : en_cp b (s + c) t = true
        · rw [if_pos hcp, if_pos hcp]
          obtain ⟨a1, u1, a2, a3⟩ := sl_most h d s (s + c) (by omega) (by omega) (by omega)
          obtain ⟨b1, u2, b2, b3⟩ := sl_most h d (s + c + 1) t (by omega) (by omega) (by omega)
          have pcm : ∀ w1 w2, w1 ∈ sl b d s (s + c) → w2 ∈ sl b d (s + c + 1) t → mo_pc (sl_cm w1 w2 (s + c) t) n = mo_pc w1 n + mo_pc w2 n + 1 := fun w1 w2 h1 h2 => by
            rw [sl_mem (n := n) d s (s + c) (by omega) (by omega)] at h1
            rw [sl_mem (n := n) d (s + c + 1) t (by omega) (by omega)] at h2
            rw [mo_pc_cm h1.2 h2.2 (by omega), if_pos (by omega)]
          refine ⟨fun w hw => ?_, ?_⟩
          · rcases List.mem_append.mp hw with k | k
            · have := j1 w k
              split <;> omega
            · obtain ⟨w1, h1, k⟩ := List.mem_flatMap.mp k
              obtain ⟨w2, h2, k⟩ := List.mem_flatMap.mp k
              rw [List.mem_singleton] at k
              rw [k, pcm w1 w2 h1 h2]
              have := a1 w1 h1
              have := b1 w2 h2
              split <;> omega
          · by_cases e4 : fo_pK b (T 1) s t c < T 1 s (s + c) + 1 + T 1 (s + c + 1) t
            · rw [if_pos e4]
              refine ⟨sl_cm u1 u2 (s + c) t, List.mem_append.mpr (Or.inr (List.mem_flatMap.mpr ⟨u1, a2, List.mem_flatMap.mpr ⟨u2, b2, List.mem_singleton.mpr rfl⟩⟩)), ?_⟩
              rw [pcm u1 u2 a2 b2]
              omega
            · rw [if_neg e4]
              exact ⟨w0, List.mem_append.mpr (Or.inl j2), j3⟩
        · rw [if_neg hcp, if_neg hcp, List.append_nil]
          exact ⟨j1, w0, j2, j3⟩
    exact key (t - 3 - s) (by omega)
theorem mo_hi_spec (n : Nat) : ∀ (ws : List (Nat → Int)) (a : Nat), a ≤ mo_hi n a ws ∧ (∀ w ∈ ws, mo_pc w n ≤ mo_hi n a ws) ∧ (mo_hi n a ws = a ∨ ∃ w ∈ ws, mo_hi n a ws = mo_pc w n)
  | [], a => ⟨Nat.le_refl _, fun w hw => absurd hw List.not_mem_nil, Or.inl rfl⟩
  | w :: ws, a => by
    obtain ⟨h1, h2, h3⟩ := mo_hi_spec n ws (if a < mo_pc w n then mo_pc w n else a)
    have e : mo_hi n a (w :: ws) = mo_hi n (if a < mo_pc w n then mo_pc w n else a) ws := rfl
    rw [e]
    have h4 : a ≤ (if a < mo_pc w n then mo_pc w n else a) ∧ mo_pc w n ≤ (if a < mo_pc w n then mo_pc w n else a) := by split <;> omega
    refine ⟨by omega, fun u hu => ?_, ?_⟩
    · rcases List.mem_cons.mp hu with k | k
      · rw [k]
        omega
      · exact h2 u k
    · rcases h3 with h3 | ⟨u, hu, h3⟩
      · by_cases h5 : a < mo_pc w n
        · rw [if_pos h5] at h3 ⊢
          exact Or.inr ⟨w, List.mem_cons_self, h3⟩
        · rw [if_neg h5] at h3 ⊢
          exact Or.inl h3
      · exact Or.inr ⟨u, List.mem_cons_of_mem _ hu, h3⟩
theorem tb_most {b : Nat → Nat} {n : Nat} {pe : Nat → Nat → Int} {T : Nat → Nat → Nat → Int} (h : tb_ok b n pe T) : T 1 0 n = (mo_hi n 0 (en_all b n) : Int) := by
  obtain ⟨h1, w, h2, h3⟩ := sl_most h n 0 n (Nat.zero_le n) (Nat.le_refl n) (by omega)
  have hp := sl_perm b n
  obtain ⟨s1, s2, s3⟩ := mo_hi_spec n (en_all b n) 0
  have h4 := s2 w (hp.subset h2)
  rcases s3 with h5 | ⟨u, hu, h5⟩
  · omega
  · have := h1 u (hp.symm.subset hu)
    omega

