/-! The list of the class holds the keys of the reference's list. -/
theorem srt_eq : ∀ (l1 l2 : List Int), l1.Pairwise (· ≤ ·) → l2.Pairwise (· ≤ ·) → l1.Perm l2 → l1 = l2
  | [], l2, _, _, h => (List.perm_nil.mp h.symm).symm
  | a :: l1, [], _, _, h => absurd (List.perm_nil.mp h) (by simp)
  | a :: l1, c :: l2, h1, h2, h => by
    rw [List.pairwise_cons] at h1 h2
    have hac : a = c := by
      have k1 : c ∈ a :: l1 := h.symm.subset List.mem_cons_self
      have k2 : a ∈ c :: l2 := h.subset List.mem_cons_self
      have k3 : a ≤ c := by
        rcases List.mem_cons.mp k1 with k | k
        · omega
        · exact h1.1 c k
      have k4 : c ≤ a := by
        rcases List.mem_cons.mp k2 with k | k
        · omega
        · exact h2.1 a k
      omega
    subst hac
    rw [srt_eq l1 l2 h1.2 h2.2 (List.Perm.cons_inv h)]
def ls_sort (ks : List Int) (zs : List Int) : List Int := zs.foldl (fun ks z => nl_ins z ks) ks
theorem nl_ins_perm (z : Int) : ∀ ks : List Int, (nl_ins z ks).Perm (z :: ks)
  | [] => List.Perm.refl _
  | a :: l => by
    unfold nl_ins
    split
    · exact List.Perm.refl _
    · exact ((nl_ins_perm z l).cons a).trans (List.Perm.swap z a l)
theorem ls_sort_ok : ∀ (zs ks : List Int), ks.Pairwise (· ≤ ·) → (ls_sort ks zs).Pairwise (· ≤ ·) ∧ (ls_sort ks zs).Perm (zs ++ ks)
  | [], ks, h => ⟨h, List.Perm.refl _⟩
  | z :: zs, ks, h => by
    obtain ⟨h1, h2⟩ := ls_sort_ok zs (nl_ins z ks) (nl_ins_sorted z ks h)
    refine ⟨h1, h2.trans ?_⟩
    exact ((nl_ins_perm z ks).append_left zs).trans List.perm_middle
theorem ls_sort_perm {zs ys : List Int} (h : zs.Perm ys) : ls_sort [] zs = ls_sort [] ys := by
  obtain ⟨h1, h2⟩ := ls_sort_ok zs [] List.Pairwise.nil
  obtain ⟨h3, h4⟩ := ls_sort_ok ys [] List.Pairwise.nil
  rw [List.append_nil] at h2 h4
  exact srt_eq _ _ h1 h3 (h2.trans (h.trans h4.symm))
theorem ls_sort_len : ∀ (zs ks : List Int), (ls_sort ks zs).length = ks.length + zs.length
  | [], ks => rfl
  | z :: zs, ks => by
    show (ls_sort (nl_ins z ks) zs).length = _
    rw [ls_sort_len zs, nl_ins_len, List.length_cons]
    omega
def ls_k (c : Int × Int) : Int := c.1 * 68719476736 + c.2
def ls_f (lim : Int) (cs : List (Int × Int)) : List Int := (cs.filter (fun c => decide (c.1 ≤ lim))).map ls_k
theorem ls_f_cons (lim : Int) (c : Int × Int) (cs : List (Int × Int)) : ls_f lim (c :: cs) = if c.1 ≤ lim then ls_k c :: ls_f lim cs else ls_f lim cs := by
  unfold ls_f
  rw [List.filter_cons]
  by_cases h : c.1 ≤ lim
  · rw [if_pos (decide_eq_true h), if_pos h, List.map_cons]
  · rw [if_neg (by rw [decide_eq_false h]; decide), if_neg h]
theorem nl_run_fit (lim : Int) : ∀ (cs : List (Int × Int)) (ks : List Int), ks.length + (ls_f lim cs).length ≤ 150 → nl_run lim (ks, false) cs = (ls_sort ks (ls_f lim cs), false)
  | [], ks, _ => rfl
  | c :: cs, ks, h => by
    rw [ls_f_cons] at h ⊢
    show nl_run lim (nl_put lim (ks, false) c) cs = _
    by_cases h1 : c.1 ≤ lim
    · rw [if_pos h1] at h ⊢
      rw [List.length_cons] at h
      have e : nl_put lim (ks, false) c = (nl_ins (ls_k c) ks, false) := by
        unfold nl_put
        rw [if_neg (by intro h9; rcases h9 with h9 | h9; exact absurd (show false = true from h9) (by decide); omega), if_neg (show ¬ 150 ≤ ks.length by omega)]
        rfl
      rw [e, nl_run_fit lim cs (nl_ins (ls_k c) ks) (by rw [nl_ins_len]; omega)]
      rfl
    · rw [if_neg h1] at h ⊢
      have e : nl_put lim (ks, false) c = (ks, false) := by
        unfold nl_put
        rw [if_pos (Or.inr (by omega))]
      rw [e]
      exact nl_run_fit lim cs ks h
theorem nl_run_over (lim : Int) : ∀ (cs : List (Int × Int)) (ks : List Int), ks.length ≤ 150 → 150 < ks.length + (ls_f lim cs).length → (nl_run lim (ks, false) cs).2 = true
  | [], ks, h0, h => by
    have : (ls_f lim []).length = 0 := rfl
    omega
  | c :: cs, ks, h0, h => by
    rw [ls_f_cons] at h
    show (nl_run lim (nl_put lim (ks, false) c) cs).2 = true
    by_cases h1 : c.1 ≤ lim
    · rw [if_pos h1, List.length_cons] at h
      by_cases h2 : 150 ≤ ks.length
      · have e : nl_put lim (ks, false) c = (ks, true) := by
          unfold nl_put
          rw [if_neg (by intro h9; rcases h9 with h9 | h9; exact absurd (show false = true from h9) (by decide); omega), if_pos h2]
        rw [e, nl_run_tm lim (ks, true) rfl cs]
      · have e : nl_put lim (ks, false) c = (nl_ins (ls_k c) ks, false) := by
          unfold nl_put
          rw [if_neg (by intro h9; rcases h9 with h9 | h9; exact absurd (show false = true from h9) (by decide); omega), if_neg h2]
          rfl
        rw [e]
        exact nl_run_over lim cs (nl_ins (ls_k c) ks) (by rw [nl_ins_len]; omega) (by rw [nl_ins_len]; omega)
    · rw [if_neg h1] at h
      have e : nl_put lim (ks, false) c = (ks, false) := by
        unfold nl_put
        rw [if_pos (Or.inr (by omega))]
      rw [e]
      exact nl_run_over lim cs ks h0 h
def ls_g (b : Nat → Nat) (n : Nat) (lim : Int) (ws : List (Nat → Int)) : List (Nat → Int) := ws.filter (fun w => decide (st_E b n w ≤ lim))
theorem ls_g_cons (b : Nat → Nat) (n : Nat) (lim : Int) (w : Nat → Int) (ws : List (Nat → Int)) : ls_g b n lim (w :: ws) = if st_E b n w ≤ lim then w :: ls_g b n lim ws else ls_g b n lim ws := by
  unfold ls_g
  rw [List.filter_cons]
  by_cases h : st_E b n w ≤ lim
  · rw [if_pos (decide_eq_true h), if_pos h]
  · rw [if_neg (by rw [decide_eq_false h]; decide), if_neg h]
theorem mo_run_fit (b : Nat → Nat) (n : Nat) (lim : Int) : ∀ (ws ms : List (Nat → Int)), ms.length + (ls_g b n lim ws).length ≤ 150 → (mo_run b n lim ms ws).map (mo_key b n) = ls_sort (ms.map (mo_key b n)) ((ls_g b n lim ws).map (mo_key b n))
  | [], ms, _ => rfl
  | w :: ws, ms, h => by
    rw [ls_g_cons] at h ⊢
    show (if 150 < ms.length then ms else mo_run b n lim (if st_E b n w ≤ lim then mo_ins (mo_key b n) w ms else ms) ws).map (mo_key b n) = _
    rw [if_neg (by omega)]
    by_cases h1 : st_E b n w ≤ lim
    · rw [if_pos h1] at h
      rw [if_pos h1, if_pos h1]
      rw [List.length_cons] at h
      rw [mo_run_fit b n lim ws (mo_ins (mo_key b n) w ms) (by rw [mo_ins_len]; omega), mo_ins_map]
      rfl
    · rw [if_neg h1] at h
      rw [if_neg h1, if_neg h1]
      exact mo_run_fit b n lim ws ms h
theorem mo_run_over (b : Nat → Nat) (n : Nat) (lim : Int) : ∀ (ws ms : List (Nat → Int)), 150 < ms.length + (ls_g b n lim ws).length → 150 < (mo_run b n lim ms ws).length
  | [], ms, h => by
    have : (ls_g b n lim []).length = 0 := rfl
    show 150 < ms.length
    omega
  | w :: ws, ms, h => by
    rw [ls_g_cons] at h
    show 150 < (if 150 < ms.length then ms else mo_run b n lim (if st_E b n w ≤ lim then mo_ins (mo_key b n) w ms else ms) ws).length
    by_cases h0 : 150 < ms.length
    · rw [if_pos h0]
      exact h0
    · rw [if_neg h0]
      by_cases h1 : st_E b n w ≤ lim
      · rw [if_pos h1, List.length_cons] at h
        rw [if_pos h1]
        exact mo_run_over b n lim ws (mo_ins (mo_key b n) w ms) (by rw [mo_ins_len]; omega)
      · rw [if_neg h1] at h
        rw [if_neg h1]
        exact mo_run_over b n lim ws ms h
/-- both lists: too many in the same cases, and else the same keys -/
theorem ls_same (b : Nat → Nat) {n : Nat} (hn : n ≤ 18) (lim : Int) : (150 < (mo_run b n lim [] (en_all b n)).length ∧ (nl_res b n lim).2 = true) ∨ ((mo_run b n lim [] (en_all b n)).length ≤ 150 ∧ nl_res b n lim = ((mo_run b n lim [] (en_all b n)).map (mo_key b n), false)) := by
  have hp := nl_perm b hn
  have hk : (ls_f lim (nl_F b 38 none [(0, 0, n)] 0 (nl_t0 n))).Perm ((ls_g b n lim (en_all b n)).map (mo_key b n)) := by
    have h1 : (ls_f lim (nl_F b 38 none [(0, 0, n)] 0 (nl_t0 n))).Perm (ls_f lim ((en_all b n).map (fun w => (st_E b n w, mo_tx w n)))) := (hp.filter _).map _
    have h2 : ls_f lim ((en_all b n).map (fun w => (st_E b n w, mo_tx w n))) = (ls_g b n lim (en_all b n)).map (mo_key b n) := by
      unfold ls_f ls_g
      rw [List.filter_map, List.map_map]
      rfl
    rw [h2] at h1
    exact h1
  have hlen := hk.length_eq
  rw [List.length_map] at hlen
  by_cases hc : (ls_g b n lim (en_all b n)).length ≤ 150
  · right
    have e1 := nl_run_fit lim (nl_F b 38 none [(0, 0, n)] 0 (nl_t0 n)) [] (by show 0 + _ ≤ 150; omega)
    have e2 := mo_run_fit b n lim (en_all b n) [] (by show 0 + _ ≤ 150; omega)
    have e3 := congrArg List.length e2
    rw [List.length_map, ls_sort_len, List.length_map, List.length_map] at e3
    have e3 : (mo_run b n lim [] (en_all b n)).length = 0 + (ls_g b n lim (en_all b n)).length := e3
    refine ⟨by omega, ?_⟩
    show nl_run lim ([], false) _ = _
    rw [e1, e2]
    show (ls_sort [] _, false) = (ls_sort [] _, false)
    rw [ls_sort_perm hk]
  · left
    exact ⟨mo_run_over b n lim (en_all b n) [] (by show 150 < 0 + _; omega), nl_run_over lim _ [] (by decide) (by show 150 < 0 + _; omega)⟩

