/-! The search makes each structure once, with its energy and its text. -/
def nl_RS (b : Nat → Nat) (w : Nat → Int) : List (Nat × Nat × Nat) → Int
  | [] => 0
  | (r, s, e) :: rest => nl_RE b w r s e + nl_RS b w rest
def nl_PO (b : Nat → Nat) (w : Nat → Int) : Option (Nat × Nat) → Int
  | none => 0
  | some (i, j) => nl_PE b w i j
def nl_ok (b : Nat → Nat) (n : Nat) (p : Option (Nat × Nat)) (regs : List (Nat × Nat × Nat)) (x : Int) (w : Nat → Int) (h : Int × Int × (Nat → Int)) : Prop := nl_Good b n w p regs h.2.2 ∧ h.2.1 = mo_tx h.2.2 n ∧ h.1 = x + nl_RS b h.2.2 regs + nl_PO b h.2.2 p
theorem nl_tx_dt {w : Nat → Int} {k m n : Nat} (hkm : k < m) (hm : m < n) (hk : w k = -1) (hm1 : w m = -1) : mo_tx w n - nl_dt k m = mo_tx (en_pr w k m) n := by
  rw [mo_tx_pr hkm hk hm1, if_pos (by omega), if_pos hm]
  unfold nl_dt
  omega
theorem nl_sound {b : Nat → Nat} {n : Nat} : ∀ (d : Nat) (p : Option (Nat × Nat)) (regs : List (Nat × Nat × Nat)) (x t : Int) (w : Nat → Int), nl_P0 b n w p regs → t = mo_tx w n → ∀ h ∈ nl_H b d p regs x t w, nl_ok b n p regs x w h
  | 0, p, regs, x, t, w, _, _, h, hh => by
    unfold nl_H at hh
    cases hh
  | d + 1, none, [], x, t, w, h0, ht, h, hh => by
    unfold nl_H at hh
    rw [List.mem_singleton] at hh
    subst hh
    refine ⟨⟨h0.1, fun _ _ _ => rfl, fun a ha => absurd ha List.not_mem_nil, fun i j hij => by cases hij⟩, ht, ?_⟩
    show x = x + 0 + 0
    omega
  | d + 1, none, (r, s, e) :: rest, x, t, w, h0, ht, h, hh => by
    unfold nl_H at hh
    have hse : s ≤ e := (h0.2.2.2.1 (r, s, e) List.mem_cons_self).1
    have hen : e ≤ n := (h0.2.2.2.1 (r, s, e) List.mem_cons_self).2
    rcases List.mem_append.mp hh with h1 | h1
    · by_cases hr : r < 2
      · rw [if_pos hr] at h1
        obtain ⟨g1, g2, g3⟩ := nl_sound d none rest _ t w (nl_P0_drop h0) ht h h1
        obtain ⟨g4, g5⟩ := nl_g_none hr h0 g1
        refine ⟨g4, g2, ?_⟩
        rw [g3]
        show x + fo_pp r * ((e : Int) - s) + nl_RS b h.2.2 rest + 0 = x + (nl_RE b h.2.2 r s e + nl_RS b h.2.2 rest) + 0
        rw [nl_RE_none hse (fun y j1 j2 => by rw [g5 y j1 j2]; omega)]
        omega
      · rw [if_neg hr] at h1
        cases h1
    · obtain ⟨c, hc, h1⟩ := List.mem_flatMap.mp h1
      obtain ⟨c2, hc2, h1⟩ := List.mem_flatMap.mp h1
      rw [List.mem_range] at hc hc2
      by_cases hcp : en_cp b (s + c2) (e - 1 - c) = true
      · rw [if_pos hcp] at h1
        have hkm : s + c2 < e - 1 - c := by omega
        have hfw : ∀ q : Nat, s ≤ q → q < e → w q = -1 := fun q k1 k2 => h0.2.1 q (Or.inl ⟨(r, s, e), List.mem_cons_self, k1, k2⟩)
        obtain ⟨g1, g2, g3⟩ := nl_sound d (some (s + c2, e - 1 - c)) ((fo_af r, s, s + c2) :: rest) _ _ (en_pr w (s + c2) (e - 1 - c)) (nl_P0_reg h0 (by omega) hkm (by omega) hcp) (by rw [ht]; exact nl_tx_dt hkm (by omega) (hfw _ (by omega) (by omega)) (hfw _ (by omega) (by omega))) h h1
        obtain ⟨g4, g5, g6, g7⟩ := nl_g_pair h0 (show s ≤ s + c2 by omega) hkm (by omega) g1
        refine ⟨g4, g2, ?_⟩
        rw [g3]
        show x + fo_pp r * ((c : Nat) : Int) + (fo_pq r + lp_wk b (s + c2) (e - 1 - c) 5) + (nl_RE b h.2.2 (fo_af r) s (s + c2) + nl_RS b h.2.2 rest) + nl_PE b h.2.2 (s + c2) (e - 1 - c) = x + (nl_RE b h.2.2 r s e + nl_RS b h.2.2 rest) + 0
        rw [nl_RE_last (show s ≤ s + c2 by omega) hkm (show e - 1 - c < e by omega) g5 g6 (fun y j1 j2 => by rw [g7 y j1 j2]; omega), show e - 1 - (e - 1 - c) = c by omega]
        omega
      · rw [if_neg hcp] at h1
        cases h1
  | d + 1, some (i, j), regs, x, t, w, h0, ht, h, hh => by
    unfold nl_H at hh
    obtain ⟨f1, f2, f3, f4, f5⟩ := h0.2.2.2.2 i j rfl
    rcases List.mem_append.mp hh with h1 | h1
    · obtain ⟨g1, g2, g3⟩ := nl_sound d none regs _ t w (nl_P0_un h0) ht h h1
      obtain ⟨g4, g5⟩ := nl_g_hp h0 g1
      refine ⟨g4, g2, ?_⟩
      rw [g3]
      show x + lp_hp b i j + nl_RS b h.2.2 regs + 0 = x + nl_RS b h.2.2 regs + nl_PE b h.2.2 i j
      rw [nl_PE_hp g4.1 f1 (g4.2.2.2 i j rfl) (by rw [tp_none (j - (i + 1)) (i + 1) rfl (fun y j1 j2 => by rw [g5 y (by omega) j2]; omega)])]
      omega
    · rcases List.mem_append.mp h1 with h1 | h1
      · obtain ⟨c, hc, h1⟩ := List.mem_flatMap.mp h1
        obtain ⟨c2, hc2, h1⟩ := List.mem_flatMap.mp h1
        rw [List.mem_range] at hc hc2
        by_cases hcp : en_cp b (i + 1 + c2) (j - 1 - c) = true
        · rw [if_pos hcp] at h1
          have hkm : i + 1 + c2 < j - 1 - c := by omega
          have hfw : ∀ q : Nat, i < q → q < j → w q = -1 := fun q k1 k2 => h0.2.1 q (Or.inr ⟨i, j, rfl, k1, k2⟩)
          obtain ⟨g1, g2, g3⟩ := nl_sound d (some (i + 1 + c2, j - 1 - c)) regs _ _ (en_pr w (i + 1 + c2) (j - 1 - c)) (nl_P0_one h0 (by omega) hkm (by omega) hcp) (by rw [ht]; exact nl_tx_dt hkm (by omega) (hfw _ (by omega) (by omega)) (hfw _ (by omega) (by omega))) h h1
          obtain ⟨g4, g5, g6, g7⟩ := nl_g_one h0 (show i < i + 1 + c2 by omega) hkm (by omega) g1
          refine ⟨g4, g2, ?_⟩
          rw [g3]
          show x + lp_w1 b i j (i + 1 + c2) (j - 1 - c) + nl_RS b h.2.2 regs + nl_PE b h.2.2 (i + 1 + c2) (j - 1 - c) = x + nl_RS b h.2.2 regs + nl_PE b h.2.2 i j
          have hsp := tp_split (show i + 1 ≤ i + 1 + c2 by omega) hkm (show j - 1 - c < j by omega) g5 (fun y j1 j2 j3 => by rw [g6 y (by omega) j2] at j3; omega) (fun y j1 j2 => by rw [g7 y j1 j2]; omega)
          rw [tp_none (i + 1 + c2 - (i + 1)) (i + 1) rfl (fun y j1 j2 => by rw [g6 y (by omega) j2]; omega)] at hsp
          rw [nl_PE_one g4.1 f1 (g4.2.2.2 i j rfl) (by rw [hsp]; rfl)]
          omega
        · rw [if_neg hcp] at h1
          cases h1
      · obtain ⟨g1, g2, g3⟩ := nl_sound d none ((3, i + 1, j) :: regs) _ t w (nl_P0_many h0) ht h h1
        obtain ⟨g4, g5⟩ := nl_g_many h0 g1
        refine ⟨g4, g2, ?_⟩
        rw [g3]
        show x + (38 + lp_wk b i j 5) + (nl_RE b h.2.2 3 (i + 1) j + nl_RS b h.2.2 regs) + 0 = x + nl_RS b h.2.2 regs + nl_PE b h.2.2 i j
        rw [nl_PE_many g4.1 f1 (g4.2.2.2 i j rfl) g5]
        omega
def nl_pm : Option (Nat × Nat) → Nat
  | none => 0
  | some (i, j) => 2 * (j - i)
theorem nl_compl {b : Nat → Nat} {n : Nat} : ∀ (d : Nat) (p : Option (Nat × Nat)) (regs : List (Nat × Nat × Nat)) (x t : Int) (w w2 : Nat → Int), nl_P0 b n w p regs → nl_mu regs + nl_pm p < d → nl_Good b n w p regs w2 → ∃ h ∈ nl_H b d p regs x t w, h.2.2 = w2
  | 0, p, regs, x, t, w, w2, _, hd, _ => absurd hd (Nat.not_lt_zero _)
  | d + 1, none, [], x, t, w, w2, h0, hd, hg => by
    refine ⟨(x, t, w), by unfold nl_H; exact List.mem_singleton.mpr rfl, ?_⟩
    funext q
    exact (hg.2.1 q (fun ⟨a, ha, _⟩ => absurd ha List.not_mem_nil) (fun ⟨i, j, hij, _⟩ => by cases hij)).symm
  | d + 1, none, (r, s, e) :: rest, x, t, w, w2, h0, hd, hg => by
    have hd : 2 * (e - s) + 1 + nl_mu rest + 0 < d + 1 := hd
    rcases nl_c_reg h0 hg with ⟨hr, h1⟩ | ⟨k, m, k1, k2, k3, k4, k5⟩
    · obtain ⟨h, hh, hw⟩ := nl_compl d none rest (x + fo_pp r * ((e : Int) - s)) t w w2 (nl_P0_drop h0) (by show nl_mu rest + 0 < d; omega) h1
      refine ⟨h, ?_, hw⟩
      unfold nl_H
      rw [if_pos hr]
      exact List.mem_append.mpr (Or.inl hh)
    · have h4 := (en_cp_4 k4).1
      obtain ⟨h, hh, hw⟩ := nl_compl d (some (k, m)) ((fo_af r, s, k) :: rest) (x + fo_pp r * ((e - 1 - m : Nat) : Int) + (fo_pq r + lp_wk b k m 5)) (t - nl_dt k m) (en_pr w k m) w2 (nl_P0_reg h0 k1 k2 k3 k4) (by show 2 * (k - s) + 1 + nl_mu rest + 2 * (m - k) < d; omega) k5
      refine ⟨h, ?_, hw⟩
      unfold nl_H
      refine List.mem_append.mpr (Or.inr (List.mem_flatMap.mpr ⟨e - 1 - m, List.mem_range.mpr (by omega), List.mem_flatMap.mpr ⟨k - s, List.mem_range.mpr (by omega), ?_⟩⟩))
      rw [show s + (k - s) = k by omega, show e - 1 - (e - 1 - m) = m by omega, if_pos k4]
      exact hh
  | d + 1, some (i, j), regs, x, t, w, w2, h0, hd, hg => by
    have hd : nl_mu regs + 2 * (j - i) < d + 1 := hd
    obtain ⟨f1, f2, f3, f4, f5⟩ := h0.2.2.2.2 i j rfl
    rcases nl_c_pair h0 hg with h1 | ⟨k, m, k1, k2, k3, k4, k5⟩ | h1
    · obtain ⟨h, hh, hw⟩ := nl_compl d none regs (x + lp_hp b i j) t w w2 (nl_P0_un h0) (by show nl_mu regs + 0 < d; omega) h1
      refine ⟨h, ?_, hw⟩
      unfold nl_H
      exact List.mem_append.mpr (Or.inl hh)
    · have h4 := (en_cp_4 k4).1
      obtain ⟨h, hh, hw⟩ := nl_compl d (some (k, m)) regs (x + lp_w1 b i j k m) (t - nl_dt k m) (en_pr w k m) w2 (nl_P0_one h0 k1 k2 k3 k4) (by show nl_mu regs + 2 * (m - k) < d; omega) k5
      refine ⟨h, ?_, hw⟩
      unfold nl_H
      refine List.mem_append.mpr (Or.inr (List.mem_append.mpr (Or.inl (List.mem_flatMap.mpr ⟨j - 1 - m, List.mem_range.mpr (by omega), List.mem_flatMap.mpr ⟨k - i - 1, List.mem_range.mpr (by omega), ?_⟩⟩))))
      rw [show i + 1 + (k - i - 1) = k by omega, show j - 1 - (j - 1 - m) = m by omega, if_pos k4]
      exact hh
    · obtain ⟨h, hh, hw⟩ := nl_compl d none ((3, i + 1, j) :: regs) (x + (38 + lp_wk b i j 5)) t w w2 (nl_P0_many h0) (by show 2 * (j - (i + 1)) + 1 + nl_mu regs + 0 < d; omega) h1
      refine ⟨h, ?_, hw⟩
      unfold nl_H
      exact List.mem_append.mpr (Or.inr (List.mem_append.mpr (Or.inr hh)))
theorem nd_flat {α β : Type} (f : α → List β) : ∀ (l : List α), l.Nodup → (∀ a ∈ l, (f a).Nodup) → (∀ a ∈ l, ∀ c ∈ l, ∀ y, y ∈ f a → y ∈ f c → a = c) → (l.flatMap f).Nodup
  | [], _, _, _ => List.Pairwise.nil
  | a :: l, h1, h2, h3 => by
    rw [List.flatMap_cons]
    rw [List.nodup_cons] at h1
    refine List.nodup_append.mpr ⟨h2 a List.mem_cons_self, nd_flat f l h1.2 (fun c hc => h2 c (List.mem_cons_of_mem _ hc)) (fun c hc e he => h3 c (List.mem_cons_of_mem _ hc) e (List.mem_cons_of_mem _ he)), ?_⟩
    intro y hy z hz hyz
    subst hyz
    obtain ⟨c, hc, hz⟩ := List.mem_flatMap.mp hz
    have := h3 a List.mem_cons_self c (List.mem_cons_of_mem _ hc) y hy hz
    subst this
    exact h1.1 hc
theorem nl_nodup {b : Nat → Nat} {n : Nat} : ∀ (d : Nat) (p : Option (Nat × Nat)) (regs : List (Nat × Nat × Nat)) (x t : Int) (w : Nat → Int), nl_P0 b n w p regs → t = mo_tx w n → ((nl_H b d p regs x t w).map (fun h => h.2.2)).Nodup
  | 0, p, regs, x, t, w, _, _ => by
    unfold nl_H
    exact List.Pairwise.nil
  | d + 1, none, [], x, t, w, h0, ht => by
    unfold nl_H
    exact List.nodup_cons.mpr ⟨List.not_mem_nil, List.Pairwise.nil⟩
  | d + 1, none, (r, s, e) :: rest, x, t, w, h0, ht => by
    have hse : s ≤ e := (h0.2.2.2.1 (r, s, e) List.mem_cons_self).1
    have hen : e ≤ n := (h0.2.2.2.1 (r, s, e) List.mem_cons_self).2
    have hfw : ∀ q : Nat, s ≤ q → q < e → w q = -1 := fun q k1 k2 => h0.2.1 q (Or.inl ⟨(r, s, e), List.mem_cons_self, k1, k2⟩)
    have key : ∀ c c2 : Nat, c < e - s - 4 → c2 < e - 1 - c - 3 - s → en_cp b (s + c2) (e - 1 - c) = true → nl_P0 b n (en_pr w (s + c2) (e - 1 - c)) (some (s + c2, e - 1 - c)) ((fo_af r, s, s + c2) :: rest) ∧ t - nl_dt (s + c2) (e - 1 - c) = mo_tx (en_pr w (s + c2) (e - 1 - c)) n := fun c c2 hc hc2 hcp => ⟨nl_P0_reg h0 (by omega) (by omega) (by omega) hcp, by rw [ht]; exact nl_tx_dt (by omega) (by omega) (hfw _ (by omega) (by omega)) (hfw _ (by omega) (by omega))⟩
    have fact : ∀ c c2 : Nat, c < e - s - 4 → c2 < e - 1 - c - 3 - s → ∀ y, y ∈ (if en_cp b (s + c2) (e - 1 - c) = true then nl_H b d (some (s + c2, e - 1 - c)) ((fo_af r, s, s + c2) :: rest) (x + fo_pp r * ((c : Nat) : Int) + (fo_pq r + lp_wk b (s + c2) (e - 1 - c) 5)) (t - nl_dt (s + c2) (e - 1 - c)) (en_pr w (s + c2) (e - 1 - c)) else []).map (fun h => h.2.2) → y (s + c2) = ((e - 1 - c : Nat) : Int) ∧ y (e - 1 - c) = ((s + c2 : Nat) : Int) ∧ ∀ q : Nat, e - 1 - c < q → q < e → y q = -1 := fun c c2 hc hc2 y hy => by
      obtain ⟨h, hh, rfl⟩ := List.mem_map.mp hy
      by_cases hcp : en_cp b (s + c2) (e - 1 - c) = true
      · rw [if_pos hcp] at hh
        obtain ⟨k1, k2⟩ := key c c2 hc hc2 hcp
        obtain ⟨g1, _, _⟩ := nl_sound d _ _ _ _ _ k1 k2 h hh
        obtain ⟨g4, g5, g6, g7⟩ := nl_g_pair h0 (show s ≤ s + c2 by omega) (show s + c2 < e - 1 - c by omega) (by omega) g1
        exact ⟨g5, nl_back g4.1 g5, g7⟩
      · rw [if_neg hcp] at hh
        cases hh
    unfold nl_H
    rw [List.map_append, List.map_flatMap]
    refine List.nodup_append.mpr ⟨?_, ?_, ?_⟩
    · split
      · exact nl_nodup d none rest _ t w (nl_P0_drop h0) ht
      · exact List.Pairwise.nil
    · refine nd_flat _ _ List.nodup_range (fun c hc => ?_) (fun c hc c' hc' y hy hy' => ?_)
      · rw [List.mem_range] at hc
        rw [List.map_flatMap]
        refine nd_flat _ _ List.nodup_range (fun c2 hc2 => ?_) (fun c2 hc2 c2' hc2' y hy hy' => ?_)
        · rw [List.mem_range] at hc2
          by_cases hcp : en_cp b (s + c2) (e - 1 - c) = true
          · rw [if_pos hcp]
            obtain ⟨k1, k2⟩ := key c c2 hc hc2 hcp
            exact nl_nodup d _ _ _ _ _ k1 k2
          · rw [if_neg hcp]
            exact List.Pairwise.nil
        · rw [List.mem_range] at hc2 hc2'
          have f1 := (fact c c2 hc hc2 y hy).2.1
          have f2 := (fact c c2' hc hc2' y hy').2.1
          omega
      · rw [List.mem_range] at hc hc'
        rw [List.map_flatMap] at hy hy'
        obtain ⟨c2, hc2, hy⟩ := List.mem_flatMap.mp hy
        obtain ⟨c2', hc2', hy'⟩ := List.mem_flatMap.mp hy'
        rw [List.mem_range] at hc2 hc2'
        obtain ⟨_, f1, f2⟩ := fact c c2 hc hc2 y hy
        obtain ⟨_, f3, f4⟩ := fact c' c2' hc' hc2' y hy'
        by_cases e1 : c = c'
        · exact e1
        · by_cases e2 : c < c'
          · have := f4 (e - 1 - c) (by omega) (by omega)
            omega
          · have := f2 (e - 1 - c') (by omega) (by omega)
            omega
    · intro y hy z hz hyz
      subst hyz
      obtain ⟨c, hc, hz⟩ := List.mem_flatMap.mp hz
      rw [List.map_flatMap] at hz
      obtain ⟨c2, hc2, hz⟩ := List.mem_flatMap.mp hz
      rw [List.mem_range] at hc hc2
      obtain ⟨_, f1, _⟩ := fact c c2 hc hc2 y hz
      obtain ⟨h, hh, rfl⟩ := List.mem_map.mp hy
      by_cases hr : r < 2
      · rw [if_pos hr] at hh
        obtain ⟨g1, _, _⟩ := nl_sound d none rest _ t w (nl_P0_drop h0) ht h hh
        have := (nl_g_none hr h0 g1).2 (e - 1 - c) (by omega) (by omega)
        omega
      · rw [if_neg hr] at hh
        cases hh
  | d + 1, some (i, j), regs, x, t, w, h0, ht => by
    obtain ⟨f1, f2, f3, f4, f5⟩ := h0.2.2.2.2 i j rfl
    have hfw : ∀ q : Nat, i < q → q < j → w q = -1 := fun q k1 k2 => h0.2.1 q (Or.inr ⟨i, j, rfl, k1, k2⟩)
    have key : ∀ c c2 : Nat, c < j - i - 5 → c2 < j - 1 - c - 4 - i → en_cp b (i + 1 + c2) (j - 1 - c) = true → nl_P0 b n (en_pr w (i + 1 + c2) (j - 1 - c)) (some (i + 1 + c2, j - 1 - c)) regs ∧ t - nl_dt (i + 1 + c2) (j - 1 - c) = mo_tx (en_pr w (i + 1 + c2) (j - 1 - c)) n := fun c c2 hc hc2 hcp => ⟨nl_P0_one h0 (by omega) (by omega) (by omega) hcp, by rw [ht]; exact nl_tx_dt (by omega) (by omega) (hfw _ (by omega) (by omega)) (hfw _ (by omega) (by omega))⟩
    have fact : ∀ c c2 : Nat, c < j - i - 5 → c2 < j - 1 - c - 4 - i → ∀ y, y ∈ (if en_cp b (i + 1 + c2) (j - 1 - c) = true then nl_H b d (some (i + 1 + c2, j - 1 - c)) regs (x + lp_w1 b i j (i + 1 + c2) (j - 1 - c)) (t - nl_dt (i + 1 + c2) (j - 1 - c)) (en_pr w (i + 1 + c2) (j - 1 - c)) else []).map (fun h => h.2.2) → y (j - 1 - c) = ((i + 1 + c2 : Nat) : Int) ∧ (∀ q : Nat, j - 1 - c < q → q < j → y q = -1) ∧ (tp_l y (i + 1) j).1.length = 1 := fun c c2 hc hc2 y hy => by
      obtain ⟨h, hh, rfl⟩ := List.mem_map.mp hy
      by_cases hcp : en_cp b (i + 1 + c2) (j - 1 - c) = true
      · rw [if_pos hcp] at hh
        obtain ⟨k1, k2⟩ := key c c2 hc hc2 hcp
        obtain ⟨g1, _, _⟩ := nl_sound d _ _ _ _ _ k1 k2 h hh
        have hkm : i + 1 + c2 < j - 1 - c := by omega
        obtain ⟨g4, g5, g6, g7⟩ := nl_g_one h0 (show i < i + 1 + c2 by omega) hkm (by omega) g1
        refine ⟨nl_back g4.1 g5, g7, ?_⟩
        have hsp := tp_split (show i + 1 ≤ i + 1 + c2 by omega) hkm (show j - 1 - c < j by omega) g5 (fun y j1 j2 j3 => by rw [g6 y (by omega) j2] at j3; omega) (fun y j1 j2 => by rw [g7 y j1 j2]; omega)
        rw [tp_none (i + 1 + c2 - (i + 1)) (i + 1) rfl (fun y j1 j2 => by rw [g6 y (by omega) j2]; omega)] at hsp
        rw [hsp]
        rfl
      · rw [if_neg hcp] at hh
        cases hh
    have fhp : ∀ y, y ∈ (nl_H b d none regs (x + lp_hp b i j) t w).map (fun h => h.2.2) → (tp_l y (i + 1) j).1.length = 0 := fun y hy => by
      obtain ⟨h, hh, rfl⟩ := List.mem_map.mp hy
      obtain ⟨g1, _, _⟩ := nl_sound d none regs _ t w (nl_P0_un h0) ht h hh
      obtain ⟨g4, g5⟩ := nl_g_hp h0 g1
      rw [tp_none (j - (i + 1)) (i + 1) rfl (fun y j1 j2 => by rw [g5 y (by omega) j2]; omega)]
      rfl
    have fmany : ∀ y, y ∈ (nl_H b d none ((3, i + 1, j) :: regs) (x + (38 + lp_wk b i j 5)) t w).map (fun h => h.2.2) → 2 ≤ (tp_l y (i + 1) j).1.length := fun y hy => by
      obtain ⟨h, hh, rfl⟩ := List.mem_map.mp hy
      obtain ⟨g1, _, _⟩ := nl_sound d none ((3, i + 1, j) :: regs) _ t w (nl_P0_many h0) ht h hh
      exact (nl_g_many h0 g1).2
    unfold nl_H
    rw [List.map_append, List.map_append, List.map_flatMap]
    refine List.nodup_append.mpr ⟨nl_nodup d none regs _ t w (nl_P0_un h0) ht, List.nodup_append.mpr ⟨?_, nl_nodup d none ((3, i + 1, j) :: regs) _ t w (nl_P0_many h0) ht, ?_⟩, ?_⟩
    · refine nd_flat _ _ List.nodup_range (fun c hc => ?_) (fun c hc c' hc' y hy hy' => ?_)
      · rw [List.mem_range] at hc
        rw [List.map_flatMap]
        refine nd_flat _ _ List.nodup_range (fun c2 hc2 => ?_) (fun c2 hc2 c2' hc2' y hy hy' => ?_)
        · rw [List.mem_range] at hc2
          by_cases hcp : en_cp b (i + 1 + c2) (j - 1 - c) = true
          · rw [if_pos hcp]
            obtain ⟨k1, k2⟩ := key c c2 hc hc2 hcp
            exact nl_nodup d _ _ _ _ _ k1 k2
          · rw [if_neg hcp]
            exact List.Pairwise.nil
        · rw [List.mem_range] at hc2 hc2'
          have f1 := (fact c c2 hc hc2 y hy).1
          have f2 := (fact c c2' hc hc2' y hy').1
          omega
      · rw [List.mem_range] at hc hc'
        rw [List.map_flatMap] at hy hy'
        obtain ⟨c2, hc2, hy⟩ := List.mem_flatMap.mp hy
        obtain ⟨c2', hc2', hy'⟩ := List.mem_flatMap.mp hy'
        rw [List.mem_range] at hc2 hc2'
        obtain ⟨f1, f2, _⟩ := fact c c2 hc hc2 y hy
        obtain ⟨f3, f4, _⟩ := fact c' c2' hc' hc2' y hy'
        by_cases e1 : c = c'
        · exact e1
        · by_cases e2 : c < c'
          · have := f4 (j - 1 - c) (by omega) (by omega)
            omega
          · have := f2 (j - 1 - c') (by omega) (by omega)
            omega
    · intro y hy z hz hyz
      subst hyz
      obtain ⟨c, hc, hy⟩ := List.mem_flatMap.mp hy
      rw [List.map_flatMap] at hy
      obtain ⟨c2, hc2, hy⟩ := List.mem_flatMap.mp hy
      rw [List.mem_range] at hc hc2
      have g1 := (fact c c2 hc hc2 y hy).2.2
      have g2 := fmany y hz
      omega
    · intro y hy z hz hyz
      subst hyz
      have g1 := fhp y hy
      rcases List.mem_append.mp hz with hz | hz
      · obtain ⟨c, hc, hz⟩ := List.mem_flatMap.mp hz
        rw [List.map_flatMap] at hz
        obtain ⟨c2, hc2, hz⟩ := List.mem_flatMap.mp hz
        rw [List.mem_range] at hc hc2
        have g2 := (fact c c2 hc hc2 y hz).2.2
        omega
      · have g2 := fmany y hz
        omega
theorem nl_t0_tx : ∀ n, nl_t0 n = mo_tx (fun _ => -1) n
  | 0 => rfl
  | n + 1 => by
    show nl_t0 n + 2 * nl_4 n = mo_tx (fun _ => -1) n + (mo_sg (fun _ => -1) n : Int) * nl_4 n
    have : mo_sg (fun _ => -1) n = 2 := by
      unfold mo_sg
      rw [if_neg (show ¬ ((n : Int) < -1) by omega), if_neg (show ¬ (0 : Int) ≤ -1 by omega)]
    rw [nl_t0_tx n, this]
    rfl
theorem nl_P0_start (b : Nat → Nat) (n : Nat) : nl_P0 b n (fun _ => -1) none [(0, 0, n)] := ⟨en_V_none b n, fun _ _ => rfl, List.pairwise_cons.mpr ⟨fun a ha => absurd ha List.not_mem_nil, List.Pairwise.nil⟩, fun a ha => by
  rw [List.mem_singleton] at ha
  subst ha
  exact ⟨Nat.zero_le n, Nat.le_refl n⟩, fun i j hij => by cases hij⟩
theorem nl_Good_start {b : Nat → Nat} {n : Nat} {w : Nat → Int} : nl_Good b n (fun _ => -1) none [(0, 0, n)] w ↔ en_V b n w := by
  constructor
  · exact fun h => h.1
  · intro h
    refine ⟨h, fun q hq _ => ?_, fun a ha => ?_, fun i j hij => by cases hij⟩
    · rcases h.1 q with h1 | ⟨_, _, h1, _, _⟩
      · exact h1
      · exact absurd ⟨(0, 0, n), List.mem_cons_self, Nat.zero_le q, h1⟩ hq
    · rw [List.mem_singleton] at ha
      subst ha
      refine ⟨fun q _ _ => ?_, Nat.zero_le _⟩
      show w q = -1 ∨ (((0 : Nat) : Int) ≤ w q ∧ w q < (n : Int))
      rcases h.1 q with h1 | ⟨h1, h2, _⟩
      · exact Or.inl h1
      · exact Or.inr ⟨by omega, h2⟩
/-- what the search lists, in some order, is every structure with its energy and its text -/
theorem nl_perm (b : Nat → Nat) {n : Nat} (hn : n ≤ 18) : (nl_F b 38 none [(0, 0, n)] 0 (nl_t0 n)).Perm ((en_all b n).map (fun w => (st_E b n w, mo_tx w n))) := by
  have h0 := nl_P0_start b n
  have ht := nl_t0_tx n
  have hS := nl_sound 38 none [(0, 0, n)] 0 (nl_t0 n) (fun _ => -1) h0 ht
  have hN := nl_nodup 38 none [(0, 0, n)] 0 (nl_t0 n) (fun _ => -1) h0 ht
  have hP : ((nl_H b 38 none [(0, 0, n)] 0 (nl_t0 n) (fun _ => -1)).map (fun h => h.2.2)).Perm (en_all b n) := by
    refine (List.perm_ext_iff_of_nodup hN (en_all_nodup b n)).mpr (fun w => ?_)
    rw [en_all_mem, ← nl_Good_start]
    constructor
    · intro hw
      obtain ⟨h, hh, rfl⟩ := List.mem_map.mp hw
      exact (hS h hh).1
    · intro hw
      obtain ⟨h, hh, he⟩ := nl_compl 38 none [(0, 0, n)] 0 (nl_t0 n) (fun _ => -1) w h0 (by show 2 * (n - 0) + 1 + 0 + 0 < 38; omega) hw
      exact List.mem_map.mpr ⟨h, hh, he⟩
  have hE : nl_F b 38 none [(0, 0, n)] 0 (nl_t0 n) = ((nl_H b 38 none [(0, 0, n)] 0 (nl_t0 n) (fun _ => -1)).map (fun h => h.2.2)).map (fun w => (st_E b n w, mo_tx w n)) := by
    rw [nl_H_F b 38 none [(0, 0, n)] 0 (nl_t0 n) (fun _ => -1), List.map_map]
    refine List.map_congr_left (fun h hh => ?_)
    obtain ⟨g1, g2, g3⟩ := hS h hh
    show (h.1, h.2.1) = (st_E b n h.2.2, mo_tx h.2.2 n)
    rw [g2, g3, st_E_RE g1.1]
    show (0 + (nl_RE b h.2.2 0 0 n + 0) + 0, _) = _
    rw [Int.zero_add, Int.add_zero, Int.add_zero]
  rw [hE]
  exact hP.map _

