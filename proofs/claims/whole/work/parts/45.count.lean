/-! The number of structures and the most pairs, of the tables and over all structures. -/
def sl_cm (w1 w2 : Nat → Int) (k m : Nat) : Nat → Int := fun q => if q = m then (k : Int) else if q = k then (m : Int) else if q < k then w1 q else w2 q
def sl_S (w : Nat → Int) (s e : Nat) : Prop := ∀ q : Nat, w q ≠ -1 → s ≤ q ∧ q < e
def sl (b : Nat → Nat) : Nat → Nat → Nat → List (Nat → Int)
  | 0, _, _ => [fun _ => -1]
  | d + 1, s, e => if e ≤ s then [fun _ => -1] else sl b d s (e - 1) ++ (List.range (e - 1 - 3 - s)).flatMap (fun c => if en_cp b (s + c) (e - 1) = true then (sl b d s (s + c)).flatMap (fun w1 => (sl b d (s + c + 1) (e - 1)).flatMap (fun w2 => [sl_cm w1 w2 (s + c) (e - 1)])) else [])
theorem sl_in {b : Nat → Nat} {n : Nat} {w : Nat → Int} (h : en_V b n w) {s e : Nat} (hS : sl_S w s e) (q : Nat) : w q = -1 ∨ ((s : Int) ≤ w q ∧ w q < e ∧ s ≤ q ∧ q < e) := by
  rcases h.1 q with h1 | ⟨h1, _, _, _, h5⟩
  · exact Or.inl h1
  · right
    have k1 := hS q (by omega)
    have k2 := hS (w q).toNat (by rw [h5]; omega)
    omega
theorem sl_V_cm {b : Nat → Nat} {n : Nat} {w1 w2 : Nat → Int} {s k m : Nat} (h1 : en_V b n w1) (h2 : en_V b n w2) (hS1 : sl_S w1 s k) (hS2 : sl_S w2 (k + 1) m) (hkm : k < m) (hm : m < n) (hc : en_cp b k m = true) : en_V b n (sl_cm w1 w2 k m) := by
  have a1 := sl_in h1 hS1
  have a2 := sl_in h2 hS2
  have em : sl_cm w1 w2 k m m = k := by unfold sl_cm; rw [if_pos rfl]
  have ek : sl_cm w1 w2 k m k = m := by unfold sl_cm; rw [if_neg (by omega), if_pos rfl]
  have el : ∀ q, q < k → sl_cm w1 w2 k m q = w1 q := fun q hq => by unfold sl_cm; rw [if_neg (by omega), if_neg (by omega), if_pos hq]
  have er : ∀ q, k < q → q ≠ m → sl_cm w1 w2 k m q = w2 q := fun q hq hq2 => by unfold sl_cm; rw [if_neg hq2, if_neg (by omega), if_neg (by omega)]
  refine ⟨fun q => ?_, fun q hq => ?_, fun p q hpq hq => ?_⟩
  · by_cases e1 : q = m
    · subst e1
      right
      rw [em, Int.toNat_natCast, ek]
      exact ⟨by omega, by omega, hm, by omega, rfl⟩
    · by_cases e2 : q = k
      · subst e2
        right
        rw [ek, Int.toNat_natCast, em]
        exact ⟨by omega, by omega, by omega, by omega, rfl⟩
      · by_cases e3 : q < k
        · rw [el q e3]
          rcases h1.1 q with g | ⟨g1, g2, g3, g4, g5⟩
          · exact Or.inl g
          · have := a1 q
            right
            rw [el _ (by omega)]
            exact ⟨g1, g2, g3, g4, g5⟩
        · rw [er q (by omega) e1]
          rcases h2.1 q with g | ⟨g1, g2, g3, g4, g5⟩
          · exact Or.inl g
          · have := a2 q
            right
            rw [er _ (by omega) (by omega)]
            exact ⟨g1, g2, g3, g4, g5⟩
  · by_cases e1 : q = m
    · rw [e1, em] at hq
      omega
    · by_cases e2 : q = k
      · subst e2
        rw [ek, Int.toNat_natCast]
        exact hc
      · by_cases e3 : q < k
        · rw [el q e3] at hq ⊢
          exact h1.2.1 q hq
        · rw [er q (by omega) e1] at hq ⊢
          exact h2.2.1 q hq
  · by_cases e1 : p = m
    · rw [e1, em] at hq
      omega
    · by_cases e2 : p = k
      · subst e2
        rw [ek] at hq ⊢
        rw [er q hpq (by omega)]
        have := a2 q
        omega
      · by_cases e3 : p < k
        · rw [el p e3] at hq ⊢
          have := a1 p
          rw [el q (by omega)]
          exact h1.2.2 p q hpq hq
        · rw [er p (by omega) e1] at hq ⊢
          have := a2 p
          rw [er q (by omega) (by omega)]
          exact h2.2.2 p q hpq hq
theorem sl_V_cut {b : Nat → Nat} {n : Nat} {w : Nat → Int} (h : en_V b n w) {s e : Nat} (hc : nl_cl w s e) : en_V b n (fun q => if s ≤ q ∧ q < e then w q else -1) := by
  have key : ∀ q : Nat, (if s ≤ q ∧ q < e then w q else -1) ≠ -1 → s ≤ q ∧ q < e := fun q hq => by
    by_cases e1 : s ≤ q ∧ q < e
    · exact e1
    · rw [if_neg e1] at hq
      exact absurd rfl hq
  refine ⟨fun q => ?_, fun q hq => ?_, fun p q hpq hq => ?_⟩
  · by_cases e1 : s ≤ q ∧ q < e
    · show (if s ≤ q ∧ q < e then w q else -1) = -1 ∨ _
      dsimp only
      rw [if_pos e1]
      rcases h.1 q with g | ⟨g1, g2, g3, g4, g5⟩
      · exact Or.inl g
      · right
        have := hc q e1.1 e1.2
        rw [if_pos (by omega)]
        exact ⟨g1, g2, g3, g4, g5⟩
    · left
      show (if s ≤ q ∧ q < e then w q else -1) = -1
      rw [if_neg e1]
  · have hq : (q : Int) < (if s ≤ q ∧ q < e then w q else -1) := hq
    have e1 := key q (by omega)
    rw [if_pos e1] at hq
    show en_cp b q (if s ≤ q ∧ q < e then w q else -1).toNat = true
    rw [if_pos e1]
    exact h.2.1 q hq
  · have hq : (q : Int) < (if s ≤ p ∧ p < e then w p else -1) := hq
    have e1 := key p (by omega)
    rw [if_pos e1] at hq
    show (if s ≤ q ∧ q < e then w q else -1) = -1 ∨ ((p : Int) < (if s ≤ q ∧ q < e then w q else -1) ∧ (if s ≤ q ∧ q < e then w q else -1) < (if s ≤ p ∧ p < e then w p else -1))
    rw [if_pos e1]
    by_cases e2 : s ≤ q ∧ q < e
    · rw [if_pos e2]
      exact h.2.2 p q hpq hq
    · rw [if_neg e2]
      exact Or.inl rfl
theorem sl_none {w : Nat → Int} {s e : Nat} (h : e ≤ s) (hS : sl_S w s e) : w = fun _ => -1 := by
  funext q
  by_cases e1 : w q = -1
  · exact e1
  · have := hS q e1
    omega
theorem sl_mem {b : Nat → Nat} {n : Nat} : ∀ (d s e : Nat), e ≤ n → e - s ≤ d → ∀ w, w ∈ sl b d s e ↔ en_V b n w ∧ sl_S w s e
  | 0, s, e, he, hd, w => by
    unfold sl
    rw [List.mem_singleton]
    constructor
    · intro h
      subst h
      exact ⟨en_V_none b n, fun q hq => absurd rfl hq⟩
    · intro h
      exact sl_none (by omega) h.2
  | d + 1, s, e, he, hd, w => by
    unfold sl
    by_cases hes : e ≤ s
    · rw [if_pos hes, List.mem_singleton]
      constructor
      · intro h
        subst h
        exact ⟨en_V_none b n, fun q hq => absurd rfl hq⟩
      · intro h
        exact sl_none hes h.2
    rw [if_neg hes]
    obtain ⟨t, ht⟩ : ∃ t, t = e - 1 := ⟨_, rfl⟩
    rw [← ht, List.mem_append, sl_mem (n := n) d s t (by omega) (by omega)]
    constructor
    · rintro (h | h)
      · exact ⟨h.1, fun q hq => by have := h.2 q hq; omega⟩
      · obtain ⟨c, hc, h⟩ := List.mem_flatMap.mp h
        rw [List.mem_range] at hc
        by_cases hcp : en_cp b (s + c) t = true
        · rw [if_pos hcp] at h
          obtain ⟨w1, h1, h⟩ := List.mem_flatMap.mp h
          obtain ⟨w2, h2, h⟩ := List.mem_flatMap.mp h
          rw [List.mem_singleton] at h
          subst h
          rw [sl_mem (n := n) d s (s + c) (by omega) (by omega)] at h1
          rw [sl_mem (n := n) d (s + c + 1) t (by omega) (by omega)] at h2
          refine ⟨sl_V_cm h1.1 h2.1 h1.2 h2.2 (by omega) (by omega) hcp, fun q hq => ?_⟩
          unfold sl_cm at hq
          by_cases e1 : q = t
          · omega
          · rw [if_neg e1] at hq
            by_cases e2 : q = s + c
            · omega
            · rw [if_neg e2] at hq
              by_cases e3 : q < s + c
              · rw [if_pos e3] at hq
                have := h1.2 q hq
                omega
              · rw [if_neg e3] at hq
                have := h2.2 q hq
                omega
        · rw [if_neg hcp] at h
          cases h
    · rintro ⟨hV, hS⟩
      by_cases hwt : w t = -1
      · left
        refine ⟨hV, fun q hq => ?_⟩
        have := hS q hq
        have : q ≠ t := fun h9 => hq (by rw [h9]; exact hwt)
        omega
      · right
        obtain ⟨k, hk⟩ : ∃ k : Nat, w t = k := ⟨(w t).toNat, by rcases hV.1 t with g | g <;> omega⟩
        have hb := nl_back hV hk
        have a := sl_in hV hS
        have hkt : k < t := by
          have := a t
          rcases hV.1 t with g | ⟨_, _, _, g, _⟩ <;> omega
        have hks : s ≤ k := by have := a k; omega
        have hcp : en_cp b k t = true := by
          have := hV.2.1 k (by omega)
          rwa [hb, Int.toNat_natCast] at this
        have h4 := (en_cp_4 hcp).1
        have hin : ∀ q : Nat, k < q → q < t → w q = -1 ∨ ((k : Int) < w q ∧ w q < t) := fun q h1 h2 => by
          rcases hV.2.2 k q h1 (by omega) with g | g
          · exact Or.inl g
          · right; omega
        have hlo : ∀ q : Nat, q < k → w q = -1 ∨ ((s : Int) ≤ w q ∧ w q < k) := fun q h1 => by
          rcases a q with g | g
          · exact Or.inl g
          · right
            obtain ⟨c, hcq⟩ : ∃ c : Nat, w q = c := ⟨(w q).toNat, by omega⟩
            have hbc := nl_back hV hcq
            by_cases e1 : c < k
            · omega
            · by_cases e2 : c = k
              · rw [e2, hb] at hbc
                omega
              · by_cases e3 : c = t
                · rw [e3, hk] at hbc
                  omega
                · have := hin c (by omega) (by omega)
                  omega
        refine List.mem_flatMap.mpr ⟨k - s, List.mem_range.mpr (by omega), ?_⟩
        rw [show s + (k - s) = k by omega, if_pos hcp]
        refine List.mem_flatMap.mpr ⟨fun q => if s ≤ q ∧ q < k then w q else -1, (sl_mem d s k (by omega) (by omega) _).mpr ⟨sl_V_cut hV (fun q h1 h2 => hlo q h2), fun q hq => ?_⟩, List.mem_flatMap.mpr ⟨fun q => if k + 1 ≤ q ∧ q < t then w q else -1, (sl_mem d (k + 1) t (by omega) (by omega) _).mpr ⟨sl_V_cut hV (fun q h1 h2 => by have := hin q (by omega) h2; omega), fun q hq => ?_⟩, ?_⟩⟩
        · by_cases e1 : s ≤ q ∧ q < k
          · exact e1
          · exact absurd (if_neg e1) hq
        · by_cases e1 : k + 1 ≤ q ∧ q < t
          · exact e1
          · exact absurd (if_neg e1) hq
        · rw [List.mem_singleton]
          funext q
          unfold sl_cm
          dsimp only
          by_cases e1 : q = t
          · rw [if_pos e1, e1, hk]
          · rw [if_neg e1]
            by_cases e2 : q = k
            · rw [if_pos e2, e2, hb]
            · rw [if_neg e2]
              have hq9 := a q
              by_cases e3 : q < k
              · rw [if_pos e3]
                by_cases e4 : s ≤ q
                · rw [if_pos ⟨e4, e3⟩]
                · rw [if_neg (by omega)]
                  omega
              · rw [if_neg e3]
                by_cases e4 : q < t
                · rw [if_pos (by omega)]
                · rw [if_neg (by omega)]
                  omega
theorem sl_nodup {b : Nat → Nat} {n : Nat} : ∀ (d s e : Nat), e ≤ n → e - s ≤ d → (sl b d s e).Nodup
  | 0, s, e, he, hd => by
    unfold sl
    exact List.nodup_cons.mpr ⟨List.not_mem_nil, List.Pairwise.nil⟩
  | d + 1, s, e, he, hd => by
    unfold sl
    by_cases hes : e ≤ s
    · rw [if_pos hes]
      exact List.nodup_cons.mpr ⟨List.not_mem_nil, List.Pairwise.nil⟩
    rw [if_neg hes]
    obtain ⟨t, ht⟩ : ∃ t, t = e - 1 := ⟨_, rfl⟩
    rw [← ht]
    have fact : ∀ c, c < t - 3 - s → ∀ y, y ∈ (if en_cp b (s + c) t = true then (sl b d s (s + c)).flatMap (fun w1 => (sl b d (s + c + 1) t).flatMap (fun w2 => [sl_cm w1 w2 (s + c) t])) else []) → y t = ((s + c : Nat) : Int) := fun c hc y hy => by
      by_cases hcp : en_cp b (s + c) t = true
      · rw [if_pos hcp] at hy
        obtain ⟨w1, h1, hy⟩ := List.mem_flatMap.mp hy
        obtain ⟨w2, h2, hy⟩ := List.mem_flatMap.mp hy
        rw [List.mem_singleton] at hy
        rw [hy]
        unfold sl_cm
        rw [if_pos rfl]
      · rw [if_neg hcp] at hy
        cases hy
    refine List.nodup_append.mpr ⟨sl_nodup (n := n) d s t (by omega) (by omega), nd_flat _ _ List.nodup_range (fun c hc => ?_) (fun c hc c' hc' y hy hy' => ?_), ?_⟩
    · rw [List.mem_range] at hc
      by_cases hcp : en_cp b (s + c) t = true
      · rw [if_pos hcp]
        refine nd_flat _ _ (sl_nodup (n := n) d s (s + c) (by omega) (by omega)) (fun w1 h1 => nd_flat _ _ (sl_nodup (n := n) d (s + c + 1) t (by omega) (by omega)) (fun w2 _ => List.nodup_cons.mpr ⟨List.not_mem_nil, List.Pairwise.nil⟩) (fun w2 h2 w3 h3 y hy hy' => ?_)) (fun w1 h1 w3 h3 y hy hy' => ?_)
        · rw [List.mem_singleton] at hy hy'
          rw [hy] at hy'
          rw [sl_mem (n := n) d (s + c + 1) t (by omega) (by omega)] at h2 h3
          funext q
          have hq := congrFun hy' q
          unfold sl_cm at hq
          by_cases e1 : s + c + 1 ≤ q ∧ q < t
          · rw [if_neg (by omega), if_neg (by omega), if_neg (by omega), if_neg (by omega), if_neg (by omega), if_neg (by omega)] at hq
            exact hq
          · have k2 : w2 q = -1 := Classical.byContradiction (fun h9 => e1 (h2.2 q h9))
            have k3 : w3 q = -1 := Classical.byContradiction (fun h9 => e1 (h3.2 q h9))
            rw [k2, k3]
        · obtain ⟨w2, h2, hy⟩ := List.mem_flatMap.mp hy
          obtain ⟨w4, h4, hy'⟩ := List.mem_flatMap.mp hy'
          rw [List.mem_singleton] at hy hy'
          rw [hy] at hy'
          rw [sl_mem (n := n) d s (s + c) (by omega) (by omega)] at h1 h3
          funext q
          have hq := congrFun hy' q
          unfold sl_cm at hq
          by_cases e1 : s ≤ q ∧ q < s + c
          · rw [if_neg (by omega), if_neg (by omega), if_pos (by omega), if_neg (by omega), if_neg (by omega), if_pos (by omega)] at hq
            exact hq
          · have k2 : w1 q = -1 := Classical.byContradiction (fun h9 => e1 (h1.2 q h9))
            have k3 : w3 q = -1 := Classical.byContradiction (fun h9 => e1 (h3.2 q h9))
            rw [k2, k3]
      · rw [if_neg hcp]
        exact List.Pairwise.nil
    · rw [List.mem_range] at hc hc'
      have f1 := fact c hc y hy
      have f2 := fact c' hc' y hy'
      omega
    · intro y hy z hz hyz
      subst hyz
      obtain ⟨c, hc, hz⟩ := List.mem_flatMap.mp hz
      rw [List.mem_range] at hc
      have f1 := fact c hc y hz
      rw [sl_mem (n := n) d s t (by omega) (by omega)] at hy
      have := hy.2 t (by omega)
      omega
theorem sl_perm (b : Nat → Nat) (n : Nat) : (sl b n 0 n).Perm (en_all b n) := by
  refine (List.perm_ext_iff_of_nodup (sl_nodup (n := n) n 0 n (Nat.le_refl n) (by omega)) (en_all_nodup b n)).mpr (fun w => ?_)
  rw [en_all_mem, sl_mem (n := n) n 0 n (Nat.le_refl n) (by omega)]
  constructor
  · exact fun h => h.1
  · intro h
    refine ⟨h, fun q hq => ?_⟩
    rcases h.1 q with g | ⟨_, _, g, _, _⟩
    · exact absurd g hq
    · exact ⟨Nat.zero_le q, g⟩

