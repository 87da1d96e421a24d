/-! What a key says; reading a structure's own text gives the structure. -/
theorem mo_key_hi (b : Nat → Nat) {n : Nat} (w : Nat → Int) (hn : n ≤ 18) : mo_key b n w / 68719476736 = st_E b n w := by
  have h := mo_tx_36 w hn
  unfold mo_key
  omega
theorem mo_tx_mul (w : Nat → Int) : ∀ p, p < 18 → ∃ A : Int, mo_tx w p = A * (4 * nl_4 p)
  | 0, _ => ⟨0, by rw [Int.zero_mul]; rfl⟩
  | p + 1, hp => by
    obtain ⟨A, hA⟩ := mo_tx_mul w p (by omega)
    have h4 := (nl_4_step p (by omega)).1
    refine ⟨A * 4 + mo_sg w p, ?_⟩
    show mo_tx w p + (mo_sg w p : Int) * nl_4 p = _
    rw [hA, ← h4, Int.add_mul, ← Int.mul_assoc]
theorem mo_tx_tail (w : Nat → Int) {p : Nat} : ∀ d, p + 1 + d ≤ 18 → mo_tx w (p + 1) ≤ mo_tx w (p + 1 + d) ∧ mo_tx w (p + 1 + d) + nl_4 (p + d) ≤ mo_tx w (p + 1) + nl_4 p
  | 0, _ => ⟨Int.le_refl _, Int.le_refl _⟩
  | d + 1, hd => by
    obtain ⟨h1, h2⟩ := mo_tx_tail w (p := p) d (by omega)
    have h4 := (nl_4_step (p + d) (by omega)).1
    have h5 := nl_4_in (p + d + 1)
    have h3 := mo_sg_le w (p + 1 + d)
    have e : mo_tx w (p + 1 + (d + 1)) = mo_tx w (p + 1 + d) + (mo_sg w (p + 1 + d) : Int) * nl_4 (p + 1 + d) := rfl
    have h6 : (mo_sg w (p + 1 + d) : Int) * nl_4 (p + 1 + d) ≤ 2 * nl_4 (p + 1 + d) := Int.mul_le_mul_of_nonneg_right (by omega) (nl_4_in _).1
    have h7 : 0 ≤ (mo_sg w (p + 1 + d) : Int) * nl_4 (p + 1 + d) := Int.mul_nonneg (by omega) (nl_4_in _).1
    rw [show p + d + 1 = p + 1 + d by omega] at h4 h5
    rw [e, show p + (d + 1) = p + 1 + d by omega]
    omega
theorem nl_4_36 : ∀ p, p < 18 → (68719476736 : Int) = 4 ^ p * (4 * nl_4 p) ∧ 1 ≤ nl_4 p := by decide +kernel
theorem mo_key_at (b : Nat → Nat) {n : Nat} (w : Nat → Int) (hn : n ≤ 18) {p : Nat} (hp : p < n) : mo_key b n w / nl_4 p % 4 = (mo_sg w p : Int) := by
  obtain ⟨A, hA⟩ := mo_tx_mul w p (by omega)
  obtain ⟨h1, h2⟩ := mo_tx_tail w (p := p) (n - (p + 1)) (by omega)
  rw [show p + 1 + (n - (p + 1)) = n by omega] at h1 h2
  obtain ⟨h3, h4⟩ := nl_4_36 p (by omega)
  have h5 := (nl_4_36 (p + (n - (p + 1))) (by omega)).2
  have e : mo_tx w (p + 1) = mo_tx w p + (mo_sg w p : Int) * nl_4 p := rfl
  have hs := mo_sg_le w p
  obtain ⟨B, hB⟩ : ∃ B, B = mo_tx w n - mo_tx w (p + 1) := ⟨_, rfl⟩
  have hk : mo_key b n w = B + ((st_E b n w * 4 ^ p + A) * 4 + (mo_sg w p : Int)) * nl_4 p := by
    have e1 : mo_key b n w = st_E b n w * (4 ^ p * (4 * nl_4 p)) + (B + (A * (4 * nl_4 p) + (mo_sg w p : Int) * nl_4 p)) := by
      unfold mo_key
      rw [← h3, ← hA, ← e, hB]
      omega
    rw [e1, Int.add_mul, Int.add_mul, Int.add_mul, ← Int.mul_assoc, ← Int.mul_assoc (st_E b n w * 4 ^ p), ← Int.mul_assoc A]
    omega
  rw [hk, Int.add_mul_ediv_right _ _ (by omega), Int.ediv_eq_zero_of_lt (by omega) (by omega), Int.zero_add]
  omega
/-- the open places below i of the first p characters of u -/
def ps_ow (u : Nat → Int) (p : Nat) : Nat → List Nat
  | 0 => []
  | i + 1 => if (i : Int) < u i ∧ (p : Int) ≤ u i then i :: ps_ow u p i else ps_ow u p i
def ps_ww (u : Nat → Int) (p : Nat) : Nat → Int := fun q => if q < p ∧ u q < p then u q else -1
theorem ps_ow_skip (u : Nat → Int) (p : Nat) {i : Nat} : ∀ d, (∀ j, i ≤ j → j < i + d → ¬ ((j : Int) < u j ∧ (p : Int) ≤ u j)) → ps_ow u p (i + d) = ps_ow u p i
  | 0, _ => rfl
  | d + 1, h => by
    show (if ((i + d : Nat) : Int) < u (i + d) ∧ (p : Int) ≤ u (i + d) then (i + d) :: ps_ow u p (i + d) else ps_ow u p (i + d)) = _
    rw [if_neg (h (i + d) (by omega) (by omega))]
    exact ps_ow_skip u p d (fun j h1 h2 => h j h1 (by omega))
theorem ps_ow_next (u : Nat → Int) (p : Nat) : ∀ i, (∀ j, j < i → u j ≠ p) → ps_ow u (p + 1) i = ps_ow u p i
  | 0, _ => rfl
  | i + 1, h => by
    have h1 := h i (by omega)
    unfold ps_ow
    rw [ps_ow_next u p i (fun j hj => h j (by omega))]
    by_cases e : (i : Int) < u i ∧ (p : Int) ≤ u i
    · rw [if_pos e, if_pos (by omega)]
    · rw [if_neg e, if_neg (by omega)]
theorem ps_own_step {b : Nat → Nat} {n : Nat} {u : Nat → Int} (hu : en_V b n u) {p : Nat} (hp : p < n) : ps_step b n p (nl_ch (mo_sg u p : Int)) (ps_ww u p, ps_ow u p p) = some (ps_ww u (p + 1), ps_ow u (p + 1) (p + 1)) := by
  obtain ⟨h1, h2, h3⟩ := hu
  have hback : ∀ j : Nat, u j = p → u p = j := fun j hj => by
    rcases h1 j with h4 | ⟨_, _, _, _, h4⟩
    · omega
    · rwa [hj, Int.toNat_natCast] at h4
  unfold ps_step
  rw [if_neg (by omega)]
  by_cases e1 : (p : Int) < u p
  · have hsg : mo_sg u p = 0 := by unfold mo_sg; rw [if_pos e1]
    have hne : ∀ j, j < p → u j ≠ p := fun j hj h => by have := hback j h; omega
    rw [hsg, if_pos (show nl_ch ((0 : Nat) : Int) = 40 from rfl)]
    refine congrArg some (Prod.ext ?_ ?_)
    · funext q
      show ps_ww u p q = ps_ww u (p + 1) q
      unfold ps_ww
      by_cases e2 : q < p
      · have := hne q e2
        by_cases e3 : u q < p
        · rw [if_pos ⟨e2, e3⟩, if_pos (by omega)]
        · rw [if_neg (by omega), if_neg (by omega)]
      · rw [if_neg (by omega)]
        by_cases e4 : q = p
        · subst e4
          rw [if_neg (by omega)]
        · rw [if_neg (by omega)]
    · show p :: ps_ow u p p = (if (p : Int) < u p ∧ ((p + 1 : Nat) : Int) ≤ u p then p :: ps_ow u (p + 1) p else ps_ow u (p + 1) p)
      rw [if_pos ⟨e1, by omega⟩, ps_ow_next u p p hne]
  · by_cases e2 : 0 ≤ u p
    · have hsg : mo_sg u p = 1 := by unfold mo_sg; rw [if_neg e1, if_pos e2]
      obtain ⟨i, hi⟩ : ∃ i : Nat, u p = i := ⟨(u p).toNat, by omega⟩
      have hui : u i = p := by
        rcases h1 p with h4 | ⟨_, _, _, _, h4⟩
        · omega
        · rwa [hi, Int.toNat_natCast] at h4
      have hip : i < p := by
        rcases h1 p with h4 | ⟨_, _, _, h4, _⟩ <;> omega
      have hbt : ∀ j, i < j → j < p → u j < p := fun j hj1 hj2 => by
        rcases h3 i j hj1 (by omega) with h4 | h4 <;> omega
      have hcp : en_cp b i p = true := by
        have := h2 i (by omega)
        rwa [hui, Int.toNat_natCast] at this
      rw [hsg, if_neg (show ¬ nl_ch ((1 : Nat) : Int) = 40 by decide), if_pos (show nl_ch ((1 : Nat) : Int) = 41 from rfl)]
      have e5 : ps_ow u p p = i :: ps_ow u p i := by
        have h9 := ps_ow_skip u p (i := i + 1) (p - (i + 1)) (fun j hj1 hj2 => by have := hbt j (by omega) (by omega); omega)
        rw [show i + 1 + (p - (i + 1)) = p by omega] at h9
        rw [h9]
        show (if (i : Int) < u i ∧ (p : Int) ≤ u i then i :: ps_ow u p i else ps_ow u p i) = _
        rw [if_pos (by omega)]
      have e6 : ps_ow u (p + 1) (p + 1) = ps_ow u p i := by
        have h9 := ps_ow_skip u (p + 1) (i := i) (p + 1 - i) (fun j hj1 hj2 h8 => by
          by_cases e7 : j = i
          · rw [e7] at h8; omega
          · by_cases e8 : j = p
            · rw [e8] at h8; omega
            · have := hbt j (by omega) (by omega)
              omega)
        rw [show i + (p + 1 - i) = p + 1 by omega] at h9
        rw [h9]
        exact ps_ow_next u p i (fun j hj h => by have := hback j h; omega)
      rw [e5, e6]
      show (if en_cp b i p = true then some (en_pr (ps_ww u p) i p, ps_ow u p i) else none) = _
      rw [if_pos hcp]
      refine congrArg some (Prod.ext ?_ rfl)
      funext q
      show en_pr (ps_ww u p) i p q = ps_ww u (p + 1) q
      rw [en_pr_at]
      unfold ps_ww
      by_cases e7 : q = p
      · subst e7
        rw [if_pos rfl, if_pos (by omega), hi]
      · rw [if_neg e7]
        by_cases e8 : q = i
        · subst e8
          rw [if_pos rfl, if_pos (by omega), hui]
        · rw [if_neg e8]
          by_cases e9 : q < p
          · have : u q ≠ p := fun h => by have := hback q h; omega
            by_cases e3 : u q < p
            · rw [if_pos ⟨e9, e3⟩, if_pos (by omega)]
            · rw [if_neg (by omega), if_neg (by omega)]
          · rw [if_neg (by omega), if_neg (by omega)]
    · have hsg : mo_sg u p = 2 := by unfold mo_sg; rw [if_neg e1, if_neg e2]
      have hm : u p = -1 := by rcases h1 p with h4 | h4 <;> omega
      have hne : ∀ j, j < p → u j ≠ p := fun j hj h => by have := hback j h; omega
      rw [hsg, if_neg (show ¬ nl_ch ((2 : Nat) : Int) = 40 by decide), if_neg (show ¬ nl_ch ((2 : Nat) : Int) = 41 by decide), if_pos (show nl_ch ((2 : Nat) : Int) = 46 from rfl)]
      refine congrArg some (Prod.ext ?_ ?_)
      · funext q
        show ps_ww u p q = ps_ww u (p + 1) q
        unfold ps_ww
        by_cases e2 : q < p
        · have := hne q e2
          by_cases e3 : u q < p
          · rw [if_pos ⟨e2, e3⟩, if_pos (by omega)]
          · rw [if_neg (by omega), if_neg (by omega)]
        · rw [if_neg (by omega)]
          by_cases e4 : q = p
          · subst e4
            rw [if_pos (by omega), hm]
          · rw [if_neg (by omega)]
      · show ps_ow u p p = (if (p : Int) < u p ∧ ((p + 1 : Nat) : Int) ≤ u p then p :: ps_ow u (p + 1) p else ps_ow u (p + 1) p)
        rw [if_neg (by omega), ps_ow_next u p p hne]
theorem ps_own {b : Nat → Nat} {n : Nat} {u : Nat → Int} (hu : en_V b n u) {ch : Nat → Int32} (hch : ∀ p, p < n → ch p = nl_ch (mo_sg u p : Int)) : ∀ d p, p + d = n → ps_go b n ch d p (ps_ww u p, ps_ow u p p) = .inr u
  | 0, p, hp => by
    have hp : p = n := by omega
    subst hp
    have hb := mo_bw_V hu
    have e1 : ps_ow u p p = [] := by
      have h9 := ps_ow_skip u p (i := 0) p (fun j _ _ h8 => by have := hb j; omega)
      rw [Nat.zero_add] at h9
      exact h9
    have e2 : ps_ww u p = u := by
      funext q
      unfold ps_ww
      have := hb q
      by_cases e : q < p
      · rw [if_pos ⟨e, this.2⟩]
      · rw [if_neg (by omega)]
        rcases hu.1 q with h4 | h4
        · exact h4.symm
        · omega
    unfold ps_go
    rw [if_pos ⟨rfl, e1⟩]
    exact congrArg Sum.inr e2
  | d + 1, p, hp => by
    have hs := ps_own_step hu (show p < n by omega)
    rw [← hch p (by omega)] at hs
    rw [ps_go_some hs]
    exact ps_own hu hch d (p + 1) (by omega)
theorem ps_own_res {b : Nat → Nat} {n : Nat} {u : Nat → Int} (hu : en_V b n u) {ch : Nat → Int32} (hch : ∀ p, p < n → ch p = nl_ch (mo_sg u p : Int)) : ps_res b n ch n = .inr u := by
  have h := ps_own hu hch n 0 (by omega)
  have e : ps_ww u 0 = fun _ => -1 := by
    funext q
    unfold ps_ww
    rw [if_neg (by omega)]
  rw [e] at h
  exact h

