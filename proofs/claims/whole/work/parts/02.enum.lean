/-! Structures as partner functions (-1: none), and the enumeration that goes from one to the next: pure. -/
def en_kt : List Int := [-1, -1, -1, 4, -1, -1, 0, -1, -1, 1, -1, 2, 5, -1, 3, -1]
/-- the kind of two bases (A C G U are 0 1 2 3), or -1 -/
def en_kd (a c : Nat) : Int := en_kt.getD (a * 4 + c) (-1)
def en_cp (b : Nat → Nat) (i j : Nat) : Bool := decide (i + 4 ≤ j) && decide (0 ≤ en_kd (b i) (b j))
def en_up (w : Nat → Int) (k : Nat) (v : Int) : Nat → Int := fun j => if j = k then v else w j
theorem en_up_self {w : Nat → Int} {k : Nat} {v : Int} : en_up w k v k = v := by simp [en_up]
theorem en_up_ne {w : Nat → Int} {k j : Nat} {v : Int} (h : j ≠ k) : en_up w k v j = w j := by simp [en_up, h]
/-- the pair i, j comes to w -/
def en_pr (w : Nat → Int) (i j : Nat) : Nat → Int := en_up (en_up w i j) j i
/-- up to where place i may reach: the nearest end of a pair that began before it -/
def en_bd (n : Nat) (w : Nat → Int) (i : Nat) : Nat → Int
  | 0 => n
  | p + 1 => if (i : Int) < w p ∧ w p < en_bd n w i p then w p else en_bd n w i p
/-- the places from j0 on, below e, that i can pair with -/
def en_fe (b : Nat → Nat) (i j0 e : Nat) : List Nat := (List.range' j0 (e - j0)).filter (en_cp b i)
def en_adv (b : Nat → Nat) (n i : Nat) (w : Nat → Int) : Bool × (Nat → Int) :=
  if 0 ≤ w i ∧ w i < i then (false, w)
  else
    let w2 := en_up (if 0 ≤ w i then en_up w (w i).toNat (-1) else w) i (-1)
    match en_fe b i (if w i < 0 then i + 4 else (w i).toNat + 1) (en_bd n w2 i i).toNat with
    | [] => (false, w2)
    | j :: _ => (true, en_pr w2 i j)
/-- the places from i on, the last one first -/
def en_nf (b : Nat → Nat) (n : Nat) : Nat → Nat → (Nat → Int) → Bool × (Nat → Int)
  | 0, _, w => (false, w)
  | k + 1, i, w => if (en_nf b n k (i + 1) w).1 = true then en_nf b n k (i + 1) w else en_adv b n i (en_nf b n k (i + 1) w).2
/-- the same as a loop downwards -/
def en_dn (b : Nat → Nat) (n : Nat) : Nat → (Nat → Int) → Bool × (Nat → Int)
  | 0, w => (false, w)
  | i + 1, w => if (en_adv b n i w).1 = true then en_adv b n i w else en_dn b n i (en_adv b n i w).2
theorem en_dn_nf (b : Nat → Nat) (n : Nat) : ∀ (k i : Nat) (w : Nat → Int), en_dn b n (i + k) w = if (en_nf b n k i w).1 = true then en_nf b n k i w else en_dn b n i (en_nf b n k i w).2
  | 0, i, w => by simp [en_nf]
  | k + 1, i, w => by
    have ih := en_dn_nf b n k (i + 1) w
    rw [show i + (k + 1) = i + 1 + k by omega, ih]
    by_cases h : (en_nf b n k (i + 1) w).1 = true
    · simp [en_nf, h]
    · by_cases h2 : (en_adv b n i (en_nf b n k (i + 1) w).2).1 = true
      · simp [en_nf, en_dn, h, h2]
      · simp [en_nf, en_dn, h, h2]
theorem en_dn_all (b : Nat → Nat) (n : Nat) (w : Nat → Int) : en_dn b n n w = en_nf b n n 0 w := by
  have h := en_dn_nf b n n 0 w
  rw [Nat.zero_add] at h
  rw [h]
  by_cases h1 : (en_nf b n n 0 w).1 = true
  · simp [h1]
  · have : en_nf b n n 0 w = (false, (en_nf b n n 0 w).2) := by
      cases hq : en_nf b n n 0 w with
      | mk x y => rw [hq] at h1; simp at h1; simp [h1]
    simp only [h1, en_dn]
    exact this.symm
/-- all structures whose pairs that begin before i are those of w0 -/
def en_L (b : Nat → Nat) (n : Nat) : Nat → Nat → (Nat → Int) → List (Nat → Int)
  | 0, _, w0 => [w0]
  | k + 1, i, w0 => if 0 ≤ w0 i then en_L b n k (i + 1) w0 else en_L b n k (i + 1) w0 ++ (en_fe b i (i + 4) (en_bd n w0 i i).toNat).flatMap (fun j => en_L b n k (i + 1) (en_pr w0 i j))
/-- f goes through the list, and then comes to w0 with false -/
def en_Ch (f : (Nat → Int) → Bool × (Nat → Int)) (w0 : Nat → Int) : List (Nat → Int) → Prop
  | [] => False
  | [a] => f a = (false, w0)
  | a :: c :: l => f a = (true, c) ∧ en_Ch f w0 (c :: l)
/-- no pair begins at i or later -/
def en_Fr (i : Nat) (w : Nat → Int) : Prop := ∀ p : Nat, i ≤ p → w p = -1 ∨ (0 ≤ w p ∧ w p < i)
/-- partners are mutual, and below n -/
def en_V1 (n : Nat) (w : Nat → Int) : Prop := ∀ p : Nat, w p = -1 ∨ (0 ≤ w p ∧ w p < n ∧ p < n ∧ w p ≠ p ∧ w (w p).toNat = p)
theorem en_bd_le (n : Nat) (w : Nat → Int) (i : Nat) : ∀ k, en_bd n w i k ≤ n
  | 0 => by simp [en_bd]
  | k + 1 => by
    have ih := en_bd_le n w i k
    unfold en_bd
    split <;> omega
theorem en_bd_lt (n : Nat) (w : Nat → Int) (i : Nat) : ∀ k p : Nat, p < k → (i : Int) < w p → en_bd n w i k ≤ w p
  | k + 1, p, h, hp => by
    unfold en_bd
    by_cases hk : p = k
    · subst hk
      split <;> omega
    · have ih := en_bd_lt n w i k p (by omega) hp
      split <;> omega
theorem en_bd_gt (n : Nat) (w : Nat → Int) (i j : Nat) (hj : j < n) : ∀ k, (∀ p : Nat, p < k → (i : Int) < w p → (j : Int) < w p) → (j : Int) < en_bd n w i k
  | 0, _ => by simp [en_bd]; omega
  | k + 1, h => by
    have ih := en_bd_gt n w i j hj k (fun p hp => h p (by omega))
    unfold en_bd
    split
    · rename_i hc
      exact h k (by omega) hc.1
    · exact ih
theorem en_bd_pos (n : Nat) (w : Nat → Int) (i : Nat) : ∀ k, 0 ≤ en_bd n w i k
  | 0 => by simp [en_bd]
  | k + 1 => by
    have ih := en_bd_pos n w i k
    unfold en_bd
    split <;> omega
theorem en_mem_fe {b : Nat → Nat} {i j0 e j : Nat} : j ∈ en_fe b i j0 e ↔ (j0 ≤ j ∧ j < e) ∧ en_cp b i j = true := by
  unfold en_fe
  rw [List.mem_filter, List.mem_range']
  constructor
  · rintro ⟨⟨t, h1, h2⟩, h3⟩
    exact ⟨by omega, h3⟩
  · rintro ⟨h1, h2⟩
    exact ⟨⟨j - j0, by omega, by omega⟩, h2⟩
/-- behind its first element such a list is such a list -/
theorem en_fe_next {b : Nat → Nat} {i e j : Nat} {js : List Nat} : ∀ (d j0 : Nat), e - j0 = d → en_fe b i j0 e = j :: js → en_fe b i (j + 1) e = js
  | 0, j0, hd, h => by
    unfold en_fe at h
    rw [hd] at h
    simp at h
  | d + 1, j0, hd, h => by
    unfold en_fe at h
    rw [hd, List.range'_succ] at h
    rw [List.filter_cons] at h
    split at h
    · have h1 := (List.cons.inj h).1
      have h2 := (List.cons.inj h).2
      subst h1
      unfold en_fe
      rw [show e - (j0 + 1) = d by omega]
      exact h2
    · refine en_fe_next d (j0 + 1) (by omega) ?_
      unfold en_fe
      rw [show e - (j0 + 1) = d by omega]
      exact h
theorem en_pr_at {w : Nat → Int} {i j : Nat} (p : Nat) : en_pr w i j p = if p = j then (i : Int) else if p = i then (j : Int) else w p := by
  unfold en_pr en_up
  rfl
/-- a pair that came and goes again -/
theorem en_pr_undo {w : Nat → Int} {i j : Nat} (hij : i < j) (hi : w i = -1) (hj : w j = -1) : en_up (en_up (en_pr w i j) j (-1)) i (-1) = w := by
  funext p
  simp only [en_up, en_pr_at]
  by_cases h1 : p = i
  · subst h1; simp [hi]
  · by_cases h2 : p = j
    · subst h2; simp [h1, hj]
    · simp [h1, h2]
theorem en_up_same {w : Nat → Int} {i : Nat} {v : Int} (h : w i = v) : en_up w i v = w := by
  funext p
  unfold en_up
  split
  · rename_i hp
    rw [hp, h]
  · rfl
theorem en_L_head (b : Nat → Nat) (n : Nat) : ∀ (k i : Nat) (w0 : Nat → Int), ∃ l, en_L b n k i w0 = w0 :: l
  | 0, _, w0 => ⟨[], rfl⟩
  | k + 1, i, w0 => by
    obtain ⟨l, hl⟩ := en_L_head b n k (i + 1) w0
    unfold en_L
    split
    · exact ⟨l, hl⟩
    · rw [hl]
      exact ⟨_, rfl⟩
theorem en_Ch_last {f g : (Nat → Int) → Bool × (Nat → Int)} {u w0 : Nat → Int} (hf : ∀ a c, g a = (true, c) → f a = (true, c)) (he : ∀ a, g a = (false, u) → f a = (false, w0)) : ∀ l, en_Ch g u l → en_Ch f w0 l
  | [], h => h
  | [a], h => he a h
  | a :: c :: l, h => ⟨hf a c h.1, en_Ch_last hf he (c :: l) h.2⟩
theorem en_Ch_app {f g : (Nat → Int) → Bool × (Nat → Int)} {u v w0 : Nat → Int} {l2 : List (Nat → Int)} (hf : ∀ a c, g a = (true, c) → f a = (true, c)) (he : ∀ a, g a = (false, u) → f a = (true, v)) (h2 : en_Ch f w0 (v :: l2)) : ∀ l, en_Ch g u l → en_Ch f w0 (l ++ (v :: l2))
  | [], h => h.elim
  | [a], h => ⟨he a h, h2⟩
  | a :: c :: l, h => ⟨hf a c h.1, en_Ch_app hf he h2 (c :: l) h.2⟩
theorem en_V1_pr {n : Nat} {w : Nat → Int} {i j : Nat} (h : en_V1 n w) (hij : i < j) (hj : j < n) (h1 : w i = -1) (h2 : w j = -1) : en_V1 n (en_pr w i j) := by
  intro p
  rw [en_pr_at]
  by_cases hpj : p = j
  · subst hpj
    right
    rw [if_pos rfl]
    refine ⟨by omega, by omega, hj, by omega, ?_⟩
    rw [Int.toNat_natCast, en_pr_at, if_neg (by omega), if_pos rfl]
  · rw [if_neg hpj]
    by_cases hpi : p = i
    · subst hpi
      right
      rw [if_pos rfl]
      refine ⟨by omega, by omega, by omega, by omega, ?_⟩
      rw [Int.toNat_natCast, en_pr_at, if_pos rfl]
    · rw [if_neg hpi]
      rcases h p with hp | ⟨a1, a2, a3, a4, a5⟩
      · exact Or.inl hp
      · right
        refine ⟨a1, a2, a3, a4, ?_⟩
        rw [en_pr_at, if_neg, if_neg]
        · exact a5
        · intro hq
          rw [hq, h1] at a5
          omega
        · intro hq
          rw [hq, h2] at a5
          omega
/-- a place between i and the bound is free -/
theorem en_free {n : Nat} {w : Nat → Int} {i j : Nat} (h : en_V1 n w) (hF : en_Fr i w) (hij : i < j) (hj : (j : Int) < en_bd n w i i) : w j = -1 := by
  rcases hF j (by omega) with h1 | ⟨h1, h2⟩
  · exact h1
  · rcases h j with h3 | ⟨a1, a2, a3, a4, a5⟩
    · exact h3
    · have := en_bd_lt n w i i (w j).toNat (by omega) (by rw [a5]; omega)
      rw [a5] at this
      omega
theorem en_Fr_pr {w : Nat → Int} {i j : Nat} (hF : en_Fr i w) (hij : i < j) : en_Fr (i + 1) (en_pr w i j) := by
  intro p hp
  rw [en_pr_at]
  by_cases h1 : p = j
  · right
    rw [if_pos h1]
    omega
  · rw [if_neg h1, if_neg (by omega)]
    rcases hF p (by omega) with h2 | h2
    · exact Or.inl h2
    · right
      omega
/-- from the first to the last: 'next' goes through the list -/
theorem en_chain (b : Nat → Nat) (n : Nat) : ∀ (k i : Nat) (w0 : Nat → Int), i + k = n → en_V1 n w0 → en_Fr i w0 → en_Ch (en_nf b n k i) w0 (en_L b n k i w0)
  | 0, i, w0, _, _, _ => rfl
  | k + 1, i, w0, hn, hV, hF => by
    have hf : ∀ a c, en_nf b n k (i + 1) a = (true, c) → en_nf b n (k + 1) i a = (true, c) := by
      intro a c h
      simp [en_nf, h]
    have hF1 : en_Fr (i + 1) w0 := by
      intro p hp
      rcases hF p (by omega) with h | h
      · exact Or.inl h
      · exact Or.inr (by omega)
    have ih0 := en_chain b n k (i + 1) w0 (by omega) hV hF1
    unfold en_L
    by_cases hc : 0 ≤ w0 i
    · rw [if_pos hc]
      refine en_Ch_last hf (fun a h => ?_) _ ih0
      have hlt : w0 i < i := by
        rcases hF i (Nat.le_refl i) with h1 | h1
        · omega
        · exact h1.2
      simp [en_nf, h, en_adv, hc, hlt]
    · rw [if_neg hc]
      have hw : w0 i = -1 := by
        rcases hF i (Nat.le_refl i) with h1 | h1
        · exact h1
        · omega
      -- the blocks from j0 on
      have blocks : ∀ (js : List Nat) (u : Nat → Int) (lu : List (Nat → Int)) (j0 : Nat), i + 4 ≤ j0 → en_fe b i j0 (en_bd n w0 i i).toNat = js → en_Ch (en_nf b n k (i + 1)) u lu →
          (∀ a, en_nf b n k (i + 1) a = (false, u) → en_nf b n (k + 1) i a = match js with | [] => (false, w0) | j :: _ => (true, en_pr w0 i j)) →
          en_Ch (en_nf b n (k + 1) i) w0 (lu ++ js.flatMap (fun j => en_L b n k (i + 1) (en_pr w0 i j))) := by
        intro js
        induction js with
        | nil =>
          intro u lu j0 _ hfe hlu hstep
          rw [List.flatMap_nil, List.append_nil]
          exact en_Ch_last hf hstep _ hlu
        | cons j js ih =>
          intro u lu j0 hj0 hfe hlu hstep
          have hmem : j ∈ en_fe b i j0 (en_bd n w0 i i).toNat := by rw [hfe]; exact List.mem_cons_self
          obtain ⟨⟨m1, m2⟩, m3⟩ := en_mem_fe.mp hmem
          have hbn := en_bd_le n w0 i i
          have hbp := en_bd_pos n w0 i i
          have hjb : (j : Int) < en_bd n w0 i i := by omega
          have hjfree : w0 j = -1 := en_free hV hF (by omega) hjb
          have hV2 : en_V1 n (en_pr w0 i j) := en_V1_pr hV (by omega) (by omega) hw hjfree
          have hF2 : en_Fr (i + 1) (en_pr w0 i j) := en_Fr_pr hF (by omega)
          have ih2 := en_chain b n k (i + 1) (en_pr w0 i j) (by omega) hV2 hF2
          have hnext := en_fe_next _ j0 rfl hfe
          have := ih (en_pr w0 i j) (en_L b n k (i + 1) (en_pr w0 i j)) (j + 1) (by omega) hnext ih2 (by
            intro a ha
            have e1 : en_pr w0 i j i = (j : Int) := by rw [en_pr_at, if_neg (by omega), if_pos rfl]
            have e2 : ¬ (0 ≤ en_pr w0 i j i ∧ en_pr w0 i j i < (i : Int)) := by rw [e1]; omega
            simp only [en_nf, ha]
            rw [if_neg (by simp)]
            unfold en_adv
            rw [if_neg e2]
            have e3 : ¬ ((j : Nat) : Int) < 0 := by omega
            have e4 : (0 : Int) ≤ ((j : Nat) : Int) := by omega
            simp only [e1, e3, e4, if_true, if_false, Int.toNat_natCast, en_pr_undo (show i < j by omega) hw hjfree, hnext])
          rw [List.flatMap_cons]
          obtain ⟨l, hl⟩ := en_L_head b n k (i + 1) (en_pr w0 i j)
          rw [hl] at this ⊢
          exact en_Ch_app hf hstep this _ hlu
      refine blocks _ w0 _ (i + 4) (Nat.le_refl _) rfl ih0 (fun a ha => ?_)
      simp only [en_nf, ha]
      rw [if_neg (by simp)]
      unfold en_adv
      have e2 : ¬ (0 ≤ w0 i ∧ w0 i < (i : Int)) := by omega
      rw [if_neg e2]
      have e3 : w0 i < 0 := by omega
      simp only [hc, e3, if_true, if_false, en_up_same hw]
