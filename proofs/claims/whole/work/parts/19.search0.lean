/-! The search of FoldedStrand$NearList as lists: all ways to fill the open regions, with their energies and texts; a call of void with a postcondition. -/
theorem jl_callVV {x : jl_X} {N : Nat} {ad : Nat → Nat} {K : Nat → ClassId} {sa : Nat → Nat} {cells slots : Nat} {cc : ByteArray} {own : String} {n : Nat} {E : Nat → va_E} {pc : Nat} {lc : List (Nat × Value)} {st : List Value} {post : (Nat → va_E) → Prop} (h : jl_ok x N ad K sa cc own n) {fr lo fr2 lo2 : Nat} (hr : jl_r x fr lo cells slots) {y : MethodName} {cc2 : ByteArray} {nL2 : Nat} {ret2 : Option FieldType} {index na : Nat} (hv : jl_v own index y cc2 nL2 ret2 na) (hin : Cond.instanceMethod y ∈ jl_T) (hsel : Cond.selects y.cls y y ∈ jl_T) {k ci : Nat} {T : u_T} {M : Nat} {fs : List Value} (hc : jl_cl[ci]? = some (y.cls, T, M)) (hk : k < N) (hE : E k = .inr (ci, fs)) {As rest : List Value}
    (hC : ∀ l, jl_CP l K sa y cc2 nL2 ret2 fr2 lo2 N ad (.ref (ad k) :: As) E (fun v E2 => v = none ∧ post E2)) (hfr : fr2 + 1 ≤ fr) (hlo : 8 + (nL2 + 11) + lo2 ≤ lo) (hn : As.length = na) (hst : st = As.reverse ++ .ref (ad k) :: rest) (hW : (rest.map fun v => v.category).sum ≤ 8) (hd : decode cc pc = .ok (.invokevirtual index, 3))
    (pc2 : Nat) (hpc : pc + 3 = pc2) (kk : ∀ E2, post E2 → jl_J x N ad cells slots E2 pc2 lc rest) : jl_J x N ad cells slots E pc lc st := by
  refine jl_callVP h hr hv hin hsel hc hk hE hC hfr hlo hn hst hW hd pc2 hpc ?_
  rintro v E2 ⟨rfl, hp⟩
  exact kk E2 hp
def nl_F (b : Nat → Nat) : Nat → Option (Nat × Nat) → List (Nat × Nat × Nat) → Int → Int → List (Int × Int)
  | 0, _, _, _, _ => []
  | _ + 1, none, [], x, t => [(x, t)]
  | d + 1, none, (r, s, e) :: rest, x, t => (if r < 2 then nl_F b d none rest (x + fo_pp r * ((e : Int) - s)) t else []) ++ (List.range (e - s - 4)).flatMap (fun c => (List.range (e - 1 - c - 3 - s)).flatMap (fun c2 => if en_cp b (s + c2) (e - 1 - c) = true then nl_F b d (some (s + c2, e - 1 - c)) ((fo_af r, s, s + c2) :: rest) (x + fo_pp r * ((c : Nat) : Int) + (fo_pq r + lp_wk b (s + c2) (e - 1 - c) 5)) (t - nl_dt (s + c2) (e - 1 - c)) else []))
  | d + 1, some (i, j), regs, x, t => nl_F b d none regs (x + lp_hp b i j) t ++ ((List.range (j - i - 5)).flatMap (fun c => (List.range (j - 1 - c - 4 - i)).flatMap (fun c2 => if en_cp b (i + 1 + c2) (j - 1 - c) = true then nl_F b d (some (i + 1 + c2, j - 1 - c)) regs (x + lp_w1 b i j (i + 1 + c2) (j - 1 - c)) (t - nl_dt (i + 1 + c2) (j - 1 - c)) else [])) ++ nl_F b d none ((3, i + 1, j) :: regs) (x + (38 + lp_wk b i j 5)) t)
/-- one of them comes to the list, if its energy is within the limit -/
def nl_put (lim : Int) (ac : List Int × Bool) (c : Int × Int) : List Int × Bool := if ac.2 = true ∨ lim < c.1 then ac else if 150 ≤ ac.1.length then (ac.1, true) else (nl_ins (c.1 * 68719476736 + c.2) ac.1, false)
def nl_run (lim : Int) (ac : List Int × Bool) (cs : List (Int × Int)) : List Int × Bool := cs.foldl (nl_put lim) ac
theorem nl_run_app (lim : Int) (ac : List Int × Bool) (a c : List (Int × Int)) : nl_run lim ac (a ++ c) = nl_run lim (nl_run lim ac a) c := List.foldl_append
theorem nl_run_nil (lim : Int) (ac : List Int × Bool) : nl_run lim ac [] = ac := rfl
theorem nl_run_tm (lim : Int) (ac : List Int × Bool) (h : ac.2 = true) : ∀ cs, nl_run lim ac cs = ac
  | [] => rfl
  | c :: cs => by
    show nl_run lim (nl_put lim ac c) cs = ac
    have e : nl_put lim ac c = ac := by unfold nl_put; rw [if_pos (Or.inl h)]
    rw [e]
    exact nl_run_tm lim ac h cs
theorem nl_run_gt (lim : Int) (ac : List Int × Bool) : ∀ cs : List (Int × Int), (∀ c ∈ cs, lim < c.1) → nl_run lim ac cs = ac
  | [], _ => rfl
  | c :: cs, h => by
    show nl_run lim (nl_put lim ac c) cs = ac
    have e : nl_put lim ac c = ac := by unfold nl_put; rw [if_pos (Or.inr (h c List.mem_cons_self))]
    rw [e]
    exact nl_run_gt lim ac cs (fun c hc => h c (List.mem_cons_of_mem _ hc))
theorem nl_range_flat {α : Type} (f : Nat → List α) (c : Nat) : (List.range (c + 1)).flatMap f = (List.range c).flatMap f ++ f c := by
  rw [List.range_succ, List.flatMap_append]
  simp
/-- the least energies of the open regions -/
def nl_sum (T : Nat → Nat → Nat → Int) : List (Nat × Nat × Nat) → Int
  | [] => 0
  | (r, s, e) :: rest => T (2 + r) s e + nl_sum T rest
def nl_mu : List (Nat × Nat × Nat) → Nat
  | [] => 0
  | (_, s, e) :: rest => 2 * (e - s) + 1 + nl_mu rest
theorem nl_mu_len : ∀ regs : List (Nat × Nat × Nat), regs.length ≤ nl_mu regs
  | [] => Nat.le_refl 0
  | (_, s, e) :: rest => by
    have := nl_mu_len rest
    unfold nl_mu
    rw [List.length_cons]
    omega
def nl_W (n : Nat) (regs : List (Nat × Nat × Nat)) : Prop := ∀ q ∈ regs, q.1 < 4 ∧ q.2.1 ≤ q.2.2 ∧ q.2.2 ≤ n
/-- the tables are lower bounds -/
def nl_LB (b : Nat → Nat) (n : Nat) (pe : Nat → Nat → Int) (T : Nat → Nat → Nat → Int) : Prop :=
  (∀ r s e : Nat, r < 2 → s ≤ e → e ≤ n → T (2 + r) s e ≤ fo_pp r * ((e : Int) - s)) ∧
  (∀ r s i j e : Nat, r < 4 → s ≤ i → j < e → e ≤ n → en_cp b i j = true → T (2 + r) s e ≤ fo_pp r * ((e : Int) - 1 - j) + T (2 + fo_af r) s i + (fo_pq r + lp_wk b i j 5 + pe i j)) ∧
  (∀ i j : Nat, j < n → en_cp b i j = true → pe i j ≤ lp_hp b i j ∧ pe i j ≤ 38 + lp_wk b i j 5 + T 5 (i + 1) j ∧ ∀ k m : Nat, i < k → m < j → en_cp b k m = true → pe i j ≤ lp_w1 b i j k m + pe k m)
theorem en_cp_4 {b : Nat → Nat} {i j : Nat} (h : en_cp b i j = true) : i + 4 ≤ j ∧ 0 ≤ en_kd (b i) (b j) := by
  unfold en_cp at h
  simpa only [Bool.and_eq_true, decide_eq_true_eq] using h
theorem fo_af_lt {r : Nat} (h : r < 4) : fo_af r < 4 := by
  unfold fo_af
  split <;> omega
theorem nl_lb {b : Nat → Nat} {n : Nat} {pe : Nat → Nat → Int} {T : Nat → Nat → Nat → Int} (hLB : nl_LB b n pe T) : ∀ (d : Nat) (p : Option (Nat × Nat)) (regs : List (Nat × Nat × Nat)) (x t : Int), nl_W n regs → (∀ i j, p = some (i, j) → en_cp b i j = true ∧ j < n) → ∀ c ∈ nl_F b d p regs x t, x + (match p with | none => 0 | some (i, j) => pe i j) + nl_sum T regs ≤ c.1
  | 0, _, _, _, _, _, _, c, hc => by simp [nl_F] at hc
  | d + 1, none, [], x, t, _, _, c, hc => by
    simp only [nl_F, List.mem_singleton] at hc
    subst hc
    show x + 0 + 0 ≤ x
    omega
  | d + 1, none, (r, s, e) :: rest, x, t, hW, _, c, hc => by
    have hw : r < 4 ∧ s ≤ e ∧ e ≤ n := hW (r, s, e) List.mem_cons_self
    have hWr : nl_W n rest := fun q hq => hW q (List.mem_cons_of_mem _ hq)
    show x + 0 + (T (2 + r) s e + nl_sum T rest) ≤ c.1
    simp only [nl_F, List.mem_append] at hc
    rcases hc with hc | hc
    · by_cases hr : r < 2
      · rw [if_pos hr] at hc
        have h1 := nl_lb hLB d none rest _ _ hWr (fun i j h => by cases h) c hc
        have h2 := hLB.1 r s e hr hw.2.1 hw.2.2
        have h3 : x + fo_pp r * ((e : Int) - s) + 0 + nl_sum T rest ≤ c.1 := h1
        omega
      · rw [if_neg hr] at hc
        simp at hc
    · obtain ⟨c1, hc1, hc⟩ := List.mem_flatMap.mp hc
      obtain ⟨c2, hc2, hc⟩ := List.mem_flatMap.mp hc
      rw [List.mem_range] at hc1 hc2
      by_cases hcp : en_cp b (s + c2) (e - 1 - c1) = true
      · rw [if_pos hcp] at hc
        have h4 := (en_cp_4 hcp).1
        have h1 := nl_lb hLB d (some (s + c2, e - 1 - c1)) ((fo_af r, s, s + c2) :: rest) _ _ (fun q hq => by
          rcases List.mem_cons.mp hq with rfl | hq
          · exact ⟨fo_af_lt hw.1, by show s ≤ s + c2; omega, by show s + c2 ≤ n; omega⟩
          · exact hWr q hq) (fun i j h => by cases h; exact ⟨hcp, by omega⟩) c hc
        have h2 := hLB.2.1 r s (s + c2) (e - 1 - c1) e hw.1 (by omega) (by omega) hw.2.2 hcp
        have h3 : x + fo_pp r * ((c1 : Nat) : Int) + (fo_pq r + lp_wk b (s + c2) (e - 1 - c1) 5) + pe (s + c2) (e - 1 - c1) + (T (2 + fo_af r) s (s + c2) + nl_sum T rest) ≤ c.1 := h1
        have h5 : ((e : Int) - 1 - ((e - 1 - c1 : Nat) : Int)) = ((c1 : Nat) : Int) := by omega
        rw [h5] at h2
        omega
      · rw [if_neg hcp] at hc
        simp at hc
  | d + 1, some (i, j), regs, x, t, hW, hp, c, hc => by
    obtain ⟨hcp, hjn⟩ := hp i j rfl
    have h4 := (en_cp_4 hcp).1
    obtain ⟨b1, b2, b3⟩ := hLB.2.2 i j hjn hcp
    show x + pe i j + nl_sum T regs ≤ c.1
    simp only [nl_F, List.mem_append] at hc
    rcases hc with hc | hc | hc
    · have h1 : x + lp_hp b i j + 0 + nl_sum T regs ≤ c.1 := nl_lb hLB d none regs _ _ hW (fun i j h => by cases h) c hc
      omega
    · obtain ⟨c1, hc1, hc⟩ := List.mem_flatMap.mp hc
      obtain ⟨c2, hc2, hc⟩ := List.mem_flatMap.mp hc
      rw [List.mem_range] at hc1 hc2
      by_cases hcp2 : en_cp b (i + 1 + c2) (j - 1 - c1) = true
      · rw [if_pos hcp2] at hc
        have h1 : x + lp_w1 b i j (i + 1 + c2) (j - 1 - c1) + pe (i + 1 + c2) (j - 1 - c1) + nl_sum T regs ≤ c.1 := nl_lb hLB d (some (i + 1 + c2, j - 1 - c1)) regs _ _ hW (fun i j h => by cases h; exact ⟨hcp2, by omega⟩) c hc
        have h2 := b3 (i + 1 + c2) (j - 1 - c1) (by omega) (by omega) hcp2
        omega
      · rw [if_neg hcp2] at hc
        simp at hc
    · have h1 : x + (38 + lp_wk b i j 5) + 0 + (T (2 + 3) (i + 1) j + nl_sum T regs) ≤ c.1 := nl_lb hLB d none ((3, i + 1, j) :: regs) _ _ (fun q hq => by
        rcases List.mem_cons.mp hq with rfl | hq
        · exact ⟨by show 3 < 4; decide, by show i + 1 ≤ j; omega, by show j ≤ n; omega⟩
        · exact hW q hq) (fun i j h => by cases h) c hc
      have h2 : T (2 + 3) (i + 1) j = T 5 (i + 1) j := rfl
      omega

