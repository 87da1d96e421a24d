/-! FoldedStrand$Folds.extend: the tables grow by a column. T 0: counts, T 1: most pairs, T (2 + r): least energies of region r. -/
def fo_b (q : Nat) : Nat := if q = 0 then 25 else if q = 1 then 45 else 66 + 21 * (q - 2)
theorem fo_b_inj {q m k d : Nat} (hq : q < 6) (hm : m < 6) (hk : k < 19) (hd : d < 19) (h : fo_b q + k = fo_b m + d) : q = m ∧ k = d := by
  unfold fo_b at h
  split at h <;> split at h <;> (try split at h) <;> (try split at h) <;> omega
/-- the tables with column n: the pairs that end at n, then the parts that end there -/
def fo_pe (b : Nat → Nat) (n : Nat) (pe : Nat → Nat → Int) (T : Nat → Nat → Nat → Int) : Nat → Nat → Int := fun i j => if j = n then (if en_cp b i n = true then fo_oK b pe (fun r => T (2 + r)) i n (n - i - 5) else 1000000) else pe i j
def fo_col (b : Nat → Nat) (n : Nat) (pe : Nat → Nat → Int) (T : Nat → Nat → Nat → Int) (q s : Nat) : Int := if q = 0 then fo_cK b (T 0) s n (n - 3 - s) else if q = 1 then fo_pK b (T 1) s n (n - 3 - s) else fo_rK b (q - 2) pe (fun r => T (2 + r)) s n (n - 3 - s)
def fo_T (b : Nat → Nat) (n : Nat) (pe : Nat → Nat → Int) (T : Nat → Nat → Nat → Int) : Nat → Nat → Nat → Int := fun q s e => if s ≤ n ∧ e = n + 1 then fo_col b n (fo_pe b n pe T) T q s else T q s e
/-- what the arrays hold: the pairs' table up to column n, the others' -/
def fo_V (n : Nat) (pe : Nat → Nat → Int) (T : Nat → Nat → Nat → Int) (V : Nat → Nat → Int32) : Prop := (∀ i j, i ≤ j → j < n → V (6 + i) j = iI (pe i j)) ∧ ∀ q, q < 6 → ∀ i e, i ≤ e → (e ≤ n ∨ (i = e ∧ e ≤ 18)) → V (fo_b q + i) e = iI (T q i e)
/-- bounds: 17 for each place -/
def fo_B (n : Nat) (pe : Nat → Nat → Int) (T : Nat → Nat → Nat → Int) : Prop := (∀ i j : Nat, i ≤ j → j < n → -17 * ((j : Int) - i + 1) ≤ pe i j ∧ pe i j ≤ 1000000) ∧ (∀ i e : Nat, i ≤ e → (e ≤ n ∨ (i = e ∧ e ≤ 18)) → 0 ≤ T 1 i e ∧ T 1 i e ≤ (e : Int) - i) ∧ ∀ r, r < 4 → ∀ i e : Nat, i ≤ e → (e ≤ n ∨ (i = e ∧ e ≤ 18)) → -17 * ((e : Int) - i) ≤ T (2 + r) i e ∧ T (2 + r) i e ≤ 1000000 + ((e : Int) - i)
theorem fo_iK_lo {b : Nat → Nat} {pe : Nat → Nat → Int} {i j m : Nat} {z : Int} (hz : -17 * ((j : Int) - i + 1) ≤ z) (hj : j < 18) (hm : m < j) (hp : ∀ k : Nat, i < k → k ≤ m → -17 * ((m : Int) - k + 1) ≤ pe k m) : ∀ c : Nat, i + c ≤ m → -17 * ((j : Int) - i + 1) ≤ fo_iK b pe i j m z c ∧ fo_iK b pe i j m z c ≤ z
  | 0, _ => ⟨hz, Int.le_refl _⟩
  | c + 1, hc => by
    have ih := fo_iK_lo (b := b) hz hj hm hp c (by omega)
    unfold fo_iK
    split
    · have h1 := lp_w1_in b i j (i + 1 + c) m hj (by omega)
      have h2 := hp (i + 1 + c) (by omega) (by omega)
      unfold fo_mi
      split <;> omega
    · exact ih
theorem fo_oK_lo {b : Nat → Nat} {pe : Nat → Nat → Int} {rg : Nat → Nat → Nat → Int} {i j : Nat} (hij : i + 4 ≤ j) (hj : j < 18) (hr : -17 * ((j : Int) - (i + 1)) ≤ rg 3 (i + 1) j) (hp : ∀ k m : Nat, i < k → k ≤ m → m < j → -17 * ((m : Int) - k + 1) ≤ pe k m) : ∀ c, c ≤ j - i - 5 → -17 * ((j : Int) - i + 1) ≤ fo_oK b pe rg i j c ∧ fo_oK b pe rg i j c ≤ 69
  | 0, _ => by
    have h1 := lp_hp_in b i j
    have h2 := lp_wk_in b i j 5 (by decide)
    unfold fo_oK fo_mi fo_many
    split <;> omega
  | c + 1, hc => by
    have ih := fo_oK_lo (b := b) (pe := pe) (rg := rg) hij hj hr hp c (by omega)
    have h1 := fo_iK_lo (b := b) (m := j - 1 - c) ih.1 hj (by omega) (fun k h1 h2 => hp k _ h1 h2 (by omega)) (j - 1 - c - 4 - i) (by omega)
    unfold fo_oK
    omega
theorem fo_rK_lo {b : Nat → Nat} {r : Nat} {pe : Nat → Nat → Int} {rg : Nat → Nat → Nat → Int} {s t : Nat} (h1 : -17 * ((t : Int) - s) ≤ rg r s t ∧ rg r s t ≤ 1000000 + ((t : Int) - s)) (h2 : ∀ k : Nat, s ≤ k → k < t → -17 * ((k : Int) - s) ≤ rg (fo_af r) s k) (h3 : ∀ k : Nat, s ≤ k → k < t → -17 * ((t : Int) - k + 1) ≤ pe k t) : ∀ c, s + c ≤ t → -17 * ((t : Int) + 1 - s) ≤ fo_rK b r pe rg s t c ∧ fo_rK b r pe rg s t c ≤ 1000000 + ((t : Int) + 1 - s)
  | 0, hc => by
    unfold fo_rK fo_pp
    split <;> omega
  | c + 1, hc => by
    have ih := fo_rK_lo (b := b) h1 h2 h3 c (by omega)
    unfold fo_rK
    split
    · have e1 := h2 (s + c) (by omega) (by omega)
      have e2 := h3 (s + c) (by omega) (by omega)
      have e3 := lp_wk_in b (s + c) t 5 (by decide)
      have e4 : -17 * ((t : Int) - ((s + c : Nat) : Int) + 1) ≤ fo_br b r pe (s + c) t := by
        unfold fo_br fo_pq
        split <;> omega
      unfold fo_mi
      split <;> omega
    · exact ih
theorem fo_pK_lo {b : Nat → Nat} {pn : Nat → Nat → Int} {s t : Nat} (h1 : ∀ i e : Nat, i ≤ e → e ≤ t → 0 ≤ pn i e ∧ pn i e ≤ (e : Int) - i) : ∀ c, s + c ≤ t → 0 ≤ fo_pK b pn s t c ∧ fo_pK b pn s t c ≤ (t : Int) + 1 - s
  | 0, hc => by
    unfold fo_pK
    have := h1 s t (by omega) (Nat.le_refl t)
    omega
  | c + 1, hc => by
    have ih := fo_pK_lo (b := b) (s := s) h1 c (by omega)
    have e1 := h1 s (s + c) (by omega) (by omega)
    have e2 := h1 (s + c + 1) t (by omega) (Nat.le_refl t)
    unfold fo_pK
    split
    · split <;> omega
    · exact ih
theorem fo_pe_in {b : Nat → Nat} {n : Nat} {pe : Nat → Nat → Int} {T : Nat → Nat → Nat → Int} (hn : n < 18) (hB : fo_B n pe T) {i : Nat} (hi : i ≤ n) : -17 * ((n : Int) - i + 1) ≤ fo_pe b n pe T i n ∧ fo_pe b n pe T i n ≤ 1000000 := by
  unfold fo_pe
  rw [if_pos rfl]
  split
  · rename_i hcp
    unfold en_cp at hcp
    simp only [Bool.and_eq_true, decide_eq_true_eq] at hcp
    have h3 := (hB.2.2 3 (by decide) (i + 1) n (by omega) (Or.inl (Nat.le_refl n))).1
    have := fo_oK_lo (b := b) (pe := pe) (rg := fun r => T (2 + r)) hcp.1 hn (by show _ ≤ T (2 + 3) (i + 1) n; omega) (fun k m h1 h2 h3 => (hB.1 k m h2 h3).1) (n - i - 5) (Nat.le_refl _)
    omega
  · omega
theorem fo_B_step {b : Nat → Nat} {n : Nat} {pe : Nat → Nat → Int} {T : Nat → Nat → Nat → Int} (hn : n < 18) (hB : fo_B n pe T) : fo_B (n + 1) (fo_pe b n pe T) (fo_T b n pe T) := by
  refine ⟨fun i j hij hj => ?_, fun i e hie he => ?_, fun r hr i e hie he => ?_⟩
  · by_cases hjn : j = n
    · subst hjn
      exact fo_pe_in hn hB hij
    · have : fo_pe b n pe T i j = pe i j := by unfold fo_pe; rw [if_neg hjn]
      rw [this]
      exact hB.1 i j hij (by omega)
  · unfold fo_T
    split
    · rename_i h
      obtain ⟨h1, h2⟩ := h
      subst h2
      have := fo_pK_lo (b := b) (pn := T 1) (s := i) (t := n) (fun i e h1 h2 => hB.2.1 i e h1 (Or.inl h2)) (n - 3 - i) (by omega)
      show 0 ≤ fo_pK b (T 1) i n (n - 3 - i) ∧ fo_pK b (T 1) i n (n - 3 - i) ≤ _
      omega
    · exact hB.2.1 i e hie (by omega)
  · unfold fo_T
    split
    · rename_i h
      obtain ⟨h1, h2⟩ := h
      subst h2
      have hc : fo_col b n (fo_pe b n pe T) T (2 + r) i = fo_rK b r (fo_pe b n pe T) (fun r => T (2 + r)) i n (n - 3 - i) := by
        unfold fo_col
        rw [if_neg (by omega), if_neg (by omega), show 2 + r - 2 = r by omega]
      rw [hc]
      have haf : fo_af r < 4 := by unfold fo_af; split <;> omega
      have := fo_rK_lo (b := b) (r := r) (pe := fo_pe b n pe T) (rg := fun r => T (2 + r)) (s := i) (t := n) (hB.2.2 r hr i n h1 (Or.inl (Nat.le_refl n))) (fun k h1 h2 => (hB.2.2 _ haf i k h1 (Or.inl (by omega))).1) (fun k h1 h2 => (fo_pe_in hn hB (by omega)).1) (n - 3 - i) (by omega)
      omega
    · exact hB.2.2 r hr i e hie (by omega)
/-- on the way, first loop: the pairs from d on -/
def fo_X1 (n : Nat) (pe pe2 : Nat → Nat → Int) (T : Nat → Nat → Nat → Int) (V0 : Nat → Nat → Int32) (d : Nat) (V : Nat → Nat → Int32) : Prop := fo_V n pe T V ∧ (∀ i, d ≤ i → i ≤ n → V (6 + i) n = iI (pe2 i n)) ∧ ∀ c, (c < 6 ∨ 148 ≤ c) → V c = V0 c
/-- second loop: rows behind d, and of row d the first m tables -/
def fo_X2 (n : Nat) (pe2 : Nat → Nat → Int) (T T2 : Nat → Nat → Nat → Int) (V0 : Nat → Nat → Int32) (d m : Nat) (V : Nat → Nat → Int32) : Prop := fo_V n pe2 T V ∧ (∀ i, i ≤ n → V (6 + i) n = iI (pe2 i n)) ∧ (∀ c, (c < 6 ∨ 148 ≤ c) → V c = V0 c) ∧ ∀ q, q < 6 → ∀ i, i ≤ n → (d < i ∨ (i = d ∧ q < m)) → V (fo_b q + i) (n + 1) = iI (T2 q i (n + 1))
theorem fo_up2 {V : Nat → Nat → Int32} {c0 e0 x e : Nat} {z : Int32} (h : x ≠ c0 ∨ e ≠ e0) : va_up V c0 (upd (V c0) e0 z) x e = V x e := by
  unfold va_up upd
  by_cases h1 : x = c0
  · subst h1
    rcases h with h | h
    · exact absurd rfl h
    · simp [h]
  · simp [h1]
theorem fo_up2s {V : Nat → Nat → Int32} {c0 e0 : Nat} {z : Int32} : va_up V c0 (upd (V c0) e0 z) c0 e0 = z := by simp [va_up, upd]
theorem fo_b_in (q i : Nat) (hq : q < 6) (hi : i ≤ 18) : 25 ≤ fo_b q + i ∧ fo_b q + i < 148 := by
  unfold fo_b
  split
  · omega
  · split <;> omega
theorem fo_X1_step {n : Nat} {pe pe2 : Nat → Nat → Int} {T : Nat → Nat → Nat → Int} {V0 V : Nat → Nat → Int32} {d : Nat} (hn : n < 18) (hd : d ≤ n) (h : fo_X1 n pe pe2 T V0 (d + 1) V) : fo_X1 n pe pe2 T V0 d (va_up V (6 + d) (upd (V (6 + d)) n (iI (pe2 d n)))) := by
  obtain ⟨⟨h1, h2⟩, h3, h4⟩ := h
  refine ⟨⟨fun i j hij hj => ?_, fun q hq i e hie he => ?_⟩, fun i hi hin => ?_, fun c hc => ?_⟩
  · rw [fo_up2 (by omega)]
    exact h1 i j hij hj
  · have := fo_b_in q i hq (by omega)
    rw [fo_up2 (by omega)]
    exact h2 q hq i e hie he
  · by_cases e : i = d
    · subst e
      rw [fo_up2s]
    · rw [fo_up2 (by omega)]
      exact h3 i (by omega) hin
  · rw [va_up_ne _ _ (by omega)]
    exact h4 c hc
theorem fo_X2_step {n : Nat} {pe2 : Nat → Nat → Int} {T T2 : Nat → Nat → Nat → Int} {V0 V : Nat → Nat → Int32} {d m : Nat} (hn : n < 18) (hd : d ≤ n) (hm : m < 6) {z : Int} (hz : T2 m d (n + 1) = z) (h : fo_X2 n pe2 T T2 V0 d m V) : fo_X2 n pe2 T T2 V0 d (m + 1) (va_up V (fo_b m + d) (upd (V (fo_b m + d)) (n + 1) (iI z))) := by
  obtain ⟨⟨h1, h2⟩, h3, h4, h5⟩ := h
  have hb := fo_b_in m d hm (by omega)
  refine ⟨⟨fun i j hij hj => ?_, fun q hq i e hie he => ?_⟩, fun i hin => ?_, fun c hc => ?_, fun q hq i hi hk => ?_⟩
  · rw [fo_up2 (by omega)]
    exact h1 i j hij hj
  · have hne : fo_b q + i ≠ fo_b m + d ∨ e ≠ n + 1 := by
      rcases he with he | ⟨he1, he2⟩
      · right
        omega
      · by_cases e9 : e = n + 1
        · left
          intro hx
          have := fo_b_inj hq hm (by omega) (by omega) hx
          omega
        · exact Or.inr e9
    rw [fo_up2 hne]
    exact h2 q hq i e hie he
  · rw [fo_up2 (by omega)]
    exact h3 i hin
  · rw [va_up_ne _ _ (by omega)]
    exact h4 c hc
  · by_cases e9 : fo_b q + i = fo_b m + d
    · obtain ⟨rfl, rfl⟩ := fo_b_inj hq hm (by omega) (by omega) e9
      rw [fo_up2s, hz]
    · rw [fo_up2 (Or.inl e9)]
      refine h5 q hq i hi ?_
      rcases hk with hk | ⟨hk1, hk2⟩
      · exact Or.inl hk
      · right
        refine ⟨hk1, ?_⟩
        have : q ≠ m := fun h9 => e9 (by rw [h9, hk1])
        omega
theorem jl_abs {x : jl_X} {N : Nat} {ad : Nat → Nat} {K : Nat → ClassId} {cells slots pc : Nat} {lc : List (Nat × Value)} {st : List Value} {I : Nat → Int32} {L : Nat → Int64} {C : Nat → Int32} {G R : Nat → Nat} {P : (Nat → Nat → Int32) → Prop} {V0 : Nat → Nat → Int32} (h : P V0) (kk : ∀ V1, P V1 → jl_J x N ad cells slots (gw K ad I V1 L C G R) pc lc st) : jl_J x N ad cells slots (gw K ad I V0 L C G R) pc lc st := kk V0 h
abbrev bc_FO_extend : ByteArray := prog_2_method_5_code
abbrev yn_FO_extend : MethodName := ⟨"FoldedStrand$Folds", "extend", "()V"⟩
theorem vs_FO_61 : jl_v "FoldedStrand$Folds" 61 yn_FO_leastOfPair bc_FO_leastOfPair 6 (some .int) 2 := ⟨jl_T_of 240 (by decide +kernel) (by decide +kernel), jl_T_of 4 (by decide +kernel) (by decide +kernel), jl_T_of 237 (by decide +kernel) (by decide +kernel), by decide +kernel, by decide +kernel, by decide +kernel⟩
theorem vi_FO_leastOfPair : Cond.instanceMethod yn_FO_leastOfPair ∈ jl_T := jl_T_of 239 (by decide +kernel) (by decide +kernel)
theorem vx_FO_leastOfPair : Cond.selects "FoldedStrand$Folds" yn_FO_leastOfPair yn_FO_leastOfPair ∈ jl_T := jl_T_sel 0 (by decide +kernel) (by decide +kernel)
theorem wk_FO_65 : Cond.constant "FoldedStrand$Folds" 65 (1000000) ∈ jl_T := jl_T_of 291 (by decide +kernel) (by decide +kernel)
theorem vs_FO_66 : jl_v "FoldedStrand$Folds" 66 yn_FO_countPart bc_FO_countPart 7 none 2 := ⟨jl_T_of 295 (by decide +kernel) (by decide +kernel), jl_T_of 4 (by decide +kernel) (by decide +kernel), jl_T_of 292 (by decide +kernel) (by decide +kernel), by decide +kernel, by decide +kernel, by decide +kernel⟩
theorem vi_FO_countPart : Cond.instanceMethod yn_FO_countPart ∈ jl_T := jl_T_of 294 (by decide +kernel) (by decide +kernel)
theorem vx_FO_countPart : Cond.selects "FoldedStrand$Folds" yn_FO_countPart yn_FO_countPart ∈ jl_T := jl_T_sel 2 (by decide +kernel) (by decide +kernel)
theorem vs_FO_70 : jl_v "FoldedStrand$Folds" 70 yn_FO_fillRegion bc_FO_fillRegion 8 none 3 := ⟨jl_T_of 302 (by decide +kernel) (by decide +kernel), jl_T_of 4 (by decide +kernel) (by decide +kernel), jl_T_of 299 (by decide +kernel) (by decide +kernel), by decide +kernel, by decide +kernel, by decide +kernel⟩
theorem vi_FO_fillRegion : Cond.instanceMethod yn_FO_fillRegion ∈ jl_T := jl_T_of 301 (by decide +kernel) (by decide +kernel)
theorem vx_FO_fillRegion : Cond.selects "FoldedStrand$Folds" yn_FO_fillRegion yn_FO_fillRegion ∈ jl_T := jl_T_sel 3 (by decide +kernel) (by decide +kernel)
theorem wl_FO_41 : Cond.fieldLink "FoldedStrand$Folds" 41 "FoldedStrand$Folds" "anyBranches" "LFoldedStrand$Region;" ∈ jl_T := jl_T_of 84 (by decide +kernel) (by decide +kernel)
theorem wl_FO_44 : Cond.fieldLink "FoldedStrand$Folds" 44 "FoldedStrand$Folds" "oneBranch" "LFoldedStrand$Region;" ∈ jl_T := jl_T_of 83 (by decide +kernel) (by decide +kernel)
theorem dc_FO_extend_0 : decode bc_FO_extend 0 = .ok (.aload_n 0, 1) := by decide +kernel
theorem dc_FO_extend_1 : decode bc_FO_extend 1 = .ok (.getfield 22, 3) := by decide +kernel
theorem dc_FO_extend_4 : decode bc_FO_extend 4 = .ok (.invokevirtual 50, 3) := by decide +kernel
theorem dc_FO_extend_7 : decode bc_FO_extend 7 = .ok (.istore_n 1, 1) := by decide +kernel
theorem dc_FO_extend_8 : decode bc_FO_extend 8 = .ok (.iload_n 1, 1) := by decide +kernel
theorem dc_FO_extend_9 : decode bc_FO_extend 9 = .ok (.iconst 1, 1) := by decide +kernel
theorem dc_FO_extend_10 : decode bc_FO_extend 10 = .ok (.isub, 1) := by decide +kernel
theorem dc_FO_extend_11 : decode bc_FO_extend 11 = .ok (.istore_n 2, 1) := by decide +kernel
theorem dc_FO_extend_12 : decode bc_FO_extend 12 = .ok (.iload_n 2, 1) := by decide +kernel
theorem dc_FO_extend_13 : decode bc_FO_extend 13 = .ok (.ifCond .lt 46, 3) := by decide +kernel
theorem dc_FO_extend_16 : decode bc_FO_extend 16 = .ok (.aload_n 0, 1) := by decide +kernel
theorem dc_FO_extend_17 : decode bc_FO_extend 17 = .ok (.getfield 11, 3) := by decide +kernel
theorem dc_FO_extend_20 : decode bc_FO_extend 20 = .ok (.iload_n 2, 1) := by decide +kernel
theorem dc_FO_extend_21 : decode bc_FO_extend 21 = .ok (.aaload, 1) := by decide +kernel
theorem dc_FO_extend_22 : decode bc_FO_extend 22 = .ok (.iload_n 1, 1) := by decide +kernel
theorem dc_FO_extend_23 : decode bc_FO_extend 23 = .ok (.iconst 1, 1) := by decide +kernel
theorem dc_FO_extend_24 : decode bc_FO_extend 24 = .ok (.isub, 1) := by decide +kernel
theorem dc_FO_extend_25 : decode bc_FO_extend 25 = .ok (.aload_n 0, 1) := by decide +kernel
theorem dc_FO_extend_26 : decode bc_FO_extend 26 = .ok (.getfield 22, 3) := by decide +kernel
theorem dc_FO_extend_29 : decode bc_FO_extend 29 = .ok (.iload_n 2, 1) := by decide +kernel
theorem dc_FO_extend_30 : decode bc_FO_extend 30 = .ok (.iload_n 1, 1) := by decide +kernel
theorem dc_FO_extend_31 : decode bc_FO_extend 31 = .ok (.iconst 1, 1) := by decide +kernel
theorem dc_FO_extend_32 : decode bc_FO_extend 32 = .ok (.isub, 1) := by decide +kernel
theorem dc_FO_extend_33 : decode bc_FO_extend 33 = .ok (.invokevirtual 57, 3) := by decide +kernel
theorem dc_FO_extend_36 : decode bc_FO_extend 36 = .ok (.ifCond .eq 14, 3) := by decide +kernel
theorem dc_FO_extend_39 : decode bc_FO_extend 39 = .ok (.aload_n 0, 1) := by decide +kernel
theorem dc_FO_extend_40 : decode bc_FO_extend 40 = .ok (.iload_n 2, 1) := by decide +kernel
theorem dc_FO_extend_41 : decode bc_FO_extend 41 = .ok (.iload_n 1, 1) := by decide +kernel
theorem dc_FO_extend_42 : decode bc_FO_extend 42 = .ok (.iconst 1, 1) := by decide +kernel
theorem dc_FO_extend_43 : decode bc_FO_extend 43 = .ok (.isub, 1) := by decide +kernel
theorem dc_FO_extend_44 : decode bc_FO_extend 44 = .ok (.invokevirtual 61, 3) := by decide +kernel
theorem dc_FO_extend_47 : decode bc_FO_extend 47 = .ok (.goto 5, 3) := by decide +kernel
theorem dc_FO_extend_50 : decode bc_FO_extend 50 = .ok (.ldc 65, 2) := by decide +kernel
theorem dc_FO_extend_52 : decode bc_FO_extend 52 = .ok (.iastore, 1) := by decide +kernel
theorem dc_FO_extend_53 : decode bc_FO_extend 53 = .ok (.iinc 2 (-1), 3) := by decide +kernel
theorem dc_FO_extend_56 : decode bc_FO_extend 56 = .ok (.goto (-44), 3) := by decide +kernel
theorem dc_FO_extend_59 : decode bc_FO_extend 59 = .ok (.iload_n 1, 1) := by decide +kernel
theorem dc_FO_extend_60 : decode bc_FO_extend 60 = .ok (.iconst 1, 1) := by decide +kernel
theorem dc_FO_extend_61 : decode bc_FO_extend 61 = .ok (.isub, 1) := by decide +kernel
theorem dc_FO_extend_62 : decode bc_FO_extend 62 = .ok (.istore_n 2, 1) := by decide +kernel
theorem dc_FO_extend_63 : decode bc_FO_extend 63 = .ok (.iload_n 2, 1) := by decide +kernel
theorem dc_FO_extend_64 : decode bc_FO_extend 64 = .ok (.ifCond .lt 55, 3) := by decide +kernel
theorem dc_FO_extend_67 : decode bc_FO_extend 67 = .ok (.aload_n 0, 1) := by decide +kernel
theorem dc_FO_extend_68 : decode bc_FO_extend 68 = .ok (.iload_n 2, 1) := by decide +kernel
theorem dc_FO_extend_69 : decode bc_FO_extend 69 = .ok (.iload_n 1, 1) := by decide +kernel
theorem dc_FO_extend_70 : decode bc_FO_extend 70 = .ok (.invokevirtual 66, 3) := by decide +kernel
theorem dc_FO_extend_73 : decode bc_FO_extend 73 = .ok (.aload_n 0, 1) := by decide +kernel
theorem dc_FO_extend_74 : decode bc_FO_extend 74 = .ok (.aload_n 0, 1) := by decide +kernel
theorem dc_FO_extend_75 : decode bc_FO_extend 75 = .ok (.getfield 35, 3) := by decide +kernel
theorem dc_FO_extend_78 : decode bc_FO_extend 78 = .ok (.iload_n 2, 1) := by decide +kernel
theorem dc_FO_extend_79 : decode bc_FO_extend 79 = .ok (.iload_n 1, 1) := by decide +kernel
theorem dc_FO_extend_80 : decode bc_FO_extend 80 = .ok (.invokevirtual 70, 3) := by decide +kernel
theorem dc_FO_extend_83 : decode bc_FO_extend 83 = .ok (.aload_n 0, 1) := by decide +kernel
theorem dc_FO_extend_84 : decode bc_FO_extend 84 = .ok (.aload_n 0, 1) := by decide +kernel
theorem dc_FO_extend_85 : decode bc_FO_extend 85 = .ok (.getfield 41, 3) := by decide +kernel
theorem dc_FO_extend_88 : decode bc_FO_extend 88 = .ok (.iload_n 2, 1) := by decide +kernel
theorem dc_FO_extend_89 : decode bc_FO_extend 89 = .ok (.iload_n 1, 1) := by decide +kernel
theorem dc_FO_extend_90 : decode bc_FO_extend 90 = .ok (.invokevirtual 70, 3) := by decide +kernel
theorem dc_FO_extend_93 : decode bc_FO_extend 93 = .ok (.aload_n 0, 1) := by decide +kernel
theorem dc_FO_extend_94 : decode bc_FO_extend 94 = .ok (.aload_n 0, 1) := by decide +kernel
theorem dc_FO_extend_95 : decode bc_FO_extend 95 = .ok (.getfield 44, 3) := by decide +kernel
theorem dc_FO_extend_98 : decode bc_FO_extend 98 = .ok (.iload_n 2, 1) := by decide +kernel
theorem dc_FO_extend_99 : decode bc_FO_extend 99 = .ok (.iload_n 1, 1) := by decide +kernel
theorem dc_FO_extend_100 : decode bc_FO_extend 100 = .ok (.invokevirtual 70, 3) := by decide +kernel
theorem dc_FO_extend_103 : decode bc_FO_extend 103 = .ok (.aload_n 0, 1) := by decide +kernel
theorem dc_FO_extend_104 : decode bc_FO_extend 104 = .ok (.aload_n 0, 1) := by decide +kernel
theorem dc_FO_extend_105 : decode bc_FO_extend 105 = .ok (.getfield 47, 3) := by decide +kernel
theorem dc_FO_extend_108 : decode bc_FO_extend 108 = .ok (.iload_n 2, 1) := by decide +kernel
theorem dc_FO_extend_109 : decode bc_FO_extend 109 = .ok (.iload_n 1, 1) := by decide +kernel
theorem dc_FO_extend_110 : decode bc_FO_extend 110 = .ok (.invokevirtual 70, 3) := by decide +kernel
theorem dc_FO_extend_113 : decode bc_FO_extend 113 = .ok (.iinc 2 (-1), 3) := by decide +kernel
theorem dc_FO_extend_116 : decode bc_FO_extend 116 = .ok (.goto (-53), 3) := by decide +kernel
theorem dc_FO_extend_119 : decode bc_FO_extend 119 = .ok (.return_, 1) := by decide +kernel
section FO
variable (l : Launch) {K : Nat → ClassId} {sa : Nat → Nat} {ad : Nat → Nat} {I : Nat → Int32} {V : Nat → Nat → Int32} {L : Nat → Int64} {C : Nat → Int32} {G : Nat → Nat} {R : Nat → Nat} {n : Nat} {b : Nat → Nat} {pe : Nat → Nat → Int} {T : Nat → Nat → Nat → Int}
theorem c_FO_extend (hI : I 0 = nI (n + 1)) (hV2 : V 2 = fun i => nI (b i)) (hn : n < 18) (hb : ∀ i, b i < 4) (hV : fo_V n pe T V) (hB : fo_B n pe T) : jl_CP l K sa yn_FO_extend bc_FO_extend 3 none 5 160 168 ad [.ref (ad 4)] (gw K ad I V L C G R) (fun v E2 => v = none ∧ ∃ V2, fo_V (n + 1) (fo_pe b n pe T) (fo_T b n pe T) V2 ∧ (∀ c, (c < 6 ∨ 148 ≤ c) → V2 c = V c) ∧ E2 = gw K ad I V2 L C G R) := by
  refine jl_enterP (by decide) (Nat.le_of_ble_eq_true rfl) (fun x h he hr => ?_)
  show jl_J x 168 ad 0 0 (gw K ad I V L C G R) 0 [(0, .ref (ad 4))] []
  have hSo : ∀ V1 : Nat → Nat → Int32, V1 2 = V 2 → st_ok K ad (gw K ad I V1 L C G R) (n + 1) b := fun V1 h1 => ⟨by show Sum.inr _ = _; rw [hI], gw_at rfl rfl (h1.trans hV2), by omega, hb⟩
  have e1 : nI (n + 1) - 1 = nI n := nI_pred n
  have hz0 : (0 : Int32) = nI 0 := rfl
  have second : ∀ (d : Nat) (V1 : Nat → Nat → Int32), d ≤ n + 1 → (∀ m, fo_X2 n (fo_pe b n pe T) T (fo_T b n pe T) V d m V1 → True) → (fo_V n (fo_pe b n pe T) T V1 ∧ (∀ i, i ≤ n → V1 (6 + i) n = iI (fo_pe b n pe T i n)) ∧ (∀ c, (c < 6 ∨ 148 ≤ c) → V1 c = V c) ∧ ∀ q, q < 6 → ∀ i, i ≤ n → d ≤ i → V1 (fo_b q + i) (n + 1) = iI (fo_T b n pe T q i (n + 1))) → jl_J x 168 ad 0 0 (gw K ad I V1 L C G R) 63 [(2, .int (iI ((d : Int) - 1))), (1, .int (nI (n + 1))), (0, .ref (ad 4))] [] := by
    intro d
    induction d with
    | zero =>
      intro V1 hd _ hX
      obtain ⟨⟨h1, h2⟩, h3, h4, h5⟩ := hX
      have hfin : fo_V (n + 1) (fo_pe b n pe T) (fo_T b n pe T) V1 := by
        refine ⟨fun i j hij hj => ?_, fun q hq i e hie he => ?_⟩
        · by_cases hjn : j = n
          · subst hjn
            exact h3 i hij
          · exact h1 i j hij (by omega)
        · by_cases hen : i ≤ n ∧ e = n + 1
          · obtain ⟨hen1, hen2⟩ := hen
            subst hen2
            exact h5 q hq i hen1 (by omega)
          · have : fo_T b n pe T q i e = T q i e := by unfold fo_T; rw [if_neg hen]
            rw [this]
            exact h2 q hq i e hie (by omega)
      refine jl_iload_n (i := 2) h rfl rfl dc_FO_extend_63 64 rfl ?_
      refine jl_if_lt h 119 (by decide) dc_FO_extend_64 67 rfl (fun c64 => ?_) (fun c64 => absurd (by decide) c64)
      exact jl_vretP h he (⟨rfl, V1, hfin, h4, rfl⟩) dc_FO_extend_119
    | succ d ih =>
      intro V1 hd _ hX
      have hs19 : d < 19 := by omega
      have hX2 : fo_X2 n (fo_pe b n pe T) T (fo_T b n pe T) V d 0 V1 := ⟨hX.1, hX.2.1, hX.2.2.1, fun q hq i hi hk => hX.2.2.2 q hq i hi (by omega)⟩
      have ed : iI (((d + 1 : Nat) : Int) - 1) = nI d := by
        rw [← iI_nat]
        congr 1
        omega
      rw [ed]
      have hval : ∀ q, fo_T b n pe T q d (n + 1) = fo_col b n (fo_pe b n pe T) T q d := fun q => by
        unfold fo_T
        rw [if_pos ⟨by omega, rfl⟩]
      have em : nI d + Int32.ofInt (-1) = iI ((d : Int) - 1) := by
        rw [← iI_nat]
        exact iI_add d (-1)
      have b0 : ∀ V1 m, fo_X2 n (fo_pe b n pe T) T (fo_T b n pe T) V d m V1 → st_ok K ad (gw K ad I V1 L C G R) (n + 1) b := fun V1 m hx => hSo V1 (hx.2.2.1 2 (by omega))
      have hsm : ∀ k, d ≤ k → k < n → fo_sm (fo_pe b n pe T k n) := fun k hk1 hk2 => by
        have := fo_pe_in (b := b) hn hB (show k ≤ n by omega)
        unfold fo_sm
        omega
      have hsT : ∀ r, r < 4 → ∀ k, d ≤ k → k ≤ n → fo_sm (T (2 + r) d k) := fun r h0 k h1 h2 => by
        have := hB.2.2 r h0 d k h1 (Or.inl h2)
        unfold fo_sm
        omega
      refine jl_iload_n (i := 2) h rfl rfl dc_FO_extend_63 64 rfl ?_
      refine jl_if_lt h 119 (by decide) dc_FO_extend_64 67 rfl (fun c64 => absurd c64 (nI_pos (by omega))) (fun c64 => ?_)
      refine jl_aload_n (i := 0) h rfl rfl dc_FO_extend_67 68 rfl ?_
      refine jl_iload_n (i := 2) h rfl rfl dc_FO_extend_68 69 rfl ?_
      refine jl_iload_n (i := 1) h rfl rfl dc_FO_extend_69 70 rfl ?_
      refine jl_callV (As := [_, _]) (rest := []) h hr vs_FO_66 vi_FO_countPart vx_FO_countPart (ci := 3) rfl (by omega) (by exact rfl) (fun l => c_FO_countPart l (b0 _ _ hX2) (cn := T 0) (pn := T 1) (s := d) (t := n) (by omega) hn (fun i e h1 h2 => hX2.1.2 0 (by decide) i e h1 (Or.inl h2)) (fun i e h1 h2 => hX2.1.2 1 (by decide) i e h1 (Or.inl h2)) (fun i e h1 h2 => by have := hB.2.1 i e h1 (Or.inl h2); omega)) (by first | decide | omega) (by first | decide | omega) rfl rfl (Nat.le_of_ble_eq_true rfl) dc_FO_extend_70 (res := []) rfl 73 rfl ?_
      have hX2a := fo_X2_step hn (by omega) (by decide) (hval 0) hX2
      have hX2b := fo_X2_step hn (by omega) (by decide) (hval 1) hX2a
      rw [show va_up V1 (fo_b 0 + d) (upd (V1 (fo_b 0 + d)) (n + 1) (iI (fo_col b n (fo_pe b n pe T) T 0 d))) (fo_b 1 + d) = V1 (fo_b 1 + d) from va_up_ne _ _ (by unfold fo_b; simp)] at hX2b
      refine jl_abs (P := fo_X2 n (fo_pe b n pe T) T (fo_T b n pe T) V d 2) hX2b (fun V2 hX3 => ?_)
      clear hX2a hX2b
      refine jl_aload_n (i := 0) h rfl rfl dc_FO_extend_73 74 rfl ?_
      refine jl_aload_n (i := 0) h rfl rfl dc_FO_extend_74 75 rfl ?_
      refine jl_getf h nm_c_FO 0 wl_FO_35 (by omega) (by decide) (by exact rfl) (by rfl) dc_FO_extend_75 78 rfl ?_
      refine jl_iload_n (i := 2) h rfl rfl dc_FO_extend_78 79 rfl ?_
      refine jl_iload_n (i := 1) h rfl rfl dc_FO_extend_79 80 rfl ?_
      refine jl_callV (As := [_, _, _]) (rest := []) h hr vs_FO_70 vi_FO_fillRegion vx_FO_fillRegion (ci := 3) rfl (by omega) (by exact rfl) (fun l => c_FO0_fillRegion l (b0 _ _ hX3) (rg := fun r => T (2 + r)) (pe := fo_pe b n pe T) (s := d) (t := n) (by omega) hn (hX3.1.2 2 (by decide) d n (by omega) (Or.inl (Nat.le_refl n))) (fun k h1 h2 => hX3.1.2 2 (by decide) d k h1 (Or.inl (by omega))) (fun k h1 h2 => hX3.2.1 k (by omega)) (hsT 0 (by decide) n (by omega) (Nat.le_refl n)) (fun k h1 h2 => hsT 0 (by decide) k h1 (by omega)) (fun k h1 h2 => hsm k h1 h2)) (by first | decide | omega) (by first | decide | omega) rfl rfl (Nat.le_of_ble_eq_true rfl) dc_FO_extend_80 (res := []) rfl 83 rfl ?_
      refine jl_abs (P := fo_X2 n (fo_pe b n pe T) T (fo_T b n pe T) V d 3) (fo_X2_step hn (by omega) (by decide) (hval 2) hX3) (fun V3 hX4 => ?_)
      refine jl_aload_n (i := 0) h rfl rfl dc_FO_extend_83 84 rfl ?_
      refine jl_aload_n (i := 0) h rfl rfl dc_FO_extend_84 85 rfl ?_
      refine jl_getf h nm_c_FO 4 wl_FO_41 (by omega) (by decide) (by exact rfl) (by rfl) dc_FO_extend_85 88 rfl ?_
      refine jl_iload_n (i := 2) h rfl rfl dc_FO_extend_88 89 rfl ?_
      refine jl_iload_n (i := 1) h rfl rfl dc_FO_extend_89 90 rfl ?_
      refine jl_callV (As := [_, _, _]) (rest := []) h hr vs_FO_70 vi_FO_fillRegion vx_FO_fillRegion (ci := 3) rfl (by omega) (by exact rfl) (fun l => c_FO1_fillRegion l (b0 _ _ hX4) (rg := fun r => T (2 + r)) (pe := fo_pe b n pe T) (s := d) (t := n) (by omega) hn (hX4.1.2 3 (by decide) d n (by omega) (Or.inl (Nat.le_refl n))) (fun k h1 h2 => hX4.1.2 3 (by decide) d k h1 (Or.inl (by omega))) (fun k h1 h2 => hX4.2.1 k (by omega)) (hsT 1 (by decide) n (by omega) (Nat.le_refl n)) (fun k h1 h2 => hsT 1 (by decide) k h1 (by omega)) (fun k h1 h2 => hsm k h1 h2)) (by first | decide | omega) (by first | decide | omega) rfl rfl (Nat.le_of_ble_eq_true rfl) dc_FO_extend_90 (res := []) rfl 93 rfl ?_
      refine jl_abs (P := fo_X2 n (fo_pe b n pe T) T (fo_T b n pe T) V d 4) (fo_X2_step hn (by omega) (by decide) (hval 3) hX4) (fun V4 hX5 => ?_)
      refine jl_aload_n (i := 0) h rfl rfl dc_FO_extend_93 94 rfl ?_
      refine jl_aload_n (i := 0) h rfl rfl dc_FO_extend_94 95 rfl ?_
      refine jl_getf h nm_c_FO 3 wl_FO_44 (by omega) (by decide) (by exact rfl) (by rfl) dc_FO_extend_95 98 rfl ?_
      refine jl_iload_n (i := 2) h rfl rfl dc_FO_extend_98 99 rfl ?_
      refine jl_iload_n (i := 1) h rfl rfl dc_FO_extend_99 100 rfl ?_
      refine jl_callV (As := [_, _, _]) (rest := []) h hr vs_FO_70 vi_FO_fillRegion vx_FO_fillRegion (ci := 3) rfl (by omega) (by exact rfl) (fun l => c_FO2_fillRegion l (b0 _ _ hX5) (rg := fun r => T (2 + r)) (pe := fo_pe b n pe T) (s := d) (t := n) (by omega) hn (hX5.1.2 4 (by decide) d n (by omega) (Or.inl (Nat.le_refl n))) (fun k h1 h2 => hX5.1.2 3 (by decide) d k h1 (Or.inl (by omega))) (fun k h1 h2 => hX5.2.1 k (by omega)) (hsT 2 (by decide) n (by omega) (Nat.le_refl n)) (fun k h1 h2 => hsT 1 (by decide) k h1 (by omega)) (fun k h1 h2 => hsm k h1 h2)) (by first | decide | omega) (by first | decide | omega) rfl rfl (Nat.le_of_ble_eq_true rfl) dc_FO_extend_100 (res := []) rfl 103 rfl ?_
      refine jl_abs (P := fo_X2 n (fo_pe b n pe T) T (fo_T b n pe T) V d 5) (fo_X2_step hn (by omega) (by decide) (hval 4) hX5) (fun V5 hX6 => ?_)
      refine jl_aload_n (i := 0) h rfl rfl dc_FO_extend_103 104 rfl ?_
      refine jl_aload_n (i := 0) h rfl rfl dc_FO_extend_104 105 rfl ?_
      refine jl_getf h nm_c_FO 1 wl_FO_47 (by omega) (by decide) (by exact rfl) (by rfl) dc_FO_extend_105 108 rfl ?_
      refine jl_iload_n (i := 2) h rfl rfl dc_FO_extend_108 109 rfl ?_
      refine jl_iload_n (i := 1) h rfl rfl dc_FO_extend_109 110 rfl ?_
      refine jl_callV (As := [_, _, _]) (rest := []) h hr vs_FO_70 vi_FO_fillRegion vx_FO_fillRegion (ci := 3) rfl (by omega) (by exact rfl) (fun l => c_FO3_fillRegion l (b0 _ _ hX6) (rg := fun r => T (2 + r)) (pe := fo_pe b n pe T) (s := d) (t := n) (by omega) hn (hX6.1.2 5 (by decide) d n (by omega) (Or.inl (Nat.le_refl n))) (fun k h1 h2 => hX6.1.2 4 (by decide) d k h1 (Or.inl (by omega))) (fun k h1 h2 => hX6.2.1 k (by omega)) (hsT 3 (by decide) n (by omega) (Nat.le_refl n)) (fun k h1 h2 => hsT 2 (by decide) k h1 (by omega)) (fun k h1 h2 => hsm k h1 h2)) (by first | decide | omega) (by first | decide | omega) rfl rfl (Nat.le_of_ble_eq_true rfl) dc_FO_extend_110 (res := []) rfl 113 rfl ?_
      refine jl_abs (P := fo_X2 n (fo_pe b n pe T) T (fo_T b n pe T) V d 6) (fo_X2_step hn (by omega) (by decide) (hval 5) hX6) (fun V6 hX7 => ?_)
      refine jl_iinc (i := 2) (d := -1) (lc2 := [(2, _), (1, _), (0, _)]) (v2 := iI ((d : Int) - 1)) h (by decide) rfl (em) rfl dc_FO_extend_113 116 rfl ?_
      refine jl_goto h 63 (by decide) dc_FO_extend_116 ?_
      exact ih V6 (by omega) (fun _ _ => trivial) ⟨hX7.1, hX7.2.1, hX7.2.2.1, fun q hq i hi hk => hX7.2.2.2 q hq i hi (by omega)⟩
  have enn : nI n = iI (((n + 1 : Nat) : Int) - 1) := by
    rw [← iI_nat]
    congr 1
    omega
  have first : ∀ (d : Nat) (V1 : Nat → Nat → Int32), d ≤ n + 1 → fo_X1 n pe (fo_pe b n pe T) T V d V1 → jl_J x 168 ad 0 0 (gw K ad I V1 L C G R) 12 [(2, .int (iI ((d : Int) - 1))), (1, .int (nI (n + 1))), (0, .ref (ad 4))] [] := by
    intro d
    induction d with
    | zero =>
      intro V1 hd hX
      have hs := second (n + 1) V1 (Nat.le_refl _) (fun _ _ => trivial) ⟨⟨fun i j hij hj => by
          have : fo_pe b n pe T i j = pe i j := by unfold fo_pe; rw [if_neg (by omega)]
          rw [this]
          exact hX.1.1 i j hij hj, hX.1.2⟩, fun i hi => hX.2.1 i (by omega) hi, hX.2.2, fun q hq i h1 h2 => by omega⟩
      refine jl_iload_n (i := 2) h rfl rfl dc_FO_extend_12 13 rfl ?_
      refine jl_if_lt h 59 (by decide) dc_FO_extend_13 16 rfl (fun c13 => ?_) (fun c13 => absurd (by decide) c13)
      refine jl_iload_n (i := 1) h rfl rfl dc_FO_extend_59 60 rfl ?_
      refine jl_iconst (v := 1) h (by decide) dc_FO_extend_60 61 rfl ?_
      refine jl_isub h dc_FO_extend_61 62 rfl ?_
      rw [show nI (n + 1) - 1 = iI (((n + 1 : Nat) : Int) - 1) by rw [e1, enn]]
      refine jl_istore_n (i := 2) (lc2 := [(2, _), (1, _), (0, _)]) h rfl (by decide) rfl dc_FO_extend_62 63 rfl ?_
      exact hs
    | succ d ih =>
      intro V1 hd hX
      have hs18 : d < 18 := by omega
      have hS1 := hSo V1 (hX.2.2 2 (by omega))
      have ed : iI (((d + 1 : Nat) : Int) - 1) = nI d := by
        rw [← iI_nat]
        congr 1
        omega
      rw [ed]
      have em : nI d + Int32.ofInt (-1) = iI ((d : Int) - 1) := by
        rw [← iI_nat]
        exact iI_add d (-1)
      have hp1 : ∀ k m, d < k → k ≤ m → m < n → fo_sm (pe k m) := fun k m h1 h2 h3 => by
        have := hB.1 k m h2 h3
        unfold fo_sm
        omega
      refine jl_iload_n (i := 2) h rfl rfl dc_FO_extend_12 13 rfl ?_
      refine jl_if_lt h 59 (by decide) dc_FO_extend_13 16 rfl (fun c13 => absurd c13 (nI_pos (by omega))) (fun c13 => ?_)
      refine jl_aload_n (i := 0) h rfl rfl dc_FO_extend_16 17 rfl ?_
      refine jl_getf h nm_c_FO 2 wl_FO_11 (by omega) (by decide) (by exact rfl) (by rfl) dc_FO_extend_17 20 rfl ?_
      refine jl_iload_n (i := 2) h rfl rfl dc_FO_extend_20 21 rfl ?_
      refine jl_aald (t0 := 4) h (d) (by exact rfl) (by omega) (by exact rfl) (by rfl) (by rfl) (by exact hs18) (by first | decide | assumption) (by exact if_pos hs18) dc_FO_extend_21 22 rfl ?_
      refine jl_iload_n (i := 1) h rfl rfl dc_FO_extend_22 23 rfl ?_
      refine jl_iconst (v := 1) h (by decide) dc_FO_extend_23 24 rfl ?_
      refine jl_isub h dc_FO_extend_24 25 rfl ?_
      rw [show nI (n + 1) - 1 = nI n by exact e1]
      refine jl_aload_n (i := 0) h rfl rfl dc_FO_extend_25 26 rfl ?_
      refine jl_getf h nm_c_FO 7 wl_FO_22 (by omega) (by decide) (by exact rfl) (by rfl) dc_FO_extend_26 29 rfl ?_
      refine jl_iload_n (i := 2) h rfl rfl dc_FO_extend_29 30 rfl ?_
      refine jl_iload_n (i := 1) h rfl rfl dc_FO_extend_30 31 rfl ?_
      refine jl_iconst (v := 1) h (by decide) dc_FO_extend_31 32 rfl ?_
      refine jl_isub h dc_FO_extend_32 33 rfl ?_
      rw [show nI (n + 1) - 1 = nI n by exact e1]
      refine jl_callV (As := [_, _]) (rest := [_, _]) h hr vs_FO_57 vi_ST_canPair vx_ST_canPair (ci := 1) rfl (by omega) (by exact hS1.1) (fun l => c_ST_canPair l (by omega) hS1 hs18 hn) (by first | decide | omega) (by first | decide | omega) rfl rfl (Nat.le_of_ble_eq_true rfl) dc_FO_extend_33 (res := [_, _, _]) rfl 36 rfl ?_
      refine jl_if_eq h 50 (by decide) dc_FO_extend_36 39 rfl (fun c36 => ?_) (fun c36 => ?_)
      · skip
        rw [st_b0] at c36
        refine jl_ldc h wk_FO_65 dc_FO_extend_50 52 rfl ?_
        first | rw [show iI (fo_oK b pe (fun r => T (2 + r)) d n (n - d - 5)) = iI (fo_pe b n pe T d n) by unfold fo_pe; rw [if_pos rfl, if_pos c36]] | rw [show (1000000 : Int32) = iI (fo_pe b n pe T d n) by unfold fo_pe; rw [if_pos rfl, if_neg (by rw [c36]; decide)]; rfl]
        refine jl_iast h (n) (by exact rfl) (by omega) (by exact gw_row (gw_i_6 d hs18)) (by exact hn) (by first | decide | assumption) dc_FO_extend_52 (gw_rowset (gw_i_6 d hs18) _) 53 rfl ?_
        refine jl_abs (P := fo_X1 n pe (fo_pe b n pe T) T V d) (fo_X1_step hn (by omega) hX) (fun V2 hX2 => ?_)
        refine jl_iinc (i := 2) (d := -1) (lc2 := [(2, _), (1, _), (0, _)]) (v2 := iI ((d : Int) - 1)) h (by decide) rfl (em) rfl dc_FO_extend_53 56 rfl ?_
        refine jl_goto h 12 (by decide) dc_FO_extend_56 ?_
        exact ih V2 (by omega) hX2
      · skip
        rw [st_b1] at c36
        have hcp := c36
        unfold en_cp at hcp
        simp only [Bool.and_eq_true, decide_eq_true_eq] at hcp
        have hr1 : fo_sm (T (2 + 3) (d + 1) n) := by
          have := hB.2.2 3 (by decide) (d + 1) n (by omega) (Or.inl (Nat.le_refl n))
          unfold fo_sm
          omega
        refine jl_aload_n (i := 0) h rfl rfl dc_FO_extend_39 40 rfl ?_
        refine jl_iload_n (i := 2) h rfl rfl dc_FO_extend_40 41 rfl ?_
        refine jl_iload_n (i := 1) h rfl rfl dc_FO_extend_41 42 rfl ?_
        refine jl_iconst (v := 1) h (by decide) dc_FO_extend_42 43 rfl ?_
        refine jl_isub h dc_FO_extend_43 44 rfl ?_
        rw [show nI (n + 1) - 1 = nI n by exact e1]
        refine jl_callV (As := [_, _]) (rest := [_, _]) h hr vs_FO_61 vi_FO_leastOfPair vx_FO_leastOfPair (ci := 3) rfl (by omega) (by exact rfl) (fun l => c_FO_leastOfPair l hS1 (rg := fun r => T (2 + r)) hcp.1 hn hcp.2 (hX.1.2 5 (by decide) (d + 1) n (by omega) (Or.inl (Nat.le_refl n))) (fun k m h1 h2 h3 => hX.1.1 k m h2 h3) hr1 hp1) (by first | decide | omega) (by first | decide | omega) rfl rfl (Nat.le_of_ble_eq_true rfl) dc_FO_extend_44 (res := [_, _, _]) rfl 47 rfl ?_
        refine jl_goto h 52 (by decide) dc_FO_extend_47 ?_
        first | rw [show iI (fo_oK b pe (fun r => T (2 + r)) d n (n - d - 5)) = iI (fo_pe b n pe T d n) by unfold fo_pe; rw [if_pos rfl, if_pos c36]] | rw [show (1000000 : Int32) = iI (fo_pe b n pe T d n) by unfold fo_pe; rw [if_pos rfl, if_neg (by rw [c36]; decide)]; rfl]
        refine jl_iast h (n) (by exact rfl) (by omega) (by exact gw_row (gw_i_6 d hs18)) (by exact hn) (by first | decide | assumption) dc_FO_extend_52 (gw_rowset (gw_i_6 d hs18) _) 53 rfl ?_
        refine jl_abs (P := fo_X1 n pe (fo_pe b n pe T) T V d) (fo_X1_step hn (by omega) hX) (fun V2 hX2 => ?_)
        refine jl_iinc (i := 2) (d := -1) (lc2 := [(2, _), (1, _), (0, _)]) (v2 := iI ((d : Int) - 1)) h (by decide) rfl (em) rfl dc_FO_extend_53 56 rfl ?_
        refine jl_goto h 12 (by decide) dc_FO_extend_56 ?_
        exact ih V2 (by omega) hX2
  have hS0 := hSo V rfl
  have h00 := first (n + 1) V (Nat.le_refl _) ⟨hV, fun i h1 h2 => by omega, fun _ _ => rfl⟩
  refine jl_aload_n (i := 0) h rfl rfl dc_FO_extend_0 1 rfl ?_
  refine jl_getf h nm_c_FO 7 wl_FO_22 (by omega) (by decide) (by exact rfl) (by rfl) dc_FO_extend_1 4 rfl ?_
  refine jl_callV (As := []) (rest := []) h hr vs_FO_50 vi_ST_size vx_ST_size (ci := 1) rfl (by omega) (by exact hS0.1) (fun l => c_ST_size l (by omega) hS0) (by first | decide | omega) (by first | decide | omega) rfl rfl (Nat.le_of_ble_eq_true rfl) dc_FO_extend_4 (res := [_]) rfl 7 rfl ?_
  refine jl_istore_n (i := 1) (lc2 := [(1, _), (0, _)]) h rfl (by decide) rfl dc_FO_extend_7 8 rfl ?_
  refine jl_iload_n (i := 1) h rfl rfl dc_FO_extend_8 9 rfl ?_
  refine jl_iconst (v := 1) h (by decide) dc_FO_extend_9 10 rfl ?_
  refine jl_isub h dc_FO_extend_10 11 rfl ?_
  rw [show nI (n + 1) - 1 = iI (((n + 1 : Nat) : Int) - 1) by rw [e1, enn]]
  refine jl_istore_n (i := 2) (lc2 := [(2, _), (1, _), (0, _)]) h rfl (by decide) rfl dc_FO_extend_11 12 rfl ?_
  exact h00
end FO

