/-! Reading brackets, pure; FoldedStrand$Structure.add says just that. -/
abbrev ps_S := (Nat → Int) × List Nat
def ps_cl (b : Nat → Nat) (p : Nat) (w : Nat → Int) : List Nat → Option ps_S
  | [] => none
  | i :: os => if en_cp b i p = true then some (en_pr w i p, os) else none
def ps_step (b : Nat → Nat) (n p : Nat) (c : Int32) (s : ps_S) : Option ps_S :=
  if n ≤ p then none else if c = 40 then some (s.1, p :: s.2) else if c = 41 then ps_cl b p s.1 s.2 else if c = 46 then some s else none
/-- what holds after p characters -/
def ps_I (b : Nat → Nat) (n p : Nat) (w : Nat → Int) (os : List Nat) : Prop := p ≤ n ∧ en_V b n w ∧ (∀ q, p ≤ q → w q = -1) ∧ (∀ q, w q < p) ∧ (∀ i ∈ os, i < p ∧ w i = -1 ∧ ∀ a, a < i → w a < i) ∧ os.Pairwise (· > ·)
theorem ps_I0 (b : Nat → Nat) (n : Nat) : ps_I b n 0 (fun _ => -1) [] := ⟨Nat.zero_le n, en_V_none b n, fun _ _ => rfl, fun _ => by show (-1 : Int) < 0; decide, fun i hi => absurd hi List.not_mem_nil, List.Pairwise.nil⟩
theorem ps_V_pr {b : Nat → Nat} {n : Nat} {w : Nat → Int} {i j : Nat} (h : en_V b n w) (hij : i < j) (hjn : j < n) (hw : w i = -1) (hj : ∀ q, j ≤ q → w q = -1) (hlt : ∀ q, w q < j) (hA : ∀ a, a < i → w a < i) (hc : en_cp b i j = true) : en_V b n (en_pr w i j) := by
  obtain ⟨h1, h2, h3⟩ := h
  have hj1 := hj j (Nat.le_refl j)
  refine ⟨en_V1_pr h1 hij hjn hw hj1, fun p hp => ?_, fun p q hpq hq => ?_⟩
  · rw [en_pr_at] at hp ⊢
    by_cases e1 : p = j
    · rw [if_pos e1] at hp
      omega
    · rw [if_neg e1] at hp ⊢
      by_cases e2 : p = i
      · subst e2
        rw [if_pos rfl, Int.toNat_natCast]
        exact hc
      · rw [if_neg e2] at hp ⊢
        exact h2 p hp
  · rw [en_pr_at p] at hq ⊢
    rw [en_pr_at q]
    by_cases e1 : p = j
    · rw [if_pos e1] at hq
      omega
    · rw [if_neg e1] at hq ⊢
      by_cases e2 : p = i
      · rw [if_pos e2] at hq ⊢
        rw [if_neg (by omega), if_neg (by omega)]
        rcases h1 q with h4 | ⟨a1, a2, a3, a4, a5⟩
        · exact Or.inl h4
        · right
          have h5 := hlt q
          refine ⟨?_, h5⟩
          obtain ⟨c, hcq⟩ : ∃ c : Nat, w q = c := ⟨(w q).toNat, by omega⟩
          rw [hcq, Int.toNat_natCast] at a5
          by_cases e3 : c = i
          · rw [e3, hw] at a5
            omega
          · by_cases e4 : c < i
            · have := hA c e4
              omega
            · omega
      · rw [if_neg e2] at hq ⊢
        have hp9 := hlt p
        rw [if_neg (by omega)]
        by_cases e4 : q = i
        · have := hA p (by omega)
          omega
        · rw [if_neg e4]
          exact h3 p q hpq hq
theorem ps_I_step {b : Nat → Nat} {n p : Nat} {c : Int32} {w w2 : Nat → Int} {os os2 : List Nat} (h : ps_I b n p w os) (hs : ps_step b n p c (w, os) = some (w2, os2)) : ps_I b n (p + 1) w2 os2 := by
  obtain ⟨h1, h2, h3, h4, h5, h6⟩ := h
  unfold ps_step at hs
  by_cases e1 : n ≤ p
  · rw [if_pos e1] at hs
    cases hs
  rw [if_neg e1] at hs
  by_cases e2 : c = 40
  · rw [if_pos e2] at hs
    cases hs
    refine ⟨by omega, h2, fun q hq => h3 q (by omega), fun q => by have := h4 q; show w q < _; omega, fun i hi => ?_, ?_⟩
    · rcases List.mem_cons.mp hi with h7 | h7
      · subst h7
        exact ⟨by omega, h3 i (Nat.le_refl i), fun a _ => h4 a⟩
      · obtain ⟨g1, g2, g3⟩ := h5 i h7
        exact ⟨by omega, g2, g3⟩
    · exact List.pairwise_cons.mpr ⟨fun i hi => (h5 i hi).1, h6⟩
  rw [if_neg e2] at hs
  by_cases e3 : c = 41
  · rw [if_pos e3] at hs
    match os, h5, h6, hs with
    | [], _, _, hs => cases hs
    | i :: os, h5, h6, hs =>
      have hs : (if en_cp b i p = true then some (en_pr w i p, os) else none) = some (w2, os2) := hs
      by_cases e4 : en_cp b i p = true
      · rw [if_pos e4] at hs
        cases hs
        obtain ⟨g1, g2, g3⟩ := h5 i List.mem_cons_self
        rw [List.pairwise_cons] at h6
        refine ⟨by omega, ps_V_pr h2 g1 (by omega) g2 h3 h4 g3 e4, fun q hq => ?_, fun q => ?_, fun k hk => ?_, h6.2⟩
        · rw [en_pr_at, if_neg (by omega), if_neg (by omega)]
          exact h3 q (by omega)
        · rw [en_pr_at]
          have := h4 q
          split
          · omega
          · split <;> omega
        · obtain ⟨k1, k2, k3⟩ := h5 k (List.mem_cons_of_mem _ hk)
          have k4 := h6.1 k hk
          refine ⟨by omega, ?_, fun a ha => ?_⟩
          · rw [en_pr_at, if_neg (by omega), if_neg (by omega)]
            exact k2
          · rw [en_pr_at, if_neg (by omega), if_neg (by omega)]
            exact k3 a ha
      · rw [if_neg e4] at hs
        cases hs
  rw [if_neg e3] at hs
  by_cases e4 : c = 46
  · rw [if_pos e4] at hs
    cases hs
    exact ⟨by omega, h2, fun q hq => h3 q (by omega), fun q => by have := h4 q; omega, fun i hi => by
      obtain ⟨g1, g2, g3⟩ := h5 i hi
      exact ⟨by omega, g2, g3⟩, h6⟩
  · rw [if_neg e4] at hs
    cases hs
theorem mo_pc_free {w : Nat → Int} {p : Nat} (h : w p = -1) : mo_pc w (p + 1) = mo_pc w p := by
  show mo_pc w p + (if (p : Int) < w p then 1 else 0) = _
  rw [if_neg (by omega), Nat.add_zero]
theorem mo_pc_pr {w : Nat → Int} {i j : Nat} (hi : w i = -1) (hj : w j = -1) (hij : i < j) : ∀ k, mo_pc (en_pr w i j) k = mo_pc w k + (if i < k then 1 else 0)
  | 0 => rfl
  | k + 1 => by
    have ih := mo_pc_pr hi hj hij k
    show mo_pc (en_pr w i j) k + (if (k : Int) < en_pr w i j k then 1 else 0) = mo_pc w k + (if (k : Int) < w k then 1 else 0) + _
    rw [ih, en_pr_at]
    by_cases e1 : k = j
    · subst e1
      rw [if_pos rfl, if_neg (show ¬ ((k : Int) < (i : Int)) by omega), if_neg (show ¬ (k : Int) < w k by omega), if_pos (show i < k by omega), if_pos (show i < k + 1 by omega)]
    · rw [if_neg e1]
      by_cases e2 : k = i
      · subst e2
        rw [if_pos rfl, if_pos (show (k : Int) < (j : Int) by omega), if_neg (show ¬ (k : Int) < w k by omega), if_neg (show ¬ k < k by omega), if_pos (show k < k + 1 by omega)]
      · rw [if_neg e2]
        by_cases e3 : i < k
        · rw [if_pos e3, if_pos (show i < k + 1 by omega)]
          omega
        · rw [if_neg e3, if_neg (show ¬ i < k + 1 by omega)]
          omega
/-- the stack in the array of open places -/
def ps_st (os : List Nat) (f : Nat → Nat) : Prop := ∀ k, k < os.length → f k = os.getD (os.length - 1 - k) 0
theorem ps_st_push {os : List Nat} {f : Nat → Nat} (h : ps_st os f) (p : Nat) : ps_st (p :: os) (va_up f os.length p) := by
  intro k hk
  rw [List.length_cons] at hk ⊢
  by_cases e : k = os.length
  · rw [e, va_up_self, show os.length + 1 - 1 - os.length = 0 by omega]
    rfl
  · rw [va_up_ne _ _ e, h k (by omega), show os.length + 1 - 1 - k = (os.length - 1 - k) + 1 by omega]
    rfl
theorem ps_st_pop {i : Nat} {os : List Nat} {f : Nat → Nat} (h : ps_st (i :: os) f) : f os.length = i ∧ ps_st os f := by
  refine ⟨?_, fun k hk => ?_⟩
  · rw [h os.length (by simp), List.length_cons, show os.length + 1 - 1 - os.length = 0 by omega]
    rfl
  · rw [h k (by simp; omega), List.length_cons, show os.length + 1 - 1 - k = (os.length - 1 - k) + 1 by omega]
    rfl
theorem ps_len {p : Nat} : ∀ {os : List Nat}, os.Pairwise (· > ·) → (∀ i ∈ os, i < p) → os.length ≤ p
  | [], _, _ => Nat.zero_le _
  | i :: os, h, hl => by
    rw [List.pairwise_cons] at h
    have h1 := ps_len (p := i) h.2 (fun k hk => h.1 k hk)
    have h2 := hl i List.mem_cons_self
    rw [List.length_cons]
    omega
section SP
variable (l : Launch) {K : Nat → ClassId} {sa : Nat → Nat} {ad : Nat → Nat} {I : Nat → Int32} {V : Nat → Nat → Int32} {L : Nat → Int64} {C : Nat → Int32} {G : Nat → Nat} {R : Nat → Nat} {n : Nat} {b : Nat → Nat} {w : Nat → Int}
def ps_rel1 (I : Nat → Int32) (V : Nat → Nat → Int32) (p : Nat) (w : Nat → Int) (os : List Nat) : Prop := I 4 = nI os.length ∧ I 5 = nI p ∧ I 6 = nI (mo_pc w p) ∧ V 154 = (fun k => iI (w k)) ∧ ∃ f : Nat → Nat, V 155 = (fun k => nI (f k)) ∧ ps_st os f
def ps_fr1 (I I2 : Nat → Int32) (V V2 : Nat → Nat → Int32) : Prop := (∀ k, k ≠ 4 → k ≠ 5 → k ≠ 6 → I2 k = I k) ∧ ∀ c, c ≠ 154 → c ≠ 155 → V2 c = V c
theorem c_SR1_add_no (hS : st_ok K ad (gw K ad I V L C G R) n b) {p : Nat} {os : List Nat} (hI : ps_I b n p w os) (hr : ps_rel1 I V p w os) (q : Int32) (hs : ps_step b n p q (w, os) = none) : jl_C l K sa yn_SR_add bc_SR_add 2 (some .boolean) 3 75 168 ad [.ref (ad 153), .int q] (gw K ad I V L C G R) (some (.int 0)) (gw K ad I V L C G R) := by
  obtain ⟨h1, h2, h3, h4, h5, h6⟩ := hI
  obtain ⟨r1, r2, r3, r4, f, r5, r6⟩ := hr
  have hn := hS.2.2.1
  have hlen := ps_len h6 (fun i hi => (h5 i hi).1)
  unfold ps_step at hs
  by_cases e1 : n ≤ p
  · exact c_SR1_add_full l hS r2 (by omega) e1 q
  rw [if_neg e1] at hs
  by_cases e2 : q = 40
  · rw [if_pos e2] at hs
    cases hs
  rw [if_neg e2] at hs
  by_cases e3 : q = 41
  · rw [if_pos e3] at hs
    subst e3
    have h3f : ∀ k, k < os.length → f k < 18 := fun k hk => by
      rw [r6 k hk]
      have h7 : os.getD (os.length - 1 - k) 0 ∈ os := by
        rw [List.getD_eq_getElem?_getD, List.getElem?_eq_getElem (show os.length - 1 - k < os.length by omega)]
        exact List.getElem_mem _
      have := (h5 _ h7).1
      omega
    refine c_SR1_add_close_no l hS r1 r2 r5 (by omega) (by omega) h3f (fun h0 => ?_)
    match os, r6, hs, h0 with
    | i :: os, r6, hs, h0 =>
      have hs : (if en_cp b i p = true then some (en_pr w i p, os) else none) = none := hs
      have h8 := (ps_st_pop r6).1
      rw [List.length_cons, show os.length + 1 - 1 = os.length by omega, h8]
      cases h9 : en_cp b i p with
      | false => rfl
      | true =>
        rw [h9, if_pos rfl] at hs
        cases hs
  rw [if_neg e3] at hs
  by_cases e4 : q = 46
  · rw [if_pos e4] at hs
    cases hs
  · exact c_SR1_add_bad l hS r2 (by omega) q e2 e3 e4
theorem c_SR1_add_yes (hS : st_ok K ad (gw K ad I V L C G R) n b) {p : Nat} {os os2 : List Nat} {w2 : Nat → Int} (hI : ps_I b n p w os) (hr : ps_rel1 I V p w os) (q : Int32) (hs : ps_step b n p q (w, os) = some (w2, os2)) : ∃ I2 V2, ps_fr1 I I2 V V2 ∧ ps_rel1 I2 V2 (p + 1) w2 os2 ∧ ∀ l : Launch, jl_C l K sa yn_SR_add bc_SR_add 2 (some .boolean) 3 75 168 ad [.ref (ad 153), .int q] (gw K ad I V L C G R) (some (.int 1)) (gw K ad I2 V2 L C G R) := by
  obtain ⟨h1, h2, h3, h4, h5, h6⟩ := hI
  obtain ⟨r1, r2, r3, r4, f, r5, r6⟩ := hr
  have hn := hS.2.2.1
  have hlen := ps_len h6 (fun i hi => (h5 i hi).1)
  unfold ps_step at hs
  by_cases e1 : n ≤ p
  · rw [if_pos e1] at hs
    cases hs
  rw [if_neg e1] at hs
  by_cases e2 : q = 40
  · rw [if_pos e2] at hs
    cases hs
    subst e2
    refine ⟨_, _, ?_, ?_, fun l => c_SR1_add_open l hS r1 r2 r5 (by omega) (by omega)⟩
    · refine ⟨fun k k1 k2 k3 => ?_, fun c c1 c2 => ?_⟩
      · rw [va_up_ne _ _ k2, va_up_ne _ _ k1]
      · rw [va_up_ne _ _ c2]
    · exact ⟨rfl, rfl, by rw [mo_pc_free (h3 p (Nat.le_refl p))]; exact r3, r4, _, rfl, ps_st_push r6 p⟩
  rw [if_neg e2] at hs
  by_cases e3 : q = 41
  · rw [if_pos e3] at hs
    subst e3
    match os, r1, r6, h5, h6, hs, hlen with
    | [], _, _, _, _, hs, _ => cases hs
    | i :: os, r1, r6, h5, h6, hs, hlen =>
      have hs : (if en_cp b i p = true then some (en_pr w i p, os) else none) = some (w2, os2) := hs
      by_cases e4 : en_cp b i p = true
      · rw [if_pos e4] at hs
        cases hs
        obtain ⟨g1, g2, g3⟩ := h5 i List.mem_cons_self
        obtain ⟨p1, p2⟩ := ps_st_pop r6
        rw [List.length_cons] at r1 hlen
        have key := fun l => c_SR1_add_close_yes l (K := K) (ad := ad) (L := L) (C := C) (G := G) (R := R) (sa := sa) hS r1 r2 r3 r5 r4 (by omega) (by omega) (show p < n by omega) (by rw [show os2.length + 1 - 1 = os2.length by omega, p1]; omega) (by rw [show os2.length + 1 - 1 = os2.length by omega, p1]; exact e4)
        simp only [show os2.length + 1 - 1 = os2.length by omega, p1] at key
        refine ⟨_, _, ?_, ?_, key⟩
        · refine ⟨fun k k1 k2 k3 => ?_, fun c c1 c2 => ?_⟩
          · rw [va_up_ne _ _ k2, va_up_ne _ _ k3, va_up_ne _ _ k1]
          · rw [va_up_ne _ _ c1]
        · refine ⟨rfl, rfl, ?_, rfl, f, r5, p2⟩
          show nI (mo_pc w p + 1) = nI (mo_pc (en_pr w i p) (p + 1))
          rw [mo_pc_pr g2 (h3 p (Nat.le_refl p)) g1, if_pos (by omega), mo_pc_free (h3 p (Nat.le_refl p))]
      · rw [if_neg e4] at hs
        cases hs
  rw [if_neg e3] at hs
  by_cases e4 : q = 46
  · rw [if_pos e4] at hs
    cases hs
    subst e4
    refine ⟨_, _, ?_, ?_, fun l => c_SR1_add_dot l hS r2 (by omega)⟩
    · refine ⟨fun k k1 k2 k3 => ?_, fun c c1 c2 => rfl⟩
      rw [va_up_ne _ _ k2]
    · exact ⟨r1, rfl, by rw [mo_pc_free (h3 p (Nat.le_refl p))]; exact r3, r4, f, r5, r6⟩
  · rw [if_neg e4] at hs
    cases hs
def ps_rel2 (I : Nat → Int32) (V : Nat → Nat → Int32) (p : Nat) (w : Nat → Int) (os : List Nat) : Prop := I 7 = nI os.length ∧ I 8 = nI p ∧ I 9 = nI (mo_pc w p) ∧ V 157 = (fun k => iI (w k)) ∧ ∃ f : Nat → Nat, V 158 = (fun k => nI (f k)) ∧ ps_st os f
def ps_fr2 (I I2 : Nat → Int32) (V V2 : Nat → Nat → Int32) : Prop := (∀ k, k ≠ 7 → k ≠ 8 → k ≠ 9 → I2 k = I k) ∧ ∀ c, c ≠ 157 → c ≠ 158 → V2 c = V c
theorem c_SR2_add_no (hS : st_ok K ad (gw K ad I V L C G R) n b) {p : Nat} {os : List Nat} (hI : ps_I b n p w os) (hr : ps_rel2 I V p w os) (q : Int32) (hs : ps_step b n p q (w, os) = none) : jl_C l K sa yn_SR_add bc_SR_add 2 (some .boolean) 3 75 168 ad [.ref (ad 156), .int q] (gw K ad I V L C G R) (some (.int 0)) (gw K ad I V L C G R) := by
  obtain ⟨h1, h2, h3, h4, h5, h6⟩ := hI
  obtain ⟨r1, r2, r3, r4, f, r5, r6⟩ := hr
  have hn := hS.2.2.1
  have hlen := ps_len h6 (fun i hi => (h5 i hi).1)
  unfold ps_step at hs
  by_cases e1 : n ≤ p
  · exact c_SR2_add_full l hS r2 (by omega) e1 q
  rw [if_neg e1] at hs
  by_cases e2 : q = 40
  · rw [if_pos e2] at hs
    cases hs
  rw [if_neg e2] at hs
  by_cases e3 : q = 41
  · rw [if_pos e3] at hs
    subst e3
    have h3f : ∀ k, k < os.length → f k < 18 := fun k hk => by
      rw [r6 k hk]
      have h7 : os.getD (os.length - 1 - k) 0 ∈ os := by
        rw [List.getD_eq_getElem?_getD, List.getElem?_eq_getElem (show os.length - 1 - k < os.length by omega)]
        exact List.getElem_mem _
      have := (h5 _ h7).1
      omega
    refine c_SR2_add_close_no l hS r1 r2 r5 (by omega) (by omega) h3f (fun h0 => ?_)
    match os, r6, hs, h0 with
    | i :: os, r6, hs, h0 =>
      have hs : (if en_cp b i p = true then some (en_pr w i p, os) else none) = none := hs
      have h8 := (ps_st_pop r6).1
      rw [List.length_cons, show os.length + 1 - 1 = os.length by omega, h8]
      cases h9 : en_cp b i p with
      | false => rfl
      | true =>
        rw [h9, if_pos rfl] at hs
        cases hs
  rw [if_neg e3] at hs
  by_cases e4 : q = 46
  · rw [if_pos e4] at hs
    cases hs
  · exact c_SR2_add_bad l hS r2 (by omega) q e2 e3 e4
theorem c_SR2_add_yes (hS : st_ok K ad (gw K ad I V L C G R) n b) {p : Nat} {os os2 : List Nat} {w2 : Nat → Int} (hI : ps_I b n p w os) (hr : ps_rel2 I V p w os) (q : Int32) (hs : ps_step b n p q (w, os) = some (w2, os2)) : ∃ I2 V2, ps_fr2 I I2 V V2 ∧ ps_rel2 I2 V2 (p + 1) w2 os2 ∧ ∀ l : Launch, jl_C l K sa yn_SR_add bc_SR_add 2 (some .boolean) 3 75 168 ad [.ref (ad 156), .int q] (gw K ad I V L C G R) (some (.int 1)) (gw K ad I2 V2 L C G R) := by
  obtain ⟨h1, h2, h3, h4, h5, h6⟩ := hI
  obtain ⟨r1, r2, r3, r4, f, r5, r6⟩ := hr
  have hn := hS.2.2.1
  have hlen := ps_len h6 (fun i hi => (h5 i hi).1)
  unfold ps_step at hs
  by_cases e1 : n ≤ p
  · rw [if_pos e1] at hs
    cases hs
  rw [if_neg e1] at hs
  by_cases e2 : q = 40
  · rw [if_pos e2] at hs
    cases hs
    subst e2
    refine ⟨_, _, ?_, ?_, fun l => c_SR2_add_open l hS r1 r2 r5 (by omega) (by omega)⟩
    · refine ⟨fun k k1 k2 k3 => ?_, fun c c1 c2 => ?_⟩
      · rw [va_up_ne _ _ k2, va_up_ne _ _ k1]
      · rw [va_up_ne _ _ c2]
    · exact ⟨rfl, rfl, by rw [mo_pc_free (h3 p (Nat.le_refl p))]; exact r3, r4, _, rfl, ps_st_push r6 p⟩
  rw [if_neg e2] at hs
  by_cases e3 : q = 41
  · rw [if_pos e3] at hs
    subst e3
    match os, r1, r6, h5, h6, hs, hlen with
    | [], _, _, _, _, hs, _ => cases hs
    | i :: os, r1, r6, h5, h6, hs, hlen =>
      have hs : (if en_cp b i p = true then some (en_pr w i p, os) else none) = some (w2, os2) := hs
      by_cases e4 : en_cp b i p = true
      · rw [if_pos e4] at hs
        cases hs
        obtain ⟨g1, g2, g3⟩ := h5 i List.mem_cons_self
        obtain ⟨p1, p2⟩ := ps_st_pop r6
        rw [List.length_cons] at r1 hlen
        have key := fun l => c_SR2_add_close_yes l (K := K) (ad := ad) (L := L) (C := C) (G := G) (R := R) (sa := sa) hS r1 r2 r3 r5 r4 (by omega) (by omega) (show p < n by omega) (by rw [show os2.length + 1 - 1 = os2.length by omega, p1]; omega) (by rw [show os2.length + 1 - 1 = os2.length by omega, p1]; exact e4)
        simp only [show os2.length + 1 - 1 = os2.length by omega, p1] at key
        refine ⟨_, _, ?_, ?_, key⟩
        · refine ⟨fun k k1 k2 k3 => ?_, fun c c1 c2 => ?_⟩
          · rw [va_up_ne _ _ k2, va_up_ne _ _ k3, va_up_ne _ _ k1]
          · rw [va_up_ne _ _ c1]
        · refine ⟨rfl, rfl, ?_, rfl, f, r5, p2⟩
          show nI (mo_pc w p + 1) = nI (mo_pc (en_pr w i p) (p + 1))
          rw [mo_pc_pr g2 (h3 p (Nat.le_refl p)) g1, if_pos (by omega), mo_pc_free (h3 p (Nat.le_refl p))]
      · rw [if_neg e4] at hs
        cases hs
  rw [if_neg e3] at hs
  by_cases e4 : q = 46
  · rw [if_pos e4] at hs
    cases hs
    subst e4
    refine ⟨_, _, ?_, ?_, fun l => c_SR2_add_dot l hS r2 (by omega)⟩
    · refine ⟨fun k k1 k2 k3 => ?_, fun c c1 c2 => rfl⟩
      rw [va_up_ne _ _ k2]
    · exact ⟨r1, rfl, by rw [mo_pc_free (h3 p (Nat.le_refl p))]; exact r3, r4, f, r5, r6⟩
  · rw [if_neg e4] at hs
    cases hs
end SP

