/-! The tables by their equations; they stay so when the strand grows; they are lower bounds. -/
theorem cg_cp {b b2 : Nat → Nat} {i j : Nat} (hi : b i = b2 i) (hj : b j = b2 j) : en_cp b i j = en_cp b2 i j := by unfold en_cp; rw [hi, hj]
theorem cg_wk {b b2 : Nat → Nat} {i j : Nat} (m : Int) (hi : b i = b2 i) (hj : b j = b2 j) : lp_wk b i j m = lp_wk b2 i j m := by unfold lp_wk; rw [hi, hj]
theorem cg_hp {b b2 : Nat → Nat} {i j : Nat} (hij : i ≤ j) (h : ∀ q, q ≤ j → b q = b2 q) : lp_hp b i j = lp_hp b2 i j := by
  have h6 : en_six b i j = en_six b2 i j := by
    by_cases e : j = i + 5
    · unfold en_six
      rw [decide_eq_true e]
      have : ∀ m, m < 6 → b (i + m) = b2 (i + m) := fun m hm => h _ (by omega)
      show (true && (List.all [0, 1, 2, 3, 4, 5] _)) = (true && (List.all [0, 1, 2, 3, 4, 5] _))
      simp only [List.all_cons, List.all_nil]
      rw [this 0 (by decide), this 1 (by decide), this 2 (by decide), this 3 (by decide), this 4 (by decide), this 5 (by decide)]
    · rw [en_six_len e, en_six_len e]
  unfold lp_hp
  rw [h6, cg_wk 5 (h i hij) (h j (Nat.le_refl j))]
theorem cg_w1 {b b2 : Nat → Nat} {i j k m : Nat} (h : ∀ q, q ≤ j → b q = b2 q) (hi : i ≤ j) (hk : k ≤ j) (hm : m ≤ j) : lp_w1 b i j k m = lp_w1 b2 i j k m := by
  unfold lp_w1
  rw [cg_wk 7 (h i hi) (h j (Nat.le_refl j)), cg_wk 7 (h k hk) (h m hm), h i hi, h j (Nat.le_refl j), h k hk, h m hm]
theorem cg_iK {b b2 : Nat → Nat} {pe pe2 : Nat → Nat → Int} {i j m : Nat} {z z2 : Int} (h : ∀ q, q ≤ j → b q = b2 q) (hi : i ≤ j) (hm : m < j) (hp : ∀ k, k ≤ m → pe k m = pe2 k m) (hz : z = z2) : ∀ c, i + c ≤ m → fo_iK b pe i j m z c = fo_iK b2 pe2 i j m z2 c
  | 0, _ => hz
  | c + 1, hc => by
    unfold fo_iK
    rw [cg_iK h hi hm hp hz c (by omega), cg_cp (h (i + 1 + c) (by omega)) (h m (by omega)), cg_w1 h hi (show i + 1 + c ≤ j by omega) (show m ≤ j by omega), hp (i + 1 + c) (by omega)]
theorem cg_oK {b b2 : Nat → Nat} {pe pe2 : Nat → Nat → Int} {rg rg2 : Nat → Nat → Nat → Int} {i j : Nat} (h : ∀ q, q ≤ j → b q = b2 q) (hij : i + 4 ≤ j) (hp : ∀ k m, k ≤ m → m < j → pe k m = pe2 k m) (hr : rg 3 (i + 1) j = rg2 3 (i + 1) j) : ∀ c, c ≤ j - i - 5 → fo_oK b pe rg i j c = fo_oK b2 pe2 rg2 i j c
  | 0, _ => by
    unfold fo_oK fo_many
    rw [cg_hp (by omega) h, cg_wk 5 (h i (by omega)) (h j (Nat.le_refl j)), hr]
  | c + 1, hc => by
    unfold fo_oK
    exact cg_iK h (by omega) (by omega) (fun k hk => hp k _ hk (by omega)) (cg_oK h hij hp hr c (by omega)) _ (by omega)
theorem cg_rK {b b2 : Nat → Nat} {r : Nat} {pe pe2 : Nat → Nat → Int} {rg rg2 : Nat → Nat → Nat → Int} {s t : Nat} (h : ∀ q, q ≤ t → b q = b2 q) (hp : ∀ k, k ≤ t → pe k t = pe2 k t) (hr : ∀ r e, s ≤ e → e ≤ t → rg r s e = rg2 r s e) : ∀ c, s + c ≤ t → fo_rK b r pe rg s t c = fo_rK b2 r pe2 rg2 s t c
  | 0, hc => by
    unfold fo_rK
    rw [hr r t (by omega) (Nat.le_refl t)]
  | c + 1, hc => by
    unfold fo_rK fo_br
    rw [cg_rK h hp hr c (by omega), cg_cp (h (s + c) (by omega)) (h t (Nat.le_refl t)), cg_wk 5 (h (s + c) (by omega)) (h t (Nat.le_refl t)), hp (s + c) (by omega), hr (fo_af r) (s + c) (by omega) (by omega)]
theorem cg_cK {b b2 : Nat → Nat} {cn cn2 : Nat → Nat → Int} {s t : Nat} (h : ∀ q, q ≤ t → b q = b2 q) (hr : ∀ k e, k ≤ e → e ≤ t → cn k e = cn2 k e) : ∀ c, s + c ≤ t → fo_cK b cn s t c = fo_cK b2 cn2 s t c
  | 0, hc => hr s t (by omega) (Nat.le_refl t)
  | c + 1, hc => by
    unfold fo_cK
    rw [cg_cK h hr c (by omega), cg_cp (h (s + c) (by omega)) (h t (Nat.le_refl t)), hr s (s + c) (by omega) (by omega), hr (s + c + 1) t (by omega) (Nat.le_refl t)]
theorem cg_pK {b b2 : Nat → Nat} {cn cn2 : Nat → Nat → Int} {s t : Nat} (h : ∀ q, q ≤ t → b q = b2 q) (hr : ∀ k e, k ≤ e → e ≤ t → cn k e = cn2 k e) : ∀ c, s + c ≤ t → fo_pK b cn s t c = fo_pK b2 cn2 s t c
  | 0, hc => hr s t (by omega) (Nat.le_refl t)
  | c + 1, hc => by
    unfold fo_pK
    rw [cg_pK h hr c (by omega), cg_cp (h (s + c) (by omega)) (h t (Nat.le_refl t)), hr s (s + c) (by omega) (by omega), hr (s + c + 1) t (by omega) (Nat.le_refl t)]
theorem cg_col {b b2 : Nat → Nat} {t : Nat} {pe pe2 : Nat → Nat → Int} {T T2 : Nat → Nat → Nat → Int} (h : ∀ q, q ≤ t → b q = b2 q) (hp : ∀ k, k ≤ t → pe k t = pe2 k t) (hT : ∀ q s e, s ≤ e → e ≤ t → T q s e = T2 q s e) {q s : Nat} (hs : s ≤ t) : fo_col b t pe T q s = fo_col b2 t pe2 T2 q s := by
  unfold fo_col
  rw [cg_cK (cn2 := T2 0) h (fun k e h1 h2 => hT 0 k e h1 h2) (t - 3 - s) (by omega), cg_pK (cn2 := T2 1) h (fun k e h1 h2 => hT 1 k e h1 h2) (t - 3 - s) (by omega), cg_rK (rg2 := fun r => T2 (2 + r)) h hp (fun r e h1 h2 => hT (2 + r) s e h1 h2) (t - 3 - s) (by omega)]
/-- the tables' equations -/
def tb_ok (b : Nat → Nat) (n : Nat) (pe : Nat → Nat → Int) (T : Nat → Nat → Nat → Int) : Prop :=
  (∀ i j, i ≤ j → j < n → pe i j = (if en_cp b i j = true then fo_oK b pe (fun r => T (2 + r)) i j (j - i - 5) else 1000000)) ∧
  (∀ q s t, s ≤ t → t < n → T q s (t + 1) = fo_col b t pe T q s) ∧
  (∀ s, T 0 s s = 1 ∧ T 1 s s = 0 ∧ T 2 s s = 0 ∧ T 3 s s = 0 ∧ T 4 s s = 1000000 ∧ T 5 s s = 1000000)
theorem tb_zero {b b2 : Nat → Nat} {n : Nat} {pe : Nat → Nat → Int} {T : Nat → Nat → Nat → Int} (h : tb_ok b n pe T) : tb_ok b2 0 pe T := ⟨fun i j _ hj => absurd hj (Nat.not_lt_zero j), fun q s t _ ht => absurd ht (Nat.not_lt_zero t), h.2.2⟩
theorem tb_step {b : Nat → Nat} {n : Nat} {pe : Nat → Nat → Int} {T : Nat → Nat → Nat → Int} (a : Nat) (h : tb_ok b n pe T) : tb_ok (va_up b n a) (n + 1) (fo_pe (va_up b n a) n pe T) (fo_T (va_up b n a) n pe T) := by
  obtain ⟨h1, h2, h3⟩ := h
  obtain ⟨b2, hb2⟩ : ∃ b2, b2 = va_up b n a := ⟨_, rfl⟩
  rw [← hb2]
  have hb : ∀ q, q < n → b q = b2 q := fun q hq => by rw [hb2, va_up_ne _ _ (by omega)]
  have hpe : ∀ i j, j < n → fo_pe b2 n pe T i j = pe i j := fun i j hj => by unfold fo_pe; rw [if_neg (by omega)]
  have hT : ∀ q s e, e ≤ n → fo_T b2 n pe T q s e = T q s e := fun q s e he => by unfold fo_T; rw [if_neg (by omega)]
  refine ⟨fun i j hij hj => ?_, fun q s t hst ht => ?_, fun s => ?_⟩
  · by_cases e : j = n
    · subst e
      show (if j = j then (if en_cp b2 i j = true then fo_oK b2 pe (fun r => T (2 + r)) i j (j - i - 5) else 1000000) else pe i j) = _
      rw [if_pos rfl]
      by_cases hc : en_cp b2 i j = true
      · rw [if_pos hc, if_pos hc]
        have h4 := (en_cp_4 hc).1
        exact cg_oK (fun _ _ => rfl) h4 (fun k m _ hm => (hpe k m hm).symm) (hT 5 (i + 1) j (Nat.le_refl j)).symm _ (Nat.le_refl _)
      · rw [if_neg hc, if_neg hc]
    · have hjn : j < n := by omega
      rw [hpe i j hjn, h1 i j hij hjn, cg_cp (hb i (by omega)) (hb j hjn)]
      by_cases hc : en_cp b2 i j = true
      · rw [if_pos hc, if_pos hc]
        have h4 := (en_cp_4 hc).1
        exact cg_oK (fun q hq => hb q (by omega)) h4 (fun k m _ hm => (hpe k m (by omega)).symm) (hT 5 (i + 1) j (by omega)).symm _ (Nat.le_refl _)
      · rw [if_neg hc, if_neg hc]
  · by_cases e : t = n
    · subst e
      show (if s ≤ t ∧ t + 1 = t + 1 then fo_col b2 t (fo_pe b2 t pe T) T q s else T q s (t + 1)) = _
      rw [if_pos ⟨hst, rfl⟩]
      exact cg_col (fun _ _ => rfl) (fun _ _ => rfl) (fun q s e _ he => (hT q s e he).symm) hst
    · have htn : t < n := by omega
      rw [hT q s (t + 1) (by omega), h2 q s t hst htn]
      exact cg_col (fun q hq => hb q (by omega)) (fun k _ => (hpe k t htn).symm) (fun q s e _ he => (hT q s e (by omega)).symm) hst
  · have : ∀ q, fo_T b2 n pe T q s s = T q s s := fun q => by unfold fo_T; rw [if_neg (by omega)]
    rw [this, this, this, this, this, this]
    exact h3 s
theorem fo_mi_le (a c : Int) : fo_mi a c ≤ a ∧ fo_mi a c ≤ c := by
  unfold fo_mi
  split <;> omega
theorem fo_rK_mono {b : Nat → Nat} {r : Nat} {pe : Nat → Nat → Int} {rg : Nat → Nat → Nat → Int} {s t : Nat} (c : Nat) : ∀ d, fo_rK b r pe rg s t (c + d) ≤ fo_rK b r pe rg s t c
  | 0 => Int.le_refl _
  | d + 1 => by
    have ih := fo_rK_mono (b := b) (r := r) (pe := pe) (rg := rg) (s := s) (t := t) c d
    show (if en_cp b (s + (c + d)) t = true then fo_mi (fo_rK b r pe rg s t (c + d)) (rg (fo_af r) s (s + (c + d)) + fo_br b r pe (s + (c + d)) t) else fo_rK b r pe rg s t (c + d)) ≤ _
    split
    · have := fo_mi_le (fo_rK b r pe rg s t (c + d)) (rg (fo_af r) s (s + (c + d)) + fo_br b r pe (s + (c + d)) t)
      omega
    · exact ih
theorem fo_iK_mono {b : Nat → Nat} {pe : Nat → Nat → Int} {i j m : Nat} {z : Int} (c : Nat) : ∀ d, fo_iK b pe i j m z (c + d) ≤ fo_iK b pe i j m z c
  | 0 => Int.le_refl _
  | d + 1 => by
    have ih := fo_iK_mono (b := b) (pe := pe) (i := i) (j := j) (m := m) (z := z) c d
    show (if en_cp b (i + 1 + (c + d)) m = true then fo_mi (fo_iK b pe i j m z (c + d)) (lp_w1 b i j (i + 1 + (c + d)) m + pe (i + 1 + (c + d)) m) else fo_iK b pe i j m z (c + d)) ≤ _
    split
    · have := fo_mi_le (fo_iK b pe i j m z (c + d)) (lp_w1 b i j (i + 1 + (c + d)) m + pe (i + 1 + (c + d)) m)
      omega
    · exact ih
theorem fo_oK_mono {b : Nat → Nat} {pe : Nat → Nat → Int} {rg : Nat → Nat → Nat → Int} {i j : Nat} (c : Nat) : ∀ d, fo_oK b pe rg i j (c + d) ≤ fo_oK b pe rg i j c
  | 0 => Int.le_refl _
  | d + 1 => by
    have ih := fo_oK_mono (b := b) (pe := pe) (rg := rg) (i := i) (j := j) c d
    show fo_iK b pe i j (j - 1 - (c + d)) (fo_oK b pe rg i j (c + d)) (j - 1 - (c + d) - 4 - i) ≤ _
    have h := fo_iK_mono (b := b) (pe := pe) (i := i) (j := j) (m := j - 1 - (c + d)) (z := fo_oK b pe rg i j (c + d)) 0 (j - 1 - (c + d) - 4 - i)
    rw [Nat.zero_add] at h
    have h2 : fo_iK b pe i j (j - 1 - (c + d)) (fo_oK b pe rg i j (c + d)) 0 = fo_oK b pe rg i j (c + d) := rfl
    omega
theorem tb_r {b : Nat → Nat} {n : Nat} {pe : Nat → Nat → Int} {T : Nat → Nat → Nat → Int} (h : tb_ok b n pe T) {r s t : Nat} (hs : s ≤ t) (ht : t < n) : T (2 + r) s (t + 1) = fo_rK b r pe (fun r => T (2 + r)) s t (t - 3 - s) := by
  rw [h.2.1 (2 + r) s t hs ht]
  unfold fo_col
  rw [if_neg (by omega), if_neg (by omega), show 2 + r - 2 = r by omega]
theorem tb_r1 {b : Nat → Nat} {n : Nat} {pe : Nat → Nat → Int} {T : Nat → Nat → Nat → Int} (h : tb_ok b n pe T) {r s t : Nat} (hs : s ≤ t) (ht : t < n) : T (2 + r) s (t + 1) ≤ T (2 + r) s t + fo_pp r := by
  rw [tb_r h hs ht]
  have := fo_rK_mono (b := b) (r := r) (pe := pe) (rg := fun r => T (2 + r)) (s := s) (t := t) 0 (t - 3 - s)
  rw [Nat.zero_add] at this
  exact this
theorem tb_LB {b : Nat → Nat} {n : Nat} {pe : Nat → Nat → Int} {T : Nat → Nat → Nat → Int} (h : tb_ok b n pe T) : nl_LB b n pe T := by
  have up : ∀ r s e d : Nat, s ≤ e → e + d ≤ n → T (2 + r) s (e + d) ≤ T (2 + r) s e + fo_pp r * (d : Int) := by
    intro r s e d
    induction d with
    | zero => intro _ _; simp
    | succ d ih =>
      intro hs he
      have h1 := ih hs (by omega)
      have h2 := tb_r1 h (r := r) (show s ≤ e + d by omega) (show e + d < n by omega)
      rw [show e + (d + 1) = e + d + 1 by omega]
      have h3 : fo_pp r * ((d + 1 : Nat) : Int) = fo_pp r * (d : Int) + fo_pp r := by rw [Int.natCast_add, Int.mul_add]; simp
      omega
  refine ⟨fun r s e hr hs he => ?_, fun r s i j e hr hs hj he hc => ?_, fun i j hj hc => ?_⟩
  · have h1 := up r s s (e - s) (Nat.le_refl s) (by omega)
    rw [show s + (e - s) = e by omega, show ((e - s : Nat) : Int) = (e : Int) - s by omega] at h1
    have h2 := h.2.2 s
    have h3 : T (2 + r) s s = 0 := by
      match r, hr with
      | 0, _ => exact h2.2.2.1
      | 1, _ => exact h2.2.2.2.1
    omega
  · have h4 := (en_cp_4 hc).1
    have h1 := up r s (j + 1) (e - (j + 1)) (by omega) (by omega)
    rw [show j + 1 + (e - (j + 1)) = e by omega, show ((e - (j + 1) : Nat) : Int) = (e : Int) - 1 - j by omega, tb_r h (show s ≤ j by omega) (show j < n by omega)] at h1
    have h2 := fo_rK_mono (b := b) (r := r) (pe := pe) (rg := fun r => T (2 + r)) (s := s) (t := j) (i - s + 1) (j - 3 - s - (i - s + 1))
    rw [show i - s + 1 + (j - 3 - s - (i - s + 1)) = j - 3 - s by omega] at h2
    have h3 : fo_rK b r pe (fun r => T (2 + r)) s j (i - s + 1) ≤ T (2 + fo_af r) s i + fo_br b r pe i j := by
      unfold fo_rK
      rw [show s + (i - s) = i by omega, if_pos hc]
      exact (fo_mi_le _ _).2
    unfold fo_br at h3
    omega
  · have h4 := (en_cp_4 hc).1
    rw [h.1 i j (by omega) hj, if_pos hc]
    have h0 := fo_oK_mono (b := b) (pe := pe) (rg := fun r => T (2 + r)) (i := i) (j := j) 0 (j - i - 5)
    rw [Nat.zero_add] at h0
    have h5 : fo_oK b pe (fun r => T (2 + r)) i j 0 = fo_mi (lp_hp b i j) (38 + lp_wk b i j 5 + T 5 (i + 1) j) := rfl
    have h6 := fo_mi_le (lp_hp b i j) (38 + lp_wk b i j 5 + T 5 (i + 1) j)
    refine ⟨by omega, by omega, fun k m hk hm hkm => ?_⟩
    have h7 := (en_cp_4 hkm).1
    have h8 := fo_oK_mono (b := b) (pe := pe) (rg := fun r => T (2 + r)) (i := i) (j := j) (j - 1 - m + 1) (j - i - 5 - (j - 1 - m + 1))
    rw [show j - 1 - m + 1 + (j - i - 5 - (j - 1 - m + 1)) = j - i - 5 by omega] at h8
    have h9 : fo_oK b pe (fun r => T (2 + r)) i j (j - 1 - m + 1) = fo_iK b pe i j m (fo_oK b pe (fun r => T (2 + r)) i j (j - 1 - m)) (m - 4 - i) := by
      conv => lhs; unfold fo_oK
      rw [show j - 1 - (j - 1 - m) = m by omega]
    have g1 := fo_iK_mono (b := b) (pe := pe) (i := i) (j := j) (m := m) (z := fo_oK b pe (fun r => T (2 + r)) i j (j - 1 - m)) (k - i - 1 + 1) (m - 4 - i - (k - i - 1 + 1))
    rw [show k - i - 1 + 1 + (m - 4 - i - (k - i - 1 + 1)) = m - 4 - i by omega] at g1
    have g2 : fo_iK b pe i j m (fo_oK b pe (fun r => T (2 + r)) i j (j - 1 - m)) (k - i - 1 + 1) ≤ lp_w1 b i j k m + pe k m := by
      unfold fo_iK
      rw [show i + 1 + (k - i - 1) = k by omega, if_pos hkm]
      exact (fo_mi_le _ _).2
    omega

