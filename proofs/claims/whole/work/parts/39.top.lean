/-! What is directly within a part of a structure: parting, the last pair; sums of loops over it. -/
theorem tp_empty {w : Nat → Int} {e : Nat} : ∀ (d p : Nat), e - p ≤ d → (tp_l w p e).1 = [] → ∀ x : Nat, p ≤ x → x < e → ¬ (x : Int) < w x
  | 0, p, hd, _, x, h1, h2 => by omega
  | d + 1, p, hd, h, x, h1, h2 => by
    have hp : p < e := by omega
    by_cases e1 : (p : Int) < w p
    · obtain ⟨q, hq⟩ : ∃ q : Nat, w p = q := ⟨(w p).toNat, by omega⟩
      rw [tp_pair hp (show p < q by omega) hq] at h
      cases h
    · rw [tp_free hp e1] at h
      by_cases e2 : x = p
      · rw [e2]
        exact e1
      · exact tp_empty d (p + 1) (by omega) h x (by omega) h2
theorem tp_none {w : Nat → Int} {e : Nat} : ∀ (d p : Nat), e - p = d → (∀ x : Nat, p ≤ x → x < e → ¬ (x : Int) < w x) → tp_l w p e = ([], e - p)
  | 0, p, hd, _ => by rw [tp_end (by omega), hd]
  | d + 1, p, hd, h => by
    rw [tp_free (by omega) (h p (Nat.le_refl p) (by omega)), tp_none d (p + 1) (by omega) (fun x h1 h2 => h x (by omega) h2)]
    show ([], e - (p + 1) + 1) = (([] : List (Nat × Nat)), e - p)
    rw [show e - (p + 1) + 1 = e - p by omega]
theorem tp_app {w : Nat → Int} {k e : Nat} (hke : k ≤ e) : ∀ (d p : Nat), k - p ≤ d → p ≤ k → (∀ x : Nat, p ≤ x → x < k → (x : Int) < w x → w x < k) → tp_l w p e = ((tp_l w p k).1 ++ (tp_l w k e).1, (tp_l w p k).2 + (tp_l w k e).2)
  | 0, p, hd, hp, _ => by
    have : p = k := by omega
    subst this
    rw [tp_end (w := w) (Nat.le_refl p)]
    simp
  | d + 1, p, hd, hp, h => by
    by_cases e0 : p = k
    · subst e0
      rw [tp_end (w := w) (Nat.le_refl p)]
      simp
    · by_cases e1 : (p : Int) < w p
      · obtain ⟨q, hq⟩ : ∃ q : Nat, w p = q := ⟨(w p).toNat, by omega⟩
        have hqk := h p (Nat.le_refl p) (by omega) e1
        rw [tp_pair (show p < e by omega) (show p < q by omega) hq, tp_pair (show p < k by omega) (show p < q by omega) hq, tp_app hke d (q + 1) (by omega) (by omega) (fun x h1 h2 => h x (by omega) h2)]
        rfl
      · rw [tp_free (show p < e by omega) e1, tp_free (show p < k by omega) e1, tp_app hke d (p + 1) (by omega) (by omega) (fun x h1 h2 => h x (by omega) h2)]
        refine Prod.ext rfl ?_
        show (tp_l w (p + 1) k).2 + (tp_l w k e).2 + 1 = (tp_l w (p + 1) k).2 + 1 + (tp_l w k e).2
        omega
theorem tp_split {w : Nat → Int} {s k m e : Nat} (hs : s ≤ k) (hkm : k < m) (hm : m < e) (hw : w k = m) (hl : ∀ x : Nat, s ≤ x → x < k → (x : Int) < w x → w x < k) (ht : ∀ x : Nat, m < x → x < e → ¬ (x : Int) < w x) : tp_l w s e = ((tp_l w s k).1 ++ [(k, m)], (tp_l w s k).2 + (e - 1 - m)) := by
  rw [tp_app (show k ≤ e by omega) (k - s) s (Nat.le_refl _) hs hl, tp_pair (show k < e by omega) hkm hw, tp_none (e - (m + 1)) (m + 1) rfl (fun x h1 h2 => ht x (by omega) h2)]
  show ((tp_l w s k).1 ++ [(k, m)], (tp_l w s k).2 + (e - (m + 1))) = _
  rw [show e - (m + 1) = e - 1 - m by omega]
/-- the last pair directly within -/
theorem tp_last {b : Nat → Nat} {n : Nat} {w : Nat → Int} (hw : en_V b n w) {e : Nat} : ∀ (d p : Nat), e - p ≤ d → (∀ x : Nat, p ≤ x → x < e → (x : Int) < w x → w x < e) → (tp_l w p e).1 ≠ [] → ∃ k m : Nat, p ≤ k ∧ k < m ∧ m < e ∧ w k = m ∧ (∀ x : Nat, p ≤ x → x < k → (x : Int) < w x → w x < k) ∧ ∀ x : Nat, m < x → x < e → ¬ (x : Int) < w x
  | 0, p, hd, _, hne => absurd (by rw [tp_end (by omega)]) hne
  | d + 1, p, hd, hc, hne => by
    by_cases he : e ≤ p
    · exact absurd (by rw [tp_end he]) hne
    by_cases e1 : (p : Int) < w p
    · obtain ⟨q, hq⟩ : ∃ q : Nat, w p = q := ⟨(w p).toNat, by omega⟩
      have hqe := hc p (Nat.le_refl p) (by omega) e1
      have hwq : w q = p := by
        rcases hw.1 p with h4 | ⟨_, _, _, _, h4⟩
        · omega
        · rwa [hq, Int.toNat_natCast] at h4
      by_cases e2 : (tp_l w (q + 1) e).1 = []
      · exact ⟨p, q, Nat.le_refl p, by omega, by omega, hq, fun x h1 h2 => by omega, fun x h1 h2 => tp_empty (e - (q + 1)) (q + 1) (Nat.le_refl _) e2 x (by omega) h2⟩
      · obtain ⟨k, m, g1, g2, g3, g4, g5, g6⟩ := tp_last hw d (q + 1) (by omega) (fun x h1 h2 => hc x (by omega) h2) e2
        refine ⟨k, m, by omega, g2, g3, g4, fun x h1 h2 h3 => ?_, g6⟩
        by_cases e3 : x = p
        · rw [e3, hq]
          omega
        · by_cases e4 : x < q
          · rcases hw.2.2 p x (by omega) (by omega) with h5 | h5 <;> omega
          · by_cases e5 : x = q
            · rw [e5, hwq] at h3
              omega
            · exact g5 x (by omega) h2 h3
    · rw [tp_free (by omega) e1] at hne
      obtain ⟨k, m, g1, g2, g3, g4, g5, g6⟩ := tp_last hw d (p + 1) (by omega) (fun x h1 h2 => hc x (by omega) h2) hne
      refine ⟨k, m, by omega, g2, g3, g4, fun x h1 h2 h3 => ?_, g6⟩
      by_cases e3 : x = p
      · rw [e3] at h3
        exact absurd h3 e1
      · exact g5 x (by omega) h2 h3
/-- the sum of the loops of the pairs that begin from p on, d places -/
def nl_LS (b : Nat → Nat) (w : Nat → Int) (p : Nat) : Nat → Int
  | 0 => 0
  | d + 1 => nl_LS b w p d + (if ((p + d : Nat) : Int) < w (p + d) then lp_loop b w (p + d) (w (p + d)).toNat else 0)
theorem nl_LS_app (b : Nat → Nat) (w : Nat → Int) (p c : Nat) : ∀ d, nl_LS b w p (c + d) = nl_LS b w p c + nl_LS b w (p + c) d
  | 0 => (Int.add_zero _).symm
  | d + 1 => by
    show nl_LS b w p (c + d) + (if ((p + (c + d) : Nat) : Int) < w (p + (c + d)) then lp_loop b w (p + (c + d)) (w (p + (c + d))).toNat else 0) = nl_LS b w p c + (nl_LS b w (p + c) d + (if ((p + c + d : Nat) : Int) < w (p + c + d) then lp_loop b w (p + c + d) (w (p + c + d)).toNat else 0))
    rw [nl_LS_app b w p c d, show p + (c + d) = p + c + d by omega]
    omega
theorem nl_LS_one (b : Nat → Nat) (w : Nat → Int) (p : Nat) : nl_LS b w p 1 = if (p : Int) < w p then lp_loop b w p (w p).toNat else 0 := Int.zero_add _
theorem nl_LS_S (b : Nat → Nat) (w : Nat → Int) : ∀ d, nl_LS b w 0 d = st_S b w d
  | 0 => rfl
  | d + 1 => by
    unfold nl_LS st_S
    rw [nl_LS_S b w d, Nat.zero_add]
/-- the energy of a pair and all within -/
def nl_PE (b : Nat → Nat) (w : Nat → Int) (i j : Nat) : Int := nl_LS b w i (j - i)
def nl_PS (b : Nat → Nat) (w : Nat → Int) (bs : List (Nat × Nat)) : Int := (bs.map (fun q => nl_PE b w q.1 q.2)).sum
theorem nl_PS_app (b : Nat → Nat) (w : Nat → Int) (x y : List (Nat × Nat)) : nl_PS b w (x ++ y) = nl_PS b w x + nl_PS b w y := by
  unfold nl_PS
  rw [List.map_append, List.sum_append]
theorem nl_PS_cons (b : Nat → Nat) (w : Nat → Int) (k m : Nat) (y : List (Nat × Nat)) : nl_PS b w ((k, m) :: y) = nl_PE b w k m + nl_PS b w y := by
  unfold nl_PS
  rw [List.map_cons, List.sum_cons]
theorem nl_LS_tp {b : Nat → Nat} {n : Nat} {w : Nat → Int} (hw : en_V b n w) {e : Nat} : ∀ (d p : Nat), e - p ≤ d → p ≤ e → (∀ x : Nat, p ≤ x → x < e → (x : Int) < w x → w x < e) → nl_LS b w p (e - p) = nl_PS b w (tp_l w p e).1
  | 0, p, hd, _, _ => by
    rw [tp_end (by omega), show e - p = 0 by omega]
    rfl
  | d + 1, p, hd, hpe, hc => by
    by_cases he : e ≤ p
    · rw [tp_end he, show e - p = 0 by omega]
      rfl
    by_cases e1 : (p : Int) < w p
    · obtain ⟨q, hq⟩ : ∃ q : Nat, w p = q := ⟨(w p).toNat, by omega⟩
      have hqe := hc p (Nat.le_refl p) (by omega) e1
      have hwq : w q = p := by
        rcases hw.1 p with h4 | ⟨_, _, _, _, h4⟩
        · omega
        · rwa [hq, Int.toNat_natCast] at h4
      rw [tp_pair (by omega) (show p < q by omega) hq, nl_PS_cons, ← nl_LS_tp hw d (q + 1) (by omega) (by omega) (fun x h1 h2 => hc x (by omega) h2)]
      rw [show e - p = (q - p) + (1 + (e - (q + 1))) by omega, nl_LS_app, nl_LS_app, show p + (q - p) = q by omega, nl_LS_one, if_neg (by omega)]
      unfold nl_PE
      omega
    · rw [tp_free (by omega) e1]
      show _ = nl_PS b w (tp_l w (p + 1) e).1
      rw [← nl_LS_tp hw d (p + 1) (by omega) (by omega) (fun x h1 h2 => hc x (by omega) h2), show e - p = 1 + (e - (p + 1)) by omega, nl_LS_app, nl_LS_one, if_neg e1]
      omega
theorem nl_PE_step {b : Nat → Nat} {n : Nat} {w : Nat → Int} (hw : en_V b n w) {i j : Nat} (hij : i < j) (hwi : w i = j) : nl_PE b w i j = lp_loop b w i j + nl_PS b w (tp_l w (i + 1) j).1 := by
  have h1 := nl_LS_tp hw (e := j) (j - (i + 1)) (i + 1) (Nat.le_refl _) (by omega) (fun x h1 h2 h3 => by
    rcases hw.2.2 i x (by omega) (by omega) with h5 | h5 <;> omega)
  unfold nl_PE
  rw [show j - i = 1 + (j - (i + 1)) by omega, nl_LS_app, nl_LS_one, if_pos (by omega), h1, hwi, Int.toNat_natCast]
/-- the energy of what fills a region -/
def nl_RE (b : Nat → Nat) (w : Nat → Int) (r s e : Nat) : Int := fo_pp r * ((tp_l w s e).2 : Int) + fo_pq r * ((tp_l w s e).1.length : Int) + lp_ws b (tp_l w s e).1 + nl_PS b w (tp_l w s e).1
theorem nl_RE_none {b : Nat → Nat} {w : Nat → Int} {r s e : Nat} (hs : s ≤ e) (h : ∀ x : Nat, s ≤ x → x < e → ¬ (x : Int) < w x) : nl_RE b w r s e = fo_pp r * ((e : Int) - s) := by
  unfold nl_RE
  rw [tp_none (e - s) s rfl h]
  show fo_pp r * ((e - s : Nat) : Int) + fo_pq r * ((0 : Nat) : Int) + 0 + 0 = _
  rw [show ((e - s : Nat) : Int) = (e : Int) - s by omega]
  simp
theorem nl_RE_last {b : Nat → Nat} {w : Nat → Int} {r s k m e : Nat} (hs : s ≤ k) (hkm : k < m) (hm : m < e) (hw : w k = m) (hl : ∀ x : Nat, s ≤ x → x < k → (x : Int) < w x → w x < k) (ht : ∀ x : Nat, m < x → x < e → ¬ (x : Int) < w x) : nl_RE b w r s e = fo_pp r * ((e - 1 - m : Nat) : Int) + (fo_pq r + lp_wk b k m 5) + nl_PE b w k m + nl_RE b w (fo_af r) s k := by
  have hpp : fo_pp (fo_af r) = fo_pp r := by
    unfold fo_pp fo_af
    by_cases h0 : r < 2
    · rw [if_pos h0]
    · rw [if_neg h0, if_neg (by omega), if_neg (by omega)]
  have hpq : fo_pq (fo_af r) = fo_pq r := by
    unfold fo_pq fo_af
    by_cases h0 : r < 2
    · rw [if_pos h0]
    · rw [if_neg h0, if_neg (by omega), if_neg (by omega)]
  unfold nl_RE
  rw [tp_split hs hkm hm hw hl ht, hpp, hpq, lp_ws_app, nl_PS_app, nl_PS_cons]
  show fo_pp r * (((tp_l w s k).2 + (e - 1 - m) : Nat) : Int) + fo_pq r * (((tp_l w s k).1 ++ [(k, m)]).length : Int) + (lp_ws b (tp_l w s k).1 + (lp_wk b k m 5 + 0)) + (nl_PS b w (tp_l w s k).1 + (nl_PE b w k m + 0)) = _
  rw [List.length_append, List.length_singleton, Int.natCast_add, Int.natCast_add, Int.mul_add, Int.mul_add]
  omega
theorem st_E_RE {b : Nat → Nat} {n : Nat} {w : Nat → Int} (hw : en_V b n w) : st_E b n w = nl_RE b w 0 0 n := by
  have h1 := nl_LS_tp hw (e := n) n 0 (by omega) (by omega) (fun x h1 h2 h3 => (mo_bw_V hw x).2)
  rw [Nat.sub_zero, nl_LS_S] at h1
  unfold st_E nl_RE
  rw [h1]
  show _ = 0 * _ + 0 * _ + _ + _
  omega
/-- a loop by what is directly within -/
theorem nl_PE_hp {b : Nat → Nat} {n : Nat} {w : Nat → Int} (hw : en_V b n w) {i j : Nat} (hij : i < j) (hwi : w i = j) (h0 : (tp_l w (i + 1) j).1 = []) : nl_PE b w i j = lp_hp b i j := by
  rw [nl_PE_step hw hij hwi, h0]
  have h1 : lp_loop b w i j = lp_hp b i j := by
    unfold lp_loop lp_of
    rw [h0]
  rw [h1]
  exact Int.add_zero _
theorem nl_PE_one {b : Nat → Nat} {n : Nat} {w : Nat → Int} (hw : en_V b n w) {i j k m : Nat} (hij : i < j) (hwi : w i = j) (h0 : (tp_l w (i + 1) j).1 = [(k, m)]) : nl_PE b w i j = lp_w1 b i j k m + nl_PE b w k m := by
  rw [nl_PE_step hw hij hwi, h0, nl_PS_cons]
  have h1 : lp_loop b w i j = lp_w1 b i j k m := by
    unfold lp_loop lp_of
    rw [h0]
  rw [h1]
  show _ + (_ + 0) = _
  omega
theorem nl_PE_many {b : Nat → Nat} {n : Nat} {w : Nat → Int} (hw : en_V b n w) {i j : Nat} (hij : i < j) (hwi : w i = j) (h0 : 2 ≤ (tp_l w (i + 1) j).1.length) : nl_PE b w i j = 38 + lp_wk b i j 5 + nl_RE b w 3 (i + 1) j := by
  rw [nl_PE_step hw hij hwi]
  unfold lp_loop nl_RE
  rw [lp_of_many h0]
  show _ = 38 + lp_wk b i j 5 + (1 * _ + 4 * _ + _ + _)
  omega

