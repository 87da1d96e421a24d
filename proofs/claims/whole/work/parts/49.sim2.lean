/-! Side by side: energyOf, at, energy, partner, loop. -/
theorem q_in {q : Int32} {m : Nat} (hm : m < 2000) (h : ¬ q < 0 ∧ q < nI m) : ∃ k, k < m ∧ q = nI k := by
  have h1 : 0 ≤ q.toInt := by
    have := Int32.not_lt.mp h.1
    rw [Int32.le_iff_toInt_le] at this
    exact this
  have h2 : q.toInt < m := by
    have := h.2
    rw [Int32.lt_iff_toInt_lt, ← iI_nat, iI_toInt (by omega) (by omega)] at this
    exact this
  refine ⟨q.toInt.toNat, by omega, ?_⟩
  rw [← iI_nat, Int.toNat_of_nonneg h1]
  exact (Int32.ofInt_toInt q).symm
theorem ls_get {b : Nat → Nat} {n : Nat} {ms : List (Nat → Int)} {k : Nat} (hk : k < ms.length) : (ms.map (mo_key b n)).getD k 0 = mo_key b n (ms.getD k mo_w0) ∧ ms.getD k mo_w0 ∈ ms := by
  rw [List.getD_eq_getElem?_getD, List.getD_eq_getElem?_getD, List.getElem?_map, List.getElem?_eq_getElem hk]
  exact ⟨rfl, List.getElem_mem hk⟩
section SIM
variable (l : Launch) {K : Nat → ClassId} {sa : Nat → Nat} {ad : Nat → Nat} {I : Nat → Int32} {V : Nat → Nat → Int32} {L : Nat → Int64} {C : Nat → Int32} {G : Nat → Nat} {R : Nat → Nat} {n : Nat} {b : Nat → Nat} {pe : Nat → Nat → Int} {T : Nat → Nat → Nat → Int} {w : Nat → Int} {ms : List (Nat → Int)} {tc : Nat}
theorem SIM.x (h : SIM I V L C G n b pe T w ms tc) : SIMx K ad (gw K ad I V L C G R) := ⟨I, V, L, C, G, R, n, b, pe, T, w, ms, tc, rfl, h⟩
theorem SIM.ct (h : SIM I V L C G n b pe T w ms tc) : I 1 = nI ms.length ∧ ms.length ≤ 150 := by
  have h1 := h.2.2.2.2.2.1.1
  have h2 := h1.1
  have h3 := h1.2.2.1
  rw [List.length_map] at h2 h3
  exact ⟨h2, h3⟩
theorem s_energyOf (h : SIM I V L C G n b pe T w ms tc) (q : Int32) : SC l K sa ad yn_FS_energyOf bc_FS_energyOf 2 .int 2 50 yn_MO_energyOf bc_MO_energyOf 2 1 25 [.int q] (gw K ad I V L C G R) := by
  obtain ⟨hI1, h150⟩ := h.ct
  have h17 := h.2.2.2.2.2.1.2.1
  by_cases hq : ¬ q < 0 ∧ q < nI ms.length
  · obtain ⟨k, hk, rfl⟩ := q_in (by omega) hq
    obtain ⟨e1, e2⟩ := ls_get (b := b) (n := n) hk
    have hc := fun l => c_FS_energyOf_yes l (K := K) (sa := sa) (ad := ad) (V := V) (C := C) (G := G) (R := R) h.2.2.2.2.2.1.1 (show k < (ms.map (mo_key b n)).length by rw [List.length_map]; exact hk)
    rw [e1, mo_key_hi b _ h.1.2.2.2.2.1] at hc
    refine jl_C.toP (hc l) ⟨_, rfl, ⟨I, V, L, C, G, R, rfl⟩, fun l2 => ?_⟩
    exact jl_C.toP (c_MO_energyOf_yes l2 h17 h150 h.2.2.2.2.2.1.2.2.1 hk) ⟨rfl, h.x⟩
  · refine jl_C.toP (c_FS_energyOf_no l q (by rw [hI1]; exact hq)) ⟨_, rfl, ⟨I, V, L, C, G, R, rfl⟩, fun l2 => ?_⟩
    exact jl_C.toP (c_MO_energyOf_no l2 q (by rw [h17]; exact hq)) ⟨rfl, h.x⟩
theorem s_at (h : SIM I V L C G n b pe T w ms tc) (q p : Int32) : SC l K sa ad yn_FS_at bc_FS_at 3 .int 3 75 yn_MO_at bc_MO_at 3 1 25 [.int q, .int p] (gw K ad I V L C G R) := by
  obtain ⟨hI1, h150⟩ := h.ct
  have h17 := h.2.2.2.2.2.1.2.1
  have hn := h.1.2.2.2.2.1
  by_cases hq : (¬ q < 0 ∧ q < nI ms.length) ∧ ¬ p < 0 ∧ p < nI n
  · obtain ⟨k, hk, rfl⟩ := q_in (by omega) hq.1
    obtain ⟨i, hi, rfl⟩ := q_in (by omega) hq.2
    obtain ⟨e1, e2⟩ := ls_get (b := b) (n := n) hk
    have hc := fun l => c_FS_at_yes l (K := K) (sa := sa) (ad := ad) (V := V) (C := C) (G := G) (R := R) h.st h.2.2.2.2.2.1.1 (show k < (ms.map (mo_key b n)).length by rw [List.length_map]; exact hk) hi
    rw [e1, mo_key_at b _ hn hi] at hc
    refine jl_C.toP (hc l) ⟨_, rfl, ⟨I, V, L, C, G, R, rfl⟩, fun l2 => ?_⟩
    exact jl_C.toP (c_MO_at_yes l2 h.1.2.2 h17 h150 h.2.2.2.2.2.1.2.2.1 h.2.2.2.2.2.1.2.2.2 hk hi) ⟨rfl, h.x⟩
  · have hq2 : ¬ (¬ q < 0 ∧ q < nI ms.length) ∨ ¬ (¬ p < 0 ∧ p < nI n) := Decidable.not_and_iff_or_not.mp hq
    refine jl_C.toP (c_FS_at_no l h.st q p (by rw [hI1]; exact hq2)) ⟨_, rfl, ⟨I, V, L, C, G, R, rfl⟩, fun l2 => ?_⟩
    exact jl_C.toP (c_MO_at_no l2 h.1.2.2 q p (by rw [h17]; exact hq2)) ⟨rfl, h.x⟩
theorem s_energy (h : SIM I V L C G n b pe T w ms tc) : SC l K sa ad yn_FS_energy bc_FS_energy 1 .int 6 180 yn_MO_energy bc_MO_energy 1 5 155 [] (gw K ad I V L C G R) := by
  have hw := h.2.2.2.1
  have ref : ∀ l2, jl_CP l2 K sa yn_MO_energy bc_MO_energy 1 (some .int) 5 155 168 ad [.ref (ad 160)] (gw K ad I V L C G R) (fun v2 E2 => v2 = some (.int (iI (st_E b n w))) ∧ SIMx K ad E2) := fun l2 => jl_C.toP (c_MO_energy l2 h.1.2.2 hw.1 hw.2) ⟨rfl, (SIM_164 _ h).x⟩
  rcases h.2.2.1 with ⟨g0, g1, g2⟩ | ⟨g0, g1, g2⟩
  · exact jl_C.toP (c_FS1_energy l g0 h.st g2 hw.2) ⟨_, rfl, ⟨I, V, L, C, G, R, rfl⟩, ref⟩
  · exact jl_C.toP (c_FS2_energy l g0 h.st g2 hw.2) ⟨_, rfl, ⟨I, V, L, C, G, R, rfl⟩, ref⟩
theorem s_partner (h : SIM I V L C G n b pe T w ms tc) (q : Int32) : SC l K sa ad yn_FS_partner bc_FS_partner 2 .int 2 50 yn_MO_partner bc_MO_partner 2 0 0 [.int q] (gw K ad I V L C G R) := by
  have hw := h.2.2.2.1
  have hn := h.1.2.2.2.2.1
  by_cases hq : ¬ q < 0 ∧ q < nI n
  · obtain ⟨i, hi, rfl⟩ := q_in (by omega) hq
    have hb := mo_bw_V hw.2 i
    have ref : ∀ l2, jl_CP l2 K sa yn_MO_partner bc_MO_partner 2 (some .int) 0 0 168 ad [.ref (ad 160), .int (nI i)] (gw K ad I V L C G R) (fun v2 E2 => v2 = some (.int (iI (w i))) ∧ SIMx K ad E2) := fun l2 => jl_C.toP (c_MO_partner l2 h.1.2.2 hw.1 hi) ⟨rfl, h.x⟩
    rcases h.2.2.1 with ⟨g0, g1, g2⟩ | ⟨g0, g1, g2⟩
    · exact jl_C.toP (c_FS1_partner l g0 h.st g2 hi hb.1 (by omega)) ⟨_, rfl, ⟨I, V, L, C, G, R, rfl⟩, ref⟩
    · exact jl_C.toP (c_FS2_partner l g0 h.st g2 hi hb.1 (by omega)) ⟨_, rfl, ⟨I, V, L, C, G, R, rfl⟩, ref⟩
  · have ref : ∀ l2, jl_CP l2 K sa yn_MO_partner bc_MO_partner 2 (some .int) 0 0 168 ad [.ref (ad 160), .int q] (gw K ad I V L C G R) (fun v2 E2 => v2 = some (.int (-1)) ∧ SIMx K ad E2) := fun l2 => jl_C.toP (c_MO_partner_no l2 h.1.2.2 q hq) ⟨rfl, h.x⟩
    rcases h.2.2.1 with ⟨g0, g1, g2⟩ | ⟨g0, g1, g2⟩
    · exact jl_C.toP (c_FS1_partner_no l g0 h.st q hq) ⟨_, rfl, ⟨I, V, L, C, G, R, rfl⟩, ref⟩
    · exact jl_C.toP (c_FS2_partner_no l g0 h.st q hq) ⟨_, rfl, ⟨I, V, L, C, G, R, rfl⟩, ref⟩
theorem s_loop (h : SIM I V L C G n b pe T w ms tc) (q : Int32) : SC l K sa ad yn_FS_loop bc_FS_loop 2 .int 5 160 yn_MO_loop bc_MO_loop 2 4 125 [.int q] (gw K ad I V L C G R) := by
  have hw := h.2.2.2.1
  have hn := h.1.2.2.2.2.1
  by_cases hq : ¬ q < 0 ∧ q < nI n
  · obtain ⟨i, hi, rfl⟩ := q_in (by omega) hq
    have ref : ∀ l2, jl_CP l2 K sa yn_MO_loop bc_MO_loop 2 (some .int) 4 125 168 ad [.ref (ad 160), .int (nI i)] (gw K ad I V L C G R) (fun v2 E2 => v2 = some (.int (iI (if (i : Int) < w i then lp_loop b w i (w i).toNat else 0))) ∧ SIMx K ad E2) := fun l2 => by
      by_cases h9 : (i : Int) < w i
      · rw [if_pos h9]
        exact jl_C.toP (c_MO_loop l2 h.1.2.2 hw.1 hw.2 hi h9) ⟨rfl, (SIM_164 _ h).x⟩
      · rw [if_neg h9]
        exact jl_C.toP (c_MO_loop_0 l2 h.1.2.2 hw.1 hw.2 hi h9) ⟨rfl, h.x⟩
    rcases h.2.2.1 with ⟨g0, g1, g2⟩ | ⟨g0, g1, g2⟩
    · exact jl_C.toP (c_FS1_loop l g0 h.st g2 hw.2 hi) ⟨_, rfl, ⟨I, V, L, C, G, R, rfl⟩, ref⟩
    · exact jl_C.toP (c_FS2_loop l g0 h.st g2 hw.2 hi) ⟨_, rfl, ⟨I, V, L, C, G, R, rfl⟩, ref⟩
  · have ref : ∀ l2, jl_CP l2 K sa yn_MO_loop bc_MO_loop 2 (some .int) 4 125 168 ad [.ref (ad 160), .int q] (gw K ad I V L C G R) (fun v2 E2 => v2 = some (.int 0) ∧ SIMx K ad E2) := fun l2 => jl_C.toP (c_MO_loop_no l2 h.1.2.2 q hq) ⟨rfl, h.x⟩
    rcases h.2.2.1 with ⟨g0, g1, g2⟩ | ⟨g0, g1, g2⟩
    · exact jl_C.toP (c_FS1_loop_no l g0 h.st q hq) ⟨_, rfl, ⟨I, V, L, C, G, R, rfl⟩, ref⟩
    · exact jl_C.toP (c_FS2_loop_no l g0 h.st q hq) ⟨_, rfl, ⟨I, V, L, C, G, R, rfl⟩, ref⟩
end SIM

