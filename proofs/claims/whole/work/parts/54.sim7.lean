/-! Side by side: list. -/
theorem SIM_list {I I2 : Nat → Int32} {V V2 : Nat → Nat → Int32} {L L2 : Nat → Int64} {C : Nat → Int32} {G : Nat → Nat} {n : Nat} {b : Nat → Nat} {pe : Nat → Nat → Int} {T : Nat → Nat → Nat → Int} {w : Nat → Int} {ms ms2 : List (Nat → Int)} {tc : Nat} (h : SIM I V L C G n b pe T w ms tc) (hI : ∀ k, k = 0 ∨ (9 < k ∧ k < 13) → I2 k = I k) (hV : ∀ c, c ≠ 151 → c ≠ 152 → c ≠ 164 → c ≠ 166 → c ≠ 167 → V2 c = V c)
    (h1 : nl_li (ms2.map (mo_key b n)) I2 L2) (h2 : I2 17 = nI ms2.length) (h3 : mo_rows b n ms2 V2) (h4 : ∀ u ∈ ms2, en_V b n u) (h5 : mo_known I2 n b) : SIM I2 V2 L2 C G n b pe T w ms2 tc := by
  obtain ⟨⟨a1, a2, a3⟩, ⟨b1, b2, b3⟩, c1, d1, ⟨e1, e2, e3, e4⟩, f1, g1⟩ := h
  have v : ∀ c, c < 151 ∨ (152 < c ∧ c < 164) ∨ c = 165 → V2 c = V c := fun c hc => hV c (by omega) (by omega) (by omega) (by omega) (by omega)
  refine ⟨⟨by rw [hI 0 (by omega)]; exact a1, by rw [v 2 (by omega)]; exact a2, ⟨by rw [hI 11 (by omega)]; exact a3.1, fun i hi => by rw [v 162 (by omega)]; exact a3.2.1 i hi, a3.2.2.1, a3.2.2.2.1, fun k hk => by rw [v 161 (by omega)]; exact a3.2.2.2.2 k hk⟩⟩, ⟨fo_V_fr a3.2.2.1 (fun c hc => v c (by omega)) b1, b2, b3⟩, ?_, ⟨by rw [v 165 (by omega)]; exact d1.1, d1.2⟩, ⟨by rw [hI 10 (by omega)]; exact e1, by rw [hI 12 (by omega)]; exact e2, e3, fun k hk => by rw [v 163 (by omega)]; exact e4 k hk⟩, ⟨h1, h2, h3, h4⟩, Or.inr h5⟩
  rw [v 154 (by omega), v 157 (by omega)]
  exact c1
section SIM
variable (l : Launch) {K : Nat → ClassId} {sa : Nat → Nat} {ad : Nat → Nat} {I : Nat → Int32} {V : Nat → Nat → Int32} {L : Nat → Int64} {C : Nat → Int32} {G : Nat → Nat} {R : Nat → Nat} {n : Nat} {b : Nat → Nat} {pe : Nat → Nat → Int} {T : Nat → Nat → Nat → Int} {w : Nat → Int} {ms : List (Nat → Int)} {tc : Nat}
theorem s_list (h : SIM I V L C G n b pe T w ms tc) (q : Int32) : SC l K sa ad yn_FS_list bc_FS_list 2 .int 52 2650 yn_MO_list bc_MO_list 4 6 190 [.int q] (gw K ad I V L C G R) := by
  have hO := h.1.2.2
  have hn := hO.2.2.1
  have hx : SIMx K ad (gw K ad I V L C G R) := h.x
  by_cases hq : q < 0 ∨ nI 300 < q
  · exact jl_C.toP (c_FS_list_bad l q hq) ⟨_, rfl, ⟨I, V, L, C, G, R, rfl⟩, fun l2 => jl_C.toP (c_MO_list_bad l2 q hq) ⟨rfl, hx⟩⟩
  · have hq2 : ¬ q < 0 ∧ q < nI 301 := ⟨fun h9 => hq (Or.inl h9), by
      have h9 : ¬ nI 300 < q := fun h9 => hq (Or.inr h9)
      rw [Int32.lt_iff_toInt_lt] at h9 ⊢
      have e1 : (nI 300).toInt = 300 := by decide
      have e2 : (nI 301).toInt = 301 := by decide
      omega⟩
    obtain ⟨d, hd, rfl⟩ := q_in (by omega) hq2
    have hlim : T 2 0 n + (d : Int) = mo_lo b n 0 (en_all b n) + (d : Int) := by rw [tb_least hn h.2.1.2.2 h.2.1.2.1]
    refine jl_CP.mono (c_FS_list l (R := R) h.1.1 h.1.2.1 hn hO.2.2.2.1 h.2.1.1 h.2.1.2.1 (tb_LB h.2.1.2.2) (show d ≤ 300 by omega)) (fun v E1 hp => ?_)
    obtain ⟨I2, V2, L2, R2, rfl, hI, hV, hli, rfl⟩ := hp
    rw [hlim] at hli ⊢
    refine ⟨_, rfl, ⟨_, _, _, _, _, _, rfl⟩, fun l2 => ?_⟩
    have hO2 : mo_ok I2 V2 n b := ⟨by rw [hI 11 (by decide) (by decide) (by decide)]; exact hO.1, fun i hi => by rw [hV 162 (by decide) (by decide)]; exact hO.2.1 i hi, hn, hO.2.2.2.1, fun k hk => by rw [hV 161 (by decide) (by decide)]; exact hO.2.2.2.2 k hk⟩
    have key : ∀ (I3 : Nat → Int32), (∀ k, k = 0 ∨ k = 1 ∨ (9 < k ∧ k < 13) → I3 k = I2 k) → mo_known I3 n b → ∀ v2 E2, mo_lpost K ad I3 V2 L2 C G R2 n b d v2 E2 → v2 = some (.int (if (nl_res b n (mo_lo b n 0 (en_all b n) + (d : Int))).2 = true then -2 else nI (nl_res b n (mo_lo b n 0 (en_all b n) + (d : Int))).1.length)) ∧ SIMx K ad E2 := by
      intro I3 h3 hk3 v2 E2 hp2
      obtain ⟨ms2, V3, hms, rfl, k1, k2, k3, k4, k5, rfl⟩ := hp2
      have hI4 : ∀ k, k = 0 ∨ (9 < k ∧ k < 13) → va_up I3 17 (nI (mo_kept ms2.length)) k = I k := fun k hk => by rw [va_up_ne _ _ (by omega), h3 k (by omega)]; exact hI k (by omega) (by omega) (by omega)
      have hV4 : ∀ c, c ≠ 151 → c ≠ 152 → c ≠ 164 → c ≠ 166 → c ≠ 167 → V3 c = V c := fun c c1 c2 c3 c4 c5 => by rw [k1 c c3 c4 c5]; exact hV c c1 c2
      have hI1 : va_up I3 17 (nI (mo_kept ms2.length)) 1 = I2 1 := h3 1 (by omega)
      rcases ls_same b hn (mo_lo b n 0 (en_all b n) + (d : Int)) with ⟨s1, s2⟩ | ⟨s1, s2⟩
      · rw [← hms] at s1
        rw [s2, if_pos rfl] at hli
        rw [s2, if_pos rfl]
        have ea : mo_ans ms2.length = -2 := by unfold mo_ans; rw [if_pos s1]
        have ek : mo_kept ms2.length = 0 := by unfold mo_kept; rw [if_pos s1]
        exact ⟨by rw [ea], _, _, _, _, _, _, n, b, pe, T, w, [], tc, rfl, SIM_list h hI4 hV4 ⟨by rw [hI1]; exact hli.1, hli.2⟩ (by rw [va_up_self, ek]; rfl) (fun j hj => absurd hj (Nat.not_lt_zero j)) (fun u hu => absurd hu List.not_mem_nil) hk3⟩
      · rw [← hms] at s1 s2
        rw [s2] at hli
        rw [s2]
        rw [if_neg (fun h9 : false = true => by cases h9)] at hli
        rw [if_neg (fun h9 : false = true => by cases h9), List.length_map]
        have ea : mo_ans ms2.length = nI ms2.length := by unfold mo_ans; rw [if_neg (by omega)]
        have ek : mo_kept ms2.length = ms2.length := by unfold mo_kept; rw [if_neg (by omega)]
        exact ⟨by rw [ea], _, _, _, _, _, _, n, b, pe, T, w, ms2, tc, rfl, SIM_list h hI4 hV4 ⟨by rw [hI1]; exact hli.1, hli.2⟩ (by rw [va_up_self, ek]) k2 k3 hk3⟩
    have i13 : ∀ k, 12 < k → I2 k = I k := fun k hk => hI k (by omega) (by omega) (by omega)
    rcases h.2.2.2.2.2.2 with h0 | h0
    · exact jl_CP.mono (c_MO_list l2 hO2 (by rw [i13 13 (by omega)]; exact h0) (show d ≤ 300 by omega)) (key _ (fun k hk => by show mo_I I2 _ _ _ k = I2 k; unfold mo_I; rw [if_neg (by omega), if_neg (by omega), if_neg (by omega), if_neg (by omega)]) (mo_done_known I2 n b))
    · have hk2 : mo_known I2 n b := ⟨by rw [i13 13 (by omega)]; exact h0.1, by rw [i13 14 (by omega)]; exact h0.2.1, by rw [i13 15 (by omega)]; exact h0.2.2.1, by rw [i13 16 (by omega)]; exact h0.2.2.2⟩
      exact jl_CP.mono (c_MO_list_known l2 hO2 hk2 (show d ≤ 300 by omega)) (key _ (fun _ _ => rfl) hk2)
end SIM

