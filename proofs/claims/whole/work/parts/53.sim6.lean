/-! Side by side: base. -/
section SIM
variable (l : Launch) {K : Nat → ClassId} {sa : Nat → Nat} {ad : Nat → Nat} {I : Nat → Int32} {V : Nat → Nat → Int32} {L : Nat → Int64} {C : Nat → Int32} {G : Nat → Nat} {R : Nat → Nat} {n : Nat} {b : Nat → Nat} {pe : Nat → Nat → Int} {T : Nat → Nat → Nat → Int} {w : Nat → Int} {ms : List (Nat → Int)} {tc : Nat}
theorem s_base1 (h : SIM I V L C G n b pe T w ms tc) (g0 : G 0 = 153) (g1 : G 1 = 156) (q : Int32) : SC l K sa ad yn_FS_base bc_FS_base 2 .boolean 6 190 yn_MO_base bc_MO_base 2 1 25 [.int q] (gw K ad I V L C G R) := by
  have hst : st_ok K ad (gw K ad I V L C G R) n b := h.st
  have hx : SIMx K ad (gw K ad I V L C G R) := h.x
  obtain ⟨⟨a1, a2, a3⟩, ⟨b1, b2, b3⟩, c1, d1, e1, f1, gg1⟩ := h
  have hn := a3.2.2.1
  by_cases hq : st_num q = -1 ∨ n = 18
  · exact jl_C.toP (c_FS_base_no l hst q hq) ⟨_, rfl, ⟨I, V, L, C, G, R, rfl⟩, fun l2 => jl_C.toP (c_MO_base_no l2 a3 q hq) ⟨rfl, hx⟩⟩
  · have h18 : n < 18 := by
      have : ¬ n = 18 := fun h9 => hq (Or.inr h9)
      omega
    obtain ⟨a, ha, hqa⟩ : ∃ a : Nat, a < 4 ∧ st_num q = a := (st_num_in q).resolve_left (fun h9 => hq (Or.inl h9))
    have hqq := st_num_get ha hqa
    refine jl_CP.mono (c_FS1_base_yes l (R := R) g0 a1 a2 h18 a3.2.2.2.1 b1 b2 q ha hqa) (fun v E1 hp => ?_)
    obtain ⟨V2, rfl, hV2, hf, rfl⟩ := hp
    have hVc : ∀ c, 148 ≤ c → V2 c = V c := fun c hc => by rw [hf c (Or.inr hc), va_up_ne _ _ (by omega)]
    have hb2 : ∀ i, va_up b n a i < 4 := fun i => by
      unfold va_up
      split
      · exact ha
      · exact a3.2.2.2.1 i
    have hO2 : mo_ok (va_up (va_up (va_up (va_up (va_up I 0 (nI (n + 1))) 1 (nI 0)) (4) 0) (5) 0) (6) 0) (va_up V2 154 (fun _ => -1)) n b := ⟨a3.1, fun i hi => by rw [va_up_ne _ _ (by decide), hVc 162 (by decide)]; exact a3.2.1 i hi, hn, a3.2.2.2.1, fun k hk => by rw [va_up_ne _ _ (by decide), hVc 161 (by decide)]; exact a3.2.2.2.2 k hk⟩
    refine ⟨_, rfl, ⟨_, _, _, _, _, _, rfl⟩, fun l2 => jl_C.toP (c_MO_base_yes l2 hO2 h18 q ha hqa) ⟨rfl, ?_⟩⟩
    refine ⟨_, _, _, _, _, _, n + 1, va_up b n a, fo_pe (va_up b n a) n pe T, fo_T (va_up b n a) n pe T, fun _ => -1, [], tc, rfl, ⟨⟨rfl, ?_, ⟨rfl, fun i hi => ?_, by omega, hb2, fun k hk => ?_⟩⟩, ⟨fo_V_up (by omega) (by decide) (fo_V_up (by omega) (by decide) (fo_V_up (by omega) (by decide) hV2)), fo_B_step h18 b2, tb_step a b3⟩, Or.inl ⟨g0, g1, rfl⟩, ⟨rfl, en_V_none _ _⟩, ⟨e1.1, e1.2.1, e1.2.2.1, fun k hk => ?_⟩, ⟨⟨rfl, fun k hk => absurd hk (Nat.not_lt_zero k), Nat.zero_le _, List.Pairwise.nil, fun z hz => absurd hz List.not_mem_nil⟩, rfl, fun j hj => absurd hj (Nat.not_lt_zero j), fun u hu => absurd hu List.not_mem_nil⟩, Or.inl rfl⟩⟩
    · rw [va_up_ne _ _ (by decide), va_up_ne _ _ (by decide), va_up_ne _ _ (by decide), hf 2 (by omega), va_up_self]
    · rw [va_up_ne _ _ (by decide), va_up_self]
      unfold upd
      by_cases e : i = n
      · rw [if_pos e, e, va_up_self]
        exact hqq
      · rw [if_neg e, va_up_ne _ _ e, va_up_ne _ _ (by decide), hVc 162 (by decide)]
        exact a3.2.1 i (by omega)
    · rw [va_up_ne _ _ (by decide), va_up_ne _ _ (by decide), va_up_ne _ _ (by decide), hVc 161 (by decide)]
      exact a3.2.2.2.2 k hk
    · rw [va_up_ne _ _ (by decide), va_up_ne _ _ (by decide), va_up_ne _ _ (by decide), hVc 163 (by decide)]
      exact e1.2.2.2 k hk
theorem s_base2 (h : SIM I V L C G n b pe T w ms tc) (g0 : G 0 = 156) (g1 : G 1 = 153) (q : Int32) : SC l K sa ad yn_FS_base bc_FS_base 2 .boolean 6 190 yn_MO_base bc_MO_base 2 1 25 [.int q] (gw K ad I V L C G R) := by
  have hst : st_ok K ad (gw K ad I V L C G R) n b := h.st
  have hx : SIMx K ad (gw K ad I V L C G R) := h.x
  obtain ⟨⟨a1, a2, a3⟩, ⟨b1, b2, b3⟩, c1, d1, e1, f1, gg1⟩ := h
  have hn := a3.2.2.1
  by_cases hq : st_num q = -1 ∨ n = 18
  · exact jl_C.toP (c_FS_base_no l hst q hq) ⟨_, rfl, ⟨I, V, L, C, G, R, rfl⟩, fun l2 => jl_C.toP (c_MO_base_no l2 a3 q hq) ⟨rfl, hx⟩⟩
  · have h18 : n < 18 := by
      have : ¬ n = 18 := fun h9 => hq (Or.inr h9)
      omega
    obtain ⟨a, ha, hqa⟩ : ∃ a : Nat, a < 4 ∧ st_num q = a := (st_num_in q).resolve_left (fun h9 => hq (Or.inl h9))
    have hqq := st_num_get ha hqa
    refine jl_CP.mono (c_FS2_base_yes l (R := R) g0 a1 a2 h18 a3.2.2.2.1 b1 b2 q ha hqa) (fun v E1 hp => ?_)
    obtain ⟨V2, rfl, hV2, hf, rfl⟩ := hp
    have hVc : ∀ c, 148 ≤ c → V2 c = V c := fun c hc => by rw [hf c (Or.inr hc), va_up_ne _ _ (by omega)]
    have hb2 : ∀ i, va_up b n a i < 4 := fun i => by
      unfold va_up
      split
      · exact ha
      · exact a3.2.2.2.1 i
    have hO2 : mo_ok (va_up (va_up (va_up (va_up (va_up I 0 (nI (n + 1))) 1 (nI 0)) (7) 0) (8) 0) (9) 0) (va_up V2 157 (fun _ => -1)) n b := ⟨a3.1, fun i hi => by rw [va_up_ne _ _ (by decide), hVc 162 (by decide)]; exact a3.2.1 i hi, hn, a3.2.2.2.1, fun k hk => by rw [va_up_ne _ _ (by decide), hVc 161 (by decide)]; exact a3.2.2.2.2 k hk⟩
    refine ⟨_, rfl, ⟨_, _, _, _, _, _, rfl⟩, fun l2 => jl_C.toP (c_MO_base_yes l2 hO2 h18 q ha hqa) ⟨rfl, ?_⟩⟩
    refine ⟨_, _, _, _, _, _, n + 1, va_up b n a, fo_pe (va_up b n a) n pe T, fo_T (va_up b n a) n pe T, fun _ => -1, [], tc, rfl, ⟨⟨rfl, ?_, ⟨rfl, fun i hi => ?_, by omega, hb2, fun k hk => ?_⟩⟩, ⟨fo_V_up (by omega) (by decide) (fo_V_up (by omega) (by decide) (fo_V_up (by omega) (by decide) hV2)), fo_B_step h18 b2, tb_step a b3⟩, Or.inr ⟨g0, g1, rfl⟩, ⟨rfl, en_V_none _ _⟩, ⟨e1.1, e1.2.1, e1.2.2.1, fun k hk => ?_⟩, ⟨⟨rfl, fun k hk => absurd hk (Nat.not_lt_zero k), Nat.zero_le _, List.Pairwise.nil, fun z hz => absurd hz List.not_mem_nil⟩, rfl, fun j hj => absurd hj (Nat.not_lt_zero j), fun u hu => absurd hu List.not_mem_nil⟩, Or.inl rfl⟩⟩
    · rw [va_up_ne _ _ (by decide), va_up_ne _ _ (by decide), va_up_ne _ _ (by decide), hf 2 (by omega), va_up_self]
    · rw [va_up_ne _ _ (by decide), va_up_self]
      unfold upd
      by_cases e : i = n
      · rw [if_pos e, e, va_up_self]
        exact hqq
      · rw [if_neg e, va_up_ne _ _ e, va_up_ne _ _ (by decide), hVc 162 (by decide)]
        exact a3.2.1 i (by omega)
    · rw [va_up_ne _ _ (by decide), va_up_ne _ _ (by decide), va_up_ne _ _ (by decide), hVc 161 (by decide)]
      exact a3.2.2.2.2 k hk
    · rw [va_up_ne _ _ (by decide), va_up_ne _ _ (by decide), va_up_ne _ _ (by decide), hVc 163 (by decide)]
      exact e1.2.2.2 k hk
theorem s_base (h : SIM I V L C G n b pe T w ms tc) (q : Int32) : SC l K sa ad yn_FS_base bc_FS_base 2 .boolean 6 190 yn_MO_base bc_MO_base 2 1 25 [.int q] (gw K ad I V L C G R) := by
  rcases h.2.2.1 with ⟨g0, g1, g2⟩ | ⟨g0, g1, g2⟩
  · exact s_base1 l h g0 g1 q
  · exact s_base2 l h g0 g1 q
end SIM

