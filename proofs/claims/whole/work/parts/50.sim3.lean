/-! Side by side: type, clear. -/
theorem nar_char {q : Int32} (h1 : ¬ q < 32) (h2 : ¬ 126 < q) : vp_nar .char q = q := by
  have h3 : ¬ q < 0 ∧ q < nI 127 := by
    rw [Int32.lt_iff_toInt_lt] at h1 h2 ⊢
    rw [Int32.lt_iff_toInt_lt]
    have e1 : ((32 : Int32)).toInt = 32 := by decide
    have e2 : ((126 : Int32)).toInt = 126 := by decide
    have e3 : ((0 : Int32)).toInt = 0 := by decide
    have e4 : (nI 127).toInt = 127 := by decide
    omega
  obtain ⟨k, hk, rfl⟩ := q_in (by omega) h3
  have : ∀ k, k < 127 → vp_nar .char (nI k) = nI k := by decide +kernel
  exact this k hk
theorem fo_V_0 {n : Nat} {pe : Nat → Nat → Int} {T : Nat → Nat → Nat → Int} {V : Nat → Nat → Int32} (h : fo_V n pe T V) : fo_V 0 pe T V := ⟨fun i j _ hj => absurd hj (Nat.not_lt_zero j), fun q hq i e hie he => h.2 q hq i e hie (by omega)⟩
theorem fo_B_0 {n : Nat} {pe : Nat → Nat → Int} {T : Nat → Nat → Nat → Int} (h : fo_B n pe T) : fo_B 0 pe T := ⟨fun i j _ hj => absurd hj (Nat.not_lt_zero j), fun i e hie he => h.2.1 i e hie (by omega), fun r hr i e hie he => h.2.2 r hr i e hie (by omega)⟩
section SIM
variable (l : Launch) {K : Nat → ClassId} {sa : Nat → Nat} {ad : Nat → Nat} {I : Nat → Int32} {V : Nat → Nat → Int32} {L : Nat → Int64} {C : Nat → Int32} {G : Nat → Nat} {R : Nat → Nat} {n : Nat} {b : Nat → Nat} {pe : Nat → Nat → Int} {T : Nat → Nat → Nat → Int} {w : Nat → Int} {ms : List (Nat → Int)} {tc : Nat}
theorem s_type (h : SIM I V L C G n b pe T w ms tc) (q : Int32) : SC l K sa ad yn_FS_type bc_FS_type 2 .boolean 0 0 yn_MO_type bc_MO_type 2 0 0 [.int q] (gw K ad I V L C G R) := by
  obtain ⟨t1, t2, t3, t4⟩ := h.2.2.2.2.1
  by_cases hq : q < 32 ∨ 126 < q ∨ tc = 20
  · exact jl_C.toP (c_FS_type_no l t1 t3 q hq) ⟨_, rfl, ⟨I, V, L, C, G, R, rfl⟩, fun l2 => jl_C.toP (c_MO_type_no l2 t2 t3 q hq) ⟨rfl, h.x⟩⟩
  · have q1 : ¬ q < 32 := fun h9 => hq (Or.inl h9)
    have q2 : ¬ 126 < q := fun h9 => hq (Or.inr (Or.inl h9))
    have q3 : tc < 20 := by
      have : ¬ tc = 20 := fun h9 => hq (Or.inr (Or.inr h9))
      omega
    refine jl_C.toP (c_FS_type_yes l t1 q3 q q1 q2) ⟨_, rfl, ⟨_, _, _, _, _, _, rfl⟩, fun l2 => ?_⟩
    refine jl_C.toP (c_MO_type_yes l2 (I := va_up I 10 (nI (tc + 1))) t2 q3 q q1 q2) ⟨rfl, ?_⟩
    rw [nar_char q1 q2]
    obtain ⟨⟨a1, a2, a3⟩, ⟨b1, b2, b3⟩, c1, d1, e1, f1, g1⟩ := h
    refine ⟨_, _, _, _, _, _, n, b, pe, T, w, ms, tc + 1, rfl, ⟨⟨a1, a2, mo_okV a3 (by decide)⟩, ⟨fo_V_up a3.2.2.1 (by decide) b1, b2, b3⟩, c1, d1, ⟨rfl, rfl, by omega, fun k hk => ?_⟩, f1, g1⟩⟩
    show upd (V 163) tc q k = upd C tc q k
    unfold upd
    by_cases e : k = tc
    · rw [if_pos e, if_pos e]
    · rw [if_neg e, if_neg e]
      exact t4 k (by omega)
theorem s_clear (h : SIM I V L C G n b pe T w ms tc) : SC l K sa ad yn_FS_clear bc_FS_clear 2 .int 3 75 yn_MO_clear bc_MO_clear 2 1 25 [] (gw K ad I V L C G R) := by
  have hst : st_ok K ad (gw K ad I V L C G R) n b := h.st
  obtain ⟨⟨a1, a2, a3⟩, ⟨b1, b2, b3⟩, c1, d1, e1, f1, g1⟩ := h
  have hli : ∀ I2 : Nat → Int32, I2 1 = nI 0 → nl_li (([] : List (Nat → Int)).map (mo_key b 0)) I2 L := fun I2 h9 => ⟨h9, fun k hk => absurd hk (Nat.not_lt_zero k), Nat.zero_le _, List.Pairwise.nil, fun z hz => absurd hz List.not_mem_nil⟩
  have hmo : ∀ (I2 : Nat → Int32) (V2 : Nat → Nat → Int32), I2 11 = nI 0 → V2 161 = V 161 → mo_ok I2 V2 0 b := fun I2 V2 h8 h9 => ⟨h8, fun i hi => absurd hi (Nat.not_lt_zero i), by decide, a3.2.2.2.1, fun k hk => by rw [h9]; exact a3.2.2.2.2 k hk⟩
  rcases c1 with ⟨g0, gg1, g2⟩ | ⟨g0, gg1, g2⟩
  · refine jl_C.toP (c_FS1_clear l g0 hst) ⟨_, rfl, ⟨_, _, _, _, _, _, rfl⟩, fun l2 => ?_⟩
    refine jl_C.toP (c_MO_clear l2 (n := n) (b := b) ?_) ⟨rfl, ?_⟩
    · exact ⟨a3.1, fun i hi => a3.2.1 i hi, a3.2.2.1, a3.2.2.2.1, fun k hk => a3.2.2.2.2 k hk⟩
    · exact ⟨_, _, _, _, _, _, 0, b, pe, T, fun _ => -1, [], tc, rfl, ⟨⟨rfl, a2, hmo _ _ rfl rfl⟩, ⟨fo_V_up (by decide) (by decide) (fo_V_up (by decide) (by decide) (fo_V_0 b1)), fo_B_0 b2, tb_zero b3⟩, Or.inl ⟨g0, gg1, rfl⟩, ⟨rfl, en_V_none b 0⟩, e1, ⟨hli _ rfl, rfl, fun j hj => absurd hj (Nat.not_lt_zero j), fun u hu => absurd hu List.not_mem_nil⟩, Or.inl rfl⟩⟩
  · refine jl_C.toP (c_FS2_clear l g0 hst) ⟨_, rfl, ⟨_, _, _, _, _, _, rfl⟩, fun l2 => ?_⟩
    refine jl_C.toP (c_MO_clear l2 (n := n) (b := b) ?_) ⟨rfl, ?_⟩
    · exact ⟨a3.1, fun i hi => a3.2.1 i hi, a3.2.2.1, a3.2.2.2.1, fun k hk => a3.2.2.2.2 k hk⟩
    · exact ⟨_, _, _, _, _, _, 0, b, pe, T, fun _ => -1, [], tc, rfl, ⟨⟨rfl, a2, hmo _ _ rfl rfl⟩, ⟨fo_V_up (by decide) (by decide) (fo_V_up (by decide) (by decide) (fo_V_0 b1)), fo_B_0 b2, tb_zero b3⟩, Or.inr ⟨g0, gg1, rfl⟩, ⟨rfl, en_V_none b 0⟩, e1, ⟨hli _ rfl, rfl, fun j hj => absurd hj (Nat.not_lt_zero j), fun u hu => absurd hu List.not_mem_nil⟩, Or.inl rfl⟩⟩
end SIM

