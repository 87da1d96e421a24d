/-! Side by side: read, take. -/
theorem fo_V_fr {n : Nat} {pe : Nat → Nat → Int} {T : Nat → Nat → Nat → Int} {V V2 : Nat → Nat → Int32} (hn : n ≤ 18) (hf : ∀ c, c < 148 → V2 c = V c) (h : fo_V n pe T V) : fo_V n pe T V2 := by
  refine ⟨fun i j hij hj => ?_, fun q hq i e hie he => ?_⟩
  · rw [hf _ (by omega)]
    exact h.1 i j hij hj
  · have := fo_b_in q i hq (by omega)
    rw [hf _ (by omega)]
    exact h.2 q hq i e hie he
/-- what the draft and the typed text may change -/
theorem SIM_fr {I I2 : Nat → Int32} {V V2 : Nat → Nat → Int32} {L : Nat → Int64} {C : Nat → Int32} {G G2 : Nat → Nat} {n : Nat} {b : Nat → Nat} {pe : Nat → Nat → Int} {T : Nat → Nat → Nat → Int} {w w2 : Nat → Int} {ms : List (Nat → Int)} {tc tc2 : Nat} (h : SIM I V L C G n b pe T w ms tc) (hI : ∀ k, k < 4 ∨ (10 < k ∧ k ≠ 12) → I2 k = I k) (hV : ∀ c, c < 154 ∨ (158 < c ∧ c ≠ 164 ∧ c ≠ 165) → V2 c = V c)
    (hG : (G2 0 = 153 ∧ G2 1 = 156 ∧ V2 154 = fun k => iI (w2 k)) ∨ (G2 0 = 156 ∧ G2 1 = 153 ∧ V2 157 = fun k => iI (w2 k))) (h165 : V2 165 = fun k => iI (w2 k)) (hw : en_V b n w2) (h10 : I2 10 = nI tc2) (h12 : I2 12 = nI tc2) (ht : tc2 ≤ tc) : SIM I2 V2 L C G2 n b pe T w2 ms tc2 := by
  obtain ⟨⟨a1, a2, a3⟩, ⟨b1, b2, b3⟩, c1, d1, ⟨e1, e2, e3, e4⟩, ⟨f1, f2, f3, f4⟩, g1⟩ := h
  refine ⟨⟨by rw [hI 0 (by omega)]; exact a1, by rw [hV 2 (by omega)]; exact a2, ⟨by rw [hI 11 (by omega)]; exact a3.1, fun i hi => by rw [hV 162 (by omega)]; exact a3.2.1 i hi, a3.2.2.1, a3.2.2.2.1, fun k hk => by rw [hV 161 (by omega)]; exact a3.2.2.2.2 k hk⟩⟩, ⟨fo_V_fr a3.2.2.1 (fun c hc => hV c (by omega)) b1, b2, b3⟩, hG, ⟨h165, hw⟩, ⟨h10, h12, by omega, fun k hk => by rw [hV 163 (by omega)]; exact e4 k (by omega)⟩, ⟨⟨by rw [hI 1 (by omega)]; exact f1.1, f1.2⟩, by rw [hI 17 (by omega)]; exact f2, fun j hj => ⟨by rw [hV 166 (by omega)]; exact (f3 j hj).1, fun i hi => by rw [hV 167 (by omega)]; exact (f3 j hj).2 i hi⟩, f4⟩, ?_⟩
  rw [show I2 13 = I 13 from hI 13 (by omega)]
  rcases g1 with g | ⟨g2, g3, g4, g5⟩
  · exact Or.inl g
  · exact Or.inr ⟨by rw [hI 13 (by omega)]; exact g2, by rw [hI 14 (by omega)]; exact g3, by rw [hI 15 (by omega)]; exact g4, by rw [hI 16 (by omega)]; exact g5⟩
section SIM
variable (l : Launch) {K : Nat → ClassId} {sa : Nat → Nat} {ad : Nat → Nat} {I : Nat → Int32} {V : Nat → Nat → Int32} {L : Nat → Int64} {C : Nat → Int32} {G : Nat → Nat} {R : Nat → Nat} {n : Nat} {b : Nat → Nat} {pe : Nat → Nat → Int} {T : Nat → Nat → Nat → Int} {w : Nat → Int} {ms : List (Nat → Int)} {tc : Nat}
theorem s_read1 (h : SIM I V L C G n b pe T w ms tc) (g0 : G 0 = 153) (g1 : G 1 = 156) (g2 : V 154 = fun k => iI (w k)) : SC l K sa ad yn_FS_read bc_FS_read 3 .int 4 100 yn_MO_read bc_MO_read 4 3 80 [] (gw K ad I V L C G R) := by
  obtain ⟨t1, t2, t3, t4⟩ := h.2.2.2.2.1
  have hO := h.1.2.2
  have hw := h.2.2.2.1
  refine jl_CP.mono (c_FS1_read l (R := R) g0 g1 h.1.1 h.1.2.1 hO.2.2.1 hO.2.2.2.1 t1 t3) (fun v E1 hp => ?_)
  obtain ⟨I2, V2, hf, h10, hcase⟩ := hp
  have hO2 : mo_ok I2 V2 n b := ⟨by rw [hf.1 11 (by decide) (by decide) (by decide) (by decide)]; exact hO.1, fun i hi => by rw [hf.2 162 (by decide) (by decide)]; exact hO.2.1 i hi, hO.2.2.1, hO.2.2.2.1, fun k hk => by rw [hf.2 161 (by decide) (by decide)]; exact hO.2.2.2.2 k hk⟩
  have h12 : I2 12 = nI tc := by rw [hf.1 12 (by decide) (by decide) (by decide) (by decide)]; exact t2
  have hT : ∀ k, k < tc → V2 163 k = C k := fun k hk => by rw [hf.2 163 (by decide) (by decide)]; exact t4 k hk
  have hI9 : ∀ k, k < 4 ∨ (10 < k ∧ k ≠ 12) → va_up I2 12 0 k = I k := fun k hk => by rw [va_up_ne _ _ (by omega)]; exact hf.1 k (by omega) (by omega) (by omega) (by omega)
  rcases hcase with ⟨p, hres, rfl, rfl⟩ | ⟨w2, hres, hw2, rfl, hM2, rfl⟩
  · refine ⟨_, rfl, ⟨_, _, _, _, _, _, rfl⟩, fun l2 => jl_CP.mono (c_MO_read l2 hO2 h12 t3 hT) (fun v2 E2 hp2 => ?_)⟩
    obtain ⟨V3, k1, k2, rfl⟩ := hp2
    rcases k2 with ⟨p2, r1, rfl, r3⟩ | ⟨w3, r1, _⟩
    · rw [hres] at r1
      cases r1
      refine ⟨rfl, _, _, _, _, _, _, n, b, pe, T, w, ms, 0, rfl, SIM_fr h hI9 (fun c hc => by rw [k1 c (by omega) (by omega)]; exact hf.2 c (by omega) (by omega)) (Or.inl ⟨g0, g1, by rw [k1 154 (by decide) (by decide), hf.2 154 (by decide) (by decide)]; exact g2⟩) (by rw [r3, hf.2 165 (by decide) (by decide)]; exact hw.1) hw.2 h10 rfl (Nat.zero_le _)⟩
    · rw [hres] at r1
      cases r1
  · refine ⟨_, rfl, ⟨_, _, _, _, _, _, rfl⟩, fun l2 => jl_CP.mono (c_MO_read l2 hO2 h12 t3 hT) (fun v2 E2 hp2 => ?_)⟩
    obtain ⟨V3, k1, k2, rfl⟩ := hp2
    rcases k2 with ⟨p2, r1, _⟩ | ⟨w3, r1, rfl, r3⟩
    · rw [hres] at r1
      cases r1
    · rw [hres] at r1
      cases r1
      exact ⟨rfl, _, _, _, _, _, _, n, b, pe, T, w2, ms, 0, rfl, SIM_fr h hI9 (fun c hc => by rw [k1 c (by omega) (by omega)]; exact hf.2 c (by omega) (by omega)) (Or.inr ⟨rfl, rfl, by rw [k1 _ (by decide) (by decide)]; exact hM2⟩) r3 hw2 h10 rfl (Nat.zero_le _)⟩
theorem s_read2 (h : SIM I V L C G n b pe T w ms tc) (g0 : G 0 = 156) (g1 : G 1 = 153) (g2 : V 157 = fun k => iI (w k)) : SC l K sa ad yn_FS_read bc_FS_read 3 .int 4 100 yn_MO_read bc_MO_read 4 3 80 [] (gw K ad I V L C G R) := by
  obtain ⟨t1, t2, t3, t4⟩ := h.2.2.2.2.1
  have hO := h.1.2.2
  have hw := h.2.2.2.1
  refine jl_CP.mono (c_FS2_read l (R := R) g0 g1 h.1.1 h.1.2.1 hO.2.2.1 hO.2.2.2.1 t1 t3) (fun v E1 hp => ?_)
  obtain ⟨I2, V2, hf, h10, hcase⟩ := hp
  have hO2 : mo_ok I2 V2 n b := ⟨by rw [hf.1 11 (by decide) (by decide) (by decide) (by decide)]; exact hO.1, fun i hi => by rw [hf.2 162 (by decide) (by decide)]; exact hO.2.1 i hi, hO.2.2.1, hO.2.2.2.1, fun k hk => by rw [hf.2 161 (by decide) (by decide)]; exact hO.2.2.2.2 k hk⟩
  have h12 : I2 12 = nI tc := by rw [hf.1 12 (by decide) (by decide) (by decide) (by decide)]; exact t2
  have hT : ∀ k, k < tc → V2 163 k = C k := fun k hk => by rw [hf.2 163 (by decide) (by decide)]; exact t4 k hk
  have hI9 : ∀ k, k < 4 ∨ (10 < k ∧ k ≠ 12) → va_up I2 12 0 k = I k := fun k hk => by rw [va_up_ne _ _ (by omega)]; exact hf.1 k (by omega) (by omega) (by omega) (by omega)
  rcases hcase with ⟨p, hres, rfl, rfl⟩ | ⟨w2, hres, hw2, rfl, hM2, rfl⟩
  · refine ⟨_, rfl, ⟨_, _, _, _, _, _, rfl⟩, fun l2 => jl_CP.mono (c_MO_read l2 hO2 h12 t3 hT) (fun v2 E2 hp2 => ?_)⟩
    obtain ⟨V3, k1, k2, rfl⟩ := hp2
    rcases k2 with ⟨p2, r1, rfl, r3⟩ | ⟨w3, r1, _⟩
    · rw [hres] at r1
      cases r1
      refine ⟨rfl, _, _, _, _, _, _, n, b, pe, T, w, ms, 0, rfl, SIM_fr h hI9 (fun c hc => by rw [k1 c (by omega) (by omega)]; exact hf.2 c (by omega) (by omega)) (Or.inr ⟨g0, g1, by rw [k1 157 (by decide) (by decide), hf.2 157 (by decide) (by decide)]; exact g2⟩) (by rw [r3, hf.2 165 (by decide) (by decide)]; exact hw.1) hw.2 h10 rfl (Nat.zero_le _)⟩
    · rw [hres] at r1
      cases r1
  · refine ⟨_, rfl, ⟨_, _, _, _, _, _, rfl⟩, fun l2 => jl_CP.mono (c_MO_read l2 hO2 h12 t3 hT) (fun v2 E2 hp2 => ?_)⟩
    obtain ⟨V3, k1, k2, rfl⟩ := hp2
    rcases k2 with ⟨p2, r1, _⟩ | ⟨w3, r1, rfl, r3⟩
    · rw [hres] at r1
      cases r1
    · rw [hres] at r1
      cases r1
      exact ⟨rfl, _, _, _, _, _, _, n, b, pe, T, w2, ms, 0, rfl, SIM_fr h hI9 (fun c hc => by rw [k1 c (by omega) (by omega)]; exact hf.2 c (by omega) (by omega)) (Or.inl ⟨rfl, rfl, by rw [k1 _ (by decide) (by decide)]; exact hM2⟩) r3 hw2 h10 rfl (Nat.zero_le _)⟩
theorem s_read (h : SIM I V L C G n b pe T w ms tc) : SC l K sa ad yn_FS_read bc_FS_read 3 .int 4 100 yn_MO_read bc_MO_read 4 3 80 [] (gw K ad I V L C G R) := by
  rcases h.2.2.1 with ⟨g0, g1, g2⟩ | ⟨g0, g1, g2⟩
  · exact s_read1 l h g0 g1 g2
  · exact s_read2 l h g0 g1 g2
end SIM

