/-! Side by side: take. -/
section SIM
variable (l : Launch) {K : Nat → ClassId} {sa : Nat → Nat} {ad : Nat → Nat} {I : Nat → Int32} {V : Nat → Nat → Int32} {L : Nat → Int64} {C : Nat → Int32} {G : Nat → Nat} {R : Nat → Nat} {n : Nat} {b : Nat → Nat} {pe : Nat → Nat → Int} {T : Nat → Nat → Nat → Int} {w : Nat → Int} {ms : List (Nat → Int)} {tc : Nat}
theorem s_take1 (h : SIM I V L C G n b pe T w ms tc) (g0 : G 0 = 153) (g1 : G 1 = 156) (q : Int32) : SC l K sa ad yn_FS_take bc_FS_take 3 .int 4 100 yn_MO_take bc_MO_take 3 2 50 [.int q] (gw K ad I V L C G R) := by
  obtain ⟨hI1, h150⟩ := h.ct
  obtain ⟨t1, t2, t3, t4⟩ := h.2.2.2.2.1
  obtain ⟨f1, h17, f3, f4⟩ := h.2.2.2.2.2.1
  have hO := h.1.2.2
  have hn := hO.2.2.1
  by_cases hq : ¬ q < 0 ∧ q < nI ms.length
  · obtain ⟨k, hk, rfl⟩ := q_in (by omega) hq
    obtain ⟨e1, e2⟩ := ls_get (b := b) (n := n) hk
    have hu := f4 _ e2
    obtain ⟨u, hu9⟩ : ∃ u, u = ms.getD k mo_w0 := ⟨_, rfl⟩
    rw [← hu9] at e1 e2 hu
    have hres := ps_own_res hu (ch := fun p => nl_ch (mo_sg u p : Int)) (fun p _ => rfl)
    refine jl_CP.mono (c_FS1_take l (R := R) g0 g1 h.1.1 h.1.2.1 hn hO.2.2.2.1 f1 (show k < (ms.map (mo_key b n)).length by rw [List.length_map]; exact hk) (ch := fun p => nl_ch (mo_sg u p : Int)) (fun p hp => by rw [e1, mo_key_at b u hn hp]) hres) (fun v E1 hp => ?_)
    obtain ⟨I2, V2, hf, h10, hw2, rfl, hM2, rfl⟩ := hp
    have hO2 : mo_ok I2 V2 n b := ⟨by rw [hf.1 11 (by decide) (by decide) (by decide) (by decide)]; exact hO.1, fun i hi => by rw [hf.2 162 (by decide) (by decide)]; exact hO.2.1 i hi, hO.2.2.1, hO.2.2.2.1, fun k hk => by rw [hf.2 161 (by decide) (by decide)]; exact hO.2.2.2.2 k hk⟩
    have h172 : I2 17 = nI ms.length := by rw [hf.1 17 (by decide) (by decide) (by decide) (by decide)]; exact h17
    have hro2 : mo_rows b n ms V2 := fun j hj => ⟨by rw [hf.2 166 (by decide) (by decide)]; exact (f3 j hj).1, fun i hi => by rw [hf.2 167 (by decide) (by decide)]; exact (f3 j hj).2 i hi⟩
    refine ⟨_, rfl, ⟨_, _, _, _, _, _, rfl⟩, fun l2 => jl_C.toP (c_MO_take_yes l2 hO2 h172 h150 hro2 hk hu9 hu) ⟨rfl, ?_⟩⟩
    exact ⟨_, _, _, _, _, _, n, b, pe, T, u, ms, tc, rfl, SIM_fr h (fun k hk => hf.1 k (by omega) (by omega) (by omega) (by omega)) (fun c hc => by rw [va_up_ne _ _ (by omega), va_up_ne _ _ (by omega)]; exact hf.2 c (by omega) (by omega)) (Or.inr ⟨rfl, rfl, by rw [va_up_ne _ _ (by decide), va_up_ne _ _ (by decide)]; exact hM2⟩) rfl hu (h10.trans t1) (by rw [hf.1 12 (by decide) (by decide) (by decide) (by decide)]; exact t2) (Nat.le_refl _)⟩
  · exact jl_C.toP (c_FS1_take_no l q (by rw [hI1]; exact hq)) ⟨_, rfl, ⟨I, V, L, C, G, R, rfl⟩, fun l2 => jl_C.toP (c_MO_take_no l2 q (by rw [h17]; exact hq)) ⟨rfl, h.x⟩⟩
theorem s_take2 (h : SIM I V L C G n b pe T w ms tc) (g0 : G 0 = 156) (g1 : G 1 = 153) (q : Int32) : SC l K sa ad yn_FS_take bc_FS_take 3 .int 4 100 yn_MO_take bc_MO_take 3 2 50 [.int q] (gw K ad I V L C G R) := by
  obtain ⟨hI1, h150⟩ := h.ct
  obtain ⟨t1, t2, t3, t4⟩ := h.2.2.2.2.1
  obtain ⟨f1, h17, f3, f4⟩ := h.2.2.2.2.2.1
  have hO := h.1.2.2
  have hn := hO.2.2.1
  by_cases hq : ¬ q < 0 ∧ q < nI ms.length
  · obtain ⟨k, hk, rfl⟩ := q_in (by omega) hq
    obtain ⟨e1, e2⟩ := ls_get (b := b) (n := n) hk
    have hu := f4 _ e2
    obtain ⟨u, hu9⟩ : ∃ u, u = ms.getD k mo_w0 := ⟨_, rfl⟩
    rw [← hu9] at e1 e2 hu
    have hres := ps_own_res hu (ch := fun p => nl_ch (mo_sg u p : Int)) (fun p _ => rfl)
    refine jl_CP.mono (c_FS2_take l (R := R) g0 g1 h.1.1 h.1.2.1 hn hO.2.2.2.1 f1 (show k < (ms.map (mo_key b n)).length by rw [List.length_map]; exact hk) (ch := fun p => nl_ch (mo_sg u p : Int)) (fun p hp => by rw [e1, mo_key_at b u hn hp]) hres) (fun v E1 hp => ?_)
    obtain ⟨I2, V2, hf, h10, hw2, rfl, hM2, rfl⟩ := hp
    have hO2 : mo_ok I2 V2 n b := ⟨by rw [hf.1 11 (by decide) (by decide) (by decide) (by decide)]; exact hO.1, fun i hi => by rw [hf.2 162 (by decide) (by decide)]; exact hO.2.1 i hi, hO.2.2.1, hO.2.2.2.1, fun k hk => by rw [hf.2 161 (by decide) (by decide)]; exact hO.2.2.2.2 k hk⟩
    have h172 : I2 17 = nI ms.length := by rw [hf.1 17 (by decide) (by decide) (by decide) (by decide)]; exact h17
    have hro2 : mo_rows b n ms V2 := fun j hj => ⟨by rw [hf.2 166 (by decide) (by decide)]; exact (f3 j hj).1, fun i hi => by rw [hf.2 167 (by decide) (by decide)]; exact (f3 j hj).2 i hi⟩
    refine ⟨_, rfl, ⟨_, _, _, _, _, _, rfl⟩, fun l2 => jl_C.toP (c_MO_take_yes l2 hO2 h172 h150 hro2 hk hu9 hu) ⟨rfl, ?_⟩⟩
    exact ⟨_, _, _, _, _, _, n, b, pe, T, u, ms, tc, rfl, SIM_fr h (fun k hk => hf.1 k (by omega) (by omega) (by omega) (by omega)) (fun c hc => by rw [va_up_ne _ _ (by omega), va_up_ne _ _ (by omega)]; exact hf.2 c (by omega) (by omega)) (Or.inl ⟨rfl, rfl, by rw [va_up_ne _ _ (by decide), va_up_ne _ _ (by decide)]; exact hM2⟩) rfl hu (h10.trans t1) (by rw [hf.1 12 (by decide) (by decide) (by decide) (by decide)]; exact t2) (Nat.le_refl _)⟩
  · exact jl_C.toP (c_FS2_take_no l q (by rw [hI1]; exact hq)) ⟨_, rfl, ⟨I, V, L, C, G, R, rfl⟩, fun l2 => jl_C.toP (c_MO_take_no l2 q (by rw [h17]; exact hq)) ⟨rfl, h.x⟩⟩
theorem s_take (h : SIM I V L C G n b pe T w ms tc) (q : Int32) : SC l K sa ad yn_FS_take bc_FS_take 3 .int 4 100 yn_MO_take bc_MO_take 3 2 50 [.int q] (gw K ad I V L C G R) := by
  rcases h.2.2.1 with ⟨g0, g1, g2⟩ | ⟨g0, g1, g2⟩
  · exact s_take1 l h g0 g1 q
  · exact s_take2 l h g0 g1 q
end SIM

