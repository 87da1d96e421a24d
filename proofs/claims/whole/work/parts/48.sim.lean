/-! Class and reference side by side: what holds between calls; most, least, ways. -/
def SIM (I : Nat → Int32) (V : Nat → Nat → Int32) (L : Nat → Int64) (C : Nat → Int32) (G : Nat → Nat) (n : Nat) (b : Nat → Nat) (pe : Nat → Nat → Int) (T : Nat → Nat → Nat → Int) (w : Nat → Int) (ms : List (Nat → Int)) (tc : Nat) : Prop :=
  (I 0 = nI n ∧ V 2 = (fun i => nI (b i)) ∧ mo_ok I V n b) ∧ (fo_V n pe T V ∧ fo_B n pe T ∧ tb_ok b n pe T) ∧
  ((G 0 = 153 ∧ G 1 = 156 ∧ V 154 = fun k => iI (w k)) ∨ (G 0 = 156 ∧ G 1 = 153 ∧ V 157 = fun k => iI (w k))) ∧ (V 165 = (fun k => iI (w k)) ∧ en_V b n w) ∧
  (I 10 = nI tc ∧ I 12 = nI tc ∧ tc ≤ 20 ∧ ∀ k, k < tc → V 163 k = C k) ∧
  (nl_li (ms.map (mo_key b n)) I L ∧ I 17 = nI ms.length ∧ mo_rows b n ms V ∧ ∀ u ∈ ms, en_V b n u) ∧ (I 13 = 0 ∨ mo_known I n b)
def SIMx (K : Nat → ClassId) (ad : Nat → Nat) (E : Nat → va_E) : Prop := ∃ I V L C G R n b pe T w ms tc, E = gw K ad I V L C G R ∧ SIM I V L C G n b pe T w ms tc
/-- the answer of the class, and then the same of the reference -/
def SC (l : Launch) (K : Nat → ClassId) (sa ad : Nat → Nat) (yF : MethodName) (cF : ByteArray) (nF : Nat) (rt : FieldType) (fF lF : Nat) (yM : MethodName) (cM : ByteArray) (nM : Nat) (fM lM : Nat) (As : List Value) (E : Nat → va_E) : Prop :=
  jl_CP l K sa yF cF nF (some rt) fF lF 168 ad (.ref (ad 0) :: As) E (fun v E1 => ∃ z, v = some (.int z) ∧ (∃ I V L C G R, E1 = gw K ad I V L C G R) ∧ ∀ l2, jl_CP l2 K sa yM cM nM (some rt) fM lM 168 ad (.ref (ad 160) :: As) E1 (fun v2 E2 => v2 = some (.int z) ∧ SIMx K ad E2))
theorem fo_V_up {n : Nat} {pe : Nat → Nat → Int} {T : Nat → Nat → Nat → Int} {V : Nat → Nat → Int32} {c : Nat} {f : Nat → Int32} (hn : n ≤ 18) (hc : c < 6 ∨ 148 ≤ c) (h : fo_V n pe T V) : fo_V n pe T (va_up V c f) := by
  refine ⟨fun i j hij hj => ?_, fun q hq i e hie he => ?_⟩
  · rw [va_up_ne _ _ (by omega)]
    exact h.1 i j hij hj
  · have := fo_b_in q i hq (by omega)
    rw [va_up_ne _ _ (by omega)]
    exact h.2 q hq i e hie he
theorem SIM_164 {I : Nat → Int32} {V : Nat → Nat → Int32} {L : Nat → Int64} {C : Nat → Int32} {G : Nat → Nat} {n : Nat} {b : Nat → Nat} {pe : Nat → Nat → Int} {T : Nat → Nat → Nat → Int} {w : Nat → Int} {ms : List (Nat → Int)} {tc : Nat} (f : Nat → Int32) (h : SIM I V L C G n b pe T w ms tc) : SIM I (va_up V 164 f) L C G n b pe T w ms tc := by
  obtain ⟨⟨a1, a2, a3⟩, ⟨b1, b2, b3⟩, c1, d1, e1, f1, g1⟩ := h
  exact ⟨⟨a1, a2, mo_okV a3 (by decide)⟩, ⟨fo_V_up a3.2.2.1 (by decide) b1, b2, b3⟩, c1, d1, e1, f1, g1⟩
theorem SIM_look {I : Nat → Int32} {V : Nat → Nat → Int32} {L : Nat → Int64} {C : Nat → Int32} {G : Nat → Nat} {n : Nat} {b : Nat → Nat} {pe : Nat → Nat → Int} {T : Nat → Nat → Nat → Int} {w : Nat → Int} {ms : List (Nat → Int)} {tc : Nat} (h : SIM I V L C G n b pe T w ms tc) : SIM (mo_done I n b) V L C G n b pe T w ms tc := by
  obtain ⟨⟨a1, a2, a3⟩, b1, c1, d1, e1, f1, g1⟩ := h
  exact ⟨⟨a1, a2, a3⟩, b1, c1, d1, e1, f1, Or.inr (mo_done_known I n b)⟩
section SIM
variable (l : Launch) {K : Nat → ClassId} {sa : Nat → Nat} {ad : Nat → Nat} {I : Nat → Int32} {V : Nat → Nat → Int32} {L : Nat → Int64} {C : Nat → Int32} {G : Nat → Nat} {R : Nat → Nat} {n : Nat} {b : Nat → Nat} {pe : Nat → Nat → Int} {T : Nat → Nat → Nat → Int} {w : Nat → Int} {ms : List (Nat → Int)} {tc : Nat}
theorem SIM.st (h : SIM I V L C G n b pe T w ms tc) : st_ok K ad (gw K ad I V L C G R) n b := st_okF h.1.1 h.1.2.1 h.1.2.2.2.2.1 h.1.2.2.2.2.2.1
theorem s_most (h : SIM I V L C G n b pe T w ms tc) : SC l K sa ad yn_FS_most bc_FS_most 1 .int 2 50 yn_MO_most bc_MO_most 1 6 190 [] (gw K ad I V L C G R) := by
  have hV : V 45 n = mo_vmost n b := by
    have h1 := h.2.1.1.2 1 (by decide) 0 n (Nat.zero_le n) (Or.inl (Nat.le_refl n))
    have h2 : V 45 n = iI (T 1 0 n) := h1
    rw [h2]
    first
      | (rw [tb_most h.2.1.2.2, iI_nat]; done)
      | (rw [tb_least h.1.2.2.2.2.1 h.2.1.2.2 h.2.1.2.1]; done)
      | (rw [tb_count h.2.1.2.2, iI_nat]; done)
  refine jl_C.toP (c_FS_most l h.st) ⟨_, rfl, ⟨I, V, L, C, G, R, rfl⟩, fun l2 => ?_⟩
  rw [hV]
  rcases h.2.2.2.2.2.2 with h0 | h0
  · exact jl_C.toP (c_MO_most l2 h.1.2.2 h0) ⟨rfl, _, _, _, _, _, _, n, b, pe, T, w, ms, tc, rfl, SIM_164 _ (SIM_look h)⟩
  · exact jl_C.toP (c_MO_most_known l2 h0) ⟨rfl, _, _, _, _, _, _, n, b, pe, T, w, ms, tc, rfl, h⟩
theorem s_least (h : SIM I V L C G n b pe T w ms tc) : SC l K sa ad yn_FS_least bc_FS_least 1 .int 2 50 yn_MO_least bc_MO_least 1 6 190 [] (gw K ad I V L C G R) := by
  have hV : V 66 n = mo_vleast n b := by
    have h1 := h.2.1.1.2 2 (by decide) 0 n (Nat.zero_le n) (Or.inl (Nat.le_refl n))
    have h2 : V 66 n = iI (T 2 0 n) := h1
    rw [h2]
    first
      | (rw [tb_most h.2.1.2.2, iI_nat]; done)
      | (rw [tb_least h.1.2.2.2.2.1 h.2.1.2.2 h.2.1.2.1]; done)
      | (rw [tb_count h.2.1.2.2, iI_nat]; done)
  refine jl_C.toP (c_FS_least l h.st) ⟨_, rfl, ⟨I, V, L, C, G, R, rfl⟩, fun l2 => ?_⟩
  rw [hV]
  rcases h.2.2.2.2.2.2 with h0 | h0
  · exact jl_C.toP (c_MO_least l2 h.1.2.2 h0) ⟨rfl, _, _, _, _, _, _, n, b, pe, T, w, ms, tc, rfl, SIM_164 _ (SIM_look h)⟩
  · exact jl_C.toP (c_MO_least_known l2 h0) ⟨rfl, _, _, _, _, _, _, n, b, pe, T, w, ms, tc, rfl, h⟩
theorem s_ways (h : SIM I V L C G n b pe T w ms tc) : SC l K sa ad yn_FS_ways bc_FS_ways 1 .int 2 50 yn_MO_ways bc_MO_ways 1 6 190 [] (gw K ad I V L C G R) := by
  have hV : V 25 n = mo_vways n b := by
    have h1 := h.2.1.1.2 0 (by decide) 0 n (Nat.zero_le n) (Or.inl (Nat.le_refl n))
    have h2 : V 25 n = iI (T 0 0 n) := h1
    rw [h2]
    first
      | (rw [tb_most h.2.1.2.2, iI_nat]; done)
      | (rw [tb_least h.1.2.2.2.2.1 h.2.1.2.2 h.2.1.2.1]; done)
      | (rw [tb_count h.2.1.2.2, iI_nat]; done)
  refine jl_C.toP (c_FS_ways l h.st) ⟨_, rfl, ⟨I, V, L, C, G, R, rfl⟩, fun l2 => ?_⟩
  rw [hV]
  rcases h.2.2.2.2.2.2 with h0 | h0
  · exact jl_C.toP (c_MO_ways l2 h.1.2.2 h0) ⟨rfl, _, _, _, _, _, _, n, b, pe, T, w, ms, tc, rfl, SIM_164 _ (SIM_look h)⟩
  · exact jl_C.toP (c_MO_ways_known l2 h0) ⟨rfl, _, _, _, _, _, _, n, b, pe, T, w, ms, tc, rfl, h⟩
end SIM

