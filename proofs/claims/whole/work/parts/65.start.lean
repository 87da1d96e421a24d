/-! What holds of the two new objects. -/
def zT : Nat → Nat → Nat → Int := fun q _ _ => if q = 0 then 1 else if q = 4 then 1000000 else if q = 5 then 1000000 else 0
def zI : Nat → Int32 := va_up (va_up (fun _ => 0) 17 0) 13 0
theorem zI_0 (k : Nat) : zI k = 0 := by
  unfold zI
  by_cases h : k = 13
  · subst h
    rw [va_up_self]
  · rw [va_up_ne _ _ h]
    by_cases h2 : k = 17
    · subst h2
      rw [va_up_self]
    · rw [va_up_ne _ _ h2]
theorem z_diag : ∀ q, q < 6 → ∀ i, i < 19 → vz0 (fo_b q + i) i = iI (zT q i i) ∧ fo_b q + i < 148 := by decide +kernel
theorem vzm_lo {k : Nat} (h : k < 154) : vzm k = vz0 k := by
  unfold vzm vz
  rw [va_up_ne _ _ (by omega), va_up_ne _ _ (by omega), va_up_ne _ _ (by omega), va_up_ne _ _ (by omega)]
theorem vzm_0 {k : Nat} (h : k < 6) : vzm k = fun _ => 0 := by
  rw [vzm_lo (by omega)]
  unfold vz0
  rw [dg_off (by omega), dg_off (by omega), dg_off (by omega), dg_off (by omega), dg_off (by omega)]
theorem sim0 : SIM zI vzm (fun _ => 0) (fun _ => 0) gz_G 0 (fun _ => 0) (fun _ _ => 0) zT (fun _ => -1) [] 0 := by
  have hV : en_V (fun _ => 0) 0 (fun _ => -1) := ⟨fun _ => Or.inl rfl, fun p hp => absurd (show (p : Int) < -1 from hp) (by omega), fun p q _ hq => absurd (show (q : Int) < -1 from hq) (by omega)⟩
  refine ⟨⟨zI_0 0, ?_, zI_0 11, fun i hi => absurd hi (Nat.not_lt_zero i), by decide, fun _ => show 0 < 4 by decide, fun k hk => ?_⟩, ⟨⟨fun i j _ hj => absurd hj (Nat.not_lt_zero j), fun q hq i e h1 h2 => ?_⟩, ⟨fun i j _ hj => absurd hj (Nat.not_lt_zero j), fun i e h1 h2 => ?_, fun r hr i e h1 h2 => ?_⟩, ⟨fun i j _ hj => absurd hj (Nat.not_lt_zero j), fun q s t _ ht => absurd ht (Nat.not_lt_zero t), fun s => ⟨rfl, rfl, rfl, rfl, rfl, rfl⟩⟩⟩, Or.inl ⟨rfl, rfl, ?_⟩, ⟨?_, hV⟩, ⟨zI_0 10, zI_0 12, by decide, fun k hk => absurd hk (Nat.not_lt_zero k)⟩, ⟨⟨zI_0 1, ?_, by decide, List.Pairwise.nil, fun z hz => absurd hz List.not_mem_nil⟩, zI_0 17, fun j hj => absurd hj (Nat.not_lt_zero j), fun u hu => absurd hu List.not_mem_nil⟩, Or.inl (zI_0 13)⟩
  · exact vzm_0 (by decide)
  · unfold vzm
    rw [va_up_ne _ _ (by decide), va_up_self]
    exact if_pos hk
  · have e1 : i = e ∧ e < 19 := by omega
    obtain ⟨rfl, h3⟩ := e1
    have h4 := z_diag q hq i h3
    rw [vzm_lo (by omega)]
    exact h4.1
  · have e1 : i = e := by omega
    subst e1
    show (0 : Int) ≤ 0 ∧ (0 : Int) ≤ _
    omega
  · have e1 : i = e := by omega
    subst e1
    have h3 : 0 ≤ zT (2 + r) i i ∧ zT (2 + r) i i ≤ 1000000 := by
      rcases (show r = 0 ∨ r = 1 ∨ r = 2 ∨ r = 3 by omega) with rfl | rfl | rfl | rfl <;> (unfold zT; decide)
    omega
  · unfold vzm vz
    rw [va_up_ne _ _ (by decide), va_up_ne _ _ (by decide), va_up_ne _ _ (by decide), va_up_self]
    rfl
  · unfold vzm
    rw [va_up_self]
  · intro j hj
    exact absurd hj (Nat.not_lt_zero j)

