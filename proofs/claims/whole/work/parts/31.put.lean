/-! The reference: put, list. -/
def mo_ins {α : Type} (f : α → Int) (z : α) : List α → List α
  | [] => [z]
  | a :: l => if f z < f a then z :: a :: l else a :: mo_ins f z l
theorem mo_ins_map {α : Type} (f : α → Int) (z : α) : ∀ l : List α, (mo_ins f z l).map f = nl_ins (f z) (l.map f)
  | [] => rfl
  | a :: l => by
    show (if f z < f a then z :: a :: l else a :: mo_ins f z l).map f = if f z < f a then f z :: f a :: l.map f else f a :: nl_ins (f z) (l.map f)
    by_cases h : f z < f a
    · rw [if_pos h, if_pos h]
      rfl
    · rw [if_neg h, if_neg h, List.map_cons, mo_ins_map f z l]
theorem mo_ins_len {α : Type} (f : α → Int) (z : α) (l : List α) : (mo_ins f z l).length = l.length + 1 := by
  have h := congrArg List.length (mo_ins_map f z l)
  rwa [List.length_map, nl_ins_len, List.length_map] at h
theorem mo_ins_mem {α : Type} (f : α → Int) (z : α) : ∀ (l : List α) (y : α), y ∈ mo_ins f z l → y = z ∨ y ∈ l
  | [], y, h => Or.inl (List.mem_singleton.mp h)
  | a :: l, y, h => by
    unfold mo_ins at h
    by_cases h1 : f z < f a
    · rw [if_pos h1] at h
      exact List.mem_cons.mp h
    · rw [if_neg h1] at h
      rcases List.mem_cons.mp h with h2 | h2
      · exact Or.inr (h2 ▸ List.mem_cons_self)
      · rcases mo_ins_mem f z l y h2 with h3 | h3
        · exact Or.inl h3
        · exact Or.inr (List.mem_cons_of_mem _ h3)
theorem mo_ins_get {α : Type} (f : α → Int) (d : α) (z : α) : ∀ (ks : List α) (p : Nat), p ≤ ks.length → (∀ k, k < p → f (ks.getD k d) ≤ f z) → (∀ k, p ≤ k → k < ks.length → f z < f (ks.getD k d)) → ∀ k, k ≤ ks.length → (mo_ins f z ks).getD k d = if k < p then ks.getD k d else if k = p then z else ks.getD (k - 1) d
  | [], p, hp, _, _, k, hk => by
    have hp : p = 0 := by simpa using hp
    have hk : k = 0 := by simpa using hk
    subst hp
    subst hk
    rfl
  | a :: l, p, hp, h1, h2, k, hk => by
    rw [List.length_cons] at hp hk
    unfold mo_ins
    by_cases h : f z < f a
    · have hp0 : p = 0 := by
        rcases Nat.eq_zero_or_pos p with h3 | h3
        · exact h3
        · have h4 : f a ≤ f z := h1 0 h3
          omega
      subst hp0
      rw [if_pos h, if_neg (by omega)]
      cases k with
      | zero => rfl
      | succ k => rw [if_neg (by omega)]; rfl
    · rw [if_neg h]
      cases p with
      | zero =>
        have h4 : f z < f a := h2 0 (Nat.le_refl 0) (by simp)
        exact absurd h4 h
      | succ p =>
        cases k with
        | zero =>
          rw [if_pos (by omega)]
          rfl
        | succ k =>
          have ih := mo_ins_get f d z l p (by omega) (fun k hk => h1 (k + 1) (by omega)) (fun k hk1 hk2 => h2 (k + 1) (by omega) (by simp; omega)) k (by omega)
          show (mo_ins f z l).getD k d = _
          rw [ih]
          by_cases h5 : k < p
          · rw [if_pos h5, if_pos (show k + 1 < p + 1 by omega)]
            rfl
          · rw [if_neg h5, if_neg (show ¬ k + 1 < p + 1 by omega)]
            by_cases h6 : k = p
            · rw [if_pos h6, if_pos (show k + 1 = p + 1 by omega)]
            · rw [if_neg h6, if_neg (show ¬ k + 1 = p + 1 by omega)]
              cases k with
              | zero => omega
              | succ k => rfl
def mo_w0 : Nat → Int := fun _ => -1
def mo_row (b : Nat → Nat) (n : Nat) (V : Nat → Nat → Int32) (j : Nat) (u : Nat → Int) : Prop := V 166 j = iI (st_E b n u) ∧ ∀ i, i < 18 → V 167 (18 * j + i) = iI (u i)
def mo_rows (b : Nat → Nat) (n : Nat) (ms : List (Nat → Int)) (V : Nat → Nat → Int32) : Prop := ∀ j, j < ms.length → mo_row b n V j (ms.getD j mo_w0)
def mo_fr (V0 V : Nat → Nat → Int32) : Prop := ∀ c, c ≠ 166 → c ≠ 167 → V c = V0 c
def mo_X (b : Nat → Nat) (n : Nat) (ms : List (Nat → Int)) (V0 : Nat → Nat → Int32) (k : Nat) (V : Nat → Nat → Int32) : Prop := mo_fr V0 V ∧ (∀ j, j < k → mo_row b n V j (ms.getD j mo_w0)) ∧ (∀ j, k ≤ j → j < ms.length → mo_row b n V (j + 1) (ms.getD j mo_w0))
def mo_Y (b : Nat → Nat) (n : Nat) (ms : List (Nat → Int)) (V0 : Nat → Nat → Int32) (k : Nat) (u : Nat → Int) (i : Nat) (V : Nat → Nat → Int32) : Prop := mo_X b n ms V0 k V ∧ V 166 k = iI (st_E b n u) ∧ ∀ m, m < i → V 167 (18 * k + m) = iI (u m)
theorem mo_Y_start {b : Nat → Nat} {n : Nat} {ms : List (Nat → Int)} {V0 V : Nat → Nat → Int32} {k : Nat} (u : Nat → Int) (h : mo_X b n ms V0 k V) : mo_Y b n ms V0 k u 0 (va_up V 166 (upd (V 166) k (iI (st_E b n u)))) := by
  obtain ⟨h1, h2, h3⟩ := h
  refine ⟨⟨fun c c1 c2 => ?_, fun j hj => ⟨?_, fun i hi => ?_⟩, fun j hj hj2 => ⟨?_, fun i hi => ?_⟩⟩, fo_up2s, fun m hm => absurd hm (Nat.not_lt_zero m)⟩
  · rw [va_up_ne _ _ c1]
    exact h1 c c1 c2
  · rw [fo_up2 (Or.inr (by omega))]
    exact (h2 j hj).1
  · rw [fo_up2 (Or.inl (by decide))]
    exact (h2 j hj).2 i hi
  · rw [fo_up2 (Or.inr (by omega))]
    exact (h3 j hj hj2).1
  · rw [fo_up2 (Or.inl (by decide))]
    exact (h3 j hj hj2).2 i hi
theorem mo_Y_step {b : Nat → Nat} {n : Nat} {ms : List (Nat → Int)} {V0 V : Nat → Nat → Int32} {k : Nat} {u : Nat → Int} {i : Nat} (hi18 : i < 18) (h : mo_Y b n ms V0 k u i V) : mo_Y b n ms V0 k u (i + 1) (va_up V 167 (upd (V 167) (18 * k + i) (iI (u i)))) := by
  obtain ⟨⟨h1, h2, h3⟩, h4, h5⟩ := h
  refine ⟨⟨fun c c1 c2 => ?_, fun j hj => ⟨?_, fun i hi => ?_⟩, fun j hj hj2 => ⟨?_, fun i hi => ?_⟩⟩, ?_, fun m hm => ?_⟩
  · rw [va_up_ne _ _ c2]
    exact h1 c c1 c2
  · rw [fo_up2 (Or.inl (by decide))]
    exact (h2 j hj).1
  · rw [fo_up2 (Or.inr (by omega))]
    exact (h2 j hj).2 i hi
  · rw [fo_up2 (Or.inl (by decide))]
    exact (h3 j hj hj2).1
  · rw [fo_up2 (Or.inr (by omega))]
    exact (h3 j hj hj2).2 i hi
  · rw [fo_up2 (Or.inl (by decide))]
    exact h4
  · by_cases h6 : m = i
    · rw [h6, fo_up2s]
    · rw [fo_up2 (Or.inr (by omega))]
      exact h5 m (by omega)
theorem mo_Y_end {b : Nat → Nat} {n : Nat} {ms : List (Nat → Int)} {V0 V : Nat → Nat → Int32} {k : Nat} (h : mo_Y b n ms V0 (k + 1) (ms.getD k mo_w0) 18 V) : mo_X b n ms V0 k V := by
  obtain ⟨⟨h1, h2, h3⟩, h4, h5⟩ := h
  refine ⟨h1, fun j hj => h2 j (by omega), fun j hj hj2 => ?_⟩
  by_cases h6 : j = k
  · rw [h6]
    exact ⟨h4, h5⟩
  · exact h3 j (by omega) hj2
theorem mo_Y_fin {b : Nat → Nat} {n : Nat} {ms : List (Nat → Int)} {V0 V : Nat → Nat → Int32} {p : Nat} {w : Nat → Int} (hp : p ≤ ms.length) (g4 : ∀ k, k < p → mo_key b n (ms.getD k mo_w0) ≤ mo_key b n w) (g3 : ∀ k, p ≤ k → k < ms.length → mo_key b n w < mo_key b n (ms.getD k mo_w0)) (h : mo_Y b n ms V0 p w 18 V) : mo_fr V0 V ∧ mo_rows b n (mo_ins (mo_key b n) w ms) V := by
  obtain ⟨⟨h1, h2, h3⟩, h4, h5⟩ := h
  refine ⟨h1, fun j hj => ?_⟩
  rw [mo_ins_len] at hj
  rw [mo_ins_get (mo_key b n) mo_w0 w ms p hp g4 g3 j (by omega)]
  by_cases e1 : j < p
  · rw [if_pos e1]
    exact h2 j e1
  · rw [if_neg e1]
    by_cases e2 : j = p
    · rw [if_pos e2, e2]
      exact ⟨h4, h5⟩
    · rw [if_neg e2]
      have := h3 (j - 1) (by omega) (by omega)
      rwa [show j - 1 + 1 = j by omega] at this
abbrev bc_MO_put : ByteArray := prog_9_method_25_code
abbrev yn_MO_put : MethodName := ⟨"FoldedStrandModel", "put", "(I)V"⟩
theorem vs_MO_110 : jl_v "FoldedStrandModel" 110 yn_MO_isBefore bc_MO_isBefore 4 (some .boolean) 2 := ⟨jl_T_of 645 (by decide +kernel) (by decide +kernel), jl_T_of 9 (by decide +kernel) (by decide +kernel), jl_T_of 642 (by decide +kernel) (by decide +kernel), by decide +kernel, by decide +kernel, by decide +kernel⟩
theorem vi_MO_isBefore : Cond.instanceMethod yn_MO_isBefore ∈ jl_T := jl_T_of 644 (by decide +kernel) (by decide +kernel)
theorem vx_MO_isBefore : Cond.selects "FoldedStrandModel" yn_MO_isBefore yn_MO_isBefore ∈ jl_T := jl_T_sel 28 (by decide +kernel) (by decide +kernel)
theorem dc_MO_put_0 : decode bc_MO_put 0 = .ok (.aload_n 0, 1) := by decide +kernel
theorem dc_MO_put_1 : decode bc_MO_put 1 = .ok (.getfield 34, 3) := by decide +kernel
theorem dc_MO_put_4 : decode bc_MO_put 4 = .ok (.istore_n 2, 1) := by decide +kernel
theorem dc_MO_put_5 : decode bc_MO_put 5 = .ok (.iload_n 2, 1) := by decide +kernel
theorem dc_MO_put_6 : decode bc_MO_put 6 = .ok (.ifCond .le 72, 3) := by decide +kernel
theorem dc_MO_put_9 : decode bc_MO_put 9 = .ok (.aload_n 0, 1) := by decide +kernel
theorem dc_MO_put_10 : decode bc_MO_put 10 = .ok (.iload_n 1, 1) := by decide +kernel
theorem dc_MO_put_11 : decode bc_MO_put 11 = .ok (.iload_n 2, 1) := by decide +kernel
theorem dc_MO_put_12 : decode bc_MO_put 12 = .ok (.iconst 1, 1) := by decide +kernel
theorem dc_MO_put_13 : decode bc_MO_put 13 = .ok (.isub, 1) := by decide +kernel
theorem dc_MO_put_14 : decode bc_MO_put 14 = .ok (.invokevirtual 110, 3) := by decide +kernel
theorem dc_MO_put_17 : decode bc_MO_put 17 = .ok (.ifCond .eq 61, 3) := by decide +kernel
theorem dc_MO_put_20 : decode bc_MO_put 20 = .ok (.aload_n 0, 1) := by decide +kernel
theorem dc_MO_put_21 : decode bc_MO_put 21 = .ok (.getfield 25, 3) := by decide +kernel
theorem dc_MO_put_24 : decode bc_MO_put 24 = .ok (.iload_n 2, 1) := by decide +kernel
theorem dc_MO_put_25 : decode bc_MO_put 25 = .ok (.aload_n 0, 1) := by decide +kernel
theorem dc_MO_put_26 : decode bc_MO_put 26 = .ok (.getfield 25, 3) := by decide +kernel
theorem dc_MO_put_29 : decode bc_MO_put 29 = .ok (.iload_n 2, 1) := by decide +kernel
theorem dc_MO_put_30 : decode bc_MO_put 30 = .ok (.iconst 1, 1) := by decide +kernel
theorem dc_MO_put_31 : decode bc_MO_put 31 = .ok (.isub, 1) := by decide +kernel
theorem dc_MO_put_32 : decode bc_MO_put 32 = .ok (.iaload, 1) := by decide +kernel
theorem dc_MO_put_33 : decode bc_MO_put 33 = .ok (.iastore, 1) := by decide +kernel
theorem dc_MO_put_34 : decode bc_MO_put 34 = .ok (.iconst 0, 1) := by decide +kernel
theorem dc_MO_put_35 : decode bc_MO_put 35 = .ok (.istore_n 3, 1) := by decide +kernel
theorem dc_MO_put_36 : decode bc_MO_put 36 = .ok (.iload_n 3, 1) := by decide +kernel
theorem dc_MO_put_37 : decode bc_MO_put 37 = .ok (.bipush 18, 2) := by decide +kernel
theorem dc_MO_put_39 : decode bc_MO_put 39 = .ok (.if_icmp .ge 33, 3) := by decide +kernel
theorem dc_MO_put_42 : decode bc_MO_put 42 = .ok (.aload_n 0, 1) := by decide +kernel
theorem dc_MO_put_43 : decode bc_MO_put 43 = .ok (.getfield 28, 3) := by decide +kernel
theorem dc_MO_put_46 : decode bc_MO_put 46 = .ok (.bipush 18, 2) := by decide +kernel
theorem dc_MO_put_48 : decode bc_MO_put 48 = .ok (.iload_n 2, 1) := by decide +kernel
theorem dc_MO_put_49 : decode bc_MO_put 49 = .ok (.imul, 1) := by decide +kernel
theorem dc_MO_put_50 : decode bc_MO_put 50 = .ok (.iload_n 3, 1) := by decide +kernel
theorem dc_MO_put_51 : decode bc_MO_put 51 = .ok (.iadd, 1) := by decide +kernel
theorem dc_MO_put_52 : decode bc_MO_put 52 = .ok (.aload_n 0, 1) := by decide +kernel
theorem dc_MO_put_53 : decode bc_MO_put 53 = .ok (.getfield 28, 3) := by decide +kernel
theorem dc_MO_put_56 : decode bc_MO_put 56 = .ok (.bipush 18, 2) := by decide +kernel
theorem dc_MO_put_58 : decode bc_MO_put 58 = .ok (.iload_n 2, 1) := by decide +kernel
theorem dc_MO_put_59 : decode bc_MO_put 59 = .ok (.iconst 1, 1) := by decide +kernel
theorem dc_MO_put_60 : decode bc_MO_put 60 = .ok (.isub, 1) := by decide +kernel
theorem dc_MO_put_61 : decode bc_MO_put 61 = .ok (.imul, 1) := by decide +kernel
theorem dc_MO_put_62 : decode bc_MO_put 62 = .ok (.iload_n 3, 1) := by decide +kernel
theorem dc_MO_put_63 : decode bc_MO_put 63 = .ok (.iadd, 1) := by decide +kernel
theorem dc_MO_put_64 : decode bc_MO_put 64 = .ok (.iaload, 1) := by decide +kernel
theorem dc_MO_put_65 : decode bc_MO_put 65 = .ok (.iastore, 1) := by decide +kernel
theorem dc_MO_put_66 : decode bc_MO_put 66 = .ok (.iinc 3 1, 3) := by decide +kernel
theorem dc_MO_put_69 : decode bc_MO_put 69 = .ok (.goto (-33), 3) := by decide +kernel
theorem dc_MO_put_72 : decode bc_MO_put 72 = .ok (.iinc 2 (-1), 3) := by decide +kernel
theorem dc_MO_put_75 : decode bc_MO_put 75 = .ok (.goto (-70), 3) := by decide +kernel
theorem dc_MO_put_78 : decode bc_MO_put 78 = .ok (.aload_n 0, 1) := by decide +kernel
theorem dc_MO_put_79 : decode bc_MO_put 79 = .ok (.getfield 25, 3) := by decide +kernel
theorem dc_MO_put_82 : decode bc_MO_put 82 = .ok (.iload_n 2, 1) := by decide +kernel
theorem dc_MO_put_83 : decode bc_MO_put 83 = .ok (.iload_n 1, 1) := by decide +kernel
theorem dc_MO_put_84 : decode bc_MO_put 84 = .ok (.iastore, 1) := by decide +kernel
theorem dc_MO_put_85 : decode bc_MO_put 85 = .ok (.iconst 0, 1) := by decide +kernel
theorem dc_MO_put_86 : decode bc_MO_put 86 = .ok (.istore_n 3, 1) := by decide +kernel
theorem dc_MO_put_87 : decode bc_MO_put 87 = .ok (.iload_n 3, 1) := by decide +kernel
theorem dc_MO_put_88 : decode bc_MO_put 88 = .ok (.bipush 18, 2) := by decide +kernel
theorem dc_MO_put_90 : decode bc_MO_put 90 = .ok (.if_icmp .ge 26, 3) := by decide +kernel
theorem dc_MO_put_93 : decode bc_MO_put 93 = .ok (.aload_n 0, 1) := by decide +kernel
theorem dc_MO_put_94 : decode bc_MO_put 94 = .ok (.getfield 28, 3) := by decide +kernel
theorem dc_MO_put_97 : decode bc_MO_put 97 = .ok (.bipush 18, 2) := by decide +kernel
theorem dc_MO_put_99 : decode bc_MO_put 99 = .ok (.iload_n 2, 1) := by decide +kernel
theorem dc_MO_put_100 : decode bc_MO_put 100 = .ok (.imul, 1) := by decide +kernel
theorem dc_MO_put_101 : decode bc_MO_put 101 = .ok (.iload_n 3, 1) := by decide +kernel
theorem dc_MO_put_102 : decode bc_MO_put 102 = .ok (.iadd, 1) := by decide +kernel
theorem dc_MO_put_103 : decode bc_MO_put 103 = .ok (.aload_n 0, 1) := by decide +kernel
theorem dc_MO_put_104 : decode bc_MO_put 104 = .ok (.getfield 19, 3) := by decide +kernel
theorem dc_MO_put_107 : decode bc_MO_put 107 = .ok (.iload_n 3, 1) := by decide +kernel
theorem dc_MO_put_108 : decode bc_MO_put 108 = .ok (.iaload, 1) := by decide +kernel
theorem dc_MO_put_109 : decode bc_MO_put 109 = .ok (.iastore, 1) := by decide +kernel
theorem dc_MO_put_110 : decode bc_MO_put 110 = .ok (.iinc 3 1, 3) := by decide +kernel
theorem dc_MO_put_113 : decode bc_MO_put 113 = .ok (.goto (-26), 3) := by decide +kernel
theorem dc_MO_put_116 : decode bc_MO_put 116 = .ok (.aload_n 0, 1) := by decide +kernel
theorem dc_MO_put_117 : decode bc_MO_put 117 = .ok (.dup, 1) := by decide +kernel
theorem dc_MO_put_118 : decode bc_MO_put 118 = .ok (.getfield 34, 3) := by decide +kernel
theorem dc_MO_put_121 : decode bc_MO_put 121 = .ok (.iconst 1, 1) := by decide +kernel
theorem dc_MO_put_122 : decode bc_MO_put 122 = .ok (.iadd, 1) := by decide +kernel
theorem dc_MO_put_123 : decode bc_MO_put 123 = .ok (.putfield 34, 3) := by decide +kernel
theorem dc_MO_put_126 : decode bc_MO_put 126 = .ok (.return_, 1) := by decide +kernel
section MO
variable (l : Launch) {K : Nat → ClassId} {sa : Nat → Nat} {ad : Nat → Nat} {I : Nat → Int32} {V : Nat → Nat → Int32} {L : Nat → Int64} {C : Nat → Int32} {G : Nat → Nat} {R : Nat → Nat} {n : Nat} {b : Nat → Nat} {w u : Nat → Int}
theorem c_MO_put (hI : I 11 = nI n) (hn : n ≤ 18) (hM : V 164 = fun k => iI (w k)) (hw : mo_bw n w) {ms : List (Nat → Int)} (h17 : I 17 = nI ms.length) (hlen : ms.length < 151) (hr0 : mo_rows b n ms V) (hms : ∀ u ∈ ms, mo_bw n u) (hs : (ms.map (mo_key b n)).Pairwise (· ≤ ·)) : jl_CP l K sa yn_MO_put bc_MO_put 4 none 2 60 168 ad [.ref (ad 160), .int (iI (st_E b n w))] (gw K ad I V L C G R) (fun v E2 => v = none ∧ ∃ V2, mo_fr V V2 ∧ mo_rows b n (mo_ins (mo_key b n) w ms) V2 ∧ E2 = gw K ad (va_up I 17 (nI (ms.length + 1))) V2 L C G R) := by
  refine jl_enterP (by decide) (Nat.le_of_ble_eq_true rfl) (fun x h he hr => ?_)
  show jl_J x 168 ad 0 0 (gw K ad I V L C G R) 0 [(0, .ref (ad 160)), (1, .int (iI (st_E b n w)))] []
  have hsrt : ∀ i j, i < j → j < ms.length → mo_key b n (ms.getD i mo_w0) ≤ mo_key b n (ms.getD j mo_w0) := fun i j hij hj => by
    rw [List.getD_eq_getElem?_getD, List.getD_eq_getElem?_getD, List.getElem?_eq_getElem hj, List.getElem?_eq_getElem (Nat.lt_trans hij hj)]
    have h9 := List.pairwise_iff_getElem.mp (List.pairwise_map.mp hs) i j (Nat.lt_trans hij hj) hj hij
    exact h9
  have hmem : ∀ k, k < ms.length → mo_bw n (ms.getD k mo_w0) := fun k hk => by
    rw [List.getD_eq_getElem?_getD, List.getElem?_eq_getElem hk]
    exact hms _ (List.getElem_mem hk)
  have fin : ∀ (p : Nat) (V1 : Nat → Nat → Int32), p ≤ ms.length → (∀ k, k < p → mo_key b n (ms.getD k mo_w0) ≤ mo_key b n w) → (∀ k, p ≤ k → k < ms.length → mo_key b n w < mo_key b n (ms.getD k mo_w0)) → ∀ dd i, i + dd = 18 → mo_Y b n ms V p w i V1 → jl_J x 168 ad 0 0 (gw K ad I V1 L C G R) 87 [(3, .int (nI i)), (2, .int (nI p)), (0, .ref (ad 160)), (1, .int (iI (st_E b n w)))] [] := by
    intro p V1 hp g4 g3 dd
    induction dd generalizing V1 with
    | zero =>
      intro i hi hY
      have hi : i = 18 := by omega
      subst hi
      obtain ⟨q1, q2⟩ := mo_Y_fin hp g4 g3 hY
      refine jl_iload_n (i := 3) h rfl rfl dc_MO_put_87 88 rfl ?_
      refine jl_bipush (v := nI 18) h (by decide) dc_MO_put_88 90 rfl ?_
      refine jl_icmp_ge h 116 (by decide) dc_MO_put_90 93 rfl (fun c90 => ?_) (fun c90 => absurd (nI_le (Nat.le_refl _) (by omega)) c90)
      refine jl_aload_n (i := 0) h rfl rfl dc_MO_put_116 117 rfl ?_
      refine jl_dup h rfl dc_MO_put_117 118 rfl ?_
      refine jl_getf (v := .int (nI ms.length)) h nm_c_MO 11 wl_MO_34 (by omega) (by decide) (by exact rfl) (by exact sr_v h17) dc_MO_put_118 121 rfl ?_
      refine jl_iconst (v := nI 1) h (by decide) dc_MO_put_121 122 rfl ?_
      refine jl_iadd h dc_MO_put_122 123 rfl ?_
      rw [show nI ms.length + nI 1 = nI (ms.length + 1) by exact nI_add _ 1]
      refine jl_putf (fs2 := [_, _, _, _, _, _, _, _, _, _, _, _, _, _]) h nm_c_MO 11 wl_MO_34 (by omega) (by decide) rfl (by exact rfl) (by rfl) (by rfl) (by exact Nat.le_of_ble_eq_true rfl) (by rfl) dc_MO_put_123 (gw_set_mlisted _) 126 rfl ?_
      exact jl_vretP h he (⟨rfl, _, q1, q2, rfl⟩) dc_MO_put_126
    | succ dd ih =>
      intro i hi hY
      have h164 : V1 164 = V 164 := hY.1.1 164 (by decide) (by decide)
      refine jl_iload_n (i := 3) h rfl rfl dc_MO_put_87 88 rfl ?_
      refine jl_bipush (v := nI 18) h (by decide) dc_MO_put_88 90 rfl ?_
      refine jl_icmp_ge h 116 (by decide) dc_MO_put_90 93 rfl (fun c90 => absurd c90 (nI_ge (by omega) (by omega))) (fun c90 => ?_)
      refine jl_aload_n (i := 0) h rfl rfl dc_MO_put_93 94 rfl ?_
      refine jl_getf h nm_c_MO 13 wl_MO_28 (by omega) (by decide) (by exact rfl) (by rfl) dc_MO_put_94 97 rfl ?_
      refine jl_bipush (v := nI 18) h (by decide) dc_MO_put_97 99 rfl ?_
      refine jl_iload_n (i := 2) h rfl rfl dc_MO_put_99 100 rfl ?_
      refine jl_imul h dc_MO_put_100 101 rfl ?_
      rw [show nI 18 * nI p = nI (18 * p) by exact pk_mul 18 p]
      refine jl_iload_n (i := 3) h rfl rfl dc_MO_put_101 102 rfl ?_
      refine jl_iadd h dc_MO_put_102 103 rfl ?_
      rw [show nI (18 * p) + nI i = nI (18 * p + i) by exact nI_add _ _]
      refine jl_aload_n (i := 0) h rfl rfl dc_MO_put_103 104 rfl ?_
      refine jl_getf h nm_c_MO 5 wl_MO_19 (by omega) (by decide) (by exact rfl) (by rfl) dc_MO_put_104 107 rfl ?_
      refine jl_iload_n (i := 3) h rfl rfl dc_MO_put_107 108 rfl ?_
      refine jl_iald (v := iI (w i)) h (i) (by exact rfl) (by omega) (by exact gw_row (len := 18) ⟨rfl, rfl⟩) (by exact by omega) (by first | decide | assumption) (by exact by rw [h164, hM]) dc_MO_put_108 109 rfl ?_
      refine jl_iast h (18 * p + i) (by exact rfl) (by omega) (by exact gw_row (len := 2718) ⟨rfl, rfl⟩) (by exact by omega) (by first | decide | assumption) dc_MO_put_109 (gw_rowset (len := 2718) ⟨rfl, rfl⟩ _) 110 rfl ?_
      refine jl_abs (P := mo_Y b n ms V p w (i + 1)) (mo_Y_step (by omega) hY) (fun V2 hY2 => ?_)
      refine jl_iinc (i := 3) (d := 1) (lc2 := [(3, _), (2, _), (0, _), (1, _)]) (v2 := nI (i + 1)) h (by decide) rfl (nI_1 i) rfl dc_MO_put_110 113 rfl ?_
      refine jl_goto h 87 (by decide) dc_MO_put_113 ?_
      exact ih V2 (i + 1) (by omega) hY2
  have fin0 : ∀ (p : Nat) (V1 : Nat → Nat → Int32), p ≤ ms.length → mo_X b n ms V p V1 → (∀ k, k < p → mo_key b n (ms.getD k mo_w0) ≤ mo_key b n w) → (∀ k, p ≤ k → k < ms.length → mo_key b n w < mo_key b n (ms.getD k mo_w0)) → jl_J x 168 ad 0 0 (gw K ad I V1 L C G R) 78 [(2, .int (nI p)), (0, .ref (ad 160)), (1, .int (iI (st_E b n w)))] [] := by
    intro p V1 hp hX g4 g3
    refine jl_aload_n (i := 0) h rfl rfl dc_MO_put_78 79 rfl ?_
    refine jl_getf h nm_c_MO 12 wl_MO_25 (by omega) (by decide) (by exact rfl) (by rfl) dc_MO_put_79 82 rfl ?_
    refine jl_iload_n (i := 2) h rfl rfl dc_MO_put_82 83 rfl ?_
    refine jl_iload_n (i := 1) h rfl rfl dc_MO_put_83 84 rfl ?_
    refine jl_iast h (p) (by exact rfl) (by omega) (by exact gw_row (len := 151) ⟨rfl, rfl⟩) (by exact by omega) (by first | decide | assumption) dc_MO_put_84 (gw_rowset (len := 151) ⟨rfl, rfl⟩ _) 85 rfl ?_
    refine jl_abs (P := mo_Y b n ms V p w 0) (mo_Y_start w hX) (fun V2 hY2 => ?_)
    refine jl_iconst (v := nI 0) h (by decide) dc_MO_put_85 86 rfl ?_
    refine jl_istore_n (i := 3) (lc2 := [(3, _), (2, _), (0, _), (1, _)]) h rfl (by decide) rfl dc_MO_put_86 87 rfl ?_
    exact fin p V2 hp g4 g3 18 0 (by omega) hY2
  have z0 : (0 : Int32) = nI 0 := rfl
  have loop : ∀ (p : Nat) (V1 : Nat → Nat → Int32), p ≤ ms.length → mo_X b n ms V p V1 → (∀ k, p ≤ k → k < ms.length → mo_key b n w < mo_key b n (ms.getD k mo_w0)) → jl_J x 168 ad 0 0 (gw K ad I V1 L C G R) 5 [(2, .int (nI p)), (0, .ref (ad 160)), (1, .int (iI (st_E b n w)))] [] := by
    intro p
    induction p with
    | zero =>
      intro V1 hp hX g3
      refine jl_iload_n (i := 2) h rfl rfl dc_MO_put_5 6 rfl ?_
      refine jl_if_le h 78 (by decide) dc_MO_put_6 9 rfl (fun c6 => ?_) (fun c6 => absurd (by decide) c6)
      exact fin0 0 V1 hp hX (fun k hk => absurd hk (Nat.not_lt_zero k)) g3
    | succ p ih =>
      intro V1 hp hX g3
      have e1 : nI (p + 1) - 1 = nI p := nI_pred p
      have em : nI (p + 1) + Int32.ofInt (-1) = nI p := pk_m1 p
      have hrp := hX.2.1 p (by omega)
      have h164 : V1 164 = V 164 := hX.1 164 (by decide) (by decide)
      have inner : ∀ (dd i : Nat) (V2 : Nat → Nat → Int32), i + dd = 18 → mo_Y b n ms V (p + 1) (ms.getD p mo_w0) i V2 → mo_key b n w < mo_key b n (ms.getD p mo_w0) → jl_J x 168 ad 0 0 (gw K ad I V2 L C G R) 36 [(3, .int (nI i)), (2, .int (nI (p + 1))), (0, .ref (ad 160)), (1, .int (iI (st_E b n w)))] [] := by
        intro dd
        induction dd with
        | zero =>
          intro i V2 hi hY hlt
          have hi : i = 18 := by omega
          subst hi
          refine jl_iload_n (i := 3) h rfl rfl dc_MO_put_36 37 rfl ?_
          refine jl_bipush (v := nI 18) h (by decide) dc_MO_put_37 39 rfl ?_
          refine jl_icmp_ge h 72 (by decide) dc_MO_put_39 42 rfl (fun c39 => ?_) (fun c39 => absurd (nI_le (Nat.le_refl _) (by omega)) c39)
          refine jl_iinc (i := 2) (d := -1) (lc2 := [(2, _), (3, _), (0, _), (1, _)]) (v2 := nI p) h (by decide) rfl (em) rfl dc_MO_put_72 75 rfl ?_
          refine jl_goto h 5 (by decide) dc_MO_put_75 ?_
          refine jl_sub (lc2 := [(2, _), (0, _), (1, _)]) [0, 2, 3] rfl ?_
          exact ih V2 (by omega) (mo_Y_end hY) (fun k hk1 hk2 => by
            by_cases h9 : k = p
            · rw [h9]; exact hlt
            · exact g3 k (by omega) hk2)
        | succ dd ih2 =>
          intro i V2 hi hY hlt
          have hrp2 := hY.1.2.1 p (by omega)
          refine jl_iload_n (i := 3) h rfl rfl dc_MO_put_36 37 rfl ?_
          refine jl_bipush (v := nI 18) h (by decide) dc_MO_put_37 39 rfl ?_
          refine jl_icmp_ge h 72 (by decide) dc_MO_put_39 42 rfl (fun c39 => absurd c39 (nI_ge (by omega) (by omega))) (fun c39 => ?_)
          refine jl_aload_n (i := 0) h rfl rfl dc_MO_put_42 43 rfl ?_
          refine jl_getf h nm_c_MO 13 wl_MO_28 (by omega) (by decide) (by exact rfl) (by rfl) dc_MO_put_43 46 rfl ?_
          refine jl_bipush (v := nI 18) h (by decide) dc_MO_put_46 48 rfl ?_
          refine jl_iload_n (i := 2) h rfl rfl dc_MO_put_48 49 rfl ?_
          refine jl_imul h dc_MO_put_49 50 rfl ?_
          rw [show nI 18 * nI (p + 1) = nI (18 * (p + 1)) by exact pk_mul 18 (p + 1)]
          refine jl_iload_n (i := 3) h rfl rfl dc_MO_put_50 51 rfl ?_
          refine jl_iadd h dc_MO_put_51 52 rfl ?_
          rw [show nI (18 * (p + 1)) + nI i = nI (18 * (p + 1) + i) by exact nI_add _ _]
          refine jl_aload_n (i := 0) h rfl rfl dc_MO_put_52 53 rfl ?_
          refine jl_getf h nm_c_MO 13 wl_MO_28 (by omega) (by decide) (by exact rfl) (by rfl) dc_MO_put_53 56 rfl ?_
          refine jl_bipush (v := nI 18) h (by decide) dc_MO_put_56 58 rfl ?_
          refine jl_iload_n (i := 2) h rfl rfl dc_MO_put_58 59 rfl ?_
          refine jl_iconst (v := 1) h (by decide) dc_MO_put_59 60 rfl ?_
          refine jl_isub h dc_MO_put_60 61 rfl ?_
          rw [show nI (p + 1) - 1 = nI p by exact e1]
          refine jl_imul h dc_MO_put_61 62 rfl ?_
          rw [show nI 18 * nI p = nI (18 * p) by exact pk_mul 18 p]
          refine jl_iload_n (i := 3) h rfl rfl dc_MO_put_62 63 rfl ?_
          refine jl_iadd h dc_MO_put_63 64 rfl ?_
          rw [show nI (18 * p) + nI i = nI (18 * p + i) by exact nI_add _ _]
          refine jl_iald (v := iI (ms.getD p mo_w0 i)) h (18 * p + i) (by exact rfl) (by omega) (by exact gw_row (len := 2718) ⟨rfl, rfl⟩) (by exact by omega) (by first | decide | assumption) (by exact hrp2.2 i (by omega)) dc_MO_put_64 65 rfl ?_
          refine jl_iast h (18 * (p + 1) + i) (by exact rfl) (by omega) (by exact gw_row (len := 2718) ⟨rfl, rfl⟩) (by exact by omega) (by first | decide | assumption) dc_MO_put_65 (gw_rowset (len := 2718) ⟨rfl, rfl⟩ _) 66 rfl ?_
          refine jl_abs (P := mo_Y b n ms V (p + 1) (ms.getD p mo_w0) (i + 1)) (mo_Y_step (by omega) hY) (fun V3 hY3 => ?_)
          refine jl_iinc (i := 3) (d := 1) (lc2 := [(3, _), (2, _), (0, _), (1, _)]) (v2 := nI (i + 1)) h (by decide) rfl (nI_1 i) rfl dc_MO_put_66 69 rfl ?_
          refine jl_goto h 36 (by decide) dc_MO_put_69 ?_
          exact ih2 (i + 1) V3 (by omega) hY3 hlt
      refine jl_iload_n (i := 2) h rfl rfl dc_MO_put_5 6 rfl ?_
      refine jl_if_le h 78 (by decide) dc_MO_put_6 9 rfl (fun c6 => absurd c6 (fun q => by rw [z0] at q; exact absurd q (nI_ge (by omega) (by omega)))) (fun c6 => ?_)
      refine jl_aload_n (i := 0) h rfl rfl dc_MO_put_9 10 rfl ?_
      refine jl_iload_n (i := 1) h rfl rfl dc_MO_put_10 11 rfl ?_
      refine jl_iload_n (i := 2) h rfl rfl dc_MO_put_11 12 rfl ?_
      refine jl_iconst (v := 1) h (by decide) dc_MO_put_12 13 rfl ?_
      refine jl_isub h dc_MO_put_13 14 rfl ?_
      rw [show nI (p + 1) - 1 = nI p by exact e1]
      refine jl_callV (As := [_, _]) (rest := []) h hr vs_MO_110 vi_MO_isBefore vx_MO_isBefore (ci := 7) rfl (by omega) (by exact rfl) (fun l => c_MO_isBefore l hI hn (fun k hk => by rw [h164, hM]) hw (show p < 151 by omega) hrp.1 hrp.2 (hmem p (by omega))) (by first | decide | omega) (by first | decide | omega) rfl rfl (Nat.le_of_ble_eq_true rfl) dc_MO_put_14 (res := [_]) rfl 17 rfl ?_
      refine jl_if_eq h 78 (by decide) dc_MO_put_17 20 rfl (fun c17 => ?_) (fun c17 => ?_)
      · skip
        rw [st_b0] at c17
        have c17 := of_decide_eq_false c17
        exact fin0 (p + 1) V1 hp hX (fun k hk => by
          by_cases h9 : k = p
          · rw [h9]; omega
          · exact Int.le_trans (hsrt k p (by omega) (by omega)) (by omega)) g3
      · skip
        rw [st_b1] at c17
        have c17 := of_decide_eq_true c17
        refine jl_aload_n (i := 0) h rfl rfl dc_MO_put_20 21 rfl ?_
        refine jl_getf h nm_c_MO 12 wl_MO_25 (by omega) (by decide) (by exact rfl) (by rfl) dc_MO_put_21 24 rfl ?_
        refine jl_iload_n (i := 2) h rfl rfl dc_MO_put_24 25 rfl ?_
        refine jl_aload_n (i := 0) h rfl rfl dc_MO_put_25 26 rfl ?_
        refine jl_getf h nm_c_MO 12 wl_MO_25 (by omega) (by decide) (by exact rfl) (by rfl) dc_MO_put_26 29 rfl ?_
        refine jl_iload_n (i := 2) h rfl rfl dc_MO_put_29 30 rfl ?_
        refine jl_iconst (v := 1) h (by decide) dc_MO_put_30 31 rfl ?_
        refine jl_isub h dc_MO_put_31 32 rfl ?_
        rw [show nI (p + 1) - 1 = nI p by exact e1]
        refine jl_iald (v := iI (st_E b n (ms.getD p mo_w0))) h (p) (by exact rfl) (by omega) (by exact gw_row (len := 151) ⟨rfl, rfl⟩) (by exact by omega) (by first | decide | assumption) (by exact hrp.1) dc_MO_put_32 33 rfl ?_
        refine jl_iast h (p + 1) (by exact rfl) (by omega) (by exact gw_row (len := 151) ⟨rfl, rfl⟩) (by exact by omega) (by first | decide | assumption) dc_MO_put_33 (gw_rowset (len := 151) ⟨rfl, rfl⟩ _) 34 rfl ?_
        refine jl_abs (P := mo_Y b n ms V (p + 1) (ms.getD p mo_w0) 0) (mo_Y_start _ hX) (fun V2 hY2 => ?_)
        refine jl_iconst (v := nI 0) h (by decide) dc_MO_put_34 35 rfl ?_
        refine jl_istore_n (i := 3) (lc2 := [(3, _), (2, _), (0, _), (1, _)]) h rfl (by decide) rfl dc_MO_put_35 36 rfl ?_
        exact inner 18 0 V2 (by omega) hY2 c17
  have l0 := loop ms.length V (Nat.le_refl _) ⟨fun _ _ _ => rfl, hr0, fun j h1 h2 => by omega⟩ (fun k h1 h2 => by omega)
  refine jl_aload_n (i := 0) h rfl rfl dc_MO_put_0 1 rfl ?_
  refine jl_getf (v := .int (nI ms.length)) h nm_c_MO 11 wl_MO_34 (by omega) (by decide) (by exact rfl) (by exact sr_v h17) dc_MO_put_1 4 rfl ?_
  refine jl_istore_n (i := 2) (lc2 := [(2, _), (0, _), (1, _)]) h rfl (by decide) rfl dc_MO_put_4 5 rfl ?_
  exact l0
end MO

