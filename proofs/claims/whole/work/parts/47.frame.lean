/-! A call from a world with one array more: that array stays. -/
section JX
variable {x : jl_X} {N : Nat} {ad : Nat → Nat} {K : Nat → ClassId} {sa : Nat → Nat} {cells slots : Nat} {cc : ByteArray} {own : String} {n : Nat} {E : Nat → va_E} {pc : Nat} {lc : List (Nat × Value)} {st : List Value} {post : Option Value → (Nat → va_E) → Prop}
theorem jl_okN (h : jl_ok x (N + 1) ad K sa cc own n) : jl_ok x N ad K sa cc own n := by
  obtain ⟨p, l, e, R, s, m, args, below, meth, c, Q, D, A, nL⟩ := x
  obtain ⟨h1, h2, h3, h4, h5, h6, h7, h8, h9⟩ := h
  exact ⟨h1, h2, h3, h4, h5, h6, h7, ⟨fun i j hi hj => h8.1 i j (by omega) (by omega), fun k hk => h8.2 k (by omega)⟩, h9⟩
theorem jl_afterX {p : Program} {l : Launch} {e : Env} {R : Room} {s : State} {m : MethodId} {args : Array Value} {below : List Frame} {meth : Method} {c : Code} {Q : State → Prop} {D : va_G} {A : Nat → Prop} {nL : Nat} {H : Heap} {locs : List Loc} {ls : Array Slot} {rest : List Value} {a : Array Value} {y : ClassId × vp_A}
    (hrun : va_Run p l e R s m args below meth c H locs cells slots 0 0 (F0 m pc ls st) rest (jl_QP post D N ad (jl_A N ad H.size) a) (jl_A N ad H.size)) (hS : va_S A s.heap H locs) (hA : ∀ q, jl_A N ad H.size q → A q) (hl : lv_has ls nL lc) (hN : H[ad N]? = some (vp_cell y.1 y.2)) (hD : ∀ k, k < N → ad N ≠ ad k)
    (kk : ∀ v E2, post v E2 → jl_J (p, l, e, R, s, m, args, below, meth, c, Q, D, A, nL) (N + 1) ad cells slots (va_up E2 N (.inl y)) (pc + 3) lc (v.toList ++ rest)) : W p l e R s m args below meth c H locs cells slots Q (F0 m pc ls st) := by
  intro T hT X
  obtain ⟨v, st₀, t, T', L, h0, X', hL, e1, e2, ⟨⟨v', E', hv, hp, hP'⟩, hz, hk⟩, stp⟩ := hrun T hT X
  cases hv
  rw [h0] at hz hk
  have hsz : ad N < H.size := (Array.getElem?_eq_some_iff.mp hN).1
  have hnA : ¬ jl_A N ad H.size (ad N) := fun h9 => by
    rcases h9 with ⟨k, h1, h2⟩ | h1
    · exact hD k h1 h2
    · omega
  have hP2 : va_P D jl_cl (jl_w (N + 1) ad (va_up E' N (.inl y))) T'.heap := fun k q hkq => by
    obtain ⟨h1, rfl⟩ := jl_at hkq
    by_cases h2 : k = N
    · subst h2
      rw [va_up_self]
      show T'.heap[ad k]? = some (vp_cell y.1 y.2)
      rw [e1, hk (ad k) hsz hnA]
      exact hN
    · rw [va_up_ne _ _ h2, e1]
      exact hP' k _ (jl_get (by omega))
  obtain ⟨t2, a1, b1⟩ := kk v E' hp T'.heap (locs ++ L) ls hl hP2
    ⟨Nat.le_trans hS.1 (by rw [e1]; exact hz), fun q h1 h2 => by rw [e1, hk q (Nat.lt_of_lt_of_le h1 hS.1) (fun z => h2 (hA q z))]; exact hS.2.1 q h1 h2, fun q hq => by
      rcases List.mem_append.mp hq with h | h
      · exact hS.2.2 q h
      · exact hA _ (hL q h)⟩ T' rfl X'
  exact ⟨t2, stp t2 a1, b1⟩
theorem jl_callVX (h : jl_ok x (N + 1) ad K sa cc own n) {fr lo fr2 lo2 : Nat} (hr : jl_r x fr lo cells slots) {y : MethodName} {cc2 : ByteArray} {nL2 : Nat} {ret2 : Option FieldType} {index na : Nat} (hv : jl_v own index y cc2 nL2 ret2 na) (hin : Cond.instanceMethod y ∈ jl_T) (hsel : Cond.selects y.cls y y ∈ jl_T) {k ci : Nat} {T : u_T} {M : Nat} {fs : List Value} (hc : jl_cl[ci]? = some (y.cls, T, M)) (hk : k < N) (hE : E k = .inr (ci, fs)) {As rest : List Value} {z : ClassId × vp_A}
    (hC : ∀ l, jl_CP l K sa y cc2 nL2 ret2 fr2 lo2 N ad (.ref (ad k) :: As) E post) (hfr : fr2 + 1 ≤ fr) (hlo : 8 + (nL2 + 11) + lo2 ≤ lo) (hn : As.length = na) (hst : st = As.reverse ++ .ref (ad k) :: rest) (hW : (rest.map fun v => v.category).sum ≤ 8) (hd : decode cc pc = .ok (.invokevirtual index, 3))
    (pc2 : Nat) (hpc : pc + 3 = pc2) (kk : ∀ v E2, post v E2 → jl_J x (N + 1) ad cells slots (va_up E2 N (.inl z)) pc2 lc (v.toList ++ rest)) : jl_J x (N + 1) ad cells slots (va_up E N (.inl z)) pc lc st := by
  subst hpc
  have h1 := jl_okN h
  obtain ⟨p, l, e, R, s, m, args, below, meth, c, Q, D, A, nL⟩ := x
  intro H locs ls hl hP hS
  have hP0 : va_P D jl_cl (jl_w N ad E) H := fun j q hj => by
    obtain ⟨g1, rfl⟩ := jl_at hj
    have g2 := hP j _ (jl_get (show j < N + 1 by omega))
    rw [va_up_ne _ _ (show j ≠ N by omega)] at g2
    exact g2
  have hN : H[ad N]? = some (vp_cell z.1 z.2) := by
    have g2 := hP N _ (jl_get (show N < N + 1 by omega))
    rw [va_up_self] at g2
    exact g2
  have hDN : ∀ j, j < N → ad N ≠ ad j := fun j hj h9 => by
    have := h.2.2.2.2.2.2.2.1.1 N j (by omega) (by omega) h9
    omega
  obtain ⟨hA, hpre⟩ := jl_pre h1 hP0 hS (.ref (ad k) :: As)
  have hts := h.2.2.2.2.2.1
  have cb : CallB R s args own index y cc2 nL2 ret2 (Cond.code y cc2 nL2 ret2 :: jl_T) ({ frames := fr2, cells := 0, slots := 0, locals := lo2 } : Room) 0 0 na := callB_of na hts (jl_goodIn hv.1) rfl rfl rfl (hts _ hv.2.1) (hts _ hv.2.2.1) ⟨hv.2.2.2.1, hv.2.2.2.2.1, hv.2.2.2.2.2⟩ ⟨Nat.le_trans hfr hr.1, Nat.le_trans hlo hr.2.1⟩
  exact jl_afterX (va_runV (As := As) (rest := rest) (b := ad k) (C := y.cls) ⟨h.1, h.2.1, h.2.2.2.1, h.2.2.2.2.1, hts⟩ (hC l D H.size) ⟨cb, hts _ hin, hts _ hsel⟩ ⟨jl_blind, va_recv h.2.2.2.2.2.2.1 hP0 hc (by rw [jl_get hk, hE]), hpre⟩ rfl hn hl.1 hst (lv_room hW) hd ⟨hr.2.2.1, hr.2.2.2⟩) hS hA hl hN hDN kk
end JX
/-- a contract may say less -/
theorem jl_CP.mono {l : Launch} {K : Nat → ClassId} {sa : Nat → Nat} {y : MethodName} {cc : ByteArray} {nL : Nat} {ret : Option FieldType} {fr lo : Nat} {N : Nat} {ad : Nat → Nat} {av : List Value} {E : Nat → va_E} {post post2 : Option Value → (Nat → va_E) → Prop} (h : jl_CP l K sa y cc nL ret fr lo N ad av E post) (hp : ∀ v E2, post v E2 → post2 v E2) : jl_CP l K sa y cc nL ret fr lo N ad av E post2 := by
  intro D sz p e ha hc hk s m args below hf happ hP hK
  obtain ⟨n, o, h1, h2, h3, ⟨⟨⟨v, E2, g1, g2, g3⟩, g4⟩, g5⟩⟩ := h D sz p e ha hc hk s m args below hf happ hP hK
  exact ⟨n, o, h1, h2, h3, ⟨⟨⟨v, E2, g1, hp v E2 g2, g3⟩, g4⟩, g5⟩⟩
/-- a contract without a choice, as one with a postcondition -/
theorem jl_C.toP {l : Launch} {K : Nat → ClassId} {sa : Nat → Nat} {y : MethodName} {cc : ByteArray} {nL : Nat} {ret : Option FieldType} {fr lo : Nat} {N : Nat} {ad : Nat → Nat} {av : List Value} {E E2 : Nat → va_E} {v2 : Option Value} (h : jl_C l K sa y cc nL ret fr lo N ad av E v2 E2) {post : Option Value → (Nat → va_E) → Prop} (hp : post v2 E2) : jl_CP l K sa y cc nL ret fr lo N ad av E post := by
  intro D sz p e ha hc hk s m args below hf happ hP hK
  obtain ⟨n, o, h1, h2, h3, ⟨⟨⟨g1, g3⟩, g4⟩, g5⟩⟩ := h D sz p e ha hc hk s m args below hf happ hP hK
  exact ⟨n, o, h1, h2, h3, ⟨⟨⟨v2, E2, g1, hp, g3⟩, g4⟩, g5⟩⟩

