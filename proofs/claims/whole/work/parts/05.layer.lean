/-! A layer over the kit: the world is N numbered cells (cell k lies at ad k and holds E k); a judgement jl_J at (E, pc, locals, stack); a row an instruction. Written by wip/whole/genlayer.py. -/
def jl_w (N : Nat) (ad : Nat → Nat) (E : Nat → va_E) : va_W := (List.range N).map (fun k => (ad k, E k))
theorem jl_get {N : Nat} {ad : Nat → Nat} {E : Nat → va_E} {k : Nat} (h : k < N) : (jl_w N ad E)[k]? = some (ad k, E k) := by
  simp [jl_w, h]
theorem jl_len {N : Nat} {ad : Nat → Nat} {E : Nat → va_E} : (jl_w N ad E).length = N := by simp [jl_w]
theorem jl_at {N : Nat} {ad : Nat → Nat} {E : Nat → va_E} {k : Nat} {q : Nat × va_E} (h : (jl_w N ad E)[k]? = some q) : k < N ∧ q = (ad k, E k) := by
  have h1 := (List.getElem?_eq_some_iff.mp h).1
  rw [jl_len] at h1
  rw [jl_get h1] at h
  exact ⟨h1, (Option.some.inj h).symm⟩
theorem jl_set {N : Nat} {ad : Nat → Nat} {E : Nat → va_E} {k : Nat} {e : va_E} : (jl_w N ad E).set k (ad k, e) = jl_w N ad (va_up E k e) := by
  apply List.ext_getElem?
  intro j
  by_cases hj : j < N
  · rw [jl_get hj]
    by_cases hk : k = j
    · subst hk
      rw [List.getElem?_set_self (by rw [jl_len]; exact hj), va_up_self]
    · rw [List.getElem?_set_ne hk, jl_get hj, va_up_ne _ _ (fun h => hk h.symm)]
  · rw [List.getElem?_eq_none (by rw [List.length_set, jl_len]; omega), List.getElem?_eq_none (by rw [jl_len]; omega)]
/-- the addresses alone say whether cells are apart -/
def jl_D (A : Nat → Prop) (N : Nat) (ad : Nat → Nat) : Prop := (∀ i j : Nat, i < N → j < N → ad i = ad j → i = j) ∧ ∀ k : Nat, k < N → A (ad k)
theorem jl_D.of {A : Nat → Prop} {N : Nat} {ad : Nat → Nat} (h : jl_D A N ad) (E : Nat → va_E) : va_D A (jl_w N ad E) := by
  refine ⟨fun i j p q hi hj e => ?_, fun k q hk => ?_⟩
  · obtain ⟨h1, rfl⟩ := jl_at hi
    obtain ⟨h2, rfl⟩ := jl_at hj
    exact h.1 i j h1 h2 e
  · obtain ⟨h1, rfl⟩ := jl_at hk
    exact h.2 k h1
theorem jl_D.to {A : Nat → Prop} {N : Nat} {ad : Nat → Nat} {E : Nat → va_E} (h : va_D A (jl_w N ad E)) : jl_D A N ad :=
  ⟨fun i j hi hj e => h.1 i j _ _ (jl_get hi) (jl_get hj) e, fun _ hk => h.2 _ _ (jl_get hk)⟩
/-- which cells a method may change: the world's, and new ones -/
def jl_A (N : Nat) (ad : Nat → Nat) (sz : Nat) : Nat → Prop := fun q => (∃ k : Nat, k < N ∧ q = ad k) ∨ sz ≤ q
/-- a method's context: program, launch, env, room, state, method, args, below, method, code, goal, classes' numbers, what may change, locals -/
abbrev jl_X : Type := Program × Launch × Env × Room × State × MethodId × Array Value × List Frame × Method × Code × (State → Prop) × va_G × (Nat → Prop) × Nat
def jl_J (x : jl_X) (N : Nat) (ad : Nat → Nat) (cells slots : Nat) (E : Nat → va_E) (pc : Nat) (lc : List (Nat × Value)) (st : List Value) : Prop := match x with
  | (p, l, e, R, s, m, args, below, meth, c, Q, D, A, nL) => ∀ (H : Heap) (locs : List Loc) (ls : Array Slot), lv_has ls nL lc → va_P D jl_cl (jl_w N ad E) H → va_S A s.heap H locs → W p l e R s m args below meth c H locs cells slots Q (F0 m pc ls st)
/-- what holds of the context: the machine, the code, the tables' words, the classes, the cells apart, the static tables -/
def jl_ok (x : jl_X) (N : Nat) (ad : Nat → Nat) (K : Nat → ClassId) (sa : Nat → Nat) (cc : ByteArray) (own : String) (n : Nat) : Prop := match x with
  | (p, _, _, _, s, m, args, _, meth, c, _, D, A, nL) => p.tables.exec = Jvm.exec ∧ c.code = cc ∧ nL = n ∧ c.maxLocals = nL ∧ s.vm.findClass own = some m.cls ∧ (∀ w ∈ jl_T, w.before args s = true) ∧ va_K D jl_cl (jl_tys K) s ∧ jl_D A N ad ∧ (∀ q, s.heap.size ≤ q → A q) ∧ meth.locks = false ∧ jl_S sa A s s.heap
/-- a local by its number -/
def jl_lk : List (Nat × Value) → Nat → Option Value
  | [], _ => none
  | (j, v) :: l, i => match Nat.beq j i with
    | true => some v
    | false => jl_lk l i
theorem jl_lk_in : ∀ {lc : List (Nat × Value)} {i : Nat} {v : Value}, jl_lk lc i = some v → ∃ k : Nat, lc[k]? = some (i, v)
  | [], _, _, h => by cases h
  | (j, w) :: l, i, v, h => by
    unfold jl_lk at h
    cases hb : Nat.beq j i with
    | true =>
      rw [hb] at h
      have : j = i := Nat.eq_of_beq_eq_true hb
      subst this
      cases h
      exact ⟨0, rfl⟩
    | false =>
      rw [hb] at h
      obtain ⟨k, hk⟩ := jl_lk_in (lc := l) h
      exact ⟨k + 1, hk⟩
/-- a store of a word of category 1, or 2 -/
def jl_st1 (lc : List (Nat × Value)) (i : Nat) (v : Value) : List (Nat × Value) := (i, v) :: lc.filter (fun q => !(q.1 == i) && !(q.1 + 1 == i && q.2.category == 2))
def jl_st2 (lc : List (Nat × Value)) (i : Nat) (v : Value) : List (Nat × Value) := (i, v) :: lc.filter (fun q => !(q.1 == i) && (!(q.1 == i + 1) && !(q.1 + 1 == i && q.2.category == 2)))
/-- fewer locals, in another order -/
theorem jl_sub {x : jl_X} {N : Nat} {ad : Nat → Nat} {cells slots : Nat} {E : Nat → va_E} {pc : Nat} {lc lc2 : List (Nat × Value)} {st : List Value} (ks : List Nat) (hl2 : lv_pick lc ks = lc2) (kk : jl_J x N ad cells slots E pc lc2 st) : jl_J x N ad cells slots E pc lc st := by
  obtain ⟨p, l, e, R, s, m, args, below, meth, c, Q, D, A, nL⟩ := x
  intro H locs ls hl hP hS
  exact kk H locs ls (lv_sub hl ks hl2) hP hS
section JL
variable {x : jl_X} {N : Nat} {ad : Nat → Nat} {K : Nat → ClassId} {sa : Nat → Nat} {cells slots : Nat} {cc : ByteArray} {own : String} {n : Nat} {E : Nat → va_E} {pc : Nat} {lc : List (Nat × Value)} {st : List Value}
theorem jl_iconst (h : jl_ok x N ad K sa cc own n) {i : Int} {v : Int32} (hv : Int32.ofInt i = v) (hd : decode cc pc = .ok (.iconst i, 1)) (pc2 : Nat) (hpc : pc + 1 = pc2) (kk : jl_J x N ad cells slots E pc2 lc (.int v :: st)) : jl_J x N ad cells slots E pc lc (st) := by
  subst hpc
  obtain ⟨p, l, e, R, s, m, args, below, meth, c, Q, D, A, nL⟩ := x
  intro H locs ls hl hP hS
  exact lv_iconst h.1 h.2.1 hd hv (kk H locs ls hl hP hS)
theorem jl_bipush (h : jl_ok x N ad K sa cc own n) {i : Int} {v : Int32} (hv : (Int8.ofInt i).toInt32 = v) (hd : decode cc pc = .ok (.bipush i, 2)) (pc2 : Nat) (hpc : pc + 2 = pc2) (kk : jl_J x N ad cells slots E pc2 lc (.int v :: st)) : jl_J x N ad cells slots E pc lc (st) := by
  subst hpc
  obtain ⟨p, l, e, R, s, m, args, below, meth, c, Q, D, A, nL⟩ := x
  intro H locs ls hl hP hS
  exact lv_bipush h.1 h.2.1 hd hv (kk H locs ls hl hP hS)
theorem jl_sipush (h : jl_ok x N ad K sa cc own n) {i : Int} {v : Int32} (hv : (Int16.ofInt i).toInt32 = v) (hd : decode cc pc = .ok (.sipush i, 3)) (pc2 : Nat) (hpc : pc + 3 = pc2) (kk : jl_J x N ad cells slots E pc2 lc (.int v :: st)) : jl_J x N ad cells slots E pc lc (st) := by
  subst hpc
  obtain ⟨p, l, e, R, s, m, args, below, meth, c, Q, D, A, nL⟩ := x
  intro H locs ls hl hP hS
  exact lv_sipush h.1 h.2.1 hd hv (kk H locs ls hl hP hS)
theorem jl_lconst (h : jl_ok x N ad K sa cc own n) {i : Fin 2} {v : Int64} (hv : Int64.ofNat (i : Nat) = v) (hd : decode cc pc = .ok (.lconst i, 1)) (pc2 : Nat) (hpc : pc + 1 = pc2) (kk : jl_J x N ad cells slots E pc2 lc (.long v :: st)) : jl_J x N ad cells slots E pc lc (st) := by
  subst hpc
  obtain ⟨p, l, e, R, s, m, args, below, meth, c, Q, D, A, nL⟩ := x
  intro H locs ls hl hP hS
  exact lv_lconst h.1 h.2.1 hd hv (kk H locs ls hl hP hS)
theorem jl_null (h : jl_ok x N ad K sa cc own n)  (hd : decode cc pc = .ok (.aconst_null, 1)) (pc2 : Nat) (hpc : pc + 1 = pc2) (kk : jl_J x N ad cells slots E pc2 lc (.null :: st)) : jl_J x N ad cells slots E pc lc (st) := by
  subst hpc
  obtain ⟨p, l, e, R, s, m, args, below, meth, c, Q, D, A, nL⟩ := x
  intro H locs ls hl hP hS
  exact lv_null h.1 h.2.1 hd (kk H locs ls hl hP hS)
theorem jl_ldc (h : jl_ok x N ad K sa cc own n) {index : Nat} {v : Int32} (hw : Cond.constant own index v ∈ jl_T) (hd : decode cc pc = .ok (.ldc index, 2)) (pc2 : Nat) (hpc : pc + 2 = pc2) (kk : jl_J x N ad cells slots E pc2 lc (.int v :: st)) : jl_J x N ad cells slots E pc lc (st) := by
  subst hpc
  obtain ⟨p, l, e, R, s, m, args, below, meth, c, Q, D, A, nL⟩ := x
  intro H locs ls hl hP hS
  exact W.ldc h.1 h.2.1 h.2.2.2.2.1 (h.2.2.2.2.2.1 _ hw) rfl hd (kk H locs ls hl hP hS)
theorem jl_ldc2 (h : jl_ok x N ad K sa cc own n) {index : Nat} {v : Int64} (hw : Cond.constantLong own index v ∈ jl_T) (hd : decode cc pc = .ok (.ldc2_w index, 3)) (pc2 : Nat) (hpc : pc + 3 = pc2) (kk : jl_J x N ad cells slots E pc2 lc (.long v :: st)) : jl_J x N ad cells slots E pc lc (st) := by
  subst hpc
  obtain ⟨p, l, e, R, s, m, args, below, meth, c, Q, D, A, nL⟩ := x
  intro H locs ls hl hP hS
  exact W.ldc2 h.1 h.2.1 h.2.2.2.2.1 (h.2.2.2.2.2.1 _ hw) rfl hd (kk H locs ls hl hP hS)
theorem jl_iload_n (h : jl_ok x N ad K sa cc own n) {k : Fin 4} {i : Nat} {v : Int32} (hi : (k : Nat) = i) (hl0 : jl_lk lc i = some (.int v)) (hd : decode cc pc = .ok (.iload_n k, 1)) (pc2 : Nat) (hpc : pc + 1 = pc2) (kk : jl_J x N ad cells slots E pc2 lc (.int v :: st)) : jl_J x N ad cells slots E pc lc (st) := by
  subst hpc
  obtain ⟨p, l, e, R, s, m, args, below, meth, c, Q, D, A, nL⟩ := x
  intro H locs ls hl hP hS
  obtain ⟨k0, hk0⟩ := jl_lk_in hl0
  exact lv_iload_n h.1 h.2.1 hd hi (lv_at hl k0 hk0) (kk H locs ls hl hP hS)
theorem jl_iload (h : jl_ok x N ad K sa cc own n) {i : Nat} {v : Int32} (hl0 : jl_lk lc i = some (.int v)) (hd : decode cc pc = .ok (.iload i, 2)) (pc2 : Nat) (hpc : pc + 2 = pc2) (kk : jl_J x N ad cells slots E pc2 lc (.int v :: st)) : jl_J x N ad cells slots E pc lc (st) := by
  subst hpc
  obtain ⟨p, l, e, R, s, m, args, below, meth, c, Q, D, A, nL⟩ := x
  intro H locs ls hl hP hS
  obtain ⟨k0, hk0⟩ := jl_lk_in hl0
  exact lv_iload h.1 h.2.1 hd (lv_at hl k0 hk0) (kk H locs ls hl hP hS)
theorem jl_lload_n (h : jl_ok x N ad K sa cc own n) {k : Fin 4} {i : Nat} {v : Int64} (hi : (k : Nat) = i) (hl0 : jl_lk lc i = some (.long v)) (hd : decode cc pc = .ok (.lload_n k, 1)) (pc2 : Nat) (hpc : pc + 1 = pc2) (kk : jl_J x N ad cells slots E pc2 lc (.long v :: st)) : jl_J x N ad cells slots E pc lc (st) := by
  subst hpc
  obtain ⟨p, l, e, R, s, m, args, below, meth, c, Q, D, A, nL⟩ := x
  intro H locs ls hl hP hS
  obtain ⟨k0, hk0⟩ := jl_lk_in hl0
  exact lv_lload_n h.1 h.2.1 hd hi (lv_at hl k0 hk0) (kk H locs ls hl hP hS)
theorem jl_lload (h : jl_ok x N ad K sa cc own n) {i : Nat} {v : Int64} (hl0 : jl_lk lc i = some (.long v)) (hd : decode cc pc = .ok (.lload i, 2)) (pc2 : Nat) (hpc : pc + 2 = pc2) (kk : jl_J x N ad cells slots E pc2 lc (.long v :: st)) : jl_J x N ad cells slots E pc lc (st) := by
  subst hpc
  obtain ⟨p, l, e, R, s, m, args, below, meth, c, Q, D, A, nL⟩ := x
  intro H locs ls hl hP hS
  obtain ⟨k0, hk0⟩ := jl_lk_in hl0
  exact lv_lload h.1 h.2.1 hd (lv_at hl k0 hk0) (kk H locs ls hl hP hS)
theorem jl_aload_n (h : jl_ok x N ad K sa cc own n) {k : Fin 4} {i : Nat} {v : Nat} (hi : (k : Nat) = i) (hl0 : jl_lk lc i = some (.ref v)) (hd : decode cc pc = .ok (.aload_n k, 1)) (pc2 : Nat) (hpc : pc + 1 = pc2) (kk : jl_J x N ad cells slots E pc2 lc (.ref v :: st)) : jl_J x N ad cells slots E pc lc (st) := by
  subst hpc
  obtain ⟨p, l, e, R, s, m, args, below, meth, c, Q, D, A, nL⟩ := x
  intro H locs ls hl hP hS
  obtain ⟨k0, hk0⟩ := jl_lk_in hl0
  exact lv_aload_n h.1 h.2.1 hd hi (lv_at hl k0 hk0) (kk H locs ls hl hP hS)
theorem jl_aload (h : jl_ok x N ad K sa cc own n) {i : Nat} {v : Nat} (hl0 : jl_lk lc i = some (.ref v)) (hd : decode cc pc = .ok (.aload i, 2)) (pc2 : Nat) (hpc : pc + 2 = pc2) (kk : jl_J x N ad cells slots E pc2 lc (.ref v :: st)) : jl_J x N ad cells slots E pc lc (st) := by
  subst hpc
  obtain ⟨p, l, e, R, s, m, args, below, meth, c, Q, D, A, nL⟩ := x
  intro H locs ls hl hP hS
  obtain ⟨k0, hk0⟩ := jl_lk_in hl0
  exact lv_aload h.1 h.2.1 hd (lv_at hl k0 hk0) (kk H locs ls hl hP hS)
theorem jl_istore_n (h : jl_ok x N ad K sa cc own n) {k : Fin 4} {i : Nat} {v : Int32} {lc2 : List (Nat × Value)} (hi : (k : Nat) = i) (hn : i < n) (hl2 : jl_st1 lc i (.int v) = lc2) (hd : decode cc pc = .ok (.istore_n k, 1)) (pc2 : Nat) (hpc : pc + 1 = pc2) (kk : jl_J x N ad cells slots E pc2 lc2 st) : jl_J x N ad cells slots E pc lc (.int v :: st) := by
  subst hpc
  obtain ⟨p, l, e, R, s, m, args, below, meth, c, Q, D, A, nL⟩ := x
  intro H locs ls hl hP hS
  exact lv_istore_n h.1 h.2.1 hd hi hl (h.2.2.1 ▸ hn) hl2 (fun ls2 hl3 => kk H locs ls2 hl3 hP hS)
theorem jl_istore (h : jl_ok x N ad K sa cc own n) {i : Nat} {v : Int32} {lc2 : List (Nat × Value)} (hn : i < n) (hl2 : jl_st1 lc i (.int v) = lc2) (hd : decode cc pc = .ok (.istore i, 2)) (pc2 : Nat) (hpc : pc + 2 = pc2) (kk : jl_J x N ad cells slots E pc2 lc2 st) : jl_J x N ad cells slots E pc lc (.int v :: st) := by
  subst hpc
  obtain ⟨p, l, e, R, s, m, args, below, meth, c, Q, D, A, nL⟩ := x
  intro H locs ls hl hP hS
  exact lv_istore h.1 h.2.1 hd hl (h.2.2.1 ▸ hn) hl2 (fun ls2 hl3 => kk H locs ls2 hl3 hP hS)
theorem jl_lstore_n (h : jl_ok x N ad K sa cc own n) {k : Fin 4} {i : Nat} {v : Int64} {lc2 : List (Nat × Value)} (hi : (k : Nat) = i) (hn : i + 1 < n) (hl2 : jl_st2 lc i (.long v) = lc2) (hd : decode cc pc = .ok (.lstore_n k, 1)) (pc2 : Nat) (hpc : pc + 1 = pc2) (kk : jl_J x N ad cells slots E pc2 lc2 st) : jl_J x N ad cells slots E pc lc (.long v :: st) := by
  subst hpc
  obtain ⟨p, l, e, R, s, m, args, below, meth, c, Q, D, A, nL⟩ := x
  intro H locs ls hl hP hS
  exact lv_lstore_n h.1 h.2.1 hd hi hl (h.2.2.1 ▸ hn) hl2 (fun ls2 hl3 => kk H locs ls2 hl3 hP hS)
theorem jl_lstore (h : jl_ok x N ad K sa cc own n) {i : Nat} {v : Int64} {lc2 : List (Nat × Value)} (hn : i + 1 < n) (hl2 : jl_st2 lc i (.long v) = lc2) (hd : decode cc pc = .ok (.lstore i, 2)) (pc2 : Nat) (hpc : pc + 2 = pc2) (kk : jl_J x N ad cells slots E pc2 lc2 st) : jl_J x N ad cells slots E pc lc (.long v :: st) := by
  subst hpc
  obtain ⟨p, l, e, R, s, m, args, below, meth, c, Q, D, A, nL⟩ := x
  intro H locs ls hl hP hS
  exact lv_lstore h.1 h.2.1 hd hl (h.2.2.1 ▸ hn) hl2 (fun ls2 hl3 => kk H locs ls2 hl3 hP hS)
theorem jl_astore_n (h : jl_ok x N ad K sa cc own n) {k : Fin 4} {i : Nat} {v : Nat} {lc2 : List (Nat × Value)} (hi : (k : Nat) = i) (hn : i < n) (hl2 : jl_st1 lc i (.ref v) = lc2) (hd : decode cc pc = .ok (.astore_n k, 1)) (pc2 : Nat) (hpc : pc + 1 = pc2) (kk : jl_J x N ad cells slots E pc2 lc2 st) : jl_J x N ad cells slots E pc lc (.ref v :: st) := by
  subst hpc
  obtain ⟨p, l, e, R, s, m, args, below, meth, c, Q, D, A, nL⟩ := x
  intro H locs ls hl hP hS
  exact lv_astore_n h.1 h.2.1 hd hi hl (h.2.2.1 ▸ hn) hl2 (fun ls2 hl3 => kk H locs ls2 hl3 hP hS)
theorem jl_astore (h : jl_ok x N ad K sa cc own n) {i : Nat} {v : Nat} {lc2 : List (Nat × Value)} (hn : i < n) (hl2 : jl_st1 lc i (.ref v) = lc2) (hd : decode cc pc = .ok (.astore i, 2)) (pc2 : Nat) (hpc : pc + 2 = pc2) (kk : jl_J x N ad cells slots E pc2 lc2 st) : jl_J x N ad cells slots E pc lc (.ref v :: st) := by
  subst hpc
  obtain ⟨p, l, e, R, s, m, args, below, meth, c, Q, D, A, nL⟩ := x
  intro H locs ls hl hP hS
  exact lv_astore h.1 h.2.1 hd hl (h.2.2.1 ▸ hn) hl2 (fun ls2 hl3 => kk H locs ls2 hl3 hP hS)
theorem jl_iinc (h : jl_ok x N ad K sa cc own n) {i : Nat} {d : Int} {v v2 : Int32} {lc2 : List (Nat × Value)} (hn : i < n) (hl0 : jl_lk lc i = some (.int v)) (hv : v + Int32.ofInt d = v2) (hl2 : jl_st1 lc i (.int v2) = lc2) (hd : decode cc pc = .ok (.iinc i d, 3)) (pc2 : Nat) (hpc : pc + 3 = pc2) (kk : jl_J x N ad cells slots E pc2 lc2 st) : jl_J x N ad cells slots E pc lc st := by
  subst hpc
  obtain ⟨p, l, e, R, s, m, args, below, meth, c, Q, D, A, nL⟩ := x
  intro H locs ls hl hP hS
  obtain ⟨k0, hk0⟩ := jl_lk_in hl0
  exact lv_iinc h.1 h.2.1 hd hl hk0 hv (h.2.2.1 ▸ hn) hl2 (fun ls2 hl3 => kk H locs ls2 hl3 hP hS)
theorem jl_iadd (h : jl_ok x N ad K sa cc own n) {a b : Int32} (hd : decode cc pc = .ok (.iadd, 1)) (pc2 : Nat) (hpc : pc + 1 = pc2) (kk : jl_J x N ad cells slots E pc2 lc (.int (a + b) :: st)) : jl_J x N ad cells slots E pc lc (.int b :: .int a :: st) := by
  subst hpc
  obtain ⟨p, l, e, R, s, m, args, below, meth, c, Q, D, A, nL⟩ := x
  intro H locs ls hl hP hS
  exact lv_iadd h.1 h.2.1 hd (kk H locs ls hl hP hS)
theorem jl_isub (h : jl_ok x N ad K sa cc own n) {a b : Int32} (hd : decode cc pc = .ok (.isub, 1)) (pc2 : Nat) (hpc : pc + 1 = pc2) (kk : jl_J x N ad cells slots E pc2 lc (.int (a - b) :: st)) : jl_J x N ad cells slots E pc lc (.int b :: .int a :: st) := by
  subst hpc
  obtain ⟨p, l, e, R, s, m, args, below, meth, c, Q, D, A, nL⟩ := x
  intro H locs ls hl hP hS
  exact lv_isub h.1 h.2.1 hd (kk H locs ls hl hP hS)
theorem jl_imul (h : jl_ok x N ad K sa cc own n) {a b : Int32} (hd : decode cc pc = .ok (.imul, 1)) (pc2 : Nat) (hpc : pc + 1 = pc2) (kk : jl_J x N ad cells slots E pc2 lc (.int (a * b) :: st)) : jl_J x N ad cells slots E pc lc (.int b :: .int a :: st) := by
  subst hpc
  obtain ⟨p, l, e, R, s, m, args, below, meth, c, Q, D, A, nL⟩ := x
  intro H locs ls hl hP hS
  exact lv_imul h.1 h.2.1 hd (kk H locs ls hl hP hS)
theorem jl_iand (h : jl_ok x N ad K sa cc own n) {a b : Int32} (hd : decode cc pc = .ok (.iand, 1)) (pc2 : Nat) (hpc : pc + 1 = pc2) (kk : jl_J x N ad cells slots E pc2 lc (.int (a &&& b) :: st)) : jl_J x N ad cells slots E pc lc (.int b :: .int a :: st) := by
  subst hpc
  obtain ⟨p, l, e, R, s, m, args, below, meth, c, Q, D, A, nL⟩ := x
  intro H locs ls hl hP hS
  exact lv_iand h.1 h.2.1 hd (kk H locs ls hl hP hS)
theorem jl_ineg (h : jl_ok x N ad K sa cc own n) {a : Int32} (hd : decode cc pc = .ok (.ineg, 1)) (pc2 : Nat) (hpc : pc + 1 = pc2) (kk : jl_J x N ad cells slots E pc2 lc (.int (-a) :: st)) : jl_J x N ad cells slots E pc lc (.int a :: st) := by
  subst hpc
  obtain ⟨p, l, e, R, s, m, args, below, meth, c, Q, D, A, nL⟩ := x
  intro H locs ls hl hP hS
  exact lv_ineg h.1 h.2.1 hd (kk H locs ls hl hP hS)
theorem jl_ladd (h : jl_ok x N ad K sa cc own n) {a b : Int64} (hd : decode cc pc = .ok (.ladd, 1)) (pc2 : Nat) (hpc : pc + 1 = pc2) (kk : jl_J x N ad cells slots E pc2 lc (.long (a + b) :: st)) : jl_J x N ad cells slots E pc lc (.long b :: .long a :: st) := by
  subst hpc
  obtain ⟨p, l, e, R, s, m, args, below, meth, c, Q, D, A, nL⟩ := x
  intro H locs ls hl hP hS
  exact lv_ladd h.1 h.2.1 hd (kk H locs ls hl hP hS)
theorem jl_lsub (h : jl_ok x N ad K sa cc own n) {a b : Int64} (hd : decode cc pc = .ok (.lsub, 1)) (pc2 : Nat) (hpc : pc + 1 = pc2) (kk : jl_J x N ad cells slots E pc2 lc (.long (a - b) :: st)) : jl_J x N ad cells slots E pc lc (.long b :: .long a :: st) := by
  subst hpc
  obtain ⟨p, l, e, R, s, m, args, below, meth, c, Q, D, A, nL⟩ := x
  intro H locs ls hl hP hS
  exact lv_lsub h.1 h.2.1 hd (kk H locs ls hl hP hS)
theorem jl_i2l (h : jl_ok x N ad K sa cc own n) {a : Int32} {v : Int64} (hv : a.toInt64 = v) (hd : decode cc pc = .ok (.i2l, 1)) (pc2 : Nat) (hpc : pc + 1 = pc2) (kk : jl_J x N ad cells slots E pc2 lc (.long v :: st)) : jl_J x N ad cells slots E pc lc (.int a :: st) := by
  subst hpc
  obtain ⟨p, l, e, R, s, m, args, below, meth, c, Q, D, A, nL⟩ := x
  intro H locs ls hl hP hS
  exact lv_i2l h.1 h.2.1 hd hv (kk H locs ls hl hP hS)
theorem jl_l2i (h : jl_ok x N ad K sa cc own n) {a : Int64} {v : Int32} (hv : a.toInt32 = v) (hd : decode cc pc = .ok (.l2i, 1)) (pc2 : Nat) (hpc : pc + 1 = pc2) (kk : jl_J x N ad cells slots E pc2 lc (.int v :: st)) : jl_J x N ad cells slots E pc lc (.long a :: st) := by
  subst hpc
  obtain ⟨p, l, e, R, s, m, args, below, meth, c, Q, D, A, nL⟩ := x
  intro H locs ls hl hP hS
  exact lv_l2i h.1 h.2.1 hd hv (kk H locs ls hl hP hS)
theorem jl_i2c (h : jl_ok x N ad K sa cc own n) {a : Int32} {v : Int32} (hv : (a.toUInt32 % 65536).toInt32 = v) (hd : decode cc pc = .ok (.i2c, 1)) (pc2 : Nat) (hpc : pc + 1 = pc2) (kk : jl_J x N ad cells slots E pc2 lc (.int v :: st)) : jl_J x N ad cells slots E pc lc (.int a :: st) := by
  subst hpc
  obtain ⟨p, l, e, R, s, m, args, below, meth, c, Q, D, A, nL⟩ := x
  intro H locs ls hl hP hS
  exact lv_i2c h.1 h.2.1 hd hv (kk H locs ls hl hP hS)
theorem jl_lshl (h : jl_ok x N ad K sa cc own n) {a v : Int64} {b : Int32} (hv : a <<< (b.toInt64 &&& 63) = v) (hd : decode cc pc = .ok (.lshl, 1)) (pc2 : Nat) (hpc : pc + 1 = pc2) (kk : jl_J x N ad cells slots E pc2 lc (.long v :: st)) : jl_J x N ad cells slots E pc lc (.int b :: .long a :: st) := by
  subst hpc
  obtain ⟨p, l, e, R, s, m, args, below, meth, c, Q, D, A, nL⟩ := x
  intro H locs ls hl hP hS
  exact lv_lshl h.1 h.2.1 hd hv (kk H locs ls hl hP hS)
theorem jl_lshr (h : jl_ok x N ad K sa cc own n) {a v : Int64} {b : Int32} (hv : a >>> (b.toInt64 &&& 63) = v) (hd : decode cc pc = .ok (.lshr, 1)) (pc2 : Nat) (hpc : pc + 1 = pc2) (kk : jl_J x N ad cells slots E pc2 lc (.long v :: st)) : jl_J x N ad cells slots E pc lc (.int b :: .long a :: st) := by
  subst hpc
  obtain ⟨p, l, e, R, s, m, args, below, meth, c, Q, D, A, nL⟩ := x
  intro H locs ls hl hP hS
  exact lv_lshr h.1 h.2.1 hd hv (kk H locs ls hl hP hS)
theorem jl_lcmp (h : jl_ok x N ad K sa cc own n) {a b : Int64} (hd : decode cc pc = .ok (.lcmp, 1)) (pc2 : Nat) (hpc : pc + 1 = pc2) (kk : jl_J x N ad cells slots E pc2 lc (.int (lg_cmp a b) :: st)) : jl_J x N ad cells slots E pc lc (.long b :: .long a :: st) := by
  subst hpc
  obtain ⟨p, l, e, R, s, m, args, below, meth, c, Q, D, A, nL⟩ := x
  intro H locs ls hl hP hS
  exact W.lcmp h.1 h.2.1 hd (kk H locs ls hl hP hS)
theorem jl_dup (h : jl_ok x N ad K sa cc own n) {va : Value} (hva : va.category = 1) (hd : decode cc pc = .ok (.dup, 1)) (pc2 : Nat) (hpc : pc + 1 = pc2) (kk : jl_J x N ad cells slots E pc2 lc (va :: va :: st)) : jl_J x N ad cells slots E pc lc (va :: st) := by
  subst hpc
  obtain ⟨p, l, e, R, s, m, args, below, meth, c, Q, D, A, nL⟩ := x
  intro H locs ls hl hP hS
  exact lv_dup h.1 h.2.1 hd hva (kk H locs ls hl hP hS)
theorem jl_pop (h : jl_ok x N ad K sa cc own n) {va : Value} (hva : va.category = 1) (hd : decode cc pc = .ok (.pop, 1)) (pc2 : Nat) (hpc : pc + 1 = pc2) (kk : jl_J x N ad cells slots E pc2 lc (st)) : jl_J x N ad cells slots E pc lc (va :: st) := by
  subst hpc
  obtain ⟨p, l, e, R, s, m, args, below, meth, c, Q, D, A, nL⟩ := x
  intro H locs ls hl hP hS
  exact lv_pop h.1 h.2.1 hd hva (kk H locs ls hl hP hS)
theorem jl_dup_x1 (h : jl_ok x N ad K sa cc own n) {va vb : Value} (hva : va.category = 1) (hvb : vb.category = 1) (hd : decode cc pc = .ok (.dup_x1, 1)) (pc2 : Nat) (hpc : pc + 1 = pc2) (kk : jl_J x N ad cells slots E pc2 lc (va :: vb :: va :: st)) : jl_J x N ad cells slots E pc lc (va :: vb :: st) := by
  subst hpc
  obtain ⟨p, l, e, R, s, m, args, below, meth, c, Q, D, A, nL⟩ := x
  intro H locs ls hl hP hS
  exact lv_dup_x1 h.1 h.2.1 hd hva hvb (kk H locs ls hl hP hS)
theorem jl_dup2 (h : jl_ok x N ad K sa cc own n) {va vb : Value} (hva : va.category = 1) (hvb : vb.category = 1) (hd : decode cc pc = .ok (.dup2, 1)) (pc2 : Nat) (hpc : pc + 1 = pc2) (kk : jl_J x N ad cells slots E pc2 lc (va :: vb :: va :: vb :: st)) : jl_J x N ad cells slots E pc lc (va :: vb :: st) := by
  subst hpc
  obtain ⟨p, l, e, R, s, m, args, below, meth, c, Q, D, A, nL⟩ := x
  intro H locs ls hl hP hS
  exact lv_dup2_11 h.1 h.2.1 hd hva hvb (kk H locs ls hl hP hS)
theorem jl_if_eq (h : jl_ok x N ad K sa cc own n) {a : Int32} {off : Int} (tgt : Nat) (ht : (pc : Int) + off = (tgt : Int)) (hd : decode cc pc = .ok (.ifCond .eq off, 3)) (pc2 : Nat) (hpc : pc + 3 = pc2) (kt : a = 0 → jl_J x N ad cells slots E tgt lc st) (kf : ¬ a = 0 → jl_J x N ad cells slots E pc2 lc st) : jl_J x N ad cells slots E pc lc (.int a :: st) := by
  subst hpc
  obtain ⟨p, l, e, R, s, m, args, below, meth, c, Q, D, A, nL⟩ := x
  intro H locs ls hl hP hS
  exact lv_if_eq h.1 h.2.1 hd ht (fun q => kt q H locs ls hl hP hS) (fun q => kf q H locs ls hl hP hS)
theorem jl_icmp_eq (h : jl_ok x N ad K sa cc own n) {a b : Int32} {off : Int} (tgt : Nat) (ht : (pc : Int) + off = (tgt : Int)) (hd : decode cc pc = .ok (.if_icmp .eq off, 3)) (pc2 : Nat) (hpc : pc + 3 = pc2) (kt : a = b → jl_J x N ad cells slots E tgt lc st) (kf : ¬ a = b → jl_J x N ad cells slots E pc2 lc st) : jl_J x N ad cells slots E pc lc (.int b :: .int a :: st) := by
  subst hpc
  obtain ⟨p, l, e, R, s, m, args, below, meth, c, Q, D, A, nL⟩ := x
  intro H locs ls hl hP hS
  exact lv_icmp_eq h.1 h.2.1 hd ht (fun q => kt q H locs ls hl hP hS) (fun q => kf q H locs ls hl hP hS)
theorem jl_if_ne (h : jl_ok x N ad K sa cc own n) {a : Int32} {off : Int} (tgt : Nat) (ht : (pc : Int) + off = (tgt : Int)) (hd : decode cc pc = .ok (.ifCond .ne off, 3)) (pc2 : Nat) (hpc : pc + 3 = pc2) (kt : ¬ a = 0 → jl_J x N ad cells slots E tgt lc st) (kf : a = 0 → jl_J x N ad cells slots E pc2 lc st) : jl_J x N ad cells slots E pc lc (.int a :: st) := by
  subst hpc
  obtain ⟨p, l, e, R, s, m, args, below, meth, c, Q, D, A, nL⟩ := x
  intro H locs ls hl hP hS
  exact lv_if_ne h.1 h.2.1 hd ht (fun q => kt q H locs ls hl hP hS) (fun q => kf q H locs ls hl hP hS)
theorem jl_icmp_ne (h : jl_ok x N ad K sa cc own n) {a b : Int32} {off : Int} (tgt : Nat) (ht : (pc : Int) + off = (tgt : Int)) (hd : decode cc pc = .ok (.if_icmp .ne off, 3)) (pc2 : Nat) (hpc : pc + 3 = pc2) (kt : ¬ a = b → jl_J x N ad cells slots E tgt lc st) (kf : a = b → jl_J x N ad cells slots E pc2 lc st) : jl_J x N ad cells slots E pc lc (.int b :: .int a :: st) := by
  subst hpc
  obtain ⟨p, l, e, R, s, m, args, below, meth, c, Q, D, A, nL⟩ := x
  intro H locs ls hl hP hS
  exact lv_icmp_ne h.1 h.2.1 hd ht (fun q => kt q H locs ls hl hP hS) (fun q => kf q H locs ls hl hP hS)
theorem jl_if_lt (h : jl_ok x N ad K sa cc own n) {a : Int32} {off : Int} (tgt : Nat) (ht : (pc : Int) + off = (tgt : Int)) (hd : decode cc pc = .ok (.ifCond .lt off, 3)) (pc2 : Nat) (hpc : pc + 3 = pc2) (kt : a < 0 → jl_J x N ad cells slots E tgt lc st) (kf : ¬ a < 0 → jl_J x N ad cells slots E pc2 lc st) : jl_J x N ad cells slots E pc lc (.int a :: st) := by
  subst hpc
  obtain ⟨p, l, e, R, s, m, args, below, meth, c, Q, D, A, nL⟩ := x
  intro H locs ls hl hP hS
  exact lv_if_lt h.1 h.2.1 hd ht (fun q => kt q H locs ls hl hP hS) (fun q => kf q H locs ls hl hP hS)
theorem jl_icmp_lt (h : jl_ok x N ad K sa cc own n) {a b : Int32} {off : Int} (tgt : Nat) (ht : (pc : Int) + off = (tgt : Int)) (hd : decode cc pc = .ok (.if_icmp .lt off, 3)) (pc2 : Nat) (hpc : pc + 3 = pc2) (kt : a < b → jl_J x N ad cells slots E tgt lc st) (kf : ¬ a < b → jl_J x N ad cells slots E pc2 lc st) : jl_J x N ad cells slots E pc lc (.int b :: .int a :: st) := by
  subst hpc
  obtain ⟨p, l, e, R, s, m, args, below, meth, c, Q, D, A, nL⟩ := x
  intro H locs ls hl hP hS
  exact lv_icmp_lt h.1 h.2.1 hd ht (fun q => kt q H locs ls hl hP hS) (fun q => kf q H locs ls hl hP hS)
theorem jl_if_ge (h : jl_ok x N ad K sa cc own n) {a : Int32} {off : Int} (tgt : Nat) (ht : (pc : Int) + off = (tgt : Int)) (hd : decode cc pc = .ok (.ifCond .ge off, 3)) (pc2 : Nat) (hpc : pc + 3 = pc2) (kt : 0 ≤ a → jl_J x N ad cells slots E tgt lc st) (kf : ¬ 0 ≤ a → jl_J x N ad cells slots E pc2 lc st) : jl_J x N ad cells slots E pc lc (.int a :: st) := by
  subst hpc
  obtain ⟨p, l, e, R, s, m, args, below, meth, c, Q, D, A, nL⟩ := x
  intro H locs ls hl hP hS
  exact lv_if_ge h.1 h.2.1 hd ht (fun q => kt q H locs ls hl hP hS) (fun q => kf q H locs ls hl hP hS)
theorem jl_icmp_ge (h : jl_ok x N ad K sa cc own n) {a b : Int32} {off : Int} (tgt : Nat) (ht : (pc : Int) + off = (tgt : Int)) (hd : decode cc pc = .ok (.if_icmp .ge off, 3)) (pc2 : Nat) (hpc : pc + 3 = pc2) (kt : b ≤ a → jl_J x N ad cells slots E tgt lc st) (kf : ¬ b ≤ a → jl_J x N ad cells slots E pc2 lc st) : jl_J x N ad cells slots E pc lc (.int b :: .int a :: st) := by
  subst hpc
  obtain ⟨p, l, e, R, s, m, args, below, meth, c, Q, D, A, nL⟩ := x
  intro H locs ls hl hP hS
  exact lv_icmp_ge h.1 h.2.1 hd ht (fun q => kt q H locs ls hl hP hS) (fun q => kf q H locs ls hl hP hS)
theorem jl_if_gt (h : jl_ok x N ad K sa cc own n) {a : Int32} {off : Int} (tgt : Nat) (ht : (pc : Int) + off = (tgt : Int)) (hd : decode cc pc = .ok (.ifCond .gt off, 3)) (pc2 : Nat) (hpc : pc + 3 = pc2) (kt : 0 < a → jl_J x N ad cells slots E tgt lc st) (kf : ¬ 0 < a → jl_J x N ad cells slots E pc2 lc st) : jl_J x N ad cells slots E pc lc (.int a :: st) := by
  subst hpc
  obtain ⟨p, l, e, R, s, m, args, below, meth, c, Q, D, A, nL⟩ := x
  intro H locs ls hl hP hS
  exact lv_if_gt h.1 h.2.1 hd ht (fun q => kt q H locs ls hl hP hS) (fun q => kf q H locs ls hl hP hS)
theorem jl_icmp_gt (h : jl_ok x N ad K sa cc own n) {a b : Int32} {off : Int} (tgt : Nat) (ht : (pc : Int) + off = (tgt : Int)) (hd : decode cc pc = .ok (.if_icmp .gt off, 3)) (pc2 : Nat) (hpc : pc + 3 = pc2) (kt : b < a → jl_J x N ad cells slots E tgt lc st) (kf : ¬ b < a → jl_J x N ad cells slots E pc2 lc st) : jl_J x N ad cells slots E pc lc (.int b :: .int a :: st) := by
  subst hpc
  obtain ⟨p, l, e, R, s, m, args, below, meth, c, Q, D, A, nL⟩ := x
  intro H locs ls hl hP hS
  exact lv_icmp_gt h.1 h.2.1 hd ht (fun q => kt q H locs ls hl hP hS) (fun q => kf q H locs ls hl hP hS)
theorem jl_if_le (h : jl_ok x N ad K sa cc own n) {a : Int32} {off : Int} (tgt : Nat) (ht : (pc : Int) + off = (tgt : Int)) (hd : decode cc pc = .ok (.ifCond .le off, 3)) (pc2 : Nat) (hpc : pc + 3 = pc2) (kt : a ≤ 0 → jl_J x N ad cells slots E tgt lc st) (kf : ¬ a ≤ 0 → jl_J x N ad cells slots E pc2 lc st) : jl_J x N ad cells slots E pc lc (.int a :: st) := by
  subst hpc
  obtain ⟨p, l, e, R, s, m, args, below, meth, c, Q, D, A, nL⟩ := x
  intro H locs ls hl hP hS
  exact lv_if_le h.1 h.2.1 hd ht (fun q => kt q H locs ls hl hP hS) (fun q => kf q H locs ls hl hP hS)
theorem jl_icmp_le (h : jl_ok x N ad K sa cc own n) {a b : Int32} {off : Int} (tgt : Nat) (ht : (pc : Int) + off = (tgt : Int)) (hd : decode cc pc = .ok (.if_icmp .le off, 3)) (pc2 : Nat) (hpc : pc + 3 = pc2) (kt : a ≤ b → jl_J x N ad cells slots E tgt lc st) (kf : ¬ a ≤ b → jl_J x N ad cells slots E pc2 lc st) : jl_J x N ad cells slots E pc lc (.int b :: .int a :: st) := by
  subst hpc
  obtain ⟨p, l, e, R, s, m, args, below, meth, c, Q, D, A, nL⟩ := x
  intro H locs ls hl hP hS
  exact lv_icmp_le h.1 h.2.1 hd ht (fun q => kt q H locs ls hl hP hS) (fun q => kf q H locs ls hl hP hS)
theorem jl_goto (h : jl_ok x N ad K sa cc own n) {off : Int} (tgt : Nat) (ht : (pc : Int) + off = (tgt : Int)) (hd : decode cc pc = .ok (.goto off, 3)) (kk : jl_J x N ad cells slots E tgt lc st) : jl_J x N ad cells slots E pc lc st := by
  obtain ⟨p, l, e, R, s, m, args, below, meth, c, Q, D, A, nL⟩ := x
  intro H locs ls hl hP hS
  exact lv_goto h.1 h.2.1 hd ht (kk H locs ls hl hP hS)
theorem jl_ifnonnull (h : jl_ok x N ad K sa cc own n) {r : Nat} {off : Int} (tgt : Nat) (ht : (pc : Int) + off = (tgt : Int)) (hd : decode cc pc = .ok (.ifnonnull off, 3)) (kk : jl_J x N ad cells slots E tgt lc st) : jl_J x N ad cells slots E pc lc (.ref r :: st) := by
  obtain ⟨p, l, e, R, s, m, args, below, meth, c, Q, D, A, nL⟩ := x
  intro H locs ls hl hP hS
  exact lv_ifnonnull h.1 h.2.1 hd ht (kk H locs ls hl hP hS)
theorem jl_ifnonnullN (h : jl_ok x N ad K sa cc own n) {off : Int} (hd : decode cc pc = .ok (.ifnonnull off, 3)) (pc2 : Nat) (hpc : pc + 3 = pc2) (kk : jl_J x N ad cells slots E pc2 lc st) : jl_J x N ad cells slots E pc lc (.null :: st) := by
  subst hpc
  obtain ⟨p, l, e, R, s, m, args, below, meth, c, Q, D, A, nL⟩ := x
  intro H locs ls hl hP hS
  exact lv_ifnonnullN h.1 h.2.1 hd (kk H locs ls hl hP hS)
theorem jl_ifnull (h : jl_ok x N ad K sa cc own n) {r : Nat} {off : Int} (hd : decode cc pc = .ok (.ifnull off, 3)) (pc2 : Nat) (hpc : pc + 3 = pc2) (kk : jl_J x N ad cells slots E pc2 lc st) : jl_J x N ad cells slots E pc lc (.ref r :: st) := by
  subst hpc
  obtain ⟨p, l, e, R, s, m, args, below, meth, c, Q, D, A, nL⟩ := x
  intro H locs ls hl hP hS
  exact lv_ifnull h.1 h.2.1 hd (kk H locs ls hl hP hS)
theorem jl_ifnullN (h : jl_ok x N ad K sa cc own n) {off : Int} (tgt : Nat) (ht : (pc : Int) + off = (tgt : Int)) (hd : decode cc pc = .ok (.ifnull off, 3)) (kk : jl_J x N ad cells slots E tgt lc st) : jl_J x N ad cells slots E pc lc (.null :: st) := by
  obtain ⟨p, l, e, R, s, m, args, below, meth, c, Q, D, A, nL⟩ := x
  intro H locs ls hl hP hS
  exact lv_ifnullN h.1 h.2.1 hd ht (kk H locs ls hl hP hS)
theorem jl_getf (h : jl_ok x N ad K sa cc own n) {k ci : Nat} {C : String} {T : u_T} {M : Nat} {ty : Nat → FieldType} (hc : jl_c ci C T M ty) (j : Nat) {index : Nat} (hw : Cond.fieldLink own index (T j).1 (T j).2.1 (T j).2.2.1 ∈ jl_T) (hk : k < N) (hj : j < M) {fs : List Value} (hE : E k = .inr (ci, fs)) {v : Value} (hv : fs[j]? = some v) (hd : decode cc pc = .ok (.getfield index, 3)) (pc2 : Nat) (hpc : pc + 3 = pc2) (kk : jl_J x N ad cells slots E pc2 lc (v :: st)) : jl_J x N ad cells slots E pc lc (.ref (ad k) :: st) := by
  subst hpc
  obtain ⟨p, l, e, R, s, m, args, below, meth, c, Q, D, A, nL⟩ := x
  intro H locs ls hl hP hS
  exact va_get (D := D) h.1 h.2.1 h.2.2.2.2.2.1 hc.2.1 h.2.2.2.2.1 h.2.2.2.2.2.2.1 hP k (by rw [jl_get hk, hE]) hc.1 j hj (h.2.2.2.2.2.1 _ hw) (fun _ h9 => h9) hv hd (kk H locs ls hl hP hS)
theorem jl_putf (h : jl_ok x N ad K sa cc own n) {k ci : Nat} {C : String} {T : u_T} {M : Nat} {ty : Nat → FieldType} (hc : jl_c ci C T M ty) (j : Nat) {index : Nat} (hw : Cond.fieldLink own index (T j).1 (T j).2.1 (T j).2.2.1 ∈ jl_T) (hk : k < N) (hj : j < M) (hfin : (T j).2.2.2 = false) {fs fs2 : List Value} (hE : E k = .inr (ci, fs)) {v : Value} (hn : narrow (ty j) v = v) (hfit : fits (ty j) v = true) (hl0 : j < fs.length) (hf2 : fs.set j v = fs2) (hd : decode cc pc = .ok (.putfield index, 3)) {E2 : Nat → va_E} (hE2 : va_up E k (.inr (ci, fs2)) = E2) (pc2 : Nat) (hpc : pc + 3 = pc2) (kk : jl_J x N ad cells slots E2 pc2 lc st) : jl_J x N ad cells slots E pc lc (v :: .ref (ad k) :: st) := by
  subst hpc
  subst hE2
  obtain ⟨p, l, e, R, s, m, args, below, meth, c, Q, D, A, nL⟩ := x
  intro H locs ls hl hP hS
  subst hf2
  refine va_put (D := D) h.1 h.2.1 h.2.2.2.2.2.1 hc.2.1 ty hc.2.2.1 hc.2.2.2 h.2.2.2.2.1 h.2.2.2.2.2.2.1 hP (h.2.2.2.2.2.2.2.1.of E) hS k (by rw [jl_get hk, hE]) hc.1 j hj (h.2.2.2.2.2.1 _ hw) (fun _ h9 => h9) hfin (hc.2.2.1 j hj) hn hfit hl0 hd (fun H1 locs1 hP1 _ hS1 => ?_)
  rw [jl_set] at hP1
  exact kk H1 locs1 ls hl hP1 hS1
theorem jl_iald (h : jl_ok x N ad K sa cc own n) {k len : Nat} {f : Nat → Int32} {i0 v : Int32} (i : Nat) (hi : i0 = nI i) (hk : k < N) (hE : E k = .inl (K 0, len, .inl f)) (hlt : i < len) (h31 : len < 2 ^ 31) (hv : f i = v) (hd : decode cc pc = .ok (.iaload, 1)) (pc2 : Nat) (hpc : pc + 1 = pc2) (kk : jl_J x N ad cells slots E pc2 lc (.int v :: st)) : jl_J x N ad cells slots E pc lc (.int i0 :: .ref (ad k) :: st) := by
  subst hpc
  obtain ⟨p, l, e, R, s, m, args, below, meth, c, Q, D, A, nL⟩ := x
  intro H locs ls hl hP hS
  subst hi
  subst hv
  refine va_iald h.1 h.2.1 h.2.2.2.2.2.2.1 hP k 0 (by rw [jl_get hk, hE]) rfl (vp_in_nI hlt h31) hd ?_
  rw [nI_clamp (Nat.lt_trans hlt h31)]
  exact (kk H locs ls hl hP hS)
theorem jl_iast (h : jl_ok x N ad K sa cc own n) {k len : Nat} {f : Nat → Int32} {i0 v : Int32} (i : Nat) (hi : i0 = nI i) (hk : k < N) (hE : E k = .inl (K 0, len, .inl f)) (hlt : i < len) (h31 : len < 2 ^ 31) (hd : decode cc pc = .ok (.iastore, 1)) {E2 : Nat → va_E} (hE2 : va_up E k (.inl (K 0, len, .inl (upd f i v))) = E2) (pc2 : Nat) (hpc : pc + 1 = pc2) (kk : jl_J x N ad cells slots E2 pc2 lc st) : jl_J x N ad cells slots E pc lc (.int v :: .int i0 :: .ref (ad k) :: st) := by
  subst hpc
  subst hE2
  obtain ⟨p, l, e, R, s, m, args, below, meth, c, Q, D, A, nL⟩ := x
  intro H locs ls hl hP hS
  subst hi
  refine va_iast h.1 h.2.1 h.2.2.2.2.2.2.1 hP (h.2.2.2.2.2.2.2.1.of E) hS k 0 (by rw [jl_get hk, hE]) rfl (vp_in_nI hlt h31) hd (fun H1 locs1 hP1 _ hS1 => ?_)
  rw [jl_set, nI_clamp (Nat.lt_trans hlt h31)] at hP1
  exact kk H1 locs1 ls hl hP1 hS1
theorem jl_cald (h : jl_ok x N ad K sa cc own n) {k len : Nat} {f : Nat → Int32} {i0 v : Int32} (i : Nat) (hi : i0 = nI i) (hk : k < N) (hE : E k = .inl (K 1, len, .inl f)) (hlt : i < len) (h31 : len < 2 ^ 31) (hv : f i = v) (hd : decode cc pc = .ok (.caload, 1)) (pc2 : Nat) (hpc : pc + 1 = pc2) (kk : jl_J x N ad cells slots E pc2 lc (.int v :: st)) : jl_J x N ad cells slots E pc lc (.int i0 :: .ref (ad k) :: st) := by
  subst hpc
  obtain ⟨p, l, e, R, s, m, args, below, meth, c, Q, D, A, nL⟩ := x
  intro H locs ls hl hP hS
  subst hi
  subst hv
  refine va_cald h.1 h.2.1 h.2.2.2.2.2.2.1 hP k 1 (by rw [jl_get hk, hE]) rfl (vp_in_nI hlt h31) hd ?_
  rw [nI_clamp (Nat.lt_trans hlt h31)]
  exact (kk H locs ls hl hP hS)
theorem jl_cast (h : jl_ok x N ad K sa cc own n) {k len : Nat} {f : Nat → Int32} {i0 v : Int32} (i : Nat) (hi : i0 = nI i) (hk : k < N) (hE : E k = .inl (K 1, len, .inl f)) (hlt : i < len) (h31 : len < 2 ^ 31) (hd : decode cc pc = .ok (.castore, 1)) {E2 : Nat → va_E} (hE2 : va_up E k (.inl (K 1, len, .inl (upd f i (vp_nar .char v)))) = E2) (pc2 : Nat) (hpc : pc + 1 = pc2) (kk : jl_J x N ad cells slots E2 pc2 lc st) : jl_J x N ad cells slots E pc lc (.int v :: .int i0 :: .ref (ad k) :: st) := by
  subst hpc
  subst hE2
  obtain ⟨p, l, e, R, s, m, args, below, meth, c, Q, D, A, nL⟩ := x
  intro H locs ls hl hP hS
  subst hi
  refine va_cast h.1 h.2.1 h.2.2.2.2.2.2.1 hP (h.2.2.2.2.2.2.2.1.of E) hS k 1 (by rw [jl_get hk, hE]) rfl (vp_in_nI hlt h31) hd (fun H1 locs1 hP1 _ hS1 => ?_)
  rw [jl_set, nI_clamp (Nat.lt_trans hlt h31)] at hP1
  exact kk H1 locs1 ls hl hP1 hS1
theorem jl_lald (h : jl_ok x N ad K sa cc own n) {k len : Nat} {f : Nat → Int64} {i0 : Int32} {v : Int64} (i : Nat) (hi : i0 = nI i) (hk : k < N) (hE : E k = .inl (K 2, len, .inr (.inl f))) (hlt : i < len) (h31 : len < 2 ^ 31) (hv : f i = v) (hd : decode cc pc = .ok (.laload, 1)) (pc2 : Nat) (hpc : pc + 1 = pc2) (kk : jl_J x N ad cells slots E pc2 lc (.long v :: st)) : jl_J x N ad cells slots E pc lc (.int i0 :: .ref (ad k) :: st) := by
  subst hpc
  obtain ⟨p, l, e, R, s, m, args, below, meth, c, Q, D, A, nL⟩ := x
  intro H locs ls hl hP hS
  subst hi
  subst hv
  refine va_lald h.1 h.2.1 h.2.2.2.2.2.2.1 hP k 2 (by rw [jl_get hk, hE]) rfl (vp_in_nI hlt h31) hd ?_
  rw [nI_clamp (Nat.lt_trans hlt h31)]
  exact (kk H locs ls hl hP hS)
theorem jl_last (h : jl_ok x N ad K sa cc own n) {k len : Nat} {f : Nat → Int64} {i0 : Int32} {v : Int64} (i : Nat) (hi : i0 = nI i) (hk : k < N) (hE : E k = .inl (K 2, len, .inr (.inl f))) (hlt : i < len) (h31 : len < 2 ^ 31) (hd : decode cc pc = .ok (.lastore, 1)) {E2 : Nat → va_E} (hE2 : va_up E k (.inl (K 2, len, .inr (.inl (vp_updL f i v)))) = E2) (pc2 : Nat) (hpc : pc + 1 = pc2) (kk : jl_J x N ad cells slots E2 pc2 lc st) : jl_J x N ad cells slots E pc lc (.long v :: .int i0 :: .ref (ad k) :: st) := by
  subst hpc
  subst hE2
  obtain ⟨p, l, e, R, s, m, args, below, meth, c, Q, D, A, nL⟩ := x
  intro H locs ls hl hP hS
  subst hi
  refine va_last h.1 h.2.1 h.2.2.2.2.2.2.1 hP (h.2.2.2.2.2.2.2.1.of E) hS k 2 (by rw [jl_get hk, hE]) rfl (vp_in_nI hlt h31) hd (fun H1 locs1 hP1 _ hS1 => ?_)
  rw [jl_set, nI_clamp (Nat.lt_trans hlt h31)] at hP1
  exact kk H1 locs1 ls hl hP1 hS1
theorem jl_alen (h : jl_ok x N ad K sa cc own n) {k : Nat} {t0 : Nat} {a : vp_A} {cA : ClassId} {ty : FieldType} {v : Int32} (hk : k < N) (hE : E k = .inl (cA, a)) (ht : (jl_tys K)[t0]? = some (cA, ty)) (hv : Int32.ofNat a.1 = v) (hd : decode cc pc = .ok (.arraylength, 1)) (pc2 : Nat) (hpc : pc + 1 = pc2) (kk : jl_J x N ad cells slots E pc2 lc (.int v :: st)) : jl_J x N ad cells slots E pc lc (.ref (ad k) :: st) := by
  subst hpc
  obtain ⟨p, l, e, R, s, m, args, below, meth, c, Q, D, A, nL⟩ := x
  intro H locs ls hl hP hS
  exact va_alen h.1 h.2.1 h.2.2.2.2.2.2.1 hP k t0 (by rw [jl_get hk, hE]) ht hv hd (kk H locs ls hl hP hS)
/-- a row of a grid, an object of an array of objects -/
theorem jl_aald (h : jl_ok x N ad K sa cc own n) {k len t0 : Nat} {f : Nat → Option Nat} {cA : ClassId} {ty : FieldType} {i0 : Int32} {r : Nat} (i : Nat) (hi : i0 = nI i) (hk : k < N) (hE : E k = .inl (cA, len, .inr (.inr (.inr (.inr f))))) (ht : (jl_tys K)[t0]? = some (cA, ty)) (hty : ty.isReference = true) (hlt : i < len) (h31 : len < 2 ^ 31) (hv : f i = some r) (hd : decode cc pc = .ok (.aaload, 1)) (pc2 : Nat) (hpc : pc + 1 = pc2) (kk : jl_J x N ad cells slots E pc2 lc (.ref r :: st)) : jl_J x N ad cells slots E pc lc (.int i0 :: .ref (ad k) :: st) := by
  subst hpc
  obtain ⟨p, l, e, R, s, m, args, below, meth, c, Q, D, A, nL⟩ := x
  intro H locs ls hl hP hS
  subst hi
  have hin : vp_in (nI i) len := vp_in_nI hlt h31
  have hc0 : va_at D jl_cl (ad k, .inl (cA, len, .inr (.inr (.inr (.inr f))))) H := hP k _ (by rw [jl_get hk, hE])
  have hc1 : H[ad k]? = some (vp_cell cA (len, .inr (.inr (.inr (.inr f))))) := hc0
  refine W.aald (v := va_rf (f (nI i).toNatClampNeg)) (ty := ty) h.1 h.2.1 hc1 ((h.2.2.2.2.2.2.1.2 t0 _ ht).1 len (fun j => va_rf (f j))) hty (fun q => by cases q) (by show ¬ ((nI i) < 0 ∨ (arrV _ _ _).slots.size ≤ _); rw [arrV_size]; exact hin) (by show (arrV _ _ _).slots[_]? = _; rw [arrV_read _ _ (by rw [nI_clamp (Nat.lt_trans hlt h31)]; exact hlt)]) rfl rfl hd ?_
  rw [nI_clamp (Nat.lt_trans hlt h31), hv]
  exact (kk H locs ls hl hP hS)
theorem jl_aast (h : jl_ok x N ad K sa cc own n) {k len t0 k2 ci : Nat} {f : Nat → Option Nat} {cA : ClassId} {C : String} {T : u_T} {M : Nat} {ty : Nat → FieldType} (hc : jl_c ci C T M ty) {fs : List Value} {i0 : Int32} (i : Nat) (hi : i0 = nI i) (hk : k < N) (hE : E k = .inl (cA, len, .inr (.inr (.inr (.inr f))))) (ht : (jl_tys K)[t0]? = some (cA, .object C)) (hk2 : k2 < N) (hEk : E k2 = .inr (ci, fs)) (hlt : i < len) (h31 : len < 2 ^ 31) (hd : decode cc pc = .ok (.aastore, 1)) {E2 : Nat → va_E} (hE2 : va_up E k (.inl (cA, len, .inr (.inr (.inr (.inr (va_up f i (some (ad k2)))))))) = E2) (pc2 : Nat) (hpc : pc + 1 = pc2) (kk : jl_J x N ad cells slots E2 pc2 lc st) : jl_J x N ad cells slots E pc lc (.ref (ad k2) :: .int i0 :: .ref (ad k) :: st) := by
  subst hpc
  subst hE2
  obtain ⟨p, l, e, R, s, m, args, below, meth, c, Q, D, A, nL⟩ := x
  intro H locs ls hl hP hS
  subst hi
  refine va_astq h.1 h.2.1 h.2.2.2.2.2.2.1 hP (h.2.2.2.2.2.2.2.1.of E) hS k t0 k2 ci (r := (C, T, M)) (by rw [jl_get hk, hE]) ht (by rw [jl_get hk2, hEk]) hc.1 (vp_in_nI hlt h31) hd (fun H1 locs1 hP1 _ hS1 => ?_)
  rw [jl_set, nI_clamp (Nat.lt_trans hlt h31)] at hP1
  exact kk H1 locs1 ls hl hP1 hS1
theorem jl_gets (h : jl_ok x N ad K sa cc own n) {C nm d : String} {ty : FieldType} {t : Nat} {vs : List Int32} (pj : ∀ (A : Nat → Prop) (U : State) (H : Heap), jl_S sa A U H → jl_S1 C nm d ty t vs A U H) {index : Nat} (hw : Cond.fieldLink own index C nm d ∈ jl_T) (hd : decode cc pc = .ok (.getstatic index, 3)) (pc2 : Nat) (hpc : pc + 3 = pc2) (kk : jl_J x N ad cells slots E pc2 lc (.ref t :: st)) : jl_J x N ad cells slots E pc lc st := by
  subst hpc
  obtain ⟨p, l, e, R, s, m, args, below, meth, c, Q, D, A, nL⟩ := x
  intro H locs ls hl hP hS
  exact va_gets h.1 h.2.1 (pj _ _ _ h.2.2.2.2.2.2.2.2.2.2).1 hS h.2.2.2.2.1 (h.2.2.2.2.2.1 _ hw) (fun _ h9 => h9) hd (kk H locs ls hl hP hS)
theorem jl_tild (h : jl_ok x N ad K sa cc own n) {C nm d : String} {t : Nat} {vs : List Int32} (pj : ∀ (A : Nat → Prop) (U : State) (H : Heap), jl_S sa A U H → jl_S1 C nm d .int t vs A U H) {i0 v : Int32} (i : Nat) (hi : i0 = nI i) (hlt : i < vs.length) (h31 : vs.length < 2 ^ 31) (hv : vs.getD i 0 = v) (hd : decode cc pc = .ok (.iaload, 1)) (pc2 : Nat) (hpc : pc + 1 = pc2) (kk : jl_J x N ad cells slots E pc2 lc (.int v :: st)) : jl_J x N ad cells slots E pc lc (.int i0 :: .ref t :: st) := by
  subst hpc
  obtain ⟨p, l, e, R, s, m, args, below, meth, c, Q, D, A, nL⟩ := x
  intro H locs ls hl hP hS
  subst hi
  exact va_ti h.1 h.2.1 (pj _ _ _ h.2.2.2.2.2.2.2.2.2.2).2 hS (vp_in_nI hlt h31) (by rw [nI_clamp (Nat.lt_trans hlt h31), hv]) hd (kk H locs ls hl hP hS)
theorem jl_tcld (h : jl_ok x N ad K sa cc own n) {C nm d : String} {t : Nat} {vs : List Int32} (pj : ∀ (A : Nat → Prop) (U : State) (H : Heap), jl_S sa A U H → jl_S1 C nm d .char t vs A U H) {i0 v : Int32} (i : Nat) (hi : i0 = nI i) (hlt : i < vs.length) (h31 : vs.length < 2 ^ 31) (hv : vs.getD i 0 = v) (hd : decode cc pc = .ok (.caload, 1)) (pc2 : Nat) (hpc : pc + 1 = pc2) (kk : jl_J x N ad cells slots E pc2 lc (.int v :: st)) : jl_J x N ad cells slots E pc lc (.int i0 :: .ref t :: st) := by
  subst hpc
  obtain ⟨p, l, e, R, s, m, args, below, meth, c, Q, D, A, nL⟩ := x
  intro H locs ls hl hP hS
  subst hi
  exact va_tc h.1 h.2.1 (pj _ _ _ h.2.2.2.2.2.2.2.2.2.2).2 hS (vp_in_nI hlt h31) (by rw [nI_clamp (Nat.lt_trans hlt h31), hv]) hd (kk H locs ls hl hP hS)
theorem jl_tlen (h : jl_ok x N ad K sa cc own n) {C nm d : String} {ty : FieldType} {t : Nat} {vs : List Int32} (pj : ∀ (A : Nat → Prop) (U : State) (H : Heap), jl_S sa A U H → jl_S1 C nm d ty t vs A U H) {v : Int32} (hv : Int32.ofNat vs.length = v) (hd : decode cc pc = .ok (.arraylength, 1)) (pc2 : Nat) (hpc : pc + 1 = pc2) (kk : jl_J x N ad cells slots E pc2 lc (.int v :: st)) : jl_J x N ad cells slots E pc lc (.ref t :: st) := by
  subst hpc
  obtain ⟨p, l, e, R, s, m, args, below, meth, c, Q, D, A, nL⟩ := x
  intro H locs ls hl hP hS
  exact va_tlen h.1 h.2.1 (pj _ _ _ h.2.2.2.2.2.2.2.2.2.2).2 hS hv hd (kk H locs ls hl hP hS)
theorem jl_tsw (h : jl_ok x N ad K sa cc own n) {dflt lo hi : Int} {offs : Array Int} {len : Nat} {a : Int32} (off : Int) (tgt : Nat) (hd : decode cc pc = .ok (.tableswitch dflt lo hi offs, len)) (h1 : ¬ a.toInt < lo) (h2 : ¬ hi < a.toInt) (ho : offs[(a.toInt - lo).toNat]? = some off) (ht : (pc : Int) + off = (tgt : Int)) (kk : jl_J x N ad cells slots E tgt lc st) : jl_J x N ad cells slots E pc lc (.int a :: st) := by
  obtain ⟨p, l, e, R, s, m, args, below, meth, c, Q, D, A, nL⟩ := x
  intro H locs ls hl hP hS
  exact lv_tableIn h.1 h.2.1 hd h1 h2 ho ht (kk H locs ls hl hP hS)
theorem jl_tswD (h : jl_ok x N ad K sa cc own n) {dflt lo hi : Int} {offs : Array Int} {len : Nat} {a : Int32} (tgt : Nat) (hd : decode cc pc = .ok (.tableswitch dflt lo hi offs, len)) (h1 : a.toInt < lo ∨ hi < a.toInt) (ht : (pc : Int) + dflt = (tgt : Int)) (kk : jl_J x N ad cells slots E tgt lc st) : jl_J x N ad cells slots E pc lc (.int a :: st) := by
  obtain ⟨p, l, e, R, s, m, args, below, meth, c, Q, D, A, nL⟩ := x
  intro H locs ls hl hP hS
  exact lv_tableOut h.1 h.2.1 hd h1 ht (kk H locs ls hl hP hS)
end JL
