/-! New cells: objects, arrays; final fields. -/
section JN
variable {x : jl_X} {N : Nat} {ad : Nat → Nat} {K : Nat → ClassId} {sa : Nat → Nat} {cells slots : Nat} {cc : ByteArray} {own : String} {n : Nat} {E : Nat → va_E} {pc : Nat} {lc : List (Nat × Value)} {st : List Value}
theorem jl_push (q : Nat) (e : va_E) : jl_w (N + 1) (va_up ad N q) (va_up E N e) = jl_w N ad E ++ [(q, e)] := by
  unfold jl_w
  rw [List.range_succ, List.map_append, List.map_cons, List.map_nil, va_up_self, va_up_self]
  congr 1
  refine List.map_congr_left (fun k hk => ?_)
  rw [List.mem_range] at hk
  rw [va_up_ne _ _ (by omega), va_up_ne _ _ (by omega)]
theorem jl_okP (h : jl_ok x N ad K sa cc own n) {q : Nat} {e : va_E} (hD : ∀ p l en R s m args below meth c Q D A nL, x = (p, l, en, R, s, m, args, below, meth, c, Q, D, A, nL) → va_D A (jl_w N ad E ++ [(q, e)])) : jl_ok x (N + 1) (va_up ad N q) K sa cc own n := by
  obtain ⟨p, l, en, R, s, m, args, below, meth, c, Q, D, A, nL⟩ := x
  obtain ⟨h1, h2, h3, h4, h5, h6, h7, h8, h9⟩ := h
  refine ⟨h1, h2, h3, h4, h5, h6, h7, ?_, h9⟩
  have hd := hD p l en R s m args below meth c Q D A nL rfl
  rw [← jl_push] at hd
  exact jl_D.to hd
theorem jl_reE {E2 : Nat → va_E} (hE : ∀ k, k < N → E k = E2 k) (kk : jl_J x N ad cells slots E2 pc lc st) : jl_J x N ad cells slots E pc lc st := jl_norm (fun k hk => Or.inl (hE k hk)) kk
theorem jl_newo (h : jl_ok x N ad K sa cc own n) {fr lo : Nat} {ci : Nat} {C : String} {T : u_T} {M : Nat} {ty : Nat → FieldType} (hr : jl_r x fr lo (cells + 1) (slots + M)) (hc : jl_c ci C T M ty) {index : Nat} (hw : Cond.classLink own index C ∈ jl_T ∧ Cond.instantiable C M ∈ jl_T ∧ Cond.initialized C ∈ jl_T) {fs : List Value} (hfs : ∀ j, j < M → defaultValue (ty j) = vp_V fs j) (hd : decode cc pc = .ok (.new index, 3)) (pc2 : Nat) (hpc : pc + 3 = pc2)
    (kk : ∀ q, jl_ok x (N + 1) (va_up ad N q) K sa cc own n → jl_J x (N + 1) (va_up ad N q) (cells + 1) (slots + M) (va_up E N (.inr (ci, fs))) pc2 lc (.ref q :: st)) : jl_J x N ad cells slots E pc lc st := by
  subst hpc
  have h' := h
  obtain ⟨p, l, e, R, s, m, args, below, meth, c, Q, D, A, nL⟩ := x
  intro H locs ls hl hP hS
  refine va_new (ci := ci) (fs := fs) h.1 h.2.1 h.2.2.2.2.2.1 hc.2.1 ty hc.2.2.1 h.2.2.2.2.1 (h.2.2.2.2.2.1 _ hw.1) (h.2.2.2.2.2.1 _ hw.2.1) (h.2.2.2.2.2.1 _ hw.2.2) h.2.2.2.2.2.2.1 hP (h.2.2.2.2.2.2.2.1.of E) hS h.2.2.2.2.2.2.2.2.1 hc.1 hfs hr.2.2.1 hr.2.2.2 hd (fun q H1 hP1 hD1 hS1 => ?_)
  rw [← jl_push] at hP1
  exact kk q (jl_okP (e := .inr (ci, fs)) (E := E) h' (fun _ _ _ _ _ _ _ _ _ _ _ _ _ _ he => by cases he; exact hD1)) H1 locs ls hl hP1 hS1
theorem jl_newa (h : jl_ok x N ad K sa cc own n) {fr lo : Nat} {atype : ArrayType} {ty : FieldType} {a0 : vp_A} {z : Int32} {M : Nat} (hr : jl_r x fr lo (cells + 1) (slots + M)) (hw : Cond.arrayClass (newarray.typeOf atype) ∈ jl_T) (hty : newarray.typeOf atype = ty) {j : Nat} (hj : (jl_tys K)[j]? = some (K j, ty)) (ha : ∀ cA : ClassId, vp_cell cA a0 = arrV cA M (fun _ => defaultValue ty)) (hn : ¬ z < 0) (hN : z.toNatClampNeg = M) (hb : M * componentBytes ty ≤ 536870912) (hsame : ∀ (U : State) (c1 c2 : ClassId), va_RA U c1 ty → va_RA U c2 ty → c1 = c2) (hd : decode cc pc = .ok (.newarray atype, 2)) (pc2 : Nat) (hpc : pc + 2 = pc2)
    (kk : ∀ q, jl_ok x (N + 1) (va_up ad N q) K sa cc own n → jl_J x (N + 1) (va_up ad N q) (cells + 1) (slots + M) (va_up E N (.inl (K j, a0))) pc2 lc (.ref q :: st)) : jl_J x N ad cells slots E pc lc (.int z :: st) := by
  subst hpc
  have h' := h
  obtain ⟨p, l, e, R, s, m, args, below, meth, c, Q, D, A, nL⟩ := x
  intro H locs ls hl hP hS
  refine va_newa h.1 h.2.1 (h.2.2.2.2.2.1 _ hw) hty h.2.2.2.2.2.2.1 hP (h.2.2.2.2.2.2.2.1.of E) hS h.2.2.2.2.2.2.2.2.1 ha hn hN hb hr.2.2.1 hr.2.2.2 hd (fun q cA H1 hK1 hP1 hD1 hS1 => ?_)
  have e1 : cA = K j := hsame s cA (K j) (hK1.2 (jl_tys K).length (cA, ty) (by simp)).2 (h.2.2.2.2.2.2.1.2 j (K j, ty) hj).2
  subst e1
  rw [← jl_push] at hP1
  exact kk q (jl_okP (e := .inl (K j, a0)) (E := E) h' (fun _ _ _ _ _ _ _ _ _ _ _ _ _ _ he => by cases he; exact hD1)) H1 locs ls hl hP1 hS1
end JN

