/-! Constructors: contracts that make cells; final fields; arrays of arrays; calls of constructors. -/
/-- what the constructors need beside the words: arrays of regions, arrays of arrays, the nest -/
def jl_V (U : State) : Prop := va_AO "FoldedStrand$Region" U ∧ va_Nw (.arrayOver (.array .int)) U ∧ va_Nw (.methodLinkNest "FoldedStrand" 9 ⟨"FoldedStrand$Strand", "<init>", "()V"⟩ "FoldedStrand") U
theorem jl_V.warm {s U : State} (hW : s.WarmedH U.vm) (h : jl_V s) : jl_V U := ⟨h.1.moved hW.alike, by
  show (Cond.arrayOver (.array .int)).before #[] (s.setVm U.vm) = true
  rw [Cond.arrayOver_setVmC hW.alike]
  exact h.2.1, h.2.2.warmM hW⟩
theorem jl_V.same {s U : State} (hv : s.vm = U.vm) (h : jl_V s) : jl_V U := ⟨h.1.moved (by rw [hv]; exact Vm.Alike.refl _), by
  show (Cond.arrayOver (.array .int)).before #[] (s.setVm U.vm) = true
  rw [Cond.arrayOver_setVmC (by rw [hv]; exact Vm.Alike.refl _)]
  exact h.2.1, h.2.2.same rfl hv⟩
def jl_QN (N2 : Nat) (F : (Nat → Nat) → Nat → va_E) (D : va_G) (N : Nat) (ad : Nat → Nat) (sz : Nat) (A : Nat → Prop) : Array Value → State → Outcome → State → Prop := fun _ st oc t => (∃ ad2 : Nat → Nat, oc = .returned none ∧ (∀ k, k < N → ad2 k = ad k) ∧ (∀ i j, i < N2 → j < N2 → ad2 i = ad2 j → i = j) ∧ (∀ k, N ≤ k → k < N2 → sz ≤ ad2 k) ∧ va_P D jl_cl (jl_w N2 ad2 (F ad2)) t.heap) ∧ va_F A st t
/-- a constructor's contract: it makes the cells N to N2, the world is then F at the new addresses -/
def jl_CN (l : Launch) (K : Nat → ClassId) (sa : Nat → Nat) (y : MethodName) (cc : ByteArray) (nL : Nat) (fr lo mc ms : Nat) (N : Nat) (ad : Nat → Nat) (av : List Value) (E : Nat → va_E) (N2 : Nat) (F : (Nat → Nat) → Nat → va_E) : Prop :=
  ∀ (D : va_G) (sz : Nat), Met l y (Cond.code y cc nL none :: jl_T) ({ frames := fr, cells := mc, slots := ms, locals := lo }) (fun a U => jl_P K sa D N ad E sz av a U ∧ jl_V U) (jl_QN N2 F D N ad sz (jl_A N ad sz)) mc ms (jl_A N ad sz)
def jl_xV (x : jl_X) : Prop := match x with
  | (_, _, _, _, s, _, _, _, _, _, _, _, _, _) => jl_V s
def jl_endN (x : jl_X) (N : Nat) (ad : Nat → Nat) (mc ms N2 : Nat) (F : (Nat → Nat) → Nat → va_E) : Prop := match x with
  | (_, _, _, _, s, _, args, below, meth, _, Q, D, A, _) => meth.sig.returnType = none ∧ meth.name = "<init>" ∧ Q = MQ below (jl_QN N2 F D N ad s.heap.size A) args s mc ms A ∧ A = jl_A N ad s.heap.size
theorem jl_enterN {l : Launch} {K : Nat → ClassId} {sa : Nat → Nat} {y : MethodName} {cc : ByteArray} {nL : Nat} {fr lo mc ms : Nat} {N : Nat} {ad : Nat → Nat} {av : List Value} {E : Nat → va_E} {N2 : Nat} {F : (Nat → Nat) → Nat → va_E} (hy : plainName y.cls = true) (hyn : y.name = "<init>") (hlen : (lg_sl av).length ≤ nL)
    (body : ∀ x : jl_X, jl_ok x N ad K sa cc y.cls nL → jl_endN x N ad mc ms N2 F → jl_xV x → jl_r x fr lo mc ms → jl_J x N ad 0 0 E 0 (lv_args 0 av) []) : jl_CN l K sa y cc nL fr lo mc ms N ad av E N2 F := by
  intro D sz
  refine Met.ofW (cc := cc) (maxL := nL) (ret := none) hy rfl ?_
  intro p e s m args below meth c s₁ B hml hv
  obtain ⟨⟨rfl, hsz, hP, hK, hD0, hSt⟩, hV⟩ := hv
  subst hsz
  have hts := atoms_spec (ws := Cond.code y cc nL none :: jl_T) B.pre
  have hown : s.vm.findClass y.cls = some m.cls := findClass_of_methodNamed B.named
  have hnm : meth.name = "<init>" := by rw [← hyn]; exact (name_of_methodNamed B.named B.method).1
  have key := body (p, l, e, ({ frames := fr, cells := mc, slots := ms, locals := lo } : Room), s, m, av.toArray, below, meth, c, MQ below (jl_QN N2 F D N ad s.heap.size (jl_A N ad s.heap.size)) av.toArray s mc ms (jl_A N ad s.heap.size), D, jl_A N ad s.heap.size, nL)
    ⟨B.exec, B.bytes, rfl, hml, hown, fun w hw => hts w (List.mem_cons_of_mem _ hw), hK, ⟨hD0.1, fun k hk => Or.inl ⟨k, hk, rfl⟩⟩, fun q hq => Or.inr hq, B.notSynchronized, hSt⟩ ⟨B.returns, hnm, rfl, rfl⟩ hV ⟨Nat.le_refl _, Nat.le_refl _, Nat.le_refl _, Nat.le_refl _⟩
  have hl := lv_entry av (n := nL) hlen
  rw [lg_entry_eq]
  exact key _ _ _ hl hP va_S.rf
section JN2
variable {x : jl_X} {N : Nat} {ad : Nat → Nat} {K : Nat → ClassId} {sa : Nat → Nat} {cells slots : Nat} {cc : ByteArray} {own : String} {n : Nat} {E : Nat → va_E} {pc : Nat} {lc : List (Nat × Value)} {st : List Value}
theorem jl_vretN {N0 N2 : Nat} {ad0 : Nat → Nat} {F : (Nat → Nat) → Nat → va_E} (h : jl_ok x N2 ad K sa cc own n) (he : jl_endN x N0 ad0 cells slots N2 F) (hN : N0 ≤ N2) (hag : ∀ k, k < N0 → ad k = ad0 k) (hE : ∀ k, k < N2 → E k = F ad k) (hd : decode cc pc = .ok (.return_, 1)) : jl_J x N2 ad cells slots E pc lc [] := by
  refine jl_reE hE ?_
  obtain ⟨p, l, e, R, s, m, args, below, meth, c, Q, D, A, nL⟩ := x
  intro H locs ls hl hP hS
  obtain ⟨hr, hnm, hQ, hA⟩ := he
  subst hQ
  have hD := h.2.2.2.2.2.2.2.1
  refine W.vret h.1 h.2.1 hr (fun t ht hW => ⟨⟨ad, rfl, hag, hD.1, fun k h1 h2 => ?_, by rw [ht]; exact hP⟩, hS.F ht⟩) hS.2.2 hd h.2.2.2.2.2.2.2.2.2.1
  have h3 := hD.2 k h2
  rw [hA] at h3
  rcases h3 with ⟨j, h4, h5⟩ | h3
  · rw [← hag j h4] at h5
    have := hD.1 k j h2 (by omega) h5
    omega
  · exact h3
/-- a new cell, in a form that speaks of the new addresses -/
theorem jl_news {e : va_E} (G : (Nat → Nat) → Nat → va_E) (hG : ∀ ad2 : Nat → Nat, (∀ k, k < N → ad2 k = ad k) → ∀ k, k < N → G ad2 k = E k) (hGN : ∀ ad2 : Nat → Nat, G ad2 N = e) (kk : ∀ ad2 : Nat → Nat, (∀ k, k < N → ad2 k = ad k) → jl_ok x (N + 1) ad2 K sa cc own n → jl_J x (N + 1) ad2 cells slots (G ad2) pc lc (.ref (ad2 N) :: st)) : ∀ q, jl_ok x (N + 1) (va_up ad N q) K sa cc own n → jl_J x (N + 1) (va_up ad N q) cells slots (va_up E N e) pc lc (.ref q :: st) := by
  intro q hq
  have hag : ∀ k, k < N → va_up ad N q k = ad k := fun k hk => va_up_ne _ _ (by omega)
  have h1 := kk (va_up ad N q) hag hq
  rw [va_up_self] at h1
  refine jl_reE (fun k hk => ?_) h1
  by_cases h2 : k = N
  · subst h2
    rw [va_up_self]
    exact (hGN _).symm
  · rw [va_up_ne _ _ h2]
    exact (hG _ hag k (by omega)).symm
theorem jl_aloadN_n (h : jl_ok x N ad K sa cc own n) {k : Fin 4} {i : Nat} (hi : (k : Nat) = i) (hl0 : jl_lk lc i = some .null) (hd : decode cc pc = .ok (.aload_n k, 1)) (pc2 : Nat) (hpc : pc + 1 = pc2) (kk : jl_J x N ad cells slots E pc2 lc (.null :: st)) : jl_J x N ad cells slots E pc lc (st) := by
  subst hpc
  obtain ⟨p, l, e, R, s, m, args, below, meth, c, Q, D, A, nL⟩ := x
  intro H locs ls hl hP hS
  obtain ⟨k0, hk0⟩ := jl_lk_in hl0
  exact lv_aload_nN h.1 h.2.1 hd hi (lv_at hl k0 hk0) (kk H locs ls hl hP hS)
theorem jl_oinit (h : jl_ok x N ad K sa cc own n) {fr lo : Nat} (hr : jl_r x fr lo cells slots) {idx : Nat} (hw : Cond.methodLink own idx Lib.objectInit ∈ jl_T ∧ Cond.instanceMethod Lib.objectInit ∈ jl_T ∧ Cond.code Lib.objectInit ⟨#[0xb1]⟩ 1 none ∈ jl_T) (hfr : 1 ≤ fr) (hlo : 20 ≤ lo) {a : Nat} (hW : (st.map fun v => v.category).sum ≤ 8) (hd : decode cc pc = .ok (.invokespecial idx, 3)) (pc2 : Nat) (hpc : pc + 3 = pc2) (kk : jl_J x N ad cells slots E pc2 lc st) : jl_J x N ad cells slots E pc lc (.ref a :: st) := by
  subst hpc
  obtain ⟨p, l, e, R, s, m, args, below, meth, c, Q, D, A, nL⟩ := x
  intro H locs ls hl hP hS
  have hts := h.2.2.2.2.2.1
  have h1 := hr.1
  have h2 := hr.2.1
  have h3 : 2 * (F0 m pc ls (.ref a :: st)).monitorRoom + (st.map fun v => v.category).sum ≤ 8 := lv_room hW
  exact W.objInit h.1 h.2.1 h.2.2.2.2.1 (hts _ hw.1) (hts _ hw.2.1) (hts _ hw.2.2) rfl (by rw [h.2.2.2.1]; exact hl.1) rfl hd (by omega) (by omega) (kk H locs ls hl hP hS)
theorem jl_putF {N0 mc ms N2 : Nat} {ad0 : Nat → Nat} {F : (Nat → Nat) → Nat → va_E} (he : jl_endN x N0 ad0 mc ms N2 F) (h : jl_ok x N ad K sa cc own n) {k ci : Nat} {C : String} {T : u_T} {M : Nat} {ty : Nat → FieldType} (hc : jl_c ci C T M ty) (j : Nat) {index : Nat} (hw : Cond.fieldLink own index (T j).1 (T j).2.1 (T j).2.2.1 ∈ jl_T) (hk : k < N) (hj : j < M) (hfin : (T j).2.2.2 = true) (hdecl : (T j).1 = own) {fs fs2 : List Value} (hE : E k = .inr (ci, fs)) {v : Value} (hn : narrow (ty j) v = v) (hfit : fits (ty j) v = true) (hl0 : j < fs.length) (hf2 : fs.set j v = fs2) (hd : decode cc pc = .ok (.putfield index, 3)) {E2 : Nat → va_E} (hE2 : va_up E k (.inr (ci, fs2)) = E2) (pc2 : Nat) (hpc : pc + 3 = pc2) (kk : jl_J x N ad cells slots E2 pc2 lc st) : jl_J x N ad cells slots E pc lc (v :: .ref (ad k) :: st) := by
  subst hpc
  subst hE2
  obtain ⟨p, l, e, R, s, m, args, below, meth, c, Q, D, A, nL⟩ := x
  intro H locs ls hl hP hS
  subst hf2
  refine va_putF (D := D) h.1 h.2.1 h.2.2.2.2.2.1 hc.2.1 ty hc.2.2.1 hc.2.2.2 h.2.2.2.2.1 h.2.2.2.2.2.2.1 hP (h.2.2.2.2.2.2.2.1.of E) hS k (by rw [jl_get hk, hE]) hc.1 j hj (h.2.2.2.2.2.1 _ hw) (fun _ h9 => h9) hfin he.2.1 hdecl (hc.2.2.1 j hj) hn hfit hl0 hd (fun H1 locs1 hP1 _ hS1 => ?_)
  rw [jl_set] at hP1
  exact kk H1 locs1 ls hl hP1 hS1
/-- an array of regions -/
theorem jl_newr (h : jl_ok x N ad K sa cc own n) (hV : jl_xV x) {fr lo M : Nat} (hr : jl_r x fr lo (cells + 1) (slots + M)) {index : Nat} (hw : Cond.classLink own index "FoldedStrand$Region" ∈ jl_T) {z : Int32} (hn : ¬ z < 0) (hM : z.toNatClampNeg = M) (hb : M * 4 ≤ 536870912) (hd : decode cc pc = .ok (.anewarray index, 3)) (pc2 : Nat) (hpc : pc + 3 = pc2)
    (kk : ∀ q, jl_ok x (N + 1) (va_up ad N q) K sa cc own n → jl_J x (N + 1) (va_up ad N q) (cells + 1) (slots + M) (va_up E N (.inl (K 3, M, .inr (.inr (.inr (.inr (fun _ => none))))))) pc2 lc (.ref q :: st)) : jl_J x N ad cells slots E pc lc (.int z :: st) := by
  subst hpc
  have h' := h
  obtain ⟨p, l, e, R, s, m, args, below, meth, c, Q, D, A, nL⟩ := x
  intro H locs ls hl hP hS
  refine va_newq h.1 h.2.1 h.2.2.2.2.1 (h.2.2.2.2.2.1 _ hw) hV.1 h.2.2.2.2.2.2.1 hP (h.2.2.2.2.2.2.2.1.of E) hS h.2.2.2.2.2.2.2.2.1 hn hM hb hr.2.2.1 hr.2.2.2 hd (fun q cA H1 hK1 hP1 hD1 hS1 => ?_)
  have e1 : cA = K 3 := by
    obtain ⟨_, _, -, -, -, g1⟩ := (hK1.2 (jl_tys K).length (cA, .object "FoldedStrand$Region") (by simp)).2
    obtain ⟨_, _, -, -, -, g2⟩ := (h.2.2.2.2.2.2.1.2 3 (K 3, .object "FoldedStrand$Region") rfl).2
    exact Option.some.inj (g1.symm.trans g2)
  subst e1
  rw [← jl_push] at hP1
  exact kk q (jl_okP (e := .inl (K 3, M, .inr (.inr (.inr (.inr (fun _ => none)))))) (E := E) h' (fun _ _ _ _ _ _ _ _ _ _ _ _ _ _ he => by cases he; exact hD1)) H1 locs ls hl hP1 hS1
end JN2

