/-! Contracts over the numbered world, a method's entry and end, calls. -/
def jl_Q (v2 : Option Value) (E2 : Nat → va_E) (D : va_G) (N : Nat) (ad : Nat → Nat) (A : Nat → Prop) : Array Value → State → Outcome → State → Prop := fun _ st oc t => (oc = .returned v2 ∧ va_P D jl_cl (jl_w N ad E2) t.heap) ∧ va_F A st t
def jl_P (K : Nat → ClassId) (sa : Nat → Nat) (D : va_G) (N : Nat) (ad : Nat → Nat) (E : Nat → va_E) (sz : Nat) (av : List Value) : Array Value → State → Prop := va_Pc av (fun U => U.heap.size = sz ∧ va_P D jl_cl (jl_w N ad E) U.heap ∧ va_K D jl_cl (jl_tys K) U ∧ jl_D (fun _ => True) N ad ∧ jl_S sa (jl_A N ad sz) U U.heap)
/-- a method's contract: from the world E with the arguments av it comes back with v2, to the world E2; it makes nothing -/
def jl_C (l : Launch) (K : Nat → ClassId) (sa : Nat → Nat) (y : MethodName) (cc : ByteArray) (nL : Nat) (ret : Option FieldType) (fr lo : Nat) (N : Nat) (ad : Nat → Nat) (av : List Value) (E : Nat → va_E) (v2 : Option Value) (E2 : Nat → va_E) : Prop :=
  ∀ (D : va_G) (sz : Nat), Met l y (Cond.code y cc nL ret :: jl_T) ({ frames := fr, cells := 0, slots := 0, locals := lo }) (jl_P K sa D N ad E sz av) (jl_Q v2 E2 D N ad (jl_A N ad sz)) 0 0 (jl_A N ad sz)
def jl_end (x : jl_X) (N : Nat) (ad : Nat → Nat) (ret : Option FieldType) (v2 : Option Value) (E2 : Nat → va_E) : Prop := match x with
  | (_, _, _, _, s, _, args, below, meth, _, Q, D, A, _) => meth.sig.returnType = ret ∧ Q = MQ below (jl_Q v2 E2 D N ad A) args s 0 0 A
/-- the room that is left: frames, locals' words, cells, slots -/
def jl_r (x : jl_X) (fr lo cells slots : Nat) : Prop := match x with
  | (_, _, _, R, _, _, _, _, _, _, _, _, _, _) => fr ≤ R.frames ∧ lo ≤ R.locals ∧ cells ≤ R.cells ∧ slots ≤ R.slots
theorem jl_enter {l : Launch} {K : Nat → ClassId} {sa : Nat → Nat} {y : MethodName} {cc : ByteArray} {nL : Nat} {ret : Option FieldType} {fr lo : Nat} {N : Nat} {ad : Nat → Nat} {av : List Value} {E : Nat → va_E} {v2 : Option Value} {E2 : Nat → va_E} (hy : plainName y.cls = true) (hlen : (lg_sl av).length ≤ nL)
    (body : ∀ x : jl_X, jl_ok x N ad K sa cc y.cls nL → jl_end x N ad ret v2 E2 → jl_r x fr lo 0 0 → jl_J x N ad 0 0 E 0 (lv_args 0 av) []) : jl_C l K sa y cc nL ret fr lo N ad av E v2 E2 := by
  intro D sz
  refine Met.ofW (cc := cc) (maxL := nL) (ret := ret) hy rfl ?_
  intro p e s m args below meth c s₁ B hml hv
  obtain ⟨rfl, hsz, hP, hK, hD0, hSt⟩ := hv
  subst hsz
  have hts := atoms_spec (ws := Cond.code y cc nL ret :: jl_T) B.pre
  have hown : s.vm.findClass y.cls = some m.cls := findClass_of_methodNamed B.named
  have key := body (p, l, e, ({ frames := fr, cells := 0, slots := 0, locals := lo } : Room), s, m, av.toArray, below, meth, c, MQ below (jl_Q v2 E2 D N ad (jl_A N ad s.heap.size)) av.toArray s 0 0 (jl_A N ad s.heap.size), D, jl_A N ad s.heap.size, nL)
    ⟨B.exec, B.bytes, rfl, hml, hown, fun w hw => hts w (List.mem_cons_of_mem _ hw), hK, ⟨hD0.1, fun k hk => Or.inl ⟨k, hk, rfl⟩⟩, fun q hq => Or.inr hq, B.notSynchronized, hSt⟩ ⟨B.returns, rfl⟩ ⟨Nat.le_refl _, Nat.le_refl _, Nat.le_refl _, Nat.le_refl _⟩
  have hl := lv_entry av (n := nL) hlen
  rw [lg_entry_eq]
  exact key _ _ _ hl hP va_S.rf
section JC
variable {x : jl_X} {N : Nat} {ad : Nat → Nat} {K : Nat → ClassId} {sa : Nat → Nat} {cells slots : Nat} {cc : ByteArray} {own : String} {n : Nat} {E : Nat → va_E} {pc : Nat} {lc : List (Nat × Value)} {st : List Value} {v2 : Option Value} {E2 : Nat → va_E}
theorem jl_zret (h : jl_ok x N ad K sa cc own n) {ty : FieldType} (he : jl_end x N ad (some ty) v2 E2) {v : Int32} (hn : narrow ty (.int v) = .int v) (hv2 : some (.int v) = v2) (hE2 : E = E2) (hd : decode cc pc = .ok (.ireturn, 1)) : jl_J x N ad 0 0 E pc lc [.int v] := by
  obtain ⟨p, l, e, R, s, m, args, below, meth, c, Q, D, A, nL⟩ := x
  intro H locs ls hl hP hS
  obtain ⟨hr, hQ⟩ := he
  subst hQ
  exact W.zret h.1 h.2.1 hr hn (fun t ht hW => ⟨⟨by rw [← hv2], by rw [ht, ← hE2]; exact hP⟩, hS.F ht⟩) hS.2.2 hd h.2.2.2.2.2.2.2.2.2.1
theorem jl_lret (h : jl_ok x N ad K sa cc own n) (he : jl_end x N ad (some .long) v2 E2) {v : Int64} (hv2 : some (.long v) = v2) (hE2 : E = E2) (hd : decode cc pc = .ok (.lreturn, 1)) : jl_J x N ad 0 0 E pc lc [.long v] := by
  obtain ⟨p, l, e, R, s, m, args, below, meth, c, Q, D, A, nL⟩ := x
  intro H locs ls hl hP hS
  obtain ⟨hr, hQ⟩ := he
  subst hQ
  exact W.lret h.1 h.2.1 hr (fun t ht hW => ⟨⟨by rw [← hv2], by rw [ht, ← hE2]; exact hP⟩, hS.F ht⟩) hS.2.2 hd h.2.2.2.2.2.2.2.2.2.1
theorem jl_aret (h : jl_ok x N ad K sa cc own n) {C : String} (he : jl_end x N ad (some (.object C)) v2 E2) {r : Nat} (hv2 : some (.ref r) = v2) (hE2 : E = E2) (hd : decode cc pc = .ok (.areturn, 1)) : jl_J x N ad 0 0 E pc lc [.ref r] := by
  obtain ⟨p, l, e, R, s, m, args, below, meth, c, Q, D, A, nL⟩ := x
  intro H locs ls hl hP hS
  obtain ⟨hr, hQ⟩ := he
  subst hQ
  exact W.aret h.1 h.2.1 hr (Or.inl ⟨_, rfl⟩) (Or.inr ⟨_, rfl⟩) (fun t ht hW => ⟨⟨by rw [← hv2], by rw [ht, ← hE2]; exact hP⟩, hS.F ht⟩) hS.2.2 hd h.2.2.2.2.2.2.2.2.2.1
theorem jl_vret (h : jl_ok x N ad K sa cc own n) (he : jl_end x N ad none v2 E2) (hv2 : none = v2) (hE2 : E = E2) (hd : decode cc pc = .ok (.return_, 1)) : jl_J x N ad 0 0 E pc lc [] := by
  obtain ⟨p, l, e, R, s, m, args, below, meth, c, Q, D, A, nL⟩ := x
  intro H locs ls hl hP hS
  obtain ⟨hr, hQ⟩ := he
  subst hQ
  exact W.vret h.1 h.2.1 hr (fun t ht hW => ⟨⟨by rw [← hv2], by rw [ht, ← hE2]; exact hP⟩, hS.F ht⟩) hS.2.2 hd h.2.2.2.2.2.2.2.2.2.1
/-- behind a call -/
theorem jl_after {p : Program} {l : Launch} {e : Env} {R : Room} {s : State} {m : MethodId} {args : Array Value} {below : List Frame} {meth : Method} {c : Code} {Q : State → Prop} {D : va_G} {A A1 : Nat → Prop} {nL : Nat} {H : Heap} {locs : List Loc} {ls : Array Slot} {rest : List Value} {a : Array Value}
    (hrun : va_Run p l e R s m args below meth c H locs cells slots 0 0 (F0 m pc ls st) rest (jl_Q v2 E2 D N ad A1 a) A1) (hS : va_S A s.heap H locs) (hA : ∀ q, A1 q → A q) (hl : lv_has ls nL lc)
    (kk : jl_J (p, l, e, R, s, m, args, below, meth, c, Q, D, A, nL) N ad cells slots E2 (pc + 3) lc (v2.toList ++ rest)) : W p l e R s m args below meth c H locs cells slots Q (F0 m pc ls st) := by
  intro T hT X
  obtain ⟨v, st₀, t, T', L, h0, X', hL, e1, e2, ⟨⟨hv, hP'⟩, hz, hk⟩, stp⟩ := hrun T hT X
  cases hv
  rw [h0] at hz hk
  obtain ⟨t2, a1, b1⟩ := kk T'.heap (locs ++ L) ls hl (by rw [e1]; exact hP')
    ⟨Nat.le_trans hS.1 (by rw [e1]; exact hz), fun q h1 h2 => by rw [e1, hk q (Nat.lt_of_lt_of_le h1 hS.1) (fun z => h2 (hA q z))]; exact hS.2.1 q h1 h2, fun q hq => by
      rcases List.mem_append.mp hq with h | h
      · exact hS.2.2 q h
      · exact hA _ (hL q h)⟩ T' rfl X'
  exact ⟨t2, stp t2 a1, b1⟩
theorem jl_blind {K : Nat → ClassId} {sa : Nat → Nat} {D : va_G} {sz : Nat} {av : List Value} : FrameBlind (jl_P K sa D N ad E sz av) := by
  intro a U g mk q
  obtain ⟨q0, q1, qP, qK, qD, qS⟩ := q
  exact ⟨q0, q1, qP, va_K.moved (u := U) (U := U.calling g mk a) (Vm.Alike.refl U.vm) qK, qD, jl_S.moved (u := U) (U := U.calling g mk a) (Vm.Alike.refl U.vm) qS⟩
theorem jl_T_good : ∀ w ∈ jl_T, (w.onTables && w.keeps) = true ∨ ∃ ty, w = .arrayClass ty := fun _ hw => good_of_word (List.mem_filter.mp hw).2
theorem jl_goodIn {y : MethodName} {cc2 : ByteArray} {nL2 : Nat} {ret2 : Option FieldType} (hcode : Cond.code y cc2 nL2 ret2 ∈ jl_T) : GoodIn jl_T (Cond.code y cc2 nL2 ret2 :: jl_T) := by
  intro w hw
  rcases List.mem_cons.mp hw with rfl | hw
  · exact ⟨hcode, jl_T_good _ hcode⟩
  · exact ⟨hw, jl_T_good _ hw⟩
/-- the words of a call site: place in the pool, target, its code -/
def jl_v (own : String) (index : Nat) (y : MethodName) (cc2 : ByteArray) (nL2 : Nat) (ret2 : Option FieldType) (na : Nat) : Prop :=
  Cond.code y cc2 nL2 ret2 ∈ jl_T ∧ Cond.initialized y.cls ∈ jl_T ∧ Cond.methodLink own index y ∈ jl_T ∧ y.cls ≠ "java/lang/invoke/MethodHandle" ∧ y.cls ≠ "java/lang/invoke/VarHandle" ∧ (parseMethodDescriptor y.desc).map (fun d => d.parameters.length) = some na
theorem jl_pre {p : Program} {l : Launch} {e : Env} {R : Room} {s : State} {m : MethodId} {args : Array Value} {below : List Frame} {meth : Method} {c : Code} {Q : State → Prop} {D : va_G} {A : Nat → Prop} {nL : Nat} {H : Heap} {locs : List Loc} (h : jl_ok (p, l, e, R, s, m, args, below, meth, c, Q, D, A, nL) N ad K sa cc own n) (hP : va_P D jl_cl (jl_w N ad E) H) (hS : va_S A s.heap H locs) (av : List Value) :
    (∀ q, jl_A N ad H.size q → A q) ∧ ∀ U : State, U.heap = H → s.WarmedH U.vm → jl_P K sa D N ad E H.size av av.toArray U := by
  have hA : ∀ q, jl_A N ad H.size q → A q := by
    intro q hq
    rcases hq with ⟨k, hk, rfl⟩ | hq
    · exact h.2.2.2.2.2.2.2.1.2 k hk
    · exact h.2.2.2.2.2.2.2.2.1 q (Nat.le_trans hS.1 hq)
  refine ⟨hA, fun U hU hW => ⟨rfl, by rw [hU], by rw [hU]; exact hP, va_K.moved hW.alike h.2.2.2.2.2.2.1, ⟨h.2.2.2.2.2.2.2.1.1, fun _ _ => trivial⟩, ?_⟩⟩
  rw [hU]
  exact jl_S.moved hW.alike ((h.2.2.2.2.2.2.2.2.2.2.kept hS.2.1).narrow hA)
theorem jl_callV (h : jl_ok x N ad K sa cc own n) {fr lo fr2 lo2 : Nat} (hr : jl_r x fr lo cells slots) {y : MethodName} {cc2 : ByteArray} {nL2 : Nat} {ret2 : Option FieldType} {index na : Nat} (hv : jl_v own index y cc2 nL2 ret2 na) (hin : Cond.instanceMethod y ∈ jl_T) (hsel : Cond.selects y.cls y y ∈ jl_T) {k ci : Nat} {T : u_T} {M : Nat} {fs : List Value} (hc : jl_cl[ci]? = some (y.cls, T, M)) (hk : k < N) (hE : E k = .inr (ci, fs)) {As rest : List Value}
    (hC : ∀ l, jl_C l K sa y cc2 nL2 ret2 fr2 lo2 N ad (.ref (ad k) :: As) E v2 E2) (hfr : fr2 + 1 ≤ fr) (hlo : 8 + (nL2 + 11) + lo2 ≤ lo) (hn : As.length = na) (hst : st = As.reverse ++ .ref (ad k) :: rest) (hW : (rest.map fun v => v.category).sum ≤ 8) (hd : decode cc pc = .ok (.invokevirtual index, 3))
    {res : List Value} (hres : v2.toList ++ rest = res) (pc2 : Nat) (hpc : pc + 3 = pc2) (kk : jl_J x N ad cells slots E2 pc2 lc res) : jl_J x N ad cells slots E pc lc st := by
  subst hres
  subst hpc
  obtain ⟨p, l, e, R, s, m, args, below, meth, c, Q, D, A, nL⟩ := x
  intro H locs ls hl hP hS
  obtain ⟨hA, hpre⟩ := jl_pre h hP hS (.ref (ad k) :: As)
  have hts := h.2.2.2.2.2.1
  have cb : CallB R s args own index y cc2 nL2 ret2 (Cond.code y cc2 nL2 ret2 :: jl_T) ({ frames := fr2, cells := 0, slots := 0, locals := lo2 } : Room) 0 0 na := callB_of na hts (jl_goodIn hv.1) rfl rfl rfl (hts _ hv.2.1) (hts _ hv.2.2.1) ⟨hv.2.2.2.1, hv.2.2.2.2.1, hv.2.2.2.2.2⟩ ⟨Nat.le_trans hfr hr.1, Nat.le_trans hlo hr.2.1⟩
  exact jl_after (va_runV (As := As) (rest := rest) (b := ad k) (C := y.cls) ⟨h.1, h.2.1, h.2.2.2.1, h.2.2.2.2.1, hts⟩ (hC l D H.size) ⟨cb, hts _ hin, hts _ hsel⟩ ⟨jl_blind, va_recv h.2.2.2.2.2.2.1 hP hc (by rw [jl_get hk, hE]), hpre⟩ rfl hn hl.1 hst (lv_room hW) hd ⟨hr.2.2.1, hr.2.2.2⟩) hS hA hl kk
theorem jl_callS (h : jl_ok x N ad K sa cc own n) {fr lo fr2 lo2 : Nat} (hr : jl_r x fr lo cells slots) {y : MethodName} {cc2 : ByteArray} {nL2 : Nat} {ret2 : Option FieldType} {index na : Nat} (hv : jl_v own index y cc2 nL2 ret2 na) (hin : Cond.static y ∈ jl_T) {As rest : List Value}
    (hC : ∀ l, jl_C l K sa y cc2 nL2 ret2 fr2 lo2 N ad As E v2 E2) (hfr : fr2 + 1 ≤ fr) (hlo : 8 + (nL2 + 11) + lo2 ≤ lo) (hn : As.length = na) (hst : st = As.reverse ++ rest) (hW : (rest.map fun v => v.category).sum ≤ 8) (hd : decode cc pc = .ok (.invokestatic index, 3))
    {res : List Value} (hres : v2.toList ++ rest = res) (pc2 : Nat) (hpc : pc + 3 = pc2) (kk : jl_J x N ad cells slots E2 pc2 lc res) : jl_J x N ad cells slots E pc lc st := by
  subst hres
  subst hpc
  obtain ⟨p, l, e, R, s, m, args, below, meth, c, Q, D, A, nL⟩ := x
  intro H locs ls hl hP hS
  obtain ⟨hA, hpre⟩ := jl_pre h hP hS As
  have hts := h.2.2.2.2.2.1
  have cb : CallB R s args own index y cc2 nL2 ret2 (Cond.code y cc2 nL2 ret2 :: jl_T) ({ frames := fr2, cells := 0, slots := 0, locals := lo2 } : Room) 0 0 na := callB_of na hts (jl_goodIn hv.1) rfl rfl rfl (hts _ hv.2.1) (hts _ hv.2.2.1) ⟨hv.2.2.2.1, hv.2.2.2.2.1, hv.2.2.2.2.2⟩ ⟨Nat.le_trans hfr hr.1, Nat.le_trans hlo hr.2.1⟩
  exact jl_after (va_runS (As := As) (rest := rest) ⟨h.1, h.2.1, h.2.2.2.1, h.2.2.2.2.1, hts⟩ (hC l D H.size) ⟨cb, hts _ hin⟩ ⟨jl_blind, hpre⟩ rfl hn hl.1 hst (lv_room hW) hd ⟨hr.2.2.1, hr.2.2.2⟩) hS hA hl kk
theorem jl_mmin (h : jl_ok x N ad K sa cc own n) {fr lo : Nat} (hr : jl_r x fr lo cells slots) {index : Nat} (hw : Cond.methodLink own index Lib.Math.min.name ∈ jl_T ∧ Cond.static Lib.Math.min.name ∈ jl_T ∧ Cond.initialized "java/lang/Math" ∈ jl_T ∧ Cond.code Lib.Math.min.name Lib.Math.min.code 2 (some .int) ∈ jl_T) (hfr : 1 ≤ fr) (hlo : 21 ≤ lo) {a b : Int32} (hW : (st.map fun v => v.category).sum ≤ 8) (hd : decode cc pc = .ok (.invokestatic index, 3)) (pc2 : Nat) (hpc : pc + 3 = pc2) (kk : jl_J x N ad cells slots E pc2 lc (.int (if b < a then b else a) :: st)) : jl_J x N ad cells slots E pc lc (.int b :: .int a :: st) := by
  subst hpc
  obtain ⟨p, l, e, R, s, m, args, below, meth, c, Q, D, A, nL⟩ := x
  intro H locs ls hl hP hS
  have hts := h.2.2.2.2.2.1
  have h1 := hr.1
  have h2 := hr.2.1
  exact va_mmin h.1 h.2.1 (h.2.2.2.1.trans hl.1.symm) h.2.2.2.2.1 (hts _ hw.1) (hts _ hw.2.1) (hts _ hw.2.2.1) (hts _ hw.2.2.2) (by omega) (by omega) hr.2.2.1 hr.2.2.2 hd (kk H locs ls hl hP hS)
theorem jl_mmax (h : jl_ok x N ad K sa cc own n) {fr lo : Nat} (hr : jl_r x fr lo cells slots) {index : Nat} (hw : Cond.methodLink own index Lib.Math.max.name ∈ jl_T ∧ Cond.static Lib.Math.max.name ∈ jl_T ∧ Cond.initialized "java/lang/Math" ∈ jl_T ∧ Cond.code Lib.Math.max.name Lib.Math.max.code 2 (some .int) ∈ jl_T) (hfr : 1 ≤ fr) (hlo : 21 ≤ lo) {a b : Int32} (hW : (st.map fun v => v.category).sum ≤ 8) (hd : decode cc pc = .ok (.invokestatic index, 3)) (pc2 : Nat) (hpc : pc + 3 = pc2) (kk : jl_J x N ad cells slots E pc2 lc (.int (if a < b then b else a) :: st)) : jl_J x N ad cells slots E pc lc (.int b :: .int a :: st) := by
  subst hpc
  obtain ⟨p, l, e, R, s, m, args, below, meth, c, Q, D, A, nL⟩ := x
  intro H locs ls hl hP hS
  have hts := h.2.2.2.2.2.1
  have h1 := hr.1
  have h2 := hr.2.1
  exact va_mmax h.1 h.2.1 (h.2.2.2.1.trans hl.1.symm) h.2.2.2.2.1 (hts _ hw.1) (hts _ hw.2.1) (hts _ hw.2.2.1) (hts _ hw.2.2.2) (by omega) (by omega) hr.2.2.1 hr.2.2.2 hd (kk H locs ls hl hP hS)
theorem jl_mabs (h : jl_ok x N ad K sa cc own n) {fr lo : Nat} (hr : jl_r x fr lo cells slots) {index : Nat} (hw : Cond.methodLink own index Lib.Math.abs.name ∈ jl_T ∧ Cond.static Lib.Math.abs.name ∈ jl_T ∧ Cond.initialized "java/lang/Math" ∈ jl_T ∧ Cond.code Lib.Math.abs.name Lib.Math.abs.code 1 (some .int) ∈ jl_T) (hfr : 1 ≤ fr) (hlo : 21 ≤ lo) {a : Int32} (hW : (st.map fun v => v.category).sum ≤ 8) (hd : decode cc pc = .ok (.invokestatic index, 3)) (pc2 : Nat) (hpc : pc + 3 = pc2) (kk : jl_J x N ad cells slots E pc2 lc (.int (if 0 ≤ a then a else 0 - a) :: st)) : jl_J x N ad cells slots E pc lc (.int a :: st) := by
  subst hpc
  obtain ⟨p, l, e, R, s, m, args, below, meth, c, Q, D, A, nL⟩ := x
  intro H locs ls hl hP hS
  have hts := h.2.2.2.2.2.1
  have h1 := hr.1
  have h2 := hr.2.1
  exact va_mabs h.1 h.2.1 (h.2.2.2.1.trans hl.1.symm) h.2.2.2.2.1 (hts _ hw.1) (hts _ hw.2.1) (hts _ hw.2.2.1) (hts _ hw.2.2.2) (by omega) (by omega) hr.2.2.1 hr.2.2.2 hd (kk H locs ls hl hP hS)
end JC
