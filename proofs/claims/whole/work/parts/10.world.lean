/-! Contracts with a postcondition; contents of arrays up to their lengths; the world gw. Written by wip/whole/genworld.py. -/
def jl_QP (post : Option Value → (Nat → va_E) → Prop) (D : va_G) (N : Nat) (ad : Nat → Nat) (A : Nat → Prop) : Array Value → State → Outcome → State → Prop := fun _ st oc t => (∃ (v : Option Value) (E : Nat → va_E), oc = .returned v ∧ post v E ∧ va_P D jl_cl (jl_w N ad E) t.heap) ∧ va_F A st t
def jl_CP (l : Launch) (K : Nat → ClassId) (sa : Nat → Nat) (y : MethodName) (cc : ByteArray) (nL : Nat) (ret : Option FieldType) (fr lo : Nat) (N : Nat) (ad : Nat → Nat) (av : List Value) (E : Nat → va_E) (post : Option Value → (Nat → va_E) → Prop) : Prop :=
  ∀ (D : va_G) (sz : Nat), Met l y (Cond.code y cc nL ret :: jl_T) ({ frames := fr, cells := 0, slots := 0, locals := lo }) (jl_P K sa D N ad E sz av) (jl_QP post D N ad (jl_A N ad sz)) 0 0 (jl_A N ad sz)
def jl_endP (x : jl_X) (N : Nat) (ad : Nat → Nat) (ret : Option FieldType) (post : Option Value → (Nat → va_E) → Prop) : Prop := match x with
  | (_, _, _, _, s, _, args, below, meth, _, Q, D, A, _) => meth.sig.returnType = ret ∧ Q = MQ below (jl_QP post D N ad A) args s 0 0 A
theorem jl_enterP {l : Launch} {K : Nat → ClassId} {sa : Nat → Nat} {y : MethodName} {cc : ByteArray} {nL : Nat} {ret : Option FieldType} {fr lo : Nat} {N : Nat} {ad : Nat → Nat} {av : List Value} {E : Nat → va_E} {post : Option Value → (Nat → va_E) → Prop} (hy : plainName y.cls = true) (hlen : (lg_sl av).length ≤ nL)
    (body : ∀ x : jl_X, jl_ok x N ad K sa cc y.cls nL → jl_endP x N ad ret post → jl_r x fr lo 0 0 → jl_J x N ad 0 0 E 0 (lv_args 0 av) []) : jl_CP l K sa y cc nL ret fr lo N ad av E post := by
  intro D sz
  refine Met.ofW (cc := cc) (maxL := nL) (ret := ret) hy rfl ?_
  intro p e s m args below meth c s₁ B hml hv
  obtain ⟨rfl, hsz, hP, hK, hD0, hSt⟩ := hv
  subst hsz
  have hts := atoms_spec (ws := Cond.code y cc nL ret :: jl_T) B.pre
  have hown : s.vm.findClass y.cls = some m.cls := findClass_of_methodNamed B.named
  have key := body (p, l, e, ({ frames := fr, cells := 0, slots := 0, locals := lo } : Room), s, m, av.toArray, below, meth, c, MQ below (jl_QP post D N ad (jl_A N ad s.heap.size)) av.toArray s 0 0 (jl_A N ad s.heap.size), D, jl_A N ad s.heap.size, nL)
    ⟨B.exec, B.bytes, rfl, hml, hown, fun w hw => hts w (List.mem_cons_of_mem _ hw), hK, ⟨hD0.1, fun k hk => Or.inl ⟨k, hk, rfl⟩⟩, fun q hq => Or.inr hq, B.notSynchronized, hSt⟩ ⟨B.returns, rfl⟩ ⟨Nat.le_refl _, Nat.le_refl _, Nat.le_refl _, Nat.le_refl _⟩
  have hl := lv_entry av (n := nL) hlen
  rw [lg_entry_eq]
  exact key _ _ _ hl hP va_S.rf
/-- a contract that says more may be used as one that says less -/
theorem jl_CP.weak {l : Launch} {K : Nat → ClassId} {sa : Nat → Nat} {y : MethodName} {cc : ByteArray} {nL : Nat} {ret : Option FieldType} {fr lo : Nat} {N : Nat} {ad : Nat → Nat} {av : List Value} {E E2 : Nat → va_E} {v2 : Option Value} (h : jl_C l K sa y cc nL ret fr lo N ad av E v2 E2) : ∀ (D : va_G) (sz : Nat), Met l y (Cond.code y cc nL ret :: jl_T) ({ frames := fr, cells := 0, slots := 0, locals := lo }) (jl_P K sa D N ad E sz av) (jl_Q v2 E2 D N ad (jl_A N ad sz)) 0 0 (jl_A N ad sz) := h
section JP
variable {x : jl_X} {N : Nat} {ad : Nat → Nat} {K : Nat → ClassId} {sa : Nat → Nat} {cells slots : Nat} {cc : ByteArray} {own : String} {n : Nat} {E : Nat → va_E} {pc : Nat} {lc : List (Nat × Value)} {st : List Value} {post : Option Value → (Nat → va_E) → Prop}
theorem jl_zretP (h : jl_ok x N ad K sa cc own n) {ty : FieldType} (he : jl_endP x N ad (some ty) post) {v : Int32} (hn : narrow ty (.int v) = .int v) (hp : post (some (.int v)) E) (hd : decode cc pc = .ok (.ireturn, 1)) : jl_J x N ad 0 0 E pc lc [.int v] := by
  obtain ⟨p, l, e, R, s, m, args, below, meth, c, Q, D, A, nL⟩ := x
  intro H locs ls hl hP hS
  obtain ⟨hr, hQ⟩ := he
  subst hQ
  exact W.zret h.1 h.2.1 hr hn (fun t ht hW => ⟨⟨_, E, rfl, hp, by rw [ht]; exact hP⟩, hS.F ht⟩) hS.2.2 hd h.2.2.2.2.2.2.2.2.2.1
theorem jl_lretP (h : jl_ok x N ad K sa cc own n) (he : jl_endP x N ad (some .long) post) {v : Int64} (hp : post (some (.long v)) E) (hd : decode cc pc = .ok (.lreturn, 1)) : jl_J x N ad 0 0 E pc lc [.long v] := by
  obtain ⟨p, l, e, R, s, m, args, below, meth, c, Q, D, A, nL⟩ := x
  intro H locs ls hl hP hS
  obtain ⟨hr, hQ⟩ := he
  subst hQ
  exact W.lret h.1 h.2.1 hr (fun t ht hW => ⟨⟨_, E, rfl, hp, by rw [ht]; exact hP⟩, hS.F ht⟩) hS.2.2 hd h.2.2.2.2.2.2.2.2.2.1
theorem jl_vretP (h : jl_ok x N ad K sa cc own n) (he : jl_endP x N ad none post) (hp : post none E) (hd : decode cc pc = .ok (.return_, 1)) : jl_J x N ad 0 0 E pc lc [] := by
  obtain ⟨p, l, e, R, s, m, args, below, meth, c, Q, D, A, nL⟩ := x
  intro H locs ls hl hP hS
  obtain ⟨hr, hQ⟩ := he
  subst hQ
  exact W.vret h.1 h.2.1 hr (fun t ht hW => ⟨⟨_, E, rfl, hp, by rw [ht]; exact hP⟩, hS.F ht⟩) hS.2.2 hd h.2.2.2.2.2.2.2.2.2.1
theorem jl_afterP {p : Program} {l : Launch} {e : Env} {R : Room} {s : State} {m : MethodId} {args : Array Value} {below : List Frame} {meth : Method} {c : Code} {Q : State → Prop} {D : va_G} {A A1 : Nat → Prop} {nL : Nat} {H : Heap} {locs : List Loc} {ls : Array Slot} {rest : List Value} {a : Array Value}
    (hrun : va_Run p l e R s m args below meth c H locs cells slots 0 0 (F0 m pc ls st) rest (jl_QP post D N ad A1 a) A1) (hS : va_S A s.heap H locs) (hA : ∀ q, A1 q → A q) (hl : lv_has ls nL lc)
    (kk : ∀ v E2, post v E2 → jl_J (p, l, e, R, s, m, args, below, meth, c, Q, D, A, nL) N ad cells slots E2 (pc + 3) lc (v.toList ++ rest)) : W p l e R s m args below meth c H locs cells slots Q (F0 m pc ls st) := by
  intro T hT X
  obtain ⟨v, st₀, t, T', L, h0, X', hL, e1, e2, ⟨⟨v', E', hv, hp, hP'⟩, hz, hk⟩, stp⟩ := hrun T hT X
  cases hv
  rw [h0] at hz hk
  obtain ⟨t2, a1, b1⟩ := kk v E' hp T'.heap (locs ++ L) ls hl (by rw [e1]; exact hP')
    ⟨Nat.le_trans hS.1 (by rw [e1]; exact hz), fun q h1 h2 => by rw [e1, hk q (Nat.lt_of_lt_of_le h1 hS.1) (fun z => h2 (hA q z))]; exact hS.2.1 q h1 h2, fun q hq => by
      rcases List.mem_append.mp hq with h | h
      · exact hS.2.2 q h
      · exact hA _ (hL q h)⟩ T' rfl X'
  exact ⟨t2, stp t2 a1, b1⟩
theorem jl_callVP (h : jl_ok x N ad K sa cc own n) {fr lo fr2 lo2 : Nat} (hr : jl_r x fr lo cells slots) {y : MethodName} {cc2 : ByteArray} {nL2 : Nat} {ret2 : Option FieldType} {index na : Nat} (hv : jl_v own index y cc2 nL2 ret2 na) (hin : Cond.instanceMethod y ∈ jl_T) (hsel : Cond.selects y.cls y y ∈ jl_T) {k ci : Nat} {T : u_T} {M : Nat} {fs : List Value} (hc : jl_cl[ci]? = some (y.cls, T, M)) (hk : k < N) (hE : E k = .inr (ci, fs)) {As rest : List Value}
    (hC : ∀ l, jl_CP l K sa y cc2 nL2 ret2 fr2 lo2 N ad (.ref (ad k) :: As) E post) (hfr : fr2 + 1 ≤ fr) (hlo : 8 + (nL2 + 11) + lo2 ≤ lo) (hn : As.length = na) (hst : st = As.reverse ++ .ref (ad k) :: rest) (hW : (rest.map fun v => v.category).sum ≤ 8) (hd : decode cc pc = .ok (.invokevirtual index, 3))
    (pc2 : Nat) (hpc : pc + 3 = pc2) (kk : ∀ v E2, post v E2 → jl_J x N ad cells slots E2 pc2 lc (v.toList ++ rest)) : jl_J x N ad cells slots E pc lc st := by
  subst hpc
  obtain ⟨p, l, e, R, s, m, args, below, meth, c, Q, D, A, nL⟩ := x
  intro H locs ls hl hP hS
  obtain ⟨hA, hpre⟩ := jl_pre h hP hS (.ref (ad k) :: As)
  have hts := h.2.2.2.2.2.1
  have cb : CallB R s args own index y cc2 nL2 ret2 (Cond.code y cc2 nL2 ret2 :: jl_T) ({ frames := fr2, cells := 0, slots := 0, locals := lo2 } : Room) 0 0 na := callB_of na hts (jl_goodIn hv.1) rfl rfl rfl (hts _ hv.2.1) (hts _ hv.2.2.1) ⟨hv.2.2.2.1, hv.2.2.2.2.1, hv.2.2.2.2.2⟩ ⟨Nat.le_trans hfr hr.1, Nat.le_trans hlo hr.2.1⟩
  exact jl_afterP (va_runV (As := As) (rest := rest) (b := ad k) (C := y.cls) ⟨h.1, h.2.1, h.2.2.2.1, h.2.2.2.2.1, hts⟩ (hC l D H.size) ⟨cb, hts _ hin, hts _ hsel⟩ ⟨jl_blind, va_recv h.2.2.2.2.2.2.1 hP hc (by rw [jl_get hk, hE]), hpre⟩ rfl hn hl.1 hst (lv_room hW) hd ⟨hr.2.2.1, hr.2.2.2⟩) hS hA hl kk
theorem jl_callSP (h : jl_ok x N ad K sa cc own n) {fr lo fr2 lo2 : Nat} (hr : jl_r x fr lo cells slots) {y : MethodName} {cc2 : ByteArray} {nL2 : Nat} {ret2 : Option FieldType} {index na : Nat} (hv : jl_v own index y cc2 nL2 ret2 na) (hin : Cond.static y ∈ jl_T) {As rest : List Value}
    (hC : ∀ l, jl_CP l K sa y cc2 nL2 ret2 fr2 lo2 N ad As E post) (hfr : fr2 + 1 ≤ fr) (hlo : 8 + (nL2 + 11) + lo2 ≤ lo) (hn : As.length = na) (hst : st = As.reverse ++ rest) (hW : (rest.map fun v => v.category).sum ≤ 8) (hd : decode cc pc = .ok (.invokestatic index, 3))
    (pc2 : Nat) (hpc : pc + 3 = pc2) (kk : ∀ v E2, post v E2 → jl_J x N ad cells slots E2 pc2 lc (v.toList ++ rest)) : jl_J x N ad cells slots E pc lc st := by
  subst hpc
  obtain ⟨p, l, e, R, s, m, args, below, meth, c, Q, D, A, nL⟩ := x
  intro H locs ls hl hP hS
  obtain ⟨hA, hpre⟩ := jl_pre h hP hS As
  have hts := h.2.2.2.2.2.1
  have cb : CallB R s args own index y cc2 nL2 ret2 (Cond.code y cc2 nL2 ret2 :: jl_T) ({ frames := fr2, cells := 0, slots := 0, locals := lo2 } : Room) 0 0 na := callB_of na hts (jl_goodIn hv.1) rfl rfl rfl (hts _ hv.2.1) (hts _ hv.2.2.1) ⟨hv.2.2.2.1, hv.2.2.2.2.1, hv.2.2.2.2.2⟩ ⟨Nat.le_trans hfr hr.1, Nat.le_trans hlo hr.2.1⟩
  exact jl_afterP (va_runS (As := As) (rest := rest) ⟨h.1, h.2.1, h.2.2.2.1, h.2.2.2.2.1, hts⟩ (hC l D H.size) ⟨cb, hts _ hin⟩ ⟨jl_blind, hpre⟩ rfl hn hl.1 hst (lv_room hW) hd ⟨hr.2.2.1, hr.2.2.2⟩) hS hA hl kk
/-- contents of int arrays matter up to the length alone -/
def jl_eqE (a c : va_E) : Prop := a = c ∨ ∃ (cA : ClassId) (len : Nat) (f g : Nat → Int32), a = .inl (cA, len, .inl f) ∧ c = .inl (cA, len, .inl g) ∧ ∀ j, j < len → f j = g j
theorem jl_ofFn {len : Nat} {f g : Nat → Int32} (h : ∀ j, j < len → f j = g j) : arrSlots len f = arrSlots len g := by
  unfold arrSlots
  congr 1
  funext j
  rw [h j.val j.isLt]
theorem jl_at_eq {D : va_G} {a : Nat} {e1 e2 : va_E} {H : Heap} (h : jl_eqE e1 e2) (hP : va_at D jl_cl (a, e1) H) : va_at D jl_cl (a, e2) H := by
  rcases h with rfl | ⟨cA, len, f, g, rfl, rfl, hfg⟩
  · exact hP
  · have e : vp_cell cA (len, .inl f) = vp_cell cA (len, .inl g) := by
      show arrV cA len (fun j => .int (f j)) = arrV cA len (fun j => .int (g j))
      unfold arrV
      congr 2
      funext j
      show Value.int (f j.val) = Value.int (g j.val)
      rw [hfg j.val j.isLt]
    have h1 : H[a]? = some (vp_cell cA (len, .inl f)) := hP
    show H[a]? = some (vp_cell cA (len, .inl g))
    rw [← e]
    exact h1
theorem jl_norm {E2 : Nat → va_E} (hE : ∀ k, k < N → jl_eqE (E k) (E2 k)) (kk : jl_J x N ad cells slots E2 pc lc st) : jl_J x N ad cells slots E pc lc st := by
  obtain ⟨p, l, e, R, s, m, args, below, meth, c, Q, D, A, nL⟩ := x
  intro H locs ls hl hP hS
  refine kk H locs ls hl (fun k q hk => ?_) hS
  obtain ⟨h1, rfl⟩ := jl_at hk
  exact jl_at_eq (hE k h1) (hP k _ (jl_get h1))
/-- an array's contents in other words -/
theorem jl_normA {k : Nat} {cA : ClassId} {len : Nat} {f g : Nat → Int32} (hfg : ∀ j, j < len → f j = g j) (kk : jl_J x N ad cells slots (va_up E k (.inl (cA, len, .inl g))) pc lc st) : jl_J x N ad cells slots (va_up E k (.inl (cA, len, .inl f))) pc lc st := by
  refine jl_norm (fun j _ => ?_) kk
  by_cases h : j = k
  · subst h
    rw [va_up_self, va_up_self]
    exact Or.inr ⟨cA, len, f, g, rfl, rfl, hfg⟩
  · rw [va_up_ne _ _ h, va_up_ne _ _ h]
    exact Or.inl rfl
end JP
/-- the lengths of the int arrays, by their cells -/
def gw_len (k : Nat) : Nat := if k < 24 then 18 else if k < 151 then 19 else if k < 153 then 40 else if k < 161 then 18 else if k = 161 then 36 else if k = 163 then 20 else if k = 166 then 151 else if k = 167 then 2718 else 18
/-- a cell is an int array -/
def gw_i (k : Nat) : Bool := decide (k ≠ 0) && decide (k ≠ 1) && decide (k ≠ 3) && decide (k ≠ 4) && decide (k ≠ 5) && decide (k ≠ 24) && decide (k ≠ 44) && decide (k ≠ 64) && decide (k ≠ 65) && decide (k ≠ 85) && decide (k ≠ 86) && decide (k ≠ 106) && decide (k ≠ 107) && decide (k ≠ 127) && decide (k ≠ 128) && decide (k ≠ 148) && decide (k ≠ 149) && decide (k ≠ 150) && decide (k ≠ 153) && decide (k ≠ 156) && decide (k ≠ 159) && decide (k ≠ 160)
/-- the world: cell 0 the object, 1 to 159 its parts, 160 the reference, 161 to 167 its arrays. I: the int fields by number (0 size; 1 count, 2 tooMany, 3 limit; 4 openCount, 5 length, 6 pairs of the first structure, 7 8 9 of the second; 10 typedCount; the reference's 11 n, 12 typed, 13 known, 14 least, 15 most, 16 ways, 17 listed); V: the int arrays by cell; L: keys; C: typed; G: the cells of structure and draft; R: the cells of regions -/
def gw (K : Nat → ClassId) (ad : Nat → Nat) (I : Nat → Int32) (V : Nat → Nat → Int32) (L : Nat → Int64) (C : Nat → Int32) (G : Nat → Nat) (R : Nat → Nat) : Nat → va_E := fun k =>
  if k = 0 then .inr (0, [.ref (ad 1), .ref (ad 4), .ref (ad 148), .ref (ad 159), .int (I 10), .ref (ad (G 0)), .ref (ad (G 1))]) else
  if k = 1 then .inr (1, [.ref (ad 2), .int (I 0)]) else
  if k = 3 then .inr (2, [.ref (ad 1)]) else
  if k = 4 then .inr (3, [.ref (ad 64), .ref (ad 127), .ref (ad 5), .ref (ad 106), .ref (ad 85), .ref (ad 24), .ref (ad 44), .ref (ad 1), .ref (ad 3)]) else
  if k = 5 then .inl (K 4, 18, .inr (.inr (.inr (.inr (fun i => if i < 18 then some (ad (6 + i)) else none))))) else
  if k = 24 then .inl (K 4, 19, .inr (.inr (.inr (.inr (fun i => if i < 19 then some (ad (25 + i)) else none))))) else
  if k = 44 then .inl (K 4, 19, .inr (.inr (.inr (.inr (fun i => if i < 19 then some (ad (45 + i)) else none))))) else
  if k = 64 then .inr (4, [.int (nI 0), .int (nI 0), .ref (ad 65), .null]) else
  if k = 65 then .inl (K 4, 19, .inr (.inr (.inr (.inr (fun i => if i < 19 then some (ad (66 + i)) else none))))) else
  if k = 85 then .inr (4, [.int (nI 1), .int (nI 4), .ref (ad 86), .null]) else
  if k = 86 then .inl (K 4, 19, .inr (.inr (.inr (.inr (fun i => if i < 19 then some (ad (87 + i)) else none))))) else
  if k = 106 then .inr (4, [.int (nI 1), .int (nI 4), .ref (ad 107), .ref (ad 85)]) else
  if k = 107 then .inl (K 4, 19, .inr (.inr (.inr (.inr (fun i => if i < 19 then some (ad (108 + i)) else none))))) else
  if k = 127 then .inr (4, [.int (nI 1), .int (nI 4), .ref (ad 128), .ref (ad 106)]) else
  if k = 128 then .inl (K 4, 19, .inr (.inr (.inr (.inr (fun i => if i < 19 then some (ad (129 + i)) else none))))) else
  if k = 148 then .inr (5, [.ref (ad 149), .int (I 1), .int (I 2), .int (I 3), .ref (ad 150), .ref (ad 151), .ref (ad 152), .ref (ad 1), .ref (ad 3), .ref (ad 4)]) else
  if k = 149 then .inl (K 2, 150, .inr (.inl L)) else
  if k = 150 then .inl (K 3, 40, .inr (.inr (.inr (.inr (fun i => some (ad (R i))))))) else
  if k = 153 then .inr (6, [.ref (ad 154), .ref (ad 155), .int (I 4), .int (I 5), .int (I 6), .ref (ad 1), .ref (ad 3)]) else
  if k = 156 then .inr (6, [.ref (ad 157), .ref (ad 158), .int (I 7), .int (I 8), .int (I 9), .ref (ad 1), .ref (ad 3)]) else
  if k = 159 then .inl (K 1, 20, .inl C) else
  if k = 160 then .inr (7, [.ref (ad 161), .int (I 11), .ref (ad 162), .int (I 12), .ref (ad 163), .ref (ad 164), .ref (ad 165), .int (I 13), .int (I 14), .int (I 15), .int (I 16), .int (I 17), .ref (ad 166), .ref (ad 167)]) else
  .inl (K 0, gw_len k, .inl (V k))
section GW
variable {K : Nat → ClassId} {ad : Nat → Nat} {I : Nat → Int32} {V : Nat → Nat → Int32} {L : Nat → Int64} {C : Nat → Int32} {G : Nat → Nat} {R : Nat → Nat}
theorem gw_int {k : Nat} (h : gw_i k = true) : gw K ad I V L C G R k = .inl (K 0, gw_len k, .inl (V k)) := by
  unfold gw_i at h
  simp only [Bool.and_eq_true, decide_eq_true_eq] at h
  simp only [gw, h, if_false]
theorem gw_setV {k : Nat} (h : gw_i k = true) (f : Nat → Int32) : va_up (gw K ad I V L C G R) k (.inl (K 0, gw_len k, .inl f)) = gw K ad I (va_up V k f) L C G R := by
  funext j
  by_cases hj : j = k
  · subst hj
    rw [va_up_self, gw_int h, va_up_self]
  · rw [va_up_ne _ _ hj]
    simp only [gw, va_up_ne _ _ hj]
theorem gw_set_size (z : Int32) : va_up (gw K ad I V L C G R) 1 (.inr (1, [.ref (ad 2), .int z])) = gw K ad (va_up I 0 z) V L C G R := by
  funext j
  by_cases hj : j = 1
  · subst hj
    rfl
  · rw [va_up_ne _ _ hj]
    simp only [gw, if_neg hj]
    all_goals rfl
theorem gw_set_count (z : Int32) : va_up (gw K ad I V L C G R) 148 (.inr (5, [.ref (ad 149), .int z, .int (I 2), .int (I 3), .ref (ad 150), .ref (ad 151), .ref (ad 152), .ref (ad 1), .ref (ad 3), .ref (ad 4)])) = gw K ad (va_up I 1 z) V L C G R := by
  funext j
  by_cases hj : j = 148
  · subst hj
    rfl
  · rw [va_up_ne _ _ hj]
    simp only [gw, if_neg hj]
    all_goals rfl
theorem gw_set_tooMany (z : Int32) : va_up (gw K ad I V L C G R) 148 (.inr (5, [.ref (ad 149), .int (I 1), .int z, .int (I 3), .ref (ad 150), .ref (ad 151), .ref (ad 152), .ref (ad 1), .ref (ad 3), .ref (ad 4)])) = gw K ad (va_up I 2 z) V L C G R := by
  funext j
  by_cases hj : j = 148
  · subst hj
    rfl
  · rw [va_up_ne _ _ hj]
    simp only [gw, if_neg hj]
    all_goals rfl
theorem gw_set_limit (z : Int32) : va_up (gw K ad I V L C G R) 148 (.inr (5, [.ref (ad 149), .int (I 1), .int (I 2), .int z, .ref (ad 150), .ref (ad 151), .ref (ad 152), .ref (ad 1), .ref (ad 3), .ref (ad 4)])) = gw K ad (va_up I 3 z) V L C G R := by
  funext j
  by_cases hj : j = 148
  · subst hj
    rfl
  · rw [va_up_ne _ _ hj]
    simp only [gw, if_neg hj]
    all_goals rfl
theorem gw_set_oc1 (z : Int32) : va_up (gw K ad I V L C G R) 153 (.inr (6, [.ref (ad 154), .ref (ad 155), .int z, .int (I 5), .int (I 6), .ref (ad 1), .ref (ad 3)])) = gw K ad (va_up I 4 z) V L C G R := by
  funext j
  by_cases hj : j = 153
  · subst hj
    rfl
  · rw [va_up_ne _ _ hj]
    simp only [gw, if_neg hj]
    all_goals rfl
theorem gw_set_len1 (z : Int32) : va_up (gw K ad I V L C G R) 153 (.inr (6, [.ref (ad 154), .ref (ad 155), .int (I 4), .int z, .int (I 6), .ref (ad 1), .ref (ad 3)])) = gw K ad (va_up I 5 z) V L C G R := by
  funext j
  by_cases hj : j = 153
  · subst hj
    rfl
  · rw [va_up_ne _ _ hj]
    simp only [gw, if_neg hj]
    all_goals rfl
theorem gw_set_prs1 (z : Int32) : va_up (gw K ad I V L C G R) 153 (.inr (6, [.ref (ad 154), .ref (ad 155), .int (I 4), .int (I 5), .int z, .ref (ad 1), .ref (ad 3)])) = gw K ad (va_up I 6 z) V L C G R := by
  funext j
  by_cases hj : j = 153
  · subst hj
    rfl
  · rw [va_up_ne _ _ hj]
    simp only [gw, if_neg hj]
    all_goals rfl
theorem gw_set_oc2 (z : Int32) : va_up (gw K ad I V L C G R) 156 (.inr (6, [.ref (ad 157), .ref (ad 158), .int z, .int (I 8), .int (I 9), .ref (ad 1), .ref (ad 3)])) = gw K ad (va_up I 7 z) V L C G R := by
  funext j
  by_cases hj : j = 156
  · subst hj
    rfl
  · rw [va_up_ne _ _ hj]
    simp only [gw, if_neg hj]
    all_goals rfl
theorem gw_set_len2 (z : Int32) : va_up (gw K ad I V L C G R) 156 (.inr (6, [.ref (ad 157), .ref (ad 158), .int (I 7), .int z, .int (I 9), .ref (ad 1), .ref (ad 3)])) = gw K ad (va_up I 8 z) V L C G R := by
  funext j
  by_cases hj : j = 156
  · subst hj
    rfl
  · rw [va_up_ne _ _ hj]
    simp only [gw, if_neg hj]
    all_goals rfl
theorem gw_set_prs2 (z : Int32) : va_up (gw K ad I V L C G R) 156 (.inr (6, [.ref (ad 157), .ref (ad 158), .int (I 7), .int (I 8), .int z, .ref (ad 1), .ref (ad 3)])) = gw K ad (va_up I 9 z) V L C G R := by
  funext j
  by_cases hj : j = 156
  · subst hj
    rfl
  · rw [va_up_ne _ _ hj]
    simp only [gw, if_neg hj]
    all_goals rfl
theorem gw_set_tc (z : Int32) : va_up (gw K ad I V L C G R) 0 (.inr (0, [.ref (ad 1), .ref (ad 4), .ref (ad 148), .ref (ad 159), .int z, .ref (ad (G 0)), .ref (ad (G 1))])) = gw K ad (va_up I 10 z) V L C G R := by
  funext j
  by_cases hj : j = 0
  · subst hj
    rfl
  · rw [va_up_ne _ _ hj]
    simp only [gw, if_neg hj]
    all_goals rfl
theorem gw_set_mn (z : Int32) : va_up (gw K ad I V L C G R) 160 (.inr (7, [.ref (ad 161), .int z, .ref (ad 162), .int (I 12), .ref (ad 163), .ref (ad 164), .ref (ad 165), .int (I 13), .int (I 14), .int (I 15), .int (I 16), .int (I 17), .ref (ad 166), .ref (ad 167)])) = gw K ad (va_up I 11 z) V L C G R := by
  funext j
  by_cases hj : j = 160
  · subst hj
    rfl
  · rw [va_up_ne _ _ hj]
    simp only [gw, if_neg hj]
    all_goals rfl
theorem gw_set_mtyped (z : Int32) : va_up (gw K ad I V L C G R) 160 (.inr (7, [.ref (ad 161), .int (I 11), .ref (ad 162), .int z, .ref (ad 163), .ref (ad 164), .ref (ad 165), .int (I 13), .int (I 14), .int (I 15), .int (I 16), .int (I 17), .ref (ad 166), .ref (ad 167)])) = gw K ad (va_up I 12 z) V L C G R := by
  funext j
  by_cases hj : j = 160
  · subst hj
    rfl
  · rw [va_up_ne _ _ hj]
    simp only [gw, if_neg hj]
    all_goals rfl
theorem gw_set_known (z : Int32) : va_up (gw K ad I V L C G R) 160 (.inr (7, [.ref (ad 161), .int (I 11), .ref (ad 162), .int (I 12), .ref (ad 163), .ref (ad 164), .ref (ad 165), .int z, .int (I 14), .int (I 15), .int (I 16), .int (I 17), .ref (ad 166), .ref (ad 167)])) = gw K ad (va_up I 13 z) V L C G R := by
  funext j
  by_cases hj : j = 160
  · subst hj
    rfl
  · rw [va_up_ne _ _ hj]
    simp only [gw, if_neg hj]
    all_goals rfl
theorem gw_set_mleast (z : Int32) : va_up (gw K ad I V L C G R) 160 (.inr (7, [.ref (ad 161), .int (I 11), .ref (ad 162), .int (I 12), .ref (ad 163), .ref (ad 164), .ref (ad 165), .int (I 13), .int z, .int (I 15), .int (I 16), .int (I 17), .ref (ad 166), .ref (ad 167)])) = gw K ad (va_up I 14 z) V L C G R := by
  funext j
  by_cases hj : j = 160
  · subst hj
    rfl
  · rw [va_up_ne _ _ hj]
    simp only [gw, if_neg hj]
    all_goals rfl
theorem gw_set_mmost (z : Int32) : va_up (gw K ad I V L C G R) 160 (.inr (7, [.ref (ad 161), .int (I 11), .ref (ad 162), .int (I 12), .ref (ad 163), .ref (ad 164), .ref (ad 165), .int (I 13), .int (I 14), .int z, .int (I 16), .int (I 17), .ref (ad 166), .ref (ad 167)])) = gw K ad (va_up I 15 z) V L C G R := by
  funext j
  by_cases hj : j = 160
  · subst hj
    rfl
  · rw [va_up_ne _ _ hj]
    simp only [gw, if_neg hj]
    all_goals rfl
theorem gw_set_mways (z : Int32) : va_up (gw K ad I V L C G R) 160 (.inr (7, [.ref (ad 161), .int (I 11), .ref (ad 162), .int (I 12), .ref (ad 163), .ref (ad 164), .ref (ad 165), .int (I 13), .int (I 14), .int (I 15), .int z, .int (I 17), .ref (ad 166), .ref (ad 167)])) = gw K ad (va_up I 16 z) V L C G R := by
  funext j
  by_cases hj : j = 160
  · subst hj
    rfl
  · rw [va_up_ne _ _ hj]
    simp only [gw, if_neg hj]
    all_goals rfl
theorem gw_set_mlisted (z : Int32) : va_up (gw K ad I V L C G R) 160 (.inr (7, [.ref (ad 161), .int (I 11), .ref (ad 162), .int (I 12), .ref (ad 163), .ref (ad 164), .ref (ad 165), .int (I 13), .int (I 14), .int (I 15), .int (I 16), .int z, .ref (ad 166), .ref (ad 167)])) = gw K ad (va_up I 17 z) V L C G R := by
  funext j
  by_cases hj : j = 160
  · subst hj
    rfl
  · rw [va_up_ne _ _ hj]
    simp only [gw, if_neg hj]
    all_goals rfl
theorem gw_set_L (f : Nat → Int64) : va_up (gw K ad I V L C G R) 149 (.inl (K 2, 150, .inr (.inl f))) = gw K ad I V f C G R := by
  funext j
  by_cases hj : j = 149
  · subst hj
    rfl
  · rw [va_up_ne _ _ hj]
    simp only [gw, if_neg hj]
    all_goals rfl
theorem gw_set_C (f : Nat → Int32) : va_up (gw K ad I V L C G R) 159 (.inl (K 1, 20, .inl f)) = gw K ad I V L f G R := by
  funext j
  by_cases hj : j = 159
  · subst hj
    rfl
  · rw [va_up_ne _ _ hj]
    simp only [gw, if_neg hj]
    all_goals rfl
theorem gw_set_R (f : Nat → Nat) : va_up (gw K ad I V L C G R) 150 (.inl (K 3, 40, .inr (.inr (.inr (.inr (fun i => some (ad (f i)))))))) = gw K ad I V L C G f := by
  funext j
  by_cases hj : j = 150
  · subst hj
    rfl
  · rw [va_up_ne _ _ hj]
    simp only [gw, if_neg hj]
    all_goals rfl
theorem gw_set_G0 (z : Nat) : va_up (gw K ad I V L C G R) 0 (.inr (0, [.ref (ad 1), .ref (ad 4), .ref (ad 148), .ref (ad 159), .int (I 10), .ref (ad z), .ref (ad (G 1))])) = gw K ad I V L C (va_up G 0 z) R := by
  funext j
  by_cases hj : j = 0
  · subst hj
    rfl
  · rw [va_up_ne _ _ hj]
    simp only [gw, if_neg hj]
    all_goals rfl
theorem gw_set_G1 (z : Nat) : va_up (gw K ad I V L C G R) 0 (.inr (0, [.ref (ad 1), .ref (ad 4), .ref (ad 148), .ref (ad 159), .int (I 10), .ref (ad (G 0)), .ref (ad z)])) = gw K ad I V L C (va_up G 1 z) R := by
  funext j
  by_cases hj : j = 0
  · subst hj
    rfl
  · rw [va_up_ne _ _ hj]
    simp only [gw, if_neg hj]
    all_goals rfl
theorem gw_i_6 : ∀ i, i < 18 → gw_i (6 + i) = true ∧ gw_len (6 + i) = 18 := by decide +kernel
theorem gw_i_25 : ∀ i, i < 19 → gw_i (25 + i) = true ∧ gw_len (25 + i) = 19 := by decide +kernel
theorem gw_i_45 : ∀ i, i < 19 → gw_i (45 + i) = true ∧ gw_len (45 + i) = 19 := by decide +kernel
theorem gw_i_66 : ∀ i, i < 19 → gw_i (66 + i) = true ∧ gw_len (66 + i) = 19 := by decide +kernel
theorem gw_i_87 : ∀ i, i < 19 → gw_i (87 + i) = true ∧ gw_len (87 + i) = 19 := by decide +kernel
theorem gw_i_108 : ∀ i, i < 19 → gw_i (108 + i) = true ∧ gw_len (108 + i) = 19 := by decide +kernel
theorem gw_i_129 : ∀ i, i < 19 → gw_i (129 + i) = true ∧ gw_len (129 + i) = 19 := by decide +kernel
end GW
