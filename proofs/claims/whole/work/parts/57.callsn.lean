/-! Arrays of arrays; calls of constructors. -/
theorem vr_out (c : ClassId) (N h0 : Nat) : ∀ i : Nat, Jvm.Free.Multi.outerC c N h0 i = arrV c N (fun j => va_rf (if j < i then some (h0 + 1 + j) else none))
  | 0 => by
    show ({ cls := c, slots := Array.replicate N .null, vm := .none } : Cell) = _
    rw [arrV_new]
    refine congrArg (arrV c N) (funext fun j => ?_)
    simp [va_rf]
  | i + 1 => by
    show (Jvm.Free.Multi.outerC c N h0 i).setSlot i (.ref (h0 + 1 + i)) = _
    rw [vr_out c N h0 i, arrV_store]
    refine congrArg (arrV c N) (funext fun j => ?_)
    by_cases e : j = i
    · subst e
      simp [updV, va_rf]
    · by_cases h : j < i
      · simp [updV, e, h, Nat.lt_succ_of_lt h]
      · simp [updV, e, h, show ¬ j < i + 1 by omega]
def jl_adM (ad : Nat → Nat) (N q : Nat) : Nat → Nat := fun k => if k < N then ad k else q + (k - N)
section JN3
variable {x : jl_X} {N : Nat} {ad : Nat → Nat} {K : Nat → ClassId} {sa : Nat → Nat} {cells slots : Nat} {cc : ByteArray} {own : String} {n : Nat} {E : Nat → va_E} {pc : Nat} {lc : List (Nat × Value)} {st : List Value}
theorem jl_okM {N2 : Nat} {ad2 : Nat → Nat} (h : jl_ok x N ad K sa cc own n) (hi : ∀ i j, i < N2 → j < N2 → ad2 i = ad2 j → i = j) (hA : ∀ p l en R s m args below meth c Q D A nL, x = (p, l, en, R, s, m, args, below, meth, c, Q, D, A, nL) → ∀ k, k < N2 → A (ad2 k)) : jl_ok x N2 ad2 K sa cc own n := by
  obtain ⟨p, l, en, R, s, m, args, below, meth, c, Q, D, A, nL⟩ := x
  obtain ⟨h1, h2, h3, h4, h5, h6, h7, h8, h9⟩ := h
  exact ⟨h1, h2, h3, h4, h5, h6, h7, ⟨hi, hA p l en R s m args below meth c Q D A nL rfl⟩, h9⟩
theorem jl_mna (h : jl_ok x N ad K sa cc own n) (hV : jl_xV x) {fr lo M : Nat} (hr : jl_r x fr lo (cells + (1 + M)) (slots + (M + M * M))) {index : Nat} (hw : Cond.classLink own index "[[I" ∈ jl_T) (ha : Cond.arrayClass .int ∈ jl_T) {z : Int32} (hz : ¬ z < 0) (hM : z.toNatClampNeg = M) (hb : M * 4 ≤ 536870912) (hd : decode cc pc = .ok (.multianewarray index 2, 4)) (pc2 : Nat) (hpc : pc + 4 = pc2)
    (G : (Nat → Nat) → Nat → va_E) (hG : ∀ ad2 : Nat → Nat, (∀ k, k < N → ad2 k = ad k) → ∀ k, k < N → G ad2 k = E k) (hG0 : ∀ ad2 : Nat → Nat, G ad2 N = .inl (K 4, M, .inr (.inr (.inr (.inr (fun i => if i < M then some (ad2 (N + 1 + i)) else none)))))) (hG1 : ∀ (ad2 : Nat → Nat) (i : Nat), i < M → G ad2 (N + 1 + i) = .inl (K 0, M, .inl (fun _ => 0)))
    (kk : ∀ ad2 : Nat → Nat, (∀ k, k < N → ad2 k = ad k) → jl_ok x (N + 1 + M) ad2 K sa cc own n → jl_J x (N + 1 + M) ad2 (cells + 1 + M) (slots + M + M * M) (G ad2) pc2 lc (.ref (ad2 N) :: st)) : jl_J x N ad cells slots E pc lc (.int z :: .int z :: st) := by
  subst hpc
  subst hM
  have h' := h
  obtain ⟨p, l, e, R, s, m, args, below, meth, c, Q, D, A, nL⟩ := x
  intro H locs ls hl hP hS
  intro T hT Xs
  obtain ⟨vm₁, cA, comp, -, fA, fC, hO, -, X', step⟩ := Xs.multianewarray2F (ty := .int) h.1 h.2.2.2.2.1 (h.2.2.2.2.2.1 _ hw) hV.2.1 (h.2.2.2.2.2.1 _ ha) (g := F0 m pc ls (.int z :: .int z :: st)) rfl (by rw [h.2.1]; exact hd) rfl hz hz hb hb (by omega) rfl rfl hr.2.2.1 hr.2.2.2
  have e4 : cA = K 4 := Option.some.inj (fA.symm.trans (h.2.2.2.2.2.2.1.2 4 (K 4, .array .int) rfl).2)
  have e0 : comp = K 0 := Option.some.inj (fC.symm.trans (h.2.2.2.2.2.2.1.2 0 (K 0, .int) rfl).2)
  subst e4
  subst e0
  generalize hF : Jvm.Free.Multi.fill (T.setVm vm₁) (K 4) (K 0) z.toNatClampNeg z.toNatClampNeg (defaultValue .int) z.toNatClampNeg = F at X' step
  have hTh : (T.setVm vm₁).heap = H := hT
  obtain ⟨f1, f2, -, -⟩ := Jvm.Free.Multi.fill_facts (T.setVm vm₁) (K 4) (K 0) z.toNatClampNeg z.toNatClampNeg (defaultValue .int) z.toNatClampNeg
  rw [hF, hTh] at f1 f2
  have hold : ∀ x : Nat, x < H.size → F.heap[x]? = H[x]? := fun x hx => by
    have := Jvm.Free.Multi.fill_old (T.setVm vm₁) (K 4) (K 0) z.toNatClampNeg z.toNatClampNeg (defaultValue .int) (a := x) (by rw [hTh]; exact hx) z.toNatClampNeg
    rw [hF, hTh] at this
    exact this
  have hrow : ∀ j : Nat, j < z.toNatClampNeg → F.heap[H.size + 1 + j]? = some (vp_cell (K 0) (z.toNatClampNeg, .inl (fun _ => 0))) := fun j hj => by
    have := Jvm.Free.Multi.fill_inner (T.setVm vm₁) (K 4) (K 0) z.toNatClampNeg z.toNatClampNeg (defaultValue .int) z.toNatClampNeg j hj
    rw [hF, hTh] at this
    rw [this]
    show some ({ cls := K 0, slots := Array.replicate z.toNatClampNeg (.int 0), vm := .none } : Cell) = some (arrV (K 0) z.toNatClampNeg (fun _ => .int 0))
    rw [arrV_new]
  have hold2 : ∀ k, k < N → ad k < H.size := fun k hk => (hP k _ (jl_get hk)).lt
  have hag : ∀ k, k < N → jl_adM ad N H.size k = ad k := fun k hk => if_pos hk
  have hnew : ∀ k, N ≤ k → jl_adM ad N H.size k = H.size + (k - N) := fun k hk => if_neg (by omega)
  have hout : Jvm.Free.Multi.outerC (K 4) z.toNatClampNeg H.size z.toNatClampNeg = vp_cell (K 4) (z.toNatClampNeg, .inr (.inr (.inr (.inr (fun i => if i < z.toNatClampNeg then some (jl_adM ad N H.size (N + 1 + i)) else none))))) := by
    rw [vp_cell_q, vr_out]
    refine congrArg (arrV (K 4) z.toNatClampNeg) (funext fun j => ?_)
    rw [hnew _ (by omega), show H.size + (N + 1 + j - N) = H.size + 1 + j by omega]
  rw [hout] at f2
  have hok : jl_ok (p, l, e, R, s, m, args, below, meth, c, Q, D, A, nL) (N + 1 + z.toNatClampNeg) (jl_adM ad N H.size) K sa cc own n := by
    refine jl_okM h' (fun i j hi hj hij => ?_) (fun _ _ _ _ _ _ _ _ _ _ _ _ _ _ he k hk => ?_)
    · by_cases h1 : i < N <;> by_cases h2 : j < N
      · rw [hag i h1, hag j h2] at hij
        exact h.2.2.2.2.2.2.2.1.1 i j h1 h2 hij
      · rw [hag i h1, hnew j (by omega)] at hij
        have := hold2 i h1
        omega
      · rw [hag j h2, hnew i (by omega)] at hij
        have := hold2 j h2
        omega
      · rw [hnew i (by omega), hnew j (by omega)] at hij
        omega
    · cases he
      by_cases h1 : k < N
      · rw [hag k h1]
        exact h.2.2.2.2.2.2.2.1.2 k h1
      · rw [hnew k (by omega)]
        exact h.2.2.2.2.2.2.2.2.1 _ (by have := hS.1; omega)
  have hP2 : va_P D jl_cl (jl_w (N + 1 + z.toNatClampNeg) (jl_adM ad N H.size) (G (jl_adM ad N H.size))) F.heap := fun k q hk => by
    obtain ⟨h1, rfl⟩ := jl_at hk
    by_cases h2 : k < N
    · rw [hG _ hag k h2, hag k h2]
      exact (hP k _ (jl_get h2)).kept (hold _ (hold2 k h2))
    · by_cases h3 : k = N
      · subst h3
        rw [hG0, hnew k (Nat.le_refl _), Nat.sub_self]
        exact f2
      · have h4 := hG1 (jl_adM ad N H.size) (k - (N + 1)) (by omega)
        rw [show N + 1 + (k - (N + 1)) = k by omega] at h4
        rw [h4, hnew k (by omega), show H.size + (k - N) = H.size + 1 + (k - (N + 1)) by omega]
        exact hrow _ (by omega)
  obtain ⟨t, a1, b1⟩ := kk (jl_adM ad N H.size) hag hok F.heap locs ls hl hP2 ⟨by rw [f1]; have := hS.1; omega, fun x h1 h2 => (hold x (Nat.lt_of_lt_of_le h1 hS.1)).trans (hS.2.1 x h1 h2), hS.2.2⟩ F rfl X'
  refine ⟨t, step t ?_, b1⟩
  have e : T.heap.size = H.size := by rw [hT]
  rw [hnew N (Nat.le_refl _), Nat.sub_self] at a1
  rw [e]
  exact a1
theorem jl_blindN {K : Nat → ClassId} {sa : Nat → Nat} {D : va_G} {sz : Nat} {av : List Value} : FrameBlind (fun a U => jl_P K sa D N ad E sz av a U ∧ jl_V U) := by
  intro a U g mk q
  exact ⟨jl_blind a U g mk q.1, jl_V.same rfl q.2⟩
theorem jl_afterN {p : Program} {l : Launch} {e : Env} {R : Room} {s : State} {m : MethodId} {args : Array Value} {below : List Frame} {meth : Method} {c : Code} {Q : State → Prop} {D : va_G} {A : Nat → Prop} {nL mc ms N2 : Nat} {F : (Nat → Nat) → Nat → va_E} {H : Heap} {locs : List Loc} {ls : Array Slot} {rest : List Value} {a : Array Value}
    (hrun : va_Run p l e R s m args below meth c H locs cells slots mc ms (F0 m pc ls st) rest (jl_QN N2 F D N ad H.size (jl_A N ad H.size) a) (jl_A N ad H.size)) (h : jl_ok (p, l, e, R, s, m, args, below, meth, c, Q, D, A, nL) N ad K sa cc own n) (hS : va_S A s.heap H locs) (hA : ∀ q, jl_A N ad H.size q → A q) (hl : lv_has ls nL lc)
    (kk : ∀ ad2 : Nat → Nat, (∀ k, k < N → ad2 k = ad k) → jl_ok (p, l, e, R, s, m, args, below, meth, c, Q, D, A, nL) N2 ad2 K sa cc own n → jl_J (p, l, e, R, s, m, args, below, meth, c, Q, D, A, nL) N2 ad2 (cells + mc) (slots + ms) (F ad2) (pc + 3) lc rest) : W p l e R s m args below meth c H locs cells slots Q (F0 m pc ls st) := by
  intro T hT X
  obtain ⟨v, st₀, t, T', L, h0, X', hL, e1, e2, ⟨⟨ad2, hv, hag, hi, hz2, hP'⟩, hz, hk⟩, stp⟩ := hrun T hT X
  cases hv
  rw [h0] at hz hk
  have hok := jl_okM (N2 := N2) (ad2 := ad2) h hi (fun _ _ _ _ _ _ _ _ _ _ _ _ _ _ he k hk2 => by
    cases he
    by_cases h1 : k < N
    · rw [hag k h1]
      exact h.2.2.2.2.2.2.2.1.2 k h1
    · exact hA _ (Or.inr (hz2 k (by omega) hk2)))
  obtain ⟨t2, a1, b1⟩ := kk ad2 hag hok T'.heap (locs ++ L) ls hl (by rw [e1]; exact hP')
    ⟨Nat.le_trans hS.1 (by rw [e1]; exact hz), fun q h1 h2 => by rw [e1, hk q (Nat.lt_of_lt_of_le h1 hS.1) (fun z => h2 (hA q z))]; exact hS.2.1 q h1 h2, fun q hq => by
      rcases List.mem_append.mp hq with h | h
      · exact hS.2.2 q h
      · exact hA _ (hL q h)⟩ T' rfl X'
  exact ⟨t2, stp t2 a1, b1⟩
theorem jl_callN (h : jl_ok x N ad K sa cc own n) (hV : jl_xV x) {fr lo fr2 lo2 mc ms N2 : Nat} {F : (Nat → Nat) → Nat → va_E} (hr : jl_r x fr lo (cells + mc) (slots + ms)) {y : MethodName} {cc2 : ByteArray} {nL2 : Nat} {index na : Nat} (hv : jl_v own index y cc2 nL2 none na) (hyn : y.name = "<init>") (hin : Cond.instanceMethod y ∈ jl_T) {a : Nat} {As rest : List Value}
    (hC : ∀ l, jl_CN l K sa y cc2 nL2 fr2 lo2 mc ms N ad (.ref a :: As) E N2 F) (hfr : fr2 + 1 ≤ fr) (hlo : 8 + (nL2 + 11) + lo2 ≤ lo) (hn : As.length = na) (hst : st = As.reverse ++ .ref a :: rest) (hW : (rest.map fun v => v.category).sum ≤ 8) (hd : decode cc pc = .ok (.invokespecial index, 3))
    (pc2 : Nat) (hpc : pc + 3 = pc2) (kk : ∀ ad2 : Nat → Nat, (∀ k, k < N → ad2 k = ad k) → jl_ok x N2 ad2 K sa cc own n → jl_J x N2 ad2 (cells + mc) (slots + ms) (F ad2) pc2 lc rest) : jl_J x N ad cells slots E pc lc st := by
  subst hpc
  obtain ⟨p, l, e, R, s, m, args, below, meth, c, Q, D, A, nL⟩ := x
  intro H locs ls hl hP hS
  obtain ⟨hA, hpre⟩ := jl_pre h hP hS (.ref a :: As)
  have hts := h.2.2.2.2.2.1
  have cb : CallB R s args own index y cc2 nL2 none (Cond.code y cc2 nL2 none :: jl_T) ({ frames := fr2, cells := mc, slots := ms, locals := lo2 } : Room) mc ms na := callB_of na hts (jl_goodIn hv.1) rfl rfl rfl (hts _ hv.2.1) (hts _ hv.2.2.1) ⟨hv.2.2.2.1, hv.2.2.2.2.1, hv.2.2.2.2.2⟩ ⟨Nat.le_trans hfr hr.1, Nat.le_trans hlo hr.2.1⟩
  exact jl_afterN (va_runI (As := As) (rest := rest) (b := a) ⟨h.1, h.2.1, h.2.2.2.1, h.2.2.2.2.1, hts⟩ (hC l D H.size) ⟨cb, hyn, hts _ hin⟩ ⟨jl_blindN, fun U hU hW => ⟨hpre U hU hW, jl_V.warm hW hV⟩⟩ rfl hn hl.1 hst (lv_room hW) hd ⟨hr.2.2.1, hr.2.2.2⟩) h hS hA hl kk
/-- the one call of a private constructor -/
theorem jl_callNN (h : jl_ok x N ad K sa cc "FoldedStrand" n) (hV : jl_xV x) {fr lo fr2 lo2 mc ms N2 : Nat} {F : (Nat → Nat) → Nat → va_E} (hr : jl_r x fr lo (cells + mc) (slots + ms)) {y : MethodName} (hy : y = ⟨"FoldedStrand$Strand", "<init>", "()V"⟩) {cc2 : ByteArray} {nL2 : Nat} (hcode : Cond.code y cc2 nL2 none ∈ jl_T) (hini : Cond.initialized y.cls ∈ jl_T) (hin : Cond.instanceMethod y ∈ jl_T) {a : Nat} {rest : List Value}
    (hC : ∀ l, jl_CN l K sa y cc2 nL2 fr2 lo2 mc ms N ad [.ref a] E N2 F) (hfr : fr2 + 1 ≤ fr) (hlo : 8 + (nL2 + 11) + lo2 ≤ lo) (hst : st = .ref a :: rest) (hW : (rest.map fun v => v.category).sum ≤ 8) (hd : decode cc pc = .ok (.invokespecial 9, 3))
    (pc2 : Nat) (hpc : pc + 3 = pc2) (kk : ∀ ad2 : Nat → Nat, (∀ k, k < N → ad2 k = ad k) → jl_ok x N2 ad2 K sa cc "FoldedStrand" n → jl_J x N2 ad2 (cells + mc) (slots + ms) (F ad2) pc2 lc rest) : jl_J x N ad cells slots E pc lc st := by
  subst hpc
  obtain ⟨p, l, e, R, s, m, args, below, meth, c, Q, D, A, nL⟩ := x
  intro H locs ls hl hP hS
  obtain ⟨hA, hpre⟩ := jl_pre h hP hS [.ref a]
  have hts := h.2.2.2.2.2.1
  have cb : va_CN R s args "FoldedStrand" 9 y "FoldedStrand" cc2 nL2 none (Cond.code y cc2 nL2 none :: jl_T) ({ frames := fr2, cells := mc, slots := ms, locals := lo2 } : Room) mc ms 0 := va_cnB 0 hts (jl_goodIn hcode) rfl rfl rfl (by rw [hy]; exact hV.2.2) (hts _ hini) (by rw [hy]; decide +kernel) ⟨Nat.le_trans hfr hr.1, Nat.le_trans hlo hr.2.1⟩
  exact jl_afterN (va_runIN (As := []) (rest := rest) (b := a) ⟨h.1, h.2.1, h.2.2.2.1, h.2.2.2.2.1, hts⟩ (hC l D H.size) ⟨cb, by rw [hy], hts _ hin⟩ ⟨jl_blindN, fun U hU hW => ⟨hpre U hU hW, jl_V.warm hW hV⟩⟩ rfl rfl hl.1 hst (lv_room hW) hd ⟨hr.2.2.1, hr.2.2.2⟩) h hS hA hl kk
end JN3

