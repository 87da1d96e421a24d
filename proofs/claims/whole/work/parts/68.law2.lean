/-! The law from its entry. -/
theorem jl_r.lo {x : jl_X} {a b c d fr lo : Nat} (h : jl_r x a b c d) (h1 : fr ≤ a) (h2 : lo ≤ b) : jl_r x fr lo c d := by
  obtain ⟨p, l, e, R, s, m, args, below, meth, c, Q, D, A, nL⟩ := x
  exact ⟨Nat.le_trans h1 h.1, Nat.le_trans h2 h.2.1, h.2.2.1, h.2.2.2⟩
theorem lw_tb {w : Cond} (i : Nat) (h : tables_1[i]? = some w) : w ∈ lw_tbl := List.mem_append_right _ (List.mem_of_getElem? h)
section LAW
variable {x : jl_X} {ad : Nat → Nat} {K : Nat → ClassId} {sa : Nat → Nat} {b L : Nat} {xs : Nat → Int32}
theorem lw_run (h : jl_ok x 0 ad K sa bc_LW_law "FoldedStrandLaw" 4) (hxV : jl_xV x) (hr : jl_r x 2048 84000 600000 7302250) (hT : jl_xT x b L xs) (hL : L ≤ 1536) (hend : ∀ (N : Nat) (ad : Nat → Nat) (cells slots : Nat), cells ≤ 600000 → slots ≤ 7302250 → ∀ (E : Nat → va_E) (lc : List (Nat × Value)), jl_J x N ad cells slots E 386 lc []) : jl_J x 0 ad 0 0 (gu K ad (fun _ _ => 0) (fun _ => none)) 0 [(0, .ref b)] [] := by
  refine jl_newu (fs := [.null, .null, .null, .null, .int 0, .null, .null]) h (hr.le (by decide) (by decide)) nm_c_FS wn_LW_7 nf_FS [] trivial (by decide) dc_LW_law_0 3 rfl (fun ad2 hag h => ?_)
  refine jl_dup h rfl dc_LW_law_3 4 rfl ?_
  refine jl_callN (As := []) (rest := [_]) h hxV (hr.le (by decide) (by decide)) vs_LW_9 rfl vi_FS_init (fun l => c_FS_init l) (by omega) (by omega) rfl rfl (Nat.le_of_ble_eq_true rfl) dc_LW_law_4 7 rfl (fun ad2 hag h => ?_)
  simp only [← hag 0 (by decide)]
  refine jl_astore_n (i := 1) (lc2 := [(1, _), (0, _)]) h rfl (by decide) rfl dc_LW_law_7 8 rfl ?_
  show jl_J x 160 ad2 _ _ (gu K ad2 vz (fun _ => none)) _ _ _
  refine jl_newu (fs := [.null, .int 0, .null, .int 0, .null, .null, .null, .int 0, .int 0, .int 0, .int 0, .int 0, .null, .null]) h (hr.le (by decide) (by decide)) nm_c_MO wn_LW_10 nf_MO [] trivial (by decide +kernel) dc_LW_law_8 11 rfl (fun ad2 hag h => ?_)
  simp only [← hag 0 (by decide)]
  refine jl_dup h rfl dc_LW_law_11 12 rfl ?_
  refine jl_callN (As := []) (rest := [_]) h hxV (hr.le (by decide) (by decide)) vs_LW_12 rfl vi_MO_init (fun l => c_MO_init l) (by omega) (by omega) rfl rfl (Nat.le_of_ble_eq_true rfl) dc_LW_law_12 15 rfl (fun ad2 hag h => ?_)
  simp only [← hag 0 (by decide), ← hag 160 (by decide)]
  refine jl_astore_n (i := 2) (lc2 := [(2, _), (1, _), (0, _)]) h rfl (by decide) rfl dc_LW_law_15 16 rfl ?_
  refine jl_iconst (v := nI 0) h (by decide) dc_LW_law_16 17 rfl ?_
  refine jl_istore_n (i := 3) (lc2 := [(3, _), (2, _), (1, _), (0, _)]) h rfl (by decide) rfl dc_LW_law_17 18 rfl ?_
  exact lw_loop h ((hr.le (by decide) (by decide)).lo (by decide) (by decide)) hT hL (hend _ _ _ _ (by decide) (by decide)) L 0 (by omega) (by omega) _ ⟨zI, vzm, _, _, _, _, _, _, _, _, _, _, _, rfl, sim0⟩
end LAW
theorem lw_K {s : State} {args : Array Value} (hts : ∀ w ∈ lw_tbl, w.before args s = true) : ∃ (D : va_G) (K : Nat → ClassId), va_K D jl_cl (jl_tys K) s := by
  have hj : ∀ w ∈ jl_T, w.before args s = true := fun w hw => hts w (List.mem_filter.mp hw).1
  obtain ⟨c0, i0, k0⟩ := u_known (C := "FoldedStrand") (T := nm_F_FS) (N := 7) (n := 7) hj nm_w_FS (hts _ (lw_tb 12 (by decide +kernel)))
  obtain ⟨c1, i1, k1⟩ := u_known (C := "FoldedStrand$Strand") (T := nm_F_ST) (N := 2) (n := 2) hj nm_w_ST (hts _ (lw_tb 20 (by decide +kernel)))
  obtain ⟨c2, i2, k2⟩ := u_known (C := "FoldedStrand$Loops") (T := nm_F_LO) (N := 1) (n := 1) hj nm_w_LO (hts _ (lw_tb 34 (by decide +kernel)))
  obtain ⟨c3, i3, k3⟩ := u_known (C := "FoldedStrand$Folds") (T := nm_F_FO) (N := 9) (n := 9) hj nm_w_FO (hts _ (lw_tb 44 (by decide +kernel)))
  obtain ⟨c4, i4, k4⟩ := u_known (C := "FoldedStrand$Region") (T := nm_F_RE) (N := 4) (n := 4) hj nm_w_RE (hts _ (lw_tb 52 (by decide +kernel)))
  obtain ⟨c5, i5, k5⟩ := u_known (C := "FoldedStrand$NearList") (T := nm_F_NL) (N := 10) (n := 10) hj nm_w_NL (hts _ (lw_tb 109 (by decide +kernel)))
  obtain ⟨c6, i6, k6⟩ := u_known (C := "FoldedStrand$Structure") (T := nm_F_SR) (N := 7) (n := 7) hj nm_w_SR (hts _ (lw_tb 149 (by decide +kernel)))
  obtain ⟨c7, i7, k7⟩ := u_known (C := "FoldedStrandModel") (T := nm_F_MO) (N := 14) (n := 14) hj nm_w_MO (hts _ (lw_tb 506 (by decide +kernel)))
  obtain ⟨a_int, b_int, d_int, e_int, f_int, g_int⟩ := Cond.arrayClass_spec (hts (.arrayClass .int) (lw_tb 32 (by decide +kernel)))
  obtain ⟨a_char, b_char, d_char, e_char, f_char, g_char⟩ := Cond.arrayClass_spec (hts (.arrayClass .char) (lw_tb 205 (by decide +kernel)))
  obtain ⟨a_long, b_long, d_long, e_long, f_long, g_long⟩ := Cond.arrayClass_spec (hts (.arrayClass .long) (lw_tb 147 (by decide +kernel)))
  obtain ⟨r1, r2, r3, r4, -, r5, r6, r7⟩ := Cond.arrayOver_spec (hts (.arrayOver (.object "FoldedStrand$Region")) (lw_tb 115 (by decide +kernel)))
  obtain ⟨q1, q2, q3, q4, q5, q6, q7⟩ := Cond.arrayOver_specA (hts (.arrayOver (.array .int)) (lw_tb 50 (by decide +kernel)))
  refine ⟨(fun c => match c with | 0 => c0 | 1 => c1 | 2 => c2 | 3 => c3 | 4 => c4 | 5 => c5 | 6 => c6 | _ => c7, fun c => match c with | 0 => i0 | 1 => i1 | 2 => i2 | 3 => i3 | 4 => i4 | 5 => i5 | 6 => i6 | _ => i7), fun k => match k with | 0 => a_int | 1 => a_char | 2 => a_long | 3 => r2 | _ => q2, fun c q hq => ?_, fun k q hq => ?_⟩
  · match c, hq with
    | 0, hq => cases hq; exact k0
    | 1, hq => cases hq; exact k1
    | 2, hq => cases hq; exact k2
    | 3, hq => cases hq; exact k3
    | 4, hq => cases hq; exact k4
    | 5, hq => cases hq; exact k5
    | 6, hq => cases hq; exact k6
    | 7, hq => cases hq; exact k7
    | (c + 8), hq => cases hq
  · match k, hq with
    | 0, hq => cases hq; exact ⟨fun _ _ => ⟨(fun k h => by cases h), b_int, f_int, d_int, g_int⟩, e_int⟩
    | 1, hq => cases hq; exact ⟨fun _ _ => ⟨(fun k h => by cases h), b_char, f_char, d_char, g_char⟩, e_char⟩
    | 2, hq => cases hq; exact ⟨fun _ _ => ⟨(fun k h => by cases h), b_long, f_long, d_long, g_long⟩, e_long⟩
    | 3, hq => cases hq; exact ⟨fun _ _ => ⟨(fun k h => by cases h), r3, r5, r1, r6⟩, r3, r1, r5, r6, r4, r7⟩
    | 4, hq => cases hq; exact ⟨fun _ _ => ⟨(fun k h => by cases h), q3, q5, q1, q6⟩, q7⟩
    | (k + 5), hq => cases hq
theorem lw_V {s : State} {args : Array Value} (hts : ∀ w ∈ lw_tbl, w.before args s = true) : jl_V s := ⟨va_AO.of (hts (.arrayOver (.object "FoldedStrand$Region")) (lw_tb 115 (by decide +kernel))), hts (.arrayOver (.array .int)) (lw_tb 50 (by decide +kernel)), va_Nw.of rfl (hts (.methodLinkNest "FoldedStrand" 9 ⟨"FoldedStrand$Strand", "<init>", "()V"⟩ "FoldedStrand") (lw_tb 21 (by decide +kernel)))⟩
theorem lw_s0 {s : State} {args : Array Value} {A : Nat → Prop} (hts : ∀ w ∈ lw_tbl, w.before args s = true) (hs : ∀ c ∈ flatC (Jvm.Cond.and given_1 narrow_1), c.before args s = true) (hA : ∀ a : Nat, a < s.heap.size → ¬ A a) : ∃ t : Nat, jl_S1 "FoldedStrand$Strand" "LETTERS" "[C" .char t nm_s0 A s s.heap := by
  have hm : ∀ j, j < 4 → Cond.eq (.elem (.static "FoldedStrand$Strand" "LETTERS" "[C") (.int (Int32.ofNat j))) (.int (nm_s0.getD j 0)) ∈ flatC (Jvm.Cond.and given_1 narrow_1) := by decide +kernel
  obtain ⟨t, h1, h2⟩ := va_Tof (tm := (.static "FoldedStrand$Strand" "LETTERS" "[C")) (ty := .char) (N := 4) (f := fun j => .int (nm_s0.getD j 0)) (A := A) (by decide) (hs _ (by decide +kernel)) (va_eqt (hs _ (by decide +kernel))) (fun j hj => va_eqt (hs _ (hm j hj))) hA
  exact ⟨t, va_Zof (hts _ (lw_tb 218 (by decide +kernel))) (hts _ (lw_tb 2 (by decide +kernel))) h1 hA, h2⟩
theorem lw_s1 {s : State} {args : Array Value} {A : Nat → Prop} (hts : ∀ w ∈ lw_tbl, w.before args s = true) (hs : ∀ c ∈ flatC (Jvm.Cond.and given_1 narrow_1), c.before args s = true) (hA : ∀ a : Nat, a < s.heap.size → ¬ A a) : ∃ t : Nat, jl_S1 "FoldedStrand$Strand" "KINDS" "[I" .int t nm_s1 A s s.heap := by
  have hm : ∀ j, j < 16 → Cond.eq (.elem (.static "FoldedStrand$Strand" "KINDS" "[I") (.int (Int32.ofNat j))) (.int (nm_s1.getD j 0)) ∈ flatC (Jvm.Cond.and given_1 narrow_1) := by decide +kernel
  obtain ⟨t, h1, h2⟩ := va_Tof (tm := (.static "FoldedStrand$Strand" "KINDS" "[I")) (ty := .int) (N := 16) (f := fun j => .int (nm_s1.getD j 0)) (A := A) (by decide) (hs _ (by decide +kernel)) (va_eqt (hs _ (by decide +kernel))) (fun j hj => va_eqt (hs _ (hm j hj))) hA
  exact ⟨t, va_Zof (hts _ (lw_tb 236 (by decide +kernel))) (hts _ (lw_tb 2 (by decide +kernel))) h1 hA, h2⟩
theorem lw_s2 {s : State} {args : Array Value} {A : Nat → Prop} (hts : ∀ w ∈ lw_tbl, w.before args s = true) (hs : ∀ c ∈ flatC (Jvm.Cond.and given_1 narrow_1), c.before args s = true) (hA : ∀ a : Nat, a < s.heap.size → ¬ A a) : ∃ t : Nat, jl_S1 "FoldedStrand$Loops" "FIRM_HAIRPIN" "[C" .char t nm_s2 A s s.heap := by
  have hm : ∀ j, j < 6 → Cond.eq (.elem (.static "FoldedStrand$Loops" "FIRM_HAIRPIN" "[C") (.int (Int32.ofNat j))) (.int (nm_s2.getD j 0)) ∈ flatC (Jvm.Cond.and given_1 narrow_1) := by decide +kernel
  obtain ⟨t, h1, h2⟩ := va_Tof (tm := (.static "FoldedStrand$Loops" "FIRM_HAIRPIN" "[C")) (ty := .char) (N := 6) (f := fun j => .int (nm_s2.getD j 0)) (A := A) (by decide) (hs _ (by decide +kernel)) (va_eqt (hs _ (by decide +kernel))) (fun j hj => va_eqt (hs _ (hm j hj))) hA
  exact ⟨t, va_Zof (hts _ (lw_tb 246 (by decide +kernel))) (hts _ (lw_tb 3 (by decide +kernel))) h1 hA, h2⟩
theorem lw_s3 {s : State} {args : Array Value} {A : Nat → Prop} (hts : ∀ w ∈ lw_tbl, w.before args s = true) (hs : ∀ c ∈ flatC (Jvm.Cond.and given_1 narrow_1), c.before args s = true) (hA : ∀ a : Nat, a < s.heap.size → ¬ A a) : ∃ t : Nat, jl_S1 "FoldedStrand$Loops" "HAIRPINS" "[I" .int t nm_s3 A s s.heap := by
  have hm : ∀ j, j < 6 → Cond.eq (.elem (.static "FoldedStrand$Loops" "HAIRPINS" "[I") (.int (Int32.ofNat j))) (.int (nm_s3.getD j 0)) ∈ flatC (Jvm.Cond.and given_1 narrow_1) := by decide +kernel
  obtain ⟨t, h1, h2⟩ := va_Tof (tm := (.static "FoldedStrand$Loops" "HAIRPINS" "[I")) (ty := .int) (N := 6) (f := fun j => .int (nm_s3.getD j 0)) (A := A) (by decide) (hs _ (by decide +kernel)) (va_eqt (hs _ (by decide +kernel))) (fun j hj => va_eqt (hs _ (hm j hj))) hA
  exact ⟨t, va_Zof (hts _ (lw_tb 252 (by decide +kernel))) (hts _ (lw_tb 3 (by decide +kernel))) h1 hA, h2⟩
theorem lw_s4 {s : State} {args : Array Value} {A : Nat → Prop} (hts : ∀ w ∈ lw_tbl, w.before args s = true) (hs : ∀ c ∈ flatC (Jvm.Cond.and given_1 narrow_1), c.before args s = true) (hA : ∀ a : Nat, a < s.heap.size → ¬ A a) : ∃ t : Nat, jl_S1 "FoldedStrand$Loops" "STACKS" "[I" .int t nm_s4 A s s.heap := by
  have hm : ∀ j, j < 36 → Cond.eq (.elem (.static "FoldedStrand$Loops" "STACKS" "[I") (.int (Int32.ofNat j))) (.int (nm_s4.getD j 0)) ∈ flatC (Jvm.Cond.and given_1 narrow_1) := by decide +kernel
  obtain ⟨t, h1, h2⟩ := va_Tof (tm := (.static "FoldedStrand$Loops" "STACKS" "[I")) (ty := .int) (N := 36) (f := fun j => .int (nm_s4.getD j 0)) (A := A) (by decide) (hs _ (by decide +kernel)) (va_eqt (hs _ (by decide +kernel))) (fun j hj => va_eqt (hs _ (hm j hj))) hA
  exact ⟨t, va_Zof (hts _ (lw_tb 277 (by decide +kernel))) (hts _ (lw_tb 3 (by decide +kernel))) h1 hA, h2⟩
theorem lw_s5 {s : State} {args : Array Value} {A : Nat → Prop} (hts : ∀ w ∈ lw_tbl, w.before args s = true) (hs : ∀ c ∈ flatC (Jvm.Cond.and given_1 narrow_1), c.before args s = true) (hA : ∀ a : Nat, a < s.heap.size → ¬ A a) : ∃ t : Nat, jl_S1 "FoldedStrand$Loops" "INTERIORS" "[I" .int t nm_s5 A s s.heap := by
  have hm : ∀ j, j < 4 → Cond.eq (.elem (.static "FoldedStrand$Loops" "INTERIORS" "[I") (.int (Int32.ofNat j))) (.int (nm_s5.getD j 0)) ∈ flatC (Jvm.Cond.and given_1 narrow_1) := by decide +kernel
  obtain ⟨t, h1, h2⟩ := va_Tof (tm := (.static "FoldedStrand$Loops" "INTERIORS" "[I")) (ty := .int) (N := 4) (f := fun j => .int (nm_s5.getD j 0)) (A := A) (by decide) (hs _ (by decide +kernel)) (va_eqt (hs _ (by decide +kernel))) (fun j hj => va_eqt (hs _ (hm j hj))) hA
  exact ⟨t, va_Zof (hts _ (lw_tb 286 (by decide +kernel))) (hts _ (lw_tb 3 (by decide +kernel))) h1 hA, h2⟩
theorem lw_S {s : State} {args : Array Value} {A : Nat → Prop} (hts : ∀ w ∈ lw_tbl, w.before args s = true) (hs : ∀ c ∈ flatC (Jvm.Cond.and given_1 narrow_1), c.before args s = true) (hA : ∀ a : Nat, a < s.heap.size → ¬ A a) : ∃ sa : Nat → Nat, jl_S sa A s s.heap := by
  obtain ⟨t0, h0⟩ := lw_s0 hts hs hA
  obtain ⟨t1, h1⟩ := lw_s1 hts hs hA
  obtain ⟨t2, h2⟩ := lw_s2 hts hs hA
  obtain ⟨t3, h3⟩ := lw_s3 hts hs hA
  obtain ⟨t4, h4⟩ := lw_s4 hts hs hA
  obtain ⟨t5, h5⟩ := lw_s5 hts hs hA
  exact ⟨fun k => match k with | 0 => t0 | 1 => t1 | 2 => t2 | 3 => t3 | 4 => t4 | _ => t5, h0, h1, h2, h3, h4, h5⟩
/-- YOUR PART: from the entry, for every script of at most 1536 ints, the law comes to its end with true -/
theorem whole_start {p : Program} {e : Env} {s : State} {m : MethodId} {below : List Frame} {meth : Method} {c : Code} (l : Launch) {b L : Nat} {xs : Nat → Int32} (hL : L ≤ 1536) (C0 : lw_At p s m meth c b L xs) : W p l e room_1 s m #[Value.ref b] below meth c s.heap [] 0 0 (lw_Z below #[Value.ref b] s) (entryFrame m ([Value.ref b] : List Value).toArray 4) := by
  obtain ⟨hx, hb, hret, hml, hown, hts, hX, hbl, hlocks, hgv⟩ := C0
  have hs := flat_of_before _ hgv
  have hA : ∀ a : Nat, a < s.heap.size → ¬ s.heap.size ≤ a := fun a h1 h2 => absurd h1 (by omega)
  obtain ⟨D, K, hK⟩ := lw_K hts
  obtain ⟨sa, hSt⟩ := lw_S (A := fun q => s.heap.size ≤ q) hts hs hA
  have hT : va_T .int b L (fun j => .int (xs j)) (fun q => s.heap.size ≤ q) s s.heap := by
    obtain ⟨scr, h1, h2, h3, h4, h5⟩ := hX
    exact ⟨scr, h1, h2, h3, by omega, by rw [h4], h5, by omega⟩
  have key := lw_run (x := (p, l, e, room_1, s, m, #[Value.ref b], below, meth, c, lw_Z below #[Value.ref b] s, D, fun q => s.heap.size ≤ q, 4)) (ad := fun k => k) (K := K) (sa := sa) (b := b) (L := L) (xs := xs)
    ⟨hx, hb, rfl, hml, hown, fun w hw => hts w (List.mem_filter.mp hw).1, hK, ⟨fun i j hi => absurd hi (Nat.not_lt_zero i), fun k hk => absurd hk (Nat.not_lt_zero k)⟩, fun q hq => hq, hlocks, hSt⟩ (lw_V hts) ⟨Nat.le_refl _, Nat.le_refl _, Nat.le_refl _, Nat.le_refl _⟩ hT hL
    (fun N ad cells slots hc hsl E lc H locs ls hl hP hS => lv_iconst hx hb dc_LW_law_386 rfl (va_forget (fun q hq => hS.2.2 q hq) (W.widen hc hsl (lw_ret hx hb hret hlocks dc_LW_law_387))))
  have hl := lv_entry [Value.ref b] (n := 4) (Nat.le_of_ble_eq_true rfl)
  rw [lg_entry_eq]
  exact key _ _ _ hl (fun k q hk => by
    have h1 := (jl_at hk).1
    exact absurd h1 (Nat.not_lt_zero k)) va_S.rf
-- ===== YOUR PART ENDS =====
set_option maxHeartbeats 4000000 in
theorem lw_walk (l : Launch) (b : Addr) (xs : List Int32) : MetFree l x (headSpec (Jvm.Cond.code x code maxLocals ret :: tables_1) room_1) (lw_P b xs) (fun _ _ _ _ _ => True) lw_Q := by
  refine MetFree.of_bodyS (code := code) (maxLocals := maxLocals) (ret := ret) (by decide) ?_ ?_
  · intro args s m h hn
    obtain ⟨meth, c, h1, h2, h3, h4, h5, h6, -, -⟩ := Cond.code_spec hn (atoms_spec (ws := Jvm.Cond.code x code maxLocals ret :: tables_1) h _ List.mem_cons_self)
    exact ⟨meth, c, h1, h2, h3, h4, h5, h6⟩
  · intro p e s m args below meth c s₁ B hml0 hP _
    obtain ⟨rfl, hx, hbd, hgv⟩ := hP
    obtain ⟨scr, harrAt, hlist, hof, hsmall⟩ := hx
    obtain ⟨hcb, hkn, -, -⟩ := State.arrayAt?_spec harrAt
    have hown : s.vm.findClass R_law = some m.cls := findClass_of_methodNamed B.named
    have hts0 : ∀ c ∈ (Jvm.Cond.code x code maxLocals ret :: tables_1), c.before #[Value.ref b] s = true := atoms_spec (ws := Jvm.Cond.code x code maxLocals ret :: tables_1) B.pre
    have hts : ∀ w ∈ lw_tbl, w.before #[Value.ref b] s = true := k2_hts_sels lw_privs (fun w hw => hts0 w (List.mem_cons_of_mem _ hw)) lw_privs_ok
    have hml : c.maxLocals = 4 := B.maxLocals_eq (hts0 _ List.mem_cons_self)
    have X₀ : Stand p l e room_1 s m #[Value.ref b] below meth c s₁ [] 0 0 := Stand.of_body B
    have hh0 : s₁.heap = s.heap := by rw [B.state]; rfl
    have hsz : scr.slots.size = xs.length := by rw [← Array.length_toList, hlist, List.length_map]
    have hval : ∀ j : Nat, j < xs.length → scr.slots[j]? = some (.int (xs.getD j 0)) := fun j hj => by
      rw [← Array.getElem?_toList, hlist]
      simp [hj]
    have hbl : b < s.heap.size := (Array.getElem?_eq_some_iff.mp hcb).1
    have hX : va_X b xs.length (fun j => xs.getD j 0) s s.heap := ⟨scr, hcb, hof, hkn, hsz, hval⟩
    have K : W p l e room_1 s m #[Value.ref b] below meth c s₁.heap [] 0 0 (lw_Z below #[Value.ref b] s) (entryFrame m ([Value.ref b] : List Value).toArray 4) := by
      rw [hh0]
      exact whole_start l hbd ⟨B.exec, B.bytes, B.returns, hml, hown, hts, hX, hbl, B.notSynchronized, hgv⟩
    obtain ⟨t, a1, o, b1, b2, b3⟩ := K s₁ rfl X₀
    exact ⟨t, o, a1, b1, b2, b3⟩
theorem lw_pre_spec {args : Array Value} {s : State} (h : (Jvm.Cond.and given_1 narrow_1).before args s = true) (hr : rest_1_c.before args s = true) : ∃ (b : Addr) (xs : List Int32), lw_P b xs args s := by
  have hs := flat_of_before _ h
  have hq := flat_of_before _ hr
  have hc : (Cond.count 1).before args s = true := hs _ (by decide +kernel)
  have harr : (Cond.arrayOf (.arg 0) .int).before args s = true := hs _ (by decide +kernel)
  have hle : (Cond.le (.length (.arg 0)) (.int 1536)).before args s = true := hs _ (by decide +kernel)
  have hlen : (Cond.isInt (.length (.arg 0))).before args s = true := hq _ (by decide +kernel)
  have hall : (Cond.all (.arg 0) (.isInt (.elem (.arg 0) (.index 0)))).before args s = true := hq _ (by decide +kernel)
  obtain ⟨b, xs, hb, hx⟩ := State.ints_of_pre rfl harr hlen hall
  have hsm : xs.length < 2 ^ 31 := hx.choose_spec.2.2.2
  have hev : (Term.length (.arg 0)).eval args s none [] s = some (.int xs.length.toInt32) := hx.length_eval hb
  have hv := Cond.le_ints hev (show (Term.int 1536).eval args s none [] s = some (.int 1536) from rfl)
  have hd : xs.length.toInt32 ≤ 1536 := by
    simpa [Cond.before, Cond.holds, hv] using hle
  have hN : xs.length ≤ 1536 := (Int32.ofNat_le_ofNat hsm (by decide)).mp (show Int32.ofNat xs.length ≤ Int32.ofNat 1536 from hd)
  exact ⟨b, xs, Cond.one_arg hc (show args[0]? = some (.ref b) from hb), hx, hN, h⟩
theorem lw_comes (l : Launch) : Comes l x (Jvm.Cond.code x code maxLocals ret :: tables_1) room_1 (fun tb e args s => Calls_1 tb e args s ∧ rest_1 tb e args s ∧ Pre_1 tb e args s)
    (fun _ _ args s o t => lw_Q args s o t) := by
  intro p e ha hc hk s m args below hf hfit hheap happ hpre
  obtain ⟨b, xs, hP⟩ := lw_pre_spec hpre.2.2 hpre.2.1
  obtain ⟨k, o, h1, h2, h3, hQ⟩ := lw_walk l b xs p e ha hc hk s m args below hf ((Spec.applies_iff_loose hf).mp happ).1 hP trivial
  exact ⟨k, o, h1, h2, h3, hQ⟩
theorem lw_frame {s t : State} {o : Outcome} {args : Array Value} (h : Framed s o t [] 600000 7302250) :
    Framed s o t (fieldLocs frame_1_writes args s ++ arrayLocs frame_1_arrays args s ++ staticLocs frame_1_statics s) 600000 7302250 := h
theorem lw_limb (L : Cond) (hL : ∀ (args : Array Value) (s t : State), L.after args s (.returned (some (.int 1))) t = true) :
    ArmFor flags0 classFile x code maxLocals ret World_1 tables_1 room_1 Calls_1 rest_1 Pre_1
      (fun tb e a s o t => postC L tb e a s o t ∧ Framed s o t (fieldLocs frame_1_writes a s ++ arrayLocs frame_1_arrays a s ++ staticLocs frame_1_statics s) 600000 7302250) := by
  intro l _ _ _ p e ha hc hk s m args below hf hfit hheap happ hpre
  obtain ⟨k, o, h1, h2, h3, rfl, hF⟩ := lw_comes l p e ha hc hk s m args below hf hfit hheap happ hpre
  exact ⟨k, _, h1, h2, h3, hL args s _, lw_frame hF⟩
theorem i_vc : Claimed_1_1 ∧ Claimed_1_2 := ⟨lw_limb limb_1_1 (fun args s t => by simp [limb_1_1, Cond.after, Cond.holds, Cond.value]), lw_limb limb_1_2 (fun args s t => Cond.after_iff.mpr (by
  first | (rw [show limb_1_2 = Cond.eq .result (.int 1) from rfl, Cond.eq_ints (x := 1) (y := 1) rfl rfl]; simp; done) | (simp [limb_1_2, Cond.value, Term.eval]; done)))⟩

