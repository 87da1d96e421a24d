/-! New cells in the world in construction; the constructors of Strand and Loops. -/
theorem jl_ag {N0 N : Nat} {ad0 ad ad2 : Nat → Nat} (hg : ∀ k, k < N0 → ad k = ad0 k) (hag : ∀ k, k < N → ad2 k = ad k) (hN : N0 ≤ N) : ∀ k, k < N0 → ad2 k = ad0 k := fun k hk => (hag k (by omega)).trans (hg k hk)
section JU
variable {x : jl_X} {N : Nat} {ad : Nat → Nat} {K : Nat → ClassId} {sa : Nat → Nat} {cells slots : Nat} {cc : ByteArray} {own : String} {n : Nat} {V : Nat → Nat → Int32} {U : Nat → Option va_E} {pc : Nat} {lc : List (Nat × Value)} {st : List Value}
theorem jl_newi (h : jl_ok x N ad K sa cc own n) {fr lo len : Nat} (hr : jl_r x fr lo (cells + 1) (slots + len)) (ha : Cond.arrayClass .int ∈ jl_T) (os : List Nat) (hos : gu_has os U) (hn : ∀ k, k < N → k ∈ os ∨ gw_need k ≤ N) (hV : V N = fun _ => 0) (hU : U N = none) (hk : gw_i N = true ∧ gw_len N = len) {z : Int32} (hz : ¬ z < 0) (hZ : z.toNatClampNeg = len) (hb : len * 4 ≤ 536870912) (hd : decode cc pc = .ok (.newarray .int, 2)) (pc2 : Nat) (hpc : pc + 2 = pc2)
    (kk : ∀ ad2 : Nat → Nat, (∀ k, k < N → ad2 k = ad k) → jl_ok x (N + 1) ad2 K sa cc own n → jl_J x (N + 1) ad2 (cells + 1) (slots + len) (gu K ad2 V U) pc2 lc (.ref (ad2 N) :: st)) : jl_J x N ad cells slots (gu K ad V U) pc lc (.int z :: st) :=
  jl_newa (atype := .int) (ty := .int) h hr ha rfl (j := 0) rfl (a0 := (len, .inl (fun _ => 0))) (fun _ => rfl) hz hZ hb (fun U c1 c2 (a : U.vm.findClass ("[" ++ FieldType.int.toString) = some c1) (b : U.vm.findClass ("[" ++ FieldType.int.toString) = some c2) => Option.some.inj (a.symm.trans b)) hd pc2 hpc
    (jl_news (fun ad2 => gu K ad2 V U) (fun ad2 hag => gu_eq os hos (fun _ _ => rfl) hn hag) (fun ad2 => (gu_row hU hk).trans (by rw [hV])) kk)
theorem jl_newu (h : jl_ok x N ad K sa cc own n) {fr lo : Nat} {ci : Nat} {C : String} {T : u_T} {M : Nat} {ty : Nat → FieldType} (hr : jl_r x fr lo (cells + 1) (slots + M)) (hc : jl_c ci C T M ty) {index : Nat} (hw : Cond.classLink own index C ∈ jl_T ∧ Cond.instantiable C M ∈ jl_T ∧ Cond.initialized C ∈ jl_T) {fs : List Value} (hfs : ∀ j, j < M → defaultValue (ty j) = vp_V fs j) (os : List Nat) (hos : gu_has os U) (hn : ∀ k, k < N → k ∈ os ∨ gw_need k ≤ N) (hd : decode cc pc = .ok (.new index, 3)) (pc2 : Nat) (hpc : pc + 3 = pc2)
    (kk : ∀ ad2 : Nat → Nat, (∀ k, k < N → ad2 k = ad k) → jl_ok x (N + 1) ad2 K sa cc own n → jl_J x (N + 1) ad2 (cells + 1) (slots + M) (gu K ad2 V (va_up U N (some (.inr (ci, fs))))) pc2 lc (.ref (ad2 N) :: st)) : jl_J x N ad cells slots (gu K ad V U) pc lc st :=
  jl_newo h hr hc hw hfs hd pc2 hpc
    (jl_news (fun ad2 => gu K ad2 V (va_up U N (some (.inr (ci, fs))))) (fun ad2 hag => gu_eq os hos (fun k hk => va_up_ne _ _ (by omega)) hn hag) (fun ad2 => by unfold gu; rw [va_up_self]; rfl) kk)
theorem jl_mnau (h : jl_ok x N ad K sa cc own n) (hxV : jl_xV x) {fr lo M : Nat} (hr : jl_r x fr lo (cells + (1 + M)) (slots + (M + M * M))) {index : Nat} (hw : Cond.classLink own index "[[I" ∈ jl_T) (ha : Cond.arrayClass .int ∈ jl_T) (os : List Nat) (hos : gu_has os U) (hn : ∀ k, k < N → k ∈ os ∨ gw_need k ≤ N) (hV : ∀ i, i < M → V (N + 1 + i) = fun _ => 0) (hU : ∀ i, i < M → U (N + 1 + i) = none) (hk : ∀ i, i < M → gw_i (N + 1 + i) = true ∧ gw_len (N + 1 + i) = M) (hG0 : ∀ ad2 : Nat → Nat, gu K ad2 V U N = .inl (K 4, M, .inr (.inr (.inr (.inr (fun i => if i < M then some (ad2 (N + 1 + i)) else none)))))) {z : Int32} (hz : ¬ z < 0) (hM : z.toNatClampNeg = M) (hb : M * 4 ≤ 536870912) (hd : decode cc pc = .ok (.multianewarray index 2, 4)) (pc2 : Nat) (hpc : pc + 4 = pc2)
    (kk : ∀ ad2 : Nat → Nat, (∀ k, k < N → ad2 k = ad k) → jl_ok x (N + 1 + M) ad2 K sa cc own n → jl_J x (N + 1 + M) ad2 (cells + 1 + M) (slots + M + M * M) (gu K ad2 V U) pc2 lc (.ref (ad2 N) :: st)) : jl_J x N ad cells slots (gu K ad V U) pc lc (.int z :: .int z :: st) :=
  jl_mna h hxV hr hw ha hz hM hb hd pc2 hpc (fun ad2 => gu K ad2 V U) (fun ad2 hag => gu_eq os hos (fun _ _ => rfl) hn hag) hG0 (fun ad2 i hi => (gu_row (hU i hi) (hk i hi)).trans (by rw [hV i hi])) kk
end JU
abbrev bc_ST_init : ByteArray := prog_6_method_1_code
abbrev yn_ST_init : MethodName := ⟨"FoldedStrand$Strand", "<init>", "()V"⟩
theorem wo_ST : Cond.methodLink "FoldedStrand$Strand" 1 Lib.objectInit ∈ jl_T ∧ Cond.instanceMethod Lib.objectInit ∈ jl_T ∧ Cond.code Lib.objectInit ⟨#[0xb1]⟩ 1 none ∈ jl_T := ⟨jl_T_of 24 (by decide +kernel) (by decide +kernel), jl_T_of 17 (by decide +kernel) (by decide +kernel), jl_T_of 18 (by decide +kernel) (by decide +kernel)⟩
theorem wa_int : Cond.arrayClass .int ∈ jl_T := jl_T_of 32 (by decide +kernel) (by decide +kernel)
theorem dc_ST_init_0 : decode bc_ST_init 0 = .ok (.aload_n 0, 1) := by decide +kernel
theorem dc_ST_init_1 : decode bc_ST_init 1 = .ok (.invokespecial 1, 3) := by decide +kernel
theorem dc_ST_init_4 : decode bc_ST_init 4 = .ok (.aload_n 0, 1) := by decide +kernel
theorem dc_ST_init_5 : decode bc_ST_init 5 = .ok (.bipush 18, 2) := by decide +kernel
theorem dc_ST_init_7 : decode bc_ST_init 7 = .ok (.newarray .int, 2) := by decide +kernel
theorem dc_ST_init_9 : decode bc_ST_init 9 = .ok (.putfield 9, 3) := by decide +kernel
theorem dc_ST_init_12 : decode bc_ST_init 12 = .ok (.aload_n 0, 1) := by decide +kernel
theorem dc_ST_init_13 : decode bc_ST_init 13 = .ok (.iconst 0, 1) := by decide +kernel
theorem dc_ST_init_14 : decode bc_ST_init 14 = .ok (.putfield 13, 3) := by decide +kernel
theorem dc_ST_init_17 : decode bc_ST_init 17 = .ok (.return_, 1) := by decide +kernel
abbrev bc_LO_init : ByteArray := prog_3_method_1_code
abbrev yn_LO_init : MethodName := ⟨"FoldedStrand$Loops", "<init>", "(LFoldedStrand$Strand;)V"⟩
theorem wo_LO : Cond.methodLink "FoldedStrand$Loops" 1 Lib.objectInit ∈ jl_T ∧ Cond.instanceMethod Lib.objectInit ∈ jl_T ∧ Cond.code Lib.objectInit ⟨#[0xb1]⟩ 1 none ∈ jl_T := ⟨jl_T_of 38 (by decide +kernel) (by decide +kernel), jl_T_of 17 (by decide +kernel) (by decide +kernel), jl_T_of 18 (by decide +kernel) (by decide +kernel)⟩
theorem dc_LO_init_0 : decode bc_LO_init 0 = .ok (.aload_n 0, 1) := by decide +kernel
theorem dc_LO_init_1 : decode bc_LO_init 1 = .ok (.invokespecial 1, 3) := by decide +kernel
theorem dc_LO_init_4 : decode bc_LO_init 4 = .ok (.aload_n 0, 1) := by decide +kernel
theorem dc_LO_init_5 : decode bc_LO_init 5 = .ok (.aload_n 1, 1) := by decide +kernel
theorem dc_LO_init_6 : decode bc_LO_init 6 = .ok (.putfield 7, 3) := by decide +kernel
theorem dc_LO_init_9 : decode bc_LO_init 9 = .ok (.return_, 1) := by decide +kernel
section INI
variable (l : Launch) {K : Nat → ClassId} {sa : Nat → Nat} {ad : Nat → Nat} {V : Nat → Nat → Int32} {e0 : va_E}
theorem c_ST_init (hV : V 2 = fun _ => 0) : jl_CN l K sa yn_ST_init bc_ST_init 1 1 20 1 18 2 ad [.ref (ad 1)] (gu K ad V (va_up (va_up (fun _ => none) 0 (some e0)) 1 (some (.inr (1, [.null, .int 0]))))) 3 (fun ad2 => gu K ad2 V (va_up (fun _ => none) 0 (some e0))) := by
  refine jl_enterN (by decide) rfl (Nat.le_of_ble_eq_true rfl) (fun x h he hxV hr => ?_)
  have hg : ∀ k, k < 2 → ad k = ad k := fun _ _ => rfl
  show jl_J x 2 ad 0 0 (gu K ad V (va_up (va_up (fun _ => none) 0 (some e0)) 1 (some (.inr (1, [.null, .int 0]))))) 0 [(0, .ref (ad 1))] []
  refine jl_aload_n (i := 0) h rfl rfl dc_ST_init_0 1 rfl ?_
  refine jl_oinit h (hr.le (by decide) (by decide)) wo_ST (by omega) (by omega) (Nat.le_of_ble_eq_true rfl) dc_ST_init_1 4 rfl ?_
  refine jl_aload_n (i := 0) h rfl rfl dc_ST_init_4 5 rfl ?_
  refine jl_bipush (v := 18) h (by decide) dc_ST_init_5 7 rfl ?_
  refine jl_newi (len := 18) h (hr.le (by decide) (by decide)) wa_int [0, 1] ⟨rfl, rfl, trivial⟩ (by decide) hV rfl ⟨rfl, rfl⟩ (by decide) (by decide) (by decide) dc_ST_init_7 9 rfl (fun ad2 hag h => ?_)
  simp only [← hag 1 (by decide)]
  have hg := jl_ag hg hag (by decide)
  refine jl_putF he (fs2 := [_, _]) h nm_c_ST 0 wl_ST_9 (by omega) (by decide) rfl rfl (by exact rfl) (by rfl) (by rfl) (by exact Nat.le_of_ble_eq_true rfl) (by rfl) dc_ST_init_9 gu_up2 12 rfl ?_
  refine jl_aload_n (i := 0) h rfl rfl dc_ST_init_12 13 rfl ?_
  refine jl_iconst (v := 0) h (by decide) dc_ST_init_13 14 rfl ?_
  refine jl_putf (fs2 := [_, _]) h nm_c_ST 1 wl_ST_13 (by omega) (by decide) rfl (by exact rfl) (by rfl) (by rfl) (by exact Nat.le_of_ble_eq_true rfl) (by rfl) dc_ST_init_14 gu_up2 17 rfl ?_
  exact jl_vretN h he (by decide) hg (fun k _ => congrFun (gu_fin rfl rfl) k) dc_ST_init_17
theorem c_LO_init : jl_CN l K sa yn_LO_init bc_LO_init 2 1 20 0 0 4 ad [.ref (ad 3), .ref (ad 1)] (gu K ad V (va_up (va_up (fun _ => none) 0 (some e0)) 3 (some (.inr (2, [.null]))))) 4 (fun ad2 => gu K ad2 V (va_up (fun _ => none) 0 (some e0))) := by
  refine jl_enterN (by decide) rfl (Nat.le_of_ble_eq_true rfl) (fun x h he hxV hr => ?_)
  show jl_J x 4 ad 0 0 (gu K ad V (va_up (va_up (fun _ => none) 0 (some e0)) 3 (some (.inr (2, [.null]))))) 0 [(0, .ref (ad 3)), (1, .ref (ad 1))] []
  refine jl_aload_n (i := 0) h rfl rfl dc_LO_init_0 1 rfl ?_
  refine jl_oinit h (hr.le (by decide) (by decide)) wo_LO (by omega) (by omega) (Nat.le_of_ble_eq_true rfl) dc_LO_init_1 4 rfl ?_
  refine jl_aload_n (i := 0) h rfl rfl dc_LO_init_4 5 rfl ?_
  refine jl_aload_n (i := 1) h rfl rfl dc_LO_init_5 6 rfl ?_
  refine jl_putF he (fs2 := [_]) h nm_c_LO 0 wl_LO_7 (by omega) (by decide) rfl rfl (by exact rfl) (by rfl) (by rfl) (by exact Nat.le_of_ble_eq_true rfl) (by rfl) dc_LO_init_6 gu_up2 9 rfl ?_
  exact jl_vretN h he (by decide) (fun _ _ => rfl) (fun k _ => congrFun (gu_fin rfl rfl) k) dc_LO_init_9
end INI

