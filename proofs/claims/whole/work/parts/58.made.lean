/-! The world in construction: gu, with the objects that are not ready yet as exceptions. -/
theorem jl_r.le {x : jl_X} {fr lo a b c d : Nat} (h : jl_r x fr lo a b) (h1 : c ≤ a) (h2 : d ≤ b) : jl_r x fr lo c d := by
  obtain ⟨p, l, e, R, s, m, args, below, meth, c, Q, D, A, nL⟩ := x
  exact ⟨h.1, h.2.1, Nat.le_trans h1 h.2.2.1, Nat.le_trans h2 h.2.2.2⟩
def gz_G : Nat → Nat := fun k => if k = 0 then 153 else 156
/-- the world at the start -/
def gz (K : Nat → ClassId) (ad : Nat → Nat) (V : Nat → Nat → Int32) : Nat → va_E := gw K ad (fun _ => 0) V (fun _ => 0) (fun _ => 0) gz_G (fun _ => 64)
/-- the addresses below which a cell's references lie -/
def gw_need (k : Nat) : Nat := if k = 0 then 160 else if k = 1 then 3 else if k = 3 then 2 else if k = 4 then 128 else if k = 5 then 24 else if k = 24 then 44 else if k = 44 then 64 else if k = 64 then 66 else if k = 65 then 85 else if k = 85 then 87 else if k = 86 then 106 else if k = 106 then 108 else if k = 107 then 127 else if k = 127 then 129 else if k = 128 then 148 else if k = 148 then 153 else if k = 150 then 65 else if k = 153 then 156 else if k = 156 then 159 else if k = 160 then 168 else 0
theorem gz_ad {K : Nat → ClassId} {ad ad2 : Nat → Nat} {V : Nat → Nat → Int32} {k : Nat} (h : ∀ j, j < gw_need k → ad2 j = ad j) : gz K ad2 V k = gz K ad V k := by
  by_cases e0 : k = 0
  · subst e0
    have q : ∀ j, j < 160 → ad2 j = ad j := h
    simp only [gz, gw, gz_G, reduceIte, Nat.reduceEqDiff, q 1 (by decide), q 4 (by decide), q 148 (by decide), q 153 (by decide), q 156 (by decide), q 159 (by decide)]
  by_cases e1 : k = 1
  · subst e1
    have q : ∀ j, j < 3 → ad2 j = ad j := h
    simp only [gz, gw, gz_G, reduceIte, Nat.reduceEqDiff, q 2 (by decide)]
  by_cases e3 : k = 3
  · subst e3
    have q : ∀ j, j < 2 → ad2 j = ad j := h
    simp only [gz, gw, gz_G, reduceIte, Nat.reduceEqDiff, q 1 (by decide)]
  by_cases e4 : k = 4
  · subst e4
    have q : ∀ j, j < 128 → ad2 j = ad j := h
    simp only [gz, gw, gz_G, reduceIte, Nat.reduceEqDiff, q 1 (by decide), q 3 (by decide), q 5 (by decide), q 24 (by decide), q 44 (by decide), q 64 (by decide), q 85 (by decide), q 106 (by decide), q 127 (by decide)]
  by_cases e5 : k = 5
  · subst e5
    have q : (fun i => if i < 18 then some (ad2 (6 + i)) else none) = (fun i => if i < 18 then some (ad (6 + i)) else none) := by
      funext i
      by_cases hi : i < 18
      · rw [if_pos hi, if_pos hi, h _ (show 6 + i < 24 by omega)]
      · rw [if_neg hi, if_neg hi]
    simp only [gz, gw, reduceIte, Nat.reduceEqDiff, q]
  by_cases e24 : k = 24
  · subst e24
    have q : (fun i => if i < 19 then some (ad2 (25 + i)) else none) = (fun i => if i < 19 then some (ad (25 + i)) else none) := by
      funext i
      by_cases hi : i < 19
      · rw [if_pos hi, if_pos hi, h _ (show 25 + i < 44 by omega)]
      · rw [if_neg hi, if_neg hi]
    simp only [gz, gw, reduceIte, Nat.reduceEqDiff, q]
  by_cases e44 : k = 44
  · subst e44
    have q : (fun i => if i < 19 then some (ad2 (45 + i)) else none) = (fun i => if i < 19 then some (ad (45 + i)) else none) := by
      funext i
      by_cases hi : i < 19
      · rw [if_pos hi, if_pos hi, h _ (show 45 + i < 64 by omega)]
      · rw [if_neg hi, if_neg hi]
    simp only [gz, gw, reduceIte, Nat.reduceEqDiff, q]
  by_cases e64 : k = 64
  · subst e64
    have q : ∀ j, j < 66 → ad2 j = ad j := h
    simp only [gz, gw, gz_G, reduceIte, Nat.reduceEqDiff, q 65 (by decide)]
  by_cases e65 : k = 65
  · subst e65
    have q : (fun i => if i < 19 then some (ad2 (66 + i)) else none) = (fun i => if i < 19 then some (ad (66 + i)) else none) := by
      funext i
      by_cases hi : i < 19
      · rw [if_pos hi, if_pos hi, h _ (show 66 + i < 85 by omega)]
      · rw [if_neg hi, if_neg hi]
    simp only [gz, gw, reduceIte, Nat.reduceEqDiff, q]
  by_cases e85 : k = 85
  · subst e85
    have q : ∀ j, j < 87 → ad2 j = ad j := h
    simp only [gz, gw, gz_G, reduceIte, Nat.reduceEqDiff, q 86 (by decide)]
  by_cases e86 : k = 86
  · subst e86
    have q : (fun i => if i < 19 then some (ad2 (87 + i)) else none) = (fun i => if i < 19 then some (ad (87 + i)) else none) := by
      funext i
      by_cases hi : i < 19
      · rw [if_pos hi, if_pos hi, h _ (show 87 + i < 106 by omega)]
      · rw [if_neg hi, if_neg hi]
    simp only [gz, gw, reduceIte, Nat.reduceEqDiff, q]
  by_cases e106 : k = 106
  · subst e106
    have q : ∀ j, j < 108 → ad2 j = ad j := h
    simp only [gz, gw, gz_G, reduceIte, Nat.reduceEqDiff, q 85 (by decide), q 107 (by decide)]
  by_cases e107 : k = 107
  · subst e107
    have q : (fun i => if i < 19 then some (ad2 (108 + i)) else none) = (fun i => if i < 19 then some (ad (108 + i)) else none) := by
      funext i
      by_cases hi : i < 19
      · rw [if_pos hi, if_pos hi, h _ (show 108 + i < 127 by omega)]
      · rw [if_neg hi, if_neg hi]
    simp only [gz, gw, reduceIte, Nat.reduceEqDiff, q]
  by_cases e127 : k = 127
  · subst e127
    have q : ∀ j, j < 129 → ad2 j = ad j := h
    simp only [gz, gw, gz_G, reduceIte, Nat.reduceEqDiff, q 106 (by decide), q 128 (by decide)]
  by_cases e128 : k = 128
  · subst e128
    have q : (fun i => if i < 19 then some (ad2 (129 + i)) else none) = (fun i => if i < 19 then some (ad (129 + i)) else none) := by
      funext i
      by_cases hi : i < 19
      · rw [if_pos hi, if_pos hi, h _ (show 129 + i < 148 by omega)]
      · rw [if_neg hi, if_neg hi]
    simp only [gz, gw, reduceIte, Nat.reduceEqDiff, q]
  by_cases e148 : k = 148
  · subst e148
    have q : ∀ j, j < 153 → ad2 j = ad j := h
    simp only [gz, gw, gz_G, reduceIte, Nat.reduceEqDiff, q 1 (by decide), q 3 (by decide), q 4 (by decide), q 149 (by decide), q 150 (by decide), q 151 (by decide), q 152 (by decide)]
  by_cases e150 : k = 150
  · subst e150
    have q : ∀ j, j < 65 → ad2 j = ad j := h
    simp only [gz, gw, reduceIte, Nat.reduceEqDiff, q 64 (by decide)]
  by_cases e153 : k = 153
  · subst e153
    have q : ∀ j, j < 156 → ad2 j = ad j := h
    simp only [gz, gw, gz_G, reduceIte, Nat.reduceEqDiff, q 1 (by decide), q 3 (by decide), q 154 (by decide), q 155 (by decide)]
  by_cases e156 : k = 156
  · subst e156
    have q : ∀ j, j < 159 → ad2 j = ad j := h
    simp only [gz, gw, gz_G, reduceIte, Nat.reduceEqDiff, q 1 (by decide), q 3 (by decide), q 157 (by decide), q 158 (by decide)]
  by_cases e160 : k = 160
  · subst e160
    have q : ∀ j, j < 168 → ad2 j = ad j := h
    simp only [gz, gw, gz_G, reduceIte, Nat.reduceEqDiff, q 161 (by decide), q 162 (by decide), q 163 (by decide), q 164 (by decide), q 165 (by decide), q 166 (by decide), q 167 (by decide)]
  simp only [gz, gw, e0, e1, e3, e4, e5, e24, e44, e64, e65, e85, e86, e106, e107, e127, e128, e148, e150, e153, e156, e160, if_false]
/-- with exceptions -/
def gu (K : Nat → ClassId) (ad : Nat → Nat) (V : Nat → Nat → Int32) (U : Nat → Option va_E) : Nat → va_E := fun k => (U k).getD (gz K ad V k)
def gu_has : List Nat → (Nat → Option va_E) → Prop
  | [], _ => True
  | k :: ks, U => (U k).isSome = true ∧ gu_has ks U
theorem gu_has_in {U : Nat → Option va_E} : ∀ {os : List Nat} {k : Nat}, gu_has os U → k ∈ os → (U k).isSome = true
  | o :: os, k, h, hk => by
    rcases List.mem_cons.mp hk with rfl | h1
    · exact h.1
    · exact gu_has_in h.2 h1
theorem gu_eq {K : Nat → ClassId} {ad ad2 : Nat → Nat} {V : Nat → Nat → Int32} {U U2 : Nat → Option va_E} {n : Nat} (os : List Nat) (hos : gu_has os U) (hU : ∀ k, k < n → U2 k = U k) (hn : ∀ k, k < n → k ∈ os ∨ gw_need k ≤ n) (h : ∀ k, k < n → ad2 k = ad k) : ∀ k, k < n → gu K ad2 V U2 k = gu K ad V U k := by
  intro k hk
  unfold gu
  rw [hU k hk]
  rcases hn k hk with h1 | h1
  · have h2 := gu_has_in hos h1
    cases h3 : U k with
    | none => rw [h3] at h2; cases h2
    | some e => rfl
  · rw [gz_ad (fun j hj => h j (by omega))]
theorem gu_up {K : Nat → ClassId} {ad : Nat → Nat} {V : Nat → Nat → Int32} {U : Nat → Option va_E} {k : Nat} {e : va_E} : va_up (gu K ad V U) k e = gu K ad V (va_up U k (some e)) := by
  funext j
  by_cases h : j = k
  · subst h
    unfold gu
    rw [va_up_self, va_up_self]
    rfl
  · unfold gu
    rw [va_up_ne _ _ h, va_up_ne _ _ h]
theorem gu_up2 {K : Nat → ClassId} {ad : Nat → Nat} {V : Nat → Nat → Int32} {U : Nat → Option va_E} {k : Nat} {e e2 : va_E} : va_up (gu K ad V (va_up U k (some e2))) k e = gu K ad V (va_up U k (some e)) := by
  rw [gu_up]
  congr 1
  funext j
  by_cases h : j = k
  · subst h
    rw [va_up_self, va_up_self]
  · rw [va_up_ne _ _ h, va_up_ne _ _ h, va_up_ne _ _ h]
/-- an object is ready -/
theorem gu_fin {K : Nat → ClassId} {ad : Nat → Nat} {V : Nat → Nat → Int32} {U : Nat → Option va_E} {k : Nat} {e : va_E} (hU : U k = none) (he : e = gz K ad V k) : gu K ad V (va_up U k (some e)) = gu K ad V U := by
  funext j
  by_cases h : j = k
  · subst h
    unfold gu
    rw [va_up_self, hU, he]
    rfl
  · unfold gu
    rw [va_up_ne _ _ h]
theorem gu_row {K : Nat → ClassId} {ad : Nat → Nat} {V : Nat → Nat → Int32} {U : Nat → Option va_E} {k len : Nat} (hU : U k = none) (hk : gw_i k = true ∧ gw_len k = len) : gu K ad V U k = .inl (K 0, len, .inl (V k)) := by
  unfold gu
  rw [hU]
  show gw K ad (fun _ => 0) V (fun _ => 0) (fun _ => 0) gz_G (fun _ => 64) k = _
  rw [gw_int hk.1, hk.2]
theorem gu_set {K : Nat → ClassId} {ad : Nat → Nat} {V : Nat → Nat → Int32} {U : Nat → Option va_E} {k len : Nat} (hU : U k = none) (hk : gw_i k = true ∧ gw_len k = len) {f : Nat → Int32} : va_up (gu K ad V U) k (.inl (K 0, len, .inl f)) = gu K ad (va_up V k f) U := by
  obtain ⟨h1, rfl⟩ := hk
  have h2 := congrFun (gw_setV (K := K) (ad := ad) (I := fun _ => 0) (V := V) (L := fun _ => 0) (C := fun _ => 0) (G := gz_G) (R := fun _ => 64) h1 f)
  funext j
  have h3 := h2 j
  by_cases h : j = k
  · subst h
    rw [va_up_self] at h3 ⊢
    unfold gu
    rw [hU]
    exact h3
  · rw [va_up_ne _ _ h] at h3 ⊢
    unfold gu gz
    rw [h3]
/-- a diagonal is set, up to the row m -/
def dg (m o : Nat) (d : Int32) (V : Nat → Nat → Int32) : Nat → Nat → Int32 := fun k => if o ≤ k ∧ k < o + m then upd (V k) (k - o) d else V k
theorem dg_0 {o : Nat} {d : Int32} {V : Nat → Nat → Int32} : dg 0 o d V = V := by
  funext k
  unfold dg
  rw [if_neg (by omega)]
theorem dg_s {m o : Nat} {d : Int32} {V : Nat → Nat → Int32} : va_up (dg m o d V) (o + m) (upd (dg m o d V (o + m)) m d) = dg (m + 1) o d V := by
  funext k
  by_cases h : k = o + m
  · subst h
    rw [va_up_self]
    unfold dg
    rw [if_neg (by omega), if_pos (by omega), show o + m - o = m by omega]
  · rw [va_up_ne _ _ h]
    unfold dg
    by_cases h1 : o ≤ k ∧ k < o + m
    · rw [if_pos h1, if_pos (by omega)]
    · rw [if_neg h1, if_neg (by omega)]

