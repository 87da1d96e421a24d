/-! The constructor of the reference. -/
def sq (m : Nat) : Nat → Int32 := fun j => if j < m then nm_s4.getD j 0 else 0
theorem sq_s {m : Nat} {v : Int32} (hv : nm_s4.getD m 0 = v) : upd (sq m) m v = sq (m + 1) := by
  funext j
  unfold upd sq
  by_cases h : j = m
  · subst h
    rw [if_pos rfl, if_pos (by omega), hv]
  · rw [if_neg h]
    by_cases h2 : j < m
    · rw [if_pos h2, if_pos (by omega)]
    · rw [if_neg h2, if_neg (by omega)]
theorem gu_row2 {K : Nat → ClassId} {ad : Nat → Nat} {V : Nat → Nat → Int32} {U : Nat → Option va_E} {k len : Nat} {f : Nat → Int32} (hU : U k = none) (hk : gw_i k = true ∧ gw_len k = len) : gu K ad (va_up V k f) U k = .inl (K 0, len, .inl f) := by
  rw [gu_row hU hk, va_up_self]
theorem gu_set2 {K : Nat → ClassId} {ad : Nat → Nat} {V : Nat → Nat → Int32} {U : Nat → Option va_E} {k len : Nat} {f f2 f3 : Nat → Int32} (hU : U k = none) (hk : gw_i k = true ∧ gw_len k = len) (hf : f2 = f3) : va_up (gu K ad (va_up V k f) U) k (.inl (K 0, len, .inl f2)) = gu K ad (va_up V k f3) U := by
  rw [gu_set hU hk, hf]
  congr 1
  funext j
  by_cases h : j = k
  · subst h
    rw [va_up_self, va_up_self]
  · rw [va_up_ne _ _ h, va_up_ne _ _ h, va_up_ne _ _ h]
theorem vz_hi {k : Nat} (h : 158 ≤ k) : vz k = fun _ => 0 := by
  unfold vz
  rw [va_up_ne _ _ (by omega), va_up_ne _ _ (by omega), vz0_hi (by omega)]
def vzm : Nat → Nat → Int32 := va_up (va_up vz 161 (sq 36)) 165 (fun _ => iI (-1))
abbrev bc_MO_init : ByteArray := prog_9_method_1_code
abbrev yn_MO_init : MethodName := ⟨"FoldedStrandModel", "<init>", "()V"⟩
theorem wo_MO : Cond.methodLink "FoldedStrandModel" 1 Lib.objectInit ∈ jl_T ∧ Cond.instanceMethod Lib.objectInit ∈ jl_T ∧ Cond.code Lib.objectInit ⟨#[0xb1]⟩ 1 none ∈ jl_T := ⟨jl_T_of 510 (by decide +kernel) (by decide +kernel), jl_T_of 17 (by decide +kernel) (by decide +kernel), jl_T_of 18 (by decide +kernel) (by decide +kernel)⟩
theorem dc_MO_init_0 : decode bc_MO_init 0 = .ok (.aload_n 0, 1) := by decide +kernel
theorem dc_MO_init_1 : decode bc_MO_init 1 = .ok (.invokespecial 1, 3) := by decide +kernel
theorem dc_MO_init_4 : decode bc_MO_init 4 = .ok (.aload_n 0, 1) := by decide +kernel
theorem dc_MO_init_5 : decode bc_MO_init 5 = .ok (.bipush 36, 2) := by decide +kernel
theorem dc_MO_init_7 : decode bc_MO_init 7 = .ok (.newarray .int, 2) := by decide +kernel
theorem dc_MO_init_9 : decode bc_MO_init 9 = .ok (.dup, 1) := by decide +kernel
theorem dc_MO_init_10 : decode bc_MO_init 10 = .ok (.iconst 0, 1) := by decide +kernel
theorem dc_MO_init_11 : decode bc_MO_init 11 = .ok (.bipush (-24), 2) := by decide +kernel
theorem dc_MO_init_13 : decode bc_MO_init 13 = .ok (.iastore, 1) := by decide +kernel
theorem dc_MO_init_14 : decode bc_MO_init 14 = .ok (.dup, 1) := by decide +kernel
theorem dc_MO_init_15 : decode bc_MO_init 15 = .ok (.iconst 1, 1) := by decide +kernel
theorem dc_MO_init_16 : decode bc_MO_init 16 = .ok (.bipush (-33), 2) := by decide +kernel
theorem dc_MO_init_18 : decode bc_MO_init 18 = .ok (.iastore, 1) := by decide +kernel
theorem dc_MO_init_19 : decode bc_MO_init 19 = .ok (.dup, 1) := by decide +kernel
theorem dc_MO_init_20 : decode bc_MO_init 20 = .ok (.iconst 2, 1) := by decide +kernel
theorem dc_MO_init_21 : decode bc_MO_init 21 = .ok (.bipush (-21), 2) := by decide +kernel
theorem dc_MO_init_23 : decode bc_MO_init 23 = .ok (.iastore, 1) := by decide +kernel
theorem dc_MO_init_24 : decode bc_MO_init 24 = .ok (.dup, 1) := by decide +kernel
theorem dc_MO_init_25 : decode bc_MO_init 25 = .ok (.iconst 3, 1) := by decide +kernel
theorem dc_MO_init_26 : decode bc_MO_init 26 = .ok (.bipush (-14), 2) := by decide +kernel
theorem dc_MO_init_28 : decode bc_MO_init 28 = .ok (.iastore, 1) := by decide +kernel
theorem dc_MO_init_29 : decode bc_MO_init 29 = .ok (.dup, 1) := by decide +kernel
theorem dc_MO_init_30 : decode bc_MO_init 30 = .ok (.iconst 4, 1) := by decide +kernel
theorem dc_MO_init_31 : decode bc_MO_init 31 = .ok (.bipush (-21), 2) := by decide +kernel
theorem dc_MO_init_33 : decode bc_MO_init 33 = .ok (.iastore, 1) := by decide +kernel
theorem dc_MO_init_34 : decode bc_MO_init 34 = .ok (.dup, 1) := by decide +kernel
theorem dc_MO_init_35 : decode bc_MO_init 35 = .ok (.iconst 5, 1) := by decide +kernel
theorem dc_MO_init_36 : decode bc_MO_init 36 = .ok (.bipush (-21), 2) := by decide +kernel
theorem dc_MO_init_38 : decode bc_MO_init 38 = .ok (.iastore, 1) := by decide +kernel
theorem dc_MO_init_39 : decode bc_MO_init 39 = .ok (.dup, 1) := by decide +kernel
theorem dc_MO_init_40 : decode bc_MO_init 40 = .ok (.bipush 6, 2) := by decide +kernel
theorem dc_MO_init_42 : decode bc_MO_init 42 = .ok (.bipush (-33), 2) := by decide +kernel
theorem dc_MO_init_44 : decode bc_MO_init 44 = .ok (.iastore, 1) := by decide +kernel
theorem dc_MO_init_45 : decode bc_MO_init 45 = .ok (.dup, 1) := by decide +kernel
theorem dc_MO_init_46 : decode bc_MO_init 46 = .ok (.bipush 7, 2) := by decide +kernel
theorem dc_MO_init_48 : decode bc_MO_init 48 = .ok (.bipush (-34), 2) := by decide +kernel
theorem dc_MO_init_50 : decode bc_MO_init 50 = .ok (.iastore, 1) := by decide +kernel
theorem dc_MO_init_51 : decode bc_MO_init 51 = .ok (.dup, 1) := by decide +kernel
theorem dc_MO_init_52 : decode bc_MO_init 52 = .ok (.bipush 8, 2) := by decide +kernel
theorem dc_MO_init_54 : decode bc_MO_init 54 = .ok (.bipush (-25), 2) := by decide +kernel
theorem dc_MO_init_56 : decode bc_MO_init 56 = .ok (.iastore, 1) := by decide +kernel
theorem dc_MO_init_57 : decode bc_MO_init 57 = .ok (.dup, 1) := by decide +kernel
theorem dc_MO_init_58 : decode bc_MO_init 58 = .ok (.bipush 9, 2) := by decide +kernel
theorem dc_MO_init_60 : decode bc_MO_init 60 = .ok (.bipush (-15), 2) := by decide +kernel
theorem dc_MO_init_62 : decode bc_MO_init 62 = .ok (.iastore, 1) := by decide +kernel
theorem dc_MO_init_63 : decode bc_MO_init 63 = .ok (.dup, 1) := by decide +kernel
theorem dc_MO_init_64 : decode bc_MO_init 64 = .ok (.bipush 10, 2) := by decide +kernel
theorem dc_MO_init_66 : decode bc_MO_init 66 = .ok (.bipush (-22), 2) := by decide +kernel
theorem dc_MO_init_68 : decode bc_MO_init 68 = .ok (.iastore, 1) := by decide +kernel
theorem dc_MO_init_69 : decode bc_MO_init 69 = .ok (.dup, 1) := by decide +kernel
theorem dc_MO_init_70 : decode bc_MO_init 70 = .ok (.bipush 11, 2) := by decide +kernel
theorem dc_MO_init_72 : decode bc_MO_init 72 = .ok (.bipush (-24), 2) := by decide +kernel
theorem dc_MO_init_74 : decode bc_MO_init 74 = .ok (.iastore, 1) := by decide +kernel
theorem dc_MO_init_75 : decode bc_MO_init 75 = .ok (.dup, 1) := by decide +kernel
theorem dc_MO_init_76 : decode bc_MO_init 76 = .ok (.bipush 12, 2) := by decide +kernel
theorem dc_MO_init_78 : decode bc_MO_init 78 = .ok (.bipush (-21), 2) := by decide +kernel
theorem dc_MO_init_80 : decode bc_MO_init 80 = .ok (.iastore, 1) := by decide +kernel
theorem dc_MO_init_81 : decode bc_MO_init 81 = .ok (.dup, 1) := by decide +kernel
theorem dc_MO_init_82 : decode bc_MO_init 82 = .ok (.bipush 13, 2) := by decide +kernel
theorem dc_MO_init_84 : decode bc_MO_init 84 = .ok (.bipush (-25), 2) := by decide +kernel
theorem dc_MO_init_86 : decode bc_MO_init 86 = .ok (.iastore, 1) := by decide +kernel
theorem dc_MO_init_87 : decode bc_MO_init 87 = .ok (.dup, 1) := by decide +kernel
theorem dc_MO_init_88 : decode bc_MO_init 88 = .ok (.bipush 14, 2) := by decide +kernel
theorem dc_MO_init_90 : decode bc_MO_init 90 = .ok (.bipush 13, 2) := by decide +kernel
theorem dc_MO_init_92 : decode bc_MO_init 92 = .ok (.iastore, 1) := by decide +kernel
theorem dc_MO_init_93 : decode bc_MO_init 93 = .ok (.dup, 1) := by decide +kernel
theorem dc_MO_init_94 : decode bc_MO_init 94 = .ok (.bipush 15, 2) := by decide +kernel
theorem dc_MO_init_96 : decode bc_MO_init 96 = .ok (.bipush (-5), 2) := by decide +kernel
theorem dc_MO_init_98 : decode bc_MO_init 98 = .ok (.iastore, 1) := by decide +kernel
theorem dc_MO_init_99 : decode bc_MO_init 99 = .ok (.dup, 1) := by decide +kernel
theorem dc_MO_init_100 : decode bc_MO_init 100 = .ok (.bipush 16, 2) := by decide +kernel
theorem dc_MO_init_102 : decode bc_MO_init 102 = .ok (.bipush (-14), 2) := by decide +kernel
theorem dc_MO_init_104 : decode bc_MO_init 104 = .ok (.iastore, 1) := by decide +kernel
theorem dc_MO_init_105 : decode bc_MO_init 105 = .ok (.dup, 1) := by decide +kernel
theorem dc_MO_init_106 : decode bc_MO_init 106 = .ok (.bipush 17, 2) := by decide +kernel
theorem dc_MO_init_108 : decode bc_MO_init 108 = .ok (.bipush (-13), 2) := by decide +kernel
theorem dc_MO_init_110 : decode bc_MO_init 110 = .ok (.iastore, 1) := by decide +kernel
theorem dc_MO_init_111 : decode bc_MO_init 111 = .ok (.dup, 1) := by decide +kernel
theorem dc_MO_init_112 : decode bc_MO_init 112 = .ok (.bipush 18, 2) := by decide +kernel
theorem dc_MO_init_114 : decode bc_MO_init 114 = .ok (.bipush (-14), 2) := by decide +kernel
theorem dc_MO_init_116 : decode bc_MO_init 116 = .ok (.iastore, 1) := by decide +kernel
theorem dc_MO_init_117 : decode bc_MO_init 117 = .ok (.dup, 1) := by decide +kernel
theorem dc_MO_init_118 : decode bc_MO_init 118 = .ok (.bipush 19, 2) := by decide +kernel
theorem dc_MO_init_120 : decode bc_MO_init 120 = .ok (.bipush (-15), 2) := by decide +kernel
theorem dc_MO_init_122 : decode bc_MO_init 122 = .ok (.iastore, 1) := by decide +kernel
theorem dc_MO_init_123 : decode bc_MO_init 123 = .ok (.dup, 1) := by decide +kernel
theorem dc_MO_init_124 : decode bc_MO_init 124 = .ok (.bipush 20, 2) := by decide +kernel
theorem dc_MO_init_126 : decode bc_MO_init 126 = .ok (.bipush (-5), 2) := by decide +kernel
theorem dc_MO_init_128 : decode bc_MO_init 128 = .ok (.iastore, 1) := by decide +kernel
theorem dc_MO_init_129 : decode bc_MO_init 129 = .ok (.dup, 1) := by decide +kernel
theorem dc_MO_init_130 : decode bc_MO_init 130 = .ok (.bipush 21, 2) := by decide +kernel
theorem dc_MO_init_132 : decode bc_MO_init 132 = .ok (.iconst 3, 1) := by decide +kernel
theorem dc_MO_init_133 : decode bc_MO_init 133 = .ok (.iastore, 1) := by decide +kernel
theorem dc_MO_init_134 : decode bc_MO_init 134 = .ok (.dup, 1) := by decide +kernel
theorem dc_MO_init_135 : decode bc_MO_init 135 = .ok (.bipush 22, 2) := by decide +kernel
theorem dc_MO_init_137 : decode bc_MO_init 137 = .ok (.bipush (-6), 2) := by decide +kernel
theorem dc_MO_init_139 : decode bc_MO_init 139 = .ok (.iastore, 1) := by decide +kernel
theorem dc_MO_init_140 : decode bc_MO_init 140 = .ok (.dup, 1) := by decide +kernel
theorem dc_MO_init_141 : decode bc_MO_init 141 = .ok (.bipush 23, 2) := by decide +kernel
theorem dc_MO_init_143 : decode bc_MO_init 143 = .ok (.bipush (-10), 2) := by decide +kernel
theorem dc_MO_init_145 : decode bc_MO_init 145 = .ok (.iastore, 1) := by decide +kernel
theorem dc_MO_init_146 : decode bc_MO_init 146 = .ok (.dup, 1) := by decide +kernel
theorem dc_MO_init_147 : decode bc_MO_init 147 = .ok (.bipush 24, 2) := by decide +kernel
theorem dc_MO_init_149 : decode bc_MO_init 149 = .ok (.bipush (-21), 2) := by decide +kernel
theorem dc_MO_init_151 : decode bc_MO_init 151 = .ok (.iastore, 1) := by decide +kernel
theorem dc_MO_init_152 : decode bc_MO_init 152 = .ok (.dup, 1) := by decide +kernel
theorem dc_MO_init_153 : decode bc_MO_init 153 = .ok (.bipush 25, 2) := by decide +kernel
theorem dc_MO_init_155 : decode bc_MO_init 155 = .ok (.bipush (-22), 2) := by decide +kernel
theorem dc_MO_init_157 : decode bc_MO_init 157 = .ok (.iastore, 1) := by decide +kernel
theorem dc_MO_init_158 : decode bc_MO_init 158 = .ok (.dup, 1) := by decide +kernel
theorem dc_MO_init_159 : decode bc_MO_init 159 = .ok (.bipush 26, 2) := by decide +kernel
theorem dc_MO_init_161 : decode bc_MO_init 161 = .ok (.bipush (-14), 2) := by decide +kernel
theorem dc_MO_init_163 : decode bc_MO_init 163 = .ok (.iastore, 1) := by decide +kernel
theorem dc_MO_init_164 : decode bc_MO_init 164 = .ok (.dup, 1) := by decide +kernel
theorem dc_MO_init_165 : decode bc_MO_init 165 = .ok (.bipush 27, 2) := by decide +kernel
theorem dc_MO_init_167 : decode bc_MO_init 167 = .ok (.bipush (-6), 2) := by decide +kernel
theorem dc_MO_init_169 : decode bc_MO_init 169 = .ok (.iastore, 1) := by decide +kernel
theorem dc_MO_init_170 : decode bc_MO_init 170 = .ok (.dup, 1) := by decide +kernel
theorem dc_MO_init_171 : decode bc_MO_init 171 = .ok (.bipush 28, 2) := by decide +kernel
theorem dc_MO_init_173 : decode bc_MO_init 173 = .ok (.bipush (-11), 2) := by decide +kernel
theorem dc_MO_init_175 : decode bc_MO_init 175 = .ok (.iastore, 1) := by decide +kernel
theorem dc_MO_init_176 : decode bc_MO_init 176 = .ok (.dup, 1) := by decide +kernel
theorem dc_MO_init_177 : decode bc_MO_init 177 = .ok (.bipush 29, 2) := by decide +kernel
theorem dc_MO_init_179 : decode bc_MO_init 179 = .ok (.bipush (-9), 2) := by decide +kernel
theorem dc_MO_init_181 : decode bc_MO_init 181 = .ok (.iastore, 1) := by decide +kernel
theorem dc_MO_init_182 : decode bc_MO_init 182 = .ok (.dup, 1) := by decide +kernel
theorem dc_MO_init_183 : decode bc_MO_init 183 = .ok (.bipush 30, 2) := by decide +kernel
theorem dc_MO_init_185 : decode bc_MO_init 185 = .ok (.bipush (-21), 2) := by decide +kernel
theorem dc_MO_init_187 : decode bc_MO_init 187 = .ok (.iastore, 1) := by decide +kernel
theorem dc_MO_init_188 : decode bc_MO_init 188 = .ok (.dup, 1) := by decide +kernel
theorem dc_MO_init_189 : decode bc_MO_init 189 = .ok (.bipush 31, 2) := by decide +kernel
theorem dc_MO_init_191 : decode bc_MO_init 191 = .ok (.bipush (-24), 2) := by decide +kernel
theorem dc_MO_init_193 : decode bc_MO_init 193 = .ok (.iastore, 1) := by decide +kernel
theorem dc_MO_init_194 : decode bc_MO_init 194 = .ok (.dup, 1) := by decide +kernel
theorem dc_MO_init_195 : decode bc_MO_init 195 = .ok (.bipush 32, 2) := by decide +kernel
theorem dc_MO_init_197 : decode bc_MO_init 197 = .ok (.bipush (-13), 2) := by decide +kernel
theorem dc_MO_init_199 : decode bc_MO_init 199 = .ok (.iastore, 1) := by decide +kernel
theorem dc_MO_init_200 : decode bc_MO_init 200 = .ok (.dup, 1) := by decide +kernel
theorem dc_MO_init_201 : decode bc_MO_init 201 = .ok (.bipush 33, 2) := by decide +kernel
theorem dc_MO_init_203 : decode bc_MO_init 203 = .ok (.bipush (-10), 2) := by decide +kernel
theorem dc_MO_init_205 : decode bc_MO_init 205 = .ok (.iastore, 1) := by decide +kernel
theorem dc_MO_init_206 : decode bc_MO_init 206 = .ok (.dup, 1) := by decide +kernel
theorem dc_MO_init_207 : decode bc_MO_init 207 = .ok (.bipush 34, 2) := by decide +kernel
theorem dc_MO_init_209 : decode bc_MO_init 209 = .ok (.bipush (-9), 2) := by decide +kernel
theorem dc_MO_init_211 : decode bc_MO_init 211 = .ok (.iastore, 1) := by decide +kernel
theorem dc_MO_init_212 : decode bc_MO_init 212 = .ok (.dup, 1) := by decide +kernel
theorem dc_MO_init_213 : decode bc_MO_init 213 = .ok (.bipush 35, 2) := by decide +kernel
theorem dc_MO_init_215 : decode bc_MO_init 215 = .ok (.bipush (-13), 2) := by decide +kernel
theorem dc_MO_init_217 : decode bc_MO_init 217 = .ok (.iastore, 1) := by decide +kernel
theorem dc_MO_init_218 : decode bc_MO_init 218 = .ok (.putfield 7, 3) := by decide +kernel
theorem dc_MO_init_221 : decode bc_MO_init 221 = .ok (.aload_n 0, 1) := by decide +kernel
theorem dc_MO_init_222 : decode bc_MO_init 222 = .ok (.bipush 18, 2) := by decide +kernel
theorem dc_MO_init_224 : decode bc_MO_init 224 = .ok (.newarray .int, 2) := by decide +kernel
theorem dc_MO_init_226 : decode bc_MO_init 226 = .ok (.putfield 13, 3) := by decide +kernel
theorem dc_MO_init_229 : decode bc_MO_init 229 = .ok (.aload_n 0, 1) := by decide +kernel
theorem dc_MO_init_230 : decode bc_MO_init 230 = .ok (.bipush 20, 2) := by decide +kernel
theorem dc_MO_init_232 : decode bc_MO_init 232 = .ok (.newarray .int, 2) := by decide +kernel
theorem dc_MO_init_234 : decode bc_MO_init 234 = .ok (.putfield 16, 3) := by decide +kernel
theorem dc_MO_init_237 : decode bc_MO_init 237 = .ok (.aload_n 0, 1) := by decide +kernel
theorem dc_MO_init_238 : decode bc_MO_init 238 = .ok (.bipush 18, 2) := by decide +kernel
theorem dc_MO_init_240 : decode bc_MO_init 240 = .ok (.newarray .int, 2) := by decide +kernel
theorem dc_MO_init_242 : decode bc_MO_init 242 = .ok (.putfield 19, 3) := by decide +kernel
theorem dc_MO_init_245 : decode bc_MO_init 245 = .ok (.aload_n 0, 1) := by decide +kernel
theorem dc_MO_init_246 : decode bc_MO_init 246 = .ok (.bipush 18, 2) := by decide +kernel
theorem dc_MO_init_248 : decode bc_MO_init 248 = .ok (.newarray .int, 2) := by decide +kernel
theorem dc_MO_init_250 : decode bc_MO_init 250 = .ok (.putfield 22, 3) := by decide +kernel
theorem dc_MO_init_253 : decode bc_MO_init 253 = .ok (.aload_n 0, 1) := by decide +kernel
theorem dc_MO_init_254 : decode bc_MO_init 254 = .ok (.sipush 151, 3) := by decide +kernel
theorem dc_MO_init_257 : decode bc_MO_init 257 = .ok (.newarray .int, 2) := by decide +kernel
theorem dc_MO_init_259 : decode bc_MO_init 259 = .ok (.putfield 25, 3) := by decide +kernel
theorem dc_MO_init_262 : decode bc_MO_init 262 = .ok (.aload_n 0, 1) := by decide +kernel
theorem dc_MO_init_263 : decode bc_MO_init 263 = .ok (.sipush 2718, 3) := by decide +kernel
theorem dc_MO_init_266 : decode bc_MO_init 266 = .ok (.newarray .int, 2) := by decide +kernel
theorem dc_MO_init_268 : decode bc_MO_init 268 = .ok (.putfield 28, 3) := by decide +kernel
theorem dc_MO_init_271 : decode bc_MO_init 271 = .ok (.aload_n 0, 1) := by decide +kernel
theorem dc_MO_init_272 : decode bc_MO_init 272 = .ok (.invokevirtual 31, 3) := by decide +kernel
theorem dc_MO_init_275 : decode bc_MO_init 275 = .ok (.return_, 1) := by decide +kernel
section INI
variable (l : Launch) {K : Nat → ClassId} {sa : Nat → Nat} {ad : Nat → Nat}
theorem c_MO_init : jl_CN l K sa yn_MO_init bc_MO_init 1 1 21 7 2979 161 ad [.ref (ad 160)] (gu K ad vz (va_up (fun _ => none) 160 (some (.inr (7, [.null, .int 0, .null, .int 0, .null, .null, .null, .int 0, .int 0, .int 0, .int 0, .int 0, .null, .null]))))) 168 (fun ad2 => gw K ad2 (va_up (va_up (fun _ => 0) 17 0) 13 0) vzm (fun _ => 0) (fun _ => 0) gz_G (fun _ => 64)) := by
  refine jl_enterN (by decide) rfl (Nat.le_of_ble_eq_true rfl) (fun x h he hxV hr => ?_)
  have hg : ∀ k, k < 161 → ad k = ad k := fun _ _ => rfl
  show jl_J x 161 ad 0 0 (gu K ad vz (va_up (fun _ => none) 160 (some (.inr (7, [.null, .int 0, .null, .int 0, .null, .null, .null, .int 0, .int 0, .int 0, .int 0, .int 0, .null, .null]))))) 0 [(0, .ref (ad 160))] []
  refine jl_aload_n (i := 0) h rfl rfl dc_MO_init_0 1 rfl ?_
  refine jl_oinit h (hr.le (by decide) (by decide)) wo_MO (by omega) (by omega) (Nat.le_of_ble_eq_true rfl) dc_MO_init_1 4 rfl ?_
  refine jl_aload_n (i := 0) h rfl rfl dc_MO_init_4 5 rfl ?_
  refine jl_bipush (v := 36) h (by decide) dc_MO_init_5 7 rfl ?_
  refine jl_newi (len := 36) h (hr.le (by decide) (by decide)) wa_int [160] ⟨rfl, trivial⟩ (by decide +kernel) (vz_hi (by decide)) rfl ⟨rfl, rfl⟩ (by decide) (by decide) (by decide) dc_MO_init_7 9 rfl (fun ad2 hag h => ?_)
  simp only [← hag 160 (by decide)]
  have hg := jl_ag hg hag (by decide)
  refine jl_dup h rfl dc_MO_init_9 10 rfl ?_
  refine jl_iconst (v := nI 0) h (by decide) dc_MO_init_10 11 rfl ?_
  refine jl_bipush (v := -24) h (by decide) dc_MO_init_11 13 rfl ?_
  refine jl_iast h (0) (by exact rfl) (by omega) (by exact gu_row rfl ⟨rfl, rfl⟩) (by exact by decide) (by first | decide | assumption) dc_MO_init_13 ((gu_set rfl ⟨rfl, rfl⟩).trans (congrArg (fun f => gu K ad2 (va_up vz 161 f) _) (show upd (vz 161) 0 (-24) = sq 1 by rw [vz_hi (by decide)]; exact sq_s (m := 0) (by decide)))) 14 rfl ?_
  refine jl_dup h rfl dc_MO_init_14 15 rfl ?_
  refine jl_iconst (v := nI 1) h (by decide) dc_MO_init_15 16 rfl ?_
  refine jl_bipush (v := -33) h (by decide) dc_MO_init_16 18 rfl ?_
  refine jl_iast h (1) (by exact rfl) (by omega) (by exact gu_row2 rfl ⟨rfl, rfl⟩) (by exact by decide) (by first | decide | assumption) dc_MO_init_18 (gu_set2 rfl ⟨rfl, rfl⟩ (sq_s (m := 1) (by decide))) 19 rfl ?_
  refine jl_dup h rfl dc_MO_init_19 20 rfl ?_
  refine jl_iconst (v := nI 2) h (by decide) dc_MO_init_20 21 rfl ?_
  refine jl_bipush (v := -21) h (by decide) dc_MO_init_21 23 rfl ?_
  refine jl_iast h (2) (by exact rfl) (by omega) (by exact gu_row2 rfl ⟨rfl, rfl⟩) (by exact by decide) (by first | decide | assumption) dc_MO_init_23 (gu_set2 rfl ⟨rfl, rfl⟩ (sq_s (m := 2) (by decide))) 24 rfl ?_
  refine jl_dup h rfl dc_MO_init_24 25 rfl ?_
  refine jl_iconst (v := nI 3) h (by decide) dc_MO_init_25 26 rfl ?_
  refine jl_bipush (v := -14) h (by decide) dc_MO_init_26 28 rfl ?_
  refine jl_iast h (3) (by exact rfl) (by omega) (by exact gu_row2 rfl ⟨rfl, rfl⟩) (by exact by decide) (by first | decide | assumption) dc_MO_init_28 (gu_set2 rfl ⟨rfl, rfl⟩ (sq_s (m := 3) (by decide))) 29 rfl ?_
  refine jl_dup h rfl dc_MO_init_29 30 rfl ?_
  refine jl_iconst (v := nI 4) h (by decide) dc_MO_init_30 31 rfl ?_
  refine jl_bipush (v := -21) h (by decide) dc_MO_init_31 33 rfl ?_
  refine jl_iast h (4) (by exact rfl) (by omega) (by exact gu_row2 rfl ⟨rfl, rfl⟩) (by exact by decide) (by first | decide | assumption) dc_MO_init_33 (gu_set2 rfl ⟨rfl, rfl⟩ (sq_s (m := 4) (by decide))) 34 rfl ?_
  refine jl_dup h rfl dc_MO_init_34 35 rfl ?_
  refine jl_iconst (v := nI 5) h (by decide) dc_MO_init_35 36 rfl ?_
  refine jl_bipush (v := -21) h (by decide) dc_MO_init_36 38 rfl ?_
  refine jl_iast h (5) (by exact rfl) (by omega) (by exact gu_row2 rfl ⟨rfl, rfl⟩) (by exact by decide) (by first | decide | assumption) dc_MO_init_38 (gu_set2 rfl ⟨rfl, rfl⟩ (sq_s (m := 5) (by decide))) 39 rfl ?_
  refine jl_dup h rfl dc_MO_init_39 40 rfl ?_
  refine jl_bipush (v := nI 6) h (by decide) dc_MO_init_40 42 rfl ?_
  refine jl_bipush (v := -33) h (by decide) dc_MO_init_42 44 rfl ?_
  refine jl_iast h (6) (by exact rfl) (by omega) (by exact gu_row2 rfl ⟨rfl, rfl⟩) (by exact by decide) (by first | decide | assumption) dc_MO_init_44 (gu_set2 rfl ⟨rfl, rfl⟩ (sq_s (m := 6) (by decide))) 45 rfl ?_
  refine jl_dup h rfl dc_MO_init_45 46 rfl ?_
  refine jl_bipush (v := nI 7) h (by decide) dc_MO_init_46 48 rfl ?_
  refine jl_bipush (v := -34) h (by decide) dc_MO_init_48 50 rfl ?_
  refine jl_iast h (7) (by exact rfl) (by omega) (by exact gu_row2 rfl ⟨rfl, rfl⟩) (by exact by decide) (by first | decide | assumption) dc_MO_init_50 (gu_set2 rfl ⟨rfl, rfl⟩ (sq_s (m := 7) (by decide))) 51 rfl ?_
  refine jl_dup h rfl dc_MO_init_51 52 rfl ?_
  refine jl_bipush (v := nI 8) h (by decide) dc_MO_init_52 54 rfl ?_
  refine jl_bipush (v := -25) h (by decide) dc_MO_init_54 56 rfl ?_
  refine jl_iast h (8) (by exact rfl) (by omega) (by exact gu_row2 rfl ⟨rfl, rfl⟩) (by exact by decide) (by first | decide | assumption) dc_MO_init_56 (gu_set2 rfl ⟨rfl, rfl⟩ (sq_s (m := 8) (by decide))) 57 rfl ?_
  refine jl_dup h rfl dc_MO_init_57 58 rfl ?_
  refine jl_bipush (v := nI 9) h (by decide) dc_MO_init_58 60 rfl ?_
  refine jl_bipush (v := -15) h (by decide) dc_MO_init_60 62 rfl ?_
  refine jl_iast h (9) (by exact rfl) (by omega) (by exact gu_row2 rfl ⟨rfl, rfl⟩) (by exact by decide) (by first | decide | assumption) dc_MO_init_62 (gu_set2 rfl ⟨rfl, rfl⟩ (sq_s (m := 9) (by decide))) 63 rfl ?_
  refine jl_dup h rfl dc_MO_init_63 64 rfl ?_
  refine jl_bipush (v := nI 10) h (by decide) dc_MO_init_64 66 rfl ?_
  refine jl_bipush (v := -22) h (by decide) dc_MO_init_66 68 rfl ?_
  refine jl_iast h (10) (by exact rfl) (by omega) (by exact gu_row2 rfl ⟨rfl, rfl⟩) (by exact by decide) (by first | decide | assumption) dc_MO_init_68 (gu_set2 rfl ⟨rfl, rfl⟩ (sq_s (m := 10) (by decide))) 69 rfl ?_
  refine jl_dup h rfl dc_MO_init_69 70 rfl ?_
  refine jl_bipush (v := nI 11) h (by decide) dc_MO_init_70 72 rfl ?_
  refine jl_bipush (v := -24) h (by decide) dc_MO_init_72 74 rfl ?_
  refine jl_iast h (11) (by exact rfl) (by omega) (by exact gu_row2 rfl ⟨rfl, rfl⟩) (by exact by decide) (by first | decide | assumption) dc_MO_init_74 (gu_set2 rfl ⟨rfl, rfl⟩ (sq_s (m := 11) (by decide))) 75 rfl ?_
  refine jl_dup h rfl dc_MO_init_75 76 rfl ?_
  refine jl_bipush (v := nI 12) h (by decide) dc_MO_init_76 78 rfl ?_
  refine jl_bipush (v := -21) h (by decide) dc_MO_init_78 80 rfl ?_
  refine jl_iast h (12) (by exact rfl) (by omega) (by exact gu_row2 rfl ⟨rfl, rfl⟩) (by exact by decide) (by first | decide | assumption) dc_MO_init_80 (gu_set2 rfl ⟨rfl, rfl⟩ (sq_s (m := 12) (by decide))) 81 rfl ?_
  refine jl_dup h rfl dc_MO_init_81 82 rfl ?_
  refine jl_bipush (v := nI 13) h (by decide) dc_MO_init_82 84 rfl ?_
  refine jl_bipush (v := -25) h (by decide) dc_MO_init_84 86 rfl ?_
  refine jl_iast h (13) (by exact rfl) (by omega) (by exact gu_row2 rfl ⟨rfl, rfl⟩) (by exact by decide) (by first | decide | assumption) dc_MO_init_86 (gu_set2 rfl ⟨rfl, rfl⟩ (sq_s (m := 13) (by decide))) 87 rfl ?_
  refine jl_dup h rfl dc_MO_init_87 88 rfl ?_
  refine jl_bipush (v := nI 14) h (by decide) dc_MO_init_88 90 rfl ?_
  refine jl_bipush (v := 13) h (by decide) dc_MO_init_90 92 rfl ?_
  refine jl_iast h (14) (by exact rfl) (by omega) (by exact gu_row2 rfl ⟨rfl, rfl⟩) (by exact by decide) (by first | decide | assumption) dc_MO_init_92 (gu_set2 rfl ⟨rfl, rfl⟩ (sq_s (m := 14) (by decide))) 93 rfl ?_
  refine jl_dup h rfl dc_MO_init_93 94 rfl ?_
  refine jl_bipush (v := nI 15) h (by decide) dc_MO_init_94 96 rfl ?_
  refine jl_bipush (v := -5) h (by decide) dc_MO_init_96 98 rfl ?_
  refine jl_iast h (15) (by exact rfl) (by omega) (by exact gu_row2 rfl ⟨rfl, rfl⟩) (by exact by decide) (by first | decide | assumption) dc_MO_init_98 (gu_set2 rfl ⟨rfl, rfl⟩ (sq_s (m := 15) (by decide))) 99 rfl ?_
  refine jl_dup h rfl dc_MO_init_99 100 rfl ?_
  refine jl_bipush (v := nI 16) h (by decide) dc_MO_init_100 102 rfl ?_
  refine jl_bipush (v := -14) h (by decide) dc_MO_init_102 104 rfl ?_
  refine jl_iast h (16) (by exact rfl) (by omega) (by exact gu_row2 rfl ⟨rfl, rfl⟩) (by exact by decide) (by first | decide | assumption) dc_MO_init_104 (gu_set2 rfl ⟨rfl, rfl⟩ (sq_s (m := 16) (by decide))) 105 rfl ?_
  refine jl_dup h rfl dc_MO_init_105 106 rfl ?_
  refine jl_bipush (v := nI 17) h (by decide) dc_MO_init_106 108 rfl ?_
  refine jl_bipush (v := -13) h (by decide) dc_MO_init_108 110 rfl ?_
  refine jl_iast h (17) (by exact rfl) (by omega) (by exact gu_row2 rfl ⟨rfl, rfl⟩) (by exact by decide) (by first | decide | assumption) dc_MO_init_110 (gu_set2 rfl ⟨rfl, rfl⟩ (sq_s (m := 17) (by decide))) 111 rfl ?_
  refine jl_dup h rfl dc_MO_init_111 112 rfl ?_
  refine jl_bipush (v := nI 18) h (by decide) dc_MO_init_112 114 rfl ?_
  refine jl_bipush (v := -14) h (by decide) dc_MO_init_114 116 rfl ?_
  refine jl_iast h (18) (by exact rfl) (by omega) (by exact gu_row2 rfl ⟨rfl, rfl⟩) (by exact by decide) (by first | decide | assumption) dc_MO_init_116 (gu_set2 rfl ⟨rfl, rfl⟩ (sq_s (m := 18) (by decide))) 117 rfl ?_
  refine jl_dup h rfl dc_MO_init_117 118 rfl ?_
  refine jl_bipush (v := nI 19) h (by decide) dc_MO_init_118 120 rfl ?_
  refine jl_bipush (v := -15) h (by decide) dc_MO_init_120 122 rfl ?_
  refine jl_iast h (19) (by exact rfl) (by omega) (by exact gu_row2 rfl ⟨rfl, rfl⟩) (by exact by decide) (by first | decide | assumption) dc_MO_init_122 (gu_set2 rfl ⟨rfl, rfl⟩ (sq_s (m := 19) (by decide))) 123 rfl ?_
  refine jl_dup h rfl dc_MO_init_123 124 rfl ?_
  refine jl_bipush (v := nI 20) h (by decide) dc_MO_init_124 126 rfl ?_
  refine jl_bipush (v := -5) h (by decide) dc_MO_init_126 128 rfl ?_
  refine jl_iast h (20) (by exact rfl) (by omega) (by exact gu_row2 rfl ⟨rfl, rfl⟩) (by exact by decide) (by first | decide | assumption) dc_MO_init_128 (gu_set2 rfl ⟨rfl, rfl⟩ (sq_s (m := 20) (by decide))) 129 rfl ?_
  refine jl_dup h rfl dc_MO_init_129 130 rfl ?_
  refine jl_bipush (v := nI 21) h (by decide) dc_MO_init_130 132 rfl ?_
  refine jl_iconst (v := 3) h (by decide) dc_MO_init_132 133 rfl ?_
  refine jl_iast h (21) (by exact rfl) (by omega) (by exact gu_row2 rfl ⟨rfl, rfl⟩) (by exact by decide) (by first | decide | assumption) dc_MO_init_133 (gu_set2 rfl ⟨rfl, rfl⟩ (sq_s (m := 21) (by decide))) 134 rfl ?_
  refine jl_dup h rfl dc_MO_init_134 135 rfl ?_
  refine jl_bipush (v := nI 22) h (by decide) dc_MO_init_135 137 rfl ?_
  refine jl_bipush (v := -6) h (by decide) dc_MO_init_137 139 rfl ?_
  refine jl_iast h (22) (by exact rfl) (by omega) (by exact gu_row2 rfl ⟨rfl, rfl⟩) (by exact by decide) (by first | decide | assumption) dc_MO_init_139 (gu_set2 rfl ⟨rfl, rfl⟩ (sq_s (m := 22) (by decide))) 140 rfl ?_
  refine jl_dup h rfl dc_MO_init_140 141 rfl ?_
  refine jl_bipush (v := nI 23) h (by decide) dc_MO_init_141 143 rfl ?_
  refine jl_bipush (v := -10) h (by decide) dc_MO_init_143 145 rfl ?_
  refine jl_iast h (23) (by exact rfl) (by omega) (by exact gu_row2 rfl ⟨rfl, rfl⟩) (by exact by decide) (by first | decide | assumption) dc_MO_init_145 (gu_set2 rfl ⟨rfl, rfl⟩ (sq_s (m := 23) (by decide))) 146 rfl ?_
  refine jl_dup h rfl dc_MO_init_146 147 rfl ?_
  refine jl_bipush (v := nI 24) h (by decide) dc_MO_init_147 149 rfl ?_
  refine jl_bipush (v := -21) h (by decide) dc_MO_init_149 151 rfl ?_
  refine jl_iast h (24) (by exact rfl) (by omega) (by exact gu_row2 rfl ⟨rfl, rfl⟩) (by exact by decide) (by first | decide | assumption) dc_MO_init_151 (gu_set2 rfl ⟨rfl, rfl⟩ (sq_s (m := 24) (by decide))) 152 rfl ?_
  refine jl_dup h rfl dc_MO_init_152 153 rfl ?_
  refine jl_bipush (v := nI 25) h (by decide) dc_MO_init_153 155 rfl ?_
  refine jl_bipush (v := -22) h (by decide) dc_MO_init_155 157 rfl ?_
  refine jl_iast h (25) (by exact rfl) (by omega) (by exact gu_row2 rfl ⟨rfl, rfl⟩) (by exact by decide) (by first | decide | assumption) dc_MO_init_157 (gu_set2 rfl ⟨rfl, rfl⟩ (sq_s (m := 25) (by decide))) 158 rfl ?_
  refine jl_dup h rfl dc_MO_init_158 159 rfl ?_
  refine jl_bipush (v := nI 26) h (by decide) dc_MO_init_159 161 rfl ?_
  refine jl_bipush (v := -14) h (by decide) dc_MO_init_161 163 rfl ?_
  refine jl_iast h (26) (by exact rfl) (by omega) (by exact gu_row2 rfl ⟨rfl, rfl⟩) (by exact by decide) (by first | decide | assumption) dc_MO_init_163 (gu_set2 rfl ⟨rfl, rfl⟩ (sq_s (m := 26) (by decide))) 164 rfl ?_
  refine jl_dup h rfl dc_MO_init_164 165 rfl ?_
  refine jl_bipush (v := nI 27) h (by decide) dc_MO_init_165 167 rfl ?_
  refine jl_bipush (v := -6) h (by decide) dc_MO_init_167 169 rfl ?_
  refine jl_iast h (27) (by exact rfl) (by omega) (by exact gu_row2 rfl ⟨rfl, rfl⟩) (by exact by decide) (by first | decide | assumption) dc_MO_init_169 (gu_set2 rfl ⟨rfl, rfl⟩ (sq_s (m := 27) (by decide))) 170 rfl ?_
  refine jl_dup h rfl dc_MO_init_170 171 rfl ?_
  refine jl_bipush (v := nI 28) h (by decide) dc_MO_init_171 173 rfl ?_
  refine jl_bipush (v := -11) h (by decide) dc_MO_init_173 175 rfl ?_
  refine jl_iast h (28) (by exact rfl) (by omega) (by exact gu_row2 rfl ⟨rfl, rfl⟩) (by exact by decide) (by first | decide | assumption) dc_MO_init_175 (gu_set2 rfl ⟨rfl, rfl⟩ (sq_s (m := 28) (by decide))) 176 rfl ?_
  refine jl_dup h rfl dc_MO_init_176 177 rfl ?_
  refine jl_bipush (v := nI 29) h (by decide) dc_MO_init_177 179 rfl ?_
  refine jl_bipush (v := -9) h (by decide) dc_MO_init_179 181 rfl ?_
  refine jl_iast h (29) (by exact rfl) (by omega) (by exact gu_row2 rfl ⟨rfl, rfl⟩) (by exact by decide) (by first | decide | assumption) dc_MO_init_181 (gu_set2 rfl ⟨rfl, rfl⟩ (sq_s (m := 29) (by decide))) 182 rfl ?_
  refine jl_dup h rfl dc_MO_init_182 183 rfl ?_
  refine jl_bipush (v := nI 30) h (by decide) dc_MO_init_183 185 rfl ?_
  refine jl_bipush (v := -21) h (by decide) dc_MO_init_185 187 rfl ?_
  refine jl_iast h (30) (by exact rfl) (by omega) (by exact gu_row2 rfl ⟨rfl, rfl⟩) (by exact by decide) (by first | decide | assumption) dc_MO_init_187 (gu_set2 rfl ⟨rfl, rfl⟩ (sq_s (m := 30) (by decide))) 188 rfl ?_
  refine jl_dup h rfl dc_MO_init_188 189 rfl ?_
  refine jl_bipush (v := nI 31) h (by decide) dc_MO_init_189 191 rfl ?_
  refine jl_bipush (v := -24) h (by decide) dc_MO_init_191 193 rfl ?_
  refine jl_iast h (31) (by exact rfl) (by omega) (by exact gu_row2 rfl ⟨rfl, rfl⟩) (by exact by decide) (by first | decide | assumption) dc_MO_init_193 (gu_set2 rfl ⟨rfl, rfl⟩ (sq_s (m := 31) (by decide))) 194 rfl ?_
  refine jl_dup h rfl dc_MO_init_194 195 rfl ?_
  refine jl_bipush (v := nI 32) h (by decide) dc_MO_init_195 197 rfl ?_
  refine jl_bipush (v := -13) h (by decide) dc_MO_init_197 199 rfl ?_
  refine jl_iast h (32) (by exact rfl) (by omega) (by exact gu_row2 rfl ⟨rfl, rfl⟩) (by exact by decide) (by first | decide | assumption) dc_MO_init_199 (gu_set2 rfl ⟨rfl, rfl⟩ (sq_s (m := 32) (by decide))) 200 rfl ?_
  refine jl_dup h rfl dc_MO_init_200 201 rfl ?_
  refine jl_bipush (v := nI 33) h (by decide) dc_MO_init_201 203 rfl ?_
  refine jl_bipush (v := -10) h (by decide) dc_MO_init_203 205 rfl ?_
  refine jl_iast h (33) (by exact rfl) (by omega) (by exact gu_row2 rfl ⟨rfl, rfl⟩) (by exact by decide) (by first | decide | assumption) dc_MO_init_205 (gu_set2 rfl ⟨rfl, rfl⟩ (sq_s (m := 33) (by decide))) 206 rfl ?_
  refine jl_dup h rfl dc_MO_init_206 207 rfl ?_
  refine jl_bipush (v := nI 34) h (by decide) dc_MO_init_207 209 rfl ?_
  refine jl_bipush (v := -9) h (by decide) dc_MO_init_209 211 rfl ?_
  refine jl_iast h (34) (by exact rfl) (by omega) (by exact gu_row2 rfl ⟨rfl, rfl⟩) (by exact by decide) (by first | decide | assumption) dc_MO_init_211 (gu_set2 rfl ⟨rfl, rfl⟩ (sq_s (m := 34) (by decide))) 212 rfl ?_
  refine jl_dup h rfl dc_MO_init_212 213 rfl ?_
  refine jl_bipush (v := nI 35) h (by decide) dc_MO_init_213 215 rfl ?_
  refine jl_bipush (v := -13) h (by decide) dc_MO_init_215 217 rfl ?_
  refine jl_iast h (35) (by exact rfl) (by omega) (by exact gu_row2 rfl ⟨rfl, rfl⟩) (by exact by decide) (by first | decide | assumption) dc_MO_init_217 (gu_set2 rfl ⟨rfl, rfl⟩ (sq_s (m := 35) (by decide))) 218 rfl ?_
  refine jl_putF he (fs2 := [_, _, _, _, _, _, _, _, _, _, _, _, _, _]) h nm_c_MO 0 wl_MO_7 (by omega) (by decide) rfl rfl (by exact rfl) (by rfl) (by rfl) (by exact Nat.le_of_ble_eq_true rfl) (by rfl) dc_MO_init_218 gu_up2 221 rfl ?_
  refine jl_aload_n (i := 0) h rfl rfl dc_MO_init_221 222 rfl ?_
  refine jl_bipush (v := 18) h (by decide) dc_MO_init_222 224 rfl ?_
  refine jl_newi (len := 18) h (hr.le (by decide) (by decide)) wa_int [160] ⟨rfl, trivial⟩ (by decide +kernel) ((va_up_ne _ _ (by decide)).trans (vz_hi (by decide))) rfl ⟨rfl, rfl⟩ (by decide) (by decide) (by decide) dc_MO_init_224 226 rfl (fun ad2 hag h => ?_)
  simp only [← hag 160 (by decide), ← hag 161 (by decide)]
  have hg := jl_ag hg hag (by decide)
  refine jl_putF he (fs2 := [_, _, _, _, _, _, _, _, _, _, _, _, _, _]) h nm_c_MO 2 wl_MO_13 (by omega) (by decide) rfl rfl (by exact rfl) (by rfl) (by rfl) (by exact Nat.le_of_ble_eq_true rfl) (by rfl) dc_MO_init_226 gu_up2 229 rfl ?_
  refine jl_aload_n (i := 0) h rfl rfl dc_MO_init_229 230 rfl ?_
  refine jl_bipush (v := 20) h (by decide) dc_MO_init_230 232 rfl ?_
  refine jl_newi (len := 20) h (hr.le (by decide) (by decide)) wa_int [160] ⟨rfl, trivial⟩ (by decide +kernel) ((va_up_ne _ _ (by decide)).trans (vz_hi (by decide))) rfl ⟨rfl, rfl⟩ (by decide) (by decide) (by decide) dc_MO_init_232 234 rfl (fun ad2 hag h => ?_)
  simp only [← hag 160 (by decide), ← hag 161 (by decide), ← hag 162 (by decide)]
  have hg := jl_ag hg hag (by decide)
  refine jl_putF he (fs2 := [_, _, _, _, _, _, _, _, _, _, _, _, _, _]) h nm_c_MO 4 wl_MO_16 (by omega) (by decide) rfl rfl (by exact rfl) (by rfl) (by rfl) (by exact Nat.le_of_ble_eq_true rfl) (by rfl) dc_MO_init_234 gu_up2 237 rfl ?_
  refine jl_aload_n (i := 0) h rfl rfl dc_MO_init_237 238 rfl ?_
  refine jl_bipush (v := 18) h (by decide) dc_MO_init_238 240 rfl ?_
  refine jl_newi (len := 18) h (hr.le (by decide) (by decide)) wa_int [160] ⟨rfl, trivial⟩ (by decide +kernel) ((va_up_ne _ _ (by decide)).trans (vz_hi (by decide))) rfl ⟨rfl, rfl⟩ (by decide) (by decide) (by decide) dc_MO_init_240 242 rfl (fun ad2 hag h => ?_)
  simp only [← hag 160 (by decide), ← hag 161 (by decide), ← hag 162 (by decide), ← hag 163 (by decide)]
  have hg := jl_ag hg hag (by decide)
  refine jl_putF he (fs2 := [_, _, _, _, _, _, _, _, _, _, _, _, _, _]) h nm_c_MO 5 wl_MO_19 (by omega) (by decide) rfl rfl (by exact rfl) (by rfl) (by rfl) (by exact Nat.le_of_ble_eq_true rfl) (by rfl) dc_MO_init_242 gu_up2 245 rfl ?_
  refine jl_aload_n (i := 0) h rfl rfl dc_MO_init_245 246 rfl ?_
  refine jl_bipush (v := 18) h (by decide) dc_MO_init_246 248 rfl ?_
  refine jl_newi (len := 18) h (hr.le (by decide) (by decide)) wa_int [160] ⟨rfl, trivial⟩ (by decide +kernel) ((va_up_ne _ _ (by decide)).trans (vz_hi (by decide))) rfl ⟨rfl, rfl⟩ (by decide) (by decide) (by decide) dc_MO_init_248 250 rfl (fun ad2 hag h => ?_)
  simp only [← hag 160 (by decide), ← hag 161 (by decide), ← hag 162 (by decide), ← hag 163 (by decide), ← hag 164 (by decide)]
  have hg := jl_ag hg hag (by decide)
  refine jl_putF he (fs2 := [_, _, _, _, _, _, _, _, _, _, _, _, _, _]) h nm_c_MO 6 wl_MO_22 (by omega) (by decide) rfl rfl (by exact rfl) (by rfl) (by rfl) (by exact Nat.le_of_ble_eq_true rfl) (by rfl) dc_MO_init_250 gu_up2 253 rfl ?_
  refine jl_aload_n (i := 0) h rfl rfl dc_MO_init_253 254 rfl ?_
  refine jl_sipush (v := 151) h (by decide) dc_MO_init_254 257 rfl ?_
  refine jl_newi (len := 151) h (hr.le (by decide) (by decide)) wa_int [160] ⟨rfl, trivial⟩ (by decide +kernel) ((va_up_ne _ _ (by decide)).trans (vz_hi (by decide))) rfl ⟨rfl, rfl⟩ (by decide) (by decide) (by decide) dc_MO_init_257 259 rfl (fun ad2 hag h => ?_)
  simp only [← hag 160 (by decide), ← hag 161 (by decide), ← hag 162 (by decide), ← hag 163 (by decide), ← hag 164 (by decide), ← hag 165 (by decide)]
  have hg := jl_ag hg hag (by decide)
  refine jl_putF he (fs2 := [_, _, _, _, _, _, _, _, _, _, _, _, _, _]) h nm_c_MO 12 wl_MO_25 (by omega) (by decide) rfl rfl (by exact rfl) (by rfl) (by rfl) (by exact Nat.le_of_ble_eq_true rfl) (by rfl) dc_MO_init_259 gu_up2 262 rfl ?_
  refine jl_aload_n (i := 0) h rfl rfl dc_MO_init_262 263 rfl ?_
  refine jl_sipush (v := 2718) h (by decide) dc_MO_init_263 266 rfl ?_
  refine jl_newi (len := 2718) h (hr.le (by decide) (by decide)) wa_int [160] ⟨rfl, trivial⟩ (by decide +kernel) ((va_up_ne _ _ (by decide)).trans (vz_hi (by decide))) rfl ⟨rfl, rfl⟩ (by decide) (by decide) (by decide) dc_MO_init_266 268 rfl (fun ad2 hag h => ?_)
  simp only [← hag 160 (by decide), ← hag 161 (by decide), ← hag 162 (by decide), ← hag 163 (by decide), ← hag 164 (by decide), ← hag 165 (by decide), ← hag 166 (by decide)]
  have hg := jl_ag hg hag (by decide)
  refine jl_putF he (fs2 := [_, _, _, _, _, _, _, _, _, _, _, _, _, _]) h nm_c_MO 13 wl_MO_28 (by omega) (by decide) rfl rfl (by exact rfl) (by rfl) (by rfl) (by exact Nat.le_of_ble_eq_true rfl) (by rfl) dc_MO_init_268 gu_up2 271 rfl ?_
  refine jl_reE (E2 := gw K ad2 (fun _ => 0) (va_up vz 161 (sq 36)) (fun _ => 0) (fun _ => 0) gz_G (fun _ => 64)) (fun k _ => congrFun (gu_fin rfl rfl) k) ?_
  refine jl_aload_n (i := 0) h rfl rfl dc_MO_init_271 272 rfl ?_
  refine jl_callV (As := []) (rest := []) h hr vs_MO_31 vi_MO_clearOwn vx_MO_clearOwn (ci := 7) rfl (by omega) (by exact rfl) (fun l => c_MO_clearOwn l) (by first | decide | omega) (by first | decide | omega) rfl rfl (Nat.le_of_ble_eq_true rfl) dc_MO_init_272 (res := []) rfl 275 rfl ?_
  exact jl_vretN h he (by decide) hg (fun k _ => rfl) dc_MO_init_275
end INI

