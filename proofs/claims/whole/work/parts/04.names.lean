/-! Names: the classes of the world, the words, the static tables. Written by wip/whole/gennames.py. -/
def nm_F_FS : u_T := fun k => match k with
  | 0 => ("FoldedStrand", "strand", "LFoldedStrand$Strand;", true)
  | 1 => ("FoldedStrand", "folds", "LFoldedStrand$Folds;", true)
  | 2 => ("FoldedStrand", "nearList", "LFoldedStrand$NearList;", true)
  | 3 => ("FoldedStrand", "typed", "[C", true)
  | 4 => ("FoldedStrand", "typedCount", "I", false)
  | 5 => ("FoldedStrand", "structure", "LFoldedStrand$Structure;", false)
  | _ => ("FoldedStrand", "draft", "LFoldedStrand$Structure;", false)
def nm_t_FS : Nat → FieldType := fun k => match k with
  | 0 => .object "FoldedStrand$Strand"
  | 1 => .object "FoldedStrand$Folds"
  | 2 => .object "FoldedStrand$NearList"
  | 3 => .array .char
  | 4 => .int
  | 5 => .object "FoldedStrand$Structure"
  | _ => .object "FoldedStrand$Structure"
def nm_F_ST : u_T := fun k => match k with
  | 0 => ("FoldedStrand$Strand", "bases", "[I", true)
  | _ => ("FoldedStrand$Strand", "size", "I", false)
def nm_t_ST : Nat → FieldType := fun k => match k with
  | 0 => .array .int
  | _ => .int
def nm_F_LO : u_T := fun k => match k with
  | _ => ("FoldedStrand$Loops", "strand", "LFoldedStrand$Strand;", true)
def nm_t_LO : Nat → FieldType := fun k => match k with
  | _ => .object "FoldedStrand$Strand"
def nm_F_FO : u_T := fun k => match k with
  | 0 => ("FoldedStrand$Folds", "outside", "LFoldedStrand$Region;", true)
  | 1 => ("FoldedStrand$Folds", "twoBranches", "LFoldedStrand$Region;", true)
  | 2 => ("FoldedStrand$Folds", "pairEnergies", "[[I", true)
  | 3 => ("FoldedStrand$Folds", "oneBranch", "LFoldedStrand$Region;", true)
  | 4 => ("FoldedStrand$Folds", "anyBranches", "LFoldedStrand$Region;", true)
  | 5 => ("FoldedStrand$Folds", "counts", "[[I", true)
  | 6 => ("FoldedStrand$Folds", "pairs", "[[I", true)
  | 7 => ("FoldedStrand$Folds", "strand", "LFoldedStrand$Strand;", true)
  | _ => ("FoldedStrand$Folds", "loops", "LFoldedStrand$Loops;", true)
def nm_t_FO : Nat → FieldType := fun k => match k with
  | 0 => .object "FoldedStrand$Region"
  | 1 => .object "FoldedStrand$Region"
  | 2 => .array (.array .int)
  | 3 => .object "FoldedStrand$Region"
  | 4 => .object "FoldedStrand$Region"
  | 5 => .array (.array .int)
  | 6 => .array (.array .int)
  | 7 => .object "FoldedStrand$Strand"
  | _ => .object "FoldedStrand$Loops"
def nm_F_RE : u_T := fun k => match k with
  | 0 => ("FoldedStrand$Region", "perPlace", "I", true)
  | 1 => ("FoldedStrand$Region", "perPair", "I", true)
  | 2 => ("FoldedStrand$Region", "leastEnergies", "[[I", true)
  | _ => ("FoldedStrand$Region", "next", "LFoldedStrand$Region;", true)
def nm_t_RE : Nat → FieldType := fun k => match k with
  | 0 => .int
  | 1 => .int
  | 2 => .array (.array .int)
  | _ => .object "FoldedStrand$Region"
def nm_F_NL : u_T := fun k => match k with
  | 0 => ("FoldedStrand$NearList", "keys", "[J", true)
  | 1 => ("FoldedStrand$NearList", "count", "I", false)
  | 2 => ("FoldedStrand$NearList", "tooMany", "Z", false)
  | 3 => ("FoldedStrand$NearList", "limit", "I", false)
  | 4 => ("FoldedStrand$NearList", "regions", "[LFoldedStrand$Region;", true)
  | 5 => ("FoldedStrand$NearList", "starts", "[I", true)
  | 6 => ("FoldedStrand$NearList", "ends", "[I", true)
  | 7 => ("FoldedStrand$NearList", "strand", "LFoldedStrand$Strand;", true)
  | 8 => ("FoldedStrand$NearList", "loops", "LFoldedStrand$Loops;", true)
  | _ => ("FoldedStrand$NearList", "folds", "LFoldedStrand$Folds;", true)
def nm_t_NL : Nat → FieldType := fun k => match k with
  | 0 => .array .long
  | 1 => .int
  | 2 => .boolean
  | 3 => .int
  | 4 => .array (.object "FoldedStrand$Region")
  | 5 => .array .int
  | 6 => .array .int
  | 7 => .object "FoldedStrand$Strand"
  | 8 => .object "FoldedStrand$Loops"
  | _ => .object "FoldedStrand$Folds"
def nm_F_SR : u_T := fun k => match k with
  | 0 => ("FoldedStrand$Structure", "mates", "[I", true)
  | 1 => ("FoldedStrand$Structure", "opens", "[I", true)
  | 2 => ("FoldedStrand$Structure", "openCount", "I", false)
  | 3 => ("FoldedStrand$Structure", "length", "I", false)
  | 4 => ("FoldedStrand$Structure", "pairs", "I", false)
  | 5 => ("FoldedStrand$Structure", "strand", "LFoldedStrand$Strand;", true)
  | _ => ("FoldedStrand$Structure", "loops", "LFoldedStrand$Loops;", true)
def nm_t_SR : Nat → FieldType := fun k => match k with
  | 0 => .array .int
  | 1 => .array .int
  | 2 => .int
  | 3 => .int
  | 4 => .int
  | 5 => .object "FoldedStrand$Strand"
  | _ => .object "FoldedStrand$Loops"
def nm_F_MO : u_T := fun k => match k with
  | 0 => ("FoldedStrandModel", "stacks", "[I", true)
  | 1 => ("FoldedStrandModel", "n", "I", false)
  | 2 => ("FoldedStrandModel", "bases", "[I", true)
  | 3 => ("FoldedStrandModel", "typed", "I", false)
  | 4 => ("FoldedStrandModel", "typing", "[I", true)
  | 5 => ("FoldedStrandModel", "with", "[I", true)
  | 6 => ("FoldedStrandModel", "own", "[I", true)
  | 7 => ("FoldedStrandModel", "known", "Z", false)
  | 8 => ("FoldedStrandModel", "least", "I", false)
  | 9 => ("FoldedStrandModel", "most", "I", false)
  | 10 => ("FoldedStrandModel", "ways", "I", false)
  | 11 => ("FoldedStrandModel", "listed", "I", false)
  | 12 => ("FoldedStrandModel", "energies", "[I", true)
  | _ => ("FoldedStrandModel", "partners", "[I", true)
def nm_t_MO : Nat → FieldType := fun k => match k with
  | 0 => .array .int
  | 1 => .int
  | 2 => .array .int
  | 3 => .int
  | 4 => .array .int
  | 5 => .array .int
  | 6 => .array .int
  | 7 => .boolean
  | 8 => .int
  | 9 => .int
  | 10 => .int
  | 11 => .int
  | 12 => .array .int
  | _ => .array .int
abbrev jl_cl : List vw_C := [("FoldedStrand", nm_F_FS, 7), ("FoldedStrand$Strand", nm_F_ST, 2), ("FoldedStrand$Loops", nm_F_LO, 1), ("FoldedStrand$Folds", nm_F_FO, 9), ("FoldedStrand$Region", nm_F_RE, 4), ("FoldedStrand$NearList", nm_F_NL, 10), ("FoldedStrand$Structure", nm_F_SR, 7), ("FoldedStrandModel", nm_F_MO, 14)]
def jl_T : List Cond := lw_tbl.filter goodWord
theorem jl_T_of {w : Cond} (i : Nat) (h : tables_1[i]? = some w) (g : goodWord w = true) : w ∈ jl_T := List.mem_filter.mpr ⟨List.mem_append_right _ (List.mem_of_getElem? h), g⟩
theorem jl_T_sel {w : Cond} (i : Nat) (h : (k2_sels lw_privs)[i]? = some w) (g : goodWord w = true) : w ∈ jl_T := List.mem_filter.mpr ⟨List.mem_append_left _ (List.mem_of_getElem? h), g⟩
abbrev jl_tys (K : Nat → ClassId) : List (ClassId × FieldType) := [(K 0, .int), (K 1, .char), (K 2, .long), (K 3, .object "FoldedStrand$Region"), (K 4, .array .int)]
/-- a class of the world: its place, name, fields, their types -/
def jl_c (ci : Nat) (C : String) (T : u_T) (M : Nat) (ty : Nat → FieldType) : Prop := jl_cl[ci]? = some (C, T, M) ∧ (∀ w ∈ u_ws C T M, w ∈ jl_T) ∧ (∀ k, k < M → parseFieldDescriptor (T k).2.2.1 = some (ty k)) ∧ ∀ a, a < M → ∀ b, b < M → a ≠ b → (T a).2.1 ≠ (T b).2.1
theorem nm_l_FS_0 : u_lay "FoldedStrand" nm_F_FS 0 ∈ jl_T := jl_T_of 190 (by decide +kernel) (by decide +kernel)
theorem nm_l_FS_1 : u_lay "FoldedStrand" nm_F_FS 1 ∈ jl_T := jl_T_of 192 (by decide +kernel) (by decide +kernel)
theorem nm_l_FS_2 : u_lay "FoldedStrand" nm_F_FS 2 ∈ jl_T := jl_T_of 194 (by decide +kernel) (by decide +kernel)
theorem nm_l_FS_3 : u_lay "FoldedStrand" nm_F_FS 3 ∈ jl_T := jl_T_of 196 (by decide +kernel) (by decide +kernel)
theorem nm_l_FS_4 : u_lay "FoldedStrand" nm_F_FS 4 ∈ jl_T := jl_T_of 198 (by decide +kernel) (by decide +kernel)
theorem nm_l_FS_5 : u_lay "FoldedStrand" nm_F_FS 5 ∈ jl_T := jl_T_of 200 (by decide +kernel) (by decide +kernel)
theorem nm_l_FS_6 : u_lay "FoldedStrand" nm_F_FS 6 ∈ jl_T := jl_T_of 202 (by decide +kernel) (by decide +kernel)
theorem nm_w_FS : ∀ w ∈ u_ws "FoldedStrand" nm_F_FS 7, w ∈ jl_T := by
  intro w hw
  obtain ⟨j, hj, rfl⟩ := List.mem_map.mp hw
  have hj := List.mem_range.mp hj
  match j, hj with
  | 0, _ => exact nm_l_FS_0
  | 1, _ => exact nm_l_FS_1
  | 2, _ => exact nm_l_FS_2
  | 3, _ => exact nm_l_FS_3
  | 4, _ => exact nm_l_FS_4
  | 5, _ => exact nm_l_FS_5
  | 6, _ => exact nm_l_FS_6
theorem nm_c_FS : jl_c 0 "FoldedStrand" nm_F_FS 7 nm_t_FS := ⟨rfl, nm_w_FS, by decide +kernel, by decide +kernel⟩
theorem nm_l_ST_0 : u_lay "FoldedStrand$Strand" nm_F_ST 0 ∈ jl_T := jl_T_of 27 (by decide +kernel) (by decide +kernel)
theorem nm_l_ST_1 : u_lay "FoldedStrand$Strand" nm_F_ST 1 ∈ jl_T := jl_T_of 29 (by decide +kernel) (by decide +kernel)
theorem nm_w_ST : ∀ w ∈ u_ws "FoldedStrand$Strand" nm_F_ST 2, w ∈ jl_T := by
  intro w hw
  obtain ⟨j, hj, rfl⟩ := List.mem_map.mp hw
  have hj := List.mem_range.mp hj
  match j, hj with
  | 0, _ => exact nm_l_ST_0
  | 1, _ => exact nm_l_ST_1
theorem nm_c_ST : jl_c 1 "FoldedStrand$Strand" nm_F_ST 2 nm_t_ST := ⟨rfl, nm_w_ST, by decide +kernel, by decide +kernel⟩
theorem nm_l_LO_0 : u_lay "FoldedStrand$Loops" nm_F_LO 0 ∈ jl_T := jl_T_of 40 (by decide +kernel) (by decide +kernel)
theorem nm_w_LO : ∀ w ∈ u_ws "FoldedStrand$Loops" nm_F_LO 1, w ∈ jl_T := by
  intro w hw
  obtain ⟨j, hj, rfl⟩ := List.mem_map.mp hw
  have hj := List.mem_range.mp hj
  match j, hj with
  | 0, _ => exact nm_l_LO_0
theorem nm_c_LO : jl_c 2 "FoldedStrand$Loops" nm_F_LO 1 nm_t_LO := ⟨rfl, nm_w_LO, by decide +kernel, by decide +kernel⟩
theorem nm_l_FO_0 : u_lay "FoldedStrand$Folds" nm_F_FO 0 ∈ jl_T := jl_T_of 89 (by decide +kernel) (by decide +kernel)
theorem nm_l_FO_1 : u_lay "FoldedStrand$Folds" nm_F_FO 1 ∈ jl_T := jl_T_of 91 (by decide +kernel) (by decide +kernel)
theorem nm_l_FO_2 : u_lay "FoldedStrand$Folds" nm_F_FO 2 ∈ jl_T := jl_T_of 93 (by decide +kernel) (by decide +kernel)
theorem nm_l_FO_3 : u_lay "FoldedStrand$Folds" nm_F_FO 3 ∈ jl_T := jl_T_of 95 (by decide +kernel) (by decide +kernel)
theorem nm_l_FO_4 : u_lay "FoldedStrand$Folds" nm_F_FO 4 ∈ jl_T := jl_T_of 97 (by decide +kernel) (by decide +kernel)
theorem nm_l_FO_5 : u_lay "FoldedStrand$Folds" nm_F_FO 5 ∈ jl_T := jl_T_of 99 (by decide +kernel) (by decide +kernel)
theorem nm_l_FO_6 : u_lay "FoldedStrand$Folds" nm_F_FO 6 ∈ jl_T := jl_T_of 101 (by decide +kernel) (by decide +kernel)
theorem nm_l_FO_7 : u_lay "FoldedStrand$Folds" nm_F_FO 7 ∈ jl_T := jl_T_of 103 (by decide +kernel) (by decide +kernel)
theorem nm_l_FO_8 : u_lay "FoldedStrand$Folds" nm_F_FO 8 ∈ jl_T := jl_T_of 105 (by decide +kernel) (by decide +kernel)
theorem nm_w_FO : ∀ w ∈ u_ws "FoldedStrand$Folds" nm_F_FO 9, w ∈ jl_T := by
  intro w hw
  obtain ⟨j, hj, rfl⟩ := List.mem_map.mp hw
  have hj := List.mem_range.mp hj
  match j, hj with
  | 0, _ => exact nm_l_FO_0
  | 1, _ => exact nm_l_FO_1
  | 2, _ => exact nm_l_FO_2
  | 3, _ => exact nm_l_FO_3
  | 4, _ => exact nm_l_FO_4
  | 5, _ => exact nm_l_FO_5
  | 6, _ => exact nm_l_FO_6
  | 7, _ => exact nm_l_FO_7
  | 8, _ => exact nm_l_FO_8
theorem nm_c_FO : jl_c 3 "FoldedStrand$Folds" nm_F_FO 9 nm_t_FO := ⟨rfl, nm_w_FO, by decide +kernel, by decide +kernel⟩
theorem nm_l_RE_0 : u_lay "FoldedStrand$Region" nm_F_RE 0 ∈ jl_T := jl_T_of 68 (by decide +kernel) (by decide +kernel)
theorem nm_l_RE_1 : u_lay "FoldedStrand$Region" nm_F_RE 1 ∈ jl_T := jl_T_of 70 (by decide +kernel) (by decide +kernel)
theorem nm_l_RE_2 : u_lay "FoldedStrand$Region" nm_F_RE 2 ∈ jl_T := jl_T_of 72 (by decide +kernel) (by decide +kernel)
theorem nm_l_RE_3 : u_lay "FoldedStrand$Region" nm_F_RE 3 ∈ jl_T := jl_T_of 74 (by decide +kernel) (by decide +kernel)
theorem nm_w_RE : ∀ w ∈ u_ws "FoldedStrand$Region" nm_F_RE 4, w ∈ jl_T := by
  intro w hw
  obtain ⟨j, hj, rfl⟩ := List.mem_map.mp hw
  have hj := List.mem_range.mp hj
  match j, hj with
  | 0, _ => exact nm_l_RE_0
  | 1, _ => exact nm_l_RE_1
  | 2, _ => exact nm_l_RE_2
  | 3, _ => exact nm_l_RE_3
theorem nm_c_RE : jl_c 4 "FoldedStrand$Region" nm_F_RE 4 nm_t_RE := ⟨rfl, nm_w_RE, by decide +kernel, by decide +kernel⟩
theorem nm_l_NL_0 : u_lay "FoldedStrand$NearList" nm_F_NL 0 ∈ jl_T := jl_T_of 126 (by decide +kernel) (by decide +kernel)
theorem nm_l_NL_1 : u_lay "FoldedStrand$NearList" nm_F_NL 1 ∈ jl_T := jl_T_of 128 (by decide +kernel) (by decide +kernel)
theorem nm_l_NL_2 : u_lay "FoldedStrand$NearList" nm_F_NL 2 ∈ jl_T := jl_T_of 130 (by decide +kernel) (by decide +kernel)
theorem nm_l_NL_3 : u_lay "FoldedStrand$NearList" nm_F_NL 3 ∈ jl_T := jl_T_of 132 (by decide +kernel) (by decide +kernel)
theorem nm_l_NL_4 : u_lay "FoldedStrand$NearList" nm_F_NL 4 ∈ jl_T := jl_T_of 134 (by decide +kernel) (by decide +kernel)
theorem nm_l_NL_5 : u_lay "FoldedStrand$NearList" nm_F_NL 5 ∈ jl_T := jl_T_of 136 (by decide +kernel) (by decide +kernel)
theorem nm_l_NL_6 : u_lay "FoldedStrand$NearList" nm_F_NL 6 ∈ jl_T := jl_T_of 138 (by decide +kernel) (by decide +kernel)
theorem nm_l_NL_7 : u_lay "FoldedStrand$NearList" nm_F_NL 7 ∈ jl_T := jl_T_of 140 (by decide +kernel) (by decide +kernel)
theorem nm_l_NL_8 : u_lay "FoldedStrand$NearList" nm_F_NL 8 ∈ jl_T := jl_T_of 142 (by decide +kernel) (by decide +kernel)
theorem nm_l_NL_9 : u_lay "FoldedStrand$NearList" nm_F_NL 9 ∈ jl_T := jl_T_of 144 (by decide +kernel) (by decide +kernel)
theorem nm_w_NL : ∀ w ∈ u_ws "FoldedStrand$NearList" nm_F_NL 10, w ∈ jl_T := by
  intro w hw
  obtain ⟨j, hj, rfl⟩ := List.mem_map.mp hw
  have hj := List.mem_range.mp hj
  match j, hj with
  | 0, _ => exact nm_l_NL_0
  | 1, _ => exact nm_l_NL_1
  | 2, _ => exact nm_l_NL_2
  | 3, _ => exact nm_l_NL_3
  | 4, _ => exact nm_l_NL_4
  | 5, _ => exact nm_l_NL_5
  | 6, _ => exact nm_l_NL_6
  | 7, _ => exact nm_l_NL_7
  | 8, _ => exact nm_l_NL_8
  | 9, _ => exact nm_l_NL_9
theorem nm_c_NL : jl_c 5 "FoldedStrand$NearList" nm_F_NL 10 nm_t_NL := ⟨rfl, nm_w_NL, by decide +kernel, by decide +kernel⟩
theorem nm_l_SR_0 : u_lay "FoldedStrand$Structure" nm_F_SR 0 ∈ jl_T := jl_T_of 168 (by decide +kernel) (by decide +kernel)
theorem nm_l_SR_1 : u_lay "FoldedStrand$Structure" nm_F_SR 1 ∈ jl_T := jl_T_of 170 (by decide +kernel) (by decide +kernel)
theorem nm_l_SR_2 : u_lay "FoldedStrand$Structure" nm_F_SR 2 ∈ jl_T := jl_T_of 172 (by decide +kernel) (by decide +kernel)
theorem nm_l_SR_3 : u_lay "FoldedStrand$Structure" nm_F_SR 3 ∈ jl_T := jl_T_of 174 (by decide +kernel) (by decide +kernel)
theorem nm_l_SR_4 : u_lay "FoldedStrand$Structure" nm_F_SR 4 ∈ jl_T := jl_T_of 176 (by decide +kernel) (by decide +kernel)
theorem nm_l_SR_5 : u_lay "FoldedStrand$Structure" nm_F_SR 5 ∈ jl_T := jl_T_of 178 (by decide +kernel) (by decide +kernel)
theorem nm_l_SR_6 : u_lay "FoldedStrand$Structure" nm_F_SR 6 ∈ jl_T := jl_T_of 180 (by decide +kernel) (by decide +kernel)
theorem nm_w_SR : ∀ w ∈ u_ws "FoldedStrand$Structure" nm_F_SR 7, w ∈ jl_T := by
  intro w hw
  obtain ⟨j, hj, rfl⟩ := List.mem_map.mp hw
  have hj := List.mem_range.mp hj
  match j, hj with
  | 0, _ => exact nm_l_SR_0
  | 1, _ => exact nm_l_SR_1
  | 2, _ => exact nm_l_SR_2
  | 3, _ => exact nm_l_SR_3
  | 4, _ => exact nm_l_SR_4
  | 5, _ => exact nm_l_SR_5
  | 6, _ => exact nm_l_SR_6
theorem nm_c_SR : jl_c 6 "FoldedStrand$Structure" nm_F_SR 7 nm_t_SR := ⟨rfl, nm_w_SR, by decide +kernel, by decide +kernel⟩
theorem nm_l_MO_0 : u_lay "FoldedStrandModel" nm_F_MO 0 ∈ jl_T := jl_T_of 529 (by decide +kernel) (by decide +kernel)
theorem nm_l_MO_1 : u_lay "FoldedStrandModel" nm_F_MO 1 ∈ jl_T := jl_T_of 531 (by decide +kernel) (by decide +kernel)
theorem nm_l_MO_2 : u_lay "FoldedStrandModel" nm_F_MO 2 ∈ jl_T := jl_T_of 533 (by decide +kernel) (by decide +kernel)
theorem nm_l_MO_3 : u_lay "FoldedStrandModel" nm_F_MO 3 ∈ jl_T := jl_T_of 535 (by decide +kernel) (by decide +kernel)
theorem nm_l_MO_4 : u_lay "FoldedStrandModel" nm_F_MO 4 ∈ jl_T := jl_T_of 537 (by decide +kernel) (by decide +kernel)
theorem nm_l_MO_5 : u_lay "FoldedStrandModel" nm_F_MO 5 ∈ jl_T := jl_T_of 539 (by decide +kernel) (by decide +kernel)
theorem nm_l_MO_6 : u_lay "FoldedStrandModel" nm_F_MO 6 ∈ jl_T := jl_T_of 541 (by decide +kernel) (by decide +kernel)
theorem nm_l_MO_7 : u_lay "FoldedStrandModel" nm_F_MO 7 ∈ jl_T := jl_T_of 543 (by decide +kernel) (by decide +kernel)
theorem nm_l_MO_8 : u_lay "FoldedStrandModel" nm_F_MO 8 ∈ jl_T := jl_T_of 545 (by decide +kernel) (by decide +kernel)
theorem nm_l_MO_9 : u_lay "FoldedStrandModel" nm_F_MO 9 ∈ jl_T := jl_T_of 547 (by decide +kernel) (by decide +kernel)
theorem nm_l_MO_10 : u_lay "FoldedStrandModel" nm_F_MO 10 ∈ jl_T := jl_T_of 549 (by decide +kernel) (by decide +kernel)
theorem nm_l_MO_11 : u_lay "FoldedStrandModel" nm_F_MO 11 ∈ jl_T := jl_T_of 551 (by decide +kernel) (by decide +kernel)
theorem nm_l_MO_12 : u_lay "FoldedStrandModel" nm_F_MO 12 ∈ jl_T := jl_T_of 553 (by decide +kernel) (by decide +kernel)
theorem nm_l_MO_13 : u_lay "FoldedStrandModel" nm_F_MO 13 ∈ jl_T := jl_T_of 555 (by decide +kernel) (by decide +kernel)
theorem nm_w_MO : ∀ w ∈ u_ws "FoldedStrandModel" nm_F_MO 14, w ∈ jl_T := by
  intro w hw
  obtain ⟨j, hj, rfl⟩ := List.mem_map.mp hw
  have hj := List.mem_range.mp hj
  match j, hj with
  | 0, _ => exact nm_l_MO_0
  | 1, _ => exact nm_l_MO_1
  | 2, _ => exact nm_l_MO_2
  | 3, _ => exact nm_l_MO_3
  | 4, _ => exact nm_l_MO_4
  | 5, _ => exact nm_l_MO_5
  | 6, _ => exact nm_l_MO_6
  | 7, _ => exact nm_l_MO_7
  | 8, _ => exact nm_l_MO_8
  | 9, _ => exact nm_l_MO_9
  | 10, _ => exact nm_l_MO_10
  | 11, _ => exact nm_l_MO_11
  | 12, _ => exact nm_l_MO_12
  | 13, _ => exact nm_l_MO_13
theorem nm_c_MO : jl_c 7 "FoldedStrandModel" nm_F_MO 14 nm_t_MO := ⟨rfl, nm_w_MO, by decide +kernel, by decide +kernel⟩
/-- a static table: where it lies, how long it is, what it holds -/
def jl_S1 (C n d : String) (ty : FieldType) (t : Nat) (vs : List Int32) (A : Nat → Prop) (U : State) (H : Heap) : Prop := va_Z C n d (.ref t) A U H ∧ va_T ty t vs.length (fun j => .int (vs.getD j 0)) A U H
theorem jl_S1.moved {C n d : String} {ty : FieldType} {t : Nat} {vs : List Int32} {A : Nat → Prop} {u U : State} {H : Heap} (hvm : u.vm.Alike U.vm) (h : jl_S1 C n d ty t vs A u H) : jl_S1 C n d ty t vs A U H := ⟨va_Z.moved hvm h.1, va_T.moved hvm h.2⟩
theorem jl_S1.kept {C n d : String} {ty : FieldType} {t : Nat} {vs : List Int32} {A : Nat → Prop} {U : State} {H H1 : Heap} (h : jl_S1 C n d ty t vs A U H) (hq : ∀ a : Nat, a < H.size → ¬ A a → H1[a]? = H[a]?) : jl_S1 C n d ty t vs A U H1 := ⟨h.1.kept hq, h.2.kept hq⟩
theorem jl_S1.narrow {C n d : String} {ty : FieldType} {t : Nat} {vs : List Int32} {A B : Nat → Prop} {U : State} {H : Heap} (h : jl_S1 C n d ty t vs A U H) (hAB : ∀ q, B q → A q) : jl_S1 C n d ty t vs B U H := ⟨h.1.narrow hAB, h.2.narrow hAB⟩
def nm_s0 : List Int32 := [65, 67, 71, 85]
def nm_s1 : List Int32 := [(-1), (-1), (-1), 4, (-1), (-1), 0, (-1), (-1), 1, (-1), 2, 5, (-1), 3, (-1)]
def nm_s2 : List Int32 := [67, 85, 85, 67, 71, 71]
def nm_s3 : List Int32 := [54, 56, 57, 54, 60, 55]
def nm_s4 : List Int32 := [(-24), (-33), (-21), (-14), (-21), (-21), (-33), (-34), (-25), (-15), (-22), (-24), (-21), (-25), 13, (-5), (-14), (-13), (-14), (-15), (-5), 3, (-6), (-10), (-21), (-22), (-14), (-6), (-11), (-9), (-21), (-24), (-13), (-10), (-9), (-13)]
def nm_s5 : List Int32 := [5, 16, 11, 20]
def jl_S (sa : Nat → Nat) (A : Nat → Prop) (U : State) (H : Heap) : Prop := jl_S1 "FoldedStrand$Strand" "LETTERS" "[C" .char (sa 0) nm_s0 A U H ∧ jl_S1 "FoldedStrand$Strand" "KINDS" "[I" .int (sa 1) nm_s1 A U H ∧ jl_S1 "FoldedStrand$Loops" "FIRM_HAIRPIN" "[C" .char (sa 2) nm_s2 A U H ∧ jl_S1 "FoldedStrand$Loops" "HAIRPINS" "[I" .int (sa 3) nm_s3 A U H ∧ jl_S1 "FoldedStrand$Loops" "STACKS" "[I" .int (sa 4) nm_s4 A U H ∧ jl_S1 "FoldedStrand$Loops" "INTERIORS" "[I" .int (sa 5) nm_s5 A U H
theorem jl_S.moved {sa : Nat → Nat} {A : Nat → Prop} {u U : State} {H : Heap} (hvm : u.vm.Alike U.vm) (h : jl_S sa A u H) : jl_S sa A U H := ⟨jl_S1.moved hvm h.1, jl_S1.moved hvm h.2.1, jl_S1.moved hvm h.2.2.1, jl_S1.moved hvm h.2.2.2.1, jl_S1.moved hvm h.2.2.2.2.1, jl_S1.moved hvm h.2.2.2.2.2⟩
theorem jl_S.kept {sa : Nat → Nat} {A : Nat → Prop} {U : State} {H H1 : Heap} (h : jl_S sa A U H) (hq : ∀ a : Nat, a < H.size → ¬ A a → H1[a]? = H[a]?) : jl_S sa A U H1 := ⟨h.1.kept hq, h.2.1.kept hq, h.2.2.1.kept hq, h.2.2.2.1.kept hq, h.2.2.2.2.1.kept hq, h.2.2.2.2.2.kept hq⟩
theorem jl_S.narrow {sa : Nat → Nat} {A B : Nat → Prop} {U : State} {H : Heap} (h : jl_S sa A U H) (hAB : ∀ q, B q → A q) : jl_S sa B U H := ⟨h.1.narrow hAB, h.2.1.narrow hAB, h.2.2.1.narrow hAB, h.2.2.2.1.narrow hAB, h.2.2.2.2.1.narrow hAB, h.2.2.2.2.2.narrow hAB⟩
