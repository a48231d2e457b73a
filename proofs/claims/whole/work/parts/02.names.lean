/-! NAMES, printed by wip/whole/names.py: the tables' words by their places, the classes, the methods, their instructions -/
theorem tb_1 : ∀ w ∈ tables_1_1, w ∈ lw_tbl := fun w h => List.mem_append_right _ (List.mem_append_left _ h)
theorem tb_2 : ∀ w ∈ tables_1_2, w ∈ lw_tbl := fun w h => List.mem_append_right _ (List.mem_append_right _ (List.mem_append_left _ h))
theorem tb_3 : ∀ w ∈ tables_1_3, w ∈ lw_tbl := fun w h => List.mem_append_right _ (List.mem_append_right _ (List.mem_append_right _ (List.mem_append_left _ h)))
theorem tb_4 : ∀ w ∈ tables_1_4, w ∈ lw_tbl := fun w h => List.mem_append_right _ (List.mem_append_right _ (List.mem_append_right _ (List.mem_append_right _ h)))
def F_R : u_T := fun k => match k with
  | 0 => ("CommandTree$LeaderRows", "oldest", "I", false)
  | 1 => ("CommandTree$LeaderRows", "size", "I", false)
  | 2 => ("CommandTree$LeaderRows", "seconds", "[I", true)
  | 3 => ("CommandTree$LeaderRows", "sectorNumbers", "[I", true)
  | 4 => ("CommandTree$LeaderRows", "leaders", "[I", true)
  | 5 => ("CommandTree$LeaderRows", "leaderBeforeKept", "[I", true)
  | _ => ("CommandTree$LeaderRows", "latestDropped", "I", false)
def ty_R : Nat → FieldType := fun k => match k with
  | 0 => .int
  | 1 => .int
  | 2 => .array .int
  | 3 => .array .int
  | 4 => .array .int
  | 5 => .array .int
  | _ => .int
theorem nm_R : ∀ a, a < 7 → ∀ b, b < 7 → a ≠ b → (F_R a).2.1 ≠ (F_R b).2.1 := by decide +kernel
theorem tyo_R : ∀ k, k < 7 → parseFieldDescriptor (F_R k).2.2.1 = some (ty_R k) := by decide +kernel
theorem us_R : ∀ w ∈ u_ws "CommandTree$LeaderRows" F_R 7, w ∈ lw_tbl ∧ goodWord w = true := by decide +kernel
def F_T : u_T := fun k => match k with
  | 0 => ("CommandTree$TaskList", "size", "I", false)
  | 1 => ("CommandTree$TaskList", "sector", "[I", true)
  | 2 => ("CommandTree$TaskList", "until", "[I", true)
  | 3 => ("CommandTree$TaskList", "reply", "[I", true)
  | _ => ("CommandTree$TaskList", "replySecond", "[I", true)
def ty_T : Nat → FieldType := fun k => match k with
  | 0 => .int
  | 1 => .array .int
  | 2 => .array .int
  | 3 => .array .int
  | _ => .array .int
theorem nm_T : ∀ a, a < 5 → ∀ b, b < 5 → a ≠ b → (F_T a).2.1 ≠ (F_T b).2.1 := by decide +kernel
theorem tyo_T : ∀ k, k < 5 → parseFieldDescriptor (F_T k).2.2.1 = some (ty_T k) := by decide +kernel
theorem us_T : ∀ w ∈ u_ws "CommandTree$TaskList" F_T 5, w ∈ lw_tbl ∧ goodWord w = true := by decide +kernel
def F_C : u_T := fun k => match k with
  | 0 => ("CommandTree", "second", "I", false)
  | 1 => ("CommandTree", "mostPerLeader", "I", false)
  | 2 => ("CommandTree", "persons", "I", false)
  | 3 => ("CommandTree", "rankOf", "[I", true)
  | 4 => ("CommandTree", "arrivedAt", "[I", true)
  | 5 => ("CommandTree", "sectorOfPerson", "[I", true)
  | 6 => ("CommandTree", "sectorLedBy", "[I", true)
  | 7 => ("CommandTree", "units", "I", false)
  | 8 => ("CommandTree", "sectorOfUnit", "[I", true)
  | 9 => ("CommandTree", "sectors", "I", false)
  | 10 => ("CommandTree", "open", "[Z", true)
  | 11 => ("CommandTree", "above", "[I", true)
  | 12 => ("CommandTree", "leaderOf", "[I", true)
  | 13 => ("CommandTree", "offeredTo", "[I", true)
  | 14 => ("CommandTree", "tasks", "LCommandTree$TaskList;", true)
  | _ => ("CommandTree", "rows", "LCommandTree$LeaderRows;", true)
def ty_C : Nat → FieldType := fun k => match k with
  | 0 => .int
  | 1 => .int
  | 2 => .int
  | 3 => .array .int
  | 4 => .array .int
  | 5 => .array .int
  | 6 => .array .int
  | 7 => .int
  | 8 => .array .int
  | 9 => .int
  | 10 => .array .boolean
  | 11 => .array .int
  | 12 => .array .int
  | 13 => .array .int
  | 14 => .object "CommandTree$TaskList"
  | _ => .object "CommandTree$LeaderRows"
theorem nm_C : ∀ a, a < 16 → ∀ b, b < 16 → a ≠ b → (F_C a).2.1 ≠ (F_C b).2.1 := by decide +kernel
theorem tyo_C : ∀ k, k < 16 → parseFieldDescriptor (F_C k).2.2.1 = some (ty_C k) := by decide +kernel
theorem us_C : ∀ w ∈ u_ws "CommandTree" F_C 16, w ∈ lw_tbl ∧ goodWord w = true := by decide +kernel
def F_M : u_T := fun k => match k with
  | 0 => ("CommandTreeModel", "thrown", "I", false)
  | 1 => ("CommandTreeModel", "now", "I", false)
  | 2 => ("CommandTreeModel", "persons", "I", false)
  | 3 => ("CommandTreeModel", "rank", "[I", true)
  | 4 => ("CommandTreeModel", "in", "[I", true)
  | 5 => ("CommandTreeModel", "arrived", "[I", true)
  | 6 => ("CommandTreeModel", "units", "I", false)
  | 7 => ("CommandTreeModel", "unitIn", "[I", true)
  | 8 => ("CommandTreeModel", "sectors", "I", false)
  | 9 => ("CommandTreeModel", "joined", "[Z", true)
  | 10 => ("CommandTreeModel", "above", "[I", true)
  | 11 => ("CommandTreeModel", "leader", "[I", true)
  | 12 => ("CommandTreeModel", "offered", "[I", true)
  | 13 => ("CommandTreeModel", "span", "I", false)
  | 14 => ("CommandTreeModel", "tasks", "I", false)
  | 15 => ("CommandTreeModel", "taskOf", "[I", true)
  | 16 => ("CommandTreeModel", "until", "[I", true)
  | 17 => ("CommandTreeModel", "state", "[I", true)
  | 18 => ("CommandTreeModel", "answered", "[I", true)
  | 19 => ("CommandTreeModel", "rows", "I", false)
  | 20 => ("CommandTreeModel", "rowSector", "[I", true)
  | 21 => ("CommandTreeModel", "rowLeader", "[I", true)
  | 22 => ("CommandTreeModel", "rowSecond", "[I", true)
  | 23 => ("CommandTreeModel", "before", "[I", true)
  | _ => ("CommandTreeModel", "lost", "I", false)
def ty_M : Nat → FieldType := fun k => match k with
  | 0 => .int
  | 1 => .int
  | 2 => .int
  | 3 => .array .int
  | 4 => .array .int
  | 5 => .array .int
  | 6 => .int
  | 7 => .array .int
  | 8 => .int
  | 9 => .array .boolean
  | 10 => .array .int
  | 11 => .array .int
  | 12 => .array .int
  | 13 => .int
  | 14 => .int
  | 15 => .array .int
  | 16 => .array .int
  | 17 => .array .int
  | 18 => .array .int
  | 19 => .int
  | 20 => .array .int
  | 21 => .array .int
  | 22 => .array .int
  | 23 => .array .int
  | _ => .int
theorem nm_M : ∀ a, a < 25 → ∀ b, b < 25 → a ≠ b → (F_M a).2.1 ≠ (F_M b).2.1 := by decide +kernel
theorem tyo_M : ∀ k, k < 25 → parseFieldDescriptor (F_M k).2.2.1 = some (ty_M k) := by decide +kernel
theorem us_M : ∀ w ∈ u_ws "CommandTreeModel" F_M 25, w ∈ lw_tbl ∧ goodWord w = true := by decide +kernel
abbrev vwCl : List vw_C := [("CommandTree$LeaderRows", F_R, 7), ("CommandTree$TaskList", F_T, 5), ("CommandTree", F_C, 16), ("CommandTreeModel", F_M, 25)]
theorem ct_cls {ci : Nat} {C : String} {F : u_T} {N : Nat} (h : vwCl[ci]? = some (C, F, N)) : (∀ w ∈ u_ws C F N, w ∈ lw_tbl ∧ goodWord w = true) ∧ (∃ ty : Nat → FieldType, ∀ k, k < N → parseFieldDescriptor (F k).2.2.1 = some (ty k)) ∧ ∀ a, a < N → ∀ b, b < N → a ≠ b → (F a).2.1 ≠ (F b).2.1 := by
  match ci, h with
  | 0, h => cases h; exact ⟨us_R, ⟨ty_R, tyo_R⟩, nm_R⟩
  | 1, h => cases h; exact ⟨us_T, ⟨ty_T, tyo_T⟩, nm_T⟩
  | 2, h => cases h; exact ⟨us_C, ⟨ty_C, tyo_C⟩, nm_C⟩
  | 3, h => cases h; exact ⟨us_M, ⟨ty_M, tyo_M⟩, nm_M⟩
  | k + 4, h => simp [vwCl] at h
