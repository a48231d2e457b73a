section
-- ===== PART A: goes FIRST, ahead of the names: the tables' words, and 'selects' of the private methods out of them =====
/-- a private method of a class that the tables say can be made, by its rows of tables_1 -/
def lw_okq (q : MethodName × Nat) : Prop := (q.1.cls ≠ "java/lang/invoke/MethodHandle" ∧ q.1.cls ≠ "java/lang/invoke/VarHandle") ∧ Cond.instantiable q.1.cls q.2 ∈ tables_1 ∧ Cond.privateMethod q.1 ∈ tables_1 ∧ Cond.instanceMethod q.1 ∈ tables_1
theorem lw_p0 : lw_okq (⟨"java/lang/Throwable", "fillInStackTrace", "(I)Ljava/lang/Throwable;"⟩, 6) := ⟨⟨by decide +kernel, by decide +kernel⟩, List.mem_of_getElem? (i := 180) (by decide +kernel), List.mem_of_getElem? (i := 178) (by decide +kernel), List.mem_of_getElem? (i := 179) (by decide +kernel)⟩
theorem lw_p1 : lw_okq (⟨"CommandTree", "requirePerson", "(I)V"⟩, 16) := ⟨⟨by decide +kernel, by decide +kernel⟩, List.mem_of_getElem? (i := 14) (by decide +kernel), List.mem_of_getElem? (i := 243) (by decide +kernel), List.mem_of_getElem? (i := 244) (by decide +kernel)⟩
theorem lw_p2 : lw_okq (⟨"CommandTree", "isThere", "(I)Z"⟩, 16) := ⟨⟨by decide +kernel, by decide +kernel⟩, List.mem_of_getElem? (i := 14) (by decide +kernel), List.mem_of_getElem? (i := 263) (by decide +kernel), List.mem_of_getElem? (i := 264) (by decide +kernel)⟩
theorem lw_p3 : lw_okq (⟨"CommandTree", "comeInto", "(II)V"⟩, 16) := ⟨⟨by decide +kernel, by decide +kernel⟩, List.mem_of_getElem? (i := 14) (by decide +kernel), List.mem_of_getElem? (i := 283) (by decide +kernel), List.mem_of_getElem? (i := 284) (by decide +kernel)⟩
theorem lw_p4 : lw_okq (⟨"CommandTree", "leaveLeadToNext", "(I)V"⟩, 16) := ⟨⟨by decide +kernel, by decide +kernel⟩, List.mem_of_getElem? (i := 14) (by decide +kernel), List.mem_of_getElem? (i := 287) (by decide +kernel), List.mem_of_getElem? (i := 288) (by decide +kernel)⟩
theorem lw_p5 : lw_okq (⟨"CommandTree", "nextToLead", "(I)I"⟩, 16) := ⟨⟨by decide +kernel, by decide +kernel⟩, List.mem_of_getElem? (i := 14) (by decide +kernel), List.mem_of_getElem? (i := 291) (by decide +kernel), List.mem_of_getElem? (i := 292) (by decide +kernel)⟩
theorem lw_p6 : lw_okq (⟨"CommandTree", "comesBefore", "(II)Z"⟩, 16) := ⟨⟨by decide +kernel, by decide +kernel⟩, List.mem_of_getElem? (i := 14) (by decide +kernel), List.mem_of_getElem? (i := 295) (by decide +kernel), List.mem_of_getElem? (i := 296) (by decide +kernel)⟩
theorem lw_p7 : lw_okq (⟨"CommandTree", "setLeader", "(II)V"⟩, 16) := ⟨⟨by decide +kernel, by decide +kernel⟩, List.mem_of_getElem? (i := 14) (by decide +kernel), List.mem_of_getElem? (i := 299) (by decide +kernel), List.mem_of_getElem? (i := 300) (by decide +kernel)⟩
theorem lw_p8 : lw_okq (⟨"CommandTree", "withdrawOffersTo", "(I)V"⟩, 16) := ⟨⟨by decide +kernel, by decide +kernel⟩, List.mem_of_getElem? (i := 14) (by decide +kernel), List.mem_of_getElem? (i := 303) (by decide +kernel), List.mem_of_getElem? (i := 304) (by decide +kernel)⟩
theorem lw_p9 : lw_okq (⟨"CommandTree$LeaderRows", "dropOldest", "()V"⟩, 7) := ⟨⟨by decide +kernel, by decide +kernel⟩, List.mem_of_getElem? (i := 50) (by decide +kernel), List.mem_of_getElem? (i := 314) (by decide +kernel), List.mem_of_getElem? (i := 315) (by decide +kernel)⟩
theorem lw_p10 : lw_okq (⟨"CommandTree$LeaderRows", "ringIndex", "(I)I"⟩, 7) := ⟨⟨by decide +kernel, by decide +kernel⟩, List.mem_of_getElem? (i := 50) (by decide +kernel), List.mem_of_getElem? (i := 318) (by decide +kernel), List.mem_of_getElem? (i := 319) (by decide +kernel)⟩
theorem lw_p11 : lw_okq (⟨"CommandTree", "requireThere", "(I)V"⟩, 16) := ⟨⟨by decide +kernel, by decide +kernel⟩, List.mem_of_getElem? (i := 14) (by decide +kernel), List.mem_of_getElem? (i := 329) (by decide +kernel), List.mem_of_getElem? (i := 330) (by decide +kernel)⟩
theorem lw_p12 : lw_okq (⟨"CommandTree", "requireSector", "(I)V"⟩, 16) := ⟨⟨by decide +kernel, by decide +kernel⟩, List.mem_of_getElem? (i := 14) (by decide +kernel), List.mem_of_getElem? (i := 341) (by decide +kernel), List.mem_of_getElem? (i := 342) (by decide +kernel)⟩
theorem lw_p13 : lw_okq (⟨"CommandTree", "requireOpen", "(I)V"⟩, 16) := ⟨⟨by decide +kernel, by decide +kernel⟩, List.mem_of_getElem? (i := 14) (by decide +kernel), List.mem_of_getElem? (i := 347) (by decide +kernel), List.mem_of_getElem? (i := 348) (by decide +kernel)⟩
theorem lw_p14 : lw_okq (⟨"CommandTree", "requireUnit", "(I)V"⟩, 16) := ⟨⟨by decide +kernel, by decide +kernel⟩, List.mem_of_getElem? (i := 14) (by decide +kernel), List.mem_of_getElem? (i := 359) (by decide +kernel), List.mem_of_getElem? (i := 360) (by decide +kernel)⟩
theorem lw_p15 : lw_okq (⟨"CommandTree", "isSameOrBelow", "(II)Z"⟩, 16) := ⟨⟨by decide +kernel, by decide +kernel⟩, List.mem_of_getElem? (i := 14) (by decide +kernel), List.mem_of_getElem? (i := 381) (by decide +kernel), List.mem_of_getElem? (i := 382) (by decide +kernel)⟩
def lw_privs_1 : List (MethodName × Nat) := [(⟨"java/lang/Throwable", "fillInStackTrace", "(I)Ljava/lang/Throwable;"⟩, 6), (⟨"CommandTree", "requirePerson", "(I)V"⟩, 16), (⟨"CommandTree", "isThere", "(I)Z"⟩, 16), (⟨"CommandTree", "comeInto", "(II)V"⟩, 16), (⟨"CommandTree", "leaveLeadToNext", "(I)V"⟩, 16), (⟨"CommandTree", "nextToLead", "(I)I"⟩, 16), (⟨"CommandTree", "comesBefore", "(II)Z"⟩, 16), (⟨"CommandTree", "setLeader", "(II)V"⟩, 16), (⟨"CommandTree", "withdrawOffersTo", "(I)V"⟩, 16), (⟨"CommandTree$LeaderRows", "dropOldest", "()V"⟩, 7), (⟨"CommandTree$LeaderRows", "ringIndex", "(I)I"⟩, 7), (⟨"CommandTree", "requireThere", "(I)V"⟩, 16), (⟨"CommandTree", "requireSector", "(I)V"⟩, 16), (⟨"CommandTree", "requireOpen", "(I)V"⟩, 16), (⟨"CommandTree", "requireUnit", "(I)V"⟩, 16), (⟨"CommandTree", "isSameOrBelow", "(II)Z"⟩, 16)]
theorem lw_r1 : ∀ q ∈ lw_privs_1, lw_okq q := List.forall_mem_cons.mpr ⟨lw_p0, List.forall_mem_cons.mpr ⟨lw_p1, List.forall_mem_cons.mpr ⟨lw_p2, List.forall_mem_cons.mpr ⟨lw_p3, List.forall_mem_cons.mpr ⟨lw_p4, List.forall_mem_cons.mpr ⟨lw_p5, List.forall_mem_cons.mpr ⟨lw_p6, List.forall_mem_cons.mpr ⟨lw_p7, List.forall_mem_cons.mpr ⟨lw_p8, List.forall_mem_cons.mpr ⟨lw_p9, List.forall_mem_cons.mpr ⟨lw_p10, List.forall_mem_cons.mpr ⟨lw_p11, List.forall_mem_cons.mpr ⟨lw_p12, List.forall_mem_cons.mpr ⟨lw_p13, List.forall_mem_cons.mpr ⟨lw_p14, List.forall_mem_cons.mpr ⟨lw_p15, fun _ h => absurd h List.not_mem_nil⟩⟩⟩⟩⟩⟩⟩⟩⟩⟩⟩⟩⟩⟩⟩⟩
theorem lw_p16 : lw_okq (⟨"CommandTree", "moveSectorsBelow", "(II)V"⟩, 16) := ⟨⟨by decide +kernel, by decide +kernel⟩, List.mem_of_getElem? (i := 14) (by decide +kernel), List.mem_of_getElem? (i := 386) (by decide +kernel), List.mem_of_getElem? (i := 387) (by decide +kernel)⟩
theorem lw_p17 : lw_okq (⟨"CommandTree", "requireTask", "(I)V"⟩, 16) := ⟨⟨by decide +kernel, by decide +kernel⟩, List.mem_of_getElem? (i := 14) (by decide +kernel), List.mem_of_getElem? (i := 441) (by decide +kernel), List.mem_of_getElem? (i := 442) (by decide +kernel)⟩
theorem lw_p18 : lw_okq (⟨"CommandTree", "isPassed", "(I)Z"⟩, 16) := ⟨⟨by decide +kernel, by decide +kernel⟩, List.mem_of_getElem? (i := 14) (by decide +kernel), List.mem_of_getElem? (i := 464) (by decide +kernel), List.mem_of_getElem? (i := 465) (by decide +kernel)⟩
theorem lw_p19 : lw_okq (⟨"CommandTree", "countOpenBelow", "(I)I"⟩, 16) := ⟨⟨by decide +kernel, by decide +kernel⟩, List.mem_of_getElem? (i := 14) (by decide +kernel), List.mem_of_getElem? (i := 468) (by decide +kernel), List.mem_of_getElem? (i := 469) (by decide +kernel)⟩
theorem lw_p20 : lw_okq (⟨"CommandTreeModel", "goes", "(IZZZZ)Z"⟩, 25) := ⟨⟨by decide +kernel, by decide +kernel⟩, List.mem_of_getElem? (i := 554) (by decide +kernel), List.mem_of_getElem? (i := 647) (by decide +kernel), List.mem_of_getElem? (i := 648) (by decide +kernel)⟩
theorem lw_p21 : lw_okq (⟨"CommandTreeModel", "isPerson", "(I)Z"⟩, 25) := ⟨⟨by decide +kernel, by decide +kernel⟩, List.mem_of_getElem? (i := 554) (by decide +kernel), List.mem_of_getElem? (i := 659) (by decide +kernel), List.mem_of_getElem? (i := 660) (by decide +kernel)⟩
theorem lw_p22 : lw_okq (⟨"CommandTreeModel", "moves", "(II)V"⟩, 25) := ⟨⟨by decide +kernel, by decide +kernel⟩, List.mem_of_getElem? (i := 554) (by decide +kernel), List.mem_of_getElem? (i := 663) (by decide +kernel), List.mem_of_getElem? (i := 664) (by decide +kernel)⟩
theorem lw_p23 : lw_okq (⟨"CommandTreeModel", "leads", "(I)I"⟩, 25) := ⟨⟨by decide +kernel, by decide +kernel⟩, List.mem_of_getElem? (i := 554) (by decide +kernel), List.mem_of_getElem? (i := 667) (by decide +kernel), List.mem_of_getElem? (i := 668) (by decide +kernel)⟩
theorem lw_p24 : lw_okq (⟨"CommandTreeModel", "next", "(I)I"⟩, 25) := ⟨⟨by decide +kernel, by decide +kernel⟩, List.mem_of_getElem? (i := 554) (by decide +kernel), List.mem_of_getElem? (i := 671) (by decide +kernel), List.mem_of_getElem? (i := 672) (by decide +kernel)⟩
theorem lw_p25 : lw_okq (⟨"CommandTreeModel", "lead", "(II)V"⟩, 25) := ⟨⟨by decide +kernel, by decide +kernel⟩, List.mem_of_getElem? (i := 554) (by decide +kernel), List.mem_of_getElem? (i := 675) (by decide +kernel), List.mem_of_getElem? (i := 676) (by decide +kernel)⟩
theorem lw_p26 : lw_okq (⟨"CommandTreeModel", "row", "(II)V"⟩, 25) := ⟨⟨by decide +kernel, by decide +kernel⟩, List.mem_of_getElem? (i := 554) (by decide +kernel), List.mem_of_getElem? (i := 679) (by decide +kernel), List.mem_of_getElem? (i := 680) (by decide +kernel)⟩
theorem lw_p27 : lw_okq (⟨"CommandTreeModel", "isSector", "(I)Z"⟩, 25) := ⟨⟨by decide +kernel, by decide +kernel⟩, List.mem_of_getElem? (i := 554) (by decide +kernel), List.mem_of_getElem? (i := 691) (by decide +kernel), List.mem_of_getElem? (i := 692) (by decide +kernel)⟩
theorem lw_p28 : lw_okq (⟨"CommandTreeModel", "isOpen", "(I)Z"⟩, 25) := ⟨⟨by decide +kernel, by decide +kernel⟩, List.mem_of_getElem? (i := 554) (by decide +kernel), List.mem_of_getElem? (i := 695) (by decide +kernel), List.mem_of_getElem? (i := 696) (by decide +kernel)⟩
theorem lw_p29 : lw_okq (⟨"CommandTreeModel", "isUnit", "(I)Z"⟩, 25) := ⟨⟨by decide +kernel, by decide +kernel⟩, List.mem_of_getElem? (i := 554) (by decide +kernel), List.mem_of_getElem? (i := 703) (by decide +kernel), List.mem_of_getElem? (i := 704) (by decide +kernel)⟩
theorem lw_p30 : lw_okq (⟨"CommandTreeModel", "isBelow", "(II)Z"⟩, 25) := ⟨⟨by decide +kernel, by decide +kernel⟩, List.mem_of_getElem? (i := 554) (by decide +kernel), List.mem_of_getElem? (i := 715) (by decide +kernel), List.mem_of_getElem? (i := 716) (by decide +kernel)⟩
theorem lw_p31 : lw_okq (⟨"CommandTreeModel", "isPassed", "(I)Z"⟩, 25) := ⟨⟨by decide +kernel, by decide +kernel⟩, List.mem_of_getElem? (i := 554) (by decide +kernel), List.mem_of_getElem? (i := 740) (by decide +kernel), List.mem_of_getElem? (i := 741) (by decide +kernel)⟩
def lw_privs_2 : List (MethodName × Nat) := [(⟨"CommandTree", "moveSectorsBelow", "(II)V"⟩, 16), (⟨"CommandTree", "requireTask", "(I)V"⟩, 16), (⟨"CommandTree", "isPassed", "(I)Z"⟩, 16), (⟨"CommandTree", "countOpenBelow", "(I)I"⟩, 16), (⟨"CommandTreeModel", "goes", "(IZZZZ)Z"⟩, 25), (⟨"CommandTreeModel", "isPerson", "(I)Z"⟩, 25), (⟨"CommandTreeModel", "moves", "(II)V"⟩, 25), (⟨"CommandTreeModel", "leads", "(I)I"⟩, 25), (⟨"CommandTreeModel", "next", "(I)I"⟩, 25), (⟨"CommandTreeModel", "lead", "(II)V"⟩, 25), (⟨"CommandTreeModel", "row", "(II)V"⟩, 25), (⟨"CommandTreeModel", "isSector", "(I)Z"⟩, 25), (⟨"CommandTreeModel", "isOpen", "(I)Z"⟩, 25), (⟨"CommandTreeModel", "isUnit", "(I)Z"⟩, 25), (⟨"CommandTreeModel", "isBelow", "(II)Z"⟩, 25), (⟨"CommandTreeModel", "isPassed", "(I)Z"⟩, 25)]
theorem lw_r2 : ∀ q ∈ lw_privs_2, lw_okq q := List.forall_mem_cons.mpr ⟨lw_p16, List.forall_mem_cons.mpr ⟨lw_p17, List.forall_mem_cons.mpr ⟨lw_p18, List.forall_mem_cons.mpr ⟨lw_p19, List.forall_mem_cons.mpr ⟨lw_p20, List.forall_mem_cons.mpr ⟨lw_p21, List.forall_mem_cons.mpr ⟨lw_p22, List.forall_mem_cons.mpr ⟨lw_p23, List.forall_mem_cons.mpr ⟨lw_p24, List.forall_mem_cons.mpr ⟨lw_p25, List.forall_mem_cons.mpr ⟨lw_p26, List.forall_mem_cons.mpr ⟨lw_p27, List.forall_mem_cons.mpr ⟨lw_p28, List.forall_mem_cons.mpr ⟨lw_p29, List.forall_mem_cons.mpr ⟨lw_p30, List.forall_mem_cons.mpr ⟨lw_p31, fun _ h => absurd h List.not_mem_nil⟩⟩⟩⟩⟩⟩⟩⟩⟩⟩⟩⟩⟩⟩⟩⟩
theorem lw_p32 : lw_okq (⟨"CommandTreeModel", "below", "(I)I"⟩, 25) := ⟨⟨by decide +kernel, by decide +kernel⟩, List.mem_of_getElem? (i := 554) (by decide +kernel), List.mem_of_getElem? (i := 744) (by decide +kernel), List.mem_of_getElem? (i := 745) (by decide +kernel)⟩
theorem lw_p33 : lw_okq (⟨"CommandTreeModel", "unitsIn", "(I)I"⟩, 25) := ⟨⟨by decide +kernel, by decide +kernel⟩, List.mem_of_getElem? (i := 554) (by decide +kernel), List.mem_of_getElem? (i := 748) (by decide +kernel), List.mem_of_getElem? (i := 749) (by decide +kernel)⟩
def lw_privs_3 : List (MethodName × Nat) := [(⟨"CommandTreeModel", "below", "(I)I"⟩, 25), (⟨"CommandTreeModel", "unitsIn", "(I)I"⟩, 25)]
theorem lw_r3 : ∀ q ∈ lw_privs_3, lw_okq q := List.forall_mem_cons.mpr ⟨lw_p32, List.forall_mem_cons.mpr ⟨lw_p33, fun _ h => absurd h List.not_mem_nil⟩⟩
def lw_privs : List (MethodName × Nat) := lw_privs_1 ++ (lw_privs_2 ++ (lw_privs_3))
def lw_tbl : List Cond := k2_sels lw_privs ++ tables_1
theorem lw_privs_ok : ∀ q ∈ lw_privs, lw_okq q := by
  show ∀ q ∈ lw_privs_1 ++ (lw_privs_2 ++ (lw_privs_3)), lw_okq q
  exact List.forall_mem_append.mpr ⟨lw_r1, List.forall_mem_append.mpr ⟨lw_r2, lw_r3⟩⟩
end
section
/-! NAMES, printed by wip/whole/names.py: the tables' words by their places, the classes, the methods, their instructions -/
theorem tb_1 : ∀ w ∈ tables_1_1, w ∈ lw_tbl := fun w h => List.mem_append_right _ (List.mem_append_left _ h)
theorem tb_2 : ∀ w ∈ tables_1_2, w ∈ lw_tbl := fun w h => List.mem_append_right _ (List.mem_append_right _ (List.mem_append_left _ h))
theorem tb_3 : ∀ w ∈ tables_1_3, w ∈ lw_tbl := fun w h => List.mem_append_right _ (List.mem_append_right _ (List.mem_append_right _ (List.mem_append_left _ h)))
theorem tb_4 : ∀ w ∈ tables_1_4, w ∈ lw_tbl := fun w h => List.mem_append_right _ (List.mem_append_right _ (List.mem_append_right _ (List.mem_append_right _ h)))
def F_R : u_T := fun k => match k with
  | 0 => ("CommandTree$LeaderRows", "oldest", "I", false)
  | 1 => ("CommandTree$LeaderRows", "size", "I", false)
  | 2 => ("CommandTree$LeaderRows", "seconds", "[I", true)
  | 3 => ("CommandTree$LeaderRows", "sectorNumbers", "[I", true)
  | 4 => ("CommandTree$LeaderRows", "leaders", "[I", true)
  | 5 => ("CommandTree$LeaderRows", "leaderBeforeKept", "[I", true)
  | _ => ("CommandTree$LeaderRows", "latestDropped", "I", false)
def ty_R : Nat → FieldType := fun k => match k with
  | 0 => .int
  | 1 => .int
  | 2 => .array .int
  | 3 => .array .int
  | 4 => .array .int
  | 5 => .array .int
  | _ => .int
theorem nm_R : ∀ a, a < 7 → ∀ b, b < 7 → a ≠ b → (F_R a).2.1 ≠ (F_R b).2.1 := by decide +kernel
theorem tyo_R : ∀ k, k < 7 → parseFieldDescriptor (F_R k).2.2.1 = some (ty_R k) := by decide +kernel
theorem us_R : ∀ w ∈ u_ws "CommandTree$LeaderRows" F_R 7, w ∈ lw_tbl ∧ goodWord w = true := by decide +kernel
def F_T : u_T := fun k => match k with
  | 0 => ("CommandTree$TaskList", "size", "I", false)
  | 1 => ("CommandTree$TaskList", "sector", "[I", true)
  | 2 => ("CommandTree$TaskList", "until", "[I", true)
  | 3 => ("CommandTree$TaskList", "reply", "[I", true)
  | _ => ("CommandTree$TaskList", "replySecond", "[I", true)
def ty_T : Nat → FieldType := fun k => match k with
  | 0 => .int
  | 1 => .array .int
  | 2 => .array .int
  | 3 => .array .int
  | _ => .array .int
theorem nm_T : ∀ a, a < 5 → ∀ b, b < 5 → a ≠ b → (F_T a).2.1 ≠ (F_T b).2.1 := by decide +kernel
theorem tyo_T : ∀ k, k < 5 → parseFieldDescriptor (F_T k).2.2.1 = some (ty_T k) := by decide +kernel
theorem us_T : ∀ w ∈ u_ws "CommandTree$TaskList" F_T 5, w ∈ lw_tbl ∧ goodWord w = true := by decide +kernel
def F_C : u_T := fun k => match k with
  | 0 => ("CommandTree", "second", "I", false)
  | 1 => ("CommandTree", "mostPerLeader", "I", false)
  | 2 => ("CommandTree", "persons", "I", false)
  | 3 => ("CommandTree", "rankOf", "[I", true)
  | 4 => ("CommandTree", "arrivedAt", "[I", true)
  | 5 => ("CommandTree", "sectorOfPerson", "[I", true)
  | 6 => ("CommandTree", "sectorLedBy", "[I", true)
  | 7 => ("CommandTree", "units", "I", false)
  | 8 => ("CommandTree", "sectorOfUnit", "[I", true)
  | 9 => ("CommandTree", "sectors", "I", false)
  | 10 => ("CommandTree", "open", "[Z", true)
  | 11 => ("CommandTree", "above", "[I", true)
  | 12 => ("CommandTree", "leaderOf", "[I", true)
  | 13 => ("CommandTree", "offeredTo", "[I", true)
  | 14 => ("CommandTree", "tasks", "LCommandTree$TaskList;", true)
  | _ => ("CommandTree", "rows", "LCommandTree$LeaderRows;", true)
def ty_C : Nat → FieldType := fun k => match k with
  | 0 => .int
  | 1 => .int
  | 2 => .int
  | 3 => .array .int
  | 4 => .array .int
  | 5 => .array .int
  | 6 => .array .int
  | 7 => .int
  | 8 => .array .int
  | 9 => .int
  | 10 => .array .boolean
  | 11 => .array .int
  | 12 => .array .int
  | 13 => .array .int
  | 14 => .object "CommandTree$TaskList"
  | _ => .object "CommandTree$LeaderRows"
theorem nm_C : ∀ a, a < 16 → ∀ b, b < 16 → a ≠ b → (F_C a).2.1 ≠ (F_C b).2.1 := by decide +kernel
theorem tyo_C : ∀ k, k < 16 → parseFieldDescriptor (F_C k).2.2.1 = some (ty_C k) := by decide +kernel
theorem us_C : ∀ w ∈ u_ws "CommandTree" F_C 16, w ∈ lw_tbl ∧ goodWord w = true := by decide +kernel
def F_M : u_T := fun k => match k with
  | 0 => ("CommandTreeModel", "thrown", "I", false)
  | 1 => ("CommandTreeModel", "now", "I", false)
  | 2 => ("CommandTreeModel", "persons", "I", false)
  | 3 => ("CommandTreeModel", "rank", "[I", true)
  | 4 => ("CommandTreeModel", "in", "[I", true)
  | 5 => ("CommandTreeModel", "arrived", "[I", true)
  | 6 => ("CommandTreeModel", "units", "I", false)
  | 7 => ("CommandTreeModel", "unitIn", "[I", true)
  | 8 => ("CommandTreeModel", "sectors", "I", false)
  | 9 => ("CommandTreeModel", "joined", "[Z", true)
  | 10 => ("CommandTreeModel", "above", "[I", true)
  | 11 => ("CommandTreeModel", "leader", "[I", true)
  | 12 => ("CommandTreeModel", "offered", "[I", true)
  | 13 => ("CommandTreeModel", "span", "I", false)
  | 14 => ("CommandTreeModel", "tasks", "I", false)
  | 15 => ("CommandTreeModel", "taskOf", "[I", true)
  | 16 => ("CommandTreeModel", "until", "[I", true)
  | 17 => ("CommandTreeModel", "state", "[I", true)
  | 18 => ("CommandTreeModel", "answered", "[I", true)
  | 19 => ("CommandTreeModel", "rows", "I", false)
  | 20 => ("CommandTreeModel", "rowSector", "[I", true)
  | 21 => ("CommandTreeModel", "rowLeader", "[I", true)
  | 22 => ("CommandTreeModel", "rowSecond", "[I", true)
  | 23 => ("CommandTreeModel", "before", "[I", true)
  | _ => ("CommandTreeModel", "lost", "I", false)
def ty_M : Nat → FieldType := fun k => match k with
  | 0 => .int
  | 1 => .int
  | 2 => .int
  | 3 => .array .int
  | 4 => .array .int
  | 5 => .array .int
  | 6 => .int
  | 7 => .array .int
  | 8 => .int
  | 9 => .array .boolean
  | 10 => .array .int
  | 11 => .array .int
  | 12 => .array .int
  | 13 => .int
  | 14 => .int
  | 15 => .array .int
  | 16 => .array .int
  | 17 => .array .int
  | 18 => .array .int
  | 19 => .int
  | 20 => .array .int
  | 21 => .array .int
  | 22 => .array .int
  | 23 => .array .int
  | _ => .int
theorem nm_M : ∀ a, a < 25 → ∀ b, b < 25 → a ≠ b → (F_M a).2.1 ≠ (F_M b).2.1 := by decide +kernel
theorem tyo_M : ∀ k, k < 25 → parseFieldDescriptor (F_M k).2.2.1 = some (ty_M k) := by decide +kernel
theorem us_M : ∀ w ∈ u_ws "CommandTreeModel" F_M 25, w ∈ lw_tbl ∧ goodWord w = true := by decide +kernel
abbrev vwCl : List vw_C := [("CommandTree$LeaderRows", F_R, 7), ("CommandTree$TaskList", F_T, 5), ("CommandTree", F_C, 16), ("CommandTreeModel", F_M, 25)]
theorem ct_cls {ci : Nat} {C : String} {F : u_T} {N : Nat} (h : vwCl[ci]? = some (C, F, N)) : (∀ w ∈ u_ws C F N, w ∈ lw_tbl ∧ goodWord w = true) ∧ (∃ ty : Nat → FieldType, ∀ k, k < N → parseFieldDescriptor (F k).2.2.1 = some (ty k)) ∧ ∀ a, a < N → ∀ b, b < N → a ≠ b → (F a).2.1 ≠ (F b).2.1 := by
  match ci, h with
  | 0, h => cases h; exact ⟨us_R, ⟨ty_R, tyo_R⟩, nm_R⟩
  | 1, h => cases h; exact ⟨us_T, ⟨ty_T, tyo_T⟩, nm_T⟩
  | 2, h => cases h; exact ⟨us_C, ⟨ty_C, tyo_C⟩, nm_C⟩
  | 3, h => cases h; exact ⟨us_M, ⟨ty_M, tyo_M⟩, nm_M⟩
  | k + 4, h => simp [vwCl] at h
end
section
/-! FROM claim/NAMES.whole.lean.txt (printed for pasting): what throws and catches; its names of Bundle written out -/
section VXA
/-- where a method has thrown q: the class by its name, the cell, what was written, the world -/
def vx_T (XC : String → State → State → Prop) (st : State) (q : Addr) (t : State) (mc ms : Nat) (free : Addr → Prop) : Prop :=
  ∃ (E : String) (ce : Cell) (L : List Loc), XC E st t ∧ t.heap[q]? = some ce ∧ ce.vm = .none ∧ st.vm.findClass E = some ce.cls ∧ st.WarmedH t.vm ∧ st.sameButNew ({ t with vm := st.vm } : State) L mc ms ∧ ∀ z ∈ L, free z.base
def vx_Q (Qc : Array Value → State → Outcome → State → Prop) (XC : String → State → State → Prop) (mc ms : Nat) (free : Addr → Prop) : Array Value → State → Outcome → State → Prop := fun a st o t =>
  (Qc a st o t ∧ ∃ L, FrameEnd st o t L mc ms ∧ ∀ q ∈ L, free q.base) ∨ ∃ q, o = .threw q ∧ vx_T XC st q t mc ms free
/-- the method's frame g, with q thrown over it -/
def vx_W (p : Program) (l : Launch) (e : Env) (R : Room) (s : State) (m : MethodId) (args : Array Value) (below : List Frame) (meth : Method) (c : Code) (H : Heap) (locs : List Loc) (cells slots : Nat) (Q : State → Prop) (g : JFrame) (q : Addr) : Prop :=
  ∀ T : State, T.heap = H → Stand p l e R s m args below meth c T locs cells slots → ∃ t, Steps p.tables e below ((T.setTop g).pushFrame (.throwing q)) t ∧ Q t
section Rows
variable {p : Program} {l : Launch} {e : Env} {R : Room} {s : State} {m : MethodId} {args : Array Value} {below : List Frame} {meth : Method} {c : Code} {H : Heap} {locs : List Loc} {cells slots : Nat} {Q : State → Prop}
variable {mc ms : Nat} {free : Addr → Prop} {A0 A1 : Nat → Prop} {H0 : Heap} {a : Array Value} {pc : Nat} {ls : Array Slot} {st0 rest : List Value}
/-- caught by the row x of this method's table; the rows ahead don't take it -/
theorem vx_catch {own name : String} {E : String} {ce : Cell} {q : Addr} (hown : s.vm.findClass own = some m.cls) (pre : List ExceptionTableEntry) (x : ExceptionTableEntry) (suf : List ExceptionTableEntry) (hsplit : c.exceptionTable.toList = pre ++ x :: suf)
    (hpass : ∀ z ∈ pre, covers z pc = false ∨ (z.catchType ≠ 0 ∧ ∃ nm : String, (Cond.classLink own z.catchType nm).before args s = true ∧ va_Nc E nm s)) (hx : covers x pc = true) (h0 : x.catchType ≠ 0)
    (hlink : (Cond.classLink own x.catchType name).before args s = true) (hcast : (Cond.castable E name).before args s = true) (hcell : H[q]? = some ce) (hv : ce.vm = .none) (hcl : s.vm.findClass E = some ce.cls)
    (kk : W p l e R s m args below meth c H locs cells slots Q (F0 m x.handlerPc ls [.ref q])) : vx_W p l e R s m args below meth c H locs cells slots Q (F0 m pc ls rest) q := by
  intro T hT X
  have hpl : e.platform.magicAccessors = ({} : Platform).magicAccessors := by rw [X.admits.platform]
  obtain ⟨c3, c4, hc3, hc4, hasg⟩ := Cond.castable_spec hcast
  cases Option.some.inj (hc3.symm.trans hcl)
  obtain ⟨c5, hc5, hcl5⟩ := Cond.classLink_spec hown hlink e.platform hpl
  cases Option.some.inj (hc4.symm.trans hc5)
  obtain ⟨vm', X', st⟩ := X.thenCaughtThrough q (g := F0 m pc ls rest) rfl (Steps.refl _) (by rw [hT]; exact hcell) (by rw [hv]; rfl) (by obtain ⟨k9, h9, -⟩ := Vm.findClass_spec hcl; exact ⟨k9, h9⟩) pre x suf hsplit
    (fun z hz => by
      rcases hpass z hz with h | ⟨hz0, nm, hl1, hn1⟩
      · exact Or.inl h
      · obtain ⟨c6, hc6, hcl6⟩ := Cond.classLink_spec hown hl1 e.platform hpl
        obtain ⟨a8, b8, h1, h2, h3⟩ := hn1
        cases Option.some.inj (h1.symm.trans hcl)
        cases Option.some.inj (h2.symm.trans hc6)
        exact Or.inr ⟨hz0, _, hcl6, h3⟩) hx (Or.inr ⟨h0, c4, hcl5, hasg⟩)
  obtain ⟨t, a1, b1⟩ := kk (T.setVm vm') hT X'
  exact ⟨t, st.trans a1, b1⟩
end Rows
section Ends
variable {p : Program} {l : Launch} {e : Env} {R : Room} {s : State} {m : MethodId} {args : Array Value} {below : List Frame} {meth : Method} {c : Code} {H : Heap} {locs : List Loc} {cells slots : Nat} {Q : State → Prop}
variable {mc ms : Nat} {free : Addr → Prop} {A0 A1 : Nat → Prop} {H0 : Heap} {a : Array Value} {ls : Array Slot} {st0 rest : List Value}
variable {Qc : Array Value → State → Outcome → State → Prop} {XC : String → State → State → Prop}
/-- what a body that may throw owes at its end -/
def vx_MQ (below : List Frame) (Qc : Array Value → State → Outcome → State → Prop) (XC : String → State → State → Prop) (a : Array Value) (s : State) (mc ms : Nat) (free : Addr → Prop) : State → Prop := fun t =>
  ∃ o, t.status = .running ∧ Ended t below o ∧ vx_Q Qc XC mc ms free a s o t
theorem vx_frame {U : State} {k n : Nat} (h : s.sameButNew ({ U with vm := s.vm } : State) locs k n) : s.heap.size ≤ U.heap.size ∧ ∀ q : Nat, q < s.heap.size → (∀ z ∈ locs, z.base ≠ q) → U.heap[q]? = s.heap[q]? := by
  obtain ⟨-, h2, -, -, -, h6⟩ := h
  refine ⟨h2, fun q hq hz => ?_⟩
  obtain ⟨c9, e1, e2, e3, e4⟩ := h6 q _ (Array.getElem?_eq_getElem hq)
  have hs : c9.slots = (s.heap[q]).slots := Array.ext_getElem? fun i => e4 i fun hm => hz _ hm rfl
  have h9 : c9 = s.heap[q] := by
    rw [hs] at e2
    exact e2
  have e5 : U.heap[q]? = some c9 := e1
  rw [e5, h9, Array.getElem?_eq_getElem hq]
/-- the words of a throw but the four that speak of the heap -/
def vx_no (w : Cond) : Bool := decide (w ≠ .isRef (.static Bundle.tN "UNASSIGNED_STACK" Bundle.steD)) && decide (w ≠ .isRef (.static Bundle.tN "SUPPRESSED_SENTINEL" Bundle.listD)) && decide (w ≠ .laysStatic Bundle.tN "UNASSIGNED_STACK" Bundle.steD) && decide (w ≠ .laysStatic Bundle.tN "SUPPRESSED_SENTINEL" Bundle.listD)
def vx_atS (own : String) (ic : Nat) (X : String) (names : List String) : List Cond := (Bundle.ownAtoms own ic X names).filter vx_no
/-- a word that the tables alone decide, or a good one -/
def vx_ot (w : Cond) : Bool := w.onTables || goodWord w
theorem vx_ot_at {args a' : Array Value} {s U : State} {w : Cond} (hW : s.WarmedH U.vm) (hvm : s.vm = U.vm) (hg : vx_ot w = true) (h : w.before args s = true) : w.before a' U = true := by
  simp only [vx_ot, Bool.or_eq_true] at hg
  rcases hg with hg | hg
  · exact va_tabs hg hvm h
  · exact word_at hW (good_of_word hg) h
/-- a list's words: the good ones out of the method's own list, the others by premises of their own -/
theorem vx_own {args : Array Value} {s : State} {L : List Cond} (h1 : ∀ w ∈ L.filter vx_no, w.before args s = true)
    (hU : (Cond.isRef (.static Bundle.tN "UNASSIGNED_STACK" Bundle.steD)).before args s = true) (hN : (Cond.isRef (.static Bundle.tN "SUPPRESSED_SENTINEL" Bundle.listD)).before args s = true)
    (lU : (Cond.laysStatic Bundle.tN "UNASSIGNED_STACK" Bundle.steD).before args s = true) (lN : (Cond.laysStatic Bundle.tN "SUPPRESSED_SENTINEL" Bundle.listD).before args s = true) : ∀ w ∈ L, w.before args s = true := by
  intro w hw
  by_cases e1 : w = .isRef (.static Bundle.tN "UNASSIGNED_STACK" Bundle.steD)
  · rw [e1]; exact hU
  · by_cases e2 : w = .isRef (.static Bundle.tN "SUPPRESSED_SENTINEL" Bundle.listD)
    · rw [e2]; exact hN
    · by_cases e3 : w = .laysStatic Bundle.tN "UNASSIGNED_STACK" Bundle.steD
      · rw [e3]; exact lU
      · by_cases e4 : w = .laysStatic Bundle.tN "SUPPRESSED_SENTINEL" Bundle.listD
        · rw [e4]; exact lN
        · exact h1 w (List.mem_filter.mpr ⟨hw, by unfold vx_no; rw [decide_eq_true e1, decide_eq_true e2, decide_eq_true e3, decide_eq_true e4]; rfl⟩)
/-- where a static field lies, its class's statics cell in H -/
def vx_L (C n d : String) (A : Nat → Prop) (U : State) (H : Heap) : Prop := ∃ (c : ClassId) (k : Class) (i : Nat) (f : Field) (a : Nat) (cell : Cell), U.vm.findClass C = some c ∧ U.fieldFound? C n d = some (c, k, i, f) ∧ f.isStatic = true ∧ k.statics = some a ∧ H[a]? = some cell ∧ cell.vm.isStatics = true ∧ cell.cls = c ∧ f.slot < cell.slots.size ∧ k.staticTypes[f.slot]? = some f.type ∧ ¬ A a
theorem vx_L.moved {C n d : String} {A : Nat → Prop} {u U : State} {H : Heap} (hvm : u.vm.Alike U.vm) (h : vx_L C n d A u H) : vx_L C n d A U H := by
  obtain ⟨c, k, i, f, a, cell, h1, h2, h3, h4, h5, h6, h7, h8, h9, h10⟩ := h
  obtain ⟨k', hi', he⟩ := State.fieldFound?_setVm hvm h2
  exact ⟨c, k', i, f, a, cell, by rw [hvm.findClass]; exact h1, hi', h3, by rw [he]; exact h4, h5, h6, h7, h8, by rw [he]; exact h9, h10⟩
theorem vx_L.kept {C n d : String} {A : Nat → Prop} {U : State} {H H1 : Heap} (h : vx_L C n d A U H) (hq : ∀ a : Nat, a < H.size → ¬ A a → H1[a]? = H[a]?) : vx_L C n d A U H1 := by
  obtain ⟨c, k, i, f, a, cell, h1, h2, h3, h4, h5, h6, h7, h8, h9, h10⟩ := h
  exact ⟨c, k, i, f, a, cell, h1, h2, h3, h4, by rw [hq a (Array.getElem?_eq_some_iff.mp h5).1 h10]; exact h5, h6, h7, h8, h9, h10⟩
theorem vx_L.narrow {C n d : String} {A B : Nat → Prop} {U : State} {H : Heap} (h : vx_L C n d A U H) (hAB : ∀ q, B q → A q) : vx_L C n d B U H := by
  obtain ⟨c, k, i, f, a, cell, h1, h2, h3, h4, h5, h6, h7, h8, h9, h10⟩ := h
  exact ⟨c, k, i, f, a, cell, h1, h2, h3, h4, h5, h6, h7, h8, h9, fun z => h10 (hAB _ z)⟩
theorem vx_L.word {C n d : String} {A : Nat → Prop} {s : State} {args : Array Value} (h : vx_L C n d A s s.heap) : (Cond.laysStatic C n d).before args s = true := by
  obtain ⟨c, k, i, f, a, cell, h1, h2, h3, h4, h5, h6, h7, h8, h9, -⟩ := h
  show (Cond.laysStatic C n d).holds args s none s [] = true
  exact Cond.laysStatic_of h1 h2 h3 h4 h5 h6 h7 h8 h9
/-- .. and what it holds: null or some reference -/
def vx_Zq (C n d : String) (A : Nat → Prop) (U : State) (H : Heap) : Prop := va_Zq C n d A U H ∧ vx_L C n d A U H
theorem vx_Zq.moved {C n d : String} {A : Nat → Prop} {u U : State} {H : Heap} (hvm : u.vm.Alike U.vm) (h : vx_Zq C n d A u H) : vx_Zq C n d A U H := ⟨va_Zq.moved hvm h.1, vx_L.moved hvm h.2⟩
theorem vx_Zq.kept {C n d : String} {A : Nat → Prop} {U : State} {H H1 : Heap} (h : vx_Zq C n d A U H) (hq : ∀ a : Nat, a < H.size → ¬ A a → H1[a]? = H[a]?) : vx_Zq C n d A U H1 := ⟨va_Zq.kept h.1 hq, vx_L.kept h.2 hq⟩
theorem vx_Zq.narrow {C n d : String} {A B : Nat → Prop} {U : State} {H : Heap} (h : vx_Zq C n d A U H) (hAB : ∀ q, B q → A q) : vx_Zq C n d B U H := ⟨va_Zq.narrow h.1 hAB, vx_L.narrow h.2 hAB⟩
theorem vx_Zqof {args : Array Value} {s : State} {C n d : String} {A : Nat → Prop} (hl : (Cond.laysStatic C n d).before args s = true) (hini : (Cond.initialized C).before args s = true) (h : (Cond.isRef (.static C n d)).before args s = true) (hA : ∀ a : Nat, a < s.heap.size → ¬ A a) : vx_Zq C n d A s s.heap := by
  refine ⟨va_Zqof hl hini h hA, ?_⟩
  obtain ⟨c, k, i, f, a, cell, h1, h2, h3, h4, h5, h6, h7, h8, h9⟩ := Cond.laysStatic_spec hl
  exact ⟨c, k, i, f, a, cell, h1, h2, h3, h4, h5, h6, h7, h8, h9, hA a (Array.getElem?_eq_some_iff.mp h5).1⟩
theorem vx_isRef {C n d : String} {v : Value} {A : Nat → Prop} {s : State} {args : Array Value} (h : va_Z C n d v A s s.heap) (hv : v.isRef = true) : (Cond.isRef (.static C n d)).before args s = true := by
  obtain ⟨cf, kf, fi, f, a, cell, h1, h2, h3, h4, h5, h6, h7, -⟩ := h
  have he : (Term.static C n d).eval args s none [] s = some v := by
    simp [Term.eval, State.fieldNamed?, h1, h2, h4, h5, h6, h7]
  simp only [Cond.before, Cond.holds, Cond.value, he]
  cases v <;> simp_all [Value.isRef]
theorem vx_isRefq {C n d : String} {A : Nat → Prop} {s : State} {args : Array Value} (h : va_Zq C n d A s s.heap) : (Cond.isRef (.static C n d)).before args s = true := by
  rcases h with h | ⟨t, h⟩
  · exact vx_isRef h rfl
  · exact vx_isRef h rfl
/-- the same frame, seen from here: as if the method were called anew in this heap -/
theorem vx_rebase {T : State} (X : Stand p l e R s m args below meth c T locs cells slots) {R' : Room} (hf : R'.frames ≤ R.frames) (hl : R'.locals ≤ R.locals) (hc : cells + R'.cells ≤ R.cells) (hs : slots + R'.slots ≤ R.slots) :
    Stand p l e R' ((T.setVm s.vm).setFrames (.invoking m args :: below)) m args below meth c T [] 0 0 := by
  have htop : (T.setVm s.vm).topJava?.isSome := X.here.top
  have hF : ((T.setVm s.vm).setFrames (.invoking m args :: below)).frames = .invoking m args :: below := State.frames_setFrames _ (State.cur_lt_of_top htop)
  obtain ⟨g₀, hg0⟩ := Option.isSome_iff_exists.mp htop
  obtain ⟨r, hr⟩ := State.topJava?_eq_some.mp hg0
  have hl9 : e.platform.stackLimits (T.setVm s.vm).me = e.platform.stackLimits s.me := X.limits
  have hb9 : (T.setVm s.vm).me.stackBytes = s.me.stackBytes := X.bytes
  refine ⟨X.admits, X.cas, X.clock, hF, ?_, X.hears, X.method, X.code, X.here, X.tail, X.warmed, ?_, ?_, ?_⟩
  · have h := X.room
    have hU : ((T.setVm s.vm).setFrames (.invoking m args :: below)).localsInUse = s.localsInUse := by
      rw [State.localsInUse_invoking hF (meth := meth) (c := c) X.method X.code, State.localsInUse_invoking X.frames X.method X.code]
    simp only [State.hasRoom, Bool.and_eq_true, decide_eq_true_eq] at h ⊢
    obtain ⟨⟨⟨⟨h1, h2, h3, h4, h5, h6⟩, h7⟩, h8⟩, h9⟩ := h
    rw [X.frames, List.length_cons] at h2 h3
    have q1 := X.heapSize
    have q2 := X.used
    simp only [hF, hU, List.length_cons, State.stackLimits_setFrames, State.stackBytes_setFrames, hl9, hb9]
    refine ⟨⟨⟨⟨by omega, by omega, by omega, by omega, by omega, h6⟩, ?_⟩, ?_⟩, X.book⟩
    · show T.heap.size + R'.cells ≤ e.platform.maxCells
      omega
    · show T.slotsUsed + R'.slots ≤ e.platform.maxSlots
      omega
  · rw [State.stackLimits_setFrames]; rfl
  · rw [State.stackBytes_setFrames]; rfl
  · refine ⟨?_, Nat.le_refl _, Nat.le_refl _, ?_, ?_, fun a c9 h9 => ⟨c9, h9, rfl, rfl, fun _ _ => rfl⟩⟩
    · obtain ⟨t, ht, -⟩ := State.frames_cons hr
      show T.setVm s.vm = { ((T.setVm s.vm).setFrames (.invoking m args :: below)).setFrames (T.setVm s.vm).frames with heap := T.heap, slotsUsed := T.slotsUsed }
      rw [State.setFrames_setFrames, State.setFrames_self ht]
      rfl
    · show T.slotsUsed = T.slotsUsed + ((T.heap.toList.drop T.heap.size).map (·.slots.size)).sum
      rw [List.drop_eq_nil_of_le (Nat.le_of_eq Array.length_toList)]
      rfl
    · show ((T.heap.toList.drop T.heap.size).map (·.slots.size)).sum ≤ 0
      rw [List.drop_eq_nil_of_le (Nat.le_of_eq Array.length_toList)]
      exact Nat.le_refl _
/-- 'throw new E("text")': new; dup; ldc; invokespecial; athrow -/
theorem vx_throwS {cc : ByteArray} {pc : Nat} (hexec : p.tables.exec = Jvm.exec) (hb : c.code = cc) (hl : l.stackTraces = false) {own cls text : String} {names : List String} {ik is ic mc ms sa : Nat} {A : Nat → Prop}
    (hown : s.vm.findClass own = some m.cls) (hcls : Bundle.fit cls = true) (hnames : ∀ n ∈ names, Bundle.fit n = true)
    (hk : (Cond.classLink own ik cls).before args s = true) (hini : (Cond.initialized cls).before args s = true) (hstr : vk_R own is text sa s) (hat : ∀ w ∈ vx_atS own ic cls names, w.before args s = true)
    (hgood : ∀ w ∈ Cond.classLink own ik cls :: Cond.initialized cls :: vx_atS own ic cls names, vx_ot w = true)
    (hU : vx_Zq Bundle.tN "UNASSIGNED_STACK" Bundle.steD A s s.heap) (hN : vx_Zq Bundle.tN "SUPPRESSED_SENTINEL" Bundle.listD A s s.heap) (hS : va_S A s.heap H locs) (hsize : ls.size = c.maxLocals)
    (d0 : decode cc pc = .ok (.new ik, 3)) (d3 : decode cc (pc + 3) = .ok (.dup, 1)) (d4 : decode cc (pc + 4) = .ok (.ldc is, 2)) (d6 : decode cc (pc + 6) = .ok (.invokespecial ic, 3)) (d9 : decode cc (pc + 9) = .ok (.athrow, 1))
    (hout : ∀ x ∈ c.exceptionTable.toList, covers x (pc + 9) = false)
    (hRframes : names.length + 3 < R.frames) (hRlocals : (rest.map fun v => v.category).sum + (13 * (names.length + 1) + 43) ≤ R.locals) (hRcells : cells + 1 ≤ R.cells) (hRslots : slots + 6 ≤ R.slots) (hlocks : meth.locks = false)
    (hx : ∀ t : State, s.vm.Alike t.vm → H.size ≤ t.heap.size → (∀ q : Nat, q < H.size → t.heap[q]? = H[q]?) → XC cls s t)
    (hf : ∀ z ∈ locs, free z.base) (hc : cells + 1 ≤ mc) (hs : slots + 6 ≤ ms) :
    W p l e R s m args below meth c H locs cells slots (vx_MQ below Qc XC args s mc ms free) (F0 m pc ls rest) := by
  intro T hT X
  have htr : e.platform.stackTraces = false := (show e.platform.stackTraces = l.stackTraces by rw [X.admits.platform]).trans hl
  have Y := vx_rebase X (R' := { frames := R.frames, locals := R.locals, cells := 1, slots := 6 }) (Nat.le_refl _) (Nat.le_refl _) hRcells hRslots
  obtain ⟨s', hA⟩ : ∃ z, z = (T.setVm s.vm).setFrames (.invoking m args :: below) := ⟨_, rfl⟩
  rw [← hA] at Y
  have hvm : s'.vm = s.vm := by rw [hA]; rfl
  have hhp : s'.heap = H := by rw [hA]; exact hT
  have hW0 : s.WarmedH s'.vm := by rw [hvm]; exact State.WarmedH.refl s
  have hat' : ∀ w ∈ vx_atS own ic cls names, w.before args s' = true := fun w hw => vx_ot_at hW0 hvm.symm (hgood w (List.mem_cons_of_mem _ (List.mem_cons_of_mem _ hw))) (hat w hw)
  have hk' : (Cond.classLink own ik cls).before args s' = true := vx_ot_at hW0 hvm.symm (hgood _ List.mem_cons_self) hk
  have hini' : (Cond.initialized cls).before args s' = true := vx_ot_at hW0 hvm.symm (hgood _ (List.mem_cons_of_mem _ List.mem_cons_self)) hini
  have hU' : vx_Zq Bundle.tN "UNASSIGNED_STACK" Bundle.steD A s' s'.heap := by rw [hhp]; exact vx_Zq.moved hW0.alike (hU.kept hS.2.1)
  have hN' : vx_Zq Bundle.tN "SUPPRESSED_SENTINEL" Bundle.listD A s' s'.heap := by rw [hhp]; exact vx_Zq.moved hW0.alike (hN.kept hS.2.1)
  have h : ∀ w ∈ Bundle.ownAtoms own ic cls names, w.before args s' = true := vx_own hat' (vx_isRefq hU'.1) (vx_isRefq hN'.1) hU'.2.word hN'.2.word
  have hown' : s'.vm.findClass own = some m.cls := by rw [hvm]; exact hown
  have hins : (Cond.instantiable cls 6).before args s' = true := h _ (by simp [Bundle.ownAtoms])
  obtain ⟨vm₁, cX, kX, hfX, hkX, -, -, X₁, st1⟩ := Y.newCold hexec (own := own) (C := cls) (index := ik) (n := 6) hown' hk' hins hini'
    (g := F0 m pc ls rest) rfl (by rw [hb]; exact d0) (Nat.le_refl _) (Nat.le_refl _)
  generalize hT1 : (T.setVm vm₁).pushCell { cls := cX, slots := kX.instanceTypes.map defaultValue, vm := .none } = T1 at X₁ st1
  have hcat : (Value.ref T.heap.size).category = 1 := rfl
  have hcellA : T1.heap[T.heap.size]? = some (freshCell cX kX) := by rw [← hT1]; exact State.heap_pushCell_size _ _
  have d3' : decode c.code (pc + 3) = .ok (.dup, 1) := by rw [hb]; exact d3
  have d4' : decode c.code (pc + 4) = .ok (.ldc is, 2) := by rw [hb]; exact d4
  have hstr' : vk_R own is text sa s' := vk_R.warm hW0 hstr
  obtain ⟨U, hsteps, hrun, hend, hW, hsame, ce, hce, hO⟩ := X₁.ctorThrowS hexec htr (own := own) (cls := cls) (names := names) (ic := ic) hown' hcls hnames h (fun x hx => nomatch hx) hfX hkX hcellA (by rw [hhp, hT]; exact Nat.le_refl _) (msg := .ref sa) rfl
    (g := { method := m, pc := pc + 6, locals := ls, stack := .ref sa :: .ref T.heap.size :: .ref T.heap.size :: rest, locked := none }) rfl hsize rfl rfl (rest := rest) rfl
    (by rw [hb]; exact d6) (by rw [hb]; exact d9) hout hRframes (by simp only [List.map_cons, List.sum_cons, hcat]; omega) hlocks
  obtain ⟨f1, f2⟩ := vx_frame hsame
  rw [hhp] at f1 f2
  have hWs : s.WarmedH U.vm := State.WarmedH.trans hW0 hW
  have hcl : s.vm.findClass cls = some ce.cls := by
    have h9 := hO.cls
    rw [hvm] at h9
    exact h9
  have hall : s.sameButNew ({ U with vm := s.vm } : State) locs mc ms := by
    subst hA
    obtain ⟨e1, e2⟩ := hsame
    rw [State.setFrames_setFrames] at e1
    have h2 : (T.setVm s.vm).sameButNew ({ U with vm := s.vm } : State) [] (0 + 1) (0 + 6) := ⟨e1, e2⟩
    have h3 := X.same.trans h2
    rw [List.append_nil] at h3
    exact h3.mono hc hs
  refine ⟨U, ?_, .threw T.heap.size, hrun, hend, Or.inr ⟨T.heap.size, rfl, cls, ce, locs, hx U hWs.alike f1 (fun q hq => f2 q hq (fun z hz => nomatch hz)), hce, hO.vm, hcl, hWs, hall, hf⟩⟩
  refine st1 _ ?_
  show Steps p.tables e below (T1.setTop { method := m, pc := pc + 3, locals := ls, stack := .ref T.heap.size :: rest, locked := none }) _
  jvm_step X₁.here [X₁.here.top, hexec, d3', Value.category]
  exact X₁.ldcString hexec (own := own) (text := text) (index := is) (a := sa) hown' hstr'.1 hstr'.2
    (g := { method := m, pc := pc + 4, locals := ls, stack := .ref T.heap.size :: .ref T.heap.size :: rest, locked := none }) rfl d4' _ hsteps
end Ends
end VXA
end
section
/-! AN OWN LAYER OVER THE KIT: worlds by cell numbers. cv: a value whose references are cell numbers, at addresses ad; ce, cw: a cell, a world -/
def cv (ad : Nat → Nat) : Value → Value
  | .ref k => .ref (ad k)
  | .int x => .int x
  | .long x => .long x
  | .float x => .float x
  | .double x => .double x
  | .null => .null
  | .retAddr x => .retAddr x
theorem cv_cat (ad : Nat → Nat) (v : Value) : (cv ad v).category = v.category := by cases v <;> rfl
abbrev ct_E : Type := (Nat × vp_A) ⊕ (Nat × List Value)
abbrev ct_W : Type := List ct_E
def ce (tc : Nat → ClassId) (ad : Nat → Nat) : ct_E → va_E
  | .inl a => .inl (tc a.1, a.2)
  | .inr o => .inr (o.1, o.2.map (cv ad))
def cw (tc : Nat → ClassId) (ad : Nat → Nat) (w : ct_W) : va_W := w.mapIdx (fun k c => (ad k, ce tc ad c))
theorem cw_at {tc : Nat → ClassId} {ad : Nat → Nat} {w : ct_W} {k : Nat} {c : ct_E} (h : w[k]? = some c) : (cw tc ad w)[k]? = some (ad k, ce tc ad c) := by
  simp [cw, List.getElem?_mapIdx, h]
theorem cw_inv {tc : Nat → ClassId} {ad : Nat → Nat} {w : ct_W} {k : Nat} {q : Nat × va_E} (h : (cw tc ad w)[k]? = some q) : ∃ c, w[k]? = some c ∧ q = (ad k, ce tc ad c) := by
  rw [cw, List.getElem?_mapIdx] at h
  cases hc : w[k]? with
  | none => rw [hc] at h; cases h
  | some c => rw [hc] at h; exact ⟨c, rfl, (Option.some.inj h).symm⟩
theorem cw_set {tc : Nat → ClassId} {ad : Nat → Nat} {w : ct_W} {k : Nat} {c : ct_E} : (cw tc ad w).set k (ad k, ce tc ad c) = cw tc ad (w.set k c) := by
  apply List.ext_getElem?
  intro i
  simp only [cw, List.getElem?_mapIdx, List.getElem?_set, List.length_mapIdx]
  by_cases h : k = i
  · subst h
    by_cases h2 : k < w.length <;> simp [h2]
  · simp [h]
/-- no reference to a cell number from n on, below n' -/
def wfV (n n' : Nat) : Value → Bool
  | .ref k => Nat.blt k n || Nat.ble n' k
  | _ => true
def wfE (n n' : Nat) : ct_E → Bool
  | .inl _ => true
  | .inr o => o.2.all (wfV n n')
def wfW (n n' : Nat) (w : ct_W) : Bool := w.all (wfE n n')
def wfO (n n' : Nat) : Option Value → Bool
  | none => true
  | some v => wfV n n' v
def wfL (n n' : Nat) (ls : List (Option Value)) : Bool := ls.all (wfO n n')
def wfS (n n' : Nat) (st : List Value) : Bool := st.all (wfV n n')
def ct_ag (n n' : Nat) (ad ad' : Nat → Nat) : Prop := ∀ i : Nat, (i < n ∨ n' ≤ i) → ad' i = ad i
theorem cv_wf {n n' : Nat} {ad ad' : Nat → Nat} {v : Value} (h : wfV n n' v = true) (ha : ct_ag n n' ad ad') : cv ad' v = cv ad v := by
  cases v with
  | ref k =>
    have h1 : k < n ∨ n' ≤ k := by
      simp only [wfV, Bool.or_eq_true, Nat.blt_eq, Nat.ble_eq] at h
      exact h
    simp only [cv, ha k h1]
  | _ => rfl
theorem cvs_wf {n n' : Nat} {ad ad' : Nat → Nat} {st : List Value} (h : wfS n n' st = true) (ha : ct_ag n n' ad ad') : st.map (cv ad') = st.map (cv ad) :=
  List.map_congr_left fun v hv => cv_wf (List.all_eq_true.mp h v hv) ha
theorem ce_wf {n n' : Nat} {tc : Nat → ClassId} {ad ad' : Nat → Nat} {c : ct_E} (h : wfE n n' c = true) (ha : ct_ag n n' ad ad') : ce tc ad' c = ce tc ad c := by
  cases c with
  | inl a => rfl
  | inr o =>
    show Sum.inr (o.1, o.2.map (cv ad')) = Sum.inr (o.1, o.2.map (cv ad))
    rw [cvs_wf h ha]
theorem cw_wf {n' : Nat} {tc : Nat → ClassId} {ad ad' : Nat → Nat} {w : ct_W} (h : wfW w.length n' w = true) (ha : ct_ag w.length n' ad ad') : cw tc ad' w = cw tc ad w := by
  apply List.ext_getElem?
  intro i
  simp only [cw, List.getElem?_mapIdx]
  cases hc : w[i]? with
  | none => rfl
  | some c =>
    have hi : i < w.length := (List.getElem?_eq_some_iff.mp hc).1
    have h1 : wfE w.length n' c = true := List.all_eq_true.mp h c (List.mem_of_getElem? hc)
    simp only [Option.map_some, ha i (Or.inl hi), ce_wf h1 ha]
theorem cw_push {tc : Nat → ClassId} {ad : Nat → Nat} {w : ct_W} {c : ct_E} {q : Nat} (h : wfW w.length (w.length + 1) w = true) (hc : wfE w.length (w.length + 1) c = true) :
    cw tc (va_up ad w.length q) (w ++ [c]) = cw tc ad w ++ [(q, ce tc ad c)] := by
  have ha : ct_ag w.length (w.length + 1) ad (va_up ad w.length q) := fun i hi => va_up_ne _ _ (by omega)
  have h1 : cw tc (va_up ad w.length q) (w ++ [c]) = cw tc (va_up ad w.length q) w ++ [(va_up ad w.length q w.length, ce tc (va_up ad w.length q) c)] := by
    simp [cw]
  rw [h1, cw_wf h ha, ce_wf hc ha, va_up_self]
/-- the locals: ls has the known ones, at their places -/
def LV (ad : Nat → Nat) (nL : Nat) (ls : List (Option Value)) (arr : Array Slot) : Prop :=
  lv_has arr nL [] ∧ ∀ (i : Nat) (v : Value), ls[i]? = some (some v) → v.category = 1 ∧ arr[i]? = some (.val (cv ad v))
def lvl (ad : Nat → Nat) (nL : Nat) (ls : List (Option Value)) : List (Nat × Value) := (List.range nL).filterMap (fun i => (ls[i]?.join).map (fun v => (i, cv ad v)))
theorem lvl_mem {ad : Nat → Nat} {nL : Nat} {ls : List (Option Value)} {i : Nat} {v : Value} (hi : i < nL) (h : ls[i]? = some (some v)) : (i, cv ad v) ∈ lvl ad nL ls :=
  List.mem_filterMap.mpr ⟨i, List.mem_range.mpr hi, by rw [h]; rfl⟩
theorem lvl_inv {ad : Nat → Nat} {nL : Nat} {ls : List (Option Value)} {q : Nat × Value} (h : q ∈ lvl ad nL ls) : ∃ v, ls[q.1]? = some (some v) ∧ q.2 = cv ad v := by
  obtain ⟨i, -, h2⟩ := List.mem_filterMap.mp h
  cases h3 : ls[i]? with
  | none => rw [h3] at h2; cases h2
  | some o =>
    cases o with
    | none => rw [h3] at h2; cases h2
    | some v =>
      rw [h3] at h2
      have h4 : (i, cv ad v) = q := Option.some.inj h2
      subst h4
      exact ⟨v, h3, rfl⟩
theorem LV.has {ad : Nat → Nat} {nL : Nat} {ls : List (Option Value)} {arr : Array Slot} (h : LV ad nL ls arr) : lv_has arr nL (lvl ad nL ls) := by
  refine ⟨h.1.1, h.1.2.1, fun q hq => ?_⟩
  obtain ⟨v, h1, h2⟩ := lvl_inv hq
  rw [h2]
  exact (h.2 q.1 v h1).2
theorem LV.get {ad : Nat → Nat} {nL : Nat} {ls : List (Option Value)} {arr : Array Slot} (h : LV ad nL ls arr) {i : Nat} {v : Value} (hv : ls[i]? = some (some v)) : arr[i]? = some (.val (cv ad v)) := (h.2 i v hv).2
theorem LV.old {ad : Nat → Nat} {nL : Nat} {ls : List (Option Value)} {arr arr' : Array Slot} {i j : Nat} {v u : Value} (h : LV ad nL ls arr) (hj : ls[j]? = some (some u)) (hne : j ≠ i)
    (h' : lv_has arr' nL ((i, v) :: (lvl ad nL ls).filter (fun q => !(q.1 == i) && !(q.1 + 1 == i && q.2.category == 2)))) : u.category = 1 ∧ arr'[j]? = some (.val (cv ad u)) := by
  obtain ⟨h1, h2⟩ := h.2 j u hj
  refine ⟨h1, h'.2.2 (j, cv ad u) (List.mem_cons_of_mem _ (List.mem_filter.mpr ⟨lvl_mem (by rw [← h.1.1]; exact lv_lt h2) hj, ?_⟩))⟩
  have h3 : ((cv ad u).category == 2) = false := by rw [cv_cat, h1]; rfl
  have h4 : (j == i) = false := by simpa using hne
  show (!(j == i) && !(j + 1 == i && (cv ad u).category == 2)) = true
  rw [h3, h4, Bool.and_false]
  rfl
theorem LV.set {ad : Nat → Nat} {nL : Nat} {ls : List (Option Value)} {arr arr' : Array Slot} {i : Nat} {v : Value} (h : LV ad nL ls arr) (hc : v.category = 1)
    (h' : lv_has arr' nL ((i, cv ad v) :: (lvl ad nL ls).filter (fun q => !(q.1 == i) && !(q.1 + 1 == i && q.2.category == 2)))) : LV ad nL (ls.set i (some v)) arr' := by
  refine ⟨⟨h'.1, h'.2.1, fun q hq => nomatch hq⟩, fun j u hj => ?_⟩
  rw [List.getElem?_set] at hj
  by_cases e : i = j
  · subst e
    rw [if_pos rfl] at hj
    by_cases hl : i < ls.length
    · rw [if_pos hl] at hj
      have hu : v = u := Option.some.inj (Option.some.inj hj)
      subst hu
      exact ⟨hc, h'.2.2 _ List.mem_cons_self⟩
    · rw [if_neg hl] at hj
      cases hj
  · rw [if_neg e] at hj
    exact h.old hj (Ne.symm e) h'
theorem LV.setN {ad : Nat → Nat} {nL : Nat} {ls : List (Option Value)} {arr arr' : Array Slot} {i : Nat} {v : Value} (h : LV ad nL ls arr)
    (h' : lv_has arr' nL ((i, v) :: (lvl ad nL ls).filter (fun q => !(q.1 == i) && !(q.1 + 1 == i && q.2.category == 2)))) : LV ad nL (ls.set i none) arr' := by
  refine ⟨⟨h'.1, h'.2.1, fun q hq => nomatch hq⟩, fun j u hj => ?_⟩
  rw [List.getElem?_set] at hj
  by_cases e : i = j
  · subst e
    rw [if_pos rfl] at hj
    by_cases hl : i < ls.length
    · rw [if_pos hl] at hj
      exact nomatch (Option.some.inj hj)
    · rw [if_neg hl] at hj
      cases hj
  · rw [if_neg e] at hj
    exact h.old hj (Ne.symm e) h'
theorem LV.wf {n n' : Nat} {ad ad' : Nat → Nat} {nL : Nat} {ls : List (Option Value)} {arr : Array Slot} (h : LV ad nL ls arr) (hw : wfL n n' ls = true) (ha : ct_ag n n' ad ad') : LV ad' nL ls arr := by
  refine ⟨h.1, fun i v hv => ?_⟩
  have h1 : wfV n n' v = true := List.all_eq_true.mp hw (some v) (List.mem_of_getElem? hv)
  rw [cv_wf h1 ha]
  exact h.2 i v hv
theorem LV.entry {ad : Nat → Nat} {nL : Nat} (as : List Value) (hc : ∀ v ∈ as, v.category = 1) (hl : as.length ≤ nL) : LV ad nL (as.map some ++ List.replicate (nL - as.length) none) ((((as.map (cv ad)).map Slot.val) ++ List.replicate (nL - (as.map (cv ad)).length) Slot.unset).toArray) := by
  have at' : ∀ (i : Nat) (z : Slot), ((((as.map (cv ad)).map Slot.val) ++ List.replicate (nL - (as.map (cv ad)).length) Slot.unset).toArray)[i]? = some z → z = .unset ∨ ∃ v, v.category = 1 ∧ z = .val v := by
    intro i z h
    rw [List.getElem?_toArray] at h
    rcases List.mem_append.mp (List.mem_of_getElem? h) with h1 | h1
    · obtain ⟨v, h2, rfl⟩ := List.mem_map.mp h1
      obtain ⟨u, h3, rfl⟩ := List.mem_map.mp h2
      exact Or.inr ⟨_, by rw [cv_cat]; exact hc u h3, rfl⟩
    · exact Or.inl (List.eq_of_mem_replicate h1)
  refine ⟨⟨by simp; omega, ⟨fun i v h1 h2 => ?_, fun i h1 => ?_⟩, fun q hq => nomatch hq⟩, fun i v hv => ?_⟩
  · rcases at' i _ h1 with h3 | ⟨u, h3, h4⟩
    · cases h3
    · cases h4
      omega
  · rcases at' i _ h1 with h3 | ⟨u, h3, h4⟩
    · cases h3
    · cases h4
  · by_cases hi : i < as.length
    · rw [List.getElem?_append_left (by simpa using hi), List.getElem?_map] at hv
      cases hq : as[i]? with
      | none => rw [hq] at hv; cases hv
      | some u =>
        rw [hq] at hv
        have hu : u = v := Option.some.inj (Option.some.inj hv)
        subst hu
        refine ⟨hc u (List.mem_of_getElem? hq), ?_⟩
        rw [List.getElem?_toArray, List.getElem?_append_left (by simpa using hi)]
        simp [hq]
    · rw [List.getElem?_append_right (by simpa using hi)] at hv
      exact nomatch (List.eq_of_mem_replicate (List.mem_of_getElem? hv))
end
section
/-! THE JUDGEMENTS. X: what is fixed over the whole run: the launch, the law's first state and arguments, the classes' numbers and slots, the array classes, the script's address, length, contents -/
abbrev ct_X : Type := Launch × State × Array Value × va_G × (Nat → ClassId) × Nat × Nat × (Nat → Int32)
abbrev xl (X : ct_X) : Launch := X.1
abbrev xs (X : ct_X) : State := X.2.1
abbrev xa (X : ct_X) : Array Value := X.2.2.1
abbrev xD (X : ct_X) : va_G := X.2.2.2.1
abbrev xt (X : ct_X) : Nat → ClassId := X.2.2.2.2.1
abbrev xb (X : ct_X) : Nat := X.2.2.2.2.2.1
abbrev xL (X : ct_X) : Nat := X.2.2.2.2.2.2.1
abbrev xx (X : ct_X) : Nat → Int32 := X.2.2.2.2.2.2.2
abbrev ct_tys (tc : Nat → ClassId) : List (ClassId × FieldType) := [(tc 0, .int), (tc 1, .boolean), (tc 2, .long)]
/-- the script's cell number -/
def scr : Nat := 1000000
/-- the exceptions -/
def xn : Nat → String
  | 0 => "java/lang/IndexOutOfBoundsException"
  | 1 => "java/lang/UnsupportedOperationException"
  | 2 => "java/lang/IllegalArgumentException"
  | _ => "java/lang/IllegalStateException"
/-- what holds at the law's first state -/
def Gl (X : ct_X) : Prop :=
  (∀ w ∈ lw_tbl, w.before (xa X) (xs X) = true) ∧ (xl X).stackTraces = false ∧ va_K (xD X) vwCl (ct_tys (xt X)) (xs X) ∧ va_X (xb X) (xL X) (xx X) (xs X) (xs X).heap ∧ xb X < (xs X).heap.size ∧
  vx_Zq Bundle.tN "UNASSIGNED_STACK" Bundle.steD (fun q => (xs X).heap.size ≤ q) (xs X) (xs X).heap ∧ vx_Zq Bundle.tN "SUPPRESSED_SENTINEL" Bundle.listD (fun q => (xs X).heap.size ≤ q) (xs X) (xs X).heap ∧ ∀ i j : Nat, i < 4 → j < 4 → i ≠ j → va_Nc (xn i) (xn j) (xs X)
/-- a method: its name, code, number of locals, what it returns, its handlers -/
abbrev ct_M : Type := MethodName × ByteArray × Nat × Option FieldType × List (Nat × Nat × Nat × Nat)
/-- a later state: warmer tables, the first state's cells as they were -/
def Lat (X : ct_X) (s : State) : Prop := (xs X).WarmedH s.vm ∧ (xs X).heap.size ≤ s.heap.size ∧ ∀ q : Nat, q < (xs X).heap.size → s.heap[q]? = (xs X).heap[q]?
def ct_Code (M : ct_M) (meth : Method) (c : Code) : Prop :=
  c.code = M.2.1 ∧ c.maxLocals = M.2.2.1 ∧ meth.sig.returnType = M.2.2.2.1 ∧ meth.locks = false ∧ c.exceptionTable.toList.map (fun h => (h.startPc, h.endPc, h.handlerPc, h.catchType)) = M.2.2.2.2
def Amb (X : ct_X) (M : ct_M) (p : Program) (s : State) (m : MethodId) (meth : Method) (c : Code) (A : Nat → Prop) : Prop :=
  p.tables.exec = Jvm.exec ∧ ct_Code M meth c ∧ s.vm.findClass M.1.cls = some m.cls ∧ meth.name = M.1.name ∧ Lat X s ∧ (∀ q, A q → (xs X).heap.size ≤ q) ∧ ∀ q, s.heap.size ≤ q → A q
theorem Amb.exec {X : ct_X} {M : ct_M} {p : Program} {s : State} {m : MethodId} {meth : Method} {c : Code} {A : Nat → Prop} (h : Amb X M p s m meth c A) : p.tables.exec = Jvm.exec := h.1
theorem Amb.code {X : ct_X} {M : ct_M} {p : Program} {s : State} {m : MethodId} {meth : Method} {c : Code} {A : Nat → Prop} (h : Amb X M p s m meth c A) : c.code = M.2.1 := h.2.1.1
theorem Amb.maxL {X : ct_X} {M : ct_M} {p : Program} {s : State} {m : MethodId} {meth : Method} {c : Code} {A : Nat → Prop} (h : Amb X M p s m meth c A) : c.maxLocals = M.2.2.1 := h.2.1.2.1
theorem Amb.ret {X : ct_X} {M : ct_M} {p : Program} {s : State} {m : MethodId} {meth : Method} {c : Code} {A : Nat → Prop} (h : Amb X M p s m meth c A) : meth.sig.returnType = M.2.2.2.1 := h.2.1.2.2.1
theorem Amb.locks {X : ct_X} {M : ct_M} {p : Program} {s : State} {m : MethodId} {meth : Method} {c : Code} {A : Nat → Prop} (h : Amb X M p s m meth c A) : meth.locks = false := h.2.1.2.2.2.1
theorem Amb.table {X : ct_X} {M : ct_M} {p : Program} {s : State} {m : MethodId} {meth : Method} {c : Code} {A : Nat → Prop} (h : Amb X M p s m meth c A) : c.exceptionTable.toList.map (fun h => (h.startPc, h.endPc, h.handlerPc, h.catchType)) = M.2.2.2.2 := h.2.1.2.2.2.2
theorem Amb.own {X : ct_X} {M : ct_M} {p : Program} {s : State} {m : MethodId} {meth : Method} {c : Code} {A : Nat → Prop} (h : Amb X M p s m meth c A) : s.vm.findClass M.1.cls = some m.cls := h.2.2.1
theorem Amb.name {X : ct_X} {M : ct_M} {p : Program} {s : State} {m : MethodId} {meth : Method} {c : Code} {A : Nat → Prop} (h : Amb X M p s m meth c A) : meth.name = M.1.name := h.2.2.2.1
theorem Amb.lat {X : ct_X} {M : ct_M} {p : Program} {s : State} {m : MethodId} {meth : Method} {c : Code} {A : Nat → Prop} (h : Amb X M p s m meth c A) : Lat X s := h.2.2.2.2.1
theorem Amb.A1 {X : ct_X} {M : ct_M} {p : Program} {s : State} {m : MethodId} {meth : Method} {c : Code} {A : Nat → Prop} (h : Amb X M p s m meth c A) : ∀ q, A q → (xs X).heap.size ≤ q := h.2.2.2.2.2.1
theorem Amb.A2 {X : ct_X} {M : ct_M} {p : Program} {s : State} {m : MethodId} {meth : Method} {c : Code} {A : Nat → Prop} (h : Amb X M p s m meth c A) : ∀ q, s.heap.size ≤ q → A q := h.2.2.2.2.2.2
theorem Amb.K {X : ct_X} {M : ct_M} {p : Program} {s : State} {m : MethodId} {meth : Method} {c : Code} {A : Nat → Prop} (h : Amb X M p s m meth c A) (G : Gl X) : va_K (xD X) vwCl (ct_tys (xt X)) s := va_K.moved h.lat.1.alike G.2.2.1
/-- a good word of the tables, at a later state -/
theorem Lat.w {X : ct_X} {s : State} (h : Lat X s) (G : Gl X) {w : Cond} (hw : w ∈ lw_tbl) (hg : goodWord w = true) (args : Array Value) : w.before args s = true := word_at h.1 (good_of_word hg) (G.1 w hw)
/-- a point of a body: the world, what may have changed, the locals, the cell numbers that are as at the body's start -/
def Rel (X : ct_X) (nL : Nat) (A : Nat → Prop) (s : State) (ad ad0 : Nat → Nat) (n0 : Nat) (w : ct_W) (H : Heap) (locs : List Loc) (ls : List (Option Value)) (arr : Array Slot) : Prop :=
  va_P (xD X) vwCl (cw (xt X) ad w) H ∧ va_D A (cw (xt X) ad w) ∧ va_S A s.heap H locs ∧ LV ad nL ls arr ∧ ct_ag n0 w.length ad0 ad ∧ n0 ≤ w.length ∧ w.length ≤ scr ∧ ad0 scr = xb X
theorem Rel.sc {X : ct_X} {nL : Nat} {A : Nat → Prop} {s : State} {ad ad0 : Nat → Nat} {n0 : Nat} {w : ct_W} {H : Heap} {locs : List Loc} {ls : List (Option Value)} {arr : Array Slot} (h : Rel X nL A s ad ad0 n0 w H locs ls arr) : ad scr = xb X := by
  obtain ⟨-, -, -, -, h5, -, h7, h8⟩ := h
  rw [h5 scr (Or.inr h7), h8]
/-- how a method ends: r: it returned a value, or threw an exception of the class xn x; the world, the cells made -/
def ct_out (s : State) (ad : Nat → Nat) (mc ms k n : Nat) (o : Outcome) (t : State) : Option Value ⊕ Nat → Prop
  | .inl v => o = .returned (v.map (cv ad)) ∧ k ≤ mc ∧ n ≤ ms
  | .inr x => (∃ (a : Addr) (cell : Cell), o = .threw a ∧ t.heap[a]? = some cell ∧ cell.vm = .none ∧ s.vm.findClass (xn x) = some cell.cls) ∧ k ≤ mc + 1 ∧ n ≤ ms + 6
def AEnd (X : ct_X) (below : List Frame) (s : State) (A : Nat → Prop) (ad0 : Nat → Nat) (n0 mc ms : Nat) (Q : Option Value ⊕ Nat → ct_W → Prop) (t : State) : Prop :=
  ∃ (o : Outcome) (r : Option Value ⊕ Nat) (ad : Nat → Nat) (w : ct_W) (L : List Loc) (k n : Nat),
    (t.status = .running ∧ Ended t below o ∧ s.WarmedH t.vm ∧ s.sameButNew ({ t with vm := s.vm } : State) L k n ∧ (∀ q ∈ L, A q.base) ∧ va_F A s t) ∧
    (va_P (xD X) vwCl (cw (xt X) ad w) t.heap ∧ va_D A (cw (xt X) ad w) ∧ ct_ag n0 w.length ad0 ad ∧ n0 ≤ w.length ∧ w.length ≤ scr) ∧ Q r w ∧ ct_out s ad mc ms k n o t r
/-- the room of a method of depth d that makes mc cells of ms slots (and an exception) -/
def RD (d mc ms : Nat) (R : Room) : Prop := d ≤ R.frames ∧ 30 * d ≤ R.locals ∧ mc + 1 ≤ R.cells ∧ ms + 6 ≤ R.slots
/-- A POINT OF A BODY: pc, locals, stack, world; cb, sb: cells and slots made so far; Q: what the method's end owes -/
def AW (X : ct_X) (M : ct_M) (d mc ms cb sb pc : Nat) (ls : List (Option Value)) (st : List Value) (w : ct_W) (Q : Option Value ⊕ Nat → ct_W → Prop) : Prop :=
  Gl X → ∀ (p : Program) (e : Env) (R : Room) (s : State) (m : MethodId) (args : Array Value) (below : List Frame) (meth : Method) (c : Code) (A : Nat → Prop) (ad ad0 : Nat → Nat) (n0 : Nat) (H : Heap) (locs : List Loc) (cells slots : Nat) (arr : Array Slot),
    RD d mc ms R → Amb X M p s m meth c A → Rel X M.2.2.1 A s ad ad0 n0 w H locs ls arr → cells ≤ cb → slots ≤ sb →
    W p (xl X) e R s m args below meth c H locs cells slots (AEnd X below s A ad0 n0 mc ms Q) (F0 m pc arr (st.map (cv ad)))
/-- A METHOD: from arguments as and a world w it ends with Q -/
def AM (X : ct_X) (M : ct_M) (d mc ms : Nat) (as : List Value) (w : ct_W) (Q : Option Value ⊕ Nat → ct_W → Prop) : Prop :=
  Gl X → ∀ (p : Program) (e : Env) (R : Room) (s : State) (m : MethodId) (below : List Frame) (meth : Method) (c : Code) (A : Nat → Prop) (ad : Nat → Nat),
    RD d mc ms R → Amb X M p s m meth c A → va_P (xD X) vwCl (cw (xt X) ad w) s.heap → va_D A (cw (xt X) ad w) → w.length ≤ scr → ad scr = xb X →
    W p (xl X) e R s m (as.map (cv ad)).toArray below meth c s.heap [] 0 0 (AEnd X below s A ad w.length mc ms Q) (entryFrame m (as.map (cv ad)).toArray M.2.2.1)
def ct_c1 (as : List Value) : Bool := as.all (fun v => v.category == 1)
theorem AM.of {X : ct_X} {M : ct_M} {d mc ms : Nat} {as : List Value} {w : ct_W} {Q : Option Value ⊕ Nat → ct_W → Prop} (hc : ct_c1 as = true) (hl : as.length ≤ M.2.2.1) {ls : List (Option Value)} (hls : as.map some ++ List.replicate (M.2.2.1 - as.length) none = ls) (k : AW X M d mc ms 0 0 0 ls [] w Q) : AM X M d mc ms as w Q := by
  intro G p e R s m below meth c A ad hR hA hP hD hw hb
  subst hls
  have hcat : ∀ v ∈ as, v.category = 1 := fun v hv => by simpa using List.all_eq_true.mp hc v hv
  rw [entry_eq m (as.map (cv ad)) (fun v hv => by obtain ⟨u, h1, rfl⟩ := List.mem_map.mp hv; rw [cv_cat]; exact hcat u h1)]
  exact k G p e R s m _ below meth c A ad ad w.length s.heap [] 0 0 _ hR hA ⟨hP, hD, va_S.rf, LV.entry as hcat hl, fun _ _ => rfl, Nat.le_refl _, hw, hb⟩ (Nat.le_refl _) (Nat.le_refl _)
theorem ct_mono {p : Program} {l : Launch} {e : Env} {R : Room} {s : State} {m : MethodId} {args : Array Value} {below : List Frame} {meth : Method} {c : Code} {H : Heap} {locs : List Loc} {cells slots : Nat} {Q Q' : State → Prop} {g : JFrame} (h : ∀ t, Q t → Q' t) (k : W p l e R s m args below meth c H locs cells slots Q g) : W p l e R s m args below meth c H locs cells slots Q' g := by
  intro T hT Y
  obtain ⟨t, a, b⟩ := k T hT Y
  exact ⟨t, a, h t b⟩
theorem AM.mono {X : ct_X} {M : ct_M} {d mc ms : Nat} {as : List Value} {w : ct_W} {Q Q' : Option Value ⊕ Nat → ct_W → Prop} (h : ∀ r w', Q r w' → Q' r w') (k : AM X M d mc ms as w Q) : AM X M d mc ms as w Q' := by
  intro G p e R s m below meth c A ad hR hA hP hD hw hb
  refine ct_mono (fun t ht => ?_) (k G p e R s m below meth c A ad hR hA hP hD hw hb)
  obtain ⟨o, r, ad', w', L, k, n, h1, h2, h3, h4⟩ := ht
  exact ⟨o, r, ad', w', L, k, n, h1, h2, h _ _ h3, h4⟩
/-- a body's return -/
theorem ct_end {X : ct_X} {nL : Nat} {p : Program} {e : Env} {R : Room} {s : State} {m : MethodId} {args : Array Value} {below : List Frame} {meth : Method} {c : Code} {A : Nat → Prop} {ad ad0 : Nat → Nat} {n0 : Nat} {w : ct_W} {H : Heap} {locs : List Loc} {cells slots mc ms : Nat} {ls : List (Option Value)} {arr : Array Slot} {Q : Option Value ⊕ Nat → ct_W → Prop} {v : Option Value} {g : JFrame}
    (hr : Rel X nL A s ad ad0 n0 w H locs ls arr) (hq : Q (.inl v) w) (h1 : cells ≤ mc) (h2 : slots ≤ ms)
    (k : W p (xl X) e R s m args below meth c H locs cells slots (MQ below (fun _ _ o t => o = .returned (v.map (cv ad)) ∧ t.heap = H) args s cells slots A) g) : W p (xl X) e R s m args below meth c H locs cells slots (AEnd X below s A ad0 n0 mc ms Q) g := by
  refine ct_mono (fun t ht => ?_) k
  obtain ⟨o, a1, a2, ⟨a3, a4⟩, L, ⟨-, a5, a6⟩, a7⟩ := ht
  obtain ⟨hP, hD, hS, -, h5, h6, h7, -⟩ := hr
  exact ⟨o, .inl v, ad, w, L, cells, slots, ⟨a1, a2, a5, a6, a7, hS.F a4⟩, ⟨by rw [a4]; exact hP, hD, h5, h6, h7⟩, hq, a3, h1, h2⟩
end
section
/-! ROWS OF THE JUDGEMENT AW, one an instruction (printed by wip/whole/rules.py) -/
section AWR
variable {X : ct_X} {M : ct_M} {d mc ms cb sb pc pc' : Nat} {ls : List (Option Value)} {st : List Value} {w : ct_W} {Q : Option Value ⊕ Nat → ct_W → Prop}
theorem AW.iconst {n : Int} {v : Int32} (hd : decode M.2.1 pc = .ok (.iconst n, 1)) (hp : pc + 1 = pc') (hv : Int32.ofInt n = v) (k : AW X M d mc ms cb sb pc' ls (.int v :: st) w Q) : AW X M d mc ms cb sb pc ls (st) w Q := by
  subst hp
  intro G p e R s m args below meth c A ad ad0 n0 H locs cells slots arr hR hA hr h1 h2
  exact lv_iconst hA.exec hA.code hd hv (k G p e R s m args below meth c A ad ad0 n0 H locs cells slots arr hR hA hr h1 h2)
theorem AW.bipush {n : Int} {v : Int32} (hd : decode M.2.1 pc = .ok (.bipush n, 2)) (hp : pc + 2 = pc') (hv : (Int8.ofInt n).toInt32 = v) (k : AW X M d mc ms cb sb pc' ls (.int v :: st) w Q) : AW X M d mc ms cb sb pc ls (st) w Q := by
  subst hp
  intro G p e R s m args below meth c A ad ad0 n0 H locs cells slots arr hR hA hr h1 h2
  exact lv_bipush hA.exec hA.code hd hv (k G p e R s m args below meth c A ad ad0 n0 H locs cells slots arr hR hA hr h1 h2)
theorem AW.sipush {n : Int} {v : Int32} (hd : decode M.2.1 pc = .ok (.sipush n, 3)) (hp : pc + 3 = pc') (hv : (Int16.ofInt n).toInt32 = v) (k : AW X M d mc ms cb sb pc' ls (.int v :: st) w Q) : AW X M d mc ms cb sb pc ls (st) w Q := by
  subst hp
  intro G p e R s m args below meth c A ad ad0 n0 H locs cells slots arr hR hA hr h1 h2
  exact lv_sipush hA.exec hA.code hd hv (k G p e R s m args below meth c A ad ad0 n0 H locs cells slots arr hR hA hr h1 h2)
theorem AW.ldc {i : Nat} {v : Int32} (hd : decode M.2.1 pc = .ok (.ldc i, 2)) (hp : pc + 2 = pc') (hc : Cond.constant M.1.cls i v ∈ lw_tbl) (k : AW X M d mc ms cb sb pc' ls (.int v :: st) w Q) : AW X M d mc ms cb sb pc ls (st) w Q := by
  subst hp
  intro G p e R s m args below meth c A ad ad0 n0 H locs cells slots arr hR hA hr h1 h2
  exact lv_ldc hA.exec hA.code hA.own (hA.lat.w G hc rfl _) hd (k G p e R s m args below meth c A ad ad0 n0 H locs cells slots arr hR hA hr h1 h2)
theorem AW.iload_n {j : Fin 4} {i : Nat} {x : Int32} (hd : decode M.2.1 pc = .ok (.iload_n j, 1)) (hp : pc + 1 = pc') (hi : (j : Nat) = i) (hl : ls[i]? = some (some (.int x))) (k : AW X M d mc ms cb sb pc' ls (.int x :: st) w Q) : AW X M d mc ms cb sb pc ls (st) w Q := by
  subst hp
  intro G p e R s m args below meth c A ad ad0 n0 H locs cells slots arr hR hA hr h1 h2
  exact lv_iload_n hA.exec hA.code hd hi (hr.2.2.2.1.get hl) (k G p e R s m args below meth c A ad ad0 n0 H locs cells slots arr hR hA hr h1 h2)
theorem AW.iload {i : Nat} {x : Int32} (hd : decode M.2.1 pc = .ok (.iload i, 2)) (hp : pc + 2 = pc') (hl : ls[i]? = some (some (.int x))) (k : AW X M d mc ms cb sb pc' ls (.int x :: st) w Q) : AW X M d mc ms cb sb pc ls (st) w Q := by
  subst hp
  intro G p e R s m args below meth c A ad ad0 n0 H locs cells slots arr hR hA hr h1 h2
  exact lv_iload hA.exec hA.code hd (hr.2.2.2.1.get hl) (k G p e R s m args below meth c A ad ad0 n0 H locs cells slots arr hR hA hr h1 h2)
theorem AW.aload_n {j : Fin 4} {i : Nat} {x : Nat} (hd : decode M.2.1 pc = .ok (.aload_n j, 1)) (hp : pc + 1 = pc') (hi : (j : Nat) = i) (hl : ls[i]? = some (some (.ref x))) (k : AW X M d mc ms cb sb pc' ls (.ref x :: st) w Q) : AW X M d mc ms cb sb pc ls (st) w Q := by
  subst hp
  intro G p e R s m args below meth c A ad ad0 n0 H locs cells slots arr hR hA hr h1 h2
  exact lv_aload_n hA.exec hA.code hd hi (hr.2.2.2.1.get hl) (k G p e R s m args below meth c A ad ad0 n0 H locs cells slots arr hR hA hr h1 h2)
theorem AW.aload {i : Nat} {x : Nat} (hd : decode M.2.1 pc = .ok (.aload i, 2)) (hp : pc + 2 = pc') (hl : ls[i]? = some (some (.ref x))) (k : AW X M d mc ms cb sb pc' ls (.ref x :: st) w Q) : AW X M d mc ms cb sb pc ls (st) w Q := by
  subst hp
  intro G p e R s m args below meth c A ad ad0 n0 H locs cells slots arr hR hA hr h1 h2
  exact lv_aload hA.exec hA.code hd (hr.2.2.2.1.get hl) (k G p e R s m args below meth c A ad ad0 n0 H locs cells slots arr hR hA hr h1 h2)
theorem AW.istore_n {j : Fin 4} {i : Nat} {x : Int32} {ls' : List (Option Value)} (hd : decode M.2.1 pc = .ok (.istore_n j, 1)) (hp : pc + 1 = pc') (hi : (j : Nat) = i) (hn : Nat.ble (i + 1) M.2.2.1 = true) (hs : ls.set i (some (.int x)) = ls') (k : AW X M d mc ms cb sb pc' ls' (st) w Q) : AW X M d mc ms cb sb pc ls (.int x :: st) w Q := by
  subst hp
  intro G p e R s m args below meth c A ad ad0 n0 H locs cells slots arr hR hA hr h1 h2
  subst hs
  exact lv_istore_n hA.exec hA.code hd hi hr.2.2.2.1.has (Nat.le_of_ble_eq_true hn) rfl (fun arr' h' => k G p e R s m args below meth c A ad ad0 n0 H locs cells slots arr' hR hA ⟨hr.1, hr.2.1, hr.2.2.1, hr.2.2.2.1.set rfl h', hr.2.2.2.2⟩ h1 h2)
theorem AW.istore {i : Nat} {x : Int32} {ls' : List (Option Value)} (hd : decode M.2.1 pc = .ok (.istore i, 2)) (hp : pc + 2 = pc') (hn : Nat.ble (i + 1) M.2.2.1 = true) (hs : ls.set i (some (.int x)) = ls') (k : AW X M d mc ms cb sb pc' ls' (st) w Q) : AW X M d mc ms cb sb pc ls (.int x :: st) w Q := by
  subst hp
  intro G p e R s m args below meth c A ad ad0 n0 H locs cells slots arr hR hA hr h1 h2
  subst hs
  exact lv_istore hA.exec hA.code hd hr.2.2.2.1.has (Nat.le_of_ble_eq_true hn) rfl (fun arr' h' => k G p e R s m args below meth c A ad ad0 n0 H locs cells slots arr' hR hA ⟨hr.1, hr.2.1, hr.2.2.1, hr.2.2.2.1.set rfl h', hr.2.2.2.2⟩ h1 h2)
theorem AW.astore_n {j : Fin 4} {i : Nat} {x : Nat} {ls' : List (Option Value)} (hd : decode M.2.1 pc = .ok (.astore_n j, 1)) (hp : pc + 1 = pc') (hi : (j : Nat) = i) (hn : Nat.ble (i + 1) M.2.2.1 = true) (hs : ls.set i (some (.ref x)) = ls') (k : AW X M d mc ms cb sb pc' ls' (st) w Q) : AW X M d mc ms cb sb pc ls (.ref x :: st) w Q := by
  subst hp
  intro G p e R s m args below meth c A ad ad0 n0 H locs cells slots arr hR hA hr h1 h2
  subst hs
  exact lv_astore_n hA.exec hA.code hd hi hr.2.2.2.1.has (Nat.le_of_ble_eq_true hn) rfl (fun arr' h' => k G p e R s m args below meth c A ad ad0 n0 H locs cells slots arr' hR hA ⟨hr.1, hr.2.1, hr.2.2.1, hr.2.2.2.1.set rfl h', hr.2.2.2.2⟩ h1 h2)
theorem AW.astore {i : Nat} {x : Nat} {ls' : List (Option Value)} (hd : decode M.2.1 pc = .ok (.astore i, 2)) (hp : pc + 2 = pc') (hn : Nat.ble (i + 1) M.2.2.1 = true) (hs : ls.set i (some (.ref x)) = ls') (k : AW X M d mc ms cb sb pc' ls' (st) w Q) : AW X M d mc ms cb sb pc ls (.ref x :: st) w Q := by
  subst hp
  intro G p e R s m args below meth c A ad ad0 n0 H locs cells slots arr hR hA hr h1 h2
  subst hs
  exact lv_astore hA.exec hA.code hd hr.2.2.2.1.has (Nat.le_of_ble_eq_true hn) rfl (fun arr' h' => k G p e R s m args below meth c A ad ad0 n0 H locs cells slots arr' hR hA ⟨hr.1, hr.2.1, hr.2.2.1, hr.2.2.2.1.set rfl h', hr.2.2.2.2⟩ h1 h2)
theorem AW.iinc {i : Nat} {n : Int} {x v : Int32} {ls' : List (Option Value)} (hd : decode M.2.1 pc = .ok (.iinc i n, 3)) (hp : pc + 3 = pc') (hl : ls[i]? = some (some (.int x))) (hv : x + Int32.ofInt n = v) (hn : Nat.ble (i + 1) M.2.2.1 = true) (hs : ls.set i (some (.int v)) = ls') (k : AW X M d mc ms cb sb pc' ls' (st) w Q) : AW X M d mc ms cb sb pc ls (st) w Q := by
  subst hp
  intro G p e R s m args below meth c A ad ad0 n0 H locs cells slots arr hR hA hr h1 h2
  subst hs
  obtain ⟨j, hj⟩ := List.getElem?_of_mem (lvl_mem (ad := ad) (Nat.le_of_ble_eq_true hn) hl)
  exact lv_iinc hA.exec hA.code hd hr.2.2.2.1.has (k := j) hj hv (Nat.le_of_ble_eq_true hn) rfl (fun arr' h' => k G p e R s m args below meth c A ad ad0 n0 H locs cells slots arr' hR hA ⟨hr.1, hr.2.1, hr.2.2.1, hr.2.2.2.1.set rfl h', hr.2.2.2.2⟩ h1 h2)
theorem AW.iadd {x y : Int32} (hd : decode M.2.1 pc = .ok (.iadd, 1)) (hp : pc + 1 = pc') (k : AW X M d mc ms cb sb pc' ls (.int (x + y) :: st) w Q) : AW X M d mc ms cb sb pc ls (.int y :: .int x :: st) w Q := by
  subst hp
  intro G p e R s m args below meth c A ad ad0 n0 H locs cells slots arr hR hA hr h1 h2
  exact lv_iadd hA.exec hA.code hd (k G p e R s m args below meth c A ad ad0 n0 H locs cells slots arr hR hA hr h1 h2)
theorem AW.isub {x y : Int32} (hd : decode M.2.1 pc = .ok (.isub, 1)) (hp : pc + 1 = pc') (k : AW X M d mc ms cb sb pc' ls (.int (x - y) :: st) w Q) : AW X M d mc ms cb sb pc ls (.int y :: .int x :: st) w Q := by
  subst hp
  intro G p e R s m args below meth c A ad ad0 n0 H locs cells slots arr hR hA hr h1 h2
  exact lv_isub hA.exec hA.code hd (k G p e R s m args below meth c A ad ad0 n0 H locs cells slots arr hR hA hr h1 h2)
theorem AW.imul {x y : Int32} (hd : decode M.2.1 pc = .ok (.imul, 1)) (hp : pc + 1 = pc') (k : AW X M d mc ms cb sb pc' ls (.int (x * y) :: st) w Q) : AW X M d mc ms cb sb pc ls (.int y :: .int x :: st) w Q := by
  subst hp
  intro G p e R s m args below meth c A ad ad0 n0 H locs cells slots arr hR hA hr h1 h2
  exact lv_imul hA.exec hA.code hd (k G p e R s m args below meth c A ad ad0 n0 H locs cells slots arr hR hA hr h1 h2)
theorem AW.iand {x y : Int32} (hd : decode M.2.1 pc = .ok (.iand, 1)) (hp : pc + 1 = pc') (k : AW X M d mc ms cb sb pc' ls (.int (x &&& y) :: st) w Q) : AW X M d mc ms cb sb pc ls (.int y :: .int x :: st) w Q := by
  subst hp
  intro G p e R s m args below meth c A ad ad0 n0 H locs cells slots arr hR hA hr h1 h2
  exact lv_iand hA.exec hA.code hd (k G p e R s m args below meth c A ad ad0 n0 H locs cells slots arr hR hA hr h1 h2)
theorem AW.idiv {x y : Int32} (hd : decode M.2.1 pc = .ok (.idiv, 1)) (hp : pc + 1 = pc') (hne : ¬ y = 0) (k : AW X M d mc ms cb sb pc' ls (.int (x / y) :: st) w Q) : AW X M d mc ms cb sb pc ls (.int y :: .int x :: st) w Q := by
  subst hp
  intro G p e R s m args below meth c A ad ad0 n0 H locs cells slots arr hR hA hr h1 h2
  exact lv_idiv hA.exec hA.code hd hne (k G p e R s m args below meth c A ad ad0 n0 H locs cells slots arr hR hA hr h1 h2)
theorem AW.irem {x y : Int32} (hd : decode M.2.1 pc = .ok (.irem, 1)) (hp : pc + 1 = pc') (hne : ¬ y = 0) (k : AW X M d mc ms cb sb pc' ls (.int (x - x / y * y) :: st) w Q) : AW X M d mc ms cb sb pc ls (.int y :: .int x :: st) w Q := by
  subst hp
  intro G p e R s m args below meth c A ad ad0 n0 H locs cells slots arr hR hA hr h1 h2
  exact lv_irem hA.exec hA.code hd hne (k G p e R s m args below meth c A ad ad0 n0 H locs cells slots arr hR hA hr h1 h2)
theorem AW.ineg {x : Int32} (hd : decode M.2.1 pc = .ok (.ineg, 1)) (hp : pc + 1 = pc') (k : AW X M d mc ms cb sb pc' ls (.int (-x) :: st) w Q) : AW X M d mc ms cb sb pc ls (.int x :: st) w Q := by
  subst hp
  intro G p e R s m args below meth c A ad ad0 n0 H locs cells slots arr hR hA hr h1 h2
  exact lv_ineg hA.exec hA.code hd (k G p e R s m args below meth c A ad ad0 n0 H locs cells slots arr hR hA hr h1 h2)
theorem AW.i2l {x : Int32} (hd : decode M.2.1 pc = .ok (.i2l, 1)) (hp : pc + 1 = pc') (k : AW X M d mc ms cb sb pc' ls (.long x.toInt64 :: st) w Q) : AW X M d mc ms cb sb pc ls (.int x :: st) w Q := by
  subst hp
  intro G p e R s m args below meth c A ad ad0 n0 H locs cells slots arr hR hA hr h1 h2
  exact lv_i2l hA.exec hA.code hd rfl (k G p e R s m args below meth c A ad ad0 n0 H locs cells slots arr hR hA hr h1 h2)
theorem AW.lcmp {x y : Int64} (hd : decode M.2.1 pc = .ok (.lcmp, 1)) (hp : pc + 1 = pc') (k : AW X M d mc ms cb sb pc' ls (.int (lg_cmp x y) :: st) w Q) : AW X M d mc ms cb sb pc ls (.long y :: .long x :: st) w Q := by
  subst hp
  intro G p e R s m args below meth c A ad ad0 n0 H locs cells slots arr hR hA hr h1 h2
  exact W.lcmp hA.exec hA.code hd (k G p e R s m args below meth c A ad ad0 n0 H locs cells slots arr hR hA hr h1 h2)
theorem AW.dup {v : Value} (hd : decode M.2.1 pc = .ok (.dup, 1)) (hp : pc + 1 = pc') (hc : v.category = 1) (k : AW X M d mc ms cb sb pc' ls (v :: v :: st) w Q) : AW X M d mc ms cb sb pc ls (v :: st) w Q := by
  subst hp
  intro G p e R s m args below meth c A ad ad0 n0 H locs cells slots arr hR hA hr h1 h2
  exact lv_dup hA.exec hA.code hd ((cv_cat ad v).trans hc) (k G p e R s m args below meth c A ad ad0 n0 H locs cells slots arr hR hA hr h1 h2)
theorem AW.pop {v : Value} (hd : decode M.2.1 pc = .ok (.pop, 1)) (hp : pc + 1 = pc') (hc : v.category = 1) (k : AW X M d mc ms cb sb pc' ls (st) w Q) : AW X M d mc ms cb sb pc ls (v :: st) w Q := by
  subst hp
  intro G p e R s m args below meth c A ad ad0 n0 H locs cells slots arr hR hA hr h1 h2
  exact lv_pop hA.exec hA.code hd ((cv_cat ad v).trans hc) (k G p e R s m args below meth c A ad ad0 n0 H locs cells slots arr hR hA hr h1 h2)
theorem AW.if_eq {x : Int32} {off : Int} {tgt : Nat} (hd : decode M.2.1 pc = .ok (.ifCond .eq off, 3)) (ht : (pc : Int) + off = (tgt : Int)) (hp : pc + 3 = pc') (kt : x = 0 → AW X M d mc ms cb sb tgt ls (st) w Q) (kf : ¬ x = 0 → AW X M d mc ms cb sb pc' ls (st) w Q) : AW X M d mc ms cb sb pc ls (.int x :: st) w Q := by
  subst hp
  intro G p e R s m args below meth c A ad ad0 n0 H locs cells slots arr hR hA hr h1 h2
  exact lv_if_eq hA.exec hA.code hd ht (fun q => (kt q) G p e R s m args below meth c A ad ad0 n0 H locs cells slots arr hR hA hr h1 h2) (fun q => (kf q) G p e R s m args below meth c A ad ad0 n0 H locs cells slots arr hR hA hr h1 h2)
theorem AW.if_ne {x : Int32} {off : Int} {tgt : Nat} (hd : decode M.2.1 pc = .ok (.ifCond .ne off, 3)) (ht : (pc : Int) + off = (tgt : Int)) (hp : pc + 3 = pc') (kt : ¬ x = 0 → AW X M d mc ms cb sb tgt ls (st) w Q) (kf : x = 0 → AW X M d mc ms cb sb pc' ls (st) w Q) : AW X M d mc ms cb sb pc ls (.int x :: st) w Q := by
  subst hp
  intro G p e R s m args below meth c A ad ad0 n0 H locs cells slots arr hR hA hr h1 h2
  exact lv_if_ne hA.exec hA.code hd ht (fun q => (kt q) G p e R s m args below meth c A ad ad0 n0 H locs cells slots arr hR hA hr h1 h2) (fun q => (kf q) G p e R s m args below meth c A ad ad0 n0 H locs cells slots arr hR hA hr h1 h2)
theorem AW.if_lt {x : Int32} {off : Int} {tgt : Nat} (hd : decode M.2.1 pc = .ok (.ifCond .lt off, 3)) (ht : (pc : Int) + off = (tgt : Int)) (hp : pc + 3 = pc') (kt : x < 0 → AW X M d mc ms cb sb tgt ls (st) w Q) (kf : ¬ x < 0 → AW X M d mc ms cb sb pc' ls (st) w Q) : AW X M d mc ms cb sb pc ls (.int x :: st) w Q := by
  subst hp
  intro G p e R s m args below meth c A ad ad0 n0 H locs cells slots arr hR hA hr h1 h2
  exact lv_if_lt hA.exec hA.code hd ht (fun q => (kt q) G p e R s m args below meth c A ad ad0 n0 H locs cells slots arr hR hA hr h1 h2) (fun q => (kf q) G p e R s m args below meth c A ad ad0 n0 H locs cells slots arr hR hA hr h1 h2)
theorem AW.if_ge {x : Int32} {off : Int} {tgt : Nat} (hd : decode M.2.1 pc = .ok (.ifCond .ge off, 3)) (ht : (pc : Int) + off = (tgt : Int)) (hp : pc + 3 = pc') (kt : 0 ≤ x → AW X M d mc ms cb sb tgt ls (st) w Q) (kf : ¬ 0 ≤ x → AW X M d mc ms cb sb pc' ls (st) w Q) : AW X M d mc ms cb sb pc ls (.int x :: st) w Q := by
  subst hp
  intro G p e R s m args below meth c A ad ad0 n0 H locs cells slots arr hR hA hr h1 h2
  exact lv_if_ge hA.exec hA.code hd ht (fun q => (kt q) G p e R s m args below meth c A ad ad0 n0 H locs cells slots arr hR hA hr h1 h2) (fun q => (kf q) G p e R s m args below meth c A ad ad0 n0 H locs cells slots arr hR hA hr h1 h2)
theorem AW.if_gt {x : Int32} {off : Int} {tgt : Nat} (hd : decode M.2.1 pc = .ok (.ifCond .gt off, 3)) (ht : (pc : Int) + off = (tgt : Int)) (hp : pc + 3 = pc') (kt : 0 < x → AW X M d mc ms cb sb tgt ls (st) w Q) (kf : ¬ 0 < x → AW X M d mc ms cb sb pc' ls (st) w Q) : AW X M d mc ms cb sb pc ls (.int x :: st) w Q := by
  subst hp
  intro G p e R s m args below meth c A ad ad0 n0 H locs cells slots arr hR hA hr h1 h2
  exact lv_if_gt hA.exec hA.code hd ht (fun q => (kt q) G p e R s m args below meth c A ad ad0 n0 H locs cells slots arr hR hA hr h1 h2) (fun q => (kf q) G p e R s m args below meth c A ad ad0 n0 H locs cells slots arr hR hA hr h1 h2)
theorem AW.if_le {x : Int32} {off : Int} {tgt : Nat} (hd : decode M.2.1 pc = .ok (.ifCond .le off, 3)) (ht : (pc : Int) + off = (tgt : Int)) (hp : pc + 3 = pc') (kt : x ≤ 0 → AW X M d mc ms cb sb tgt ls (st) w Q) (kf : ¬ x ≤ 0 → AW X M d mc ms cb sb pc' ls (st) w Q) : AW X M d mc ms cb sb pc ls (.int x :: st) w Q := by
  subst hp
  intro G p e R s m args below meth c A ad ad0 n0 H locs cells slots arr hR hA hr h1 h2
  exact lv_if_le hA.exec hA.code hd ht (fun q => (kt q) G p e R s m args below meth c A ad ad0 n0 H locs cells slots arr hR hA hr h1 h2) (fun q => (kf q) G p e R s m args below meth c A ad ad0 n0 H locs cells slots arr hR hA hr h1 h2)
theorem AW.icmp_eq {x y : Int32} {off : Int} {tgt : Nat} (hd : decode M.2.1 pc = .ok (.if_icmp .eq off, 3)) (ht : (pc : Int) + off = (tgt : Int)) (hp : pc + 3 = pc') (kt : x = y → AW X M d mc ms cb sb tgt ls (st) w Q) (kf : ¬ x = y → AW X M d mc ms cb sb pc' ls (st) w Q) : AW X M d mc ms cb sb pc ls (.int y :: .int x :: st) w Q := by
  subst hp
  intro G p e R s m args below meth c A ad ad0 n0 H locs cells slots arr hR hA hr h1 h2
  exact lv_icmp_eq hA.exec hA.code hd ht (fun q => (kt q) G p e R s m args below meth c A ad ad0 n0 H locs cells slots arr hR hA hr h1 h2) (fun q => (kf q) G p e R s m args below meth c A ad ad0 n0 H locs cells slots arr hR hA hr h1 h2)
theorem AW.icmp_ne {x y : Int32} {off : Int} {tgt : Nat} (hd : decode M.2.1 pc = .ok (.if_icmp .ne off, 3)) (ht : (pc : Int) + off = (tgt : Int)) (hp : pc + 3 = pc') (kt : ¬ x = y → AW X M d mc ms cb sb tgt ls (st) w Q) (kf : x = y → AW X M d mc ms cb sb pc' ls (st) w Q) : AW X M d mc ms cb sb pc ls (.int y :: .int x :: st) w Q := by
  subst hp
  intro G p e R s m args below meth c A ad ad0 n0 H locs cells slots arr hR hA hr h1 h2
  exact lv_icmp_ne hA.exec hA.code hd ht (fun q => (kt q) G p e R s m args below meth c A ad ad0 n0 H locs cells slots arr hR hA hr h1 h2) (fun q => (kf q) G p e R s m args below meth c A ad ad0 n0 H locs cells slots arr hR hA hr h1 h2)
theorem AW.icmp_lt {x y : Int32} {off : Int} {tgt : Nat} (hd : decode M.2.1 pc = .ok (.if_icmp .lt off, 3)) (ht : (pc : Int) + off = (tgt : Int)) (hp : pc + 3 = pc') (kt : x < y → AW X M d mc ms cb sb tgt ls (st) w Q) (kf : ¬ x < y → AW X M d mc ms cb sb pc' ls (st) w Q) : AW X M d mc ms cb sb pc ls (.int y :: .int x :: st) w Q := by
  subst hp
  intro G p e R s m args below meth c A ad ad0 n0 H locs cells slots arr hR hA hr h1 h2
  exact lv_icmp_lt hA.exec hA.code hd ht (fun q => (kt q) G p e R s m args below meth c A ad ad0 n0 H locs cells slots arr hR hA hr h1 h2) (fun q => (kf q) G p e R s m args below meth c A ad ad0 n0 H locs cells slots arr hR hA hr h1 h2)
theorem AW.icmp_ge {x y : Int32} {off : Int} {tgt : Nat} (hd : decode M.2.1 pc = .ok (.if_icmp .ge off, 3)) (ht : (pc : Int) + off = (tgt : Int)) (hp : pc + 3 = pc') (kt : y ≤ x → AW X M d mc ms cb sb tgt ls (st) w Q) (kf : ¬ y ≤ x → AW X M d mc ms cb sb pc' ls (st) w Q) : AW X M d mc ms cb sb pc ls (.int y :: .int x :: st) w Q := by
  subst hp
  intro G p e R s m args below meth c A ad ad0 n0 H locs cells slots arr hR hA hr h1 h2
  exact lv_icmp_ge hA.exec hA.code hd ht (fun q => (kt q) G p e R s m args below meth c A ad ad0 n0 H locs cells slots arr hR hA hr h1 h2) (fun q => (kf q) G p e R s m args below meth c A ad ad0 n0 H locs cells slots arr hR hA hr h1 h2)
theorem AW.icmp_gt {x y : Int32} {off : Int} {tgt : Nat} (hd : decode M.2.1 pc = .ok (.if_icmp .gt off, 3)) (ht : (pc : Int) + off = (tgt : Int)) (hp : pc + 3 = pc') (kt : y < x → AW X M d mc ms cb sb tgt ls (st) w Q) (kf : ¬ y < x → AW X M d mc ms cb sb pc' ls (st) w Q) : AW X M d mc ms cb sb pc ls (.int y :: .int x :: st) w Q := by
  subst hp
  intro G p e R s m args below meth c A ad ad0 n0 H locs cells slots arr hR hA hr h1 h2
  exact lv_icmp_gt hA.exec hA.code hd ht (fun q => (kt q) G p e R s m args below meth c A ad ad0 n0 H locs cells slots arr hR hA hr h1 h2) (fun q => (kf q) G p e R s m args below meth c A ad ad0 n0 H locs cells slots arr hR hA hr h1 h2)
theorem AW.icmp_le {x y : Int32} {off : Int} {tgt : Nat} (hd : decode M.2.1 pc = .ok (.if_icmp .le off, 3)) (ht : (pc : Int) + off = (tgt : Int)) (hp : pc + 3 = pc') (kt : x ≤ y → AW X M d mc ms cb sb tgt ls (st) w Q) (kf : ¬ x ≤ y → AW X M d mc ms cb sb pc' ls (st) w Q) : AW X M d mc ms cb sb pc ls (.int y :: .int x :: st) w Q := by
  subst hp
  intro G p e R s m args below meth c A ad ad0 n0 H locs cells slots arr hR hA hr h1 h2
  exact lv_icmp_le hA.exec hA.code hd ht (fun q => (kt q) G p e R s m args below meth c A ad ad0 n0 H locs cells slots arr hR hA hr h1 h2) (fun q => (kf q) G p e R s m args below meth c A ad ad0 n0 H locs cells slots arr hR hA hr h1 h2)
theorem AW.goto {off : Int} {tgt : Nat} (hd : decode M.2.1 pc = .ok (.goto off, 3)) (ht : (pc : Int) + off = (tgt : Int)) (k : AW X M d mc ms cb sb tgt ls (st) w Q) : AW X M d mc ms cb sb pc ls (st) w Q := by
  intro G p e R s m args below meth c A ad ad0 n0 H locs cells slots arr hR hA hr h1 h2
  exact lv_goto hA.exec hA.code hd ht (k G p e R s m args below meth c A ad ad0 n0 H locs cells slots arr hR hA hr h1 h2)
theorem AW.tableIn {dflt lo hi : Int} {offs : Array Int} {len : Nat} {x : Int32} {off : Int} {tgt : Nat} (hd : decode M.2.1 pc = .ok (.tableswitch dflt lo hi offs, len)) (q1 : ¬ x.toInt < lo) (q2 : ¬ hi < x.toInt) (ho : offs[(x.toInt - lo).toNat]? = some off) (ht : (pc : Int) + off = (tgt : Int)) (k : AW X M d mc ms cb sb tgt ls (st) w Q) : AW X M d mc ms cb sb pc ls (.int x :: st) w Q := by
  intro G p e R s m args below meth c A ad ad0 n0 H locs cells slots arr hR hA hr h1 h2
  exact lv_tableIn hA.exec hA.code hd q1 q2 ho ht (k G p e R s m args below meth c A ad ad0 n0 H locs cells slots arr hR hA hr h1 h2)
theorem AW.tableOut {dflt lo hi : Int} {offs : Array Int} {len : Nat} {x : Int32} {tgt : Nat} (hd : decode M.2.1 pc = .ok (.tableswitch dflt lo hi offs, len)) (q1 : x.toInt < lo ∨ hi < x.toInt) (ht : (pc : Int) + dflt = (tgt : Int)) (k : AW X M d mc ms cb sb tgt ls (st) w Q) : AW X M d mc ms cb sb pc ls (.int x :: st) w Q := by
  intro G p e R s m args below meth c A ad ad0 n0 H locs cells slots arr hR hA hr h1 h2
  exact lv_tableOut hA.exec hA.code hd q1 ht (k G p e R s m args below meth c A ad ad0 n0 H locs cells slots arr hR hA hr h1 h2)
theorem AW.lookup {dflt : Int} {ps : Array (Int × Int)} {len : Nat} {x : Int32} {off : Int} {tgt : Nat} (hd : decode M.2.1 pc = .ok (.lookupswitch dflt ps, len)) (hq : (ps.toList.zip (ps.toList.drop 1)).all (fun (a, next) => a.1 < next.1) = true) (ho : Op.lookupswitch.offset ps.toList dflt x.toInt = off) (ht : (pc : Int) + off = (tgt : Int)) (k : AW X M d mc ms cb sb tgt ls (st) w Q) : AW X M d mc ms cb sb pc ls (.int x :: st) w Q := by
  intro G p e R s m args below meth c A ad ad0 n0 H locs cells slots arr hR hA hr h1 h2
  exact lv_lookup hA.exec hA.code hd hq ho ht (k G p e R s m args below meth c A ad ad0 n0 H locs cells slots arr hR hA hr h1 h2)
theorem AW.iald {o n : Nat} {f : Nat → Int32} {i : Int32} (hd : decode M.2.1 pc = .ok (.iaload, 1)) (hp : pc + 1 = pc') (hw : w[o]? = some (.inl (0, n, .inl f))) (hin : vp_in i n) (k : AW X M d mc ms cb sb pc' ls (.int (f i.toNatClampNeg) :: st) w Q) : AW X M d mc ms cb sb pc ls (.int i :: .ref o :: st) w Q := by
  subst hp
  intro G p e R s m args below meth c A ad ad0 n0 H locs cells slots arr hR hA hr h1 h2
  exact va_iald hA.exec hA.code (hA.K G) hr.1 o 0 (cw_at hw) rfl hin hd (k G p e R s m args below meth c A ad ad0 n0 H locs cells slots arr hR hA hr h1 h2)
theorem AW.zald {o n : Nat} {f : Nat → Int32} {i : Int32} (hd : decode M.2.1 pc = .ok (.baload, 1)) (hp : pc + 1 = pc') (hw : w[o]? = some (.inl (1, n, .inl f))) (hin : vp_in i n) (k : AW X M d mc ms cb sb pc' ls (.int (f i.toNatClampNeg) :: st) w Q) : AW X M d mc ms cb sb pc ls (.int i :: .ref o :: st) w Q := by
  subst hp
  intro G p e R s m args below meth c A ad ad0 n0 H locs cells slots arr hR hA hr h1 h2
  exact va_zald hA.exec hA.code (hA.K G) hr.1 o 1 (cw_at hw) rfl hin hd (k G p e R s m args below meth c A ad ad0 n0 H locs cells slots arr hR hA hr h1 h2)
theorem AW.lald {o n : Nat} {f : Nat → Int64} {i : Int32} (hd : decode M.2.1 pc = .ok (.laload, 1)) (hp : pc + 1 = pc') (hw : w[o]? = some (.inl (2, n, .inr (.inl f)))) (hin : vp_in i n) (k : AW X M d mc ms cb sb pc' ls (.long (f i.toNatClampNeg) :: st) w Q) : AW X M d mc ms cb sb pc ls (.int i :: .ref o :: st) w Q := by
  subst hp
  intro G p e R s m args below meth c A ad ad0 n0 H locs cells slots arr hR hA hr h1 h2
  exact va_lald hA.exec hA.code (hA.K G) hr.1 o 2 (cw_at hw) rfl hin hd (k G p e R s m args below meth c A ad ad0 n0 H locs cells slots arr hR hA hr h1 h2)
theorem AW.iast {o n : Nat} {f : Nat → Int32} {i : Int32} {x : Int32} {w' : ct_W} (hd : decode M.2.1 pc = .ok (.iastore, 1)) (hp : pc + 1 = pc') (hw : w[o]? = some (.inl (0, n, .inl f))) (hin : vp_in i n) (hs : w.set o (.inl (0, n, .inl (upd f i.toNatClampNeg x))) = w') (k : AW X M d mc ms cb sb pc' ls (st) w' Q) : AW X M d mc ms cb sb pc ls (.int x :: .int i :: .ref o :: st) w Q := by
  subst hp
  intro G p e R s m args below meth c A ad ad0 n0 H locs cells slots arr hR hA hr h1 h2
  subst hs
  exact va_iast hA.exec hA.code (hA.K G) hr.1 hr.2.1 hr.2.2.1 o 0 (cw_at hw) rfl hin hd (fun H' locs' hP' hD' hS' => k G p e R s m args below meth c A ad ad0 n0 H' locs' cells slots arr hR hA ⟨by rw [← cw_set]; exact hP', by rw [← cw_set]; exact hD', hS', hr.2.2.2.1, by rw [List.length_set]; exact hr.2.2.2.2.1, by rw [List.length_set]; exact hr.2.2.2.2.2.1, by rw [List.length_set]; exact hr.2.2.2.2.2.2.1, hr.2.2.2.2.2.2.2⟩ h1 h2)
theorem AW.zast {o n : Nat} {f : Nat → Int32} {i : Int32} {x : Int32} {w' : ct_W} (hd : decode M.2.1 pc = .ok (.bastore, 1)) (hp : pc + 1 = pc') (hw : w[o]? = some (.inl (1, n, .inl f))) (hin : vp_in i n) (hs : w.set o (.inl (1, n, .inl (upd f i.toNatClampNeg (vp_nar .boolean x)))) = w') (k : AW X M d mc ms cb sb pc' ls (st) w' Q) : AW X M d mc ms cb sb pc ls (.int x :: .int i :: .ref o :: st) w Q := by
  subst hp
  intro G p e R s m args below meth c A ad ad0 n0 H locs cells slots arr hR hA hr h1 h2
  subst hs
  exact va_zast hA.exec hA.code (hA.K G) hr.1 hr.2.1 hr.2.2.1 o 1 (cw_at hw) rfl hin hd (fun H' locs' hP' hD' hS' => k G p e R s m args below meth c A ad ad0 n0 H' locs' cells slots arr hR hA ⟨by rw [← cw_set]; exact hP', by rw [← cw_set]; exact hD', hS', hr.2.2.2.1, by rw [List.length_set]; exact hr.2.2.2.2.1, by rw [List.length_set]; exact hr.2.2.2.2.2.1, by rw [List.length_set]; exact hr.2.2.2.2.2.2.1, hr.2.2.2.2.2.2.2⟩ h1 h2)
theorem AW.last {o n : Nat} {f : Nat → Int64} {i : Int32} {x : Int64} {w' : ct_W} (hd : decode M.2.1 pc = .ok (.lastore, 1)) (hp : pc + 1 = pc') (hw : w[o]? = some (.inl (2, n, .inr (.inl f)))) (hin : vp_in i n) (hs : w.set o (.inl (2, n, .inr (.inl (vp_updL f i.toNatClampNeg x)))) = w') (k : AW X M d mc ms cb sb pc' ls (st) w' Q) : AW X M d mc ms cb sb pc ls (.long x :: .int i :: .ref o :: st) w Q := by
  subst hp
  intro G p e R s m args below meth c A ad ad0 n0 H locs cells slots arr hR hA hr h1 h2
  subst hs
  exact va_last hA.exec hA.code (hA.K G) hr.1 hr.2.1 hr.2.2.1 o 2 (cw_at hw) rfl hin hd (fun H' locs' hP' hD' hS' => k G p e R s m args below meth c A ad ad0 n0 H' locs' cells slots arr hR hA ⟨by rw [← cw_set]; exact hP', by rw [← cw_set]; exact hD', hS', hr.2.2.2.1, by rw [List.length_set]; exact hr.2.2.2.2.1, by rw [List.length_set]; exact hr.2.2.2.2.2.1, by rw [List.length_set]; exact hr.2.2.2.2.2.2.1, hr.2.2.2.2.2.2.2⟩ h1 h2)
theorem AW.alen {o : Nat} {a : Nat × vp_A} {ty : FieldType} (hd : decode M.2.1 pc = .ok (.arraylength, 1)) (hp : pc + 1 = pc') (hw : w[o]? = some (.inl a)) (hty : ∀ tc : Nat → ClassId, (ct_tys tc)[a.1]? = some (tc a.1, ty)) (k : AW X M d mc ms cb sb pc' ls (.int (Int32.ofNat a.2.1) :: st) w Q) : AW X M d mc ms cb sb pc ls (.ref o :: st) w Q := by
  subst hp
  intro G p e R s m args below meth c A ad ad0 n0 H locs cells slots arr hR hA hr h1 h2
  exact va_alen hA.exec hA.code (hA.K G) hr.1 o a.1 (cw_at hw) (hty (xt X)) rfl hd (k G p e R s m args below meth c A ad ad0 n0 H locs cells slots arr hR hA hr h1 h2)
theorem AW.sld {i : Int32} (hd : decode M.2.1 pc = .ok (.iaload, 1)) (hp : pc + 1 = pc') (hin : vp_in i (xL X)) (k : AW X M d mc ms cb sb pc' ls (.int (xx X i.toNatClampNeg) :: st) w Q) : AW X M d mc ms cb sb pc ls (.int i :: .ref scr :: st) w Q := by
  subst hp
  intro G p e R s m args below meth c A ad ad0 n0 H locs cells slots arr hR hA hr h1 h2
  have hb := hr.sc
  show W p (xl X) e R s m args below meth c H locs cells slots _ (F0 m pc arr (.int i :: .ref (ad scr) :: st.map (cv ad)))
  rw [hb]
  exact va_sld hA.exec hA.code (H0 := s.heap) (A := A) (va_X.moved hA.lat.1.alike (G.2.2.2.1.kept (hA.lat.2.2 _ G.2.2.2.2.1))) (Nat.lt_of_lt_of_le G.2.2.2.2.1 hA.lat.2.1) (fun q => Nat.not_le.mpr G.2.2.2.2.1 (hA.A1 _ q)) hr.2.2.1 hin hd (k G p e R s m args below meth c A ad ad0 n0 H locs cells slots arr hR hA hr h1 h2)
theorem AW.slen (hd : decode M.2.1 pc = .ok (.arraylength, 1)) (hp : pc + 1 = pc') (k : AW X M d mc ms cb sb pc' ls (.int (Int32.ofNat (xL X)) :: st) w Q) : AW X M d mc ms cb sb pc ls (.ref scr :: st) w Q := by
  subst hp
  intro G p e R s m args below meth c A ad ad0 n0 H locs cells slots arr hR hA hr h1 h2
  have hb := hr.sc
  show W p (xl X) e R s m args below meth c H locs cells slots _ (F0 m pc arr (.ref (ad scr) :: st.map (cv ad)))
  rw [hb]
  exact va_slen hA.exec hA.code (H0 := s.heap) (A := A) (va_X.moved hA.lat.1.alike (G.2.2.2.1.kept (hA.lat.2.2 _ G.2.2.2.2.1))) (Nat.lt_of_lt_of_le G.2.2.2.2.1 hA.lat.2.1) (fun q => Nat.not_le.mpr G.2.2.2.2.1 (hA.A1 _ q)) hr.2.2.1 hd (k G p e R s m args below meth c A ad ad0 n0 H locs cells slots arr hR hA hr h1 h2)
theorem AW.iret {x : Int32} (hd : decode M.2.1 pc = .ok (.ireturn, 1)) (hret : M.2.2.2.1 = some .int) (hc : Nat.ble cb mc = true) (hs : Nat.ble sb ms = true) (hq : Q (.inl (some (.int x))) w) : AW X M d mc ms cb sb pc ls ([.int x]) w Q := by
  intro G p e R s m args below meth c A ad ad0 n0 H locs cells slots arr hR hA hr h1 h2
  have hl9 := hA.locks
  exact ct_end hr hq (Nat.le_trans h1 (Nat.le_of_ble_eq_true hc)) (Nat.le_trans h2 (Nat.le_of_ble_eq_true hs)) (W.iret (v := x) hA.exec hA.code (hA.ret.trans hret) (fun t ht _ => ⟨rfl, ht⟩) hr.2.2.1.2.2 hd hl9)
theorem AW.zret {x : Int32} (hd : decode M.2.1 pc = .ok (.ireturn, 1)) (hret : M.2.2.2.1 = some .boolean) (hn : narrow .boolean (.int x) = .int x) (hc : Nat.ble cb mc = true) (hs : Nat.ble sb ms = true) (hq : Q (.inl (some (.int x))) w) : AW X M d mc ms cb sb pc ls ([.int x]) w Q := by
  intro G p e R s m args below meth c A ad ad0 n0 H locs cells slots arr hR hA hr h1 h2
  have hl9 := hA.locks
  exact ct_end hr hq (Nat.le_trans h1 (Nat.le_of_ble_eq_true hc)) (Nat.le_trans h2 (Nat.le_of_ble_eq_true hs)) (W.zret (v := x) hA.exec hA.code (hA.ret.trans hret) hn (fun t ht _ => ⟨rfl, ht⟩) hr.2.2.1.2.2 hd hl9)
theorem AW.vret (hd : decode M.2.1 pc = .ok (.return_, 1)) (hret : M.2.2.2.1 = none) (hc : Nat.ble cb mc = true) (hs : Nat.ble sb ms = true) (hq : Q (.inl none) w) : AW X M d mc ms cb sb pc ls ([]) w Q := by
  intro G p e R s m args below meth c A ad ad0 n0 H locs cells slots arr hR hA hr h1 h2
  have hl9 := hA.locks
  exact ct_end hr hq (Nat.le_trans h1 (Nat.le_of_ble_eq_true hc)) (Nat.le_trans h2 (Nat.le_of_ble_eq_true hs)) (W.vret hA.exec hA.code (hA.ret.trans hret) (fun t ht _ => ⟨rfl, ht⟩) hr.2.2.1.2.2 hd hl9)
end AWR
end
section
/-! CALLS: a callee by its contract AM; it returns or throws -/
theorem ct_weaken {tb : Tables} {e : Env} {mid below : List Frame} {a b : State} (h : Steps tb e (mid ++ below) a b) : Steps tb e below a b := by
  obtain ⟨n, hn, hk⟩ := h
  exact ⟨n, hn, fun k hl => (hk k hl).weaken⟩
/-- the method's code stands in the tables -/
def ct_in (M : ct_M) : Prop := (M.2.2.2.2 = [] ∧ Cond.code M.1 M.2.1 M.2.2.1 M.2.2.2.1 ∈ lw_tbl) ∨ Cond.codeWith M.1 M.2.1 M.2.2.1 M.2.2.2.1 M.2.2.2.2 ∈ lw_tbl
theorem ct_in.spec {X : ct_X} {M : ct_M} (h : ct_in M) (G : Gl X) {s : State} (hl : Lat X s) : ∃ (mk : MethodId) (meth : Method) (c : Code), s.methodNamed? M.1 = some mk ∧ s.vm.method? mk = some meth ∧ meth.code = some c ∧ ct_Code M meth c ∧ parseMethodDescriptor M.1.desc = some meth.sig := by
  rcases h with ⟨h0, h⟩ | h
  · have hb := hl.w G h rfl #[]
    obtain ⟨mk, hn⟩ := Cond.code_named hb
    obtain ⟨meth, c, h1, h2, h3, h4, h5, h6, h7, h8⟩ := Cond.code_spec hn hb
    refine ⟨mk, meth, c, hn, h1, h2, ⟨h3, h4, h5, h6, ?_⟩, h8⟩
    rw [h0, Array.isEmpty_iff.mp h7]
    rfl
  · have hb := hl.w G h rfl #[]
    obtain ⟨mk, meth, c, hn, h1, h2, h3, h4, h5, h6, h7, h8⟩ := Cond.codeWith_spec hb
    exact ⟨mk, meth, c, hn, h1, h2, ⟨h3, h4, h6, h7, h5⟩, h8⟩
section CRUN
variable {X : ct_X} {M' : ct_M} {d' mc' ms' : Nat} {as : List Value} {w : ct_W} {Q' : Option Value ⊕ Nat → ct_W → Prop}
variable {p : Program} {e : Env} {R : Room} {s : State} {m : MethodId} {args : Array Value} {below : List Frame} {meth : Method} {c : Code} {T : State} {locs : List Loc} {cells slots : Nat}
set_option maxHeartbeats 1000000 in
theorem ct_run (hM : AM X M' d' mc' ms' as w Q') (G : Gl X) (Y : Stand p (xl X) e R s m args below meth c T locs cells slots)
    {g : JFrame} (hg : g.method = m) (hsize : g.locals.size = c.maxLocals) {ig : Instr} {len : Nat} (hdg : decode c.code g.pc = .ok (ig, len))
    {mk : MethodId} (hn : s.methodNamed? M'.1 = some mk) {methk : Method} {ck : Code} (hmk : s.vm.method? mk = some methk) (hck : methk.code = some ck) (hcd : ct_Code M' methk ck) (hpl : plainName M'.1.cls = true)
    (hexec : p.tables.exec = Jvm.exec) (hlat : Lat X s) {A : Nat → Prop} (hA1 : ∀ q, A q → (xs X).heap.size ≤ q) (hA2 : ∀ q, s.heap.size ≤ q → A q)
    {ad : Nat → Nat} (hP : va_P (xD X) vwCl (cw (xt X) ad w) T.heap) (hD : va_D A (cw (xt X) ad w)) (hS : va_S A s.heap T.heap locs) (hw : w.length ≤ scr) (hb : ad scr = xb X)
    (hf : d' + 1 ≤ R.frames) (hl : 2 * g.monitorRoom + (g.stack.map fun v => v.category).sum + (M'.2.2.1 + 11) + 30 * d' ≤ R.locals) (hc : cells + (mc' + 1) ≤ R.cells) (hs : slots + (ms' + 6) ≤ R.slots) :
    ∃ (r : Option Value ⊕ Nat) (ad' : Nat → Nat) (w' : ct_W) (L : List Loc) (k n : Nat) (T' : State), Q' r w' ∧ Stand p (xl X) e R s m args below meth c T' (locs ++ L) (cells + k) (slots + n) ∧
      (va_P (xD X) vwCl (cw (xt X) ad' w') T'.heap ∧ va_D A (cw (xt X) ad' w') ∧ va_S A s.heap T'.heap (locs ++ L) ∧ ct_ag w.length w'.length ad ad' ∧ w.length ≤ w'.length ∧ w'.length ≤ scr) ∧
      (∀ v, r = .inl v → k ≤ mc' ∧ n ≤ ms' ∧ ∀ acts, Steps p.tables e below (doInvoke e (T.setTop g) acts mk (as.map (cv ad)).toArray).1 (T'.setTop { g with pc := g.pc + len, stack := (v.map (cv ad')).toList ++ g.stack })) ∧
      (∀ x, r = .inr x → k ≤ mc' + 1 ∧ n ≤ ms' + 6 ∧ ∃ (q : Addr) (cell : Cell), T'.heap[q]? = some cell ∧ cell.vm = .none ∧ s.vm.findClass (xn x) = some cell.cls ∧
        ∀ acts, Steps p.tables e below (doInvoke e (T.setTop g) acts mk (as.map (cv ad)).toArray).1 ((T'.setTop g).pushFrame (.throwing q))) := by
  have hmkT : T.vm.method? mk = some methk := by rw [Y.warmed.alike.method?]; exact hmk
  have hnT : T.methodNamed? M'.1 = some mk := Y.named hn
  have hpk : T.plainMethod mk := State.plainMethod.of_named (s := T) (plainFor_of_name hpl) hnT hmkT
  obtain ⟨Z, hin⟩ := Y.into hg hsize hdg (as.map (cv ad)).toArray (R' := { frames := d', cells := mc' + 1, slots := ms' + 6, locals := 30 * d' }) hmkT hck hcd.2.2.2.1 hpk hf (by rw [hcd.2.1]; exact hl) hc hs
  have hamb : Amb X M' p (T.calling g mk (as.map (cv ad)).toArray) mk methk ck A := by
    refine ⟨hexec, hcd, findClass_of_methodNamed hnT, (name_of_methodNamed hn hmk).1, ⟨State.WarmedH.trans hlat.1 Y.warmed, Nat.le_trans hlat.2.1 hS.1, fun q hq => ?_⟩, hA1, fun q hq => hA2 q (Nat.le_trans hS.1 hq)⟩
    exact (hS.2.1 q (Nat.lt_of_lt_of_le hq hlat.2.1) (fun z => Nat.not_le.mpr hq (hA1 q z))).trans (hlat.2.2 q hq)
  obtain ⟨t, hst, o, r, ad', w', L, k, n, ⟨b1, b2, b3, b4, b5, b6⟩, ⟨c1, c2, c3, c4, c5⟩, hq, hout⟩ := hM G p e { frames := d', cells := mc' + 1, slots := ms' + 6, locals := 30 * d' } (T.calling g mk (as.map (cv ad)).toArray) mk (.java g :: below) methk ck A ad ⟨Nat.le_refl _, Nat.le_refl _, Nat.le_refl _, Nat.le_refl _⟩ hamb hP hD hw hb ((T.setTop g).pushFrame (.java (entryFrame mk (as.map (cv ad)).toArray ck.maxLocals))) rfl Z
  have hgo : ∀ acts, Steps p.tables e below (doInvoke e (T.setTop g) acts mk (as.map (cv ad)).toArray).1 t := fun acts => by
    rw [hin acts]
    rw [← hcd.2.1] at hst
    exact ct_weaken (mid := [.java g]) hst
  have hSt : va_S A s.heap t.heap (locs ++ L) := ⟨Nat.le_trans hS.1 b6.1, fun q h1 h2 => (b6.2 q (Nat.lt_of_lt_of_le h1 hS.1) h2).trans (hS.2.1 q h1 h2), fun q hq => (List.mem_append.mp hq).elim (hS.2.2 q) (b5 q)⟩
  cases r with
  | inl v =>
    obtain ⟨rfl, hk, hn9⟩ := hout
    obtain ⟨T', Y', -, -, ht⟩ := Y.outOf hg hdg b2 b3 b4
    have hh : t.heap = T'.heap := by rw [ht]; rfl
    rw [hh] at c1 hSt
    refine ⟨.inl v, ad', w', L, k, n, T', hq, Y', ⟨c1, c2, hSt, c3, c4, c5⟩, fun v' h => ?_, fun x h => nomatch h⟩
    cases h
    exact ⟨hk, hn9, fun acts => by rw [← ht]; exact hgo acts⟩
  | inr x =>
    obtain ⟨⟨q, cell, rfl, h1, h2, h3⟩, hk, hn9⟩ := hout
    obtain ⟨T', Y', -, -, ht⟩ := Y.outOfThrown hg b2 b3 b4
    have hh : t.heap = T'.heap := by rw [ht]; rfl
    rw [hh] at c1 hSt h1
    refine ⟨.inr x, ad', w', L, k, n, T', hq, Y', ⟨c1, c2, hSt, c3, c4, c5⟩, fun v' h => (nomatch h), fun x' h => ?_⟩
    cases h
    refine ⟨hk, hn9, q, cell, h1, h2, ?_, fun acts => by rw [← ht]; exact hgo acts⟩
    have h4 : T.vm.findClass (xn x) = some cell.cls := h3
    rw [Y.warmed.alike.findClass] at h4
    exact h4
end CRUN
theorem ct_room {m : MethodId} {pc : Nat} {arr : Array Slot} {st : List Value} {ad : Nat → Nat} {stk : List Value} {d d' nL RL : Nat} (hc : (st.map fun v => v.category).sum ≤ 8) (hd : d' < d) (hn : nL ≤ 11) (hR : 30 * d ≤ RL) :
    2 * (F0 m pc arr stk).monitorRoom + ((st.map (cv ad)).map fun v => v.category).sum + (nL + 11) + 30 * d' ≤ RL := by
  have h1 : ((st.map (cv ad)).map fun v => v.category) = st.map fun v => v.category := by
    rw [List.map_map]
    exact List.map_congr_left fun v _ => cv_cat ad v
  rw [h1]
  show 2 * 0 + _ + _ + _ ≤ _
  omega
/-- A POINT WHERE AN EXCEPTION OF THE CLASS xn x HAS COME to the instruction at pc -/
def AX (X : ct_X) (M : ct_M) (d mc ms cb sb pc : Nat) (ls : List (Option Value)) (w : ct_W) (Q : Option Value ⊕ Nat → ct_W → Prop) (x : Nat) : Prop :=
  Gl X → ∀ (p : Program) (e : Env) (R : Room) (s : State) (m : MethodId) (args : Array Value) (below : List Frame) (meth : Method) (c : Code) (A : Nat → Prop) (ad ad0 : Nat → Nat) (n0 : Nat) (H : Heap) (locs : List Loc) (cells slots : Nat) (arr : Array Slot) (stk : List Value) (q : Addr) (cell : Cell),
    RD d mc ms R → Amb X M p s m meth c A → Rel X M.2.2.1 A s ad ad0 n0 w H locs ls arr → cells ≤ cb + 1 → slots ≤ sb + 6 → H[q]? = some cell → cell.vm = .none → s.vm.findClass (xn x) = some cell.cls →
    ∀ T : State, T.heap = H → Stand p (xl X) e R s m args below meth c T locs cells slots → ∃ t, Steps p.tables e below ((T.setTop (F0 m pc arr stk)).pushFrame (.throwing q)) t ∧ AEnd X below s A ad0 n0 mc ms Q t
/-- no handlers: the method throws it on -/
theorem AX.out {X : ct_X} {M : ct_M} {d mc ms cb sb pc : Nat} {ls : List (Option Value)} {w : ct_W} {Q : Option Value ⊕ Nat → ct_W → Prop} {x : Nat} (h0 : M.2.2.2.2 = []) (hc : Nat.ble cb mc = true) (hs : Nat.ble sb ms = true) (hq : Q (.inr x) w) : AX X M d mc ms cb sb pc ls w Q x := by
  intro G p e R s m args below meth c A ad ad0 n0 H locs cells slots arr stk q cell hR hA hr h1 h2 h3 h4 h5 T hT Y
  have hl9 := hA.locks
  have hno : c.exceptionTable.toList = [] := by
    have h := hA.table
    rw [h0] at h
    exact List.map_eq_nil_iff.mp h
  obtain ⟨a1, a2, a3, a4, a5⟩ := Y.leaveThrown q (g := F0 m pc arr stk) rfl rfl rfl (fun z hz => by rw [hno] at hz; cases hz) hl9
  obtain ⟨hP, hD, hS, -, r5, r6, r7, -⟩ := hr
  have hc' := Nat.le_of_ble_eq_true hc
  have hs' := Nat.le_of_ble_eq_true hs
  have hh : (T.setFrames (.throwing q :: below)).heap = H := hT
  exact ⟨_, a1, .threw q, .inr x, ad, w, locs, cells, slots, ⟨a2, a3, a4, a5, hS.2.2, hS.F hh⟩, ⟨by rw [hh]; exact hP, hD, r5, r6, r7⟩, hq, ⟨q, cell, rfl, by rw [hh]; exact h3, h4, h5⟩, by omega, by omega⟩
section CCALL
variable {X : ct_X} {M M' : ct_M} {d d' mc ms mc' ms' cb sb pc pc' : Nat} {ls : List (Option Value)} {as st stk : List Value} {w : ct_W} {Q Q' : Option Value ⊕ Nat → ct_W → Prop}
set_option maxHeartbeats 1000000 in
theorem ct_call {p : Program} {e : Env} {R : Room} {s : State} {m : MethodId} {args : Array Value} {below : List Frame} {meth : Method} {c : Code} {A : Nat → Prop} {ad ad0 : Nat → Nat} {n0 : Nat} {H : Heap} {locs : List Loc} {cells slots : Nat} {arr : Array Slot} {ig : Instr} {sk : List Value}
    (hM : AM X M' d' mc' ms' as w Q') (G : Gl X) (hR : RD d mc ms R) (hA : Amb X M p s m meth c A) (hr : Rel X M.2.2.1 A s ad ad0 n0 w H locs ls arr) (h1 : cells ≤ cb) (h2 : slots ≤ sb)
    (hd : decode M.2.1 pc = .ok (ig, 3)) (hin : ct_in M') (hpl : plainName M'.1.cls = true) (hdep : d' < d) (hml : M'.2.2.1 ≤ 11) (hcat : (st.map fun v => v.category).sum ≤ 8) (hcb : cb + mc' ≤ mc) (hsb : sb + ms' ≤ ms)
    (hlk : ∀ T : State, T.heap = H → Stand p (xl X) e R s m args below meth c T locs cells slots → ∀ mk methk ck, s.methodNamed? M'.1 = some mk → s.vm.method? mk = some methk → methk.code = some ck → ct_Code M' methk ck → parseMethodDescriptor M'.1.desc = some methk.sig →
      ∃ vm₁, Stand p (xl X) e R s m args below meth c (T.setVm vm₁) locs cells slots ∧ ∀ target, (∀ acts, Steps p.tables e below (doInvoke e ((T.setVm vm₁).setTop (F0 m pc arr (st.map (cv ad)))) acts mk (as.map (cv ad)).toArray).1 target) → Steps p.tables e below (T.setTop (F0 m pc arr sk)) target)
    (hwf : ∀ r w', Q' r w' → w'.length = w.length ∨ (wfL w.length w'.length ls = true ∧ wfS w.length w'.length st = true))
    (hret : ∀ v w', Q' (.inl v) w' → AW X M d mc ms (cb + mc') (sb + ms') (pc + 3) ls (v.toList ++ st) w' Q)
    (hthr : ∀ x w', Q' (.inr x) w' → AX X M d mc ms (cb + mc') (sb + ms') pc ls w' Q x) :
    W p (xl X) e R s m args below meth c H locs cells slots (AEnd X below s A ad0 n0 mc ms Q) (F0 m pc arr sk) := by
  intro T hT Y
  obtain ⟨hP, hD, hS, hL, r5, r6, r7, r8⟩ := id hr
  obtain ⟨mk, methk, ck, hn, hmk, hck, hcd, hsig⟩ := hin.spec G hA.lat
  obtain ⟨vm₁, Y₁, hstep⟩ := hlk T hT Y mk methk ck hn hmk hck hcd hsig
  have hT1 : (T.setVm vm₁).heap = H := hT
  obtain ⟨hR1, hR2, hR3, hR4⟩ := hR
  obtain ⟨r, ad', w', L, k, n, T', hq, Y', ⟨c1, c2, c3, c4, c5, c6⟩, hv, hx⟩ := ct_run hM G Y₁ (g := F0 m pc arr (st.map (cv ad))) rfl (hL.1.1.trans hA.maxL.symm) (by rw [hA.code]; exact hd) hn hmk hck hcd hpl hA.exec hA.lat hA.A1 hA.A2
    (by rw [hT1]; exact hP) hD (by rw [hT1]; exact hS) r7 hr.sc (by omega) (ct_room hcat hdep hml hR2) (by omega) (by omega)
  have hag : LV ad' M.2.2.1 ls arr ∧ st.map (cv ad') = st.map (cv ad) := by
    rcases hwf r w' hq with h | ⟨h, h'⟩
    · have e9 : ad' = ad := funext fun i => c4 i (by omega)
      rw [e9]
      exact ⟨hL, rfl⟩
    · exact ⟨hL.wf h c4, cvs_wf h' c4⟩
  have hrel : Rel X M.2.2.1 A s ad' ad0 n0 w' T'.heap (locs ++ L) ls arr := ⟨c1, c2, c3, hag.1, fun i hi => (c4 i (by omega)).trans (r5 i (by omega)), Nat.le_trans r6 c5, c6, r8⟩
  cases r with
  | inl v =>
    obtain ⟨hk, hn9, hs9⟩ := hv v rfl
    obtain ⟨t, a1, b1⟩ := hret v w' hq G p e R s m args below meth c A ad' ad0 n0 T'.heap (locs ++ L) (cells + k) (slots + n) arr ⟨hR1, hR2, hR3, hR4⟩ hA hrel (by omega) (by omega) T' rfl Y'
    have hstk : (v.toList ++ st).map (cv ad') = (v.map (cv ad')).toList ++ st.map (cv ad) := by
      rw [List.map_append, hag.2]
      cases v <;> rfl
    rw [hstk] at a1
    exact ⟨t, hstep t (fun acts => (hs9 acts).trans a1), b1⟩
  | inr x =>
    obtain ⟨hk, hn9, q, cell, g1, g2, g3, hs9⟩ := hx x rfl
    obtain ⟨t, a1, b1⟩ := hthr x w' hq G p e R s m args below meth c A ad' ad0 n0 T'.heap (locs ++ L) (cells + k) (slots + n) arr (st.map (cv ad)) q cell ⟨hR1, hR2, hR3, hR4⟩ hA hrel (by omega) (by omega) g1 g2 g3 T' rfl Y'
    exact ⟨t, hstep t (fun acts => (hs9 acts).trans a1), b1⟩
/-- the number of a method's parameters, by its descriptor -/
def ct_np (y : MethodName) (n : Nat) : Prop := y.cls ≠ "java/lang/invoke/MethodHandle" ∧ y.cls ≠ "java/lang/invoke/VarHandle" ∧ (parseMethodDescriptor y.desc).map (fun q => q.parameters.length) = some n
theorem ct_np.len {y : MethodName} {n : Nat} (h : ct_np y n) {sig : MethodDescriptor} (hs : parseMethodDescriptor y.desc = some sig) : n = sig.parameters.length := by
  have h2 := h.2.2
  rw [hs] at h2
  exact (Option.some.inj h2).symm
/-- what a call's site asks of the callee M', of depth d' -/
def ct_site (M' : ct_M) (d d' : Nat) : Prop := ct_in M' ∧ plainName M'.1.cls = true ∧ d' < d ∧ M'.2.2.1 ≤ 11
theorem AW.callS {index : Nat} (hd : decode M.2.1 pc = .ok (.invokestatic index, 3)) (hp : pc + 3 = pc') (hsite : ct_site M' d d') (hlink : Cond.methodLink M.1.cls index M'.1 ∈ lw_tbl) (hstat : Cond.static M'.1 ∈ lw_tbl) (hini : Cond.initialized M'.1.cls ∈ lw_tbl) (hnp : ct_np M'.1 as.length)
    (hM : AM X M' d' mc' ms' as w Q') (hst : as.reverse ++ st = stk) (hcat : Nat.ble (st.map fun v => v.category).sum 8 = true) (hcb : Nat.ble (cb + mc') mc = true) (hsb : Nat.ble (sb + ms') ms = true)
    (hwf : ∀ r w', Q' r w' → w'.length = w.length ∨ (wfL w.length w'.length ls = true ∧ wfS w.length w'.length st = true))
    (hthr : ∀ x w', Q' (.inr x) w' → AX X M d mc ms (cb + mc') (sb + ms') pc ls w' Q x) (hret : ∀ v w', Q' (.inl v) w' → AW X M d mc ms (cb + mc') (sb + ms') pc' ls (v.toList ++ st) w' Q) : AW X M d mc ms cb sb pc ls stk w Q := by
  subst hp
  subst hst
  intro G p e R s m args below meth c A ad ad0 n0 H locs cells slots arr hR hA hr h1 h2
  refine ct_call hM G hR hA hr h1 h2 hd hsite.1 hsite.2.1 hsite.2.2.1 hsite.2.2.2 (Nat.le_of_ble_eq_true hcat) (Nat.le_of_ble_eq_true hcb) (Nat.le_of_ble_eq_true hsb) ?_ hwf hret hthr
  intro T hT Y mk methk ck hn hmk hck hcd hsig
  have hstatic : methk.isStatic = true := Cond.static_spec hn hmk (hA.lat.w G hstat rfl args)
  obtain ⟨kP, hkP, -⟩ := className_of_methodNamed hn
  have hinitP : kP.init = .initialized := Cond.initialized_spec (findClass_of_methodNamed hn) hkP (hA.lat.w G hini rfl args)
  exact Y.invokestatic hA.exec hA.own (hA.lat.w G hlink rfl args) hn hmk hstatic hkP hinitP ⟨hnp.1, hnp.2.1⟩ (g := F0 m pc arr ((as.reverse ++ st).map (cv ad))) rfl (argsL := as.map (cv ad)) (rest := st.map (cv ad)) (by rw [List.length_map]; exact hnp.len hsig)
    (by show (as.reverse ++ st).map (cv ad) = _; rw [List.map_append, List.map_reverse]) (by rw [hA.code]; exact hd)
theorem AW.callV {index o ci : Nat} {as' fs : List Value} {C : String} {F : u_T} {N : Nat} (hd : decode M.2.1 pc = .ok (.invokevirtual index, 3)) (hp : pc + 3 = pc') (hsite : ct_site M' d d') (hlink : Cond.methodLink M.1.cls index M'.1 ∈ lw_tbl) (hinst : Cond.instanceMethod M'.1 ∈ lw_tbl) (hnp : ct_np M'.1 as'.length)
    (hw : w[o]? = some (.inr (ci, fs))) (hc : vwCl[ci]? = some (C, F, N)) (hsel : Cond.selects C M'.1 M'.1 ∈ lw_tbl) (has : .ref o :: as' = as)
    (hM : AM X M' d' mc' ms' as w Q') (hst : as'.reverse ++ .ref o :: st = stk) (hcat : Nat.ble (st.map fun v => v.category).sum 8 = true) (hcb : Nat.ble (cb + mc') mc = true) (hsb : Nat.ble (sb + ms') ms = true)
    (hwf : ∀ r w', Q' r w' → w'.length = w.length ∨ (wfL w.length w'.length ls = true ∧ wfS w.length w'.length st = true))
    (hthr : ∀ x w', Q' (.inr x) w' → AX X M d mc ms (cb + mc') (sb + ms') pc ls w' Q x) (hret : ∀ v w', Q' (.inl v) w' → AW X M d mc ms (cb + mc') (sb + ms') pc' ls (v.toList ++ st) w' Q) : AW X M d mc ms cb sb pc ls stk w Q := by
  subst hp
  subst hst
  subst has
  intro G p e R s m args below meth c A ad ad0 n0 H locs cells slots arr hR hA hr h1 h2
  refine ct_call hM G hR hA hr h1 h2 hd hsite.1 hsite.2.1 hsite.2.2.1 hsite.2.2.2 (Nat.le_of_ble_eq_true hcat) (Nat.le_of_ble_eq_true hcb) (Nat.le_of_ble_eq_true hsb) ?_ hwf hret hthr
  intro T hT Y mk methk ck hn hmk hck hcd hsig
  obtain ⟨mk', methM, hn', hmethM, hstM, habM⟩ := Cond.instanceMethod_spec (hA.lat.w G hinst rfl args)
  cases Option.some.inj (hn.symm.trans hn')
  cases Option.some.inj (hmk.symm.trans hmethM)
  obtain ⟨c2, r2, m2, q1, q2, q3, q4, kP, hkP, hkPi⟩ := Cond.selects_spec (hA.lat.w G hsel rfl args)
  obtain ⟨cell, g1, g2, g3⟩ := va_recv (hA.K G) hr.1 hc (cw_at hw)
  cases Option.some.inj (g3.symm.trans q1)
  cases Option.some.inj ((State.methodFound?_of_named hn ⟨hnp.1, hnp.2.1⟩).symm.trans q2)
  cases Option.some.inj (hn.symm.trans q3)
  have hselP : selectMethod e.platform s.vm cell.cls mk = .method mk := by rw [Launch.admits_selectMethod Y.admits]; exact q4
  exact Y.invokevirtual hA.exec hA.own (hA.lat.w G hlink rfl args) hn hmk hstM hkP hkPi ⟨hnp.1, hnp.2.1⟩ (a := ad o) (cell := cell) (by rw [hT]; exact g1) (fun z h => by rw [h] at g2; cases g2) hselP hmk habM hkP hkPi
    (g := F0 m pc arr ((as'.reverse ++ .ref o :: st).map (cv ad))) rfl (argsL := as'.map (cv ad)) (rest := st.map (cv ad)) (by rw [List.length_map]; exact hnp.len hsig)
    (by show (as'.reverse ++ .ref o :: st).map (cv ad) = _; rw [List.map_append, List.map_reverse]; rfl) (by rw [hA.code]; exact hd)
theorem AW.callI {index o : Nat} {as' : List Value} (hd : decode M.2.1 pc = .ok (.invokespecial index, 3)) (hp : pc + 3 = pc') (hsite : ct_site M' d d') (hc0 : M'.2.2.2.2 = []) (hr0 : M'.2.2.2.1 = none) (hcode : Cond.code M'.1 M'.2.1 M'.2.2.1 none ∈ lw_tbl) (hy : M'.1.name = "<init>") (hlink : Cond.methodLink M.1.cls index M'.1 ∈ lw_tbl) (hinst : Cond.instanceMethod M'.1 ∈ lw_tbl) (hnp : ct_np M'.1 as'.length)
    (has : .ref o :: as' = as)
    (hM : AM X M' d' mc' ms' as w Q') (hst : as'.reverse ++ .ref o :: st = stk) (hcat : Nat.ble (st.map fun v => v.category).sum 8 = true) (hcb : Nat.ble (cb + mc') mc = true) (hsb : Nat.ble (sb + ms') ms = true)
    (hwf : ∀ r w', Q' r w' → w'.length = w.length ∨ (wfL w.length w'.length ls = true ∧ wfS w.length w'.length st = true))
    (hthr : ∀ x w', Q' (.inr x) w' → AX X M d mc ms (cb + mc') (sb + ms') pc ls w' Q x) (hret : ∀ v w', Q' (.inl v) w' → AW X M d mc ms (cb + mc') (sb + ms') pc' ls (v.toList ++ st) w' Q) : AW X M d mc ms cb sb pc ls stk w Q := by
  subst hp
  subst hst
  subst has
  intro G p e R s m args below meth c A ad ad0 n0 H locs cells slots arr hR hA hr h1 h2
  refine ct_call hM G hR hA hr h1 h2 hd hsite.1 hsite.2.1 hsite.2.2.1 hsite.2.2.2 (Nat.le_of_ble_eq_true hcat) (Nat.le_of_ble_eq_true hcb) (Nat.le_of_ble_eq_true hsb) ?_ hwf hret hthr
  intro T hT Y mk methk ck hn hmk hck hcd hsig
  have hplt : e.platform.magicAccessors = ({} : Platform).magicAccessors := by rw [Y.admits.platform]
  obtain ⟨mk', methM, cM, kP, vm₁, hn', -, -, -, -, -, -, -, hW₁, hstep₁⟩ := Steps.initColdArgs (e := e) Y.here hA.exec Y.warmed hplt hA.own hy ⟨hnp.1, hnp.2.1⟩ (hA.lat.w G hlink rfl args) (hA.lat.w G hinst rfl args) (hA.lat.w G hcode rfl args)
    (f := F0 m pc arr ((as'.reverse ++ .ref o :: st).map (cv ad))) rfl (a := ad o) (argsL := as'.map (cv ad)) (rest := st.map (cv ad)) (fun sig h => by rw [List.length_map]; exact hnp.len h)
    (by show (as'.reverse ++ .ref o :: st).map (cv ad) = _; rw [List.map_append, List.map_reverse]; rfl) (by rw [hA.code]; exact hd)
  cases Option.some.inj (hn.symm.trans hn')
  exact ⟨vm₁, Y.noted hW₁, hstep₁⟩
end CCALL
end
section
/-! FIELDS, NEW CELLS -/
def ct_fl (own : String) (index ci j : Nat) : Prop := ∃ (C : String) (F : u_T) (N : Nat), vwCl[ci]? = some (C, F, N) ∧ j < N ∧ Cond.fieldLink own index (F j).1 (F j).2.1 (F j).2.2.1 ∈ lw_tbl
def ct_fp (own : String) (index ci j : Nat) (ty : FieldType) (fin : Bool) : Prop := ∃ (C : String) (F : u_T) (N : Nat), vwCl[ci]? = some (C, F, N) ∧ j < N ∧ Cond.fieldLink own index (F j).1 (F j).2.1 (F j).2.2.1 ∈ lw_tbl ∧ (F j).2.2.2 = fin ∧ parseFieldDescriptor (F j).2.2.1 = some ty ∧ (F j).1 = own
def ct_nw (own : String) (index ci N : Nat) (fs : List Value) : Prop := ∃ (C : String) (F : u_T) (ty : Nat → FieldType), vwCl[ci]? = some (C, F, N) ∧ Cond.classLink own index C ∈ lw_tbl ∧ Cond.instantiable C N ∈ lw_tbl ∧ Cond.initialized C ∈ lw_tbl ∧ (∀ j, j < N → parseFieldDescriptor (F j).2.2.1 = some (ty j)) ∧ ∀ j, j < N → defaultValue (ty j) = vp_V fs j
section CELLS
variable {X : ct_X} {M : ct_M} {d mc ms cb sb pc pc' : Nat} {ls : List (Option Value)} {st : List Value} {w : ct_W} {Q : Option Value ⊕ Nat → ct_W → Prop}
theorem AW.getf {index o ci j : Nat} {fs : List Value} {v : Value} (hd : decode M.2.1 pc = .ok (.getfield index, 3)) (hp : pc + 3 = pc') (hf : ct_fl M.1.cls index ci j) (hw : w[o]? = some (.inr (ci, fs))) (hv : fs[j]? = some v) (k : AW X M d mc ms cb sb pc' ls (v :: st) w Q) : AW X M d mc ms cb sb pc ls (.ref o :: st) w Q := by
  subst hp
  intro G p e R s m args below meth c A ad ad0 n0 H locs cells slots arr hR hA hr h1 h2
  obtain ⟨C, F, N, hc, hj, hl⟩ := hf
  obtain ⟨hu, -, -⟩ := ct_cls hc
  exact va_get (D := xD X) (ci := ci) (v := cv ad v) hA.exec hA.code (fun w h => hA.lat.w G (hu w h).1 (hu w h).2 args) (fun w h => h) hA.own (hA.K G) hr.1 o (cw_at hw) hc j hj (hA.lat.w G hl rfl args) (fun _ h => h) (by rw [List.getElem?_map, hv]; rfl) hd
    (k G p e R s m args below meth c A ad ad0 n0 H locs cells slots arr hR hA hr h1 h2)
theorem AW.putf {index o ci j : Nat} {fs fs' : List Value} {v : Value} {ty : FieldType} {w' : ct_W} (hd : decode M.2.1 pc = .ok (.putfield index, 3)) (hp : pc + 3 = pc') (hf : ct_fp M.1.cls index ci j ty false) (hw : w[o]? = some (.inr (ci, fs))) (hl : Nat.ble (j + 1) fs.length = true) (hn : ∀ ad, narrow ty (cv ad v) = cv ad v ∧ fits ty (cv ad v) = true) (hs : fs.set j v = fs') (hs' : w.set o (.inr (ci, fs')) = w') (k : AW X M d mc ms cb sb pc' ls st w' Q) : AW X M d mc ms cb sb pc ls (v :: .ref o :: st) w Q := by
  subst hp
  subst hs
  subst hs'
  intro G p e R s m args below meth c A ad ad0 n0 H locs cells slots arr hR hA hr h1 h2
  obtain ⟨C, F, N, hc, hj, hlk, hfin, hty, -⟩ := hf
  obtain ⟨hu, ⟨ty0, hty0⟩, hnm⟩ := ct_cls hc
  have hset : (fs.map (cv ad)).set j (cv ad v) = (fs.set j v).map (cv ad) := List.map_set.symm
  refine va_put (D := xD X) (ci := ci) (v := cv ad v) (ty := ty) hA.exec hA.code (fun w h => hA.lat.w G (hu w h).1 (hu w h).2 args) (fun w h => h) ty0 hty0 hnm hA.own (hA.K G) hr.1 hr.2.1 hr.2.2.1 o (cw_at hw) hc j hj (hA.lat.w G hlk rfl args) (fun _ h => h) hfin hty (hn ad).1 (hn ad).2 (by rw [List.length_map]; exact Nat.le_of_ble_eq_true hl) hd (fun H' locs' hP' hD' hS' => ?_)
  rw [hset] at hP' hD'
  exact k G p e R s m args below meth c A ad ad0 n0 H' locs' cells slots arr hR hA ⟨by rw [← cw_set]; exact hP', by rw [← cw_set]; exact hD', hS', hr.2.2.2.1, by rw [List.length_set]; exact hr.2.2.2.2.1, by rw [List.length_set]; exact hr.2.2.2.2.2.1, by rw [List.length_set]; exact hr.2.2.2.2.2.2.1, hr.2.2.2.2.2.2.2⟩ h1 h2
theorem AW.putF {index o ci j : Nat} {fs fs' : List Value} {v : Value} {ty : FieldType} {w' : ct_W} (hd : decode M.2.1 pc = .ok (.putfield index, 3)) (hp : pc + 3 = pc') (hi : M.1.name = "<init>") (hf : ct_fp M.1.cls index ci j ty true) (hw : w[o]? = some (.inr (ci, fs))) (hl : Nat.ble (j + 1) fs.length = true) (hn : ∀ ad, narrow ty (cv ad v) = cv ad v ∧ fits ty (cv ad v) = true) (hs : fs.set j v = fs') (hs' : w.set o (.inr (ci, fs')) = w') (k : AW X M d mc ms cb sb pc' ls st w' Q) : AW X M d mc ms cb sb pc ls (v :: .ref o :: st) w Q := by
  subst hp
  subst hs
  subst hs'
  intro G p e R s m args below meth c A ad ad0 n0 H locs cells slots arr hR hA hr h1 h2
  obtain ⟨C, F, N, hc, hj, hlk, hfin, hty, hdc⟩ := hf
  obtain ⟨hu, ⟨ty0, hty0⟩, hnm⟩ := ct_cls hc
  have hset : (fs.map (cv ad)).set j (cv ad v) = (fs.set j v).map (cv ad) := List.map_set.symm
  refine va_putF (D := xD X) (ci := ci) (v := cv ad v) (ty := ty) hA.exec hA.code (fun w h => hA.lat.w G (hu w h).1 (hu w h).2 args) (fun w h => h) ty0 hty0 hnm hA.own (hA.K G) hr.1 hr.2.1 hr.2.2.1 o (cw_at hw) hc j hj (hA.lat.w G hlk rfl args) (fun _ h => h) hfin (hA.name.trans hi) hdc hty (hn ad).1 (hn ad).2 (by rw [List.length_map]; exact Nat.le_of_ble_eq_true hl) hd (fun H' locs' hP' hD' hS' => ?_)
  rw [hset] at hP' hD'
  exact k G p e R s m args below meth c A ad ad0 n0 H' locs' cells slots arr hR hA ⟨by rw [← cw_set]; exact hP', by rw [← cw_set]; exact hD', hS', hr.2.2.2.1, by rw [List.length_set]; exact hr.2.2.2.2.1, by rw [List.length_set]; exact hr.2.2.2.2.2.1, by rw [List.length_set]; exact hr.2.2.2.2.2.2.1, hr.2.2.2.2.2.2.2⟩ h1 h2
theorem Rel.push {nL : Nat} {A : Nat → Prop} {s : State} {ad ad0 : Nat → Nat} {n0 : Nat} {H H' : Heap} {locs locs' : List Loc} {arr : Array Slot} {q : Nat} {z : ct_E} (hr : Rel X nL A s ad ad0 n0 w H locs ls arr) (hP : va_P (xD X) vwCl (cw (xt X) ad w ++ [(q, ce (xt X) ad z)]) H') (hD : va_D A (cw (xt X) ad w ++ [(q, ce (xt X) ad z)])) (hS : va_S A s.heap H' locs')
    (hwf : wfW w.length (w.length + 1) w = true ∧ wfE w.length (w.length + 1) z = true ∧ wfL w.length (w.length + 1) ls = true ∧ Nat.ble (w.length + 1) scr = true) : Rel X nL A s (va_up ad w.length q) ad0 n0 (w ++ [z]) H' locs' ls arr := by
  obtain ⟨-, -, -, hL, r5, r6, r7, r8⟩ := hr
  have ha : ct_ag w.length (w.length + 1) ad (va_up ad w.length q) := fun i hi => va_up_ne _ _ (by omega)
  have hlen : (w ++ [z]).length = w.length + 1 := by simp
  refine ⟨by rw [cw_push hwf.1 hwf.2.1]; exact hP, by rw [cw_push hwf.1 hwf.2.1]; exact hD, hS, hL.wf hwf.2.2.1 ha, fun i hi => ?_, by omega, by rw [hlen]; exact Nat.le_of_ble_eq_true hwf.2.2.2, r8⟩
  rw [hlen] at hi
  exact (ha i (by omega)).trans (r5 i (by omega))
theorem AW.new {index ci N cb' sb' : Nat} {fs : List Value} {w' : ct_W} {n : Nat} (hd : decode M.2.1 pc = .ok (.new index, 3)) (hp : pc + 3 = pc') (hf : ct_nw M.1.cls index ci N fs) (hfs : ∀ ad, fs.map (cv ad) = fs) (hn : w.length = n)
    (hwf : wfW w.length (w.length + 1) w = true ∧ wfE w.length (w.length + 1) (.inr (ci, fs)) = true ∧ wfL w.length (w.length + 1) ls = true ∧ Nat.ble (w.length + 1) scr = true) (hst : wfS w.length (w.length + 1) st = true) (hcb : cb + 1 = cb') (hsb : sb + N = sb') (hc : Nat.ble cb' mc = true) (hs : Nat.ble sb' ms = true) (hw' : w ++ [.inr (ci, fs)] = w')
    (k : AW X M d mc ms cb' sb' pc' ls (.ref n :: st) w' Q) : AW X M d mc ms cb sb pc ls st w Q := by
  subst hp
  subst hcb
  subst hsb
  subst hn
  subst hw'
  intro G p e R s m args below meth c A ad ad0 n0 H locs cells slots arr hR hA hr h1 h2
  obtain ⟨C, F, ty, hcl, hl1, hl2, hl3, hty, hdf⟩ := hf
  obtain ⟨hu, -, -⟩ := ct_cls hcl
  obtain ⟨hR1, hR2, hR3, hR4⟩ := id hR
  have hc' := Nat.le_of_ble_eq_true hc
  have hs' := Nat.le_of_ble_eq_true hs
  refine va_new (ci := ci) (fs := fs) hA.exec hA.code (fun w h => hA.lat.w G (hu w h).1 (hu w h).2 args) (fun w h => h) ty hty hA.own (hA.lat.w G hl1 rfl args) (hA.lat.w G hl2 rfl args) (hA.lat.w G hl3 rfl args) (hA.K G) hr.1 hr.2.1 hr.2.2.1 hA.A2 hcl hdf (by omega) (by omega) hd (fun q H' hP' hD' hS' => ?_)
  have e9 : ce (xt X) ad (.inr (ci, fs)) = .inr (ci, fs) := by show Sum.inr (ci, fs.map (cv ad)) = _; rw [hfs]
  rw [← e9] at hP' hD'
  have hk := k G p e R s m args below meth c A (va_up ad w.length q) ad0 n0 H' locs (cells + 1) (slots + N) arr hR hA (hr.push hP' hD' hS' hwf) (by omega) (by omega)
  have e8 : (Value.ref w.length :: st).map (cv (va_up ad w.length q)) = .ref q :: st.map (cv ad) := by
    show Value.ref (va_up ad w.length q w.length) :: st.map (cv (va_up ad w.length q)) = _
    rw [va_up_self, cvs_wf hst (fun i hi => va_up_ne _ _ (by omega))]
  rw [e8] at hk
  exact hk
theorem AW.newa {atype : ArrayType} {ty : FieldType} {t N cb' sb' : Nat} {a0 : vp_A} {x : Int32} {w' : ct_W} {n : Nat} (hd : decode M.2.1 pc = .ok (.newarray atype, 2)) (hp : pc + 2 = pc') (harr : Cond.arrayClass (newarray.typeOf atype) ∈ lw_tbl) (hty : newarray.typeOf atype = ty) (ht : ∀ tc : Nat → ClassId, (ct_tys tc)[t]? = some (tc t, ty)) (hra : ∀ (U : State) (c1 c2 : ClassId), va_RA U c1 ty → va_RA U c2 ty → c1 = c2)
    (ha : ∀ cA : ClassId, vp_cell cA a0 = arrV cA N (fun _ => defaultValue ty)) (hx : ¬ x < 0) (hN : x.toNatClampNeg = N) (hby : N * componentBytes ty ≤ 536870912) (hn : w.length = n)
    (hwf : wfW w.length (w.length + 1) w = true ∧ wfE w.length (w.length + 1) (.inl (t, a0)) = true ∧ wfL w.length (w.length + 1) ls = true ∧ Nat.ble (w.length + 1) scr = true) (hst : wfS w.length (w.length + 1) st = true) (hcb : cb + 1 = cb') (hsb : sb + N = sb') (hc : Nat.ble cb' mc = true) (hs : Nat.ble sb' ms = true) (hw' : w ++ [.inl (t, a0)] = w')
    (k : AW X M d mc ms cb' sb' pc' ls (.ref n :: st) w' Q) : AW X M d mc ms cb sb pc ls (.int x :: st) w Q := by
  subst hp
  subst hcb
  subst hsb
  subst hn
  subst hw'
  intro G p e R s m args below meth c A ad ad0 n0 H locs cells slots arr hR hA hr h1 h2
  obtain ⟨hR1, hR2, hR3, hR4⟩ := id hR
  have hc' := Nat.le_of_ble_eq_true hc
  have hs' := Nat.le_of_ble_eq_true hs
  refine va_newa hA.exec hA.code (hA.lat.w G harr rfl args) hty (hA.K G) hr.1 hr.2.1 hr.2.2.1 hA.A2 ha hx hN hby (by omega) (by omega) hd (fun q cA H' hK' hP' hD' hS' => ?_)
  have hA1 := (hK'.2 (ct_tys (xt X)).length (cA, ty) (by simp)).2
  have hA2 := ((hA.K G).2 t _ (ht (xt X))).2
  have e0 : cA = xt X t := hra s _ _ hA1 hA2
  subst e0
  have hk := k G p e R s m args below meth c A (va_up ad w.length q) ad0 n0 H' locs (cells + 1) (slots + N) arr hR hA (hr.push hP' hD' hS' hwf) (by omega) (by omega)
  have e8 : (Value.ref w.length :: st).map (cv (va_up ad w.length q)) = .ref q :: st.map (cv ad) := by
    show Value.ref (va_up ad w.length q w.length) :: st.map (cv (va_up ad w.length q)) = _
    rw [va_up_self, cvs_wf hst (fun i hi => va_up_ne _ _ (by omega))]
  rw [e8] at hk
  exact hk
theorem ct_ra {ty : FieldType} (h : ∀ C, ty ≠ .object C) (U : State) (c1 c2 : ClassId) (h1 : va_RA U c1 ty) (h2 : va_RA U c2 ty) : c1 = c2 := by
  cases ty with
  | object C => exact absurd rfl (h C)
  | _ => exact Option.some.inj (h1.symm.trans h2)
theorem AW.objInit {index o : Nat} (hd : decode M.2.1 pc = .ok (.invokespecial index, 3)) (hp : pc + 3 = pc') (hl : Cond.methodLink M.1.cls index objectInit ∈ lw_tbl) (hi : Cond.instanceMethod objectInit ∈ lw_tbl) (hc : Cond.code objectInit ⟨#[0xb1]⟩ 1 none ∈ lw_tbl) (hdp : 1 ≤ d) (hcat : Nat.ble (st.map fun v => v.category).sum 8 = true) (k : AW X M d mc ms cb sb pc' ls st w Q) : AW X M d mc ms cb sb pc ls (.ref o :: st) w Q := by
  subst hp
  intro G p e R s m args below meth c A ad ad0 n0 H locs cells slots arr hR hA hr h1 h2
  obtain ⟨hR1, hR2, hR3, hR4⟩ := id hR
  have hc8 := Nat.le_of_ble_eq_true hcat
  have e1 : ((st.map (cv ad)).map fun v => v.category) = st.map fun v => v.category := by
    rw [List.map_map]
    exact List.map_congr_left fun v _ => cv_cat ad v
  refine W.objInit hA.exec hA.code hA.own (hA.lat.w G hl rfl args) (hA.lat.w G hi rfl args) (hA.lat.w G hc rfl args) rfl (hr.2.2.2.1.1.1.trans hA.maxL.symm) rfl hd (by omega) ?_ (k G p e R s m args below meth c A ad ad0 n0 H locs cells slots arr hR hA hr h1 h2)
  rw [e1]
  show 2 * 0 + _ + _ ≤ _
  omega
end CELLS
end
section
/-! THROWING AND CATCHING -/
def ct_tab (hh : List (Nat × Nat × Nat × Nat)) : List ExceptionTableEntry := hh.map (fun h => ⟨h.1, h.2.1, h.2.2.1, h.2.2.2⟩)
theorem ct_tab_of {l : List ExceptionTableEntry} {hh : List (Nat × Nat × Nat × Nat)} (h : l.map (fun h => (h.startPc, h.endPc, h.handlerPc, h.catchType)) = hh) : l = ct_tab hh := by
  subst hh
  unfold ct_tab
  rw [List.map_map]
  exact (List.map_id'' (fun _ => rfl) l).symm
/-- a word that the tables alone decide and that warmer tables keep -/
def goodX (w : Cond) : Bool := w.onTables && w.keepsCast
theorem Lat.wx {X : ct_X} {s : State} (h : Lat X s) (G : Gl X) {w : Cond} (hw : w ∈ lw_tbl) (hg : goodX w = true) (args : Array Value) : w.before args s = true := by
  simp only [goodX, Bool.and_eq_true] at hg
  have h1 : w.before (xa X) ((xs X).setVm s.vm) = true := Cond.before_shiftedCast (State.Shifted.of_warmed h.1) w hg.2 (G.1 w hw)
  have e := Cond.onTables_vm (A := xa X) (A' := args) (U := xs X) (U' := s) s.vm w hg.1
  rw [h1] at e
  have e2 : s.setVm s.vm = s := rfl
  rw [e2] at e
  exact e.symm
def ct_up : List String := ["java/lang/RuntimeException", "java/lang/Exception"]
def ct_thr (own : String) (ic x : Nat) : Prop := (Bundle.fit (xn x) = true ∧ ∀ n ∈ ct_up, Bundle.fit n = true) ∧ ∀ w ∈ vx_atS own ic (xn x) ct_up, (w ∈ lw_tbl ∧ goodX w = true) ∧ vx_ot w = true
section THR
variable {X : ct_X} {M : ct_M} {d mc ms cb sb pc : Nat} {ls : List (Option Value)} {st : List Value} {w : ct_W} {Q : Option Value ⊕ Nat → ct_W → Prop}
set_option maxHeartbeats 1000000 in
theorem AW.throwS {ik is ic x : Nat} {text : String} (d0 : decode M.2.1 pc = .ok (.new ik, 3)) (d3 : decode M.2.1 (pc + 3) = .ok (.dup, 1)) (d4 : decode M.2.1 (pc + 4) = .ok (.ldc is, 2)) (d6 : decode M.2.1 (pc + 6) = .ok (.invokespecial ic, 3)) (d9 : decode M.2.1 (pc + 9) = .ok (.athrow, 1))
    (hk : Cond.classLink M.1.cls ik (xn x) ∈ lw_tbl) (hini : Cond.initialized (xn x) ∈ lw_tbl) (hstr : Cond.stringRef M.1.cls is text ∈ lw_tbl) (hat : ct_thr M.1.cls ic x) (h0 : M.2.2.2.2 = []) (hd : 6 ≤ d) (hcat : Nat.ble (st.map fun v => v.category).sum 8 = true) (hc : Nat.ble cb mc = true) (hs : Nat.ble sb ms = true) (hq : Q (.inr x) w) : AW X M d mc ms cb sb pc ls st w Q := by
  intro G p e R s m args below meth c A ad ad0 n0 H locs cells slots arr hR hA hr h1 h2
  obtain ⟨hR1, hR2, hR3, hR4⟩ := id hR
  obtain ⟨hP, hD, hS, hL, r5, r6, r7, r8⟩ := id hr
  have hc' := Nat.le_of_ble_eq_true hc
  have hs' := Nat.le_of_ble_eq_true hs
  have hc8 := Nat.le_of_ble_eq_true hcat
  have e1 : ((st.map (cv ad)).map fun v => v.category) = st.map fun v => v.category := by
    rw [List.map_map]
    exact List.map_congr_left fun v _ => cv_cat ad v
  have hno : c.exceptionTable.toList = [] := by
    have h := hA.table
    rw [h0] at h
    exact List.map_eq_nil_iff.mp h
  have hown0 : (xs X).vm.findClass M.1.cls = some m.cls := by
    have h := hA.own
    rw [hA.lat.1.alike.findClass] at h
    exact h
  have hstr0 : (Cond.stringRef M.1.cls is text).before (xa X) (xs X) = true := G.1 _ hstr
  obtain ⟨-, -, -, sa, -, -, -, -, -, hev⟩ := Cond.stringRef_spec hown0 hstr0
  have hR0 : vk_R M.1.cls is text sa (xs X) := vk_R.of hstr0 hev
  have hRs : vk_R M.1.cls is text sa s := vk_R.warm hA.lat.1 hR0
  have hU : vx_Zq Bundle.tN "UNASSIGNED_STACK" Bundle.steD A s s.heap := vx_Zq.moved hA.lat.1.alike ((G.2.2.2.2.2.1.kept (H1 := s.heap) (fun a ha _ => hA.lat.2.2 a ha)).narrow hA.A1)
  have hN : vx_Zq Bundle.tN "SUPPRESSED_SENTINEL" Bundle.listD A s s.heap := vx_Zq.moved hA.lat.1.alike ((G.2.2.2.2.2.2.1.kept (H1 := s.heap) (fun a ha _ => hA.lat.2.2 a ha)).narrow hA.A1)
  refine ct_mono (fun t ht => ?_) (vx_throwS (Qc := fun _ _ _ _ => False) (XC := fun E _ t => E = xn x ∧ H.size ≤ t.heap.size ∧ ∀ q : Nat, q < H.size → t.heap[q]? = H[q]?) (free := A) (mc := cells + 1) (ms := slots + 6) (A := A) (rest := st.map (cv ad)) hA.exec hA.code G.2.1 (own := M.1.cls) (cls := xn x) (text := text) (names := ct_up) (sa := sa) hA.own hat.1.1 hat.1.2 (hA.lat.w G hk rfl args) (hA.lat.w G hini rfl args) hRs
    (fun w h => hA.lat.wx G (hat.2 w h).1.1 (hat.2 w h).1.2 args) (fun w h => ?_) hU hN hS (hL.1.1.trans hA.maxL.symm) d0 d3 d4 d6 d9 (fun z hz => by rw [hno] at hz; cases hz) ?_ ?_ (by omega) (by omega) hA.locks (fun t _ h3 h4 => ⟨rfl, h3, h4⟩) hS.2.2 (Nat.le_refl _) (Nat.le_refl _))
  · obtain ⟨o, a1, a2, ⟨h, -⟩ | ⟨q, rfl, E, ce, L, ⟨rfl, g1, g2⟩, g3, g4, g5, g6, g7, g8⟩⟩ := ht
    · exact h.elim
    · exact ⟨.threw q, .inr x, ad, w, L, cells + 1, slots + 6, ⟨a1, a2, g6, g7, g8, ⟨Nat.le_trans hS.1 g1, fun q h1 h2 => (g2 q (Nat.lt_of_lt_of_le h1 hS.1)).trans (hS.2.1 q h1 h2)⟩⟩, ⟨hP.kept (fun k z hz => g2 z.1 (hP k z hz).lt), hD, r5, r6, r7⟩, hq, ⟨q, ce, rfl, g3, g4, g5⟩, by omega, by omega⟩
  · rcases List.mem_cons.mp h with rfl | h
    · rfl
    · rcases List.mem_cons.mp h with rfl | h
      · rfl
      · exact (hat.2 w h).2
  · show 2 + 3 < R.frames
    omega
  · rw [e1]
    show _ + (13 * (2 + 1) + 43) ≤ R.locals
    omega
/-- caught here: the handler's first instruction stores it -/
theorem AX.catch {x j a b hp ct : Nat} {k : Fin 4} {pre suf : List (Nat × Nat × Nat × Nat)} {ls' : List (Option Value)} (hsplit : M.2.2.2.2 = pre ++ (a, b, hp, ct) :: suf)
    (hpass : ∀ z ∈ pre, covers ⟨z.1, z.2.1, z.2.2.1, z.2.2.2⟩ pc = false ∨ (z.2.2.2 ≠ 0 ∧ ∃ y : Nat, y < 4 ∧ x ≠ y ∧ Cond.classLink M.1.cls z.2.2.2 (xn y) ∈ lw_tbl)) (hx4 : x < 4) (hcov : covers ⟨a, b, hp, ct⟩ pc = true) (hct : ct ≠ 0)
    (hlink : Cond.classLink M.1.cls ct (xn x) ∈ lw_tbl) (hcast : Cond.castable (xn x) (xn x) ∈ lw_tbl) (hd : decode M.2.1 hp = .ok (.astore_n k, 1)) (hi : (k : Nat) = j) (hn : Nat.ble (j + 1) M.2.2.1 = true) (hs : ls.set j none = ls') {cb' sb' : Nat} (hcb : cb + 1 = cb') (hsb : sb + 6 = sb')
    (kk : AW X M d mc ms cb' sb' (hp + 1) ls' [] w Q) : AX X M d mc ms cb sb pc ls w Q x := by
  subst hs
  subst hcb
  subst hsb
  intro G p e R s m args below meth c A ad ad0 n0 H locs cells slots arr stk q cell hR hA hr h1 h2 h3 h4 h5
  have htab : c.exceptionTable.toList = ct_tab pre ++ ⟨a, b, hp, ct⟩ :: ct_tab suf := by
    rw [ct_tab_of hA.table, hsplit]
    simp [ct_tab]
  refine vx_catch (own := M.1.cls) (name := xn x) (E := xn x) (ce := cell) (rest := stk) (pc := pc) (ls := arr) hA.own (ct_tab pre) ⟨a, b, hp, ct⟩ (ct_tab suf) htab (fun z hz => ?_) hcov hct (hA.lat.w G hlink rfl args) (hA.lat.wx G hcast rfl args) h3 h4 h5 ?_
  · obtain ⟨u, hu, rfl⟩ := List.mem_map.mp hz
    rcases hpass u hu with h | ⟨h6, y, h7, h8, h9⟩
    · exact Or.inl h
    · exact Or.inr ⟨h6, xn y, hA.lat.w G h9 rfl args, va_Nc.moved hA.lat.1.alike (G.2.2.2.2.2.2.2 x y hx4 h7 h8)⟩
  · exact lv_astore_n hA.exec hA.code hd hi hr.2.2.2.1.has (Nat.le_of_ble_eq_true hn) rfl (fun arr' h' => kk G p e R s m args below meth c A ad ad0 n0 H locs cells slots arr' hR hA ⟨hr.1, hr.2.1, hr.2.2.1, hr.2.2.2.1.setN h', hr.2.2.2.2⟩ h1 h2)
end THR
end
section
/-! ROWS WITH NUMBERS (nI), CONTRACTS AS FUNCTIONS (AF), CALLS BY THEM -/
section MORE
variable {X : ct_X} {M : ct_M} {d mc ms cb sb pc pc' : Nat} {ls : List (Option Value)} {st : List Value} {w : ct_W} {Q : Option Value ⊕ Nat → ct_W → Prop}
theorem AW.top {v u : Value} (h : v = u) (k : AW X M d mc ms cb sb pc ls (u :: st) w Q) : AW X M d mc ms cb sb pc ls (v :: st) w Q := h ▸ k
theorem AW.wld {w' : ct_W} (h : w = w') (k : AW X M d mc ms cb sb pc ls st w' Q) : AW X M d mc ms cb sb pc ls st w Q := h ▸ k
theorem AW.iaddN {a b : Nat} (hd : decode M.2.1 pc = .ok (.iadd, 1)) (hp : pc + 1 = pc') (k : AW X M d mc ms cb sb pc' ls (.int (nI (a + b)) :: st) w Q) : AW X M d mc ms cb sb pc ls (.int (nI b) :: .int (nI a) :: st) w Q :=
  AW.iadd hd hp (by rw [nI_add]; exact k)
theorem AW.isubN {a b : Nat} (hd : decode M.2.1 pc = .ok (.isub, 1)) (hp : pc + 1 = pc') (h : b ≤ a) (k : AW X M d mc ms cb sb pc' ls (.int (nI (a - b)) :: st) w Q) : AW X M d mc ms cb sb pc ls (.int (nI b) :: .int (nI a) :: st) w Q :=
  AW.isub hd hp (by rw [pk_sub h]; exact k)
theorem AW.iincN {i a : Nat} {ls' : List (Option Value)} (hd : decode M.2.1 pc = .ok (.iinc i 1, 3)) (hp : pc + 3 = pc') (hl : ls[i]? = some (some (.int (nI a)))) (hn : Nat.ble (i + 1) M.2.2.1 = true) (hs : ls.set i (some (.int (nI (a + 1)))) = ls') (k : AW X M d mc ms cb sb pc' ls' st w Q) : AW X M d mc ms cb sb pc ls st w Q :=
  AW.iinc hd hp hl (by show nI a + Int32.ofInt 1 = nI (a + 1); rw [← nI_1]; rfl) hn hs k
theorem AW.ialdN {o n j : Nat} {f : Nat → Int32} (hd : decode M.2.1 pc = .ok (.iaload, 1)) (hp : pc + 1 = pc') (hw : w[o]? = some (.inl (0, n, .inl f))) (hj : j < n) (hn : n < 2 ^ 31) (k : AW X M d mc ms cb sb pc' ls (.int (f j) :: st) w Q) : AW X M d mc ms cb sb pc ls (.int (nI j) :: .ref o :: st) w Q :=
  AW.iald hd hp hw (vp_in_nI hj hn) (by rw [nI_clamp (by omega)]; exact k)
theorem AW.zaldN {o n j : Nat} {f : Nat → Int32} (hd : decode M.2.1 pc = .ok (.baload, 1)) (hp : pc + 1 = pc') (hw : w[o]? = some (.inl (1, n, .inl f))) (hj : j < n) (hn : n < 2 ^ 31) (k : AW X M d mc ms cb sb pc' ls (.int (f j) :: st) w Q) : AW X M d mc ms cb sb pc ls (.int (nI j) :: .ref o :: st) w Q :=
  AW.zald hd hp hw (vp_in_nI hj hn) (by rw [nI_clamp (by omega)]; exact k)
theorem AW.laldN {o n j : Nat} {f : Nat → Int64} (hd : decode M.2.1 pc = .ok (.laload, 1)) (hp : pc + 1 = pc') (hw : w[o]? = some (.inl (2, n, .inr (.inl f)))) (hj : j < n) (hn : n < 2 ^ 31) (k : AW X M d mc ms cb sb pc' ls (.long (f j) :: st) w Q) : AW X M d mc ms cb sb pc ls (.int (nI j) :: .ref o :: st) w Q :=
  AW.lald hd hp hw (vp_in_nI hj hn) (by rw [nI_clamp (by omega)]; exact k)
theorem AW.iastN {o n j : Nat} {f : Nat → Int32} {x : Int32} {w' : ct_W} (hd : decode M.2.1 pc = .ok (.iastore, 1)) (hp : pc + 1 = pc') (hw : w[o]? = some (.inl (0, n, .inl f))) (hj : j < n) (hn : n < 2 ^ 31) (hs : w.set o (.inl (0, n, .inl (upd f j x))) = w') (k : AW X M d mc ms cb sb pc' ls st w' Q) : AW X M d mc ms cb sb pc ls (.int x :: .int (nI j) :: .ref o :: st) w Q :=
  AW.iast hd hp hw (vp_in_nI hj hn) (by rw [nI_clamp (by omega)]; exact hs) k
theorem AW.zastN {o n j : Nat} {f : Nat → Int32} {x : Int32} {w' : ct_W} (hd : decode M.2.1 pc = .ok (.bastore, 1)) (hp : pc + 1 = pc') (hw : w[o]? = some (.inl (1, n, .inl f))) (hj : j < n) (hn : n < 2 ^ 31) (hx : vp_nar .boolean x = x) (hs : w.set o (.inl (1, n, .inl (upd f j x))) = w') (k : AW X M d mc ms cb sb pc' ls st w' Q) : AW X M d mc ms cb sb pc ls (.int x :: .int (nI j) :: .ref o :: st) w Q :=
  AW.zast hd hp hw (vp_in_nI hj hn) (by rw [nI_clamp (by omega), hx]; exact hs) k
theorem AW.lastN {o n j : Nat} {f : Nat → Int64} {x : Int64} {w' : ct_W} (hd : decode M.2.1 pc = .ok (.lastore, 1)) (hp : pc + 1 = pc') (hw : w[o]? = some (.inl (2, n, .inr (.inl f)))) (hj : j < n) (hn : n < 2 ^ 31) (hs : w.set o (.inl (2, n, .inr (.inl (vp_updL f j x)))) = w') (k : AW X M d mc ms cb sb pc' ls st w' Q) : AW X M d mc ms cb sb pc ls (.long x :: .int (nI j) :: .ref o :: st) w Q :=
  AW.last hd hp hw (vp_in_nI hj hn) (by rw [nI_clamp (by omega)]; exact hs) k
theorem AW.icmp_eqN {a b : Nat} {off : Int} {tgt : Nat} (hd : decode M.2.1 pc = .ok (.if_icmp .eq off, 3)) (ht : (pc : Int) + off = (tgt : Int)) (hp : pc + 3 = pc') (ha : a < 2 ^ 31) (hb : b < 2 ^ 31) (kt : a = b → AW X M d mc ms cb sb tgt ls st w Q) (kf : ¬ a = b → AW X M d mc ms cb sb pc' ls st w Q) : AW X M d mc ms cb sb pc ls (.int (nI b) :: .int (nI a) :: st) w Q := by
  exact AW.icmp_eq hd ht hp (fun h => kt ((nI_eq ha hb).mp h)) (fun h => kf (fun q => h ((nI_eq ha hb).mpr q)))
theorem AW.icmp_neN {a b : Nat} {off : Int} {tgt : Nat} (hd : decode M.2.1 pc = .ok (.if_icmp .ne off, 3)) (ht : (pc : Int) + off = (tgt : Int)) (hp : pc + 3 = pc') (ha : a < 2 ^ 31) (hb : b < 2 ^ 31) (kt : ¬ a = b → AW X M d mc ms cb sb tgt ls st w Q) (kf : a = b → AW X M d mc ms cb sb pc' ls st w Q) : AW X M d mc ms cb sb pc ls (.int (nI b) :: .int (nI a) :: st) w Q := by
  exact AW.icmp_ne hd ht hp (fun h => kt (fun q => h ((nI_eq ha hb).mpr q))) (fun h => kf ((nI_eq ha hb).mp h))
theorem AW.icmp_ltN {a b : Nat} {off : Int} {tgt : Nat} (hd : decode M.2.1 pc = .ok (.if_icmp .lt off, 3)) (ht : (pc : Int) + off = (tgt : Int)) (hp : pc + 3 = pc') (ha : a < 2 ^ 31) (hb : b < 2 ^ 31) (kt : a < b → AW X M d mc ms cb sb tgt ls st w Q) (kf : b ≤ a → AW X M d mc ms cb sb pc' ls st w Q) : AW X M d mc ms cb sb pc ls (.int (nI b) :: .int (nI a) :: st) w Q := by
  exact AW.icmp_lt hd ht hp (fun h => kt ((nI_ltI ha hb).mp h)) (fun h => kf (Nat.not_lt.mp (fun q => h ((nI_ltI ha hb).mpr q))))
theorem AW.icmp_geN {a b : Nat} {off : Int} {tgt : Nat} (hd : decode M.2.1 pc = .ok (.if_icmp .ge off, 3)) (ht : (pc : Int) + off = (tgt : Int)) (hp : pc + 3 = pc') (ha : a < 2 ^ 31) (hb : b < 2 ^ 31) (kt : b ≤ a → AW X M d mc ms cb sb tgt ls st w Q) (kf : a < b → AW X M d mc ms cb sb pc' ls st w Q) : AW X M d mc ms cb sb pc ls (.int (nI b) :: .int (nI a) :: st) w Q := by
  exact AW.icmp_ge hd ht hp (fun h => kt ((nI_leI hb ha).mp h)) (fun h => kf (Nat.not_le.mp (fun q => h ((nI_leI hb ha).mpr q))))
theorem AW.icmp_gtN {a b : Nat} {off : Int} {tgt : Nat} (hd : decode M.2.1 pc = .ok (.if_icmp .gt off, 3)) (ht : (pc : Int) + off = (tgt : Int)) (hp : pc + 3 = pc') (ha : a < 2 ^ 31) (hb : b < 2 ^ 31) (kt : b < a → AW X M d mc ms cb sb tgt ls st w Q) (kf : a ≤ b → AW X M d mc ms cb sb pc' ls st w Q) : AW X M d mc ms cb sb pc ls (.int (nI b) :: .int (nI a) :: st) w Q := by
  exact AW.icmp_gt hd ht hp (fun h => kt ((nI_ltI hb ha).mp h)) (fun h => kf (Nat.not_lt.mp (fun q => h ((nI_ltI hb ha).mpr q))))
theorem AW.icmp_leN {a b : Nat} {off : Int} {tgt : Nat} (hd : decode M.2.1 pc = .ok (.if_icmp .le off, 3)) (ht : (pc : Int) + off = (tgt : Int)) (hp : pc + 3 = pc') (ha : a < 2 ^ 31) (hb : b < 2 ^ 31) (kt : a ≤ b → AW X M d mc ms cb sb tgt ls st w Q) (kf : b < a → AW X M d mc ms cb sb pc' ls st w Q) : AW X M d mc ms cb sb pc ls (.int (nI b) :: .int (nI a) :: st) w Q := by
  exact AW.icmp_le hd ht hp (fun h => kt ((nI_leI ha hb).mp h)) (fun h => kf (Nat.not_le.mp (fun q => h ((nI_leI ha hb).mpr q))))
/-- a method as a function: it ends with r, the world w' -/
def AF (X : ct_X) (M : ct_M) (d mc ms : Nat) (as : List Value) (w : ct_W) (r : Option Value ⊕ Nat) (w' : ct_W) : Prop := AM X M d mc ms as w (fun r' w'' => r' = r ∧ w'' = w')
def ct_cS (own : String) (index : Nat) (M' : ct_M) (n : Nat) : Prop := Cond.methodLink own index M'.1 ∈ lw_tbl ∧ Cond.static M'.1 ∈ lw_tbl ∧ Cond.initialized M'.1.cls ∈ lw_tbl ∧ ct_np M'.1 n ∧ ct_in M' ∧ plainName M'.1.cls = true ∧ M'.2.2.1 ≤ 11
def ct_cV (own : String) (index : Nat) (M' : ct_M) (n : Nat) : Prop := Cond.methodLink own index M'.1 ∈ lw_tbl ∧ Cond.instanceMethod M'.1 ∈ lw_tbl ∧ Cond.selects M'.1.cls M'.1 M'.1 ∈ lw_tbl ∧ ct_np M'.1 n ∧ ct_in M' ∧ plainName M'.1.cls = true ∧ M'.2.2.1 ≤ 11
def ct_cI (own : String) (index : Nat) (M' : ct_M) (n : Nat) : Prop := Cond.methodLink own index M'.1 ∈ lw_tbl ∧ Cond.instanceMethod M'.1 ∈ lw_tbl ∧ Cond.code M'.1 M'.2.1 M'.2.2.1 none ∈ lw_tbl ∧ ct_np M'.1 n ∧ (M'.2.2.2.2 = [] ∧ M'.2.2.2.1 = none ∧ M'.1.name = "<init>") ∧ plainName M'.1.cls = true ∧ M'.2.2.1 ≤ 11
variable {M' : ct_M} {d' : Nat} {as stk stk' : List Value} {w' : ct_W}
theorem AW.cS {index n : Nat} {v : Option Value} (hd : decode M.2.1 pc = .ok (.invokestatic index, 3)) (hp : pc + 3 = pc') (hc : ct_cS M.1.cls index M' n) (hdp : d' < d) (hM : AF X M' d' 0 0 as w (.inl v) w') (hn : as.length = n) (hst : as.reverse ++ st = stk) (hcat : Nat.ble (st.map fun v => v.category).sum 8 = true) (hcb : Nat.ble cb mc = true) (hsb : Nat.ble sb ms = true) (hlen : w'.length = w.length) (hv : v.toList ++ st = stk')
    (k : AW X M d mc ms cb sb pc' ls stk' w' Q) : AW X M d mc ms cb sb pc ls stk w Q := by
  subst hn
  subst hv
  exact AW.callS (mc' := 0) (ms' := 0) hd hp ⟨hc.2.2.2.2.1, hc.2.2.2.2.2.1, hdp, hc.2.2.2.2.2.2⟩ hc.1 hc.2.1 hc.2.2.1 hc.2.2.2.1 hM hst hcat hcb hsb (fun r w'' h => Or.inl (by rw [h.2]; exact hlen)) (fun x w'' h => nomatch h.1) (fun v' w'' h => by obtain ⟨h1, rfl⟩ := h; cases h1; exact k)
theorem AW.cSx {index n x : Nat} (hd : decode M.2.1 pc = .ok (.invokestatic index, 3)) (hc : ct_cS M.1.cls index M' n) (hdp : d' < d) (hM : AF X M' d' 0 0 as w (.inr x) w') (hn : as.length = n) (hst : as.reverse ++ st = stk) (hcat : Nat.ble (st.map fun v => v.category).sum 8 = true) (hcb : Nat.ble cb mc = true) (hsb : Nat.ble sb ms = true) (hlen : w'.length = w.length) (h0 : M.2.2.2.2 = []) (hq : Q (.inr x) w') : AW X M d mc ms cb sb pc ls stk w Q := by
  subst hn
  exact AW.callS (mc' := 0) (ms' := 0) hd rfl ⟨hc.2.2.2.2.1, hc.2.2.2.2.2.1, hdp, hc.2.2.2.2.2.2⟩ hc.1 hc.2.1 hc.2.2.1 hc.2.2.2.1 hM hst hcat hcb hsb (fun r w'' h => Or.inl (by rw [h.2]; exact hlen)) (fun x' w'' h => by obtain ⟨h1, rfl⟩ := h; cases h1; exact AX.out h0 hcb hsb hq) (fun v' w'' h => nomatch h.1)
theorem AW.cV {index n o ci N : Nat} {as' fs : List Value} {F : u_T} {v : Option Value} (hd : decode M.2.1 pc = .ok (.invokevirtual index, 3)) (hp : pc + 3 = pc') (hc : ct_cV M.1.cls index M' n) (hdp : d' < d) (hw : w[o]? = some (.inr (ci, fs))) (hcl : vwCl[ci]? = some (M'.1.cls, F, N)) (has : .ref o :: as' = as) (hM : AF X M' d' 0 0 as w (.inl v) w') (hn : as'.length = n) (hst : as'.reverse ++ .ref o :: st = stk) (hcat : Nat.ble (st.map fun v => v.category).sum 8 = true) (hcb : Nat.ble cb mc = true) (hsb : Nat.ble sb ms = true) (hlen : w'.length = w.length) (hv : v.toList ++ st = stk')
    (k : AW X M d mc ms cb sb pc' ls stk' w' Q) : AW X M d mc ms cb sb pc ls stk w Q := by
  subst hn
  subst hv
  exact AW.callV (mc' := 0) (ms' := 0) hd hp ⟨hc.2.2.2.2.1, hc.2.2.2.2.2.1, hdp, hc.2.2.2.2.2.2⟩ hc.1 hc.2.1 hc.2.2.2.1 hw hcl hc.2.2.1 has hM hst hcat hcb hsb (fun r w'' h => Or.inl (by rw [h.2]; exact hlen)) (fun x w'' h => nomatch h.1) (fun v' w'' h => by obtain ⟨h1, rfl⟩ := h; cases h1; exact k)
theorem AW.cVx {index n o ci N x : Nat} {as' fs : List Value} {F : u_T} (hd : decode M.2.1 pc = .ok (.invokevirtual index, 3)) (hc : ct_cV M.1.cls index M' n) (hdp : d' < d) (hw : w[o]? = some (.inr (ci, fs))) (hcl : vwCl[ci]? = some (M'.1.cls, F, N)) (has : .ref o :: as' = as) (hM : AF X M' d' 0 0 as w (.inr x) w') (hn : as'.length = n) (hst : as'.reverse ++ .ref o :: st = stk) (hcat : Nat.ble (st.map fun v => v.category).sum 8 = true) (hcb : Nat.ble cb mc = true) (hsb : Nat.ble sb ms = true) (hlen : w'.length = w.length) (h0 : M.2.2.2.2 = []) (hq : Q (.inr x) w') : AW X M d mc ms cb sb pc ls stk w Q := by
  subst hn
  exact AW.callV (mc' := 0) (ms' := 0) hd rfl ⟨hc.2.2.2.2.1, hc.2.2.2.2.2.1, hdp, hc.2.2.2.2.2.2⟩ hc.1 hc.2.1 hc.2.2.2.1 hw hcl hc.2.2.1 has hM hst hcat hcb hsb (fun r w'' h => Or.inl (by rw [h.2]; exact hlen)) (fun x' w'' h => by obtain ⟨h1, rfl⟩ := h; cases h1; exact AX.out h0 hcb hsb hq) (fun v' w'' h => nomatch h.1)
theorem AW.cI {index n o mc' ms' cb' sb' : Nat} {as' : List Value} (hd : decode M.2.1 pc = .ok (.invokespecial index, 3)) (hp : pc + 3 = pc') (hc : ct_cI M.1.cls index M' n) (hdp : d' < d) (has : .ref o :: as' = as) (hM : AF X M' d' mc' ms' as w (.inl none) w') (hn : as'.length = n) (hst : as'.reverse ++ .ref o :: st = stk) (hcat : Nat.ble (st.map fun v => v.category).sum 8 = true) (hcb : cb + mc' = cb') (hsb : sb + ms' = sb') (hcb' : Nat.ble cb' mc = true) (hsb' : Nat.ble sb' ms = true) (hwf : wfL w.length w'.length ls = true ∧ wfS w.length w'.length st = true)
    (k : AW X M d mc ms cb' sb' pc' ls st w' Q) : AW X M d mc ms cb sb pc ls stk w Q := by
  subst hn
  subst hcb
  subst hsb
  obtain ⟨h1, h2, h3, h4, ⟨h5, h6, h7⟩, h8, h9⟩ := hc
  exact AW.callI (mc' := mc') (ms' := ms') hd hp ⟨Or.inl ⟨h5, by rw [h6]; exact h3⟩, h8, hdp, h9⟩ h5 h6 h3 h7 h1 h2 h4 has hM hst hcat hcb' hsb' (fun r w'' h => by obtain ⟨-, rfl⟩ := h; exact Or.inr hwf) (fun x w'' h => nomatch h.1) (fun v' w'' h => by obtain ⟨q, rfl⟩ := h; cases q; exact k)
end MORE
end
section
/-! METHODS, printed by wip/whole/names.py -/
def m_C_init : ct_M := (⟨"CommandTree", "<init>", "()V"⟩, prog_1_method_1_code, 1, none, [])
def m_A_fill : ct_M := (⟨"java/util/Arrays", "fill", "([II)V"⟩, prog_14_method_103_code, 4, none, [])
def m_T_init : ct_M := (⟨"CommandTree$TaskList", "<init>", "()V"⟩, prog_3_method_1_code, 1, none, [])
def m_R_init : ct_M := (⟨"CommandTree$LeaderRows", "<init>", "()V"⟩, prog_2_method_1_code, 1, none, [])
def m_C_clock : ct_M := (⟨"CommandTree", "clock", "()I"⟩, prog_1_method_22_code, 1, (some .int), [])
def m_L_person : ct_M := (⟨"CommandTreeLaw", "person", "(LCommandTree;I[J)I"⟩, method_3_code, 4, (some .int), [(0, 9, 12, 13), (0, 9, 15, 15)])
def m_C_person : ct_M := (⟨"CommandTree", "person", "(I)I"⟩, prog_1_method_2_code, 3, (some .int), [])
def m_L_unit : ct_M := (⟨"CommandTreeLaw", "unit", "(LCommandTree;[J)I"⟩, method_4_code, 3, (some .int), [(0, 8, 11, 15)])
def m_C_unit : ct_M := (⟨"CommandTree", "unit", "()I"⟩, prog_1_method_3_code, 2, (some .int), [])
def m_L_arrive : ct_M := (⟨"CommandTreeLaw", "arrive", "(LCommandTree;I)I"⟩, method_5_code, 3, (some .int), [(0, 5, 8, 25), (0, 5, 11, 27)])
def m_C_arrive : ct_M := (⟨"CommandTree", "arrive", "(I)V"⟩, prog_1_method_4_code, 2, none, [])
def m_C_requirePerson : ct_M := (⟨"CommandTree", "requirePerson", "(I)V"⟩, prog_1_method_23_code, 2, none, [])
def m_C_isThere : ct_M := (⟨"CommandTree", "isThere", "(I)Z"⟩, prog_1_method_29_code, 2, (some .boolean), [])
def m_C_comeInto : ct_M := (⟨"CommandTree", "comeInto", "(II)V"⟩, prog_1_method_30_code, 3, none, [])
def m_C_leaveLeadToNext : ct_M := (⟨"CommandTree", "leaveLeadToNext", "(I)V"⟩, prog_1_method_31_code, 3, none, [])
def m_C_nextToLead : ct_M := (⟨"CommandTree", "nextToLead", "(I)I"⟩, prog_1_method_34_code, 5, (some .int), [])
def m_C_comesBefore : ct_M := (⟨"CommandTree", "comesBefore", "(II)Z"⟩, prog_1_method_35_code, 3, (some .boolean), [])
def m_C_setLeader : ct_M := (⟨"CommandTree", "setLeader", "(II)V"⟩, prog_1_method_32_code, 4, none, [])
def m_C_withdrawOffersTo : ct_M := (⟨"CommandTree", "withdrawOffersTo", "(I)V"⟩, prog_1_method_33_code, 2, none, [])
def m_C_replace : ct_M := (⟨"CommandTree", "replace", "([IIII)V"⟩, prog_1_method_41_code, 5, none, [])
def m_R_note : ct_M := (⟨"CommandTree$LeaderRows", "note", "(III)V"⟩, prog_2_method_2_code, 5, none, [])
def m_R_dropOldest : ct_M := (⟨"CommandTree$LeaderRows", "dropOldest", "()V"⟩, prog_2_method_3_code, 1, none, [])
def m_R_ringIndex : ct_M := (⟨"CommandTree$LeaderRows", "ringIndex", "(I)I"⟩, prog_2_method_4_code, 3, (some .int), [])
def m_L_leave : ct_M := (⟨"CommandTreeLaw", "leave", "(LCommandTree;I)I"⟩, method_6_code, 3, (some .int), [(0, 5, 8, 25), (0, 5, 11, 27)])
def m_C_leave : ct_M := (⟨"CommandTree", "leave", "(I)V"⟩, prog_1_method_5_code, 2, none, [])
def m_C_requireThere : ct_M := (⟨"CommandTree", "requireThere", "(I)V"⟩, prog_1_method_27_code, 2, none, [])
def m_L_go : ct_M := (⟨"CommandTreeLaw", "go", "(LCommandTree;II)I"⟩, method_7_code, 4, (some .int), [(0, 6, 9, 25), (0, 6, 12, 27)])
def m_C_go : ct_M := (⟨"CommandTree", "go", "(II)V"⟩, prog_1_method_6_code, 3, none, [])
def m_C_requireSector : ct_M := (⟨"CommandTree", "requireSector", "(I)V"⟩, prog_1_method_25_code, 2, none, [])
def m_C_requireOpen : ct_M := (⟨"CommandTree", "requireOpen", "(I)V"⟩, prog_1_method_28_code, 2, none, [])
def m_L_place : ct_M := (⟨"CommandTreeLaw", "place", "(LCommandTree;II)I"⟩, method_8_code, 4, (some .int), [(0, 6, 9, 25), (0, 6, 12, 27)])
def m_C_place : ct_M := (⟨"CommandTree", "place", "(II)V"⟩, prog_1_method_7_code, 3, none, [])
def m_C_requireUnit : ct_M := (⟨"CommandTree", "requireUnit", "(I)V"⟩, prog_1_method_24_code, 2, none, [])
def m_L_split : ct_M := (⟨"CommandTreeLaw", "split", "(LCommandTree;I[J)I"⟩, method_9_code, 4, (some .int), [(0, 9, 12, 25), (0, 9, 15, 27), (0, 9, 18, 15)])
def m_C_split : ct_M := (⟨"CommandTree", "split", "(I)I"⟩, prog_1_method_8_code, 3, (some .int), [])
def m_L_join : ct_M := (⟨"CommandTreeLaw", "join", "(LCommandTree;II)I"⟩, method_10_code, 4, (some .int), [(0, 6, 9, 25), (0, 6, 12, 27)])
def m_C_join : ct_M := (⟨"CommandTree", "join", "(II)V"⟩, prog_1_method_9_code, 3, none, [])
def m_C_isSameOrBelow : ct_M := (⟨"CommandTree", "isSameOrBelow", "(II)Z"⟩, prog_1_method_36_code, 5, (some .boolean), [])
def m_C_moveSectorsBelow : ct_M := (⟨"CommandTree", "moveSectorsBelow", "(II)V"⟩, prog_1_method_37_code, 4, none, [])
def m_T_giveUnanswered : ct_M := (⟨"CommandTree$TaskList", "giveUnanswered", "(II)V"⟩, prog_3_method_11_code, 4, none, [])
def m_T_isAnswered : ct_M := (⟨"CommandTree$TaskList", "isAnswered", "(I)Z"⟩, prog_3_method_5_code, 2, (some .boolean), [])
def m_L_offer : ct_M := (⟨"CommandTreeLaw", "offer", "(LCommandTree;II)I"⟩, method_11_code, 4, (some .int), [(0, 6, 9, 25), (0, 6, 12, 27)])
def m_C_offer : ct_M := (⟨"CommandTree", "offer", "(II)V"⟩, prog_1_method_10_code, 3, none, [])
def m_L_take : ct_M := (⟨"CommandTreeLaw", "take", "(LCommandTree;II)I"⟩, method_12_code, 4, (some .int), [(0, 6, 9, 25), (0, 6, 12, 27)])
def m_C_take : ct_M := (⟨"CommandTree", "take", "(II)V"⟩, prog_1_method_11_code, 3, none, [])
def m_L_task : ct_M := (⟨"CommandTreeLaw", "task", "(LCommandTree;II[J)I"⟩, method_13_code, 5, (some .int), [(0, 10, 13, 25), (0, 10, 17, 13), (0, 10, 21, 27), (0, 10, 25, 15)])
def m_C_task : ct_M := (⟨"CommandTree", "task", "(II)I"⟩, prog_1_method_12_code, 3, (some .int), [])
def m_T_isFull : ct_M := (⟨"CommandTree$TaskList", "isFull", "()Z"⟩, prog_3_method_2_code, 1, (some .boolean), [])
def m_T_add : ct_M := (⟨"CommandTree$TaskList", "add", "(II)I"⟩, prog_3_method_4_code, 4, (some .int), [])
def m_L_answer : ct_M := (⟨"CommandTreeLaw", "answer", "(LCommandTree;IZ)I"⟩, method_14_code, 4, (some .int), [(0, 6, 9, 25), (0, 6, 12, 27)])
def m_C_answer : ct_M := (⟨"CommandTree", "answer", "(IZ)V"⟩, prog_1_method_13_code, 3, none, [])
def m_C_requireTask : ct_M := (⟨"CommandTree", "requireTask", "(I)V"⟩, prog_1_method_26_code, 2, none, [])
def m_T_has : ct_M := (⟨"CommandTree$TaskList", "has", "(I)Z"⟩, prog_3_method_3_code, 2, (some .boolean), [])
def m_T_setAnswer : ct_M := (⟨"CommandTree$TaskList", "setAnswer", "(IZI)V"⟩, prog_3_method_6_code, 4, none, [])
def m_L_span : ct_M := (⟨"CommandTreeLaw", "span", "(LCommandTree;I[J)I"⟩, method_15_code, 4, (some .int), [(0, 9, 12, 13)])
def m_C_span : ct_M := (⟨"CommandTree", "span", "(I)I"⟩, prog_1_method_14_code, 4, (some .int), [])
def m_C_isPassed : ct_M := (⟨"CommandTree", "isPassed", "(I)Z"⟩, prog_1_method_38_code, 2, (some .boolean), [])
def m_C_countOpenBelow : ct_M := (⟨"CommandTree", "countOpenBelow", "(I)I"⟩, prog_1_method_39_code, 4, (some .int), [])
def m_C_count : ct_M := (⟨"CommandTree", "count", "([III)I"⟩, prog_1_method_40_code, 5, (some .int), [])
def m_L_tick : ct_M := (⟨"CommandTreeLaw", "tick", "(LCommandTree;I[J)I"⟩, method_16_code, 4, (some .int), [(0, 9, 12, 13)])
def m_C_tick : ct_M := (⟨"CommandTree", "tick", "(I)I"⟩, prog_1_method_15_code, 3, (some .int), [])
def m_T_countNewlyOverdue : ct_M := (⟨"CommandTree$TaskList", "countNewlyOverdue", "(II)I"⟩, prog_3_method_10_code, 5, (some .int), [])
def m_T_stateOf : ct_M := (⟨"CommandTree$TaskList", "stateOf", "(II)I"⟩, prog_3_method_8_code, 3, (some .int), [])
def m_L_led : ct_M := (⟨"CommandTreeLaw", "led", "(LCommandTree;II[J)I"⟩, method_17_code, 5, (some .int), [(0, 10, 13, 25), (0, 10, 17, 13), (0, 10, 21, 15)])
def m_C_led : ct_M := (⟨"CommandTree", "led", "(II)I"⟩, prog_1_method_16_code, 3, (some .int), [])
def m_R_reachBackTo : ct_M := (⟨"CommandTree$LeaderRows", "reachBackTo", "(I)Z"⟩, prog_2_method_5_code, 2, (some .boolean), [])
def m_R_leaderBehind : ct_M := (⟨"CommandTree$LeaderRows", "leaderBehind", "(II)I"⟩, prog_2_method_6_code, 6, (some .int), [])
def m_L_sectorAt : ct_M := (⟨"CommandTreeLaw", "sectorAt", "(LCommandTree;II[J)I"⟩, method_18_code, 5, (some .int), [(0, 10, 13, 25)])
def m_C_sectorAt : ct_M := (⟨"CommandTree", "sectorAt", "(II)I"⟩, prog_1_method_17_code, 3, (some .int), [])
def m_L_personAt : ct_M := (⟨"CommandTreeLaw", "personAt", "(LCommandTree;II[J)I"⟩, method_19_code, 5, (some .int), [(0, 10, 13, 25)])
def m_C_personAt : ct_M := (⟨"CommandTree", "personAt", "(II)I"⟩, prog_1_method_18_code, 3, (some .int), [])
def m_L_unitAt : ct_M := (⟨"CommandTreeLaw", "unitAt", "(LCommandTree;I[J)I"⟩, method_20_code, 4, (some .int), [(0, 9, 12, 25)])
def m_C_unitAt : ct_M := (⟨"CommandTree", "unitAt", "(I)I"⟩, prog_1_method_19_code, 2, (some .int), [])
def m_L_taskAt : ct_M := (⟨"CommandTreeLaw", "taskAt", "(LCommandTree;II[J)I"⟩, method_21_code, 5, (some .int), [(0, 10, 13, 25)])
def m_C_taskAt : ct_M := (⟨"CommandTree", "taskAt", "(II)I"⟩, prog_1_method_20_code, 3, (some .int), [])
def m_T_sectorOf : ct_M := (⟨"CommandTree$TaskList", "sectorOf", "(I)I"⟩, prog_3_method_7_code, 2, (some .int), [])
def m_T_answeredAt : ct_M := (⟨"CommandTree$TaskList", "answeredAt", "(I)I"⟩, prog_3_method_9_code, 2, (some .int), [])
def m_L_passed : ct_M := (⟨"CommandTreeLaw", "passed", "(LCommandTree;I[J)I"⟩, method_22_code, 4, (some .int), [(0, 9, 12, 13)])
def m_C_passed : ct_M := (⟨"CommandTree", "passed", "(I)I"⟩, prog_1_method_21_code, 4, (some .int), [])
def m_M_init : ct_M := (⟨"CommandTreeModel", "<init>", "()V"⟩, prog_5_method_1_code, 2, none, [])
def m_M_thrown : ct_M := (⟨"CommandTreeModel", "thrown", "()I"⟩, prog_5_method_2_code, 1, (some .int), [])
def m_M_person : ct_M := (⟨"CommandTreeModel", "person", "(I)I"⟩, prog_5_method_14_code, 2, (some .int), [])
def m_M_within : ct_M := (⟨"CommandTreeModel", "within", "(III)Z"⟩, prog_5_method_3_code, 3, (some .boolean), [])
def m_M_goes : ct_M := (⟨"CommandTreeModel", "goes", "(IZZZZ)Z"⟩, prog_5_method_4_code, 8, (some .boolean), [])
def m_M_unit : ct_M := (⟨"CommandTreeModel", "unit", "()I"⟩, prog_5_method_15_code, 1, (some .int), [])
def m_M_arrive : ct_M := (⟨"CommandTreeModel", "arrive", "(I)V"⟩, prog_5_method_16_code, 2, none, [])
def m_M_isPerson : ct_M := (⟨"CommandTreeModel", "isPerson", "(I)Z"⟩, prog_5_method_5_code, 2, (some .boolean), [])
def m_M_moves : ct_M := (⟨"CommandTreeModel", "moves", "(II)V"⟩, prog_5_method_13_code, 5, none, [])
def m_M_leads : ct_M := (⟨"CommandTreeModel", "leads", "(I)I"⟩, prog_5_method_9_code, 3, (some .int), [])
def m_M_next : ct_M := (⟨"CommandTreeModel", "next", "(I)I"⟩, prog_5_method_12_code, 4, (some .int), [])
def m_M_lead : ct_M := (⟨"CommandTreeModel", "lead", "(II)V"⟩, prog_5_method_11_code, 4, none, [])
def m_M_row : ct_M := (⟨"CommandTreeModel", "row", "(II)V"⟩, prog_5_method_10_code, 4, none, [])
def m_M_leave : ct_M := (⟨"CommandTreeModel", "leave", "(I)V"⟩, prog_5_method_17_code, 3, none, [])
def m_M_go : ct_M := (⟨"CommandTreeModel", "go", "(II)V"⟩, prog_5_method_18_code, 4, none, [])
def m_M_isSector : ct_M := (⟨"CommandTreeModel", "isSector", "(I)Z"⟩, prog_5_method_7_code, 2, (some .boolean), [])
def m_M_isOpen : ct_M := (⟨"CommandTreeModel", "isOpen", "(I)Z"⟩, prog_5_method_8_code, 2, (some .boolean), [])
def m_M_place : ct_M := (⟨"CommandTreeModel", "place", "(II)V"⟩, prog_5_method_19_code, 4, none, [])
def m_M_isUnit : ct_M := (⟨"CommandTreeModel", "isUnit", "(I)Z"⟩, prog_5_method_6_code, 2, (some .boolean), [])
def m_M_split : ct_M := (⟨"CommandTreeModel", "split", "(I)I"⟩, prog_5_method_20_code, 2, (some .int), [])
def m_M_join : ct_M := (⟨"CommandTreeModel", "join", "(II)V"⟩, prog_5_method_22_code, 5, none, [])
def m_M_isBelow : ct_M := (⟨"CommandTreeModel", "isBelow", "(II)Z"⟩, prog_5_method_21_code, 4, (some .boolean), [])
def m_M_offer : ct_M := (⟨"CommandTreeModel", "offer", "(II)V"⟩, prog_5_method_23_code, 4, none, [])
def m_M_take : ct_M := (⟨"CommandTreeModel", "take", "(II)V"⟩, prog_5_method_24_code, 4, none, [])
def m_M_task : ct_M := (⟨"CommandTreeModel", "task", "(II)I"⟩, prog_5_method_25_code, 3, (some .int), [])
def m_M_answer : ct_M := (⟨"CommandTreeModel", "answer", "(IZ)V"⟩, prog_5_method_26_code, 4, none, [])
def m_M_span : ct_M := (⟨"CommandTreeModel", "span", "(I)I"⟩, prog_5_method_30_code, 4, (some .int), [])
def m_M_isPassed : ct_M := (⟨"CommandTreeModel", "isPassed", "(I)Z"⟩, prog_5_method_29_code, 2, (some .boolean), [])
def m_M_below : ct_M := (⟨"CommandTreeModel", "below", "(I)I"⟩, prog_5_method_27_code, 4, (some .int), [])
def m_M_unitsIn : ct_M := (⟨"CommandTreeModel", "unitsIn", "(I)I"⟩, prog_5_method_28_code, 4, (some .int), [])
def m_M_tick : ct_M := (⟨"CommandTreeModel", "tick", "(I)I"⟩, prog_5_method_31_code, 4, (some .int), [])
def m_M_led : ct_M := (⟨"CommandTreeModel", "led", "(II)I"⟩, prog_5_method_32_code, 5, (some .int), [])
def m_M_sectorAt : ct_M := (⟨"CommandTreeModel", "sectorAt", "(II)I"⟩, prog_5_method_33_code, 5, (some .int), [])
def m_M_personAt : ct_M := (⟨"CommandTreeModel", "personAt", "(II)I"⟩, prog_5_method_34_code, 3, (some .int), [])
def m_M_unitAt : ct_M := (⟨"CommandTreeModel", "unitAt", "(I)I"⟩, prog_5_method_35_code, 2, (some .int), [])
def m_M_taskAt : ct_M := (⟨"CommandTreeModel", "taskAt", "(II)I"⟩, prog_5_method_36_code, 3, (some .int), [])
def m_M_passed : ct_M := (⟨"CommandTreeModel", "passed", "(I)I"⟩, prog_5_method_37_code, 4, (some .int), [])
def m_M_clock : ct_M := (⟨"CommandTreeModel", "clock", "()I"⟩, prog_5_method_38_code, 1, (some .int), [])
def m_L_law : ct_M := (⟨"CommandTreeLaw", "law", "([I)Z"⟩, code, 7, (some .boolean), [])
end
section
/-! INSTRUCTIONS, printed by wip/whole/names.py -/
end
section
/-! INSTRUCTIONS, printed by wip/whole/names.py -/
end
section
/-! INSTRUCTIONS, printed by wip/whole/names.py -/
end
section
/-! INSTRUCTIONS, printed by wip/whole/names.py -/
end
section
/-! WHAT EACH INSTRUCTION LINKS, printed by wip/whole/names.py -/
theorem in_C_init : ct_in m_C_init := Or.inl ⟨rfl, tb_1 _ (List.mem_of_getElem? (i := 17) rfl)⟩
theorem in_A_fill : ct_in m_A_fill := Or.inl ⟨rfl, tb_1 _ (List.mem_of_getElem? (i := 23) rfl)⟩
theorem in_T_init : ct_in m_T_init := Or.inl ⟨rfl, tb_1 _ (List.mem_of_getElem? (i := 28) rfl)⟩
theorem in_R_init : ct_in m_R_init := Or.inl ⟨rfl, tb_1 _ (List.mem_of_getElem? (i := 53) rfl)⟩
theorem in_C_clock : ct_in m_C_clock := Or.inl ⟨rfl, tb_1 _ (List.mem_of_getElem? (i := 130) rfl)⟩
theorem in_L_person : ct_in m_L_person := Or.inr (tb_1 _ (List.mem_of_getElem? (i := 133) rfl))
theorem in_C_person : ct_in m_C_person := Or.inl ⟨rfl, tb_1 _ (List.mem_of_getElem? (i := 139) rfl)⟩
theorem in_L_unit : ct_in m_L_unit := Or.inr (tb_1 _ (List.mem_of_getElem? (i := 227) rfl))
theorem in_C_unit : ct_in m_C_unit := Or.inl ⟨rfl, tb_1 _ (List.mem_of_getElem? (i := 231) rfl)⟩
theorem in_L_arrive : ct_in m_L_arrive := Or.inr (tb_1 _ (List.mem_of_getElem? (i := 235) rfl))
theorem in_C_arrive : ct_in m_C_arrive := Or.inl ⟨rfl, tb_2 _ (List.mem_of_getElem? (i := 1) rfl)⟩
theorem in_C_requirePerson : ct_in m_C_requirePerson := Or.inl ⟨rfl, tb_2 _ (List.mem_of_getElem? (i := 5) rfl)⟩
theorem in_C_isThere : ct_in m_C_isThere := Or.inl ⟨rfl, tb_2 _ (List.mem_of_getElem? (i := 25) rfl)⟩
theorem in_C_comeInto : ct_in m_C_comeInto := Or.inl ⟨rfl, tb_2 _ (List.mem_of_getElem? (i := 45) rfl)⟩
theorem in_C_leaveLeadToNext : ct_in m_C_leaveLeadToNext := Or.inl ⟨rfl, tb_2 _ (List.mem_of_getElem? (i := 49) rfl)⟩
theorem in_C_nextToLead : ct_in m_C_nextToLead := Or.inl ⟨rfl, tb_2 _ (List.mem_of_getElem? (i := 53) rfl)⟩
theorem in_C_comesBefore : ct_in m_C_comesBefore := Or.inl ⟨rfl, tb_2 _ (List.mem_of_getElem? (i := 57) rfl)⟩
theorem in_C_setLeader : ct_in m_C_setLeader := Or.inl ⟨rfl, tb_2 _ (List.mem_of_getElem? (i := 61) rfl)⟩
theorem in_C_withdrawOffersTo : ct_in m_C_withdrawOffersTo := Or.inl ⟨rfl, tb_2 _ (List.mem_of_getElem? (i := 65) rfl)⟩
theorem in_C_replace : ct_in m_C_replace := Or.inl ⟨rfl, tb_2 _ (List.mem_of_getElem? (i := 68) rfl)⟩
theorem in_R_note : ct_in m_R_note := Or.inl ⟨rfl, tb_2 _ (List.mem_of_getElem? (i := 72) rfl)⟩
theorem in_R_dropOldest : ct_in m_R_dropOldest := Or.inl ⟨rfl, tb_2 _ (List.mem_of_getElem? (i := 76) rfl)⟩
theorem in_R_ringIndex : ct_in m_R_ringIndex := Or.inl ⟨rfl, tb_2 _ (List.mem_of_getElem? (i := 80) rfl)⟩
theorem in_L_leave : ct_in m_L_leave := Or.inr (tb_2 _ (List.mem_of_getElem? (i := 83) rfl))
theorem in_C_leave : ct_in m_C_leave := Or.inl ⟨rfl, tb_2 _ (List.mem_of_getElem? (i := 87) rfl)⟩
theorem in_C_requireThere : ct_in m_C_requireThere := Or.inl ⟨rfl, tb_2 _ (List.mem_of_getElem? (i := 91) rfl)⟩
theorem in_L_go : ct_in m_L_go := Or.inr (tb_2 _ (List.mem_of_getElem? (i := 95) rfl))
theorem in_C_go : ct_in m_C_go := Or.inl ⟨rfl, tb_2 _ (List.mem_of_getElem? (i := 99) rfl)⟩
theorem in_C_requireSector : ct_in m_C_requireSector := Or.inl ⟨rfl, tb_2 _ (List.mem_of_getElem? (i := 103) rfl)⟩
theorem in_C_requireOpen : ct_in m_C_requireOpen := Or.inl ⟨rfl, tb_2 _ (List.mem_of_getElem? (i := 109) rfl)⟩
theorem in_L_place : ct_in m_L_place := Or.inr (tb_2 _ (List.mem_of_getElem? (i := 113) rfl))
theorem in_C_place : ct_in m_C_place := Or.inl ⟨rfl, tb_2 _ (List.mem_of_getElem? (i := 117) rfl)⟩
theorem in_C_requireUnit : ct_in m_C_requireUnit := Or.inl ⟨rfl, tb_2 _ (List.mem_of_getElem? (i := 121) rfl)⟩
theorem in_L_split : ct_in m_L_split := Or.inr (tb_2 _ (List.mem_of_getElem? (i := 126) rfl))
theorem in_C_split : ct_in m_C_split := Or.inl ⟨rfl, tb_2 _ (List.mem_of_getElem? (i := 130) rfl)⟩
theorem in_L_join : ct_in m_L_join := Or.inr (tb_2 _ (List.mem_of_getElem? (i := 134) rfl))
theorem in_C_join : ct_in m_C_join := Or.inl ⟨rfl, tb_2 _ (List.mem_of_getElem? (i := 138) rfl)⟩
theorem in_C_isSameOrBelow : ct_in m_C_isSameOrBelow := Or.inl ⟨rfl, tb_2 _ (List.mem_of_getElem? (i := 143) rfl)⟩
theorem in_C_moveSectorsBelow : ct_in m_C_moveSectorsBelow := Or.inl ⟨rfl, tb_2 _ (List.mem_of_getElem? (i := 148) rfl)⟩
theorem in_T_giveUnanswered : ct_in m_T_giveUnanswered := Or.inl ⟨rfl, tb_2 _ (List.mem_of_getElem? (i := 152) rfl)⟩
theorem in_T_isAnswered : ct_in m_T_isAnswered := Or.inl ⟨rfl, tb_2 _ (List.mem_of_getElem? (i := 156) rfl)⟩
theorem in_L_offer : ct_in m_L_offer := Or.inr (tb_2 _ (List.mem_of_getElem? (i := 159) rfl))
theorem in_C_offer : ct_in m_C_offer := Or.inl ⟨rfl, tb_2 _ (List.mem_of_getElem? (i := 163) rfl)⟩
theorem in_L_take : ct_in m_L_take := Or.inr (tb_2 _ (List.mem_of_getElem? (i := 168) rfl))
theorem in_C_take : ct_in m_C_take := Or.inl ⟨rfl, tb_2 _ (List.mem_of_getElem? (i := 172) rfl)⟩
theorem in_L_task : ct_in m_L_task := Or.inr (tb_2 _ (List.mem_of_getElem? (i := 176) rfl))
theorem in_C_task : ct_in m_C_task := Or.inl ⟨rfl, tb_2 _ (List.mem_of_getElem? (i := 180) rfl)⟩
theorem in_T_isFull : ct_in m_T_isFull := Or.inl ⟨rfl, tb_2 _ (List.mem_of_getElem? (i := 186) rfl)⟩
theorem in_T_add : ct_in m_T_add := Or.inl ⟨rfl, tb_2 _ (List.mem_of_getElem? (i := 191) rfl)⟩
theorem in_L_answer : ct_in m_L_answer := Or.inr (tb_2 _ (List.mem_of_getElem? (i := 195) rfl))
theorem in_C_answer : ct_in m_C_answer := Or.inl ⟨rfl, tb_2 _ (List.mem_of_getElem? (i := 199) rfl)⟩
theorem in_C_requireTask : ct_in m_C_requireTask := Or.inl ⟨rfl, tb_2 _ (List.mem_of_getElem? (i := 203) rfl)⟩
theorem in_T_has : ct_in m_T_has := Or.inl ⟨rfl, tb_2 _ (List.mem_of_getElem? (i := 207) rfl)⟩
theorem in_T_setAnswer : ct_in m_T_setAnswer := Or.inl ⟨rfl, tb_2 _ (List.mem_of_getElem? (i := 214) rfl)⟩
theorem in_L_span : ct_in m_L_span := Or.inr (tb_2 _ (List.mem_of_getElem? (i := 217) rfl))
theorem in_C_span : ct_in m_C_span := Or.inl ⟨rfl, tb_2 _ (List.mem_of_getElem? (i := 221) rfl)⟩
theorem in_C_isPassed : ct_in m_C_isPassed := Or.inl ⟨rfl, tb_2 _ (List.mem_of_getElem? (i := 226) rfl)⟩
theorem in_C_countOpenBelow : ct_in m_C_countOpenBelow := Or.inl ⟨rfl, tb_2 _ (List.mem_of_getElem? (i := 230) rfl)⟩
theorem in_C_count : ct_in m_C_count := Or.inl ⟨rfl, tb_2 _ (List.mem_of_getElem? (i := 233) rfl)⟩
theorem in_L_tick : ct_in m_L_tick := Or.inr (tb_2 _ (List.mem_of_getElem? (i := 236) rfl))
theorem in_C_tick : ct_in m_C_tick := Or.inl ⟨rfl, tb_3 _ (List.mem_of_getElem? (i := 0) rfl)⟩
theorem in_T_countNewlyOverdue : ct_in m_T_countNewlyOverdue := Or.inl ⟨rfl, tb_3 _ (List.mem_of_getElem? (i := 5) rfl)⟩
theorem in_T_stateOf : ct_in m_T_stateOf := Or.inl ⟨rfl, tb_3 _ (List.mem_of_getElem? (i := 9) rfl)⟩
theorem in_L_led : ct_in m_L_led := Or.inr (tb_3 _ (List.mem_of_getElem? (i := 12) rfl))
theorem in_C_led : ct_in m_C_led := Or.inl ⟨rfl, tb_3 _ (List.mem_of_getElem? (i := 16) rfl)⟩
theorem in_R_reachBackTo : ct_in m_R_reachBackTo := Or.inl ⟨rfl, tb_3 _ (List.mem_of_getElem? (i := 21) rfl)⟩
theorem in_R_leaderBehind : ct_in m_R_leaderBehind := Or.inl ⟨rfl, tb_3 _ (List.mem_of_getElem? (i := 26) rfl)⟩
theorem in_L_sectorAt : ct_in m_L_sectorAt := Or.inr (tb_3 _ (List.mem_of_getElem? (i := 29) rfl))
theorem in_C_sectorAt : ct_in m_C_sectorAt := Or.inl ⟨rfl, tb_3 _ (List.mem_of_getElem? (i := 33) rfl)⟩
theorem in_L_personAt : ct_in m_L_personAt := Or.inr (tb_3 _ (List.mem_of_getElem? (i := 37) rfl))
theorem in_C_personAt : ct_in m_C_personAt := Or.inl ⟨rfl, tb_3 _ (List.mem_of_getElem? (i := 41) rfl)⟩
theorem in_L_unitAt : ct_in m_L_unitAt := Or.inr (tb_3 _ (List.mem_of_getElem? (i := 44) rfl))
theorem in_C_unitAt : ct_in m_C_unitAt := Or.inl ⟨rfl, tb_3 _ (List.mem_of_getElem? (i := 48) rfl)⟩
theorem in_L_taskAt : ct_in m_L_taskAt := Or.inr (tb_3 _ (List.mem_of_getElem? (i := 51) rfl))
theorem in_C_taskAt : ct_in m_C_taskAt := Or.inl ⟨rfl, tb_3 _ (List.mem_of_getElem? (i := 55) rfl)⟩
theorem in_T_sectorOf : ct_in m_T_sectorOf := Or.inl ⟨rfl, tb_3 _ (List.mem_of_getElem? (i := 59) rfl)⟩
theorem in_T_answeredAt : ct_in m_T_answeredAt := Or.inl ⟨rfl, tb_3 _ (List.mem_of_getElem? (i := 64) rfl)⟩
theorem in_L_passed : ct_in m_L_passed := Or.inr (tb_3 _ (List.mem_of_getElem? (i := 67) rfl))
theorem in_C_passed : ct_in m_C_passed := Or.inl ⟨rfl, tb_3 _ (List.mem_of_getElem? (i := 71) rfl)⟩
theorem in_M_init : ct_in m_M_init := Or.inl ⟨rfl, tb_3 _ (List.mem_of_getElem? (i := 77) rfl)⟩
theorem in_M_thrown : ct_in m_M_thrown := Or.inl ⟨rfl, tb_3 _ (List.mem_of_getElem? (i := 158) rfl)⟩
theorem in_M_person : ct_in m_M_person := Or.inl ⟨rfl, tb_3 _ (List.mem_of_getElem? (i := 162) rfl)⟩
theorem in_M_within : ct_in m_M_within := Or.inl ⟨rfl, tb_3 _ (List.mem_of_getElem? (i := 165) rfl)⟩
theorem in_M_goes : ct_in m_M_goes := Or.inl ⟨rfl, tb_3 _ (List.mem_of_getElem? (i := 169) rfl)⟩
theorem in_M_unit : ct_in m_M_unit := Or.inl ⟨rfl, tb_3 _ (List.mem_of_getElem? (i := 173) rfl)⟩
theorem in_M_arrive : ct_in m_M_arrive := Or.inl ⟨rfl, tb_3 _ (List.mem_of_getElem? (i := 177) rfl)⟩
theorem in_M_isPerson : ct_in m_M_isPerson := Or.inl ⟨rfl, tb_3 _ (List.mem_of_getElem? (i := 181) rfl)⟩
theorem in_M_moves : ct_in m_M_moves := Or.inl ⟨rfl, tb_3 _ (List.mem_of_getElem? (i := 185) rfl)⟩
theorem in_M_leads : ct_in m_M_leads := Or.inl ⟨rfl, tb_3 _ (List.mem_of_getElem? (i := 189) rfl)⟩
theorem in_M_next : ct_in m_M_next := Or.inl ⟨rfl, tb_3 _ (List.mem_of_getElem? (i := 193) rfl)⟩
theorem in_M_lead : ct_in m_M_lead := Or.inl ⟨rfl, tb_3 _ (List.mem_of_getElem? (i := 197) rfl)⟩
theorem in_M_row : ct_in m_M_row := Or.inl ⟨rfl, tb_3 _ (List.mem_of_getElem? (i := 201) rfl)⟩
theorem in_M_leave : ct_in m_M_leave := Or.inl ⟨rfl, tb_3 _ (List.mem_of_getElem? (i := 205) rfl)⟩
theorem in_M_go : ct_in m_M_go := Or.inl ⟨rfl, tb_3 _ (List.mem_of_getElem? (i := 209) rfl)⟩
theorem in_M_isSector : ct_in m_M_isSector := Or.inl ⟨rfl, tb_3 _ (List.mem_of_getElem? (i := 213) rfl)⟩
theorem in_M_isOpen : ct_in m_M_isOpen := Or.inl ⟨rfl, tb_3 _ (List.mem_of_getElem? (i := 217) rfl)⟩
theorem in_M_place : ct_in m_M_place := Or.inl ⟨rfl, tb_3 _ (List.mem_of_getElem? (i := 221) rfl)⟩
theorem in_M_isUnit : ct_in m_M_isUnit := Or.inl ⟨rfl, tb_3 _ (List.mem_of_getElem? (i := 225) rfl)⟩
theorem in_M_split : ct_in m_M_split := Or.inl ⟨rfl, tb_3 _ (List.mem_of_getElem? (i := 229) rfl)⟩
theorem in_M_join : ct_in m_M_join := Or.inl ⟨rfl, tb_3 _ (List.mem_of_getElem? (i := 233) rfl)⟩
theorem in_M_isBelow : ct_in m_M_isBelow := Or.inl ⟨rfl, tb_3 _ (List.mem_of_getElem? (i := 237) rfl)⟩
theorem in_M_offer : ct_in m_M_offer := Or.inl ⟨rfl, tb_4 _ (List.mem_of_getElem? (i := 1) rfl)⟩
theorem in_M_take : ct_in m_M_take := Or.inl ⟨rfl, tb_4 _ (List.mem_of_getElem? (i := 5) rfl)⟩
theorem in_M_task : ct_in m_M_task := Or.inl ⟨rfl, tb_4 _ (List.mem_of_getElem? (i := 9) rfl)⟩
theorem in_M_answer : ct_in m_M_answer := Or.inl ⟨rfl, tb_4 _ (List.mem_of_getElem? (i := 14) rfl)⟩
theorem in_M_span : ct_in m_M_span := Or.inl ⟨rfl, tb_4 _ (List.mem_of_getElem? (i := 18) rfl)⟩
theorem in_M_isPassed : ct_in m_M_isPassed := Or.inl ⟨rfl, tb_4 _ (List.mem_of_getElem? (i := 22) rfl)⟩
theorem in_M_below : ct_in m_M_below := Or.inl ⟨rfl, tb_4 _ (List.mem_of_getElem? (i := 26) rfl)⟩
theorem in_M_unitsIn : ct_in m_M_unitsIn := Or.inl ⟨rfl, tb_4 _ (List.mem_of_getElem? (i := 30) rfl)⟩
theorem in_M_tick : ct_in m_M_tick := Or.inl ⟨rfl, tb_4 _ (List.mem_of_getElem? (i := 34) rfl)⟩
theorem in_M_led : ct_in m_M_led := Or.inl ⟨rfl, tb_4 _ (List.mem_of_getElem? (i := 38) rfl)⟩
theorem in_M_sectorAt : ct_in m_M_sectorAt := Or.inl ⟨rfl, tb_4 _ (List.mem_of_getElem? (i := 42) rfl)⟩
theorem in_M_personAt : ct_in m_M_personAt := Or.inl ⟨rfl, tb_4 _ (List.mem_of_getElem? (i := 46) rfl)⟩
theorem in_M_unitAt : ct_in m_M_unitAt := Or.inl ⟨rfl, tb_4 _ (List.mem_of_getElem? (i := 50) rfl)⟩
theorem in_M_taskAt : ct_in m_M_taskAt := Or.inl ⟨rfl, tb_4 _ (List.mem_of_getElem? (i := 54) rfl)⟩
theorem in_M_passed : ct_in m_M_passed := Or.inl ⟨rfl, tb_4 _ (List.mem_of_getElem? (i := 58) rfl)⟩
theorem in_M_clock : ct_in m_M_clock := Or.inl ⟨rfl, tb_4 _ (List.mem_of_getElem? (i := 62) rfl)⟩
theorem oi_C_1 : Cond.methodLink "CommandTree" 1 objectInit ∈ lw_tbl := tb_1 _ (List.mem_of_getElem? (i := 18) rfl)
theorem fp_C_9 : ct_fp "CommandTree" 9 2 1 (.int) false := ⟨_, _, _, rfl, by decide, tb_1 _ (List.mem_of_getElem? (i := 79) rfl), rfl, by decide +kernel, rfl⟩
theorem fp_C_13 : ct_fp "CommandTree" 13 2 3 (.array .int) true := ⟨_, _, _, rfl, by decide, tb_1 _ (List.mem_of_getElem? (i := 81) rfl), rfl, by decide +kernel, rfl⟩
theorem fp_C_17 : ct_fp "CommandTree" 17 2 4 (.array .int) true := ⟨_, _, _, rfl, by decide, tb_1 _ (List.mem_of_getElem? (i := 82) rfl), rfl, by decide +kernel, rfl⟩
theorem fp_C_20 : ct_fp "CommandTree" 20 2 5 (.array .int) true := ⟨_, _, _, rfl, by decide, tb_1 _ (List.mem_of_getElem? (i := 83) rfl), rfl, by decide +kernel, rfl⟩
theorem fp_C_23 : ct_fp "CommandTree" 23 2 6 (.array .int) true := ⟨_, _, _, rfl, by decide, tb_1 _ (List.mem_of_getElem? (i := 84) rfl), rfl, by decide +kernel, rfl⟩
theorem fl_C_17 : ct_fl "CommandTree" 17 2 4 := ⟨_, _, _, rfl, by decide, tb_1 _ (List.mem_of_getElem? (i := 82) rfl)⟩
theorem cs_C_26 : ct_cS "CommandTree" 26 m_A_fill 2 := ⟨tb_1 _ (List.mem_of_getElem? (i := 21) rfl), tb_1 _ (List.mem_of_getElem? (i := 22) rfl), tb_1 _ (List.mem_of_getElem? (i := 2) rfl), ⟨by decide +kernel, by decide +kernel, by decide +kernel⟩, in_A_fill, by decide +kernel, by decide⟩
theorem fl_C_20 : ct_fl "CommandTree" 20 2 5 := ⟨_, _, _, rfl, by decide, tb_1 _ (List.mem_of_getElem? (i := 83) rfl)⟩
theorem fl_C_23 : ct_fl "CommandTree" 23 2 6 := ⟨_, _, _, rfl, by decide, tb_1 _ (List.mem_of_getElem? (i := 84) rfl)⟩
theorem fp_C_32 : ct_fp "CommandTree" 32 2 8 (.array .int) true := ⟨_, _, _, rfl, by decide, tb_1 _ (List.mem_of_getElem? (i := 86) rfl), rfl, by decide +kernel, rfl⟩
theorem fl_C_32 : ct_fl "CommandTree" 32 2 8 := ⟨_, _, _, rfl, by decide, tb_1 _ (List.mem_of_getElem? (i := 86) rfl)⟩
theorem fp_C_35 : ct_fp "CommandTree" 35 2 10 (.array .boolean) true := ⟨_, _, _, rfl, by decide, tb_1 _ (List.mem_of_getElem? (i := 88) rfl), rfl, by decide +kernel, rfl⟩
theorem fp_C_39 : ct_fp "CommandTree" 39 2 11 (.array .int) true := ⟨_, _, _, rfl, by decide, tb_1 _ (List.mem_of_getElem? (i := 89) rfl), rfl, by decide +kernel, rfl⟩
theorem fp_C_42 : ct_fp "CommandTree" 42 2 12 (.array .int) true := ⟨_, _, _, rfl, by decide, tb_1 _ (List.mem_of_getElem? (i := 90) rfl), rfl, by decide +kernel, rfl⟩
theorem fp_C_45 : ct_fp "CommandTree" 45 2 13 (.array .int) true := ⟨_, _, _, rfl, by decide, tb_1 _ (List.mem_of_getElem? (i := 91) rfl), rfl, by decide +kernel, rfl⟩
theorem fl_C_39 : ct_fl "CommandTree" 39 2 11 := ⟨_, _, _, rfl, by decide, tb_1 _ (List.mem_of_getElem? (i := 89) rfl)⟩
theorem fl_C_42 : ct_fl "CommandTree" 42 2 12 := ⟨_, _, _, rfl, by decide, tb_1 _ (List.mem_of_getElem? (i := 90) rfl)⟩
theorem fl_C_45 : ct_fl "CommandTree" 45 2 13 := ⟨_, _, _, rfl, by decide, tb_1 _ (List.mem_of_getElem? (i := 91) rfl)⟩
theorem fl_C_35 : ct_fl "CommandTree" 35 2 10 := ⟨_, _, _, rfl, by decide, tb_1 _ (List.mem_of_getElem? (i := 88) rfl)⟩
theorem fp_C_48 : ct_fp "CommandTree" 48 2 9 (.int) false := ⟨_, _, _, rfl, by decide, tb_1 _ (List.mem_of_getElem? (i := 87) rfl), rfl, by decide +kernel, rfl⟩
theorem cl_C_51 : Cond.classLink "CommandTree" 51 "CommandTree$TaskList" ∈ lw_tbl := tb_1 _ (List.mem_of_getElem? (i := 24) rfl)
theorem ci_C_53 : ct_cI "CommandTree" 53 m_T_init 0 := ⟨tb_1 _ (List.mem_of_getElem? (i := 26) rfl), tb_1 _ (List.mem_of_getElem? (i := 27) rfl), tb_1 _ (List.mem_of_getElem? (i := 28) rfl), ⟨by decide +kernel, by decide +kernel, by decide +kernel⟩, ⟨rfl, rfl, rfl⟩, by decide +kernel, by decide⟩
theorem fp_C_54 : ct_fp "CommandTree" 54 2 14 (.object "CommandTree$TaskList") true := ⟨_, _, _, rfl, by decide, tb_1 _ (List.mem_of_getElem? (i := 92) rfl), rfl, by decide +kernel, rfl⟩
theorem cl_C_58 : Cond.classLink "CommandTree" 58 "CommandTree$LeaderRows" ∈ lw_tbl := tb_1 _ (List.mem_of_getElem? (i := 49) rfl)
theorem ci_C_60 : ct_cI "CommandTree" 60 m_R_init 0 := ⟨tb_1 _ (List.mem_of_getElem? (i := 51) rfl), tb_1 _ (List.mem_of_getElem? (i := 52) rfl), tb_1 _ (List.mem_of_getElem? (i := 53) rfl), ⟨by decide +kernel, by decide +kernel, by decide +kernel⟩, ⟨rfl, rfl, rfl⟩, by decide +kernel, by decide⟩
theorem fp_C_61 : ct_fp "CommandTree" 61 2 15 (.object "CommandTree$LeaderRows") true := ⟨_, _, _, rfl, by decide, tb_1 _ (List.mem_of_getElem? (i := 93) rfl), rfl, by decide +kernel, rfl⟩
theorem oi_T_3 : Cond.methodLink "CommandTree$TaskList" 3 objectInit ∈ lw_tbl := tb_1 _ (List.mem_of_getElem? (i := 29) rfl)
theorem fp_T_9 : ct_fp "CommandTree$TaskList" 9 1 1 (.array .int) true := ⟨_, _, _, rfl, by decide, tb_1 _ (List.mem_of_getElem? (i := 32) rfl), rfl, by decide +kernel, rfl⟩
theorem fp_T_15 : ct_fp "CommandTree$TaskList" 15 1 2 (.array .int) true := ⟨_, _, _, rfl, by decide, tb_1 _ (List.mem_of_getElem? (i := 33) rfl), rfl, by decide +kernel, rfl⟩
theorem fp_T_18 : ct_fp "CommandTree$TaskList" 18 1 3 (.array .int) true := ⟨_, _, _, rfl, by decide, tb_1 _ (List.mem_of_getElem? (i := 34) rfl), rfl, by decide +kernel, rfl⟩
theorem fp_T_21 : ct_fp "CommandTree$TaskList" 21 1 4 (.array .int) true := ⟨_, _, _, rfl, by decide, tb_1 _ (List.mem_of_getElem? (i := 35) rfl), rfl, by decide +kernel, rfl⟩
theorem fl_T_21 : ct_fl "CommandTree$TaskList" 21 1 4 := ⟨_, _, _, rfl, by decide, tb_1 _ (List.mem_of_getElem? (i := 35) rfl)⟩
theorem cs_T_24 : ct_cS "CommandTree$TaskList" 24 m_A_fill 2 := ⟨tb_1 _ (List.mem_of_getElem? (i := 30) rfl), tb_1 _ (List.mem_of_getElem? (i := 22) rfl), tb_1 _ (List.mem_of_getElem? (i := 2) rfl), ⟨by decide +kernel, by decide +kernel, by decide +kernel⟩, in_A_fill, by decide +kernel, by decide⟩
theorem oi_R_3 : Cond.methodLink "CommandTree$LeaderRows" 3 objectInit ∈ lw_tbl := tb_1 _ (List.mem_of_getElem? (i := 54) rfl)
theorem fp_R_9 : ct_fp "CommandTree$LeaderRows" 9 0 2 (.array .int) true := ⟨_, _, _, rfl, by decide, tb_1 _ (List.mem_of_getElem? (i := 58) rfl), rfl, by decide +kernel, rfl⟩
theorem fp_R_15 : ct_fp "CommandTree$LeaderRows" 15 0 3 (.array .int) true := ⟨_, _, _, rfl, by decide, tb_1 _ (List.mem_of_getElem? (i := 59) rfl), rfl, by decide +kernel, rfl⟩
theorem fp_R_18 : ct_fp "CommandTree$LeaderRows" 18 0 4 (.array .int) true := ⟨_, _, _, rfl, by decide, tb_1 _ (List.mem_of_getElem? (i := 60) rfl), rfl, by decide +kernel, rfl⟩
theorem fp_R_21 : ct_fp "CommandTree$LeaderRows" 21 0 5 (.array .int) true := ⟨_, _, _, rfl, by decide, tb_1 _ (List.mem_of_getElem? (i := 61) rfl), rfl, by decide +kernel, rfl⟩
theorem fl_R_21 : ct_fl "CommandTree$LeaderRows" 21 0 5 := ⟨_, _, _, rfl, by decide, tb_1 _ (List.mem_of_getElem? (i := 61) rfl)⟩
theorem cs_R_24 : ct_cS "CommandTree$LeaderRows" 24 m_A_fill 2 := ⟨tb_1 _ (List.mem_of_getElem? (i := 55) rfl), tb_1 _ (List.mem_of_getElem? (i := 22) rfl), tb_1 _ (List.mem_of_getElem? (i := 2) rfl), ⟨by decide +kernel, by decide +kernel, by decide +kernel⟩, in_A_fill, by decide +kernel, by decide⟩
theorem fl_C_98 : ct_fl "CommandTree" 98 2 0 := ⟨_, _, _, rfl, by decide, tb_1 _ (List.mem_of_getElem? (i := 78) rfl)⟩
theorem cv_L_7 : ct_cV "CommandTreeLaw" 7 m_C_person 1 := ⟨tb_1 _ (List.mem_of_getElem? (i := 136) rfl), tb_1 _ (List.mem_of_getElem? (i := 137) rfl), tb_1 _ (List.mem_of_getElem? (i := 138) rfl), ⟨by decide +kernel, by decide +kernel, by decide +kernel⟩, in_C_person, by decide +kernel, by decide⟩
theorem cl_C_65 : Cond.classLink "CommandTree" 65 "java/lang/IndexOutOfBoundsException" ∈ lw_tbl := tb_1 _ (List.mem_of_getElem? (i := 140) rfl)
theorem sr_C_67 : Cond.stringRef "CommandTree" 67 "the rank is not 0 .. 9" ∈ lw_tbl := tb_1 _ (List.mem_of_getElem? (i := 182) rfl)
theorem fl_C_72 : ct_fl "CommandTree" 72 2 2 := ⟨_, _, _, rfl, by decide, tb_1 _ (List.mem_of_getElem? (i := 80) rfl)⟩
theorem cl_C_75 : Cond.classLink "CommandTree" 75 "java/lang/UnsupportedOperationException" ∈ lw_tbl := tb_1 _ (List.mem_of_getElem? (i := 209) rfl)
theorem sr_C_77 : Cond.stringRef "CommandTree" 77 "there are 40 persons" ∈ lw_tbl := tb_1 _ (List.mem_of_getElem? (i := 218) rfl)
theorem fl_C_13 : ct_fl "CommandTree" 13 2 3 := ⟨_, _, _, rfl, by decide, tb_1 _ (List.mem_of_getElem? (i := 81) rfl)⟩
theorem fp_C_72 : ct_fp "CommandTree" 72 2 2 (.int) false := ⟨_, _, _, rfl, by decide, tb_1 _ (List.mem_of_getElem? (i := 80) rfl), rfl, by decide +kernel, rfl⟩
theorem cv_L_17 : ct_cV "CommandTreeLaw" 17 m_C_unit 0 := ⟨tb_1 _ (List.mem_of_getElem? (i := 228) rfl), tb_1 _ (List.mem_of_getElem? (i := 229) rfl), tb_1 _ (List.mem_of_getElem? (i := 230) rfl), ⟨by decide +kernel, by decide +kernel, by decide +kernel⟩, in_C_unit, by decide +kernel, by decide⟩
theorem fl_C_80 : ct_fl "CommandTree" 80 2 7 := ⟨_, _, _, rfl, by decide, tb_1 _ (List.mem_of_getElem? (i := 85) rfl)⟩
theorem sr_C_83 : Cond.stringRef "CommandTree" 83 "there are 20 units" ∈ lw_tbl := tb_1 _ (List.mem_of_getElem? (i := 232) rfl)
theorem fp_C_80 : ct_fp "CommandTree" 80 2 7 (.int) false := ⟨_, _, _, rfl, by decide, tb_1 _ (List.mem_of_getElem? (i := 85) rfl), rfl, by decide +kernel, rfl⟩
theorem cv_L_21 : ct_cV "CommandTreeLaw" 21 m_C_arrive 1 := ⟨tb_1 _ (List.mem_of_getElem? (i := 238) rfl), tb_1 _ (List.mem_of_getElem? (i := 239) rfl), tb_2 _ (List.mem_of_getElem? (i := 0) rfl), ⟨by decide +kernel, by decide +kernel, by decide +kernel⟩, in_C_arrive, by decide +kernel, by decide⟩
theorem cv_C_85 : ct_cV "CommandTree" 85 m_C_requirePerson 1 := ⟨tb_2 _ (List.mem_of_getElem? (i := 2) rfl), tb_2 _ (List.mem_of_getElem? (i := 4) rfl), List.mem_append_left _ (List.mem_of_getElem? (i := 1) rfl), ⟨by decide +kernel, by decide +kernel, by decide +kernel⟩, in_C_requirePerson, by decide +kernel, by decide⟩
theorem cv_C_89 : ct_cV "CommandTree" 89 m_C_isThere 1 := ⟨tb_2 _ (List.mem_of_getElem? (i := 22) rfl), tb_2 _ (List.mem_of_getElem? (i := 24) rfl), List.mem_append_left _ (List.mem_of_getElem? (i := 2) rfl), ⟨by decide +kernel, by decide +kernel, by decide +kernel⟩, in_C_isThere, by decide +kernel, by decide⟩
theorem cl_C_93 : Cond.classLink "CommandTree" 93 "java/lang/IllegalStateException" ∈ lw_tbl := tb_2 _ (List.mem_of_getElem? (i := 26) rfl)
theorem sr_C_95 : Cond.stringRef "CommandTree" 95 "the person is there" ∈ lw_tbl := tb_2 _ (List.mem_of_getElem? (i := 35) rfl)
theorem cv_C_101 : ct_cV "CommandTree" 101 m_C_comeInto 2 := ⟨tb_2 _ (List.mem_of_getElem? (i := 42) rfl), tb_2 _ (List.mem_of_getElem? (i := 44) rfl), List.mem_append_left _ (List.mem_of_getElem? (i := 3) rfl), ⟨by decide +kernel, by decide +kernel, by decide +kernel⟩, in_C_comeInto, by decide +kernel, by decide⟩
theorem cl_C_212 : Cond.classLink "CommandTree" 212 "java/lang/IllegalArgumentException" ∈ lw_tbl := tb_2 _ (List.mem_of_getElem? (i := 6) rfl)
theorem sr_C_228 : Cond.stringRef "CommandTree" 228 "no such person" ∈ lw_tbl := tb_2 _ (List.mem_of_getElem? (i := 15) rfl)
theorem cv_C_111 : ct_cV "CommandTree" 111 m_C_leaveLeadToNext 1 := ⟨tb_2 _ (List.mem_of_getElem? (i := 46) rfl), tb_2 _ (List.mem_of_getElem? (i := 48) rfl), List.mem_append_left _ (List.mem_of_getElem? (i := 4) rfl), ⟨by decide +kernel, by decide +kernel, by decide +kernel⟩, in_C_leaveLeadToNext, by decide +kernel, by decide⟩
theorem cv_C_137 : ct_cV "CommandTree" 137 m_C_setLeader 2 := ⟨tb_2 _ (List.mem_of_getElem? (i := 58) rfl), tb_2 _ (List.mem_of_getElem? (i := 60) rfl), List.mem_append_left _ (List.mem_of_getElem? (i := 7) rfl), ⟨by decide +kernel, by decide +kernel, by decide +kernel⟩, in_C_setLeader, by decide +kernel, by decide⟩
theorem cv_C_150 : ct_cV "CommandTree" 150 m_C_nextToLead 1 := ⟨tb_2 _ (List.mem_of_getElem? (i := 50) rfl), tb_2 _ (List.mem_of_getElem? (i := 52) rfl), List.mem_append_left _ (List.mem_of_getElem? (i := 5) rfl), ⟨by decide +kernel, by decide +kernel, by decide +kernel⟩, in_C_nextToLead, by decide +kernel, by decide⟩
theorem cv_C_247 : ct_cV "CommandTree" 247 m_C_comesBefore 2 := ⟨tb_2 _ (List.mem_of_getElem? (i := 54) rfl), tb_2 _ (List.mem_of_getElem? (i := 56) rfl), List.mem_append_left _ (List.mem_of_getElem? (i := 6) rfl), ⟨by decide +kernel, by decide +kernel, by decide +kernel⟩, in_C_comesBefore, by decide +kernel, by decide⟩
theorem cv_C_108 : ct_cV "CommandTree" 108 m_C_withdrawOffersTo 1 := ⟨tb_2 _ (List.mem_of_getElem? (i := 62) rfl), tb_2 _ (List.mem_of_getElem? (i := 64) rfl), List.mem_append_left _ (List.mem_of_getElem? (i := 8) rfl), ⟨by decide +kernel, by decide +kernel, by decide +kernel⟩, in_C_withdrawOffersTo, by decide +kernel, by decide⟩
theorem fl_C_61 : ct_fl "CommandTree" 61 2 15 := ⟨_, _, _, rfl, by decide, tb_1 _ (List.mem_of_getElem? (i := 93) rfl)⟩
theorem cv_C_243 : ct_cV "CommandTree" 243 m_R_note 3 := ⟨tb_2 _ (List.mem_of_getElem? (i := 69) rfl), tb_2 _ (List.mem_of_getElem? (i := 70) rfl), tb_2 _ (List.mem_of_getElem? (i := 71) rfl), ⟨by decide +kernel, by decide +kernel, by decide +kernel⟩, in_R_note, by decide +kernel, by decide⟩
theorem fl_C_48 : ct_fl "CommandTree" 48 2 9 := ⟨_, _, _, rfl, by decide, tb_1 _ (List.mem_of_getElem? (i := 87) rfl)⟩
theorem cs_C_140 : ct_cS "CommandTree" 140 m_C_replace 4 := ⟨tb_2 _ (List.mem_of_getElem? (i := 66) rfl), tb_2 _ (List.mem_of_getElem? (i := 67) rfl), tb_1 _ (List.mem_of_getElem? (i := 1) rfl), ⟨by decide +kernel, by decide +kernel, by decide +kernel⟩, in_C_replace, by decide +kernel, by decide⟩
theorem fl_R_30 : ct_fl "CommandTree$LeaderRows" 30 0 1 := ⟨_, _, _, rfl, by decide, tb_1 _ (List.mem_of_getElem? (i := 57) rfl)⟩
theorem cv_R_34 : ct_cV "CommandTree$LeaderRows" 34 m_R_dropOldest 0 := ⟨tb_2 _ (List.mem_of_getElem? (i := 73) rfl), tb_2 _ (List.mem_of_getElem? (i := 75) rfl), List.mem_append_left _ (List.mem_of_getElem? (i := 9) rfl), ⟨by decide +kernel, by decide +kernel, by decide +kernel⟩, in_R_dropOldest, by decide +kernel, by decide⟩
theorem cv_R_37 : ct_cV "CommandTree$LeaderRows" 37 m_R_ringIndex 1 := ⟨tb_2 _ (List.mem_of_getElem? (i := 77) rfl), tb_2 _ (List.mem_of_getElem? (i := 79) rfl), List.mem_append_left _ (List.mem_of_getElem? (i := 10) rfl), ⟨by decide +kernel, by decide +kernel, by decide +kernel⟩, in_R_ringIndex, by decide +kernel, by decide⟩
theorem fl_R_9 : ct_fl "CommandTree$LeaderRows" 9 0 2 := ⟨_, _, _, rfl, by decide, tb_1 _ (List.mem_of_getElem? (i := 58) rfl)⟩
theorem fl_R_15 : ct_fl "CommandTree$LeaderRows" 15 0 3 := ⟨_, _, _, rfl, by decide, tb_1 _ (List.mem_of_getElem? (i := 59) rfl)⟩
theorem fl_R_18 : ct_fl "CommandTree$LeaderRows" 18 0 4 := ⟨_, _, _, rfl, by decide, tb_1 _ (List.mem_of_getElem? (i := 60) rfl)⟩
theorem fp_R_30 : ct_fp "CommandTree$LeaderRows" 30 0 1 (.int) false := ⟨_, _, _, rfl, by decide, tb_1 _ (List.mem_of_getElem? (i := 57) rfl), rfl, by decide +kernel, rfl⟩
theorem fl_R_41 : ct_fl "CommandTree$LeaderRows" 41 0 0 := ⟨_, _, _, rfl, by decide, tb_1 _ (List.mem_of_getElem? (i := 56) rfl)⟩
theorem fp_R_44 : ct_fp "CommandTree$LeaderRows" 44 0 6 (.int) false := ⟨_, _, _, rfl, by decide, tb_1 _ (List.mem_of_getElem? (i := 62) rfl), rfl, by decide +kernel, rfl⟩
theorem fp_R_41 : ct_fp "CommandTree$LeaderRows" 41 0 0 (.int) false := ⟨_, _, _, rfl, by decide, tb_1 _ (List.mem_of_getElem? (i := 56) rfl), rfl, by decide +kernel, rfl⟩
theorem cv_L_29 : ct_cV "CommandTreeLaw" 29 m_C_leave 1 := ⟨tb_2 _ (List.mem_of_getElem? (i := 84) rfl), tb_2 _ (List.mem_of_getElem? (i := 85) rfl), tb_2 _ (List.mem_of_getElem? (i := 86) rfl), ⟨by decide +kernel, by decide +kernel, by decide +kernel⟩, in_C_leave, by decide +kernel, by decide⟩
theorem cv_C_105 : ct_cV "CommandTree" 105 m_C_requireThere 1 := ⟨tb_2 _ (List.mem_of_getElem? (i := 88) rfl), tb_2 _ (List.mem_of_getElem? (i := 90) rfl), List.mem_append_left _ (List.mem_of_getElem? (i := 11) rfl), ⟨by decide +kernel, by decide +kernel, by decide +kernel⟩, in_C_requireThere, by decide +kernel, by decide⟩
theorem sr_C_239 : Cond.stringRef "CommandTree" 239 "the person is away" ∈ lw_tbl := tb_2 _ (List.mem_of_getElem? (i := 92) rfl)
theorem cv_L_32 : ct_cV "CommandTreeLaw" 32 m_C_go 2 := ⟨tb_2 _ (List.mem_of_getElem? (i := 96) rfl), tb_2 _ (List.mem_of_getElem? (i := 97) rfl), tb_2 _ (List.mem_of_getElem? (i := 98) rfl), ⟨by decide +kernel, by decide +kernel, by decide +kernel⟩, in_C_go, by decide +kernel, by decide⟩
theorem cv_C_114 : ct_cV "CommandTree" 114 m_C_requireSector 1 := ⟨tb_2 _ (List.mem_of_getElem? (i := 100) rfl), tb_2 _ (List.mem_of_getElem? (i := 102) rfl), List.mem_append_left _ (List.mem_of_getElem? (i := 12) rfl), ⟨by decide +kernel, by decide +kernel, by decide +kernel⟩, in_C_requireSector, by decide +kernel, by decide⟩
theorem sr_C_117 : Cond.stringRef "CommandTree" 117 "the person is in it" ∈ lw_tbl := tb_2 _ (List.mem_of_getElem? (i := 105) rfl)
theorem cv_C_119 : ct_cV "CommandTree" 119 m_C_requireOpen 1 := ⟨tb_2 _ (List.mem_of_getElem? (i := 106) rfl), tb_2 _ (List.mem_of_getElem? (i := 108) rfl), List.mem_append_left _ (List.mem_of_getElem? (i := 13) rfl), ⟨by decide +kernel, by decide +kernel, by decide +kernel⟩, in_C_requireOpen, by decide +kernel, by decide⟩
theorem sr_C_232 : Cond.stringRef "CommandTree" 232 "no such sector" ∈ lw_tbl := tb_2 _ (List.mem_of_getElem? (i := 104) rfl)
theorem sr_C_241 : Cond.stringRef "CommandTree" 241 "the sector is not open" ∈ lw_tbl := tb_2 _ (List.mem_of_getElem? (i := 110) rfl)
theorem cv_L_36 : ct_cV "CommandTreeLaw" 36 m_C_place 2 := ⟨tb_2 _ (List.mem_of_getElem? (i := 114) rfl), tb_2 _ (List.mem_of_getElem? (i := 115) rfl), tb_2 _ (List.mem_of_getElem? (i := 116) rfl), ⟨by decide +kernel, by decide +kernel, by decide +kernel⟩, in_C_place, by decide +kernel, by decide⟩
theorem cv_C_122 : ct_cV "CommandTree" 122 m_C_requireUnit 1 := ⟨tb_2 _ (List.mem_of_getElem? (i := 118) rfl), tb_2 _ (List.mem_of_getElem? (i := 120) rfl), List.mem_append_left _ (List.mem_of_getElem? (i := 14) rfl), ⟨by decide +kernel, by decide +kernel, by decide +kernel⟩, in_C_requireUnit, by decide +kernel, by decide⟩
theorem sr_C_125 : Cond.stringRef "CommandTree" 125 "it is so" ∈ lw_tbl := tb_2 _ (List.mem_of_getElem? (i := 123) rfl)
theorem sr_C_230 : Cond.stringRef "CommandTree" 230 "no such unit" ∈ lw_tbl := tb_2 _ (List.mem_of_getElem? (i := 122) rfl)
theorem cv_L_39 : ct_cV "CommandTreeLaw" 39 m_C_split 1 := ⟨tb_2 _ (List.mem_of_getElem? (i := 127) rfl), tb_2 _ (List.mem_of_getElem? (i := 128) rfl), tb_2 _ (List.mem_of_getElem? (i := 129) rfl), ⟨by decide +kernel, by decide +kernel, by decide +kernel⟩, in_C_split, by decide +kernel, by decide⟩
theorem sr_C_127 : Cond.stringRef "CommandTree" 127 "there are 20 sectors" ∈ lw_tbl := tb_2 _ (List.mem_of_getElem? (i := 131) rfl)
theorem cv_L_42 : ct_cV "CommandTreeLaw" 42 m_C_join 2 := ⟨tb_2 _ (List.mem_of_getElem? (i := 135) rfl), tb_2 _ (List.mem_of_getElem? (i := 136) rfl), tb_2 _ (List.mem_of_getElem? (i := 137) rfl), ⟨by decide +kernel, by decide +kernel, by decide +kernel⟩, in_C_join, by decide +kernel, by decide⟩
theorem sr_C_129 : Cond.stringRef "CommandTree" 129 "the whole scene is joined to none" ∈ lw_tbl := tb_2 _ (List.mem_of_getElem? (i := 139) rfl)
theorem cv_C_131 : ct_cV "CommandTree" 131 m_C_isSameOrBelow 2 := ⟨tb_2 _ (List.mem_of_getElem? (i := 140) rfl), tb_2 _ (List.mem_of_getElem? (i := 142) rfl), List.mem_append_left _ (List.mem_of_getElem? (i := 15) rfl), ⟨by decide +kernel, by decide +kernel, by decide +kernel⟩, in_C_isSameOrBelow, by decide +kernel, by decide⟩
theorem sr_C_135 : Cond.stringRef "CommandTree" 135 "the other one is this one, or below it" ∈ lw_tbl := tb_2 _ (List.mem_of_getElem? (i := 144) rfl)
theorem cv_C_144 : ct_cV "CommandTree" 144 m_C_moveSectorsBelow 2 := ⟨tb_2 _ (List.mem_of_getElem? (i := 145) rfl), tb_2 _ (List.mem_of_getElem? (i := 147) rfl), List.mem_append_left _ (List.mem_of_getElem? (i := 16) rfl), ⟨by decide +kernel, by decide +kernel, by decide +kernel⟩, in_C_moveSectorsBelow, by decide +kernel, by decide⟩
theorem fl_C_54 : ct_fl "CommandTree" 54 2 14 := ⟨_, _, _, rfl, by decide, tb_1 _ (List.mem_of_getElem? (i := 92) rfl)⟩
theorem cv_C_147 : ct_cV "CommandTree" 147 m_T_giveUnanswered 2 := ⟨tb_2 _ (List.mem_of_getElem? (i := 149) rfl), tb_2 _ (List.mem_of_getElem? (i := 150) rfl), tb_2 _ (List.mem_of_getElem? (i := 151) rfl), ⟨by decide +kernel, by decide +kernel, by decide +kernel⟩, in_T_giveUnanswered, by decide +kernel, by decide⟩
theorem fl_T_30 : ct_fl "CommandTree$TaskList" 30 1 0 := ⟨_, _, _, rfl, by decide, tb_1 _ (List.mem_of_getElem? (i := 31) rfl)⟩
theorem fl_T_9 : ct_fl "CommandTree$TaskList" 9 1 1 := ⟨_, _, _, rfl, by decide, tb_1 _ (List.mem_of_getElem? (i := 32) rfl)⟩
theorem cv_T_38 : ct_cV "CommandTree$TaskList" 38 m_T_isAnswered 1 := ⟨tb_2 _ (List.mem_of_getElem? (i := 153) rfl), tb_2 _ (List.mem_of_getElem? (i := 154) rfl), tb_2 _ (List.mem_of_getElem? (i := 155) rfl), ⟨by decide +kernel, by decide +kernel, by decide +kernel⟩, in_T_isAnswered, by decide +kernel, by decide⟩
theorem fl_T_18 : ct_fl "CommandTree$TaskList" 18 1 3 := ⟨_, _, _, rfl, by decide, tb_1 _ (List.mem_of_getElem? (i := 34) rfl)⟩
theorem cv_L_45 : ct_cV "CommandTreeLaw" 45 m_C_offer 2 := ⟨tb_2 _ (List.mem_of_getElem? (i := 160) rfl), tb_2 _ (List.mem_of_getElem? (i := 161) rfl), tb_2 _ (List.mem_of_getElem? (i := 162) rfl), ⟨by decide +kernel, by decide +kernel, by decide +kernel⟩, in_C_offer, by decide +kernel, by decide⟩
theorem sr_C_154 : Cond.stringRef "CommandTree" 154 "the sector has no leader" ∈ lw_tbl := tb_2 _ (List.mem_of_getElem? (i := 164) rfl)
theorem sr_C_156 : Cond.stringRef "CommandTree" 156 "the person leads a sector" ∈ lw_tbl := tb_2 _ (List.mem_of_getElem? (i := 165) rfl)
theorem cv_L_48 : ct_cV "CommandTreeLaw" 48 m_C_take 2 := ⟨tb_2 _ (List.mem_of_getElem? (i := 169) rfl), tb_2 _ (List.mem_of_getElem? (i := 170) rfl), tb_2 _ (List.mem_of_getElem? (i := 171) rfl), ⟨by decide +kernel, by decide +kernel, by decide +kernel⟩, in_C_take, by decide +kernel, by decide⟩
theorem sr_C_158 : Cond.stringRef "CommandTree" 158 "it is not offered to this person" ∈ lw_tbl := tb_2 _ (List.mem_of_getElem? (i := 173) rfl)
theorem cv_L_51 : ct_cV "CommandTreeLaw" 51 m_C_task 2 := ⟨tb_2 _ (List.mem_of_getElem? (i := 177) rfl), tb_2 _ (List.mem_of_getElem? (i := 178) rfl), tb_2 _ (List.mem_of_getElem? (i := 179) rfl), ⟨by decide +kernel, by decide +kernel, by decide +kernel⟩, in_C_task, by decide +kernel, by decide⟩
theorem cn_C_160 : Cond.constant "CommandTree" 160 99999 ∈ lw_tbl := tb_2 _ (List.mem_of_getElem? (i := 181) rfl)
theorem sr_C_161 : Cond.stringRef "CommandTree" 161 "until is not the present second .. 99999" ∈ lw_tbl := tb_2 _ (List.mem_of_getElem? (i := 182) rfl)
theorem cv_C_163 : ct_cV "CommandTree" 163 m_T_isFull 0 := ⟨tb_2 _ (List.mem_of_getElem? (i := 183) rfl), tb_2 _ (List.mem_of_getElem? (i := 184) rfl), tb_2 _ (List.mem_of_getElem? (i := 185) rfl), ⟨by decide +kernel, by decide +kernel, by decide +kernel⟩, in_T_isFull, by decide +kernel, by decide⟩
theorem sr_C_167 : Cond.stringRef "CommandTree" 167 "there are 60 tasks" ∈ lw_tbl := tb_2 _ (List.mem_of_getElem? (i := 187) rfl)
theorem cv_C_169 : ct_cV "CommandTree" 169 m_T_add 2 := ⟨tb_2 _ (List.mem_of_getElem? (i := 188) rfl), tb_2 _ (List.mem_of_getElem? (i := 189) rfl), tb_2 _ (List.mem_of_getElem? (i := 190) rfl), ⟨by decide +kernel, by decide +kernel, by decide +kernel⟩, in_T_add, by decide +kernel, by decide⟩
theorem cv_T_34 : ct_cV "CommandTree$TaskList" 34 m_T_isFull 0 := ⟨tb_2 _ (List.mem_of_getElem? (i := 192) rfl), tb_2 _ (List.mem_of_getElem? (i := 184) rfl), tb_2 _ (List.mem_of_getElem? (i := 185) rfl), ⟨by decide +kernel, by decide +kernel, by decide +kernel⟩, in_T_isFull, by decide +kernel, by decide⟩
theorem fl_T_15 : ct_fl "CommandTree$TaskList" 15 1 2 := ⟨_, _, _, rfl, by decide, tb_1 _ (List.mem_of_getElem? (i := 33) rfl)⟩
theorem fp_T_30 : ct_fp "CommandTree$TaskList" 30 1 0 (.int) false := ⟨_, _, _, rfl, by decide, tb_1 _ (List.mem_of_getElem? (i := 31) rfl), rfl, by decide +kernel, rfl⟩
theorem cv_L_55 : ct_cV "CommandTreeLaw" 55 m_C_answer 2 := ⟨tb_2 _ (List.mem_of_getElem? (i := 196) rfl), tb_2 _ (List.mem_of_getElem? (i := 197) rfl), tb_2 _ (List.mem_of_getElem? (i := 198) rfl), ⟨by decide +kernel, by decide +kernel, by decide +kernel⟩, in_C_answer, by decide +kernel, by decide⟩
theorem cv_C_173 : ct_cV "CommandTree" 173 m_C_requireTask 1 := ⟨tb_2 _ (List.mem_of_getElem? (i := 200) rfl), tb_2 _ (List.mem_of_getElem? (i := 202) rfl), List.mem_append_left _ (List.mem_of_getElem? (i := 17) rfl), ⟨by decide +kernel, by decide +kernel, by decide +kernel⟩, in_C_requireTask, by decide +kernel, by decide⟩
theorem cv_C_176 : ct_cV "CommandTree" 176 m_T_isAnswered 1 := ⟨tb_2 _ (List.mem_of_getElem? (i := 209) rfl), tb_2 _ (List.mem_of_getElem? (i := 154) rfl), tb_2 _ (List.mem_of_getElem? (i := 155) rfl), ⟨by decide +kernel, by decide +kernel, by decide +kernel⟩, in_T_isAnswered, by decide +kernel, by decide⟩
theorem sr_C_179 : Cond.stringRef "CommandTree" 179 "the task was answered" ∈ lw_tbl := tb_2 _ (List.mem_of_getElem? (i := 210) rfl)
theorem cv_C_181 : ct_cV "CommandTree" 181 m_T_setAnswer 3 := ⟨tb_2 _ (List.mem_of_getElem? (i := 211) rfl), tb_2 _ (List.mem_of_getElem? (i := 212) rfl), tb_2 _ (List.mem_of_getElem? (i := 213) rfl), ⟨by decide +kernel, by decide +kernel, by decide +kernel⟩, in_T_setAnswer, by decide +kernel, by decide⟩
theorem cv_C_234 : ct_cV "CommandTree" 234 m_T_has 1 := ⟨tb_2 _ (List.mem_of_getElem? (i := 204) rfl), tb_2 _ (List.mem_of_getElem? (i := 205) rfl), tb_2 _ (List.mem_of_getElem? (i := 206) rfl), ⟨by decide +kernel, by decide +kernel, by decide +kernel⟩, in_T_has, by decide +kernel, by decide⟩
theorem sr_C_237 : Cond.stringRef "CommandTree" 237 "no such task" ∈ lw_tbl := tb_2 _ (List.mem_of_getElem? (i := 208) rfl)
theorem cv_L_59 : ct_cV "CommandTreeLaw" 59 m_C_span 1 := ⟨tb_2 _ (List.mem_of_getElem? (i := 218) rfl), tb_2 _ (List.mem_of_getElem? (i := 219) rfl), tb_2 _ (List.mem_of_getElem? (i := 220) rfl), ⟨by decide +kernel, by decide +kernel, by decide +kernel⟩, in_C_span, by decide +kernel, by decide⟩
theorem sr_C_185 : Cond.stringRef "CommandTree" 185 "the span is not 1 .. 20" ∈ lw_tbl := tb_2 _ (List.mem_of_getElem? (i := 222) rfl)
theorem cv_C_187 : ct_cV "CommandTree" 187 m_C_isPassed 1 := ⟨tb_2 _ (List.mem_of_getElem? (i := 223) rfl), tb_2 _ (List.mem_of_getElem? (i := 225) rfl), List.mem_append_left _ (List.mem_of_getElem? (i := 18) rfl), ⟨by decide +kernel, by decide +kernel, by decide +kernel⟩, in_C_isPassed, by decide +kernel, by decide⟩
theorem cv_C_209 : ct_cV "CommandTree" 209 m_C_countOpenBelow 1 := ⟨tb_2 _ (List.mem_of_getElem? (i := 227) rfl), tb_2 _ (List.mem_of_getElem? (i := 229) rfl), List.mem_append_left _ (List.mem_of_getElem? (i := 19) rfl), ⟨by decide +kernel, by decide +kernel, by decide +kernel⟩, in_C_countOpenBelow, by decide +kernel, by decide⟩
theorem cs_C_205 : ct_cS "CommandTree" 205 m_C_count 3 := ⟨tb_2 _ (List.mem_of_getElem? (i := 231) rfl), tb_2 _ (List.mem_of_getElem? (i := 232) rfl), tb_1 _ (List.mem_of_getElem? (i := 1) rfl), ⟨by decide +kernel, by decide +kernel, by decide +kernel⟩, in_C_count, by decide +kernel, by decide⟩
theorem fl_C_9 : ct_fl "CommandTree" 9 2 1 := ⟨_, _, _, rfl, by decide, tb_1 _ (List.mem_of_getElem? (i := 79) rfl)⟩
theorem cv_L_62 : ct_cV "CommandTreeLaw" 62 m_C_tick 1 := ⟨tb_2 _ (List.mem_of_getElem? (i := 237) rfl), tb_2 _ (List.mem_of_getElem? (i := 238) rfl), tb_2 _ (List.mem_of_getElem? (i := 239) rfl), ⟨by decide +kernel, by decide +kernel, by decide +kernel⟩, in_C_tick, by decide +kernel, by decide⟩
theorem sr_C_190 : Cond.stringRef "CommandTree" 190 "not 1 .. 5000 seconds, or beyond 99999" ∈ lw_tbl := tb_3 _ (List.mem_of_getElem? (i := 1) rfl)
theorem fp_C_98 : ct_fp "CommandTree" 98 2 0 (.int) false := ⟨_, _, _, rfl, by decide, tb_1 _ (List.mem_of_getElem? (i := 78) rfl), rfl, by decide +kernel, rfl⟩
theorem cv_C_192 : ct_cV "CommandTree" 192 m_T_countNewlyOverdue 2 := ⟨tb_3 _ (List.mem_of_getElem? (i := 2) rfl), tb_3 _ (List.mem_of_getElem? (i := 3) rfl), tb_3 _ (List.mem_of_getElem? (i := 4) rfl), ⟨by decide +kernel, by decide +kernel, by decide +kernel⟩, in_T_countNewlyOverdue, by decide +kernel, by decide⟩
theorem cv_T_42 : ct_cV "CommandTree$TaskList" 42 m_T_stateOf 2 := ⟨tb_3 _ (List.mem_of_getElem? (i := 6) rfl), tb_3 _ (List.mem_of_getElem? (i := 7) rfl), tb_3 _ (List.mem_of_getElem? (i := 8) rfl), ⟨by decide +kernel, by decide +kernel, by decide +kernel⟩, in_T_stateOf, by decide +kernel, by decide⟩
theorem cv_L_65 : ct_cV "CommandTreeLaw" 65 m_C_led 2 := ⟨tb_3 _ (List.mem_of_getElem? (i := 13) rfl), tb_3 _ (List.mem_of_getElem? (i := 14) rfl), tb_3 _ (List.mem_of_getElem? (i := 15) rfl), ⟨by decide +kernel, by decide +kernel, by decide +kernel⟩, in_C_led, by decide +kernel, by decide⟩
theorem sr_C_195 : Cond.stringRef "CommandTree" 195 "the second is below 0, or to come" ∈ lw_tbl := tb_3 _ (List.mem_of_getElem? (i := 17) rfl)
theorem cv_C_197 : ct_cV "CommandTree" 197 m_R_reachBackTo 1 := ⟨tb_3 _ (List.mem_of_getElem? (i := 18) rfl), tb_3 _ (List.mem_of_getElem? (i := 19) rfl), tb_3 _ (List.mem_of_getElem? (i := 20) rfl), ⟨by decide +kernel, by decide +kernel, by decide +kernel⟩, in_R_reachBackTo, by decide +kernel, by decide⟩
theorem sr_C_200 : Cond.stringRef "CommandTree" 200 "the rows of that second are not kept any more" ∈ lw_tbl := tb_3 _ (List.mem_of_getElem? (i := 22) rfl)
theorem cv_C_202 : ct_cV "CommandTree" 202 m_R_leaderBehind 2 := ⟨tb_3 _ (List.mem_of_getElem? (i := 23) rfl), tb_3 _ (List.mem_of_getElem? (i := 24) rfl), tb_3 _ (List.mem_of_getElem? (i := 25) rfl), ⟨by decide +kernel, by decide +kernel, by decide +kernel⟩, in_R_leaderBehind, by decide +kernel, by decide⟩
theorem fl_R_44 : ct_fl "CommandTree$LeaderRows" 44 0 6 := ⟨_, _, _, rfl, by decide, tb_1 _ (List.mem_of_getElem? (i := 62) rfl)⟩
theorem cv_L_68 : ct_cV "CommandTreeLaw" 68 m_C_sectorAt 2 := ⟨tb_3 _ (List.mem_of_getElem? (i := 30) rfl), tb_3 _ (List.mem_of_getElem? (i := 31) rfl), tb_3 _ (List.mem_of_getElem? (i := 32) rfl), ⟨by decide +kernel, by decide +kernel, by decide +kernel⟩, in_C_sectorAt, by decide +kernel, by decide⟩
theorem sr_C_214 : Cond.stringRef "CommandTree" 214 "no such what" ∈ lw_tbl := tb_3 _ (List.mem_of_getElem? (i := 34) rfl)
theorem cv_L_71 : ct_cV "CommandTreeLaw" 71 m_C_personAt 2 := ⟨tb_3 _ (List.mem_of_getElem? (i := 38) rfl), tb_3 _ (List.mem_of_getElem? (i := 39) rfl), tb_3 _ (List.mem_of_getElem? (i := 40) rfl), ⟨by decide +kernel, by decide +kernel, by decide +kernel⟩, in_C_personAt, by decide +kernel, by decide⟩
theorem cv_L_74 : ct_cV "CommandTreeLaw" 74 m_C_unitAt 1 := ⟨tb_3 _ (List.mem_of_getElem? (i := 45) rfl), tb_3 _ (List.mem_of_getElem? (i := 46) rfl), tb_3 _ (List.mem_of_getElem? (i := 47) rfl), ⟨by decide +kernel, by decide +kernel, by decide +kernel⟩, in_C_unitAt, by decide +kernel, by decide⟩
theorem cv_L_77 : ct_cV "CommandTreeLaw" 77 m_C_taskAt 2 := ⟨tb_3 _ (List.mem_of_getElem? (i := 52) rfl), tb_3 _ (List.mem_of_getElem? (i := 53) rfl), tb_3 _ (List.mem_of_getElem? (i := 54) rfl), ⟨by decide +kernel, by decide +kernel, by decide +kernel⟩, in_C_taskAt, by decide +kernel, by decide⟩
theorem cv_C_217 : ct_cV "CommandTree" 217 m_T_sectorOf 1 := ⟨tb_3 _ (List.mem_of_getElem? (i := 56) rfl), tb_3 _ (List.mem_of_getElem? (i := 57) rfl), tb_3 _ (List.mem_of_getElem? (i := 58) rfl), ⟨by decide +kernel, by decide +kernel, by decide +kernel⟩, in_T_sectorOf, by decide +kernel, by decide⟩
theorem cv_C_220 : ct_cV "CommandTree" 220 m_T_stateOf 2 := ⟨tb_3 _ (List.mem_of_getElem? (i := 60) rfl), tb_3 _ (List.mem_of_getElem? (i := 7) rfl), tb_3 _ (List.mem_of_getElem? (i := 8) rfl), ⟨by decide +kernel, by decide +kernel, by decide +kernel⟩, in_T_stateOf, by decide +kernel, by decide⟩
theorem cv_C_223 : ct_cV "CommandTree" 223 m_T_answeredAt 1 := ⟨tb_3 _ (List.mem_of_getElem? (i := 61) rfl), tb_3 _ (List.mem_of_getElem? (i := 62) rfl), tb_3 _ (List.mem_of_getElem? (i := 63) rfl), ⟨by decide +kernel, by decide +kernel, by decide +kernel⟩, in_T_answeredAt, by decide +kernel, by decide⟩
theorem cv_L_80 : ct_cV "CommandTreeLaw" 80 m_C_passed 1 := ⟨tb_3 _ (List.mem_of_getElem? (i := 68) rfl), tb_3 _ (List.mem_of_getElem? (i := 69) rfl), tb_3 _ (List.mem_of_getElem? (i := 70) rfl), ⟨by decide +kernel, by decide +kernel, by decide +kernel⟩, in_C_passed, by decide +kernel, by decide⟩
theorem sr_C_226 : Cond.stringRef "CommandTree" 226 "i is below 0" ∈ lw_tbl := tb_3 _ (List.mem_of_getElem? (i := 72) rfl)
theorem oi_M_1 : Cond.methodLink "CommandTreeModel" 1 objectInit ∈ lw_tbl := tb_3 _ (List.mem_of_getElem? (i := 78) rfl)
theorem fp_M_7 : ct_fp "CommandTreeModel" 7 3 3 (.array .int) true := ⟨_, _, _, rfl, by decide, tb_3 _ (List.mem_of_getElem? (i := 82) rfl), rfl, by decide +kernel, rfl⟩
theorem fp_M_13 : ct_fp "CommandTreeModel" 13 3 4 (.array .int) true := ⟨_, _, _, rfl, by decide, tb_3 _ (List.mem_of_getElem? (i := 83) rfl), rfl, by decide +kernel, rfl⟩
theorem fp_M_16 : ct_fp "CommandTreeModel" 16 3 5 (.array .int) true := ⟨_, _, _, rfl, by decide, tb_3 _ (List.mem_of_getElem? (i := 84) rfl), rfl, by decide +kernel, rfl⟩
theorem fp_M_19 : ct_fp "CommandTreeModel" 19 3 7 (.array .int) true := ⟨_, _, _, rfl, by decide, tb_3 _ (List.mem_of_getElem? (i := 86) rfl), rfl, by decide +kernel, rfl⟩
theorem fp_M_22 : ct_fp "CommandTreeModel" 22 3 8 (.int) false := ⟨_, _, _, rfl, by decide, tb_3 _ (List.mem_of_getElem? (i := 87) rfl), rfl, by decide +kernel, rfl⟩
theorem fp_M_26 : ct_fp "CommandTreeModel" 26 3 9 (.array .boolean) true := ⟨_, _, _, rfl, by decide, tb_3 _ (List.mem_of_getElem? (i := 88) rfl), rfl, by decide +kernel, rfl⟩
theorem fp_M_30 : ct_fp "CommandTreeModel" 30 3 10 (.array .int) true := ⟨_, _, _, rfl, by decide, tb_3 _ (List.mem_of_getElem? (i := 89) rfl), rfl, by decide +kernel, rfl⟩
theorem fp_M_33 : ct_fp "CommandTreeModel" 33 3 11 (.array .int) true := ⟨_, _, _, rfl, by decide, tb_3 _ (List.mem_of_getElem? (i := 90) rfl), rfl, by decide +kernel, rfl⟩
theorem fp_M_36 : ct_fp "CommandTreeModel" 36 3 12 (.array .int) true := ⟨_, _, _, rfl, by decide, tb_3 _ (List.mem_of_getElem? (i := 91) rfl), rfl, by decide +kernel, rfl⟩
theorem fp_M_39 : ct_fp "CommandTreeModel" 39 3 13 (.int) false := ⟨_, _, _, rfl, by decide, tb_3 _ (List.mem_of_getElem? (i := 92) rfl), rfl, by decide +kernel, rfl⟩
theorem fp_M_42 : ct_fp "CommandTreeModel" 42 3 15 (.array .int) true := ⟨_, _, _, rfl, by decide, tb_3 _ (List.mem_of_getElem? (i := 94) rfl), rfl, by decide +kernel, rfl⟩
theorem fp_M_45 : ct_fp "CommandTreeModel" 45 3 16 (.array .int) true := ⟨_, _, _, rfl, by decide, tb_3 _ (List.mem_of_getElem? (i := 95) rfl), rfl, by decide +kernel, rfl⟩
theorem fp_M_48 : ct_fp "CommandTreeModel" 48 3 17 (.array .int) true := ⟨_, _, _, rfl, by decide, tb_3 _ (List.mem_of_getElem? (i := 96) rfl), rfl, by decide +kernel, rfl⟩
theorem fp_M_51 : ct_fp "CommandTreeModel" 51 3 18 (.array .int) true := ⟨_, _, _, rfl, by decide, tb_3 _ (List.mem_of_getElem? (i := 97) rfl), rfl, by decide +kernel, rfl⟩
theorem fp_M_54 : ct_fp "CommandTreeModel" 54 3 20 (.array .int) true := ⟨_, _, _, rfl, by decide, tb_3 _ (List.mem_of_getElem? (i := 99) rfl), rfl, by decide +kernel, rfl⟩
theorem fp_M_57 : ct_fp "CommandTreeModel" 57 3 21 (.array .int) true := ⟨_, _, _, rfl, by decide, tb_3 _ (List.mem_of_getElem? (i := 100) rfl), rfl, by decide +kernel, rfl⟩
theorem fp_M_60 : ct_fp "CommandTreeModel" 60 3 22 (.array .int) true := ⟨_, _, _, rfl, by decide, tb_3 _ (List.mem_of_getElem? (i := 101) rfl), rfl, by decide +kernel, rfl⟩
theorem fp_M_63 : ct_fp "CommandTreeModel" 63 3 23 (.array .int) true := ⟨_, _, _, rfl, by decide, tb_3 _ (List.mem_of_getElem? (i := 102) rfl), rfl, by decide +kernel, rfl⟩
theorem fp_M_66 : ct_fp "CommandTreeModel" 66 3 24 (.int) false := ⟨_, _, _, rfl, by decide, tb_3 _ (List.mem_of_getElem? (i := 103) rfl), rfl, by decide +kernel, rfl⟩
theorem fl_M_30 : ct_fl "CommandTreeModel" 30 3 10 := ⟨_, _, _, rfl, by decide, tb_3 _ (List.mem_of_getElem? (i := 89) rfl)⟩
theorem fl_M_33 : ct_fl "CommandTreeModel" 33 3 11 := ⟨_, _, _, rfl, by decide, tb_3 _ (List.mem_of_getElem? (i := 90) rfl)⟩
theorem fl_M_36 : ct_fl "CommandTreeModel" 36 3 12 := ⟨_, _, _, rfl, by decide, tb_3 _ (List.mem_of_getElem? (i := 91) rfl)⟩
theorem fl_M_63 : ct_fl "CommandTreeModel" 63 3 23 := ⟨_, _, _, rfl, by decide, tb_3 _ (List.mem_of_getElem? (i := 102) rfl)⟩
theorem fl_M_69 : ct_fl "CommandTreeModel" 69 3 0 := ⟨_, _, _, rfl, by decide, tb_3 _ (List.mem_of_getElem? (i := 79) rfl)⟩
theorem cs_M_75 : ct_cS "CommandTreeModel" 75 m_M_within 3 := ⟨tb_3 _ (List.mem_of_getElem? (i := 163) rfl), tb_3 _ (List.mem_of_getElem? (i := 164) rfl), tb_1 _ (List.mem_of_getElem? (i := 5) rfl), ⟨by decide +kernel, by decide +kernel, by decide +kernel⟩, in_M_within, by decide +kernel, by decide⟩
theorem fl_M_72 : ct_fl "CommandTreeModel" 72 3 2 := ⟨_, _, _, rfl, by decide, tb_3 _ (List.mem_of_getElem? (i := 81) rfl)⟩
theorem cv_M_106 : ct_cV "CommandTreeModel" 106 m_M_goes 5 := ⟨tb_3 _ (List.mem_of_getElem? (i := 166) rfl), tb_3 _ (List.mem_of_getElem? (i := 168) rfl), List.mem_append_left _ (List.mem_of_getElem? (i := 20) rfl), ⟨by decide +kernel, by decide +kernel, by decide +kernel⟩, in_M_goes, by decide +kernel, by decide⟩
theorem fl_M_7 : ct_fl "CommandTreeModel" 7 3 3 := ⟨_, _, _, rfl, by decide, tb_3 _ (List.mem_of_getElem? (i := 82) rfl)⟩
theorem fl_M_13 : ct_fl "CommandTreeModel" 13 3 4 := ⟨_, _, _, rfl, by decide, tb_3 _ (List.mem_of_getElem? (i := 83) rfl)⟩
theorem fl_M_16 : ct_fl "CommandTreeModel" 16 3 5 := ⟨_, _, _, rfl, by decide, tb_3 _ (List.mem_of_getElem? (i := 84) rfl)⟩
theorem fp_M_72 : ct_fp "CommandTreeModel" 72 3 2 (.int) false := ⟨_, _, _, rfl, by decide, tb_3 _ (List.mem_of_getElem? (i := 81) rfl), rfl, by decide +kernel, rfl⟩
theorem fp_M_69 : ct_fp "CommandTreeModel" 69 3 0 (.int) false := ⟨_, _, _, rfl, by decide, tb_3 _ (List.mem_of_getElem? (i := 79) rfl), rfl, by decide +kernel, rfl⟩
theorem fl_M_79 : ct_fl "CommandTreeModel" 79 3 6 := ⟨_, _, _, rfl, by decide, tb_3 _ (List.mem_of_getElem? (i := 85) rfl)⟩
theorem fl_M_19 : ct_fl "CommandTreeModel" 19 3 7 := ⟨_, _, _, rfl, by decide, tb_3 _ (List.mem_of_getElem? (i := 86) rfl)⟩
theorem fp_M_79 : ct_fp "CommandTreeModel" 79 3 6 (.int) false := ⟨_, _, _, rfl, by decide, tb_3 _ (List.mem_of_getElem? (i := 85) rfl), rfl, by decide +kernel, rfl⟩
theorem cv_M_110 : ct_cV "CommandTreeModel" 110 m_M_isPerson 1 := ⟨tb_3 _ (List.mem_of_getElem? (i := 178) rfl), tb_3 _ (List.mem_of_getElem? (i := 180) rfl), List.mem_append_left _ (List.mem_of_getElem? (i := 21) rfl), ⟨by decide +kernel, by decide +kernel, by decide +kernel⟩, in_M_isPerson, by decide +kernel, by decide⟩
theorem fl_M_89 : ct_fl "CommandTreeModel" 89 3 1 := ⟨_, _, _, rfl, by decide, tb_3 _ (List.mem_of_getElem? (i := 80) rfl)⟩
theorem cv_M_113 : ct_cV "CommandTreeModel" 113 m_M_moves 2 := ⟨tb_3 _ (List.mem_of_getElem? (i := 182) rfl), tb_3 _ (List.mem_of_getElem? (i := 184) rfl), List.mem_append_left _ (List.mem_of_getElem? (i := 22) rfl), ⟨by decide +kernel, by decide +kernel, by decide +kernel⟩, in_M_moves, by decide +kernel, by decide⟩
theorem cv_M_96 : ct_cV "CommandTreeModel" 96 m_M_leads 1 := ⟨tb_3 _ (List.mem_of_getElem? (i := 186) rfl), tb_3 _ (List.mem_of_getElem? (i := 188) rfl), List.mem_append_left _ (List.mem_of_getElem? (i := 23) rfl), ⟨by decide +kernel, by decide +kernel, by decide +kernel⟩, in_M_leads, by decide +kernel, by decide⟩
theorem cv_M_100 : ct_cV "CommandTreeModel" 100 m_M_next 1 := ⟨tb_3 _ (List.mem_of_getElem? (i := 190) rfl), tb_3 _ (List.mem_of_getElem? (i := 192) rfl), List.mem_append_left _ (List.mem_of_getElem? (i := 24) rfl), ⟨by decide +kernel, by decide +kernel, by decide +kernel⟩, in_M_next, by decide +kernel, by decide⟩
theorem cv_M_103 : ct_cV "CommandTreeModel" 103 m_M_lead 2 := ⟨tb_3 _ (List.mem_of_getElem? (i := 194) rfl), tb_3 _ (List.mem_of_getElem? (i := 196) rfl), List.mem_append_left _ (List.mem_of_getElem? (i := 25) rfl), ⟨by decide +kernel, by decide +kernel, by decide +kernel⟩, in_M_lead, by decide +kernel, by decide⟩
theorem fl_M_22 : ct_fl "CommandTreeModel" 22 3 8 := ⟨_, _, _, rfl, by decide, tb_3 _ (List.mem_of_getElem? (i := 87) rfl)⟩
theorem cv_M_92 : ct_cV "CommandTreeModel" 92 m_M_row 2 := ⟨tb_3 _ (List.mem_of_getElem? (i := 198) rfl), tb_3 _ (List.mem_of_getElem? (i := 200) rfl), List.mem_append_left _ (List.mem_of_getElem? (i := 26) rfl), ⟨by decide +kernel, by decide +kernel, by decide +kernel⟩, in_M_row, by decide +kernel, by decide⟩
theorem fl_M_86 : ct_fl "CommandTreeModel" 86 3 19 := ⟨_, _, _, rfl, by decide, tb_3 _ (List.mem_of_getElem? (i := 98) rfl)⟩
theorem fl_M_54 : ct_fl "CommandTreeModel" 54 3 20 := ⟨_, _, _, rfl, by decide, tb_3 _ (List.mem_of_getElem? (i := 99) rfl)⟩
theorem fl_M_57 : ct_fl "CommandTreeModel" 57 3 21 := ⟨_, _, _, rfl, by decide, tb_3 _ (List.mem_of_getElem? (i := 100) rfl)⟩
theorem fl_M_60 : ct_fl "CommandTreeModel" 60 3 22 := ⟨_, _, _, rfl, by decide, tb_3 _ (List.mem_of_getElem? (i := 101) rfl)⟩
theorem fp_M_86 : ct_fp "CommandTreeModel" 86 3 19 (.int) false := ⟨_, _, _, rfl, by decide, tb_3 _ (List.mem_of_getElem? (i := 98) rfl), rfl, by decide +kernel, rfl⟩
theorem cv_M_82 : ct_cV "CommandTreeModel" 82 m_M_isSector 1 := ⟨tb_3 _ (List.mem_of_getElem? (i := 210) rfl), tb_3 _ (List.mem_of_getElem? (i := 212) rfl), List.mem_append_left _ (List.mem_of_getElem? (i := 27) rfl), ⟨by decide +kernel, by decide +kernel, by decide +kernel⟩, in_M_isSector, by decide +kernel, by decide⟩
theorem cv_M_116 : ct_cV "CommandTreeModel" 116 m_M_isOpen 1 := ⟨tb_3 _ (List.mem_of_getElem? (i := 214) rfl), tb_3 _ (List.mem_of_getElem? (i := 216) rfl), List.mem_append_left _ (List.mem_of_getElem? (i := 28) rfl), ⟨by decide +kernel, by decide +kernel, by decide +kernel⟩, in_M_isOpen, by decide +kernel, by decide⟩
theorem fl_M_26 : ct_fl "CommandTreeModel" 26 3 9 := ⟨_, _, _, rfl, by decide, tb_3 _ (List.mem_of_getElem? (i := 88) rfl)⟩
theorem cv_M_119 : ct_cV "CommandTreeModel" 119 m_M_isUnit 1 := ⟨tb_3 _ (List.mem_of_getElem? (i := 222) rfl), tb_3 _ (List.mem_of_getElem? (i := 224) rfl), List.mem_append_left _ (List.mem_of_getElem? (i := 29) rfl), ⟨by decide +kernel, by decide +kernel, by decide +kernel⟩, in_M_isUnit, by decide +kernel, by decide⟩
theorem cv_M_122 : ct_cV "CommandTreeModel" 122 m_M_isBelow 2 := ⟨tb_3 _ (List.mem_of_getElem? (i := 234) rfl), tb_3 _ (List.mem_of_getElem? (i := 236) rfl), List.mem_append_left _ (List.mem_of_getElem? (i := 30) rfl), ⟨by decide +kernel, by decide +kernel, by decide +kernel⟩, in_M_isBelow, by decide +kernel, by decide⟩
theorem fl_M_126 : ct_fl "CommandTreeModel" 126 3 14 := ⟨_, _, _, rfl, by decide, tb_3 _ (List.mem_of_getElem? (i := 93) rfl)⟩
theorem fl_M_42 : ct_fl "CommandTreeModel" 42 3 15 := ⟨_, _, _, rfl, by decide, tb_3 _ (List.mem_of_getElem? (i := 94) rfl)⟩
theorem fl_M_48 : ct_fl "CommandTreeModel" 48 3 17 := ⟨_, _, _, rfl, by decide, tb_3 _ (List.mem_of_getElem? (i := 96) rfl)⟩
theorem cn_M_129 : Cond.constant "CommandTreeModel" 129 99999 ∈ lw_tbl := tb_4 _ (List.mem_of_getElem? (i := 10) rfl)
theorem fl_M_45 : ct_fl "CommandTreeModel" 45 3 16 := ⟨_, _, _, rfl, by decide, tb_3 _ (List.mem_of_getElem? (i := 95) rfl)⟩
theorem fl_M_51 : ct_fl "CommandTreeModel" 51 3 18 := ⟨_, _, _, rfl, by decide, tb_3 _ (List.mem_of_getElem? (i := 97) rfl)⟩
theorem fp_M_126 : ct_fp "CommandTreeModel" 126 3 14 (.int) false := ⟨_, _, _, rfl, by decide, tb_3 _ (List.mem_of_getElem? (i := 93) rfl), rfl, by decide +kernel, rfl⟩
theorem cv_M_136 : ct_cV "CommandTreeModel" 136 m_M_isPassed 1 := ⟨tb_4 _ (List.mem_of_getElem? (i := 19) rfl), tb_4 _ (List.mem_of_getElem? (i := 21) rfl), List.mem_append_left _ (List.mem_of_getElem? (i := 31) rfl), ⟨by decide +kernel, by decide +kernel, by decide +kernel⟩, in_M_isPassed, by decide +kernel, by decide⟩
theorem cv_M_130 : ct_cV "CommandTreeModel" 130 m_M_below 1 := ⟨tb_4 _ (List.mem_of_getElem? (i := 23) rfl), tb_4 _ (List.mem_of_getElem? (i := 25) rfl), List.mem_append_left _ (List.mem_of_getElem? (i := 32) rfl), ⟨by decide +kernel, by decide +kernel, by decide +kernel⟩, in_M_below, by decide +kernel, by decide⟩
theorem cv_M_133 : ct_cV "CommandTreeModel" 133 m_M_unitsIn 1 := ⟨tb_4 _ (List.mem_of_getElem? (i := 27) rfl), tb_4 _ (List.mem_of_getElem? (i := 29) rfl), List.mem_append_left _ (List.mem_of_getElem? (i := 33) rfl), ⟨by decide +kernel, by decide +kernel, by decide +kernel⟩, in_M_unitsIn, by decide +kernel, by decide⟩
theorem fl_M_39 : ct_fl "CommandTreeModel" 39 3 13 := ⟨_, _, _, rfl, by decide, tb_3 _ (List.mem_of_getElem? (i := 92) rfl)⟩
theorem fp_M_89 : ct_fp "CommandTreeModel" 89 3 1 (.int) false := ⟨_, _, _, rfl, by decide, tb_3 _ (List.mem_of_getElem? (i := 80) rfl), rfl, by decide +kernel, rfl⟩
theorem fl_M_66 : ct_fl "CommandTreeModel" 66 3 24 := ⟨_, _, _, rfl, by decide, tb_3 _ (List.mem_of_getElem? (i := 103) rfl)⟩
theorem cl_L_8 : Cond.classLink "CommandTreeLaw" 8 "CommandTree" ∈ lw_tbl := tb_1 _ (List.mem_of_getElem? (i := 13) rfl)
theorem ci_L_83 : ct_cI "CommandTreeLaw" 83 m_C_init 0 := ⟨tb_1 _ (List.mem_of_getElem? (i := 15) rfl), tb_1 _ (List.mem_of_getElem? (i := 16) rfl), tb_1 _ (List.mem_of_getElem? (i := 17) rfl), ⟨by decide +kernel, by decide +kernel, by decide +kernel⟩, ⟨rfl, rfl, rfl⟩, by decide +kernel, by decide⟩
theorem cl_L_84 : Cond.classLink "CommandTreeLaw" 84 "CommandTreeModel" ∈ lw_tbl := tb_3 _ (List.mem_of_getElem? (i := 73) rfl)
theorem ci_L_86 : ct_cI "CommandTreeLaw" 86 m_M_init 0 := ⟨tb_3 _ (List.mem_of_getElem? (i := 75) rfl), tb_3 _ (List.mem_of_getElem? (i := 76) rfl), tb_3 _ (List.mem_of_getElem? (i := 77) rfl), ⟨by decide +kernel, by decide +kernel, by decide +kernel⟩, ⟨rfl, rfl, rfl⟩, by decide +kernel, by decide⟩
theorem cs_L_87 : ct_cS "CommandTreeLaw" 87 m_L_person 3 := ⟨tb_1 _ (List.mem_of_getElem? (i := 131) rfl), tb_1 _ (List.mem_of_getElem? (i := 132) rfl), tb_1 _ (List.mem_of_getElem? (i := 0) rfl), ⟨by decide +kernel, by decide +kernel, by decide +kernel⟩, in_L_person, by decide +kernel, by decide⟩
theorem cv_L_92 : ct_cV "CommandTreeLaw" 92 m_M_person 1 := ⟨tb_3 _ (List.mem_of_getElem? (i := 159) rfl), tb_3 _ (List.mem_of_getElem? (i := 160) rfl), tb_3 _ (List.mem_of_getElem? (i := 161) rfl), ⟨by decide +kernel, by decide +kernel, by decide +kernel⟩, in_M_person, by decide +kernel, by decide⟩
theorem cv_L_93 : ct_cV "CommandTreeLaw" 93 m_M_thrown 0 := ⟨tb_3 _ (List.mem_of_getElem? (i := 155) rfl), tb_3 _ (List.mem_of_getElem? (i := 156) rfl), tb_3 _ (List.mem_of_getElem? (i := 157) rfl), ⟨by decide +kernel, by decide +kernel, by decide +kernel⟩, in_M_thrown, by decide +kernel, by decide⟩
theorem cs_L_96 : ct_cS "CommandTreeLaw" 96 m_L_unit 2 := ⟨tb_1 _ (List.mem_of_getElem? (i := 225) rfl), tb_1 _ (List.mem_of_getElem? (i := 226) rfl), tb_1 _ (List.mem_of_getElem? (i := 0) rfl), ⟨by decide +kernel, by decide +kernel, by decide +kernel⟩, in_L_unit, by decide +kernel, by decide⟩
theorem cv_L_99 : ct_cV "CommandTreeLaw" 99 m_M_unit 0 := ⟨tb_3 _ (List.mem_of_getElem? (i := 170) rfl), tb_3 _ (List.mem_of_getElem? (i := 171) rfl), tb_3 _ (List.mem_of_getElem? (i := 172) rfl), ⟨by decide +kernel, by decide +kernel, by decide +kernel⟩, in_M_unit, by decide +kernel, by decide⟩
theorem cs_L_100 : ct_cS "CommandTreeLaw" 100 m_L_arrive 2 := ⟨tb_1 _ (List.mem_of_getElem? (i := 233) rfl), tb_1 _ (List.mem_of_getElem? (i := 234) rfl), tb_1 _ (List.mem_of_getElem? (i := 0) rfl), ⟨by decide +kernel, by decide +kernel, by decide +kernel⟩, in_L_arrive, by decide +kernel, by decide⟩
theorem cv_L_103 : ct_cV "CommandTreeLaw" 103 m_M_arrive 1 := ⟨tb_3 _ (List.mem_of_getElem? (i := 174) rfl), tb_3 _ (List.mem_of_getElem? (i := 175) rfl), tb_3 _ (List.mem_of_getElem? (i := 176) rfl), ⟨by decide +kernel, by decide +kernel, by decide +kernel⟩, in_M_arrive, by decide +kernel, by decide⟩
theorem cs_L_104 : ct_cS "CommandTreeLaw" 104 m_L_leave 2 := ⟨tb_2 _ (List.mem_of_getElem? (i := 81) rfl), tb_2 _ (List.mem_of_getElem? (i := 82) rfl), tb_1 _ (List.mem_of_getElem? (i := 0) rfl), ⟨by decide +kernel, by decide +kernel, by decide +kernel⟩, in_L_leave, by decide +kernel, by decide⟩
theorem cv_L_106 : ct_cV "CommandTreeLaw" 106 m_M_leave 1 := ⟨tb_3 _ (List.mem_of_getElem? (i := 202) rfl), tb_3 _ (List.mem_of_getElem? (i := 203) rfl), tb_3 _ (List.mem_of_getElem? (i := 204) rfl), ⟨by decide +kernel, by decide +kernel, by decide +kernel⟩, in_M_leave, by decide +kernel, by decide⟩
theorem cs_L_107 : ct_cS "CommandTreeLaw" 107 m_L_go 3 := ⟨tb_2 _ (List.mem_of_getElem? (i := 93) rfl), tb_2 _ (List.mem_of_getElem? (i := 94) rfl), tb_1 _ (List.mem_of_getElem? (i := 0) rfl), ⟨by decide +kernel, by decide +kernel, by decide +kernel⟩, in_L_go, by decide +kernel, by decide⟩
theorem cv_L_110 : ct_cV "CommandTreeLaw" 110 m_M_go 2 := ⟨tb_3 _ (List.mem_of_getElem? (i := 206) rfl), tb_3 _ (List.mem_of_getElem? (i := 207) rfl), tb_3 _ (List.mem_of_getElem? (i := 208) rfl), ⟨by decide +kernel, by decide +kernel, by decide +kernel⟩, in_M_go, by decide +kernel, by decide⟩
theorem cs_L_111 : ct_cS "CommandTreeLaw" 111 m_L_place 3 := ⟨tb_2 _ (List.mem_of_getElem? (i := 111) rfl), tb_2 _ (List.mem_of_getElem? (i := 112) rfl), tb_1 _ (List.mem_of_getElem? (i := 0) rfl), ⟨by decide +kernel, by decide +kernel, by decide +kernel⟩, in_L_place, by decide +kernel, by decide⟩
theorem cv_L_113 : ct_cV "CommandTreeLaw" 113 m_M_place 2 := ⟨tb_3 _ (List.mem_of_getElem? (i := 218) rfl), tb_3 _ (List.mem_of_getElem? (i := 219) rfl), tb_3 _ (List.mem_of_getElem? (i := 220) rfl), ⟨by decide +kernel, by decide +kernel, by decide +kernel⟩, in_M_place, by decide +kernel, by decide⟩
theorem cs_L_114 : ct_cS "CommandTreeLaw" 114 m_L_split 3 := ⟨tb_2 _ (List.mem_of_getElem? (i := 124) rfl), tb_2 _ (List.mem_of_getElem? (i := 125) rfl), tb_1 _ (List.mem_of_getElem? (i := 0) rfl), ⟨by decide +kernel, by decide +kernel, by decide +kernel⟩, in_L_split, by decide +kernel, by decide⟩
theorem cv_L_116 : ct_cV "CommandTreeLaw" 116 m_M_split 1 := ⟨tb_3 _ (List.mem_of_getElem? (i := 226) rfl), tb_3 _ (List.mem_of_getElem? (i := 227) rfl), tb_3 _ (List.mem_of_getElem? (i := 228) rfl), ⟨by decide +kernel, by decide +kernel, by decide +kernel⟩, in_M_split, by decide +kernel, by decide⟩
theorem cs_L_117 : ct_cS "CommandTreeLaw" 117 m_L_join 3 := ⟨tb_2 _ (List.mem_of_getElem? (i := 132) rfl), tb_2 _ (List.mem_of_getElem? (i := 133) rfl), tb_1 _ (List.mem_of_getElem? (i := 0) rfl), ⟨by decide +kernel, by decide +kernel, by decide +kernel⟩, in_L_join, by decide +kernel, by decide⟩
theorem cv_L_119 : ct_cV "CommandTreeLaw" 119 m_M_join 2 := ⟨tb_3 _ (List.mem_of_getElem? (i := 230) rfl), tb_3 _ (List.mem_of_getElem? (i := 231) rfl), tb_3 _ (List.mem_of_getElem? (i := 232) rfl), ⟨by decide +kernel, by decide +kernel, by decide +kernel⟩, in_M_join, by decide +kernel, by decide⟩
theorem cs_L_120 : ct_cS "CommandTreeLaw" 120 m_L_offer 3 := ⟨tb_2 _ (List.mem_of_getElem? (i := 157) rfl), tb_2 _ (List.mem_of_getElem? (i := 158) rfl), tb_1 _ (List.mem_of_getElem? (i := 0) rfl), ⟨by decide +kernel, by decide +kernel, by decide +kernel⟩, in_L_offer, by decide +kernel, by decide⟩
theorem cv_L_122 : ct_cV "CommandTreeLaw" 122 m_M_offer 2 := ⟨tb_3 _ (List.mem_of_getElem? (i := 238) rfl), tb_3 _ (List.mem_of_getElem? (i := 239) rfl), tb_4 _ (List.mem_of_getElem? (i := 0) rfl), ⟨by decide +kernel, by decide +kernel, by decide +kernel⟩, in_M_offer, by decide +kernel, by decide⟩
theorem cs_L_123 : ct_cS "CommandTreeLaw" 123 m_L_take 3 := ⟨tb_2 _ (List.mem_of_getElem? (i := 166) rfl), tb_2 _ (List.mem_of_getElem? (i := 167) rfl), tb_1 _ (List.mem_of_getElem? (i := 0) rfl), ⟨by decide +kernel, by decide +kernel, by decide +kernel⟩, in_L_take, by decide +kernel, by decide⟩
theorem cv_L_125 : ct_cV "CommandTreeLaw" 125 m_M_take 2 := ⟨tb_4 _ (List.mem_of_getElem? (i := 2) rfl), tb_4 _ (List.mem_of_getElem? (i := 3) rfl), tb_4 _ (List.mem_of_getElem? (i := 4) rfl), ⟨by decide +kernel, by decide +kernel, by decide +kernel⟩, in_M_take, by decide +kernel, by decide⟩
theorem cs_L_126 : ct_cS "CommandTreeLaw" 126 m_L_task 4 := ⟨tb_2 _ (List.mem_of_getElem? (i := 174) rfl), tb_2 _ (List.mem_of_getElem? (i := 175) rfl), tb_1 _ (List.mem_of_getElem? (i := 0) rfl), ⟨by decide +kernel, by decide +kernel, by decide +kernel⟩, in_L_task, by decide +kernel, by decide⟩
theorem cv_L_129 : ct_cV "CommandTreeLaw" 129 m_M_task 2 := ⟨tb_4 _ (List.mem_of_getElem? (i := 6) rfl), tb_4 _ (List.mem_of_getElem? (i := 7) rfl), tb_4 _ (List.mem_of_getElem? (i := 8) rfl), ⟨by decide +kernel, by decide +kernel, by decide +kernel⟩, in_M_task, by decide +kernel, by decide⟩
theorem cs_L_130 : ct_cS "CommandTreeLaw" 130 m_L_answer 3 := ⟨tb_2 _ (List.mem_of_getElem? (i := 193) rfl), tb_2 _ (List.mem_of_getElem? (i := 194) rfl), tb_1 _ (List.mem_of_getElem? (i := 0) rfl), ⟨by decide +kernel, by decide +kernel, by decide +kernel⟩, in_L_answer, by decide +kernel, by decide⟩
theorem cv_L_133 : ct_cV "CommandTreeLaw" 133 m_M_answer 2 := ⟨tb_4 _ (List.mem_of_getElem? (i := 11) rfl), tb_4 _ (List.mem_of_getElem? (i := 12) rfl), tb_4 _ (List.mem_of_getElem? (i := 13) rfl), ⟨by decide +kernel, by decide +kernel, by decide +kernel⟩, in_M_answer, by decide +kernel, by decide⟩
theorem cs_L_134 : ct_cS "CommandTreeLaw" 134 m_L_span 3 := ⟨tb_2 _ (List.mem_of_getElem? (i := 215) rfl), tb_2 _ (List.mem_of_getElem? (i := 216) rfl), tb_1 _ (List.mem_of_getElem? (i := 0) rfl), ⟨by decide +kernel, by decide +kernel, by decide +kernel⟩, in_L_span, by decide +kernel, by decide⟩
theorem cv_L_136 : ct_cV "CommandTreeLaw" 136 m_M_span 1 := ⟨tb_4 _ (List.mem_of_getElem? (i := 15) rfl), tb_4 _ (List.mem_of_getElem? (i := 16) rfl), tb_4 _ (List.mem_of_getElem? (i := 17) rfl), ⟨by decide +kernel, by decide +kernel, by decide +kernel⟩, in_M_span, by decide +kernel, by decide⟩
theorem cs_L_137 : ct_cS "CommandTreeLaw" 137 m_L_tick 3 := ⟨tb_2 _ (List.mem_of_getElem? (i := 234) rfl), tb_2 _ (List.mem_of_getElem? (i := 235) rfl), tb_1 _ (List.mem_of_getElem? (i := 0) rfl), ⟨by decide +kernel, by decide +kernel, by decide +kernel⟩, in_L_tick, by decide +kernel, by decide⟩
theorem cv_L_139 : ct_cV "CommandTreeLaw" 139 m_M_tick 1 := ⟨tb_4 _ (List.mem_of_getElem? (i := 31) rfl), tb_4 _ (List.mem_of_getElem? (i := 32) rfl), tb_4 _ (List.mem_of_getElem? (i := 33) rfl), ⟨by decide +kernel, by decide +kernel, by decide +kernel⟩, in_M_tick, by decide +kernel, by decide⟩
theorem cs_L_140 : ct_cS "CommandTreeLaw" 140 m_L_led 4 := ⟨tb_3 _ (List.mem_of_getElem? (i := 10) rfl), tb_3 _ (List.mem_of_getElem? (i := 11) rfl), tb_1 _ (List.mem_of_getElem? (i := 0) rfl), ⟨by decide +kernel, by decide +kernel, by decide +kernel⟩, in_L_led, by decide +kernel, by decide⟩
theorem cv_L_142 : ct_cV "CommandTreeLaw" 142 m_M_led 2 := ⟨tb_4 _ (List.mem_of_getElem? (i := 35) rfl), tb_4 _ (List.mem_of_getElem? (i := 36) rfl), tb_4 _ (List.mem_of_getElem? (i := 37) rfl), ⟨by decide +kernel, by decide +kernel, by decide +kernel⟩, in_M_led, by decide +kernel, by decide⟩
theorem cs_L_143 : ct_cS "CommandTreeLaw" 143 m_L_sectorAt 4 := ⟨tb_3 _ (List.mem_of_getElem? (i := 27) rfl), tb_3 _ (List.mem_of_getElem? (i := 28) rfl), tb_1 _ (List.mem_of_getElem? (i := 0) rfl), ⟨by decide +kernel, by decide +kernel, by decide +kernel⟩, in_L_sectorAt, by decide +kernel, by decide⟩
theorem cv_L_145 : ct_cV "CommandTreeLaw" 145 m_M_sectorAt 2 := ⟨tb_4 _ (List.mem_of_getElem? (i := 39) rfl), tb_4 _ (List.mem_of_getElem? (i := 40) rfl), tb_4 _ (List.mem_of_getElem? (i := 41) rfl), ⟨by decide +kernel, by decide +kernel, by decide +kernel⟩, in_M_sectorAt, by decide +kernel, by decide⟩
theorem cs_L_146 : ct_cS "CommandTreeLaw" 146 m_L_personAt 4 := ⟨tb_3 _ (List.mem_of_getElem? (i := 35) rfl), tb_3 _ (List.mem_of_getElem? (i := 36) rfl), tb_1 _ (List.mem_of_getElem? (i := 0) rfl), ⟨by decide +kernel, by decide +kernel, by decide +kernel⟩, in_L_personAt, by decide +kernel, by decide⟩
theorem cv_L_148 : ct_cV "CommandTreeLaw" 148 m_M_personAt 2 := ⟨tb_4 _ (List.mem_of_getElem? (i := 43) rfl), tb_4 _ (List.mem_of_getElem? (i := 44) rfl), tb_4 _ (List.mem_of_getElem? (i := 45) rfl), ⟨by decide +kernel, by decide +kernel, by decide +kernel⟩, in_M_personAt, by decide +kernel, by decide⟩
theorem cs_L_149 : ct_cS "CommandTreeLaw" 149 m_L_unitAt 3 := ⟨tb_3 _ (List.mem_of_getElem? (i := 42) rfl), tb_3 _ (List.mem_of_getElem? (i := 43) rfl), tb_1 _ (List.mem_of_getElem? (i := 0) rfl), ⟨by decide +kernel, by decide +kernel, by decide +kernel⟩, in_L_unitAt, by decide +kernel, by decide⟩
theorem cv_L_151 : ct_cV "CommandTreeLaw" 151 m_M_unitAt 1 := ⟨tb_4 _ (List.mem_of_getElem? (i := 47) rfl), tb_4 _ (List.mem_of_getElem? (i := 48) rfl), tb_4 _ (List.mem_of_getElem? (i := 49) rfl), ⟨by decide +kernel, by decide +kernel, by decide +kernel⟩, in_M_unitAt, by decide +kernel, by decide⟩
theorem cs_L_152 : ct_cS "CommandTreeLaw" 152 m_L_taskAt 4 := ⟨tb_3 _ (List.mem_of_getElem? (i := 49) rfl), tb_3 _ (List.mem_of_getElem? (i := 50) rfl), tb_1 _ (List.mem_of_getElem? (i := 0) rfl), ⟨by decide +kernel, by decide +kernel, by decide +kernel⟩, in_L_taskAt, by decide +kernel, by decide⟩
theorem cv_L_154 : ct_cV "CommandTreeLaw" 154 m_M_taskAt 2 := ⟨tb_4 _ (List.mem_of_getElem? (i := 51) rfl), tb_4 _ (List.mem_of_getElem? (i := 52) rfl), tb_4 _ (List.mem_of_getElem? (i := 53) rfl), ⟨by decide +kernel, by decide +kernel, by decide +kernel⟩, in_M_taskAt, by decide +kernel, by decide⟩
theorem cs_L_155 : ct_cS "CommandTreeLaw" 155 m_L_passed 3 := ⟨tb_3 _ (List.mem_of_getElem? (i := 65) rfl), tb_3 _ (List.mem_of_getElem? (i := 66) rfl), tb_1 _ (List.mem_of_getElem? (i := 0) rfl), ⟨by decide +kernel, by decide +kernel, by decide +kernel⟩, in_L_passed, by decide +kernel, by decide⟩
theorem cv_L_157 : ct_cV "CommandTreeLaw" 157 m_M_passed 1 := ⟨tb_4 _ (List.mem_of_getElem? (i := 55) rfl), tb_4 _ (List.mem_of_getElem? (i := 56) rfl), tb_4 _ (List.mem_of_getElem? (i := 57) rfl), ⟨by decide +kernel, by decide +kernel, by decide +kernel⟩, in_M_passed, by decide +kernel, by decide⟩
theorem cv_L_158 : ct_cV "CommandTreeLaw" 158 m_C_clock 0 := ⟨tb_1 _ (List.mem_of_getElem? (i := 127) rfl), tb_1 _ (List.mem_of_getElem? (i := 128) rfl), tb_1 _ (List.mem_of_getElem? (i := 129) rfl), ⟨by decide +kernel, by decide +kernel, by decide +kernel⟩, in_C_clock, by decide +kernel, by decide⟩
theorem cv_L_161 : ct_cV "CommandTreeLaw" 161 m_M_clock 0 := ⟨tb_4 _ (List.mem_of_getElem? (i := 59) rfl), tb_4 _ (List.mem_of_getElem? (i := 60) rfl), tb_4 _ (List.mem_of_getElem? (i := 61) rfl), ⟨by decide +kernel, by decide +kernel, by decide +kernel⟩, in_M_clock, by decide +kernel, by decide⟩
theorem ini_CommandTreeLaw : Cond.initialized "CommandTreeLaw" ∈ lw_tbl := tb_1 _ (List.mem_of_getElem? (i := 0) rfl)
theorem ini_CommandTree : Cond.initialized "CommandTree" ∈ lw_tbl := tb_1 _ (List.mem_of_getElem? (i := 1) rfl)
theorem ini_java_util_Arrays : Cond.initialized "java/util/Arrays" ∈ lw_tbl := tb_1 _ (List.mem_of_getElem? (i := 2) rfl)
theorem ini_CommandTree_TaskList : Cond.initialized "CommandTree$TaskList" ∈ lw_tbl := tb_1 _ (List.mem_of_getElem? (i := 3) rfl)
theorem ini_CommandTree_LeaderRows : Cond.initialized "CommandTree$LeaderRows" ∈ lw_tbl := tb_1 _ (List.mem_of_getElem? (i := 4) rfl)
theorem ini_CommandTreeModel : Cond.initialized "CommandTreeModel" ∈ lw_tbl := tb_1 _ (List.mem_of_getElem? (i := 5) rfl)
theorem ini_java_lang_Throwable : Cond.initialized "java/lang/Throwable" ∈ lw_tbl := tb_1 _ (List.mem_of_getElem? (i := 6) rfl)
theorem ini_java_lang_Exception : Cond.initialized "java/lang/Exception" ∈ lw_tbl := tb_1 _ (List.mem_of_getElem? (i := 7) rfl)
theorem ini_java_lang_RuntimeException : Cond.initialized "java/lang/RuntimeException" ∈ lw_tbl := tb_1 _ (List.mem_of_getElem? (i := 8) rfl)
theorem ini_java_lang_IndexOutOfBoundsException : Cond.initialized "java/lang/IndexOutOfBoundsException" ∈ lw_tbl := tb_1 _ (List.mem_of_getElem? (i := 9) rfl)
theorem ini_java_lang_UnsupportedOperationException : Cond.initialized "java/lang/UnsupportedOperationException" ∈ lw_tbl := tb_1 _ (List.mem_of_getElem? (i := 10) rfl)
theorem ini_java_lang_IllegalArgumentException : Cond.initialized "java/lang/IllegalArgumentException" ∈ lw_tbl := tb_1 _ (List.mem_of_getElem? (i := 11) rfl)
theorem ini_java_lang_IllegalStateException : Cond.initialized "java/lang/IllegalStateException" ∈ lw_tbl := tb_1 _ (List.mem_of_getElem? (i := 12) rfl)
theorem inst_C : Cond.instantiable "CommandTree" 16 ∈ lw_tbl := tb_1 _ (List.mem_of_getElem? (i := 14) rfl)
theorem inst_T : Cond.instantiable "CommandTree$TaskList" 5 ∈ lw_tbl := tb_1 _ (List.mem_of_getElem? (i := 25) rfl)
theorem arr_int : Cond.arrayClass .int ∈ lw_tbl := tb_1 _ (List.mem_of_getElem? (i := 47) rfl)
theorem arr_boolean : Cond.arrayClass .boolean ∈ lw_tbl := tb_1 _ (List.mem_of_getElem? (i := 48) rfl)
theorem inst_R : Cond.instantiable "CommandTree$LeaderRows" 7 ∈ lw_tbl := tb_1 _ (List.mem_of_getElem? (i := 50) rfl)
theorem cl_L_13 : Cond.classLink "CommandTreeLaw" 13 "java/lang/IndexOutOfBoundsException" ∈ lw_tbl := tb_1 _ (List.mem_of_getElem? (i := 134) rfl)
theorem cl_L_15 : Cond.classLink "CommandTreeLaw" 15 "java/lang/UnsupportedOperationException" ∈ lw_tbl := tb_1 _ (List.mem_of_getElem? (i := 135) rfl)
theorem cast_java_lang_IndexOutOfBoundsException : Cond.castable "java/lang/IndexOutOfBoundsException" "java/lang/IndexOutOfBoundsException" ∈ lw_tbl := tb_1 _ (List.mem_of_getElem? (i := 142) rfl)
theorem arr_byte : Cond.arrayClass .byte ∈ lw_tbl := tb_1 _ (List.mem_of_getElem? (i := 208) rfl)
theorem cast_java_lang_UnsupportedOperationException : Cond.castable "java/lang/UnsupportedOperationException" "java/lang/UnsupportedOperationException" ∈ lw_tbl := tb_1 _ (List.mem_of_getElem? (i := 211) rfl)
theorem cl_L_25 : Cond.classLink "CommandTreeLaw" 25 "java/lang/IllegalArgumentException" ∈ lw_tbl := tb_1 _ (List.mem_of_getElem? (i := 236) rfl)
theorem cl_L_27 : Cond.classLink "CommandTreeLaw" 27 "java/lang/IllegalStateException" ∈ lw_tbl := tb_1 _ (List.mem_of_getElem? (i := 237) rfl)
theorem cast_java_lang_IllegalArgumentException : Cond.castable "java/lang/IllegalArgumentException" "java/lang/IllegalArgumentException" ∈ lw_tbl := tb_2 _ (List.mem_of_getElem? (i := 8) rfl)
theorem cast_java_lang_IllegalStateException : Cond.castable "java/lang/IllegalStateException" "java/lang/IllegalStateException" ∈ lw_tbl := tb_2 _ (List.mem_of_getElem? (i := 28) rfl)
theorem inst_M : Cond.instantiable "CommandTreeModel" 25 ∈ lw_tbl := tb_3 _ (List.mem_of_getElem? (i := 74) rfl)
theorem arr_long : Cond.arrayClass .long ∈ lw_tbl := tb_4 _ (List.mem_of_getElem? (i := 63) rfl)
theorem oi_i : Cond.instanceMethod objectInit ∈ lw_tbl := tb_1 _ (List.mem_of_getElem? (i := 19) rfl)
theorem oi_c : Cond.code objectInit ⟨#[0xb1]⟩ 1 none ∈ lw_tbl := tb_1 _ (List.mem_of_getElem? (i := 20) rfl)
theorem thr_0 : ct_thr "CommandTree" 69 0 := ⟨by decide +kernel, by decide +kernel⟩
theorem thr_1 : ct_thr "CommandTree" 79 1 := ⟨by decide +kernel, by decide +kernel⟩
theorem thr_2 : ct_thr "CommandTree" 216 2 := ⟨by decide +kernel, by decide +kernel⟩
theorem thr_3 : ct_thr "CommandTree" 97 3 := ⟨by decide +kernel, by decide +kernel⟩
end
section
/-! THE STATES of class and reference as tuples, and the world of the whole run: 38 cells (printed by wip/whole/walk.py) -/
abbrev S_c : Type := Nat × Nat × Nat × (Nat → Int32) × (Nat → Int32) × (Nat → Int32) × (Nat → Int32) × Nat × (Nat → Int32) × Nat × (Nat → Int32) × (Nat → Int32) × (Nat → Int32) × (Nat → Int32) × Nat × (Nat → Int32) × (Nat → Int32) × (Nat → Int32) × (Nat → Int32) × Nat × Nat × (Nat → Int32) × (Nat → Int32) × (Nat → Int32) × (Nat → Int32) × Nat
abbrev c_sec (z : S_c) : Nat := z.1
abbrev c_most (z : S_c) : Nat := z.2.1
abbrev c_np (z : S_c) : Nat := z.2.2.1
abbrev c_rank (z : S_c) : (Nat → Int32) := z.2.2.2.1
abbrev c_arr (z : S_c) : (Nat → Int32) := z.2.2.2.2.1
abbrev c_sop (z : S_c) : (Nat → Int32) := z.2.2.2.2.2.1
abbrev c_slb (z : S_c) : (Nat → Int32) := z.2.2.2.2.2.2.1
abbrev c_nu (z : S_c) : Nat := z.2.2.2.2.2.2.2.1
abbrev c_sou (z : S_c) : (Nat → Int32) := z.2.2.2.2.2.2.2.2.1
abbrev c_ns (z : S_c) : Nat := z.2.2.2.2.2.2.2.2.2.1
abbrev c_opn (z : S_c) : (Nat → Int32) := z.2.2.2.2.2.2.2.2.2.2.1
abbrev c_abv (z : S_c) : (Nat → Int32) := z.2.2.2.2.2.2.2.2.2.2.2.1
abbrev c_ldr (z : S_c) : (Nat → Int32) := z.2.2.2.2.2.2.2.2.2.2.2.2.1
abbrev c_off (z : S_c) : (Nat → Int32) := z.2.2.2.2.2.2.2.2.2.2.2.2.2.1
abbrev t_n (z : S_c) : Nat := z.2.2.2.2.2.2.2.2.2.2.2.2.2.2.1
abbrev t_sec (z : S_c) : (Nat → Int32) := z.2.2.2.2.2.2.2.2.2.2.2.2.2.2.2.1
abbrev t_unt (z : S_c) : (Nat → Int32) := z.2.2.2.2.2.2.2.2.2.2.2.2.2.2.2.2.1
abbrev t_rep (z : S_c) : (Nat → Int32) := z.2.2.2.2.2.2.2.2.2.2.2.2.2.2.2.2.2.1
abbrev t_at (z : S_c) : (Nat → Int32) := z.2.2.2.2.2.2.2.2.2.2.2.2.2.2.2.2.2.2.1
abbrev r_old (z : S_c) : Nat := z.2.2.2.2.2.2.2.2.2.2.2.2.2.2.2.2.2.2.2.1
abbrev r_n (z : S_c) : Nat := z.2.2.2.2.2.2.2.2.2.2.2.2.2.2.2.2.2.2.2.2.1
abbrev r_sec (z : S_c) : (Nat → Int32) := z.2.2.2.2.2.2.2.2.2.2.2.2.2.2.2.2.2.2.2.2.2.1
abbrev r_num (z : S_c) : (Nat → Int32) := z.2.2.2.2.2.2.2.2.2.2.2.2.2.2.2.2.2.2.2.2.2.2.1
abbrev r_led (z : S_c) : (Nat → Int32) := z.2.2.2.2.2.2.2.2.2.2.2.2.2.2.2.2.2.2.2.2.2.2.2.1
abbrev r_bef (z : S_c) : (Nat → Int32) := z.2.2.2.2.2.2.2.2.2.2.2.2.2.2.2.2.2.2.2.2.2.2.2.2.1
abbrev r_drop (z : S_c) : Nat := z.2.2.2.2.2.2.2.2.2.2.2.2.2.2.2.2.2.2.2.2.2.2.2.2.2
abbrev c_sec_ (z : S_c) (v : Nat) : S_c := (v, z.2)
abbrev c_most_ (z : S_c) (v : Nat) : S_c := (z.1, v, z.2.2)
abbrev c_np_ (z : S_c) (v : Nat) : S_c := (z.1, z.2.1, v, z.2.2.2)
abbrev c_rank_ (z : S_c) (v : (Nat → Int32)) : S_c := (z.1, z.2.1, z.2.2.1, v, z.2.2.2.2)
abbrev c_arr_ (z : S_c) (v : (Nat → Int32)) : S_c := (z.1, z.2.1, z.2.2.1, z.2.2.2.1, v, z.2.2.2.2.2)
abbrev c_sop_ (z : S_c) (v : (Nat → Int32)) : S_c := (z.1, z.2.1, z.2.2.1, z.2.2.2.1, z.2.2.2.2.1, v, z.2.2.2.2.2.2)
abbrev c_slb_ (z : S_c) (v : (Nat → Int32)) : S_c := (z.1, z.2.1, z.2.2.1, z.2.2.2.1, z.2.2.2.2.1, z.2.2.2.2.2.1, v, z.2.2.2.2.2.2.2)
abbrev c_nu_ (z : S_c) (v : Nat) : S_c := (z.1, z.2.1, z.2.2.1, z.2.2.2.1, z.2.2.2.2.1, z.2.2.2.2.2.1, z.2.2.2.2.2.2.1, v, z.2.2.2.2.2.2.2.2)
abbrev c_sou_ (z : S_c) (v : (Nat → Int32)) : S_c := (z.1, z.2.1, z.2.2.1, z.2.2.2.1, z.2.2.2.2.1, z.2.2.2.2.2.1, z.2.2.2.2.2.2.1, z.2.2.2.2.2.2.2.1, v, z.2.2.2.2.2.2.2.2.2)
abbrev c_ns_ (z : S_c) (v : Nat) : S_c := (z.1, z.2.1, z.2.2.1, z.2.2.2.1, z.2.2.2.2.1, z.2.2.2.2.2.1, z.2.2.2.2.2.2.1, z.2.2.2.2.2.2.2.1, z.2.2.2.2.2.2.2.2.1, v, z.2.2.2.2.2.2.2.2.2.2)
abbrev c_opn_ (z : S_c) (v : (Nat → Int32)) : S_c := (z.1, z.2.1, z.2.2.1, z.2.2.2.1, z.2.2.2.2.1, z.2.2.2.2.2.1, z.2.2.2.2.2.2.1, z.2.2.2.2.2.2.2.1, z.2.2.2.2.2.2.2.2.1, z.2.2.2.2.2.2.2.2.2.1, v, z.2.2.2.2.2.2.2.2.2.2.2)
abbrev c_abv_ (z : S_c) (v : (Nat → Int32)) : S_c := (z.1, z.2.1, z.2.2.1, z.2.2.2.1, z.2.2.2.2.1, z.2.2.2.2.2.1, z.2.2.2.2.2.2.1, z.2.2.2.2.2.2.2.1, z.2.2.2.2.2.2.2.2.1, z.2.2.2.2.2.2.2.2.2.1, z.2.2.2.2.2.2.2.2.2.2.1, v, z.2.2.2.2.2.2.2.2.2.2.2.2)
abbrev c_ldr_ (z : S_c) (v : (Nat → Int32)) : S_c := (z.1, z.2.1, z.2.2.1, z.2.2.2.1, z.2.2.2.2.1, z.2.2.2.2.2.1, z.2.2.2.2.2.2.1, z.2.2.2.2.2.2.2.1, z.2.2.2.2.2.2.2.2.1, z.2.2.2.2.2.2.2.2.2.1, z.2.2.2.2.2.2.2.2.2.2.1, z.2.2.2.2.2.2.2.2.2.2.2.1, v, z.2.2.2.2.2.2.2.2.2.2.2.2.2)
abbrev c_off_ (z : S_c) (v : (Nat → Int32)) : S_c := (z.1, z.2.1, z.2.2.1, z.2.2.2.1, z.2.2.2.2.1, z.2.2.2.2.2.1, z.2.2.2.2.2.2.1, z.2.2.2.2.2.2.2.1, z.2.2.2.2.2.2.2.2.1, z.2.2.2.2.2.2.2.2.2.1, z.2.2.2.2.2.2.2.2.2.2.1, z.2.2.2.2.2.2.2.2.2.2.2.1, z.2.2.2.2.2.2.2.2.2.2.2.2.1, v, z.2.2.2.2.2.2.2.2.2.2.2.2.2.2)
abbrev t_n_ (z : S_c) (v : Nat) : S_c := (z.1, z.2.1, z.2.2.1, z.2.2.2.1, z.2.2.2.2.1, z.2.2.2.2.2.1, z.2.2.2.2.2.2.1, z.2.2.2.2.2.2.2.1, z.2.2.2.2.2.2.2.2.1, z.2.2.2.2.2.2.2.2.2.1, z.2.2.2.2.2.2.2.2.2.2.1, z.2.2.2.2.2.2.2.2.2.2.2.1, z.2.2.2.2.2.2.2.2.2.2.2.2.1, z.2.2.2.2.2.2.2.2.2.2.2.2.2.1, v, z.2.2.2.2.2.2.2.2.2.2.2.2.2.2.2)
abbrev t_sec_ (z : S_c) (v : (Nat → Int32)) : S_c := (z.1, z.2.1, z.2.2.1, z.2.2.2.1, z.2.2.2.2.1, z.2.2.2.2.2.1, z.2.2.2.2.2.2.1, z.2.2.2.2.2.2.2.1, z.2.2.2.2.2.2.2.2.1, z.2.2.2.2.2.2.2.2.2.1, z.2.2.2.2.2.2.2.2.2.2.1, z.2.2.2.2.2.2.2.2.2.2.2.1, z.2.2.2.2.2.2.2.2.2.2.2.2.1, z.2.2.2.2.2.2.2.2.2.2.2.2.2.1, z.2.2.2.2.2.2.2.2.2.2.2.2.2.2.1, v, z.2.2.2.2.2.2.2.2.2.2.2.2.2.2.2.2)
abbrev t_unt_ (z : S_c) (v : (Nat → Int32)) : S_c := (z.1, z.2.1, z.2.2.1, z.2.2.2.1, z.2.2.2.2.1, z.2.2.2.2.2.1, z.2.2.2.2.2.2.1, z.2.2.2.2.2.2.2.1, z.2.2.2.2.2.2.2.2.1, z.2.2.2.2.2.2.2.2.2.1, z.2.2.2.2.2.2.2.2.2.2.1, z.2.2.2.2.2.2.2.2.2.2.2.1, z.2.2.2.2.2.2.2.2.2.2.2.2.1, z.2.2.2.2.2.2.2.2.2.2.2.2.2.1, z.2.2.2.2.2.2.2.2.2.2.2.2.2.2.1, z.2.2.2.2.2.2.2.2.2.2.2.2.2.2.2.1, v, z.2.2.2.2.2.2.2.2.2.2.2.2.2.2.2.2.2)
abbrev t_rep_ (z : S_c) (v : (Nat → Int32)) : S_c := (z.1, z.2.1, z.2.2.1, z.2.2.2.1, z.2.2.2.2.1, z.2.2.2.2.2.1, z.2.2.2.2.2.2.1, z.2.2.2.2.2.2.2.1, z.2.2.2.2.2.2.2.2.1, z.2.2.2.2.2.2.2.2.2.1, z.2.2.2.2.2.2.2.2.2.2.1, z.2.2.2.2.2.2.2.2.2.2.2.1, z.2.2.2.2.2.2.2.2.2.2.2.2.1, z.2.2.2.2.2.2.2.2.2.2.2.2.2.1, z.2.2.2.2.2.2.2.2.2.2.2.2.2.2.1, z.2.2.2.2.2.2.2.2.2.2.2.2.2.2.2.1, z.2.2.2.2.2.2.2.2.2.2.2.2.2.2.2.2.1, v, z.2.2.2.2.2.2.2.2.2.2.2.2.2.2.2.2.2.2)
abbrev t_at_ (z : S_c) (v : (Nat → Int32)) : S_c := (z.1, z.2.1, z.2.2.1, z.2.2.2.1, z.2.2.2.2.1, z.2.2.2.2.2.1, z.2.2.2.2.2.2.1, z.2.2.2.2.2.2.2.1, z.2.2.2.2.2.2.2.2.1, z.2.2.2.2.2.2.2.2.2.1, z.2.2.2.2.2.2.2.2.2.2.1, z.2.2.2.2.2.2.2.2.2.2.2.1, z.2.2.2.2.2.2.2.2.2.2.2.2.1, z.2.2.2.2.2.2.2.2.2.2.2.2.2.1, z.2.2.2.2.2.2.2.2.2.2.2.2.2.2.1, z.2.2.2.2.2.2.2.2.2.2.2.2.2.2.2.1, z.2.2.2.2.2.2.2.2.2.2.2.2.2.2.2.2.1, z.2.2.2.2.2.2.2.2.2.2.2.2.2.2.2.2.2.1, v, z.2.2.2.2.2.2.2.2.2.2.2.2.2.2.2.2.2.2.2)
abbrev r_old_ (z : S_c) (v : Nat) : S_c := (z.1, z.2.1, z.2.2.1, z.2.2.2.1, z.2.2.2.2.1, z.2.2.2.2.2.1, z.2.2.2.2.2.2.1, z.2.2.2.2.2.2.2.1, z.2.2.2.2.2.2.2.2.1, z.2.2.2.2.2.2.2.2.2.1, z.2.2.2.2.2.2.2.2.2.2.1, z.2.2.2.2.2.2.2.2.2.2.2.1, z.2.2.2.2.2.2.2.2.2.2.2.2.1, z.2.2.2.2.2.2.2.2.2.2.2.2.2.1, z.2.2.2.2.2.2.2.2.2.2.2.2.2.2.1, z.2.2.2.2.2.2.2.2.2.2.2.2.2.2.2.1, z.2.2.2.2.2.2.2.2.2.2.2.2.2.2.2.2.1, z.2.2.2.2.2.2.2.2.2.2.2.2.2.2.2.2.2.1, z.2.2.2.2.2.2.2.2.2.2.2.2.2.2.2.2.2.2.1, v, z.2.2.2.2.2.2.2.2.2.2.2.2.2.2.2.2.2.2.2.2)
abbrev r_n_ (z : S_c) (v : Nat) : S_c := (z.1, z.2.1, z.2.2.1, z.2.2.2.1, z.2.2.2.2.1, z.2.2.2.2.2.1, z.2.2.2.2.2.2.1, z.2.2.2.2.2.2.2.1, z.2.2.2.2.2.2.2.2.1, z.2.2.2.2.2.2.2.2.2.1, z.2.2.2.2.2.2.2.2.2.2.1, z.2.2.2.2.2.2.2.2.2.2.2.1, z.2.2.2.2.2.2.2.2.2.2.2.2.1, z.2.2.2.2.2.2.2.2.2.2.2.2.2.1, z.2.2.2.2.2.2.2.2.2.2.2.2.2.2.1, z.2.2.2.2.2.2.2.2.2.2.2.2.2.2.2.1, z.2.2.2.2.2.2.2.2.2.2.2.2.2.2.2.2.1, z.2.2.2.2.2.2.2.2.2.2.2.2.2.2.2.2.2.1, z.2.2.2.2.2.2.2.2.2.2.2.2.2.2.2.2.2.2.1, z.2.2.2.2.2.2.2.2.2.2.2.2.2.2.2.2.2.2.2.1, v, z.2.2.2.2.2.2.2.2.2.2.2.2.2.2.2.2.2.2.2.2.2)
abbrev r_sec_ (z : S_c) (v : (Nat → Int32)) : S_c := (z.1, z.2.1, z.2.2.1, z.2.2.2.1, z.2.2.2.2.1, z.2.2.2.2.2.1, z.2.2.2.2.2.2.1, z.2.2.2.2.2.2.2.1, z.2.2.2.2.2.2.2.2.1, z.2.2.2.2.2.2.2.2.2.1, z.2.2.2.2.2.2.2.2.2.2.1, z.2.2.2.2.2.2.2.2.2.2.2.1, z.2.2.2.2.2.2.2.2.2.2.2.2.1, z.2.2.2.2.2.2.2.2.2.2.2.2.2.1, z.2.2.2.2.2.2.2.2.2.2.2.2.2.2.1, z.2.2.2.2.2.2.2.2.2.2.2.2.2.2.2.1, z.2.2.2.2.2.2.2.2.2.2.2.2.2.2.2.2.1, z.2.2.2.2.2.2.2.2.2.2.2.2.2.2.2.2.2.1, z.2.2.2.2.2.2.2.2.2.2.2.2.2.2.2.2.2.2.1, z.2.2.2.2.2.2.2.2.2.2.2.2.2.2.2.2.2.2.2.1, z.2.2.2.2.2.2.2.2.2.2.2.2.2.2.2.2.2.2.2.2.1, v, z.2.2.2.2.2.2.2.2.2.2.2.2.2.2.2.2.2.2.2.2.2.2)
abbrev r_num_ (z : S_c) (v : (Nat → Int32)) : S_c := (z.1, z.2.1, z.2.2.1, z.2.2.2.1, z.2.2.2.2.1, z.2.2.2.2.2.1, z.2.2.2.2.2.2.1, z.2.2.2.2.2.2.2.1, z.2.2.2.2.2.2.2.2.1, z.2.2.2.2.2.2.2.2.2.1, z.2.2.2.2.2.2.2.2.2.2.1, z.2.2.2.2.2.2.2.2.2.2.2.1, z.2.2.2.2.2.2.2.2.2.2.2.2.1, z.2.2.2.2.2.2.2.2.2.2.2.2.2.1, z.2.2.2.2.2.2.2.2.2.2.2.2.2.2.1, z.2.2.2.2.2.2.2.2.2.2.2.2.2.2.2.1, z.2.2.2.2.2.2.2.2.2.2.2.2.2.2.2.2.1, z.2.2.2.2.2.2.2.2.2.2.2.2.2.2.2.2.2.1, z.2.2.2.2.2.2.2.2.2.2.2.2.2.2.2.2.2.2.1, z.2.2.2.2.2.2.2.2.2.2.2.2.2.2.2.2.2.2.2.1, z.2.2.2.2.2.2.2.2.2.2.2.2.2.2.2.2.2.2.2.2.1, z.2.2.2.2.2.2.2.2.2.2.2.2.2.2.2.2.2.2.2.2.2.1, v, z.2.2.2.2.2.2.2.2.2.2.2.2.2.2.2.2.2.2.2.2.2.2.2)
abbrev r_led_ (z : S_c) (v : (Nat → Int32)) : S_c := (z.1, z.2.1, z.2.2.1, z.2.2.2.1, z.2.2.2.2.1, z.2.2.2.2.2.1, z.2.2.2.2.2.2.1, z.2.2.2.2.2.2.2.1, z.2.2.2.2.2.2.2.2.1, z.2.2.2.2.2.2.2.2.2.1, z.2.2.2.2.2.2.2.2.2.2.1, z.2.2.2.2.2.2.2.2.2.2.2.1, z.2.2.2.2.2.2.2.2.2.2.2.2.1, z.2.2.2.2.2.2.2.2.2.2.2.2.2.1, z.2.2.2.2.2.2.2.2.2.2.2.2.2.2.1, z.2.2.2.2.2.2.2.2.2.2.2.2.2.2.2.1, z.2.2.2.2.2.2.2.2.2.2.2.2.2.2.2.2.1, z.2.2.2.2.2.2.2.2.2.2.2.2.2.2.2.2.2.1, z.2.2.2.2.2.2.2.2.2.2.2.2.2.2.2.2.2.2.1, z.2.2.2.2.2.2.2.2.2.2.2.2.2.2.2.2.2.2.2.1, z.2.2.2.2.2.2.2.2.2.2.2.2.2.2.2.2.2.2.2.2.1, z.2.2.2.2.2.2.2.2.2.2.2.2.2.2.2.2.2.2.2.2.2.1, z.2.2.2.2.2.2.2.2.2.2.2.2.2.2.2.2.2.2.2.2.2.2.1, v, z.2.2.2.2.2.2.2.2.2.2.2.2.2.2.2.2.2.2.2.2.2.2.2.2)
abbrev r_bef_ (z : S_c) (v : (Nat → Int32)) : S_c := (z.1, z.2.1, z.2.2.1, z.2.2.2.1, z.2.2.2.2.1, z.2.2.2.2.2.1, z.2.2.2.2.2.2.1, z.2.2.2.2.2.2.2.1, z.2.2.2.2.2.2.2.2.1, z.2.2.2.2.2.2.2.2.2.1, z.2.2.2.2.2.2.2.2.2.2.1, z.2.2.2.2.2.2.2.2.2.2.2.1, z.2.2.2.2.2.2.2.2.2.2.2.2.1, z.2.2.2.2.2.2.2.2.2.2.2.2.2.1, z.2.2.2.2.2.2.2.2.2.2.2.2.2.2.1, z.2.2.2.2.2.2.2.2.2.2.2.2.2.2.2.1, z.2.2.2.2.2.2.2.2.2.2.2.2.2.2.2.2.1, z.2.2.2.2.2.2.2.2.2.2.2.2.2.2.2.2.2.1, z.2.2.2.2.2.2.2.2.2.2.2.2.2.2.2.2.2.2.1, z.2.2.2.2.2.2.2.2.2.2.2.2.2.2.2.2.2.2.2.1, z.2.2.2.2.2.2.2.2.2.2.2.2.2.2.2.2.2.2.2.2.1, z.2.2.2.2.2.2.2.2.2.2.2.2.2.2.2.2.2.2.2.2.2.1, z.2.2.2.2.2.2.2.2.2.2.2.2.2.2.2.2.2.2.2.2.2.2.1, z.2.2.2.2.2.2.2.2.2.2.2.2.2.2.2.2.2.2.2.2.2.2.2.1, v, z.2.2.2.2.2.2.2.2.2.2.2.2.2.2.2.2.2.2.2.2.2.2.2.2.2)
abbrev r_drop_ (z : S_c) (v : Nat) : S_c := (z.1, z.2.1, z.2.2.1, z.2.2.2.1, z.2.2.2.2.1, z.2.2.2.2.2.1, z.2.2.2.2.2.2.1, z.2.2.2.2.2.2.2.1, z.2.2.2.2.2.2.2.2.1, z.2.2.2.2.2.2.2.2.2.1, z.2.2.2.2.2.2.2.2.2.2.1, z.2.2.2.2.2.2.2.2.2.2.2.1, z.2.2.2.2.2.2.2.2.2.2.2.2.1, z.2.2.2.2.2.2.2.2.2.2.2.2.2.1, z.2.2.2.2.2.2.2.2.2.2.2.2.2.2.1, z.2.2.2.2.2.2.2.2.2.2.2.2.2.2.2.1, z.2.2.2.2.2.2.2.2.2.2.2.2.2.2.2.2.1, z.2.2.2.2.2.2.2.2.2.2.2.2.2.2.2.2.2.1, z.2.2.2.2.2.2.2.2.2.2.2.2.2.2.2.2.2.2.1, z.2.2.2.2.2.2.2.2.2.2.2.2.2.2.2.2.2.2.2.1, z.2.2.2.2.2.2.2.2.2.2.2.2.2.2.2.2.2.2.2.2.1, z.2.2.2.2.2.2.2.2.2.2.2.2.2.2.2.2.2.2.2.2.2.1, z.2.2.2.2.2.2.2.2.2.2.2.2.2.2.2.2.2.2.2.2.2.2.1, z.2.2.2.2.2.2.2.2.2.2.2.2.2.2.2.2.2.2.2.2.2.2.2.1, z.2.2.2.2.2.2.2.2.2.2.2.2.2.2.2.2.2.2.2.2.2.2.2.2.1, v)
abbrev S_m : Type := Int32 × Nat × Nat × (Nat → Int32) × (Nat → Int32) × (Nat → Int32) × Nat × (Nat → Int32) × Nat × (Nat → Int32) × (Nat → Int32) × (Nat → Int32) × (Nat → Int32) × Nat × Nat × (Nat → Int32) × (Nat → Int32) × (Nat → Int32) × (Nat → Int32) × Nat × (Nat → Int32) × (Nat → Int32) × (Nat → Int32) × (Nat → Int32) × Int32
abbrev k_thr (z : S_m) : Int32 := z.1
abbrev k_now (z : S_m) : Nat := z.2.1
abbrev k_np (z : S_m) : Nat := z.2.2.1
abbrev k_rank (z : S_m) : (Nat → Int32) := z.2.2.2.1
abbrev k_in (z : S_m) : (Nat → Int32) := z.2.2.2.2.1
abbrev k_arr (z : S_m) : (Nat → Int32) := z.2.2.2.2.2.1
abbrev k_nu (z : S_m) : Nat := z.2.2.2.2.2.2.1
abbrev k_uin (z : S_m) : (Nat → Int32) := z.2.2.2.2.2.2.2.1
abbrev k_ns (z : S_m) : Nat := z.2.2.2.2.2.2.2.2.1
abbrev k_jnd (z : S_m) : (Nat → Int32) := z.2.2.2.2.2.2.2.2.2.1
abbrev k_abv (z : S_m) : (Nat → Int32) := z.2.2.2.2.2.2.2.2.2.2.1
abbrev k_ldr (z : S_m) : (Nat → Int32) := z.2.2.2.2.2.2.2.2.2.2.2.1
abbrev k_off (z : S_m) : (Nat → Int32) := z.2.2.2.2.2.2.2.2.2.2.2.2.1
abbrev k_span (z : S_m) : Nat := z.2.2.2.2.2.2.2.2.2.2.2.2.2.1
abbrev k_nt (z : S_m) : Nat := z.2.2.2.2.2.2.2.2.2.2.2.2.2.2.1
abbrev k_tof (z : S_m) : (Nat → Int32) := z.2.2.2.2.2.2.2.2.2.2.2.2.2.2.2.1
abbrev k_unt (z : S_m) : (Nat → Int32) := z.2.2.2.2.2.2.2.2.2.2.2.2.2.2.2.2.1
abbrev k_sta (z : S_m) : (Nat → Int32) := z.2.2.2.2.2.2.2.2.2.2.2.2.2.2.2.2.2.1
abbrev k_ans (z : S_m) : (Nat → Int32) := z.2.2.2.2.2.2.2.2.2.2.2.2.2.2.2.2.2.2.1
abbrev k_rows (z : S_m) : Nat := z.2.2.2.2.2.2.2.2.2.2.2.2.2.2.2.2.2.2.2.1
abbrev k_rs (z : S_m) : (Nat → Int32) := z.2.2.2.2.2.2.2.2.2.2.2.2.2.2.2.2.2.2.2.2.1
abbrev k_rl (z : S_m) : (Nat → Int32) := z.2.2.2.2.2.2.2.2.2.2.2.2.2.2.2.2.2.2.2.2.2.1
abbrev k_rt (z : S_m) : (Nat → Int32) := z.2.2.2.2.2.2.2.2.2.2.2.2.2.2.2.2.2.2.2.2.2.2.1
abbrev k_bef (z : S_m) : (Nat → Int32) := z.2.2.2.2.2.2.2.2.2.2.2.2.2.2.2.2.2.2.2.2.2.2.2.1
abbrev k_lost (z : S_m) : Int32 := z.2.2.2.2.2.2.2.2.2.2.2.2.2.2.2.2.2.2.2.2.2.2.2.2
abbrev k_thr_ (z : S_m) (v : Int32) : S_m := (v, z.2)
abbrev k_now_ (z : S_m) (v : Nat) : S_m := (z.1, v, z.2.2)
abbrev k_np_ (z : S_m) (v : Nat) : S_m := (z.1, z.2.1, v, z.2.2.2)
abbrev k_rank_ (z : S_m) (v : (Nat → Int32)) : S_m := (z.1, z.2.1, z.2.2.1, v, z.2.2.2.2)
abbrev k_in_ (z : S_m) (v : (Nat → Int32)) : S_m := (z.1, z.2.1, z.2.2.1, z.2.2.2.1, v, z.2.2.2.2.2)
abbrev k_arr_ (z : S_m) (v : (Nat → Int32)) : S_m := (z.1, z.2.1, z.2.2.1, z.2.2.2.1, z.2.2.2.2.1, v, z.2.2.2.2.2.2)
abbrev k_nu_ (z : S_m) (v : Nat) : S_m := (z.1, z.2.1, z.2.2.1, z.2.2.2.1, z.2.2.2.2.1, z.2.2.2.2.2.1, v, z.2.2.2.2.2.2.2)
abbrev k_uin_ (z : S_m) (v : (Nat → Int32)) : S_m := (z.1, z.2.1, z.2.2.1, z.2.2.2.1, z.2.2.2.2.1, z.2.2.2.2.2.1, z.2.2.2.2.2.2.1, v, z.2.2.2.2.2.2.2.2)
abbrev k_ns_ (z : S_m) (v : Nat) : S_m := (z.1, z.2.1, z.2.2.1, z.2.2.2.1, z.2.2.2.2.1, z.2.2.2.2.2.1, z.2.2.2.2.2.2.1, z.2.2.2.2.2.2.2.1, v, z.2.2.2.2.2.2.2.2.2)
abbrev k_jnd_ (z : S_m) (v : (Nat → Int32)) : S_m := (z.1, z.2.1, z.2.2.1, z.2.2.2.1, z.2.2.2.2.1, z.2.2.2.2.2.1, z.2.2.2.2.2.2.1, z.2.2.2.2.2.2.2.1, z.2.2.2.2.2.2.2.2.1, v, z.2.2.2.2.2.2.2.2.2.2)
abbrev k_abv_ (z : S_m) (v : (Nat → Int32)) : S_m := (z.1, z.2.1, z.2.2.1, z.2.2.2.1, z.2.2.2.2.1, z.2.2.2.2.2.1, z.2.2.2.2.2.2.1, z.2.2.2.2.2.2.2.1, z.2.2.2.2.2.2.2.2.1, z.2.2.2.2.2.2.2.2.2.1, v, z.2.2.2.2.2.2.2.2.2.2.2)
abbrev k_ldr_ (z : S_m) (v : (Nat → Int32)) : S_m := (z.1, z.2.1, z.2.2.1, z.2.2.2.1, z.2.2.2.2.1, z.2.2.2.2.2.1, z.2.2.2.2.2.2.1, z.2.2.2.2.2.2.2.1, z.2.2.2.2.2.2.2.2.1, z.2.2.2.2.2.2.2.2.2.1, z.2.2.2.2.2.2.2.2.2.2.1, v, z.2.2.2.2.2.2.2.2.2.2.2.2)
abbrev k_off_ (z : S_m) (v : (Nat → Int32)) : S_m := (z.1, z.2.1, z.2.2.1, z.2.2.2.1, z.2.2.2.2.1, z.2.2.2.2.2.1, z.2.2.2.2.2.2.1, z.2.2.2.2.2.2.2.1, z.2.2.2.2.2.2.2.2.1, z.2.2.2.2.2.2.2.2.2.1, z.2.2.2.2.2.2.2.2.2.2.1, z.2.2.2.2.2.2.2.2.2.2.2.1, v, z.2.2.2.2.2.2.2.2.2.2.2.2.2)
abbrev k_span_ (z : S_m) (v : Nat) : S_m := (z.1, z.2.1, z.2.2.1, z.2.2.2.1, z.2.2.2.2.1, z.2.2.2.2.2.1, z.2.2.2.2.2.2.1, z.2.2.2.2.2.2.2.1, z.2.2.2.2.2.2.2.2.1, z.2.2.2.2.2.2.2.2.2.1, z.2.2.2.2.2.2.2.2.2.2.1, z.2.2.2.2.2.2.2.2.2.2.2.1, z.2.2.2.2.2.2.2.2.2.2.2.2.1, v, z.2.2.2.2.2.2.2.2.2.2.2.2.2.2)
abbrev k_nt_ (z : S_m) (v : Nat) : S_m := (z.1, z.2.1, z.2.2.1, z.2.2.2.1, z.2.2.2.2.1, z.2.2.2.2.2.1, z.2.2.2.2.2.2.1, z.2.2.2.2.2.2.2.1, z.2.2.2.2.2.2.2.2.1, z.2.2.2.2.2.2.2.2.2.1, z.2.2.2.2.2.2.2.2.2.2.1, z.2.2.2.2.2.2.2.2.2.2.2.1, z.2.2.2.2.2.2.2.2.2.2.2.2.1, z.2.2.2.2.2.2.2.2.2.2.2.2.2.1, v, z.2.2.2.2.2.2.2.2.2.2.2.2.2.2.2)
abbrev k_tof_ (z : S_m) (v : (Nat → Int32)) : S_m := (z.1, z.2.1, z.2.2.1, z.2.2.2.1, z.2.2.2.2.1, z.2.2.2.2.2.1, z.2.2.2.2.2.2.1, z.2.2.2.2.2.2.2.1, z.2.2.2.2.2.2.2.2.1, z.2.2.2.2.2.2.2.2.2.1, z.2.2.2.2.2.2.2.2.2.2.1, z.2.2.2.2.2.2.2.2.2.2.2.1, z.2.2.2.2.2.2.2.2.2.2.2.2.1, z.2.2.2.2.2.2.2.2.2.2.2.2.2.1, z.2.2.2.2.2.2.2.2.2.2.2.2.2.2.1, v, z.2.2.2.2.2.2.2.2.2.2.2.2.2.2.2.2)
abbrev k_unt_ (z : S_m) (v : (Nat → Int32)) : S_m := (z.1, z.2.1, z.2.2.1, z.2.2.2.1, z.2.2.2.2.1, z.2.2.2.2.2.1, z.2.2.2.2.2.2.1, z.2.2.2.2.2.2.2.1, z.2.2.2.2.2.2.2.2.1, z.2.2.2.2.2.2.2.2.2.1, z.2.2.2.2.2.2.2.2.2.2.1, z.2.2.2.2.2.2.2.2.2.2.2.1, z.2.2.2.2.2.2.2.2.2.2.2.2.1, z.2.2.2.2.2.2.2.2.2.2.2.2.2.1, z.2.2.2.2.2.2.2.2.2.2.2.2.2.2.1, z.2.2.2.2.2.2.2.2.2.2.2.2.2.2.2.1, v, z.2.2.2.2.2.2.2.2.2.2.2.2.2.2.2.2.2)
abbrev k_sta_ (z : S_m) (v : (Nat → Int32)) : S_m := (z.1, z.2.1, z.2.2.1, z.2.2.2.1, z.2.2.2.2.1, z.2.2.2.2.2.1, z.2.2.2.2.2.2.1, z.2.2.2.2.2.2.2.1, z.2.2.2.2.2.2.2.2.1, z.2.2.2.2.2.2.2.2.2.1, z.2.2.2.2.2.2.2.2.2.2.1, z.2.2.2.2.2.2.2.2.2.2.2.1, z.2.2.2.2.2.2.2.2.2.2.2.2.1, z.2.2.2.2.2.2.2.2.2.2.2.2.2.1, z.2.2.2.2.2.2.2.2.2.2.2.2.2.2.1, z.2.2.2.2.2.2.2.2.2.2.2.2.2.2.2.1, z.2.2.2.2.2.2.2.2.2.2.2.2.2.2.2.2.1, v, z.2.2.2.2.2.2.2.2.2.2.2.2.2.2.2.2.2.2)
abbrev k_ans_ (z : S_m) (v : (Nat → Int32)) : S_m := (z.1, z.2.1, z.2.2.1, z.2.2.2.1, z.2.2.2.2.1, z.2.2.2.2.2.1, z.2.2.2.2.2.2.1, z.2.2.2.2.2.2.2.1, z.2.2.2.2.2.2.2.2.1, z.2.2.2.2.2.2.2.2.2.1, z.2.2.2.2.2.2.2.2.2.2.1, z.2.2.2.2.2.2.2.2.2.2.2.1, z.2.2.2.2.2.2.2.2.2.2.2.2.1, z.2.2.2.2.2.2.2.2.2.2.2.2.2.1, z.2.2.2.2.2.2.2.2.2.2.2.2.2.2.1, z.2.2.2.2.2.2.2.2.2.2.2.2.2.2.2.1, z.2.2.2.2.2.2.2.2.2.2.2.2.2.2.2.2.1, z.2.2.2.2.2.2.2.2.2.2.2.2.2.2.2.2.2.1, v, z.2.2.2.2.2.2.2.2.2.2.2.2.2.2.2.2.2.2.2)
abbrev k_rows_ (z : S_m) (v : Nat) : S_m := (z.1, z.2.1, z.2.2.1, z.2.2.2.1, z.2.2.2.2.1, z.2.2.2.2.2.1, z.2.2.2.2.2.2.1, z.2.2.2.2.2.2.2.1, z.2.2.2.2.2.2.2.2.1, z.2.2.2.2.2.2.2.2.2.1, z.2.2.2.2.2.2.2.2.2.2.1, z.2.2.2.2.2.2.2.2.2.2.2.1, z.2.2.2.2.2.2.2.2.2.2.2.2.1, z.2.2.2.2.2.2.2.2.2.2.2.2.2.1, z.2.2.2.2.2.2.2.2.2.2.2.2.2.2.1, z.2.2.2.2.2.2.2.2.2.2.2.2.2.2.2.1, z.2.2.2.2.2.2.2.2.2.2.2.2.2.2.2.2.1, z.2.2.2.2.2.2.2.2.2.2.2.2.2.2.2.2.2.1, z.2.2.2.2.2.2.2.2.2.2.2.2.2.2.2.2.2.2.1, v, z.2.2.2.2.2.2.2.2.2.2.2.2.2.2.2.2.2.2.2.2)
abbrev k_rs_ (z : S_m) (v : (Nat → Int32)) : S_m := (z.1, z.2.1, z.2.2.1, z.2.2.2.1, z.2.2.2.2.1, z.2.2.2.2.2.1, z.2.2.2.2.2.2.1, z.2.2.2.2.2.2.2.1, z.2.2.2.2.2.2.2.2.1, z.2.2.2.2.2.2.2.2.2.1, z.2.2.2.2.2.2.2.2.2.2.1, z.2.2.2.2.2.2.2.2.2.2.2.1, z.2.2.2.2.2.2.2.2.2.2.2.2.1, z.2.2.2.2.2.2.2.2.2.2.2.2.2.1, z.2.2.2.2.2.2.2.2.2.2.2.2.2.2.1, z.2.2.2.2.2.2.2.2.2.2.2.2.2.2.2.1, z.2.2.2.2.2.2.2.2.2.2.2.2.2.2.2.2.1, z.2.2.2.2.2.2.2.2.2.2.2.2.2.2.2.2.2.1, z.2.2.2.2.2.2.2.2.2.2.2.2.2.2.2.2.2.2.1, z.2.2.2.2.2.2.2.2.2.2.2.2.2.2.2.2.2.2.2.1, v, z.2.2.2.2.2.2.2.2.2.2.2.2.2.2.2.2.2.2.2.2.2)
abbrev k_rl_ (z : S_m) (v : (Nat → Int32)) : S_m := (z.1, z.2.1, z.2.2.1, z.2.2.2.1, z.2.2.2.2.1, z.2.2.2.2.2.1, z.2.2.2.2.2.2.1, z.2.2.2.2.2.2.2.1, z.2.2.2.2.2.2.2.2.1, z.2.2.2.2.2.2.2.2.2.1, z.2.2.2.2.2.2.2.2.2.2.1, z.2.2.2.2.2.2.2.2.2.2.2.1, z.2.2.2.2.2.2.2.2.2.2.2.2.1, z.2.2.2.2.2.2.2.2.2.2.2.2.2.1, z.2.2.2.2.2.2.2.2.2.2.2.2.2.2.1, z.2.2.2.2.2.2.2.2.2.2.2.2.2.2.2.1, z.2.2.2.2.2.2.2.2.2.2.2.2.2.2.2.2.1, z.2.2.2.2.2.2.2.2.2.2.2.2.2.2.2.2.2.1, z.2.2.2.2.2.2.2.2.2.2.2.2.2.2.2.2.2.2.1, z.2.2.2.2.2.2.2.2.2.2.2.2.2.2.2.2.2.2.2.1, z.2.2.2.2.2.2.2.2.2.2.2.2.2.2.2.2.2.2.2.2.1, v, z.2.2.2.2.2.2.2.2.2.2.2.2.2.2.2.2.2.2.2.2.2.2)
abbrev k_rt_ (z : S_m) (v : (Nat → Int32)) : S_m := (z.1, z.2.1, z.2.2.1, z.2.2.2.1, z.2.2.2.2.1, z.2.2.2.2.2.1, z.2.2.2.2.2.2.1, z.2.2.2.2.2.2.2.1, z.2.2.2.2.2.2.2.2.1, z.2.2.2.2.2.2.2.2.2.1, z.2.2.2.2.2.2.2.2.2.2.1, z.2.2.2.2.2.2.2.2.2.2.2.1, z.2.2.2.2.2.2.2.2.2.2.2.2.1, z.2.2.2.2.2.2.2.2.2.2.2.2.2.1, z.2.2.2.2.2.2.2.2.2.2.2.2.2.2.1, z.2.2.2.2.2.2.2.2.2.2.2.2.2.2.2.1, z.2.2.2.2.2.2.2.2.2.2.2.2.2.2.2.2.1, z.2.2.2.2.2.2.2.2.2.2.2.2.2.2.2.2.2.1, z.2.2.2.2.2.2.2.2.2.2.2.2.2.2.2.2.2.2.1, z.2.2.2.2.2.2.2.2.2.2.2.2.2.2.2.2.2.2.2.1, z.2.2.2.2.2.2.2.2.2.2.2.2.2.2.2.2.2.2.2.2.1, z.2.2.2.2.2.2.2.2.2.2.2.2.2.2.2.2.2.2.2.2.2.1, v, z.2.2.2.2.2.2.2.2.2.2.2.2.2.2.2.2.2.2.2.2.2.2.2)
abbrev k_bef_ (z : S_m) (v : (Nat → Int32)) : S_m := (z.1, z.2.1, z.2.2.1, z.2.2.2.1, z.2.2.2.2.1, z.2.2.2.2.2.1, z.2.2.2.2.2.2.1, z.2.2.2.2.2.2.2.1, z.2.2.2.2.2.2.2.2.1, z.2.2.2.2.2.2.2.2.2.1, z.2.2.2.2.2.2.2.2.2.2.1, z.2.2.2.2.2.2.2.2.2.2.2.1, z.2.2.2.2.2.2.2.2.2.2.2.2.1, z.2.2.2.2.2.2.2.2.2.2.2.2.2.1, z.2.2.2.2.2.2.2.2.2.2.2.2.2.2.1, z.2.2.2.2.2.2.2.2.2.2.2.2.2.2.2.1, z.2.2.2.2.2.2.2.2.2.2.2.2.2.2.2.2.1, z.2.2.2.2.2.2.2.2.2.2.2.2.2.2.2.2.2.1, z.2.2.2.2.2.2.2.2.2.2.2.2.2.2.2.2.2.2.1, z.2.2.2.2.2.2.2.2.2.2.2.2.2.2.2.2.2.2.2.1, z.2.2.2.2.2.2.2.2.2.2.2.2.2.2.2.2.2.2.2.2.1, z.2.2.2.2.2.2.2.2.2.2.2.2.2.2.2.2.2.2.2.2.2.1, z.2.2.2.2.2.2.2.2.2.2.2.2.2.2.2.2.2.2.2.2.2.2.1, v, z.2.2.2.2.2.2.2.2.2.2.2.2.2.2.2.2.2.2.2.2.2.2.2.2)
abbrev k_lost_ (z : S_m) (v : Int32) : S_m := (z.1, z.2.1, z.2.2.1, z.2.2.2.1, z.2.2.2.2.1, z.2.2.2.2.2.1, z.2.2.2.2.2.2.1, z.2.2.2.2.2.2.2.1, z.2.2.2.2.2.2.2.2.1, z.2.2.2.2.2.2.2.2.2.1, z.2.2.2.2.2.2.2.2.2.2.1, z.2.2.2.2.2.2.2.2.2.2.2.1, z.2.2.2.2.2.2.2.2.2.2.2.2.1, z.2.2.2.2.2.2.2.2.2.2.2.2.2.1, z.2.2.2.2.2.2.2.2.2.2.2.2.2.2.1, z.2.2.2.2.2.2.2.2.2.2.2.2.2.2.2.1, z.2.2.2.2.2.2.2.2.2.2.2.2.2.2.2.2.1, z.2.2.2.2.2.2.2.2.2.2.2.2.2.2.2.2.2.1, z.2.2.2.2.2.2.2.2.2.2.2.2.2.2.2.2.2.2.1, z.2.2.2.2.2.2.2.2.2.2.2.2.2.2.2.2.2.2.2.1, z.2.2.2.2.2.2.2.2.2.2.2.2.2.2.2.2.2.2.2.2.1, z.2.2.2.2.2.2.2.2.2.2.2.2.2.2.2.2.2.2.2.2.2.1, z.2.2.2.2.2.2.2.2.2.2.2.2.2.2.2.2.2.2.2.2.2.2.1, z.2.2.2.2.2.2.2.2.2.2.2.2.2.2.2.2.2.2.2.2.2.2.2.1, v)
def wC (z : S_c) : ct_W := [.inr (2, [.int (nI (c_sec z)), .int (nI (c_most z)), .int (nI (c_np z)), .ref 1, .ref 2, .ref 3, .ref 4, .int (nI (c_nu z)), .ref 5, .int (nI (c_ns z)), .ref 6, .ref 7, .ref 8, .ref 9, .ref 10, .ref 15]), .inl (0, 40, .inl (c_rank z)), .inl (0, 40, .inl (c_arr z)), .inl (0, 40, .inl (c_sop z)), .inl (0, 40, .inl (c_slb z)), .inl (0, 20, .inl (c_sou z)), .inl (1, 20, .inl (c_opn z)), .inl (0, 20, .inl (c_abv z)), .inl (0, 20, .inl (c_ldr z)), .inl (0, 20, .inl (c_off z)), .inr (1, [.int (nI (t_n z)), .ref 11, .ref 12, .ref 13, .ref 14]), .inl (0, 60, .inl (t_sec z)), .inl (0, 60, .inl (t_unt z)), .inl (0, 60, .inl (t_rep z)), .inl (0, 60, .inl (t_at z)), .inr (0, [.int (nI (r_old z)), .int (nI (r_n z)), .ref 16, .ref 17, .ref 18, .ref 19, .int (nI (r_drop z))]), .inl (0, 400, .inl (r_sec z)), .inl (0, 400, .inl (r_num z)), .inl (0, 400, .inl (r_led z)), .inl (0, 20, .inl (r_bef z))]
def wL (z : S_c) (k : S_m) (o : Nat → Int64) : ct_W := [.inr (2, [.int (nI (c_sec z)), .int (nI (c_most z)), .int (nI (c_np z)), .ref 1, .ref 2, .ref 3, .ref 4, .int (nI (c_nu z)), .ref 5, .int (nI (c_ns z)), .ref 6, .ref 7, .ref 8, .ref 9, .ref 10, .ref 15]), .inl (0, 40, .inl (c_rank z)), .inl (0, 40, .inl (c_arr z)), .inl (0, 40, .inl (c_sop z)), .inl (0, 40, .inl (c_slb z)), .inl (0, 20, .inl (c_sou z)), .inl (1, 20, .inl (c_opn z)), .inl (0, 20, .inl (c_abv z)), .inl (0, 20, .inl (c_ldr z)), .inl (0, 20, .inl (c_off z)), .inr (1, [.int (nI (t_n z)), .ref 11, .ref 12, .ref 13, .ref 14]), .inl (0, 60, .inl (t_sec z)), .inl (0, 60, .inl (t_unt z)), .inl (0, 60, .inl (t_rep z)), .inl (0, 60, .inl (t_at z)), .inr (0, [.int (nI (r_old z)), .int (nI (r_n z)), .ref 16, .ref 17, .ref 18, .ref 19, .int (nI (r_drop z))]), .inl (0, 400, .inl (r_sec z)), .inl (0, 400, .inl (r_num z)), .inl (0, 400, .inl (r_led z)), .inl (0, 20, .inl (r_bef z)), .inr (3, [.int (k_thr k), .int (nI (k_now k)), .int (nI (k_np k)), .ref 21, .ref 22, .ref 23, .int (nI (k_nu k)), .ref 24, .int (nI (k_ns k)), .ref 25, .ref 26, .ref 27, .ref 28, .int (nI (k_span k)), .int (nI (k_nt k)), .ref 29, .ref 30, .ref 31, .ref 32, .int (nI (k_rows k)), .ref 33, .ref 34, .ref 35, .ref 36, .int (k_lost k)]), .inl (0, 40, .inl (k_rank k)), .inl (0, 40, .inl (k_in k)), .inl (0, 40, .inl (k_arr k)), .inl (0, 20, .inl (k_uin k)), .inl (1, 20, .inl (k_jnd k)), .inl (0, 20, .inl (k_abv k)), .inl (0, 20, .inl (k_ldr k)), .inl (0, 20, .inl (k_off k)), .inl (0, 60, .inl (k_tof k)), .inl (0, 60, .inl (k_unt k)), .inl (0, 60, .inl (k_sta k)), .inl (0, 60, .inl (k_ans k)), .inl (0, 400, .inl (k_rs k)), .inl (0, 400, .inl (k_rl k)), .inl (0, 400, .inl (k_rt k)), .inl (0, 20, .inl (k_bef k)), .inl (2, 1, .inr (.inl o))]
end
