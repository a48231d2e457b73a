section
-- ===== PART A: goes FIRST, ahead of the names: the tables' words, and 'selects' of the private methods out of them =====
/-- a private method of a class that the tables say can be made, by its rows of tables_1 -/
def lw_okq (q : MethodName × Nat) : Prop := (q.1.cls ≠ "java/lang/invoke/MethodHandle" ∧ q.1.cls ≠ "java/lang/invoke/VarHandle") ∧ Cond.instantiable q.1.cls q.2 ∈ tables_1 ∧ Cond.privateMethod q.1 ∈ tables_1 ∧ Cond.instanceMethod q.1 ∈ tables_1
theorem lw_p0 : lw_okq (⟨"java/lang/Throwable", "fillInStackTrace", "(I)Ljava/lang/Throwable;"⟩, 6) := ⟨⟨by decide +kernel, by decide +kernel⟩, List.mem_of_getElem? (i := 180) (by decide +kernel), List.mem_of_getElem? (i := 178) (by decide +kernel), List.mem_of_getElem? (i := 179) (by decide +kernel)⟩
theorem lw_p1 : lw_okq (⟨"CommandTree", "requirePerson", "(I)V"⟩, 16) := ⟨⟨by decide +kernel, by decide +kernel⟩, List.mem_of_getElem? (i := 14) (by decide +kernel), List.mem_of_getElem? (i := 243) (by decide +kernel), List.mem_of_getElem? (i := 244) (by decide +kernel)⟩
theorem lw_p2 : lw_okq (⟨"CommandTree", "isThere", "(I)Z"⟩, 16) := ⟨⟨by decide +kernel, by decide +kernel⟩, List.mem_of_getElem? (i := 14) (by decide +kernel), List.mem_of_getElem? (i := 263) (by decide +kernel), List.mem_of_getElem? (i := 264) (by decide +kernel)⟩
theorem lw_p3 : lw_okq (⟨"CommandTree", "comeInto", "(II)V"⟩, 16) := ⟨⟨by decide +kernel, by decide +kernel⟩, List.mem_of_getElem? (i := 14) (by decide +kernel), List.mem_of_getElem? (i := 283) (by decide +kernel), List.mem_of_getElem? (i := 284) (by decide +kernel)⟩
theorem lw_p4 : lw_okq (⟨"CommandTree", "leaveLeadToNext", "(I)V"⟩, 16) := ⟨⟨by decide +kernel, by decide +kernel⟩, List.mem_of_getElem? (i := 14) (by decide +kernel), List.mem_of_getElem? (i := 287) (by decide +kernel), List.mem_of_getElem? (i := 288) (by decide +kernel)⟩
theorem lw_p5 : lw_okq (⟨"CommandTree", "nextToLead", "(I)I"⟩, 16) := ⟨⟨by decide +kernel, by decide +kernel⟩, List.mem_of_getElem? (i := 14) (by decide +kernel), List.mem_of_getElem? (i := 291) (by decide +kernel), List.mem_of_getElem? (i := 292) (by decide +kernel)⟩
theorem lw_p6 : lw_okq (⟨"CommandTree", "comesBefore", "(II)Z"⟩, 16) := ⟨⟨by decide +kernel, by decide +kernel⟩, List.mem_of_getElem? (i := 14) (by decide +kernel), List.mem_of_getElem? (i := 295) (by decide +kernel), List.mem_of_getElem? (i := 296) (by decide +kernel)⟩
theorem lw_p7 : lw_okq (⟨"CommandTree", "setLeader", "(II)V"⟩, 16) := ⟨⟨by decide +kernel, by decide +kernel⟩, List.mem_of_getElem? (i := 14) (by decide +kernel), List.mem_of_getElem? (i := 299) (by decide +kernel), List.mem_of_getElem? (i := 300) (by decide +kernel)⟩
theorem lw_p8 : lw_okq (⟨"CommandTree", "withdrawOffersTo", "(I)V"⟩, 16) := ⟨⟨by decide +kernel, by decide +kernel⟩, List.mem_of_getElem? (i := 14) (by decide +kernel), List.mem_of_getElem? (i := 303) (by decide +kernel), List.mem_of_getElem? (i := 304) (by decide +kernel)⟩
theorem lw_p9 : lw_okq (⟨"CommandTree$LeaderRows", "dropOldest", "()V"⟩, 7) := ⟨⟨by decide +kernel, by decide +kernel⟩, List.mem_of_getElem? (i := 50) (by decide +kernel), List.mem_of_getElem? (i := 314) (by decide +kernel), List.mem_of_getElem? (i := 315) (by decide +kernel)⟩
theorem lw_p10 : lw_okq (⟨"CommandTree$LeaderRows", "ringIndex", "(I)I"⟩, 7) := ⟨⟨by decide +kernel, by decide +kernel⟩, List.mem_of_getElem? (i := 50) (by decide +kernel), List.mem_of_getElem? (i := 318) (by decide +kernel), List.mem_of_getElem? (i := 319) (by decide +kernel)⟩
theorem lw_p11 : lw_okq (⟨"CommandTree", "requireThere", "(I)V"⟩, 16) := ⟨⟨by decide +kernel, by decide +kernel⟩, List.mem_of_getElem? (i := 14) (by decide +kernel), List.mem_of_getElem? (i := 329) (by decide +kernel), List.mem_of_getElem? (i := 330) (by decide +kernel)⟩
theorem lw_p12 : lw_okq (⟨"CommandTree", "requireSector", "(I)V"⟩, 16) := ⟨⟨by decide +kernel, by decide +kernel⟩, List.mem_of_getElem? (i := 14) (by decide +kernel), List.mem_of_getElem? (i := 341) (by decide +kernel), List.mem_of_getElem? (i := 342) (by decide +kernel)⟩
theorem lw_p13 : lw_okq (⟨"CommandTree", "requireOpen", "(I)V"⟩, 16) := ⟨⟨by decide +kernel, by decide +kernel⟩, List.mem_of_getElem? (i := 14) (by decide +kernel), List.mem_of_getElem? (i := 347) (by decide +kernel), List.mem_of_getElem? (i := 348) (by decide +kernel)⟩
theorem lw_p14 : lw_okq (⟨"CommandTree", "requireUnit", "(I)V"⟩, 16) := ⟨⟨by decide +kernel, by decide +kernel⟩, List.mem_of_getElem? (i := 14) (by decide +kernel), List.mem_of_getElem? (i := 359) (by decide +kernel), List.mem_of_getElem? (i := 360) (by decide +kernel)⟩
theorem lw_p15 : lw_okq (⟨"CommandTree", "isSameOrBelow", "(II)Z"⟩, 16) := ⟨⟨by decide +kernel, by decide +kernel⟩, List.mem_of_getElem? (i := 14) (by decide +kernel), List.mem_of_getElem? (i := 381) (by decide +kernel), List.mem_of_getElem? (i := 382) (by decide +kernel)⟩
def lw_privs_1 : List (MethodName × Nat) := [(⟨"java/lang/Throwable", "fillInStackTrace", "(I)Ljava/lang/Throwable;"⟩, 6), (⟨"CommandTree", "requirePerson", "(I)V"⟩, 16), (⟨"CommandTree", "isThere", "(I)Z"⟩, 16), (⟨"CommandTree", "comeInto", "(II)V"⟩, 16), (⟨"CommandTree", "leaveLeadToNext", "(I)V"⟩, 16), (⟨"CommandTree", "nextToLead", "(I)I"⟩, 16), (⟨"CommandTree", "comesBefore", "(II)Z"⟩, 16), (⟨"CommandTree", "setLeader", "(II)V"⟩, 16), (⟨"CommandTree", "withdrawOffersTo", "(I)V"⟩, 16), (⟨"CommandTree$LeaderRows", "dropOldest", "()V"⟩, 7), (⟨"CommandTree$LeaderRows", "ringIndex", "(I)I"⟩, 7), (⟨"CommandTree", "requireThere", "(I)V"⟩, 16), (⟨"CommandTree", "requireSector", "(I)V"⟩, 16), (⟨"CommandTree", "requireOpen", "(I)V"⟩, 16), (⟨"CommandTree", "requireUnit", "(I)V"⟩, 16), (⟨"CommandTree", "isSameOrBelow", "(II)Z"⟩, 16)]
theorem lw_r1 : ∀ q ∈ lw_privs_1, lw_okq q := List.forall_mem_cons.mpr ⟨lw_p0, List.forall_mem_cons.mpr ⟨lw_p1, List.forall_mem_cons.mpr ⟨lw_p2, List.forall_mem_cons.mpr ⟨lw_p3, List.forall_mem_cons.mpr ⟨lw_p4, List.forall_mem_cons.mpr ⟨lw_p5, List.forall_mem_cons.mpr ⟨lw_p6, List.forall_mem_cons.mpr ⟨lw_p7, List.forall_mem_cons.mpr ⟨lw_p8, List.forall_mem_cons.mpr ⟨lw_p9, List.forall_mem_cons.mpr ⟨lw_p10, List.forall_mem_cons.mpr ⟨lw_p11, List.forall_mem_cons.mpr ⟨lw_p12, List.forall_mem_cons.mpr ⟨lw_p13, List.forall_mem_cons.mpr ⟨lw_p14, List.forall_mem_cons.mpr ⟨lw_p15, fun _ h => absurd h List.not_mem_nil⟩⟩⟩⟩⟩⟩⟩⟩⟩⟩⟩⟩⟩⟩⟩⟩
theorem lw_p16 : lw_okq (⟨"CommandTree", "moveSectorsBelow", "(II)V"⟩, 16) := ⟨⟨by decide +kernel, by decide +kernel⟩, List.mem_of_getElem? (i := 14) (by decide +kernel), List.mem_of_getElem? (i := 386) (by decide +kernel), List.mem_of_getElem? (i := 387) (by decide +kernel)⟩
theorem lw_p17 : lw_okq (⟨"CommandTree", "requireTask", "(I)V"⟩, 16) := ⟨⟨by decide +kernel, by decide +kernel⟩, List.mem_of_getElem? (i := 14) (by decide +kernel), List.mem_of_getElem? (i := 441) (by decide +kernel), List.mem_of_getElem? (i := 442) (by decide +kernel)⟩
theorem lw_p18 : lw_okq (⟨"CommandTree", "isPassed", "(I)Z"⟩, 16) := ⟨⟨by decide +kernel, by decide +kernel⟩, List.mem_of_getElem? (i := 14) (by decide +kernel), List.mem_of_getElem? (i := 464) (by decide +kernel), List.mem_of_getElem? (i := 465) (by decide +kernel)⟩
theorem lw_p19 : lw_okq (⟨"CommandTree", "countOpenBelow", "(I)I"⟩, 16) := ⟨⟨by decide +kernel, by decide +kernel⟩, List.mem_of_getElem? (i := 14) (by decide +kernel), List.mem_of_getElem? (i := 468) (by decide +kernel), List.mem_of_getElem? (i := 469) (by decide +kernel)⟩
theorem lw_p20 : lw_okq (⟨"CommandTreeModel", "goes", "(IZZZZ)Z"⟩, 25) := ⟨⟨by decide +kernel, by decide +kernel⟩, List.mem_of_getElem? (i := 554) (by decide +kernel), List.mem_of_getElem? (i := 647) (by decide +kernel), List.mem_of_getElem? (i := 648) (by decide +kernel)⟩
theorem lw_p21 : lw_okq (⟨"CommandTreeModel", "isPerson", "(I)Z"⟩, 25) := ⟨⟨by decide +kernel, by decide +kernel⟩, List.mem_of_getElem? (i := 554) (by decide +kernel), List.mem_of_getElem? (i := 659) (by decide +kernel), List.mem_of_getElem? (i := 660) (by decide +kernel)⟩
theorem lw_p22 : lw_okq (⟨"CommandTreeModel", "moves", "(II)V"⟩, 25) := ⟨⟨by decide +kernel, by decide +kernel⟩, List.mem_of_getElem? (i := 554) (by decide +kernel), List.mem_of_getElem? (i := 663) (by decide +kernel), List.mem_of_getElem? (i := 664) (by decide +kernel)⟩
theorem lw_p23 : lw_okq (⟨"CommandTreeModel", "leads", "(I)I"⟩, 25) := ⟨⟨by decide +kernel, by decide +kernel⟩, List.mem_of_getElem? (i := 554) (by decide +kernel), List.mem_of_getElem? (i := 667) (by decide +kernel), List.mem_of_getElem? (i := 668) (by decide +kernel)⟩
theorem lw_p24 : lw_okq (⟨"CommandTreeModel", "next", "(I)I"⟩, 25) := ⟨⟨by decide +kernel, by decide +kernel⟩, List.mem_of_getElem? (i := 554) (by decide +kernel), List.mem_of_getElem? (i := 671) (by decide +kernel), List.mem_of_getElem? (i := 672) (by decide +kernel)⟩
theorem lw_p25 : lw_okq (⟨"CommandTreeModel", "lead", "(II)V"⟩, 25) := ⟨⟨by decide +kernel, by decide +kernel⟩, List.mem_of_getElem? (i := 554) (by decide +kernel), List.mem_of_getElem? (i := 675) (by decide +kernel), List.mem_of_getElem? (i := 676) (by decide +kernel)⟩
theorem lw_p26 : lw_okq (⟨"CommandTreeModel", "row", "(II)V"⟩, 25) := ⟨⟨by decide +kernel, by decide +kernel⟩, List.mem_of_getElem? (i := 554) (by decide +kernel), List.mem_of_getElem? (i := 679) (by decide +kernel), List.mem_of_getElem? (i := 680) (by decide +kernel)⟩
theorem lw_p27 : lw_okq (⟨"CommandTreeModel", "isSector", "(I)Z"⟩, 25) := ⟨⟨by decide +kernel, by decide +kernel⟩, List.mem_of_getElem? (i := 554) (by decide +kernel), List.mem_of_getElem? (i := 691) (by decide +kernel), List.mem_of_getElem? (i := 692) (by decide +kernel)⟩
theorem lw_p28 : lw_okq (⟨"CommandTreeModel", "isOpen", "(I)Z"⟩, 25) := ⟨⟨by decide +kernel, by decide +kernel⟩, List.mem_of_getElem? (i := 554) (by decide +kernel), List.mem_of_getElem? (i := 695) (by decide +kernel), List.mem_of_getElem? (i := 696) (by decide +kernel)⟩
theorem lw_p29 : lw_okq (⟨"CommandTreeModel", "isUnit", "(I)Z"⟩, 25) := ⟨⟨by decide +kernel, by decide +kernel⟩, List.mem_of_getElem? (i := 554) (by decide +kernel), List.mem_of_getElem? (i := 703) (by decide +kernel), List.mem_of_getElem? (i := 704) (by decide +kernel)⟩
theorem lw_p30 : lw_okq (⟨"CommandTreeModel", "isBelow", "(II)Z"⟩, 25) := ⟨⟨by decide +kernel, by decide +kernel⟩, List.mem_of_getElem? (i := 554) (by decide +kernel), List.mem_of_getElem? (i := 715) (by decide +kernel), List.mem_of_getElem? (i := 716) (by decide +kernel)⟩
theorem lw_p31 : lw_okq (⟨"CommandTreeModel", "isPassed", "(I)Z"⟩, 25) := ⟨⟨by decide +kernel, by decide +kernel⟩, List.mem_of_getElem? (i := 554) (by decide +kernel), List.mem_of_getElem? (i := 740) (by decide +kernel), List.mem_of_getElem? (i := 741) (by decide +kernel)⟩
def lw_privs_2 : List (MethodName × Nat) := [(⟨"CommandTree", "moveSectorsBelow", "(II)V"⟩, 16), (⟨"CommandTree", "requireTask", "(I)V"⟩, 16), (⟨"CommandTree", "isPassed", "(I)Z"⟩, 16), (⟨"CommandTree", "countOpenBelow", "(I)I"⟩, 16), (⟨"CommandTreeModel", "goes", "(IZZZZ)Z"⟩, 25), (⟨"CommandTreeModel", "isPerson", "(I)Z"⟩, 25), (⟨"CommandTreeModel", "moves", "(II)V"⟩, 25), (⟨"CommandTreeModel", "leads", "(I)I"⟩, 25), (⟨"CommandTreeModel", "next", "(I)I"⟩, 25), (⟨"CommandTreeModel", "lead", "(II)V"⟩, 25), (⟨"CommandTreeModel", "row", "(II)V"⟩, 25), (⟨"CommandTreeModel", "isSector", "(I)Z"⟩, 25), (⟨"CommandTreeModel", "isOpen", "(I)Z"⟩, 25), (⟨"CommandTreeModel", "isUnit", "(I)Z"⟩, 25), (⟨"CommandTreeModel", "isBelow", "(II)Z"⟩, 25), (⟨"CommandTreeModel", "isPassed", "(I)Z"⟩, 25)]
theorem lw_r2 : ∀ q ∈ lw_privs_2, lw_okq q := List.forall_mem_cons.mpr ⟨lw_p16, List.forall_mem_cons.mpr ⟨lw_p17, List.forall_mem_cons.mpr ⟨lw_p18, List.forall_mem_cons.mpr ⟨lw_p19, List.forall_mem_cons.mpr ⟨lw_p20, List.forall_mem_cons.mpr ⟨lw_p21, List.forall_mem_cons.mpr ⟨lw_p22, List.forall_mem_cons.mpr ⟨lw_p23, List.forall_mem_cons.mpr ⟨lw_p24, List.forall_mem_cons.mpr ⟨lw_p25, List.forall_mem_cons.mpr ⟨lw_p26, List.forall_mem_cons.mpr ⟨lw_p27, List.forall_mem_cons.mpr ⟨lw_p28, List.forall_mem_cons.mpr ⟨lw_p29, List.forall_mem_cons.mpr ⟨lw_p30, List.forall_mem_cons.mpr ⟨lw_p31, fun _ h => absurd h List.not_mem_nil⟩⟩⟩⟩⟩⟩⟩⟩⟩⟩⟩⟩⟩⟩⟩⟩
theorem lw_p32 : lw_okq (⟨"CommandTreeModel", "below", "(I)I"⟩, 25) := ⟨⟨by decide +kernel, by decide +kernel⟩, List.mem_of_getElem? (i := 554) (by decide +kernel), List.mem_of_getElem? (i := 744) (by decide +kernel), List.mem_of_getElem? (i := 745) (by decide +kernel)⟩
theorem lw_p33 : lw_okq (⟨"CommandTreeModel", "unitsIn", "(I)I"⟩, 25) := ⟨⟨by decide +kernel, by decide +kernel⟩, List.mem_of_getElem? (i := 554) (by decide +kernel), List.mem_of_getElem? (i := 748) (by decide +kernel), List.mem_of_getElem? (i := 749) (by decide +kernel)⟩
def lw_privs_3 : List (MethodName × Nat) := [(⟨"CommandTreeModel", "below", "(I)I"⟩, 25), (⟨"CommandTreeModel", "unitsIn", "(I)I"⟩, 25)]
theorem lw_r3 : ∀ q ∈ lw_privs_3, lw_okq q := List.forall_mem_cons.mpr ⟨lw_p32, List.forall_mem_cons.mpr ⟨lw_p33, fun _ h => absurd h List.not_mem_nil⟩⟩
def lw_privs : List (MethodName × Nat) := lw_privs_1 ++ (lw_privs_2 ++ (lw_privs_3))
def lw_tbl : List Cond := k2_sels lw_privs ++ tables_1
theorem lw_privs_ok : ∀ q ∈ lw_privs, lw_okq q := by
  show ∀ q ∈ lw_privs_1 ++ (lw_privs_2 ++ (lw_privs_3)), lw_okq q
  exact List.forall_mem_append.mpr ⟨lw_r1, List.forall_mem_append.mpr ⟨lw_r2, lw_r3⟩⟩
end
section
/-! NAMES, printed by wip/whole/names.py: the tables' words by their places, the classes, the methods, their instructions -/
theorem tb_1 : ∀ w ∈ tables_1_1, w ∈ lw_tbl := fun w h => List.mem_append_right _ (List.mem_append_left _ h)
theorem tb_2 : ∀ w ∈ tables_1_2, w ∈ lw_tbl := fun w h => List.mem_append_right _ (List.mem_append_right _ (List.mem_append_left _ h))
theorem tb_3 : ∀ w ∈ tables_1_3, w ∈ lw_tbl := fun w h => List.mem_append_right _ (List.mem_append_right _ (List.mem_append_right _ (List.mem_append_left _ h)))
theorem tb_4 : ∀ w ∈ tables_1_4, w ∈ lw_tbl := fun w h => List.mem_append_right _ (List.mem_append_right _ (List.mem_append_right _ (List.mem_append_right _ h)))
def F_R : u_T := fun k => match k with
  | 0 => ("CommandTree$LeaderRows", "oldest", "I", false)
  | 1 => ("CommandTree$LeaderRows", "size", "I", false)
  | 2 => ("CommandTree$LeaderRows", "seconds", "[I", true)
  | 3 => ("CommandTree$LeaderRows", "sectorNumbers", "[I", true)
  | 4 => ("CommandTree$LeaderRows", "leaders", "[I", true)
  | 5 => ("CommandTree$LeaderRows", "leaderBeforeKept", "[I", true)
  | _ => ("CommandTree$LeaderRows", "latestDropped", "I", false)
def ty_R : Nat → FieldType := fun k => match k with
  | 0 => .int
  | 1 => .int
  | 2 => .array .int
  | 3 => .array .int
  | 4 => .array .int
  | 5 => .array .int
  | _ => .int
theorem nm_R : ∀ a, a < 7 → ∀ b, b < 7 → a ≠ b → (F_R a).2.1 ≠ (F_R b).2.1 := by decide +kernel
theorem tyo_R : ∀ k, k < 7 → parseFieldDescriptor (F_R k).2.2.1 = some (ty_R k) := by decide +kernel
theorem us_R : ∀ w ∈ u_ws "CommandTree$LeaderRows" F_R 7, w ∈ lw_tbl ∧ goodWord w = true := by decide +kernel
def F_T : u_T := fun k => match k with
  | 0 => ("CommandTree$TaskList", "size", "I", false)
  | 1 => ("CommandTree$TaskList", "sector", "[I", true)
  | 2 => ("CommandTree$TaskList", "until", "[I", true)
  | 3 => ("CommandTree$TaskList", "reply", "[I", true)
  | _ => ("CommandTree$TaskList", "replySecond", "[I", true)
def ty_T : Nat → FieldType := fun k => match k with
  | 0 => .int
  | 1 => .array .int
  | 2 => .array .int
  | 3 => .array .int
  | _ => .array .int
theorem nm_T : ∀ a, a < 5 → ∀ b, b < 5 → a ≠ b → (F_T a).2.1 ≠ (F_T b).2.1 := by decide +kernel
theorem tyo_T : ∀ k, k < 5 → parseFieldDescriptor (F_T k).2.2.1 = some (ty_T k) := by decide +kernel
theorem us_T : ∀ w ∈ u_ws "CommandTree$TaskList" F_T 5, w ∈ lw_tbl ∧ goodWord w = true := by decide +kernel
def F_C : u_T := fun k => match k with
  | 0 => ("CommandTree", "second", "I", false)
  | 1 => ("CommandTree", "mostPerLeader", "I", false)
  | 2 => ("CommandTree", "persons", "I", false)
  | 3 => ("CommandTree", "rankOf", "[I", true)
  | 4 => ("CommandTree", "arrivedAt", "[I", true)
  | 5 => ("CommandTree", "sectorOfPerson", "[I", true)
  | 6 => ("CommandTree", "sectorLedBy", "[I", true)
  | 7 => ("CommandTree", "units", "I", false)
  | 8 => ("CommandTree", "sectorOfUnit", "[I", true)
  | 9 => ("CommandTree", "sectors", "I", false)
  | 10 => ("CommandTree", "open", "[Z", true)
  | 11 => ("CommandTree", "above", "[I", true)
  | 12 => ("CommandTree", "leaderOf", "[I", true)
  | 13 => ("CommandTree", "offeredTo", "[I", true)
  | 14 => ("CommandTree", "tasks", "LCommandTree$TaskList;", true)
  | _ => ("CommandTree", "rows", "LCommandTree$LeaderRows;", true)
def ty_C : Nat → FieldType := fun k => match k with
  | 0 => .int
  | 1 => .int
  | 2 => .int
  | 3 => .array .int
  | 4 => .array .int
  | 5 => .array .int
  | 6 => .array .int
  | 7 => .int
  | 8 => .array .int
  | 9 => .int
  | 10 => .array .boolean
  | 11 => .array .int
  | 12 => .array .int
  | 13 => .array .int
  | 14 => .object "CommandTree$TaskList"
  | _ => .object "CommandTree$LeaderRows"
theorem nm_C : ∀ a, a < 16 → ∀ b, b < 16 → a ≠ b → (F_C a).2.1 ≠ (F_C b).2.1 := by decide +kernel
theorem tyo_C : ∀ k, k < 16 → parseFieldDescriptor (F_C k).2.2.1 = some (ty_C k) := by decide +kernel
theorem us_C : ∀ w ∈ u_ws "CommandTree" F_C 16, w ∈ lw_tbl ∧ goodWord w = true := by decide +kernel
def F_M : u_T := fun k => match k with
  | 0 => ("CommandTreeModel", "thrown", "I", false)
  | 1 => ("CommandTreeModel", "now", "I", false)
  | 2 => ("CommandTreeModel", "persons", "I", false)
  | 3 => ("CommandTreeModel", "rank", "[I", true)
  | 4 => ("CommandTreeModel", "in", "[I", true)
  | 5 => ("CommandTreeModel", "arrived", "[I", true)
  | 6 => ("CommandTreeModel", "units", "I", false)
  | 7 => ("CommandTreeModel", "unitIn", "[I", true)
  | 8 => ("CommandTreeModel", "sectors", "I", false)
  | 9 => ("CommandTreeModel", "joined", "[Z", true)
  | 10 => ("CommandTreeModel", "above", "[I", true)
  | 11 => ("CommandTreeModel", "leader", "[I", true)
  | 12 => ("CommandTreeModel", "offered", "[I", true)
  | 13 => ("CommandTreeModel", "span", "I", false)
  | 14 => ("CommandTreeModel", "tasks", "I", false)
  | 15 => ("CommandTreeModel", "taskOf", "[I", true)
  | 16 => ("CommandTreeModel", "until", "[I", true)
  | 17 => ("CommandTreeModel", "state", "[I", true)
  | 18 => ("CommandTreeModel", "answered", "[I", true)
  | 19 => ("CommandTreeModel", "rows", "I", false)
  | 20 => ("CommandTreeModel", "rowSector", "[I", true)
  | 21 => ("CommandTreeModel", "rowLeader", "[I", true)
  | 22 => ("CommandTreeModel", "rowSecond", "[I", true)
  | 23 => ("CommandTreeModel", "before", "[I", true)
  | _ => ("CommandTreeModel", "lost", "I", false)
def ty_M : Nat → FieldType := fun k => match k with
  | 0 => .int
  | 1 => .int
  | 2 => .int
  | 3 => .array .int
  | 4 => .array .int
  | 5 => .array .int
  | 6 => .int
  | 7 => .array .int
  | 8 => .int
  | 9 => .array .boolean
  | 10 => .array .int
  | 11 => .array .int
  | 12 => .array .int
  | 13 => .int
  | 14 => .int
  | 15 => .array .int
  | 16 => .array .int
  | 17 => .array .int
  | 18 => .array .int
  | 19 => .int
  | 20 => .array .int
  | 21 => .array .int
  | 22 => .array .int
  | 23 => .array .int
  | _ => .int
theorem nm_M : ∀ a, a < 25 → ∀ b, b < 25 → a ≠ b → (F_M a).2.1 ≠ (F_M b).2.1 := by decide +kernel
theorem tyo_M : ∀ k, k < 25 → parseFieldDescriptor (F_M k).2.2.1 = some (ty_M k) := by decide +kernel
theorem us_M : ∀ w ∈ u_ws "CommandTreeModel" F_M 25, w ∈ lw_tbl ∧ goodWord w = true := by decide +kernel
abbrev vwCl : List vw_C := [("CommandTree$LeaderRows", F_R, 7), ("CommandTree$TaskList", F_T, 5), ("CommandTree", F_C, 16), ("CommandTreeModel", F_M, 25)]
theorem ct_cls {ci : Nat} {C : String} {F : u_T} {N : Nat} (h : vwCl[ci]? = some (C, F, N)) : (∀ w ∈ u_ws C F N, w ∈ lw_tbl ∧ goodWord w = true) ∧ (∃ ty : Nat → FieldType, ∀ k, k < N → parseFieldDescriptor (F k).2.2.1 = some (ty k)) ∧ ∀ a, a < N → ∀ b, b < N → a ≠ b → (F a).2.1 ≠ (F b).2.1 := by
  match ci, h with
  | 0, h => cases h; exact ⟨us_R, ⟨ty_R, tyo_R⟩, nm_R⟩
  | 1, h => cases h; exact ⟨us_T, ⟨ty_T, tyo_T⟩, nm_T⟩
  | 2, h => cases h; exact ⟨us_C, ⟨ty_C, tyo_C⟩, nm_C⟩
  | 3, h => cases h; exact ⟨us_M, ⟨ty_M, tyo_M⟩, nm_M⟩
  | k + 4, h => simp [vwCl] at h
end
section
/-! FROM claim/NAMES.whole.lean.txt (printed for pasting): what throws and catches; its names of Bundle written out -/
section VXA
/-- where a method has thrown q: the class by its name, the cell, what was written, the world -/
def vx_T (XC : String → State → State → Prop) (st : State) (q : Addr) (t : State) (mc ms : Nat) (free : Addr → Prop) : Prop :=
  ∃ (E : String) (ce : Cell) (L : List Loc), XC E st t ∧ t.heap[q]? = some ce ∧ ce.vm = .none ∧ st.vm.findClass E = some ce.cls ∧ st.WarmedH t.vm ∧ st.sameButNew ({ t with vm := st.vm } : State) L mc ms ∧ ∀ z ∈ L, free z.base
def vx_Q (Qc : Array Value → State → Outcome → State → Prop) (XC : String → State → State → Prop) (mc ms : Nat) (free : Addr → Prop) : Array Value → State → Outcome → State → Prop := fun a st o t =>
  (Qc a st o t ∧ ∃ L, FrameEnd st o t L mc ms ∧ ∀ q ∈ L, free q.base) ∨ ∃ q, o = .threw q ∧ vx_T XC st q t mc ms free
/-- the method's frame g, with q thrown over it -/
def vx_W (p : Program) (l : Launch) (e : Env) (R : Room) (s : State) (m : MethodId) (args : Array Value) (below : List Frame) (meth : Method) (c : Code) (H : Heap) (locs : List Loc) (cells slots : Nat) (Q : State → Prop) (g : JFrame) (q : Addr) : Prop :=
  ∀ T : State, T.heap = H → Stand p l e R s m args below meth c T locs cells slots → ∃ t, Steps p.tables e below ((T.setTop g).pushFrame (.throwing q)) t ∧ Q t
section Rows
variable {p : Program} {l : Launch} {e : Env} {R : Room} {s : State} {m : MethodId} {args : Array Value} {below : List Frame} {meth : Method} {c : Code} {H : Heap} {locs : List Loc} {cells slots : Nat} {Q : State → Prop}
variable {mc ms : Nat} {free : Addr → Prop} {A0 A1 : Nat → Prop} {H0 : Heap} {a : Array Value} {pc : Nat} {ls : Array Slot} {st0 rest : List Value}
/-- caught by the row x of this method's table; the rows ahead don't take it -/
theorem vx_catch {own name : String} {E : String} {ce : Cell} {q : Addr} (hown : s.vm.findClass own = some m.cls) (pre : List ExceptionTableEntry) (x : ExceptionTableEntry) (suf : List ExceptionTableEntry) (hsplit : c.exceptionTable.toList = pre ++ x :: suf)
    (hpass : ∀ z ∈ pre, covers z pc = false ∨ (z.catchType ≠ 0 ∧ ∃ nm : String, (Cond.classLink own z.catchType nm).before args s = true ∧ va_Nc E nm s)) (hx : covers x pc = true) (h0 : x.catchType ≠ 0)
    (hlink : (Cond.classLink own x.catchType name).before args s = true) (hcast : (Cond.castable E name).before args s = true) (hcell : H[q]? = some ce) (hv : ce.vm = .none) (hcl : s.vm.findClass E = some ce.cls)
    (kk : W p l e R s m args below meth c H locs cells slots Q (F0 m x.handlerPc ls [.ref q])) : vx_W p l e R s m args below meth c H locs cells slots Q (F0 m pc ls rest) q := by
  intro T hT X
  have hpl : e.platform.magicAccessors = ({} : Platform).magicAccessors := by rw [X.admits.platform]
  obtain ⟨c3, c4, hc3, hc4, hasg⟩ := Cond.castable_spec hcast
  cases Option.some.inj (hc3.symm.trans hcl)
  obtain ⟨c5, hc5, hcl5⟩ := Cond.classLink_spec hown hlink e.platform hpl
  cases Option.some.inj (hc4.symm.trans hc5)
  obtain ⟨vm', X', st⟩ := X.thenCaughtThrough q (g := F0 m pc ls rest) rfl (Steps.refl _) (by rw [hT]; exact hcell) (by rw [hv]; rfl) (by obtain ⟨k9, h9, -⟩ := Vm.findClass_spec hcl; exact ⟨k9, h9⟩) pre x suf hsplit
    (fun z hz => by
      rcases hpass z hz with h | ⟨hz0, nm, hl1, hn1⟩
      · exact Or.inl h
      · obtain ⟨c6, hc6, hcl6⟩ := Cond.classLink_spec hown hl1 e.platform hpl
        obtain ⟨a8, b8, h1, h2, h3⟩ := hn1
        cases Option.some.inj (h1.symm.trans hcl)
        cases Option.some.inj (h2.symm.trans hc6)
        exact Or.inr ⟨hz0, _, hcl6, h3⟩) hx (Or.inr ⟨h0, c4, hcl5, hasg⟩)
  obtain ⟨t, a1, b1⟩ := kk (T.setVm vm') hT X'
  exact ⟨t, st.trans a1, b1⟩
end Rows
section Ends
variable {p : Program} {l : Launch} {e : Env} {R : Room} {s : State} {m : MethodId} {args : Array Value} {below : List Frame} {meth : Method} {c : Code} {H : Heap} {locs : List Loc} {cells slots : Nat} {Q : State → Prop}
variable {mc ms : Nat} {free : Addr → Prop} {A0 A1 : Nat → Prop} {H0 : Heap} {a : Array Value} {ls : Array Slot} {st0 rest : List Value}
variable {Qc : Array Value → State → Outcome → State → Prop} {XC : String → State → State → Prop}
/-- what a body that may throw owes at its end -/
def vx_MQ (below : List Frame) (Qc : Array Value → State → Outcome → State → Prop) (XC : String → State → State → Prop) (a : Array Value) (s : State) (mc ms : Nat) (free : Addr → Prop) : State → Prop := fun t =>
  ∃ o, t.status = .running ∧ Ended t below o ∧ vx_Q Qc XC mc ms free a s o t
theorem vx_frame {U : State} {k n : Nat} (h : s.sameButNew ({ U with vm := s.vm } : State) locs k n) : s.heap.size ≤ U.heap.size ∧ ∀ q : Nat, q < s.heap.size → (∀ z ∈ locs, z.base ≠ q) → U.heap[q]? = s.heap[q]? := by
  obtain ⟨-, h2, -, -, -, h6⟩ := h
  refine ⟨h2, fun q hq hz => ?_⟩
  obtain ⟨c9, e1, e2, e3, e4⟩ := h6 q _ (Array.getElem?_eq_getElem hq)
  have hs : c9.slots = (s.heap[q]).slots := Array.ext_getElem? fun i => e4 i fun hm => hz _ hm rfl
  have h9 : c9 = s.heap[q] := by
    rw [hs] at e2
    exact e2
  have e5 : U.heap[q]? = some c9 := e1
  rw [e5, h9, Array.getElem?_eq_getElem hq]
/-- the words of a throw but the four that speak of the heap -/
def vx_no (w : Cond) : Bool := decide (w ≠ .isRef (.static Bundle.tN "UNASSIGNED_STACK" Bundle.steD)) && decide (w ≠ .isRef (.static Bundle.tN "SUPPRESSED_SENTINEL" Bundle.listD)) && decide (w ≠ .laysStatic Bundle.tN "UNASSIGNED_STACK" Bundle.steD) && decide (w ≠ .laysStatic Bundle.tN "SUPPRESSED_SENTINEL" Bundle.listD)
def vx_atS (own : String) (ic : Nat) (X : String) (names : List String) : List Cond := (Bundle.ownAtoms own ic X names).filter vx_no
/-- a word that the tables alone decide, or a good one -/
def vx_ot (w : Cond) : Bool := w.onTables || goodWord w
theorem vx_ot_at {args a' : Array Value} {s U : State} {w : Cond} (hW : s.WarmedH U.vm) (hvm : s.vm = U.vm) (hg : vx_ot w = true) (h : w.before args s = true) : w.before a' U = true := by
  simp only [vx_ot, Bool.or_eq_true] at hg
  rcases hg with hg | hg
  · exact va_tabs hg hvm h
  · exact word_at hW (good_of_word hg) h
/-- a list's words: the good ones out of the method's own list, the others by premises of their own -/
theorem vx_own {args : Array Value} {s : State} {L : List Cond} (h1 : ∀ w ∈ L.filter vx_no, w.before args s = true)
    (hU : (Cond.isRef (.static Bundle.tN "UNASSIGNED_STACK" Bundle.steD)).before args s = true) (hN : (Cond.isRef (.static Bundle.tN "SUPPRESSED_SENTINEL" Bundle.listD)).before args s = true)
    (lU : (Cond.laysStatic Bundle.tN "UNASSIGNED_STACK" Bundle.steD).before args s = true) (lN : (Cond.laysStatic Bundle.tN "SUPPRESSED_SENTINEL" Bundle.listD).before args s = true) : ∀ w ∈ L, w.before args s = true := by
  intro w hw
  by_cases e1 : w = .isRef (.static Bundle.tN "UNASSIGNED_STACK" Bundle.steD)
  · rw [e1]; exact hU
  · by_cases e2 : w = .isRef (.static Bundle.tN "SUPPRESSED_SENTINEL" Bundle.listD)
    · rw [e2]; exact hN
    · by_cases e3 : w = .laysStatic Bundle.tN "UNASSIGNED_STACK" Bundle.steD
      · rw [e3]; exact lU
      · by_cases e4 : w = .laysStatic Bundle.tN "SUPPRESSED_SENTINEL" Bundle.listD
        · rw [e4]; exact lN
        · exact h1 w (List.mem_filter.mpr ⟨hw, by unfold vx_no; rw [decide_eq_true e1, decide_eq_true e2, decide_eq_true e3, decide_eq_true e4]; rfl⟩)
/-- where a static field lies, its class's statics cell in H -/
def vx_L (C n d : String) (A : Nat → Prop) (U : State) (H : Heap) : Prop := ∃ (c : ClassId) (k : Class) (i : Nat) (f : Field) (a : Nat) (cell : Cell), U.vm.findClass C = some c ∧ U.fieldFound? C n d = some (c, k, i, f) ∧ f.isStatic = true ∧ k.statics = some a ∧ H[a]? = some cell ∧ cell.vm.isStatics = true ∧ cell.cls = c ∧ f.slot < cell.slots.size ∧ k.staticTypes[f.slot]? = some f.type ∧ ¬ A a
theorem vx_L.moved {C n d : String} {A : Nat → Prop} {u U : State} {H : Heap} (hvm : u.vm.Alike U.vm) (h : vx_L C n d A u H) : vx_L C n d A U H := by
  obtain ⟨c, k, i, f, a, cell, h1, h2, h3, h4, h5, h6, h7, h8, h9, h10⟩ := h
  obtain ⟨k', hi', he⟩ := State.fieldFound?_setVm hvm h2
  exact ⟨c, k', i, f, a, cell, by rw [hvm.findClass]; exact h1, hi', h3, by rw [he]; exact h4, h5, h6, h7, h8, by rw [he]; exact h9, h10⟩
theorem vx_L.kept {C n d : String} {A : Nat → Prop} {U : State} {H H1 : Heap} (h : vx_L C n d A U H) (hq : ∀ a : Nat, a < H.size → ¬ A a → H1[a]? = H[a]?) : vx_L C n d A U H1 := by
  obtain ⟨c, k, i, f, a, cell, h1, h2, h3, h4, h5, h6, h7, h8, h9, h10⟩ := h
  exact ⟨c, k, i, f, a, cell, h1, h2, h3, h4, by rw [hq a (Array.getElem?_eq_some_iff.mp h5).1 h10]; exact h5, h6, h7, h8, h9, h10⟩
theorem vx_L.narrow {C n d : String} {A B : Nat → Prop} {U : State} {H : Heap} (h : vx_L C n d A U H) (hAB : ∀ q, B q → A q) : vx_L C n d B U H := by
  obtain ⟨c, k, i, f, a, cell, h1, h2, h3, h4, h5, h6, h7, h8, h9, h10⟩ := h
  exact ⟨c, k, i, f, a, cell, h1, h2, h3, h4, h5, h6, h7, h8, h9, fun z => h10 (hAB _ z)⟩
theorem vx_L.word {C n d : String} {A : Nat → Prop} {s : State} {args : Array Value} (h : vx_L C n d A s s.heap) : (Cond.laysStatic C n d).before args s = true := by
  obtain ⟨c, k, i, f, a, cell, h1, h2, h3, h4, h5, h6, h7, h8, h9, -⟩ := h
  show (Cond.laysStatic C n d).holds args s none s [] = true
  exact Cond.laysStatic_of h1 h2 h3 h4 h5 h6 h7 h8 h9
/-- .. and what it holds: null or some reference -/
def vx_Zq (C n d : String) (A : Nat → Prop) (U : State) (H : Heap) : Prop := va_Zq C n d A U H ∧ vx_L C n d A U H
theorem vx_Zq.moved {C n d : String} {A : Nat → Prop} {u U : State} {H : Heap} (hvm : u.vm.Alike U.vm) (h : vx_Zq C n d A u H) : vx_Zq C n d A U H := ⟨va_Zq.moved hvm h.1, vx_L.moved hvm h.2⟩
theorem vx_Zq.kept {C n d : String} {A : Nat → Prop} {U : State} {H H1 : Heap} (h : vx_Zq C n d A U H) (hq : ∀ a : Nat, a < H.size → ¬ A a → H1[a]? = H[a]?) : vx_Zq C n d A U H1 := ⟨va_Zq.kept h.1 hq, vx_L.kept h.2 hq⟩
theorem vx_Zq.narrow {C n d : String} {A B : Nat → Prop} {U : State} {H : Heap} (h : vx_Zq C n d A U H) (hAB : ∀ q, B q → A q) : vx_Zq C n d B U H := ⟨va_Zq.narrow h.1 hAB, vx_L.narrow h.2 hAB⟩
theorem vx_Zqof {args : Array Value} {s : State} {C n d : String} {A : Nat → Prop} (hl : (Cond.laysStatic C n d).before args s = true) (hini : (Cond.initialized C).before args s = true) (h : (Cond.isRef (.static C n d)).before args s = true) (hA : ∀ a : Nat, a < s.heap.size → ¬ A a) : vx_Zq C n d A s s.heap := by
  refine ⟨va_Zqof hl hini h hA, ?_⟩
  obtain ⟨c, k, i, f, a, cell, h1, h2, h3, h4, h5, h6, h7, h8, h9⟩ := Cond.laysStatic_spec hl
  exact ⟨c, k, i, f, a, cell, h1, h2, h3, h4, h5, h6, h7, h8, h9, hA a (Array.getElem?_eq_some_iff.mp h5).1⟩
theorem vx_isRef {C n d : String} {v : Value} {A : Nat → Prop} {s : State} {args : Array Value} (h : va_Z C n d v A s s.heap) (hv : v.isRef = true) : (Cond.isRef (.static C n d)).before args s = true := by
  obtain ⟨cf, kf, fi, f, a, cell, h1, h2, h3, h4, h5, h6, h7, -⟩ := h
  have he : (Term.static C n d).eval args s none [] s = some v := by
    simp [Term.eval, State.fieldNamed?, h1, h2, h4, h5, h6, h7]
  simp only [Cond.before, Cond.holds, Cond.value, he]
  cases v <;> simp_all [Value.isRef]
theorem vx_isRefq {C n d : String} {A : Nat → Prop} {s : State} {args : Array Value} (h : va_Zq C n d A s s.heap) : (Cond.isRef (.static C n d)).before args s = true := by
  rcases h with h | ⟨t, h⟩
  · exact vx_isRef h rfl
  · exact vx_isRef h rfl
/-- the same frame, seen from here: as if the method were called anew in this heap -/
theorem vx_rebase {T : State} (X : Stand p l e R s m args below meth c T locs cells slots) {R' : Room} (hf : R'.frames ≤ R.frames) (hl : R'.locals ≤ R.locals) (hc : cells + R'.cells ≤ R.cells) (hs : slots + R'.slots ≤ R.slots) :
    Stand p l e R' ((T.setVm s.vm).setFrames (.invoking m args :: below)) m args below meth c T [] 0 0 := by
  have htop : (T.setVm s.vm).topJava?.isSome := X.here.top
  have hF : ((T.setVm s.vm).setFrames (.invoking m args :: below)).frames = .invoking m args :: below := State.frames_setFrames _ (State.cur_lt_of_top htop)
  obtain ⟨g₀, hg0⟩ := Option.isSome_iff_exists.mp htop
  obtain ⟨r, hr⟩ := State.topJava?_eq_some.mp hg0
  have hl9 : e.platform.stackLimits (T.setVm s.vm).me = e.platform.stackLimits s.me := X.limits
  have hb9 : (T.setVm s.vm).me.stackBytes = s.me.stackBytes := X.bytes
  refine ⟨X.admits, X.cas, X.clock, hF, ?_, X.hears, X.method, X.code, X.here, X.tail, X.warmed, ?_, ?_, ?_⟩
  · have h := X.room
    have hU : ((T.setVm s.vm).setFrames (.invoking m args :: below)).localsInUse = s.localsInUse := by
      rw [State.localsInUse_invoking hF (meth := meth) (c := c) X.method X.code, State.localsInUse_invoking X.frames X.method X.code]
    simp only [State.hasRoom, Bool.and_eq_true, decide_eq_true_eq] at h ⊢
    obtain ⟨⟨⟨⟨h1, h2, h3, h4, h5, h6⟩, h7⟩, h8⟩, h9⟩ := h
    rw [X.frames, List.length_cons] at h2 h3
    have q1 := X.heapSize
    have q2 := X.used
    simp only [hF, hU, List.length_cons, State.stackLimits_setFrames, State.stackBytes_setFrames, hl9, hb9]
    refine ⟨⟨⟨⟨by omega, by omega, by omega, by omega, by omega, h6⟩, ?_⟩, ?_⟩, X.book⟩
    · show T.heap.size + R'.cells ≤ e.platform.maxCells
      omega
    · show T.slotsUsed + R'.slots ≤ e.platform.maxSlots
      omega
  · rw [State.stackLimits_setFrames]; rfl
  · rw [State.stackBytes_setFrames]; rfl
  · refine ⟨?_, Nat.le_refl _, Nat.le_refl _, ?_, ?_, fun a c9 h9 => ⟨c9, h9, rfl, rfl, fun _ _ => rfl⟩⟩
    · obtain ⟨t, ht, -⟩ := State.frames_cons hr
      show T.setVm s.vm = { ((T.setVm s.vm).setFrames (.invoking m args :: below)).setFrames (T.setVm s.vm).frames with heap := T.heap, slotsUsed := T.slotsUsed }
      rw [State.setFrames_setFrames, State.setFrames_self ht]
      rfl
    · show T.slotsUsed = T.slotsUsed + ((T.heap.toList.drop T.heap.size).map (·.slots.size)).sum
      rw [List.drop_eq_nil_of_le (Nat.le_of_eq Array.length_toList)]
      rfl
    · show ((T.heap.toList.drop T.heap.size).map (·.slots.size)).sum ≤ 0
      rw [List.drop_eq_nil_of_le (Nat.le_of_eq Array.length_toList)]
      exact Nat.le_refl _
/-- 'throw new E("text")': new; dup; ldc; invokespecial; athrow -/
theorem vx_throwS {cc : ByteArray} {pc : Nat} (hexec : p.tables.exec = Jvm.exec) (hb : c.code = cc) (hl : l.stackTraces = false) {own cls text : String} {names : List String} {ik is ic mc ms sa : Nat} {A : Nat → Prop}
    (hown : s.vm.findClass own = some m.cls) (hcls : Bundle.fit cls = true) (hnames : ∀ n ∈ names, Bundle.fit n = true)
    (hk : (Cond.classLink own ik cls).before args s = true) (hini : (Cond.initialized cls).before args s = true) (hstr : vk_R own is text sa s) (hat : ∀ w ∈ vx_atS own ic cls names, w.before args s = true)
    (hgood : ∀ w ∈ Cond.classLink own ik cls :: Cond.initialized cls :: vx_atS own ic cls names, vx_ot w = true)
    (hU : vx_Zq Bundle.tN "UNASSIGNED_STACK" Bundle.steD A s s.heap) (hN : vx_Zq Bundle.tN "SUPPRESSED_SENTINEL" Bundle.listD A s s.heap) (hS : va_S A s.heap H locs) (hsize : ls.size = c.maxLocals)
    (d0 : decode cc pc = .ok (.new ik, 3)) (d3 : decode cc (pc + 3) = .ok (.dup, 1)) (d4 : decode cc (pc + 4) = .ok (.ldc is, 2)) (d6 : decode cc (pc + 6) = .ok (.invokespecial ic, 3)) (d9 : decode cc (pc + 9) = .ok (.athrow, 1))
    (hout : ∀ x ∈ c.exceptionTable.toList, covers x (pc + 9) = false)
    (hRframes : names.length + 3 < R.frames) (hRlocals : (rest.map fun v => v.category).sum + (13 * (names.length + 1) + 43) ≤ R.locals) (hRcells : cells + 1 ≤ R.cells) (hRslots : slots + 6 ≤ R.slots) (hlocks : meth.locks = false)
    (hx : ∀ t : State, s.vm.Alike t.vm → H.size ≤ t.heap.size → (∀ q : Nat, q < H.size → t.heap[q]? = H[q]?) → XC cls s t)
    (hf : ∀ z ∈ locs, free z.base) (hc : cells + 1 ≤ mc) (hs : slots + 6 ≤ ms) :
    W p l e R s m args below meth c H locs cells slots (vx_MQ below Qc XC args s mc ms free) (F0 m pc ls rest) := by
  intro T hT X
  have htr : e.platform.stackTraces = false := (show e.platform.stackTraces = l.stackTraces by rw [X.admits.platform]).trans hl
  have Y := vx_rebase X (R' := { frames := R.frames, locals := R.locals, cells := 1, slots := 6 }) (Nat.le_refl _) (Nat.le_refl _) hRcells hRslots
  obtain ⟨s', hA⟩ : ∃ z, z = (T.setVm s.vm).setFrames (.invoking m args :: below) := ⟨_, rfl⟩
  rw [← hA] at Y
  have hvm : s'.vm = s.vm := by rw [hA]; rfl
  have hhp : s'.heap = H := by rw [hA]; exact hT
  have hW0 : s.WarmedH s'.vm := by rw [hvm]; exact State.WarmedH.refl s
  have hat' : ∀ w ∈ vx_atS own ic cls names, w.before args s' = true := fun w hw => vx_ot_at hW0 hvm.symm (hgood w (List.mem_cons_of_mem _ (List.mem_cons_of_mem _ hw))) (hat w hw)
  have hk' : (Cond.classLink own ik cls).before args s' = true := vx_ot_at hW0 hvm.symm (hgood _ List.mem_cons_self) hk
  have hini' : (Cond.initialized cls).before args s' = true := vx_ot_at hW0 hvm.symm (hgood _ (List.mem_cons_of_mem _ List.mem_cons_self)) hini
  have hU' : vx_Zq Bundle.tN "UNASSIGNED_STACK" Bundle.steD A s' s'.heap := by rw [hhp]; exact vx_Zq.moved hW0.alike (hU.kept hS.2.1)
  have hN' : vx_Zq Bundle.tN "SUPPRESSED_SENTINEL" Bundle.listD A s' s'.heap := by rw [hhp]; exact vx_Zq.moved hW0.alike (hN.kept hS.2.1)
  have h : ∀ w ∈ Bundle.ownAtoms own ic cls names, w.before args s' = true := vx_own hat' (vx_isRefq hU'.1) (vx_isRefq hN'.1) hU'.2.word hN'.2.word
  have hown' : s'.vm.findClass own = some m.cls := by rw [hvm]; exact hown
  have hins : (Cond.instantiable cls 6).before args s' = true := h _ (by simp [Bundle.ownAtoms])
  obtain ⟨vm₁, cX, kX, hfX, hkX, -, -, X₁, st1⟩ := Y.newCold hexec (own := own) (C := cls) (index := ik) (n := 6) hown' hk' hins hini'
    (g := F0 m pc ls rest) rfl (by rw [hb]; exact d0) (Nat.le_refl _) (Nat.le_refl _)
  generalize hT1 : (T.setVm vm₁).pushCell { cls := cX, slots := kX.instanceTypes.map defaultValue, vm := .none } = T1 at X₁ st1
  have hcat : (Value.ref T.heap.size).category = 1 := rfl
  have hcellA : T1.heap[T.heap.size]? = some (freshCell cX kX) := by rw [← hT1]; exact State.heap_pushCell_size _ _
  have d3' : decode c.code (pc + 3) = .ok (.dup, 1) := by rw [hb]; exact d3
  have d4' : decode c.code (pc + 4) = .ok (.ldc is, 2) := by rw [hb]; exact d4
  have hstr' : vk_R own is text sa s' := vk_R.warm hW0 hstr
  obtain ⟨U, hsteps, hrun, hend, hW, hsame, ce, hce, hO⟩ := X₁.ctorThrowS hexec htr (own := own) (cls := cls) (names := names) (ic := ic) hown' hcls hnames h (fun x hx => nomatch hx) hfX hkX hcellA (by rw [hhp, hT]; exact Nat.le_refl _) (msg := .ref sa) rfl
    (g := { method := m, pc := pc + 6, locals := ls, stack := .ref sa :: .ref T.heap.size :: .ref T.heap.size :: rest, locked := none }) rfl hsize rfl rfl (rest := rest) rfl
    (by rw [hb]; exact d6) (by rw [hb]; exact d9) hout hRframes (by simp only [List.map_cons, List.sum_cons, hcat]; omega) hlocks
  obtain ⟨f1, f2⟩ := vx_frame hsame
  rw [hhp] at f1 f2
  have hWs : s.WarmedH U.vm := State.WarmedH.trans hW0 hW
  have hcl : s.vm.findClass cls = some ce.cls := by
    have h9 := hO.cls
    rw [hvm] at h9
    exact h9
  have hall : s.sameButNew ({ U with vm := s.vm } : State) locs mc ms := by
    subst hA
    obtain ⟨e1, e2⟩ := hsame
    rw [State.setFrames_setFrames] at e1
    have h2 : (T.setVm s.vm).sameButNew ({ U with vm := s.vm } : State) [] (0 + 1) (0 + 6) := ⟨e1, e2⟩
    have h3 := X.same.trans h2
    rw [List.append_nil] at h3
    exact h3.mono hc hs
  refine ⟨U, ?_, .threw T.heap.size, hrun, hend, Or.inr ⟨T.heap.size, rfl, cls, ce, locs, hx U hWs.alike f1 (fun q hq => f2 q hq (fun z hz => nomatch hz)), hce, hO.vm, hcl, hWs, hall, hf⟩⟩
  refine st1 _ ?_
  show Steps p.tables e below (T1.setTop { method := m, pc := pc + 3, locals := ls, stack := .ref T.heap.size :: rest, locked := none }) _
  jvm_step X₁.here [X₁.here.top, hexec, d3', Value.category]
  exact X₁.ldcString hexec (own := own) (text := text) (index := is) (a := sa) hown' hstr'.1 hstr'.2
    (g := { method := m, pc := pc + 4, locals := ls, stack := .ref T.heap.size :: .ref T.heap.size :: rest, locked := none }) rfl d4' _ hsteps
end Ends
end VXA
end
section
/-! AN OWN LAYER OVER THE KIT: worlds by cell numbers. cv: a value whose references are cell numbers, at addresses ad; ce, cw: a cell, a world -/
def cv (ad : Nat → Nat) : Value → Value
  | .ref k => .ref (ad k)
  | .int x => .int x
  | .long x => .long x
  | .float x => .float x
  | .double x => .double x
  | .null => .null
  | .retAddr x => .retAddr x
theorem cv_cat (ad : Nat → Nat) (v : Value) : (cv ad v).category = v.category := by cases v <;> rfl
abbrev ct_E : Type := (Nat × vp_A) ⊕ (Nat × List Value)
abbrev ct_W : Type := List ct_E
def ce (tc : Nat → ClassId) (ad : Nat → Nat) : ct_E → va_E
  | .inl a => .inl (tc a.1, a.2)
  | .inr o => .inr (o.1, o.2.map (cv ad))
def cw (tc : Nat → ClassId) (ad : Nat → Nat) (w : ct_W) : va_W := w.mapIdx (fun k c => (ad k, ce tc ad c))
theorem cw_at {tc : Nat → ClassId} {ad : Nat → Nat} {w : ct_W} {k : Nat} {c : ct_E} (h : w[k]? = some c) : (cw tc ad w)[k]? = some (ad k, ce tc ad c) := by
  simp [cw, List.getElem?_mapIdx, h]
theorem cw_inv {tc : Nat → ClassId} {ad : Nat → Nat} {w : ct_W} {k : Nat} {q : Nat × va_E} (h : (cw tc ad w)[k]? = some q) : ∃ c, w[k]? = some c ∧ q = (ad k, ce tc ad c) := by
  rw [cw, List.getElem?_mapIdx] at h
  cases hc : w[k]? with
  | none => rw [hc] at h; cases h
  | some c => rw [hc] at h; exact ⟨c, rfl, (Option.some.inj h).symm⟩
theorem cw_set {tc : Nat → ClassId} {ad : Nat → Nat} {w : ct_W} {k : Nat} {c : ct_E} : (cw tc ad w).set k (ad k, ce tc ad c) = cw tc ad (w.set k c) := by
  apply List.ext_getElem?
  intro i
  simp only [cw, List.getElem?_mapIdx, List.getElem?_set, List.length_mapIdx]
  by_cases h : k = i
  · subst h
    by_cases h2 : k < w.length <;> simp [h2]
  · simp [h]
/-- no reference to a cell number from n on, below n' -/
def wfV (n n' : Nat) : Value → Bool
  | .ref k => Nat.blt k n || Nat.ble n' k
  | _ => true
def wfE (n n' : Nat) : ct_E → Bool
  | .inl _ => true
  | .inr o => o.2.all (wfV n n')
def wfW (n n' : Nat) (w : ct_W) : Bool := w.all (wfE n n')
def wfO (n n' : Nat) : Option Value → Bool
  | none => true
  | some v => wfV n n' v
def wfL (n n' : Nat) (ls : List (Option Value)) : Bool := ls.all (wfO n n')
def wfS (n n' : Nat) (st : List Value) : Bool := st.all (wfV n n')
def ct_ag (n n' : Nat) (ad ad' : Nat → Nat) : Prop := ∀ i : Nat, (i < n ∨ n' ≤ i) → ad' i = ad i
theorem cv_wf {n n' : Nat} {ad ad' : Nat → Nat} {v : Value} (h : wfV n n' v = true) (ha : ct_ag n n' ad ad') : cv ad' v = cv ad v := by
  cases v with
  | ref k =>
    have h1 : k < n ∨ n' ≤ k := by
      simp only [wfV, Bool.or_eq_true, Nat.blt_eq, Nat.ble_eq] at h
      exact h
    simp only [cv, ha k h1]
  | _ => rfl
theorem cvs_wf {n n' : Nat} {ad ad' : Nat → Nat} {st : List Value} (h : wfS n n' st = true) (ha : ct_ag n n' ad ad') : st.map (cv ad') = st.map (cv ad) :=
  List.map_congr_left fun v hv => cv_wf (List.all_eq_true.mp h v hv) ha
theorem ce_wf {n n' : Nat} {tc : Nat → ClassId} {ad ad' : Nat → Nat} {c : ct_E} (h : wfE n n' c = true) (ha : ct_ag n n' ad ad') : ce tc ad' c = ce tc ad c := by
  cases c with
  | inl a => rfl
  | inr o =>
    show Sum.inr (o.1, o.2.map (cv ad')) = Sum.inr (o.1, o.2.map (cv ad))
    rw [cvs_wf h ha]
theorem cw_wf {n' : Nat} {tc : Nat → ClassId} {ad ad' : Nat → Nat} {w : ct_W} (h : wfW w.length n' w = true) (ha : ct_ag w.length n' ad ad') : cw tc ad' w = cw tc ad w := by
  apply List.ext_getElem?
  intro i
  simp only [cw, List.getElem?_mapIdx]
  cases hc : w[i]? with
  | none => rfl
  | some c =>
    have hi : i < w.length := (List.getElem?_eq_some_iff.mp hc).1
    have h1 : wfE w.length n' c = true := List.all_eq_true.mp h c (List.mem_of_getElem? hc)
    simp only [Option.map_some, ha i (Or.inl hi), ce_wf h1 ha]
theorem cw_push {tc : Nat → ClassId} {ad : Nat → Nat} {w : ct_W} {c : ct_E} {q : Nat} (h : wfW w.length (w.length + 1) w = true) (hc : wfE w.length (w.length + 1) c = true) :
    cw tc (va_up ad w.length q) (w ++ [c]) = cw tc ad w ++ [(q, ce tc ad c)] := by
  have ha : ct_ag w.length (w.length + 1) ad (va_up ad w.length q) := fun i hi => va_up_ne _ _ (by omega)
  have h1 : cw tc (va_up ad w.length q) (w ++ [c]) = cw tc (va_up ad w.length q) w ++ [(va_up ad w.length q w.length, ce tc (va_up ad w.length q) c)] := by
    simp [cw]
  rw [h1, cw_wf h ha, ce_wf hc ha, va_up_self]
/-- the locals: ls has the known ones, at their places -/
def LV (ad : Nat → Nat) (nL : Nat) (ls : List (Option Value)) (arr : Array Slot) : Prop :=
  lv_has arr nL [] ∧ ∀ (i : Nat) (v : Value), ls[i]? = some (some v) → v.category = 1 ∧ arr[i]? = some (.val (cv ad v))
def lvl (ad : Nat → Nat) (nL : Nat) (ls : List (Option Value)) : List (Nat × Value) := (List.range nL).filterMap (fun i => (ls[i]?.join).map (fun v => (i, cv ad v)))
theorem lvl_mem {ad : Nat → Nat} {nL : Nat} {ls : List (Option Value)} {i : Nat} {v : Value} (hi : i < nL) (h : ls[i]? = some (some v)) : (i, cv ad v) ∈ lvl ad nL ls :=
  List.mem_filterMap.mpr ⟨i, List.mem_range.mpr hi, by rw [h]; rfl⟩
theorem lvl_inv {ad : Nat → Nat} {nL : Nat} {ls : List (Option Value)} {q : Nat × Value} (h : q ∈ lvl ad nL ls) : ∃ v, ls[q.1]? = some (some v) ∧ q.2 = cv ad v := by
  obtain ⟨i, -, h2⟩ := List.mem_filterMap.mp h
  cases h3 : ls[i]? with
  | none => rw [h3] at h2; cases h2
  | some o =>
    cases o with
    | none => rw [h3] at h2; cases h2
    | some v =>
      rw [h3] at h2
      have h4 : (i, cv ad v) = q := Option.some.inj h2
      subst h4
      exact ⟨v, h3, rfl⟩
theorem LV.has {ad : Nat → Nat} {nL : Nat} {ls : List (Option Value)} {arr : Array Slot} (h : LV ad nL ls arr) : lv_has arr nL (lvl ad nL ls) := by
  refine ⟨h.1.1, h.1.2.1, fun q hq => ?_⟩
  obtain ⟨v, h1, h2⟩ := lvl_inv hq
  rw [h2]
  exact (h.2 q.1 v h1).2
theorem LV.get {ad : Nat → Nat} {nL : Nat} {ls : List (Option Value)} {arr : Array Slot} (h : LV ad nL ls arr) {i : Nat} {v : Value} (hv : ls[i]? = some (some v)) : arr[i]? = some (.val (cv ad v)) := (h.2 i v hv).2
theorem LV.old {ad : Nat → Nat} {nL : Nat} {ls : List (Option Value)} {arr arr' : Array Slot} {i j : Nat} {v u : Value} (h : LV ad nL ls arr) (hj : ls[j]? = some (some u)) (hne : j ≠ i)
    (h' : lv_has arr' nL ((i, v) :: (lvl ad nL ls).filter (fun q => !(q.1 == i) && !(q.1 + 1 == i && q.2.category == 2)))) : u.category = 1 ∧ arr'[j]? = some (.val (cv ad u)) := by
  obtain ⟨h1, h2⟩ := h.2 j u hj
  refine ⟨h1, h'.2.2 (j, cv ad u) (List.mem_cons_of_mem _ (List.mem_filter.mpr ⟨lvl_mem (by rw [← h.1.1]; exact lv_lt h2) hj, ?_⟩))⟩
  have h3 : ((cv ad u).category == 2) = false := by rw [cv_cat, h1]; rfl
  have h4 : (j == i) = false := by simpa using hne
  show (!(j == i) && !(j + 1 == i && (cv ad u).category == 2)) = true
  rw [h3, h4, Bool.and_false]
  rfl
theorem LV.set {ad : Nat → Nat} {nL : Nat} {ls : List (Option Value)} {arr arr' : Array Slot} {i : Nat} {v : Value} (h : LV ad nL ls arr) (hc : v.category = 1)
    (h' : lv_has arr' nL ((i, cv ad v) :: (lvl ad nL ls).filter (fun q => !(q.1 == i) && !(q.1 + 1 == i && q.2.category == 2)))) : LV ad nL (ls.set i (some v)) arr' := by
  refine ⟨⟨h'.1, h'.2.1, fun q hq => nomatch hq⟩, fun j u hj => ?_⟩
  rw [List.getElem?_set] at hj
  by_cases e : i = j
  · subst e
    rw [if_pos rfl] at hj
    by_cases hl : i < ls.length
    · rw [if_pos hl] at hj
      have hu : v = u := Option.some.inj (Option.some.inj hj)
      subst hu
      exact ⟨hc, h'.2.2 _ List.mem_cons_self⟩
    · rw [if_neg hl] at hj
      cases hj
  · rw [if_neg e] at hj
    exact h.old hj (Ne.symm e) h'
theorem LV.setN {ad : Nat → Nat} {nL : Nat} {ls : List (Option Value)} {arr arr' : Array Slot} {i : Nat} {v : Value} (h : LV ad nL ls arr)
    (h' : lv_has arr' nL ((i, v) :: (lvl ad nL ls).filter (fun q => !(q.1 == i) && !(q.1 + 1 == i && q.2.category == 2)))) : LV ad nL (ls.set i none) arr' := by
  refine ⟨⟨h'.1, h'.2.1, fun q hq => nomatch hq⟩, fun j u hj => ?_⟩
  rw [List.getElem?_set] at hj
  by_cases e : i = j
  · subst e
    rw [if_pos rfl] at hj
    by_cases hl : i < ls.length
    · rw [if_pos hl] at hj
      exact nomatch (Option.some.inj hj)
    · rw [if_neg hl] at hj
      cases hj
  · rw [if_neg e] at hj
    exact h.old hj (Ne.symm e) h'
theorem LV.wf {n n' : Nat} {ad ad' : Nat → Nat} {nL : Nat} {ls : List (Option Value)} {arr : Array Slot} (h : LV ad nL ls arr) (hw : wfL n n' ls = true) (ha : ct_ag n n' ad ad') : LV ad' nL ls arr := by
  refine ⟨h.1, fun i v hv => ?_⟩
  have h1 : wfV n n' v = true := List.all_eq_true.mp hw (some v) (List.mem_of_getElem? hv)
  rw [cv_wf h1 ha]
  exact h.2 i v hv
theorem LV.entry {ad : Nat → Nat} {nL : Nat} (as : List Value) (hc : ∀ v ∈ as, v.category = 1) (hl : as.length ≤ nL) : LV ad nL (as.map some ++ List.replicate (nL - as.length) none) ((((as.map (cv ad)).map Slot.val) ++ List.replicate (nL - (as.map (cv ad)).length) Slot.unset).toArray) := by
  have at' : ∀ (i : Nat) (z : Slot), ((((as.map (cv ad)).map Slot.val) ++ List.replicate (nL - (as.map (cv ad)).length) Slot.unset).toArray)[i]? = some z → z = .unset ∨ ∃ v, v.category = 1 ∧ z = .val v := by
    intro i z h
    rw [List.getElem?_toArray] at h
    rcases List.mem_append.mp (List.mem_of_getElem? h) with h1 | h1
    · obtain ⟨v, h2, rfl⟩ := List.mem_map.mp h1
      obtain ⟨u, h3, rfl⟩ := List.mem_map.mp h2
      exact Or.inr ⟨_, by rw [cv_cat]; exact hc u h3, rfl⟩
    · exact Or.inl (List.eq_of_mem_replicate h1)
  refine ⟨⟨by simp; omega, ⟨fun i v h1 h2 => ?_, fun i h1 => ?_⟩, fun q hq => nomatch hq⟩, fun i v hv => ?_⟩
  · rcases at' i _ h1 with h3 | ⟨u, h3, h4⟩
    · cases h3
    · cases h4
      omega
  · rcases at' i _ h1 with h3 | ⟨u, h3, h4⟩
    · cases h3
    · cases h4
  · by_cases hi : i < as.length
    · rw [List.getElem?_append_left (by simpa using hi), List.getElem?_map] at hv
      cases hq : as[i]? with
      | none => rw [hq] at hv; cases hv
      | some u =>
        rw [hq] at hv
        have hu : u = v := Option.some.inj (Option.some.inj hv)
        subst hu
        refine ⟨hc u (List.mem_of_getElem? hq), ?_⟩
        rw [List.getElem?_toArray, List.getElem?_append_left (by simpa using hi)]
        simp [hq]
    · rw [List.getElem?_append_right (by simpa using hi)] at hv
      exact nomatch (List.eq_of_mem_replicate (List.mem_of_getElem? hv))
end
section
/-! THE JUDGEMENTS. X: what is fixed over the whole run: the launch, the law's first state and arguments, the classes' numbers and slots, the array classes, the script's address, length, contents -/
abbrev ct_X : Type := Launch × State × Array Value × va_G × (Nat → ClassId) × Nat × Nat × (Nat → Int32)
abbrev xl (X : ct_X) : Launch := X.1
abbrev xs (X : ct_X) : State := X.2.1
abbrev xa (X : ct_X) : Array Value := X.2.2.1
abbrev xD (X : ct_X) : va_G := X.2.2.2.1
abbrev xt (X : ct_X) : Nat → ClassId := X.2.2.2.2.1
abbrev xb (X : ct_X) : Nat := X.2.2.2.2.2.1
abbrev xL (X : ct_X) : Nat := X.2.2.2.2.2.2.1
abbrev xx (X : ct_X) : Nat → Int32 := X.2.2.2.2.2.2.2
abbrev ct_tys (tc : Nat → ClassId) : List (ClassId × FieldType) := [(tc 0, .int), (tc 1, .boolean), (tc 2, .long)]
/-- the script's cell number -/
def scr : Nat := 1000000
/-- the exceptions -/
def xn : Nat → String
  | 0 => "java/lang/IndexOutOfBoundsException"
  | 1 => "java/lang/UnsupportedOperationException"
  | 2 => "java/lang/IllegalArgumentException"
  | _ => "java/lang/IllegalStateException"
/-- what holds at the law's first state -/
def Gl (X : ct_X) : Prop :=
  (∀ w ∈ lw_tbl, w.before (xa X) (xs X) = true) ∧ (xl X).stackTraces = false ∧ va_K (xD X) vwCl (ct_tys (xt X)) (xs X) ∧ va_X (xb X) (xL X) (xx X) (xs X) (xs X).heap ∧ xb X < (xs X).heap.size ∧
  vx_Zq Bundle.tN "UNASSIGNED_STACK" Bundle.steD (fun q => (xs X).heap.size ≤ q) (xs X) (xs X).heap ∧ vx_Zq Bundle.tN "SUPPRESSED_SENTINEL" Bundle.listD (fun q => (xs X).heap.size ≤ q) (xs X) (xs X).heap ∧ ∀ i j : Nat, i < 4 → j < 4 → i ≠ j → va_Nc (xn i) (xn j) (xs X)
/-- a method: its name, code, number of locals, what it returns, its handlers -/
abbrev ct_M : Type := MethodName × ByteArray × Nat × Option FieldType × List (Nat × Nat × Nat × Nat)
/-- a later state: warmer tables, the first state's cells as they were -/
def Lat (X : ct_X) (s : State) : Prop := (xs X).WarmedH s.vm ∧ (xs X).heap.size ≤ s.heap.size ∧ ∀ q : Nat, q < (xs X).heap.size → s.heap[q]? = (xs X).heap[q]?
def ct_Code (M : ct_M) (meth : Method) (c : Code) : Prop :=
  c.code = M.2.1 ∧ c.maxLocals = M.2.2.1 ∧ meth.sig.returnType = M.2.2.2.1 ∧ meth.locks = false ∧ c.exceptionTable.toList.map (fun h => (h.startPc, h.endPc, h.handlerPc, h.catchType)) = M.2.2.2.2
def Amb (X : ct_X) (M : ct_M) (p : Program) (s : State) (m : MethodId) (meth : Method) (c : Code) (A : Nat → Prop) : Prop :=
  p.tables.exec = Jvm.exec ∧ ct_Code M meth c ∧ s.vm.findClass M.1.cls = some m.cls ∧ meth.name = M.1.name ∧ Lat X s ∧ (∀ q, A q → (xs X).heap.size ≤ q) ∧ ∀ q, s.heap.size ≤ q → A q
theorem Amb.exec {X : ct_X} {M : ct_M} {p : Program} {s : State} {m : MethodId} {meth : Method} {c : Code} {A : Nat → Prop} (h : Amb X M p s m meth c A) : p.tables.exec = Jvm.exec := h.1
theorem Amb.code {X : ct_X} {M : ct_M} {p : Program} {s : State} {m : MethodId} {meth : Method} {c : Code} {A : Nat → Prop} (h : Amb X M p s m meth c A) : c.code = M.2.1 := h.2.1.1
theorem Amb.maxL {X : ct_X} {M : ct_M} {p : Program} {s : State} {m : MethodId} {meth : Method} {c : Code} {A : Nat → Prop} (h : Amb X M p s m meth c A) : c.maxLocals = M.2.2.1 := h.2.1.2.1
theorem Amb.ret {X : ct_X} {M : ct_M} {p : Program} {s : State} {m : MethodId} {meth : Method} {c : Code} {A : Nat → Prop} (h : Amb X M p s m meth c A) : meth.sig.returnType = M.2.2.2.1 := h.2.1.2.2.1
theorem Amb.locks {X : ct_X} {M : ct_M} {p : Program} {s : State} {m : MethodId} {meth : Method} {c : Code} {A : Nat → Prop} (h : Amb X M p s m meth c A) : meth.locks = false := h.2.1.2.2.2.1
theorem Amb.table {X : ct_X} {M : ct_M} {p : Program} {s : State} {m : MethodId} {meth : Method} {c : Code} {A : Nat → Prop} (h : Amb X M p s m meth c A) : c.exceptionTable.toList.map (fun h => (h.startPc, h.endPc, h.handlerPc, h.catchType)) = M.2.2.2.2 := h.2.1.2.2.2.2
theorem Amb.own {X : ct_X} {M : ct_M} {p : Program} {s : State} {m : MethodId} {meth : Method} {c : Code} {A : Nat → Prop} (h : Amb X M p s m meth c A) : s.vm.findClass M.1.cls = some m.cls := h.2.2.1
theorem Amb.name {X : ct_X} {M : ct_M} {p : Program} {s : State} {m : MethodId} {meth : Method} {c : Code} {A : Nat → Prop} (h : Amb X M p s m meth c A) : meth.name = M.1.name := h.2.2.2.1
theorem Amb.lat {X : ct_X} {M : ct_M} {p : Program} {s : State} {m : MethodId} {meth : Method} {c : Code} {A : Nat → Prop} (h : Amb X M p s m meth c A) : Lat X s := h.2.2.2.2.1
theorem Amb.A1 {X : ct_X} {M : ct_M} {p : Program} {s : State} {m : MethodId} {meth : Method} {c : Code} {A : Nat → Prop} (h : Amb X M p s m meth c A) : ∀ q, A q → (xs X).heap.size ≤ q := h.2.2.2.2.2.1
theorem Amb.A2 {X : ct_X} {M : ct_M} {p : Program} {s : State} {m : MethodId} {meth : Method} {c : Code} {A : Nat → Prop} (h : Amb X M p s m meth c A) : ∀ q, s.heap.size ≤ q → A q := h.2.2.2.2.2.2
theorem Amb.K {X : ct_X} {M : ct_M} {p : Program} {s : State} {m : MethodId} {meth : Method} {c : Code} {A : Nat → Prop} (h : Amb X M p s m meth c A) (G : Gl X) : va_K (xD X) vwCl (ct_tys (xt X)) s := va_K.moved h.lat.1.alike G.2.2.1
/-- a good word of the tables, at a later state -/
theorem Lat.w {X : ct_X} {s : State} (h : Lat X s) (G : Gl X) {w : Cond} (hw : w ∈ lw_tbl) (hg : goodWord w = true) (args : Array Value) : w.before args s = true := word_at h.1 (good_of_word hg) (G.1 w hw)
/-- a point of a body: the world, what may have changed, the locals, the cell numbers that are as at the body's start -/
def Rel (X : ct_X) (nL : Nat) (A : Nat → Prop) (s : State) (ad ad0 : Nat → Nat) (n0 : Nat) (w : ct_W) (H : Heap) (locs : List Loc) (ls : List (Option Value)) (arr : Array Slot) : Prop :=
  va_P (xD X) vwCl (cw (xt X) ad w) H ∧ va_D A (cw (xt X) ad w) ∧ va_S A s.heap H locs ∧ LV ad nL ls arr ∧ ct_ag n0 w.length ad0 ad ∧ n0 ≤ w.length ∧ w.length ≤ scr ∧ ad0 scr = xb X
theorem Rel.sc {X : ct_X} {nL : Nat} {A : Nat → Prop} {s : State} {ad ad0 : Nat → Nat} {n0 : Nat} {w : ct_W} {H : Heap} {locs : List Loc} {ls : List (Option Value)} {arr : Array Slot} (h : Rel X nL A s ad ad0 n0 w H locs ls arr) : ad scr = xb X := by
  obtain ⟨-, -, -, -, h5, -, h7, h8⟩ := h
  rw [h5 scr (Or.inr h7), h8]
/-- how a method ends: r: it returned a value, or threw an exception of the class xn x; the world, the cells made -/
def ct_out (s : State) (ad : Nat → Nat) (mc ms k n : Nat) (o : Outcome) (t : State) : Option Value ⊕ Nat → Prop
  | .inl v => o = .returned (v.map (cv ad)) ∧ k ≤ mc ∧ n ≤ ms
  | .inr x => (∃ (a : Addr) (cell : Cell), o = .threw a ∧ t.heap[a]? = some cell ∧ cell.vm = .none ∧ s.vm.findClass (xn x) = some cell.cls) ∧ k ≤ mc + 1 ∧ n ≤ ms + 6
def AEnd (X : ct_X) (below : List Frame) (s : State) (A : Nat → Prop) (ad0 : Nat → Nat) (n0 mc ms : Nat) (Q : Option Value ⊕ Nat → ct_W → Prop) (t : State) : Prop :=
  ∃ (o : Outcome) (r : Option Value ⊕ Nat) (ad : Nat → Nat) (w : ct_W) (L : List Loc) (k n : Nat),
    (t.status = .running ∧ Ended t below o ∧ s.WarmedH t.vm ∧ s.sameButNew ({ t with vm := s.vm } : State) L k n ∧ (∀ q ∈ L, A q.base) ∧ va_F A s t) ∧
    (va_P (xD X) vwCl (cw (xt X) ad w) t.heap ∧ va_D A (cw (xt X) ad w) ∧ ct_ag n0 w.length ad0 ad ∧ n0 ≤ w.length ∧ w.length ≤ scr) ∧ Q r w ∧ ct_out s ad mc ms k n o t r
/-- the room of a method of depth d that makes mc cells of ms slots (and an exception) -/
def RD (d mc ms : Nat) (R : Room) : Prop := d ≤ R.frames ∧ 30 * d ≤ R.locals ∧ mc + 1 ≤ R.cells ∧ ms + 6 ≤ R.slots
/-- A POINT OF A BODY: pc, locals, stack, world; cb, sb: cells and slots made so far; Q: what the method's end owes -/
def AW (X : ct_X) (M : ct_M) (d mc ms cb sb pc : Nat) (ls : List (Option Value)) (st : List Value) (w : ct_W) (Q : Option Value ⊕ Nat → ct_W → Prop) : Prop :=
  Gl X → ∀ (p : Program) (e : Env) (R : Room) (s : State) (m : MethodId) (args : Array Value) (below : List Frame) (meth : Method) (c : Code) (A : Nat → Prop) (ad ad0 : Nat → Nat) (n0 : Nat) (H : Heap) (locs : List Loc) (cells slots : Nat) (arr : Array Slot),
    RD d mc ms R → Amb X M p s m meth c A → Rel X M.2.2.1 A s ad ad0 n0 w H locs ls arr → cells ≤ cb → slots ≤ sb →
    W p (xl X) e R s m args below meth c H locs cells slots (AEnd X below s A ad0 n0 mc ms Q) (F0 m pc arr (st.map (cv ad)))
/-- A METHOD: from arguments as and a world w it ends with Q -/
def AM (X : ct_X) (M : ct_M) (d mc ms : Nat) (as : List Value) (w : ct_W) (Q : Option Value ⊕ Nat → ct_W → Prop) : Prop :=
  Gl X → ∀ (p : Program) (e : Env) (R : Room) (s : State) (m : MethodId) (below : List Frame) (meth : Method) (c : Code) (A : Nat → Prop) (ad : Nat → Nat),
    RD d mc ms R → Amb X M p s m meth c A → va_P (xD X) vwCl (cw (xt X) ad w) s.heap → va_D A (cw (xt X) ad w) → w.length ≤ scr → ad scr = xb X →
    W p (xl X) e R s m (as.map (cv ad)).toArray below meth c s.heap [] 0 0 (AEnd X below s A ad w.length mc ms Q) (entryFrame m (as.map (cv ad)).toArray M.2.2.1)
def ct_c1 (as : List Value) : Bool := as.all (fun v => v.category == 1)
theorem AM.of {X : ct_X} {M : ct_M} {d mc ms : Nat} {as : List Value} {w : ct_W} {Q : Option Value ⊕ Nat → ct_W → Prop} (hc : ct_c1 as = true) (hl : as.length ≤ M.2.2.1) {ls : List (Option Value)} (hls : as.map some ++ List.replicate (M.2.2.1 - as.length) none = ls) (k : AW X M d mc ms 0 0 0 ls [] w Q) : AM X M d mc ms as w Q := by
  intro G p e R s m below meth c A ad hR hA hP hD hw hb
  subst hls
  have hcat : ∀ v ∈ as, v.category = 1 := fun v hv => by simpa using List.all_eq_true.mp hc v hv
  rw [entry_eq m (as.map (cv ad)) (fun v hv => by obtain ⟨u, h1, rfl⟩ := List.mem_map.mp hv; rw [cv_cat]; exact hcat u h1)]
  exact k G p e R s m _ below meth c A ad ad w.length s.heap [] 0 0 _ hR hA ⟨hP, hD, va_S.rf, LV.entry as hcat hl, fun _ _ => rfl, Nat.le_refl _, hw, hb⟩ (Nat.le_refl _) (Nat.le_refl _)
theorem ct_mono {p : Program} {l : Launch} {e : Env} {R : Room} {s : State} {m : MethodId} {args : Array Value} {below : List Frame} {meth : Method} {c : Code} {H : Heap} {locs : List Loc} {cells slots : Nat} {Q Q' : State → Prop} {g : JFrame} (h : ∀ t, Q t → Q' t) (k : W p l e R s m args below meth c H locs cells slots Q g) : W p l e R s m args below meth c H locs cells slots Q' g := by
  intro T hT Y
  obtain ⟨t, a, b⟩ := k T hT Y
  exact ⟨t, a, h t b⟩
theorem AM.mono {X : ct_X} {M : ct_M} {d mc ms : Nat} {as : List Value} {w : ct_W} {Q Q' : Option Value ⊕ Nat → ct_W → Prop} (h : ∀ r w', Q r w' → Q' r w') (k : AM X M d mc ms as w Q) : AM X M d mc ms as w Q' := by
  intro G p e R s m below meth c A ad hR hA hP hD hw hb
  refine ct_mono (fun t ht => ?_) (k G p e R s m below meth c A ad hR hA hP hD hw hb)
  obtain ⟨o, r, ad', w', L, k, n, h1, h2, h3, h4⟩ := ht
  exact ⟨o, r, ad', w', L, k, n, h1, h2, h _ _ h3, h4⟩
/-- a body's return -/
theorem ct_end {X : ct_X} {nL : Nat} {p : Program} {e : Env} {R : Room} {s : State} {m : MethodId} {args : Array Value} {below : List Frame} {meth : Method} {c : Code} {A : Nat → Prop} {ad ad0 : Nat → Nat} {n0 : Nat} {w : ct_W} {H : Heap} {locs : List Loc} {cells slots mc ms : Nat} {ls : List (Option Value)} {arr : Array Slot} {Q : Option Value ⊕ Nat → ct_W → Prop} {v : Option Value} {g : JFrame}
    (hr : Rel X nL A s ad ad0 n0 w H locs ls arr) (hq : Q (.inl v) w) (h1 : cells ≤ mc) (h2 : slots ≤ ms)
    (k : W p (xl X) e R s m args below meth c H locs cells slots (MQ below (fun _ _ o t => o = .returned (v.map (cv ad)) ∧ t.heap = H) args s cells slots A) g) : W p (xl X) e R s m args below meth c H locs cells slots (AEnd X below s A ad0 n0 mc ms Q) g := by
  refine ct_mono (fun t ht => ?_) k
  obtain ⟨o, a1, a2, ⟨a3, a4⟩, L, ⟨-, a5, a6⟩, a7⟩ := ht
  obtain ⟨hP, hD, hS, -, h5, h6, h7, -⟩ := hr
  exact ⟨o, .inl v, ad, w, L, cells, slots, ⟨a1, a2, a5, a6, a7, hS.F a4⟩, ⟨by rw [a4]; exact hP, hD, h5, h6, h7⟩, hq, a3, h1, h2⟩
end
section
/-! ROWS OF THE JUDGEMENT AW, one an instruction (printed by wip/whole/rules.py) -/
section AWR
variable {X : ct_X} {M : ct_M} {d mc ms cb sb pc pc' : Nat} {ls : List (Option Value)} {st : List Value} {w : ct_W} {Q : Option Value ⊕ Nat → ct_W → Prop}
theorem AW.iconst {n : Int} {v : Int32} (hd : decode M.2.1 pc = .ok (.iconst n, 1)) (hp : pc + 1 = pc') (hv : Int32.ofInt n = v) (k : AW X M d mc ms cb sb pc' ls (.int v :: st) w Q) : AW X M d mc ms cb sb pc ls (st) w Q := by
  subst hp
  intro G p e R s m args below meth c A ad ad0 n0 H locs cells slots arr hR hA hr h1 h2
  exact lv_iconst hA.exec hA.code hd hv (k G p e R s m args below meth c A ad ad0 n0 H locs cells slots arr hR hA hr h1 h2)
theorem AW.bipush {n : Int} {v : Int32} (hd : decode M.2.1 pc = .ok (.bipush n, 2)) (hp : pc + 2 = pc') (hv : (Int8.ofInt n).toInt32 = v) (k : AW X M d mc ms cb sb pc' ls (.int v :: st) w Q) : AW X M d mc ms cb sb pc ls (st) w Q := by
  subst hp
  intro G p e R s m args below meth c A ad ad0 n0 H locs cells slots arr hR hA hr h1 h2
  exact lv_bipush hA.exec hA.code hd hv (k G p e R s m args below meth c A ad ad0 n0 H locs cells slots arr hR hA hr h1 h2)
theorem AW.sipush {n : Int} {v : Int32} (hd : decode M.2.1 pc = .ok (.sipush n, 3)) (hp : pc + 3 = pc') (hv : (Int16.ofInt n).toInt32 = v) (k : AW X M d mc ms cb sb pc' ls (.int v :: st) w Q) : AW X M d mc ms cb sb pc ls (st) w Q := by
  subst hp
  intro G p e R s m args below meth c A ad ad0 n0 H locs cells slots arr hR hA hr h1 h2
  exact lv_sipush hA.exec hA.code hd hv (k G p e R s m args below meth c A ad ad0 n0 H locs cells slots arr hR hA hr h1 h2)
theorem AW.ldc {i : Nat} {v : Int32} (hd : decode M.2.1 pc = .ok (.ldc i, 2)) (hp : pc + 2 = pc') (hc : Cond.constant M.1.cls i v ∈ lw_tbl) (k : AW X M d mc ms cb sb pc' ls (.int v :: st) w Q) : AW X M d mc ms cb sb pc ls (st) w Q := by
  subst hp
  intro G p e R s m args below meth c A ad ad0 n0 H locs cells slots arr hR hA hr h1 h2
  exact lv_ldc hA.exec hA.code hA.own (hA.lat.w G hc rfl _) hd (k G p e R s m args below meth c A ad ad0 n0 H locs cells slots arr hR hA hr h1 h2)
theorem AW.iload_n {j : Fin 4} {i : Nat} {x : Int32} (hd : decode M.2.1 pc = .ok (.iload_n j, 1)) (hp : pc + 1 = pc') (hi : (j : Nat) = i) (hl : ls[i]? = some (some (.int x))) (k : AW X M d mc ms cb sb pc' ls (.int x :: st) w Q) : AW X M d mc ms cb sb pc ls (st) w Q := by
  subst hp
  intro G p e R s m args below meth c A ad ad0 n0 H locs cells slots arr hR hA hr h1 h2
  exact lv_iload_n hA.exec hA.code hd hi (hr.2.2.2.1.get hl) (k G p e R s m args below meth c A ad ad0 n0 H locs cells slots arr hR hA hr h1 h2)
theorem AW.iload {i : Nat} {x : Int32} (hd : decode M.2.1 pc = .ok (.iload i, 2)) (hp : pc + 2 = pc') (hl : ls[i]? = some (some (.int x))) (k : AW X M d mc ms cb sb pc' ls (.int x :: st) w Q) : AW X M d mc ms cb sb pc ls (st) w Q := by
  subst hp
  intro G p e R s m args below meth c A ad ad0 n0 H locs cells slots arr hR hA hr h1 h2
  exact lv_iload hA.exec hA.code hd (hr.2.2.2.1.get hl) (k G p e R s m args below meth c A ad ad0 n0 H locs cells slots arr hR hA hr h1 h2)
theorem AW.aload_n {j : Fin 4} {i : Nat} {x : Nat} (hd : decode M.2.1 pc = .ok (.aload_n j, 1)) (hp : pc + 1 = pc') (hi : (j : Nat) = i) (hl : ls[i]? = some (some (.ref x))) (k : AW X M d mc ms cb sb pc' ls (.ref x :: st) w Q) : AW X M d mc ms cb sb pc ls (st) w Q := by
  subst hp
  intro G p e R s m args below meth c A ad ad0 n0 H locs cells slots arr hR hA hr h1 h2
  exact lv_aload_n hA.exec hA.code hd hi (hr.2.2.2.1.get hl) (k G p e R s m args below meth c A ad ad0 n0 H locs cells slots arr hR hA hr h1 h2)
theorem AW.aload {i : Nat} {x : Nat} (hd : decode M.2.1 pc = .ok (.aload i, 2)) (hp : pc + 2 = pc') (hl : ls[i]? = some (some (.ref x))) (k : AW X M d mc ms cb sb pc' ls (.ref x :: st) w Q) : AW X M d mc ms cb sb pc ls (st) w Q := by
  subst hp
  intro G p e R s m args below meth c A ad ad0 n0 H locs cells slots arr hR hA hr h1 h2
  exact lv_aload hA.exec hA.code hd (hr.2.2.2.1.get hl) (k G p e R s m args below meth c A ad ad0 n0 H locs cells slots arr hR hA hr h1 h2)
theorem AW.istore_n {j : Fin 4} {i : Nat} {x : Int32} {ls' : List (Option Value)} (hd : decode M.2.1 pc = .ok (.istore_n j, 1)) (hp : pc + 1 = pc') (hi : (j : Nat) = i) (hn : Nat.ble (i + 1) M.2.2.1 = true) (hs : ls.set i (some (.int x)) = ls') (k : AW X M d mc ms cb sb pc' ls' (st) w Q) : AW X M d mc ms cb sb pc ls (.int x :: st) w Q := by
  subst hp
  intro G p e R s m args below meth c A ad ad0 n0 H locs cells slots arr hR hA hr h1 h2
  subst hs
  exact lv_istore_n hA.exec hA.code hd hi hr.2.2.2.1.has (Nat.le_of_ble_eq_true hn) rfl (fun arr' h' => k G p e R s m args below meth c A ad ad0 n0 H locs cells slots arr' hR hA ⟨hr.1, hr.2.1, hr.2.2.1, hr.2.2.2.1.set rfl h', hr.2.2.2.2⟩ h1 h2)
theorem AW.istore {i : Nat} {x : Int32} {ls' : List (Option Value)} (hd : decode M.2.1 pc = .ok (.istore i, 2)) (hp : pc + 2 = pc') (hn : Nat.ble (i + 1) M.2.2.1 = true) (hs : ls.set i (some (.int x)) = ls') (k : AW X M d mc ms cb sb pc' ls' (st) w Q) : AW X M d mc ms cb sb pc ls (.int x :: st) w Q := by
  subst hp
  intro G p e R s m args below meth c A ad ad0 n0 H locs cells slots arr hR hA hr h1 h2
  subst hs
  exact lv_istore hA.exec hA.code hd hr.2.2.2.1.has (Nat.le_of_ble_eq_true hn) rfl (fun arr' h' => k G p e R s m args below meth c A ad ad0 n0 H locs cells slots arr' hR hA ⟨hr.1, hr.2.1, hr.2.2.1, hr.2.2.2.1.set rfl h', hr.2.2.2.2⟩ h1 h2)
theorem AW.astore_n {j : Fin 4} {i : Nat} {x : Nat} {ls' : List (Option Value)} (hd : decode M.2.1 pc = .ok (.astore_n j, 1)) (hp : pc + 1 = pc') (hi : (j : Nat) = i) (hn : Nat.ble (i + 1) M.2.2.1 = true) (hs : ls.set i (some (.ref x)) = ls') (k : AW X M d mc ms cb sb pc' ls' (st) w Q) : AW X M d mc ms cb sb pc ls (.ref x :: st) w Q := by
  subst hp
  intro G p e R s m args below meth c A ad ad0 n0 H locs cells slots arr hR hA hr h1 h2
  subst hs
  exact lv_astore_n hA.exec hA.code hd hi hr.2.2.2.1.has (Nat.le_of_ble_eq_true hn) rfl (fun arr' h' => k G p e R s m args below meth c A ad ad0 n0 H locs cells slots arr' hR hA ⟨hr.1, hr.2.1, hr.2.2.1, hr.2.2.2.1.set rfl h', hr.2.2.2.2⟩ h1 h2)
theorem AW.astore {i : Nat} {x : Nat} {ls' : List (Option Value)} (hd : decode M.2.1 pc = .ok (.astore i, 2)) (hp : pc + 2 = pc') (hn : Nat.ble (i + 1) M.2.2.1 = true) (hs : ls.set i (some (.ref x)) = ls') (k : AW X M d mc ms cb sb pc' ls' (st) w Q) : AW X M d mc ms cb sb pc ls (.ref x :: st) w Q := by
  subst hp
  intro G p e R s m args below meth c A ad ad0 n0 H locs cells slots arr hR hA hr h1 h2
  subst hs
  exact lv_astore hA.exec hA.code hd hr.2.2.2.1.has (Nat.le_of_ble_eq_true hn) rfl (fun arr' h' => k G p e R s m args below meth c A ad ad0 n0 H locs cells slots arr' hR hA ⟨hr.1, hr.2.1, hr.2.2.1, hr.2.2.2.1.set rfl h', hr.2.2.2.2⟩ h1 h2)
theorem AW.iinc {i : Nat} {n : Int} {x v : Int32} {ls' : List (Option Value)} (hd : decode M.2.1 pc = .ok (.iinc i n, 3)) (hp : pc + 3 = pc') (hl : ls[i]? = some (some (.int x))) (hv : x + Int32.ofInt n = v) (hn : Nat.ble (i + 1) M.2.2.1 = true) (hs : ls.set i (some (.int v)) = ls') (k : AW X M d mc ms cb sb pc' ls' (st) w Q) : AW X M d mc ms cb sb pc ls (st) w Q := by
  subst hp
  intro G p e R s m args below meth c A ad ad0 n0 H locs cells slots arr hR hA hr h1 h2
  subst hs
  obtain ⟨j, hj⟩ := List.getElem?_of_mem (lvl_mem (ad := ad) (Nat.le_of_ble_eq_true hn) hl)
  exact lv_iinc hA.exec hA.code hd hr.2.2.2.1.has (k := j) hj hv (Nat.le_of_ble_eq_true hn) rfl (fun arr' h' => k G p e R s m args below meth c A ad ad0 n0 H locs cells slots arr' hR hA ⟨hr.1, hr.2.1, hr.2.2.1, hr.2.2.2.1.set rfl h', hr.2.2.2.2⟩ h1 h2)
theorem AW.iadd {x y : Int32} (hd : decode M.2.1 pc = .ok (.iadd, 1)) (hp : pc + 1 = pc') (k : AW X M d mc ms cb sb pc' ls (.int (x + y) :: st) w Q) : AW X M d mc ms cb sb pc ls (.int y :: .int x :: st) w Q := by
  subst hp
  intro G p e R s m args below meth c A ad ad0 n0 H locs cells slots arr hR hA hr h1 h2
  exact lv_iadd hA.exec hA.code hd (k G p e R s m args below meth c A ad ad0 n0 H locs cells slots arr hR hA hr h1 h2)
theorem AW.isub {x y : Int32} (hd : decode M.2.1 pc = .ok (.isub, 1)) (hp : pc + 1 = pc') (k : AW X M d mc ms cb sb pc' ls (.int (x - y) :: st) w Q) : AW X M d mc ms cb sb pc ls (.int y :: .int x :: st) w Q := by
  subst hp
  intro G p e R s m args below meth c A ad ad0 n0 H locs cells slots arr hR hA hr h1 h2
  exact lv_isub hA.exec hA.code hd (k G p e R s m args below meth c A ad ad0 n0 H locs cells slots arr hR hA hr h1 h2)
theorem AW.imul {x y : Int32} (hd : decode M.2.1 pc = .ok (.imul, 1)) (hp : pc + 1 = pc') (k : AW X M d mc ms cb sb pc' ls (.int (x * y) :: st) w Q) : AW X M d mc ms cb sb pc ls (.int y :: .int x :: st) w Q := by
  subst hp
  intro G p e R s m args below meth c A ad ad0 n0 H locs cells slots arr hR hA hr h1 h2
  exact lv_imul hA.exec hA.code hd (k G p e R s m args below meth c A ad ad0 n0 H locs cells slots arr hR hA hr h1 h2)
theorem AW.iand {x y : Int32} (hd : decode M.2.1 pc = .ok (.iand, 1)) (hp : pc + 1 = pc') (k : AW X M d mc ms cb sb pc' ls (.int (x &&& y) :: st) w Q) : AW X M d mc ms cb sb pc ls (.int y :: .int x :: st) w Q := by
  subst hp
  intro G p e R s m args below meth c A ad ad0 n0 H locs cells slots arr hR hA hr h1 h2
  exact lv_iand hA.exec hA.code hd (k G p e R s m args below meth c A ad ad0 n0 H locs cells slots arr hR hA hr h1 h2)
theorem AW.idiv {x y : Int32} (hd : decode M.2.1 pc = .ok (.idiv, 1)) (hp : pc + 1 = pc') (hne : ¬ y = 0) (k : AW X M d mc ms cb sb pc' ls (.int (x / y) :: st) w Q) : AW X M d mc ms cb sb pc ls (.int y :: .int x :: st) w Q := by
  subst hp
  intro G p e R s m args below meth c A ad ad0 n0 H locs cells slots arr hR hA hr h1 h2
  exact lv_idiv hA.exec hA.code hd hne (k G p e R s m args below meth c A ad ad0 n0 H locs cells slots arr hR hA hr h1 h2)
theorem AW.irem {x y : Int32} (hd : decode M.2.1 pc = .ok (.irem, 1)) (hp : pc + 1 = pc') (hne : ¬ y = 0) (k : AW X M d mc ms cb sb pc' ls (.int (x - x / y * y) :: st) w Q) : AW X M d mc ms cb sb pc ls (.int y :: .int x :: st) w Q := by
  subst hp
  intro G p e R s m args below meth c A ad ad0 n0 H locs cells slots arr hR hA hr h1 h2
  exact lv_irem hA.exec hA.code hd hne (k G p e R s m args below meth c A ad ad0 n0 H locs cells slots arr hR hA hr h1 h2)
theorem AW.ineg {x : Int32} (hd : decode M.2.1 pc = .ok (.ineg, 1)) (hp : pc + 1 = pc') (k : AW X M d mc ms cb sb pc' ls (.int (-x) :: st) w Q) : AW X M d mc ms cb sb pc ls (.int x :: st) w Q := by
  subst hp
  intro G p e R s m args below meth c A ad ad0 n0 H locs cells slots arr hR hA hr h1 h2
  exact lv_ineg hA.exec hA.code hd (k G p e R s m args below meth c A ad ad0 n0 H locs cells slots arr hR hA hr h1 h2)
theorem AW.i2l {x : Int32} (hd : decode M.2.1 pc = .ok (.i2l, 1)) (hp : pc + 1 = pc') (k : AW X M d mc ms cb sb pc' ls (.long x.toInt64 :: st) w Q) : AW X M d mc ms cb sb pc ls (.int x :: st) w Q := by
  subst hp
  intro G p e R s m args below meth c A ad ad0 n0 H locs cells slots arr hR hA hr h1 h2
  exact lv_i2l hA.exec hA.code hd rfl (k G p e R s m args below meth c A ad ad0 n0 H locs cells slots arr hR hA hr h1 h2)
theorem AW.lcmp {x y : Int64} (hd : decode M.2.1 pc = .ok (.lcmp, 1)) (hp : pc + 1 = pc') (k : AW X M d mc ms cb sb pc' ls (.int (lg_cmp x y) :: st) w Q) : AW X M d mc ms cb sb pc ls (.long y :: .long x :: st) w Q := by
  subst hp
  intro G p e R s m args below meth c A ad ad0 n0 H locs cells slots arr hR hA hr h1 h2
  exact W.lcmp hA.exec hA.code hd (k G p e R s m args below meth c A ad ad0 n0 H locs cells slots arr hR hA hr h1 h2)
theorem AW.dup {v : Value} (hd : decode M.2.1 pc = .ok (.dup, 1)) (hp : pc + 1 = pc') (hc : v.category = 1) (k : AW X M d mc ms cb sb pc' ls (v :: v :: st) w Q) : AW X M d mc ms cb sb pc ls (v :: st) w Q := by
  subst hp
  intro G p e R s m args below meth c A ad ad0 n0 H locs cells slots arr hR hA hr h1 h2
  exact lv_dup hA.exec hA.code hd ((cv_cat ad v).trans hc) (k G p e R s m args below meth c A ad ad0 n0 H locs cells slots arr hR hA hr h1 h2)
theorem AW.pop {v : Value} (hd : decode M.2.1 pc = .ok (.pop, 1)) (hp : pc + 1 = pc') (hc : v.category = 1) (k : AW X M d mc ms cb sb pc' ls (st) w Q) : AW X M d mc ms cb sb pc ls (v :: st) w Q := by
  subst hp
  intro G p e R s m args below meth c A ad ad0 n0 H locs cells slots arr hR hA hr h1 h2
  exact lv_pop hA.exec hA.code hd ((cv_cat ad v).trans hc) (k G p e R s m args below meth c A ad ad0 n0 H locs cells slots arr hR hA hr h1 h2)
theorem AW.if_eq {x : Int32} {off : Int} {tgt : Nat} (hd : decode M.2.1 pc = .ok (.ifCond .eq off, 3)) (ht : (pc : Int) + off = (tgt : Int)) (hp : pc + 3 = pc') (kt : x = 0 → AW X M d mc ms cb sb tgt ls (st) w Q) (kf : ¬ x = 0 → AW X M d mc ms cb sb pc' ls (st) w Q) : AW X M d mc ms cb sb pc ls (.int x :: st) w Q := by
  subst hp
  intro G p e R s m args below meth c A ad ad0 n0 H locs cells slots arr hR hA hr h1 h2
  exact lv_if_eq hA.exec hA.code hd ht (fun q => (kt q) G p e R s m args below meth c A ad ad0 n0 H locs cells slots arr hR hA hr h1 h2) (fun q => (kf q) G p e R s m args below meth c A ad ad0 n0 H locs cells slots arr hR hA hr h1 h2)
theorem AW.if_ne {x : Int32} {off : Int} {tgt : Nat} (hd : decode M.2.1 pc = .ok (.ifCond .ne off, 3)) (ht : (pc : Int) + off = (tgt : Int)) (hp : pc + 3 = pc') (kt : ¬ x = 0 → AW X M d mc ms cb sb tgt ls (st) w Q) (kf : x = 0 → AW X M d mc ms cb sb pc' ls (st) w Q) : AW X M d mc ms cb sb pc ls (.int x :: st) w Q := by
  subst hp
  intro G p e R s m args below meth c A ad ad0 n0 H locs cells slots arr hR hA hr h1 h2
  exact lv_if_ne hA.exec hA.code hd ht (fun q => (kt q) G p e R s m args below meth c A ad ad0 n0 H locs cells slots arr hR hA hr h1 h2) (fun q => (kf q) G p e R s m args below meth c A ad ad0 n0 H locs cells slots arr hR hA hr h1 h2)
theorem AW.if_lt {x : Int32} {off : Int} {tgt : Nat} (hd : decode M.2.1 pc = .ok (.ifCond .lt off, 3)) (ht : (pc : Int) + off = (tgt : Int)) (hp : pc + 3 = pc') (kt : x < 0 → AW X M d mc ms cb sb tgt ls (st) w Q) (kf : ¬ x < 0 → AW X M d mc ms cb sb pc' ls (st) w Q) : AW X M d mc ms cb sb pc ls (.int x :: st) w Q := by
  subst hp
  intro G p e R s m args below meth c A ad ad0 n0 H locs cells slots arr hR hA hr h1 h2
  exact lv_if_lt hA.exec hA.code hd ht (fun q => (kt q) G p e R s m args below meth c A ad ad0 n0 H locs cells slots arr hR hA hr h1 h2) (fun q => (kf q) G p e R s m args below meth c A ad ad0 n0 H locs cells slots arr hR hA hr h1 h2)
theorem AW.if_ge {x : Int32} {off : Int} {tgt : Nat} (hd : decode M.2.1 pc = .ok (.ifCond .ge off, 3)) (ht : (pc : Int) + off = (tgt : Int)) (hp : pc + 3 = pc') (kt : 0 ≤ x → AW X M d mc ms cb sb tgt ls (st) w Q) (kf : ¬ 0 ≤ x → AW X M d mc ms cb sb pc' ls (st) w Q) : AW X M d mc ms cb sb pc ls (.int x :: st) w Q := by
  subst hp
  intro G p e R s m args below meth c A ad ad0 n0 H locs cells slots arr hR hA hr h1 h2
  exact lv_if_ge hA.exec hA.code hd ht (fun q => (kt q) G p e R s m args below meth c A ad ad0 n0 H locs cells slots arr hR hA hr h1 h2) (fun q => (kf q) G p e R s m args below meth c A ad ad0 n0 H locs cells slots arr hR hA hr h1 h2)
theorem AW.if_gt {x : Int32} {off : Int} {tgt : Nat} (hd : decode M.2.1 pc = .ok (.ifCond .gt off, 3)) (ht : (pc : Int) + off = (tgt : Int)) (hp : pc + 3 = pc') (kt : 0 < x → AW X M d mc ms cb sb tgt ls (st) w Q) (kf : ¬ 0 < x → AW X M d mc ms cb sb pc' ls (st) w Q) : AW X M d mc ms cb sb pc ls (.int x :: st) w Q := by
  subst hp
  intro G p e R s m args below meth c A ad ad0 n0 H locs cells slots arr hR hA hr h1 h2
  exact lv_if_gt hA.exec hA.code hd ht (fun q => (kt q) G p e R s m args below meth c A ad ad0 n0 H locs cells slots arr hR hA hr h1 h2) (fun q => (kf q) G p e R s m args below meth c A ad ad0 n0 H locs cells slots arr hR hA hr h1 h2)
theorem AW.if_le {x : Int32} {off : Int} {tgt : Nat} (hd : decode M.2.1 pc = .ok (.ifCond .le off, 3)) (ht : (pc : Int) + off = (tgt : Int)) (hp : pc + 3 = pc') (kt : x ≤ 0 → AW X M d mc ms cb sb tgt ls (st) w Q) (kf : ¬ x ≤ 0 → AW X M d mc ms cb sb pc' ls (st) w Q) : AW X M d mc ms cb sb pc ls (.int x :: st) w Q := by
  subst hp
  intro G p e R s m args below meth c A ad ad0 n0 H locs cells slots arr hR hA hr h1 h2
  exact lv_if_le hA.exec hA.code hd ht (fun q => (kt q) G p e R s m args below meth c A ad ad0 n0 H locs cells slots arr hR hA hr h1 h2) (fun q => (kf q) G p e R s m args below meth c A ad ad0 n0 H locs cells slots arr hR hA hr h1 h2)
theorem AW.icmp_eq {x y : Int32} {off : Int} {tgt : Nat} (hd : decode M.2.1 pc = .ok (.if_icmp .eq off, 3)) (ht : (pc : Int) + off = (tgt : Int)) (hp : pc + 3 = pc') (kt : x = y → AW X M d mc ms cb sb tgt ls (st) w Q) (kf : ¬ x = y → AW X M d mc ms cb sb pc' ls (st) w Q) : AW X M d mc ms cb sb pc ls (.int y :: .int x :: st) w Q := by
  subst hp
  intro G p e R s m args below meth c A ad ad0 n0 H locs cells slots arr hR hA hr h1 h2
  exact lv_icmp_eq hA.exec hA.code hd ht (fun q => (kt q) G p e R s m args below meth c A ad ad0 n0 H locs cells slots arr hR hA hr h1 h2) (fun q => (kf q) G p e R s m args below meth c A ad ad0 n0 H locs cells slots arr hR hA hr h1 h2)
theorem AW.icmp_ne {x y : Int32} {off : Int} {tgt : Nat} (hd : decode M.2.1 pc = .ok (.if_icmp .ne off, 3)) (ht : (pc : Int) + off = (tgt : Int)) (hp : pc + 3 = pc') (kt : ¬ x = y → AW X M d mc ms cb sb tgt ls (st) w Q) (kf : x = y → AW X M d mc ms cb sb pc' ls (st) w Q) : AW X M d mc ms cb sb pc ls (.int y :: .int x :: st) w Q := by
  subst hp
  intro G p e R s m args below meth c A ad ad0 n0 H locs cells slots arr hR hA hr h1 h2
  exact lv_icmp_ne hA.exec hA.code hd ht (fun q => (kt q) G p e R s m args below meth c A ad ad0 n0 H locs cells slots arr hR hA hr h1 h2) (fun q => (kf q) G p e R s m args below meth c A ad ad0 n0 H locs cells slots arr hR hA hr h1 h2)
theorem AW.icmp_lt {x y : Int32} {off : Int} {tgt : Nat} (hd : decode M.2.1 pc = .ok (.if_icmp .lt off, 3)) (ht : (pc : Int) + off = (tgt : Int)) (hp : pc + 3 = pc') (kt : x < y → AW X M d mc ms cb sb tgt ls (st) w Q) (kf : ¬ x < y → AW X M d mc ms cb sb pc' ls (st) w Q) : AW X M d mc ms cb sb pc ls (.int y :: .int x :: st) w Q := by
  subst hp
  intro G p e R s m args below meth c A ad ad0 n0 H locs cells slots arr hR hA hr h1 h2
  exact lv_icmp_lt hA.exec hA.code hd ht (fun q => (kt q) G p e R s m args below meth c A ad ad0 n0 H locs cells slots arr hR hA hr h1 h2) (fun q => (kf q) G p e R s m args below meth c A ad ad0 n0 H locs cells slots arr hR hA hr h1 h2)
theorem AW.icmp_ge {x y : Int32} {off : Int} {tgt : Nat} (hd : decode M.2.1 pc = .ok (.if_icmp .ge off, 3)) (ht : (pc : Int) + off = (tgt : Int)) (hp : pc + 3 = pc') (kt : y ≤ x → AW X M d mc ms cb sb tgt ls (st) w Q) (kf : ¬ y ≤ x → AW X M d mc ms cb sb pc' ls (st) w Q) : AW X M d mc ms cb sb pc ls (.int y :: .int x :: st) w Q := by
  subst hp
  intro G p e R s m args below meth c A ad ad0 n0 H locs cells slots arr hR hA hr h1 h2
  exact lv_icmp_ge hA.exec hA.code hd ht (fun q => (kt q) G p e R s m args below meth c A ad ad0 n0 H locs cells slots arr hR hA hr h1 h2) (fun q => (kf q) G p e R s m args below meth c A ad ad0 n0 H locs cells slots arr hR hA hr h1 h2)
theorem AW.icmp_gt {x y : Int32} {off : Int} {tgt : Nat} (hd : decode M.2.1 pc = .ok (.if_icmp .gt off, 3)) (ht : (pc : Int) + off = (tgt : Int)) (hp : pc + 3 = pc') (kt : y < x → AW X M d mc ms cb sb tgt ls (st) w Q) (kf : ¬ y < x → AW X M d mc ms cb sb pc' ls (st) w Q) : AW X M d mc ms cb sb pc ls (.int y :: .int x :: st) w Q := by
  subst hp
  intro G p e R s m args below meth c A ad ad0 n0 H locs cells slots arr hR hA hr h1 h2
  exact lv_icmp_gt hA.exec hA.code hd ht (fun q => (kt q) G p e R s m args below meth c A ad ad0 n0 H locs cells slots arr hR hA hr h1 h2) (fun q => (kf q) G p e R s m args below meth c A ad ad0 n0 H locs cells slots arr hR hA hr h1 h2)
theorem AW.icmp_le {x y : Int32} {off : Int} {tgt : Nat} (hd : decode M.2.1 pc = .ok (.if_icmp .le off, 3)) (ht : (pc : Int) + off = (tgt : Int)) (hp : pc + 3 = pc') (kt : x ≤ y → AW X M d mc ms cb sb tgt ls (st) w Q) (kf : ¬ x ≤ y → AW X M d mc ms cb sb pc' ls (st) w Q) : AW X M d mc ms cb sb pc ls (.int y :: .int x :: st) w Q := by
  subst hp
  intro G p e R s m args below meth c A ad ad0 n0 H locs cells slots arr hR hA hr h1 h2
  exact lv_icmp_le hA.exec hA.code hd ht (fun q => (kt q) G p e R s m args below meth c A ad ad0 n0 H locs cells slots arr hR hA hr h1 h2) (fun q => (kf q) G p e R s m args below meth c A ad ad0 n0 H locs cells slots arr hR hA hr h1 h2)
theorem AW.goto {off : Int} {tgt : Nat} (hd : decode M.2.1 pc = .ok (.goto off, 3)) (ht : (pc : Int) + off = (tgt : Int)) (k : AW X M d mc ms cb sb tgt ls (st) w Q) : AW X M d mc ms cb sb pc ls (st) w Q := by
  intro G p e R s m args below meth c A ad ad0 n0 H locs cells slots arr hR hA hr h1 h2
  exact lv_goto hA.exec hA.code hd ht (k G p e R s m args below meth c A ad ad0 n0 H locs cells slots arr hR hA hr h1 h2)
theorem AW.tableIn {dflt lo hi : Int} {offs : Array Int} {len : Nat} {x : Int32} {off : Int} {tgt : Nat} (hd : decode M.2.1 pc = .ok (.tableswitch dflt lo hi offs, len)) (q1 : ¬ x.toInt < lo) (q2 : ¬ hi < x.toInt) (ho : offs[(x.toInt - lo).toNat]? = some off) (ht : (pc : Int) + off = (tgt : Int)) (k : AW X M d mc ms cb sb tgt ls (st) w Q) : AW X M d mc ms cb sb pc ls (.int x :: st) w Q := by
  intro G p e R s m args below meth c A ad ad0 n0 H locs cells slots arr hR hA hr h1 h2
  exact lv_tableIn hA.exec hA.code hd q1 q2 ho ht (k G p e R s m args below meth c A ad ad0 n0 H locs cells slots arr hR hA hr h1 h2)
theorem AW.tableOut {dflt lo hi : Int} {offs : Array Int} {len : Nat} {x : Int32} {tgt : Nat} (hd : decode M.2.1 pc = .ok (.tableswitch dflt lo hi offs, len)) (q1 : x.toInt < lo ∨ hi < x.toInt) (ht : (pc : Int) + dflt = (tgt : Int)) (k : AW X M d mc ms cb sb tgt ls (st) w Q) : AW X M d mc ms cb sb pc ls (.int x :: st) w Q := by
  intro G p e R s m args below meth c A ad ad0 n0 H locs cells slots arr hR hA hr h1 h2
  exact lv_tableOut hA.exec hA.code hd q1 ht (k G p e R s m args below meth c A ad ad0 n0 H locs cells slots arr hR hA hr h1 h2)
theorem AW.lookup {dflt : Int} {ps : Array (Int × Int)} {len : Nat} {x : Int32} {off : Int} {tgt : Nat} (hd : decode M.2.1 pc = .ok (.lookupswitch dflt ps, len)) (hq : (ps.toList.zip (ps.toList.drop 1)).all (fun (a, next) => a.1 < next.1) = true) (ho : Op.lookupswitch.offset ps.toList dflt x.toInt = off) (ht : (pc : Int) + off = (tgt : Int)) (k : AW X M d mc ms cb sb tgt ls (st) w Q) : AW X M d mc ms cb sb pc ls (.int x :: st) w Q := by
  intro G p e R s m args below meth c A ad ad0 n0 H locs cells slots arr hR hA hr h1 h2
  exact lv_lookup hA.exec hA.code hd hq ho ht (k G p e R s m args below meth c A ad ad0 n0 H locs cells slots arr hR hA hr h1 h2)
theorem AW.iald {o n : Nat} {f : Nat → Int32} {i : Int32} (hd : decode M.2.1 pc = .ok (.iaload, 1)) (hp : pc + 1 = pc') (hw : w[o]? = some (.inl (0, n, .inl f))) (hin : vp_in i n) (k : AW X M d mc ms cb sb pc' ls (.int (f i.toNatClampNeg) :: st) w Q) : AW X M d mc ms cb sb pc ls (.int i :: .ref o :: st) w Q := by
  subst hp
  intro G p e R s m args below meth c A ad ad0 n0 H locs cells slots arr hR hA hr h1 h2
  exact va_iald hA.exec hA.code (hA.K G) hr.1 o 0 (cw_at hw) rfl hin hd (k G p e R s m args below meth c A ad ad0 n0 H locs cells slots arr hR hA hr h1 h2)
theorem AW.zald {o n : Nat} {f : Nat → Int32} {i : Int32} (hd : decode M.2.1 pc = .ok (.baload, 1)) (hp : pc + 1 = pc') (hw : w[o]? = some (.inl (1, n, .inl f))) (hin : vp_in i n) (k : AW X M d mc ms cb sb pc' ls (.int (f i.toNatClampNeg) :: st) w Q) : AW X M d mc ms cb sb pc ls (.int i :: .ref o :: st) w Q := by
  subst hp
  intro G p e R s m args below meth c A ad ad0 n0 H locs cells slots arr hR hA hr h1 h2
  exact va_zald hA.exec hA.code (hA.K G) hr.1 o 1 (cw_at hw) rfl hin hd (k G p e R s m args below meth c A ad ad0 n0 H locs cells slots arr hR hA hr h1 h2)
theorem AW.lald {o n : Nat} {f : Nat → Int64} {i : Int32} (hd : decode M.2.1 pc = .ok (.laload, 1)) (hp : pc + 1 = pc') (hw : w[o]? = some (.inl (2, n, .inr (.inl f)))) (hin : vp_in i n) (k : AW X M d mc ms cb sb pc' ls (.long (f i.toNatClampNeg) :: st) w Q) : AW X M d mc ms cb sb pc ls (.int i :: .ref o :: st) w Q := by
  subst hp
  intro G p e R s m args below meth c A ad ad0 n0 H locs cells slots arr hR hA hr h1 h2
  exact va_lald hA.exec hA.code (hA.K G) hr.1 o 2 (cw_at hw) rfl hin hd (k G p e R s m args below meth c A ad ad0 n0 H locs cells slots arr hR hA hr h1 h2)
theorem AW.iast {o n : Nat} {f : Nat → Int32} {i : Int32} {x : Int32} {w' : ct_W} (hd : decode M.2.1 pc = .ok (.iastore, 1)) (hp : pc + 1 = pc') (hw : w[o]? = some (.inl (0, n, .inl f))) (hin : vp_in i n) (hs : w.set o (.inl (0, n, .inl (upd f i.toNatClampNeg x))) = w') (k : AW X M d mc ms cb sb pc' ls (st) w' Q) : AW X M d mc ms cb sb pc ls (.int x :: .int i :: .ref o :: st) w Q := by
  subst hp
  intro G p e R s m args below meth c A ad ad0 n0 H locs cells slots arr hR hA hr h1 h2
  subst hs
  exact va_iast hA.exec hA.code (hA.K G) hr.1 hr.2.1 hr.2.2.1 o 0 (cw_at hw) rfl hin hd (fun H' locs' hP' hD' hS' => k G p e R s m args below meth c A ad ad0 n0 H' locs' cells slots arr hR hA ⟨by rw [← cw_set]; exact hP', by rw [← cw_set]; exact hD', hS', hr.2.2.2.1, by rw [List.length_set]; exact hr.2.2.2.2.1, by rw [List.length_set]; exact hr.2.2.2.2.2.1, by rw [List.length_set]; exact hr.2.2.2.2.2.2.1, hr.2.2.2.2.2.2.2⟩ h1 h2)
theorem AW.zast {o n : Nat} {f : Nat → Int32} {i : Int32} {x : Int32} {w' : ct_W} (hd : decode M.2.1 pc = .ok (.bastore, 1)) (hp : pc + 1 = pc') (hw : w[o]? = some (.inl (1, n, .inl f))) (hin : vp_in i n) (hs : w.set o (.inl (1, n, .inl (upd f i.toNatClampNeg (vp_nar .boolean x)))) = w') (k : AW X M d mc ms cb sb pc' ls (st) w' Q) : AW X M d mc ms cb sb pc ls (.int x :: .int i :: .ref o :: st) w Q := by
  subst hp
  intro G p e R s m args below meth c A ad ad0 n0 H locs cells slots arr hR hA hr h1 h2
  subst hs
  exact va_zast hA.exec hA.code (hA.K G) hr.1 hr.2.1 hr.2.2.1 o 1 (cw_at hw) rfl hin hd (fun H' locs' hP' hD' hS' => k G p e R s m args below meth c A ad ad0 n0 H' locs' cells slots arr hR hA ⟨by rw [← cw_set]; exact hP', by rw [← cw_set]; exact hD', hS', hr.2.2.2.1, by rw [List.length_set]; exact hr.2.2.2.2.1, by rw [List.length_set]; exact hr.2.2.2.2.2.1, by rw [List.length_set]; exact hr.2.2.2.2.2.2.1, hr.2.2.2.2.2.2.2⟩ h1 h2)
theorem AW.last {o n : Nat} {f : Nat → Int64} {i : Int32} {x : Int64} {w' : ct_W} (hd : decode M.2.1 pc = .ok (.lastore, 1)) (hp : pc + 1 = pc') (hw : w[o]? = some (.inl (2, n, .inr (.inl f)))) (hin : vp_in i n) (hs : w.set o (.inl (2, n, .inr (.inl (vp_updL f i.toNatClampNeg x)))) = w') (k : AW X M d mc ms cb sb pc' ls (st) w' Q) : AW X M d mc ms cb sb pc ls (.long x :: .int i :: .ref o :: st) w Q := by
  subst hp
  intro G p e R s m args below meth c A ad ad0 n0 H locs cells slots arr hR hA hr h1 h2
  subst hs
  exact va_last hA.exec hA.code (hA.K G) hr.1 hr.2.1 hr.2.2.1 o 2 (cw_at hw) rfl hin hd (fun H' locs' hP' hD' hS' => k G p e R s m args below meth c A ad ad0 n0 H' locs' cells slots arr hR hA ⟨by rw [← cw_set]; exact hP', by rw [← cw_set]; exact hD', hS', hr.2.2.2.1, by rw [List.length_set]; exact hr.2.2.2.2.1, by rw [List.length_set]; exact hr.2.2.2.2.2.1, by rw [List.length_set]; exact hr.2.2.2.2.2.2.1, hr.2.2.2.2.2.2.2⟩ h1 h2)
theorem AW.alen {o : Nat} {a : Nat × vp_A} {ty : FieldType} (hd : decode M.2.1 pc = .ok (.arraylength, 1)) (hp : pc + 1 = pc') (hw : w[o]? = some (.inl a)) (hty : ∀ tc : Nat → ClassId, (ct_tys tc)[a.1]? = some (tc a.1, ty)) (k : AW X M d mc ms cb sb pc' ls (.int (Int32.ofNat a.2.1) :: st) w Q) : AW X M d mc ms cb sb pc ls (.ref o :: st) w Q := by
  subst hp
  intro G p e R s m args below meth c A ad ad0 n0 H locs cells slots arr hR hA hr h1 h2
  exact va_alen hA.exec hA.code (hA.K G) hr.1 o a.1 (cw_at hw) (hty (xt X)) rfl hd (k G p e R s m args below meth c A ad ad0 n0 H locs cells slots arr hR hA hr h1 h2)
theorem AW.sld {i : Int32} (hd : decode M.2.1 pc = .ok (.iaload, 1)) (hp : pc + 1 = pc') (hin : vp_in i (xL X)) (k : AW X M d mc ms cb sb pc' ls (.int (xx X i.toNatClampNeg) :: st) w Q) : AW X M d mc ms cb sb pc ls (.int i :: .ref scr :: st) w Q := by
  subst hp
  intro G p e R s m args below meth c A ad ad0 n0 H locs cells slots arr hR hA hr h1 h2
  have hb := hr.sc
  show W p (xl X) e R s m args below meth c H locs cells slots _ (F0 m pc arr (.int i :: .ref (ad scr) :: st.map (cv ad)))
  rw [hb]
  exact va_sld hA.exec hA.code (H0 := s.heap) (A := A) (va_X.moved hA.lat.1.alike (G.2.2.2.1.kept (hA.lat.2.2 _ G.2.2.2.2.1))) (Nat.lt_of_lt_of_le G.2.2.2.2.1 hA.lat.2.1) (fun q => Nat.not_le.mpr G.2.2.2.2.1 (hA.A1 _ q)) hr.2.2.1 hin hd (k G p e R s m args below meth c A ad ad0 n0 H locs cells slots arr hR hA hr h1 h2)
theorem AW.slen (hd : decode M.2.1 pc = .ok (.arraylength, 1)) (hp : pc + 1 = pc') (k : AW X M d mc ms cb sb pc' ls (.int (Int32.ofNat (xL X)) :: st) w Q) : AW X M d mc ms cb sb pc ls (.ref scr :: st) w Q := by
  subst hp
  intro G p e R s m args below meth c A ad ad0 n0 H locs cells slots arr hR hA hr h1 h2
  have hb := hr.sc
  show W p (xl X) e R s m args below meth c H locs cells slots _ (F0 m pc arr (.ref (ad scr) :: st.map (cv ad)))
  rw [hb]
  exact va_slen hA.exec hA.code (H0 := s.heap) (A := A) (va_X.moved hA.lat.1.alike (G.2.2.2.1.kept (hA.lat.2.2 _ G.2.2.2.2.1))) (Nat.lt_of_lt_of_le G.2.2.2.2.1 hA.lat.2.1) (fun q => Nat.not_le.mpr G.2.2.2.2.1 (hA.A1 _ q)) hr.2.2.1 hd (k G p e R s m args below meth c A ad ad0 n0 H locs cells slots arr hR hA hr h1 h2)
theorem AW.iret {x : Int32} (hd : decode M.2.1 pc = .ok (.ireturn, 1)) (hret : M.2.2.2.1 = some .int) (hc : Nat.ble cb mc = true) (hs : Nat.ble sb ms = true) (hq : Q (.inl (some (.int x))) w) : AW X M d mc ms cb sb pc ls ([.int x]) w Q := by
  intro G p e R s m args below meth c A ad ad0 n0 H locs cells slots arr hR hA hr h1 h2
  have hl9 := hA.locks
  exact ct_end hr hq (Nat.le_trans h1 (Nat.le_of_ble_eq_true hc)) (Nat.le_trans h2 (Nat.le_of_ble_eq_true hs)) (W.iret (v := x) hA.exec hA.code (hA.ret.trans hret) (fun t ht _ => ⟨rfl, ht⟩) hr.2.2.1.2.2 hd hl9)
theorem AW.zret {x : Int32} (hd : decode M.2.1 pc = .ok (.ireturn, 1)) (hret : M.2.2.2.1 = some .boolean) (hn : narrow .boolean (.int x) = .int x) (hc : Nat.ble cb mc = true) (hs : Nat.ble sb ms = true) (hq : Q (.inl (some (.int x))) w) : AW X M d mc ms cb sb pc ls ([.int x]) w Q := by
  intro G p e R s m args below meth c A ad ad0 n0 H locs cells slots arr hR hA hr h1 h2
  have hl9 := hA.locks
  exact ct_end hr hq (Nat.le_trans h1 (Nat.le_of_ble_eq_true hc)) (Nat.le_trans h2 (Nat.le_of_ble_eq_true hs)) (W.zret (v := x) hA.exec hA.code (hA.ret.trans hret) hn (fun t ht _ => ⟨rfl, ht⟩) hr.2.2.1.2.2 hd hl9)
theorem AW.vret (hd : decode M.2.1 pc = .ok (.return_, 1)) (hret : M.2.2.2.1 = none) (hc : Nat.ble cb mc = true) (hs : Nat.ble sb ms = true) (hq : Q (.inl none) w) : AW X M d mc ms cb sb pc ls ([]) w Q := by
  intro G p e R s m args below meth c A ad ad0 n0 H locs cells slots arr hR hA hr h1 h2
  have hl9 := hA.locks
  exact ct_end hr hq (Nat.le_trans h1 (Nat.le_of_ble_eq_true hc)) (Nat.le_trans h2 (Nat.le_of_ble_eq_true hs)) (W.vret hA.exec hA.code (hA.ret.trans hret) (fun t ht _ => ⟨rfl, ht⟩) hr.2.2.1.2.2 hd hl9)
end AWR
end
section
/-! CALLS: a callee by its contract AM; it returns or throws -/
theorem ct_weaken {tb : Tables} {e : Env} {mid below : List Frame} {a b : State} (h : Steps tb e (mid ++ below) a b) : Steps tb e below a b := by
  obtain ⟨n, hn, hk⟩ := h
  exact ⟨n, hn, fun k hl => (hk k hl).weaken⟩
/-- the method's code stands in the tables -/
def ct_in (M : ct_M) : Prop := (M.2.2.2.2 = [] ∧ Cond.code M.1 M.2.1 M.2.2.1 M.2.2.2.1 ∈ lw_tbl) ∨ Cond.codeWith M.1 M.2.1 M.2.2.1 M.2.2.2.1 M.2.2.2.2 ∈ lw_tbl
theorem ct_in.spec {X : ct_X} {M : ct_M} (h : ct_in M) (G : Gl X) {s : State} (hl : Lat X s) : ∃ (mk : MethodId) (meth : Method) (c : Code), s.methodNamed? M.1 = some mk ∧ s.vm.method? mk = some meth ∧ meth.code = some c ∧ ct_Code M meth c ∧ parseMethodDescriptor M.1.desc = some meth.sig := by
  rcases h with ⟨h0, h⟩ | h
  · have hb := hl.w G h rfl #[]
    obtain ⟨mk, hn⟩ := Cond.code_named hb
    obtain ⟨meth, c, h1, h2, h3, h4, h5, h6, h7, h8⟩ := Cond.code_spec hn hb
    refine ⟨mk, meth, c, hn, h1, h2, ⟨h3, h4, h5, h6, ?_⟩, h8⟩
    rw [h0, Array.isEmpty_iff.mp h7]
    rfl
  · have hb := hl.w G h rfl #[]
    obtain ⟨mk, meth, c, hn, h1, h2, h3, h4, h5, h6, h7, h8⟩ := Cond.codeWith_spec hb
    exact ⟨mk, meth, c, hn, h1, h2, ⟨h3, h4, h6, h7, h5⟩, h8⟩
section CRUN
variable {X : ct_X} {M' : ct_M} {d' mc' ms' : Nat} {as : List Value} {w : ct_W} {Q' : Option Value ⊕ Nat → ct_W → Prop}
variable {p : Program} {e : Env} {R : Room} {s : State} {m : MethodId} {args : Array Value} {below : List Frame} {meth : Method} {c : Code} {T : State} {locs : List Loc} {cells slots : Nat}
set_option maxHeartbeats 1000000 in
theorem ct_run (hM : AM X M' d' mc' ms' as w Q') (G : Gl X) (Y : Stand p (xl X) e R s m args below meth c T locs cells slots)
    {g : JFrame} (hg : g.method = m) (hsize : g.locals.size = c.maxLocals) {ig : Instr} {len : Nat} (hdg : decode c.code g.pc = .ok (ig, len))
    {mk : MethodId} (hn : s.methodNamed? M'.1 = some mk) {methk : Method} {ck : Code} (hmk : s.vm.method? mk = some methk) (hck : methk.code = some ck) (hcd : ct_Code M' methk ck) (hpl : plainName M'.1.cls = true)
    (hexec : p.tables.exec = Jvm.exec) (hlat : Lat X s) {A : Nat → Prop} (hA1 : ∀ q, A q → (xs X).heap.size ≤ q) (hA2 : ∀ q, s.heap.size ≤ q → A q)
    {ad : Nat → Nat} (hP : va_P (xD X) vwCl (cw (xt X) ad w) T.heap) (hD : va_D A (cw (xt X) ad w)) (hS : va_S A s.heap T.heap locs) (hw : w.length ≤ scr) (hb : ad scr = xb X)
    (hf : d' + 1 ≤ R.frames) (hl : 2 * g.monitorRoom + (g.stack.map fun v => v.category).sum + (M'.2.2.1 + 11) + 30 * d' ≤ R.locals) (hc : cells + (mc' + 1) ≤ R.cells) (hs : slots + (ms' + 6) ≤ R.slots) :
    ∃ (r : Option Value ⊕ Nat) (ad' : Nat → Nat) (w' : ct_W) (L : List Loc) (k n : Nat) (T' : State), Q' r w' ∧ Stand p (xl X) e R s m args below meth c T' (locs ++ L) (cells + k) (slots + n) ∧
      (va_P (xD X) vwCl (cw (xt X) ad' w') T'.heap ∧ va_D A (cw (xt X) ad' w') ∧ va_S A s.heap T'.heap (locs ++ L) ∧ ct_ag w.length w'.length ad ad' ∧ w.length ≤ w'.length ∧ w'.length ≤ scr) ∧
      (∀ v, r = .inl v → k ≤ mc' ∧ n ≤ ms' ∧ ∀ acts, Steps p.tables e below (doInvoke e (T.setTop g) acts mk (as.map (cv ad)).toArray).1 (T'.setTop { g with pc := g.pc + len, stack := (v.map (cv ad')).toList ++ g.stack })) ∧
      (∀ x, r = .inr x → k ≤ mc' + 1 ∧ n ≤ ms' + 6 ∧ ∃ (q : Addr) (cell : Cell), T'.heap[q]? = some cell ∧ cell.vm = .none ∧ s.vm.findClass (xn x) = some cell.cls ∧
        ∀ acts, Steps p.tables e below (doInvoke e (T.setTop g) acts mk (as.map (cv ad)).toArray).1 ((T'.setTop g).pushFrame (.throwing q))) := by
  have hmkT : T.vm.method? mk = some methk := by rw [Y.warmed.alike.method?]; exact hmk
  have hnT : T.methodNamed? M'.1 = some mk := Y.named hn
  have hpk : T.plainMethod mk := State.plainMethod.of_named (s := T) (plainFor_of_name hpl) hnT hmkT
  obtain ⟨Z, hin⟩ := Y.into hg hsize hdg (as.map (cv ad)).toArray (R' := { frames := d', cells := mc' + 1, slots := ms' + 6, locals := 30 * d' }) hmkT hck hcd.2.2.2.1 hpk hf (by rw [hcd.2.1]; exact hl) hc hs
  have hamb : Amb X M' p (T.calling g mk (as.map (cv ad)).toArray) mk methk ck A := by
    refine ⟨hexec, hcd, findClass_of_methodNamed hnT, (name_of_methodNamed hn hmk).1, ⟨State.WarmedH.trans hlat.1 Y.warmed, Nat.le_trans hlat.2.1 hS.1, fun q hq => ?_⟩, hA1, fun q hq => hA2 q (Nat.le_trans hS.1 hq)⟩
    exact (hS.2.1 q (Nat.lt_of_lt_of_le hq hlat.2.1) (fun z => Nat.not_le.mpr hq (hA1 q z))).trans (hlat.2.2 q hq)
  obtain ⟨t, hst, o, r, ad', w', L, k, n, ⟨b1, b2, b3, b4, b5, b6⟩, ⟨c1, c2, c3, c4, c5⟩, hq, hout⟩ := hM G p e { frames := d', cells := mc' + 1, slots := ms' + 6, locals := 30 * d' } (T.calling g mk (as.map (cv ad)).toArray) mk (.java g :: below) methk ck A ad ⟨Nat.le_refl _, Nat.le_refl _, Nat.le_refl _, Nat.le_refl _⟩ hamb hP hD hw hb ((T.setTop g).pushFrame (.java (entryFrame mk (as.map (cv ad)).toArray ck.maxLocals))) rfl Z
  have hgo : ∀ acts, Steps p.tables e below (doInvoke e (T.setTop g) acts mk (as.map (cv ad)).toArray).1 t := fun acts => by
    rw [hin acts]
    rw [← hcd.2.1] at hst
    exact ct_weaken (mid := [.java g]) hst
  have hSt : va_S A s.heap t.heap (locs ++ L) := ⟨Nat.le_trans hS.1 b6.1, fun q h1 h2 => (b6.2 q (Nat.lt_of_lt_of_le h1 hS.1) h2).trans (hS.2.1 q h1 h2), fun q hq => (List.mem_append.mp hq).elim (hS.2.2 q) (b5 q)⟩
  cases r with
  | inl v =>
    obtain ⟨rfl, hk, hn9⟩ := hout
    obtain ⟨T', Y', -, -, ht⟩ := Y.outOf hg hdg b2 b3 b4
    have hh : t.heap = T'.heap := by rw [ht]; rfl
    rw [hh] at c1 hSt
    refine ⟨.inl v, ad', w', L, k, n, T', hq, Y', ⟨c1, c2, hSt, c3, c4, c5⟩, fun v' h => ?_, fun x h => nomatch h⟩
    cases h
    exact ⟨hk, hn9, fun acts => by rw [← ht]; exact hgo acts⟩
  | inr x =>
    obtain ⟨⟨q, cell, rfl, h1, h2, h3⟩, hk, hn9⟩ := hout
    obtain ⟨T', Y', -, -, ht⟩ := Y.outOfThrown hg b2 b3 b4
    have hh : t.heap = T'.heap := by rw [ht]; rfl
    rw [hh] at c1 hSt h1
    refine ⟨.inr x, ad', w', L, k, n, T', hq, Y', ⟨c1, c2, hSt, c3, c4, c5⟩, fun v' h => (nomatch h), fun x' h => ?_⟩
    cases h
    refine ⟨hk, hn9, q, cell, h1, h2, ?_, fun acts => by rw [← ht]; exact hgo acts⟩
    have h4 : T.vm.findClass (xn x) = some cell.cls := h3
    rw [Y.warmed.alike.findClass] at h4
    exact h4
end CRUN
theorem ct_room {m : MethodId} {pc : Nat} {arr : Array Slot} {st : List Value} {ad : Nat → Nat} {stk : List Value} {d d' nL RL : Nat} (hc : (st.map fun v => v.category).sum ≤ 8) (hd : d' < d) (hn : nL ≤ 11) (hR : 30 * d ≤ RL) :
    2 * (F0 m pc arr stk).monitorRoom + ((st.map (cv ad)).map fun v => v.category).sum + (nL + 11) + 30 * d' ≤ RL := by
  have h1 : ((st.map (cv ad)).map fun v => v.category) = st.map fun v => v.category := by
    rw [List.map_map]
    exact List.map_congr_left fun v _ => cv_cat ad v
  rw [h1]
  show 2 * 0 + _ + _ + _ ≤ _
  omega
/-- A POINT WHERE AN EXCEPTION OF THE CLASS xn x HAS COME to the instruction at pc -/
def AX (X : ct_X) (M : ct_M) (d mc ms cb sb pc : Nat) (ls : List (Option Value)) (w : ct_W) (Q : Option Value ⊕ Nat → ct_W → Prop) (x : Nat) : Prop :=
  Gl X → ∀ (p : Program) (e : Env) (R : Room) (s : State) (m : MethodId) (args : Array Value) (below : List Frame) (meth : Method) (c : Code) (A : Nat → Prop) (ad ad0 : Nat → Nat) (n0 : Nat) (H : Heap) (locs : List Loc) (cells slots : Nat) (arr : Array Slot) (stk : List Value) (q : Addr) (cell : Cell),
    RD d mc ms R → Amb X M p s m meth c A → Rel X M.2.2.1 A s ad ad0 n0 w H locs ls arr → cells ≤ cb + 1 → slots ≤ sb + 6 → H[q]? = some cell → cell.vm = .none → s.vm.findClass (xn x) = some cell.cls →
    ∀ T : State, T.heap = H → Stand p (xl X) e R s m args below meth c T locs cells slots → ∃ t, Steps p.tables e below ((T.setTop (F0 m pc arr stk)).pushFrame (.throwing q)) t ∧ AEnd X below s A ad0 n0 mc ms Q t
/-- no handlers: the method throws it on -/
theorem AX.out {X : ct_X} {M : ct_M} {d mc ms cb sb pc : Nat} {ls : List (Option Value)} {w : ct_W} {Q : Option Value ⊕ Nat → ct_W → Prop} {x : Nat} (h0 : M.2.2.2.2 = []) (hc : Nat.ble cb mc = true) (hs : Nat.ble sb ms = true) (hq : Q (.inr x) w) : AX X M d mc ms cb sb pc ls w Q x := by
  intro G p e R s m args below meth c A ad ad0 n0 H locs cells slots arr stk q cell hR hA hr h1 h2 h3 h4 h5 T hT Y
  have hl9 := hA.locks
  have hno : c.exceptionTable.toList = [] := by
    have h := hA.table
    rw [h0] at h
    exact List.map_eq_nil_iff.mp h
  obtain ⟨a1, a2, a3, a4, a5⟩ := Y.leaveThrown q (g := F0 m pc arr stk) rfl rfl rfl (fun z hz => by rw [hno] at hz; cases hz) hl9
  obtain ⟨hP, hD, hS, -, r5, r6, r7, -⟩ := hr
  have hc' := Nat.le_of_ble_eq_true hc
  have hs' := Nat.le_of_ble_eq_true hs
  have hh : (T.setFrames (.throwing q :: below)).heap = H := hT
  exact ⟨_, a1, .threw q, .inr x, ad, w, locs, cells, slots, ⟨a2, a3, a4, a5, hS.2.2, hS.F hh⟩, ⟨by rw [hh]; exact hP, hD, r5, r6, r7⟩, hq, ⟨q, cell, rfl, by rw [hh]; exact h3, h4, h5⟩, by omega, by omega⟩
section CCALL
variable {X : ct_X} {M M' : ct_M} {d d' mc ms mc' ms' cb sb pc pc' : Nat} {ls : List (Option Value)} {as st stk : List Value} {w : ct_W} {Q Q' : Option Value ⊕ Nat → ct_W → Prop}
set_option maxHeartbeats 1000000 in
theorem ct_call {p : Program} {e : Env} {R : Room} {s : State} {m : MethodId} {args : Array Value} {below : List Frame} {meth : Method} {c : Code} {A : Nat → Prop} {ad ad0 : Nat → Nat} {n0 : Nat} {H : Heap} {locs : List Loc} {cells slots : Nat} {arr : Array Slot} {ig : Instr} {sk : List Value}
    (hM : AM X M' d' mc' ms' as w Q') (G : Gl X) (hR : RD d mc ms R) (hA : Amb X M p s m meth c A) (hr : Rel X M.2.2.1 A s ad ad0 n0 w H locs ls arr) (h1 : cells ≤ cb) (h2 : slots ≤ sb)
    (hd : decode M.2.1 pc = .ok (ig, 3)) (hin : ct_in M') (hpl : plainName M'.1.cls = true) (hdep : d' < d) (hml : M'.2.2.1 ≤ 11) (hcat : (st.map fun v => v.category).sum ≤ 8) (hcb : cb + mc' ≤ mc) (hsb : sb + ms' ≤ ms)
    (hlk : ∀ T : State, T.heap = H → Stand p (xl X) e R s m args below meth c T locs cells slots → ∀ mk methk ck, s.methodNamed? M'.1 = some mk → s.vm.method? mk = some methk → methk.code = some ck → ct_Code M' methk ck → parseMethodDescriptor M'.1.desc = some methk.sig →
      ∃ vm₁, Stand p (xl X) e R s m args below meth c (T.setVm vm₁) locs cells slots ∧ ∀ target, (∀ acts, Steps p.tables e below (doInvoke e ((T.setVm vm₁).setTop (F0 m pc arr (st.map (cv ad)))) acts mk (as.map (cv ad)).toArray).1 target) → Steps p.tables e below (T.setTop (F0 m pc arr sk)) target)
    (hwf : ∀ r w', Q' r w' → w'.length = w.length ∨ (wfL w.length w'.length ls = true ∧ wfS w.length w'.length st = true))
    (hret : ∀ v w', Q' (.inl v) w' → AW X M d mc ms (cb + mc') (sb + ms') (pc + 3) ls (v.toList ++ st) w' Q)
    (hthr : ∀ x w', Q' (.inr x) w' → AX X M d mc ms (cb + mc') (sb + ms') pc ls w' Q x) :
    W p (xl X) e R s m args below meth c H locs cells slots (AEnd X below s A ad0 n0 mc ms Q) (F0 m pc arr sk) := by
  intro T hT Y
  obtain ⟨hP, hD, hS, hL, r5, r6, r7, r8⟩ := id hr
  obtain ⟨mk, methk, ck, hn, hmk, hck, hcd, hsig⟩ := hin.spec G hA.lat
  obtain ⟨vm₁, Y₁, hstep⟩ := hlk T hT Y mk methk ck hn hmk hck hcd hsig
  have hT1 : (T.setVm vm₁).heap = H := hT
  obtain ⟨hR1, hR2, hR3, hR4⟩ := hR
  obtain ⟨r, ad', w', L, k, n, T', hq, Y', ⟨c1, c2, c3, c4, c5, c6⟩, hv, hx⟩ := ct_run hM G Y₁ (g := F0 m pc arr (st.map (cv ad))) rfl (hL.1.1.trans hA.maxL.symm) (by rw [hA.code]; exact hd) hn hmk hck hcd hpl hA.exec hA.lat hA.A1 hA.A2
    (by rw [hT1]; exact hP) hD (by rw [hT1]; exact hS) r7 hr.sc (by omega) (ct_room hcat hdep hml hR2) (by omega) (by omega)
  have hag : LV ad' M.2.2.1 ls arr ∧ st.map (cv ad') = st.map (cv ad) := by
    rcases hwf r w' hq with h | ⟨h, h'⟩
    · have e9 : ad' = ad := funext fun i => c4 i (by omega)
      rw [e9]
      exact ⟨hL, rfl⟩
    · exact ⟨hL.wf h c4, cvs_wf h' c4⟩
  have hrel : Rel X M.2.2.1 A s ad' ad0 n0 w' T'.heap (locs ++ L) ls arr := ⟨c1, c2, c3, hag.1, fun i hi => (c4 i (by omega)).trans (r5 i (by omega)), Nat.le_trans r6 c5, c6, r8⟩
  cases r with
  | inl v =>
    obtain ⟨hk, hn9, hs9⟩ := hv v rfl
    obtain ⟨t, a1, b1⟩ := hret v w' hq G p e R s m args below meth c A ad' ad0 n0 T'.heap (locs ++ L) (cells + k) (slots + n) arr ⟨hR1, hR2, hR3, hR4⟩ hA hrel (by omega) (by omega) T' rfl Y'
    have hstk : (v.toList ++ st).map (cv ad') = (v.map (cv ad')).toList ++ st.map (cv ad) := by
      rw [List.map_append, hag.2]
      cases v <;> rfl
    rw [hstk] at a1
    exact ⟨t, hstep t (fun acts => (hs9 acts).trans a1), b1⟩
  | inr x =>
    obtain ⟨hk, hn9, q, cell, g1, g2, g3, hs9⟩ := hx x rfl
    obtain ⟨t, a1, b1⟩ := hthr x w' hq G p e R s m args below meth c A ad' ad0 n0 T'.heap (locs ++ L) (cells + k) (slots + n) arr (st.map (cv ad)) q cell ⟨hR1, hR2, hR3, hR4⟩ hA hrel (by omega) (by omega) g1 g2 g3 T' rfl Y'
    exact ⟨t, hstep t (fun acts => (hs9 acts).trans a1), b1⟩
/-- the number of a method's parameters, by its descriptor -/
def ct_np (y : MethodName) (n : Nat) : Prop := y.cls ≠ "java/lang/invoke/MethodHandle" ∧ y.cls ≠ "java/lang/invoke/VarHandle" ∧ (parseMethodDescriptor y.desc).map (fun q => q.parameters.length) = some n
theorem ct_np.len {y : MethodName} {n : Nat} (h : ct_np y n) {sig : MethodDescriptor} (hs : parseMethodDescriptor y.desc = some sig) : n = sig.parameters.length := by
  have h2 := h.2.2
  rw [hs] at h2
  exact (Option.some.inj h2).symm
/-- what a call's site asks of the callee M', of depth d' -/
def ct_site (M' : ct_M) (d d' : Nat) : Prop := ct_in M' ∧ plainName M'.1.cls = true ∧ d' < d ∧ M'.2.2.1 ≤ 11
theorem AW.callS {index : Nat} (hd : decode M.2.1 pc = .ok (.invokestatic index, 3)) (hp : pc + 3 = pc') (hsite : ct_site M' d d') (hlink : Cond.methodLink M.1.cls index M'.1 ∈ lw_tbl) (hstat : Cond.static M'.1 ∈ lw_tbl) (hini : Cond.initialized M'.1.cls ∈ lw_tbl) (hnp : ct_np M'.1 as.length)
    (hM : AM X M' d' mc' ms' as w Q') (hst : as.reverse ++ st = stk) (hcat : Nat.ble (st.map fun v => v.category).sum 8 = true) (hcb : Nat.ble (cb + mc') mc = true) (hsb : Nat.ble (sb + ms') ms = true)
    (hwf : ∀ r w', Q' r w' → w'.length = w.length ∨ (wfL w.length w'.length ls = true ∧ wfS w.length w'.length st = true))
    (hthr : ∀ x w', Q' (.inr x) w' → AX X M d mc ms (cb + mc') (sb + ms') pc ls w' Q x) (hret : ∀ v w', Q' (.inl v) w' → AW X M d mc ms (cb + mc') (sb + ms') pc' ls (v.toList ++ st) w' Q) : AW X M d mc ms cb sb pc ls stk w Q := by
  subst hp
  subst hst
  intro G p e R s m args below meth c A ad ad0 n0 H locs cells slots arr hR hA hr h1 h2
  refine ct_call hM G hR hA hr h1 h2 hd hsite.1 hsite.2.1 hsite.2.2.1 hsite.2.2.2 (Nat.le_of_ble_eq_true hcat) (Nat.le_of_ble_eq_true hcb) (Nat.le_of_ble_eq_true hsb) ?_ hwf hret hthr
  intro T hT Y mk methk ck hn hmk hck hcd hsig
  have hstatic : methk.isStatic = true := Cond.static_spec hn hmk (hA.lat.w G hstat rfl args)
  obtain ⟨kP, hkP, -⟩ := className_of_methodNamed hn
  have hinitP : kP.init = .initialized := Cond.initialized_spec (findClass_of_methodNamed hn) hkP (hA.lat.w G hini rfl args)
  exact Y.invokestatic hA.exec hA.own (hA.lat.w G hlink rfl args) hn hmk hstatic hkP hinitP ⟨hnp.1, hnp.2.1⟩ (g := F0 m pc arr ((as.reverse ++ st).map (cv ad))) rfl (argsL := as.map (cv ad)) (rest := st.map (cv ad)) (by rw [List.length_map]; exact hnp.len hsig)
    (by show (as.reverse ++ st).map (cv ad) = _; rw [List.map_append, List.map_reverse]) (by rw [hA.code]; exact hd)
theorem AW.callV {index o ci : Nat} {as' fs : List Value} {C : String} {F : u_T} {N : Nat} (hd : decode M.2.1 pc = .ok (.invokevirtual index, 3)) (hp : pc + 3 = pc') (hsite : ct_site M' d d') (hlink : Cond.methodLink M.1.cls index M'.1 ∈ lw_tbl) (hinst : Cond.instanceMethod M'.1 ∈ lw_tbl) (hnp : ct_np M'.1 as'.length)
    (hw : w[o]? = some (.inr (ci, fs))) (hc : vwCl[ci]? = some (C, F, N)) (hsel : Cond.selects C M'.1 M'.1 ∈ lw_tbl) (has : .ref o :: as' = as)
    (hM : AM X M' d' mc' ms' as w Q') (hst : as'.reverse ++ .ref o :: st = stk) (hcat : Nat.ble (st.map fun v => v.category).sum 8 = true) (hcb : Nat.ble (cb + mc') mc = true) (hsb : Nat.ble (sb + ms') ms = true)
    (hwf : ∀ r w', Q' r w' → w'.length = w.length ∨ (wfL w.length w'.length ls = true ∧ wfS w.length w'.length st = true))
    (hthr : ∀ x w', Q' (.inr x) w' → AX X M d mc ms (cb + mc') (sb + ms') pc ls w' Q x) (hret : ∀ v w', Q' (.inl v) w' → AW X M d mc ms (cb + mc') (sb + ms') pc' ls (v.toList ++ st) w' Q) : AW X M d mc ms cb sb pc ls stk w Q := by
  subst hp
  subst hst
  subst has
  intro G p e R s m args below meth c A ad ad0 n0 H locs cells slots arr hR hA hr h1 h2
  refine ct_call hM G hR hA hr h1 h2 hd hsite.1 hsite.2.1 hsite.2.2.1 hsite.2.2.2 (Nat.le_of_ble_eq_true hcat) (Nat.le_of_ble_eq_true hcb) (Nat.le_of_ble_eq_true hsb) ?_ hwf hret hthr
  intro T hT Y mk methk ck hn hmk hck hcd hsig
  obtain ⟨mk', methM, hn', hmethM, hstM, habM⟩ := Cond.instanceMethod_spec (hA.lat.w G hinst rfl args)
  cases Option.some.inj (hn.symm.trans hn')
  cases Option.some.inj (hmk.symm.trans hmethM)
  obtain ⟨c2, r2, m2, q1, q2, q3, q4, kP, hkP, hkPi⟩ := Cond.selects_spec (hA.lat.w G hsel rfl args)
  obtain ⟨cell, g1, g2, g3⟩ := va_recv (hA.K G) hr.1 hc (cw_at hw)
  cases Option.some.inj (g3.symm.trans q1)
  cases Option.some.inj ((State.methodFound?_of_named hn ⟨hnp.1, hnp.2.1⟩).symm.trans q2)
  cases Option.some.inj (hn.symm.trans q3)
  have hselP : selectMethod e.platform s.vm cell.cls mk = .method mk := by rw [Launch.admits_selectMethod Y.admits]; exact q4
  exact Y.invokevirtual hA.exec hA.own (hA.lat.w G hlink rfl args) hn hmk hstM hkP hkPi ⟨hnp.1, hnp.2.1⟩ (a := ad o) (cell := cell) (by rw [hT]; exact g1) (fun z h => by rw [h] at g2; cases g2) hselP hmk habM hkP hkPi
    (g := F0 m pc arr ((as'.reverse ++ .ref o :: st).map (cv ad))) rfl (argsL := as'.map (cv ad)) (rest := st.map (cv ad)) (by rw [List.length_map]; exact hnp.len hsig)
    (by show (as'.reverse ++ .ref o :: st).map (cv ad) = _; rw [List.map_append, List.map_reverse]; rfl) (by rw [hA.code]; exact hd)
theorem AW.callI {index o : Nat} {as' : List Value} (hd : decode M.2.1 pc = .ok (.invokespecial index, 3)) (hp : pc + 3 = pc') (hsite : ct_site M' d d') (hc0 : M'.2.2.2.2 = []) (hr0 : M'.2.2.2.1 = none) (hcode : Cond.code M'.1 M'.2.1 M'.2.2.1 none ∈ lw_tbl) (hy : M'.1.name = "<init>") (hlink : Cond.methodLink M.1.cls index M'.1 ∈ lw_tbl) (hinst : Cond.instanceMethod M'.1 ∈ lw_tbl) (hnp : ct_np M'.1 as'.length)
    (has : .ref o :: as' = as)
    (hM : AM X M' d' mc' ms' as w Q') (hst : as'.reverse ++ .ref o :: st = stk) (hcat : Nat.ble (st.map fun v => v.category).sum 8 = true) (hcb : Nat.ble (cb + mc') mc = true) (hsb : Nat.ble (sb + ms') ms = true)
    (hwf : ∀ r w', Q' r w' → w'.length = w.length ∨ (wfL w.length w'.length ls = true ∧ wfS w.length w'.length st = true))
    (hthr : ∀ x w', Q' (.inr x) w' → AX X M d mc ms (cb + mc') (sb + ms') pc ls w' Q x) (hret : ∀ v w', Q' (.inl v) w' → AW X M d mc ms (cb + mc') (sb + ms') pc' ls (v.toList ++ st) w' Q) : AW X M d mc ms cb sb pc ls stk w Q := by
  subst hp
  subst hst
  subst has
  intro G p e R s m args below meth c A ad ad0 n0 H locs cells slots arr hR hA hr h1 h2
  refine ct_call hM G hR hA hr h1 h2 hd hsite.1 hsite.2.1 hsite.2.2.1 hsite.2.2.2 (Nat.le_of_ble_eq_true hcat) (Nat.le_of_ble_eq_true hcb) (Nat.le_of_ble_eq_true hsb) ?_ hwf hret hthr
  intro T hT Y mk methk ck hn hmk hck hcd hsig
  have hplt : e.platform.magicAccessors = ({} : Platform).magicAccessors := by rw [Y.admits.platform]
  obtain ⟨mk', methM, cM, kP, vm₁, hn', -, -, -, -, -, -, -, hW₁, hstep₁⟩ := Steps.initColdArgs (e := e) Y.here hA.exec Y.warmed hplt hA.own hy ⟨hnp.1, hnp.2.1⟩ (hA.lat.w G hlink rfl args) (hA.lat.w G hinst rfl args) (hA.lat.w G hcode rfl args)
    (f := F0 m pc arr ((as'.reverse ++ .ref o :: st).map (cv ad))) rfl (a := ad o) (argsL := as'.map (cv ad)) (rest := st.map (cv ad)) (fun sig h => by rw [List.length_map]; exact hnp.len h)
    (by show (as'.reverse ++ .ref o :: st).map (cv ad) = _; rw [List.map_append, List.map_reverse]; rfl) (by rw [hA.code]; exact hd)
  cases Option.some.inj (hn.symm.trans hn')
  exact ⟨vm₁, Y.noted hW₁, hstep₁⟩
end CCALL
end
section
/-! FIELDS, NEW CELLS -/
def ct_fl (own : String) (index ci j : Nat) : Prop := ∃ (C : String) (F : u_T) (N : Nat), vwCl[ci]? = some (C, F, N) ∧ j < N ∧ Cond.fieldLink own index (F j).1 (F j).2.1 (F j).2.2.1 ∈ lw_tbl
def ct_fp (own : String) (index ci j : Nat) (ty : FieldType) (fin : Bool) : Prop := ∃ (C : String) (F : u_T) (N : Nat), vwCl[ci]? = some (C, F, N) ∧ j < N ∧ Cond.fieldLink own index (F j).1 (F j).2.1 (F j).2.2.1 ∈ lw_tbl ∧ (F j).2.2.2 = fin ∧ parseFieldDescriptor (F j).2.2.1 = some ty ∧ (F j).1 = own
def ct_nw (own : String) (index ci N : Nat) (fs : List Value) : Prop := ∃ (C : String) (F : u_T) (ty : Nat → FieldType), vwCl[ci]? = some (C, F, N) ∧ Cond.classLink own index C ∈ lw_tbl ∧ Cond.instantiable C N ∈ lw_tbl ∧ Cond.initialized C ∈ lw_tbl ∧ (∀ j, j < N → parseFieldDescriptor (F j).2.2.1 = some (ty j)) ∧ ∀ j, j < N → defaultValue (ty j) = vp_V fs j
section CELLS
variable {X : ct_X} {M : ct_M} {d mc ms cb sb pc pc' : Nat} {ls : List (Option Value)} {st : List Value} {w : ct_W} {Q : Option Value ⊕ Nat → ct_W → Prop}
theorem AW.getf {index o ci j : Nat} {fs : List Value} {v : Value} (hd : decode M.2.1 pc = .ok (.getfield index, 3)) (hp : pc + 3 = pc') (hf : ct_fl M.1.cls index ci j) (hw : w[o]? = some (.inr (ci, fs))) (hv : fs[j]? = some v) (k : AW X M d mc ms cb sb pc' ls (v :: st) w Q) : AW X M d mc ms cb sb pc ls (.ref o :: st) w Q := by
  subst hp
  intro G p e R s m args below meth c A ad ad0 n0 H locs cells slots arr hR hA hr h1 h2
  obtain ⟨C, F, N, hc, hj, hl⟩ := hf
  obtain ⟨hu, -, -⟩ := ct_cls hc
  exact va_get (D := xD X) (ci := ci) (v := cv ad v) hA.exec hA.code (fun w h => hA.lat.w G (hu w h).1 (hu w h).2 args) (fun w h => h) hA.own (hA.K G) hr.1 o (cw_at hw) hc j hj (hA.lat.w G hl rfl args) (fun _ h => h) (by rw [List.getElem?_map, hv]; rfl) hd
    (k G p e R s m args below meth c A ad ad0 n0 H locs cells slots arr hR hA hr h1 h2)
theorem AW.putf {index o ci j : Nat} {fs fs' : List Value} {v : Value} {ty : FieldType} {w' : ct_W} (hd : decode M.2.1 pc = .ok (.putfield index, 3)) (hp : pc + 3 = pc') (hf : ct_fp M.1.cls index ci j ty false) (hw : w[o]? = some (.inr (ci, fs))) (hl : Nat.ble (j + 1) fs.length = true) (hn : ∀ ad, narrow ty (cv ad v) = cv ad v ∧ fits ty (cv ad v) = true) (hs : fs.set j v = fs') (hs' : w.set o (.inr (ci, fs')) = w') (k : AW X M d mc ms cb sb pc' ls st w' Q) : AW X M d mc ms cb sb pc ls (v :: .ref o :: st) w Q := by
  subst hp
  subst hs
  subst hs'
  intro G p e R s m args below meth c A ad ad0 n0 H locs cells slots arr hR hA hr h1 h2
  obtain ⟨C, F, N, hc, hj, hlk, hfin, hty, -⟩ := hf
  obtain ⟨hu, ⟨ty0, hty0⟩, hnm⟩ := ct_cls hc
  have hset : (fs.map (cv ad)).set j (cv ad v) = (fs.set j v).map (cv ad) := List.map_set.symm
  refine va_put (D := xD X) (ci := ci) (v := cv ad v) (ty := ty) hA.exec hA.code (fun w h => hA.lat.w G (hu w h).1 (hu w h).2 args) (fun w h => h) ty0 hty0 hnm hA.own (hA.K G) hr.1 hr.2.1 hr.2.2.1 o (cw_at hw) hc j hj (hA.lat.w G hlk rfl args) (fun _ h => h) hfin hty (hn ad).1 (hn ad).2 (by rw [List.length_map]; exact Nat.le_of_ble_eq_true hl) hd (fun H' locs' hP' hD' hS' => ?_)
  rw [hset] at hP' hD'
  exact k G p e R s m args below meth c A ad ad0 n0 H' locs' cells slots arr hR hA ⟨by rw [← cw_set]; exact hP', by rw [← cw_set]; exact hD', hS', hr.2.2.2.1, by rw [List.length_set]; exact hr.2.2.2.2.1, by rw [List.length_set]; exact hr.2.2.2.2.2.1, by rw [List.length_set]; exact hr.2.2.2.2.2.2.1, hr.2.2.2.2.2.2.2⟩ h1 h2
theorem AW.putF {index o ci j : Nat} {fs fs' : List Value} {v : Value} {ty : FieldType} {w' : ct_W} (hd : decode M.2.1 pc = .ok (.putfield index, 3)) (hp : pc + 3 = pc') (hi : M.1.name = "<init>") (hf : ct_fp M.1.cls index ci j ty true) (hw : w[o]? = some (.inr (ci, fs))) (hl : Nat.ble (j + 1) fs.length = true) (hn : ∀ ad, narrow ty (cv ad v) = cv ad v ∧ fits ty (cv ad v) = true) (hs : fs.set j v = fs') (hs' : w.set o (.inr (ci, fs')) = w') (k : AW X M d mc ms cb sb pc' ls st w' Q) : AW X M d mc ms cb sb pc ls (v :: .ref o :: st) w Q := by
  subst hp
  subst hs
  subst hs'
  intro G p e R s m args below meth c A ad ad0 n0 H locs cells slots arr hR hA hr h1 h2
  obtain ⟨C, F, N, hc, hj, hlk, hfin, hty, hdc⟩ := hf
  obtain ⟨hu, ⟨ty0, hty0⟩, hnm⟩ := ct_cls hc
  have hset : (fs.map (cv ad)).set j (cv ad v) = (fs.set j v).map (cv ad) := List.map_set.symm
  refine va_putF (D := xD X) (ci := ci) (v := cv ad v) (ty := ty) hA.exec hA.code (fun w h => hA.lat.w G (hu w h).1 (hu w h).2 args) (fun w h => h) ty0 hty0 hnm hA.own (hA.K G) hr.1 hr.2.1 hr.2.2.1 o (cw_at hw) hc j hj (hA.lat.w G hlk rfl args) (fun _ h => h) hfin (hA.name.trans hi) hdc hty (hn ad).1 (hn ad).2 (by rw [List.length_map]; exact Nat.le_of_ble_eq_true hl) hd (fun H' locs' hP' hD' hS' => ?_)
  rw [hset] at hP' hD'
  exact k G p e R s m args below meth c A ad ad0 n0 H' locs' cells slots arr hR hA ⟨by rw [← cw_set]; exact hP', by rw [← cw_set]; exact hD', hS', hr.2.2.2.1, by rw [List.length_set]; exact hr.2.2.2.2.1, by rw [List.length_set]; exact hr.2.2.2.2.2.1, by rw [List.length_set]; exact hr.2.2.2.2.2.2.1, hr.2.2.2.2.2.2.2⟩ h1 h2
theorem Rel.push {nL : Nat} {A : Nat → Prop} {s : State} {ad ad0 : Nat → Nat} {n0 : Nat} {H H' : Heap} {locs locs' : List Loc} {arr : Array Slot} {q : Nat} {z : ct_E} (hr : Rel X nL A s ad ad0 n0 w H locs ls arr) (hP : va_P (xD X) vwCl (cw (xt X) ad w ++ [(q, ce (xt X) ad z)]) H') (hD : va_D A (cw (xt X) ad w ++ [(q, ce (xt X) ad z)])) (hS : va_S A s.heap H' locs')
    (hwf : wfW w.length (w.length + 1) w = true ∧ wfE w.length (w.length + 1) z = true ∧ wfL w.length (w.length + 1) ls = true ∧ Nat.ble (w.length + 1) scr = true) : Rel X nL A s (va_up ad w.length q) ad0 n0 (w ++ [z]) H' locs' ls arr := by
  obtain ⟨-, -, -, hL, r5, r6, r7, r8⟩ := hr
  have ha : ct_ag w.length (w.length + 1) ad (va_up ad w.length q) := fun i hi => va_up_ne _ _ (by omega)
  have hlen : (w ++ [z]).length = w.length + 1 := by simp
  refine ⟨by rw [cw_push hwf.1 hwf.2.1]; exact hP, by rw [cw_push hwf.1 hwf.2.1]; exact hD, hS, hL.wf hwf.2.2.1 ha, fun i hi => ?_, by omega, by rw [hlen]; exact Nat.le_of_ble_eq_true hwf.2.2.2, r8⟩
  rw [hlen] at hi
  exact (ha i (by omega)).trans (r5 i (by omega))
theorem AW.new {index ci N cb' sb' : Nat} {fs : List Value} {w' : ct_W} {n : Nat} (hd : decode M.2.1 pc = .ok (.new index, 3)) (hp : pc + 3 = pc') (hf : ct_nw M.1.cls index ci N fs) (hfs : ∀ ad, fs.map (cv ad) = fs) (hn : w.length = n)
    (hwf : wfW w.length (w.length + 1) w = true ∧ wfE w.length (w.length + 1) (.inr (ci, fs)) = true ∧ wfL w.length (w.length + 1) ls = true ∧ Nat.ble (w.length + 1) scr = true) (hst : wfS w.length (w.length + 1) st = true) (hcb : cb + 1 = cb') (hsb : sb + N = sb') (hc : Nat.ble cb' mc = true) (hs : Nat.ble sb' ms = true) (hw' : w ++ [.inr (ci, fs)] = w')
    (k : AW X M d mc ms cb' sb' pc' ls (.ref n :: st) w' Q) : AW X M d mc ms cb sb pc ls st w Q := by
  subst hp
  subst hcb
  subst hsb
  subst hn
  subst hw'
  intro G p e R s m args below meth c A ad ad0 n0 H locs cells slots arr hR hA hr h1 h2
  obtain ⟨C, F, ty, hcl, hl1, hl2, hl3, hty, hdf⟩ := hf
  obtain ⟨hu, -, -⟩ := ct_cls hcl
  obtain ⟨hR1, hR2, hR3, hR4⟩ := id hR
  have hc' := Nat.le_of_ble_eq_true hc
  have hs' := Nat.le_of_ble_eq_true hs
  refine va_new (ci := ci) (fs := fs) hA.exec hA.code (fun w h => hA.lat.w G (hu w h).1 (hu w h).2 args) (fun w h => h) ty hty hA.own (hA.lat.w G hl1 rfl args) (hA.lat.w G hl2 rfl args) (hA.lat.w G hl3 rfl args) (hA.K G) hr.1 hr.2.1 hr.2.2.1 hA.A2 hcl hdf (by omega) (by omega) hd (fun q H' hP' hD' hS' => ?_)
  have e9 : ce (xt X) ad (.inr (ci, fs)) = .inr (ci, fs) := by show Sum.inr (ci, fs.map (cv ad)) = _; rw [hfs]
  rw [← e9] at hP' hD'
  have hk := k G p e R s m args below meth c A (va_up ad w.length q) ad0 n0 H' locs (cells + 1) (slots + N) arr hR hA (hr.push hP' hD' hS' hwf) (by omega) (by omega)
  have e8 : (Value.ref w.length :: st).map (cv (va_up ad w.length q)) = .ref q :: st.map (cv ad) := by
    show Value.ref (va_up ad w.length q w.length) :: st.map (cv (va_up ad w.length q)) = _
    rw [va_up_self, cvs_wf hst (fun i hi => va_up_ne _ _ (by omega))]
  rw [e8] at hk
  exact hk
theorem AW.newa {atype : ArrayType} {ty : FieldType} {t N cb' sb' : Nat} {a0 : vp_A} {x : Int32} {w' : ct_W} {n : Nat} (hd : decode M.2.1 pc = .ok (.newarray atype, 2)) (hp : pc + 2 = pc') (harr : Cond.arrayClass (newarray.typeOf atype) ∈ lw_tbl) (hty : newarray.typeOf atype = ty) (ht : ∀ tc : Nat → ClassId, (ct_tys tc)[t]? = some (tc t, ty)) (hra : ∀ (U : State) (c1 c2 : ClassId), va_RA U c1 ty → va_RA U c2 ty → c1 = c2)
    (ha : ∀ cA : ClassId, vp_cell cA a0 = arrV cA N (fun _ => defaultValue ty)) (hx : ¬ x < 0) (hN : x.toNatClampNeg = N) (hby : N * componentBytes ty ≤ 536870912) (hn : w.length = n)
    (hwf : wfW w.length (w.length + 1) w = true ∧ wfE w.length (w.length + 1) (.inl (t, a0)) = true ∧ wfL w.length (w.length + 1) ls = true ∧ Nat.ble (w.length + 1) scr = true) (hst : wfS w.length (w.length + 1) st = true) (hcb : cb + 1 = cb') (hsb : sb + N = sb') (hc : Nat.ble cb' mc = true) (hs : Nat.ble sb' ms = true) (hw' : w ++ [.inl (t, a0)] = w')
    (k : AW X M d mc ms cb' sb' pc' ls (.ref n :: st) w' Q) : AW X M d mc ms cb sb pc ls (.int x :: st) w Q := by
  subst hp
  subst hcb
  subst hsb
  subst hn
  subst hw'
  intro G p e R s m args below meth c A ad ad0 n0 H locs cells slots arr hR hA hr h1 h2
  obtain ⟨hR1, hR2, hR3, hR4⟩ := id hR
  have hc' := Nat.le_of_ble_eq_true hc
  have hs' := Nat.le_of_ble_eq_true hs
  refine va_newa hA.exec hA.code (hA.lat.w G harr rfl args) hty (hA.K G) hr.1 hr.2.1 hr.2.2.1 hA.A2 ha hx hN hby (by omega) (by omega) hd (fun q cA H' hK' hP' hD' hS' => ?_)
  have hA1 := (hK'.2 (ct_tys (xt X)).length (cA, ty) (by simp)).2
  have hA2 := ((hA.K G).2 t _ (ht (xt X))).2
  have e0 : cA = xt X t := hra s _ _ hA1 hA2
  subst e0
  have hk := k G p e R s m args below meth c A (va_up ad w.length q) ad0 n0 H' locs (cells + 1) (slots + N) arr hR hA (hr.push hP' hD' hS' hwf) (by omega) (by omega)
  have e8 : (Value.ref w.length :: st).map (cv (va_up ad w.length q)) = .ref q :: st.map (cv ad) := by
    show Value.ref (va_up ad w.length q w.length) :: st.map (cv (va_up ad w.length q)) = _
    rw [va_up_self, cvs_wf hst (fun i hi => va_up_ne _ _ (by omega))]
  rw [e8] at hk
  exact hk
theorem ct_ra {ty : FieldType} (h : ∀ C, ty ≠ .object C) (U : State) (c1 c2 : ClassId) (h1 : va_RA U c1 ty) (h2 : va_RA U c2 ty) : c1 = c2 := by
  cases ty with
  | object C => exact absurd rfl (h C)
  | _ => exact Option.some.inj (h1.symm.trans h2)
theorem AW.objInit {index o : Nat} (hd : decode M.2.1 pc = .ok (.invokespecial index, 3)) (hp : pc + 3 = pc') (hl : Cond.methodLink M.1.cls index objectInit ∈ lw_tbl) (hi : Cond.instanceMethod objectInit ∈ lw_tbl) (hc : Cond.code objectInit ⟨#[0xb1]⟩ 1 none ∈ lw_tbl) (hdp : 1 ≤ d) (hcat : Nat.ble (st.map fun v => v.category).sum 8 = true) (k : AW X M d mc ms cb sb pc' ls st w Q) : AW X M d mc ms cb sb pc ls (.ref o :: st) w Q := by
  subst hp
  intro G p e R s m args below meth c A ad ad0 n0 H locs cells slots arr hR hA hr h1 h2
  obtain ⟨hR1, hR2, hR3, hR4⟩ := id hR
  have hc8 := Nat.le_of_ble_eq_true hcat
  have e1 : ((st.map (cv ad)).map fun v => v.category) = st.map fun v => v.category := by
    rw [List.map_map]
    exact List.map_congr_left fun v _ => cv_cat ad v
  refine W.objInit hA.exec hA.code hA.own (hA.lat.w G hl rfl args) (hA.lat.w G hi rfl args) (hA.lat.w G hc rfl args) rfl (hr.2.2.2.1.1.1.trans hA.maxL.symm) rfl hd (by omega) ?_ (k G p e R s m args below meth c A ad ad0 n0 H locs cells slots arr hR hA hr h1 h2)
  rw [e1]
  show 2 * 0 + _ + _ ≤ _
  omega
end CELLS
end
section
/-! THROWING AND CATCHING -/
def ct_tab (hh : List (Nat × Nat × Nat × Nat)) : List ExceptionTableEntry := hh.map (fun h => ⟨h.1, h.2.1, h.2.2.1, h.2.2.2⟩)
theorem ct_tab_of {l : List ExceptionTableEntry} {hh : List (Nat × Nat × Nat × Nat)} (h : l.map (fun h => (h.startPc, h.endPc, h.handlerPc, h.catchType)) = hh) : l = ct_tab hh := by
  subst hh
  unfold ct_tab
  rw [List.map_map]
  exact (List.map_id'' (fun _ => rfl) l).symm
/-- a word that the tables alone decide and that warmer tables keep -/
def goodX (w : Cond) : Bool := w.onTables && w.keepsCast
theorem Lat.wx {X : ct_X} {s : State} (h : Lat X s) (G : Gl X) {w : Cond} (hw : w ∈ lw_tbl) (hg : goodX w = true) (args : Array Value) : w.before args s = true := by
  simp only [goodX, Bool.and_eq_true] at hg
  have h1 : w.before (xa X) ((xs X).setVm s.vm) = true := Cond.before_shiftedCast (State.Shifted.of_warmed h.1) w hg.2 (G.1 w hw)
  have e := Cond.onTables_vm (A := xa X) (A' := args) (U := xs X) (U' := s) s.vm w hg.1
  rw [h1] at e
  have e2 : s.setVm s.vm = s := rfl
  rw [e2] at e
  exact e.symm
def ct_up : List String := ["java/lang/RuntimeException", "java/lang/Exception"]
def ct_thr (own : String) (ic x : Nat) : Prop := (Bundle.fit (xn x) = true ∧ ∀ n ∈ ct_up, Bundle.fit n = true) ∧ ∀ w ∈ vx_atS own ic (xn x) ct_up, (w ∈ lw_tbl ∧ goodX w = true) ∧ vx_ot w = true
section THR
variable {X : ct_X} {M : ct_M} {d mc ms cb sb pc : Nat} {ls : List (Option Value)} {st : List Value} {w : ct_W} {Q : Option Value ⊕ Nat → ct_W → Prop}
set_option maxHeartbeats 1000000 in
theorem AW.throwS {ik is ic x : Nat} {text : String} (d0 : decode M.2.1 pc = .ok (.new ik, 3)) (d3 : decode M.2.1 (pc + 3) = .ok (.dup, 1)) (d4 : decode M.2.1 (pc + 4) = .ok (.ldc is, 2)) (d6 : decode M.2.1 (pc + 6) = .ok (.invokespecial ic, 3)) (d9 : decode M.2.1 (pc + 9) = .ok (.athrow, 1))
    (hk : Cond.classLink M.1.cls ik (xn x) ∈ lw_tbl) (hini : Cond.initialized (xn x) ∈ lw_tbl) (hstr : Cond.stringRef M.1.cls is text ∈ lw_tbl) (hat : ct_thr M.1.cls ic x) (h0 : M.2.2.2.2 = []) (hd : 6 ≤ d) (hcat : Nat.ble (st.map fun v => v.category).sum 8 = true) (hc : Nat.ble cb mc = true) (hs : Nat.ble sb ms = true) (hq : Q (.inr x) w) : AW X M d mc ms cb sb pc ls st w Q := by
  intro G p e R s m args below meth c A ad ad0 n0 H locs cells slots arr hR hA hr h1 h2
  obtain ⟨hR1, hR2, hR3, hR4⟩ := id hR
  obtain ⟨hP, hD, hS, hL, r5, r6, r7, r8⟩ := id hr
  have hc' := Nat.le_of_ble_eq_true hc
  have hs' := Nat.le_of_ble_eq_true hs
  have hc8 := Nat.le_of_ble_eq_true hcat
  have e1 : ((st.map (cv ad)).map fun v => v.category) = st.map fun v => v.category := by
    rw [List.map_map]
    exact List.map_congr_left fun v _ => cv_cat ad v
  have hno : c.exceptionTable.toList = [] := by
    have h := hA.table
    rw [h0] at h
    exact List.map_eq_nil_iff.mp h
  have hown0 : (xs X).vm.findClass M.1.cls = some m.cls := by
    have h := hA.own
    rw [hA.lat.1.alike.findClass] at h
    exact h
  have hstr0 : (Cond.stringRef M.1.cls is text).before (xa X) (xs X) = true := G.1 _ hstr
  obtain ⟨-, -, -, sa, -, -, -, -, -, hev⟩ := Cond.stringRef_spec hown0 hstr0
  have hR0 : vk_R M.1.cls is text sa (xs X) := vk_R.of hstr0 hev
  have hRs : vk_R M.1.cls is text sa s := vk_R.warm hA.lat.1 hR0
  have hU : vx_Zq Bundle.tN "UNASSIGNED_STACK" Bundle.steD A s s.heap := vx_Zq.moved hA.lat.1.alike ((G.2.2.2.2.2.1.kept (H1 := s.heap) (fun a ha _ => hA.lat.2.2 a ha)).narrow hA.A1)
  have hN : vx_Zq Bundle.tN "SUPPRESSED_SENTINEL" Bundle.listD A s s.heap := vx_Zq.moved hA.lat.1.alike ((G.2.2.2.2.2.2.1.kept (H1 := s.heap) (fun a ha _ => hA.lat.2.2 a ha)).narrow hA.A1)
  refine ct_mono (fun t ht => ?_) (vx_throwS (Qc := fun _ _ _ _ => False) (XC := fun E _ t => E = xn x ∧ H.size ≤ t.heap.size ∧ ∀ q : Nat, q < H.size → t.heap[q]? = H[q]?) (free := A) (mc := cells + 1) (ms := slots + 6) (A := A) (rest := st.map (cv ad)) hA.exec hA.code G.2.1 (own := M.1.cls) (cls := xn x) (text := text) (names := ct_up) (sa := sa) hA.own hat.1.1 hat.1.2 (hA.lat.w G hk rfl args) (hA.lat.w G hini rfl args) hRs
    (fun w h => hA.lat.wx G (hat.2 w h).1.1 (hat.2 w h).1.2 args) (fun w h => ?_) hU hN hS (hL.1.1.trans hA.maxL.symm) d0 d3 d4 d6 d9 (fun z hz => by rw [hno] at hz; cases hz) ?_ ?_ (by omega) (by omega) hA.locks (fun t _ h3 h4 => ⟨rfl, h3, h4⟩) hS.2.2 (Nat.le_refl _) (Nat.le_refl _))
  · obtain ⟨o, a1, a2, ⟨h, -⟩ | ⟨q, rfl, E, ce, L, ⟨rfl, g1, g2⟩, g3, g4, g5, g6, g7, g8⟩⟩ := ht
    · exact h.elim
    · exact ⟨.threw q, .inr x, ad, w, L, cells + 1, slots + 6, ⟨a1, a2, g6, g7, g8, ⟨Nat.le_trans hS.1 g1, fun q h1 h2 => (g2 q (Nat.lt_of_lt_of_le h1 hS.1)).trans (hS.2.1 q h1 h2)⟩⟩, ⟨hP.kept (fun k z hz => g2 z.1 (hP k z hz).lt), hD, r5, r6, r7⟩, hq, ⟨q, ce, rfl, g3, g4, g5⟩, by omega, by omega⟩
  · rcases List.mem_cons.mp h with rfl | h
    · rfl
    · rcases List.mem_cons.mp h with rfl | h
      · rfl
      · exact (hat.2 w h).2
  · show 2 + 3 < R.frames
    omega
  · rw [e1]
    show _ + (13 * (2 + 1) + 43) ≤ R.locals
    omega
/-- caught here: the handler's first instruction stores it -/
theorem AX.catch {x j a b hp ct : Nat} {k : Fin 4} {pre suf : List (Nat × Nat × Nat × Nat)} {ls' : List (Option Value)} (hsplit : M.2.2.2.2 = pre ++ (a, b, hp, ct) :: suf)
    (hpass : ∀ z ∈ pre, covers ⟨z.1, z.2.1, z.2.2.1, z.2.2.2⟩ pc = false ∨ (z.2.2.2 ≠ 0 ∧ ∃ y : Nat, y < 4 ∧ x ≠ y ∧ Cond.classLink M.1.cls z.2.2.2 (xn y) ∈ lw_tbl)) (hx4 : x < 4) (hcov : covers ⟨a, b, hp, ct⟩ pc = true) (hct : ct ≠ 0)
    (hlink : Cond.classLink M.1.cls ct (xn x) ∈ lw_tbl) (hcast : Cond.castable (xn x) (xn x) ∈ lw_tbl) (hd : decode M.2.1 hp = .ok (.astore_n k, 1)) (hi : (k : Nat) = j) (hn : Nat.ble (j + 1) M.2.2.1 = true) (hs : ls.set j none = ls') {cb' sb' : Nat} (hcb : cb + 1 = cb') (hsb : sb + 6 = sb')
    (kk : AW X M d mc ms cb' sb' (hp + 1) ls' [] w Q) : AX X M d mc ms cb sb pc ls w Q x := by
  subst hs
  subst hcb
  subst hsb
  intro G p e R s m args below meth c A ad ad0 n0 H locs cells slots arr stk q cell hR hA hr h1 h2 h3 h4 h5
  have htab : c.exceptionTable.toList = ct_tab pre ++ ⟨a, b, hp, ct⟩ :: ct_tab suf := by
    rw [ct_tab_of hA.table, hsplit]
    simp [ct_tab]
  refine vx_catch (own := M.1.cls) (name := xn x) (E := xn x) (ce := cell) (rest := stk) (pc := pc) (ls := arr) hA.own (ct_tab pre) ⟨a, b, hp, ct⟩ (ct_tab suf) htab (fun z hz => ?_) hcov hct (hA.lat.w G hlink rfl args) (hA.lat.wx G hcast rfl args) h3 h4 h5 ?_
  · obtain ⟨u, hu, rfl⟩ := List.mem_map.mp hz
    rcases hpass u hu with h | ⟨h6, y, h7, h8, h9⟩
    · exact Or.inl h
    · exact Or.inr ⟨h6, xn y, hA.lat.w G h9 rfl args, va_Nc.moved hA.lat.1.alike (G.2.2.2.2.2.2.2 x y hx4 h7 h8)⟩
  · exact lv_astore_n hA.exec hA.code hd hi hr.2.2.2.1.has (Nat.le_of_ble_eq_true hn) rfl (fun arr' h' => kk G p e R s m args below meth c A ad ad0 n0 H locs cells slots arr' hR hA ⟨hr.1, hr.2.1, hr.2.2.1, hr.2.2.2.1.setN h', hr.2.2.2.2⟩ h1 h2)
end THR
end
section
/-! ROWS WITH NUMBERS (nI), CONTRACTS AS FUNCTIONS (AF), CALLS BY THEM -/
section MORE
variable {X : ct_X} {M : ct_M} {d mc ms cb sb pc pc' : Nat} {ls : List (Option Value)} {st : List Value} {w : ct_W} {Q : Option Value ⊕ Nat → ct_W → Prop}
theorem AW.top {v u : Value} (h : v = u) (k : AW X M d mc ms cb sb pc ls (u :: st) w Q) : AW X M d mc ms cb sb pc ls (v :: st) w Q := h ▸ k
theorem AW.wld {w' : ct_W} (h : w = w') (k : AW X M d mc ms cb sb pc ls st w' Q) : AW X M d mc ms cb sb pc ls st w Q := h ▸ k
theorem AW.iaddN {a b : Nat} (hd : decode M.2.1 pc = .ok (.iadd, 1)) (hp : pc + 1 = pc') (k : AW X M d mc ms cb sb pc' ls (.int (nI (a + b)) :: st) w Q) : AW X M d mc ms cb sb pc ls (.int (nI b) :: .int (nI a) :: st) w Q :=
  AW.iadd hd hp (by rw [nI_add]; exact k)
theorem AW.isubN {a b : Nat} (hd : decode M.2.1 pc = .ok (.isub, 1)) (hp : pc + 1 = pc') (h : b ≤ a) (k : AW X M d mc ms cb sb pc' ls (.int (nI (a - b)) :: st) w Q) : AW X M d mc ms cb sb pc ls (.int (nI b) :: .int (nI a) :: st) w Q :=
  AW.isub hd hp (by rw [pk_sub h]; exact k)
theorem AW.iincN {i a : Nat} {ls' : List (Option Value)} (hd : decode M.2.1 pc = .ok (.iinc i 1, 3)) (hp : pc + 3 = pc') (hl : ls[i]? = some (some (.int (nI a)))) (hn : Nat.ble (i + 1) M.2.2.1 = true) (hs : ls.set i (some (.int (nI (a + 1)))) = ls') (k : AW X M d mc ms cb sb pc' ls' st w Q) : AW X M d mc ms cb sb pc ls st w Q :=
  AW.iinc hd hp hl (by show nI a + Int32.ofInt 1 = nI (a + 1); rw [← nI_1]; rfl) hn hs k
theorem AW.ialdN {o n j : Nat} {f : Nat → Int32} (hd : decode M.2.1 pc = .ok (.iaload, 1)) (hp : pc + 1 = pc') (hw : w[o]? = some (.inl (0, n, .inl f))) (hj : j < n) (hn : n < 2 ^ 31) (k : AW X M d mc ms cb sb pc' ls (.int (f j) :: st) w Q) : AW X M d mc ms cb sb pc ls (.int (nI j) :: .ref o :: st) w Q :=
  AW.iald hd hp hw (vp_in_nI hj hn) (by rw [nI_clamp (by omega)]; exact k)
theorem AW.zaldN {o n j : Nat} {f : Nat → Int32} (hd : decode M.2.1 pc = .ok (.baload, 1)) (hp : pc + 1 = pc') (hw : w[o]? = some (.inl (1, n, .inl f))) (hj : j < n) (hn : n < 2 ^ 31) (k : AW X M d mc ms cb sb pc' ls (.int (f j) :: st) w Q) : AW X M d mc ms cb sb pc ls (.int (nI j) :: .ref o :: st) w Q :=
  AW.zald hd hp hw (vp_in_nI hj hn) (by rw [nI_clamp (by omega)]; exact k)
theorem AW.laldN {o n j : Nat} {f : Nat → Int64} (hd : decode M.2.1 pc = .ok (.laload, 1)) (hp : pc + 1 = pc') (hw : w[o]? = some (.inl (2, n, .inr (.inl f)))) (hj : j < n) (hn : n < 2 ^ 31) (k : AW X M d mc ms cb sb pc' ls (.long (f j) :: st) w Q) : AW X M d mc ms cb sb pc ls (.int (nI j) :: .ref o :: st) w Q :=
  AW.lald hd hp hw (vp_in_nI hj hn) (by rw [nI_clamp (by omega)]; exact k)
theorem AW.iastN {o n j : Nat} {f : Nat → Int32} {x : Int32} {w' : ct_W} (hd : decode M.2.1 pc = .ok (.iastore, 1)) (hp : pc + 1 = pc') (hw : w[o]? = some (.inl (0, n, .inl f))) (hj : j < n) (hn : n < 2 ^ 31) (hs : w.set o (.inl (0, n, .inl (upd f j x))) = w') (k : AW X M d mc ms cb sb pc' ls st w' Q) : AW X M d mc ms cb sb pc ls (.int x :: .int (nI j) :: .ref o :: st) w Q :=
  AW.iast hd hp hw (vp_in_nI hj hn) (by rw [nI_clamp (by omega)]; exact hs) k
theorem AW.zastN {o n j : Nat} {f : Nat → Int32} {x : Int32} {w' : ct_W} (hd : decode M.2.1 pc = .ok (.bastore, 1)) (hp : pc + 1 = pc') (hw : w[o]? = some (.inl (1, n, .inl f))) (hj : j < n) (hn : n < 2 ^ 31) (hx : vp_nar .boolean x = x) (hs : w.set o (.inl (1, n, .inl (upd f j x))) = w') (k : AW X M d mc ms cb sb pc' ls st w' Q) : AW X M d mc ms cb sb pc ls (.int x :: .int (nI j) :: .ref o :: st) w Q :=
  AW.zast hd hp hw (vp_in_nI hj hn) (by rw [nI_clamp (by omega), hx]; exact hs) k
theorem AW.lastN {o n j : Nat} {f : Nat → Int64} {x : Int64} {w' : ct_W} (hd : decode M.2.1 pc = .ok (.lastore, 1)) (hp : pc + 1 = pc') (hw : w[o]? = some (.inl (2, n, .inr (.inl f)))) (hj : j < n) (hn : n < 2 ^ 31) (hs : w.set o (.inl (2, n, .inr (.inl (vp_updL f j x)))) = w') (k : AW X M d mc ms cb sb pc' ls st w' Q) : AW X M d mc ms cb sb pc ls (.long x :: .int (nI j) :: .ref o :: st) w Q :=
  AW.last hd hp hw (vp_in_nI hj hn) (by rw [nI_clamp (by omega)]; exact hs) k
theorem AW.icmp_eqN {a b : Nat} {off : Int} {tgt : Nat} (hd : decode M.2.1 pc = .ok (.if_icmp .eq off, 3)) (ht : (pc : Int) + off = (tgt : Int)) (hp : pc + 3 = pc') (ha : a < 2 ^ 31) (hb : b < 2 ^ 31) (kt : a = b → AW X M d mc ms cb sb tgt ls st w Q) (kf : ¬ a = b → AW X M d mc ms cb sb pc' ls st w Q) : AW X M d mc ms cb sb pc ls (.int (nI b) :: .int (nI a) :: st) w Q := by
  exact AW.icmp_eq hd ht hp (fun h => kt ((nI_eq ha hb).mp h)) (fun h => kf (fun q => h ((nI_eq ha hb).mpr q)))
theorem AW.icmp_neN {a b : Nat} {off : Int} {tgt : Nat} (hd : decode M.2.1 pc = .ok (.if_icmp .ne off, 3)) (ht : (pc : Int) + off = (tgt : Int)) (hp : pc + 3 = pc') (ha : a < 2 ^ 31) (hb : b < 2 ^ 31) (kt : ¬ a = b → AW X M d mc ms cb sb tgt ls st w Q) (kf : a = b → AW X M d mc ms cb sb pc' ls st w Q) : AW X M d mc ms cb sb pc ls (.int (nI b) :: .int (nI a) :: st) w Q := by
  exact AW.icmp_ne hd ht hp (fun h => kt (fun q => h ((nI_eq ha hb).mpr q))) (fun h => kf ((nI_eq ha hb).mp h))
theorem AW.icmp_ltN {a b : Nat} {off : Int} {tgt : Nat} (hd : decode M.2.1 pc = .ok (.if_icmp .lt off, 3)) (ht : (pc : Int) + off = (tgt : Int)) (hp : pc + 3 = pc') (ha : a < 2 ^ 31) (hb : b < 2 ^ 31) (kt : a < b → AW X M d mc ms cb sb tgt ls st w Q) (kf : b ≤ a → AW X M d mc ms cb sb pc' ls st w Q) : AW X M d mc ms cb sb pc ls (.int (nI b) :: .int (nI a) :: st) w Q := by
  exact AW.icmp_lt hd ht hp (fun h => kt ((nI_ltI ha hb).mp h)) (fun h => kf (Nat.not_lt.mp (fun q => h ((nI_ltI ha hb).mpr q))))
theorem AW.icmp_geN {a b : Nat} {off : Int} {tgt : Nat} (hd : decode M.2.1 pc = .ok (.if_icmp .ge off, 3)) (ht : (pc : Int) + off = (tgt : Int)) (hp : pc + 3 = pc') (ha : a < 2 ^ 31) (hb : b < 2 ^ 31) (kt : b ≤ a → AW X M d mc ms cb sb tgt ls st w Q) (kf : a < b → AW X M d mc ms cb sb pc' ls st w Q) : AW X M d mc ms cb sb pc ls (.int (nI b) :: .int (nI a) :: st) w Q := by
  exact AW.icmp_ge hd ht hp (fun h => kt ((nI_leI hb ha).mp h)) (fun h => kf (Nat.not_le.mp (fun q => h ((nI_leI hb ha).mpr q))))
theorem AW.icmp_gtN {a b : Nat} {off : Int} {tgt : Nat} (hd : decode M.2.1 pc = .ok (.if_icmp .gt off, 3)) (ht : (pc : Int) + off = (tgt : Int)) (hp : pc + 3 = pc') (ha : a < 2 ^ 31) (hb : b < 2 ^ 31) (kt : b < a → AW X M d mc ms cb sb tgt ls st w Q) (kf : a ≤ b → AW X M d mc ms cb sb pc' ls st w Q) : AW X M d mc ms cb sb pc ls (.int (nI b) :: .int (nI a) :: st) w Q := by
  exact AW.icmp_gt hd ht hp (fun h => kt ((nI_ltI hb ha).mp h)) (fun h => kf (Nat.not_lt.mp (fun q => h ((nI_ltI hb ha).mpr q))))
theorem AW.icmp_leN {a b : Nat} {off : Int} {tgt : Nat} (hd : decode M.2.1 pc = .ok (.if_icmp .le off, 3)) (ht : (pc : Int) + off = (tgt : Int)) (hp : pc + 3 = pc') (ha : a < 2 ^ 31) (hb : b < 2 ^ 31) (kt : a ≤ b → AW X M d mc ms cb sb tgt ls st w Q) (kf : b < a → AW X M d mc ms cb sb pc' ls st w Q) : AW X M d mc ms cb sb pc ls (.int (nI b) :: .int (nI a) :: st) w Q := by
  exact AW.icmp_le hd ht hp (fun h => kt ((nI_leI ha hb).mp h)) (fun h => kf (Nat.not_le.mp (fun q => h ((nI_leI ha hb).mpr q))))
/-- a method as a function: it ends with r, the world w' -/
def AF (X : ct_X) (M : ct_M) (d mc ms : Nat) (as : List Value) (w : ct_W) (r : Option Value ⊕ Nat) (w' : ct_W) : Prop := AM X M d mc ms as w (fun r' w'' => r' = r ∧ w'' = w')
def ct_cS (own : String) (index : Nat) (M' : ct_M) (n : Nat) : Prop := Cond.methodLink own index M'.1 ∈ lw_tbl ∧ Cond.static M'.1 ∈ lw_tbl ∧ Cond.initialized M'.1.cls ∈ lw_tbl ∧ ct_np M'.1 n ∧ ct_in M' ∧ plainName M'.1.cls = true ∧ M'.2.2.1 ≤ 11
def ct_cV (own : String) (index : Nat) (M' : ct_M) (n : Nat) : Prop := Cond.methodLink own index M'.1 ∈ lw_tbl ∧ Cond.instanceMethod M'.1 ∈ lw_tbl ∧ Cond.selects M'.1.cls M'.1 M'.1 ∈ lw_tbl ∧ ct_np M'.1 n ∧ ct_in M' ∧ plainName M'.1.cls = true ∧ M'.2.2.1 ≤ 11
def ct_cI (own : String) (index : Nat) (M' : ct_M) (n : Nat) : Prop := Cond.methodLink own index M'.1 ∈ lw_tbl ∧ Cond.instanceMethod M'.1 ∈ lw_tbl ∧ Cond.code M'.1 M'.2.1 M'.2.2.1 none ∈ lw_tbl ∧ ct_np M'.1 n ∧ (M'.2.2.2.2 = [] ∧ M'.2.2.2.1 = none ∧ M'.1.name = "<init>") ∧ plainName M'.1.cls = true ∧ M'.2.2.1 ≤ 11
variable {M' : ct_M} {d' : Nat} {as stk stk' : List Value} {w' : ct_W}
theorem AW.cS {index n : Nat} {v : Option Value} (hd : decode M.2.1 pc = .ok (.invokestatic index, 3)) (hp : pc + 3 = pc') (hc : ct_cS M.1.cls index M' n) (hdp : d' < d) (hM : AF X M' d' 0 0 as w (.inl v) w') (hn : as.length = n) (hst : as.reverse ++ st = stk) (hcat : Nat.ble (st.map fun v => v.category).sum 8 = true) (hcb : Nat.ble cb mc = true) (hsb : Nat.ble sb ms = true) (hlen : w'.length = w.length) (hv : v.toList ++ st = stk')
    (k : AW X M d mc ms cb sb pc' ls stk' w' Q) : AW X M d mc ms cb sb pc ls stk w Q := by
  subst hn
  subst hv
  exact AW.callS (mc' := 0) (ms' := 0) hd hp ⟨hc.2.2.2.2.1, hc.2.2.2.2.2.1, hdp, hc.2.2.2.2.2.2⟩ hc.1 hc.2.1 hc.2.2.1 hc.2.2.2.1 hM hst hcat hcb hsb (fun r w'' h => Or.inl (by rw [h.2]; exact hlen)) (fun x w'' h => nomatch h.1) (fun v' w'' h => by obtain ⟨h1, rfl⟩ := h; cases h1; exact k)
theorem AW.cSx {index n x : Nat} (hd : decode M.2.1 pc = .ok (.invokestatic index, 3)) (hc : ct_cS M.1.cls index M' n) (hdp : d' < d) (hM : AF X M' d' 0 0 as w (.inr x) w') (hn : as.length = n) (hst : as.reverse ++ st = stk) (hcat : Nat.ble (st.map fun v => v.category).sum 8 = true) (hcb : Nat.ble cb mc = true) (hsb : Nat.ble sb ms = true) (hlen : w'.length = w.length) (h0 : M.2.2.2.2 = []) (hq : Q (.inr x) w') : AW X M d mc ms cb sb pc ls stk w Q := by
  subst hn
  exact AW.callS (mc' := 0) (ms' := 0) hd rfl ⟨hc.2.2.2.2.1, hc.2.2.2.2.2.1, hdp, hc.2.2.2.2.2.2⟩ hc.1 hc.2.1 hc.2.2.1 hc.2.2.2.1 hM hst hcat hcb hsb (fun r w'' h => Or.inl (by rw [h.2]; exact hlen)) (fun x' w'' h => by obtain ⟨h1, rfl⟩ := h; cases h1; exact AX.out h0 hcb hsb hq) (fun v' w'' h => nomatch h.1)
theorem AW.cV {index n o ci N : Nat} {as' fs : List Value} {F : u_T} {v : Option Value} (hd : decode M.2.1 pc = .ok (.invokevirtual index, 3)) (hp : pc + 3 = pc') (hc : ct_cV M.1.cls index M' n) (hdp : d' < d) (hw : w[o]? = some (.inr (ci, fs))) (hcl : vwCl[ci]? = some (M'.1.cls, F, N)) (has : .ref o :: as' = as) (hM : AF X M' d' 0 0 as w (.inl v) w') (hn : as'.length = n) (hst : as'.reverse ++ .ref o :: st = stk) (hcat : Nat.ble (st.map fun v => v.category).sum 8 = true) (hcb : Nat.ble cb mc = true) (hsb : Nat.ble sb ms = true) (hlen : w'.length = w.length) (hv : v.toList ++ st = stk')
    (k : AW X M d mc ms cb sb pc' ls stk' w' Q) : AW X M d mc ms cb sb pc ls stk w Q := by
  subst hn
  subst hv
  exact AW.callV (mc' := 0) (ms' := 0) hd hp ⟨hc.2.2.2.2.1, hc.2.2.2.2.2.1, hdp, hc.2.2.2.2.2.2⟩ hc.1 hc.2.1 hc.2.2.2.1 hw hcl hc.2.2.1 has hM hst hcat hcb hsb (fun r w'' h => Or.inl (by rw [h.2]; exact hlen)) (fun x w'' h => nomatch h.1) (fun v' w'' h => by obtain ⟨h1, rfl⟩ := h; cases h1; exact k)
theorem AW.cVx {index n o ci N x : Nat} {as' fs : List Value} {F : u_T} (hd : decode M.2.1 pc = .ok (.invokevirtual index, 3)) (hc : ct_cV M.1.cls index M' n) (hdp : d' < d) (hw : w[o]? = some (.inr (ci, fs))) (hcl : vwCl[ci]? = some (M'.1.cls, F, N)) (has : .ref o :: as' = as) (hM : AF X M' d' 0 0 as w (.inr x) w') (hn : as'.length = n) (hst : as'.reverse ++ .ref o :: st = stk) (hcat : Nat.ble (st.map fun v => v.category).sum 8 = true) (hcb : Nat.ble cb mc = true) (hsb : Nat.ble sb ms = true) (hlen : w'.length = w.length) (h0 : M.2.2.2.2 = []) (hq : Q (.inr x) w') : AW X M d mc ms cb sb pc ls stk w Q := by
  subst hn
  exact AW.callV (mc' := 0) (ms' := 0) hd rfl ⟨hc.2.2.2.2.1, hc.2.2.2.2.2.1, hdp, hc.2.2.2.2.2.2⟩ hc.1 hc.2.1 hc.2.2.2.1 hw hcl hc.2.2.1 has hM hst hcat hcb hsb (fun r w'' h => Or.inl (by rw [h.2]; exact hlen)) (fun x' w'' h => by obtain ⟨h1, rfl⟩ := h; cases h1; exact AX.out h0 hcb hsb hq) (fun v' w'' h => nomatch h.1)
theorem AW.cI {index n o mc' ms' cb' sb' : Nat} {as' : List Value} (hd : decode M.2.1 pc = .ok (.invokespecial index, 3)) (hp : pc + 3 = pc') (hc : ct_cI M.1.cls index M' n) (hdp : d' < d) (has : .ref o :: as' = as) (hM : AF X M' d' mc' ms' as w (.inl none) w') (hn : as'.length = n) (hst : as'.reverse ++ .ref o :: st = stk) (hcat : Nat.ble (st.map fun v => v.category).sum 8 = true) (hcb : cb + mc' = cb') (hsb : sb + ms' = sb') (hcb' : Nat.ble cb' mc = true) (hsb' : Nat.ble sb' ms = true) (hwf : wfL w.length w'.length ls = true ∧ wfS w.length w'.length st = true)
    (k : AW X M d mc ms cb' sb' pc' ls st w' Q) : AW X M d mc ms cb sb pc ls stk w Q := by
  subst hn
  subst hcb
  subst hsb
  obtain ⟨h1, h2, h3, h4, ⟨h5, h6, h7⟩, h8, h9⟩ := hc
  exact AW.callI (mc' := mc') (ms' := ms') hd hp ⟨Or.inl ⟨h5, by rw [h6]; exact h3⟩, h8, hdp, h9⟩ h5 h6 h3 h7 h1 h2 h4 has hM hst hcat hcb' hsb' (fun r w'' h => by obtain ⟨-, rfl⟩ := h; exact Or.inr hwf) (fun x w'' h => nomatch h.1) (fun v' w'' h => by obtain ⟨q, rfl⟩ := h; cases q; exact k)
end MORE
end
section
/-! METHODS, printed by wip/whole/names.py -/
def m_C_init : ct_M := (⟨"CommandTree", "<init>", "()V"⟩, prog_1_method_1_code, 1, none, [])
def m_A_fill : ct_M := (⟨"java/util/Arrays", "fill", "([II)V"⟩, prog_14_method_103_code, 4, none, [])
def m_T_init : ct_M := (⟨"CommandTree$TaskList", "<init>", "()V"⟩, prog_3_method_1_code, 1, none, [])
def m_R_init : ct_M := (⟨"CommandTree$LeaderRows", "<init>", "()V"⟩, prog_2_method_1_code, 1, none, [])
def m_C_clock : ct_M := (⟨"CommandTree", "clock", "()I"⟩, prog_1_method_22_code, 1, (some .int), [])
def m_L_person : ct_M := (⟨"CommandTreeLaw", "person", "(LCommandTree;I[J)I"⟩, method_3_code, 4, (some .int), [(0, 9, 12, 13), (0, 9, 15, 15)])
def m_C_person : ct_M := (⟨"CommandTree", "person", "(I)I"⟩, prog_1_method_2_code, 3, (some .int), [])
def m_L_unit : ct_M := (⟨"CommandTreeLaw", "unit", "(LCommandTree;[J)I"⟩, method_4_code, 3, (some .int), [(0, 8, 11, 15)])
def m_C_unit : ct_M := (⟨"CommandTree", "unit", "()I"⟩, prog_1_method_3_code, 2, (some .int), [])
def m_L_arrive : ct_M := (⟨"CommandTreeLaw", "arrive", "(LCommandTree;I)I"⟩, method_5_code, 3, (some .int), [(0, 5, 8, 25), (0, 5, 11, 27)])
def m_C_arrive : ct_M := (⟨"CommandTree", "arrive", "(I)V"⟩, prog_1_method_4_code, 2, none, [])
def m_C_requirePerson : ct_M := (⟨"CommandTree", "requirePerson", "(I)V"⟩, prog_1_method_23_code, 2, none, [])
def m_C_isThere : ct_M := (⟨"CommandTree", "isThere", "(I)Z"⟩, prog_1_method_29_code, 2, (some .boolean), [])
def m_C_comeInto : ct_M := (⟨"CommandTree", "comeInto", "(II)V"⟩, prog_1_method_30_code, 3, none, [])
def m_C_leaveLeadToNext : ct_M := (⟨"CommandTree", "leaveLeadToNext", "(I)V"⟩, prog_1_method_31_code, 3, none, [])
def m_C_nextToLead : ct_M := (⟨"CommandTree", "nextToLead", "(I)I"⟩, prog_1_method_34_code, 5, (some .int), [])
def m_C_comesBefore : ct_M := (⟨"CommandTree", "comesBefore", "(II)Z"⟩, prog_1_method_35_code, 3, (some .boolean), [])
def m_C_setLeader : ct_M := (⟨"CommandTree", "setLeader", "(II)V"⟩, prog_1_method_32_code, 4, none, [])
def m_C_withdrawOffersTo : ct_M := (⟨"CommandTree", "withdrawOffersTo", "(I)V"⟩, prog_1_method_33_code, 2, none, [])
def m_C_replace : ct_M := (⟨"CommandTree", "replace", "([IIII)V"⟩, prog_1_method_41_code, 5, none, [])
def m_R_note : ct_M := (⟨"CommandTree$LeaderRows", "note", "(III)V"⟩, prog_2_method_2_code, 5, none, [])
def m_R_dropOldest : ct_M := (⟨"CommandTree$LeaderRows", "dropOldest", "()V"⟩, prog_2_method_3_code, 1, none, [])
def m_R_ringIndex : ct_M := (⟨"CommandTree$LeaderRows", "ringIndex", "(I)I"⟩, prog_2_method_4_code, 3, (some .int), [])
def m_L_leave : ct_M := (⟨"CommandTreeLaw", "leave", "(LCommandTree;I)I"⟩, method_6_code, 3, (some .int), [(0, 5, 8, 25), (0, 5, 11, 27)])
def m_C_leave : ct_M := (⟨"CommandTree", "leave", "(I)V"⟩, prog_1_method_5_code, 2, none, [])
def m_C_requireThere : ct_M := (⟨"CommandTree", "requireThere", "(I)V"⟩, prog_1_method_27_code, 2, none, [])
def m_L_go : ct_M := (⟨"CommandTreeLaw", "go", "(LCommandTree;II)I"⟩, method_7_code, 4, (some .int), [(0, 6, 9, 25), (0, 6, 12, 27)])
def m_C_go : ct_M := (⟨"CommandTree", "go", "(II)V"⟩, prog_1_method_6_code, 3, none, [])
def m_C_requireSector : ct_M := (⟨"CommandTree", "requireSector", "(I)V"⟩, prog_1_method_25_code, 2, none, [])
def m_C_requireOpen : ct_M := (⟨"CommandTree", "requireOpen", "(I)V"⟩, prog_1_method_28_code, 2, none, [])
def m_L_place : ct_M := (⟨"CommandTreeLaw", "place", "(LCommandTree;II)I"⟩, method_8_code, 4, (some .int), [(0, 6, 9, 25), (0, 6, 12, 27)])
def m_C_place : ct_M := (⟨"CommandTree", "place", "(II)V"⟩, prog_1_method_7_code, 3, none, [])
def m_C_requireUnit : ct_M := (⟨"CommandTree", "requireUnit", "(I)V"⟩, prog_1_method_24_code, 2, none, [])
def m_L_split : ct_M := (⟨"CommandTreeLaw", "split", "(LCommandTree;I[J)I"⟩, method_9_code, 4, (some .int), [(0, 9, 12, 25), (0, 9, 15, 27), (0, 9, 18, 15)])
def m_C_split : ct_M := (⟨"CommandTree", "split", "(I)I"⟩, prog_1_method_8_code, 3, (some .int), [])
def m_L_join : ct_M := (⟨"CommandTreeLaw", "join", "(LCommandTree;II)I"⟩, method_10_code, 4, (some .int), [(0, 6, 9, 25), (0, 6, 12, 27)])
def m_C_join : ct_M := (⟨"CommandTree", "join", "(II)V"⟩, prog_1_method_9_code, 3, none, [])
def m_C_isSameOrBelow : ct_M := (⟨"CommandTree", "isSameOrBelow", "(II)Z"⟩, prog_1_method_36_code, 5, (some .boolean), [])
def m_C_moveSectorsBelow : ct_M := (⟨"CommandTree", "moveSectorsBelow", "(II)V"⟩, prog_1_method_37_code, 4, none, [])
def m_T_giveUnanswered : ct_M := (⟨"CommandTree$TaskList", "giveUnanswered", "(II)V"⟩, prog_3_method_11_code, 4, none, [])
def m_T_isAnswered : ct_M := (⟨"CommandTree$TaskList", "isAnswered", "(I)Z"⟩, prog_3_method_5_code, 2, (some .boolean), [])
def m_L_offer : ct_M := (⟨"CommandTreeLaw", "offer", "(LCommandTree;II)I"⟩, method_11_code, 4, (some .int), [(0, 6, 9, 25), (0, 6, 12, 27)])
def m_C_offer : ct_M := (⟨"CommandTree", "offer", "(II)V"⟩, prog_1_method_10_code, 3, none, [])
def m_L_take : ct_M := (⟨"CommandTreeLaw", "take", "(LCommandTree;II)I"⟩, method_12_code, 4, (some .int), [(0, 6, 9, 25), (0, 6, 12, 27)])
def m_C_take : ct_M := (⟨"CommandTree", "take", "(II)V"⟩, prog_1_method_11_code, 3, none, [])
def m_L_task : ct_M := (⟨"CommandTreeLaw", "task", "(LCommandTree;II[J)I"⟩, method_13_code, 5, (some .int), [(0, 10, 13, 25), (0, 10, 17, 13), (0, 10, 21, 27), (0, 10, 25, 15)])
def m_C_task : ct_M := (⟨"CommandTree", "task", "(II)I"⟩, prog_1_method_12_code, 3, (some .int), [])
def m_T_isFull : ct_M := (⟨"CommandTree$TaskList", "isFull", "()Z"⟩, prog_3_method_2_code, 1, (some .boolean), [])
def m_T_add : ct_M := (⟨"CommandTree$TaskList", "add", "(II)I"⟩, prog_3_method_4_code, 4, (some .int), [])
def m_L_answer : ct_M := (⟨"CommandTreeLaw", "answer", "(LCommandTree;IZ)I"⟩, method_14_code, 4, (some .int), [(0, 6, 9, 25), (0, 6, 12, 27)])
def m_C_answer : ct_M := (⟨"CommandTree", "answer", "(IZ)V"⟩, prog_1_method_13_code, 3, none, [])
def m_C_requireTask : ct_M := (⟨"CommandTree", "requireTask", "(I)V"⟩, prog_1_method_26_code, 2, none, [])
def m_T_has : ct_M := (⟨"CommandTree$TaskList", "has", "(I)Z"⟩, prog_3_method_3_code, 2, (some .boolean), [])
def m_T_setAnswer : ct_M := (⟨"CommandTree$TaskList", "setAnswer", "(IZI)V"⟩, prog_3_method_6_code, 4, none, [])
def m_L_span : ct_M := (⟨"CommandTreeLaw", "span", "(LCommandTree;I[J)I"⟩, method_15_code, 4, (some .int), [(0, 9, 12, 13)])
def m_C_span : ct_M := (⟨"CommandTree", "span", "(I)I"⟩, prog_1_method_14_code, 4, (some .int), [])
def m_C_isPassed : ct_M := (⟨"CommandTree", "isPassed", "(I)Z"⟩, prog_1_method_38_code, 2, (some .boolean), [])
def m_C_countOpenBelow : ct_M := (⟨"CommandTree", "countOpenBelow", "(I)I"⟩, prog_1_method_39_code, 4, (some .int), [])
def m_C_count : ct_M := (⟨"CommandTree", "count", "([III)I"⟩, prog_1_method_40_code, 5, (some .int), [])
def m_L_tick : ct_M := (⟨"CommandTreeLaw", "tick", "(LCommandTree;I[J)I"⟩, method_16_code, 4, (some .int), [(0, 9, 12, 13)])
def m_C_tick : ct_M := (⟨"CommandTree", "tick", "(I)I"⟩, prog_1_method_15_code, 3, (some .int), [])
def m_T_countNewlyOverdue : ct_M := (⟨"CommandTree$TaskList", "countNewlyOverdue", "(II)I"⟩, prog_3_method_10_code, 5, (some .int), [])
def m_T_stateOf : ct_M := (⟨"CommandTree$TaskList", "stateOf", "(II)I"⟩, prog_3_method_8_code, 3, (some .int), [])
def m_L_led : ct_M := (⟨"CommandTreeLaw", "led", "(LCommandTree;II[J)I"⟩, method_17_code, 5, (some .int), [(0, 10, 13, 25), (0, 10, 17, 13), (0, 10, 21, 15)])
def m_C_led : ct_M := (⟨"CommandTree", "led", "(II)I"⟩, prog_1_method_16_code, 3, (some .int), [])
def m_R_reachBackTo : ct_M := (⟨"CommandTree$LeaderRows", "reachBackTo", "(I)Z"⟩, prog_2_method_5_code, 2, (some .boolean), [])
def m_R_leaderBehind : ct_M := (⟨"CommandTree$LeaderRows", "leaderBehind", "(II)I"⟩, prog_2_method_6_code, 6, (some .int), [])
def m_L_sectorAt : ct_M := (⟨"CommandTreeLaw", "sectorAt", "(LCommandTree;II[J)I"⟩, method_18_code, 5, (some .int), [(0, 10, 13, 25)])
def m_C_sectorAt : ct_M := (⟨"CommandTree", "sectorAt", "(II)I"⟩, prog_1_method_17_code, 3, (some .int), [])
def m_L_personAt : ct_M := (⟨"CommandTreeLaw", "personAt", "(LCommandTree;II[J)I"⟩, method_19_code, 5, (some .int), [(0, 10, 13, 25)])
def m_C_personAt : ct_M := (⟨"CommandTree", "personAt", "(II)I"⟩, prog_1_method_18_code, 3, (some .int), [])
def m_L_unitAt : ct_M := (⟨"CommandTreeLaw", "unitAt", "(LCommandTree;I[J)I"⟩, method_20_code, 4, (some .int), [(0, 9, 12, 25)])
def m_C_unitAt : ct_M := (⟨"CommandTree", "unitAt", "(I)I"⟩, prog_1_method_19_code, 2, (some .int), [])
def m_L_taskAt : ct_M := (⟨"CommandTreeLaw", "taskAt", "(LCommandTree;II[J)I"⟩, method_21_code, 5, (some .int), [(0, 10, 13, 25)])
def m_C_taskAt : ct_M := (⟨"CommandTree", "taskAt", "(II)I"⟩, prog_1_method_20_code, 3, (some .int), [])
def m_T_sectorOf : ct_M := (⟨"CommandTree$TaskList", "sectorOf", "(I)I"⟩, prog_3_method_7_code, 2, (some .int), [])
def m_T_answeredAt : ct_M := (⟨"CommandTree$TaskList", "answeredAt", "(I)I"⟩, prog_3_method_9_code, 2, (some .int), [])
def m_L_passed : ct_M := (⟨"CommandTreeLaw", "passed", "(LCommandTree;I[J)I"⟩, method_22_code, 4, (some .int), [(0, 9, 12, 13)])
def m_C_passed : ct_M := (⟨"CommandTree", "passed", "(I)I"⟩, prog_1_method_21_code, 4, (some .int), [])
def m_M_init : ct_M := (⟨"CommandTreeModel", "<init>", "()V"⟩, prog_5_method_1_code, 2, none, [])
def m_M_thrown : ct_M := (⟨"CommandTreeModel", "thrown", "()I"⟩, prog_5_method_2_code, 1, (some .int), [])
def m_M_person : ct_M := (⟨"CommandTreeModel", "person", "(I)I"⟩, prog_5_method_14_code, 2, (some .int), [])
def m_M_within : ct_M := (⟨"CommandTreeModel", "within", "(III)Z"⟩, prog_5_method_3_code, 3, (some .boolean), [])
def m_M_goes : ct_M := (⟨"CommandTreeModel", "goes", "(IZZZZ)Z"⟩, prog_5_method_4_code, 8, (some .boolean), [])
def m_M_unit : ct_M := (⟨"CommandTreeModel", "unit", "()I"⟩, prog_5_method_15_code, 1, (some .int), [])
def m_M_arrive : ct_M := (⟨"CommandTreeModel", "arrive", "(I)V"⟩, prog_5_method_16_code, 2, none, [])
def m_M_isPerson : ct_M := (⟨"CommandTreeModel", "isPerson", "(I)Z"⟩, prog_5_method_5_code, 2, (some .boolean), [])
def m_M_moves : ct_M := (⟨"CommandTreeModel", "moves", "(II)V"⟩, prog_5_method_13_code, 5, none, [])
def m_M_leads : ct_M := (⟨"CommandTreeModel", "leads", "(I)I"⟩, prog_5_method_9_code, 3, (some .int), [])
def m_M_next : ct_M := (⟨"CommandTreeModel", "next", "(I)I"⟩, prog_5_method_12_code, 4, (some .int), [])
def m_M_lead : ct_M := (⟨"CommandTreeModel", "lead", "(II)V"⟩, prog_5_method_11_code, 4, none, [])
def m_M_row : ct_M := (⟨"CommandTreeModel", "row", "(II)V"⟩, prog_5_method_10_code, 4, none, [])
def m_M_leave : ct_M := (⟨"CommandTreeModel", "leave", "(I)V"⟩, prog_5_method_17_code, 3, none, [])
def m_M_go : ct_M := (⟨"CommandTreeModel", "go", "(II)V"⟩, prog_5_method_18_code, 4, none, [])
def m_M_isSector : ct_M := (⟨"CommandTreeModel", "isSector", "(I)Z"⟩, prog_5_method_7_code, 2, (some .boolean), [])
def m_M_isOpen : ct_M := (⟨"CommandTreeModel", "isOpen", "(I)Z"⟩, prog_5_method_8_code, 2, (some .boolean), [])
def m_M_place : ct_M := (⟨"CommandTreeModel", "place", "(II)V"⟩, prog_5_method_19_code, 4, none, [])
def m_M_isUnit : ct_M := (⟨"CommandTreeModel", "isUnit", "(I)Z"⟩, prog_5_method_6_code, 2, (some .boolean), [])
def m_M_split : ct_M := (⟨"CommandTreeModel", "split", "(I)I"⟩, prog_5_method_20_code, 2, (some .int), [])
def m_M_join : ct_M := (⟨"CommandTreeModel", "join", "(II)V"⟩, prog_5_method_22_code, 5, none, [])
def m_M_isBelow : ct_M := (⟨"CommandTreeModel", "isBelow", "(II)Z"⟩, prog_5_method_21_code, 4, (some .boolean), [])
def m_M_offer : ct_M := (⟨"CommandTreeModel", "offer", "(II)V"⟩, prog_5_method_23_code, 4, none, [])
def m_M_take : ct_M := (⟨"CommandTreeModel", "take", "(II)V"⟩, prog_5_method_24_code, 4, none, [])
def m_M_task : ct_M := (⟨"CommandTreeModel", "task", "(II)I"⟩, prog_5_method_25_code, 3, (some .int), [])
def m_M_answer : ct_M := (⟨"CommandTreeModel", "answer", "(IZ)V"⟩, prog_5_method_26_code, 4, none, [])
def m_M_span : ct_M := (⟨"CommandTreeModel", "span", "(I)I"⟩, prog_5_method_30_code, 4, (some .int), [])
def m_M_isPassed : ct_M := (⟨"CommandTreeModel", "isPassed", "(I)Z"⟩, prog_5_method_29_code, 2, (some .boolean), [])
def m_M_below : ct_M := (⟨"CommandTreeModel", "below", "(I)I"⟩, prog_5_method_27_code, 4, (some .int), [])
def m_M_unitsIn : ct_M := (⟨"CommandTreeModel", "unitsIn", "(I)I"⟩, prog_5_method_28_code, 4, (some .int), [])
def m_M_tick : ct_M := (⟨"CommandTreeModel", "tick", "(I)I"⟩, prog_5_method_31_code, 4, (some .int), [])
def m_M_led : ct_M := (⟨"CommandTreeModel", "led", "(II)I"⟩, prog_5_method_32_code, 5, (some .int), [])
def m_M_sectorAt : ct_M := (⟨"CommandTreeModel", "sectorAt", "(II)I"⟩, prog_5_method_33_code, 5, (some .int), [])
def m_M_personAt : ct_M := (⟨"CommandTreeModel", "personAt", "(II)I"⟩, prog_5_method_34_code, 3, (some .int), [])
def m_M_unitAt : ct_M := (⟨"CommandTreeModel", "unitAt", "(I)I"⟩, prog_5_method_35_code, 2, (some .int), [])
def m_M_taskAt : ct_M := (⟨"CommandTreeModel", "taskAt", "(II)I"⟩, prog_5_method_36_code, 3, (some .int), [])
def m_M_passed : ct_M := (⟨"CommandTreeModel", "passed", "(I)I"⟩, prog_5_method_37_code, 4, (some .int), [])
def m_M_clock : ct_M := (⟨"CommandTreeModel", "clock", "()I"⟩, prog_5_method_38_code, 1, (some .int), [])
def m_L_law : ct_M := (⟨"CommandTreeLaw", "law", "([I)Z"⟩, code, 7, (some .boolean), [])
end
section
/-! INSTRUCTIONS, printed by wip/whole/names.py -/
theorem d_C_init_0 : decode prog_1_method_1_code 0 = .ok (.aload_n 0, 1) := by decide +kernel
theorem d_C_init_1 : decode prog_1_method_1_code 1 = .ok (.invokespecial 1, 3) := by decide +kernel
theorem d_C_init_4 : decode prog_1_method_1_code 4 = .ok (.aload_n 0, 1) := by decide +kernel
theorem d_C_init_5 : decode prog_1_method_1_code 5 = .ok (.iconst 5, 1) := by decide +kernel
theorem d_C_init_6 : decode prog_1_method_1_code 6 = .ok (.putfield 9, 3) := by decide +kernel
theorem d_C_init_9 : decode prog_1_method_1_code 9 = .ok (.aload_n 0, 1) := by decide +kernel
theorem d_C_init_10 : decode prog_1_method_1_code 10 = .ok (.bipush 40, 2) := by decide +kernel
theorem d_C_init_12 : decode prog_1_method_1_code 12 = .ok (.newarray .int, 2) := by decide +kernel
theorem d_C_init_14 : decode prog_1_method_1_code 14 = .ok (.putfield 13, 3) := by decide +kernel
theorem d_C_init_17 : decode prog_1_method_1_code 17 = .ok (.aload_n 0, 1) := by decide +kernel
theorem d_C_init_18 : decode prog_1_method_1_code 18 = .ok (.bipush 40, 2) := by decide +kernel
theorem d_C_init_20 : decode prog_1_method_1_code 20 = .ok (.newarray .int, 2) := by decide +kernel
theorem d_C_init_22 : decode prog_1_method_1_code 22 = .ok (.putfield 17, 3) := by decide +kernel
theorem d_C_init_25 : decode prog_1_method_1_code 25 = .ok (.aload_n 0, 1) := by decide +kernel
theorem d_C_init_26 : decode prog_1_method_1_code 26 = .ok (.bipush 40, 2) := by decide +kernel
theorem d_C_init_28 : decode prog_1_method_1_code 28 = .ok (.newarray .int, 2) := by decide +kernel
theorem d_C_init_30 : decode prog_1_method_1_code 30 = .ok (.putfield 20, 3) := by decide +kernel
theorem d_C_init_33 : decode prog_1_method_1_code 33 = .ok (.aload_n 0, 1) := by decide +kernel
theorem d_C_init_34 : decode prog_1_method_1_code 34 = .ok (.bipush 40, 2) := by decide +kernel
theorem d_C_init_36 : decode prog_1_method_1_code 36 = .ok (.newarray .int, 2) := by decide +kernel
theorem d_C_init_38 : decode prog_1_method_1_code 38 = .ok (.putfield 23, 3) := by decide +kernel
theorem d_C_init_41 : decode prog_1_method_1_code 41 = .ok (.aload_n 0, 1) := by decide +kernel
theorem d_C_init_42 : decode prog_1_method_1_code 42 = .ok (.getfield 17, 3) := by decide +kernel
theorem d_C_init_45 : decode prog_1_method_1_code 45 = .ok (.iconst (-1), 1) := by decide +kernel
theorem d_C_init_46 : decode prog_1_method_1_code 46 = .ok (.invokestatic 26, 3) := by decide +kernel
theorem d_C_init_49 : decode prog_1_method_1_code 49 = .ok (.aload_n 0, 1) := by decide +kernel
theorem d_C_init_50 : decode prog_1_method_1_code 50 = .ok (.getfield 20, 3) := by decide +kernel
theorem d_C_init_53 : decode prog_1_method_1_code 53 = .ok (.iconst (-1), 1) := by decide +kernel
theorem d_C_init_54 : decode prog_1_method_1_code 54 = .ok (.invokestatic 26, 3) := by decide +kernel
theorem d_C_init_57 : decode prog_1_method_1_code 57 = .ok (.aload_n 0, 1) := by decide +kernel
theorem d_C_init_58 : decode prog_1_method_1_code 58 = .ok (.getfield 23, 3) := by decide +kernel
theorem d_C_init_61 : decode prog_1_method_1_code 61 = .ok (.iconst (-1), 1) := by decide +kernel
theorem d_C_init_62 : decode prog_1_method_1_code 62 = .ok (.invokestatic 26, 3) := by decide +kernel
theorem d_C_init_65 : decode prog_1_method_1_code 65 = .ok (.aload_n 0, 1) := by decide +kernel
theorem d_C_init_66 : decode prog_1_method_1_code 66 = .ok (.bipush 20, 2) := by decide +kernel
theorem d_C_init_68 : decode prog_1_method_1_code 68 = .ok (.newarray .int, 2) := by decide +kernel
theorem d_C_init_70 : decode prog_1_method_1_code 70 = .ok (.putfield 32, 3) := by decide +kernel
theorem d_C_init_73 : decode prog_1_method_1_code 73 = .ok (.aload_n 0, 1) := by decide +kernel
theorem d_C_init_74 : decode prog_1_method_1_code 74 = .ok (.getfield 32, 3) := by decide +kernel
theorem d_C_init_77 : decode prog_1_method_1_code 77 = .ok (.iconst (-1), 1) := by decide +kernel
theorem d_C_init_78 : decode prog_1_method_1_code 78 = .ok (.invokestatic 26, 3) := by decide +kernel
theorem d_C_init_81 : decode prog_1_method_1_code 81 = .ok (.aload_n 0, 1) := by decide +kernel
theorem d_C_init_82 : decode prog_1_method_1_code 82 = .ok (.bipush 20, 2) := by decide +kernel
theorem d_C_init_84 : decode prog_1_method_1_code 84 = .ok (.newarray .boolean, 2) := by decide +kernel
theorem d_C_init_86 : decode prog_1_method_1_code 86 = .ok (.putfield 35, 3) := by decide +kernel
theorem d_C_init_89 : decode prog_1_method_1_code 89 = .ok (.aload_n 0, 1) := by decide +kernel
theorem d_C_init_90 : decode prog_1_method_1_code 90 = .ok (.bipush 20, 2) := by decide +kernel
theorem d_C_init_92 : decode prog_1_method_1_code 92 = .ok (.newarray .int, 2) := by decide +kernel
theorem d_C_init_94 : decode prog_1_method_1_code 94 = .ok (.putfield 39, 3) := by decide +kernel
theorem d_C_init_97 : decode prog_1_method_1_code 97 = .ok (.aload_n 0, 1) := by decide +kernel
theorem d_C_init_98 : decode prog_1_method_1_code 98 = .ok (.bipush 20, 2) := by decide +kernel
theorem d_C_init_100 : decode prog_1_method_1_code 100 = .ok (.newarray .int, 2) := by decide +kernel
theorem d_C_init_102 : decode prog_1_method_1_code 102 = .ok (.putfield 42, 3) := by decide +kernel
theorem d_C_init_105 : decode prog_1_method_1_code 105 = .ok (.aload_n 0, 1) := by decide +kernel
theorem d_C_init_106 : decode prog_1_method_1_code 106 = .ok (.bipush 20, 2) := by decide +kernel
theorem d_C_init_108 : decode prog_1_method_1_code 108 = .ok (.newarray .int, 2) := by decide +kernel
theorem d_C_init_110 : decode prog_1_method_1_code 110 = .ok (.putfield 45, 3) := by decide +kernel
theorem d_C_init_113 : decode prog_1_method_1_code 113 = .ok (.aload_n 0, 1) := by decide +kernel
theorem d_C_init_114 : decode prog_1_method_1_code 114 = .ok (.getfield 39, 3) := by decide +kernel
theorem d_C_init_117 : decode prog_1_method_1_code 117 = .ok (.iconst (-1), 1) := by decide +kernel
theorem d_C_init_118 : decode prog_1_method_1_code 118 = .ok (.invokestatic 26, 3) := by decide +kernel
theorem d_C_init_121 : decode prog_1_method_1_code 121 = .ok (.aload_n 0, 1) := by decide +kernel
theorem d_C_init_122 : decode prog_1_method_1_code 122 = .ok (.getfield 42, 3) := by decide +kernel
theorem d_C_init_125 : decode prog_1_method_1_code 125 = .ok (.iconst (-1), 1) := by decide +kernel
theorem d_C_init_126 : decode prog_1_method_1_code 126 = .ok (.invokestatic 26, 3) := by decide +kernel
theorem d_C_init_129 : decode prog_1_method_1_code 129 = .ok (.aload_n 0, 1) := by decide +kernel
theorem d_C_init_130 : decode prog_1_method_1_code 130 = .ok (.getfield 45, 3) := by decide +kernel
theorem d_C_init_133 : decode prog_1_method_1_code 133 = .ok (.iconst (-1), 1) := by decide +kernel
theorem d_C_init_134 : decode prog_1_method_1_code 134 = .ok (.invokestatic 26, 3) := by decide +kernel
theorem d_C_init_137 : decode prog_1_method_1_code 137 = .ok (.aload_n 0, 1) := by decide +kernel
theorem d_C_init_138 : decode prog_1_method_1_code 138 = .ok (.getfield 35, 3) := by decide +kernel
theorem d_C_init_141 : decode prog_1_method_1_code 141 = .ok (.iconst 0, 1) := by decide +kernel
theorem d_C_init_142 : decode prog_1_method_1_code 142 = .ok (.iconst 1, 1) := by decide +kernel
theorem d_C_init_143 : decode prog_1_method_1_code 143 = .ok (.bastore, 1) := by decide +kernel
theorem d_C_init_144 : decode prog_1_method_1_code 144 = .ok (.aload_n 0, 1) := by decide +kernel
theorem d_C_init_145 : decode prog_1_method_1_code 145 = .ok (.iconst 1, 1) := by decide +kernel
theorem d_C_init_146 : decode prog_1_method_1_code 146 = .ok (.putfield 48, 3) := by decide +kernel
theorem d_C_init_149 : decode prog_1_method_1_code 149 = .ok (.aload_n 0, 1) := by decide +kernel
theorem d_C_init_150 : decode prog_1_method_1_code 150 = .ok (.new 51, 3) := by decide +kernel
theorem d_C_init_153 : decode prog_1_method_1_code 153 = .ok (.dup, 1) := by decide +kernel
theorem d_C_init_154 : decode prog_1_method_1_code 154 = .ok (.invokespecial 53, 3) := by decide +kernel
theorem d_C_init_157 : decode prog_1_method_1_code 157 = .ok (.putfield 54, 3) := by decide +kernel
theorem d_C_init_160 : decode prog_1_method_1_code 160 = .ok (.aload_n 0, 1) := by decide +kernel
theorem d_C_init_161 : decode prog_1_method_1_code 161 = .ok (.new 58, 3) := by decide +kernel
theorem d_C_init_164 : decode prog_1_method_1_code 164 = .ok (.dup, 1) := by decide +kernel
theorem d_C_init_165 : decode prog_1_method_1_code 165 = .ok (.invokespecial 60, 3) := by decide +kernel
theorem d_C_init_168 : decode prog_1_method_1_code 168 = .ok (.putfield 61, 3) := by decide +kernel
theorem d_C_init_171 : decode prog_1_method_1_code 171 = .ok (.return_, 1) := by decide +kernel
theorem d_C_clock_0 : decode prog_1_method_22_code 0 = .ok (.aload_n 0, 1) := by decide +kernel
theorem d_C_clock_1 : decode prog_1_method_22_code 1 = .ok (.getfield 98, 3) := by decide +kernel
theorem d_C_clock_4 : decode prog_1_method_22_code 4 = .ok (.ireturn, 1) := by decide +kernel
theorem d_C_person_0 : decode prog_1_method_2_code 0 = .ok (.iload_n 1, 1) := by decide +kernel
theorem d_C_person_1 : decode prog_1_method_2_code 1 = .ok (.ifCond .lt 9, 3) := by decide +kernel
theorem d_C_person_4 : decode prog_1_method_2_code 4 = .ok (.iload_n 1, 1) := by decide +kernel
theorem d_C_person_5 : decode prog_1_method_2_code 5 = .ok (.bipush 9, 2) := by decide +kernel
theorem d_C_person_7 : decode prog_1_method_2_code 7 = .ok (.if_icmp .le 13, 3) := by decide +kernel
theorem d_C_person_10 : decode prog_1_method_2_code 10 = .ok (.new 65, 3) := by decide +kernel
theorem d_C_person_13 : decode prog_1_method_2_code 13 = .ok (.dup, 1) := by decide +kernel
theorem d_C_person_14 : decode prog_1_method_2_code 14 = .ok (.ldc 67, 2) := by decide +kernel
theorem d_C_person_16 : decode prog_1_method_2_code 16 = .ok (.invokespecial 69, 3) := by decide +kernel
theorem d_C_person_19 : decode prog_1_method_2_code 19 = .ok (.athrow, 1) := by decide +kernel
theorem d_C_person_20 : decode prog_1_method_2_code 20 = .ok (.aload_n 0, 1) := by decide +kernel
theorem d_C_person_21 : decode prog_1_method_2_code 21 = .ok (.getfield 72, 3) := by decide +kernel
theorem d_C_person_24 : decode prog_1_method_2_code 24 = .ok (.bipush 40, 2) := by decide +kernel
theorem d_C_person_26 : decode prog_1_method_2_code 26 = .ok (.if_icmp .lt 13, 3) := by decide +kernel
theorem d_C_person_29 : decode prog_1_method_2_code 29 = .ok (.new 75, 3) := by decide +kernel
theorem d_C_person_32 : decode prog_1_method_2_code 32 = .ok (.dup, 1) := by decide +kernel
theorem d_C_person_33 : decode prog_1_method_2_code 33 = .ok (.ldc 77, 2) := by decide +kernel
theorem d_C_person_35 : decode prog_1_method_2_code 35 = .ok (.invokespecial 79, 3) := by decide +kernel
theorem d_C_person_38 : decode prog_1_method_2_code 38 = .ok (.athrow, 1) := by decide +kernel
theorem d_C_person_39 : decode prog_1_method_2_code 39 = .ok (.aload_n 0, 1) := by decide +kernel
theorem d_C_person_40 : decode prog_1_method_2_code 40 = .ok (.getfield 72, 3) := by decide +kernel
theorem d_C_person_43 : decode prog_1_method_2_code 43 = .ok (.istore_n 2, 1) := by decide +kernel
theorem d_C_person_44 : decode prog_1_method_2_code 44 = .ok (.aload_n 0, 1) := by decide +kernel
theorem d_C_person_45 : decode prog_1_method_2_code 45 = .ok (.getfield 13, 3) := by decide +kernel
theorem d_C_person_48 : decode prog_1_method_2_code 48 = .ok (.iload_n 2, 1) := by decide +kernel
theorem d_C_person_49 : decode prog_1_method_2_code 49 = .ok (.iload_n 1, 1) := by decide +kernel
theorem d_C_person_50 : decode prog_1_method_2_code 50 = .ok (.iastore, 1) := by decide +kernel
theorem d_C_person_51 : decode prog_1_method_2_code 51 = .ok (.aload_n 0, 1) := by decide +kernel
theorem d_C_person_52 : decode prog_1_method_2_code 52 = .ok (.dup, 1) := by decide +kernel
theorem d_C_person_53 : decode prog_1_method_2_code 53 = .ok (.getfield 72, 3) := by decide +kernel
theorem d_C_person_56 : decode prog_1_method_2_code 56 = .ok (.iconst 1, 1) := by decide +kernel
theorem d_C_person_57 : decode prog_1_method_2_code 57 = .ok (.iadd, 1) := by decide +kernel
theorem d_C_person_58 : decode prog_1_method_2_code 58 = .ok (.putfield 72, 3) := by decide +kernel
theorem d_C_person_61 : decode prog_1_method_2_code 61 = .ok (.iload_n 2, 1) := by decide +kernel
theorem d_C_person_62 : decode prog_1_method_2_code 62 = .ok (.ireturn, 1) := by decide +kernel
theorem d_C_unit_0 : decode prog_1_method_3_code 0 = .ok (.aload_n 0, 1) := by decide +kernel
theorem d_C_unit_1 : decode prog_1_method_3_code 1 = .ok (.getfield 80, 3) := by decide +kernel
theorem d_C_unit_4 : decode prog_1_method_3_code 4 = .ok (.bipush 20, 2) := by decide +kernel
theorem d_C_unit_6 : decode prog_1_method_3_code 6 = .ok (.if_icmp .lt 13, 3) := by decide +kernel
theorem d_C_unit_9 : decode prog_1_method_3_code 9 = .ok (.new 75, 3) := by decide +kernel
theorem d_C_unit_12 : decode prog_1_method_3_code 12 = .ok (.dup, 1) := by decide +kernel
theorem d_C_unit_13 : decode prog_1_method_3_code 13 = .ok (.ldc 83, 2) := by decide +kernel
theorem d_C_unit_15 : decode prog_1_method_3_code 15 = .ok (.invokespecial 79, 3) := by decide +kernel
theorem d_C_unit_18 : decode prog_1_method_3_code 18 = .ok (.athrow, 1) := by decide +kernel
theorem d_C_unit_19 : decode prog_1_method_3_code 19 = .ok (.aload_n 0, 1) := by decide +kernel
theorem d_C_unit_20 : decode prog_1_method_3_code 20 = .ok (.getfield 80, 3) := by decide +kernel
theorem d_C_unit_23 : decode prog_1_method_3_code 23 = .ok (.istore_n 1, 1) := by decide +kernel
theorem d_C_unit_24 : decode prog_1_method_3_code 24 = .ok (.aload_n 0, 1) := by decide +kernel
theorem d_C_unit_25 : decode prog_1_method_3_code 25 = .ok (.dup, 1) := by decide +kernel
theorem d_C_unit_26 : decode prog_1_method_3_code 26 = .ok (.getfield 80, 3) := by decide +kernel
theorem d_C_unit_29 : decode prog_1_method_3_code 29 = .ok (.iconst 1, 1) := by decide +kernel
theorem d_C_unit_30 : decode prog_1_method_3_code 30 = .ok (.iadd, 1) := by decide +kernel
theorem d_C_unit_31 : decode prog_1_method_3_code 31 = .ok (.putfield 80, 3) := by decide +kernel
theorem d_C_unit_34 : decode prog_1_method_3_code 34 = .ok (.iload_n 1, 1) := by decide +kernel
theorem d_C_unit_35 : decode prog_1_method_3_code 35 = .ok (.ireturn, 1) := by decide +kernel
theorem d_C_arrive_0 : decode prog_1_method_4_code 0 = .ok (.aload_n 0, 1) := by decide +kernel
theorem d_C_arrive_1 : decode prog_1_method_4_code 1 = .ok (.iload_n 1, 1) := by decide +kernel
theorem d_C_arrive_2 : decode prog_1_method_4_code 2 = .ok (.invokevirtual 85, 3) := by decide +kernel
theorem d_C_arrive_5 : decode prog_1_method_4_code 5 = .ok (.aload_n 0, 1) := by decide +kernel
theorem d_C_arrive_6 : decode prog_1_method_4_code 6 = .ok (.iload_n 1, 1) := by decide +kernel
theorem d_C_arrive_7 : decode prog_1_method_4_code 7 = .ok (.invokevirtual 89, 3) := by decide +kernel
theorem d_C_arrive_10 : decode prog_1_method_4_code 10 = .ok (.ifCond .eq 13, 3) := by decide +kernel
theorem d_C_arrive_13 : decode prog_1_method_4_code 13 = .ok (.new 93, 3) := by decide +kernel
theorem d_C_arrive_16 : decode prog_1_method_4_code 16 = .ok (.dup, 1) := by decide +kernel
theorem d_C_arrive_17 : decode prog_1_method_4_code 17 = .ok (.ldc 95, 2) := by decide +kernel
theorem d_C_arrive_19 : decode prog_1_method_4_code 19 = .ok (.invokespecial 97, 3) := by decide +kernel
theorem d_C_arrive_22 : decode prog_1_method_4_code 22 = .ok (.athrow, 1) := by decide +kernel
theorem d_C_arrive_23 : decode prog_1_method_4_code 23 = .ok (.aload_n 0, 1) := by decide +kernel
theorem d_C_arrive_24 : decode prog_1_method_4_code 24 = .ok (.getfield 17, 3) := by decide +kernel
theorem d_C_arrive_27 : decode prog_1_method_4_code 27 = .ok (.iload_n 1, 1) := by decide +kernel
theorem d_C_arrive_28 : decode prog_1_method_4_code 28 = .ok (.aload_n 0, 1) := by decide +kernel
theorem d_C_arrive_29 : decode prog_1_method_4_code 29 = .ok (.getfield 98, 3) := by decide +kernel
theorem d_C_arrive_32 : decode prog_1_method_4_code 32 = .ok (.iastore, 1) := by decide +kernel
theorem d_C_arrive_33 : decode prog_1_method_4_code 33 = .ok (.aload_n 0, 1) := by decide +kernel
theorem d_C_arrive_34 : decode prog_1_method_4_code 34 = .ok (.iload_n 1, 1) := by decide +kernel
theorem d_C_arrive_35 : decode prog_1_method_4_code 35 = .ok (.iconst 0, 1) := by decide +kernel
theorem d_C_arrive_36 : decode prog_1_method_4_code 36 = .ok (.invokevirtual 101, 3) := by decide +kernel
theorem d_C_arrive_39 : decode prog_1_method_4_code 39 = .ok (.return_, 1) := by decide +kernel
theorem d_C_requirePerson_0 : decode prog_1_method_23_code 0 = .ok (.iload_n 1, 1) := by decide +kernel
theorem d_C_requirePerson_1 : decode prog_1_method_23_code 1 = .ok (.ifCond .lt 11, 3) := by decide +kernel
theorem d_C_requirePerson_4 : decode prog_1_method_23_code 4 = .ok (.iload_n 1, 1) := by decide +kernel
theorem d_C_requirePerson_5 : decode prog_1_method_23_code 5 = .ok (.aload_n 0, 1) := by decide +kernel
theorem d_C_requirePerson_6 : decode prog_1_method_23_code 6 = .ok (.getfield 72, 3) := by decide +kernel
theorem d_C_requirePerson_9 : decode prog_1_method_23_code 9 = .ok (.if_icmp .lt 13, 3) := by decide +kernel
theorem d_C_requirePerson_12 : decode prog_1_method_23_code 12 = .ok (.new 212, 3) := by decide +kernel
theorem d_C_requirePerson_15 : decode prog_1_method_23_code 15 = .ok (.dup, 1) := by decide +kernel
theorem d_C_requirePerson_16 : decode prog_1_method_23_code 16 = .ok (.ldc 228, 2) := by decide +kernel
theorem d_C_requirePerson_18 : decode prog_1_method_23_code 18 = .ok (.invokespecial 216, 3) := by decide +kernel
theorem d_C_requirePerson_21 : decode prog_1_method_23_code 21 = .ok (.athrow, 1) := by decide +kernel
theorem d_C_requirePerson_22 : decode prog_1_method_23_code 22 = .ok (.return_, 1) := by decide +kernel
theorem d_C_isThere_0 : decode prog_1_method_29_code 0 = .ok (.aload_n 0, 1) := by decide +kernel
theorem d_C_isThere_1 : decode prog_1_method_29_code 1 = .ok (.getfield 20, 3) := by decide +kernel
theorem d_C_isThere_4 : decode prog_1_method_29_code 4 = .ok (.iload_n 1, 1) := by decide +kernel
theorem d_C_isThere_5 : decode prog_1_method_29_code 5 = .ok (.iaload, 1) := by decide +kernel
theorem d_C_isThere_6 : decode prog_1_method_29_code 6 = .ok (.iconst (-1), 1) := by decide +kernel
theorem d_C_isThere_7 : decode prog_1_method_29_code 7 = .ok (.if_icmp .eq 7, 3) := by decide +kernel
theorem d_C_isThere_10 : decode prog_1_method_29_code 10 = .ok (.iconst 1, 1) := by decide +kernel
theorem d_C_isThere_11 : decode prog_1_method_29_code 11 = .ok (.goto 4, 3) := by decide +kernel
theorem d_C_isThere_14 : decode prog_1_method_29_code 14 = .ok (.iconst 0, 1) := by decide +kernel
theorem d_C_isThere_15 : decode prog_1_method_29_code 15 = .ok (.ireturn, 1) := by decide +kernel
theorem d_C_comeInto_0 : decode prog_1_method_30_code 0 = .ok (.aload_n 0, 1) := by decide +kernel
theorem d_C_comeInto_1 : decode prog_1_method_30_code 1 = .ok (.getfield 20, 3) := by decide +kernel
theorem d_C_comeInto_4 : decode prog_1_method_30_code 4 = .ok (.iload_n 1, 1) := by decide +kernel
theorem d_C_comeInto_5 : decode prog_1_method_30_code 5 = .ok (.iload_n 2, 1) := by decide +kernel
theorem d_C_comeInto_6 : decode prog_1_method_30_code 6 = .ok (.iastore, 1) := by decide +kernel
theorem d_C_comeInto_7 : decode prog_1_method_30_code 7 = .ok (.aload_n 0, 1) := by decide +kernel
theorem d_C_comeInto_8 : decode prog_1_method_30_code 8 = .ok (.iload_n 1, 1) := by decide +kernel
theorem d_C_comeInto_9 : decode prog_1_method_30_code 9 = .ok (.invokevirtual 111, 3) := by decide +kernel
theorem d_C_comeInto_12 : decode prog_1_method_30_code 12 = .ok (.aload_n 0, 1) := by decide +kernel
theorem d_C_comeInto_13 : decode prog_1_method_30_code 13 = .ok (.getfield 42, 3) := by decide +kernel
theorem d_C_comeInto_16 : decode prog_1_method_30_code 16 = .ok (.iload_n 2, 1) := by decide +kernel
theorem d_C_comeInto_17 : decode prog_1_method_30_code 17 = .ok (.iaload, 1) := by decide +kernel
theorem d_C_comeInto_18 : decode prog_1_method_30_code 18 = .ok (.iconst (-1), 1) := by decide +kernel
theorem d_C_comeInto_19 : decode prog_1_method_30_code 19 = .ok (.if_icmp .ne 9, 3) := by decide +kernel
theorem d_C_comeInto_22 : decode prog_1_method_30_code 22 = .ok (.aload_n 0, 1) := by decide +kernel
theorem d_C_comeInto_23 : decode prog_1_method_30_code 23 = .ok (.iload_n 2, 1) := by decide +kernel
theorem d_C_comeInto_24 : decode prog_1_method_30_code 24 = .ok (.iload_n 1, 1) := by decide +kernel
theorem d_C_comeInto_25 : decode prog_1_method_30_code 25 = .ok (.invokevirtual 137, 3) := by decide +kernel
theorem d_C_comeInto_28 : decode prog_1_method_30_code 28 = .ok (.return_, 1) := by decide +kernel
theorem d_C_leaveLeadToNext_0 : decode prog_1_method_31_code 0 = .ok (.aload_n 0, 1) := by decide +kernel
theorem d_C_leaveLeadToNext_1 : decode prog_1_method_31_code 1 = .ok (.getfield 23, 3) := by decide +kernel
theorem d_C_leaveLeadToNext_4 : decode prog_1_method_31_code 4 = .ok (.iload_n 1, 1) := by decide +kernel
theorem d_C_leaveLeadToNext_5 : decode prog_1_method_31_code 5 = .ok (.iaload, 1) := by decide +kernel
theorem d_C_leaveLeadToNext_6 : decode prog_1_method_31_code 6 = .ok (.istore_n 2, 1) := by decide +kernel
theorem d_C_leaveLeadToNext_7 : decode prog_1_method_31_code 7 = .ok (.iload_n 2, 1) := by decide +kernel
theorem d_C_leaveLeadToNext_8 : decode prog_1_method_31_code 8 = .ok (.ifCond .lt 13, 3) := by decide +kernel
theorem d_C_leaveLeadToNext_11 : decode prog_1_method_31_code 11 = .ok (.aload_n 0, 1) := by decide +kernel
theorem d_C_leaveLeadToNext_12 : decode prog_1_method_31_code 12 = .ok (.iload_n 2, 1) := by decide +kernel
theorem d_C_leaveLeadToNext_13 : decode prog_1_method_31_code 13 = .ok (.aload_n 0, 1) := by decide +kernel
theorem d_C_leaveLeadToNext_14 : decode prog_1_method_31_code 14 = .ok (.iload_n 2, 1) := by decide +kernel
theorem d_C_leaveLeadToNext_15 : decode prog_1_method_31_code 15 = .ok (.invokevirtual 150, 3) := by decide +kernel
theorem d_C_leaveLeadToNext_18 : decode prog_1_method_31_code 18 = .ok (.invokevirtual 137, 3) := by decide +kernel
theorem d_C_leaveLeadToNext_21 : decode prog_1_method_31_code 21 = .ok (.return_, 1) := by decide +kernel
theorem d_C_nextToLead_0 : decode prog_1_method_34_code 0 = .ok (.iconst (-1), 1) := by decide +kernel
theorem d_C_nextToLead_1 : decode prog_1_method_34_code 1 = .ok (.istore_n 2, 1) := by decide +kernel
theorem d_C_nextToLead_2 : decode prog_1_method_34_code 2 = .ok (.iconst 0, 1) := by decide +kernel
theorem d_C_nextToLead_3 : decode prog_1_method_34_code 3 = .ok (.istore_n 3, 1) := by decide +kernel
theorem d_C_nextToLead_4 : decode prog_1_method_34_code 4 = .ok (.iload_n 3, 1) := by decide +kernel
theorem d_C_nextToLead_5 : decode prog_1_method_34_code 5 = .ok (.aload_n 0, 1) := by decide +kernel
theorem d_C_nextToLead_6 : decode prog_1_method_34_code 6 = .ok (.getfield 72, 3) := by decide +kernel
theorem d_C_nextToLead_9 : decode prog_1_method_34_code 9 = .ok (.if_icmp .ge 57, 3) := by decide +kernel
theorem d_C_nextToLead_12 : decode prog_1_method_34_code 12 = .ok (.aload_n 0, 1) := by decide +kernel
theorem d_C_nextToLead_13 : decode prog_1_method_34_code 13 = .ok (.getfield 20, 3) := by decide +kernel
theorem d_C_nextToLead_16 : decode prog_1_method_34_code 16 = .ok (.iload_n 3, 1) := by decide +kernel
theorem d_C_nextToLead_17 : decode prog_1_method_34_code 17 = .ok (.iaload, 1) := by decide +kernel
theorem d_C_nextToLead_18 : decode prog_1_method_34_code 18 = .ok (.iload_n 1, 1) := by decide +kernel
theorem d_C_nextToLead_19 : decode prog_1_method_34_code 19 = .ok (.if_icmp .ne 17, 3) := by decide +kernel
theorem d_C_nextToLead_22 : decode prog_1_method_34_code 22 = .ok (.aload_n 0, 1) := by decide +kernel
theorem d_C_nextToLead_23 : decode prog_1_method_34_code 23 = .ok (.getfield 23, 3) := by decide +kernel
theorem d_C_nextToLead_26 : decode prog_1_method_34_code 26 = .ok (.iload_n 3, 1) := by decide +kernel
theorem d_C_nextToLead_27 : decode prog_1_method_34_code 27 = .ok (.iaload, 1) := by decide +kernel
theorem d_C_nextToLead_28 : decode prog_1_method_34_code 28 = .ok (.iconst (-1), 1) := by decide +kernel
theorem d_C_nextToLead_29 : decode prog_1_method_34_code 29 = .ok (.if_icmp .ne 7, 3) := by decide +kernel
theorem d_C_nextToLead_32 : decode prog_1_method_34_code 32 = .ok (.iconst 1, 1) := by decide +kernel
theorem d_C_nextToLead_33 : decode prog_1_method_34_code 33 = .ok (.goto 4, 3) := by decide +kernel
theorem d_C_nextToLead_36 : decode prog_1_method_34_code 36 = .ok (.iconst 0, 1) := by decide +kernel
theorem d_C_nextToLead_37 : decode prog_1_method_34_code 37 = .ok (.istore 4, 2) := by decide +kernel
theorem d_C_nextToLead_39 : decode prog_1_method_34_code 39 = .ok (.iload 4, 2) := by decide +kernel
theorem d_C_nextToLead_41 : decode prog_1_method_34_code 41 = .ok (.ifCond .eq 19, 3) := by decide +kernel
theorem d_C_nextToLead_44 : decode prog_1_method_34_code 44 = .ok (.iload_n 2, 1) := by decide +kernel
theorem d_C_nextToLead_45 : decode prog_1_method_34_code 45 = .ok (.iconst (-1), 1) := by decide +kernel
theorem d_C_nextToLead_46 : decode prog_1_method_34_code 46 = .ok (.if_icmp .eq 12, 3) := by decide +kernel
theorem d_C_nextToLead_49 : decode prog_1_method_34_code 49 = .ok (.aload_n 0, 1) := by decide +kernel
theorem d_C_nextToLead_50 : decode prog_1_method_34_code 50 = .ok (.iload_n 3, 1) := by decide +kernel
theorem d_C_nextToLead_51 : decode prog_1_method_34_code 51 = .ok (.iload_n 2, 1) := by decide +kernel
theorem d_C_nextToLead_52 : decode prog_1_method_34_code 52 = .ok (.invokevirtual 247, 3) := by decide +kernel
theorem d_C_nextToLead_55 : decode prog_1_method_34_code 55 = .ok (.ifCond .eq 5, 3) := by decide +kernel
theorem d_C_nextToLead_58 : decode prog_1_method_34_code 58 = .ok (.iload_n 3, 1) := by decide +kernel
theorem d_C_nextToLead_59 : decode prog_1_method_34_code 59 = .ok (.istore_n 2, 1) := by decide +kernel
theorem d_C_nextToLead_60 : decode prog_1_method_34_code 60 = .ok (.iinc 3 1, 3) := by decide +kernel
theorem d_C_nextToLead_63 : decode prog_1_method_34_code 63 = .ok (.goto (-59), 3) := by decide +kernel
theorem d_C_nextToLead_66 : decode prog_1_method_34_code 66 = .ok (.iload_n 2, 1) := by decide +kernel
theorem d_C_nextToLead_67 : decode prog_1_method_34_code 67 = .ok (.ireturn, 1) := by decide +kernel
theorem d_C_comesBefore_0 : decode prog_1_method_35_code 0 = .ok (.aload_n 0, 1) := by decide +kernel
theorem d_C_comesBefore_1 : decode prog_1_method_35_code 1 = .ok (.getfield 13, 3) := by decide +kernel
theorem d_C_comesBefore_4 : decode prog_1_method_35_code 4 = .ok (.iload_n 1, 1) := by decide +kernel
theorem d_C_comesBefore_5 : decode prog_1_method_35_code 5 = .ok (.iaload, 1) := by decide +kernel
theorem d_C_comesBefore_6 : decode prog_1_method_35_code 6 = .ok (.aload_n 0, 1) := by decide +kernel
theorem d_C_comesBefore_7 : decode prog_1_method_35_code 7 = .ok (.getfield 13, 3) := by decide +kernel
theorem d_C_comesBefore_10 : decode prog_1_method_35_code 10 = .ok (.iload_n 2, 1) := by decide +kernel
theorem d_C_comesBefore_11 : decode prog_1_method_35_code 11 = .ok (.iaload, 1) := by decide +kernel
theorem d_C_comesBefore_12 : decode prog_1_method_35_code 12 = .ok (.if_icmp .eq 24, 3) := by decide +kernel
theorem d_C_comesBefore_15 : decode prog_1_method_35_code 15 = .ok (.aload_n 0, 1) := by decide +kernel
theorem d_C_comesBefore_16 : decode prog_1_method_35_code 16 = .ok (.getfield 13, 3) := by decide +kernel
theorem d_C_comesBefore_19 : decode prog_1_method_35_code 19 = .ok (.iload_n 1, 1) := by decide +kernel
theorem d_C_comesBefore_20 : decode prog_1_method_35_code 20 = .ok (.iaload, 1) := by decide +kernel
theorem d_C_comesBefore_21 : decode prog_1_method_35_code 21 = .ok (.aload_n 0, 1) := by decide +kernel
theorem d_C_comesBefore_22 : decode prog_1_method_35_code 22 = .ok (.getfield 13, 3) := by decide +kernel
theorem d_C_comesBefore_25 : decode prog_1_method_35_code 25 = .ok (.iload_n 2, 1) := by decide +kernel
theorem d_C_comesBefore_26 : decode prog_1_method_35_code 26 = .ok (.iaload, 1) := by decide +kernel
theorem d_C_comesBefore_27 : decode prog_1_method_35_code 27 = .ok (.if_icmp .le 7, 3) := by decide +kernel
theorem d_C_comesBefore_30 : decode prog_1_method_35_code 30 = .ok (.iconst 1, 1) := by decide +kernel
theorem d_C_comesBefore_31 : decode prog_1_method_35_code 31 = .ok (.goto 4, 3) := by decide +kernel
theorem d_C_comesBefore_34 : decode prog_1_method_35_code 34 = .ok (.iconst 0, 1) := by decide +kernel
theorem d_C_comesBefore_35 : decode prog_1_method_35_code 35 = .ok (.ireturn, 1) := by decide +kernel
theorem d_C_comesBefore_36 : decode prog_1_method_35_code 36 = .ok (.aload_n 0, 1) := by decide +kernel
theorem d_C_comesBefore_37 : decode prog_1_method_35_code 37 = .ok (.getfield 17, 3) := by decide +kernel
theorem d_C_comesBefore_40 : decode prog_1_method_35_code 40 = .ok (.iload_n 1, 1) := by decide +kernel
theorem d_C_comesBefore_41 : decode prog_1_method_35_code 41 = .ok (.iaload, 1) := by decide +kernel
theorem d_C_comesBefore_42 : decode prog_1_method_35_code 42 = .ok (.aload_n 0, 1) := by decide +kernel
theorem d_C_comesBefore_43 : decode prog_1_method_35_code 43 = .ok (.getfield 17, 3) := by decide +kernel
theorem d_C_comesBefore_46 : decode prog_1_method_35_code 46 = .ok (.iload_n 2, 1) := by decide +kernel
theorem d_C_comesBefore_47 : decode prog_1_method_35_code 47 = .ok (.iaload, 1) := by decide +kernel
theorem d_C_comesBefore_48 : decode prog_1_method_35_code 48 = .ok (.if_icmp .ge 7, 3) := by decide +kernel
theorem d_C_comesBefore_51 : decode prog_1_method_35_code 51 = .ok (.iconst 1, 1) := by decide +kernel
theorem d_C_comesBefore_52 : decode prog_1_method_35_code 52 = .ok (.goto 4, 3) := by decide +kernel
theorem d_C_comesBefore_55 : decode prog_1_method_35_code 55 = .ok (.iconst 0, 1) := by decide +kernel
theorem d_C_comesBefore_56 : decode prog_1_method_35_code 56 = .ok (.ireturn, 1) := by decide +kernel
theorem d_C_setLeader_0 : decode prog_1_method_32_code 0 = .ok (.aload_n 0, 1) := by decide +kernel
theorem d_C_setLeader_1 : decode prog_1_method_32_code 1 = .ok (.getfield 42, 3) := by decide +kernel
theorem d_C_setLeader_4 : decode prog_1_method_32_code 4 = .ok (.iload_n 1, 1) := by decide +kernel
theorem d_C_setLeader_5 : decode prog_1_method_32_code 5 = .ok (.iaload, 1) := by decide +kernel
theorem d_C_setLeader_6 : decode prog_1_method_32_code 6 = .ok (.istore_n 3, 1) := by decide +kernel
theorem d_C_setLeader_7 : decode prog_1_method_32_code 7 = .ok (.iload_n 3, 1) := by decide +kernel
theorem d_C_setLeader_8 : decode prog_1_method_32_code 8 = .ok (.iload_n 2, 1) := by decide +kernel
theorem d_C_setLeader_9 : decode prog_1_method_32_code 9 = .ok (.if_icmp .ne 4, 3) := by decide +kernel
theorem d_C_setLeader_12 : decode prog_1_method_32_code 12 = .ok (.return_, 1) := by decide +kernel
theorem d_C_setLeader_13 : decode prog_1_method_32_code 13 = .ok (.iload_n 3, 1) := by decide +kernel
theorem d_C_setLeader_14 : decode prog_1_method_32_code 14 = .ok (.ifCond .lt 10, 3) := by decide +kernel
theorem d_C_setLeader_17 : decode prog_1_method_32_code 17 = .ok (.aload_n 0, 1) := by decide +kernel
theorem d_C_setLeader_18 : decode prog_1_method_32_code 18 = .ok (.getfield 23, 3) := by decide +kernel
theorem d_C_setLeader_21 : decode prog_1_method_32_code 21 = .ok (.iload_n 3, 1) := by decide +kernel
theorem d_C_setLeader_22 : decode prog_1_method_32_code 22 = .ok (.iconst (-1), 1) := by decide +kernel
theorem d_C_setLeader_23 : decode prog_1_method_32_code 23 = .ok (.iastore, 1) := by decide +kernel
theorem d_C_setLeader_24 : decode prog_1_method_32_code 24 = .ok (.aload_n 0, 1) := by decide +kernel
theorem d_C_setLeader_25 : decode prog_1_method_32_code 25 = .ok (.getfield 42, 3) := by decide +kernel
theorem d_C_setLeader_28 : decode prog_1_method_32_code 28 = .ok (.iload_n 1, 1) := by decide +kernel
theorem d_C_setLeader_29 : decode prog_1_method_32_code 29 = .ok (.iload_n 2, 1) := by decide +kernel
theorem d_C_setLeader_30 : decode prog_1_method_32_code 30 = .ok (.iastore, 1) := by decide +kernel
theorem d_C_setLeader_31 : decode prog_1_method_32_code 31 = .ok (.aload_n 0, 1) := by decide +kernel
theorem d_C_setLeader_32 : decode prog_1_method_32_code 32 = .ok (.getfield 45, 3) := by decide +kernel
theorem d_C_setLeader_35 : decode prog_1_method_32_code 35 = .ok (.iload_n 1, 1) := by decide +kernel
theorem d_C_setLeader_36 : decode prog_1_method_32_code 36 = .ok (.iconst (-1), 1) := by decide +kernel
theorem d_C_setLeader_37 : decode prog_1_method_32_code 37 = .ok (.iastore, 1) := by decide +kernel
theorem d_C_setLeader_38 : decode prog_1_method_32_code 38 = .ok (.iload_n 2, 1) := by decide +kernel
theorem d_C_setLeader_39 : decode prog_1_method_32_code 39 = .ok (.ifCond .lt 15, 3) := by decide +kernel
theorem d_C_setLeader_42 : decode prog_1_method_32_code 42 = .ok (.aload_n 0, 1) := by decide +kernel
theorem d_C_setLeader_43 : decode prog_1_method_32_code 43 = .ok (.getfield 23, 3) := by decide +kernel
theorem d_C_setLeader_46 : decode prog_1_method_32_code 46 = .ok (.iload_n 2, 1) := by decide +kernel
theorem d_C_setLeader_47 : decode prog_1_method_32_code 47 = .ok (.iload_n 1, 1) := by decide +kernel
theorem d_C_setLeader_48 : decode prog_1_method_32_code 48 = .ok (.iastore, 1) := by decide +kernel
theorem d_C_setLeader_49 : decode prog_1_method_32_code 49 = .ok (.aload_n 0, 1) := by decide +kernel
theorem d_C_setLeader_50 : decode prog_1_method_32_code 50 = .ok (.iload_n 2, 1) := by decide +kernel
theorem d_C_setLeader_51 : decode prog_1_method_32_code 51 = .ok (.invokevirtual 108, 3) := by decide +kernel
theorem d_C_setLeader_54 : decode prog_1_method_32_code 54 = .ok (.aload_n 0, 1) := by decide +kernel
theorem d_C_setLeader_55 : decode prog_1_method_32_code 55 = .ok (.getfield 61, 3) := by decide +kernel
theorem d_C_setLeader_58 : decode prog_1_method_32_code 58 = .ok (.aload_n 0, 1) := by decide +kernel
theorem d_C_setLeader_59 : decode prog_1_method_32_code 59 = .ok (.getfield 98, 3) := by decide +kernel
theorem d_C_setLeader_62 : decode prog_1_method_32_code 62 = .ok (.iload_n 1, 1) := by decide +kernel
theorem d_C_setLeader_63 : decode prog_1_method_32_code 63 = .ok (.iload_n 2, 1) := by decide +kernel
theorem d_C_setLeader_64 : decode prog_1_method_32_code 64 = .ok (.invokevirtual 243, 3) := by decide +kernel
theorem d_C_setLeader_67 : decode prog_1_method_32_code 67 = .ok (.return_, 1) := by decide +kernel
theorem d_C_withdrawOffersTo_0 : decode prog_1_method_33_code 0 = .ok (.aload_n 0, 1) := by decide +kernel
theorem d_C_withdrawOffersTo_1 : decode prog_1_method_33_code 1 = .ok (.getfield 45, 3) := by decide +kernel
theorem d_C_withdrawOffersTo_4 : decode prog_1_method_33_code 4 = .ok (.aload_n 0, 1) := by decide +kernel
theorem d_C_withdrawOffersTo_5 : decode prog_1_method_33_code 5 = .ok (.getfield 48, 3) := by decide +kernel
theorem d_C_withdrawOffersTo_8 : decode prog_1_method_33_code 8 = .ok (.iload_n 1, 1) := by decide +kernel
theorem d_C_withdrawOffersTo_9 : decode prog_1_method_33_code 9 = .ok (.iconst (-1), 1) := by decide +kernel
theorem d_C_withdrawOffersTo_10 : decode prog_1_method_33_code 10 = .ok (.invokestatic 140, 3) := by decide +kernel
theorem d_C_withdrawOffersTo_13 : decode prog_1_method_33_code 13 = .ok (.return_, 1) := by decide +kernel
theorem d_C_replace_0 : decode prog_1_method_41_code 0 = .ok (.iconst 0, 1) := by decide +kernel
theorem d_C_replace_1 : decode prog_1_method_41_code 1 = .ok (.istore 4, 2) := by decide +kernel
theorem d_C_replace_3 : decode prog_1_method_41_code 3 = .ok (.iload 4, 2) := by decide +kernel
theorem d_C_replace_5 : decode prog_1_method_41_code 5 = .ok (.iload_n 1, 1) := by decide +kernel
theorem d_C_replace_6 : decode prog_1_method_41_code 6 = .ok (.if_icmp .ge 29, 3) := by decide +kernel
theorem d_C_replace_9 : decode prog_1_method_41_code 9 = .ok (.iload 4, 2) := by decide +kernel
theorem d_C_replace_11 : decode prog_1_method_41_code 11 = .ok (.aload_n 0, 1) := by decide +kernel
theorem d_C_replace_12 : decode prog_1_method_41_code 12 = .ok (.arraylength, 1) := by decide +kernel
theorem d_C_replace_13 : decode prog_1_method_41_code 13 = .ok (.if_icmp .ge 22, 3) := by decide +kernel
theorem d_C_replace_16 : decode prog_1_method_41_code 16 = .ok (.aload_n 0, 1) := by decide +kernel
theorem d_C_replace_17 : decode prog_1_method_41_code 17 = .ok (.iload 4, 2) := by decide +kernel
theorem d_C_replace_19 : decode prog_1_method_41_code 19 = .ok (.iaload, 1) := by decide +kernel
theorem d_C_replace_20 : decode prog_1_method_41_code 20 = .ok (.iload_n 2, 1) := by decide +kernel
theorem d_C_replace_21 : decode prog_1_method_41_code 21 = .ok (.if_icmp .ne 8, 3) := by decide +kernel
theorem d_C_replace_24 : decode prog_1_method_41_code 24 = .ok (.aload_n 0, 1) := by decide +kernel
theorem d_C_replace_25 : decode prog_1_method_41_code 25 = .ok (.iload 4, 2) := by decide +kernel
theorem d_C_replace_27 : decode prog_1_method_41_code 27 = .ok (.iload_n 3, 1) := by decide +kernel
theorem d_C_replace_28 : decode prog_1_method_41_code 28 = .ok (.iastore, 1) := by decide +kernel
theorem d_C_replace_29 : decode prog_1_method_41_code 29 = .ok (.iinc 4 1, 3) := by decide +kernel
theorem d_C_replace_32 : decode prog_1_method_41_code 32 = .ok (.goto (-29), 3) := by decide +kernel
theorem d_C_replace_35 : decode prog_1_method_41_code 35 = .ok (.return_, 1) := by decide +kernel
theorem d_C_leave_0 : decode prog_1_method_5_code 0 = .ok (.aload_n 0, 1) := by decide +kernel
theorem d_C_leave_1 : decode prog_1_method_5_code 1 = .ok (.iload_n 1, 1) := by decide +kernel
theorem d_C_leave_2 : decode prog_1_method_5_code 2 = .ok (.invokevirtual 85, 3) := by decide +kernel
theorem d_C_leave_5 : decode prog_1_method_5_code 5 = .ok (.aload_n 0, 1) := by decide +kernel
theorem d_C_leave_6 : decode prog_1_method_5_code 6 = .ok (.iload_n 1, 1) := by decide +kernel
theorem d_C_leave_7 : decode prog_1_method_5_code 7 = .ok (.invokevirtual 105, 3) := by decide +kernel
theorem d_C_leave_10 : decode prog_1_method_5_code 10 = .ok (.aload_n 0, 1) := by decide +kernel
theorem d_C_leave_11 : decode prog_1_method_5_code 11 = .ok (.getfield 20, 3) := by decide +kernel
theorem d_C_leave_14 : decode prog_1_method_5_code 14 = .ok (.iload_n 1, 1) := by decide +kernel
theorem d_C_leave_15 : decode prog_1_method_5_code 15 = .ok (.iconst (-1), 1) := by decide +kernel
theorem d_C_leave_16 : decode prog_1_method_5_code 16 = .ok (.iastore, 1) := by decide +kernel
theorem d_C_leave_17 : decode prog_1_method_5_code 17 = .ok (.aload_n 0, 1) := by decide +kernel
theorem d_C_leave_18 : decode prog_1_method_5_code 18 = .ok (.getfield 17, 3) := by decide +kernel
theorem d_C_leave_21 : decode prog_1_method_5_code 21 = .ok (.iload_n 1, 1) := by decide +kernel
theorem d_C_leave_22 : decode prog_1_method_5_code 22 = .ok (.iconst (-1), 1) := by decide +kernel
theorem d_C_leave_23 : decode prog_1_method_5_code 23 = .ok (.iastore, 1) := by decide +kernel
theorem d_C_leave_24 : decode prog_1_method_5_code 24 = .ok (.aload_n 0, 1) := by decide +kernel
theorem d_C_leave_25 : decode prog_1_method_5_code 25 = .ok (.iload_n 1, 1) := by decide +kernel
theorem d_C_leave_26 : decode prog_1_method_5_code 26 = .ok (.invokevirtual 108, 3) := by decide +kernel
theorem d_C_leave_29 : decode prog_1_method_5_code 29 = .ok (.aload_n 0, 1) := by decide +kernel
theorem d_C_leave_30 : decode prog_1_method_5_code 30 = .ok (.iload_n 1, 1) := by decide +kernel
theorem d_C_leave_31 : decode prog_1_method_5_code 31 = .ok (.invokevirtual 111, 3) := by decide +kernel
theorem d_C_leave_34 : decode prog_1_method_5_code 34 = .ok (.return_, 1) := by decide +kernel
theorem d_C_requireThere_0 : decode prog_1_method_27_code 0 = .ok (.aload_n 0, 1) := by decide +kernel
theorem d_C_requireThere_1 : decode prog_1_method_27_code 1 = .ok (.iload_n 1, 1) := by decide +kernel
theorem d_C_requireThere_2 : decode prog_1_method_27_code 2 = .ok (.invokevirtual 89, 3) := by decide +kernel
theorem d_C_requireThere_5 : decode prog_1_method_27_code 5 = .ok (.ifCond .ne 13, 3) := by decide +kernel
theorem d_C_requireThere_8 : decode prog_1_method_27_code 8 = .ok (.new 93, 3) := by decide +kernel
theorem d_C_requireThere_11 : decode prog_1_method_27_code 11 = .ok (.dup, 1) := by decide +kernel
theorem d_C_requireThere_12 : decode prog_1_method_27_code 12 = .ok (.ldc 239, 2) := by decide +kernel
theorem d_C_requireThere_14 : decode prog_1_method_27_code 14 = .ok (.invokespecial 97, 3) := by decide +kernel
theorem d_C_requireThere_17 : decode prog_1_method_27_code 17 = .ok (.athrow, 1) := by decide +kernel
theorem d_C_requireThere_18 : decode prog_1_method_27_code 18 = .ok (.return_, 1) := by decide +kernel
theorem d_C_go_0 : decode prog_1_method_6_code 0 = .ok (.aload_n 0, 1) := by decide +kernel
theorem d_C_go_1 : decode prog_1_method_6_code 1 = .ok (.iload_n 1, 1) := by decide +kernel
theorem d_C_go_2 : decode prog_1_method_6_code 2 = .ok (.invokevirtual 85, 3) := by decide +kernel
theorem d_C_go_5 : decode prog_1_method_6_code 5 = .ok (.aload_n 0, 1) := by decide +kernel
theorem d_C_go_6 : decode prog_1_method_6_code 6 = .ok (.iload_n 2, 1) := by decide +kernel
theorem d_C_go_7 : decode prog_1_method_6_code 7 = .ok (.invokevirtual 114, 3) := by decide +kernel
theorem d_C_go_10 : decode prog_1_method_6_code 10 = .ok (.aload_n 0, 1) := by decide +kernel
theorem d_C_go_11 : decode prog_1_method_6_code 11 = .ok (.iload_n 1, 1) := by decide +kernel
theorem d_C_go_12 : decode prog_1_method_6_code 12 = .ok (.invokevirtual 105, 3) := by decide +kernel
theorem d_C_go_15 : decode prog_1_method_6_code 15 = .ok (.aload_n 0, 1) := by decide +kernel
theorem d_C_go_16 : decode prog_1_method_6_code 16 = .ok (.getfield 20, 3) := by decide +kernel
theorem d_C_go_19 : decode prog_1_method_6_code 19 = .ok (.iload_n 1, 1) := by decide +kernel
theorem d_C_go_20 : decode prog_1_method_6_code 20 = .ok (.iaload, 1) := by decide +kernel
theorem d_C_go_21 : decode prog_1_method_6_code 21 = .ok (.iload_n 2, 1) := by decide +kernel
theorem d_C_go_22 : decode prog_1_method_6_code 22 = .ok (.if_icmp .ne 13, 3) := by decide +kernel
theorem d_C_go_25 : decode prog_1_method_6_code 25 = .ok (.new 93, 3) := by decide +kernel
theorem d_C_go_28 : decode prog_1_method_6_code 28 = .ok (.dup, 1) := by decide +kernel
theorem d_C_go_29 : decode prog_1_method_6_code 29 = .ok (.ldc 117, 2) := by decide +kernel
theorem d_C_go_31 : decode prog_1_method_6_code 31 = .ok (.invokespecial 97, 3) := by decide +kernel
theorem d_C_go_34 : decode prog_1_method_6_code 34 = .ok (.athrow, 1) := by decide +kernel
theorem d_C_go_35 : decode prog_1_method_6_code 35 = .ok (.aload_n 0, 1) := by decide +kernel
theorem d_C_go_36 : decode prog_1_method_6_code 36 = .ok (.iload_n 2, 1) := by decide +kernel
theorem d_C_go_37 : decode prog_1_method_6_code 37 = .ok (.invokevirtual 119, 3) := by decide +kernel
theorem d_C_go_40 : decode prog_1_method_6_code 40 = .ok (.aload_n 0, 1) := by decide +kernel
theorem d_C_go_41 : decode prog_1_method_6_code 41 = .ok (.iload_n 1, 1) := by decide +kernel
theorem d_C_go_42 : decode prog_1_method_6_code 42 = .ok (.iload_n 2, 1) := by decide +kernel
theorem d_C_go_43 : decode prog_1_method_6_code 43 = .ok (.invokevirtual 101, 3) := by decide +kernel
theorem d_C_go_46 : decode prog_1_method_6_code 46 = .ok (.return_, 1) := by decide +kernel
theorem d_C_requireSector_0 : decode prog_1_method_25_code 0 = .ok (.iload_n 1, 1) := by decide +kernel
theorem d_C_requireSector_1 : decode prog_1_method_25_code 1 = .ok (.ifCond .lt 11, 3) := by decide +kernel
theorem d_C_requireSector_4 : decode prog_1_method_25_code 4 = .ok (.iload_n 1, 1) := by decide +kernel
theorem d_C_requireSector_5 : decode prog_1_method_25_code 5 = .ok (.aload_n 0, 1) := by decide +kernel
theorem d_C_requireSector_6 : decode prog_1_method_25_code 6 = .ok (.getfield 48, 3) := by decide +kernel
theorem d_C_requireSector_9 : decode prog_1_method_25_code 9 = .ok (.if_icmp .lt 13, 3) := by decide +kernel
theorem d_C_requireSector_12 : decode prog_1_method_25_code 12 = .ok (.new 212, 3) := by decide +kernel
theorem d_C_requireSector_15 : decode prog_1_method_25_code 15 = .ok (.dup, 1) := by decide +kernel
theorem d_C_requireSector_16 : decode prog_1_method_25_code 16 = .ok (.ldc 232, 2) := by decide +kernel
theorem d_C_requireSector_18 : decode prog_1_method_25_code 18 = .ok (.invokespecial 216, 3) := by decide +kernel
theorem d_C_requireSector_21 : decode prog_1_method_25_code 21 = .ok (.athrow, 1) := by decide +kernel
theorem d_C_requireSector_22 : decode prog_1_method_25_code 22 = .ok (.return_, 1) := by decide +kernel
theorem d_C_requireOpen_0 : decode prog_1_method_28_code 0 = .ok (.aload_n 0, 1) := by decide +kernel
theorem d_C_requireOpen_1 : decode prog_1_method_28_code 1 = .ok (.getfield 35, 3) := by decide +kernel
theorem d_C_requireOpen_4 : decode prog_1_method_28_code 4 = .ok (.iload_n 1, 1) := by decide +kernel
theorem d_C_requireOpen_5 : decode prog_1_method_28_code 5 = .ok (.baload, 1) := by decide +kernel
theorem d_C_requireOpen_6 : decode prog_1_method_28_code 6 = .ok (.ifCond .ne 13, 3) := by decide +kernel
theorem d_C_requireOpen_9 : decode prog_1_method_28_code 9 = .ok (.new 93, 3) := by decide +kernel
theorem d_C_requireOpen_12 : decode prog_1_method_28_code 12 = .ok (.dup, 1) := by decide +kernel
theorem d_C_requireOpen_13 : decode prog_1_method_28_code 13 = .ok (.ldc 241, 2) := by decide +kernel
theorem d_C_requireOpen_15 : decode prog_1_method_28_code 15 = .ok (.invokespecial 97, 3) := by decide +kernel
theorem d_C_requireOpen_18 : decode prog_1_method_28_code 18 = .ok (.athrow, 1) := by decide +kernel
theorem d_C_requireOpen_19 : decode prog_1_method_28_code 19 = .ok (.return_, 1) := by decide +kernel
theorem d_C_place_0 : decode prog_1_method_7_code 0 = .ok (.aload_n 0, 1) := by decide +kernel
theorem d_C_place_1 : decode prog_1_method_7_code 1 = .ok (.iload_n 1, 1) := by decide +kernel
theorem d_C_place_2 : decode prog_1_method_7_code 2 = .ok (.invokevirtual 122, 3) := by decide +kernel
theorem d_C_place_5 : decode prog_1_method_7_code 5 = .ok (.iload_n 2, 1) := by decide +kernel
theorem d_C_place_6 : decode prog_1_method_7_code 6 = .ok (.iconst (-1), 1) := by decide +kernel
theorem d_C_place_7 : decode prog_1_method_7_code 7 = .ok (.if_icmp .eq 8, 3) := by decide +kernel
theorem d_C_place_10 : decode prog_1_method_7_code 10 = .ok (.aload_n 0, 1) := by decide +kernel
theorem d_C_place_11 : decode prog_1_method_7_code 11 = .ok (.iload_n 2, 1) := by decide +kernel
theorem d_C_place_12 : decode prog_1_method_7_code 12 = .ok (.invokevirtual 114, 3) := by decide +kernel
theorem d_C_place_15 : decode prog_1_method_7_code 15 = .ok (.aload_n 0, 1) := by decide +kernel
theorem d_C_place_16 : decode prog_1_method_7_code 16 = .ok (.getfield 32, 3) := by decide +kernel
theorem d_C_place_19 : decode prog_1_method_7_code 19 = .ok (.iload_n 1, 1) := by decide +kernel
theorem d_C_place_20 : decode prog_1_method_7_code 20 = .ok (.iaload, 1) := by decide +kernel
theorem d_C_place_21 : decode prog_1_method_7_code 21 = .ok (.iload_n 2, 1) := by decide +kernel
theorem d_C_place_22 : decode prog_1_method_7_code 22 = .ok (.if_icmp .ne 13, 3) := by decide +kernel
theorem d_C_place_25 : decode prog_1_method_7_code 25 = .ok (.new 93, 3) := by decide +kernel
theorem d_C_place_28 : decode prog_1_method_7_code 28 = .ok (.dup, 1) := by decide +kernel
theorem d_C_place_29 : decode prog_1_method_7_code 29 = .ok (.ldc 125, 2) := by decide +kernel
theorem d_C_place_31 : decode prog_1_method_7_code 31 = .ok (.invokespecial 97, 3) := by decide +kernel
theorem d_C_place_34 : decode prog_1_method_7_code 34 = .ok (.athrow, 1) := by decide +kernel
theorem d_C_place_35 : decode prog_1_method_7_code 35 = .ok (.iload_n 2, 1) := by decide +kernel
theorem d_C_place_36 : decode prog_1_method_7_code 36 = .ok (.iconst (-1), 1) := by decide +kernel
theorem d_C_place_37 : decode prog_1_method_7_code 37 = .ok (.if_icmp .eq 8, 3) := by decide +kernel
theorem d_C_place_40 : decode prog_1_method_7_code 40 = .ok (.aload_n 0, 1) := by decide +kernel
theorem d_C_place_41 : decode prog_1_method_7_code 41 = .ok (.iload_n 2, 1) := by decide +kernel
theorem d_C_place_42 : decode prog_1_method_7_code 42 = .ok (.invokevirtual 119, 3) := by decide +kernel
theorem d_C_place_45 : decode prog_1_method_7_code 45 = .ok (.aload_n 0, 1) := by decide +kernel
theorem d_C_place_46 : decode prog_1_method_7_code 46 = .ok (.getfield 32, 3) := by decide +kernel
theorem d_C_place_49 : decode prog_1_method_7_code 49 = .ok (.iload_n 1, 1) := by decide +kernel
theorem d_C_place_50 : decode prog_1_method_7_code 50 = .ok (.iload_n 2, 1) := by decide +kernel
theorem d_C_place_51 : decode prog_1_method_7_code 51 = .ok (.iastore, 1) := by decide +kernel
theorem d_C_place_52 : decode prog_1_method_7_code 52 = .ok (.return_, 1) := by decide +kernel
theorem d_C_requireUnit_0 : decode prog_1_method_24_code 0 = .ok (.iload_n 1, 1) := by decide +kernel
theorem d_C_requireUnit_1 : decode prog_1_method_24_code 1 = .ok (.ifCond .lt 11, 3) := by decide +kernel
theorem d_C_requireUnit_4 : decode prog_1_method_24_code 4 = .ok (.iload_n 1, 1) := by decide +kernel
theorem d_C_requireUnit_5 : decode prog_1_method_24_code 5 = .ok (.aload_n 0, 1) := by decide +kernel
theorem d_C_requireUnit_6 : decode prog_1_method_24_code 6 = .ok (.getfield 80, 3) := by decide +kernel
theorem d_C_requireUnit_9 : decode prog_1_method_24_code 9 = .ok (.if_icmp .lt 13, 3) := by decide +kernel
theorem d_C_requireUnit_12 : decode prog_1_method_24_code 12 = .ok (.new 212, 3) := by decide +kernel
theorem d_C_requireUnit_15 : decode prog_1_method_24_code 15 = .ok (.dup, 1) := by decide +kernel
theorem d_C_requireUnit_16 : decode prog_1_method_24_code 16 = .ok (.ldc 230, 2) := by decide +kernel
theorem d_C_requireUnit_18 : decode prog_1_method_24_code 18 = .ok (.invokespecial 216, 3) := by decide +kernel
theorem d_C_requireUnit_21 : decode prog_1_method_24_code 21 = .ok (.athrow, 1) := by decide +kernel
theorem d_C_requireUnit_22 : decode prog_1_method_24_code 22 = .ok (.return_, 1) := by decide +kernel
theorem d_C_split_0 : decode prog_1_method_8_code 0 = .ok (.aload_n 0, 1) := by decide +kernel
theorem d_C_split_1 : decode prog_1_method_8_code 1 = .ok (.iload_n 1, 1) := by decide +kernel
theorem d_C_split_2 : decode prog_1_method_8_code 2 = .ok (.invokevirtual 114, 3) := by decide +kernel
theorem d_C_split_5 : decode prog_1_method_8_code 5 = .ok (.aload_n 0, 1) := by decide +kernel
theorem d_C_split_6 : decode prog_1_method_8_code 6 = .ok (.iload_n 1, 1) := by decide +kernel
theorem d_C_split_7 : decode prog_1_method_8_code 7 = .ok (.invokevirtual 119, 3) := by decide +kernel
theorem d_C_split_10 : decode prog_1_method_8_code 10 = .ok (.aload_n 0, 1) := by decide +kernel
theorem d_C_split_11 : decode prog_1_method_8_code 11 = .ok (.getfield 48, 3) := by decide +kernel
theorem d_C_split_14 : decode prog_1_method_8_code 14 = .ok (.bipush 20, 2) := by decide +kernel
theorem d_C_split_16 : decode prog_1_method_8_code 16 = .ok (.if_icmp .lt 13, 3) := by decide +kernel
theorem d_C_split_19 : decode prog_1_method_8_code 19 = .ok (.new 75, 3) := by decide +kernel
theorem d_C_split_22 : decode prog_1_method_8_code 22 = .ok (.dup, 1) := by decide +kernel
theorem d_C_split_23 : decode prog_1_method_8_code 23 = .ok (.ldc 127, 2) := by decide +kernel
theorem d_C_split_25 : decode prog_1_method_8_code 25 = .ok (.invokespecial 79, 3) := by decide +kernel
theorem d_C_split_28 : decode prog_1_method_8_code 28 = .ok (.athrow, 1) := by decide +kernel
theorem d_C_split_29 : decode prog_1_method_8_code 29 = .ok (.aload_n 0, 1) := by decide +kernel
theorem d_C_split_30 : decode prog_1_method_8_code 30 = .ok (.getfield 48, 3) := by decide +kernel
theorem d_C_split_33 : decode prog_1_method_8_code 33 = .ok (.istore_n 2, 1) := by decide +kernel
theorem d_C_split_34 : decode prog_1_method_8_code 34 = .ok (.aload_n 0, 1) := by decide +kernel
theorem d_C_split_35 : decode prog_1_method_8_code 35 = .ok (.getfield 35, 3) := by decide +kernel
theorem d_C_split_38 : decode prog_1_method_8_code 38 = .ok (.iload_n 2, 1) := by decide +kernel
theorem d_C_split_39 : decode prog_1_method_8_code 39 = .ok (.iconst 1, 1) := by decide +kernel
theorem d_C_split_40 : decode prog_1_method_8_code 40 = .ok (.bastore, 1) := by decide +kernel
theorem d_C_split_41 : decode prog_1_method_8_code 41 = .ok (.aload_n 0, 1) := by decide +kernel
theorem d_C_split_42 : decode prog_1_method_8_code 42 = .ok (.getfield 39, 3) := by decide +kernel
theorem d_C_split_45 : decode prog_1_method_8_code 45 = .ok (.iload_n 2, 1) := by decide +kernel
theorem d_C_split_46 : decode prog_1_method_8_code 46 = .ok (.iload_n 1, 1) := by decide +kernel
theorem d_C_split_47 : decode prog_1_method_8_code 47 = .ok (.iastore, 1) := by decide +kernel
theorem d_C_split_48 : decode prog_1_method_8_code 48 = .ok (.aload_n 0, 1) := by decide +kernel
theorem d_C_split_49 : decode prog_1_method_8_code 49 = .ok (.dup, 1) := by decide +kernel
theorem d_C_split_50 : decode prog_1_method_8_code 50 = .ok (.getfield 48, 3) := by decide +kernel
theorem d_C_split_53 : decode prog_1_method_8_code 53 = .ok (.iconst 1, 1) := by decide +kernel
theorem d_C_split_54 : decode prog_1_method_8_code 54 = .ok (.iadd, 1) := by decide +kernel
theorem d_C_split_55 : decode prog_1_method_8_code 55 = .ok (.putfield 48, 3) := by decide +kernel
theorem d_C_split_58 : decode prog_1_method_8_code 58 = .ok (.iload_n 2, 1) := by decide +kernel
theorem d_C_split_59 : decode prog_1_method_8_code 59 = .ok (.ireturn, 1) := by decide +kernel
theorem d_C_join_0 : decode prog_1_method_9_code 0 = .ok (.aload_n 0, 1) := by decide +kernel
theorem d_C_join_1 : decode prog_1_method_9_code 1 = .ok (.iload_n 1, 1) := by decide +kernel
theorem d_C_join_2 : decode prog_1_method_9_code 2 = .ok (.invokevirtual 114, 3) := by decide +kernel
theorem d_C_join_5 : decode prog_1_method_9_code 5 = .ok (.aload_n 0, 1) := by decide +kernel
theorem d_C_join_6 : decode prog_1_method_9_code 6 = .ok (.iload_n 2, 1) := by decide +kernel
theorem d_C_join_7 : decode prog_1_method_9_code 7 = .ok (.invokevirtual 114, 3) := by decide +kernel
theorem d_C_join_10 : decode prog_1_method_9_code 10 = .ok (.aload_n 0, 1) := by decide +kernel
theorem d_C_join_11 : decode prog_1_method_9_code 11 = .ok (.iload_n 1, 1) := by decide +kernel
theorem d_C_join_12 : decode prog_1_method_9_code 12 = .ok (.invokevirtual 119, 3) := by decide +kernel
theorem d_C_join_15 : decode prog_1_method_9_code 15 = .ok (.aload_n 0, 1) := by decide +kernel
theorem d_C_join_16 : decode prog_1_method_9_code 16 = .ok (.iload_n 2, 1) := by decide +kernel
theorem d_C_join_17 : decode prog_1_method_9_code 17 = .ok (.invokevirtual 119, 3) := by decide +kernel
theorem d_C_join_20 : decode prog_1_method_9_code 20 = .ok (.iload_n 1, 1) := by decide +kernel
theorem d_C_join_21 : decode prog_1_method_9_code 21 = .ok (.ifCond .ne 13, 3) := by decide +kernel
theorem d_C_join_24 : decode prog_1_method_9_code 24 = .ok (.new 93, 3) := by decide +kernel
theorem d_C_join_27 : decode prog_1_method_9_code 27 = .ok (.dup, 1) := by decide +kernel
theorem d_C_join_28 : decode prog_1_method_9_code 28 = .ok (.ldc 129, 2) := by decide +kernel
theorem d_C_join_30 : decode prog_1_method_9_code 30 = .ok (.invokespecial 97, 3) := by decide +kernel
theorem d_C_join_33 : decode prog_1_method_9_code 33 = .ok (.athrow, 1) := by decide +kernel
theorem d_C_join_34 : decode prog_1_method_9_code 34 = .ok (.aload_n 0, 1) := by decide +kernel
theorem d_C_join_35 : decode prog_1_method_9_code 35 = .ok (.iload_n 2, 1) := by decide +kernel
theorem d_C_join_36 : decode prog_1_method_9_code 36 = .ok (.iload_n 1, 1) := by decide +kernel
theorem d_C_join_37 : decode prog_1_method_9_code 37 = .ok (.invokevirtual 131, 3) := by decide +kernel
theorem d_C_join_40 : decode prog_1_method_9_code 40 = .ok (.ifCond .eq 13, 3) := by decide +kernel
theorem d_C_join_43 : decode prog_1_method_9_code 43 = .ok (.new 93, 3) := by decide +kernel
theorem d_C_join_46 : decode prog_1_method_9_code 46 = .ok (.dup, 1) := by decide +kernel
theorem d_C_join_47 : decode prog_1_method_9_code 47 = .ok (.ldc 135, 2) := by decide +kernel
theorem d_C_join_49 : decode prog_1_method_9_code 49 = .ok (.invokespecial 97, 3) := by decide +kernel
theorem d_C_join_52 : decode prog_1_method_9_code 52 = .ok (.athrow, 1) := by decide +kernel
theorem d_C_join_53 : decode prog_1_method_9_code 53 = .ok (.aload_n 0, 1) := by decide +kernel
theorem d_C_join_54 : decode prog_1_method_9_code 54 = .ok (.iload_n 1, 1) := by decide +kernel
theorem d_C_join_55 : decode prog_1_method_9_code 55 = .ok (.iconst (-1), 1) := by decide +kernel
theorem d_C_join_56 : decode prog_1_method_9_code 56 = .ok (.invokevirtual 137, 3) := by decide +kernel
theorem d_C_join_59 : decode prog_1_method_9_code 59 = .ok (.aload_n 0, 1) := by decide +kernel
theorem d_C_join_60 : decode prog_1_method_9_code 60 = .ok (.getfield 35, 3) := by decide +kernel
theorem d_C_join_63 : decode prog_1_method_9_code 63 = .ok (.iload_n 1, 1) := by decide +kernel
theorem d_C_join_64 : decode prog_1_method_9_code 64 = .ok (.iconst 0, 1) := by decide +kernel
theorem d_C_join_65 : decode prog_1_method_9_code 65 = .ok (.bastore, 1) := by decide +kernel
theorem d_C_join_66 : decode prog_1_method_9_code 66 = .ok (.aload_n 0, 1) := by decide +kernel
theorem d_C_join_67 : decode prog_1_method_9_code 67 = .ok (.getfield 20, 3) := by decide +kernel
theorem d_C_join_70 : decode prog_1_method_9_code 70 = .ok (.aload_n 0, 1) := by decide +kernel
theorem d_C_join_71 : decode prog_1_method_9_code 71 = .ok (.getfield 72, 3) := by decide +kernel
theorem d_C_join_74 : decode prog_1_method_9_code 74 = .ok (.iload_n 1, 1) := by decide +kernel
theorem d_C_join_75 : decode prog_1_method_9_code 75 = .ok (.iload_n 2, 1) := by decide +kernel
theorem d_C_join_76 : decode prog_1_method_9_code 76 = .ok (.invokestatic 140, 3) := by decide +kernel
theorem d_C_join_79 : decode prog_1_method_9_code 79 = .ok (.aload_n 0, 1) := by decide +kernel
theorem d_C_join_80 : decode prog_1_method_9_code 80 = .ok (.getfield 32, 3) := by decide +kernel
theorem d_C_join_83 : decode prog_1_method_9_code 83 = .ok (.aload_n 0, 1) := by decide +kernel
theorem d_C_join_84 : decode prog_1_method_9_code 84 = .ok (.getfield 80, 3) := by decide +kernel
theorem d_C_join_87 : decode prog_1_method_9_code 87 = .ok (.iload_n 1, 1) := by decide +kernel
theorem d_C_join_88 : decode prog_1_method_9_code 88 = .ok (.iload_n 2, 1) := by decide +kernel
theorem d_C_join_89 : decode prog_1_method_9_code 89 = .ok (.invokestatic 140, 3) := by decide +kernel
theorem d_C_join_92 : decode prog_1_method_9_code 92 = .ok (.aload_n 0, 1) := by decide +kernel
theorem d_C_join_93 : decode prog_1_method_9_code 93 = .ok (.iload_n 1, 1) := by decide +kernel
theorem d_C_join_94 : decode prog_1_method_9_code 94 = .ok (.iload_n 2, 1) := by decide +kernel
theorem d_C_join_95 : decode prog_1_method_9_code 95 = .ok (.invokevirtual 144, 3) := by decide +kernel
theorem d_C_join_98 : decode prog_1_method_9_code 98 = .ok (.aload_n 0, 1) := by decide +kernel
theorem d_C_join_99 : decode prog_1_method_9_code 99 = .ok (.getfield 54, 3) := by decide +kernel
theorem d_C_join_102 : decode prog_1_method_9_code 102 = .ok (.iload_n 1, 1) := by decide +kernel
theorem d_C_join_103 : decode prog_1_method_9_code 103 = .ok (.iload_n 2, 1) := by decide +kernel
theorem d_C_join_104 : decode prog_1_method_9_code 104 = .ok (.invokevirtual 147, 3) := by decide +kernel
theorem d_C_join_107 : decode prog_1_method_9_code 107 = .ok (.aload_n 0, 1) := by decide +kernel
theorem d_C_join_108 : decode prog_1_method_9_code 108 = .ok (.getfield 42, 3) := by decide +kernel
theorem d_C_join_111 : decode prog_1_method_9_code 111 = .ok (.iload_n 2, 1) := by decide +kernel
theorem d_C_join_112 : decode prog_1_method_9_code 112 = .ok (.iaload, 1) := by decide +kernel
theorem d_C_join_113 : decode prog_1_method_9_code 113 = .ok (.iconst (-1), 1) := by decide +kernel
theorem d_C_join_114 : decode prog_1_method_9_code 114 = .ok (.if_icmp .ne 13, 3) := by decide +kernel
theorem d_C_join_117 : decode prog_1_method_9_code 117 = .ok (.aload_n 0, 1) := by decide +kernel
theorem d_C_join_118 : decode prog_1_method_9_code 118 = .ok (.iload_n 2, 1) := by decide +kernel
theorem d_C_join_119 : decode prog_1_method_9_code 119 = .ok (.aload_n 0, 1) := by decide +kernel
theorem d_C_join_120 : decode prog_1_method_9_code 120 = .ok (.iload_n 2, 1) := by decide +kernel
theorem d_C_join_121 : decode prog_1_method_9_code 121 = .ok (.invokevirtual 150, 3) := by decide +kernel
theorem d_C_join_124 : decode prog_1_method_9_code 124 = .ok (.invokevirtual 137, 3) := by decide +kernel
theorem d_C_join_127 : decode prog_1_method_9_code 127 = .ok (.return_, 1) := by decide +kernel
theorem d_C_isSameOrBelow_0 : decode prog_1_method_36_code 0 = .ok (.iload_n 1, 1) := by decide +kernel
theorem d_C_isSameOrBelow_1 : decode prog_1_method_36_code 1 = .ok (.istore_n 3, 1) := by decide +kernel
theorem d_C_isSameOrBelow_2 : decode prog_1_method_36_code 2 = .ok (.iconst 0, 1) := by decide +kernel
theorem d_C_isSameOrBelow_3 : decode prog_1_method_36_code 3 = .ok (.istore 4, 2) := by decide +kernel
theorem d_C_isSameOrBelow_5 : decode prog_1_method_36_code 5 = .ok (.iload 4, 2) := by decide +kernel
theorem d_C_isSameOrBelow_7 : decode prog_1_method_36_code 7 = .ok (.bipush 20, 2) := by decide +kernel
theorem d_C_isSameOrBelow_9 : decode prog_1_method_36_code 9 = .ok (.if_icmp .ge 27, 3) := by decide +kernel
theorem d_C_isSameOrBelow_12 : decode prog_1_method_36_code 12 = .ok (.iload_n 3, 1) := by decide +kernel
theorem d_C_isSameOrBelow_13 : decode prog_1_method_36_code 13 = .ok (.ifCond .lt 23, 3) := by decide +kernel
theorem d_C_isSameOrBelow_16 : decode prog_1_method_36_code 16 = .ok (.iload_n 3, 1) := by decide +kernel
theorem d_C_isSameOrBelow_17 : decode prog_1_method_36_code 17 = .ok (.iload_n 2, 1) := by decide +kernel
theorem d_C_isSameOrBelow_18 : decode prog_1_method_36_code 18 = .ok (.if_icmp .ne 5, 3) := by decide +kernel
theorem d_C_isSameOrBelow_21 : decode prog_1_method_36_code 21 = .ok (.iconst 1, 1) := by decide +kernel
theorem d_C_isSameOrBelow_22 : decode prog_1_method_36_code 22 = .ok (.ireturn, 1) := by decide +kernel
theorem d_C_isSameOrBelow_23 : decode prog_1_method_36_code 23 = .ok (.aload_n 0, 1) := by decide +kernel
theorem d_C_isSameOrBelow_24 : decode prog_1_method_36_code 24 = .ok (.getfield 39, 3) := by decide +kernel
theorem d_C_isSameOrBelow_27 : decode prog_1_method_36_code 27 = .ok (.iload_n 3, 1) := by decide +kernel
theorem d_C_isSameOrBelow_28 : decode prog_1_method_36_code 28 = .ok (.iaload, 1) := by decide +kernel
theorem d_C_isSameOrBelow_29 : decode prog_1_method_36_code 29 = .ok (.istore_n 3, 1) := by decide +kernel
theorem d_C_isSameOrBelow_30 : decode prog_1_method_36_code 30 = .ok (.iinc 4 1, 3) := by decide +kernel
theorem d_C_isSameOrBelow_33 : decode prog_1_method_36_code 33 = .ok (.goto (-28), 3) := by decide +kernel
theorem d_C_isSameOrBelow_36 : decode prog_1_method_36_code 36 = .ok (.iconst 0, 1) := by decide +kernel
theorem d_C_isSameOrBelow_37 : decode prog_1_method_36_code 37 = .ok (.ireturn, 1) := by decide +kernel
theorem d_C_moveSectorsBelow_0 : decode prog_1_method_37_code 0 = .ok (.iconst 0, 1) := by decide +kernel
theorem d_C_moveSectorsBelow_1 : decode prog_1_method_37_code 1 = .ok (.istore_n 3, 1) := by decide +kernel
theorem d_C_moveSectorsBelow_2 : decode prog_1_method_37_code 2 = .ok (.iload_n 3, 1) := by decide +kernel
theorem d_C_moveSectorsBelow_3 : decode prog_1_method_37_code 3 = .ok (.aload_n 0, 1) := by decide +kernel
theorem d_C_moveSectorsBelow_4 : decode prog_1_method_37_code 4 = .ok (.getfield 48, 3) := by decide +kernel
theorem d_C_moveSectorsBelow_7 : decode prog_1_method_37_code 7 = .ok (.if_icmp .ge 35, 3) := by decide +kernel
theorem d_C_moveSectorsBelow_10 : decode prog_1_method_37_code 10 = .ok (.aload_n 0, 1) := by decide +kernel
theorem d_C_moveSectorsBelow_11 : decode prog_1_method_37_code 11 = .ok (.getfield 35, 3) := by decide +kernel
theorem d_C_moveSectorsBelow_14 : decode prog_1_method_37_code 14 = .ok (.iload_n 3, 1) := by decide +kernel
theorem d_C_moveSectorsBelow_15 : decode prog_1_method_37_code 15 = .ok (.baload, 1) := by decide +kernel
theorem d_C_moveSectorsBelow_16 : decode prog_1_method_37_code 16 = .ok (.ifCond .eq 20, 3) := by decide +kernel
theorem d_C_moveSectorsBelow_19 : decode prog_1_method_37_code 19 = .ok (.aload_n 0, 1) := by decide +kernel
theorem d_C_moveSectorsBelow_20 : decode prog_1_method_37_code 20 = .ok (.getfield 39, 3) := by decide +kernel
theorem d_C_moveSectorsBelow_23 : decode prog_1_method_37_code 23 = .ok (.iload_n 3, 1) := by decide +kernel
theorem d_C_moveSectorsBelow_24 : decode prog_1_method_37_code 24 = .ok (.iaload, 1) := by decide +kernel
theorem d_C_moveSectorsBelow_25 : decode prog_1_method_37_code 25 = .ok (.iload_n 1, 1) := by decide +kernel
theorem d_C_moveSectorsBelow_26 : decode prog_1_method_37_code 26 = .ok (.if_icmp .ne 10, 3) := by decide +kernel
theorem d_C_moveSectorsBelow_29 : decode prog_1_method_37_code 29 = .ok (.aload_n 0, 1) := by decide +kernel
theorem d_C_moveSectorsBelow_30 : decode prog_1_method_37_code 30 = .ok (.getfield 39, 3) := by decide +kernel
theorem d_C_moveSectorsBelow_33 : decode prog_1_method_37_code 33 = .ok (.iload_n 3, 1) := by decide +kernel
theorem d_C_moveSectorsBelow_34 : decode prog_1_method_37_code 34 = .ok (.iload_n 2, 1) := by decide +kernel
theorem d_C_moveSectorsBelow_35 : decode prog_1_method_37_code 35 = .ok (.iastore, 1) := by decide +kernel
theorem d_C_moveSectorsBelow_36 : decode prog_1_method_37_code 36 = .ok (.iinc 3 1, 3) := by decide +kernel
theorem d_C_moveSectorsBelow_39 : decode prog_1_method_37_code 39 = .ok (.goto (-37), 3) := by decide +kernel
theorem d_C_moveSectorsBelow_42 : decode prog_1_method_37_code 42 = .ok (.return_, 1) := by decide +kernel
theorem d_C_offer_0 : decode prog_1_method_10_code 0 = .ok (.aload_n 0, 1) := by decide +kernel
theorem d_C_offer_1 : decode prog_1_method_10_code 1 = .ok (.iload_n 1, 1) := by decide +kernel
theorem d_C_offer_2 : decode prog_1_method_10_code 2 = .ok (.invokevirtual 114, 3) := by decide +kernel
theorem d_C_offer_5 : decode prog_1_method_10_code 5 = .ok (.aload_n 0, 1) := by decide +kernel
theorem d_C_offer_6 : decode prog_1_method_10_code 6 = .ok (.iload_n 2, 1) := by decide +kernel
theorem d_C_offer_7 : decode prog_1_method_10_code 7 = .ok (.invokevirtual 85, 3) := by decide +kernel
theorem d_C_offer_10 : decode prog_1_method_10_code 10 = .ok (.aload_n 0, 1) := by decide +kernel
theorem d_C_offer_11 : decode prog_1_method_10_code 11 = .ok (.iload_n 1, 1) := by decide +kernel
theorem d_C_offer_12 : decode prog_1_method_10_code 12 = .ok (.invokevirtual 119, 3) := by decide +kernel
theorem d_C_offer_15 : decode prog_1_method_10_code 15 = .ok (.aload_n 0, 1) := by decide +kernel
theorem d_C_offer_16 : decode prog_1_method_10_code 16 = .ok (.getfield 42, 3) := by decide +kernel
theorem d_C_offer_19 : decode prog_1_method_10_code 19 = .ok (.iload_n 1, 1) := by decide +kernel
theorem d_C_offer_20 : decode prog_1_method_10_code 20 = .ok (.iaload, 1) := by decide +kernel
theorem d_C_offer_21 : decode prog_1_method_10_code 21 = .ok (.iconst (-1), 1) := by decide +kernel
theorem d_C_offer_22 : decode prog_1_method_10_code 22 = .ok (.if_icmp .ne 13, 3) := by decide +kernel
theorem d_C_offer_25 : decode prog_1_method_10_code 25 = .ok (.new 93, 3) := by decide +kernel
theorem d_C_offer_28 : decode prog_1_method_10_code 28 = .ok (.dup, 1) := by decide +kernel
theorem d_C_offer_29 : decode prog_1_method_10_code 29 = .ok (.ldc 154, 2) := by decide +kernel
theorem d_C_offer_31 : decode prog_1_method_10_code 31 = .ok (.invokespecial 97, 3) := by decide +kernel
theorem d_C_offer_34 : decode prog_1_method_10_code 34 = .ok (.athrow, 1) := by decide +kernel
theorem d_C_offer_35 : decode prog_1_method_10_code 35 = .ok (.aload_n 0, 1) := by decide +kernel
theorem d_C_offer_36 : decode prog_1_method_10_code 36 = .ok (.iload_n 2, 1) := by decide +kernel
theorem d_C_offer_37 : decode prog_1_method_10_code 37 = .ok (.invokevirtual 105, 3) := by decide +kernel
theorem d_C_offer_40 : decode prog_1_method_10_code 40 = .ok (.aload_n 0, 1) := by decide +kernel
theorem d_C_offer_41 : decode prog_1_method_10_code 41 = .ok (.getfield 23, 3) := by decide +kernel
theorem d_C_offer_44 : decode prog_1_method_10_code 44 = .ok (.iload_n 2, 1) := by decide +kernel
theorem d_C_offer_45 : decode prog_1_method_10_code 45 = .ok (.iaload, 1) := by decide +kernel
theorem d_C_offer_46 : decode prog_1_method_10_code 46 = .ok (.iconst (-1), 1) := by decide +kernel
theorem d_C_offer_47 : decode prog_1_method_10_code 47 = .ok (.if_icmp .eq 13, 3) := by decide +kernel
theorem d_C_offer_50 : decode prog_1_method_10_code 50 = .ok (.new 93, 3) := by decide +kernel
theorem d_C_offer_53 : decode prog_1_method_10_code 53 = .ok (.dup, 1) := by decide +kernel
theorem d_C_offer_54 : decode prog_1_method_10_code 54 = .ok (.ldc 156, 2) := by decide +kernel
theorem d_C_offer_56 : decode prog_1_method_10_code 56 = .ok (.invokespecial 97, 3) := by decide +kernel
theorem d_C_offer_59 : decode prog_1_method_10_code 59 = .ok (.athrow, 1) := by decide +kernel
theorem d_C_offer_60 : decode prog_1_method_10_code 60 = .ok (.aload_n 0, 1) := by decide +kernel
theorem d_C_offer_61 : decode prog_1_method_10_code 61 = .ok (.getfield 45, 3) := by decide +kernel
theorem d_C_offer_64 : decode prog_1_method_10_code 64 = .ok (.iload_n 1, 1) := by decide +kernel
theorem d_C_offer_65 : decode prog_1_method_10_code 65 = .ok (.iload_n 2, 1) := by decide +kernel
theorem d_C_offer_66 : decode prog_1_method_10_code 66 = .ok (.iastore, 1) := by decide +kernel
theorem d_C_offer_67 : decode prog_1_method_10_code 67 = .ok (.return_, 1) := by decide +kernel
theorem d_C_take_0 : decode prog_1_method_11_code 0 = .ok (.aload_n 0, 1) := by decide +kernel
theorem d_C_take_1 : decode prog_1_method_11_code 1 = .ok (.iload_n 1, 1) := by decide +kernel
theorem d_C_take_2 : decode prog_1_method_11_code 2 = .ok (.invokevirtual 114, 3) := by decide +kernel
theorem d_C_take_5 : decode prog_1_method_11_code 5 = .ok (.aload_n 0, 1) := by decide +kernel
theorem d_C_take_6 : decode prog_1_method_11_code 6 = .ok (.iload_n 2, 1) := by decide +kernel
theorem d_C_take_7 : decode prog_1_method_11_code 7 = .ok (.invokevirtual 85, 3) := by decide +kernel
theorem d_C_take_10 : decode prog_1_method_11_code 10 = .ok (.aload_n 0, 1) := by decide +kernel
theorem d_C_take_11 : decode prog_1_method_11_code 11 = .ok (.getfield 45, 3) := by decide +kernel
theorem d_C_take_14 : decode prog_1_method_11_code 14 = .ok (.iload_n 1, 1) := by decide +kernel
theorem d_C_take_15 : decode prog_1_method_11_code 15 = .ok (.iaload, 1) := by decide +kernel
theorem d_C_take_16 : decode prog_1_method_11_code 16 = .ok (.iload_n 2, 1) := by decide +kernel
theorem d_C_take_17 : decode prog_1_method_11_code 17 = .ok (.if_icmp .eq 13, 3) := by decide +kernel
theorem d_C_take_20 : decode prog_1_method_11_code 20 = .ok (.new 93, 3) := by decide +kernel
theorem d_C_take_23 : decode prog_1_method_11_code 23 = .ok (.dup, 1) := by decide +kernel
theorem d_C_take_24 : decode prog_1_method_11_code 24 = .ok (.ldc 158, 2) := by decide +kernel
theorem d_C_take_26 : decode prog_1_method_11_code 26 = .ok (.invokespecial 97, 3) := by decide +kernel
theorem d_C_take_29 : decode prog_1_method_11_code 29 = .ok (.athrow, 1) := by decide +kernel
theorem d_C_take_30 : decode prog_1_method_11_code 30 = .ok (.aload_n 0, 1) := by decide +kernel
theorem d_C_take_31 : decode prog_1_method_11_code 31 = .ok (.getfield 20, 3) := by decide +kernel
theorem d_C_take_34 : decode prog_1_method_11_code 34 = .ok (.iload_n 2, 1) := by decide +kernel
theorem d_C_take_35 : decode prog_1_method_11_code 35 = .ok (.iload_n 1, 1) := by decide +kernel
theorem d_C_take_36 : decode prog_1_method_11_code 36 = .ok (.iastore, 1) := by decide +kernel
theorem d_C_take_37 : decode prog_1_method_11_code 37 = .ok (.aload_n 0, 1) := by decide +kernel
theorem d_C_take_38 : decode prog_1_method_11_code 38 = .ok (.iload_n 1, 1) := by decide +kernel
theorem d_C_take_39 : decode prog_1_method_11_code 39 = .ok (.iload_n 2, 1) := by decide +kernel
theorem d_C_take_40 : decode prog_1_method_11_code 40 = .ok (.invokevirtual 137, 3) := by decide +kernel
theorem d_C_take_43 : decode prog_1_method_11_code 43 = .ok (.return_, 1) := by decide +kernel
theorem d_C_task_0 : decode prog_1_method_12_code 0 = .ok (.aload_n 0, 1) := by decide +kernel
theorem d_C_task_1 : decode prog_1_method_12_code 1 = .ok (.iload_n 1, 1) := by decide +kernel
theorem d_C_task_2 : decode prog_1_method_12_code 2 = .ok (.invokevirtual 114, 3) := by decide +kernel
theorem d_C_task_5 : decode prog_1_method_12_code 5 = .ok (.iload_n 2, 1) := by decide +kernel
theorem d_C_task_6 : decode prog_1_method_12_code 6 = .ok (.aload_n 0, 1) := by decide +kernel
theorem d_C_task_7 : decode prog_1_method_12_code 7 = .ok (.getfield 98, 3) := by decide +kernel
theorem d_C_task_10 : decode prog_1_method_12_code 10 = .ok (.if_icmp .lt 9, 3) := by decide +kernel
theorem d_C_task_13 : decode prog_1_method_12_code 13 = .ok (.iload_n 2, 1) := by decide +kernel
theorem d_C_task_14 : decode prog_1_method_12_code 14 = .ok (.ldc 160, 2) := by decide +kernel
theorem d_C_task_16 : decode prog_1_method_12_code 16 = .ok (.if_icmp .le 13, 3) := by decide +kernel
theorem d_C_task_19 : decode prog_1_method_12_code 19 = .ok (.new 65, 3) := by decide +kernel
theorem d_C_task_22 : decode prog_1_method_12_code 22 = .ok (.dup, 1) := by decide +kernel
theorem d_C_task_23 : decode prog_1_method_12_code 23 = .ok (.ldc 161, 2) := by decide +kernel
theorem d_C_task_25 : decode prog_1_method_12_code 25 = .ok (.invokespecial 69, 3) := by decide +kernel
theorem d_C_task_28 : decode prog_1_method_12_code 28 = .ok (.athrow, 1) := by decide +kernel
theorem d_C_task_29 : decode prog_1_method_12_code 29 = .ok (.aload_n 0, 1) := by decide +kernel
theorem d_C_task_30 : decode prog_1_method_12_code 30 = .ok (.iload_n 1, 1) := by decide +kernel
theorem d_C_task_31 : decode prog_1_method_12_code 31 = .ok (.invokevirtual 119, 3) := by decide +kernel
theorem d_C_task_34 : decode prog_1_method_12_code 34 = .ok (.aload_n 0, 1) := by decide +kernel
theorem d_C_task_35 : decode prog_1_method_12_code 35 = .ok (.getfield 54, 3) := by decide +kernel
theorem d_C_task_38 : decode prog_1_method_12_code 38 = .ok (.invokevirtual 163, 3) := by decide +kernel
theorem d_C_task_41 : decode prog_1_method_12_code 41 = .ok (.ifCond .eq 13, 3) := by decide +kernel
theorem d_C_task_44 : decode prog_1_method_12_code 44 = .ok (.new 75, 3) := by decide +kernel
theorem d_C_task_47 : decode prog_1_method_12_code 47 = .ok (.dup, 1) := by decide +kernel
theorem d_C_task_48 : decode prog_1_method_12_code 48 = .ok (.ldc 167, 2) := by decide +kernel
theorem d_C_task_50 : decode prog_1_method_12_code 50 = .ok (.invokespecial 79, 3) := by decide +kernel
theorem d_C_task_53 : decode prog_1_method_12_code 53 = .ok (.athrow, 1) := by decide +kernel
theorem d_C_task_54 : decode prog_1_method_12_code 54 = .ok (.aload_n 0, 1) := by decide +kernel
theorem d_C_task_55 : decode prog_1_method_12_code 55 = .ok (.getfield 54, 3) := by decide +kernel
theorem d_C_task_58 : decode prog_1_method_12_code 58 = .ok (.iload_n 1, 1) := by decide +kernel
theorem d_C_task_59 : decode prog_1_method_12_code 59 = .ok (.iload_n 2, 1) := by decide +kernel
theorem d_C_task_60 : decode prog_1_method_12_code 60 = .ok (.invokevirtual 169, 3) := by decide +kernel
theorem d_C_task_63 : decode prog_1_method_12_code 63 = .ok (.ireturn, 1) := by decide +kernel
theorem d_C_answer_0 : decode prog_1_method_13_code 0 = .ok (.aload_n 0, 1) := by decide +kernel
theorem d_C_answer_1 : decode prog_1_method_13_code 1 = .ok (.iload_n 1, 1) := by decide +kernel
theorem d_C_answer_2 : decode prog_1_method_13_code 2 = .ok (.invokevirtual 173, 3) := by decide +kernel
theorem d_C_answer_5 : decode prog_1_method_13_code 5 = .ok (.aload_n 0, 1) := by decide +kernel
theorem d_C_answer_6 : decode prog_1_method_13_code 6 = .ok (.getfield 54, 3) := by decide +kernel
theorem d_C_answer_9 : decode prog_1_method_13_code 9 = .ok (.iload_n 1, 1) := by decide +kernel
theorem d_C_answer_10 : decode prog_1_method_13_code 10 = .ok (.invokevirtual 176, 3) := by decide +kernel
theorem d_C_answer_13 : decode prog_1_method_13_code 13 = .ok (.ifCond .eq 13, 3) := by decide +kernel
theorem d_C_answer_16 : decode prog_1_method_13_code 16 = .ok (.new 93, 3) := by decide +kernel
theorem d_C_answer_19 : decode prog_1_method_13_code 19 = .ok (.dup, 1) := by decide +kernel
theorem d_C_answer_20 : decode prog_1_method_13_code 20 = .ok (.ldc 179, 2) := by decide +kernel
theorem d_C_answer_22 : decode prog_1_method_13_code 22 = .ok (.invokespecial 97, 3) := by decide +kernel
theorem d_C_answer_25 : decode prog_1_method_13_code 25 = .ok (.athrow, 1) := by decide +kernel
theorem d_C_answer_26 : decode prog_1_method_13_code 26 = .ok (.aload_n 0, 1) := by decide +kernel
theorem d_C_answer_27 : decode prog_1_method_13_code 27 = .ok (.getfield 54, 3) := by decide +kernel
theorem d_C_answer_30 : decode prog_1_method_13_code 30 = .ok (.iload_n 1, 1) := by decide +kernel
theorem d_C_answer_31 : decode prog_1_method_13_code 31 = .ok (.iload_n 2, 1) := by decide +kernel
theorem d_C_answer_32 : decode prog_1_method_13_code 32 = .ok (.aload_n 0, 1) := by decide +kernel
theorem d_C_answer_33 : decode prog_1_method_13_code 33 = .ok (.getfield 98, 3) := by decide +kernel
theorem d_C_answer_36 : decode prog_1_method_13_code 36 = .ok (.invokevirtual 181, 3) := by decide +kernel
theorem d_C_answer_39 : decode prog_1_method_13_code 39 = .ok (.return_, 1) := by decide +kernel
theorem d_C_requireTask_0 : decode prog_1_method_26_code 0 = .ok (.aload_n 0, 1) := by decide +kernel
theorem d_C_requireTask_1 : decode prog_1_method_26_code 1 = .ok (.getfield 54, 3) := by decide +kernel
theorem d_C_requireTask_4 : decode prog_1_method_26_code 4 = .ok (.iload_n 1, 1) := by decide +kernel
theorem d_C_requireTask_5 : decode prog_1_method_26_code 5 = .ok (.invokevirtual 234, 3) := by decide +kernel
theorem d_C_requireTask_8 : decode prog_1_method_26_code 8 = .ok (.ifCond .ne 13, 3) := by decide +kernel
theorem d_C_requireTask_11 : decode prog_1_method_26_code 11 = .ok (.new 212, 3) := by decide +kernel
theorem d_C_requireTask_14 : decode prog_1_method_26_code 14 = .ok (.dup, 1) := by decide +kernel
theorem d_C_requireTask_15 : decode prog_1_method_26_code 15 = .ok (.ldc 237, 2) := by decide +kernel
theorem d_C_requireTask_17 : decode prog_1_method_26_code 17 = .ok (.invokespecial 216, 3) := by decide +kernel
theorem d_C_requireTask_20 : decode prog_1_method_26_code 20 = .ok (.athrow, 1) := by decide +kernel
theorem d_C_requireTask_21 : decode prog_1_method_26_code 21 = .ok (.return_, 1) := by decide +kernel
theorem d_C_span_0 : decode prog_1_method_14_code 0 = .ok (.iload_n 1, 1) := by decide +kernel
theorem d_C_span_1 : decode prog_1_method_14_code 1 = .ok (.iconst 1, 1) := by decide +kernel
theorem d_C_span_2 : decode prog_1_method_14_code 2 = .ok (.if_icmp .lt 9, 3) := by decide +kernel
theorem d_C_span_5 : decode prog_1_method_14_code 5 = .ok (.iload_n 1, 1) := by decide +kernel
theorem d_C_span_6 : decode prog_1_method_14_code 6 = .ok (.bipush 20, 2) := by decide +kernel
theorem d_C_span_8 : decode prog_1_method_14_code 8 = .ok (.if_icmp .le 13, 3) := by decide +kernel
theorem d_C_span_11 : decode prog_1_method_14_code 11 = .ok (.new 65, 3) := by decide +kernel
theorem d_C_span_14 : decode prog_1_method_14_code 14 = .ok (.dup, 1) := by decide +kernel
theorem d_C_span_15 : decode prog_1_method_14_code 15 = .ok (.ldc 185, 2) := by decide +kernel
theorem d_C_span_17 : decode prog_1_method_14_code 17 = .ok (.invokespecial 69, 3) := by decide +kernel
theorem d_C_span_20 : decode prog_1_method_14_code 20 = .ok (.athrow, 1) := by decide +kernel
theorem d_C_span_21 : decode prog_1_method_14_code 21 = .ok (.aload_n 0, 1) := by decide +kernel
theorem d_C_span_22 : decode prog_1_method_14_code 22 = .ok (.iload_n 1, 1) := by decide +kernel
theorem d_C_span_23 : decode prog_1_method_14_code 23 = .ok (.putfield 9, 3) := by decide +kernel
theorem d_C_span_26 : decode prog_1_method_14_code 26 = .ok (.iconst 0, 1) := by decide +kernel
theorem d_C_span_27 : decode prog_1_method_14_code 27 = .ok (.istore_n 2, 1) := by decide +kernel
theorem d_C_span_28 : decode prog_1_method_14_code 28 = .ok (.iconst 0, 1) := by decide +kernel
theorem d_C_span_29 : decode prog_1_method_14_code 29 = .ok (.istore_n 3, 1) := by decide +kernel
theorem d_C_span_30 : decode prog_1_method_14_code 30 = .ok (.iload_n 3, 1) := by decide +kernel
theorem d_C_span_31 : decode prog_1_method_14_code 31 = .ok (.aload_n 0, 1) := by decide +kernel
theorem d_C_span_32 : decode prog_1_method_14_code 32 = .ok (.getfield 48, 3) := by decide +kernel
theorem d_C_span_35 : decode prog_1_method_14_code 35 = .ok (.if_icmp .ge 20, 3) := by decide +kernel
theorem d_C_span_38 : decode prog_1_method_14_code 38 = .ok (.aload_n 0, 1) := by decide +kernel
theorem d_C_span_39 : decode prog_1_method_14_code 39 = .ok (.iload_n 3, 1) := by decide +kernel
theorem d_C_span_40 : decode prog_1_method_14_code 40 = .ok (.invokevirtual 187, 3) := by decide +kernel
theorem d_C_span_43 : decode prog_1_method_14_code 43 = .ok (.ifCond .eq 6, 3) := by decide +kernel
theorem d_C_span_46 : decode prog_1_method_14_code 46 = .ok (.iinc 2 1, 3) := by decide +kernel
theorem d_C_span_49 : decode prog_1_method_14_code 49 = .ok (.iinc 3 1, 3) := by decide +kernel
theorem d_C_span_52 : decode prog_1_method_14_code 52 = .ok (.goto (-22), 3) := by decide +kernel
theorem d_C_span_55 : decode prog_1_method_14_code 55 = .ok (.iload_n 2, 1) := by decide +kernel
theorem d_C_span_56 : decode prog_1_method_14_code 56 = .ok (.ireturn, 1) := by decide +kernel
theorem d_C_isPassed_0 : decode prog_1_method_38_code 0 = .ok (.aload_n 0, 1) := by decide +kernel
theorem d_C_isPassed_1 : decode prog_1_method_38_code 1 = .ok (.getfield 42, 3) := by decide +kernel
theorem d_C_isPassed_4 : decode prog_1_method_38_code 4 = .ok (.iload_n 1, 1) := by decide +kernel
theorem d_C_isPassed_5 : decode prog_1_method_38_code 5 = .ok (.iaload, 1) := by decide +kernel
theorem d_C_isPassed_6 : decode prog_1_method_38_code 6 = .ok (.iconst (-1), 1) := by decide +kernel
theorem d_C_isPassed_7 : decode prog_1_method_38_code 7 = .ok (.if_icmp .ne 5, 3) := by decide +kernel
theorem d_C_isPassed_10 : decode prog_1_method_38_code 10 = .ok (.iconst 0, 1) := by decide +kernel
theorem d_C_isPassed_11 : decode prog_1_method_38_code 11 = .ok (.ireturn, 1) := by decide +kernel
theorem d_C_isPassed_12 : decode prog_1_method_38_code 12 = .ok (.aload_n 0, 1) := by decide +kernel
theorem d_C_isPassed_13 : decode prog_1_method_38_code 13 = .ok (.iload_n 1, 1) := by decide +kernel
theorem d_C_isPassed_14 : decode prog_1_method_38_code 14 = .ok (.invokevirtual 209, 3) := by decide +kernel
theorem d_C_isPassed_17 : decode prog_1_method_38_code 17 = .ok (.aload_n 0, 1) := by decide +kernel
theorem d_C_isPassed_18 : decode prog_1_method_38_code 18 = .ok (.getfield 32, 3) := by decide +kernel
theorem d_C_isPassed_21 : decode prog_1_method_38_code 21 = .ok (.aload_n 0, 1) := by decide +kernel
theorem d_C_isPassed_22 : decode prog_1_method_38_code 22 = .ok (.getfield 80, 3) := by decide +kernel
theorem d_C_isPassed_25 : decode prog_1_method_38_code 25 = .ok (.iload_n 1, 1) := by decide +kernel
theorem d_C_isPassed_26 : decode prog_1_method_38_code 26 = .ok (.invokestatic 205, 3) := by decide +kernel
theorem d_C_isPassed_29 : decode prog_1_method_38_code 29 = .ok (.iadd, 1) := by decide +kernel
theorem d_C_isPassed_30 : decode prog_1_method_38_code 30 = .ok (.aload_n 0, 1) := by decide +kernel
theorem d_C_isPassed_31 : decode prog_1_method_38_code 31 = .ok (.getfield 9, 3) := by decide +kernel
theorem d_C_isPassed_34 : decode prog_1_method_38_code 34 = .ok (.if_icmp .le 7, 3) := by decide +kernel
theorem d_C_isPassed_37 : decode prog_1_method_38_code 37 = .ok (.iconst 1, 1) := by decide +kernel
theorem d_C_isPassed_38 : decode prog_1_method_38_code 38 = .ok (.goto 4, 3) := by decide +kernel
theorem d_C_isPassed_41 : decode prog_1_method_38_code 41 = .ok (.iconst 0, 1) := by decide +kernel
theorem d_C_isPassed_42 : decode prog_1_method_38_code 42 = .ok (.ireturn, 1) := by decide +kernel
theorem d_C_countOpenBelow_0 : decode prog_1_method_39_code 0 = .ok (.iconst 0, 1) := by decide +kernel
theorem d_C_countOpenBelow_1 : decode prog_1_method_39_code 1 = .ok (.istore_n 2, 1) := by decide +kernel
theorem d_C_countOpenBelow_2 : decode prog_1_method_39_code 2 = .ok (.iconst 0, 1) := by decide +kernel
theorem d_C_countOpenBelow_3 : decode prog_1_method_39_code 3 = .ok (.istore_n 3, 1) := by decide +kernel
theorem d_C_countOpenBelow_4 : decode prog_1_method_39_code 4 = .ok (.iload_n 3, 1) := by decide +kernel
theorem d_C_countOpenBelow_5 : decode prog_1_method_39_code 5 = .ok (.aload_n 0, 1) := by decide +kernel
theorem d_C_countOpenBelow_6 : decode prog_1_method_39_code 6 = .ok (.getfield 48, 3) := by decide +kernel
theorem d_C_countOpenBelow_9 : decode prog_1_method_39_code 9 = .ok (.if_icmp .ge 31, 3) := by decide +kernel
theorem d_C_countOpenBelow_12 : decode prog_1_method_39_code 12 = .ok (.aload_n 0, 1) := by decide +kernel
theorem d_C_countOpenBelow_13 : decode prog_1_method_39_code 13 = .ok (.getfield 35, 3) := by decide +kernel
theorem d_C_countOpenBelow_16 : decode prog_1_method_39_code 16 = .ok (.iload_n 3, 1) := by decide +kernel
theorem d_C_countOpenBelow_17 : decode prog_1_method_39_code 17 = .ok (.baload, 1) := by decide +kernel
theorem d_C_countOpenBelow_18 : decode prog_1_method_39_code 18 = .ok (.ifCond .eq 16, 3) := by decide +kernel
theorem d_C_countOpenBelow_21 : decode prog_1_method_39_code 21 = .ok (.aload_n 0, 1) := by decide +kernel
theorem d_C_countOpenBelow_22 : decode prog_1_method_39_code 22 = .ok (.getfield 39, 3) := by decide +kernel
theorem d_C_countOpenBelow_25 : decode prog_1_method_39_code 25 = .ok (.iload_n 3, 1) := by decide +kernel
theorem d_C_countOpenBelow_26 : decode prog_1_method_39_code 26 = .ok (.iaload, 1) := by decide +kernel
theorem d_C_countOpenBelow_27 : decode prog_1_method_39_code 27 = .ok (.iload_n 1, 1) := by decide +kernel
theorem d_C_countOpenBelow_28 : decode prog_1_method_39_code 28 = .ok (.if_icmp .ne 6, 3) := by decide +kernel
theorem d_C_countOpenBelow_31 : decode prog_1_method_39_code 31 = .ok (.iinc 2 1, 3) := by decide +kernel
theorem d_C_countOpenBelow_34 : decode prog_1_method_39_code 34 = .ok (.iinc 3 1, 3) := by decide +kernel
theorem d_C_countOpenBelow_37 : decode prog_1_method_39_code 37 = .ok (.goto (-33), 3) := by decide +kernel
theorem d_C_countOpenBelow_40 : decode prog_1_method_39_code 40 = .ok (.iload_n 2, 1) := by decide +kernel
theorem d_C_countOpenBelow_41 : decode prog_1_method_39_code 41 = .ok (.ireturn, 1) := by decide +kernel
theorem d_C_count_0 : decode prog_1_method_40_code 0 = .ok (.iconst 0, 1) := by decide +kernel
theorem d_C_count_1 : decode prog_1_method_40_code 1 = .ok (.istore_n 3, 1) := by decide +kernel
theorem d_C_count_2 : decode prog_1_method_40_code 2 = .ok (.iconst 0, 1) := by decide +kernel
theorem d_C_count_3 : decode prog_1_method_40_code 3 = .ok (.istore 4, 2) := by decide +kernel
theorem d_C_count_5 : decode prog_1_method_40_code 5 = .ok (.iload 4, 2) := by decide +kernel
theorem d_C_count_7 : decode prog_1_method_40_code 7 = .ok (.iload_n 1, 1) := by decide +kernel
theorem d_C_count_8 : decode prog_1_method_40_code 8 = .ok (.if_icmp .ge 27, 3) := by decide +kernel
theorem d_C_count_11 : decode prog_1_method_40_code 11 = .ok (.iload 4, 2) := by decide +kernel
theorem d_C_count_13 : decode prog_1_method_40_code 13 = .ok (.aload_n 0, 1) := by decide +kernel
theorem d_C_count_14 : decode prog_1_method_40_code 14 = .ok (.arraylength, 1) := by decide +kernel
theorem d_C_count_15 : decode prog_1_method_40_code 15 = .ok (.if_icmp .ge 20, 3) := by decide +kernel
theorem d_C_count_18 : decode prog_1_method_40_code 18 = .ok (.aload_n 0, 1) := by decide +kernel
theorem d_C_count_19 : decode prog_1_method_40_code 19 = .ok (.iload 4, 2) := by decide +kernel
theorem d_C_count_21 : decode prog_1_method_40_code 21 = .ok (.iaload, 1) := by decide +kernel
theorem d_C_count_22 : decode prog_1_method_40_code 22 = .ok (.iload_n 2, 1) := by decide +kernel
theorem d_C_count_23 : decode prog_1_method_40_code 23 = .ok (.if_icmp .ne 6, 3) := by decide +kernel
theorem d_C_count_26 : decode prog_1_method_40_code 26 = .ok (.iinc 3 1, 3) := by decide +kernel
theorem d_C_count_29 : decode prog_1_method_40_code 29 = .ok (.iinc 4 1, 3) := by decide +kernel
theorem d_C_count_32 : decode prog_1_method_40_code 32 = .ok (.goto (-27), 3) := by decide +kernel
theorem d_C_count_35 : decode prog_1_method_40_code 35 = .ok (.iload_n 3, 1) := by decide +kernel
theorem d_C_count_36 : decode prog_1_method_40_code 36 = .ok (.ireturn, 1) := by decide +kernel
theorem d_C_tick_0 : decode prog_1_method_15_code 0 = .ok (.iload_n 1, 1) := by decide +kernel
theorem d_C_tick_1 : decode prog_1_method_15_code 1 = .ok (.iconst 1, 1) := by decide +kernel
theorem d_C_tick_2 : decode prog_1_method_15_code 2 = .ok (.if_icmp .lt 21, 3) := by decide +kernel
theorem d_C_tick_5 : decode prog_1_method_15_code 5 = .ok (.iload_n 1, 1) := by decide +kernel
theorem d_C_tick_6 : decode prog_1_method_15_code 6 = .ok (.sipush 5000, 3) := by decide +kernel
theorem d_C_tick_9 : decode prog_1_method_15_code 9 = .ok (.if_icmp .gt 14, 3) := by decide +kernel
theorem d_C_tick_12 : decode prog_1_method_15_code 12 = .ok (.iload_n 1, 1) := by decide +kernel
theorem d_C_tick_13 : decode prog_1_method_15_code 13 = .ok (.ldc 160, 2) := by decide +kernel
theorem d_C_tick_15 : decode prog_1_method_15_code 15 = .ok (.aload_n 0, 1) := by decide +kernel
theorem d_C_tick_16 : decode prog_1_method_15_code 16 = .ok (.getfield 98, 3) := by decide +kernel
theorem d_C_tick_19 : decode prog_1_method_15_code 19 = .ok (.isub, 1) := by decide +kernel
theorem d_C_tick_20 : decode prog_1_method_15_code 20 = .ok (.if_icmp .le 13, 3) := by decide +kernel
theorem d_C_tick_23 : decode prog_1_method_15_code 23 = .ok (.new 65, 3) := by decide +kernel
theorem d_C_tick_26 : decode prog_1_method_15_code 26 = .ok (.dup, 1) := by decide +kernel
theorem d_C_tick_27 : decode prog_1_method_15_code 27 = .ok (.ldc 190, 2) := by decide +kernel
theorem d_C_tick_29 : decode prog_1_method_15_code 29 = .ok (.invokespecial 69, 3) := by decide +kernel
theorem d_C_tick_32 : decode prog_1_method_15_code 32 = .ok (.athrow, 1) := by decide +kernel
theorem d_C_tick_33 : decode prog_1_method_15_code 33 = .ok (.aload_n 0, 1) := by decide +kernel
theorem d_C_tick_34 : decode prog_1_method_15_code 34 = .ok (.getfield 98, 3) := by decide +kernel
theorem d_C_tick_37 : decode prog_1_method_15_code 37 = .ok (.istore_n 2, 1) := by decide +kernel
theorem d_C_tick_38 : decode prog_1_method_15_code 38 = .ok (.aload_n 0, 1) := by decide +kernel
theorem d_C_tick_39 : decode prog_1_method_15_code 39 = .ok (.iload_n 2, 1) := by decide +kernel
theorem d_C_tick_40 : decode prog_1_method_15_code 40 = .ok (.iload_n 1, 1) := by decide +kernel
theorem d_C_tick_41 : decode prog_1_method_15_code 41 = .ok (.iadd, 1) := by decide +kernel
theorem d_C_tick_42 : decode prog_1_method_15_code 42 = .ok (.putfield 98, 3) := by decide +kernel
theorem d_C_tick_45 : decode prog_1_method_15_code 45 = .ok (.aload_n 0, 1) := by decide +kernel
theorem d_C_tick_46 : decode prog_1_method_15_code 46 = .ok (.getfield 54, 3) := by decide +kernel
theorem d_C_tick_49 : decode prog_1_method_15_code 49 = .ok (.iload_n 2, 1) := by decide +kernel
theorem d_C_tick_50 : decode prog_1_method_15_code 50 = .ok (.aload_n 0, 1) := by decide +kernel
theorem d_C_tick_51 : decode prog_1_method_15_code 51 = .ok (.getfield 98, 3) := by decide +kernel
theorem d_C_tick_54 : decode prog_1_method_15_code 54 = .ok (.invokevirtual 192, 3) := by decide +kernel
theorem d_C_tick_57 : decode prog_1_method_15_code 57 = .ok (.ireturn, 1) := by decide +kernel
theorem d_C_led_0 : decode prog_1_method_16_code 0 = .ok (.aload_n 0, 1) := by decide +kernel
theorem d_C_led_1 : decode prog_1_method_16_code 1 = .ok (.iload_n 1, 1) := by decide +kernel
theorem d_C_led_2 : decode prog_1_method_16_code 2 = .ok (.invokevirtual 114, 3) := by decide +kernel
theorem d_C_led_5 : decode prog_1_method_16_code 5 = .ok (.iload_n 2, 1) := by decide +kernel
theorem d_C_led_6 : decode prog_1_method_16_code 6 = .ok (.ifCond .lt 11, 3) := by decide +kernel
theorem d_C_led_9 : decode prog_1_method_16_code 9 = .ok (.iload_n 2, 1) := by decide +kernel
theorem d_C_led_10 : decode prog_1_method_16_code 10 = .ok (.aload_n 0, 1) := by decide +kernel
theorem d_C_led_11 : decode prog_1_method_16_code 11 = .ok (.getfield 98, 3) := by decide +kernel
theorem d_C_led_14 : decode prog_1_method_16_code 14 = .ok (.if_icmp .le 13, 3) := by decide +kernel
theorem d_C_led_17 : decode prog_1_method_16_code 17 = .ok (.new 65, 3) := by decide +kernel
theorem d_C_led_20 : decode prog_1_method_16_code 20 = .ok (.dup, 1) := by decide +kernel
theorem d_C_led_21 : decode prog_1_method_16_code 21 = .ok (.ldc 195, 2) := by decide +kernel
theorem d_C_led_23 : decode prog_1_method_16_code 23 = .ok (.invokespecial 69, 3) := by decide +kernel
theorem d_C_led_26 : decode prog_1_method_16_code 26 = .ok (.athrow, 1) := by decide +kernel
theorem d_C_led_27 : decode prog_1_method_16_code 27 = .ok (.aload_n 0, 1) := by decide +kernel
theorem d_C_led_28 : decode prog_1_method_16_code 28 = .ok (.getfield 61, 3) := by decide +kernel
theorem d_C_led_31 : decode prog_1_method_16_code 31 = .ok (.iload_n 2, 1) := by decide +kernel
theorem d_C_led_32 : decode prog_1_method_16_code 32 = .ok (.invokevirtual 197, 3) := by decide +kernel
theorem d_C_led_35 : decode prog_1_method_16_code 35 = .ok (.ifCond .ne 13, 3) := by decide +kernel
theorem d_C_led_38 : decode prog_1_method_16_code 38 = .ok (.new 75, 3) := by decide +kernel
theorem d_C_led_41 : decode prog_1_method_16_code 41 = .ok (.dup, 1) := by decide +kernel
theorem d_C_led_42 : decode prog_1_method_16_code 42 = .ok (.ldc 200, 2) := by decide +kernel
theorem d_C_led_44 : decode prog_1_method_16_code 44 = .ok (.invokespecial 79, 3) := by decide +kernel
theorem d_C_led_47 : decode prog_1_method_16_code 47 = .ok (.athrow, 1) := by decide +kernel
theorem d_C_led_48 : decode prog_1_method_16_code 48 = .ok (.aload_n 0, 1) := by decide +kernel
theorem d_C_led_49 : decode prog_1_method_16_code 49 = .ok (.getfield 61, 3) := by decide +kernel
theorem d_C_led_52 : decode prog_1_method_16_code 52 = .ok (.iload_n 1, 1) := by decide +kernel
theorem d_C_led_53 : decode prog_1_method_16_code 53 = .ok (.iload_n 2, 1) := by decide +kernel
theorem d_C_led_54 : decode prog_1_method_16_code 54 = .ok (.invokevirtual 202, 3) := by decide +kernel
theorem d_C_led_57 : decode prog_1_method_16_code 57 = .ok (.ireturn, 1) := by decide +kernel
theorem d_C_sectorAt_0 : decode prog_1_method_17_code 0 = .ok (.aload_n 0, 1) := by decide +kernel
theorem d_C_sectorAt_1 : decode prog_1_method_17_code 1 = .ok (.iload_n 1, 1) := by decide +kernel
theorem d_C_sectorAt_2 : decode prog_1_method_17_code 2 = .ok (.invokevirtual 114, 3) := by decide +kernel
theorem d_C_sectorAt_5 : decode prog_1_method_17_code 5 = .ok (.iload_n 2, 1) := by decide +kernel
theorem d_C_sectorAt_6 : decode prog_1_method_17_code 6 = .ok (.tableswitch 128 0 7 #[46, 61, 68, 75, 88, 101, 108, 122], 46) := by decide +kernel
theorem d_C_sectorAt_52 : decode prog_1_method_17_code 52 = .ok (.aload_n 0, 1) := by decide +kernel
theorem d_C_sectorAt_53 : decode prog_1_method_17_code 53 = .ok (.getfield 35, 3) := by decide +kernel
theorem d_C_sectorAt_56 : decode prog_1_method_17_code 56 = .ok (.iload_n 1, 1) := by decide +kernel
theorem d_C_sectorAt_57 : decode prog_1_method_17_code 57 = .ok (.baload, 1) := by decide +kernel
theorem d_C_sectorAt_58 : decode prog_1_method_17_code 58 = .ok (.ifCond .eq 7, 3) := by decide +kernel
theorem d_C_sectorAt_61 : decode prog_1_method_17_code 61 = .ok (.iconst 1, 1) := by decide +kernel
theorem d_C_sectorAt_62 : decode prog_1_method_17_code 62 = .ok (.goto 4, 3) := by decide +kernel
theorem d_C_sectorAt_65 : decode prog_1_method_17_code 65 = .ok (.iconst 0, 1) := by decide +kernel
theorem d_C_sectorAt_66 : decode prog_1_method_17_code 66 = .ok (.ireturn, 1) := by decide +kernel
theorem d_C_sectorAt_67 : decode prog_1_method_17_code 67 = .ok (.aload_n 0, 1) := by decide +kernel
theorem d_C_sectorAt_68 : decode prog_1_method_17_code 68 = .ok (.getfield 42, 3) := by decide +kernel
theorem d_C_sectorAt_71 : decode prog_1_method_17_code 71 = .ok (.iload_n 1, 1) := by decide +kernel
theorem d_C_sectorAt_72 : decode prog_1_method_17_code 72 = .ok (.iaload, 1) := by decide +kernel
theorem d_C_sectorAt_73 : decode prog_1_method_17_code 73 = .ok (.ireturn, 1) := by decide +kernel
theorem d_C_sectorAt_74 : decode prog_1_method_17_code 74 = .ok (.aload_n 0, 1) := by decide +kernel
theorem d_C_sectorAt_75 : decode prog_1_method_17_code 75 = .ok (.getfield 39, 3) := by decide +kernel
theorem d_C_sectorAt_78 : decode prog_1_method_17_code 78 = .ok (.iload_n 1, 1) := by decide +kernel
theorem d_C_sectorAt_79 : decode prog_1_method_17_code 79 = .ok (.iaload, 1) := by decide +kernel
theorem d_C_sectorAt_80 : decode prog_1_method_17_code 80 = .ok (.ireturn, 1) := by decide +kernel
theorem d_C_sectorAt_81 : decode prog_1_method_17_code 81 = .ok (.aload_n 0, 1) := by decide +kernel
theorem d_C_sectorAt_82 : decode prog_1_method_17_code 82 = .ok (.getfield 20, 3) := by decide +kernel
theorem d_C_sectorAt_85 : decode prog_1_method_17_code 85 = .ok (.aload_n 0, 1) := by decide +kernel
theorem d_C_sectorAt_86 : decode prog_1_method_17_code 86 = .ok (.getfield 72, 3) := by decide +kernel
theorem d_C_sectorAt_89 : decode prog_1_method_17_code 89 = .ok (.iload_n 1, 1) := by decide +kernel
theorem d_C_sectorAt_90 : decode prog_1_method_17_code 90 = .ok (.invokestatic 205, 3) := by decide +kernel
theorem d_C_sectorAt_93 : decode prog_1_method_17_code 93 = .ok (.ireturn, 1) := by decide +kernel
theorem d_C_sectorAt_94 : decode prog_1_method_17_code 94 = .ok (.aload_n 0, 1) := by decide +kernel
theorem d_C_sectorAt_95 : decode prog_1_method_17_code 95 = .ok (.getfield 32, 3) := by decide +kernel
theorem d_C_sectorAt_98 : decode prog_1_method_17_code 98 = .ok (.aload_n 0, 1) := by decide +kernel
theorem d_C_sectorAt_99 : decode prog_1_method_17_code 99 = .ok (.getfield 80, 3) := by decide +kernel
theorem d_C_sectorAt_102 : decode prog_1_method_17_code 102 = .ok (.iload_n 1, 1) := by decide +kernel
theorem d_C_sectorAt_103 : decode prog_1_method_17_code 103 = .ok (.invokestatic 205, 3) := by decide +kernel
theorem d_C_sectorAt_106 : decode prog_1_method_17_code 106 = .ok (.ireturn, 1) := by decide +kernel
theorem d_C_sectorAt_107 : decode prog_1_method_17_code 107 = .ok (.aload_n 0, 1) := by decide +kernel
theorem d_C_sectorAt_108 : decode prog_1_method_17_code 108 = .ok (.getfield 45, 3) := by decide +kernel
theorem d_C_sectorAt_111 : decode prog_1_method_17_code 111 = .ok (.iload_n 1, 1) := by decide +kernel
theorem d_C_sectorAt_112 : decode prog_1_method_17_code 112 = .ok (.iaload, 1) := by decide +kernel
theorem d_C_sectorAt_113 : decode prog_1_method_17_code 113 = .ok (.ireturn, 1) := by decide +kernel
theorem d_C_sectorAt_114 : decode prog_1_method_17_code 114 = .ok (.aload_n 0, 1) := by decide +kernel
theorem d_C_sectorAt_115 : decode prog_1_method_17_code 115 = .ok (.iload_n 1, 1) := by decide +kernel
theorem d_C_sectorAt_116 : decode prog_1_method_17_code 116 = .ok (.invokevirtual 187, 3) := by decide +kernel
theorem d_C_sectorAt_119 : decode prog_1_method_17_code 119 = .ok (.ifCond .eq 7, 3) := by decide +kernel
theorem d_C_sectorAt_122 : decode prog_1_method_17_code 122 = .ok (.iconst 1, 1) := by decide +kernel
theorem d_C_sectorAt_123 : decode prog_1_method_17_code 123 = .ok (.goto 4, 3) := by decide +kernel
theorem d_C_sectorAt_126 : decode prog_1_method_17_code 126 = .ok (.iconst 0, 1) := by decide +kernel
theorem d_C_sectorAt_127 : decode prog_1_method_17_code 127 = .ok (.ireturn, 1) := by decide +kernel
theorem d_C_sectorAt_128 : decode prog_1_method_17_code 128 = .ok (.aload_n 0, 1) := by decide +kernel
theorem d_C_sectorAt_129 : decode prog_1_method_17_code 129 = .ok (.iload_n 1, 1) := by decide +kernel
theorem d_C_sectorAt_130 : decode prog_1_method_17_code 130 = .ok (.invokevirtual 209, 3) := by decide +kernel
theorem d_C_sectorAt_133 : decode prog_1_method_17_code 133 = .ok (.ireturn, 1) := by decide +kernel
theorem d_C_sectorAt_134 : decode prog_1_method_17_code 134 = .ok (.new 212, 3) := by decide +kernel
theorem d_C_sectorAt_137 : decode prog_1_method_17_code 137 = .ok (.dup, 1) := by decide +kernel
theorem d_C_sectorAt_138 : decode prog_1_method_17_code 138 = .ok (.ldc 214, 2) := by decide +kernel
theorem d_C_sectorAt_140 : decode prog_1_method_17_code 140 = .ok (.invokespecial 216, 3) := by decide +kernel
theorem d_C_sectorAt_143 : decode prog_1_method_17_code 143 = .ok (.athrow, 1) := by decide +kernel
theorem d_C_personAt_0 : decode prog_1_method_18_code 0 = .ok (.aload_n 0, 1) := by decide +kernel
theorem d_C_personAt_1 : decode prog_1_method_18_code 1 = .ok (.iload_n 1, 1) := by decide +kernel
theorem d_C_personAt_2 : decode prog_1_method_18_code 2 = .ok (.invokevirtual 85, 3) := by decide +kernel
theorem d_C_personAt_5 : decode prog_1_method_18_code 5 = .ok (.iload_n 2, 1) := by decide +kernel
theorem d_C_personAt_6 : decode prog_1_method_18_code 6 = .ok (.tableswitch 47 0 2 #[26, 33, 40], 26) := by decide +kernel
theorem d_C_personAt_32 : decode prog_1_method_18_code 32 = .ok (.aload_n 0, 1) := by decide +kernel
theorem d_C_personAt_33 : decode prog_1_method_18_code 33 = .ok (.getfield 20, 3) := by decide +kernel
theorem d_C_personAt_36 : decode prog_1_method_18_code 36 = .ok (.iload_n 1, 1) := by decide +kernel
theorem d_C_personAt_37 : decode prog_1_method_18_code 37 = .ok (.iaload, 1) := by decide +kernel
theorem d_C_personAt_38 : decode prog_1_method_18_code 38 = .ok (.ireturn, 1) := by decide +kernel
theorem d_C_personAt_39 : decode prog_1_method_18_code 39 = .ok (.aload_n 0, 1) := by decide +kernel
theorem d_C_personAt_40 : decode prog_1_method_18_code 40 = .ok (.getfield 23, 3) := by decide +kernel
theorem d_C_personAt_43 : decode prog_1_method_18_code 43 = .ok (.iload_n 1, 1) := by decide +kernel
theorem d_C_personAt_44 : decode prog_1_method_18_code 44 = .ok (.iaload, 1) := by decide +kernel
theorem d_C_personAt_45 : decode prog_1_method_18_code 45 = .ok (.ireturn, 1) := by decide +kernel
theorem d_C_personAt_46 : decode prog_1_method_18_code 46 = .ok (.aload_n 0, 1) := by decide +kernel
theorem d_C_personAt_47 : decode prog_1_method_18_code 47 = .ok (.getfield 17, 3) := by decide +kernel
theorem d_C_personAt_50 : decode prog_1_method_18_code 50 = .ok (.iload_n 1, 1) := by decide +kernel
theorem d_C_personAt_51 : decode prog_1_method_18_code 51 = .ok (.iaload, 1) := by decide +kernel
theorem d_C_personAt_52 : decode prog_1_method_18_code 52 = .ok (.ireturn, 1) := by decide +kernel
theorem d_C_personAt_53 : decode prog_1_method_18_code 53 = .ok (.new 212, 3) := by decide +kernel
theorem d_C_personAt_56 : decode prog_1_method_18_code 56 = .ok (.dup, 1) := by decide +kernel
theorem d_C_personAt_57 : decode prog_1_method_18_code 57 = .ok (.ldc 214, 2) := by decide +kernel
theorem d_C_personAt_59 : decode prog_1_method_18_code 59 = .ok (.invokespecial 216, 3) := by decide +kernel
theorem d_C_personAt_62 : decode prog_1_method_18_code 62 = .ok (.athrow, 1) := by decide +kernel
theorem d_C_unitAt_0 : decode prog_1_method_19_code 0 = .ok (.aload_n 0, 1) := by decide +kernel
theorem d_C_unitAt_1 : decode prog_1_method_19_code 1 = .ok (.iload_n 1, 1) := by decide +kernel
theorem d_C_unitAt_2 : decode prog_1_method_19_code 2 = .ok (.invokevirtual 122, 3) := by decide +kernel
theorem d_C_unitAt_5 : decode prog_1_method_19_code 5 = .ok (.aload_n 0, 1) := by decide +kernel
theorem d_C_unitAt_6 : decode prog_1_method_19_code 6 = .ok (.getfield 32, 3) := by decide +kernel
theorem d_C_unitAt_9 : decode prog_1_method_19_code 9 = .ok (.iload_n 1, 1) := by decide +kernel
theorem d_C_unitAt_10 : decode prog_1_method_19_code 10 = .ok (.iaload, 1) := by decide +kernel
theorem d_C_unitAt_11 : decode prog_1_method_19_code 11 = .ok (.ireturn, 1) := by decide +kernel
theorem d_C_taskAt_0 : decode prog_1_method_20_code 0 = .ok (.aload_n 0, 1) := by decide +kernel
theorem d_C_taskAt_1 : decode prog_1_method_20_code 1 = .ok (.iload_n 1, 1) := by decide +kernel
theorem d_C_taskAt_2 : decode prog_1_method_20_code 2 = .ok (.invokevirtual 173, 3) := by decide +kernel
theorem d_C_taskAt_5 : decode prog_1_method_20_code 5 = .ok (.iload_n 2, 1) := by decide +kernel
theorem d_C_taskAt_6 : decode prog_1_method_20_code 6 = .ok (.tableswitch 57 0 2 #[26, 35, 48], 26) := by decide +kernel
theorem d_C_taskAt_32 : decode prog_1_method_20_code 32 = .ok (.aload_n 0, 1) := by decide +kernel
theorem d_C_taskAt_33 : decode prog_1_method_20_code 33 = .ok (.getfield 54, 3) := by decide +kernel
theorem d_C_taskAt_36 : decode prog_1_method_20_code 36 = .ok (.iload_n 1, 1) := by decide +kernel
theorem d_C_taskAt_37 : decode prog_1_method_20_code 37 = .ok (.invokevirtual 217, 3) := by decide +kernel
theorem d_C_taskAt_40 : decode prog_1_method_20_code 40 = .ok (.ireturn, 1) := by decide +kernel
theorem d_C_taskAt_41 : decode prog_1_method_20_code 41 = .ok (.aload_n 0, 1) := by decide +kernel
theorem d_C_taskAt_42 : decode prog_1_method_20_code 42 = .ok (.getfield 54, 3) := by decide +kernel
theorem d_C_taskAt_45 : decode prog_1_method_20_code 45 = .ok (.iload_n 1, 1) := by decide +kernel
theorem d_C_taskAt_46 : decode prog_1_method_20_code 46 = .ok (.aload_n 0, 1) := by decide +kernel
theorem d_C_taskAt_47 : decode prog_1_method_20_code 47 = .ok (.getfield 98, 3) := by decide +kernel
theorem d_C_taskAt_50 : decode prog_1_method_20_code 50 = .ok (.invokevirtual 220, 3) := by decide +kernel
theorem d_C_taskAt_53 : decode prog_1_method_20_code 53 = .ok (.ireturn, 1) := by decide +kernel
theorem d_C_taskAt_54 : decode prog_1_method_20_code 54 = .ok (.aload_n 0, 1) := by decide +kernel
theorem d_C_taskAt_55 : decode prog_1_method_20_code 55 = .ok (.getfield 54, 3) := by decide +kernel
theorem d_C_taskAt_58 : decode prog_1_method_20_code 58 = .ok (.iload_n 1, 1) := by decide +kernel
theorem d_C_taskAt_59 : decode prog_1_method_20_code 59 = .ok (.invokevirtual 223, 3) := by decide +kernel
theorem d_C_taskAt_62 : decode prog_1_method_20_code 62 = .ok (.ireturn, 1) := by decide +kernel
theorem d_C_taskAt_63 : decode prog_1_method_20_code 63 = .ok (.new 212, 3) := by decide +kernel
theorem d_C_taskAt_66 : decode prog_1_method_20_code 66 = .ok (.dup, 1) := by decide +kernel
theorem d_C_taskAt_67 : decode prog_1_method_20_code 67 = .ok (.ldc 214, 2) := by decide +kernel
theorem d_C_taskAt_69 : decode prog_1_method_20_code 69 = .ok (.invokespecial 216, 3) := by decide +kernel
theorem d_C_taskAt_72 : decode prog_1_method_20_code 72 = .ok (.athrow, 1) := by decide +kernel
theorem d_C_passed_0 : decode prog_1_method_21_code 0 = .ok (.iload_n 1, 1) := by decide +kernel
theorem d_C_passed_1 : decode prog_1_method_21_code 1 = .ok (.ifCond .ge 13, 3) := by decide +kernel
theorem d_C_passed_4 : decode prog_1_method_21_code 4 = .ok (.new 65, 3) := by decide +kernel
theorem d_C_passed_7 : decode prog_1_method_21_code 7 = .ok (.dup, 1) := by decide +kernel
theorem d_C_passed_8 : decode prog_1_method_21_code 8 = .ok (.ldc 226, 2) := by decide +kernel
theorem d_C_passed_10 : decode prog_1_method_21_code 10 = .ok (.invokespecial 69, 3) := by decide +kernel
theorem d_C_passed_13 : decode prog_1_method_21_code 13 = .ok (.athrow, 1) := by decide +kernel
theorem d_C_passed_14 : decode prog_1_method_21_code 14 = .ok (.iconst 0, 1) := by decide +kernel
theorem d_C_passed_15 : decode prog_1_method_21_code 15 = .ok (.istore_n 2, 1) := by decide +kernel
theorem d_C_passed_16 : decode prog_1_method_21_code 16 = .ok (.iconst 0, 1) := by decide +kernel
theorem d_C_passed_17 : decode prog_1_method_21_code 17 = .ok (.istore_n 3, 1) := by decide +kernel
theorem d_C_passed_18 : decode prog_1_method_21_code 18 = .ok (.iload_n 3, 1) := by decide +kernel
theorem d_C_passed_19 : decode prog_1_method_21_code 19 = .ok (.aload_n 0, 1) := by decide +kernel
theorem d_C_passed_20 : decode prog_1_method_21_code 20 = .ok (.getfield 48, 3) := by decide +kernel
theorem d_C_passed_23 : decode prog_1_method_21_code 23 = .ok (.if_icmp .ge 27, 3) := by decide +kernel
theorem d_C_passed_26 : decode prog_1_method_21_code 26 = .ok (.aload_n 0, 1) := by decide +kernel
theorem d_C_passed_27 : decode prog_1_method_21_code 27 = .ok (.iload_n 3, 1) := by decide +kernel
theorem d_C_passed_28 : decode prog_1_method_21_code 28 = .ok (.invokevirtual 187, 3) := by decide +kernel
theorem d_C_passed_31 : decode prog_1_method_21_code 31 = .ok (.ifCond .eq 13, 3) := by decide +kernel
theorem d_C_passed_34 : decode prog_1_method_21_code 34 = .ok (.iload_n 2, 1) := by decide +kernel
theorem d_C_passed_35 : decode prog_1_method_21_code 35 = .ok (.iload_n 1, 1) := by decide +kernel
theorem d_C_passed_36 : decode prog_1_method_21_code 36 = .ok (.if_icmp .ne 5, 3) := by decide +kernel
theorem d_C_passed_39 : decode prog_1_method_21_code 39 = .ok (.iload_n 3, 1) := by decide +kernel
theorem d_C_passed_40 : decode prog_1_method_21_code 40 = .ok (.ireturn, 1) := by decide +kernel
theorem d_C_passed_41 : decode prog_1_method_21_code 41 = .ok (.iinc 2 1, 3) := by decide +kernel
theorem d_C_passed_44 : decode prog_1_method_21_code 44 = .ok (.iinc 3 1, 3) := by decide +kernel
theorem d_C_passed_47 : decode prog_1_method_21_code 47 = .ok (.goto (-29), 3) := by decide +kernel
theorem d_C_passed_50 : decode prog_1_method_21_code 50 = .ok (.iconst (-1), 1) := by decide +kernel
theorem d_C_passed_51 : decode prog_1_method_21_code 51 = .ok (.ireturn, 1) := by decide +kernel
end
section
/-! INSTRUCTIONS, printed by wip/whole/names.py -/
theorem d_M_init_0 : decode prog_5_method_1_code 0 = .ok (.aload_n 0, 1) := by decide +kernel
theorem d_M_init_1 : decode prog_5_method_1_code 1 = .ok (.invokespecial 1, 3) := by decide +kernel
theorem d_M_init_4 : decode prog_5_method_1_code 4 = .ok (.aload_n 0, 1) := by decide +kernel
theorem d_M_init_5 : decode prog_5_method_1_code 5 = .ok (.bipush 40, 2) := by decide +kernel
theorem d_M_init_7 : decode prog_5_method_1_code 7 = .ok (.newarray .int, 2) := by decide +kernel
theorem d_M_init_9 : decode prog_5_method_1_code 9 = .ok (.putfield 7, 3) := by decide +kernel
theorem d_M_init_12 : decode prog_5_method_1_code 12 = .ok (.aload_n 0, 1) := by decide +kernel
theorem d_M_init_13 : decode prog_5_method_1_code 13 = .ok (.bipush 40, 2) := by decide +kernel
theorem d_M_init_15 : decode prog_5_method_1_code 15 = .ok (.newarray .int, 2) := by decide +kernel
theorem d_M_init_17 : decode prog_5_method_1_code 17 = .ok (.putfield 13, 3) := by decide +kernel
theorem d_M_init_20 : decode prog_5_method_1_code 20 = .ok (.aload_n 0, 1) := by decide +kernel
theorem d_M_init_21 : decode prog_5_method_1_code 21 = .ok (.bipush 40, 2) := by decide +kernel
theorem d_M_init_23 : decode prog_5_method_1_code 23 = .ok (.newarray .int, 2) := by decide +kernel
theorem d_M_init_25 : decode prog_5_method_1_code 25 = .ok (.putfield 16, 3) := by decide +kernel
theorem d_M_init_28 : decode prog_5_method_1_code 28 = .ok (.aload_n 0, 1) := by decide +kernel
theorem d_M_init_29 : decode prog_5_method_1_code 29 = .ok (.bipush 20, 2) := by decide +kernel
theorem d_M_init_31 : decode prog_5_method_1_code 31 = .ok (.newarray .int, 2) := by decide +kernel
theorem d_M_init_33 : decode prog_5_method_1_code 33 = .ok (.putfield 19, 3) := by decide +kernel
theorem d_M_init_36 : decode prog_5_method_1_code 36 = .ok (.aload_n 0, 1) := by decide +kernel
theorem d_M_init_37 : decode prog_5_method_1_code 37 = .ok (.iconst 1, 1) := by decide +kernel
theorem d_M_init_38 : decode prog_5_method_1_code 38 = .ok (.putfield 22, 3) := by decide +kernel
theorem d_M_init_41 : decode prog_5_method_1_code 41 = .ok (.aload_n 0, 1) := by decide +kernel
theorem d_M_init_42 : decode prog_5_method_1_code 42 = .ok (.bipush 20, 2) := by decide +kernel
theorem d_M_init_44 : decode prog_5_method_1_code 44 = .ok (.newarray .boolean, 2) := by decide +kernel
theorem d_M_init_46 : decode prog_5_method_1_code 46 = .ok (.putfield 26, 3) := by decide +kernel
theorem d_M_init_49 : decode prog_5_method_1_code 49 = .ok (.aload_n 0, 1) := by decide +kernel
theorem d_M_init_50 : decode prog_5_method_1_code 50 = .ok (.bipush 20, 2) := by decide +kernel
theorem d_M_init_52 : decode prog_5_method_1_code 52 = .ok (.newarray .int, 2) := by decide +kernel
theorem d_M_init_54 : decode prog_5_method_1_code 54 = .ok (.putfield 30, 3) := by decide +kernel
theorem d_M_init_57 : decode prog_5_method_1_code 57 = .ok (.aload_n 0, 1) := by decide +kernel
theorem d_M_init_58 : decode prog_5_method_1_code 58 = .ok (.bipush 20, 2) := by decide +kernel
theorem d_M_init_60 : decode prog_5_method_1_code 60 = .ok (.newarray .int, 2) := by decide +kernel
theorem d_M_init_62 : decode prog_5_method_1_code 62 = .ok (.putfield 33, 3) := by decide +kernel
theorem d_M_init_65 : decode prog_5_method_1_code 65 = .ok (.aload_n 0, 1) := by decide +kernel
theorem d_M_init_66 : decode prog_5_method_1_code 66 = .ok (.bipush 20, 2) := by decide +kernel
theorem d_M_init_68 : decode prog_5_method_1_code 68 = .ok (.newarray .int, 2) := by decide +kernel
theorem d_M_init_70 : decode prog_5_method_1_code 70 = .ok (.putfield 36, 3) := by decide +kernel
theorem d_M_init_73 : decode prog_5_method_1_code 73 = .ok (.aload_n 0, 1) := by decide +kernel
theorem d_M_init_74 : decode prog_5_method_1_code 74 = .ok (.iconst 5, 1) := by decide +kernel
theorem d_M_init_75 : decode prog_5_method_1_code 75 = .ok (.putfield 39, 3) := by decide +kernel
theorem d_M_init_78 : decode prog_5_method_1_code 78 = .ok (.aload_n 0, 1) := by decide +kernel
theorem d_M_init_79 : decode prog_5_method_1_code 79 = .ok (.bipush 60, 2) := by decide +kernel
theorem d_M_init_81 : decode prog_5_method_1_code 81 = .ok (.newarray .int, 2) := by decide +kernel
theorem d_M_init_83 : decode prog_5_method_1_code 83 = .ok (.putfield 42, 3) := by decide +kernel
theorem d_M_init_86 : decode prog_5_method_1_code 86 = .ok (.aload_n 0, 1) := by decide +kernel
theorem d_M_init_87 : decode prog_5_method_1_code 87 = .ok (.bipush 60, 2) := by decide +kernel
theorem d_M_init_89 : decode prog_5_method_1_code 89 = .ok (.newarray .int, 2) := by decide +kernel
theorem d_M_init_91 : decode prog_5_method_1_code 91 = .ok (.putfield 45, 3) := by decide +kernel
theorem d_M_init_94 : decode prog_5_method_1_code 94 = .ok (.aload_n 0, 1) := by decide +kernel
theorem d_M_init_95 : decode prog_5_method_1_code 95 = .ok (.bipush 60, 2) := by decide +kernel
theorem d_M_init_97 : decode prog_5_method_1_code 97 = .ok (.newarray .int, 2) := by decide +kernel
theorem d_M_init_99 : decode prog_5_method_1_code 99 = .ok (.putfield 48, 3) := by decide +kernel
theorem d_M_init_102 : decode prog_5_method_1_code 102 = .ok (.aload_n 0, 1) := by decide +kernel
theorem d_M_init_103 : decode prog_5_method_1_code 103 = .ok (.bipush 60, 2) := by decide +kernel
theorem d_M_init_105 : decode prog_5_method_1_code 105 = .ok (.newarray .int, 2) := by decide +kernel
theorem d_M_init_107 : decode prog_5_method_1_code 107 = .ok (.putfield 51, 3) := by decide +kernel
theorem d_M_init_110 : decode prog_5_method_1_code 110 = .ok (.aload_n 0, 1) := by decide +kernel
theorem d_M_init_111 : decode prog_5_method_1_code 111 = .ok (.sipush 400, 3) := by decide +kernel
theorem d_M_init_114 : decode prog_5_method_1_code 114 = .ok (.newarray .int, 2) := by decide +kernel
theorem d_M_init_116 : decode prog_5_method_1_code 116 = .ok (.putfield 54, 3) := by decide +kernel
theorem d_M_init_119 : decode prog_5_method_1_code 119 = .ok (.aload_n 0, 1) := by decide +kernel
theorem d_M_init_120 : decode prog_5_method_1_code 120 = .ok (.sipush 400, 3) := by decide +kernel
theorem d_M_init_123 : decode prog_5_method_1_code 123 = .ok (.newarray .int, 2) := by decide +kernel
theorem d_M_init_125 : decode prog_5_method_1_code 125 = .ok (.putfield 57, 3) := by decide +kernel
theorem d_M_init_128 : decode prog_5_method_1_code 128 = .ok (.aload_n 0, 1) := by decide +kernel
theorem d_M_init_129 : decode prog_5_method_1_code 129 = .ok (.sipush 400, 3) := by decide +kernel
theorem d_M_init_132 : decode prog_5_method_1_code 132 = .ok (.newarray .int, 2) := by decide +kernel
theorem d_M_init_134 : decode prog_5_method_1_code 134 = .ok (.putfield 60, 3) := by decide +kernel
theorem d_M_init_137 : decode prog_5_method_1_code 137 = .ok (.aload_n 0, 1) := by decide +kernel
theorem d_M_init_138 : decode prog_5_method_1_code 138 = .ok (.bipush 20, 2) := by decide +kernel
theorem d_M_init_140 : decode prog_5_method_1_code 140 = .ok (.newarray .int, 2) := by decide +kernel
theorem d_M_init_142 : decode prog_5_method_1_code 142 = .ok (.putfield 63, 3) := by decide +kernel
theorem d_M_init_145 : decode prog_5_method_1_code 145 = .ok (.aload_n 0, 1) := by decide +kernel
theorem d_M_init_146 : decode prog_5_method_1_code 146 = .ok (.iconst (-1), 1) := by decide +kernel
theorem d_M_init_147 : decode prog_5_method_1_code 147 = .ok (.putfield 66, 3) := by decide +kernel
theorem d_M_init_150 : decode prog_5_method_1_code 150 = .ok (.aload_n 0, 1) := by decide +kernel
theorem d_M_init_151 : decode prog_5_method_1_code 151 = .ok (.getfield 30, 3) := by decide +kernel
theorem d_M_init_154 : decode prog_5_method_1_code 154 = .ok (.iconst 0, 1) := by decide +kernel
theorem d_M_init_155 : decode prog_5_method_1_code 155 = .ok (.iconst (-1), 1) := by decide +kernel
theorem d_M_init_156 : decode prog_5_method_1_code 156 = .ok (.iastore, 1) := by decide +kernel
theorem d_M_init_157 : decode prog_5_method_1_code 157 = .ok (.iconst 0, 1) := by decide +kernel
theorem d_M_init_158 : decode prog_5_method_1_code 158 = .ok (.istore_n 1, 1) := by decide +kernel
theorem d_M_init_159 : decode prog_5_method_1_code 159 = .ok (.iload_n 1, 1) := by decide +kernel
theorem d_M_init_160 : decode prog_5_method_1_code 160 = .ok (.bipush 20, 2) := by decide +kernel
theorem d_M_init_162 : decode prog_5_method_1_code 162 = .ok (.if_icmp .ge 30, 3) := by decide +kernel
theorem d_M_init_165 : decode prog_5_method_1_code 165 = .ok (.aload_n 0, 1) := by decide +kernel
theorem d_M_init_166 : decode prog_5_method_1_code 166 = .ok (.getfield 33, 3) := by decide +kernel
theorem d_M_init_169 : decode prog_5_method_1_code 169 = .ok (.iload_n 1, 1) := by decide +kernel
theorem d_M_init_170 : decode prog_5_method_1_code 170 = .ok (.iconst (-1), 1) := by decide +kernel
theorem d_M_init_171 : decode prog_5_method_1_code 171 = .ok (.iastore, 1) := by decide +kernel
theorem d_M_init_172 : decode prog_5_method_1_code 172 = .ok (.aload_n 0, 1) := by decide +kernel
theorem d_M_init_173 : decode prog_5_method_1_code 173 = .ok (.getfield 36, 3) := by decide +kernel
theorem d_M_init_176 : decode prog_5_method_1_code 176 = .ok (.iload_n 1, 1) := by decide +kernel
theorem d_M_init_177 : decode prog_5_method_1_code 177 = .ok (.iconst (-1), 1) := by decide +kernel
theorem d_M_init_178 : decode prog_5_method_1_code 178 = .ok (.iastore, 1) := by decide +kernel
theorem d_M_init_179 : decode prog_5_method_1_code 179 = .ok (.aload_n 0, 1) := by decide +kernel
theorem d_M_init_180 : decode prog_5_method_1_code 180 = .ok (.getfield 63, 3) := by decide +kernel
theorem d_M_init_183 : decode prog_5_method_1_code 183 = .ok (.iload_n 1, 1) := by decide +kernel
theorem d_M_init_184 : decode prog_5_method_1_code 184 = .ok (.iconst (-1), 1) := by decide +kernel
theorem d_M_init_185 : decode prog_5_method_1_code 185 = .ok (.iastore, 1) := by decide +kernel
theorem d_M_init_186 : decode prog_5_method_1_code 186 = .ok (.iinc 1 1, 3) := by decide +kernel
theorem d_M_init_189 : decode prog_5_method_1_code 189 = .ok (.goto (-30), 3) := by decide +kernel
theorem d_M_init_192 : decode prog_5_method_1_code 192 = .ok (.return_, 1) := by decide +kernel
theorem d_M_thrown_0 : decode prog_5_method_2_code 0 = .ok (.aload_n 0, 1) := by decide +kernel
theorem d_M_thrown_1 : decode prog_5_method_2_code 1 = .ok (.getfield 69, 3) := by decide +kernel
theorem d_M_thrown_4 : decode prog_5_method_2_code 4 = .ok (.ireturn, 1) := by decide +kernel
theorem d_M_person_0 : decode prog_5_method_14_code 0 = .ok (.aload_n 0, 1) := by decide +kernel
theorem d_M_person_1 : decode prog_5_method_14_code 1 = .ok (.bipush 10, 2) := by decide +kernel
theorem d_M_person_3 : decode prog_5_method_14_code 3 = .ok (.iconst 1, 1) := by decide +kernel
theorem d_M_person_4 : decode prog_5_method_14_code 4 = .ok (.iload_n 1, 1) := by decide +kernel
theorem d_M_person_5 : decode prog_5_method_14_code 5 = .ok (.iconst 0, 1) := by decide +kernel
theorem d_M_person_6 : decode prog_5_method_14_code 6 = .ok (.bipush 9, 2) := by decide +kernel
theorem d_M_person_8 : decode prog_5_method_14_code 8 = .ok (.invokestatic 75, 3) := by decide +kernel
theorem d_M_person_11 : decode prog_5_method_14_code 11 = .ok (.iconst 1, 1) := by decide +kernel
theorem d_M_person_12 : decode prog_5_method_14_code 12 = .ok (.aload_n 0, 1) := by decide +kernel
theorem d_M_person_13 : decode prog_5_method_14_code 13 = .ok (.getfield 72, 3) := by decide +kernel
theorem d_M_person_16 : decode prog_5_method_14_code 16 = .ok (.bipush 40, 2) := by decide +kernel
theorem d_M_person_18 : decode prog_5_method_14_code 18 = .ok (.if_icmp .ge 7, 3) := by decide +kernel
theorem d_M_person_21 : decode prog_5_method_14_code 21 = .ok (.iconst 1, 1) := by decide +kernel
theorem d_M_person_22 : decode prog_5_method_14_code 22 = .ok (.goto 4, 3) := by decide +kernel
theorem d_M_person_25 : decode prog_5_method_14_code 25 = .ok (.iconst 0, 1) := by decide +kernel
theorem d_M_person_26 : decode prog_5_method_14_code 26 = .ok (.invokevirtual 106, 3) := by decide +kernel
theorem d_M_person_29 : decode prog_5_method_14_code 29 = .ok (.ifCond .ne 5, 3) := by decide +kernel
theorem d_M_person_32 : decode prog_5_method_14_code 32 = .ok (.iconst 0, 1) := by decide +kernel
theorem d_M_person_33 : decode prog_5_method_14_code 33 = .ok (.ireturn, 1) := by decide +kernel
theorem d_M_person_34 : decode prog_5_method_14_code 34 = .ok (.aload_n 0, 1) := by decide +kernel
theorem d_M_person_35 : decode prog_5_method_14_code 35 = .ok (.getfield 7, 3) := by decide +kernel
theorem d_M_person_38 : decode prog_5_method_14_code 38 = .ok (.aload_n 0, 1) := by decide +kernel
theorem d_M_person_39 : decode prog_5_method_14_code 39 = .ok (.getfield 72, 3) := by decide +kernel
theorem d_M_person_42 : decode prog_5_method_14_code 42 = .ok (.iload_n 1, 1) := by decide +kernel
theorem d_M_person_43 : decode prog_5_method_14_code 43 = .ok (.iastore, 1) := by decide +kernel
theorem d_M_person_44 : decode prog_5_method_14_code 44 = .ok (.aload_n 0, 1) := by decide +kernel
theorem d_M_person_45 : decode prog_5_method_14_code 45 = .ok (.getfield 13, 3) := by decide +kernel
theorem d_M_person_48 : decode prog_5_method_14_code 48 = .ok (.aload_n 0, 1) := by decide +kernel
theorem d_M_person_49 : decode prog_5_method_14_code 49 = .ok (.getfield 72, 3) := by decide +kernel
theorem d_M_person_52 : decode prog_5_method_14_code 52 = .ok (.iconst (-1), 1) := by decide +kernel
theorem d_M_person_53 : decode prog_5_method_14_code 53 = .ok (.iastore, 1) := by decide +kernel
theorem d_M_person_54 : decode prog_5_method_14_code 54 = .ok (.aload_n 0, 1) := by decide +kernel
theorem d_M_person_55 : decode prog_5_method_14_code 55 = .ok (.getfield 16, 3) := by decide +kernel
theorem d_M_person_58 : decode prog_5_method_14_code 58 = .ok (.aload_n 0, 1) := by decide +kernel
theorem d_M_person_59 : decode prog_5_method_14_code 59 = .ok (.getfield 72, 3) := by decide +kernel
theorem d_M_person_62 : decode prog_5_method_14_code 62 = .ok (.iconst (-1), 1) := by decide +kernel
theorem d_M_person_63 : decode prog_5_method_14_code 63 = .ok (.iastore, 1) := by decide +kernel
theorem d_M_person_64 : decode prog_5_method_14_code 64 = .ok (.aload_n 0, 1) := by decide +kernel
theorem d_M_person_65 : decode prog_5_method_14_code 65 = .ok (.dup, 1) := by decide +kernel
theorem d_M_person_66 : decode prog_5_method_14_code 66 = .ok (.getfield 72, 3) := by decide +kernel
theorem d_M_person_69 : decode prog_5_method_14_code 69 = .ok (.iconst 1, 1) := by decide +kernel
theorem d_M_person_70 : decode prog_5_method_14_code 70 = .ok (.iadd, 1) := by decide +kernel
theorem d_M_person_71 : decode prog_5_method_14_code 71 = .ok (.putfield 72, 3) := by decide +kernel
theorem d_M_person_74 : decode prog_5_method_14_code 74 = .ok (.aload_n 0, 1) := by decide +kernel
theorem d_M_person_75 : decode prog_5_method_14_code 75 = .ok (.getfield 72, 3) := by decide +kernel
theorem d_M_person_78 : decode prog_5_method_14_code 78 = .ok (.iconst 1, 1) := by decide +kernel
theorem d_M_person_79 : decode prog_5_method_14_code 79 = .ok (.isub, 1) := by decide +kernel
theorem d_M_person_80 : decode prog_5_method_14_code 80 = .ok (.ireturn, 1) := by decide +kernel
theorem d_M_within_0 : decode prog_5_method_3_code 0 = .ok (.iload_n 0, 1) := by decide +kernel
theorem d_M_within_1 : decode prog_5_method_3_code 1 = .ok (.iload_n 1, 1) := by decide +kernel
theorem d_M_within_2 : decode prog_5_method_3_code 2 = .ok (.if_icmp .lt 12, 3) := by decide +kernel
theorem d_M_within_5 : decode prog_5_method_3_code 5 = .ok (.iload_n 0, 1) := by decide +kernel
theorem d_M_within_6 : decode prog_5_method_3_code 6 = .ok (.iload_n 2, 1) := by decide +kernel
theorem d_M_within_7 : decode prog_5_method_3_code 7 = .ok (.if_icmp .gt 7, 3) := by decide +kernel
theorem d_M_within_10 : decode prog_5_method_3_code 10 = .ok (.iconst 1, 1) := by decide +kernel
theorem d_M_within_11 : decode prog_5_method_3_code 11 = .ok (.goto 4, 3) := by decide +kernel
theorem d_M_within_14 : decode prog_5_method_3_code 14 = .ok (.iconst 0, 1) := by decide +kernel
theorem d_M_within_15 : decode prog_5_method_3_code 15 = .ok (.ireturn, 1) := by decide +kernel
theorem d_M_goes_0 : decode prog_5_method_4_code 0 = .ok (.iload_n 2, 1) := by decide +kernel
theorem d_M_goes_1 : decode prog_5_method_4_code 1 = .ok (.ifCond .ne 7, 3) := by decide +kernel
theorem d_M_goes_4 : decode prog_5_method_4_code 4 = .ok (.iconst 1, 1) := by decide +kernel
theorem d_M_goes_5 : decode prog_5_method_4_code 5 = .ok (.goto 31, 3) := by decide +kernel
theorem d_M_goes_8 : decode prog_5_method_4_code 8 = .ok (.iload_n 3, 1) := by decide +kernel
theorem d_M_goes_9 : decode prog_5_method_4_code 9 = .ok (.ifCond .ne 7, 3) := by decide +kernel
theorem d_M_goes_12 : decode prog_5_method_4_code 12 = .ok (.iconst 2, 1) := by decide +kernel
theorem d_M_goes_13 : decode prog_5_method_4_code 13 = .ok (.goto 23, 3) := by decide +kernel
theorem d_M_goes_16 : decode prog_5_method_4_code 16 = .ok (.iload 4, 2) := by decide +kernel
theorem d_M_goes_18 : decode prog_5_method_4_code 18 = .ok (.ifCond .ne 7, 3) := by decide +kernel
theorem d_M_goes_21 : decode prog_5_method_4_code 21 = .ok (.iconst 4, 1) := by decide +kernel
theorem d_M_goes_22 : decode prog_5_method_4_code 22 = .ok (.goto 14, 3) := by decide +kernel
theorem d_M_goes_25 : decode prog_5_method_4_code 25 = .ok (.iload 5, 2) := by decide +kernel
theorem d_M_goes_27 : decode prog_5_method_4_code 27 = .ok (.ifCond .ne 8, 3) := by decide +kernel
theorem d_M_goes_30 : decode prog_5_method_4_code 30 = .ok (.bipush 8, 2) := by decide +kernel
theorem d_M_goes_32 : decode prog_5_method_4_code 32 = .ok (.goto 4, 3) := by decide +kernel
theorem d_M_goes_35 : decode prog_5_method_4_code 35 = .ok (.iconst 0, 1) := by decide +kernel
theorem d_M_goes_36 : decode prog_5_method_4_code 36 = .ok (.istore 6, 2) := by decide +kernel
theorem d_M_goes_38 : decode prog_5_method_4_code 38 = .ok (.aload_n 0, 1) := by decide +kernel
theorem d_M_goes_39 : decode prog_5_method_4_code 39 = .ok (.iconst 0, 1) := by decide +kernel
theorem d_M_goes_40 : decode prog_5_method_4_code 40 = .ok (.putfield 69, 3) := by decide +kernel
theorem d_M_goes_43 : decode prog_5_method_4_code 43 = .ok (.iconst 1, 1) := by decide +kernel
theorem d_M_goes_44 : decode prog_5_method_4_code 44 = .ok (.istore 7, 2) := by decide +kernel
theorem d_M_goes_46 : decode prog_5_method_4_code 46 = .ok (.iload 7, 2) := by decide +kernel
theorem d_M_goes_48 : decode prog_5_method_4_code 48 = .ok (.iload 6, 2) := by decide +kernel
theorem d_M_goes_50 : decode prog_5_method_4_code 50 = .ok (.if_icmp .gt 29, 3) := by decide +kernel
theorem d_M_goes_53 : decode prog_5_method_4_code 53 = .ok (.iload_n 1, 1) := by decide +kernel
theorem d_M_goes_54 : decode prog_5_method_4_code 54 = .ok (.iload 7, 2) := by decide +kernel
theorem d_M_goes_56 : decode prog_5_method_4_code 56 = .ok (.iand, 1) := by decide +kernel
theorem d_M_goes_57 : decode prog_5_method_4_code 57 = .ok (.ifCond .le 13, 3) := by decide +kernel
theorem d_M_goes_60 : decode prog_5_method_4_code 60 = .ok (.aload_n 0, 1) := by decide +kernel
theorem d_M_goes_61 : decode prog_5_method_4_code 61 = .ok (.dup, 1) := by decide +kernel
theorem d_M_goes_62 : decode prog_5_method_4_code 62 = .ok (.getfield 69, 3) := by decide +kernel
theorem d_M_goes_65 : decode prog_5_method_4_code 65 = .ok (.iconst 1, 1) := by decide +kernel
theorem d_M_goes_66 : decode prog_5_method_4_code 66 = .ok (.iadd, 1) := by decide +kernel
theorem d_M_goes_67 : decode prog_5_method_4_code 67 = .ok (.putfield 69, 3) := by decide +kernel
theorem d_M_goes_70 : decode prog_5_method_4_code 70 = .ok (.iconst 2, 1) := by decide +kernel
theorem d_M_goes_71 : decode prog_5_method_4_code 71 = .ok (.iload 7, 2) := by decide +kernel
theorem d_M_goes_73 : decode prog_5_method_4_code 73 = .ok (.imul, 1) := by decide +kernel
theorem d_M_goes_74 : decode prog_5_method_4_code 74 = .ok (.istore 7, 2) := by decide +kernel
theorem d_M_goes_76 : decode prog_5_method_4_code 76 = .ok (.goto (-30), 3) := by decide +kernel
theorem d_M_goes_79 : decode prog_5_method_4_code 79 = .ok (.iload 6, 2) := by decide +kernel
theorem d_M_goes_81 : decode prog_5_method_4_code 81 = .ok (.ifCond .ne 7, 3) := by decide +kernel
theorem d_M_goes_84 : decode prog_5_method_4_code 84 = .ok (.iconst 1, 1) := by decide +kernel
theorem d_M_goes_85 : decode prog_5_method_4_code 85 = .ok (.goto 4, 3) := by decide +kernel
theorem d_M_goes_88 : decode prog_5_method_4_code 88 = .ok (.iconst 0, 1) := by decide +kernel
theorem d_M_goes_89 : decode prog_5_method_4_code 89 = .ok (.ireturn, 1) := by decide +kernel
theorem d_M_unit_0 : decode prog_5_method_15_code 0 = .ok (.aload_n 0, 1) := by decide +kernel
theorem d_M_unit_1 : decode prog_5_method_15_code 1 = .ok (.bipush 8, 2) := by decide +kernel
theorem d_M_unit_3 : decode prog_5_method_15_code 3 = .ok (.iconst 1, 1) := by decide +kernel
theorem d_M_unit_4 : decode prog_5_method_15_code 4 = .ok (.iconst 1, 1) := by decide +kernel
theorem d_M_unit_5 : decode prog_5_method_15_code 5 = .ok (.iconst 1, 1) := by decide +kernel
theorem d_M_unit_6 : decode prog_5_method_15_code 6 = .ok (.aload_n 0, 1) := by decide +kernel
theorem d_M_unit_7 : decode prog_5_method_15_code 7 = .ok (.getfield 79, 3) := by decide +kernel
theorem d_M_unit_10 : decode prog_5_method_15_code 10 = .ok (.bipush 20, 2) := by decide +kernel
theorem d_M_unit_12 : decode prog_5_method_15_code 12 = .ok (.if_icmp .ge 7, 3) := by decide +kernel
theorem d_M_unit_15 : decode prog_5_method_15_code 15 = .ok (.iconst 1, 1) := by decide +kernel
theorem d_M_unit_16 : decode prog_5_method_15_code 16 = .ok (.goto 4, 3) := by decide +kernel
theorem d_M_unit_19 : decode prog_5_method_15_code 19 = .ok (.iconst 0, 1) := by decide +kernel
theorem d_M_unit_20 : decode prog_5_method_15_code 20 = .ok (.invokevirtual 106, 3) := by decide +kernel
theorem d_M_unit_23 : decode prog_5_method_15_code 23 = .ok (.ifCond .ne 5, 3) := by decide +kernel
theorem d_M_unit_26 : decode prog_5_method_15_code 26 = .ok (.iconst 0, 1) := by decide +kernel
theorem d_M_unit_27 : decode prog_5_method_15_code 27 = .ok (.ireturn, 1) := by decide +kernel
theorem d_M_unit_28 : decode prog_5_method_15_code 28 = .ok (.aload_n 0, 1) := by decide +kernel
theorem d_M_unit_29 : decode prog_5_method_15_code 29 = .ok (.getfield 19, 3) := by decide +kernel
theorem d_M_unit_32 : decode prog_5_method_15_code 32 = .ok (.aload_n 0, 1) := by decide +kernel
theorem d_M_unit_33 : decode prog_5_method_15_code 33 = .ok (.getfield 79, 3) := by decide +kernel
theorem d_M_unit_36 : decode prog_5_method_15_code 36 = .ok (.iconst (-1), 1) := by decide +kernel
theorem d_M_unit_37 : decode prog_5_method_15_code 37 = .ok (.iastore, 1) := by decide +kernel
theorem d_M_unit_38 : decode prog_5_method_15_code 38 = .ok (.aload_n 0, 1) := by decide +kernel
theorem d_M_unit_39 : decode prog_5_method_15_code 39 = .ok (.dup, 1) := by decide +kernel
theorem d_M_unit_40 : decode prog_5_method_15_code 40 = .ok (.getfield 79, 3) := by decide +kernel
theorem d_M_unit_43 : decode prog_5_method_15_code 43 = .ok (.iconst 1, 1) := by decide +kernel
theorem d_M_unit_44 : decode prog_5_method_15_code 44 = .ok (.iadd, 1) := by decide +kernel
theorem d_M_unit_45 : decode prog_5_method_15_code 45 = .ok (.putfield 79, 3) := by decide +kernel
theorem d_M_unit_48 : decode prog_5_method_15_code 48 = .ok (.aload_n 0, 1) := by decide +kernel
theorem d_M_unit_49 : decode prog_5_method_15_code 49 = .ok (.getfield 79, 3) := by decide +kernel
theorem d_M_unit_52 : decode prog_5_method_15_code 52 = .ok (.iconst 1, 1) := by decide +kernel
theorem d_M_unit_53 : decode prog_5_method_15_code 53 = .ok (.isub, 1) := by decide +kernel
theorem d_M_unit_54 : decode prog_5_method_15_code 54 = .ok (.ireturn, 1) := by decide +kernel
theorem d_M_arrive_0 : decode prog_5_method_16_code 0 = .ok (.aload_n 0, 1) := by decide +kernel
theorem d_M_arrive_1 : decode prog_5_method_16_code 1 = .ok (.iconst 5, 1) := by decide +kernel
theorem d_M_arrive_2 : decode prog_5_method_16_code 2 = .ok (.aload_n 0, 1) := by decide +kernel
theorem d_M_arrive_3 : decode prog_5_method_16_code 3 = .ok (.iload_n 1, 1) := by decide +kernel
theorem d_M_arrive_4 : decode prog_5_method_16_code 4 = .ok (.invokevirtual 110, 3) := by decide +kernel
theorem d_M_arrive_7 : decode prog_5_method_16_code 7 = .ok (.iconst 1, 1) := by decide +kernel
theorem d_M_arrive_8 : decode prog_5_method_16_code 8 = .ok (.aload_n 0, 1) := by decide +kernel
theorem d_M_arrive_9 : decode prog_5_method_16_code 9 = .ok (.iload_n 1, 1) := by decide +kernel
theorem d_M_arrive_10 : decode prog_5_method_16_code 10 = .ok (.invokevirtual 110, 3) := by decide +kernel
theorem d_M_arrive_13 : decode prog_5_method_16_code 13 = .ok (.ifCond .eq 16, 3) := by decide +kernel
theorem d_M_arrive_16 : decode prog_5_method_16_code 16 = .ok (.aload_n 0, 1) := by decide +kernel
theorem d_M_arrive_17 : decode prog_5_method_16_code 17 = .ok (.getfield 13, 3) := by decide +kernel
theorem d_M_arrive_20 : decode prog_5_method_16_code 20 = .ok (.iload_n 1, 1) := by decide +kernel
theorem d_M_arrive_21 : decode prog_5_method_16_code 21 = .ok (.iaload, 1) := by decide +kernel
theorem d_M_arrive_22 : decode prog_5_method_16_code 22 = .ok (.ifCond .ge 7, 3) := by decide +kernel
theorem d_M_arrive_25 : decode prog_5_method_16_code 25 = .ok (.iconst 1, 1) := by decide +kernel
theorem d_M_arrive_26 : decode prog_5_method_16_code 26 = .ok (.goto 4, 3) := by decide +kernel
theorem d_M_arrive_29 : decode prog_5_method_16_code 29 = .ok (.iconst 0, 1) := by decide +kernel
theorem d_M_arrive_30 : decode prog_5_method_16_code 30 = .ok (.iconst 1, 1) := by decide +kernel
theorem d_M_arrive_31 : decode prog_5_method_16_code 31 = .ok (.invokevirtual 106, 3) := by decide +kernel
theorem d_M_arrive_34 : decode prog_5_method_16_code 34 = .ok (.ifCond .ne 4, 3) := by decide +kernel
theorem d_M_arrive_37 : decode prog_5_method_16_code 37 = .ok (.return_, 1) := by decide +kernel
theorem d_M_arrive_38 : decode prog_5_method_16_code 38 = .ok (.aload_n 0, 1) := by decide +kernel
theorem d_M_arrive_39 : decode prog_5_method_16_code 39 = .ok (.getfield 16, 3) := by decide +kernel
theorem d_M_arrive_42 : decode prog_5_method_16_code 42 = .ok (.iload_n 1, 1) := by decide +kernel
theorem d_M_arrive_43 : decode prog_5_method_16_code 43 = .ok (.aload_n 0, 1) := by decide +kernel
theorem d_M_arrive_44 : decode prog_5_method_16_code 44 = .ok (.getfield 89, 3) := by decide +kernel
theorem d_M_arrive_47 : decode prog_5_method_16_code 47 = .ok (.iastore, 1) := by decide +kernel
theorem d_M_arrive_48 : decode prog_5_method_16_code 48 = .ok (.aload_n 0, 1) := by decide +kernel
theorem d_M_arrive_49 : decode prog_5_method_16_code 49 = .ok (.iload_n 1, 1) := by decide +kernel
theorem d_M_arrive_50 : decode prog_5_method_16_code 50 = .ok (.iconst 0, 1) := by decide +kernel
theorem d_M_arrive_51 : decode prog_5_method_16_code 51 = .ok (.invokevirtual 113, 3) := by decide +kernel
theorem d_M_arrive_54 : decode prog_5_method_16_code 54 = .ok (.return_, 1) := by decide +kernel
theorem d_M_isPerson_0 : decode prog_5_method_5_code 0 = .ok (.iload_n 1, 1) := by decide +kernel
theorem d_M_isPerson_1 : decode prog_5_method_5_code 1 = .ok (.iconst 0, 1) := by decide +kernel
theorem d_M_isPerson_2 : decode prog_5_method_5_code 2 = .ok (.aload_n 0, 1) := by decide +kernel
theorem d_M_isPerson_3 : decode prog_5_method_5_code 3 = .ok (.getfield 72, 3) := by decide +kernel
theorem d_M_isPerson_6 : decode prog_5_method_5_code 6 = .ok (.iconst 1, 1) := by decide +kernel
theorem d_M_isPerson_7 : decode prog_5_method_5_code 7 = .ok (.isub, 1) := by decide +kernel
theorem d_M_isPerson_8 : decode prog_5_method_5_code 8 = .ok (.invokestatic 75, 3) := by decide +kernel
theorem d_M_isPerson_11 : decode prog_5_method_5_code 11 = .ok (.ireturn, 1) := by decide +kernel
theorem d_M_moves_0 : decode prog_5_method_13_code 0 = .ok (.aload_n 0, 1) := by decide +kernel
theorem d_M_moves_1 : decode prog_5_method_13_code 1 = .ok (.iload_n 1, 1) := by decide +kernel
theorem d_M_moves_2 : decode prog_5_method_13_code 2 = .ok (.invokevirtual 96, 3) := by decide +kernel
theorem d_M_moves_5 : decode prog_5_method_13_code 5 = .ok (.istore_n 3, 1) := by decide +kernel
theorem d_M_moves_6 : decode prog_5_method_13_code 6 = .ok (.aload_n 0, 1) := by decide +kernel
theorem d_M_moves_7 : decode prog_5_method_13_code 7 = .ok (.getfield 13, 3) := by decide +kernel
theorem d_M_moves_10 : decode prog_5_method_13_code 10 = .ok (.iload_n 1, 1) := by decide +kernel
theorem d_M_moves_11 : decode prog_5_method_13_code 11 = .ok (.iload_n 2, 1) := by decide +kernel
theorem d_M_moves_12 : decode prog_5_method_13_code 12 = .ok (.iastore, 1) := by decide +kernel
theorem d_M_moves_13 : decode prog_5_method_13_code 13 = .ok (.iload_n 3, 1) := by decide +kernel
theorem d_M_moves_14 : decode prog_5_method_13_code 14 = .ok (.ifCond .lt 31, 3) := by decide +kernel
theorem d_M_moves_17 : decode prog_5_method_13_code 17 = .ok (.aload_n 0, 1) := by decide +kernel
theorem d_M_moves_18 : decode prog_5_method_13_code 18 = .ok (.getfield 33, 3) := by decide +kernel
theorem d_M_moves_21 : decode prog_5_method_13_code 21 = .ok (.iload_n 3, 1) := by decide +kernel
theorem d_M_moves_22 : decode prog_5_method_13_code 22 = .ok (.iconst (-1), 1) := by decide +kernel
theorem d_M_moves_23 : decode prog_5_method_13_code 23 = .ok (.iastore, 1) := by decide +kernel
theorem d_M_moves_24 : decode prog_5_method_13_code 24 = .ok (.aload_n 0, 1) := by decide +kernel
theorem d_M_moves_25 : decode prog_5_method_13_code 25 = .ok (.iload_n 3, 1) := by decide +kernel
theorem d_M_moves_26 : decode prog_5_method_13_code 26 = .ok (.invokevirtual 100, 3) := by decide +kernel
theorem d_M_moves_29 : decode prog_5_method_13_code 29 = .ok (.istore 4, 2) := by decide +kernel
theorem d_M_moves_31 : decode prog_5_method_13_code 31 = .ok (.aload_n 0, 1) := by decide +kernel
theorem d_M_moves_32 : decode prog_5_method_13_code 32 = .ok (.getfield 33, 3) := by decide +kernel
theorem d_M_moves_35 : decode prog_5_method_13_code 35 = .ok (.iload_n 3, 1) := by decide +kernel
theorem d_M_moves_36 : decode prog_5_method_13_code 36 = .ok (.iload_n 1, 1) := by decide +kernel
theorem d_M_moves_37 : decode prog_5_method_13_code 37 = .ok (.iastore, 1) := by decide +kernel
theorem d_M_moves_38 : decode prog_5_method_13_code 38 = .ok (.aload_n 0, 1) := by decide +kernel
theorem d_M_moves_39 : decode prog_5_method_13_code 39 = .ok (.iload_n 3, 1) := by decide +kernel
theorem d_M_moves_40 : decode prog_5_method_13_code 40 = .ok (.iload 4, 2) := by decide +kernel
theorem d_M_moves_42 : decode prog_5_method_13_code 42 = .ok (.invokevirtual 103, 3) := by decide +kernel
theorem d_M_moves_45 : decode prog_5_method_13_code 45 = .ok (.iload_n 2, 1) := by decide +kernel
theorem d_M_moves_46 : decode prog_5_method_13_code 46 = .ok (.ifCond .lt 18, 3) := by decide +kernel
theorem d_M_moves_49 : decode prog_5_method_13_code 49 = .ok (.aload_n 0, 1) := by decide +kernel
theorem d_M_moves_50 : decode prog_5_method_13_code 50 = .ok (.getfield 33, 3) := by decide +kernel
theorem d_M_moves_53 : decode prog_5_method_13_code 53 = .ok (.iload_n 2, 1) := by decide +kernel
theorem d_M_moves_54 : decode prog_5_method_13_code 54 = .ok (.iaload, 1) := by decide +kernel
theorem d_M_moves_55 : decode prog_5_method_13_code 55 = .ok (.ifCond .ge 9, 3) := by decide +kernel
theorem d_M_moves_58 : decode prog_5_method_13_code 58 = .ok (.aload_n 0, 1) := by decide +kernel
theorem d_M_moves_59 : decode prog_5_method_13_code 59 = .ok (.iload_n 2, 1) := by decide +kernel
theorem d_M_moves_60 : decode prog_5_method_13_code 60 = .ok (.iload_n 1, 1) := by decide +kernel
theorem d_M_moves_61 : decode prog_5_method_13_code 61 = .ok (.invokevirtual 103, 3) := by decide +kernel
theorem d_M_moves_64 : decode prog_5_method_13_code 64 = .ok (.return_, 1) := by decide +kernel
theorem d_M_leads_0 : decode prog_5_method_9_code 0 = .ok (.iconst 0, 1) := by decide +kernel
theorem d_M_leads_1 : decode prog_5_method_9_code 1 = .ok (.istore_n 2, 1) := by decide +kernel
theorem d_M_leads_2 : decode prog_5_method_9_code 2 = .ok (.iload_n 2, 1) := by decide +kernel
theorem d_M_leads_3 : decode prog_5_method_9_code 3 = .ok (.aload_n 0, 1) := by decide +kernel
theorem d_M_leads_4 : decode prog_5_method_9_code 4 = .ok (.getfield 22, 3) := by decide +kernel
theorem d_M_leads_7 : decode prog_5_method_9_code 7 = .ok (.if_icmp .ge 21, 3) := by decide +kernel
theorem d_M_leads_10 : decode prog_5_method_9_code 10 = .ok (.aload_n 0, 1) := by decide +kernel
theorem d_M_leads_11 : decode prog_5_method_9_code 11 = .ok (.getfield 33, 3) := by decide +kernel
theorem d_M_leads_14 : decode prog_5_method_9_code 14 = .ok (.iload_n 2, 1) := by decide +kernel
theorem d_M_leads_15 : decode prog_5_method_9_code 15 = .ok (.iaload, 1) := by decide +kernel
theorem d_M_leads_16 : decode prog_5_method_9_code 16 = .ok (.iload_n 1, 1) := by decide +kernel
theorem d_M_leads_17 : decode prog_5_method_9_code 17 = .ok (.if_icmp .ne 5, 3) := by decide +kernel
theorem d_M_leads_20 : decode prog_5_method_9_code 20 = .ok (.iload_n 2, 1) := by decide +kernel
theorem d_M_leads_21 : decode prog_5_method_9_code 21 = .ok (.ireturn, 1) := by decide +kernel
theorem d_M_leads_22 : decode prog_5_method_9_code 22 = .ok (.iinc 2 1, 3) := by decide +kernel
theorem d_M_leads_25 : decode prog_5_method_9_code 25 = .ok (.goto (-23), 3) := by decide +kernel
theorem d_M_leads_28 : decode prog_5_method_9_code 28 = .ok (.iconst (-1), 1) := by decide +kernel
theorem d_M_leads_29 : decode prog_5_method_9_code 29 = .ok (.ireturn, 1) := by decide +kernel
theorem d_M_next_0 : decode prog_5_method_12_code 0 = .ok (.iconst (-1), 1) := by decide +kernel
theorem d_M_next_1 : decode prog_5_method_12_code 1 = .ok (.istore_n 2, 1) := by decide +kernel
theorem d_M_next_2 : decode prog_5_method_12_code 2 = .ok (.iconst 0, 1) := by decide +kernel
theorem d_M_next_3 : decode prog_5_method_12_code 3 = .ok (.istore_n 3, 1) := by decide +kernel
theorem d_M_next_4 : decode prog_5_method_12_code 4 = .ok (.iload_n 3, 1) := by decide +kernel
theorem d_M_next_5 : decode prog_5_method_12_code 5 = .ok (.aload_n 0, 1) := by decide +kernel
theorem d_M_next_6 : decode prog_5_method_12_code 6 = .ok (.getfield 72, 3) := by decide +kernel
theorem d_M_next_9 : decode prog_5_method_12_code 9 = .ok (.if_icmp .ge 81, 3) := by decide +kernel
theorem d_M_next_12 : decode prog_5_method_12_code 12 = .ok (.aload_n 0, 1) := by decide +kernel
theorem d_M_next_13 : decode prog_5_method_12_code 13 = .ok (.getfield 13, 3) := by decide +kernel
theorem d_M_next_16 : decode prog_5_method_12_code 16 = .ok (.iload_n 3, 1) := by decide +kernel
theorem d_M_next_17 : decode prog_5_method_12_code 17 = .ok (.iaload, 1) := by decide +kernel
theorem d_M_next_18 : decode prog_5_method_12_code 18 = .ok (.iload_n 1, 1) := by decide +kernel
theorem d_M_next_19 : decode prog_5_method_12_code 19 = .ok (.if_icmp .ne 65, 3) := by decide +kernel
theorem d_M_next_22 : decode prog_5_method_12_code 22 = .ok (.aload_n 0, 1) := by decide +kernel
theorem d_M_next_23 : decode prog_5_method_12_code 23 = .ok (.iload_n 3, 1) := by decide +kernel
theorem d_M_next_24 : decode prog_5_method_12_code 24 = .ok (.invokevirtual 96, 3) := by decide +kernel
theorem d_M_next_27 : decode prog_5_method_12_code 27 = .ok (.ifCond .lt 6, 3) := by decide +kernel
theorem d_M_next_30 : decode prog_5_method_12_code 30 = .ok (.goto 54, 3) := by decide +kernel
theorem d_M_next_33 : decode prog_5_method_12_code 33 = .ok (.iload_n 2, 1) := by decide +kernel
theorem d_M_next_34 : decode prog_5_method_12_code 34 = .ok (.ifCond .lt 48, 3) := by decide +kernel
theorem d_M_next_37 : decode prog_5_method_12_code 37 = .ok (.aload_n 0, 1) := by decide +kernel
theorem d_M_next_38 : decode prog_5_method_12_code 38 = .ok (.getfield 7, 3) := by decide +kernel
theorem d_M_next_41 : decode prog_5_method_12_code 41 = .ok (.iload_n 3, 1) := by decide +kernel
theorem d_M_next_42 : decode prog_5_method_12_code 42 = .ok (.iaload, 1) := by decide +kernel
theorem d_M_next_43 : decode prog_5_method_12_code 43 = .ok (.aload_n 0, 1) := by decide +kernel
theorem d_M_next_44 : decode prog_5_method_12_code 44 = .ok (.getfield 7, 3) := by decide +kernel
theorem d_M_next_47 : decode prog_5_method_12_code 47 = .ok (.iload_n 2, 1) := by decide +kernel
theorem d_M_next_48 : decode prog_5_method_12_code 48 = .ok (.iaload, 1) := by decide +kernel
theorem d_M_next_49 : decode prog_5_method_12_code 49 = .ok (.if_icmp .gt 33, 3) := by decide +kernel
theorem d_M_next_52 : decode prog_5_method_12_code 52 = .ok (.aload_n 0, 1) := by decide +kernel
theorem d_M_next_53 : decode prog_5_method_12_code 53 = .ok (.getfield 7, 3) := by decide +kernel
theorem d_M_next_56 : decode prog_5_method_12_code 56 = .ok (.iload_n 3, 1) := by decide +kernel
theorem d_M_next_57 : decode prog_5_method_12_code 57 = .ok (.iaload, 1) := by decide +kernel
theorem d_M_next_58 : decode prog_5_method_12_code 58 = .ok (.aload_n 0, 1) := by decide +kernel
theorem d_M_next_59 : decode prog_5_method_12_code 59 = .ok (.getfield 7, 3) := by decide +kernel
theorem d_M_next_62 : decode prog_5_method_12_code 62 = .ok (.iload_n 2, 1) := by decide +kernel
theorem d_M_next_63 : decode prog_5_method_12_code 63 = .ok (.iaload, 1) := by decide +kernel
theorem d_M_next_64 : decode prog_5_method_12_code 64 = .ok (.if_icmp .ne 20, 3) := by decide +kernel
theorem d_M_next_67 : decode prog_5_method_12_code 67 = .ok (.aload_n 0, 1) := by decide +kernel
theorem d_M_next_68 : decode prog_5_method_12_code 68 = .ok (.getfield 16, 3) := by decide +kernel
theorem d_M_next_71 : decode prog_5_method_12_code 71 = .ok (.iload_n 3, 1) := by decide +kernel
theorem d_M_next_72 : decode prog_5_method_12_code 72 = .ok (.iaload, 1) := by decide +kernel
theorem d_M_next_73 : decode prog_5_method_12_code 73 = .ok (.aload_n 0, 1) := by decide +kernel
theorem d_M_next_74 : decode prog_5_method_12_code 74 = .ok (.getfield 16, 3) := by decide +kernel
theorem d_M_next_77 : decode prog_5_method_12_code 77 = .ok (.iload_n 2, 1) := by decide +kernel
theorem d_M_next_78 : decode prog_5_method_12_code 78 = .ok (.iaload, 1) := by decide +kernel
theorem d_M_next_79 : decode prog_5_method_12_code 79 = .ok (.if_icmp .ge 5, 3) := by decide +kernel
theorem d_M_next_82 : decode prog_5_method_12_code 82 = .ok (.iload_n 3, 1) := by decide +kernel
theorem d_M_next_83 : decode prog_5_method_12_code 83 = .ok (.istore_n 2, 1) := by decide +kernel
theorem d_M_next_84 : decode prog_5_method_12_code 84 = .ok (.iinc 3 1, 3) := by decide +kernel
theorem d_M_next_87 : decode prog_5_method_12_code 87 = .ok (.goto (-83), 3) := by decide +kernel
theorem d_M_next_90 : decode prog_5_method_12_code 90 = .ok (.iload_n 2, 1) := by decide +kernel
theorem d_M_next_91 : decode prog_5_method_12_code 91 = .ok (.ireturn, 1) := by decide +kernel
theorem d_M_lead_0 : decode prog_5_method_11_code 0 = .ok (.aload_n 0, 1) := by decide +kernel
theorem d_M_lead_1 : decode prog_5_method_11_code 1 = .ok (.getfield 33, 3) := by decide +kernel
theorem d_M_lead_4 : decode prog_5_method_11_code 4 = .ok (.iload_n 1, 1) := by decide +kernel
theorem d_M_lead_5 : decode prog_5_method_11_code 5 = .ok (.iaload, 1) := by decide +kernel
theorem d_M_lead_6 : decode prog_5_method_11_code 6 = .ok (.iload_n 2, 1) := by decide +kernel
theorem d_M_lead_7 : decode prog_5_method_11_code 7 = .ok (.if_icmp .ne 4, 3) := by decide +kernel
theorem d_M_lead_10 : decode prog_5_method_11_code 10 = .ok (.return_, 1) := by decide +kernel
theorem d_M_lead_11 : decode prog_5_method_11_code 11 = .ok (.aload_n 0, 1) := by decide +kernel
theorem d_M_lead_12 : decode prog_5_method_11_code 12 = .ok (.getfield 33, 3) := by decide +kernel
theorem d_M_lead_15 : decode prog_5_method_11_code 15 = .ok (.iload_n 1, 1) := by decide +kernel
theorem d_M_lead_16 : decode prog_5_method_11_code 16 = .ok (.iload_n 2, 1) := by decide +kernel
theorem d_M_lead_17 : decode prog_5_method_11_code 17 = .ok (.iastore, 1) := by decide +kernel
theorem d_M_lead_18 : decode prog_5_method_11_code 18 = .ok (.aload_n 0, 1) := by decide +kernel
theorem d_M_lead_19 : decode prog_5_method_11_code 19 = .ok (.getfield 36, 3) := by decide +kernel
theorem d_M_lead_22 : decode prog_5_method_11_code 22 = .ok (.iload_n 1, 1) := by decide +kernel
theorem d_M_lead_23 : decode prog_5_method_11_code 23 = .ok (.iconst (-1), 1) := by decide +kernel
theorem d_M_lead_24 : decode prog_5_method_11_code 24 = .ok (.iastore, 1) := by decide +kernel
theorem d_M_lead_25 : decode prog_5_method_11_code 25 = .ok (.aload_n 0, 1) := by decide +kernel
theorem d_M_lead_26 : decode prog_5_method_11_code 26 = .ok (.iload_n 1, 1) := by decide +kernel
theorem d_M_lead_27 : decode prog_5_method_11_code 27 = .ok (.iload_n 2, 1) := by decide +kernel
theorem d_M_lead_28 : decode prog_5_method_11_code 28 = .ok (.invokevirtual 92, 3) := by decide +kernel
theorem d_M_lead_31 : decode prog_5_method_11_code 31 = .ok (.iconst 0, 1) := by decide +kernel
theorem d_M_lead_32 : decode prog_5_method_11_code 32 = .ok (.istore_n 3, 1) := by decide +kernel
theorem d_M_lead_33 : decode prog_5_method_11_code 33 = .ok (.iload_n 3, 1) := by decide +kernel
theorem d_M_lead_34 : decode prog_5_method_11_code 34 = .ok (.aload_n 0, 1) := by decide +kernel
theorem d_M_lead_35 : decode prog_5_method_11_code 35 = .ok (.getfield 22, 3) := by decide +kernel
theorem d_M_lead_38 : decode prog_5_method_11_code 38 = .ok (.if_icmp .ge 30, 3) := by decide +kernel
theorem d_M_lead_41 : decode prog_5_method_11_code 41 = .ok (.iload_n 2, 1) := by decide +kernel
theorem d_M_lead_42 : decode prog_5_method_11_code 42 = .ok (.ifCond .lt 20, 3) := by decide +kernel
theorem d_M_lead_45 : decode prog_5_method_11_code 45 = .ok (.aload_n 0, 1) := by decide +kernel
theorem d_M_lead_46 : decode prog_5_method_11_code 46 = .ok (.getfield 36, 3) := by decide +kernel
theorem d_M_lead_49 : decode prog_5_method_11_code 49 = .ok (.iload_n 3, 1) := by decide +kernel
theorem d_M_lead_50 : decode prog_5_method_11_code 50 = .ok (.iaload, 1) := by decide +kernel
theorem d_M_lead_51 : decode prog_5_method_11_code 51 = .ok (.iload_n 2, 1) := by decide +kernel
theorem d_M_lead_52 : decode prog_5_method_11_code 52 = .ok (.if_icmp .ne 10, 3) := by decide +kernel
theorem d_M_lead_55 : decode prog_5_method_11_code 55 = .ok (.aload_n 0, 1) := by decide +kernel
theorem d_M_lead_56 : decode prog_5_method_11_code 56 = .ok (.getfield 36, 3) := by decide +kernel
theorem d_M_lead_59 : decode prog_5_method_11_code 59 = .ok (.iload_n 3, 1) := by decide +kernel
theorem d_M_lead_60 : decode prog_5_method_11_code 60 = .ok (.iconst (-1), 1) := by decide +kernel
theorem d_M_lead_61 : decode prog_5_method_11_code 61 = .ok (.iastore, 1) := by decide +kernel
theorem d_M_lead_62 : decode prog_5_method_11_code 62 = .ok (.iinc 3 1, 3) := by decide +kernel
theorem d_M_lead_65 : decode prog_5_method_11_code 65 = .ok (.goto (-32), 3) := by decide +kernel
theorem d_M_lead_68 : decode prog_5_method_11_code 68 = .ok (.return_, 1) := by decide +kernel
theorem d_M_row_0 : decode prog_5_method_10_code 0 = .ok (.aload_n 0, 1) := by decide +kernel
theorem d_M_row_1 : decode prog_5_method_10_code 1 = .ok (.getfield 86, 3) := by decide +kernel
theorem d_M_row_4 : decode prog_5_method_10_code 4 = .ok (.sipush 400, 3) := by decide +kernel
theorem d_M_row_7 : decode prog_5_method_10_code 7 = .ok (.irem, 1) := by decide +kernel
theorem d_M_row_8 : decode prog_5_method_10_code 8 = .ok (.istore_n 3, 1) := by decide +kernel
theorem d_M_row_9 : decode prog_5_method_10_code 9 = .ok (.aload_n 0, 1) := by decide +kernel
theorem d_M_row_10 : decode prog_5_method_10_code 10 = .ok (.getfield 86, 3) := by decide +kernel
theorem d_M_row_13 : decode prog_5_method_10_code 13 = .ok (.sipush 400, 3) := by decide +kernel
theorem d_M_row_16 : decode prog_5_method_10_code 16 = .ok (.if_icmp .lt 30, 3) := by decide +kernel
theorem d_M_row_19 : decode prog_5_method_10_code 19 = .ok (.aload_n 0, 1) := by decide +kernel
theorem d_M_row_20 : decode prog_5_method_10_code 20 = .ok (.getfield 63, 3) := by decide +kernel
theorem d_M_row_23 : decode prog_5_method_10_code 23 = .ok (.aload_n 0, 1) := by decide +kernel
theorem d_M_row_24 : decode prog_5_method_10_code 24 = .ok (.getfield 54, 3) := by decide +kernel
theorem d_M_row_27 : decode prog_5_method_10_code 27 = .ok (.iload_n 3, 1) := by decide +kernel
theorem d_M_row_28 : decode prog_5_method_10_code 28 = .ok (.iaload, 1) := by decide +kernel
theorem d_M_row_29 : decode prog_5_method_10_code 29 = .ok (.aload_n 0, 1) := by decide +kernel
theorem d_M_row_30 : decode prog_5_method_10_code 30 = .ok (.getfield 57, 3) := by decide +kernel
theorem d_M_row_33 : decode prog_5_method_10_code 33 = .ok (.iload_n 3, 1) := by decide +kernel
theorem d_M_row_34 : decode prog_5_method_10_code 34 = .ok (.iaload, 1) := by decide +kernel
theorem d_M_row_35 : decode prog_5_method_10_code 35 = .ok (.iastore, 1) := by decide +kernel
theorem d_M_row_36 : decode prog_5_method_10_code 36 = .ok (.aload_n 0, 1) := by decide +kernel
theorem d_M_row_37 : decode prog_5_method_10_code 37 = .ok (.aload_n 0, 1) := by decide +kernel
theorem d_M_row_38 : decode prog_5_method_10_code 38 = .ok (.getfield 60, 3) := by decide +kernel
theorem d_M_row_41 : decode prog_5_method_10_code 41 = .ok (.iload_n 3, 1) := by decide +kernel
theorem d_M_row_42 : decode prog_5_method_10_code 42 = .ok (.iaload, 1) := by decide +kernel
theorem d_M_row_43 : decode prog_5_method_10_code 43 = .ok (.putfield 66, 3) := by decide +kernel
theorem d_M_row_46 : decode prog_5_method_10_code 46 = .ok (.aload_n 0, 1) := by decide +kernel
theorem d_M_row_47 : decode prog_5_method_10_code 47 = .ok (.getfield 54, 3) := by decide +kernel
theorem d_M_row_50 : decode prog_5_method_10_code 50 = .ok (.iload_n 3, 1) := by decide +kernel
theorem d_M_row_51 : decode prog_5_method_10_code 51 = .ok (.iload_n 1, 1) := by decide +kernel
theorem d_M_row_52 : decode prog_5_method_10_code 52 = .ok (.iastore, 1) := by decide +kernel
theorem d_M_row_53 : decode prog_5_method_10_code 53 = .ok (.aload_n 0, 1) := by decide +kernel
theorem d_M_row_54 : decode prog_5_method_10_code 54 = .ok (.getfield 57, 3) := by decide +kernel
theorem d_M_row_57 : decode prog_5_method_10_code 57 = .ok (.iload_n 3, 1) := by decide +kernel
theorem d_M_row_58 : decode prog_5_method_10_code 58 = .ok (.iload_n 2, 1) := by decide +kernel
theorem d_M_row_59 : decode prog_5_method_10_code 59 = .ok (.iastore, 1) := by decide +kernel
theorem d_M_row_60 : decode prog_5_method_10_code 60 = .ok (.aload_n 0, 1) := by decide +kernel
theorem d_M_row_61 : decode prog_5_method_10_code 61 = .ok (.getfield 60, 3) := by decide +kernel
theorem d_M_row_64 : decode prog_5_method_10_code 64 = .ok (.iload_n 3, 1) := by decide +kernel
theorem d_M_row_65 : decode prog_5_method_10_code 65 = .ok (.aload_n 0, 1) := by decide +kernel
theorem d_M_row_66 : decode prog_5_method_10_code 66 = .ok (.getfield 89, 3) := by decide +kernel
theorem d_M_row_69 : decode prog_5_method_10_code 69 = .ok (.iastore, 1) := by decide +kernel
theorem d_M_row_70 : decode prog_5_method_10_code 70 = .ok (.aload_n 0, 1) := by decide +kernel
theorem d_M_row_71 : decode prog_5_method_10_code 71 = .ok (.dup, 1) := by decide +kernel
theorem d_M_row_72 : decode prog_5_method_10_code 72 = .ok (.getfield 86, 3) := by decide +kernel
theorem d_M_row_75 : decode prog_5_method_10_code 75 = .ok (.iconst 1, 1) := by decide +kernel
theorem d_M_row_76 : decode prog_5_method_10_code 76 = .ok (.iadd, 1) := by decide +kernel
theorem d_M_row_77 : decode prog_5_method_10_code 77 = .ok (.putfield 86, 3) := by decide +kernel
theorem d_M_row_80 : decode prog_5_method_10_code 80 = .ok (.return_, 1) := by decide +kernel
theorem d_M_leave_0 : decode prog_5_method_17_code 0 = .ok (.aload_n 0, 1) := by decide +kernel
theorem d_M_leave_1 : decode prog_5_method_17_code 1 = .ok (.iconst 5, 1) := by decide +kernel
theorem d_M_leave_2 : decode prog_5_method_17_code 2 = .ok (.aload_n 0, 1) := by decide +kernel
theorem d_M_leave_3 : decode prog_5_method_17_code 3 = .ok (.iload_n 1, 1) := by decide +kernel
theorem d_M_leave_4 : decode prog_5_method_17_code 4 = .ok (.invokevirtual 110, 3) := by decide +kernel
theorem d_M_leave_7 : decode prog_5_method_17_code 7 = .ok (.iconst 1, 1) := by decide +kernel
theorem d_M_leave_8 : decode prog_5_method_17_code 8 = .ok (.aload_n 0, 1) := by decide +kernel
theorem d_M_leave_9 : decode prog_5_method_17_code 9 = .ok (.iload_n 1, 1) := by decide +kernel
theorem d_M_leave_10 : decode prog_5_method_17_code 10 = .ok (.invokevirtual 110, 3) := by decide +kernel
theorem d_M_leave_13 : decode prog_5_method_17_code 13 = .ok (.ifCond .eq 16, 3) := by decide +kernel
theorem d_M_leave_16 : decode prog_5_method_17_code 16 = .ok (.aload_n 0, 1) := by decide +kernel
theorem d_M_leave_17 : decode prog_5_method_17_code 17 = .ok (.getfield 13, 3) := by decide +kernel
theorem d_M_leave_20 : decode prog_5_method_17_code 20 = .ok (.iload_n 1, 1) := by decide +kernel
theorem d_M_leave_21 : decode prog_5_method_17_code 21 = .ok (.iaload, 1) := by decide +kernel
theorem d_M_leave_22 : decode prog_5_method_17_code 22 = .ok (.ifCond .lt 7, 3) := by decide +kernel
theorem d_M_leave_25 : decode prog_5_method_17_code 25 = .ok (.iconst 1, 1) := by decide +kernel
theorem d_M_leave_26 : decode prog_5_method_17_code 26 = .ok (.goto 4, 3) := by decide +kernel
theorem d_M_leave_29 : decode prog_5_method_17_code 29 = .ok (.iconst 0, 1) := by decide +kernel
theorem d_M_leave_30 : decode prog_5_method_17_code 30 = .ok (.iconst 1, 1) := by decide +kernel
theorem d_M_leave_31 : decode prog_5_method_17_code 31 = .ok (.invokevirtual 106, 3) := by decide +kernel
theorem d_M_leave_34 : decode prog_5_method_17_code 34 = .ok (.ifCond .ne 4, 3) := by decide +kernel
theorem d_M_leave_37 : decode prog_5_method_17_code 37 = .ok (.return_, 1) := by decide +kernel
theorem d_M_leave_38 : decode prog_5_method_17_code 38 = .ok (.iconst 0, 1) := by decide +kernel
theorem d_M_leave_39 : decode prog_5_method_17_code 39 = .ok (.istore_n 2, 1) := by decide +kernel
theorem d_M_leave_40 : decode prog_5_method_17_code 40 = .ok (.iload_n 2, 1) := by decide +kernel
theorem d_M_leave_41 : decode prog_5_method_17_code 41 = .ok (.aload_n 0, 1) := by decide +kernel
theorem d_M_leave_42 : decode prog_5_method_17_code 42 = .ok (.getfield 22, 3) := by decide +kernel
theorem d_M_leave_45 : decode prog_5_method_17_code 45 = .ok (.if_icmp .ge 26, 3) := by decide +kernel
theorem d_M_leave_48 : decode prog_5_method_17_code 48 = .ok (.aload_n 0, 1) := by decide +kernel
theorem d_M_leave_49 : decode prog_5_method_17_code 49 = .ok (.getfield 36, 3) := by decide +kernel
theorem d_M_leave_52 : decode prog_5_method_17_code 52 = .ok (.iload_n 2, 1) := by decide +kernel
theorem d_M_leave_53 : decode prog_5_method_17_code 53 = .ok (.iaload, 1) := by decide +kernel
theorem d_M_leave_54 : decode prog_5_method_17_code 54 = .ok (.iload_n 1, 1) := by decide +kernel
theorem d_M_leave_55 : decode prog_5_method_17_code 55 = .ok (.if_icmp .ne 10, 3) := by decide +kernel
theorem d_M_leave_58 : decode prog_5_method_17_code 58 = .ok (.aload_n 0, 1) := by decide +kernel
theorem d_M_leave_59 : decode prog_5_method_17_code 59 = .ok (.getfield 36, 3) := by decide +kernel
theorem d_M_leave_62 : decode prog_5_method_17_code 62 = .ok (.iload_n 2, 1) := by decide +kernel
theorem d_M_leave_63 : decode prog_5_method_17_code 63 = .ok (.iconst (-1), 1) := by decide +kernel
theorem d_M_leave_64 : decode prog_5_method_17_code 64 = .ok (.iastore, 1) := by decide +kernel
theorem d_M_leave_65 : decode prog_5_method_17_code 65 = .ok (.iinc 2 1, 3) := by decide +kernel
theorem d_M_leave_68 : decode prog_5_method_17_code 68 = .ok (.goto (-28), 3) := by decide +kernel
theorem d_M_leave_71 : decode prog_5_method_17_code 71 = .ok (.aload_n 0, 1) := by decide +kernel
theorem d_M_leave_72 : decode prog_5_method_17_code 72 = .ok (.iload_n 1, 1) := by decide +kernel
theorem d_M_leave_73 : decode prog_5_method_17_code 73 = .ok (.iconst (-1), 1) := by decide +kernel
theorem d_M_leave_74 : decode prog_5_method_17_code 74 = .ok (.invokevirtual 113, 3) := by decide +kernel
theorem d_M_leave_77 : decode prog_5_method_17_code 77 = .ok (.aload_n 0, 1) := by decide +kernel
theorem d_M_leave_78 : decode prog_5_method_17_code 78 = .ok (.getfield 16, 3) := by decide +kernel
theorem d_M_leave_81 : decode prog_5_method_17_code 81 = .ok (.iload_n 1, 1) := by decide +kernel
theorem d_M_leave_82 : decode prog_5_method_17_code 82 = .ok (.iconst (-1), 1) := by decide +kernel
theorem d_M_leave_83 : decode prog_5_method_17_code 83 = .ok (.iastore, 1) := by decide +kernel
theorem d_M_leave_84 : decode prog_5_method_17_code 84 = .ok (.return_, 1) := by decide +kernel
theorem d_M_go_0 : decode prog_5_method_18_code 0 = .ok (.aload_n 0, 1) := by decide +kernel
theorem d_M_go_1 : decode prog_5_method_18_code 1 = .ok (.iload_n 1, 1) := by decide +kernel
theorem d_M_go_2 : decode prog_5_method_18_code 2 = .ok (.invokevirtual 110, 3) := by decide +kernel
theorem d_M_go_5 : decode prog_5_method_18_code 5 = .ok (.ifCond .eq 15, 3) := by decide +kernel
theorem d_M_go_8 : decode prog_5_method_18_code 8 = .ok (.aload_n 0, 1) := by decide +kernel
theorem d_M_go_9 : decode prog_5_method_18_code 9 = .ok (.iload_n 2, 1) := by decide +kernel
theorem d_M_go_10 : decode prog_5_method_18_code 10 = .ok (.invokevirtual 82, 3) := by decide +kernel
theorem d_M_go_13 : decode prog_5_method_18_code 13 = .ok (.ifCond .eq 7, 3) := by decide +kernel
theorem d_M_go_16 : decode prog_5_method_18_code 16 = .ok (.iconst 1, 1) := by decide +kernel
theorem d_M_go_17 : decode prog_5_method_18_code 17 = .ok (.goto 4, 3) := by decide +kernel
theorem d_M_go_20 : decode prog_5_method_18_code 20 = .ok (.iconst 0, 1) := by decide +kernel
theorem d_M_go_21 : decode prog_5_method_18_code 21 = .ok (.istore_n 3, 1) := by decide +kernel
theorem d_M_go_22 : decode prog_5_method_18_code 22 = .ok (.aload_n 0, 1) := by decide +kernel
theorem d_M_go_23 : decode prog_5_method_18_code 23 = .ok (.iconst 5, 1) := by decide +kernel
theorem d_M_go_24 : decode prog_5_method_18_code 24 = .ok (.iload_n 3, 1) := by decide +kernel
theorem d_M_go_25 : decode prog_5_method_18_code 25 = .ok (.iconst 1, 1) := by decide +kernel
theorem d_M_go_26 : decode prog_5_method_18_code 26 = .ok (.iload_n 3, 1) := by decide +kernel
theorem d_M_go_27 : decode prog_5_method_18_code 27 = .ok (.ifCond .eq 34, 3) := by decide +kernel
theorem d_M_go_30 : decode prog_5_method_18_code 30 = .ok (.aload_n 0, 1) := by decide +kernel
theorem d_M_go_31 : decode prog_5_method_18_code 31 = .ok (.getfield 13, 3) := by decide +kernel
theorem d_M_go_34 : decode prog_5_method_18_code 34 = .ok (.iload_n 1, 1) := by decide +kernel
theorem d_M_go_35 : decode prog_5_method_18_code 35 = .ok (.iaload, 1) := by decide +kernel
theorem d_M_go_36 : decode prog_5_method_18_code 36 = .ok (.ifCond .lt 25, 3) := by decide +kernel
theorem d_M_go_39 : decode prog_5_method_18_code 39 = .ok (.aload_n 0, 1) := by decide +kernel
theorem d_M_go_40 : decode prog_5_method_18_code 40 = .ok (.getfield 13, 3) := by decide +kernel
theorem d_M_go_43 : decode prog_5_method_18_code 43 = .ok (.iload_n 1, 1) := by decide +kernel
theorem d_M_go_44 : decode prog_5_method_18_code 44 = .ok (.iaload, 1) := by decide +kernel
theorem d_M_go_45 : decode prog_5_method_18_code 45 = .ok (.iload_n 2, 1) := by decide +kernel
theorem d_M_go_46 : decode prog_5_method_18_code 46 = .ok (.if_icmp .eq 15, 3) := by decide +kernel
theorem d_M_go_49 : decode prog_5_method_18_code 49 = .ok (.aload_n 0, 1) := by decide +kernel
theorem d_M_go_50 : decode prog_5_method_18_code 50 = .ok (.iload_n 2, 1) := by decide +kernel
theorem d_M_go_51 : decode prog_5_method_18_code 51 = .ok (.invokevirtual 116, 3) := by decide +kernel
theorem d_M_go_54 : decode prog_5_method_18_code 54 = .ok (.ifCond .eq 7, 3) := by decide +kernel
theorem d_M_go_57 : decode prog_5_method_18_code 57 = .ok (.iconst 1, 1) := by decide +kernel
theorem d_M_go_58 : decode prog_5_method_18_code 58 = .ok (.goto 4, 3) := by decide +kernel
theorem d_M_go_61 : decode prog_5_method_18_code 61 = .ok (.iconst 0, 1) := by decide +kernel
theorem d_M_go_62 : decode prog_5_method_18_code 62 = .ok (.iconst 1, 1) := by decide +kernel
theorem d_M_go_63 : decode prog_5_method_18_code 63 = .ok (.invokevirtual 106, 3) := by decide +kernel
theorem d_M_go_66 : decode prog_5_method_18_code 66 = .ok (.ifCond .ne 4, 3) := by decide +kernel
theorem d_M_go_69 : decode prog_5_method_18_code 69 = .ok (.return_, 1) := by decide +kernel
theorem d_M_go_70 : decode prog_5_method_18_code 70 = .ok (.aload_n 0, 1) := by decide +kernel
theorem d_M_go_71 : decode prog_5_method_18_code 71 = .ok (.iload_n 1, 1) := by decide +kernel
theorem d_M_go_72 : decode prog_5_method_18_code 72 = .ok (.iload_n 2, 1) := by decide +kernel
theorem d_M_go_73 : decode prog_5_method_18_code 73 = .ok (.invokevirtual 113, 3) := by decide +kernel
theorem d_M_go_76 : decode prog_5_method_18_code 76 = .ok (.return_, 1) := by decide +kernel
theorem d_M_isSector_0 : decode prog_5_method_7_code 0 = .ok (.iload_n 1, 1) := by decide +kernel
theorem d_M_isSector_1 : decode prog_5_method_7_code 1 = .ok (.iconst 0, 1) := by decide +kernel
theorem d_M_isSector_2 : decode prog_5_method_7_code 2 = .ok (.aload_n 0, 1) := by decide +kernel
theorem d_M_isSector_3 : decode prog_5_method_7_code 3 = .ok (.getfield 22, 3) := by decide +kernel
theorem d_M_isSector_6 : decode prog_5_method_7_code 6 = .ok (.iconst 1, 1) := by decide +kernel
theorem d_M_isSector_7 : decode prog_5_method_7_code 7 = .ok (.isub, 1) := by decide +kernel
theorem d_M_isSector_8 : decode prog_5_method_7_code 8 = .ok (.invokestatic 75, 3) := by decide +kernel
theorem d_M_isSector_11 : decode prog_5_method_7_code 11 = .ok (.ireturn, 1) := by decide +kernel
theorem d_M_isOpen_0 : decode prog_5_method_8_code 0 = .ok (.aload_n 0, 1) := by decide +kernel
theorem d_M_isOpen_1 : decode prog_5_method_8_code 1 = .ok (.iload_n 1, 1) := by decide +kernel
theorem d_M_isOpen_2 : decode prog_5_method_8_code 2 = .ok (.invokevirtual 82, 3) := by decide +kernel
theorem d_M_isOpen_5 : decode prog_5_method_8_code 5 = .ok (.ifCond .eq 16, 3) := by decide +kernel
theorem d_M_isOpen_8 : decode prog_5_method_8_code 8 = .ok (.aload_n 0, 1) := by decide +kernel
theorem d_M_isOpen_9 : decode prog_5_method_8_code 9 = .ok (.getfield 26, 3) := by decide +kernel
theorem d_M_isOpen_12 : decode prog_5_method_8_code 12 = .ok (.iload_n 1, 1) := by decide +kernel
theorem d_M_isOpen_13 : decode prog_5_method_8_code 13 = .ok (.baload, 1) := by decide +kernel
theorem d_M_isOpen_14 : decode prog_5_method_8_code 14 = .ok (.ifCond .ne 7, 3) := by decide +kernel
theorem d_M_isOpen_17 : decode prog_5_method_8_code 17 = .ok (.iconst 1, 1) := by decide +kernel
theorem d_M_isOpen_18 : decode prog_5_method_8_code 18 = .ok (.goto 4, 3) := by decide +kernel
theorem d_M_isOpen_21 : decode prog_5_method_8_code 21 = .ok (.iconst 0, 1) := by decide +kernel
theorem d_M_isOpen_22 : decode prog_5_method_8_code 22 = .ok (.ireturn, 1) := by decide +kernel
theorem d_M_place_0 : decode prog_5_method_19_code 0 = .ok (.aload_n 0, 1) := by decide +kernel
theorem d_M_place_1 : decode prog_5_method_19_code 1 = .ok (.iload_n 1, 1) := by decide +kernel
theorem d_M_place_2 : decode prog_5_method_19_code 2 = .ok (.invokevirtual 119, 3) := by decide +kernel
theorem d_M_place_5 : decode prog_5_method_19_code 5 = .ok (.ifCond .eq 20, 3) := by decide +kernel
theorem d_M_place_8 : decode prog_5_method_19_code 8 = .ok (.iload_n 2, 1) := by decide +kernel
theorem d_M_place_9 : decode prog_5_method_19_code 9 = .ok (.iconst (-1), 1) := by decide +kernel
theorem d_M_place_10 : decode prog_5_method_19_code 10 = .ok (.if_icmp .eq 11, 3) := by decide +kernel
theorem d_M_place_13 : decode prog_5_method_19_code 13 = .ok (.aload_n 0, 1) := by decide +kernel
theorem d_M_place_14 : decode prog_5_method_19_code 14 = .ok (.iload_n 2, 1) := by decide +kernel
theorem d_M_place_15 : decode prog_5_method_19_code 15 = .ok (.invokevirtual 82, 3) := by decide +kernel
theorem d_M_place_18 : decode prog_5_method_19_code 18 = .ok (.ifCond .eq 7, 3) := by decide +kernel
theorem d_M_place_21 : decode prog_5_method_19_code 21 = .ok (.iconst 1, 1) := by decide +kernel
theorem d_M_place_22 : decode prog_5_method_19_code 22 = .ok (.goto 4, 3) := by decide +kernel
theorem d_M_place_25 : decode prog_5_method_19_code 25 = .ok (.iconst 0, 1) := by decide +kernel
theorem d_M_place_26 : decode prog_5_method_19_code 26 = .ok (.istore_n 3, 1) := by decide +kernel
theorem d_M_place_27 : decode prog_5_method_19_code 27 = .ok (.aload_n 0, 1) := by decide +kernel
theorem d_M_place_28 : decode prog_5_method_19_code 28 = .ok (.iconst 5, 1) := by decide +kernel
theorem d_M_place_29 : decode prog_5_method_19_code 29 = .ok (.iload_n 3, 1) := by decide +kernel
theorem d_M_place_30 : decode prog_5_method_19_code 30 = .ok (.iconst 1, 1) := by decide +kernel
theorem d_M_place_31 : decode prog_5_method_19_code 31 = .ok (.iload_n 3, 1) := by decide +kernel
theorem d_M_place_32 : decode prog_5_method_19_code 32 = .ok (.ifCond .eq 30, 3) := by decide +kernel
theorem d_M_place_35 : decode prog_5_method_19_code 35 = .ok (.aload_n 0, 1) := by decide +kernel
theorem d_M_place_36 : decode prog_5_method_19_code 36 = .ok (.getfield 19, 3) := by decide +kernel
theorem d_M_place_39 : decode prog_5_method_19_code 39 = .ok (.iload_n 1, 1) := by decide +kernel
theorem d_M_place_40 : decode prog_5_method_19_code 40 = .ok (.iaload, 1) := by decide +kernel
theorem d_M_place_41 : decode prog_5_method_19_code 41 = .ok (.iload_n 2, 1) := by decide +kernel
theorem d_M_place_42 : decode prog_5_method_19_code 42 = .ok (.if_icmp .eq 20, 3) := by decide +kernel
theorem d_M_place_45 : decode prog_5_method_19_code 45 = .ok (.iload_n 2, 1) := by decide +kernel
theorem d_M_place_46 : decode prog_5_method_19_code 46 = .ok (.iconst (-1), 1) := by decide +kernel
theorem d_M_place_47 : decode prog_5_method_19_code 47 = .ok (.if_icmp .eq 11, 3) := by decide +kernel
theorem d_M_place_50 : decode prog_5_method_19_code 50 = .ok (.aload_n 0, 1) := by decide +kernel
theorem d_M_place_51 : decode prog_5_method_19_code 51 = .ok (.iload_n 2, 1) := by decide +kernel
theorem d_M_place_52 : decode prog_5_method_19_code 52 = .ok (.invokevirtual 116, 3) := by decide +kernel
theorem d_M_place_55 : decode prog_5_method_19_code 55 = .ok (.ifCond .eq 7, 3) := by decide +kernel
theorem d_M_place_58 : decode prog_5_method_19_code 58 = .ok (.iconst 1, 1) := by decide +kernel
theorem d_M_place_59 : decode prog_5_method_19_code 59 = .ok (.goto 4, 3) := by decide +kernel
theorem d_M_place_62 : decode prog_5_method_19_code 62 = .ok (.iconst 0, 1) := by decide +kernel
theorem d_M_place_63 : decode prog_5_method_19_code 63 = .ok (.iconst 1, 1) := by decide +kernel
theorem d_M_place_64 : decode prog_5_method_19_code 64 = .ok (.invokevirtual 106, 3) := by decide +kernel
theorem d_M_place_67 : decode prog_5_method_19_code 67 = .ok (.ifCond .ne 4, 3) := by decide +kernel
theorem d_M_place_70 : decode prog_5_method_19_code 70 = .ok (.return_, 1) := by decide +kernel
theorem d_M_place_71 : decode prog_5_method_19_code 71 = .ok (.aload_n 0, 1) := by decide +kernel
theorem d_M_place_72 : decode prog_5_method_19_code 72 = .ok (.getfield 19, 3) := by decide +kernel
theorem d_M_place_75 : decode prog_5_method_19_code 75 = .ok (.iload_n 1, 1) := by decide +kernel
theorem d_M_place_76 : decode prog_5_method_19_code 76 = .ok (.iload_n 2, 1) := by decide +kernel
theorem d_M_place_77 : decode prog_5_method_19_code 77 = .ok (.iastore, 1) := by decide +kernel
theorem d_M_place_78 : decode prog_5_method_19_code 78 = .ok (.return_, 1) := by decide +kernel
theorem d_M_isUnit_0 : decode prog_5_method_6_code 0 = .ok (.iload_n 1, 1) := by decide +kernel
theorem d_M_isUnit_1 : decode prog_5_method_6_code 1 = .ok (.iconst 0, 1) := by decide +kernel
theorem d_M_isUnit_2 : decode prog_5_method_6_code 2 = .ok (.aload_n 0, 1) := by decide +kernel
theorem d_M_isUnit_3 : decode prog_5_method_6_code 3 = .ok (.getfield 79, 3) := by decide +kernel
theorem d_M_isUnit_6 : decode prog_5_method_6_code 6 = .ok (.iconst 1, 1) := by decide +kernel
theorem d_M_isUnit_7 : decode prog_5_method_6_code 7 = .ok (.isub, 1) := by decide +kernel
theorem d_M_isUnit_8 : decode prog_5_method_6_code 8 = .ok (.invokestatic 75, 3) := by decide +kernel
theorem d_M_isUnit_11 : decode prog_5_method_6_code 11 = .ok (.ireturn, 1) := by decide +kernel
theorem d_M_split_0 : decode prog_5_method_20_code 0 = .ok (.aload_n 0, 1) := by decide +kernel
theorem d_M_split_1 : decode prog_5_method_20_code 1 = .ok (.bipush 13, 2) := by decide +kernel
theorem d_M_split_3 : decode prog_5_method_20_code 3 = .ok (.aload_n 0, 1) := by decide +kernel
theorem d_M_split_4 : decode prog_5_method_20_code 4 = .ok (.iload_n 1, 1) := by decide +kernel
theorem d_M_split_5 : decode prog_5_method_20_code 5 = .ok (.invokevirtual 82, 3) := by decide +kernel
theorem d_M_split_8 : decode prog_5_method_20_code 8 = .ok (.iconst 1, 1) := by decide +kernel
theorem d_M_split_9 : decode prog_5_method_20_code 9 = .ok (.aload_n 0, 1) := by decide +kernel
theorem d_M_split_10 : decode prog_5_method_20_code 10 = .ok (.iload_n 1, 1) := by decide +kernel
theorem d_M_split_11 : decode prog_5_method_20_code 11 = .ok (.invokevirtual 116, 3) := by decide +kernel
theorem d_M_split_14 : decode prog_5_method_20_code 14 = .ok (.aload_n 0, 1) := by decide +kernel
theorem d_M_split_15 : decode prog_5_method_20_code 15 = .ok (.getfield 22, 3) := by decide +kernel
theorem d_M_split_18 : decode prog_5_method_20_code 18 = .ok (.bipush 20, 2) := by decide +kernel
theorem d_M_split_20 : decode prog_5_method_20_code 20 = .ok (.if_icmp .ge 7, 3) := by decide +kernel
theorem d_M_split_23 : decode prog_5_method_20_code 23 = .ok (.iconst 1, 1) := by decide +kernel
theorem d_M_split_24 : decode prog_5_method_20_code 24 = .ok (.goto 4, 3) := by decide +kernel
theorem d_M_split_27 : decode prog_5_method_20_code 27 = .ok (.iconst 0, 1) := by decide +kernel
theorem d_M_split_28 : decode prog_5_method_20_code 28 = .ok (.invokevirtual 106, 3) := by decide +kernel
theorem d_M_split_31 : decode prog_5_method_20_code 31 = .ok (.ifCond .ne 5, 3) := by decide +kernel
theorem d_M_split_34 : decode prog_5_method_20_code 34 = .ok (.iconst 0, 1) := by decide +kernel
theorem d_M_split_35 : decode prog_5_method_20_code 35 = .ok (.ireturn, 1) := by decide +kernel
theorem d_M_split_36 : decode prog_5_method_20_code 36 = .ok (.aload_n 0, 1) := by decide +kernel
theorem d_M_split_37 : decode prog_5_method_20_code 37 = .ok (.getfield 30, 3) := by decide +kernel
theorem d_M_split_40 : decode prog_5_method_20_code 40 = .ok (.aload_n 0, 1) := by decide +kernel
theorem d_M_split_41 : decode prog_5_method_20_code 41 = .ok (.getfield 22, 3) := by decide +kernel
theorem d_M_split_44 : decode prog_5_method_20_code 44 = .ok (.iload_n 1, 1) := by decide +kernel
theorem d_M_split_45 : decode prog_5_method_20_code 45 = .ok (.iastore, 1) := by decide +kernel
theorem d_M_split_46 : decode prog_5_method_20_code 46 = .ok (.aload_n 0, 1) := by decide +kernel
theorem d_M_split_47 : decode prog_5_method_20_code 47 = .ok (.dup, 1) := by decide +kernel
theorem d_M_split_48 : decode prog_5_method_20_code 48 = .ok (.getfield 22, 3) := by decide +kernel
theorem d_M_split_51 : decode prog_5_method_20_code 51 = .ok (.iconst 1, 1) := by decide +kernel
theorem d_M_split_52 : decode prog_5_method_20_code 52 = .ok (.iadd, 1) := by decide +kernel
theorem d_M_split_53 : decode prog_5_method_20_code 53 = .ok (.putfield 22, 3) := by decide +kernel
theorem d_M_split_56 : decode prog_5_method_20_code 56 = .ok (.aload_n 0, 1) := by decide +kernel
theorem d_M_split_57 : decode prog_5_method_20_code 57 = .ok (.getfield 22, 3) := by decide +kernel
theorem d_M_split_60 : decode prog_5_method_20_code 60 = .ok (.iconst 1, 1) := by decide +kernel
theorem d_M_split_61 : decode prog_5_method_20_code 61 = .ok (.isub, 1) := by decide +kernel
theorem d_M_split_62 : decode prog_5_method_20_code 62 = .ok (.ireturn, 1) := by decide +kernel
theorem d_M_join_0 : decode prog_5_method_22_code 0 = .ok (.aload_n 0, 1) := by decide +kernel
theorem d_M_join_1 : decode prog_5_method_22_code 1 = .ok (.iload_n 1, 1) := by decide +kernel
theorem d_M_join_2 : decode prog_5_method_22_code 2 = .ok (.invokevirtual 82, 3) := by decide +kernel
theorem d_M_join_5 : decode prog_5_method_22_code 5 = .ok (.ifCond .eq 15, 3) := by decide +kernel
theorem d_M_join_8 : decode prog_5_method_22_code 8 = .ok (.aload_n 0, 1) := by decide +kernel
theorem d_M_join_9 : decode prog_5_method_22_code 9 = .ok (.iload_n 2, 1) := by decide +kernel
theorem d_M_join_10 : decode prog_5_method_22_code 10 = .ok (.invokevirtual 82, 3) := by decide +kernel
theorem d_M_join_13 : decode prog_5_method_22_code 13 = .ok (.ifCond .eq 7, 3) := by decide +kernel
theorem d_M_join_16 : decode prog_5_method_22_code 16 = .ok (.iconst 1, 1) := by decide +kernel
theorem d_M_join_17 : decode prog_5_method_22_code 17 = .ok (.goto 4, 3) := by decide +kernel
theorem d_M_join_20 : decode prog_5_method_22_code 20 = .ok (.iconst 0, 1) := by decide +kernel
theorem d_M_join_21 : decode prog_5_method_22_code 21 = .ok (.istore_n 3, 1) := by decide +kernel
theorem d_M_join_22 : decode prog_5_method_22_code 22 = .ok (.aload_n 0, 1) := by decide +kernel
theorem d_M_join_23 : decode prog_5_method_22_code 23 = .ok (.iconst 5, 1) := by decide +kernel
theorem d_M_join_24 : decode prog_5_method_22_code 24 = .ok (.iload_n 3, 1) := by decide +kernel
theorem d_M_join_25 : decode prog_5_method_22_code 25 = .ok (.iconst 1, 1) := by decide +kernel
theorem d_M_join_26 : decode prog_5_method_22_code 26 = .ok (.iload_n 3, 1) := by decide +kernel
theorem d_M_join_27 : decode prog_5_method_22_code 27 = .ok (.ifCond .eq 36, 3) := by decide +kernel
theorem d_M_join_30 : decode prog_5_method_22_code 30 = .ok (.aload_n 0, 1) := by decide +kernel
theorem d_M_join_31 : decode prog_5_method_22_code 31 = .ok (.iload_n 1, 1) := by decide +kernel
theorem d_M_join_32 : decode prog_5_method_22_code 32 = .ok (.invokevirtual 116, 3) := by decide +kernel
theorem d_M_join_35 : decode prog_5_method_22_code 35 = .ok (.ifCond .eq 28, 3) := by decide +kernel
theorem d_M_join_38 : decode prog_5_method_22_code 38 = .ok (.aload_n 0, 1) := by decide +kernel
theorem d_M_join_39 : decode prog_5_method_22_code 39 = .ok (.iload_n 2, 1) := by decide +kernel
theorem d_M_join_40 : decode prog_5_method_22_code 40 = .ok (.invokevirtual 116, 3) := by decide +kernel
theorem d_M_join_43 : decode prog_5_method_22_code 43 = .ok (.ifCond .eq 20, 3) := by decide +kernel
theorem d_M_join_46 : decode prog_5_method_22_code 46 = .ok (.iload_n 1, 1) := by decide +kernel
theorem d_M_join_47 : decode prog_5_method_22_code 47 = .ok (.ifCond .eq 16, 3) := by decide +kernel
theorem d_M_join_50 : decode prog_5_method_22_code 50 = .ok (.aload_n 0, 1) := by decide +kernel
theorem d_M_join_51 : decode prog_5_method_22_code 51 = .ok (.iload_n 2, 1) := by decide +kernel
theorem d_M_join_52 : decode prog_5_method_22_code 52 = .ok (.iload_n 1, 1) := by decide +kernel
theorem d_M_join_53 : decode prog_5_method_22_code 53 = .ok (.invokevirtual 122, 3) := by decide +kernel
theorem d_M_join_56 : decode prog_5_method_22_code 56 = .ok (.ifCond .ne 7, 3) := by decide +kernel
theorem d_M_join_59 : decode prog_5_method_22_code 59 = .ok (.iconst 1, 1) := by decide +kernel
theorem d_M_join_60 : decode prog_5_method_22_code 60 = .ok (.goto 4, 3) := by decide +kernel
theorem d_M_join_63 : decode prog_5_method_22_code 63 = .ok (.iconst 0, 1) := by decide +kernel
theorem d_M_join_64 : decode prog_5_method_22_code 64 = .ok (.iconst 1, 1) := by decide +kernel
theorem d_M_join_65 : decode prog_5_method_22_code 65 = .ok (.invokevirtual 106, 3) := by decide +kernel
theorem d_M_join_68 : decode prog_5_method_22_code 68 = .ok (.ifCond .ne 4, 3) := by decide +kernel
theorem d_M_join_71 : decode prog_5_method_22_code 71 = .ok (.return_, 1) := by decide +kernel
theorem d_M_join_72 : decode prog_5_method_22_code 72 = .ok (.aload_n 0, 1) := by decide +kernel
theorem d_M_join_73 : decode prog_5_method_22_code 73 = .ok (.getfield 26, 3) := by decide +kernel
theorem d_M_join_76 : decode prog_5_method_22_code 76 = .ok (.iload_n 1, 1) := by decide +kernel
theorem d_M_join_77 : decode prog_5_method_22_code 77 = .ok (.iconst 1, 1) := by decide +kernel
theorem d_M_join_78 : decode prog_5_method_22_code 78 = .ok (.bastore, 1) := by decide +kernel
theorem d_M_join_79 : decode prog_5_method_22_code 79 = .ok (.aload_n 0, 1) := by decide +kernel
theorem d_M_join_80 : decode prog_5_method_22_code 80 = .ok (.iload_n 1, 1) := by decide +kernel
theorem d_M_join_81 : decode prog_5_method_22_code 81 = .ok (.iconst (-1), 1) := by decide +kernel
theorem d_M_join_82 : decode prog_5_method_22_code 82 = .ok (.invokevirtual 103, 3) := by decide +kernel
theorem d_M_join_85 : decode prog_5_method_22_code 85 = .ok (.aload_n 0, 1) := by decide +kernel
theorem d_M_join_86 : decode prog_5_method_22_code 86 = .ok (.getfield 36, 3) := by decide +kernel
theorem d_M_join_89 : decode prog_5_method_22_code 89 = .ok (.iload_n 1, 1) := by decide +kernel
theorem d_M_join_90 : decode prog_5_method_22_code 90 = .ok (.iconst (-1), 1) := by decide +kernel
theorem d_M_join_91 : decode prog_5_method_22_code 91 = .ok (.iastore, 1) := by decide +kernel
theorem d_M_join_92 : decode prog_5_method_22_code 92 = .ok (.iconst 0, 1) := by decide +kernel
theorem d_M_join_93 : decode prog_5_method_22_code 93 = .ok (.istore 4, 2) := by decide +kernel
theorem d_M_join_95 : decode prog_5_method_22_code 95 = .ok (.iload 4, 2) := by decide +kernel
theorem d_M_join_97 : decode prog_5_method_22_code 97 = .ok (.aload_n 0, 1) := by decide +kernel
theorem d_M_join_98 : decode prog_5_method_22_code 98 = .ok (.getfield 72, 3) := by decide +kernel
theorem d_M_join_101 : decode prog_5_method_22_code 101 = .ok (.if_icmp .ge 28, 3) := by decide +kernel
theorem d_M_join_104 : decode prog_5_method_22_code 104 = .ok (.aload_n 0, 1) := by decide +kernel
theorem d_M_join_105 : decode prog_5_method_22_code 105 = .ok (.getfield 13, 3) := by decide +kernel
theorem d_M_join_108 : decode prog_5_method_22_code 108 = .ok (.iload 4, 2) := by decide +kernel
theorem d_M_join_110 : decode prog_5_method_22_code 110 = .ok (.iaload, 1) := by decide +kernel
theorem d_M_join_111 : decode prog_5_method_22_code 111 = .ok (.iload_n 1, 1) := by decide +kernel
theorem d_M_join_112 : decode prog_5_method_22_code 112 = .ok (.if_icmp .ne 11, 3) := by decide +kernel
theorem d_M_join_115 : decode prog_5_method_22_code 115 = .ok (.aload_n 0, 1) := by decide +kernel
theorem d_M_join_116 : decode prog_5_method_22_code 116 = .ok (.getfield 13, 3) := by decide +kernel
theorem d_M_join_119 : decode prog_5_method_22_code 119 = .ok (.iload 4, 2) := by decide +kernel
theorem d_M_join_121 : decode prog_5_method_22_code 121 = .ok (.iload_n 2, 1) := by decide +kernel
theorem d_M_join_122 : decode prog_5_method_22_code 122 = .ok (.iastore, 1) := by decide +kernel
theorem d_M_join_123 : decode prog_5_method_22_code 123 = .ok (.iinc 4 1, 3) := by decide +kernel
theorem d_M_join_126 : decode prog_5_method_22_code 126 = .ok (.goto (-31), 3) := by decide +kernel
theorem d_M_join_129 : decode prog_5_method_22_code 129 = .ok (.iconst 0, 1) := by decide +kernel
theorem d_M_join_130 : decode prog_5_method_22_code 130 = .ok (.istore 4, 2) := by decide +kernel
theorem d_M_join_132 : decode prog_5_method_22_code 132 = .ok (.iload 4, 2) := by decide +kernel
theorem d_M_join_134 : decode prog_5_method_22_code 134 = .ok (.aload_n 0, 1) := by decide +kernel
theorem d_M_join_135 : decode prog_5_method_22_code 135 = .ok (.getfield 79, 3) := by decide +kernel
theorem d_M_join_138 : decode prog_5_method_22_code 138 = .ok (.if_icmp .ge 28, 3) := by decide +kernel
theorem d_M_join_141 : decode prog_5_method_22_code 141 = .ok (.aload_n 0, 1) := by decide +kernel
theorem d_M_join_142 : decode prog_5_method_22_code 142 = .ok (.getfield 19, 3) := by decide +kernel
theorem d_M_join_145 : decode prog_5_method_22_code 145 = .ok (.iload 4, 2) := by decide +kernel
theorem d_M_join_147 : decode prog_5_method_22_code 147 = .ok (.iaload, 1) := by decide +kernel
theorem d_M_join_148 : decode prog_5_method_22_code 148 = .ok (.iload_n 1, 1) := by decide +kernel
theorem d_M_join_149 : decode prog_5_method_22_code 149 = .ok (.if_icmp .ne 11, 3) := by decide +kernel
theorem d_M_join_152 : decode prog_5_method_22_code 152 = .ok (.aload_n 0, 1) := by decide +kernel
theorem d_M_join_153 : decode prog_5_method_22_code 153 = .ok (.getfield 19, 3) := by decide +kernel
theorem d_M_join_156 : decode prog_5_method_22_code 156 = .ok (.iload 4, 2) := by decide +kernel
theorem d_M_join_158 : decode prog_5_method_22_code 158 = .ok (.iload_n 2, 1) := by decide +kernel
theorem d_M_join_159 : decode prog_5_method_22_code 159 = .ok (.iastore, 1) := by decide +kernel
theorem d_M_join_160 : decode prog_5_method_22_code 160 = .ok (.iinc 4 1, 3) := by decide +kernel
theorem d_M_join_163 : decode prog_5_method_22_code 163 = .ok (.goto (-31), 3) := by decide +kernel
theorem d_M_join_166 : decode prog_5_method_22_code 166 = .ok (.iconst 0, 1) := by decide +kernel
theorem d_M_join_167 : decode prog_5_method_22_code 167 = .ok (.istore 4, 2) := by decide +kernel
theorem d_M_join_169 : decode prog_5_method_22_code 169 = .ok (.iload 4, 2) := by decide +kernel
theorem d_M_join_171 : decode prog_5_method_22_code 171 = .ok (.aload_n 0, 1) := by decide +kernel
theorem d_M_join_172 : decode prog_5_method_22_code 172 = .ok (.getfield 22, 3) := by decide +kernel
theorem d_M_join_175 : decode prog_5_method_22_code 175 = .ok (.if_icmp .ge 38, 3) := by decide +kernel
theorem d_M_join_178 : decode prog_5_method_22_code 178 = .ok (.aload_n 0, 1) := by decide +kernel
theorem d_M_join_179 : decode prog_5_method_22_code 179 = .ok (.getfield 30, 3) := by decide +kernel
theorem d_M_join_182 : decode prog_5_method_22_code 182 = .ok (.iload 4, 2) := by decide +kernel
theorem d_M_join_184 : decode prog_5_method_22_code 184 = .ok (.iaload, 1) := by decide +kernel
theorem d_M_join_185 : decode prog_5_method_22_code 185 = .ok (.iload_n 1, 1) := by decide +kernel
theorem d_M_join_186 : decode prog_5_method_22_code 186 = .ok (.if_icmp .ne 21, 3) := by decide +kernel
theorem d_M_join_189 : decode prog_5_method_22_code 189 = .ok (.aload_n 0, 1) := by decide +kernel
theorem d_M_join_190 : decode prog_5_method_22_code 190 = .ok (.getfield 26, 3) := by decide +kernel
theorem d_M_join_193 : decode prog_5_method_22_code 193 = .ok (.iload 4, 2) := by decide +kernel
theorem d_M_join_195 : decode prog_5_method_22_code 195 = .ok (.baload, 1) := by decide +kernel
theorem d_M_join_196 : decode prog_5_method_22_code 196 = .ok (.ifCond .ne 11, 3) := by decide +kernel
theorem d_M_join_199 : decode prog_5_method_22_code 199 = .ok (.aload_n 0, 1) := by decide +kernel
theorem d_M_join_200 : decode prog_5_method_22_code 200 = .ok (.getfield 30, 3) := by decide +kernel
theorem d_M_join_203 : decode prog_5_method_22_code 203 = .ok (.iload 4, 2) := by decide +kernel
theorem d_M_join_205 : decode prog_5_method_22_code 205 = .ok (.iload_n 2, 1) := by decide +kernel
theorem d_M_join_206 : decode prog_5_method_22_code 206 = .ok (.iastore, 1) := by decide +kernel
theorem d_M_join_207 : decode prog_5_method_22_code 207 = .ok (.iinc 4 1, 3) := by decide +kernel
theorem d_M_join_210 : decode prog_5_method_22_code 210 = .ok (.goto (-41), 3) := by decide +kernel
theorem d_M_join_213 : decode prog_5_method_22_code 213 = .ok (.iconst 0, 1) := by decide +kernel
theorem d_M_join_214 : decode prog_5_method_22_code 214 = .ok (.istore 4, 2) := by decide +kernel
theorem d_M_join_216 : decode prog_5_method_22_code 216 = .ok (.iload 4, 2) := by decide +kernel
theorem d_M_join_218 : decode prog_5_method_22_code 218 = .ok (.aload_n 0, 1) := by decide +kernel
theorem d_M_join_219 : decode prog_5_method_22_code 219 = .ok (.getfield 126, 3) := by decide +kernel
theorem d_M_join_222 : decode prog_5_method_22_code 222 = .ok (.if_icmp .ge 49, 3) := by decide +kernel
theorem d_M_join_225 : decode prog_5_method_22_code 225 = .ok (.aload_n 0, 1) := by decide +kernel
theorem d_M_join_226 : decode prog_5_method_22_code 226 = .ok (.getfield 42, 3) := by decide +kernel
theorem d_M_join_229 : decode prog_5_method_22_code 229 = .ok (.iload 4, 2) := by decide +kernel
theorem d_M_join_231 : decode prog_5_method_22_code 231 = .ok (.iaload, 1) := by decide +kernel
theorem d_M_join_232 : decode prog_5_method_22_code 232 = .ok (.iload_n 1, 1) := by decide +kernel
theorem d_M_join_233 : decode prog_5_method_22_code 233 = .ok (.if_icmp .ne 32, 3) := by decide +kernel
theorem d_M_join_236 : decode prog_5_method_22_code 236 = .ok (.aload_n 0, 1) := by decide +kernel
theorem d_M_join_237 : decode prog_5_method_22_code 237 = .ok (.getfield 48, 3) := by decide +kernel
theorem d_M_join_240 : decode prog_5_method_22_code 240 = .ok (.iload 4, 2) := by decide +kernel
theorem d_M_join_242 : decode prog_5_method_22_code 242 = .ok (.iaload, 1) := by decide +kernel
theorem d_M_join_243 : decode prog_5_method_22_code 243 = .ok (.ifCond .eq 14, 3) := by decide +kernel
theorem d_M_join_246 : decode prog_5_method_22_code 246 = .ok (.aload_n 0, 1) := by decide +kernel
theorem d_M_join_247 : decode prog_5_method_22_code 247 = .ok (.getfield 48, 3) := by decide +kernel
theorem d_M_join_250 : decode prog_5_method_22_code 250 = .ok (.iload 4, 2) := by decide +kernel
theorem d_M_join_252 : decode prog_5_method_22_code 252 = .ok (.iaload, 1) := by decide +kernel
theorem d_M_join_253 : decode prog_5_method_22_code 253 = .ok (.iconst 3, 1) := by decide +kernel
theorem d_M_join_254 : decode prog_5_method_22_code 254 = .ok (.if_icmp .ne 11, 3) := by decide +kernel
theorem d_M_join_257 : decode prog_5_method_22_code 257 = .ok (.aload_n 0, 1) := by decide +kernel
theorem d_M_join_258 : decode prog_5_method_22_code 258 = .ok (.getfield 42, 3) := by decide +kernel
theorem d_M_join_261 : decode prog_5_method_22_code 261 = .ok (.iload 4, 2) := by decide +kernel
theorem d_M_join_263 : decode prog_5_method_22_code 263 = .ok (.iload_n 2, 1) := by decide +kernel
theorem d_M_join_264 : decode prog_5_method_22_code 264 = .ok (.iastore, 1) := by decide +kernel
theorem d_M_join_265 : decode prog_5_method_22_code 265 = .ok (.iinc 4 1, 3) := by decide +kernel
theorem d_M_join_268 : decode prog_5_method_22_code 268 = .ok (.goto (-52), 3) := by decide +kernel
theorem d_M_join_271 : decode prog_5_method_22_code 271 = .ok (.aload_n 0, 1) := by decide +kernel
theorem d_M_join_272 : decode prog_5_method_22_code 272 = .ok (.getfield 33, 3) := by decide +kernel
theorem d_M_join_275 : decode prog_5_method_22_code 275 = .ok (.iload_n 2, 1) := by decide +kernel
theorem d_M_join_276 : decode prog_5_method_22_code 276 = .ok (.iaload, 1) := by decide +kernel
theorem d_M_join_277 : decode prog_5_method_22_code 277 = .ok (.ifCond .ge 13, 3) := by decide +kernel
theorem d_M_join_280 : decode prog_5_method_22_code 280 = .ok (.aload_n 0, 1) := by decide +kernel
theorem d_M_join_281 : decode prog_5_method_22_code 281 = .ok (.iload_n 2, 1) := by decide +kernel
theorem d_M_join_282 : decode prog_5_method_22_code 282 = .ok (.aload_n 0, 1) := by decide +kernel
theorem d_M_join_283 : decode prog_5_method_22_code 283 = .ok (.iload_n 2, 1) := by decide +kernel
theorem d_M_join_284 : decode prog_5_method_22_code 284 = .ok (.invokevirtual 100, 3) := by decide +kernel
theorem d_M_join_287 : decode prog_5_method_22_code 287 = .ok (.invokevirtual 103, 3) := by decide +kernel
theorem d_M_join_290 : decode prog_5_method_22_code 290 = .ok (.return_, 1) := by decide +kernel
theorem d_M_isBelow_0 : decode prog_5_method_21_code 0 = .ok (.iload_n 1, 1) := by decide +kernel
theorem d_M_isBelow_1 : decode prog_5_method_21_code 1 = .ok (.istore_n 3, 1) := by decide +kernel
theorem d_M_isBelow_2 : decode prog_5_method_21_code 2 = .ok (.iload_n 3, 1) := by decide +kernel
theorem d_M_isBelow_3 : decode prog_5_method_21_code 3 = .ok (.iconst (-1), 1) := by decide +kernel
theorem d_M_isBelow_4 : decode prog_5_method_21_code 4 = .ok (.if_icmp .eq 18, 3) := by decide +kernel
theorem d_M_isBelow_7 : decode prog_5_method_21_code 7 = .ok (.iload_n 3, 1) := by decide +kernel
theorem d_M_isBelow_8 : decode prog_5_method_21_code 8 = .ok (.iload_n 2, 1) := by decide +kernel
theorem d_M_isBelow_9 : decode prog_5_method_21_code 9 = .ok (.if_icmp .eq 13, 3) := by decide +kernel
theorem d_M_isBelow_12 : decode prog_5_method_21_code 12 = .ok (.aload_n 0, 1) := by decide +kernel
theorem d_M_isBelow_13 : decode prog_5_method_21_code 13 = .ok (.getfield 30, 3) := by decide +kernel
theorem d_M_isBelow_16 : decode prog_5_method_21_code 16 = .ok (.iload_n 3, 1) := by decide +kernel
theorem d_M_isBelow_17 : decode prog_5_method_21_code 17 = .ok (.iaload, 1) := by decide +kernel
theorem d_M_isBelow_18 : decode prog_5_method_21_code 18 = .ok (.istore_n 3, 1) := by decide +kernel
theorem d_M_isBelow_19 : decode prog_5_method_21_code 19 = .ok (.goto (-17), 3) := by decide +kernel
theorem d_M_isBelow_22 : decode prog_5_method_21_code 22 = .ok (.iload_n 3, 1) := by decide +kernel
theorem d_M_isBelow_23 : decode prog_5_method_21_code 23 = .ok (.iload_n 2, 1) := by decide +kernel
theorem d_M_isBelow_24 : decode prog_5_method_21_code 24 = .ok (.if_icmp .ne 7, 3) := by decide +kernel
theorem d_M_isBelow_27 : decode prog_5_method_21_code 27 = .ok (.iconst 1, 1) := by decide +kernel
theorem d_M_isBelow_28 : decode prog_5_method_21_code 28 = .ok (.goto 4, 3) := by decide +kernel
theorem d_M_isBelow_31 : decode prog_5_method_21_code 31 = .ok (.iconst 0, 1) := by decide +kernel
theorem d_M_isBelow_32 : decode prog_5_method_21_code 32 = .ok (.ireturn, 1) := by decide +kernel
theorem d_M_offer_0 : decode prog_5_method_23_code 0 = .ok (.aload_n 0, 1) := by decide +kernel
theorem d_M_offer_1 : decode prog_5_method_23_code 1 = .ok (.iload_n 1, 1) := by decide +kernel
theorem d_M_offer_2 : decode prog_5_method_23_code 2 = .ok (.invokevirtual 82, 3) := by decide +kernel
theorem d_M_offer_5 : decode prog_5_method_23_code 5 = .ok (.ifCond .eq 15, 3) := by decide +kernel
theorem d_M_offer_8 : decode prog_5_method_23_code 8 = .ok (.aload_n 0, 1) := by decide +kernel
theorem d_M_offer_9 : decode prog_5_method_23_code 9 = .ok (.iload_n 2, 1) := by decide +kernel
theorem d_M_offer_10 : decode prog_5_method_23_code 10 = .ok (.invokevirtual 110, 3) := by decide +kernel
theorem d_M_offer_13 : decode prog_5_method_23_code 13 = .ok (.ifCond .eq 7, 3) := by decide +kernel
theorem d_M_offer_16 : decode prog_5_method_23_code 16 = .ok (.iconst 1, 1) := by decide +kernel
theorem d_M_offer_17 : decode prog_5_method_23_code 17 = .ok (.goto 4, 3) := by decide +kernel
theorem d_M_offer_20 : decode prog_5_method_23_code 20 = .ok (.iconst 0, 1) := by decide +kernel
theorem d_M_offer_21 : decode prog_5_method_23_code 21 = .ok (.istore_n 3, 1) := by decide +kernel
theorem d_M_offer_22 : decode prog_5_method_23_code 22 = .ok (.aload_n 0, 1) := by decide +kernel
theorem d_M_offer_23 : decode prog_5_method_23_code 23 = .ok (.iconst 5, 1) := by decide +kernel
theorem d_M_offer_24 : decode prog_5_method_23_code 24 = .ok (.iload_n 3, 1) := by decide +kernel
theorem d_M_offer_25 : decode prog_5_method_23_code 25 = .ok (.iconst 1, 1) := by decide +kernel
theorem d_M_offer_26 : decode prog_5_method_23_code 26 = .ok (.iload_n 3, 1) := by decide +kernel
theorem d_M_offer_27 : decode prog_5_method_23_code 27 = .ok (.ifCond .eq 41, 3) := by decide +kernel
theorem d_M_offer_30 : decode prog_5_method_23_code 30 = .ok (.aload_n 0, 1) := by decide +kernel
theorem d_M_offer_31 : decode prog_5_method_23_code 31 = .ok (.iload_n 1, 1) := by decide +kernel
theorem d_M_offer_32 : decode prog_5_method_23_code 32 = .ok (.invokevirtual 116, 3) := by decide +kernel
theorem d_M_offer_35 : decode prog_5_method_23_code 35 = .ok (.ifCond .eq 33, 3) := by decide +kernel
theorem d_M_offer_38 : decode prog_5_method_23_code 38 = .ok (.aload_n 0, 1) := by decide +kernel
theorem d_M_offer_39 : decode prog_5_method_23_code 39 = .ok (.getfield 33, 3) := by decide +kernel
theorem d_M_offer_42 : decode prog_5_method_23_code 42 = .ok (.iload_n 1, 1) := by decide +kernel
theorem d_M_offer_43 : decode prog_5_method_23_code 43 = .ok (.iaload, 1) := by decide +kernel
theorem d_M_offer_44 : decode prog_5_method_23_code 44 = .ok (.ifCond .lt 24, 3) := by decide +kernel
theorem d_M_offer_47 : decode prog_5_method_23_code 47 = .ok (.aload_n 0, 1) := by decide +kernel
theorem d_M_offer_48 : decode prog_5_method_23_code 48 = .ok (.getfield 13, 3) := by decide +kernel
theorem d_M_offer_51 : decode prog_5_method_23_code 51 = .ok (.iload_n 2, 1) := by decide +kernel
theorem d_M_offer_52 : decode prog_5_method_23_code 52 = .ok (.iaload, 1) := by decide +kernel
theorem d_M_offer_53 : decode prog_5_method_23_code 53 = .ok (.ifCond .lt 15, 3) := by decide +kernel
theorem d_M_offer_56 : decode prog_5_method_23_code 56 = .ok (.aload_n 0, 1) := by decide +kernel
theorem d_M_offer_57 : decode prog_5_method_23_code 57 = .ok (.iload_n 2, 1) := by decide +kernel
theorem d_M_offer_58 : decode prog_5_method_23_code 58 = .ok (.invokevirtual 96, 3) := by decide +kernel
theorem d_M_offer_61 : decode prog_5_method_23_code 61 = .ok (.ifCond .ge 7, 3) := by decide +kernel
theorem d_M_offer_64 : decode prog_5_method_23_code 64 = .ok (.iconst 1, 1) := by decide +kernel
theorem d_M_offer_65 : decode prog_5_method_23_code 65 = .ok (.goto 4, 3) := by decide +kernel
theorem d_M_offer_68 : decode prog_5_method_23_code 68 = .ok (.iconst 0, 1) := by decide +kernel
theorem d_M_offer_69 : decode prog_5_method_23_code 69 = .ok (.iconst 1, 1) := by decide +kernel
theorem d_M_offer_70 : decode prog_5_method_23_code 70 = .ok (.invokevirtual 106, 3) := by decide +kernel
theorem d_M_offer_73 : decode prog_5_method_23_code 73 = .ok (.ifCond .ne 4, 3) := by decide +kernel
theorem d_M_offer_76 : decode prog_5_method_23_code 76 = .ok (.return_, 1) := by decide +kernel
theorem d_M_offer_77 : decode prog_5_method_23_code 77 = .ok (.aload_n 0, 1) := by decide +kernel
theorem d_M_offer_78 : decode prog_5_method_23_code 78 = .ok (.getfield 36, 3) := by decide +kernel
theorem d_M_offer_81 : decode prog_5_method_23_code 81 = .ok (.iload_n 1, 1) := by decide +kernel
theorem d_M_offer_82 : decode prog_5_method_23_code 82 = .ok (.iload_n 2, 1) := by decide +kernel
theorem d_M_offer_83 : decode prog_5_method_23_code 83 = .ok (.iastore, 1) := by decide +kernel
theorem d_M_offer_84 : decode prog_5_method_23_code 84 = .ok (.return_, 1) := by decide +kernel
theorem d_M_take_0 : decode prog_5_method_24_code 0 = .ok (.aload_n 0, 1) := by decide +kernel
theorem d_M_take_1 : decode prog_5_method_24_code 1 = .ok (.iload_n 1, 1) := by decide +kernel
theorem d_M_take_2 : decode prog_5_method_24_code 2 = .ok (.invokevirtual 82, 3) := by decide +kernel
theorem d_M_take_5 : decode prog_5_method_24_code 5 = .ok (.ifCond .eq 15, 3) := by decide +kernel
theorem d_M_take_8 : decode prog_5_method_24_code 8 = .ok (.aload_n 0, 1) := by decide +kernel
theorem d_M_take_9 : decode prog_5_method_24_code 9 = .ok (.iload_n 2, 1) := by decide +kernel
theorem d_M_take_10 : decode prog_5_method_24_code 10 = .ok (.invokevirtual 110, 3) := by decide +kernel
theorem d_M_take_13 : decode prog_5_method_24_code 13 = .ok (.ifCond .eq 7, 3) := by decide +kernel
theorem d_M_take_16 : decode prog_5_method_24_code 16 = .ok (.iconst 1, 1) := by decide +kernel
theorem d_M_take_17 : decode prog_5_method_24_code 17 = .ok (.goto 4, 3) := by decide +kernel
theorem d_M_take_20 : decode prog_5_method_24_code 20 = .ok (.iconst 0, 1) := by decide +kernel
theorem d_M_take_21 : decode prog_5_method_24_code 21 = .ok (.istore_n 3, 1) := by decide +kernel
theorem d_M_take_22 : decode prog_5_method_24_code 22 = .ok (.aload_n 0, 1) := by decide +kernel
theorem d_M_take_23 : decode prog_5_method_24_code 23 = .ok (.iconst 5, 1) := by decide +kernel
theorem d_M_take_24 : decode prog_5_method_24_code 24 = .ok (.iload_n 3, 1) := by decide +kernel
theorem d_M_take_25 : decode prog_5_method_24_code 25 = .ok (.iconst 1, 1) := by decide +kernel
theorem d_M_take_26 : decode prog_5_method_24_code 26 = .ok (.iload_n 3, 1) := by decide +kernel
theorem d_M_take_27 : decode prog_5_method_24_code 27 = .ok (.ifCond .eq 17, 3) := by decide +kernel
theorem d_M_take_30 : decode prog_5_method_24_code 30 = .ok (.aload_n 0, 1) := by decide +kernel
theorem d_M_take_31 : decode prog_5_method_24_code 31 = .ok (.getfield 36, 3) := by decide +kernel
theorem d_M_take_34 : decode prog_5_method_24_code 34 = .ok (.iload_n 1, 1) := by decide +kernel
theorem d_M_take_35 : decode prog_5_method_24_code 35 = .ok (.iaload, 1) := by decide +kernel
theorem d_M_take_36 : decode prog_5_method_24_code 36 = .ok (.iload_n 2, 1) := by decide +kernel
theorem d_M_take_37 : decode prog_5_method_24_code 37 = .ok (.if_icmp .ne 7, 3) := by decide +kernel
theorem d_M_take_40 : decode prog_5_method_24_code 40 = .ok (.iconst 1, 1) := by decide +kernel
theorem d_M_take_41 : decode prog_5_method_24_code 41 = .ok (.goto 4, 3) := by decide +kernel
theorem d_M_take_44 : decode prog_5_method_24_code 44 = .ok (.iconst 0, 1) := by decide +kernel
theorem d_M_take_45 : decode prog_5_method_24_code 45 = .ok (.iconst 1, 1) := by decide +kernel
theorem d_M_take_46 : decode prog_5_method_24_code 46 = .ok (.invokevirtual 106, 3) := by decide +kernel
theorem d_M_take_49 : decode prog_5_method_24_code 49 = .ok (.ifCond .ne 4, 3) := by decide +kernel
theorem d_M_take_52 : decode prog_5_method_24_code 52 = .ok (.return_, 1) := by decide +kernel
theorem d_M_take_53 : decode prog_5_method_24_code 53 = .ok (.aload_n 0, 1) := by decide +kernel
theorem d_M_take_54 : decode prog_5_method_24_code 54 = .ok (.getfield 13, 3) := by decide +kernel
theorem d_M_take_57 : decode prog_5_method_24_code 57 = .ok (.iload_n 2, 1) := by decide +kernel
theorem d_M_take_58 : decode prog_5_method_24_code 58 = .ok (.iload_n 1, 1) := by decide +kernel
theorem d_M_take_59 : decode prog_5_method_24_code 59 = .ok (.iastore, 1) := by decide +kernel
theorem d_M_take_60 : decode prog_5_method_24_code 60 = .ok (.aload_n 0, 1) := by decide +kernel
theorem d_M_take_61 : decode prog_5_method_24_code 61 = .ok (.iload_n 1, 1) := by decide +kernel
theorem d_M_take_62 : decode prog_5_method_24_code 62 = .ok (.iload_n 2, 1) := by decide +kernel
theorem d_M_take_63 : decode prog_5_method_24_code 63 = .ok (.invokevirtual 103, 3) := by decide +kernel
theorem d_M_take_66 : decode prog_5_method_24_code 66 = .ok (.return_, 1) := by decide +kernel
theorem d_M_task_0 : decode prog_5_method_25_code 0 = .ok (.aload_n 0, 1) := by decide +kernel
theorem d_M_task_1 : decode prog_5_method_25_code 1 = .ok (.bipush 15, 2) := by decide +kernel
theorem d_M_task_3 : decode prog_5_method_25_code 3 = .ok (.aload_n 0, 1) := by decide +kernel
theorem d_M_task_4 : decode prog_5_method_25_code 4 = .ok (.iload_n 1, 1) := by decide +kernel
theorem d_M_task_5 : decode prog_5_method_25_code 5 = .ok (.invokevirtual 82, 3) := by decide +kernel
theorem d_M_task_8 : decode prog_5_method_25_code 8 = .ok (.iload_n 2, 1) := by decide +kernel
theorem d_M_task_9 : decode prog_5_method_25_code 9 = .ok (.aload_n 0, 1) := by decide +kernel
theorem d_M_task_10 : decode prog_5_method_25_code 10 = .ok (.getfield 89, 3) := by decide +kernel
theorem d_M_task_13 : decode prog_5_method_25_code 13 = .ok (.ldc 129, 2) := by decide +kernel
theorem d_M_task_15 : decode prog_5_method_25_code 15 = .ok (.invokestatic 75, 3) := by decide +kernel
theorem d_M_task_18 : decode prog_5_method_25_code 18 = .ok (.aload_n 0, 1) := by decide +kernel
theorem d_M_task_19 : decode prog_5_method_25_code 19 = .ok (.iload_n 1, 1) := by decide +kernel
theorem d_M_task_20 : decode prog_5_method_25_code 20 = .ok (.invokevirtual 116, 3) := by decide +kernel
theorem d_M_task_23 : decode prog_5_method_25_code 23 = .ok (.aload_n 0, 1) := by decide +kernel
theorem d_M_task_24 : decode prog_5_method_25_code 24 = .ok (.getfield 126, 3) := by decide +kernel
theorem d_M_task_27 : decode prog_5_method_25_code 27 = .ok (.bipush 60, 2) := by decide +kernel
theorem d_M_task_29 : decode prog_5_method_25_code 29 = .ok (.if_icmp .ge 7, 3) := by decide +kernel
theorem d_M_task_32 : decode prog_5_method_25_code 32 = .ok (.iconst 1, 1) := by decide +kernel
theorem d_M_task_33 : decode prog_5_method_25_code 33 = .ok (.goto 4, 3) := by decide +kernel
theorem d_M_task_36 : decode prog_5_method_25_code 36 = .ok (.iconst 0, 1) := by decide +kernel
theorem d_M_task_37 : decode prog_5_method_25_code 37 = .ok (.invokevirtual 106, 3) := by decide +kernel
theorem d_M_task_40 : decode prog_5_method_25_code 40 = .ok (.ifCond .ne 5, 3) := by decide +kernel
theorem d_M_task_43 : decode prog_5_method_25_code 43 = .ok (.iconst 0, 1) := by decide +kernel
theorem d_M_task_44 : decode prog_5_method_25_code 44 = .ok (.ireturn, 1) := by decide +kernel
theorem d_M_task_45 : decode prog_5_method_25_code 45 = .ok (.aload_n 0, 1) := by decide +kernel
theorem d_M_task_46 : decode prog_5_method_25_code 46 = .ok (.getfield 42, 3) := by decide +kernel
theorem d_M_task_49 : decode prog_5_method_25_code 49 = .ok (.aload_n 0, 1) := by decide +kernel
theorem d_M_task_50 : decode prog_5_method_25_code 50 = .ok (.getfield 126, 3) := by decide +kernel
theorem d_M_task_53 : decode prog_5_method_25_code 53 = .ok (.iload_n 1, 1) := by decide +kernel
theorem d_M_task_54 : decode prog_5_method_25_code 54 = .ok (.iastore, 1) := by decide +kernel
theorem d_M_task_55 : decode prog_5_method_25_code 55 = .ok (.aload_n 0, 1) := by decide +kernel
theorem d_M_task_56 : decode prog_5_method_25_code 56 = .ok (.getfield 45, 3) := by decide +kernel
theorem d_M_task_59 : decode prog_5_method_25_code 59 = .ok (.aload_n 0, 1) := by decide +kernel
theorem d_M_task_60 : decode prog_5_method_25_code 60 = .ok (.getfield 126, 3) := by decide +kernel
theorem d_M_task_63 : decode prog_5_method_25_code 63 = .ok (.iload_n 2, 1) := by decide +kernel
theorem d_M_task_64 : decode prog_5_method_25_code 64 = .ok (.iastore, 1) := by decide +kernel
theorem d_M_task_65 : decode prog_5_method_25_code 65 = .ok (.aload_n 0, 1) := by decide +kernel
theorem d_M_task_66 : decode prog_5_method_25_code 66 = .ok (.getfield 48, 3) := by decide +kernel
theorem d_M_task_69 : decode prog_5_method_25_code 69 = .ok (.aload_n 0, 1) := by decide +kernel
theorem d_M_task_70 : decode prog_5_method_25_code 70 = .ok (.getfield 126, 3) := by decide +kernel
theorem d_M_task_73 : decode prog_5_method_25_code 73 = .ok (.iconst 0, 1) := by decide +kernel
theorem d_M_task_74 : decode prog_5_method_25_code 74 = .ok (.iastore, 1) := by decide +kernel
theorem d_M_task_75 : decode prog_5_method_25_code 75 = .ok (.aload_n 0, 1) := by decide +kernel
theorem d_M_task_76 : decode prog_5_method_25_code 76 = .ok (.getfield 51, 3) := by decide +kernel
theorem d_M_task_79 : decode prog_5_method_25_code 79 = .ok (.aload_n 0, 1) := by decide +kernel
theorem d_M_task_80 : decode prog_5_method_25_code 80 = .ok (.getfield 126, 3) := by decide +kernel
theorem d_M_task_83 : decode prog_5_method_25_code 83 = .ok (.iconst (-1), 1) := by decide +kernel
theorem d_M_task_84 : decode prog_5_method_25_code 84 = .ok (.iastore, 1) := by decide +kernel
theorem d_M_task_85 : decode prog_5_method_25_code 85 = .ok (.aload_n 0, 1) := by decide +kernel
theorem d_M_task_86 : decode prog_5_method_25_code 86 = .ok (.dup, 1) := by decide +kernel
theorem d_M_task_87 : decode prog_5_method_25_code 87 = .ok (.getfield 126, 3) := by decide +kernel
theorem d_M_task_90 : decode prog_5_method_25_code 90 = .ok (.iconst 1, 1) := by decide +kernel
theorem d_M_task_91 : decode prog_5_method_25_code 91 = .ok (.iadd, 1) := by decide +kernel
theorem d_M_task_92 : decode prog_5_method_25_code 92 = .ok (.putfield 126, 3) := by decide +kernel
theorem d_M_task_95 : decode prog_5_method_25_code 95 = .ok (.aload_n 0, 1) := by decide +kernel
theorem d_M_task_96 : decode prog_5_method_25_code 96 = .ok (.getfield 126, 3) := by decide +kernel
theorem d_M_task_99 : decode prog_5_method_25_code 99 = .ok (.iconst 1, 1) := by decide +kernel
theorem d_M_task_100 : decode prog_5_method_25_code 100 = .ok (.isub, 1) := by decide +kernel
theorem d_M_task_101 : decode prog_5_method_25_code 101 = .ok (.ireturn, 1) := by decide +kernel
theorem d_M_answer_0 : decode prog_5_method_26_code 0 = .ok (.iload_n 1, 1) := by decide +kernel
theorem d_M_answer_1 : decode prog_5_method_26_code 1 = .ok (.iconst 0, 1) := by decide +kernel
theorem d_M_answer_2 : decode prog_5_method_26_code 2 = .ok (.aload_n 0, 1) := by decide +kernel
theorem d_M_answer_3 : decode prog_5_method_26_code 3 = .ok (.getfield 126, 3) := by decide +kernel
theorem d_M_answer_6 : decode prog_5_method_26_code 6 = .ok (.iconst 1, 1) := by decide +kernel
theorem d_M_answer_7 : decode prog_5_method_26_code 7 = .ok (.isub, 1) := by decide +kernel
theorem d_M_answer_8 : decode prog_5_method_26_code 8 = .ok (.invokestatic 75, 3) := by decide +kernel
theorem d_M_answer_11 : decode prog_5_method_26_code 11 = .ok (.istore_n 3, 1) := by decide +kernel
theorem d_M_answer_12 : decode prog_5_method_26_code 12 = .ok (.aload_n 0, 1) := by decide +kernel
theorem d_M_answer_13 : decode prog_5_method_26_code 13 = .ok (.iconst 5, 1) := by decide +kernel
theorem d_M_answer_14 : decode prog_5_method_26_code 14 = .ok (.iload_n 3, 1) := by decide +kernel
theorem d_M_answer_15 : decode prog_5_method_26_code 15 = .ok (.iconst 1, 1) := by decide +kernel
theorem d_M_answer_16 : decode prog_5_method_26_code 16 = .ok (.iload_n 3, 1) := by decide +kernel
theorem d_M_answer_17 : decode prog_5_method_26_code 17 = .ok (.ifCond .eq 26, 3) := by decide +kernel
theorem d_M_answer_20 : decode prog_5_method_26_code 20 = .ok (.aload_n 0, 1) := by decide +kernel
theorem d_M_answer_21 : decode prog_5_method_26_code 21 = .ok (.getfield 48, 3) := by decide +kernel
theorem d_M_answer_24 : decode prog_5_method_26_code 24 = .ok (.iload_n 1, 1) := by decide +kernel
theorem d_M_answer_25 : decode prog_5_method_26_code 25 = .ok (.iaload, 1) := by decide +kernel
theorem d_M_answer_26 : decode prog_5_method_26_code 26 = .ok (.ifCond .eq 13, 3) := by decide +kernel
theorem d_M_answer_29 : decode prog_5_method_26_code 29 = .ok (.aload_n 0, 1) := by decide +kernel
theorem d_M_answer_30 : decode prog_5_method_26_code 30 = .ok (.getfield 48, 3) := by decide +kernel
theorem d_M_answer_33 : decode prog_5_method_26_code 33 = .ok (.iload_n 1, 1) := by decide +kernel
theorem d_M_answer_34 : decode prog_5_method_26_code 34 = .ok (.iaload, 1) := by decide +kernel
theorem d_M_answer_35 : decode prog_5_method_26_code 35 = .ok (.iconst 3, 1) := by decide +kernel
theorem d_M_answer_36 : decode prog_5_method_26_code 36 = .ok (.if_icmp .ne 7, 3) := by decide +kernel
theorem d_M_answer_39 : decode prog_5_method_26_code 39 = .ok (.iconst 1, 1) := by decide +kernel
theorem d_M_answer_40 : decode prog_5_method_26_code 40 = .ok (.goto 4, 3) := by decide +kernel
theorem d_M_answer_43 : decode prog_5_method_26_code 43 = .ok (.iconst 0, 1) := by decide +kernel
theorem d_M_answer_44 : decode prog_5_method_26_code 44 = .ok (.iconst 1, 1) := by decide +kernel
theorem d_M_answer_45 : decode prog_5_method_26_code 45 = .ok (.invokevirtual 106, 3) := by decide +kernel
theorem d_M_answer_48 : decode prog_5_method_26_code 48 = .ok (.ifCond .ne 4, 3) := by decide +kernel
theorem d_M_answer_51 : decode prog_5_method_26_code 51 = .ok (.return_, 1) := by decide +kernel
theorem d_M_answer_52 : decode prog_5_method_26_code 52 = .ok (.aload_n 0, 1) := by decide +kernel
theorem d_M_answer_53 : decode prog_5_method_26_code 53 = .ok (.getfield 48, 3) := by decide +kernel
theorem d_M_answer_56 : decode prog_5_method_26_code 56 = .ok (.iload_n 1, 1) := by decide +kernel
theorem d_M_answer_57 : decode prog_5_method_26_code 57 = .ok (.iload_n 2, 1) := by decide +kernel
theorem d_M_answer_58 : decode prog_5_method_26_code 58 = .ok (.ifCond .eq 7, 3) := by decide +kernel
theorem d_M_answer_61 : decode prog_5_method_26_code 61 = .ok (.iconst 1, 1) := by decide +kernel
theorem d_M_answer_62 : decode prog_5_method_26_code 62 = .ok (.goto 4, 3) := by decide +kernel
theorem d_M_answer_65 : decode prog_5_method_26_code 65 = .ok (.iconst 2, 1) := by decide +kernel
theorem d_M_answer_66 : decode prog_5_method_26_code 66 = .ok (.iastore, 1) := by decide +kernel
theorem d_M_answer_67 : decode prog_5_method_26_code 67 = .ok (.aload_n 0, 1) := by decide +kernel
theorem d_M_answer_68 : decode prog_5_method_26_code 68 = .ok (.getfield 51, 3) := by decide +kernel
theorem d_M_answer_71 : decode prog_5_method_26_code 71 = .ok (.iload_n 1, 1) := by decide +kernel
theorem d_M_answer_72 : decode prog_5_method_26_code 72 = .ok (.aload_n 0, 1) := by decide +kernel
theorem d_M_answer_73 : decode prog_5_method_26_code 73 = .ok (.getfield 89, 3) := by decide +kernel
theorem d_M_answer_76 : decode prog_5_method_26_code 76 = .ok (.iastore, 1) := by decide +kernel
theorem d_M_answer_77 : decode prog_5_method_26_code 77 = .ok (.return_, 1) := by decide +kernel
theorem d_M_span_0 : decode prog_5_method_30_code 0 = .ok (.aload_n 0, 1) := by decide +kernel
theorem d_M_span_1 : decode prog_5_method_30_code 1 = .ok (.iconst 2, 1) := by decide +kernel
theorem d_M_span_2 : decode prog_5_method_30_code 2 = .ok (.iconst 1, 1) := by decide +kernel
theorem d_M_span_3 : decode prog_5_method_30_code 3 = .ok (.iload_n 1, 1) := by decide +kernel
theorem d_M_span_4 : decode prog_5_method_30_code 4 = .ok (.iconst 1, 1) := by decide +kernel
theorem d_M_span_5 : decode prog_5_method_30_code 5 = .ok (.bipush 20, 2) := by decide +kernel
theorem d_M_span_7 : decode prog_5_method_30_code 7 = .ok (.invokestatic 75, 3) := by decide +kernel
theorem d_M_span_10 : decode prog_5_method_30_code 10 = .ok (.iconst 1, 1) := by decide +kernel
theorem d_M_span_11 : decode prog_5_method_30_code 11 = .ok (.iconst 1, 1) := by decide +kernel
theorem d_M_span_12 : decode prog_5_method_30_code 12 = .ok (.invokevirtual 106, 3) := by decide +kernel
theorem d_M_span_15 : decode prog_5_method_30_code 15 = .ok (.ifCond .ne 5, 3) := by decide +kernel
theorem d_M_span_18 : decode prog_5_method_30_code 18 = .ok (.iconst 0, 1) := by decide +kernel
theorem d_M_span_19 : decode prog_5_method_30_code 19 = .ok (.ireturn, 1) := by decide +kernel
theorem d_M_span_20 : decode prog_5_method_30_code 20 = .ok (.aload_n 0, 1) := by decide +kernel
theorem d_M_span_21 : decode prog_5_method_30_code 21 = .ok (.iload_n 1, 1) := by decide +kernel
theorem d_M_span_22 : decode prog_5_method_30_code 22 = .ok (.putfield 39, 3) := by decide +kernel
theorem d_M_span_25 : decode prog_5_method_30_code 25 = .ok (.iconst 0, 1) := by decide +kernel
theorem d_M_span_26 : decode prog_5_method_30_code 26 = .ok (.istore_n 2, 1) := by decide +kernel
theorem d_M_span_27 : decode prog_5_method_30_code 27 = .ok (.iconst 0, 1) := by decide +kernel
theorem d_M_span_28 : decode prog_5_method_30_code 28 = .ok (.istore_n 3, 1) := by decide +kernel
theorem d_M_span_29 : decode prog_5_method_30_code 29 = .ok (.iload_n 3, 1) := by decide +kernel
theorem d_M_span_30 : decode prog_5_method_30_code 30 = .ok (.aload_n 0, 1) := by decide +kernel
theorem d_M_span_31 : decode prog_5_method_30_code 31 = .ok (.getfield 22, 3) := by decide +kernel
theorem d_M_span_34 : decode prog_5_method_30_code 34 = .ok (.if_icmp .ge 20, 3) := by decide +kernel
theorem d_M_span_37 : decode prog_5_method_30_code 37 = .ok (.aload_n 0, 1) := by decide +kernel
theorem d_M_span_38 : decode prog_5_method_30_code 38 = .ok (.iload_n 3, 1) := by decide +kernel
theorem d_M_span_39 : decode prog_5_method_30_code 39 = .ok (.invokevirtual 136, 3) := by decide +kernel
theorem d_M_span_42 : decode prog_5_method_30_code 42 = .ok (.ifCond .eq 6, 3) := by decide +kernel
theorem d_M_span_45 : decode prog_5_method_30_code 45 = .ok (.iinc 2 1, 3) := by decide +kernel
theorem d_M_span_48 : decode prog_5_method_30_code 48 = .ok (.iinc 3 1, 3) := by decide +kernel
theorem d_M_span_51 : decode prog_5_method_30_code 51 = .ok (.goto (-22), 3) := by decide +kernel
theorem d_M_span_54 : decode prog_5_method_30_code 54 = .ok (.iload_n 2, 1) := by decide +kernel
theorem d_M_span_55 : decode prog_5_method_30_code 55 = .ok (.ireturn, 1) := by decide +kernel
theorem d_M_isPassed_0 : decode prog_5_method_29_code 0 = .ok (.aload_n 0, 1) := by decide +kernel
theorem d_M_isPassed_1 : decode prog_5_method_29_code 1 = .ok (.getfield 26, 3) := by decide +kernel
theorem d_M_isPassed_4 : decode prog_5_method_29_code 4 = .ok (.iload_n 1, 1) := by decide +kernel
theorem d_M_isPassed_5 : decode prog_5_method_29_code 5 = .ok (.baload, 1) := by decide +kernel
theorem d_M_isPassed_6 : decode prog_5_method_29_code 6 = .ok (.ifCond .ne 34, 3) := by decide +kernel
theorem d_M_isPassed_9 : decode prog_5_method_29_code 9 = .ok (.aload_n 0, 1) := by decide +kernel
theorem d_M_isPassed_10 : decode prog_5_method_29_code 10 = .ok (.getfield 33, 3) := by decide +kernel
theorem d_M_isPassed_13 : decode prog_5_method_29_code 13 = .ok (.iload_n 1, 1) := by decide +kernel
theorem d_M_isPassed_14 : decode prog_5_method_29_code 14 = .ok (.iaload, 1) := by decide +kernel
theorem d_M_isPassed_15 : decode prog_5_method_29_code 15 = .ok (.ifCond .lt 25, 3) := by decide +kernel
theorem d_M_isPassed_18 : decode prog_5_method_29_code 18 = .ok (.aload_n 0, 1) := by decide +kernel
theorem d_M_isPassed_19 : decode prog_5_method_29_code 19 = .ok (.iload_n 1, 1) := by decide +kernel
theorem d_M_isPassed_20 : decode prog_5_method_29_code 20 = .ok (.invokevirtual 130, 3) := by decide +kernel
theorem d_M_isPassed_23 : decode prog_5_method_29_code 23 = .ok (.aload_n 0, 1) := by decide +kernel
theorem d_M_isPassed_24 : decode prog_5_method_29_code 24 = .ok (.iload_n 1, 1) := by decide +kernel
theorem d_M_isPassed_25 : decode prog_5_method_29_code 25 = .ok (.invokevirtual 133, 3) := by decide +kernel
theorem d_M_isPassed_28 : decode prog_5_method_29_code 28 = .ok (.iadd, 1) := by decide +kernel
theorem d_M_isPassed_29 : decode prog_5_method_29_code 29 = .ok (.aload_n 0, 1) := by decide +kernel
theorem d_M_isPassed_30 : decode prog_5_method_29_code 30 = .ok (.getfield 39, 3) := by decide +kernel
theorem d_M_isPassed_33 : decode prog_5_method_29_code 33 = .ok (.if_icmp .le 7, 3) := by decide +kernel
theorem d_M_isPassed_36 : decode prog_5_method_29_code 36 = .ok (.iconst 1, 1) := by decide +kernel
theorem d_M_isPassed_37 : decode prog_5_method_29_code 37 = .ok (.goto 4, 3) := by decide +kernel
theorem d_M_isPassed_40 : decode prog_5_method_29_code 40 = .ok (.iconst 0, 1) := by decide +kernel
theorem d_M_isPassed_41 : decode prog_5_method_29_code 41 = .ok (.ireturn, 1) := by decide +kernel
theorem d_M_below_0 : decode prog_5_method_27_code 0 = .ok (.iconst 0, 1) := by decide +kernel
theorem d_M_below_1 : decode prog_5_method_27_code 1 = .ok (.istore_n 2, 1) := by decide +kernel
theorem d_M_below_2 : decode prog_5_method_27_code 2 = .ok (.iconst 0, 1) := by decide +kernel
theorem d_M_below_3 : decode prog_5_method_27_code 3 = .ok (.istore_n 3, 1) := by decide +kernel
theorem d_M_below_4 : decode prog_5_method_27_code 4 = .ok (.iload_n 3, 1) := by decide +kernel
theorem d_M_below_5 : decode prog_5_method_27_code 5 = .ok (.aload_n 0, 1) := by decide +kernel
theorem d_M_below_6 : decode prog_5_method_27_code 6 = .ok (.getfield 22, 3) := by decide +kernel
theorem d_M_below_9 : decode prog_5_method_27_code 9 = .ok (.if_icmp .ge 31, 3) := by decide +kernel
theorem d_M_below_12 : decode prog_5_method_27_code 12 = .ok (.aload_n 0, 1) := by decide +kernel
theorem d_M_below_13 : decode prog_5_method_27_code 13 = .ok (.getfield 30, 3) := by decide +kernel
theorem d_M_below_16 : decode prog_5_method_27_code 16 = .ok (.iload_n 3, 1) := by decide +kernel
theorem d_M_below_17 : decode prog_5_method_27_code 17 = .ok (.iaload, 1) := by decide +kernel
theorem d_M_below_18 : decode prog_5_method_27_code 18 = .ok (.iload_n 1, 1) := by decide +kernel
theorem d_M_below_19 : decode prog_5_method_27_code 19 = .ok (.if_icmp .ne 15, 3) := by decide +kernel
theorem d_M_below_22 : decode prog_5_method_27_code 22 = .ok (.aload_n 0, 1) := by decide +kernel
theorem d_M_below_23 : decode prog_5_method_27_code 23 = .ok (.getfield 26, 3) := by decide +kernel
theorem d_M_below_26 : decode prog_5_method_27_code 26 = .ok (.iload_n 3, 1) := by decide +kernel
theorem d_M_below_27 : decode prog_5_method_27_code 27 = .ok (.baload, 1) := by decide +kernel
theorem d_M_below_28 : decode prog_5_method_27_code 28 = .ok (.ifCond .ne 6, 3) := by decide +kernel
theorem d_M_below_31 : decode prog_5_method_27_code 31 = .ok (.iinc 2 1, 3) := by decide +kernel
theorem d_M_below_34 : decode prog_5_method_27_code 34 = .ok (.iinc 3 1, 3) := by decide +kernel
theorem d_M_below_37 : decode prog_5_method_27_code 37 = .ok (.goto (-33), 3) := by decide +kernel
theorem d_M_below_40 : decode prog_5_method_27_code 40 = .ok (.iload_n 2, 1) := by decide +kernel
theorem d_M_below_41 : decode prog_5_method_27_code 41 = .ok (.ireturn, 1) := by decide +kernel
theorem d_M_unitsIn_0 : decode prog_5_method_28_code 0 = .ok (.iconst 0, 1) := by decide +kernel
theorem d_M_unitsIn_1 : decode prog_5_method_28_code 1 = .ok (.istore_n 2, 1) := by decide +kernel
theorem d_M_unitsIn_2 : decode prog_5_method_28_code 2 = .ok (.iconst 0, 1) := by decide +kernel
theorem d_M_unitsIn_3 : decode prog_5_method_28_code 3 = .ok (.istore_n 3, 1) := by decide +kernel
theorem d_M_unitsIn_4 : decode prog_5_method_28_code 4 = .ok (.iload_n 3, 1) := by decide +kernel
theorem d_M_unitsIn_5 : decode prog_5_method_28_code 5 = .ok (.aload_n 0, 1) := by decide +kernel
theorem d_M_unitsIn_6 : decode prog_5_method_28_code 6 = .ok (.getfield 79, 3) := by decide +kernel
theorem d_M_unitsIn_9 : decode prog_5_method_28_code 9 = .ok (.if_icmp .ge 22, 3) := by decide +kernel
theorem d_M_unitsIn_12 : decode prog_5_method_28_code 12 = .ok (.aload_n 0, 1) := by decide +kernel
theorem d_M_unitsIn_13 : decode prog_5_method_28_code 13 = .ok (.getfield 19, 3) := by decide +kernel
theorem d_M_unitsIn_16 : decode prog_5_method_28_code 16 = .ok (.iload_n 3, 1) := by decide +kernel
theorem d_M_unitsIn_17 : decode prog_5_method_28_code 17 = .ok (.iaload, 1) := by decide +kernel
theorem d_M_unitsIn_18 : decode prog_5_method_28_code 18 = .ok (.iload_n 1, 1) := by decide +kernel
theorem d_M_unitsIn_19 : decode prog_5_method_28_code 19 = .ok (.if_icmp .ne 6, 3) := by decide +kernel
theorem d_M_unitsIn_22 : decode prog_5_method_28_code 22 = .ok (.iinc 2 1, 3) := by decide +kernel
theorem d_M_unitsIn_25 : decode prog_5_method_28_code 25 = .ok (.iinc 3 1, 3) := by decide +kernel
theorem d_M_unitsIn_28 : decode prog_5_method_28_code 28 = .ok (.goto (-24), 3) := by decide +kernel
theorem d_M_unitsIn_31 : decode prog_5_method_28_code 31 = .ok (.iload_n 2, 1) := by decide +kernel
theorem d_M_unitsIn_32 : decode prog_5_method_28_code 32 = .ok (.ireturn, 1) := by decide +kernel
theorem d_M_tick_0 : decode prog_5_method_31_code 0 = .ok (.aload_n 0, 1) := by decide +kernel
theorem d_M_tick_1 : decode prog_5_method_31_code 1 = .ok (.iconst 2, 1) := by decide +kernel
theorem d_M_tick_2 : decode prog_5_method_31_code 2 = .ok (.iconst 1, 1) := by decide +kernel
theorem d_M_tick_3 : decode prog_5_method_31_code 3 = .ok (.iload_n 1, 1) := by decide +kernel
theorem d_M_tick_4 : decode prog_5_method_31_code 4 = .ok (.iconst 1, 1) := by decide +kernel
theorem d_M_tick_5 : decode prog_5_method_31_code 5 = .ok (.sipush 5000, 3) := by decide +kernel
theorem d_M_tick_8 : decode prog_5_method_31_code 8 = .ok (.invokestatic 75, 3) := by decide +kernel
theorem d_M_tick_11 : decode prog_5_method_31_code 11 = .ok (.ifCond .eq 18, 3) := by decide +kernel
theorem d_M_tick_14 : decode prog_5_method_31_code 14 = .ok (.iload_n 1, 1) := by decide +kernel
theorem d_M_tick_15 : decode prog_5_method_31_code 15 = .ok (.ldc 129, 2) := by decide +kernel
theorem d_M_tick_17 : decode prog_5_method_31_code 17 = .ok (.aload_n 0, 1) := by decide +kernel
theorem d_M_tick_18 : decode prog_5_method_31_code 18 = .ok (.getfield 89, 3) := by decide +kernel
theorem d_M_tick_21 : decode prog_5_method_31_code 21 = .ok (.isub, 1) := by decide +kernel
theorem d_M_tick_22 : decode prog_5_method_31_code 22 = .ok (.if_icmp .gt 7, 3) := by decide +kernel
theorem d_M_tick_25 : decode prog_5_method_31_code 25 = .ok (.iconst 1, 1) := by decide +kernel
theorem d_M_tick_26 : decode prog_5_method_31_code 26 = .ok (.goto 4, 3) := by decide +kernel
theorem d_M_tick_29 : decode prog_5_method_31_code 29 = .ok (.iconst 0, 1) := by decide +kernel
theorem d_M_tick_30 : decode prog_5_method_31_code 30 = .ok (.iconst 1, 1) := by decide +kernel
theorem d_M_tick_31 : decode prog_5_method_31_code 31 = .ok (.iconst 1, 1) := by decide +kernel
theorem d_M_tick_32 : decode prog_5_method_31_code 32 = .ok (.invokevirtual 106, 3) := by decide +kernel
theorem d_M_tick_35 : decode prog_5_method_31_code 35 = .ok (.ifCond .ne 5, 3) := by decide +kernel
theorem d_M_tick_38 : decode prog_5_method_31_code 38 = .ok (.iconst 0, 1) := by decide +kernel
theorem d_M_tick_39 : decode prog_5_method_31_code 39 = .ok (.ireturn, 1) := by decide +kernel
theorem d_M_tick_40 : decode prog_5_method_31_code 40 = .ok (.aload_n 0, 1) := by decide +kernel
theorem d_M_tick_41 : decode prog_5_method_31_code 41 = .ok (.aload_n 0, 1) := by decide +kernel
theorem d_M_tick_42 : decode prog_5_method_31_code 42 = .ok (.getfield 89, 3) := by decide +kernel
theorem d_M_tick_45 : decode prog_5_method_31_code 45 = .ok (.iload_n 1, 1) := by decide +kernel
theorem d_M_tick_46 : decode prog_5_method_31_code 46 = .ok (.iadd, 1) := by decide +kernel
theorem d_M_tick_47 : decode prog_5_method_31_code 47 = .ok (.putfield 89, 3) := by decide +kernel
theorem d_M_tick_50 : decode prog_5_method_31_code 50 = .ok (.iconst 0, 1) := by decide +kernel
theorem d_M_tick_51 : decode prog_5_method_31_code 51 = .ok (.istore_n 2, 1) := by decide +kernel
theorem d_M_tick_52 : decode prog_5_method_31_code 52 = .ok (.iconst 0, 1) := by decide +kernel
theorem d_M_tick_53 : decode prog_5_method_31_code 53 = .ok (.istore_n 3, 1) := by decide +kernel
theorem d_M_tick_54 : decode prog_5_method_31_code 54 = .ok (.iload_n 3, 1) := by decide +kernel
theorem d_M_tick_55 : decode prog_5_method_31_code 55 = .ok (.aload_n 0, 1) := by decide +kernel
theorem d_M_tick_56 : decode prog_5_method_31_code 56 = .ok (.getfield 126, 3) := by decide +kernel
theorem d_M_tick_59 : decode prog_5_method_31_code 59 = .ok (.if_icmp .ge 44, 3) := by decide +kernel
theorem d_M_tick_62 : decode prog_5_method_31_code 62 = .ok (.aload_n 0, 1) := by decide +kernel
theorem d_M_tick_63 : decode prog_5_method_31_code 63 = .ok (.getfield 48, 3) := by decide +kernel
theorem d_M_tick_66 : decode prog_5_method_31_code 66 = .ok (.iload_n 3, 1) := by decide +kernel
theorem d_M_tick_67 : decode prog_5_method_31_code 67 = .ok (.iaload, 1) := by decide +kernel
theorem d_M_tick_68 : decode prog_5_method_31_code 68 = .ok (.ifCond .ne 29, 3) := by decide +kernel
theorem d_M_tick_71 : decode prog_5_method_31_code 71 = .ok (.aload_n 0, 1) := by decide +kernel
theorem d_M_tick_72 : decode prog_5_method_31_code 72 = .ok (.getfield 89, 3) := by decide +kernel
theorem d_M_tick_75 : decode prog_5_method_31_code 75 = .ok (.aload_n 0, 1) := by decide +kernel
theorem d_M_tick_76 : decode prog_5_method_31_code 76 = .ok (.getfield 45, 3) := by decide +kernel
theorem d_M_tick_79 : decode prog_5_method_31_code 79 = .ok (.iload_n 3, 1) := by decide +kernel
theorem d_M_tick_80 : decode prog_5_method_31_code 80 = .ok (.iaload, 1) := by decide +kernel
theorem d_M_tick_81 : decode prog_5_method_31_code 81 = .ok (.if_icmp .gt 6, 3) := by decide +kernel
theorem d_M_tick_84 : decode prog_5_method_31_code 84 = .ok (.goto 13, 3) := by decide +kernel
theorem d_M_tick_87 : decode prog_5_method_31_code 87 = .ok (.aload_n 0, 1) := by decide +kernel
theorem d_M_tick_88 : decode prog_5_method_31_code 88 = .ok (.getfield 48, 3) := by decide +kernel
theorem d_M_tick_91 : decode prog_5_method_31_code 91 = .ok (.iload_n 3, 1) := by decide +kernel
theorem d_M_tick_92 : decode prog_5_method_31_code 92 = .ok (.iconst 3, 1) := by decide +kernel
theorem d_M_tick_93 : decode prog_5_method_31_code 93 = .ok (.iastore, 1) := by decide +kernel
theorem d_M_tick_94 : decode prog_5_method_31_code 94 = .ok (.iinc 2 1, 3) := by decide +kernel
theorem d_M_tick_97 : decode prog_5_method_31_code 97 = .ok (.iinc 3 1, 3) := by decide +kernel
theorem d_M_tick_100 : decode prog_5_method_31_code 100 = .ok (.goto (-46), 3) := by decide +kernel
theorem d_M_tick_103 : decode prog_5_method_31_code 103 = .ok (.iload_n 2, 1) := by decide +kernel
theorem d_M_tick_104 : decode prog_5_method_31_code 104 = .ok (.ireturn, 1) := by decide +kernel
theorem d_M_led_0 : decode prog_5_method_32_code 0 = .ok (.aload_n 0, 1) := by decide +kernel
theorem d_M_led_1 : decode prog_5_method_32_code 1 = .ok (.bipush 11, 2) := by decide +kernel
theorem d_M_led_3 : decode prog_5_method_32_code 3 = .ok (.aload_n 0, 1) := by decide +kernel
theorem d_M_led_4 : decode prog_5_method_32_code 4 = .ok (.iload_n 1, 1) := by decide +kernel
theorem d_M_led_5 : decode prog_5_method_32_code 5 = .ok (.invokevirtual 82, 3) := by decide +kernel
theorem d_M_led_8 : decode prog_5_method_32_code 8 = .ok (.iload_n 2, 1) := by decide +kernel
theorem d_M_led_9 : decode prog_5_method_32_code 9 = .ok (.iconst 0, 1) := by decide +kernel
theorem d_M_led_10 : decode prog_5_method_32_code 10 = .ok (.aload_n 0, 1) := by decide +kernel
theorem d_M_led_11 : decode prog_5_method_32_code 11 = .ok (.getfield 89, 3) := by decide +kernel
theorem d_M_led_14 : decode prog_5_method_32_code 14 = .ok (.invokestatic 75, 3) := by decide +kernel
theorem d_M_led_17 : decode prog_5_method_32_code 17 = .ok (.iconst 1, 1) := by decide +kernel
theorem d_M_led_18 : decode prog_5_method_32_code 18 = .ok (.iload_n 2, 1) := by decide +kernel
theorem d_M_led_19 : decode prog_5_method_32_code 19 = .ok (.aload_n 0, 1) := by decide +kernel
theorem d_M_led_20 : decode prog_5_method_32_code 20 = .ok (.getfield 66, 3) := by decide +kernel
theorem d_M_led_23 : decode prog_5_method_32_code 23 = .ok (.if_icmp .lt 7, 3) := by decide +kernel
theorem d_M_led_26 : decode prog_5_method_32_code 26 = .ok (.iconst 1, 1) := by decide +kernel
theorem d_M_led_27 : decode prog_5_method_32_code 27 = .ok (.goto 4, 3) := by decide +kernel
theorem d_M_led_30 : decode prog_5_method_32_code 30 = .ok (.iconst 0, 1) := by decide +kernel
theorem d_M_led_31 : decode prog_5_method_32_code 31 = .ok (.invokevirtual 106, 3) := by decide +kernel
theorem d_M_led_34 : decode prog_5_method_32_code 34 = .ok (.ifCond .ne 5, 3) := by decide +kernel
theorem d_M_led_37 : decode prog_5_method_32_code 37 = .ok (.iconst 0, 1) := by decide +kernel
theorem d_M_led_38 : decode prog_5_method_32_code 38 = .ok (.ireturn, 1) := by decide +kernel
theorem d_M_led_39 : decode prog_5_method_32_code 39 = .ok (.aload_n 0, 1) := by decide +kernel
theorem d_M_led_40 : decode prog_5_method_32_code 40 = .ok (.getfield 63, 3) := by decide +kernel
theorem d_M_led_43 : decode prog_5_method_32_code 43 = .ok (.aload_n 0, 1) := by decide +kernel
theorem d_M_led_44 : decode prog_5_method_32_code 44 = .ok (.iload_n 1, 1) := by decide +kernel
theorem d_M_led_45 : decode prog_5_method_32_code 45 = .ok (.invokevirtual 82, 3) := by decide +kernel
theorem d_M_led_48 : decode prog_5_method_32_code 48 = .ok (.ifCond .eq 7, 3) := by decide +kernel
theorem d_M_led_51 : decode prog_5_method_32_code 51 = .ok (.iload_n 1, 1) := by decide +kernel
theorem d_M_led_52 : decode prog_5_method_32_code 52 = .ok (.goto 4, 3) := by decide +kernel
theorem d_M_led_55 : decode prog_5_method_32_code 55 = .ok (.iconst 0, 1) := by decide +kernel
theorem d_M_led_56 : decode prog_5_method_32_code 56 = .ok (.iaload, 1) := by decide +kernel
theorem d_M_led_57 : decode prog_5_method_32_code 57 = .ok (.istore_n 3, 1) := by decide +kernel
theorem d_M_led_58 : decode prog_5_method_32_code 58 = .ok (.aload_n 0, 1) := by decide +kernel
theorem d_M_led_59 : decode prog_5_method_32_code 59 = .ok (.getfield 86, 3) := by decide +kernel
theorem d_M_led_62 : decode prog_5_method_32_code 62 = .ok (.sipush 400, 3) := by decide +kernel
theorem d_M_led_65 : decode prog_5_method_32_code 65 = .ok (.if_icmp .le 14, 3) := by decide +kernel
theorem d_M_led_68 : decode prog_5_method_32_code 68 = .ok (.aload_n 0, 1) := by decide +kernel
theorem d_M_led_69 : decode prog_5_method_32_code 69 = .ok (.getfield 86, 3) := by decide +kernel
theorem d_M_led_72 : decode prog_5_method_32_code 72 = .ok (.sipush 400, 3) := by decide +kernel
theorem d_M_led_75 : decode prog_5_method_32_code 75 = .ok (.isub, 1) := by decide +kernel
theorem d_M_led_76 : decode prog_5_method_32_code 76 = .ok (.goto 4, 3) := by decide +kernel
theorem d_M_led_79 : decode prog_5_method_32_code 79 = .ok (.iconst 0, 1) := by decide +kernel
theorem d_M_led_80 : decode prog_5_method_32_code 80 = .ok (.istore 4, 2) := by decide +kernel
theorem d_M_led_82 : decode prog_5_method_32_code 82 = .ok (.iload 4, 2) := by decide +kernel
theorem d_M_led_84 : decode prog_5_method_32_code 84 = .ok (.aload_n 0, 1) := by decide +kernel
theorem d_M_led_85 : decode prog_5_method_32_code 85 = .ok (.getfield 86, 3) := by decide +kernel
theorem d_M_led_88 : decode prog_5_method_32_code 88 = .ok (.if_icmp .ge 51, 3) := by decide +kernel
theorem d_M_led_91 : decode prog_5_method_32_code 91 = .ok (.aload_n 0, 1) := by decide +kernel
theorem d_M_led_92 : decode prog_5_method_32_code 92 = .ok (.getfield 54, 3) := by decide +kernel
theorem d_M_led_95 : decode prog_5_method_32_code 95 = .ok (.iload 4, 2) := by decide +kernel
theorem d_M_led_97 : decode prog_5_method_32_code 97 = .ok (.sipush 400, 3) := by decide +kernel
theorem d_M_led_100 : decode prog_5_method_32_code 100 = .ok (.irem, 1) := by decide +kernel
theorem d_M_led_101 : decode prog_5_method_32_code 101 = .ok (.iaload, 1) := by decide +kernel
theorem d_M_led_102 : decode prog_5_method_32_code 102 = .ok (.iload_n 1, 1) := by decide +kernel
theorem d_M_led_103 : decode prog_5_method_32_code 103 = .ok (.if_icmp .ne 30, 3) := by decide +kernel
theorem d_M_led_106 : decode prog_5_method_32_code 106 = .ok (.aload_n 0, 1) := by decide +kernel
theorem d_M_led_107 : decode prog_5_method_32_code 107 = .ok (.getfield 60, 3) := by decide +kernel
theorem d_M_led_110 : decode prog_5_method_32_code 110 = .ok (.iload 4, 2) := by decide +kernel
theorem d_M_led_112 : decode prog_5_method_32_code 112 = .ok (.sipush 400, 3) := by decide +kernel
theorem d_M_led_115 : decode prog_5_method_32_code 115 = .ok (.irem, 1) := by decide +kernel
theorem d_M_led_116 : decode prog_5_method_32_code 116 = .ok (.iaload, 1) := by decide +kernel
theorem d_M_led_117 : decode prog_5_method_32_code 117 = .ok (.iload_n 2, 1) := by decide +kernel
theorem d_M_led_118 : decode prog_5_method_32_code 118 = .ok (.if_icmp .gt 15, 3) := by decide +kernel
theorem d_M_led_121 : decode prog_5_method_32_code 121 = .ok (.aload_n 0, 1) := by decide +kernel
theorem d_M_led_122 : decode prog_5_method_32_code 122 = .ok (.getfield 57, 3) := by decide +kernel
theorem d_M_led_125 : decode prog_5_method_32_code 125 = .ok (.iload 4, 2) := by decide +kernel
theorem d_M_led_127 : decode prog_5_method_32_code 127 = .ok (.sipush 400, 3) := by decide +kernel
theorem d_M_led_130 : decode prog_5_method_32_code 130 = .ok (.irem, 1) := by decide +kernel
theorem d_M_led_131 : decode prog_5_method_32_code 131 = .ok (.iaload, 1) := by decide +kernel
theorem d_M_led_132 : decode prog_5_method_32_code 132 = .ok (.istore_n 3, 1) := by decide +kernel
theorem d_M_led_133 : decode prog_5_method_32_code 133 = .ok (.iinc 4 1, 3) := by decide +kernel
theorem d_M_led_136 : decode prog_5_method_32_code 136 = .ok (.goto (-54), 3) := by decide +kernel
theorem d_M_led_139 : decode prog_5_method_32_code 139 = .ok (.iload_n 3, 1) := by decide +kernel
theorem d_M_led_140 : decode prog_5_method_32_code 140 = .ok (.ireturn, 1) := by decide +kernel
theorem d_M_sectorAt_0 : decode prog_5_method_33_code 0 = .ok (.aload_n 0, 1) := by decide +kernel
theorem d_M_sectorAt_1 : decode prog_5_method_33_code 1 = .ok (.iconst 1, 1) := by decide +kernel
theorem d_M_sectorAt_2 : decode prog_5_method_33_code 2 = .ok (.aload_n 0, 1) := by decide +kernel
theorem d_M_sectorAt_3 : decode prog_5_method_33_code 3 = .ok (.iload_n 1, 1) := by decide +kernel
theorem d_M_sectorAt_4 : decode prog_5_method_33_code 4 = .ok (.invokevirtual 82, 3) := by decide +kernel
theorem d_M_sectorAt_7 : decode prog_5_method_33_code 7 = .ok (.ifCond .eq 17, 3) := by decide +kernel
theorem d_M_sectorAt_10 : decode prog_5_method_33_code 10 = .ok (.iload_n 2, 1) := by decide +kernel
theorem d_M_sectorAt_11 : decode prog_5_method_33_code 11 = .ok (.iconst 0, 1) := by decide +kernel
theorem d_M_sectorAt_12 : decode prog_5_method_33_code 12 = .ok (.bipush 7, 2) := by decide +kernel
theorem d_M_sectorAt_14 : decode prog_5_method_33_code 14 = .ok (.invokestatic 75, 3) := by decide +kernel
theorem d_M_sectorAt_17 : decode prog_5_method_33_code 17 = .ok (.ifCond .eq 7, 3) := by decide +kernel
theorem d_M_sectorAt_20 : decode prog_5_method_33_code 20 = .ok (.iconst 1, 1) := by decide +kernel
theorem d_M_sectorAt_21 : decode prog_5_method_33_code 21 = .ok (.goto 4, 3) := by decide +kernel
theorem d_M_sectorAt_24 : decode prog_5_method_33_code 24 = .ok (.iconst 0, 1) := by decide +kernel
theorem d_M_sectorAt_25 : decode prog_5_method_33_code 25 = .ok (.iconst 1, 1) := by decide +kernel
theorem d_M_sectorAt_26 : decode prog_5_method_33_code 26 = .ok (.iconst 1, 1) := by decide +kernel
theorem d_M_sectorAt_27 : decode prog_5_method_33_code 27 = .ok (.iconst 1, 1) := by decide +kernel
theorem d_M_sectorAt_28 : decode prog_5_method_33_code 28 = .ok (.invokevirtual 106, 3) := by decide +kernel
theorem d_M_sectorAt_31 : decode prog_5_method_33_code 31 = .ok (.ifCond .ne 5, 3) := by decide +kernel
theorem d_M_sectorAt_34 : decode prog_5_method_33_code 34 = .ok (.iconst 0, 1) := by decide +kernel
theorem d_M_sectorAt_35 : decode prog_5_method_33_code 35 = .ok (.ireturn, 1) := by decide +kernel
theorem d_M_sectorAt_36 : decode prog_5_method_33_code 36 = .ok (.iconst 0, 1) := by decide +kernel
theorem d_M_sectorAt_37 : decode prog_5_method_33_code 37 = .ok (.istore_n 3, 1) := by decide +kernel
theorem d_M_sectorAt_38 : decode prog_5_method_33_code 38 = .ok (.iconst 0, 1) := by decide +kernel
theorem d_M_sectorAt_39 : decode prog_5_method_33_code 39 = .ok (.istore 4, 2) := by decide +kernel
theorem d_M_sectorAt_41 : decode prog_5_method_33_code 41 = .ok (.iload 4, 2) := by decide +kernel
theorem d_M_sectorAt_43 : decode prog_5_method_33_code 43 = .ok (.aload_n 0, 1) := by decide +kernel
theorem d_M_sectorAt_44 : decode prog_5_method_33_code 44 = .ok (.getfield 72, 3) := by decide +kernel
theorem d_M_sectorAt_47 : decode prog_5_method_33_code 47 = .ok (.if_icmp .ge 23, 3) := by decide +kernel
theorem d_M_sectorAt_50 : decode prog_5_method_33_code 50 = .ok (.aload_n 0, 1) := by decide +kernel
theorem d_M_sectorAt_51 : decode prog_5_method_33_code 51 = .ok (.getfield 13, 3) := by decide +kernel
theorem d_M_sectorAt_54 : decode prog_5_method_33_code 54 = .ok (.iload 4, 2) := by decide +kernel
theorem d_M_sectorAt_56 : decode prog_5_method_33_code 56 = .ok (.iaload, 1) := by decide +kernel
theorem d_M_sectorAt_57 : decode prog_5_method_33_code 57 = .ok (.iload_n 1, 1) := by decide +kernel
theorem d_M_sectorAt_58 : decode prog_5_method_33_code 58 = .ok (.if_icmp .ne 6, 3) := by decide +kernel
theorem d_M_sectorAt_61 : decode prog_5_method_33_code 61 = .ok (.iinc 3 1, 3) := by decide +kernel
theorem d_M_sectorAt_64 : decode prog_5_method_33_code 64 = .ok (.iinc 4 1, 3) := by decide +kernel
theorem d_M_sectorAt_67 : decode prog_5_method_33_code 67 = .ok (.goto (-26), 3) := by decide +kernel
theorem d_M_sectorAt_70 : decode prog_5_method_33_code 70 = .ok (.iload_n 2, 1) := by decide +kernel
theorem d_M_sectorAt_71 : decode prog_5_method_33_code 71 = .ok (.ifCond .ne 20, 3) := by decide +kernel
theorem d_M_sectorAt_74 : decode prog_5_method_33_code 74 = .ok (.aload_n 0, 1) := by decide +kernel
theorem d_M_sectorAt_75 : decode prog_5_method_33_code 75 = .ok (.getfield 26, 3) := by decide +kernel
theorem d_M_sectorAt_78 : decode prog_5_method_33_code 78 = .ok (.iload_n 1, 1) := by decide +kernel
theorem d_M_sectorAt_79 : decode prog_5_method_33_code 79 = .ok (.baload, 1) := by decide +kernel
theorem d_M_sectorAt_80 : decode prog_5_method_33_code 80 = .ok (.ifCond .eq 7, 3) := by decide +kernel
theorem d_M_sectorAt_83 : decode prog_5_method_33_code 83 = .ok (.iconst 0, 1) := by decide +kernel
theorem d_M_sectorAt_84 : decode prog_5_method_33_code 84 = .ok (.goto 98, 3) := by decide +kernel
theorem d_M_sectorAt_87 : decode prog_5_method_33_code 87 = .ok (.iconst 1, 1) := by decide +kernel
theorem d_M_sectorAt_88 : decode prog_5_method_33_code 88 = .ok (.goto 94, 3) := by decide +kernel
theorem d_M_sectorAt_91 : decode prog_5_method_33_code 91 = .ok (.iload_n 2, 1) := by decide +kernel
theorem d_M_sectorAt_92 : decode prog_5_method_33_code 92 = .ok (.iconst 1, 1) := by decide +kernel
theorem d_M_sectorAt_93 : decode prog_5_method_33_code 93 = .ok (.if_icmp .ne 12, 3) := by decide +kernel
theorem d_M_sectorAt_96 : decode prog_5_method_33_code 96 = .ok (.aload_n 0, 1) := by decide +kernel
theorem d_M_sectorAt_97 : decode prog_5_method_33_code 97 = .ok (.getfield 33, 3) := by decide +kernel
theorem d_M_sectorAt_100 : decode prog_5_method_33_code 100 = .ok (.iload_n 1, 1) := by decide +kernel
theorem d_M_sectorAt_101 : decode prog_5_method_33_code 101 = .ok (.iaload, 1) := by decide +kernel
theorem d_M_sectorAt_102 : decode prog_5_method_33_code 102 = .ok (.goto 80, 3) := by decide +kernel
theorem d_M_sectorAt_105 : decode prog_5_method_33_code 105 = .ok (.iload_n 2, 1) := by decide +kernel
theorem d_M_sectorAt_106 : decode prog_5_method_33_code 106 = .ok (.iconst 2, 1) := by decide +kernel
theorem d_M_sectorAt_107 : decode prog_5_method_33_code 107 = .ok (.if_icmp .ne 12, 3) := by decide +kernel
theorem d_M_sectorAt_110 : decode prog_5_method_33_code 110 = .ok (.aload_n 0, 1) := by decide +kernel
theorem d_M_sectorAt_111 : decode prog_5_method_33_code 111 = .ok (.getfield 30, 3) := by decide +kernel
theorem d_M_sectorAt_114 : decode prog_5_method_33_code 114 = .ok (.iload_n 1, 1) := by decide +kernel
theorem d_M_sectorAt_115 : decode prog_5_method_33_code 115 = .ok (.iaload, 1) := by decide +kernel
theorem d_M_sectorAt_116 : decode prog_5_method_33_code 116 = .ok (.goto 66, 3) := by decide +kernel
theorem d_M_sectorAt_119 : decode prog_5_method_33_code 119 = .ok (.iload_n 2, 1) := by decide +kernel
theorem d_M_sectorAt_120 : decode prog_5_method_33_code 120 = .ok (.iconst 3, 1) := by decide +kernel
theorem d_M_sectorAt_121 : decode prog_5_method_33_code 121 = .ok (.if_icmp .ne 7, 3) := by decide +kernel
theorem d_M_sectorAt_124 : decode prog_5_method_33_code 124 = .ok (.iload_n 3, 1) := by decide +kernel
theorem d_M_sectorAt_125 : decode prog_5_method_33_code 125 = .ok (.goto 57, 3) := by decide +kernel
theorem d_M_sectorAt_128 : decode prog_5_method_33_code 128 = .ok (.iload_n 2, 1) := by decide +kernel
theorem d_M_sectorAt_129 : decode prog_5_method_33_code 129 = .ok (.iconst 4, 1) := by decide +kernel
theorem d_M_sectorAt_130 : decode prog_5_method_33_code 130 = .ok (.if_icmp .ne 11, 3) := by decide +kernel
theorem d_M_sectorAt_133 : decode prog_5_method_33_code 133 = .ok (.aload_n 0, 1) := by decide +kernel
theorem d_M_sectorAt_134 : decode prog_5_method_33_code 134 = .ok (.iload_n 1, 1) := by decide +kernel
theorem d_M_sectorAt_135 : decode prog_5_method_33_code 135 = .ok (.invokevirtual 133, 3) := by decide +kernel
theorem d_M_sectorAt_138 : decode prog_5_method_33_code 138 = .ok (.goto 44, 3) := by decide +kernel
theorem d_M_sectorAt_141 : decode prog_5_method_33_code 141 = .ok (.iload_n 2, 1) := by decide +kernel
theorem d_M_sectorAt_142 : decode prog_5_method_33_code 142 = .ok (.iconst 5, 1) := by decide +kernel
theorem d_M_sectorAt_143 : decode prog_5_method_33_code 143 = .ok (.if_icmp .ne 12, 3) := by decide +kernel
theorem d_M_sectorAt_146 : decode prog_5_method_33_code 146 = .ok (.aload_n 0, 1) := by decide +kernel
theorem d_M_sectorAt_147 : decode prog_5_method_33_code 147 = .ok (.getfield 36, 3) := by decide +kernel
theorem d_M_sectorAt_150 : decode prog_5_method_33_code 150 = .ok (.iload_n 1, 1) := by decide +kernel
theorem d_M_sectorAt_151 : decode prog_5_method_33_code 151 = .ok (.iaload, 1) := by decide +kernel
theorem d_M_sectorAt_152 : decode prog_5_method_33_code 152 = .ok (.goto 30, 3) := by decide +kernel
theorem d_M_sectorAt_155 : decode prog_5_method_33_code 155 = .ok (.iload_n 2, 1) := by decide +kernel
theorem d_M_sectorAt_156 : decode prog_5_method_33_code 156 = .ok (.bipush 6, 2) := by decide +kernel
theorem d_M_sectorAt_158 : decode prog_5_method_33_code 158 = .ok (.if_icmp .ne 19, 3) := by decide +kernel
theorem d_M_sectorAt_161 : decode prog_5_method_33_code 161 = .ok (.aload_n 0, 1) := by decide +kernel
theorem d_M_sectorAt_162 : decode prog_5_method_33_code 162 = .ok (.iload_n 1, 1) := by decide +kernel
theorem d_M_sectorAt_163 : decode prog_5_method_33_code 163 = .ok (.invokevirtual 136, 3) := by decide +kernel
theorem d_M_sectorAt_166 : decode prog_5_method_33_code 166 = .ok (.ifCond .eq 7, 3) := by decide +kernel
theorem d_M_sectorAt_169 : decode prog_5_method_33_code 169 = .ok (.iconst 1, 1) := by decide +kernel
theorem d_M_sectorAt_170 : decode prog_5_method_33_code 170 = .ok (.goto 12, 3) := by decide +kernel
theorem d_M_sectorAt_173 : decode prog_5_method_33_code 173 = .ok (.iconst 0, 1) := by decide +kernel
theorem d_M_sectorAt_174 : decode prog_5_method_33_code 174 = .ok (.goto 8, 3) := by decide +kernel
theorem d_M_sectorAt_177 : decode prog_5_method_33_code 177 = .ok (.aload_n 0, 1) := by decide +kernel
theorem d_M_sectorAt_178 : decode prog_5_method_33_code 178 = .ok (.iload_n 1, 1) := by decide +kernel
theorem d_M_sectorAt_179 : decode prog_5_method_33_code 179 = .ok (.invokevirtual 130, 3) := by decide +kernel
theorem d_M_sectorAt_182 : decode prog_5_method_33_code 182 = .ok (.ireturn, 1) := by decide +kernel
theorem d_M_personAt_0 : decode prog_5_method_34_code 0 = .ok (.aload_n 0, 1) := by decide +kernel
theorem d_M_personAt_1 : decode prog_5_method_34_code 1 = .ok (.iconst 1, 1) := by decide +kernel
theorem d_M_personAt_2 : decode prog_5_method_34_code 2 = .ok (.aload_n 0, 1) := by decide +kernel
theorem d_M_personAt_3 : decode prog_5_method_34_code 3 = .ok (.iload_n 1, 1) := by decide +kernel
theorem d_M_personAt_4 : decode prog_5_method_34_code 4 = .ok (.invokevirtual 110, 3) := by decide +kernel
theorem d_M_personAt_7 : decode prog_5_method_34_code 7 = .ok (.ifCond .eq 16, 3) := by decide +kernel
theorem d_M_personAt_10 : decode prog_5_method_34_code 10 = .ok (.iload_n 2, 1) := by decide +kernel
theorem d_M_personAt_11 : decode prog_5_method_34_code 11 = .ok (.iconst 0, 1) := by decide +kernel
theorem d_M_personAt_12 : decode prog_5_method_34_code 12 = .ok (.iconst 2, 1) := by decide +kernel
theorem d_M_personAt_13 : decode prog_5_method_34_code 13 = .ok (.invokestatic 75, 3) := by decide +kernel
theorem d_M_personAt_16 : decode prog_5_method_34_code 16 = .ok (.ifCond .eq 7, 3) := by decide +kernel
theorem d_M_personAt_19 : decode prog_5_method_34_code 19 = .ok (.iconst 1, 1) := by decide +kernel
theorem d_M_personAt_20 : decode prog_5_method_34_code 20 = .ok (.goto 4, 3) := by decide +kernel
theorem d_M_personAt_23 : decode prog_5_method_34_code 23 = .ok (.iconst 0, 1) := by decide +kernel
theorem d_M_personAt_24 : decode prog_5_method_34_code 24 = .ok (.iconst 1, 1) := by decide +kernel
theorem d_M_personAt_25 : decode prog_5_method_34_code 25 = .ok (.iconst 1, 1) := by decide +kernel
theorem d_M_personAt_26 : decode prog_5_method_34_code 26 = .ok (.iconst 1, 1) := by decide +kernel
theorem d_M_personAt_27 : decode prog_5_method_34_code 27 = .ok (.invokevirtual 106, 3) := by decide +kernel
theorem d_M_personAt_30 : decode prog_5_method_34_code 30 = .ok (.ifCond .ne 5, 3) := by decide +kernel
theorem d_M_personAt_33 : decode prog_5_method_34_code 33 = .ok (.iconst 0, 1) := by decide +kernel
theorem d_M_personAt_34 : decode prog_5_method_34_code 34 = .ok (.ireturn, 1) := by decide +kernel
theorem d_M_personAt_35 : decode prog_5_method_34_code 35 = .ok (.iload_n 2, 1) := by decide +kernel
theorem d_M_personAt_36 : decode prog_5_method_34_code 36 = .ok (.ifCond .ne 12, 3) := by decide +kernel
theorem d_M_personAt_39 : decode prog_5_method_34_code 39 = .ok (.aload_n 0, 1) := by decide +kernel
theorem d_M_personAt_40 : decode prog_5_method_34_code 40 = .ok (.getfield 13, 3) := by decide +kernel
theorem d_M_personAt_43 : decode prog_5_method_34_code 43 = .ok (.iload_n 1, 1) := by decide +kernel
theorem d_M_personAt_44 : decode prog_5_method_34_code 44 = .ok (.iaload, 1) := by decide +kernel
theorem d_M_personAt_45 : decode prog_5_method_34_code 45 = .ok (.goto 22, 3) := by decide +kernel
theorem d_M_personAt_48 : decode prog_5_method_34_code 48 = .ok (.iload_n 2, 1) := by decide +kernel
theorem d_M_personAt_49 : decode prog_5_method_34_code 49 = .ok (.iconst 1, 1) := by decide +kernel
theorem d_M_personAt_50 : decode prog_5_method_34_code 50 = .ok (.if_icmp .ne 11, 3) := by decide +kernel
theorem d_M_personAt_53 : decode prog_5_method_34_code 53 = .ok (.aload_n 0, 1) := by decide +kernel
theorem d_M_personAt_54 : decode prog_5_method_34_code 54 = .ok (.iload_n 1, 1) := by decide +kernel
theorem d_M_personAt_55 : decode prog_5_method_34_code 55 = .ok (.invokevirtual 96, 3) := by decide +kernel
theorem d_M_personAt_58 : decode prog_5_method_34_code 58 = .ok (.goto 9, 3) := by decide +kernel
theorem d_M_personAt_61 : decode prog_5_method_34_code 61 = .ok (.aload_n 0, 1) := by decide +kernel
theorem d_M_personAt_62 : decode prog_5_method_34_code 62 = .ok (.getfield 16, 3) := by decide +kernel
theorem d_M_personAt_65 : decode prog_5_method_34_code 65 = .ok (.iload_n 1, 1) := by decide +kernel
theorem d_M_personAt_66 : decode prog_5_method_34_code 66 = .ok (.iaload, 1) := by decide +kernel
theorem d_M_personAt_67 : decode prog_5_method_34_code 67 = .ok (.ireturn, 1) := by decide +kernel
theorem d_M_unitAt_0 : decode prog_5_method_35_code 0 = .ok (.aload_n 0, 1) := by decide +kernel
theorem d_M_unitAt_1 : decode prog_5_method_35_code 1 = .ok (.iconst 1, 1) := by decide +kernel
theorem d_M_unitAt_2 : decode prog_5_method_35_code 2 = .ok (.aload_n 0, 1) := by decide +kernel
theorem d_M_unitAt_3 : decode prog_5_method_35_code 3 = .ok (.iload_n 1, 1) := by decide +kernel
theorem d_M_unitAt_4 : decode prog_5_method_35_code 4 = .ok (.invokevirtual 119, 3) := by decide +kernel
theorem d_M_unitAt_7 : decode prog_5_method_35_code 7 = .ok (.iconst 1, 1) := by decide +kernel
theorem d_M_unitAt_8 : decode prog_5_method_35_code 8 = .ok (.iconst 1, 1) := by decide +kernel
theorem d_M_unitAt_9 : decode prog_5_method_35_code 9 = .ok (.iconst 1, 1) := by decide +kernel
theorem d_M_unitAt_10 : decode prog_5_method_35_code 10 = .ok (.invokevirtual 106, 3) := by decide +kernel
theorem d_M_unitAt_13 : decode prog_5_method_35_code 13 = .ok (.ifCond .ne 5, 3) := by decide +kernel
theorem d_M_unitAt_16 : decode prog_5_method_35_code 16 = .ok (.iconst 0, 1) := by decide +kernel
theorem d_M_unitAt_17 : decode prog_5_method_35_code 17 = .ok (.ireturn, 1) := by decide +kernel
theorem d_M_unitAt_18 : decode prog_5_method_35_code 18 = .ok (.aload_n 0, 1) := by decide +kernel
theorem d_M_unitAt_19 : decode prog_5_method_35_code 19 = .ok (.getfield 19, 3) := by decide +kernel
theorem d_M_unitAt_22 : decode prog_5_method_35_code 22 = .ok (.iload_n 1, 1) := by decide +kernel
theorem d_M_unitAt_23 : decode prog_5_method_35_code 23 = .ok (.iaload, 1) := by decide +kernel
theorem d_M_unitAt_24 : decode prog_5_method_35_code 24 = .ok (.ireturn, 1) := by decide +kernel
theorem d_M_taskAt_0 : decode prog_5_method_36_code 0 = .ok (.aload_n 0, 1) := by decide +kernel
theorem d_M_taskAt_1 : decode prog_5_method_36_code 1 = .ok (.iconst 1, 1) := by decide +kernel
theorem d_M_taskAt_2 : decode prog_5_method_36_code 2 = .ok (.iload_n 1, 1) := by decide +kernel
theorem d_M_taskAt_3 : decode prog_5_method_36_code 3 = .ok (.iconst 0, 1) := by decide +kernel
theorem d_M_taskAt_4 : decode prog_5_method_36_code 4 = .ok (.aload_n 0, 1) := by decide +kernel
theorem d_M_taskAt_5 : decode prog_5_method_36_code 5 = .ok (.getfield 126, 3) := by decide +kernel
theorem d_M_taskAt_8 : decode prog_5_method_36_code 8 = .ok (.iconst 1, 1) := by decide +kernel
theorem d_M_taskAt_9 : decode prog_5_method_36_code 9 = .ok (.isub, 1) := by decide +kernel
theorem d_M_taskAt_10 : decode prog_5_method_36_code 10 = .ok (.invokestatic 75, 3) := by decide +kernel
theorem d_M_taskAt_13 : decode prog_5_method_36_code 13 = .ok (.ifCond .eq 16, 3) := by decide +kernel
theorem d_M_taskAt_16 : decode prog_5_method_36_code 16 = .ok (.iload_n 2, 1) := by decide +kernel
theorem d_M_taskAt_17 : decode prog_5_method_36_code 17 = .ok (.iconst 0, 1) := by decide +kernel
theorem d_M_taskAt_18 : decode prog_5_method_36_code 18 = .ok (.iconst 2, 1) := by decide +kernel
theorem d_M_taskAt_19 : decode prog_5_method_36_code 19 = .ok (.invokestatic 75, 3) := by decide +kernel
theorem d_M_taskAt_22 : decode prog_5_method_36_code 22 = .ok (.ifCond .eq 7, 3) := by decide +kernel
theorem d_M_taskAt_25 : decode prog_5_method_36_code 25 = .ok (.iconst 1, 1) := by decide +kernel
theorem d_M_taskAt_26 : decode prog_5_method_36_code 26 = .ok (.goto 4, 3) := by decide +kernel
theorem d_M_taskAt_29 : decode prog_5_method_36_code 29 = .ok (.iconst 0, 1) := by decide +kernel
theorem d_M_taskAt_30 : decode prog_5_method_36_code 30 = .ok (.iconst 1, 1) := by decide +kernel
theorem d_M_taskAt_31 : decode prog_5_method_36_code 31 = .ok (.iconst 1, 1) := by decide +kernel
theorem d_M_taskAt_32 : decode prog_5_method_36_code 32 = .ok (.iconst 1, 1) := by decide +kernel
theorem d_M_taskAt_33 : decode prog_5_method_36_code 33 = .ok (.invokevirtual 106, 3) := by decide +kernel
theorem d_M_taskAt_36 : decode prog_5_method_36_code 36 = .ok (.ifCond .ne 5, 3) := by decide +kernel
theorem d_M_taskAt_39 : decode prog_5_method_36_code 39 = .ok (.iconst 0, 1) := by decide +kernel
theorem d_M_taskAt_40 : decode prog_5_method_36_code 40 = .ok (.ireturn, 1) := by decide +kernel
theorem d_M_taskAt_41 : decode prog_5_method_36_code 41 = .ok (.iload_n 2, 1) := by decide +kernel
theorem d_M_taskAt_42 : decode prog_5_method_36_code 42 = .ok (.ifCond .ne 12, 3) := by decide +kernel
theorem d_M_taskAt_45 : decode prog_5_method_36_code 45 = .ok (.aload_n 0, 1) := by decide +kernel
theorem d_M_taskAt_46 : decode prog_5_method_36_code 46 = .ok (.getfield 42, 3) := by decide +kernel
theorem d_M_taskAt_49 : decode prog_5_method_36_code 49 = .ok (.iload_n 1, 1) := by decide +kernel
theorem d_M_taskAt_50 : decode prog_5_method_36_code 50 = .ok (.iaload, 1) := by decide +kernel
theorem d_M_taskAt_51 : decode prog_5_method_36_code 51 = .ok (.goto 23, 3) := by decide +kernel
theorem d_M_taskAt_54 : decode prog_5_method_36_code 54 = .ok (.iload_n 2, 1) := by decide +kernel
theorem d_M_taskAt_55 : decode prog_5_method_36_code 55 = .ok (.iconst 1, 1) := by decide +kernel
theorem d_M_taskAt_56 : decode prog_5_method_36_code 56 = .ok (.if_icmp .ne 12, 3) := by decide +kernel
theorem d_M_taskAt_59 : decode prog_5_method_36_code 59 = .ok (.aload_n 0, 1) := by decide +kernel
theorem d_M_taskAt_60 : decode prog_5_method_36_code 60 = .ok (.getfield 48, 3) := by decide +kernel
theorem d_M_taskAt_63 : decode prog_5_method_36_code 63 = .ok (.iload_n 1, 1) := by decide +kernel
theorem d_M_taskAt_64 : decode prog_5_method_36_code 64 = .ok (.iaload, 1) := by decide +kernel
theorem d_M_taskAt_65 : decode prog_5_method_36_code 65 = .ok (.goto 9, 3) := by decide +kernel
theorem d_M_taskAt_68 : decode prog_5_method_36_code 68 = .ok (.aload_n 0, 1) := by decide +kernel
theorem d_M_taskAt_69 : decode prog_5_method_36_code 69 = .ok (.getfield 51, 3) := by decide +kernel
theorem d_M_taskAt_72 : decode prog_5_method_36_code 72 = .ok (.iload_n 1, 1) := by decide +kernel
theorem d_M_taskAt_73 : decode prog_5_method_36_code 73 = .ok (.iaload, 1) := by decide +kernel
theorem d_M_taskAt_74 : decode prog_5_method_36_code 74 = .ok (.ireturn, 1) := by decide +kernel
theorem d_M_passed_0 : decode prog_5_method_37_code 0 = .ok (.aload_n 0, 1) := by decide +kernel
theorem d_M_passed_1 : decode prog_5_method_37_code 1 = .ok (.iconst 2, 1) := by decide +kernel
theorem d_M_passed_2 : decode prog_5_method_37_code 2 = .ok (.iconst 1, 1) := by decide +kernel
theorem d_M_passed_3 : decode prog_5_method_37_code 3 = .ok (.iload_n 1, 1) := by decide +kernel
theorem d_M_passed_4 : decode prog_5_method_37_code 4 = .ok (.ifCond .lt 7, 3) := by decide +kernel
theorem d_M_passed_7 : decode prog_5_method_37_code 7 = .ok (.iconst 1, 1) := by decide +kernel
theorem d_M_passed_8 : decode prog_5_method_37_code 8 = .ok (.goto 4, 3) := by decide +kernel
theorem d_M_passed_11 : decode prog_5_method_37_code 11 = .ok (.iconst 0, 1) := by decide +kernel
theorem d_M_passed_12 : decode prog_5_method_37_code 12 = .ok (.iconst 1, 1) := by decide +kernel
theorem d_M_passed_13 : decode prog_5_method_37_code 13 = .ok (.iconst 1, 1) := by decide +kernel
theorem d_M_passed_14 : decode prog_5_method_37_code 14 = .ok (.invokevirtual 106, 3) := by decide +kernel
theorem d_M_passed_17 : decode prog_5_method_37_code 17 = .ok (.ifCond .ne 5, 3) := by decide +kernel
theorem d_M_passed_20 : decode prog_5_method_37_code 20 = .ok (.iconst 0, 1) := by decide +kernel
theorem d_M_passed_21 : decode prog_5_method_37_code 21 = .ok (.ireturn, 1) := by decide +kernel
theorem d_M_passed_22 : decode prog_5_method_37_code 22 = .ok (.iload_n 1, 1) := by decide +kernel
theorem d_M_passed_23 : decode prog_5_method_37_code 23 = .ok (.istore_n 2, 1) := by decide +kernel
theorem d_M_passed_24 : decode prog_5_method_37_code 24 = .ok (.iconst 0, 1) := by decide +kernel
theorem d_M_passed_25 : decode prog_5_method_37_code 25 = .ok (.istore_n 3, 1) := by decide +kernel
theorem d_M_passed_26 : decode prog_5_method_37_code 26 = .ok (.iload_n 3, 1) := by decide +kernel
theorem d_M_passed_27 : decode prog_5_method_37_code 27 = .ok (.aload_n 0, 1) := by decide +kernel
theorem d_M_passed_28 : decode prog_5_method_37_code 28 = .ok (.getfield 22, 3) := by decide +kernel
theorem d_M_passed_31 : decode prog_5_method_37_code 31 = .ok (.if_icmp .ge 29, 3) := by decide +kernel
theorem d_M_passed_34 : decode prog_5_method_37_code 34 = .ok (.aload_n 0, 1) := by decide +kernel
theorem d_M_passed_35 : decode prog_5_method_37_code 35 = .ok (.iload_n 3, 1) := by decide +kernel
theorem d_M_passed_36 : decode prog_5_method_37_code 36 = .ok (.invokevirtual 136, 3) := by decide +kernel
theorem d_M_passed_39 : decode prog_5_method_37_code 39 = .ok (.ifCond .ne 6, 3) := by decide +kernel
theorem d_M_passed_42 : decode prog_5_method_37_code 42 = .ok (.goto 12, 3) := by decide +kernel
theorem d_M_passed_45 : decode prog_5_method_37_code 45 = .ok (.iload_n 2, 1) := by decide +kernel
theorem d_M_passed_46 : decode prog_5_method_37_code 46 = .ok (.ifCond .ne 5, 3) := by decide +kernel
theorem d_M_passed_49 : decode prog_5_method_37_code 49 = .ok (.iload_n 3, 1) := by decide +kernel
theorem d_M_passed_50 : decode prog_5_method_37_code 50 = .ok (.ireturn, 1) := by decide +kernel
theorem d_M_passed_51 : decode prog_5_method_37_code 51 = .ok (.iinc 2 (-1), 3) := by decide +kernel
theorem d_M_passed_54 : decode prog_5_method_37_code 54 = .ok (.iinc 3 1, 3) := by decide +kernel
theorem d_M_passed_57 : decode prog_5_method_37_code 57 = .ok (.goto (-31), 3) := by decide +kernel
theorem d_M_passed_60 : decode prog_5_method_37_code 60 = .ok (.iconst (-1), 1) := by decide +kernel
theorem d_M_passed_61 : decode prog_5_method_37_code 61 = .ok (.ireturn, 1) := by decide +kernel
theorem d_M_clock_0 : decode prog_5_method_38_code 0 = .ok (.aload_n 0, 1) := by decide +kernel
theorem d_M_clock_1 : decode prog_5_method_38_code 1 = .ok (.iconst 0, 1) := by decide +kernel
theorem d_M_clock_2 : decode prog_5_method_38_code 2 = .ok (.putfield 69, 3) := by decide +kernel
theorem d_M_clock_5 : decode prog_5_method_38_code 5 = .ok (.aload_n 0, 1) := by decide +kernel
theorem d_M_clock_6 : decode prog_5_method_38_code 6 = .ok (.getfield 89, 3) := by decide +kernel
theorem d_M_clock_9 : decode prog_5_method_38_code 9 = .ok (.ireturn, 1) := by decide +kernel
end
section
/-! INSTRUCTIONS, printed by wip/whole/names.py -/
theorem d_A_fill_0 : decode prog_14_method_103_code 0 = .ok (.iconst 0, 1) := by decide +kernel
theorem d_A_fill_1 : decode prog_14_method_103_code 1 = .ok (.istore_n 2, 1) := by decide +kernel
theorem d_A_fill_2 : decode prog_14_method_103_code 2 = .ok (.aload_n 0, 1) := by decide +kernel
theorem d_A_fill_3 : decode prog_14_method_103_code 3 = .ok (.arraylength, 1) := by decide +kernel
theorem d_A_fill_4 : decode prog_14_method_103_code 4 = .ok (.istore_n 3, 1) := by decide +kernel
theorem d_A_fill_5 : decode prog_14_method_103_code 5 = .ok (.iload_n 2, 1) := by decide +kernel
theorem d_A_fill_6 : decode prog_14_method_103_code 6 = .ok (.iload_n 3, 1) := by decide +kernel
theorem d_A_fill_7 : decode prog_14_method_103_code 7 = .ok (.if_icmp .ge 13, 3) := by decide +kernel
theorem d_A_fill_10 : decode prog_14_method_103_code 10 = .ok (.aload_n 0, 1) := by decide +kernel
theorem d_A_fill_11 : decode prog_14_method_103_code 11 = .ok (.iload_n 2, 1) := by decide +kernel
theorem d_A_fill_12 : decode prog_14_method_103_code 12 = .ok (.iload_n 1, 1) := by decide +kernel
theorem d_A_fill_13 : decode prog_14_method_103_code 13 = .ok (.iastore, 1) := by decide +kernel
theorem d_A_fill_14 : decode prog_14_method_103_code 14 = .ok (.iinc 2 1, 3) := by decide +kernel
theorem d_A_fill_17 : decode prog_14_method_103_code 17 = .ok (.goto (-12), 3) := by decide +kernel
theorem d_A_fill_20 : decode prog_14_method_103_code 20 = .ok (.return_, 1) := by decide +kernel
theorem d_T_init_0 : decode prog_3_method_1_code 0 = .ok (.aload_n 0, 1) := by decide +kernel
theorem d_T_init_1 : decode prog_3_method_1_code 1 = .ok (.invokespecial 3, 3) := by decide +kernel
theorem d_T_init_4 : decode prog_3_method_1_code 4 = .ok (.aload_n 0, 1) := by decide +kernel
theorem d_T_init_5 : decode prog_3_method_1_code 5 = .ok (.bipush 60, 2) := by decide +kernel
theorem d_T_init_7 : decode prog_3_method_1_code 7 = .ok (.newarray .int, 2) := by decide +kernel
theorem d_T_init_9 : decode prog_3_method_1_code 9 = .ok (.putfield 9, 3) := by decide +kernel
theorem d_T_init_12 : decode prog_3_method_1_code 12 = .ok (.aload_n 0, 1) := by decide +kernel
theorem d_T_init_13 : decode prog_3_method_1_code 13 = .ok (.bipush 60, 2) := by decide +kernel
theorem d_T_init_15 : decode prog_3_method_1_code 15 = .ok (.newarray .int, 2) := by decide +kernel
theorem d_T_init_17 : decode prog_3_method_1_code 17 = .ok (.putfield 15, 3) := by decide +kernel
theorem d_T_init_20 : decode prog_3_method_1_code 20 = .ok (.aload_n 0, 1) := by decide +kernel
theorem d_T_init_21 : decode prog_3_method_1_code 21 = .ok (.bipush 60, 2) := by decide +kernel
theorem d_T_init_23 : decode prog_3_method_1_code 23 = .ok (.newarray .int, 2) := by decide +kernel
theorem d_T_init_25 : decode prog_3_method_1_code 25 = .ok (.putfield 18, 3) := by decide +kernel
theorem d_T_init_28 : decode prog_3_method_1_code 28 = .ok (.aload_n 0, 1) := by decide +kernel
theorem d_T_init_29 : decode prog_3_method_1_code 29 = .ok (.bipush 60, 2) := by decide +kernel
theorem d_T_init_31 : decode prog_3_method_1_code 31 = .ok (.newarray .int, 2) := by decide +kernel
theorem d_T_init_33 : decode prog_3_method_1_code 33 = .ok (.putfield 21, 3) := by decide +kernel
theorem d_T_init_36 : decode prog_3_method_1_code 36 = .ok (.aload_n 0, 1) := by decide +kernel
theorem d_T_init_37 : decode prog_3_method_1_code 37 = .ok (.getfield 21, 3) := by decide +kernel
theorem d_T_init_40 : decode prog_3_method_1_code 40 = .ok (.iconst (-1), 1) := by decide +kernel
theorem d_T_init_41 : decode prog_3_method_1_code 41 = .ok (.invokestatic 24, 3) := by decide +kernel
theorem d_T_init_44 : decode prog_3_method_1_code 44 = .ok (.return_, 1) := by decide +kernel
theorem d_R_init_0 : decode prog_2_method_1_code 0 = .ok (.aload_n 0, 1) := by decide +kernel
theorem d_R_init_1 : decode prog_2_method_1_code 1 = .ok (.invokespecial 3, 3) := by decide +kernel
theorem d_R_init_4 : decode prog_2_method_1_code 4 = .ok (.aload_n 0, 1) := by decide +kernel
theorem d_R_init_5 : decode prog_2_method_1_code 5 = .ok (.sipush 400, 3) := by decide +kernel
theorem d_R_init_8 : decode prog_2_method_1_code 8 = .ok (.newarray .int, 2) := by decide +kernel
theorem d_R_init_10 : decode prog_2_method_1_code 10 = .ok (.putfield 9, 3) := by decide +kernel
theorem d_R_init_13 : decode prog_2_method_1_code 13 = .ok (.aload_n 0, 1) := by decide +kernel
theorem d_R_init_14 : decode prog_2_method_1_code 14 = .ok (.sipush 400, 3) := by decide +kernel
theorem d_R_init_17 : decode prog_2_method_1_code 17 = .ok (.newarray .int, 2) := by decide +kernel
theorem d_R_init_19 : decode prog_2_method_1_code 19 = .ok (.putfield 15, 3) := by decide +kernel
theorem d_R_init_22 : decode prog_2_method_1_code 22 = .ok (.aload_n 0, 1) := by decide +kernel
theorem d_R_init_23 : decode prog_2_method_1_code 23 = .ok (.sipush 400, 3) := by decide +kernel
theorem d_R_init_26 : decode prog_2_method_1_code 26 = .ok (.newarray .int, 2) := by decide +kernel
theorem d_R_init_28 : decode prog_2_method_1_code 28 = .ok (.putfield 18, 3) := by decide +kernel
theorem d_R_init_31 : decode prog_2_method_1_code 31 = .ok (.aload_n 0, 1) := by decide +kernel
theorem d_R_init_32 : decode prog_2_method_1_code 32 = .ok (.bipush 20, 2) := by decide +kernel
theorem d_R_init_34 : decode prog_2_method_1_code 34 = .ok (.newarray .int, 2) := by decide +kernel
theorem d_R_init_36 : decode prog_2_method_1_code 36 = .ok (.putfield 21, 3) := by decide +kernel
theorem d_R_init_39 : decode prog_2_method_1_code 39 = .ok (.aload_n 0, 1) := by decide +kernel
theorem d_R_init_40 : decode prog_2_method_1_code 40 = .ok (.getfield 21, 3) := by decide +kernel
theorem d_R_init_43 : decode prog_2_method_1_code 43 = .ok (.iconst (-1), 1) := by decide +kernel
theorem d_R_init_44 : decode prog_2_method_1_code 44 = .ok (.invokestatic 24, 3) := by decide +kernel
theorem d_R_init_47 : decode prog_2_method_1_code 47 = .ok (.return_, 1) := by decide +kernel
theorem d_R_note_0 : decode prog_2_method_2_code 0 = .ok (.aload_n 0, 1) := by decide +kernel
theorem d_R_note_1 : decode prog_2_method_2_code 1 = .ok (.getfield 30, 3) := by decide +kernel
theorem d_R_note_4 : decode prog_2_method_2_code 4 = .ok (.sipush 400, 3) := by decide +kernel
theorem d_R_note_7 : decode prog_2_method_2_code 7 = .ok (.if_icmp .lt 7, 3) := by decide +kernel
theorem d_R_note_10 : decode prog_2_method_2_code 10 = .ok (.aload_n 0, 1) := by decide +kernel
theorem d_R_note_11 : decode prog_2_method_2_code 11 = .ok (.invokevirtual 34, 3) := by decide +kernel
theorem d_R_note_14 : decode prog_2_method_2_code 14 = .ok (.aload_n 0, 1) := by decide +kernel
theorem d_R_note_15 : decode prog_2_method_2_code 15 = .ok (.aload_n 0, 1) := by decide +kernel
theorem d_R_note_16 : decode prog_2_method_2_code 16 = .ok (.getfield 30, 3) := by decide +kernel
theorem d_R_note_19 : decode prog_2_method_2_code 19 = .ok (.invokevirtual 37, 3) := by decide +kernel
theorem d_R_note_22 : decode prog_2_method_2_code 22 = .ok (.istore 4, 2) := by decide +kernel
theorem d_R_note_24 : decode prog_2_method_2_code 24 = .ok (.aload_n 0, 1) := by decide +kernel
theorem d_R_note_25 : decode prog_2_method_2_code 25 = .ok (.getfield 9, 3) := by decide +kernel
theorem d_R_note_28 : decode prog_2_method_2_code 28 = .ok (.iload 4, 2) := by decide +kernel
theorem d_R_note_30 : decode prog_2_method_2_code 30 = .ok (.iload_n 1, 1) := by decide +kernel
theorem d_R_note_31 : decode prog_2_method_2_code 31 = .ok (.iastore, 1) := by decide +kernel
theorem d_R_note_32 : decode prog_2_method_2_code 32 = .ok (.aload_n 0, 1) := by decide +kernel
theorem d_R_note_33 : decode prog_2_method_2_code 33 = .ok (.getfield 15, 3) := by decide +kernel
theorem d_R_note_36 : decode prog_2_method_2_code 36 = .ok (.iload 4, 2) := by decide +kernel
theorem d_R_note_38 : decode prog_2_method_2_code 38 = .ok (.iload_n 2, 1) := by decide +kernel
theorem d_R_note_39 : decode prog_2_method_2_code 39 = .ok (.iastore, 1) := by decide +kernel
theorem d_R_note_40 : decode prog_2_method_2_code 40 = .ok (.aload_n 0, 1) := by decide +kernel
theorem d_R_note_41 : decode prog_2_method_2_code 41 = .ok (.getfield 18, 3) := by decide +kernel
theorem d_R_note_44 : decode prog_2_method_2_code 44 = .ok (.iload 4, 2) := by decide +kernel
theorem d_R_note_46 : decode prog_2_method_2_code 46 = .ok (.iload_n 3, 1) := by decide +kernel
theorem d_R_note_47 : decode prog_2_method_2_code 47 = .ok (.iastore, 1) := by decide +kernel
theorem d_R_note_48 : decode prog_2_method_2_code 48 = .ok (.aload_n 0, 1) := by decide +kernel
theorem d_R_note_49 : decode prog_2_method_2_code 49 = .ok (.dup, 1) := by decide +kernel
theorem d_R_note_50 : decode prog_2_method_2_code 50 = .ok (.getfield 30, 3) := by decide +kernel
theorem d_R_note_53 : decode prog_2_method_2_code 53 = .ok (.iconst 1, 1) := by decide +kernel
theorem d_R_note_54 : decode prog_2_method_2_code 54 = .ok (.iadd, 1) := by decide +kernel
theorem d_R_note_55 : decode prog_2_method_2_code 55 = .ok (.putfield 30, 3) := by decide +kernel
theorem d_R_note_58 : decode prog_2_method_2_code 58 = .ok (.return_, 1) := by decide +kernel
theorem d_R_dropOldest_0 : decode prog_2_method_3_code 0 = .ok (.aload_n 0, 1) := by decide +kernel
theorem d_R_dropOldest_1 : decode prog_2_method_3_code 1 = .ok (.getfield 21, 3) := by decide +kernel
theorem d_R_dropOldest_4 : decode prog_2_method_3_code 4 = .ok (.aload_n 0, 1) := by decide +kernel
theorem d_R_dropOldest_5 : decode prog_2_method_3_code 5 = .ok (.getfield 15, 3) := by decide +kernel
theorem d_R_dropOldest_8 : decode prog_2_method_3_code 8 = .ok (.aload_n 0, 1) := by decide +kernel
theorem d_R_dropOldest_9 : decode prog_2_method_3_code 9 = .ok (.getfield 41, 3) := by decide +kernel
theorem d_R_dropOldest_12 : decode prog_2_method_3_code 12 = .ok (.iaload, 1) := by decide +kernel
theorem d_R_dropOldest_13 : decode prog_2_method_3_code 13 = .ok (.aload_n 0, 1) := by decide +kernel
theorem d_R_dropOldest_14 : decode prog_2_method_3_code 14 = .ok (.getfield 18, 3) := by decide +kernel
theorem d_R_dropOldest_17 : decode prog_2_method_3_code 17 = .ok (.aload_n 0, 1) := by decide +kernel
theorem d_R_dropOldest_18 : decode prog_2_method_3_code 18 = .ok (.getfield 41, 3) := by decide +kernel
theorem d_R_dropOldest_21 : decode prog_2_method_3_code 21 = .ok (.iaload, 1) := by decide +kernel
theorem d_R_dropOldest_22 : decode prog_2_method_3_code 22 = .ok (.iastore, 1) := by decide +kernel
theorem d_R_dropOldest_23 : decode prog_2_method_3_code 23 = .ok (.aload_n 0, 1) := by decide +kernel
theorem d_R_dropOldest_24 : decode prog_2_method_3_code 24 = .ok (.aload_n 0, 1) := by decide +kernel
theorem d_R_dropOldest_25 : decode prog_2_method_3_code 25 = .ok (.getfield 9, 3) := by decide +kernel
theorem d_R_dropOldest_28 : decode prog_2_method_3_code 28 = .ok (.aload_n 0, 1) := by decide +kernel
theorem d_R_dropOldest_29 : decode prog_2_method_3_code 29 = .ok (.getfield 41, 3) := by decide +kernel
theorem d_R_dropOldest_32 : decode prog_2_method_3_code 32 = .ok (.iaload, 1) := by decide +kernel
theorem d_R_dropOldest_33 : decode prog_2_method_3_code 33 = .ok (.putfield 44, 3) := by decide +kernel
theorem d_R_dropOldest_36 : decode prog_2_method_3_code 36 = .ok (.aload_n 0, 1) := by decide +kernel
theorem d_R_dropOldest_37 : decode prog_2_method_3_code 37 = .ok (.aload_n 0, 1) := by decide +kernel
theorem d_R_dropOldest_38 : decode prog_2_method_3_code 38 = .ok (.iconst 1, 1) := by decide +kernel
theorem d_R_dropOldest_39 : decode prog_2_method_3_code 39 = .ok (.invokevirtual 37, 3) := by decide +kernel
theorem d_R_dropOldest_42 : decode prog_2_method_3_code 42 = .ok (.putfield 41, 3) := by decide +kernel
theorem d_R_dropOldest_45 : decode prog_2_method_3_code 45 = .ok (.aload_n 0, 1) := by decide +kernel
theorem d_R_dropOldest_46 : decode prog_2_method_3_code 46 = .ok (.dup, 1) := by decide +kernel
theorem d_R_dropOldest_47 : decode prog_2_method_3_code 47 = .ok (.getfield 30, 3) := by decide +kernel
theorem d_R_dropOldest_50 : decode prog_2_method_3_code 50 = .ok (.iconst 1, 1) := by decide +kernel
theorem d_R_dropOldest_51 : decode prog_2_method_3_code 51 = .ok (.isub, 1) := by decide +kernel
theorem d_R_dropOldest_52 : decode prog_2_method_3_code 52 = .ok (.putfield 30, 3) := by decide +kernel
theorem d_R_dropOldest_55 : decode prog_2_method_3_code 55 = .ok (.return_, 1) := by decide +kernel
theorem d_R_ringIndex_0 : decode prog_2_method_4_code 0 = .ok (.aload_n 0, 1) := by decide +kernel
theorem d_R_ringIndex_1 : decode prog_2_method_4_code 1 = .ok (.getfield 41, 3) := by decide +kernel
theorem d_R_ringIndex_4 : decode prog_2_method_4_code 4 = .ok (.iload_n 1, 1) := by decide +kernel
theorem d_R_ringIndex_5 : decode prog_2_method_4_code 5 = .ok (.iadd, 1) := by decide +kernel
theorem d_R_ringIndex_6 : decode prog_2_method_4_code 6 = .ok (.istore_n 2, 1) := by decide +kernel
theorem d_R_ringIndex_7 : decode prog_2_method_4_code 7 = .ok (.iload_n 2, 1) := by decide +kernel
theorem d_R_ringIndex_8 : decode prog_2_method_4_code 8 = .ok (.sipush 400, 3) := by decide +kernel
theorem d_R_ringIndex_11 : decode prog_2_method_4_code 11 = .ok (.if_icmp .ge 7, 3) := by decide +kernel
theorem d_R_ringIndex_14 : decode prog_2_method_4_code 14 = .ok (.iload_n 2, 1) := by decide +kernel
theorem d_R_ringIndex_15 : decode prog_2_method_4_code 15 = .ok (.goto 8, 3) := by decide +kernel
theorem d_R_ringIndex_18 : decode prog_2_method_4_code 18 = .ok (.iload_n 2, 1) := by decide +kernel
theorem d_R_ringIndex_19 : decode prog_2_method_4_code 19 = .ok (.sipush 400, 3) := by decide +kernel
theorem d_R_ringIndex_22 : decode prog_2_method_4_code 22 = .ok (.isub, 1) := by decide +kernel
theorem d_R_ringIndex_23 : decode prog_2_method_4_code 23 = .ok (.ireturn, 1) := by decide +kernel
theorem d_T_giveUnanswered_0 : decode prog_3_method_11_code 0 = .ok (.iconst 0, 1) := by decide +kernel
theorem d_T_giveUnanswered_1 : decode prog_3_method_11_code 1 = .ok (.istore_n 3, 1) := by decide +kernel
theorem d_T_giveUnanswered_2 : decode prog_3_method_11_code 2 = .ok (.iload_n 3, 1) := by decide +kernel
theorem d_T_giveUnanswered_3 : decode prog_3_method_11_code 3 = .ok (.aload_n 0, 1) := by decide +kernel
theorem d_T_giveUnanswered_4 : decode prog_3_method_11_code 4 = .ok (.getfield 30, 3) := by decide +kernel
theorem d_T_giveUnanswered_7 : decode prog_3_method_11_code 7 = .ok (.if_icmp .ge 34, 3) := by decide +kernel
theorem d_T_giveUnanswered_10 : decode prog_3_method_11_code 10 = .ok (.aload_n 0, 1) := by decide +kernel
theorem d_T_giveUnanswered_11 : decode prog_3_method_11_code 11 = .ok (.getfield 9, 3) := by decide +kernel
theorem d_T_giveUnanswered_14 : decode prog_3_method_11_code 14 = .ok (.iload_n 3, 1) := by decide +kernel
theorem d_T_giveUnanswered_15 : decode prog_3_method_11_code 15 = .ok (.iaload, 1) := by decide +kernel
theorem d_T_giveUnanswered_16 : decode prog_3_method_11_code 16 = .ok (.iload_n 1, 1) := by decide +kernel
theorem d_T_giveUnanswered_17 : decode prog_3_method_11_code 17 = .ok (.if_icmp .ne 18, 3) := by decide +kernel
theorem d_T_giveUnanswered_20 : decode prog_3_method_11_code 20 = .ok (.aload_n 0, 1) := by decide +kernel
theorem d_T_giveUnanswered_21 : decode prog_3_method_11_code 21 = .ok (.iload_n 3, 1) := by decide +kernel
theorem d_T_giveUnanswered_22 : decode prog_3_method_11_code 22 = .ok (.invokevirtual 38, 3) := by decide +kernel
theorem d_T_giveUnanswered_25 : decode prog_3_method_11_code 25 = .ok (.ifCond .ne 10, 3) := by decide +kernel
theorem d_T_giveUnanswered_28 : decode prog_3_method_11_code 28 = .ok (.aload_n 0, 1) := by decide +kernel
theorem d_T_giveUnanswered_29 : decode prog_3_method_11_code 29 = .ok (.getfield 9, 3) := by decide +kernel
theorem d_T_giveUnanswered_32 : decode prog_3_method_11_code 32 = .ok (.iload_n 3, 1) := by decide +kernel
theorem d_T_giveUnanswered_33 : decode prog_3_method_11_code 33 = .ok (.iload_n 2, 1) := by decide +kernel
theorem d_T_giveUnanswered_34 : decode prog_3_method_11_code 34 = .ok (.iastore, 1) := by decide +kernel
theorem d_T_giveUnanswered_35 : decode prog_3_method_11_code 35 = .ok (.iinc 3 1, 3) := by decide +kernel
theorem d_T_giveUnanswered_38 : decode prog_3_method_11_code 38 = .ok (.goto (-36), 3) := by decide +kernel
theorem d_T_giveUnanswered_41 : decode prog_3_method_11_code 41 = .ok (.return_, 1) := by decide +kernel
theorem d_T_isAnswered_0 : decode prog_3_method_5_code 0 = .ok (.aload_n 0, 1) := by decide +kernel
theorem d_T_isAnswered_1 : decode prog_3_method_5_code 1 = .ok (.getfield 18, 3) := by decide +kernel
theorem d_T_isAnswered_4 : decode prog_3_method_5_code 4 = .ok (.iload_n 1, 1) := by decide +kernel
theorem d_T_isAnswered_5 : decode prog_3_method_5_code 5 = .ok (.iaload, 1) := by decide +kernel
theorem d_T_isAnswered_6 : decode prog_3_method_5_code 6 = .ok (.ifCond .eq 7, 3) := by decide +kernel
theorem d_T_isAnswered_9 : decode prog_3_method_5_code 9 = .ok (.iconst 1, 1) := by decide +kernel
theorem d_T_isAnswered_10 : decode prog_3_method_5_code 10 = .ok (.goto 4, 3) := by decide +kernel
theorem d_T_isAnswered_13 : decode prog_3_method_5_code 13 = .ok (.iconst 0, 1) := by decide +kernel
theorem d_T_isAnswered_14 : decode prog_3_method_5_code 14 = .ok (.ireturn, 1) := by decide +kernel
theorem d_T_isFull_0 : decode prog_3_method_2_code 0 = .ok (.aload_n 0, 1) := by decide +kernel
theorem d_T_isFull_1 : decode prog_3_method_2_code 1 = .ok (.getfield 30, 3) := by decide +kernel
theorem d_T_isFull_4 : decode prog_3_method_2_code 4 = .ok (.bipush 60, 2) := by decide +kernel
theorem d_T_isFull_6 : decode prog_3_method_2_code 6 = .ok (.if_icmp .lt 7, 3) := by decide +kernel
theorem d_T_isFull_9 : decode prog_3_method_2_code 9 = .ok (.iconst 1, 1) := by decide +kernel
theorem d_T_isFull_10 : decode prog_3_method_2_code 10 = .ok (.goto 4, 3) := by decide +kernel
theorem d_T_isFull_13 : decode prog_3_method_2_code 13 = .ok (.iconst 0, 1) := by decide +kernel
theorem d_T_isFull_14 : decode prog_3_method_2_code 14 = .ok (.ireturn, 1) := by decide +kernel
theorem d_T_add_0 : decode prog_3_method_4_code 0 = .ok (.aload_n 0, 1) := by decide +kernel
theorem d_T_add_1 : decode prog_3_method_4_code 1 = .ok (.invokevirtual 34, 3) := by decide +kernel
theorem d_T_add_4 : decode prog_3_method_4_code 4 = .ok (.ifCond .eq 5, 3) := by decide +kernel
theorem d_T_add_7 : decode prog_3_method_4_code 7 = .ok (.iconst (-1), 1) := by decide +kernel
theorem d_T_add_8 : decode prog_3_method_4_code 8 = .ok (.ireturn, 1) := by decide +kernel
theorem d_T_add_9 : decode prog_3_method_4_code 9 = .ok (.aload_n 0, 1) := by decide +kernel
theorem d_T_add_10 : decode prog_3_method_4_code 10 = .ok (.getfield 30, 3) := by decide +kernel
theorem d_T_add_13 : decode prog_3_method_4_code 13 = .ok (.istore_n 3, 1) := by decide +kernel
theorem d_T_add_14 : decode prog_3_method_4_code 14 = .ok (.aload_n 0, 1) := by decide +kernel
theorem d_T_add_15 : decode prog_3_method_4_code 15 = .ok (.getfield 9, 3) := by decide +kernel
theorem d_T_add_18 : decode prog_3_method_4_code 18 = .ok (.iload_n 3, 1) := by decide +kernel
theorem d_T_add_19 : decode prog_3_method_4_code 19 = .ok (.iload_n 1, 1) := by decide +kernel
theorem d_T_add_20 : decode prog_3_method_4_code 20 = .ok (.iastore, 1) := by decide +kernel
theorem d_T_add_21 : decode prog_3_method_4_code 21 = .ok (.aload_n 0, 1) := by decide +kernel
theorem d_T_add_22 : decode prog_3_method_4_code 22 = .ok (.getfield 15, 3) := by decide +kernel
theorem d_T_add_25 : decode prog_3_method_4_code 25 = .ok (.iload_n 3, 1) := by decide +kernel
theorem d_T_add_26 : decode prog_3_method_4_code 26 = .ok (.iload_n 2, 1) := by decide +kernel
theorem d_T_add_27 : decode prog_3_method_4_code 27 = .ok (.iastore, 1) := by decide +kernel
theorem d_T_add_28 : decode prog_3_method_4_code 28 = .ok (.aload_n 0, 1) := by decide +kernel
theorem d_T_add_29 : decode prog_3_method_4_code 29 = .ok (.dup, 1) := by decide +kernel
theorem d_T_add_30 : decode prog_3_method_4_code 30 = .ok (.getfield 30, 3) := by decide +kernel
theorem d_T_add_33 : decode prog_3_method_4_code 33 = .ok (.iconst 1, 1) := by decide +kernel
theorem d_T_add_34 : decode prog_3_method_4_code 34 = .ok (.iadd, 1) := by decide +kernel
theorem d_T_add_35 : decode prog_3_method_4_code 35 = .ok (.putfield 30, 3) := by decide +kernel
theorem d_T_add_38 : decode prog_3_method_4_code 38 = .ok (.iload_n 3, 1) := by decide +kernel
theorem d_T_add_39 : decode prog_3_method_4_code 39 = .ok (.ireturn, 1) := by decide +kernel
theorem d_T_has_0 : decode prog_3_method_3_code 0 = .ok (.iload_n 1, 1) := by decide +kernel
theorem d_T_has_1 : decode prog_3_method_3_code 1 = .ok (.ifCond .lt 15, 3) := by decide +kernel
theorem d_T_has_4 : decode prog_3_method_3_code 4 = .ok (.iload_n 1, 1) := by decide +kernel
theorem d_T_has_5 : decode prog_3_method_3_code 5 = .ok (.aload_n 0, 1) := by decide +kernel
theorem d_T_has_6 : decode prog_3_method_3_code 6 = .ok (.getfield 30, 3) := by decide +kernel
theorem d_T_has_9 : decode prog_3_method_3_code 9 = .ok (.if_icmp .ge 7, 3) := by decide +kernel
theorem d_T_has_12 : decode prog_3_method_3_code 12 = .ok (.iconst 1, 1) := by decide +kernel
theorem d_T_has_13 : decode prog_3_method_3_code 13 = .ok (.goto 4, 3) := by decide +kernel
theorem d_T_has_16 : decode prog_3_method_3_code 16 = .ok (.iconst 0, 1) := by decide +kernel
theorem d_T_has_17 : decode prog_3_method_3_code 17 = .ok (.ireturn, 1) := by decide +kernel
theorem d_T_setAnswer_0 : decode prog_3_method_6_code 0 = .ok (.aload_n 0, 1) := by decide +kernel
theorem d_T_setAnswer_1 : decode prog_3_method_6_code 1 = .ok (.getfield 18, 3) := by decide +kernel
theorem d_T_setAnswer_4 : decode prog_3_method_6_code 4 = .ok (.iload_n 1, 1) := by decide +kernel
theorem d_T_setAnswer_5 : decode prog_3_method_6_code 5 = .ok (.iload_n 2, 1) := by decide +kernel
theorem d_T_setAnswer_6 : decode prog_3_method_6_code 6 = .ok (.ifCond .eq 7, 3) := by decide +kernel
theorem d_T_setAnswer_9 : decode prog_3_method_6_code 9 = .ok (.iconst 1, 1) := by decide +kernel
theorem d_T_setAnswer_10 : decode prog_3_method_6_code 10 = .ok (.goto 4, 3) := by decide +kernel
theorem d_T_setAnswer_13 : decode prog_3_method_6_code 13 = .ok (.iconst 2, 1) := by decide +kernel
theorem d_T_setAnswer_14 : decode prog_3_method_6_code 14 = .ok (.iastore, 1) := by decide +kernel
theorem d_T_setAnswer_15 : decode prog_3_method_6_code 15 = .ok (.aload_n 0, 1) := by decide +kernel
theorem d_T_setAnswer_16 : decode prog_3_method_6_code 16 = .ok (.getfield 21, 3) := by decide +kernel
theorem d_T_setAnswer_19 : decode prog_3_method_6_code 19 = .ok (.iload_n 1, 1) := by decide +kernel
theorem d_T_setAnswer_20 : decode prog_3_method_6_code 20 = .ok (.iload_n 3, 1) := by decide +kernel
theorem d_T_setAnswer_21 : decode prog_3_method_6_code 21 = .ok (.iastore, 1) := by decide +kernel
theorem d_T_setAnswer_22 : decode prog_3_method_6_code 22 = .ok (.return_, 1) := by decide +kernel
theorem d_T_countNewlyOverdue_0 : decode prog_3_method_10_code 0 = .ok (.iconst 0, 1) := by decide +kernel
theorem d_T_countNewlyOverdue_1 : decode prog_3_method_10_code 1 = .ok (.istore_n 3, 1) := by decide +kernel
theorem d_T_countNewlyOverdue_2 : decode prog_3_method_10_code 2 = .ok (.iconst 0, 1) := by decide +kernel
theorem d_T_countNewlyOverdue_3 : decode prog_3_method_10_code 3 = .ok (.istore 4, 2) := by decide +kernel
theorem d_T_countNewlyOverdue_5 : decode prog_3_method_10_code 5 = .ok (.iload 4, 2) := by decide +kernel
theorem d_T_countNewlyOverdue_7 : decode prog_3_method_10_code 7 = .ok (.aload_n 0, 1) := by decide +kernel
theorem d_T_countNewlyOverdue_8 : decode prog_3_method_10_code 8 = .ok (.getfield 30, 3) := by decide +kernel
theorem d_T_countNewlyOverdue_11 : decode prog_3_method_10_code 11 = .ok (.if_icmp .ge 33, 3) := by decide +kernel
theorem d_T_countNewlyOverdue_14 : decode prog_3_method_10_code 14 = .ok (.aload_n 0, 1) := by decide +kernel
theorem d_T_countNewlyOverdue_15 : decode prog_3_method_10_code 15 = .ok (.iload 4, 2) := by decide +kernel
theorem d_T_countNewlyOverdue_17 : decode prog_3_method_10_code 17 = .ok (.iload_n 1, 1) := by decide +kernel
theorem d_T_countNewlyOverdue_18 : decode prog_3_method_10_code 18 = .ok (.invokevirtual 42, 3) := by decide +kernel
theorem d_T_countNewlyOverdue_21 : decode prog_3_method_10_code 21 = .ok (.ifCond .ne 17, 3) := by decide +kernel
theorem d_T_countNewlyOverdue_24 : decode prog_3_method_10_code 24 = .ok (.aload_n 0, 1) := by decide +kernel
theorem d_T_countNewlyOverdue_25 : decode prog_3_method_10_code 25 = .ok (.iload 4, 2) := by decide +kernel
theorem d_T_countNewlyOverdue_27 : decode prog_3_method_10_code 27 = .ok (.iload_n 2, 1) := by decide +kernel
theorem d_T_countNewlyOverdue_28 : decode prog_3_method_10_code 28 = .ok (.invokevirtual 42, 3) := by decide +kernel
theorem d_T_countNewlyOverdue_31 : decode prog_3_method_10_code 31 = .ok (.iconst 3, 1) := by decide +kernel
theorem d_T_countNewlyOverdue_32 : decode prog_3_method_10_code 32 = .ok (.if_icmp .ne 6, 3) := by decide +kernel
theorem d_T_countNewlyOverdue_35 : decode prog_3_method_10_code 35 = .ok (.iinc 3 1, 3) := by decide +kernel
theorem d_T_countNewlyOverdue_38 : decode prog_3_method_10_code 38 = .ok (.iinc 4 1, 3) := by decide +kernel
theorem d_T_countNewlyOverdue_41 : decode prog_3_method_10_code 41 = .ok (.goto (-36), 3) := by decide +kernel
theorem d_T_countNewlyOverdue_44 : decode prog_3_method_10_code 44 = .ok (.iload_n 3, 1) := by decide +kernel
theorem d_T_countNewlyOverdue_45 : decode prog_3_method_10_code 45 = .ok (.ireturn, 1) := by decide +kernel
theorem d_T_stateOf_0 : decode prog_3_method_8_code 0 = .ok (.aload_n 0, 1) := by decide +kernel
theorem d_T_stateOf_1 : decode prog_3_method_8_code 1 = .ok (.iload_n 1, 1) := by decide +kernel
theorem d_T_stateOf_2 : decode prog_3_method_8_code 2 = .ok (.invokevirtual 38, 3) := by decide +kernel
theorem d_T_stateOf_5 : decode prog_3_method_8_code 5 = .ok (.ifCond .eq 10, 3) := by decide +kernel
theorem d_T_stateOf_8 : decode prog_3_method_8_code 8 = .ok (.aload_n 0, 1) := by decide +kernel
theorem d_T_stateOf_9 : decode prog_3_method_8_code 9 = .ok (.getfield 18, 3) := by decide +kernel
theorem d_T_stateOf_12 : decode prog_3_method_8_code 12 = .ok (.iload_n 1, 1) := by decide +kernel
theorem d_T_stateOf_13 : decode prog_3_method_8_code 13 = .ok (.iaload, 1) := by decide +kernel
theorem d_T_stateOf_14 : decode prog_3_method_8_code 14 = .ok (.ireturn, 1) := by decide +kernel
theorem d_T_stateOf_15 : decode prog_3_method_8_code 15 = .ok (.iload_n 2, 1) := by decide +kernel
theorem d_T_stateOf_16 : decode prog_3_method_8_code 16 = .ok (.aload_n 0, 1) := by decide +kernel
theorem d_T_stateOf_17 : decode prog_3_method_8_code 17 = .ok (.getfield 15, 3) := by decide +kernel
theorem d_T_stateOf_20 : decode prog_3_method_8_code 20 = .ok (.iload_n 1, 1) := by decide +kernel
theorem d_T_stateOf_21 : decode prog_3_method_8_code 21 = .ok (.iaload, 1) := by decide +kernel
theorem d_T_stateOf_22 : decode prog_3_method_8_code 22 = .ok (.if_icmp .le 7, 3) := by decide +kernel
theorem d_T_stateOf_25 : decode prog_3_method_8_code 25 = .ok (.iconst 3, 1) := by decide +kernel
theorem d_T_stateOf_26 : decode prog_3_method_8_code 26 = .ok (.goto 4, 3) := by decide +kernel
theorem d_T_stateOf_29 : decode prog_3_method_8_code 29 = .ok (.iconst 0, 1) := by decide +kernel
theorem d_T_stateOf_30 : decode prog_3_method_8_code 30 = .ok (.ireturn, 1) := by decide +kernel
theorem d_R_reachBackTo_0 : decode prog_2_method_5_code 0 = .ok (.iload_n 1, 1) := by decide +kernel
theorem d_R_reachBackTo_1 : decode prog_2_method_5_code 1 = .ok (.aload_n 0, 1) := by decide +kernel
theorem d_R_reachBackTo_2 : decode prog_2_method_5_code 2 = .ok (.getfield 44, 3) := by decide +kernel
theorem d_R_reachBackTo_5 : decode prog_2_method_5_code 5 = .ok (.if_icmp .lt 7, 3) := by decide +kernel
theorem d_R_reachBackTo_8 : decode prog_2_method_5_code 8 = .ok (.iconst 1, 1) := by decide +kernel
theorem d_R_reachBackTo_9 : decode prog_2_method_5_code 9 = .ok (.goto 4, 3) := by decide +kernel
theorem d_R_reachBackTo_12 : decode prog_2_method_5_code 12 = .ok (.iconst 0, 1) := by decide +kernel
theorem d_R_reachBackTo_13 : decode prog_2_method_5_code 13 = .ok (.ireturn, 1) := by decide +kernel
theorem d_R_leaderBehind_0 : decode prog_2_method_6_code 0 = .ok (.aload_n 0, 1) := by decide +kernel
theorem d_R_leaderBehind_1 : decode prog_2_method_6_code 1 = .ok (.getfield 21, 3) := by decide +kernel
theorem d_R_leaderBehind_4 : decode prog_2_method_6_code 4 = .ok (.iload_n 1, 1) := by decide +kernel
theorem d_R_leaderBehind_5 : decode prog_2_method_6_code 5 = .ok (.iaload, 1) := by decide +kernel
theorem d_R_leaderBehind_6 : decode prog_2_method_6_code 6 = .ok (.istore_n 3, 1) := by decide +kernel
theorem d_R_leaderBehind_7 : decode prog_2_method_6_code 7 = .ok (.iconst 0, 1) := by decide +kernel
theorem d_R_leaderBehind_8 : decode prog_2_method_6_code 8 = .ok (.istore 4, 2) := by decide +kernel
theorem d_R_leaderBehind_10 : decode prog_2_method_6_code 10 = .ok (.iload 4, 2) := by decide +kernel
theorem d_R_leaderBehind_12 : decode prog_2_method_6_code 12 = .ok (.aload_n 0, 1) := by decide +kernel
theorem d_R_leaderBehind_13 : decode prog_2_method_6_code 13 = .ok (.getfield 30, 3) := by decide +kernel
theorem d_R_leaderBehind_16 : decode prog_2_method_6_code 16 = .ok (.if_icmp .ge 49, 3) := by decide +kernel
theorem d_R_leaderBehind_19 : decode prog_2_method_6_code 19 = .ok (.aload_n 0, 1) := by decide +kernel
theorem d_R_leaderBehind_20 : decode prog_2_method_6_code 20 = .ok (.iload 4, 2) := by decide +kernel
theorem d_R_leaderBehind_22 : decode prog_2_method_6_code 22 = .ok (.invokevirtual 37, 3) := by decide +kernel
theorem d_R_leaderBehind_25 : decode prog_2_method_6_code 25 = .ok (.istore 5, 2) := by decide +kernel
theorem d_R_leaderBehind_27 : decode prog_2_method_6_code 27 = .ok (.aload_n 0, 1) := by decide +kernel
theorem d_R_leaderBehind_28 : decode prog_2_method_6_code 28 = .ok (.getfield 9, 3) := by decide +kernel
theorem d_R_leaderBehind_31 : decode prog_2_method_6_code 31 = .ok (.iload 5, 2) := by decide +kernel
theorem d_R_leaderBehind_33 : decode prog_2_method_6_code 33 = .ok (.iaload, 1) := by decide +kernel
theorem d_R_leaderBehind_34 : decode prog_2_method_6_code 34 = .ok (.iload_n 2, 1) := by decide +kernel
theorem d_R_leaderBehind_35 : decode prog_2_method_6_code 35 = .ok (.if_icmp .le 5, 3) := by decide +kernel
theorem d_R_leaderBehind_38 : decode prog_2_method_6_code 38 = .ok (.iload_n 3, 1) := by decide +kernel
theorem d_R_leaderBehind_39 : decode prog_2_method_6_code 39 = .ok (.ireturn, 1) := by decide +kernel
theorem d_R_leaderBehind_40 : decode prog_2_method_6_code 40 = .ok (.aload_n 0, 1) := by decide +kernel
theorem d_R_leaderBehind_41 : decode prog_2_method_6_code 41 = .ok (.getfield 15, 3) := by decide +kernel
theorem d_R_leaderBehind_44 : decode prog_2_method_6_code 44 = .ok (.iload 5, 2) := by decide +kernel
theorem d_R_leaderBehind_46 : decode prog_2_method_6_code 46 = .ok (.iaload, 1) := by decide +kernel
theorem d_R_leaderBehind_47 : decode prog_2_method_6_code 47 = .ok (.iload_n 1, 1) := by decide +kernel
theorem d_R_leaderBehind_48 : decode prog_2_method_6_code 48 = .ok (.if_icmp .ne 11, 3) := by decide +kernel
theorem d_R_leaderBehind_51 : decode prog_2_method_6_code 51 = .ok (.aload_n 0, 1) := by decide +kernel
theorem d_R_leaderBehind_52 : decode prog_2_method_6_code 52 = .ok (.getfield 18, 3) := by decide +kernel
theorem d_R_leaderBehind_55 : decode prog_2_method_6_code 55 = .ok (.iload 5, 2) := by decide +kernel
theorem d_R_leaderBehind_57 : decode prog_2_method_6_code 57 = .ok (.iaload, 1) := by decide +kernel
theorem d_R_leaderBehind_58 : decode prog_2_method_6_code 58 = .ok (.istore_n 3, 1) := by decide +kernel
theorem d_R_leaderBehind_59 : decode prog_2_method_6_code 59 = .ok (.iinc 4 1, 3) := by decide +kernel
theorem d_R_leaderBehind_62 : decode prog_2_method_6_code 62 = .ok (.goto (-52), 3) := by decide +kernel
theorem d_R_leaderBehind_65 : decode prog_2_method_6_code 65 = .ok (.iload_n 3, 1) := by decide +kernel
theorem d_R_leaderBehind_66 : decode prog_2_method_6_code 66 = .ok (.ireturn, 1) := by decide +kernel
theorem d_T_sectorOf_0 : decode prog_3_method_7_code 0 = .ok (.aload_n 0, 1) := by decide +kernel
theorem d_T_sectorOf_1 : decode prog_3_method_7_code 1 = .ok (.getfield 9, 3) := by decide +kernel
theorem d_T_sectorOf_4 : decode prog_3_method_7_code 4 = .ok (.iload_n 1, 1) := by decide +kernel
theorem d_T_sectorOf_5 : decode prog_3_method_7_code 5 = .ok (.iaload, 1) := by decide +kernel
theorem d_T_sectorOf_6 : decode prog_3_method_7_code 6 = .ok (.ireturn, 1) := by decide +kernel
theorem d_T_answeredAt_0 : decode prog_3_method_9_code 0 = .ok (.aload_n 0, 1) := by decide +kernel
theorem d_T_answeredAt_1 : decode prog_3_method_9_code 1 = .ok (.getfield 21, 3) := by decide +kernel
theorem d_T_answeredAt_4 : decode prog_3_method_9_code 4 = .ok (.iload_n 1, 1) := by decide +kernel
theorem d_T_answeredAt_5 : decode prog_3_method_9_code 5 = .ok (.iaload, 1) := by decide +kernel
theorem d_T_answeredAt_6 : decode prog_3_method_9_code 6 = .ok (.ireturn, 1) := by decide +kernel
end
section
/-! INSTRUCTIONS, printed by wip/whole/names.py -/
theorem d_L_person_0 : decode method_3_code 0 = .ok (.aload_n 2, 1) := by decide +kernel
theorem d_L_person_1 : decode method_3_code 1 = .ok (.iconst 0, 1) := by decide +kernel
theorem d_L_person_2 : decode method_3_code 2 = .ok (.aload_n 0, 1) := by decide +kernel
theorem d_L_person_3 : decode method_3_code 3 = .ok (.iload_n 1, 1) := by decide +kernel
theorem d_L_person_4 : decode method_3_code 4 = .ok (.invokevirtual 7, 3) := by decide +kernel
theorem d_L_person_7 : decode method_3_code 7 = .ok (.i2l, 1) := by decide +kernel
theorem d_L_person_8 : decode method_3_code 8 = .ok (.lastore, 1) := by decide +kernel
theorem d_L_person_9 : decode method_3_code 9 = .ok (.goto 9, 3) := by decide +kernel
theorem d_L_person_12 : decode method_3_code 12 = .ok (.astore_n 3, 1) := by decide +kernel
theorem d_L_person_13 : decode method_3_code 13 = .ok (.iconst 1, 1) := by decide +kernel
theorem d_L_person_14 : decode method_3_code 14 = .ok (.ireturn, 1) := by decide +kernel
theorem d_L_person_15 : decode method_3_code 15 = .ok (.astore_n 3, 1) := by decide +kernel
theorem d_L_person_16 : decode method_3_code 16 = .ok (.iconst 2, 1) := by decide +kernel
theorem d_L_person_17 : decode method_3_code 17 = .ok (.ireturn, 1) := by decide +kernel
theorem d_L_person_18 : decode method_3_code 18 = .ok (.iconst 0, 1) := by decide +kernel
theorem d_L_person_19 : decode method_3_code 19 = .ok (.ireturn, 1) := by decide +kernel
theorem d_L_unit_0 : decode method_4_code 0 = .ok (.aload_n 1, 1) := by decide +kernel
theorem d_L_unit_1 : decode method_4_code 1 = .ok (.iconst 0, 1) := by decide +kernel
theorem d_L_unit_2 : decode method_4_code 2 = .ok (.aload_n 0, 1) := by decide +kernel
theorem d_L_unit_3 : decode method_4_code 3 = .ok (.invokevirtual 17, 3) := by decide +kernel
theorem d_L_unit_6 : decode method_4_code 6 = .ok (.i2l, 1) := by decide +kernel
theorem d_L_unit_7 : decode method_4_code 7 = .ok (.lastore, 1) := by decide +kernel
theorem d_L_unit_8 : decode method_4_code 8 = .ok (.goto 6, 3) := by decide +kernel
theorem d_L_unit_11 : decode method_4_code 11 = .ok (.astore_n 2, 1) := by decide +kernel
theorem d_L_unit_12 : decode method_4_code 12 = .ok (.iconst 1, 1) := by decide +kernel
theorem d_L_unit_13 : decode method_4_code 13 = .ok (.ireturn, 1) := by decide +kernel
theorem d_L_unit_14 : decode method_4_code 14 = .ok (.iconst 0, 1) := by decide +kernel
theorem d_L_unit_15 : decode method_4_code 15 = .ok (.ireturn, 1) := by decide +kernel
theorem d_L_arrive_0 : decode method_5_code 0 = .ok (.aload_n 0, 1) := by decide +kernel
theorem d_L_arrive_1 : decode method_5_code 1 = .ok (.iload_n 1, 1) := by decide +kernel
theorem d_L_arrive_2 : decode method_5_code 2 = .ok (.invokevirtual 21, 3) := by decide +kernel
theorem d_L_arrive_5 : decode method_5_code 5 = .ok (.goto 9, 3) := by decide +kernel
theorem d_L_arrive_8 : decode method_5_code 8 = .ok (.astore_n 2, 1) := by decide +kernel
theorem d_L_arrive_9 : decode method_5_code 9 = .ok (.iconst 1, 1) := by decide +kernel
theorem d_L_arrive_10 : decode method_5_code 10 = .ok (.ireturn, 1) := by decide +kernel
theorem d_L_arrive_11 : decode method_5_code 11 = .ok (.astore_n 2, 1) := by decide +kernel
theorem d_L_arrive_12 : decode method_5_code 12 = .ok (.iconst 2, 1) := by decide +kernel
theorem d_L_arrive_13 : decode method_5_code 13 = .ok (.ireturn, 1) := by decide +kernel
theorem d_L_arrive_14 : decode method_5_code 14 = .ok (.iconst 0, 1) := by decide +kernel
theorem d_L_arrive_15 : decode method_5_code 15 = .ok (.ireturn, 1) := by decide +kernel
theorem d_L_leave_0 : decode method_6_code 0 = .ok (.aload_n 0, 1) := by decide +kernel
theorem d_L_leave_1 : decode method_6_code 1 = .ok (.iload_n 1, 1) := by decide +kernel
theorem d_L_leave_2 : decode method_6_code 2 = .ok (.invokevirtual 29, 3) := by decide +kernel
theorem d_L_leave_5 : decode method_6_code 5 = .ok (.goto 9, 3) := by decide +kernel
theorem d_L_leave_8 : decode method_6_code 8 = .ok (.astore_n 2, 1) := by decide +kernel
theorem d_L_leave_9 : decode method_6_code 9 = .ok (.iconst 1, 1) := by decide +kernel
theorem d_L_leave_10 : decode method_6_code 10 = .ok (.ireturn, 1) := by decide +kernel
theorem d_L_leave_11 : decode method_6_code 11 = .ok (.astore_n 2, 1) := by decide +kernel
theorem d_L_leave_12 : decode method_6_code 12 = .ok (.iconst 2, 1) := by decide +kernel
theorem d_L_leave_13 : decode method_6_code 13 = .ok (.ireturn, 1) := by decide +kernel
theorem d_L_leave_14 : decode method_6_code 14 = .ok (.iconst 0, 1) := by decide +kernel
theorem d_L_leave_15 : decode method_6_code 15 = .ok (.ireturn, 1) := by decide +kernel
theorem d_L_go_0 : decode method_7_code 0 = .ok (.aload_n 0, 1) := by decide +kernel
theorem d_L_go_1 : decode method_7_code 1 = .ok (.iload_n 1, 1) := by decide +kernel
theorem d_L_go_2 : decode method_7_code 2 = .ok (.iload_n 2, 1) := by decide +kernel
theorem d_L_go_3 : decode method_7_code 3 = .ok (.invokevirtual 32, 3) := by decide +kernel
theorem d_L_go_6 : decode method_7_code 6 = .ok (.goto 9, 3) := by decide +kernel
theorem d_L_go_9 : decode method_7_code 9 = .ok (.astore_n 3, 1) := by decide +kernel
theorem d_L_go_10 : decode method_7_code 10 = .ok (.iconst 1, 1) := by decide +kernel
theorem d_L_go_11 : decode method_7_code 11 = .ok (.ireturn, 1) := by decide +kernel
theorem d_L_go_12 : decode method_7_code 12 = .ok (.astore_n 3, 1) := by decide +kernel
theorem d_L_go_13 : decode method_7_code 13 = .ok (.iconst 2, 1) := by decide +kernel
theorem d_L_go_14 : decode method_7_code 14 = .ok (.ireturn, 1) := by decide +kernel
theorem d_L_go_15 : decode method_7_code 15 = .ok (.iconst 0, 1) := by decide +kernel
theorem d_L_go_16 : decode method_7_code 16 = .ok (.ireturn, 1) := by decide +kernel
theorem d_L_place_0 : decode method_8_code 0 = .ok (.aload_n 0, 1) := by decide +kernel
theorem d_L_place_1 : decode method_8_code 1 = .ok (.iload_n 1, 1) := by decide +kernel
theorem d_L_place_2 : decode method_8_code 2 = .ok (.iload_n 2, 1) := by decide +kernel
theorem d_L_place_3 : decode method_8_code 3 = .ok (.invokevirtual 36, 3) := by decide +kernel
theorem d_L_place_6 : decode method_8_code 6 = .ok (.goto 9, 3) := by decide +kernel
theorem d_L_place_9 : decode method_8_code 9 = .ok (.astore_n 3, 1) := by decide +kernel
theorem d_L_place_10 : decode method_8_code 10 = .ok (.iconst 1, 1) := by decide +kernel
theorem d_L_place_11 : decode method_8_code 11 = .ok (.ireturn, 1) := by decide +kernel
theorem d_L_place_12 : decode method_8_code 12 = .ok (.astore_n 3, 1) := by decide +kernel
theorem d_L_place_13 : decode method_8_code 13 = .ok (.iconst 2, 1) := by decide +kernel
theorem d_L_place_14 : decode method_8_code 14 = .ok (.ireturn, 1) := by decide +kernel
theorem d_L_place_15 : decode method_8_code 15 = .ok (.iconst 0, 1) := by decide +kernel
theorem d_L_place_16 : decode method_8_code 16 = .ok (.ireturn, 1) := by decide +kernel
theorem d_L_split_0 : decode method_9_code 0 = .ok (.aload_n 2, 1) := by decide +kernel
theorem d_L_split_1 : decode method_9_code 1 = .ok (.iconst 0, 1) := by decide +kernel
theorem d_L_split_2 : decode method_9_code 2 = .ok (.aload_n 0, 1) := by decide +kernel
theorem d_L_split_3 : decode method_9_code 3 = .ok (.iload_n 1, 1) := by decide +kernel
theorem d_L_split_4 : decode method_9_code 4 = .ok (.invokevirtual 39, 3) := by decide +kernel
theorem d_L_split_7 : decode method_9_code 7 = .ok (.i2l, 1) := by decide +kernel
theorem d_L_split_8 : decode method_9_code 8 = .ok (.lastore, 1) := by decide +kernel
theorem d_L_split_9 : decode method_9_code 9 = .ok (.goto 12, 3) := by decide +kernel
theorem d_L_split_12 : decode method_9_code 12 = .ok (.astore_n 3, 1) := by decide +kernel
theorem d_L_split_13 : decode method_9_code 13 = .ok (.iconst 1, 1) := by decide +kernel
theorem d_L_split_14 : decode method_9_code 14 = .ok (.ireturn, 1) := by decide +kernel
theorem d_L_split_15 : decode method_9_code 15 = .ok (.astore_n 3, 1) := by decide +kernel
theorem d_L_split_16 : decode method_9_code 16 = .ok (.iconst 2, 1) := by decide +kernel
theorem d_L_split_17 : decode method_9_code 17 = .ok (.ireturn, 1) := by decide +kernel
theorem d_L_split_18 : decode method_9_code 18 = .ok (.astore_n 3, 1) := by decide +kernel
theorem d_L_split_19 : decode method_9_code 19 = .ok (.iconst 3, 1) := by decide +kernel
theorem d_L_split_20 : decode method_9_code 20 = .ok (.ireturn, 1) := by decide +kernel
theorem d_L_split_21 : decode method_9_code 21 = .ok (.iconst 0, 1) := by decide +kernel
theorem d_L_split_22 : decode method_9_code 22 = .ok (.ireturn, 1) := by decide +kernel
theorem d_L_join_0 : decode method_10_code 0 = .ok (.aload_n 0, 1) := by decide +kernel
theorem d_L_join_1 : decode method_10_code 1 = .ok (.iload_n 1, 1) := by decide +kernel
theorem d_L_join_2 : decode method_10_code 2 = .ok (.iload_n 2, 1) := by decide +kernel
theorem d_L_join_3 : decode method_10_code 3 = .ok (.invokevirtual 42, 3) := by decide +kernel
theorem d_L_join_6 : decode method_10_code 6 = .ok (.goto 9, 3) := by decide +kernel
theorem d_L_join_9 : decode method_10_code 9 = .ok (.astore_n 3, 1) := by decide +kernel
theorem d_L_join_10 : decode method_10_code 10 = .ok (.iconst 1, 1) := by decide +kernel
theorem d_L_join_11 : decode method_10_code 11 = .ok (.ireturn, 1) := by decide +kernel
theorem d_L_join_12 : decode method_10_code 12 = .ok (.astore_n 3, 1) := by decide +kernel
theorem d_L_join_13 : decode method_10_code 13 = .ok (.iconst 2, 1) := by decide +kernel
theorem d_L_join_14 : decode method_10_code 14 = .ok (.ireturn, 1) := by decide +kernel
theorem d_L_join_15 : decode method_10_code 15 = .ok (.iconst 0, 1) := by decide +kernel
theorem d_L_join_16 : decode method_10_code 16 = .ok (.ireturn, 1) := by decide +kernel
theorem d_L_offer_0 : decode method_11_code 0 = .ok (.aload_n 0, 1) := by decide +kernel
theorem d_L_offer_1 : decode method_11_code 1 = .ok (.iload_n 1, 1) := by decide +kernel
theorem d_L_offer_2 : decode method_11_code 2 = .ok (.iload_n 2, 1) := by decide +kernel
theorem d_L_offer_3 : decode method_11_code 3 = .ok (.invokevirtual 45, 3) := by decide +kernel
theorem d_L_offer_6 : decode method_11_code 6 = .ok (.goto 9, 3) := by decide +kernel
theorem d_L_offer_9 : decode method_11_code 9 = .ok (.astore_n 3, 1) := by decide +kernel
theorem d_L_offer_10 : decode method_11_code 10 = .ok (.iconst 1, 1) := by decide +kernel
theorem d_L_offer_11 : decode method_11_code 11 = .ok (.ireturn, 1) := by decide +kernel
theorem d_L_offer_12 : decode method_11_code 12 = .ok (.astore_n 3, 1) := by decide +kernel
theorem d_L_offer_13 : decode method_11_code 13 = .ok (.iconst 2, 1) := by decide +kernel
theorem d_L_offer_14 : decode method_11_code 14 = .ok (.ireturn, 1) := by decide +kernel
theorem d_L_offer_15 : decode method_11_code 15 = .ok (.iconst 0, 1) := by decide +kernel
theorem d_L_offer_16 : decode method_11_code 16 = .ok (.ireturn, 1) := by decide +kernel
theorem d_L_take_0 : decode method_12_code 0 = .ok (.aload_n 0, 1) := by decide +kernel
theorem d_L_take_1 : decode method_12_code 1 = .ok (.iload_n 1, 1) := by decide +kernel
theorem d_L_take_2 : decode method_12_code 2 = .ok (.iload_n 2, 1) := by decide +kernel
theorem d_L_take_3 : decode method_12_code 3 = .ok (.invokevirtual 48, 3) := by decide +kernel
theorem d_L_take_6 : decode method_12_code 6 = .ok (.goto 9, 3) := by decide +kernel
theorem d_L_take_9 : decode method_12_code 9 = .ok (.astore_n 3, 1) := by decide +kernel
theorem d_L_take_10 : decode method_12_code 10 = .ok (.iconst 1, 1) := by decide +kernel
theorem d_L_take_11 : decode method_12_code 11 = .ok (.ireturn, 1) := by decide +kernel
theorem d_L_take_12 : decode method_12_code 12 = .ok (.astore_n 3, 1) := by decide +kernel
theorem d_L_take_13 : decode method_12_code 13 = .ok (.iconst 2, 1) := by decide +kernel
theorem d_L_take_14 : decode method_12_code 14 = .ok (.ireturn, 1) := by decide +kernel
theorem d_L_take_15 : decode method_12_code 15 = .ok (.iconst 0, 1) := by decide +kernel
theorem d_L_take_16 : decode method_12_code 16 = .ok (.ireturn, 1) := by decide +kernel
theorem d_L_task_0 : decode method_13_code 0 = .ok (.aload_n 3, 1) := by decide +kernel
theorem d_L_task_1 : decode method_13_code 1 = .ok (.iconst 0, 1) := by decide +kernel
theorem d_L_task_2 : decode method_13_code 2 = .ok (.aload_n 0, 1) := by decide +kernel
theorem d_L_task_3 : decode method_13_code 3 = .ok (.iload_n 1, 1) := by decide +kernel
theorem d_L_task_4 : decode method_13_code 4 = .ok (.iload_n 2, 1) := by decide +kernel
theorem d_L_task_5 : decode method_13_code 5 = .ok (.invokevirtual 51, 3) := by decide +kernel
theorem d_L_task_8 : decode method_13_code 8 = .ok (.i2l, 1) := by decide +kernel
theorem d_L_task_9 : decode method_13_code 9 = .ok (.lastore, 1) := by decide +kernel
theorem d_L_task_10 : decode method_13_code 10 = .ok (.goto 19, 3) := by decide +kernel
theorem d_L_task_13 : decode method_13_code 13 = .ok (.astore 4, 2) := by decide +kernel
theorem d_L_task_15 : decode method_13_code 15 = .ok (.iconst 1, 1) := by decide +kernel
theorem d_L_task_16 : decode method_13_code 16 = .ok (.ireturn, 1) := by decide +kernel
theorem d_L_task_17 : decode method_13_code 17 = .ok (.astore 4, 2) := by decide +kernel
theorem d_L_task_19 : decode method_13_code 19 = .ok (.iconst 2, 1) := by decide +kernel
theorem d_L_task_20 : decode method_13_code 20 = .ok (.ireturn, 1) := by decide +kernel
theorem d_L_task_21 : decode method_13_code 21 = .ok (.astore 4, 2) := by decide +kernel
theorem d_L_task_23 : decode method_13_code 23 = .ok (.iconst 3, 1) := by decide +kernel
theorem d_L_task_24 : decode method_13_code 24 = .ok (.ireturn, 1) := by decide +kernel
theorem d_L_task_25 : decode method_13_code 25 = .ok (.astore 4, 2) := by decide +kernel
theorem d_L_task_27 : decode method_13_code 27 = .ok (.iconst 4, 1) := by decide +kernel
theorem d_L_task_28 : decode method_13_code 28 = .ok (.ireturn, 1) := by decide +kernel
theorem d_L_task_29 : decode method_13_code 29 = .ok (.iconst 0, 1) := by decide +kernel
theorem d_L_task_30 : decode method_13_code 30 = .ok (.ireturn, 1) := by decide +kernel
theorem d_L_answer_0 : decode method_14_code 0 = .ok (.aload_n 0, 1) := by decide +kernel
theorem d_L_answer_1 : decode method_14_code 1 = .ok (.iload_n 1, 1) := by decide +kernel
theorem d_L_answer_2 : decode method_14_code 2 = .ok (.iload_n 2, 1) := by decide +kernel
theorem d_L_answer_3 : decode method_14_code 3 = .ok (.invokevirtual 55, 3) := by decide +kernel
theorem d_L_answer_6 : decode method_14_code 6 = .ok (.goto 9, 3) := by decide +kernel
theorem d_L_answer_9 : decode method_14_code 9 = .ok (.astore_n 3, 1) := by decide +kernel
theorem d_L_answer_10 : decode method_14_code 10 = .ok (.iconst 1, 1) := by decide +kernel
theorem d_L_answer_11 : decode method_14_code 11 = .ok (.ireturn, 1) := by decide +kernel
theorem d_L_answer_12 : decode method_14_code 12 = .ok (.astore_n 3, 1) := by decide +kernel
theorem d_L_answer_13 : decode method_14_code 13 = .ok (.iconst 2, 1) := by decide +kernel
theorem d_L_answer_14 : decode method_14_code 14 = .ok (.ireturn, 1) := by decide +kernel
theorem d_L_answer_15 : decode method_14_code 15 = .ok (.iconst 0, 1) := by decide +kernel
theorem d_L_answer_16 : decode method_14_code 16 = .ok (.ireturn, 1) := by decide +kernel
theorem d_L_span_0 : decode method_15_code 0 = .ok (.aload_n 2, 1) := by decide +kernel
theorem d_L_span_1 : decode method_15_code 1 = .ok (.iconst 0, 1) := by decide +kernel
theorem d_L_span_2 : decode method_15_code 2 = .ok (.aload_n 0, 1) := by decide +kernel
theorem d_L_span_3 : decode method_15_code 3 = .ok (.iload_n 1, 1) := by decide +kernel
theorem d_L_span_4 : decode method_15_code 4 = .ok (.invokevirtual 59, 3) := by decide +kernel
theorem d_L_span_7 : decode method_15_code 7 = .ok (.i2l, 1) := by decide +kernel
theorem d_L_span_8 : decode method_15_code 8 = .ok (.lastore, 1) := by decide +kernel
theorem d_L_span_9 : decode method_15_code 9 = .ok (.goto 6, 3) := by decide +kernel
theorem d_L_span_12 : decode method_15_code 12 = .ok (.astore_n 3, 1) := by decide +kernel
theorem d_L_span_13 : decode method_15_code 13 = .ok (.iconst 1, 1) := by decide +kernel
theorem d_L_span_14 : decode method_15_code 14 = .ok (.ireturn, 1) := by decide +kernel
theorem d_L_span_15 : decode method_15_code 15 = .ok (.iconst 0, 1) := by decide +kernel
theorem d_L_span_16 : decode method_15_code 16 = .ok (.ireturn, 1) := by decide +kernel
theorem d_L_tick_0 : decode method_16_code 0 = .ok (.aload_n 2, 1) := by decide +kernel
theorem d_L_tick_1 : decode method_16_code 1 = .ok (.iconst 0, 1) := by decide +kernel
theorem d_L_tick_2 : decode method_16_code 2 = .ok (.aload_n 0, 1) := by decide +kernel
theorem d_L_tick_3 : decode method_16_code 3 = .ok (.iload_n 1, 1) := by decide +kernel
theorem d_L_tick_4 : decode method_16_code 4 = .ok (.invokevirtual 62, 3) := by decide +kernel
theorem d_L_tick_7 : decode method_16_code 7 = .ok (.i2l, 1) := by decide +kernel
theorem d_L_tick_8 : decode method_16_code 8 = .ok (.lastore, 1) := by decide +kernel
theorem d_L_tick_9 : decode method_16_code 9 = .ok (.goto 6, 3) := by decide +kernel
theorem d_L_tick_12 : decode method_16_code 12 = .ok (.astore_n 3, 1) := by decide +kernel
theorem d_L_tick_13 : decode method_16_code 13 = .ok (.iconst 1, 1) := by decide +kernel
theorem d_L_tick_14 : decode method_16_code 14 = .ok (.ireturn, 1) := by decide +kernel
theorem d_L_tick_15 : decode method_16_code 15 = .ok (.iconst 0, 1) := by decide +kernel
theorem d_L_tick_16 : decode method_16_code 16 = .ok (.ireturn, 1) := by decide +kernel
theorem d_L_led_0 : decode method_17_code 0 = .ok (.aload_n 3, 1) := by decide +kernel
theorem d_L_led_1 : decode method_17_code 1 = .ok (.iconst 0, 1) := by decide +kernel
theorem d_L_led_2 : decode method_17_code 2 = .ok (.aload_n 0, 1) := by decide +kernel
theorem d_L_led_3 : decode method_17_code 3 = .ok (.iload_n 1, 1) := by decide +kernel
theorem d_L_led_4 : decode method_17_code 4 = .ok (.iload_n 2, 1) := by decide +kernel
theorem d_L_led_5 : decode method_17_code 5 = .ok (.invokevirtual 65, 3) := by decide +kernel
theorem d_L_led_8 : decode method_17_code 8 = .ok (.i2l, 1) := by decide +kernel
theorem d_L_led_9 : decode method_17_code 9 = .ok (.lastore, 1) := by decide +kernel
theorem d_L_led_10 : decode method_17_code 10 = .ok (.goto 15, 3) := by decide +kernel
theorem d_L_led_13 : decode method_17_code 13 = .ok (.astore 4, 2) := by decide +kernel
theorem d_L_led_15 : decode method_17_code 15 = .ok (.iconst 1, 1) := by decide +kernel
theorem d_L_led_16 : decode method_17_code 16 = .ok (.ireturn, 1) := by decide +kernel
theorem d_L_led_17 : decode method_17_code 17 = .ok (.astore 4, 2) := by decide +kernel
theorem d_L_led_19 : decode method_17_code 19 = .ok (.iconst 2, 1) := by decide +kernel
theorem d_L_led_20 : decode method_17_code 20 = .ok (.ireturn, 1) := by decide +kernel
theorem d_L_led_21 : decode method_17_code 21 = .ok (.astore 4, 2) := by decide +kernel
theorem d_L_led_23 : decode method_17_code 23 = .ok (.iconst 3, 1) := by decide +kernel
theorem d_L_led_24 : decode method_17_code 24 = .ok (.ireturn, 1) := by decide +kernel
theorem d_L_led_25 : decode method_17_code 25 = .ok (.iconst 0, 1) := by decide +kernel
theorem d_L_led_26 : decode method_17_code 26 = .ok (.ireturn, 1) := by decide +kernel
theorem d_L_sectorAt_0 : decode method_18_code 0 = .ok (.aload_n 3, 1) := by decide +kernel
theorem d_L_sectorAt_1 : decode method_18_code 1 = .ok (.iconst 0, 1) := by decide +kernel
theorem d_L_sectorAt_2 : decode method_18_code 2 = .ok (.aload_n 0, 1) := by decide +kernel
theorem d_L_sectorAt_3 : decode method_18_code 3 = .ok (.iload_n 1, 1) := by decide +kernel
theorem d_L_sectorAt_4 : decode method_18_code 4 = .ok (.iload_n 2, 1) := by decide +kernel
theorem d_L_sectorAt_5 : decode method_18_code 5 = .ok (.invokevirtual 68, 3) := by decide +kernel
theorem d_L_sectorAt_8 : decode method_18_code 8 = .ok (.i2l, 1) := by decide +kernel
theorem d_L_sectorAt_9 : decode method_18_code 9 = .ok (.lastore, 1) := by decide +kernel
theorem d_L_sectorAt_10 : decode method_18_code 10 = .ok (.goto 7, 3) := by decide +kernel
theorem d_L_sectorAt_13 : decode method_18_code 13 = .ok (.astore 4, 2) := by decide +kernel
theorem d_L_sectorAt_15 : decode method_18_code 15 = .ok (.iconst 1, 1) := by decide +kernel
theorem d_L_sectorAt_16 : decode method_18_code 16 = .ok (.ireturn, 1) := by decide +kernel
theorem d_L_sectorAt_17 : decode method_18_code 17 = .ok (.iconst 0, 1) := by decide +kernel
theorem d_L_sectorAt_18 : decode method_18_code 18 = .ok (.ireturn, 1) := by decide +kernel
theorem d_L_personAt_0 : decode method_19_code 0 = .ok (.aload_n 3, 1) := by decide +kernel
theorem d_L_personAt_1 : decode method_19_code 1 = .ok (.iconst 0, 1) := by decide +kernel
theorem d_L_personAt_2 : decode method_19_code 2 = .ok (.aload_n 0, 1) := by decide +kernel
theorem d_L_personAt_3 : decode method_19_code 3 = .ok (.iload_n 1, 1) := by decide +kernel
theorem d_L_personAt_4 : decode method_19_code 4 = .ok (.iload_n 2, 1) := by decide +kernel
theorem d_L_personAt_5 : decode method_19_code 5 = .ok (.invokevirtual 71, 3) := by decide +kernel
theorem d_L_personAt_8 : decode method_19_code 8 = .ok (.i2l, 1) := by decide +kernel
theorem d_L_personAt_9 : decode method_19_code 9 = .ok (.lastore, 1) := by decide +kernel
theorem d_L_personAt_10 : decode method_19_code 10 = .ok (.goto 7, 3) := by decide +kernel
theorem d_L_personAt_13 : decode method_19_code 13 = .ok (.astore 4, 2) := by decide +kernel
theorem d_L_personAt_15 : decode method_19_code 15 = .ok (.iconst 1, 1) := by decide +kernel
theorem d_L_personAt_16 : decode method_19_code 16 = .ok (.ireturn, 1) := by decide +kernel
theorem d_L_personAt_17 : decode method_19_code 17 = .ok (.iconst 0, 1) := by decide +kernel
theorem d_L_personAt_18 : decode method_19_code 18 = .ok (.ireturn, 1) := by decide +kernel
theorem d_L_unitAt_0 : decode method_20_code 0 = .ok (.aload_n 2, 1) := by decide +kernel
theorem d_L_unitAt_1 : decode method_20_code 1 = .ok (.iconst 0, 1) := by decide +kernel
theorem d_L_unitAt_2 : decode method_20_code 2 = .ok (.aload_n 0, 1) := by decide +kernel
theorem d_L_unitAt_3 : decode method_20_code 3 = .ok (.iload_n 1, 1) := by decide +kernel
theorem d_L_unitAt_4 : decode method_20_code 4 = .ok (.invokevirtual 74, 3) := by decide +kernel
theorem d_L_unitAt_7 : decode method_20_code 7 = .ok (.i2l, 1) := by decide +kernel
theorem d_L_unitAt_8 : decode method_20_code 8 = .ok (.lastore, 1) := by decide +kernel
theorem d_L_unitAt_9 : decode method_20_code 9 = .ok (.goto 6, 3) := by decide +kernel
theorem d_L_unitAt_12 : decode method_20_code 12 = .ok (.astore_n 3, 1) := by decide +kernel
theorem d_L_unitAt_13 : decode method_20_code 13 = .ok (.iconst 1, 1) := by decide +kernel
theorem d_L_unitAt_14 : decode method_20_code 14 = .ok (.ireturn, 1) := by decide +kernel
theorem d_L_unitAt_15 : decode method_20_code 15 = .ok (.iconst 0, 1) := by decide +kernel
theorem d_L_unitAt_16 : decode method_20_code 16 = .ok (.ireturn, 1) := by decide +kernel
theorem d_L_taskAt_0 : decode method_21_code 0 = .ok (.aload_n 3, 1) := by decide +kernel
theorem d_L_taskAt_1 : decode method_21_code 1 = .ok (.iconst 0, 1) := by decide +kernel
theorem d_L_taskAt_2 : decode method_21_code 2 = .ok (.aload_n 0, 1) := by decide +kernel
theorem d_L_taskAt_3 : decode method_21_code 3 = .ok (.iload_n 1, 1) := by decide +kernel
theorem d_L_taskAt_4 : decode method_21_code 4 = .ok (.iload_n 2, 1) := by decide +kernel
theorem d_L_taskAt_5 : decode method_21_code 5 = .ok (.invokevirtual 77, 3) := by decide +kernel
theorem d_L_taskAt_8 : decode method_21_code 8 = .ok (.i2l, 1) := by decide +kernel
theorem d_L_taskAt_9 : decode method_21_code 9 = .ok (.lastore, 1) := by decide +kernel
theorem d_L_taskAt_10 : decode method_21_code 10 = .ok (.goto 7, 3) := by decide +kernel
theorem d_L_taskAt_13 : decode method_21_code 13 = .ok (.astore 4, 2) := by decide +kernel
theorem d_L_taskAt_15 : decode method_21_code 15 = .ok (.iconst 1, 1) := by decide +kernel
theorem d_L_taskAt_16 : decode method_21_code 16 = .ok (.ireturn, 1) := by decide +kernel
theorem d_L_taskAt_17 : decode method_21_code 17 = .ok (.iconst 0, 1) := by decide +kernel
theorem d_L_taskAt_18 : decode method_21_code 18 = .ok (.ireturn, 1) := by decide +kernel
theorem d_L_passed_0 : decode method_22_code 0 = .ok (.aload_n 2, 1) := by decide +kernel
theorem d_L_passed_1 : decode method_22_code 1 = .ok (.iconst 0, 1) := by decide +kernel
theorem d_L_passed_2 : decode method_22_code 2 = .ok (.aload_n 0, 1) := by decide +kernel
theorem d_L_passed_3 : decode method_22_code 3 = .ok (.iload_n 1, 1) := by decide +kernel
theorem d_L_passed_4 : decode method_22_code 4 = .ok (.invokevirtual 80, 3) := by decide +kernel
theorem d_L_passed_7 : decode method_22_code 7 = .ok (.i2l, 1) := by decide +kernel
theorem d_L_passed_8 : decode method_22_code 8 = .ok (.lastore, 1) := by decide +kernel
theorem d_L_passed_9 : decode method_22_code 9 = .ok (.goto 6, 3) := by decide +kernel
theorem d_L_passed_12 : decode method_22_code 12 = .ok (.astore_n 3, 1) := by decide +kernel
theorem d_L_passed_13 : decode method_22_code 13 = .ok (.iconst 1, 1) := by decide +kernel
theorem d_L_passed_14 : decode method_22_code 14 = .ok (.ireturn, 1) := by decide +kernel
theorem d_L_passed_15 : decode method_22_code 15 = .ok (.iconst 0, 1) := by decide +kernel
theorem d_L_passed_16 : decode method_22_code 16 = .ok (.ireturn, 1) := by decide +kernel
theorem d_L_law_0 : decode code 0 = .ok (.new 8, 3) := by decide +kernel
theorem d_L_law_3 : decode code 3 = .ok (.dup, 1) := by decide +kernel
theorem d_L_law_4 : decode code 4 = .ok (.invokespecial 83, 3) := by decide +kernel
theorem d_L_law_7 : decode code 7 = .ok (.astore_n 1, 1) := by decide +kernel
theorem d_L_law_8 : decode code 8 = .ok (.new 84, 3) := by decide +kernel
theorem d_L_law_11 : decode code 11 = .ok (.dup, 1) := by decide +kernel
theorem d_L_law_12 : decode code 12 = .ok (.invokespecial 86, 3) := by decide +kernel
theorem d_L_law_15 : decode code 15 = .ok (.astore_n 2, 1) := by decide +kernel
theorem d_L_law_16 : decode code 16 = .ok (.iconst 1, 1) := by decide +kernel
theorem d_L_law_17 : decode code 17 = .ok (.newarray .long, 2) := by decide +kernel
theorem d_L_law_19 : decode code 19 = .ok (.astore_n 3, 1) := by decide +kernel
theorem d_L_law_20 : decode code 20 = .ok (.iconst 0, 1) := by decide +kernel
theorem d_L_law_21 : decode code 21 = .ok (.istore 4, 2) := by decide +kernel
theorem d_L_law_23 : decode code 23 = .ok (.iload 4, 2) := by decide +kernel
theorem d_L_law_25 : decode code 25 = .ok (.aload_n 0, 1) := by decide +kernel
theorem d_L_law_26 : decode code 26 = .ok (.arraylength, 1) := by decide +kernel
theorem d_L_law_27 : decode code 27 = .ok (.iconst 3, 1) := by decide +kernel
theorem d_L_law_28 : decode code 28 = .ok (.isub, 1) := by decide +kernel
theorem d_L_law_29 : decode code 29 = .ok (.if_icmp .gt 1222, 3) := by decide +kernel
theorem d_L_law_32 : decode code 32 = .ok (.aload_n 0, 1) := by decide +kernel
theorem d_L_law_33 : decode code 33 = .ok (.iload 4, 2) := by decide +kernel
theorem d_L_law_35 : decode code 35 = .ok (.iaload, 1) := by decide +kernel
theorem d_L_law_36 : decode code 36 = .ok (.bipush 31, 2) := by decide +kernel
theorem d_L_law_38 : decode code 38 = .ok (.iand, 1) := by decide +kernel
theorem d_L_law_39 : decode code 39 = .ok (.tableswitch 1206 0 20 #[97, 153, 197, 233, 269, 317, 365, 421, 469, 517, 565, 633, 697, 753, 809, 877, 945, 1013, 1069, 1137, 1193], 97) := by decide +kernel
theorem d_L_law_136 : decode code 136 = .ok (.aload_n 1, 1) := by decide +kernel
theorem d_L_law_137 : decode code 137 = .ok (.aload_n 0, 1) := by decide +kernel
theorem d_L_law_138 : decode code 138 = .ok (.iload 4, 2) := by decide +kernel
theorem d_L_law_140 : decode code 140 = .ok (.iconst 1, 1) := by decide +kernel
theorem d_L_law_141 : decode code 141 = .ok (.iadd, 1) := by decide +kernel
theorem d_L_law_142 : decode code 142 = .ok (.iaload, 1) := by decide +kernel
theorem d_L_law_143 : decode code 143 = .ok (.aload_n 3, 1) := by decide +kernel
theorem d_L_law_144 : decode code 144 = .ok (.invokestatic 87, 3) := by decide +kernel
theorem d_L_law_147 : decode code 147 = .ok (.istore 5, 2) := by decide +kernel
theorem d_L_law_149 : decode code 149 = .ok (.aload_n 2, 1) := by decide +kernel
theorem d_L_law_150 : decode code 150 = .ok (.aload_n 0, 1) := by decide +kernel
theorem d_L_law_151 : decode code 151 = .ok (.iload 4, 2) := by decide +kernel
theorem d_L_law_153 : decode code 153 = .ok (.iconst 1, 1) := by decide +kernel
theorem d_L_law_154 : decode code 154 = .ok (.iadd, 1) := by decide +kernel
theorem d_L_law_155 : decode code 155 = .ok (.iaload, 1) := by decide +kernel
theorem d_L_law_156 : decode code 156 = .ok (.invokevirtual 92, 3) := by decide +kernel
theorem d_L_law_159 : decode code 159 = .ok (.istore 6, 2) := by decide +kernel
theorem d_L_law_161 : decode code 161 = .ok (.aload_n 2, 1) := by decide +kernel
theorem d_L_law_162 : decode code 162 = .ok (.invokevirtual 93, 3) := by decide +kernel
theorem d_L_law_165 : decode code 165 = .ok (.iload 5, 2) := by decide +kernel
theorem d_L_law_167 : decode code 167 = .ok (.if_icmp .eq 5, 3) := by decide +kernel
theorem d_L_law_170 : decode code 170 = .ok (.iconst 0, 1) := by decide +kernel
theorem d_L_law_171 : decode code 171 = .ok (.ireturn, 1) := by decide +kernel
theorem d_L_law_172 : decode code 172 = .ok (.iload 5, 2) := by decide +kernel
theorem d_L_law_174 : decode code 174 = .ok (.ifCond .ne 15, 3) := by decide +kernel
theorem d_L_law_177 : decode code 177 = .ok (.aload_n 3, 1) := by decide +kernel
theorem d_L_law_178 : decode code 178 = .ok (.iconst 0, 1) := by decide +kernel
theorem d_L_law_179 : decode code 179 = .ok (.laload, 1) := by decide +kernel
theorem d_L_law_180 : decode code 180 = .ok (.iload 6, 2) := by decide +kernel
theorem d_L_law_182 : decode code 182 = .ok (.i2l, 1) := by decide +kernel
theorem d_L_law_183 : decode code 183 = .ok (.lcmp, 1) := by decide +kernel
theorem d_L_law_184 : decode code 184 = .ok (.ifCond .eq 5, 3) := by decide +kernel
theorem d_L_law_187 : decode code 187 = .ok (.iconst 0, 1) := by decide +kernel
theorem d_L_law_188 : decode code 188 = .ok (.ireturn, 1) := by decide +kernel
theorem d_L_law_189 : decode code 189 = .ok (.goto 1056, 3) := by decide +kernel
theorem d_L_law_192 : decode code 192 = .ok (.aload_n 1, 1) := by decide +kernel
theorem d_L_law_193 : decode code 193 = .ok (.aload_n 3, 1) := by decide +kernel
theorem d_L_law_194 : decode code 194 = .ok (.invokestatic 96, 3) := by decide +kernel
theorem d_L_law_197 : decode code 197 = .ok (.istore 5, 2) := by decide +kernel
theorem d_L_law_199 : decode code 199 = .ok (.aload_n 2, 1) := by decide +kernel
theorem d_L_law_200 : decode code 200 = .ok (.invokevirtual 99, 3) := by decide +kernel
theorem d_L_law_203 : decode code 203 = .ok (.istore 6, 2) := by decide +kernel
theorem d_L_law_205 : decode code 205 = .ok (.aload_n 2, 1) := by decide +kernel
theorem d_L_law_206 : decode code 206 = .ok (.invokevirtual 93, 3) := by decide +kernel
theorem d_L_law_209 : decode code 209 = .ok (.iload 5, 2) := by decide +kernel
theorem d_L_law_211 : decode code 211 = .ok (.if_icmp .eq 5, 3) := by decide +kernel
theorem d_L_law_214 : decode code 214 = .ok (.iconst 0, 1) := by decide +kernel
theorem d_L_law_215 : decode code 215 = .ok (.ireturn, 1) := by decide +kernel
theorem d_L_law_216 : decode code 216 = .ok (.iload 5, 2) := by decide +kernel
theorem d_L_law_218 : decode code 218 = .ok (.ifCond .ne 15, 3) := by decide +kernel
theorem d_L_law_221 : decode code 221 = .ok (.aload_n 3, 1) := by decide +kernel
theorem d_L_law_222 : decode code 222 = .ok (.iconst 0, 1) := by decide +kernel
theorem d_L_law_223 : decode code 223 = .ok (.laload, 1) := by decide +kernel
theorem d_L_law_224 : decode code 224 = .ok (.iload 6, 2) := by decide +kernel
theorem d_L_law_226 : decode code 226 = .ok (.i2l, 1) := by decide +kernel
theorem d_L_law_227 : decode code 227 = .ok (.lcmp, 1) := by decide +kernel
theorem d_L_law_228 : decode code 228 = .ok (.ifCond .eq 5, 3) := by decide +kernel
theorem d_L_law_231 : decode code 231 = .ok (.iconst 0, 1) := by decide +kernel
theorem d_L_law_232 : decode code 232 = .ok (.ireturn, 1) := by decide +kernel
theorem d_L_law_233 : decode code 233 = .ok (.goto 1012, 3) := by decide +kernel
theorem d_L_law_236 : decode code 236 = .ok (.aload_n 1, 1) := by decide +kernel
theorem d_L_law_237 : decode code 237 = .ok (.aload_n 0, 1) := by decide +kernel
theorem d_L_law_238 : decode code 238 = .ok (.iload 4, 2) := by decide +kernel
theorem d_L_law_240 : decode code 240 = .ok (.iconst 1, 1) := by decide +kernel
theorem d_L_law_241 : decode code 241 = .ok (.iadd, 1) := by decide +kernel
theorem d_L_law_242 : decode code 242 = .ok (.iaload, 1) := by decide +kernel
theorem d_L_law_243 : decode code 243 = .ok (.invokestatic 100, 3) := by decide +kernel
theorem d_L_law_246 : decode code 246 = .ok (.istore 5, 2) := by decide +kernel
theorem d_L_law_248 : decode code 248 = .ok (.aload_n 2, 1) := by decide +kernel
theorem d_L_law_249 : decode code 249 = .ok (.aload_n 0, 1) := by decide +kernel
theorem d_L_law_250 : decode code 250 = .ok (.iload 4, 2) := by decide +kernel
theorem d_L_law_252 : decode code 252 = .ok (.iconst 1, 1) := by decide +kernel
theorem d_L_law_253 : decode code 253 = .ok (.iadd, 1) := by decide +kernel
theorem d_L_law_254 : decode code 254 = .ok (.iaload, 1) := by decide +kernel
theorem d_L_law_255 : decode code 255 = .ok (.invokevirtual 103, 3) := by decide +kernel
theorem d_L_law_258 : decode code 258 = .ok (.aload_n 2, 1) := by decide +kernel
theorem d_L_law_259 : decode code 259 = .ok (.invokevirtual 93, 3) := by decide +kernel
theorem d_L_law_262 : decode code 262 = .ok (.iload 5, 2) := by decide +kernel
theorem d_L_law_264 : decode code 264 = .ok (.if_icmp .eq 5, 3) := by decide +kernel
theorem d_L_law_267 : decode code 267 = .ok (.iconst 0, 1) := by decide +kernel
theorem d_L_law_268 : decode code 268 = .ok (.ireturn, 1) := by decide +kernel
theorem d_L_law_269 : decode code 269 = .ok (.goto 976, 3) := by decide +kernel
theorem d_L_law_272 : decode code 272 = .ok (.aload_n 1, 1) := by decide +kernel
theorem d_L_law_273 : decode code 273 = .ok (.aload_n 0, 1) := by decide +kernel
theorem d_L_law_274 : decode code 274 = .ok (.iload 4, 2) := by decide +kernel
theorem d_L_law_276 : decode code 276 = .ok (.iconst 1, 1) := by decide +kernel
theorem d_L_law_277 : decode code 277 = .ok (.iadd, 1) := by decide +kernel
theorem d_L_law_278 : decode code 278 = .ok (.iaload, 1) := by decide +kernel
theorem d_L_law_279 : decode code 279 = .ok (.invokestatic 104, 3) := by decide +kernel
theorem d_L_law_282 : decode code 282 = .ok (.istore 5, 2) := by decide +kernel
theorem d_L_law_284 : decode code 284 = .ok (.aload_n 2, 1) := by decide +kernel
theorem d_L_law_285 : decode code 285 = .ok (.aload_n 0, 1) := by decide +kernel
theorem d_L_law_286 : decode code 286 = .ok (.iload 4, 2) := by decide +kernel
theorem d_L_law_288 : decode code 288 = .ok (.iconst 1, 1) := by decide +kernel
theorem d_L_law_289 : decode code 289 = .ok (.iadd, 1) := by decide +kernel
theorem d_L_law_290 : decode code 290 = .ok (.iaload, 1) := by decide +kernel
theorem d_L_law_291 : decode code 291 = .ok (.invokevirtual 106, 3) := by decide +kernel
theorem d_L_law_294 : decode code 294 = .ok (.aload_n 2, 1) := by decide +kernel
theorem d_L_law_295 : decode code 295 = .ok (.invokevirtual 93, 3) := by decide +kernel
theorem d_L_law_298 : decode code 298 = .ok (.iload 5, 2) := by decide +kernel
theorem d_L_law_300 : decode code 300 = .ok (.if_icmp .eq 5, 3) := by decide +kernel
theorem d_L_law_303 : decode code 303 = .ok (.iconst 0, 1) := by decide +kernel
theorem d_L_law_304 : decode code 304 = .ok (.ireturn, 1) := by decide +kernel
theorem d_L_law_305 : decode code 305 = .ok (.goto 940, 3) := by decide +kernel
theorem d_L_law_308 : decode code 308 = .ok (.aload_n 1, 1) := by decide +kernel
theorem d_L_law_309 : decode code 309 = .ok (.aload_n 0, 1) := by decide +kernel
theorem d_L_law_310 : decode code 310 = .ok (.iload 4, 2) := by decide +kernel
theorem d_L_law_312 : decode code 312 = .ok (.iconst 1, 1) := by decide +kernel
theorem d_L_law_313 : decode code 313 = .ok (.iadd, 1) := by decide +kernel
theorem d_L_law_314 : decode code 314 = .ok (.iaload, 1) := by decide +kernel
theorem d_L_law_315 : decode code 315 = .ok (.aload_n 0, 1) := by decide +kernel
theorem d_L_law_316 : decode code 316 = .ok (.iload 4, 2) := by decide +kernel
theorem d_L_law_318 : decode code 318 = .ok (.iconst 2, 1) := by decide +kernel
theorem d_L_law_319 : decode code 319 = .ok (.iadd, 1) := by decide +kernel
theorem d_L_law_320 : decode code 320 = .ok (.iaload, 1) := by decide +kernel
theorem d_L_law_321 : decode code 321 = .ok (.invokestatic 107, 3) := by decide +kernel
theorem d_L_law_324 : decode code 324 = .ok (.istore 5, 2) := by decide +kernel
theorem d_L_law_326 : decode code 326 = .ok (.aload_n 2, 1) := by decide +kernel
theorem d_L_law_327 : decode code 327 = .ok (.aload_n 0, 1) := by decide +kernel
theorem d_L_law_328 : decode code 328 = .ok (.iload 4, 2) := by decide +kernel
theorem d_L_law_330 : decode code 330 = .ok (.iconst 1, 1) := by decide +kernel
theorem d_L_law_331 : decode code 331 = .ok (.iadd, 1) := by decide +kernel
theorem d_L_law_332 : decode code 332 = .ok (.iaload, 1) := by decide +kernel
theorem d_L_law_333 : decode code 333 = .ok (.aload_n 0, 1) := by decide +kernel
theorem d_L_law_334 : decode code 334 = .ok (.iload 4, 2) := by decide +kernel
theorem d_L_law_336 : decode code 336 = .ok (.iconst 2, 1) := by decide +kernel
theorem d_L_law_337 : decode code 337 = .ok (.iadd, 1) := by decide +kernel
theorem d_L_law_338 : decode code 338 = .ok (.iaload, 1) := by decide +kernel
theorem d_L_law_339 : decode code 339 = .ok (.invokevirtual 110, 3) := by decide +kernel
theorem d_L_law_342 : decode code 342 = .ok (.aload_n 2, 1) := by decide +kernel
theorem d_L_law_343 : decode code 343 = .ok (.invokevirtual 93, 3) := by decide +kernel
theorem d_L_law_346 : decode code 346 = .ok (.iload 5, 2) := by decide +kernel
theorem d_L_law_348 : decode code 348 = .ok (.if_icmp .eq 5, 3) := by decide +kernel
theorem d_L_law_351 : decode code 351 = .ok (.iconst 0, 1) := by decide +kernel
theorem d_L_law_352 : decode code 352 = .ok (.ireturn, 1) := by decide +kernel
theorem d_L_law_353 : decode code 353 = .ok (.goto 892, 3) := by decide +kernel
theorem d_L_law_356 : decode code 356 = .ok (.aload_n 1, 1) := by decide +kernel
theorem d_L_law_357 : decode code 357 = .ok (.aload_n 0, 1) := by decide +kernel
theorem d_L_law_358 : decode code 358 = .ok (.iload 4, 2) := by decide +kernel
theorem d_L_law_360 : decode code 360 = .ok (.iconst 1, 1) := by decide +kernel
theorem d_L_law_361 : decode code 361 = .ok (.iadd, 1) := by decide +kernel
theorem d_L_law_362 : decode code 362 = .ok (.iaload, 1) := by decide +kernel
theorem d_L_law_363 : decode code 363 = .ok (.aload_n 0, 1) := by decide +kernel
theorem d_L_law_364 : decode code 364 = .ok (.iload 4, 2) := by decide +kernel
theorem d_L_law_366 : decode code 366 = .ok (.iconst 2, 1) := by decide +kernel
theorem d_L_law_367 : decode code 367 = .ok (.iadd, 1) := by decide +kernel
theorem d_L_law_368 : decode code 368 = .ok (.iaload, 1) := by decide +kernel
theorem d_L_law_369 : decode code 369 = .ok (.invokestatic 111, 3) := by decide +kernel
theorem d_L_law_372 : decode code 372 = .ok (.istore 5, 2) := by decide +kernel
theorem d_L_law_374 : decode code 374 = .ok (.aload_n 2, 1) := by decide +kernel
theorem d_L_law_375 : decode code 375 = .ok (.aload_n 0, 1) := by decide +kernel
theorem d_L_law_376 : decode code 376 = .ok (.iload 4, 2) := by decide +kernel
theorem d_L_law_378 : decode code 378 = .ok (.iconst 1, 1) := by decide +kernel
theorem d_L_law_379 : decode code 379 = .ok (.iadd, 1) := by decide +kernel
theorem d_L_law_380 : decode code 380 = .ok (.iaload, 1) := by decide +kernel
theorem d_L_law_381 : decode code 381 = .ok (.aload_n 0, 1) := by decide +kernel
theorem d_L_law_382 : decode code 382 = .ok (.iload 4, 2) := by decide +kernel
theorem d_L_law_384 : decode code 384 = .ok (.iconst 2, 1) := by decide +kernel
theorem d_L_law_385 : decode code 385 = .ok (.iadd, 1) := by decide +kernel
theorem d_L_law_386 : decode code 386 = .ok (.iaload, 1) := by decide +kernel
theorem d_L_law_387 : decode code 387 = .ok (.invokevirtual 113, 3) := by decide +kernel
theorem d_L_law_390 : decode code 390 = .ok (.aload_n 2, 1) := by decide +kernel
theorem d_L_law_391 : decode code 391 = .ok (.invokevirtual 93, 3) := by decide +kernel
theorem d_L_law_394 : decode code 394 = .ok (.iload 5, 2) := by decide +kernel
theorem d_L_law_396 : decode code 396 = .ok (.if_icmp .eq 5, 3) := by decide +kernel
theorem d_L_law_399 : decode code 399 = .ok (.iconst 0, 1) := by decide +kernel
theorem d_L_law_400 : decode code 400 = .ok (.ireturn, 1) := by decide +kernel
theorem d_L_law_401 : decode code 401 = .ok (.goto 844, 3) := by decide +kernel
theorem d_L_law_404 : decode code 404 = .ok (.aload_n 1, 1) := by decide +kernel
theorem d_L_law_405 : decode code 405 = .ok (.aload_n 0, 1) := by decide +kernel
theorem d_L_law_406 : decode code 406 = .ok (.iload 4, 2) := by decide +kernel
theorem d_L_law_408 : decode code 408 = .ok (.iconst 1, 1) := by decide +kernel
theorem d_L_law_409 : decode code 409 = .ok (.iadd, 1) := by decide +kernel
theorem d_L_law_410 : decode code 410 = .ok (.iaload, 1) := by decide +kernel
theorem d_L_law_411 : decode code 411 = .ok (.aload_n 3, 1) := by decide +kernel
theorem d_L_law_412 : decode code 412 = .ok (.invokestatic 114, 3) := by decide +kernel
theorem d_L_law_415 : decode code 415 = .ok (.istore 5, 2) := by decide +kernel
theorem d_L_law_417 : decode code 417 = .ok (.aload_n 2, 1) := by decide +kernel
theorem d_L_law_418 : decode code 418 = .ok (.aload_n 0, 1) := by decide +kernel
theorem d_L_law_419 : decode code 419 = .ok (.iload 4, 2) := by decide +kernel
theorem d_L_law_421 : decode code 421 = .ok (.iconst 1, 1) := by decide +kernel
theorem d_L_law_422 : decode code 422 = .ok (.iadd, 1) := by decide +kernel
theorem d_L_law_423 : decode code 423 = .ok (.iaload, 1) := by decide +kernel
theorem d_L_law_424 : decode code 424 = .ok (.invokevirtual 116, 3) := by decide +kernel
theorem d_L_law_427 : decode code 427 = .ok (.istore 6, 2) := by decide +kernel
theorem d_L_law_429 : decode code 429 = .ok (.aload_n 2, 1) := by decide +kernel
theorem d_L_law_430 : decode code 430 = .ok (.invokevirtual 93, 3) := by decide +kernel
theorem d_L_law_433 : decode code 433 = .ok (.iload 5, 2) := by decide +kernel
theorem d_L_law_435 : decode code 435 = .ok (.if_icmp .eq 5, 3) := by decide +kernel
theorem d_L_law_438 : decode code 438 = .ok (.iconst 0, 1) := by decide +kernel
theorem d_L_law_439 : decode code 439 = .ok (.ireturn, 1) := by decide +kernel
theorem d_L_law_440 : decode code 440 = .ok (.iload 5, 2) := by decide +kernel
theorem d_L_law_442 : decode code 442 = .ok (.ifCond .ne 15, 3) := by decide +kernel
theorem d_L_law_445 : decode code 445 = .ok (.aload_n 3, 1) := by decide +kernel
theorem d_L_law_446 : decode code 446 = .ok (.iconst 0, 1) := by decide +kernel
theorem d_L_law_447 : decode code 447 = .ok (.laload, 1) := by decide +kernel
theorem d_L_law_448 : decode code 448 = .ok (.iload 6, 2) := by decide +kernel
theorem d_L_law_450 : decode code 450 = .ok (.i2l, 1) := by decide +kernel
theorem d_L_law_451 : decode code 451 = .ok (.lcmp, 1) := by decide +kernel
theorem d_L_law_452 : decode code 452 = .ok (.ifCond .eq 5, 3) := by decide +kernel
theorem d_L_law_455 : decode code 455 = .ok (.iconst 0, 1) := by decide +kernel
theorem d_L_law_456 : decode code 456 = .ok (.ireturn, 1) := by decide +kernel
theorem d_L_law_457 : decode code 457 = .ok (.goto 788, 3) := by decide +kernel
theorem d_L_law_460 : decode code 460 = .ok (.aload_n 1, 1) := by decide +kernel
theorem d_L_law_461 : decode code 461 = .ok (.aload_n 0, 1) := by decide +kernel
theorem d_L_law_462 : decode code 462 = .ok (.iload 4, 2) := by decide +kernel
theorem d_L_law_464 : decode code 464 = .ok (.iconst 1, 1) := by decide +kernel
theorem d_L_law_465 : decode code 465 = .ok (.iadd, 1) := by decide +kernel
theorem d_L_law_466 : decode code 466 = .ok (.iaload, 1) := by decide +kernel
theorem d_L_law_467 : decode code 467 = .ok (.aload_n 0, 1) := by decide +kernel
theorem d_L_law_468 : decode code 468 = .ok (.iload 4, 2) := by decide +kernel
theorem d_L_law_470 : decode code 470 = .ok (.iconst 2, 1) := by decide +kernel
theorem d_L_law_471 : decode code 471 = .ok (.iadd, 1) := by decide +kernel
theorem d_L_law_472 : decode code 472 = .ok (.iaload, 1) := by decide +kernel
theorem d_L_law_473 : decode code 473 = .ok (.invokestatic 117, 3) := by decide +kernel
theorem d_L_law_476 : decode code 476 = .ok (.istore 5, 2) := by decide +kernel
theorem d_L_law_478 : decode code 478 = .ok (.aload_n 2, 1) := by decide +kernel
theorem d_L_law_479 : decode code 479 = .ok (.aload_n 0, 1) := by decide +kernel
theorem d_L_law_480 : decode code 480 = .ok (.iload 4, 2) := by decide +kernel
theorem d_L_law_482 : decode code 482 = .ok (.iconst 1, 1) := by decide +kernel
theorem d_L_law_483 : decode code 483 = .ok (.iadd, 1) := by decide +kernel
theorem d_L_law_484 : decode code 484 = .ok (.iaload, 1) := by decide +kernel
theorem d_L_law_485 : decode code 485 = .ok (.aload_n 0, 1) := by decide +kernel
theorem d_L_law_486 : decode code 486 = .ok (.iload 4, 2) := by decide +kernel
theorem d_L_law_488 : decode code 488 = .ok (.iconst 2, 1) := by decide +kernel
theorem d_L_law_489 : decode code 489 = .ok (.iadd, 1) := by decide +kernel
theorem d_L_law_490 : decode code 490 = .ok (.iaload, 1) := by decide +kernel
theorem d_L_law_491 : decode code 491 = .ok (.invokevirtual 119, 3) := by decide +kernel
theorem d_L_law_494 : decode code 494 = .ok (.aload_n 2, 1) := by decide +kernel
theorem d_L_law_495 : decode code 495 = .ok (.invokevirtual 93, 3) := by decide +kernel
theorem d_L_law_498 : decode code 498 = .ok (.iload 5, 2) := by decide +kernel
theorem d_L_law_500 : decode code 500 = .ok (.if_icmp .eq 5, 3) := by decide +kernel
theorem d_L_law_503 : decode code 503 = .ok (.iconst 0, 1) := by decide +kernel
theorem d_L_law_504 : decode code 504 = .ok (.ireturn, 1) := by decide +kernel
theorem d_L_law_505 : decode code 505 = .ok (.goto 740, 3) := by decide +kernel
theorem d_L_law_508 : decode code 508 = .ok (.aload_n 1, 1) := by decide +kernel
theorem d_L_law_509 : decode code 509 = .ok (.aload_n 0, 1) := by decide +kernel
theorem d_L_law_510 : decode code 510 = .ok (.iload 4, 2) := by decide +kernel
theorem d_L_law_512 : decode code 512 = .ok (.iconst 1, 1) := by decide +kernel
theorem d_L_law_513 : decode code 513 = .ok (.iadd, 1) := by decide +kernel
theorem d_L_law_514 : decode code 514 = .ok (.iaload, 1) := by decide +kernel
theorem d_L_law_515 : decode code 515 = .ok (.aload_n 0, 1) := by decide +kernel
theorem d_L_law_516 : decode code 516 = .ok (.iload 4, 2) := by decide +kernel
theorem d_L_law_518 : decode code 518 = .ok (.iconst 2, 1) := by decide +kernel
theorem d_L_law_519 : decode code 519 = .ok (.iadd, 1) := by decide +kernel
theorem d_L_law_520 : decode code 520 = .ok (.iaload, 1) := by decide +kernel
theorem d_L_law_521 : decode code 521 = .ok (.invokestatic 120, 3) := by decide +kernel
theorem d_L_law_524 : decode code 524 = .ok (.istore 5, 2) := by decide +kernel
theorem d_L_law_526 : decode code 526 = .ok (.aload_n 2, 1) := by decide +kernel
theorem d_L_law_527 : decode code 527 = .ok (.aload_n 0, 1) := by decide +kernel
theorem d_L_law_528 : decode code 528 = .ok (.iload 4, 2) := by decide +kernel
theorem d_L_law_530 : decode code 530 = .ok (.iconst 1, 1) := by decide +kernel
theorem d_L_law_531 : decode code 531 = .ok (.iadd, 1) := by decide +kernel
theorem d_L_law_532 : decode code 532 = .ok (.iaload, 1) := by decide +kernel
theorem d_L_law_533 : decode code 533 = .ok (.aload_n 0, 1) := by decide +kernel
theorem d_L_law_534 : decode code 534 = .ok (.iload 4, 2) := by decide +kernel
theorem d_L_law_536 : decode code 536 = .ok (.iconst 2, 1) := by decide +kernel
theorem d_L_law_537 : decode code 537 = .ok (.iadd, 1) := by decide +kernel
theorem d_L_law_538 : decode code 538 = .ok (.iaload, 1) := by decide +kernel
theorem d_L_law_539 : decode code 539 = .ok (.invokevirtual 122, 3) := by decide +kernel
theorem d_L_law_542 : decode code 542 = .ok (.aload_n 2, 1) := by decide +kernel
theorem d_L_law_543 : decode code 543 = .ok (.invokevirtual 93, 3) := by decide +kernel
theorem d_L_law_546 : decode code 546 = .ok (.iload 5, 2) := by decide +kernel
theorem d_L_law_548 : decode code 548 = .ok (.if_icmp .eq 5, 3) := by decide +kernel
theorem d_L_law_551 : decode code 551 = .ok (.iconst 0, 1) := by decide +kernel
theorem d_L_law_552 : decode code 552 = .ok (.ireturn, 1) := by decide +kernel
theorem d_L_law_553 : decode code 553 = .ok (.goto 692, 3) := by decide +kernel
theorem d_L_law_556 : decode code 556 = .ok (.aload_n 1, 1) := by decide +kernel
theorem d_L_law_557 : decode code 557 = .ok (.aload_n 0, 1) := by decide +kernel
theorem d_L_law_558 : decode code 558 = .ok (.iload 4, 2) := by decide +kernel
theorem d_L_law_560 : decode code 560 = .ok (.iconst 1, 1) := by decide +kernel
theorem d_L_law_561 : decode code 561 = .ok (.iadd, 1) := by decide +kernel
theorem d_L_law_562 : decode code 562 = .ok (.iaload, 1) := by decide +kernel
theorem d_L_law_563 : decode code 563 = .ok (.aload_n 0, 1) := by decide +kernel
theorem d_L_law_564 : decode code 564 = .ok (.iload 4, 2) := by decide +kernel
theorem d_L_law_566 : decode code 566 = .ok (.iconst 2, 1) := by decide +kernel
theorem d_L_law_567 : decode code 567 = .ok (.iadd, 1) := by decide +kernel
theorem d_L_law_568 : decode code 568 = .ok (.iaload, 1) := by decide +kernel
theorem d_L_law_569 : decode code 569 = .ok (.invokestatic 123, 3) := by decide +kernel
theorem d_L_law_572 : decode code 572 = .ok (.istore 5, 2) := by decide +kernel
theorem d_L_law_574 : decode code 574 = .ok (.aload_n 2, 1) := by decide +kernel
theorem d_L_law_575 : decode code 575 = .ok (.aload_n 0, 1) := by decide +kernel
theorem d_L_law_576 : decode code 576 = .ok (.iload 4, 2) := by decide +kernel
theorem d_L_law_578 : decode code 578 = .ok (.iconst 1, 1) := by decide +kernel
theorem d_L_law_579 : decode code 579 = .ok (.iadd, 1) := by decide +kernel
theorem d_L_law_580 : decode code 580 = .ok (.iaload, 1) := by decide +kernel
theorem d_L_law_581 : decode code 581 = .ok (.aload_n 0, 1) := by decide +kernel
theorem d_L_law_582 : decode code 582 = .ok (.iload 4, 2) := by decide +kernel
theorem d_L_law_584 : decode code 584 = .ok (.iconst 2, 1) := by decide +kernel
theorem d_L_law_585 : decode code 585 = .ok (.iadd, 1) := by decide +kernel
theorem d_L_law_586 : decode code 586 = .ok (.iaload, 1) := by decide +kernel
theorem d_L_law_587 : decode code 587 = .ok (.invokevirtual 125, 3) := by decide +kernel
theorem d_L_law_590 : decode code 590 = .ok (.aload_n 2, 1) := by decide +kernel
theorem d_L_law_591 : decode code 591 = .ok (.invokevirtual 93, 3) := by decide +kernel
theorem d_L_law_594 : decode code 594 = .ok (.iload 5, 2) := by decide +kernel
theorem d_L_law_596 : decode code 596 = .ok (.if_icmp .eq 5, 3) := by decide +kernel
theorem d_L_law_599 : decode code 599 = .ok (.iconst 0, 1) := by decide +kernel
theorem d_L_law_600 : decode code 600 = .ok (.ireturn, 1) := by decide +kernel
theorem d_L_law_601 : decode code 601 = .ok (.goto 644, 3) := by decide +kernel
theorem d_L_law_604 : decode code 604 = .ok (.aload_n 1, 1) := by decide +kernel
theorem d_L_law_605 : decode code 605 = .ok (.aload_n 0, 1) := by decide +kernel
theorem d_L_law_606 : decode code 606 = .ok (.iload 4, 2) := by decide +kernel
theorem d_L_law_608 : decode code 608 = .ok (.iconst 1, 1) := by decide +kernel
theorem d_L_law_609 : decode code 609 = .ok (.iadd, 1) := by decide +kernel
theorem d_L_law_610 : decode code 610 = .ok (.iaload, 1) := by decide +kernel
theorem d_L_law_611 : decode code 611 = .ok (.aload_n 0, 1) := by decide +kernel
theorem d_L_law_612 : decode code 612 = .ok (.iload 4, 2) := by decide +kernel
theorem d_L_law_614 : decode code 614 = .ok (.iconst 2, 1) := by decide +kernel
theorem d_L_law_615 : decode code 615 = .ok (.iadd, 1) := by decide +kernel
theorem d_L_law_616 : decode code 616 = .ok (.iaload, 1) := by decide +kernel
theorem d_L_law_617 : decode code 617 = .ok (.aload_n 3, 1) := by decide +kernel
theorem d_L_law_618 : decode code 618 = .ok (.invokestatic 126, 3) := by decide +kernel
theorem d_L_law_621 : decode code 621 = .ok (.istore 5, 2) := by decide +kernel
theorem d_L_law_623 : decode code 623 = .ok (.aload_n 2, 1) := by decide +kernel
theorem d_L_law_624 : decode code 624 = .ok (.aload_n 0, 1) := by decide +kernel
theorem d_L_law_625 : decode code 625 = .ok (.iload 4, 2) := by decide +kernel
theorem d_L_law_627 : decode code 627 = .ok (.iconst 1, 1) := by decide +kernel
theorem d_L_law_628 : decode code 628 = .ok (.iadd, 1) := by decide +kernel
theorem d_L_law_629 : decode code 629 = .ok (.iaload, 1) := by decide +kernel
theorem d_L_law_630 : decode code 630 = .ok (.aload_n 0, 1) := by decide +kernel
theorem d_L_law_631 : decode code 631 = .ok (.iload 4, 2) := by decide +kernel
theorem d_L_law_633 : decode code 633 = .ok (.iconst 2, 1) := by decide +kernel
theorem d_L_law_634 : decode code 634 = .ok (.iadd, 1) := by decide +kernel
theorem d_L_law_635 : decode code 635 = .ok (.iaload, 1) := by decide +kernel
theorem d_L_law_636 : decode code 636 = .ok (.invokevirtual 129, 3) := by decide +kernel
theorem d_L_law_639 : decode code 639 = .ok (.istore 6, 2) := by decide +kernel
theorem d_L_law_641 : decode code 641 = .ok (.aload_n 2, 1) := by decide +kernel
theorem d_L_law_642 : decode code 642 = .ok (.invokevirtual 93, 3) := by decide +kernel
theorem d_L_law_645 : decode code 645 = .ok (.iload 5, 2) := by decide +kernel
theorem d_L_law_647 : decode code 647 = .ok (.if_icmp .eq 5, 3) := by decide +kernel
theorem d_L_law_650 : decode code 650 = .ok (.iconst 0, 1) := by decide +kernel
theorem d_L_law_651 : decode code 651 = .ok (.ireturn, 1) := by decide +kernel
theorem d_L_law_652 : decode code 652 = .ok (.iload 5, 2) := by decide +kernel
theorem d_L_law_654 : decode code 654 = .ok (.ifCond .ne 15, 3) := by decide +kernel
theorem d_L_law_657 : decode code 657 = .ok (.aload_n 3, 1) := by decide +kernel
theorem d_L_law_658 : decode code 658 = .ok (.iconst 0, 1) := by decide +kernel
theorem d_L_law_659 : decode code 659 = .ok (.laload, 1) := by decide +kernel
theorem d_L_law_660 : decode code 660 = .ok (.iload 6, 2) := by decide +kernel
theorem d_L_law_662 : decode code 662 = .ok (.i2l, 1) := by decide +kernel
theorem d_L_law_663 : decode code 663 = .ok (.lcmp, 1) := by decide +kernel
theorem d_L_law_664 : decode code 664 = .ok (.ifCond .eq 5, 3) := by decide +kernel
theorem d_L_law_667 : decode code 667 = .ok (.iconst 0, 1) := by decide +kernel
theorem d_L_law_668 : decode code 668 = .ok (.ireturn, 1) := by decide +kernel
theorem d_L_law_669 : decode code 669 = .ok (.goto 576, 3) := by decide +kernel
theorem d_L_law_672 : decode code 672 = .ok (.aload_n 1, 1) := by decide +kernel
theorem d_L_law_673 : decode code 673 = .ok (.aload_n 0, 1) := by decide +kernel
theorem d_L_law_674 : decode code 674 = .ok (.iload 4, 2) := by decide +kernel
theorem d_L_law_676 : decode code 676 = .ok (.iconst 1, 1) := by decide +kernel
theorem d_L_law_677 : decode code 677 = .ok (.iadd, 1) := by decide +kernel
theorem d_L_law_678 : decode code 678 = .ok (.iaload, 1) := by decide +kernel
theorem d_L_law_679 : decode code 679 = .ok (.aload_n 0, 1) := by decide +kernel
theorem d_L_law_680 : decode code 680 = .ok (.iload 4, 2) := by decide +kernel
theorem d_L_law_682 : decode code 682 = .ok (.iconst 2, 1) := by decide +kernel
theorem d_L_law_683 : decode code 683 = .ok (.iadd, 1) := by decide +kernel
theorem d_L_law_684 : decode code 684 = .ok (.iaload, 1) := by decide +kernel
theorem d_L_law_685 : decode code 685 = .ok (.ifCond .eq 7, 3) := by decide +kernel
theorem d_L_law_688 : decode code 688 = .ok (.iconst 1, 1) := by decide +kernel
theorem d_L_law_689 : decode code 689 = .ok (.goto 4, 3) := by decide +kernel
theorem d_L_law_692 : decode code 692 = .ok (.iconst 0, 1) := by decide +kernel
theorem d_L_law_693 : decode code 693 = .ok (.invokestatic 130, 3) := by decide +kernel
theorem d_L_law_696 : decode code 696 = .ok (.istore 5, 2) := by decide +kernel
theorem d_L_law_698 : decode code 698 = .ok (.aload_n 2, 1) := by decide +kernel
theorem d_L_law_699 : decode code 699 = .ok (.aload_n 0, 1) := by decide +kernel
theorem d_L_law_700 : decode code 700 = .ok (.iload 4, 2) := by decide +kernel
theorem d_L_law_702 : decode code 702 = .ok (.iconst 1, 1) := by decide +kernel
theorem d_L_law_703 : decode code 703 = .ok (.iadd, 1) := by decide +kernel
theorem d_L_law_704 : decode code 704 = .ok (.iaload, 1) := by decide +kernel
theorem d_L_law_705 : decode code 705 = .ok (.aload_n 0, 1) := by decide +kernel
theorem d_L_law_706 : decode code 706 = .ok (.iload 4, 2) := by decide +kernel
theorem d_L_law_708 : decode code 708 = .ok (.iconst 2, 1) := by decide +kernel
theorem d_L_law_709 : decode code 709 = .ok (.iadd, 1) := by decide +kernel
theorem d_L_law_710 : decode code 710 = .ok (.iaload, 1) := by decide +kernel
theorem d_L_law_711 : decode code 711 = .ok (.ifCond .eq 7, 3) := by decide +kernel
theorem d_L_law_714 : decode code 714 = .ok (.iconst 1, 1) := by decide +kernel
theorem d_L_law_715 : decode code 715 = .ok (.goto 4, 3) := by decide +kernel
theorem d_L_law_718 : decode code 718 = .ok (.iconst 0, 1) := by decide +kernel
theorem d_L_law_719 : decode code 719 = .ok (.invokevirtual 133, 3) := by decide +kernel
theorem d_L_law_722 : decode code 722 = .ok (.aload_n 2, 1) := by decide +kernel
theorem d_L_law_723 : decode code 723 = .ok (.invokevirtual 93, 3) := by decide +kernel
theorem d_L_law_726 : decode code 726 = .ok (.iload 5, 2) := by decide +kernel
theorem d_L_law_728 : decode code 728 = .ok (.if_icmp .eq 5, 3) := by decide +kernel
theorem d_L_law_731 : decode code 731 = .ok (.iconst 0, 1) := by decide +kernel
theorem d_L_law_732 : decode code 732 = .ok (.ireturn, 1) := by decide +kernel
theorem d_L_law_733 : decode code 733 = .ok (.goto 512, 3) := by decide +kernel
theorem d_L_law_736 : decode code 736 = .ok (.aload_n 1, 1) := by decide +kernel
theorem d_L_law_737 : decode code 737 = .ok (.aload_n 0, 1) := by decide +kernel
theorem d_L_law_738 : decode code 738 = .ok (.iload 4, 2) := by decide +kernel
theorem d_L_law_740 : decode code 740 = .ok (.iconst 1, 1) := by decide +kernel
theorem d_L_law_741 : decode code 741 = .ok (.iadd, 1) := by decide +kernel
theorem d_L_law_742 : decode code 742 = .ok (.iaload, 1) := by decide +kernel
theorem d_L_law_743 : decode code 743 = .ok (.aload_n 3, 1) := by decide +kernel
theorem d_L_law_744 : decode code 744 = .ok (.invokestatic 134, 3) := by decide +kernel
theorem d_L_law_747 : decode code 747 = .ok (.istore 5, 2) := by decide +kernel
theorem d_L_law_749 : decode code 749 = .ok (.aload_n 2, 1) := by decide +kernel
theorem d_L_law_750 : decode code 750 = .ok (.aload_n 0, 1) := by decide +kernel
theorem d_L_law_751 : decode code 751 = .ok (.iload 4, 2) := by decide +kernel
theorem d_L_law_753 : decode code 753 = .ok (.iconst 1, 1) := by decide +kernel
theorem d_L_law_754 : decode code 754 = .ok (.iadd, 1) := by decide +kernel
theorem d_L_law_755 : decode code 755 = .ok (.iaload, 1) := by decide +kernel
theorem d_L_law_756 : decode code 756 = .ok (.invokevirtual 136, 3) := by decide +kernel
theorem d_L_law_759 : decode code 759 = .ok (.istore 6, 2) := by decide +kernel
theorem d_L_law_761 : decode code 761 = .ok (.aload_n 2, 1) := by decide +kernel
theorem d_L_law_762 : decode code 762 = .ok (.invokevirtual 93, 3) := by decide +kernel
theorem d_L_law_765 : decode code 765 = .ok (.iload 5, 2) := by decide +kernel
theorem d_L_law_767 : decode code 767 = .ok (.if_icmp .eq 5, 3) := by decide +kernel
theorem d_L_law_770 : decode code 770 = .ok (.iconst 0, 1) := by decide +kernel
theorem d_L_law_771 : decode code 771 = .ok (.ireturn, 1) := by decide +kernel
theorem d_L_law_772 : decode code 772 = .ok (.iload 5, 2) := by decide +kernel
theorem d_L_law_774 : decode code 774 = .ok (.ifCond .ne 15, 3) := by decide +kernel
theorem d_L_law_777 : decode code 777 = .ok (.aload_n 3, 1) := by decide +kernel
theorem d_L_law_778 : decode code 778 = .ok (.iconst 0, 1) := by decide +kernel
theorem d_L_law_779 : decode code 779 = .ok (.laload, 1) := by decide +kernel
theorem d_L_law_780 : decode code 780 = .ok (.iload 6, 2) := by decide +kernel
theorem d_L_law_782 : decode code 782 = .ok (.i2l, 1) := by decide +kernel
theorem d_L_law_783 : decode code 783 = .ok (.lcmp, 1) := by decide +kernel
theorem d_L_law_784 : decode code 784 = .ok (.ifCond .eq 5, 3) := by decide +kernel
theorem d_L_law_787 : decode code 787 = .ok (.iconst 0, 1) := by decide +kernel
theorem d_L_law_788 : decode code 788 = .ok (.ireturn, 1) := by decide +kernel
theorem d_L_law_789 : decode code 789 = .ok (.goto 456, 3) := by decide +kernel
theorem d_L_law_792 : decode code 792 = .ok (.aload_n 1, 1) := by decide +kernel
theorem d_L_law_793 : decode code 793 = .ok (.aload_n 0, 1) := by decide +kernel
theorem d_L_law_794 : decode code 794 = .ok (.iload 4, 2) := by decide +kernel
theorem d_L_law_796 : decode code 796 = .ok (.iconst 1, 1) := by decide +kernel
theorem d_L_law_797 : decode code 797 = .ok (.iadd, 1) := by decide +kernel
theorem d_L_law_798 : decode code 798 = .ok (.iaload, 1) := by decide +kernel
theorem d_L_law_799 : decode code 799 = .ok (.aload_n 3, 1) := by decide +kernel
theorem d_L_law_800 : decode code 800 = .ok (.invokestatic 137, 3) := by decide +kernel
theorem d_L_law_803 : decode code 803 = .ok (.istore 5, 2) := by decide +kernel
theorem d_L_law_805 : decode code 805 = .ok (.aload_n 2, 1) := by decide +kernel
theorem d_L_law_806 : decode code 806 = .ok (.aload_n 0, 1) := by decide +kernel
theorem d_L_law_807 : decode code 807 = .ok (.iload 4, 2) := by decide +kernel
theorem d_L_law_809 : decode code 809 = .ok (.iconst 1, 1) := by decide +kernel
theorem d_L_law_810 : decode code 810 = .ok (.iadd, 1) := by decide +kernel
theorem d_L_law_811 : decode code 811 = .ok (.iaload, 1) := by decide +kernel
theorem d_L_law_812 : decode code 812 = .ok (.invokevirtual 139, 3) := by decide +kernel
theorem d_L_law_815 : decode code 815 = .ok (.istore 6, 2) := by decide +kernel
theorem d_L_law_817 : decode code 817 = .ok (.aload_n 2, 1) := by decide +kernel
theorem d_L_law_818 : decode code 818 = .ok (.invokevirtual 93, 3) := by decide +kernel
theorem d_L_law_821 : decode code 821 = .ok (.iload 5, 2) := by decide +kernel
theorem d_L_law_823 : decode code 823 = .ok (.if_icmp .eq 5, 3) := by decide +kernel
theorem d_L_law_826 : decode code 826 = .ok (.iconst 0, 1) := by decide +kernel
theorem d_L_law_827 : decode code 827 = .ok (.ireturn, 1) := by decide +kernel
theorem d_L_law_828 : decode code 828 = .ok (.iload 5, 2) := by decide +kernel
theorem d_L_law_830 : decode code 830 = .ok (.ifCond .ne 15, 3) := by decide +kernel
theorem d_L_law_833 : decode code 833 = .ok (.aload_n 3, 1) := by decide +kernel
theorem d_L_law_834 : decode code 834 = .ok (.iconst 0, 1) := by decide +kernel
theorem d_L_law_835 : decode code 835 = .ok (.laload, 1) := by decide +kernel
theorem d_L_law_836 : decode code 836 = .ok (.iload 6, 2) := by decide +kernel
theorem d_L_law_838 : decode code 838 = .ok (.i2l, 1) := by decide +kernel
theorem d_L_law_839 : decode code 839 = .ok (.lcmp, 1) := by decide +kernel
theorem d_L_law_840 : decode code 840 = .ok (.ifCond .eq 5, 3) := by decide +kernel
theorem d_L_law_843 : decode code 843 = .ok (.iconst 0, 1) := by decide +kernel
theorem d_L_law_844 : decode code 844 = .ok (.ireturn, 1) := by decide +kernel
theorem d_L_law_845 : decode code 845 = .ok (.goto 400, 3) := by decide +kernel
theorem d_L_law_848 : decode code 848 = .ok (.aload_n 1, 1) := by decide +kernel
theorem d_L_law_849 : decode code 849 = .ok (.aload_n 0, 1) := by decide +kernel
theorem d_L_law_850 : decode code 850 = .ok (.iload 4, 2) := by decide +kernel
theorem d_L_law_852 : decode code 852 = .ok (.iconst 1, 1) := by decide +kernel
theorem d_L_law_853 : decode code 853 = .ok (.iadd, 1) := by decide +kernel
theorem d_L_law_854 : decode code 854 = .ok (.iaload, 1) := by decide +kernel
theorem d_L_law_855 : decode code 855 = .ok (.aload_n 0, 1) := by decide +kernel
theorem d_L_law_856 : decode code 856 = .ok (.iload 4, 2) := by decide +kernel
theorem d_L_law_858 : decode code 858 = .ok (.iconst 2, 1) := by decide +kernel
theorem d_L_law_859 : decode code 859 = .ok (.iadd, 1) := by decide +kernel
theorem d_L_law_860 : decode code 860 = .ok (.iaload, 1) := by decide +kernel
theorem d_L_law_861 : decode code 861 = .ok (.aload_n 3, 1) := by decide +kernel
theorem d_L_law_862 : decode code 862 = .ok (.invokestatic 140, 3) := by decide +kernel
theorem d_L_law_865 : decode code 865 = .ok (.istore 5, 2) := by decide +kernel
theorem d_L_law_867 : decode code 867 = .ok (.aload_n 2, 1) := by decide +kernel
theorem d_L_law_868 : decode code 868 = .ok (.aload_n 0, 1) := by decide +kernel
theorem d_L_law_869 : decode code 869 = .ok (.iload 4, 2) := by decide +kernel
theorem d_L_law_871 : decode code 871 = .ok (.iconst 1, 1) := by decide +kernel
theorem d_L_law_872 : decode code 872 = .ok (.iadd, 1) := by decide +kernel
theorem d_L_law_873 : decode code 873 = .ok (.iaload, 1) := by decide +kernel
theorem d_L_law_874 : decode code 874 = .ok (.aload_n 0, 1) := by decide +kernel
theorem d_L_law_875 : decode code 875 = .ok (.iload 4, 2) := by decide +kernel
theorem d_L_law_877 : decode code 877 = .ok (.iconst 2, 1) := by decide +kernel
theorem d_L_law_878 : decode code 878 = .ok (.iadd, 1) := by decide +kernel
theorem d_L_law_879 : decode code 879 = .ok (.iaload, 1) := by decide +kernel
theorem d_L_law_880 : decode code 880 = .ok (.invokevirtual 142, 3) := by decide +kernel
theorem d_L_law_883 : decode code 883 = .ok (.istore 6, 2) := by decide +kernel
theorem d_L_law_885 : decode code 885 = .ok (.aload_n 2, 1) := by decide +kernel
theorem d_L_law_886 : decode code 886 = .ok (.invokevirtual 93, 3) := by decide +kernel
theorem d_L_law_889 : decode code 889 = .ok (.iload 5, 2) := by decide +kernel
theorem d_L_law_891 : decode code 891 = .ok (.if_icmp .eq 5, 3) := by decide +kernel
theorem d_L_law_894 : decode code 894 = .ok (.iconst 0, 1) := by decide +kernel
theorem d_L_law_895 : decode code 895 = .ok (.ireturn, 1) := by decide +kernel
theorem d_L_law_896 : decode code 896 = .ok (.iload 5, 2) := by decide +kernel
theorem d_L_law_898 : decode code 898 = .ok (.ifCond .ne 15, 3) := by decide +kernel
theorem d_L_law_901 : decode code 901 = .ok (.aload_n 3, 1) := by decide +kernel
theorem d_L_law_902 : decode code 902 = .ok (.iconst 0, 1) := by decide +kernel
theorem d_L_law_903 : decode code 903 = .ok (.laload, 1) := by decide +kernel
theorem d_L_law_904 : decode code 904 = .ok (.iload 6, 2) := by decide +kernel
theorem d_L_law_906 : decode code 906 = .ok (.i2l, 1) := by decide +kernel
theorem d_L_law_907 : decode code 907 = .ok (.lcmp, 1) := by decide +kernel
theorem d_L_law_908 : decode code 908 = .ok (.ifCond .eq 5, 3) := by decide +kernel
theorem d_L_law_911 : decode code 911 = .ok (.iconst 0, 1) := by decide +kernel
theorem d_L_law_912 : decode code 912 = .ok (.ireturn, 1) := by decide +kernel
theorem d_L_law_913 : decode code 913 = .ok (.goto 332, 3) := by decide +kernel
theorem d_L_law_916 : decode code 916 = .ok (.aload_n 1, 1) := by decide +kernel
theorem d_L_law_917 : decode code 917 = .ok (.aload_n 0, 1) := by decide +kernel
theorem d_L_law_918 : decode code 918 = .ok (.iload 4, 2) := by decide +kernel
theorem d_L_law_920 : decode code 920 = .ok (.iconst 1, 1) := by decide +kernel
theorem d_L_law_921 : decode code 921 = .ok (.iadd, 1) := by decide +kernel
theorem d_L_law_922 : decode code 922 = .ok (.iaload, 1) := by decide +kernel
theorem d_L_law_923 : decode code 923 = .ok (.aload_n 0, 1) := by decide +kernel
theorem d_L_law_924 : decode code 924 = .ok (.iload 4, 2) := by decide +kernel
theorem d_L_law_926 : decode code 926 = .ok (.iconst 2, 1) := by decide +kernel
theorem d_L_law_927 : decode code 927 = .ok (.iadd, 1) := by decide +kernel
theorem d_L_law_928 : decode code 928 = .ok (.iaload, 1) := by decide +kernel
theorem d_L_law_929 : decode code 929 = .ok (.aload_n 3, 1) := by decide +kernel
theorem d_L_law_930 : decode code 930 = .ok (.invokestatic 143, 3) := by decide +kernel
theorem d_L_law_933 : decode code 933 = .ok (.istore 5, 2) := by decide +kernel
theorem d_L_law_935 : decode code 935 = .ok (.aload_n 2, 1) := by decide +kernel
theorem d_L_law_936 : decode code 936 = .ok (.aload_n 0, 1) := by decide +kernel
theorem d_L_law_937 : decode code 937 = .ok (.iload 4, 2) := by decide +kernel
theorem d_L_law_939 : decode code 939 = .ok (.iconst 1, 1) := by decide +kernel
theorem d_L_law_940 : decode code 940 = .ok (.iadd, 1) := by decide +kernel
theorem d_L_law_941 : decode code 941 = .ok (.iaload, 1) := by decide +kernel
theorem d_L_law_942 : decode code 942 = .ok (.aload_n 0, 1) := by decide +kernel
theorem d_L_law_943 : decode code 943 = .ok (.iload 4, 2) := by decide +kernel
theorem d_L_law_945 : decode code 945 = .ok (.iconst 2, 1) := by decide +kernel
theorem d_L_law_946 : decode code 946 = .ok (.iadd, 1) := by decide +kernel
theorem d_L_law_947 : decode code 947 = .ok (.iaload, 1) := by decide +kernel
theorem d_L_law_948 : decode code 948 = .ok (.invokevirtual 145, 3) := by decide +kernel
theorem d_L_law_951 : decode code 951 = .ok (.istore 6, 2) := by decide +kernel
theorem d_L_law_953 : decode code 953 = .ok (.aload_n 2, 1) := by decide +kernel
theorem d_L_law_954 : decode code 954 = .ok (.invokevirtual 93, 3) := by decide +kernel
theorem d_L_law_957 : decode code 957 = .ok (.iload 5, 2) := by decide +kernel
theorem d_L_law_959 : decode code 959 = .ok (.if_icmp .eq 5, 3) := by decide +kernel
theorem d_L_law_962 : decode code 962 = .ok (.iconst 0, 1) := by decide +kernel
theorem d_L_law_963 : decode code 963 = .ok (.ireturn, 1) := by decide +kernel
theorem d_L_law_964 : decode code 964 = .ok (.iload 5, 2) := by decide +kernel
theorem d_L_law_966 : decode code 966 = .ok (.ifCond .ne 15, 3) := by decide +kernel
theorem d_L_law_969 : decode code 969 = .ok (.aload_n 3, 1) := by decide +kernel
theorem d_L_law_970 : decode code 970 = .ok (.iconst 0, 1) := by decide +kernel
theorem d_L_law_971 : decode code 971 = .ok (.laload, 1) := by decide +kernel
theorem d_L_law_972 : decode code 972 = .ok (.iload 6, 2) := by decide +kernel
theorem d_L_law_974 : decode code 974 = .ok (.i2l, 1) := by decide +kernel
theorem d_L_law_975 : decode code 975 = .ok (.lcmp, 1) := by decide +kernel
theorem d_L_law_976 : decode code 976 = .ok (.ifCond .eq 5, 3) := by decide +kernel
theorem d_L_law_979 : decode code 979 = .ok (.iconst 0, 1) := by decide +kernel
theorem d_L_law_980 : decode code 980 = .ok (.ireturn, 1) := by decide +kernel
theorem d_L_law_981 : decode code 981 = .ok (.goto 264, 3) := by decide +kernel
theorem d_L_law_984 : decode code 984 = .ok (.aload_n 1, 1) := by decide +kernel
theorem d_L_law_985 : decode code 985 = .ok (.aload_n 0, 1) := by decide +kernel
theorem d_L_law_986 : decode code 986 = .ok (.iload 4, 2) := by decide +kernel
theorem d_L_law_988 : decode code 988 = .ok (.iconst 1, 1) := by decide +kernel
theorem d_L_law_989 : decode code 989 = .ok (.iadd, 1) := by decide +kernel
theorem d_L_law_990 : decode code 990 = .ok (.iaload, 1) := by decide +kernel
theorem d_L_law_991 : decode code 991 = .ok (.aload_n 0, 1) := by decide +kernel
theorem d_L_law_992 : decode code 992 = .ok (.iload 4, 2) := by decide +kernel
theorem d_L_law_994 : decode code 994 = .ok (.iconst 2, 1) := by decide +kernel
theorem d_L_law_995 : decode code 995 = .ok (.iadd, 1) := by decide +kernel
theorem d_L_law_996 : decode code 996 = .ok (.iaload, 1) := by decide +kernel
theorem d_L_law_997 : decode code 997 = .ok (.aload_n 3, 1) := by decide +kernel
theorem d_L_law_998 : decode code 998 = .ok (.invokestatic 146, 3) := by decide +kernel
theorem d_L_law_1001 : decode code 1001 = .ok (.istore 5, 2) := by decide +kernel
theorem d_L_law_1003 : decode code 1003 = .ok (.aload_n 2, 1) := by decide +kernel
theorem d_L_law_1004 : decode code 1004 = .ok (.aload_n 0, 1) := by decide +kernel
theorem d_L_law_1005 : decode code 1005 = .ok (.iload 4, 2) := by decide +kernel
theorem d_L_law_1007 : decode code 1007 = .ok (.iconst 1, 1) := by decide +kernel
theorem d_L_law_1008 : decode code 1008 = .ok (.iadd, 1) := by decide +kernel
theorem d_L_law_1009 : decode code 1009 = .ok (.iaload, 1) := by decide +kernel
theorem d_L_law_1010 : decode code 1010 = .ok (.aload_n 0, 1) := by decide +kernel
theorem d_L_law_1011 : decode code 1011 = .ok (.iload 4, 2) := by decide +kernel
theorem d_L_law_1013 : decode code 1013 = .ok (.iconst 2, 1) := by decide +kernel
theorem d_L_law_1014 : decode code 1014 = .ok (.iadd, 1) := by decide +kernel
theorem d_L_law_1015 : decode code 1015 = .ok (.iaload, 1) := by decide +kernel
theorem d_L_law_1016 : decode code 1016 = .ok (.invokevirtual 148, 3) := by decide +kernel
theorem d_L_law_1019 : decode code 1019 = .ok (.istore 6, 2) := by decide +kernel
theorem d_L_law_1021 : decode code 1021 = .ok (.aload_n 2, 1) := by decide +kernel
theorem d_L_law_1022 : decode code 1022 = .ok (.invokevirtual 93, 3) := by decide +kernel
theorem d_L_law_1025 : decode code 1025 = .ok (.iload 5, 2) := by decide +kernel
theorem d_L_law_1027 : decode code 1027 = .ok (.if_icmp .eq 5, 3) := by decide +kernel
theorem d_L_law_1030 : decode code 1030 = .ok (.iconst 0, 1) := by decide +kernel
theorem d_L_law_1031 : decode code 1031 = .ok (.ireturn, 1) := by decide +kernel
theorem d_L_law_1032 : decode code 1032 = .ok (.iload 5, 2) := by decide +kernel
theorem d_L_law_1034 : decode code 1034 = .ok (.ifCond .ne 15, 3) := by decide +kernel
theorem d_L_law_1037 : decode code 1037 = .ok (.aload_n 3, 1) := by decide +kernel
theorem d_L_law_1038 : decode code 1038 = .ok (.iconst 0, 1) := by decide +kernel
theorem d_L_law_1039 : decode code 1039 = .ok (.laload, 1) := by decide +kernel
theorem d_L_law_1040 : decode code 1040 = .ok (.iload 6, 2) := by decide +kernel
theorem d_L_law_1042 : decode code 1042 = .ok (.i2l, 1) := by decide +kernel
theorem d_L_law_1043 : decode code 1043 = .ok (.lcmp, 1) := by decide +kernel
theorem d_L_law_1044 : decode code 1044 = .ok (.ifCond .eq 5, 3) := by decide +kernel
theorem d_L_law_1047 : decode code 1047 = .ok (.iconst 0, 1) := by decide +kernel
theorem d_L_law_1048 : decode code 1048 = .ok (.ireturn, 1) := by decide +kernel
theorem d_L_law_1049 : decode code 1049 = .ok (.goto 196, 3) := by decide +kernel
theorem d_L_law_1052 : decode code 1052 = .ok (.aload_n 1, 1) := by decide +kernel
theorem d_L_law_1053 : decode code 1053 = .ok (.aload_n 0, 1) := by decide +kernel
theorem d_L_law_1054 : decode code 1054 = .ok (.iload 4, 2) := by decide +kernel
theorem d_L_law_1056 : decode code 1056 = .ok (.iconst 1, 1) := by decide +kernel
theorem d_L_law_1057 : decode code 1057 = .ok (.iadd, 1) := by decide +kernel
theorem d_L_law_1058 : decode code 1058 = .ok (.iaload, 1) := by decide +kernel
theorem d_L_law_1059 : decode code 1059 = .ok (.aload_n 3, 1) := by decide +kernel
theorem d_L_law_1060 : decode code 1060 = .ok (.invokestatic 149, 3) := by decide +kernel
theorem d_L_law_1063 : decode code 1063 = .ok (.istore 5, 2) := by decide +kernel
theorem d_L_law_1065 : decode code 1065 = .ok (.aload_n 2, 1) := by decide +kernel
theorem d_L_law_1066 : decode code 1066 = .ok (.aload_n 0, 1) := by decide +kernel
theorem d_L_law_1067 : decode code 1067 = .ok (.iload 4, 2) := by decide +kernel
theorem d_L_law_1069 : decode code 1069 = .ok (.iconst 1, 1) := by decide +kernel
theorem d_L_law_1070 : decode code 1070 = .ok (.iadd, 1) := by decide +kernel
theorem d_L_law_1071 : decode code 1071 = .ok (.iaload, 1) := by decide +kernel
theorem d_L_law_1072 : decode code 1072 = .ok (.invokevirtual 151, 3) := by decide +kernel
theorem d_L_law_1075 : decode code 1075 = .ok (.istore 6, 2) := by decide +kernel
theorem d_L_law_1077 : decode code 1077 = .ok (.aload_n 2, 1) := by decide +kernel
theorem d_L_law_1078 : decode code 1078 = .ok (.invokevirtual 93, 3) := by decide +kernel
theorem d_L_law_1081 : decode code 1081 = .ok (.iload 5, 2) := by decide +kernel
theorem d_L_law_1083 : decode code 1083 = .ok (.if_icmp .eq 5, 3) := by decide +kernel
theorem d_L_law_1086 : decode code 1086 = .ok (.iconst 0, 1) := by decide +kernel
theorem d_L_law_1087 : decode code 1087 = .ok (.ireturn, 1) := by decide +kernel
theorem d_L_law_1088 : decode code 1088 = .ok (.iload 5, 2) := by decide +kernel
theorem d_L_law_1090 : decode code 1090 = .ok (.ifCond .ne 15, 3) := by decide +kernel
theorem d_L_law_1093 : decode code 1093 = .ok (.aload_n 3, 1) := by decide +kernel
theorem d_L_law_1094 : decode code 1094 = .ok (.iconst 0, 1) := by decide +kernel
theorem d_L_law_1095 : decode code 1095 = .ok (.laload, 1) := by decide +kernel
theorem d_L_law_1096 : decode code 1096 = .ok (.iload 6, 2) := by decide +kernel
theorem d_L_law_1098 : decode code 1098 = .ok (.i2l, 1) := by decide +kernel
theorem d_L_law_1099 : decode code 1099 = .ok (.lcmp, 1) := by decide +kernel
theorem d_L_law_1100 : decode code 1100 = .ok (.ifCond .eq 5, 3) := by decide +kernel
theorem d_L_law_1103 : decode code 1103 = .ok (.iconst 0, 1) := by decide +kernel
theorem d_L_law_1104 : decode code 1104 = .ok (.ireturn, 1) := by decide +kernel
theorem d_L_law_1105 : decode code 1105 = .ok (.goto 140, 3) := by decide +kernel
theorem d_L_law_1108 : decode code 1108 = .ok (.aload_n 1, 1) := by decide +kernel
theorem d_L_law_1109 : decode code 1109 = .ok (.aload_n 0, 1) := by decide +kernel
theorem d_L_law_1110 : decode code 1110 = .ok (.iload 4, 2) := by decide +kernel
theorem d_L_law_1112 : decode code 1112 = .ok (.iconst 1, 1) := by decide +kernel
theorem d_L_law_1113 : decode code 1113 = .ok (.iadd, 1) := by decide +kernel
theorem d_L_law_1114 : decode code 1114 = .ok (.iaload, 1) := by decide +kernel
theorem d_L_law_1115 : decode code 1115 = .ok (.aload_n 0, 1) := by decide +kernel
theorem d_L_law_1116 : decode code 1116 = .ok (.iload 4, 2) := by decide +kernel
theorem d_L_law_1118 : decode code 1118 = .ok (.iconst 2, 1) := by decide +kernel
theorem d_L_law_1119 : decode code 1119 = .ok (.iadd, 1) := by decide +kernel
theorem d_L_law_1120 : decode code 1120 = .ok (.iaload, 1) := by decide +kernel
theorem d_L_law_1121 : decode code 1121 = .ok (.aload_n 3, 1) := by decide +kernel
theorem d_L_law_1122 : decode code 1122 = .ok (.invokestatic 152, 3) := by decide +kernel
theorem d_L_law_1125 : decode code 1125 = .ok (.istore 5, 2) := by decide +kernel
theorem d_L_law_1127 : decode code 1127 = .ok (.aload_n 2, 1) := by decide +kernel
theorem d_L_law_1128 : decode code 1128 = .ok (.aload_n 0, 1) := by decide +kernel
theorem d_L_law_1129 : decode code 1129 = .ok (.iload 4, 2) := by decide +kernel
theorem d_L_law_1131 : decode code 1131 = .ok (.iconst 1, 1) := by decide +kernel
theorem d_L_law_1132 : decode code 1132 = .ok (.iadd, 1) := by decide +kernel
theorem d_L_law_1133 : decode code 1133 = .ok (.iaload, 1) := by decide +kernel
theorem d_L_law_1134 : decode code 1134 = .ok (.aload_n 0, 1) := by decide +kernel
theorem d_L_law_1135 : decode code 1135 = .ok (.iload 4, 2) := by decide +kernel
theorem d_L_law_1137 : decode code 1137 = .ok (.iconst 2, 1) := by decide +kernel
theorem d_L_law_1138 : decode code 1138 = .ok (.iadd, 1) := by decide +kernel
theorem d_L_law_1139 : decode code 1139 = .ok (.iaload, 1) := by decide +kernel
theorem d_L_law_1140 : decode code 1140 = .ok (.invokevirtual 154, 3) := by decide +kernel
theorem d_L_law_1143 : decode code 1143 = .ok (.istore 6, 2) := by decide +kernel
theorem d_L_law_1145 : decode code 1145 = .ok (.aload_n 2, 1) := by decide +kernel
theorem d_L_law_1146 : decode code 1146 = .ok (.invokevirtual 93, 3) := by decide +kernel
theorem d_L_law_1149 : decode code 1149 = .ok (.iload 5, 2) := by decide +kernel
theorem d_L_law_1151 : decode code 1151 = .ok (.if_icmp .eq 5, 3) := by decide +kernel
theorem d_L_law_1154 : decode code 1154 = .ok (.iconst 0, 1) := by decide +kernel
theorem d_L_law_1155 : decode code 1155 = .ok (.ireturn, 1) := by decide +kernel
theorem d_L_law_1156 : decode code 1156 = .ok (.iload 5, 2) := by decide +kernel
theorem d_L_law_1158 : decode code 1158 = .ok (.ifCond .ne 15, 3) := by decide +kernel
theorem d_L_law_1161 : decode code 1161 = .ok (.aload_n 3, 1) := by decide +kernel
theorem d_L_law_1162 : decode code 1162 = .ok (.iconst 0, 1) := by decide +kernel
theorem d_L_law_1163 : decode code 1163 = .ok (.laload, 1) := by decide +kernel
theorem d_L_law_1164 : decode code 1164 = .ok (.iload 6, 2) := by decide +kernel
theorem d_L_law_1166 : decode code 1166 = .ok (.i2l, 1) := by decide +kernel
theorem d_L_law_1167 : decode code 1167 = .ok (.lcmp, 1) := by decide +kernel
theorem d_L_law_1168 : decode code 1168 = .ok (.ifCond .eq 5, 3) := by decide +kernel
theorem d_L_law_1171 : decode code 1171 = .ok (.iconst 0, 1) := by decide +kernel
theorem d_L_law_1172 : decode code 1172 = .ok (.ireturn, 1) := by decide +kernel
theorem d_L_law_1173 : decode code 1173 = .ok (.goto 72, 3) := by decide +kernel
theorem d_L_law_1176 : decode code 1176 = .ok (.aload_n 1, 1) := by decide +kernel
theorem d_L_law_1177 : decode code 1177 = .ok (.aload_n 0, 1) := by decide +kernel
theorem d_L_law_1178 : decode code 1178 = .ok (.iload 4, 2) := by decide +kernel
theorem d_L_law_1180 : decode code 1180 = .ok (.iconst 1, 1) := by decide +kernel
theorem d_L_law_1181 : decode code 1181 = .ok (.iadd, 1) := by decide +kernel
theorem d_L_law_1182 : decode code 1182 = .ok (.iaload, 1) := by decide +kernel
theorem d_L_law_1183 : decode code 1183 = .ok (.aload_n 3, 1) := by decide +kernel
theorem d_L_law_1184 : decode code 1184 = .ok (.invokestatic 155, 3) := by decide +kernel
theorem d_L_law_1187 : decode code 1187 = .ok (.istore 5, 2) := by decide +kernel
theorem d_L_law_1189 : decode code 1189 = .ok (.aload_n 2, 1) := by decide +kernel
theorem d_L_law_1190 : decode code 1190 = .ok (.aload_n 0, 1) := by decide +kernel
theorem d_L_law_1191 : decode code 1191 = .ok (.iload 4, 2) := by decide +kernel
theorem d_L_law_1193 : decode code 1193 = .ok (.iconst 1, 1) := by decide +kernel
theorem d_L_law_1194 : decode code 1194 = .ok (.iadd, 1) := by decide +kernel
theorem d_L_law_1195 : decode code 1195 = .ok (.iaload, 1) := by decide +kernel
theorem d_L_law_1196 : decode code 1196 = .ok (.invokevirtual 157, 3) := by decide +kernel
theorem d_L_law_1199 : decode code 1199 = .ok (.istore 6, 2) := by decide +kernel
theorem d_L_law_1201 : decode code 1201 = .ok (.aload_n 2, 1) := by decide +kernel
theorem d_L_law_1202 : decode code 1202 = .ok (.invokevirtual 93, 3) := by decide +kernel
theorem d_L_law_1205 : decode code 1205 = .ok (.iload 5, 2) := by decide +kernel
theorem d_L_law_1207 : decode code 1207 = .ok (.if_icmp .eq 5, 3) := by decide +kernel
theorem d_L_law_1210 : decode code 1210 = .ok (.iconst 0, 1) := by decide +kernel
theorem d_L_law_1211 : decode code 1211 = .ok (.ireturn, 1) := by decide +kernel
theorem d_L_law_1212 : decode code 1212 = .ok (.iload 5, 2) := by decide +kernel
theorem d_L_law_1214 : decode code 1214 = .ok (.ifCond .ne 15, 3) := by decide +kernel
theorem d_L_law_1217 : decode code 1217 = .ok (.aload_n 3, 1) := by decide +kernel
theorem d_L_law_1218 : decode code 1218 = .ok (.iconst 0, 1) := by decide +kernel
theorem d_L_law_1219 : decode code 1219 = .ok (.laload, 1) := by decide +kernel
theorem d_L_law_1220 : decode code 1220 = .ok (.iload 6, 2) := by decide +kernel
theorem d_L_law_1222 : decode code 1222 = .ok (.i2l, 1) := by decide +kernel
theorem d_L_law_1223 : decode code 1223 = .ok (.lcmp, 1) := by decide +kernel
theorem d_L_law_1224 : decode code 1224 = .ok (.ifCond .eq 5, 3) := by decide +kernel
theorem d_L_law_1227 : decode code 1227 = .ok (.iconst 0, 1) := by decide +kernel
theorem d_L_law_1228 : decode code 1228 = .ok (.ireturn, 1) := by decide +kernel
theorem d_L_law_1229 : decode code 1229 = .ok (.goto 16, 3) := by decide +kernel
theorem d_L_law_1232 : decode code 1232 = .ok (.aload_n 1, 1) := by decide +kernel
theorem d_L_law_1233 : decode code 1233 = .ok (.invokevirtual 158, 3) := by decide +kernel
theorem d_L_law_1236 : decode code 1236 = .ok (.aload_n 2, 1) := by decide +kernel
theorem d_L_law_1237 : decode code 1237 = .ok (.invokevirtual 161, 3) := by decide +kernel
theorem d_L_law_1240 : decode code 1240 = .ok (.if_icmp .eq 5, 3) := by decide +kernel
theorem d_L_law_1243 : decode code 1243 = .ok (.iconst 0, 1) := by decide +kernel
theorem d_L_law_1244 : decode code 1244 = .ok (.ireturn, 1) := by decide +kernel
theorem d_L_law_1245 : decode code 1245 = .ok (.iinc 4 3, 3) := by decide +kernel
theorem d_L_law_1248 : decode code 1248 = .ok (.goto (-1225), 3) := by decide +kernel
theorem d_L_law_1251 : decode code 1251 = .ok (.iconst 1, 1) := by decide +kernel
theorem d_L_law_1252 : decode code 1252 = .ok (.ireturn, 1) := by decide +kernel
end
section
/-! WHAT EACH INSTRUCTION LINKS, printed by wip/whole/names.py -/
theorem in_C_init : ct_in m_C_init := Or.inl ⟨rfl, tb_1 _ (List.mem_of_getElem? (i := 17) rfl)⟩
theorem in_A_fill : ct_in m_A_fill := Or.inl ⟨rfl, tb_1 _ (List.mem_of_getElem? (i := 23) rfl)⟩
theorem in_T_init : ct_in m_T_init := Or.inl ⟨rfl, tb_1 _ (List.mem_of_getElem? (i := 28) rfl)⟩
theorem in_R_init : ct_in m_R_init := Or.inl ⟨rfl, tb_1 _ (List.mem_of_getElem? (i := 53) rfl)⟩
theorem in_C_clock : ct_in m_C_clock := Or.inl ⟨rfl, tb_1 _ (List.mem_of_getElem? (i := 130) rfl)⟩
theorem in_L_person : ct_in m_L_person := Or.inr (tb_1 _ (List.mem_of_getElem? (i := 133) rfl))
theorem in_C_person : ct_in m_C_person := Or.inl ⟨rfl, tb_1 _ (List.mem_of_getElem? (i := 139) rfl)⟩
theorem in_L_unit : ct_in m_L_unit := Or.inr (tb_1 _ (List.mem_of_getElem? (i := 227) rfl))
theorem in_C_unit : ct_in m_C_unit := Or.inl ⟨rfl, tb_1 _ (List.mem_of_getElem? (i := 231) rfl)⟩
theorem in_L_arrive : ct_in m_L_arrive := Or.inr (tb_1 _ (List.mem_of_getElem? (i := 235) rfl))
theorem in_C_arrive : ct_in m_C_arrive := Or.inl ⟨rfl, tb_2 _ (List.mem_of_getElem? (i := 1) rfl)⟩
theorem in_C_requirePerson : ct_in m_C_requirePerson := Or.inl ⟨rfl, tb_2 _ (List.mem_of_getElem? (i := 5) rfl)⟩
theorem in_C_isThere : ct_in m_C_isThere := Or.inl ⟨rfl, tb_2 _ (List.mem_of_getElem? (i := 25) rfl)⟩
theorem in_C_comeInto : ct_in m_C_comeInto := Or.inl ⟨rfl, tb_2 _ (List.mem_of_getElem? (i := 45) rfl)⟩
theorem in_C_leaveLeadToNext : ct_in m_C_leaveLeadToNext := Or.inl ⟨rfl, tb_2 _ (List.mem_of_getElem? (i := 49) rfl)⟩
theorem in_C_nextToLead : ct_in m_C_nextToLead := Or.inl ⟨rfl, tb_2 _ (List.mem_of_getElem? (i := 53) rfl)⟩
theorem in_C_comesBefore : ct_in m_C_comesBefore := Or.inl ⟨rfl, tb_2 _ (List.mem_of_getElem? (i := 57) rfl)⟩
theorem in_C_setLeader : ct_in m_C_setLeader := Or.inl ⟨rfl, tb_2 _ (List.mem_of_getElem? (i := 61) rfl)⟩
theorem in_C_withdrawOffersTo : ct_in m_C_withdrawOffersTo := Or.inl ⟨rfl, tb_2 _ (List.mem_of_getElem? (i := 65) rfl)⟩
theorem in_C_replace : ct_in m_C_replace := Or.inl ⟨rfl, tb_2 _ (List.mem_of_getElem? (i := 68) rfl)⟩
theorem in_R_note : ct_in m_R_note := Or.inl ⟨rfl, tb_2 _ (List.mem_of_getElem? (i := 72) rfl)⟩
theorem in_R_dropOldest : ct_in m_R_dropOldest := Or.inl ⟨rfl, tb_2 _ (List.mem_of_getElem? (i := 76) rfl)⟩
theorem in_R_ringIndex : ct_in m_R_ringIndex := Or.inl ⟨rfl, tb_2 _ (List.mem_of_getElem? (i := 80) rfl)⟩
theorem in_L_leave : ct_in m_L_leave := Or.inr (tb_2 _ (List.mem_of_getElem? (i := 83) rfl))
theorem in_C_leave : ct_in m_C_leave := Or.inl ⟨rfl, tb_2 _ (List.mem_of_getElem? (i := 87) rfl)⟩
theorem in_C_requireThere : ct_in m_C_requireThere := Or.inl ⟨rfl, tb_2 _ (List.mem_of_getElem? (i := 91) rfl)⟩
theorem in_L_go : ct_in m_L_go := Or.inr (tb_2 _ (List.mem_of_getElem? (i := 95) rfl))
theorem in_C_go : ct_in m_C_go := Or.inl ⟨rfl, tb_2 _ (List.mem_of_getElem? (i := 99) rfl)⟩
theorem in_C_requireSector : ct_in m_C_requireSector := Or.inl ⟨rfl, tb_2 _ (List.mem_of_getElem? (i := 103) rfl)⟩
theorem in_C_requireOpen : ct_in m_C_requireOpen := Or.inl ⟨rfl, tb_2 _ (List.mem_of_getElem? (i := 109) rfl)⟩
theorem in_L_place : ct_in m_L_place := Or.inr (tb_2 _ (List.mem_of_getElem? (i := 113) rfl))
theorem in_C_place : ct_in m_C_place := Or.inl ⟨rfl, tb_2 _ (List.mem_of_getElem? (i := 117) rfl)⟩
theorem in_C_requireUnit : ct_in m_C_requireUnit := Or.inl ⟨rfl, tb_2 _ (List.mem_of_getElem? (i := 121) rfl)⟩
theorem in_L_split : ct_in m_L_split := Or.inr (tb_2 _ (List.mem_of_getElem? (i := 126) rfl))
theorem in_C_split : ct_in m_C_split := Or.inl ⟨rfl, tb_2 _ (List.mem_of_getElem? (i := 130) rfl)⟩
theorem in_L_join : ct_in m_L_join := Or.inr (tb_2 _ (List.mem_of_getElem? (i := 134) rfl))
theorem in_C_join : ct_in m_C_join := Or.inl ⟨rfl, tb_2 _ (List.mem_of_getElem? (i := 138) rfl)⟩
theorem in_C_isSameOrBelow : ct_in m_C_isSameOrBelow := Or.inl ⟨rfl, tb_2 _ (List.mem_of_getElem? (i := 143) rfl)⟩
theorem in_C_moveSectorsBelow : ct_in m_C_moveSectorsBelow := Or.inl ⟨rfl, tb_2 _ (List.mem_of_getElem? (i := 148) rfl)⟩
theorem in_T_giveUnanswered : ct_in m_T_giveUnanswered := Or.inl ⟨rfl, tb_2 _ (List.mem_of_getElem? (i := 152) rfl)⟩
theorem in_T_isAnswered : ct_in m_T_isAnswered := Or.inl ⟨rfl, tb_2 _ (List.mem_of_getElem? (i := 156) rfl)⟩
theorem in_L_offer : ct_in m_L_offer := Or.inr (tb_2 _ (List.mem_of_getElem? (i := 159) rfl))
theorem in_C_offer : ct_in m_C_offer := Or.inl ⟨rfl, tb_2 _ (List.mem_of_getElem? (i := 163) rfl)⟩
theorem in_L_take : ct_in m_L_take := Or.inr (tb_2 _ (List.mem_of_getElem? (i := 168) rfl))
theorem in_C_take : ct_in m_C_take := Or.inl ⟨rfl, tb_2 _ (List.mem_of_getElem? (i := 172) rfl)⟩
theorem in_L_task : ct_in m_L_task := Or.inr (tb_2 _ (List.mem_of_getElem? (i := 176) rfl))
theorem in_C_task : ct_in m_C_task := Or.inl ⟨rfl, tb_2 _ (List.mem_of_getElem? (i := 180) rfl)⟩
theorem in_T_isFull : ct_in m_T_isFull := Or.inl ⟨rfl, tb_2 _ (List.mem_of_getElem? (i := 186) rfl)⟩
theorem in_T_add : ct_in m_T_add := Or.inl ⟨rfl, tb_2 _ (List.mem_of_getElem? (i := 191) rfl)⟩
theorem in_L_answer : ct_in m_L_answer := Or.inr (tb_2 _ (List.mem_of_getElem? (i := 195) rfl))
theorem in_C_answer : ct_in m_C_answer := Or.inl ⟨rfl, tb_2 _ (List.mem_of_getElem? (i := 199) rfl)⟩
theorem in_C_requireTask : ct_in m_C_requireTask := Or.inl ⟨rfl, tb_2 _ (List.mem_of_getElem? (i := 203) rfl)⟩
theorem in_T_has : ct_in m_T_has := Or.inl ⟨rfl, tb_2 _ (List.mem_of_getElem? (i := 207) rfl)⟩
theorem in_T_setAnswer : ct_in m_T_setAnswer := Or.inl ⟨rfl, tb_2 _ (List.mem_of_getElem? (i := 214) rfl)⟩
theorem in_L_span : ct_in m_L_span := Or.inr (tb_2 _ (List.mem_of_getElem? (i := 217) rfl))
theorem in_C_span : ct_in m_C_span := Or.inl ⟨rfl, tb_2 _ (List.mem_of_getElem? (i := 221) rfl)⟩
theorem in_C_isPassed : ct_in m_C_isPassed := Or.inl ⟨rfl, tb_2 _ (List.mem_of_getElem? (i := 226) rfl)⟩
theorem in_C_countOpenBelow : ct_in m_C_countOpenBelow := Or.inl ⟨rfl, tb_2 _ (List.mem_of_getElem? (i := 230) rfl)⟩
theorem in_C_count : ct_in m_C_count := Or.inl ⟨rfl, tb_2 _ (List.mem_of_getElem? (i := 233) rfl)⟩
theorem in_L_tick : ct_in m_L_tick := Or.inr (tb_2 _ (List.mem_of_getElem? (i := 236) rfl))
theorem in_C_tick : ct_in m_C_tick := Or.inl ⟨rfl, tb_3 _ (List.mem_of_getElem? (i := 0) rfl)⟩
theorem in_T_countNewlyOverdue : ct_in m_T_countNewlyOverdue := Or.inl ⟨rfl, tb_3 _ (List.mem_of_getElem? (i := 5) rfl)⟩
theorem in_T_stateOf : ct_in m_T_stateOf := Or.inl ⟨rfl, tb_3 _ (List.mem_of_getElem? (i := 9) rfl)⟩
theorem in_L_led : ct_in m_L_led := Or.inr (tb_3 _ (List.mem_of_getElem? (i := 12) rfl))
theorem in_C_led : ct_in m_C_led := Or.inl ⟨rfl, tb_3 _ (List.mem_of_getElem? (i := 16) rfl)⟩
theorem in_R_reachBackTo : ct_in m_R_reachBackTo := Or.inl ⟨rfl, tb_3 _ (List.mem_of_getElem? (i := 21) rfl)⟩
theorem in_R_leaderBehind : ct_in m_R_leaderBehind := Or.inl ⟨rfl, tb_3 _ (List.mem_of_getElem? (i := 26) rfl)⟩
theorem in_L_sectorAt : ct_in m_L_sectorAt := Or.inr (tb_3 _ (List.mem_of_getElem? (i := 29) rfl))
theorem in_C_sectorAt : ct_in m_C_sectorAt := Or.inl ⟨rfl, tb_3 _ (List.mem_of_getElem? (i := 33) rfl)⟩
theorem in_L_personAt : ct_in m_L_personAt := Or.inr (tb_3 _ (List.mem_of_getElem? (i := 37) rfl))
theorem in_C_personAt : ct_in m_C_personAt := Or.inl ⟨rfl, tb_3 _ (List.mem_of_getElem? (i := 41) rfl)⟩
theorem in_L_unitAt : ct_in m_L_unitAt := Or.inr (tb_3 _ (List.mem_of_getElem? (i := 44) rfl))
theorem in_C_unitAt : ct_in m_C_unitAt := Or.inl ⟨rfl, tb_3 _ (List.mem_of_getElem? (i := 48) rfl)⟩
theorem in_L_taskAt : ct_in m_L_taskAt := Or.inr (tb_3 _ (List.mem_of_getElem? (i := 51) rfl))
theorem in_C_taskAt : ct_in m_C_taskAt := Or.inl ⟨rfl, tb_3 _ (List.mem_of_getElem? (i := 55) rfl)⟩
theorem in_T_sectorOf : ct_in m_T_sectorOf := Or.inl ⟨rfl, tb_3 _ (List.mem_of_getElem? (i := 59) rfl)⟩
theorem in_T_answeredAt : ct_in m_T_answeredAt := Or.inl ⟨rfl, tb_3 _ (List.mem_of_getElem? (i := 64) rfl)⟩
theorem in_L_passed : ct_in m_L_passed := Or.inr (tb_3 _ (List.mem_of_getElem? (i := 67) rfl))
theorem in_C_passed : ct_in m_C_passed := Or.inl ⟨rfl, tb_3 _ (List.mem_of_getElem? (i := 71) rfl)⟩
theorem in_M_init : ct_in m_M_init := Or.inl ⟨rfl, tb_3 _ (List.mem_of_getElem? (i := 77) rfl)⟩
theorem in_M_thrown : ct_in m_M_thrown := Or.inl ⟨rfl, tb_3 _ (List.mem_of_getElem? (i := 158) rfl)⟩
theorem in_M_person : ct_in m_M_person := Or.inl ⟨rfl, tb_3 _ (List.mem_of_getElem? (i := 162) rfl)⟩
theorem in_M_within : ct_in m_M_within := Or.inl ⟨rfl, tb_3 _ (List.mem_of_getElem? (i := 165) rfl)⟩
theorem in_M_goes : ct_in m_M_goes := Or.inl ⟨rfl, tb_3 _ (List.mem_of_getElem? (i := 169) rfl)⟩
theorem in_M_unit : ct_in m_M_unit := Or.inl ⟨rfl, tb_3 _ (List.mem_of_getElem? (i := 173) rfl)⟩
theorem in_M_arrive : ct_in m_M_arrive := Or.inl ⟨rfl, tb_3 _ (List.mem_of_getElem? (i := 177) rfl)⟩
theorem in_M_isPerson : ct_in m_M_isPerson := Or.inl ⟨rfl, tb_3 _ (List.mem_of_getElem? (i := 181) rfl)⟩
theorem in_M_moves : ct_in m_M_moves := Or.inl ⟨rfl, tb_3 _ (List.mem_of_getElem? (i := 185) rfl)⟩
theorem in_M_leads : ct_in m_M_leads := Or.inl ⟨rfl, tb_3 _ (List.mem_of_getElem? (i := 189) rfl)⟩
theorem in_M_next : ct_in m_M_next := Or.inl ⟨rfl, tb_3 _ (List.mem_of_getElem? (i := 193) rfl)⟩
theorem in_M_lead : ct_in m_M_lead := Or.inl ⟨rfl, tb_3 _ (List.mem_of_getElem? (i := 197) rfl)⟩
theorem in_M_row : ct_in m_M_row := Or.inl ⟨rfl, tb_3 _ (List.mem_of_getElem? (i := 201) rfl)⟩
theorem in_M_leave : ct_in m_M_leave := Or.inl ⟨rfl, tb_3 _ (List.mem_of_getElem? (i := 205) rfl)⟩
theorem in_M_go : ct_in m_M_go := Or.inl ⟨rfl, tb_3 _ (List.mem_of_getElem? (i := 209) rfl)⟩
theorem in_M_isSector : ct_in m_M_isSector := Or.inl ⟨rfl, tb_3 _ (List.mem_of_getElem? (i := 213) rfl)⟩
theorem in_M_isOpen : ct_in m_M_isOpen := Or.inl ⟨rfl, tb_3 _ (List.mem_of_getElem? (i := 217) rfl)⟩
theorem in_M_place : ct_in m_M_place := Or.inl ⟨rfl, tb_3 _ (List.mem_of_getElem? (i := 221) rfl)⟩
theorem in_M_isUnit : ct_in m_M_isUnit := Or.inl ⟨rfl, tb_3 _ (List.mem_of_getElem? (i := 225) rfl)⟩
theorem in_M_split : ct_in m_M_split := Or.inl ⟨rfl, tb_3 _ (List.mem_of_getElem? (i := 229) rfl)⟩
theorem in_M_join : ct_in m_M_join := Or.inl ⟨rfl, tb_3 _ (List.mem_of_getElem? (i := 233) rfl)⟩
theorem in_M_isBelow : ct_in m_M_isBelow := Or.inl ⟨rfl, tb_3 _ (List.mem_of_getElem? (i := 237) rfl)⟩
theorem in_M_offer : ct_in m_M_offer := Or.inl ⟨rfl, tb_4 _ (List.mem_of_getElem? (i := 1) rfl)⟩
theorem in_M_take : ct_in m_M_take := Or.inl ⟨rfl, tb_4 _ (List.mem_of_getElem? (i := 5) rfl)⟩
theorem in_M_task : ct_in m_M_task := Or.inl ⟨rfl, tb_4 _ (List.mem_of_getElem? (i := 9) rfl)⟩
theorem in_M_answer : ct_in m_M_answer := Or.inl ⟨rfl, tb_4 _ (List.mem_of_getElem? (i := 14) rfl)⟩
theorem in_M_span : ct_in m_M_span := Or.inl ⟨rfl, tb_4 _ (List.mem_of_getElem? (i := 18) rfl)⟩
theorem in_M_isPassed : ct_in m_M_isPassed := Or.inl ⟨rfl, tb_4 _ (List.mem_of_getElem? (i := 22) rfl)⟩
theorem in_M_below : ct_in m_M_below := Or.inl ⟨rfl, tb_4 _ (List.mem_of_getElem? (i := 26) rfl)⟩
theorem in_M_unitsIn : ct_in m_M_unitsIn := Or.inl ⟨rfl, tb_4 _ (List.mem_of_getElem? (i := 30) rfl)⟩
theorem in_M_tick : ct_in m_M_tick := Or.inl ⟨rfl, tb_4 _ (List.mem_of_getElem? (i := 34) rfl)⟩
theorem in_M_led : ct_in m_M_led := Or.inl ⟨rfl, tb_4 _ (List.mem_of_getElem? (i := 38) rfl)⟩
theorem in_M_sectorAt : ct_in m_M_sectorAt := Or.inl ⟨rfl, tb_4 _ (List.mem_of_getElem? (i := 42) rfl)⟩
theorem in_M_personAt : ct_in m_M_personAt := Or.inl ⟨rfl, tb_4 _ (List.mem_of_getElem? (i := 46) rfl)⟩
theorem in_M_unitAt : ct_in m_M_unitAt := Or.inl ⟨rfl, tb_4 _ (List.mem_of_getElem? (i := 50) rfl)⟩
theorem in_M_taskAt : ct_in m_M_taskAt := Or.inl ⟨rfl, tb_4 _ (List.mem_of_getElem? (i := 54) rfl)⟩
theorem in_M_passed : ct_in m_M_passed := Or.inl ⟨rfl, tb_4 _ (List.mem_of_getElem? (i := 58) rfl)⟩
theorem in_M_clock : ct_in m_M_clock := Or.inl ⟨rfl, tb_4 _ (List.mem_of_getElem? (i := 62) rfl)⟩
theorem oi_C_1 : Cond.methodLink "CommandTree" 1 objectInit ∈ lw_tbl := tb_1 _ (List.mem_of_getElem? (i := 18) rfl)
theorem fp_C_9 : ct_fp "CommandTree" 9 2 1 (.int) false := ⟨_, _, _, rfl, by decide, tb_1 _ (List.mem_of_getElem? (i := 79) rfl), rfl, by decide +kernel, rfl⟩
theorem fp_C_13 : ct_fp "CommandTree" 13 2 3 (.array .int) true := ⟨_, _, _, rfl, by decide, tb_1 _ (List.mem_of_getElem? (i := 81) rfl), rfl, by decide +kernel, rfl⟩
theorem fp_C_17 : ct_fp "CommandTree" 17 2 4 (.array .int) true := ⟨_, _, _, rfl, by decide, tb_1 _ (List.mem_of_getElem? (i := 82) rfl), rfl, by decide +kernel, rfl⟩
theorem fp_C_20 : ct_fp "CommandTree" 20 2 5 (.array .int) true := ⟨_, _, _, rfl, by decide, tb_1 _ (List.mem_of_getElem? (i := 83) rfl), rfl, by decide +kernel, rfl⟩
theorem fp_C_23 : ct_fp "CommandTree" 23 2 6 (.array .int) true := ⟨_, _, _, rfl, by decide, tb_1 _ (List.mem_of_getElem? (i := 84) rfl), rfl, by decide +kernel, rfl⟩
theorem fl_C_17 : ct_fl "CommandTree" 17 2 4 := ⟨_, _, _, rfl, by decide, tb_1 _ (List.mem_of_getElem? (i := 82) rfl)⟩
theorem cs_C_26 : ct_cS "CommandTree" 26 m_A_fill 2 := ⟨tb_1 _ (List.mem_of_getElem? (i := 21) rfl), tb_1 _ (List.mem_of_getElem? (i := 22) rfl), tb_1 _ (List.mem_of_getElem? (i := 2) rfl), ⟨by decide +kernel, by decide +kernel, by decide +kernel⟩, in_A_fill, by decide +kernel, by decide⟩
theorem fl_C_20 : ct_fl "CommandTree" 20 2 5 := ⟨_, _, _, rfl, by decide, tb_1 _ (List.mem_of_getElem? (i := 83) rfl)⟩
theorem fl_C_23 : ct_fl "CommandTree" 23 2 6 := ⟨_, _, _, rfl, by decide, tb_1 _ (List.mem_of_getElem? (i := 84) rfl)⟩
theorem fp_C_32 : ct_fp "CommandTree" 32 2 8 (.array .int) true := ⟨_, _, _, rfl, by decide, tb_1 _ (List.mem_of_getElem? (i := 86) rfl), rfl, by decide +kernel, rfl⟩
theorem fl_C_32 : ct_fl "CommandTree" 32 2 8 := ⟨_, _, _, rfl, by decide, tb_1 _ (List.mem_of_getElem? (i := 86) rfl)⟩
theorem fp_C_35 : ct_fp "CommandTree" 35 2 10 (.array .boolean) true := ⟨_, _, _, rfl, by decide, tb_1 _ (List.mem_of_getElem? (i := 88) rfl), rfl, by decide +kernel, rfl⟩
theorem fp_C_39 : ct_fp "CommandTree" 39 2 11 (.array .int) true := ⟨_, _, _, rfl, by decide, tb_1 _ (List.mem_of_getElem? (i := 89) rfl), rfl, by decide +kernel, rfl⟩
theorem fp_C_42 : ct_fp "CommandTree" 42 2 12 (.array .int) true := ⟨_, _, _, rfl, by decide, tb_1 _ (List.mem_of_getElem? (i := 90) rfl), rfl, by decide +kernel, rfl⟩
theorem fp_C_45 : ct_fp "CommandTree" 45 2 13 (.array .int) true := ⟨_, _, _, rfl, by decide, tb_1 _ (List.mem_of_getElem? (i := 91) rfl), rfl, by decide +kernel, rfl⟩
theorem fl_C_39 : ct_fl "CommandTree" 39 2 11 := ⟨_, _, _, rfl, by decide, tb_1 _ (List.mem_of_getElem? (i := 89) rfl)⟩
theorem fl_C_42 : ct_fl "CommandTree" 42 2 12 := ⟨_, _, _, rfl, by decide, tb_1 _ (List.mem_of_getElem? (i := 90) rfl)⟩
theorem fl_C_45 : ct_fl "CommandTree" 45 2 13 := ⟨_, _, _, rfl, by decide, tb_1 _ (List.mem_of_getElem? (i := 91) rfl)⟩
theorem fl_C_35 : ct_fl "CommandTree" 35 2 10 := ⟨_, _, _, rfl, by decide, tb_1 _ (List.mem_of_getElem? (i := 88) rfl)⟩
theorem fp_C_48 : ct_fp "CommandTree" 48 2 9 (.int) false := ⟨_, _, _, rfl, by decide, tb_1 _ (List.mem_of_getElem? (i := 87) rfl), rfl, by decide +kernel, rfl⟩
theorem cl_C_51 : Cond.classLink "CommandTree" 51 "CommandTree$TaskList" ∈ lw_tbl := tb_1 _ (List.mem_of_getElem? (i := 24) rfl)
theorem ci_C_53 : ct_cI "CommandTree" 53 m_T_init 0 := ⟨tb_1 _ (List.mem_of_getElem? (i := 26) rfl), tb_1 _ (List.mem_of_getElem? (i := 27) rfl), tb_1 _ (List.mem_of_getElem? (i := 28) rfl), ⟨by decide +kernel, by decide +kernel, by decide +kernel⟩, ⟨rfl, rfl, rfl⟩, by decide +kernel, by decide⟩
theorem fp_C_54 : ct_fp "CommandTree" 54 2 14 (.object "CommandTree$TaskList") true := ⟨_, _, _, rfl, by decide, tb_1 _ (List.mem_of_getElem? (i := 92) rfl), rfl, by decide +kernel, rfl⟩
theorem cl_C_58 : Cond.classLink "CommandTree" 58 "CommandTree$LeaderRows" ∈ lw_tbl := tb_1 _ (List.mem_of_getElem? (i := 49) rfl)
theorem ci_C_60 : ct_cI "CommandTree" 60 m_R_init 0 := ⟨tb_1 _ (List.mem_of_getElem? (i := 51) rfl), tb_1 _ (List.mem_of_getElem? (i := 52) rfl), tb_1 _ (List.mem_of_getElem? (i := 53) rfl), ⟨by decide +kernel, by decide +kernel, by decide +kernel⟩, ⟨rfl, rfl, rfl⟩, by decide +kernel, by decide⟩
theorem fp_C_61 : ct_fp "CommandTree" 61 2 15 (.object "CommandTree$LeaderRows") true := ⟨_, _, _, rfl, by decide, tb_1 _ (List.mem_of_getElem? (i := 93) rfl), rfl, by decide +kernel, rfl⟩
theorem oi_T_3 : Cond.methodLink "CommandTree$TaskList" 3 objectInit ∈ lw_tbl := tb_1 _ (List.mem_of_getElem? (i := 29) rfl)
theorem fp_T_9 : ct_fp "CommandTree$TaskList" 9 1 1 (.array .int) true := ⟨_, _, _, rfl, by decide, tb_1 _ (List.mem_of_getElem? (i := 32) rfl), rfl, by decide +kernel, rfl⟩
theorem fp_T_15 : ct_fp "CommandTree$TaskList" 15 1 2 (.array .int) true := ⟨_, _, _, rfl, by decide, tb_1 _ (List.mem_of_getElem? (i := 33) rfl), rfl, by decide +kernel, rfl⟩
theorem fp_T_18 : ct_fp "CommandTree$TaskList" 18 1 3 (.array .int) true := ⟨_, _, _, rfl, by decide, tb_1 _ (List.mem_of_getElem? (i := 34) rfl), rfl, by decide +kernel, rfl⟩
theorem fp_T_21 : ct_fp "CommandTree$TaskList" 21 1 4 (.array .int) true := ⟨_, _, _, rfl, by decide, tb_1 _ (List.mem_of_getElem? (i := 35) rfl), rfl, by decide +kernel, rfl⟩
theorem fl_T_21 : ct_fl "CommandTree$TaskList" 21 1 4 := ⟨_, _, _, rfl, by decide, tb_1 _ (List.mem_of_getElem? (i := 35) rfl)⟩
theorem cs_T_24 : ct_cS "CommandTree$TaskList" 24 m_A_fill 2 := ⟨tb_1 _ (List.mem_of_getElem? (i := 30) rfl), tb_1 _ (List.mem_of_getElem? (i := 22) rfl), tb_1 _ (List.mem_of_getElem? (i := 2) rfl), ⟨by decide +kernel, by decide +kernel, by decide +kernel⟩, in_A_fill, by decide +kernel, by decide⟩
theorem oi_R_3 : Cond.methodLink "CommandTree$LeaderRows" 3 objectInit ∈ lw_tbl := tb_1 _ (List.mem_of_getElem? (i := 54) rfl)
theorem fp_R_9 : ct_fp "CommandTree$LeaderRows" 9 0 2 (.array .int) true := ⟨_, _, _, rfl, by decide, tb_1 _ (List.mem_of_getElem? (i := 58) rfl), rfl, by decide +kernel, rfl⟩
theorem fp_R_15 : ct_fp "CommandTree$LeaderRows" 15 0 3 (.array .int) true := ⟨_, _, _, rfl, by decide, tb_1 _ (List.mem_of_getElem? (i := 59) rfl), rfl, by decide +kernel, rfl⟩
theorem fp_R_18 : ct_fp "CommandTree$LeaderRows" 18 0 4 (.array .int) true := ⟨_, _, _, rfl, by decide, tb_1 _ (List.mem_of_getElem? (i := 60) rfl), rfl, by decide +kernel, rfl⟩
theorem fp_R_21 : ct_fp "CommandTree$LeaderRows" 21 0 5 (.array .int) true := ⟨_, _, _, rfl, by decide, tb_1 _ (List.mem_of_getElem? (i := 61) rfl), rfl, by decide +kernel, rfl⟩
theorem fl_R_21 : ct_fl "CommandTree$LeaderRows" 21 0 5 := ⟨_, _, _, rfl, by decide, tb_1 _ (List.mem_of_getElem? (i := 61) rfl)⟩
theorem cs_R_24 : ct_cS "CommandTree$LeaderRows" 24 m_A_fill 2 := ⟨tb_1 _ (List.mem_of_getElem? (i := 55) rfl), tb_1 _ (List.mem_of_getElem? (i := 22) rfl), tb_1 _ (List.mem_of_getElem? (i := 2) rfl), ⟨by decide +kernel, by decide +kernel, by decide +kernel⟩, in_A_fill, by decide +kernel, by decide⟩
theorem fl_C_98 : ct_fl "CommandTree" 98 2 0 := ⟨_, _, _, rfl, by decide, tb_1 _ (List.mem_of_getElem? (i := 78) rfl)⟩
theorem cv_L_7 : ct_cV "CommandTreeLaw" 7 m_C_person 1 := ⟨tb_1 _ (List.mem_of_getElem? (i := 136) rfl), tb_1 _ (List.mem_of_getElem? (i := 137) rfl), tb_1 _ (List.mem_of_getElem? (i := 138) rfl), ⟨by decide +kernel, by decide +kernel, by decide +kernel⟩, in_C_person, by decide +kernel, by decide⟩
theorem cl_C_65 : Cond.classLink "CommandTree" 65 "java/lang/IndexOutOfBoundsException" ∈ lw_tbl := tb_1 _ (List.mem_of_getElem? (i := 140) rfl)
theorem sr_C_67 : Cond.stringRef "CommandTree" 67 "the rank is not 0 .. 9" ∈ lw_tbl := tb_1 _ (List.mem_of_getElem? (i := 182) rfl)
theorem fl_C_72 : ct_fl "CommandTree" 72 2 2 := ⟨_, _, _, rfl, by decide, tb_1 _ (List.mem_of_getElem? (i := 80) rfl)⟩
theorem cl_C_75 : Cond.classLink "CommandTree" 75 "java/lang/UnsupportedOperationException" ∈ lw_tbl := tb_1 _ (List.mem_of_getElem? (i := 209) rfl)
theorem sr_C_77 : Cond.stringRef "CommandTree" 77 "there are 40 persons" ∈ lw_tbl := tb_1 _ (List.mem_of_getElem? (i := 218) rfl)
theorem fl_C_13 : ct_fl "CommandTree" 13 2 3 := ⟨_, _, _, rfl, by decide, tb_1 _ (List.mem_of_getElem? (i := 81) rfl)⟩
theorem fp_C_72 : ct_fp "CommandTree" 72 2 2 (.int) false := ⟨_, _, _, rfl, by decide, tb_1 _ (List.mem_of_getElem? (i := 80) rfl), rfl, by decide +kernel, rfl⟩
theorem cv_L_17 : ct_cV "CommandTreeLaw" 17 m_C_unit 0 := ⟨tb_1 _ (List.mem_of_getElem? (i := 228) rfl), tb_1 _ (List.mem_of_getElem? (i := 229) rfl), tb_1 _ (List.mem_of_getElem? (i := 230) rfl), ⟨by decide +kernel, by decide +kernel, by decide +kernel⟩, in_C_unit, by decide +kernel, by decide⟩
theorem fl_C_80 : ct_fl "CommandTree" 80 2 7 := ⟨_, _, _, rfl, by decide, tb_1 _ (List.mem_of_getElem? (i := 85) rfl)⟩
theorem sr_C_83 : Cond.stringRef "CommandTree" 83 "there are 20 units" ∈ lw_tbl := tb_1 _ (List.mem_of_getElem? (i := 232) rfl)
theorem fp_C_80 : ct_fp "CommandTree" 80 2 7 (.int) false := ⟨_, _, _, rfl, by decide, tb_1 _ (List.mem_of_getElem? (i := 85) rfl), rfl, by decide +kernel, rfl⟩
theorem cv_L_21 : ct_cV "CommandTreeLaw" 21 m_C_arrive 1 := ⟨tb_1 _ (List.mem_of_getElem? (i := 238) rfl), tb_1 _ (List.mem_of_getElem? (i := 239) rfl), tb_2 _ (List.mem_of_getElem? (i := 0) rfl), ⟨by decide +kernel, by decide +kernel, by decide +kernel⟩, in_C_arrive, by decide +kernel, by decide⟩
theorem cv_C_85 : ct_cV "CommandTree" 85 m_C_requirePerson 1 := ⟨tb_2 _ (List.mem_of_getElem? (i := 2) rfl), tb_2 _ (List.mem_of_getElem? (i := 4) rfl), List.mem_append_left _ (List.mem_of_getElem? (i := 1) rfl), ⟨by decide +kernel, by decide +kernel, by decide +kernel⟩, in_C_requirePerson, by decide +kernel, by decide⟩
theorem cv_C_89 : ct_cV "CommandTree" 89 m_C_isThere 1 := ⟨tb_2 _ (List.mem_of_getElem? (i := 22) rfl), tb_2 _ (List.mem_of_getElem? (i := 24) rfl), List.mem_append_left _ (List.mem_of_getElem? (i := 2) rfl), ⟨by decide +kernel, by decide +kernel, by decide +kernel⟩, in_C_isThere, by decide +kernel, by decide⟩
theorem cl_C_93 : Cond.classLink "CommandTree" 93 "java/lang/IllegalStateException" ∈ lw_tbl := tb_2 _ (List.mem_of_getElem? (i := 26) rfl)
theorem sr_C_95 : Cond.stringRef "CommandTree" 95 "the person is there" ∈ lw_tbl := tb_2 _ (List.mem_of_getElem? (i := 35) rfl)
theorem cv_C_101 : ct_cV "CommandTree" 101 m_C_comeInto 2 := ⟨tb_2 _ (List.mem_of_getElem? (i := 42) rfl), tb_2 _ (List.mem_of_getElem? (i := 44) rfl), List.mem_append_left _ (List.mem_of_getElem? (i := 3) rfl), ⟨by decide +kernel, by decide +kernel, by decide +kernel⟩, in_C_comeInto, by decide +kernel, by decide⟩
theorem cl_C_212 : Cond.classLink "CommandTree" 212 "java/lang/IllegalArgumentException" ∈ lw_tbl := tb_2 _ (List.mem_of_getElem? (i := 6) rfl)
theorem sr_C_228 : Cond.stringRef "CommandTree" 228 "no such person" ∈ lw_tbl := tb_2 _ (List.mem_of_getElem? (i := 15) rfl)
theorem cv_C_111 : ct_cV "CommandTree" 111 m_C_leaveLeadToNext 1 := ⟨tb_2 _ (List.mem_of_getElem? (i := 46) rfl), tb_2 _ (List.mem_of_getElem? (i := 48) rfl), List.mem_append_left _ (List.mem_of_getElem? (i := 4) rfl), ⟨by decide +kernel, by decide +kernel, by decide +kernel⟩, in_C_leaveLeadToNext, by decide +kernel, by decide⟩
theorem cv_C_137 : ct_cV "CommandTree" 137 m_C_setLeader 2 := ⟨tb_2 _ (List.mem_of_getElem? (i := 58) rfl), tb_2 _ (List.mem_of_getElem? (i := 60) rfl), List.mem_append_left _ (List.mem_of_getElem? (i := 7) rfl), ⟨by decide +kernel, by decide +kernel, by decide +kernel⟩, in_C_setLeader, by decide +kernel, by decide⟩
theorem cv_C_150 : ct_cV "CommandTree" 150 m_C_nextToLead 1 := ⟨tb_2 _ (List.mem_of_getElem? (i := 50) rfl), tb_2 _ (List.mem_of_getElem? (i := 52) rfl), List.mem_append_left _ (List.mem_of_getElem? (i := 5) rfl), ⟨by decide +kernel, by decide +kernel, by decide +kernel⟩, in_C_nextToLead, by decide +kernel, by decide⟩
theorem cv_C_247 : ct_cV "CommandTree" 247 m_C_comesBefore 2 := ⟨tb_2 _ (List.mem_of_getElem? (i := 54) rfl), tb_2 _ (List.mem_of_getElem? (i := 56) rfl), List.mem_append_left _ (List.mem_of_getElem? (i := 6) rfl), ⟨by decide +kernel, by decide +kernel, by decide +kernel⟩, in_C_comesBefore, by decide +kernel, by decide⟩
theorem cv_C_108 : ct_cV "CommandTree" 108 m_C_withdrawOffersTo 1 := ⟨tb_2 _ (List.mem_of_getElem? (i := 62) rfl), tb_2 _ (List.mem_of_getElem? (i := 64) rfl), List.mem_append_left _ (List.mem_of_getElem? (i := 8) rfl), ⟨by decide +kernel, by decide +kernel, by decide +kernel⟩, in_C_withdrawOffersTo, by decide +kernel, by decide⟩
theorem fl_C_61 : ct_fl "CommandTree" 61 2 15 := ⟨_, _, _, rfl, by decide, tb_1 _ (List.mem_of_getElem? (i := 93) rfl)⟩
theorem cv_C_243 : ct_cV "CommandTree" 243 m_R_note 3 := ⟨tb_2 _ (List.mem_of_getElem? (i := 69) rfl), tb_2 _ (List.mem_of_getElem? (i := 70) rfl), tb_2 _ (List.mem_of_getElem? (i := 71) rfl), ⟨by decide +kernel, by decide +kernel, by decide +kernel⟩, in_R_note, by decide +kernel, by decide⟩
theorem fl_C_48 : ct_fl "CommandTree" 48 2 9 := ⟨_, _, _, rfl, by decide, tb_1 _ (List.mem_of_getElem? (i := 87) rfl)⟩
theorem cs_C_140 : ct_cS "CommandTree" 140 m_C_replace 4 := ⟨tb_2 _ (List.mem_of_getElem? (i := 66) rfl), tb_2 _ (List.mem_of_getElem? (i := 67) rfl), tb_1 _ (List.mem_of_getElem? (i := 1) rfl), ⟨by decide +kernel, by decide +kernel, by decide +kernel⟩, in_C_replace, by decide +kernel, by decide⟩
theorem fl_R_30 : ct_fl "CommandTree$LeaderRows" 30 0 1 := ⟨_, _, _, rfl, by decide, tb_1 _ (List.mem_of_getElem? (i := 57) rfl)⟩
theorem cv_R_34 : ct_cV "CommandTree$LeaderRows" 34 m_R_dropOldest 0 := ⟨tb_2 _ (List.mem_of_getElem? (i := 73) rfl), tb_2 _ (List.mem_of_getElem? (i := 75) rfl), List.mem_append_left _ (List.mem_of_getElem? (i := 9) rfl), ⟨by decide +kernel, by decide +kernel, by decide +kernel⟩, in_R_dropOldest, by decide +kernel, by decide⟩
theorem cv_R_37 : ct_cV "CommandTree$LeaderRows" 37 m_R_ringIndex 1 := ⟨tb_2 _ (List.mem_of_getElem? (i := 77) rfl), tb_2 _ (List.mem_of_getElem? (i := 79) rfl), List.mem_append_left _ (List.mem_of_getElem? (i := 10) rfl), ⟨by decide +kernel, by decide +kernel, by decide +kernel⟩, in_R_ringIndex, by decide +kernel, by decide⟩
theorem fl_R_9 : ct_fl "CommandTree$LeaderRows" 9 0 2 := ⟨_, _, _, rfl, by decide, tb_1 _ (List.mem_of_getElem? (i := 58) rfl)⟩
theorem fl_R_15 : ct_fl "CommandTree$LeaderRows" 15 0 3 := ⟨_, _, _, rfl, by decide, tb_1 _ (List.mem_of_getElem? (i := 59) rfl)⟩
theorem fl_R_18 : ct_fl "CommandTree$LeaderRows" 18 0 4 := ⟨_, _, _, rfl, by decide, tb_1 _ (List.mem_of_getElem? (i := 60) rfl)⟩
theorem fp_R_30 : ct_fp "CommandTree$LeaderRows" 30 0 1 (.int) false := ⟨_, _, _, rfl, by decide, tb_1 _ (List.mem_of_getElem? (i := 57) rfl), rfl, by decide +kernel, rfl⟩
theorem fl_R_41 : ct_fl "CommandTree$LeaderRows" 41 0 0 := ⟨_, _, _, rfl, by decide, tb_1 _ (List.mem_of_getElem? (i := 56) rfl)⟩
theorem fp_R_44 : ct_fp "CommandTree$LeaderRows" 44 0 6 (.int) false := ⟨_, _, _, rfl, by decide, tb_1 _ (List.mem_of_getElem? (i := 62) rfl), rfl, by decide +kernel, rfl⟩
theorem fp_R_41 : ct_fp "CommandTree$LeaderRows" 41 0 0 (.int) false := ⟨_, _, _, rfl, by decide, tb_1 _ (List.mem_of_getElem? (i := 56) rfl), rfl, by decide +kernel, rfl⟩
theorem cv_L_29 : ct_cV "CommandTreeLaw" 29 m_C_leave 1 := ⟨tb_2 _ (List.mem_of_getElem? (i := 84) rfl), tb_2 _ (List.mem_of_getElem? (i := 85) rfl), tb_2 _ (List.mem_of_getElem? (i := 86) rfl), ⟨by decide +kernel, by decide +kernel, by decide +kernel⟩, in_C_leave, by decide +kernel, by decide⟩
theorem cv_C_105 : ct_cV "CommandTree" 105 m_C_requireThere 1 := ⟨tb_2 _ (List.mem_of_getElem? (i := 88) rfl), tb_2 _ (List.mem_of_getElem? (i := 90) rfl), List.mem_append_left _ (List.mem_of_getElem? (i := 11) rfl), ⟨by decide +kernel, by decide +kernel, by decide +kernel⟩, in_C_requireThere, by decide +kernel, by decide⟩
theorem sr_C_239 : Cond.stringRef "CommandTree" 239 "the person is away" ∈ lw_tbl := tb_2 _ (List.mem_of_getElem? (i := 92) rfl)
theorem cv_L_32 : ct_cV "CommandTreeLaw" 32 m_C_go 2 := ⟨tb_2 _ (List.mem_of_getElem? (i := 96) rfl), tb_2 _ (List.mem_of_getElem? (i := 97) rfl), tb_2 _ (List.mem_of_getElem? (i := 98) rfl), ⟨by decide +kernel, by decide +kernel, by decide +kernel⟩, in_C_go, by decide +kernel, by decide⟩
theorem cv_C_114 : ct_cV "CommandTree" 114 m_C_requireSector 1 := ⟨tb_2 _ (List.mem_of_getElem? (i := 100) rfl), tb_2 _ (List.mem_of_getElem? (i := 102) rfl), List.mem_append_left _ (List.mem_of_getElem? (i := 12) rfl), ⟨by decide +kernel, by decide +kernel, by decide +kernel⟩, in_C_requireSector, by decide +kernel, by decide⟩
theorem sr_C_117 : Cond.stringRef "CommandTree" 117 "the person is in it" ∈ lw_tbl := tb_2 _ (List.mem_of_getElem? (i := 105) rfl)
theorem cv_C_119 : ct_cV "CommandTree" 119 m_C_requireOpen 1 := ⟨tb_2 _ (List.mem_of_getElem? (i := 106) rfl), tb_2 _ (List.mem_of_getElem? (i := 108) rfl), List.mem_append_left _ (List.mem_of_getElem? (i := 13) rfl), ⟨by decide +kernel, by decide +kernel, by decide +kernel⟩, in_C_requireOpen, by decide +kernel, by decide⟩
theorem sr_C_232 : Cond.stringRef "CommandTree" 232 "no such sector" ∈ lw_tbl := tb_2 _ (List.mem_of_getElem? (i := 104) rfl)
theorem sr_C_241 : Cond.stringRef "CommandTree" 241 "the sector is not open" ∈ lw_tbl := tb_2 _ (List.mem_of_getElem? (i := 110) rfl)
theorem cv_L_36 : ct_cV "CommandTreeLaw" 36 m_C_place 2 := ⟨tb_2 _ (List.mem_of_getElem? (i := 114) rfl), tb_2 _ (List.mem_of_getElem? (i := 115) rfl), tb_2 _ (List.mem_of_getElem? (i := 116) rfl), ⟨by decide +kernel, by decide +kernel, by decide +kernel⟩, in_C_place, by decide +kernel, by decide⟩
theorem cv_C_122 : ct_cV "CommandTree" 122 m_C_requireUnit 1 := ⟨tb_2 _ (List.mem_of_getElem? (i := 118) rfl), tb_2 _ (List.mem_of_getElem? (i := 120) rfl), List.mem_append_left _ (List.mem_of_getElem? (i := 14) rfl), ⟨by decide +kernel, by decide +kernel, by decide +kernel⟩, in_C_requireUnit, by decide +kernel, by decide⟩
theorem sr_C_125 : Cond.stringRef "CommandTree" 125 "it is so" ∈ lw_tbl := tb_2 _ (List.mem_of_getElem? (i := 123) rfl)
theorem sr_C_230 : Cond.stringRef "CommandTree" 230 "no such unit" ∈ lw_tbl := tb_2 _ (List.mem_of_getElem? (i := 122) rfl)
theorem cv_L_39 : ct_cV "CommandTreeLaw" 39 m_C_split 1 := ⟨tb_2 _ (List.mem_of_getElem? (i := 127) rfl), tb_2 _ (List.mem_of_getElem? (i := 128) rfl), tb_2 _ (List.mem_of_getElem? (i := 129) rfl), ⟨by decide +kernel, by decide +kernel, by decide +kernel⟩, in_C_split, by decide +kernel, by decide⟩
theorem sr_C_127 : Cond.stringRef "CommandTree" 127 "there are 20 sectors" ∈ lw_tbl := tb_2 _ (List.mem_of_getElem? (i := 131) rfl)
theorem cv_L_42 : ct_cV "CommandTreeLaw" 42 m_C_join 2 := ⟨tb_2 _ (List.mem_of_getElem? (i := 135) rfl), tb_2 _ (List.mem_of_getElem? (i := 136) rfl), tb_2 _ (List.mem_of_getElem? (i := 137) rfl), ⟨by decide +kernel, by decide +kernel, by decide +kernel⟩, in_C_join, by decide +kernel, by decide⟩
theorem sr_C_129 : Cond.stringRef "CommandTree" 129 "the whole scene is joined to none" ∈ lw_tbl := tb_2 _ (List.mem_of_getElem? (i := 139) rfl)
theorem cv_C_131 : ct_cV "CommandTree" 131 m_C_isSameOrBelow 2 := ⟨tb_2 _ (List.mem_of_getElem? (i := 140) rfl), tb_2 _ (List.mem_of_getElem? (i := 142) rfl), List.mem_append_left _ (List.mem_of_getElem? (i := 15) rfl), ⟨by decide +kernel, by decide +kernel, by decide +kernel⟩, in_C_isSameOrBelow, by decide +kernel, by decide⟩
theorem sr_C_135 : Cond.stringRef "CommandTree" 135 "the other one is this one, or below it" ∈ lw_tbl := tb_2 _ (List.mem_of_getElem? (i := 144) rfl)
theorem cv_C_144 : ct_cV "CommandTree" 144 m_C_moveSectorsBelow 2 := ⟨tb_2 _ (List.mem_of_getElem? (i := 145) rfl), tb_2 _ (List.mem_of_getElem? (i := 147) rfl), List.mem_append_left _ (List.mem_of_getElem? (i := 16) rfl), ⟨by decide +kernel, by decide +kernel, by decide +kernel⟩, in_C_moveSectorsBelow, by decide +kernel, by decide⟩
theorem fl_C_54 : ct_fl "CommandTree" 54 2 14 := ⟨_, _, _, rfl, by decide, tb_1 _ (List.mem_of_getElem? (i := 92) rfl)⟩
theorem cv_C_147 : ct_cV "CommandTree" 147 m_T_giveUnanswered 2 := ⟨tb_2 _ (List.mem_of_getElem? (i := 149) rfl), tb_2 _ (List.mem_of_getElem? (i := 150) rfl), tb_2 _ (List.mem_of_getElem? (i := 151) rfl), ⟨by decide +kernel, by decide +kernel, by decide +kernel⟩, in_T_giveUnanswered, by decide +kernel, by decide⟩
theorem fl_T_30 : ct_fl "CommandTree$TaskList" 30 1 0 := ⟨_, _, _, rfl, by decide, tb_1 _ (List.mem_of_getElem? (i := 31) rfl)⟩
theorem fl_T_9 : ct_fl "CommandTree$TaskList" 9 1 1 := ⟨_, _, _, rfl, by decide, tb_1 _ (List.mem_of_getElem? (i := 32) rfl)⟩
theorem cv_T_38 : ct_cV "CommandTree$TaskList" 38 m_T_isAnswered 1 := ⟨tb_2 _ (List.mem_of_getElem? (i := 153) rfl), tb_2 _ (List.mem_of_getElem? (i := 154) rfl), tb_2 _ (List.mem_of_getElem? (i := 155) rfl), ⟨by decide +kernel, by decide +kernel, by decide +kernel⟩, in_T_isAnswered, by decide +kernel, by decide⟩
theorem fl_T_18 : ct_fl "CommandTree$TaskList" 18 1 3 := ⟨_, _, _, rfl, by decide, tb_1 _ (List.mem_of_getElem? (i := 34) rfl)⟩
theorem cv_L_45 : ct_cV "CommandTreeLaw" 45 m_C_offer 2 := ⟨tb_2 _ (List.mem_of_getElem? (i := 160) rfl), tb_2 _ (List.mem_of_getElem? (i := 161) rfl), tb_2 _ (List.mem_of_getElem? (i := 162) rfl), ⟨by decide +kernel, by decide +kernel, by decide +kernel⟩, in_C_offer, by decide +kernel, by decide⟩
theorem sr_C_154 : Cond.stringRef "CommandTree" 154 "the sector has no leader" ∈ lw_tbl := tb_2 _ (List.mem_of_getElem? (i := 164) rfl)
theorem sr_C_156 : Cond.stringRef "CommandTree" 156 "the person leads a sector" ∈ lw_tbl := tb_2 _ (List.mem_of_getElem? (i := 165) rfl)
theorem cv_L_48 : ct_cV "CommandTreeLaw" 48 m_C_take 2 := ⟨tb_2 _ (List.mem_of_getElem? (i := 169) rfl), tb_2 _ (List.mem_of_getElem? (i := 170) rfl), tb_2 _ (List.mem_of_getElem? (i := 171) rfl), ⟨by decide +kernel, by decide +kernel, by decide +kernel⟩, in_C_take, by decide +kernel, by decide⟩
theorem sr_C_158 : Cond.stringRef "CommandTree" 158 "it is not offered to this person" ∈ lw_tbl := tb_2 _ (List.mem_of_getElem? (i := 173) rfl)
theorem cv_L_51 : ct_cV "CommandTreeLaw" 51 m_C_task 2 := ⟨tb_2 _ (List.mem_of_getElem? (i := 177) rfl), tb_2 _ (List.mem_of_getElem? (i := 178) rfl), tb_2 _ (List.mem_of_getElem? (i := 179) rfl), ⟨by decide +kernel, by decide +kernel, by decide +kernel⟩, in_C_task, by decide +kernel, by decide⟩
theorem cn_C_160 : Cond.constant "CommandTree" 160 99999 ∈ lw_tbl := tb_2 _ (List.mem_of_getElem? (i := 181) rfl)
theorem sr_C_161 : Cond.stringRef "CommandTree" 161 "until is not the present second .. 99999" ∈ lw_tbl := tb_2 _ (List.mem_of_getElem? (i := 182) rfl)
theorem cv_C_163 : ct_cV "CommandTree" 163 m_T_isFull 0 := ⟨tb_2 _ (List.mem_of_getElem? (i := 183) rfl), tb_2 _ (List.mem_of_getElem? (i := 184) rfl), tb_2 _ (List.mem_of_getElem? (i := 185) rfl), ⟨by decide +kernel, by decide +kernel, by decide +kernel⟩, in_T_isFull, by decide +kernel, by decide⟩
theorem sr_C_167 : Cond.stringRef "CommandTree" 167 "there are 60 tasks" ∈ lw_tbl := tb_2 _ (List.mem_of_getElem? (i := 187) rfl)
theorem cv_C_169 : ct_cV "CommandTree" 169 m_T_add 2 := ⟨tb_2 _ (List.mem_of_getElem? (i := 188) rfl), tb_2 _ (List.mem_of_getElem? (i := 189) rfl), tb_2 _ (List.mem_of_getElem? (i := 190) rfl), ⟨by decide +kernel, by decide +kernel, by decide +kernel⟩, in_T_add, by decide +kernel, by decide⟩
theorem cv_T_34 : ct_cV "CommandTree$TaskList" 34 m_T_isFull 0 := ⟨tb_2 _ (List.mem_of_getElem? (i := 192) rfl), tb_2 _ (List.mem_of_getElem? (i := 184) rfl), tb_2 _ (List.mem_of_getElem? (i := 185) rfl), ⟨by decide +kernel, by decide +kernel, by decide +kernel⟩, in_T_isFull, by decide +kernel, by decide⟩
theorem fl_T_15 : ct_fl "CommandTree$TaskList" 15 1 2 := ⟨_, _, _, rfl, by decide, tb_1 _ (List.mem_of_getElem? (i := 33) rfl)⟩
theorem fp_T_30 : ct_fp "CommandTree$TaskList" 30 1 0 (.int) false := ⟨_, _, _, rfl, by decide, tb_1 _ (List.mem_of_getElem? (i := 31) rfl), rfl, by decide +kernel, rfl⟩
theorem cv_L_55 : ct_cV "CommandTreeLaw" 55 m_C_answer 2 := ⟨tb_2 _ (List.mem_of_getElem? (i := 196) rfl), tb_2 _ (List.mem_of_getElem? (i := 197) rfl), tb_2 _ (List.mem_of_getElem? (i := 198) rfl), ⟨by decide +kernel, by decide +kernel, by decide +kernel⟩, in_C_answer, by decide +kernel, by decide⟩
theorem cv_C_173 : ct_cV "CommandTree" 173 m_C_requireTask 1 := ⟨tb_2 _ (List.mem_of_getElem? (i := 200) rfl), tb_2 _ (List.mem_of_getElem? (i := 202) rfl), List.mem_append_left _ (List.mem_of_getElem? (i := 17) rfl), ⟨by decide +kernel, by decide +kernel, by decide +kernel⟩, in_C_requireTask, by decide +kernel, by decide⟩
theorem cv_C_176 : ct_cV "CommandTree" 176 m_T_isAnswered 1 := ⟨tb_2 _ (List.mem_of_getElem? (i := 209) rfl), tb_2 _ (List.mem_of_getElem? (i := 154) rfl), tb_2 _ (List.mem_of_getElem? (i := 155) rfl), ⟨by decide +kernel, by decide +kernel, by decide +kernel⟩, in_T_isAnswered, by decide +kernel, by decide⟩
theorem sr_C_179 : Cond.stringRef "CommandTree" 179 "the task was answered" ∈ lw_tbl := tb_2 _ (List.mem_of_getElem? (i := 210) rfl)
theorem cv_C_181 : ct_cV "CommandTree" 181 m_T_setAnswer 3 := ⟨tb_2 _ (List.mem_of_getElem? (i := 211) rfl), tb_2 _ (List.mem_of_getElem? (i := 212) rfl), tb_2 _ (List.mem_of_getElem? (i := 213) rfl), ⟨by decide +kernel, by decide +kernel, by decide +kernel⟩, in_T_setAnswer, by decide +kernel, by decide⟩
theorem cv_C_234 : ct_cV "CommandTree" 234 m_T_has 1 := ⟨tb_2 _ (List.mem_of_getElem? (i := 204) rfl), tb_2 _ (List.mem_of_getElem? (i := 205) rfl), tb_2 _ (List.mem_of_getElem? (i := 206) rfl), ⟨by decide +kernel, by decide +kernel, by decide +kernel⟩, in_T_has, by decide +kernel, by decide⟩
theorem sr_C_237 : Cond.stringRef "CommandTree" 237 "no such task" ∈ lw_tbl := tb_2 _ (List.mem_of_getElem? (i := 208) rfl)
theorem cv_L_59 : ct_cV "CommandTreeLaw" 59 m_C_span 1 := ⟨tb_2 _ (List.mem_of_getElem? (i := 218) rfl), tb_2 _ (List.mem_of_getElem? (i := 219) rfl), tb_2 _ (List.mem_of_getElem? (i := 220) rfl), ⟨by decide +kernel, by decide +kernel, by decide +kernel⟩, in_C_span, by decide +kernel, by decide⟩
theorem sr_C_185 : Cond.stringRef "CommandTree" 185 "the span is not 1 .. 20" ∈ lw_tbl := tb_2 _ (List.mem_of_getElem? (i := 222) rfl)
theorem cv_C_187 : ct_cV "CommandTree" 187 m_C_isPassed 1 := ⟨tb_2 _ (List.mem_of_getElem? (i := 223) rfl), tb_2 _ (List.mem_of_getElem? (i := 225) rfl), List.mem_append_left _ (List.mem_of_getElem? (i := 18) rfl), ⟨by decide +kernel, by decide +kernel, by decide +kernel⟩, in_C_isPassed, by decide +kernel, by decide⟩
theorem cv_C_209 : ct_cV "CommandTree" 209 m_C_countOpenBelow 1 := ⟨tb_2 _ (List.mem_of_getElem? (i := 227) rfl), tb_2 _ (List.mem_of_getElem? (i := 229) rfl), List.mem_append_left _ (List.mem_of_getElem? (i := 19) rfl), ⟨by decide +kernel, by decide +kernel, by decide +kernel⟩, in_C_countOpenBelow, by decide +kernel, by decide⟩
theorem cs_C_205 : ct_cS "CommandTree" 205 m_C_count 3 := ⟨tb_2 _ (List.mem_of_getElem? (i := 231) rfl), tb_2 _ (List.mem_of_getElem? (i := 232) rfl), tb_1 _ (List.mem_of_getElem? (i := 1) rfl), ⟨by decide +kernel, by decide +kernel, by decide +kernel⟩, in_C_count, by decide +kernel, by decide⟩
theorem fl_C_9 : ct_fl "CommandTree" 9 2 1 := ⟨_, _, _, rfl, by decide, tb_1 _ (List.mem_of_getElem? (i := 79) rfl)⟩
theorem cv_L_62 : ct_cV "CommandTreeLaw" 62 m_C_tick 1 := ⟨tb_2 _ (List.mem_of_getElem? (i := 237) rfl), tb_2 _ (List.mem_of_getElem? (i := 238) rfl), tb_2 _ (List.mem_of_getElem? (i := 239) rfl), ⟨by decide +kernel, by decide +kernel, by decide +kernel⟩, in_C_tick, by decide +kernel, by decide⟩
theorem sr_C_190 : Cond.stringRef "CommandTree" 190 "not 1 .. 5000 seconds, or beyond 99999" ∈ lw_tbl := tb_3 _ (List.mem_of_getElem? (i := 1) rfl)
theorem fp_C_98 : ct_fp "CommandTree" 98 2 0 (.int) false := ⟨_, _, _, rfl, by decide, tb_1 _ (List.mem_of_getElem? (i := 78) rfl), rfl, by decide +kernel, rfl⟩
theorem cv_C_192 : ct_cV "CommandTree" 192 m_T_countNewlyOverdue 2 := ⟨tb_3 _ (List.mem_of_getElem? (i := 2) rfl), tb_3 _ (List.mem_of_getElem? (i := 3) rfl), tb_3 _ (List.mem_of_getElem? (i := 4) rfl), ⟨by decide +kernel, by decide +kernel, by decide +kernel⟩, in_T_countNewlyOverdue, by decide +kernel, by decide⟩
theorem cv_T_42 : ct_cV "CommandTree$TaskList" 42 m_T_stateOf 2 := ⟨tb_3 _ (List.mem_of_getElem? (i := 6) rfl), tb_3 _ (List.mem_of_getElem? (i := 7) rfl), tb_3 _ (List.mem_of_getElem? (i := 8) rfl), ⟨by decide +kernel, by decide +kernel, by decide +kernel⟩, in_T_stateOf, by decide +kernel, by decide⟩
theorem cv_L_65 : ct_cV "CommandTreeLaw" 65 m_C_led 2 := ⟨tb_3 _ (List.mem_of_getElem? (i := 13) rfl), tb_3 _ (List.mem_of_getElem? (i := 14) rfl), tb_3 _ (List.mem_of_getElem? (i := 15) rfl), ⟨by decide +kernel, by decide +kernel, by decide +kernel⟩, in_C_led, by decide +kernel, by decide⟩
theorem sr_C_195 : Cond.stringRef "CommandTree" 195 "the second is below 0, or to come" ∈ lw_tbl := tb_3 _ (List.mem_of_getElem? (i := 17) rfl)
theorem cv_C_197 : ct_cV "CommandTree" 197 m_R_reachBackTo 1 := ⟨tb_3 _ (List.mem_of_getElem? (i := 18) rfl), tb_3 _ (List.mem_of_getElem? (i := 19) rfl), tb_3 _ (List.mem_of_getElem? (i := 20) rfl), ⟨by decide +kernel, by decide +kernel, by decide +kernel⟩, in_R_reachBackTo, by decide +kernel, by decide⟩
theorem sr_C_200 : Cond.stringRef "CommandTree" 200 "the rows of that second are not kept any more" ∈ lw_tbl := tb_3 _ (List.mem_of_getElem? (i := 22) rfl)
theorem cv_C_202 : ct_cV "CommandTree" 202 m_R_leaderBehind 2 := ⟨tb_3 _ (List.mem_of_getElem? (i := 23) rfl), tb_3 _ (List.mem_of_getElem? (i := 24) rfl), tb_3 _ (List.mem_of_getElem? (i := 25) rfl), ⟨by decide +kernel, by decide +kernel, by decide +kernel⟩, in_R_leaderBehind, by decide +kernel, by decide⟩
theorem fl_R_44 : ct_fl "CommandTree$LeaderRows" 44 0 6 := ⟨_, _, _, rfl, by decide, tb_1 _ (List.mem_of_getElem? (i := 62) rfl)⟩
theorem cv_L_68 : ct_cV "CommandTreeLaw" 68 m_C_sectorAt 2 := ⟨tb_3 _ (List.mem_of_getElem? (i := 30) rfl), tb_3 _ (List.mem_of_getElem? (i := 31) rfl), tb_3 _ (List.mem_of_getElem? (i := 32) rfl), ⟨by decide +kernel, by decide +kernel, by decide +kernel⟩, in_C_sectorAt, by decide +kernel, by decide⟩
theorem sr_C_214 : Cond.stringRef "CommandTree" 214 "no such what" ∈ lw_tbl := tb_3 _ (List.mem_of_getElem? (i := 34) rfl)
theorem cv_L_71 : ct_cV "CommandTreeLaw" 71 m_C_personAt 2 := ⟨tb_3 _ (List.mem_of_getElem? (i := 38) rfl), tb_3 _ (List.mem_of_getElem? (i := 39) rfl), tb_3 _ (List.mem_of_getElem? (i := 40) rfl), ⟨by decide +kernel, by decide +kernel, by decide +kernel⟩, in_C_personAt, by decide +kernel, by decide⟩
theorem cv_L_74 : ct_cV "CommandTreeLaw" 74 m_C_unitAt 1 := ⟨tb_3 _ (List.mem_of_getElem? (i := 45) rfl), tb_3 _ (List.mem_of_getElem? (i := 46) rfl), tb_3 _ (List.mem_of_getElem? (i := 47) rfl), ⟨by decide +kernel, by decide +kernel, by decide +kernel⟩, in_C_unitAt, by decide +kernel, by decide⟩
theorem cv_L_77 : ct_cV "CommandTreeLaw" 77 m_C_taskAt 2 := ⟨tb_3 _ (List.mem_of_getElem? (i := 52) rfl), tb_3 _ (List.mem_of_getElem? (i := 53) rfl), tb_3 _ (List.mem_of_getElem? (i := 54) rfl), ⟨by decide +kernel, by decide +kernel, by decide +kernel⟩, in_C_taskAt, by decide +kernel, by decide⟩
theorem cv_C_217 : ct_cV "CommandTree" 217 m_T_sectorOf 1 := ⟨tb_3 _ (List.mem_of_getElem? (i := 56) rfl), tb_3 _ (List.mem_of_getElem? (i := 57) rfl), tb_3 _ (List.mem_of_getElem? (i := 58) rfl), ⟨by decide +kernel, by decide +kernel, by decide +kernel⟩, in_T_sectorOf, by decide +kernel, by decide⟩
theorem cv_C_220 : ct_cV "CommandTree" 220 m_T_stateOf 2 := ⟨tb_3 _ (List.mem_of_getElem? (i := 60) rfl), tb_3 _ (List.mem_of_getElem? (i := 7) rfl), tb_3 _ (List.mem_of_getElem? (i := 8) rfl), ⟨by decide +kernel, by decide +kernel, by decide +kernel⟩, in_T_stateOf, by decide +kernel, by decide⟩
theorem cv_C_223 : ct_cV "CommandTree" 223 m_T_answeredAt 1 := ⟨tb_3 _ (List.mem_of_getElem? (i := 61) rfl), tb_3 _ (List.mem_of_getElem? (i := 62) rfl), tb_3 _ (List.mem_of_getElem? (i := 63) rfl), ⟨by decide +kernel, by decide +kernel, by decide +kernel⟩, in_T_answeredAt, by decide +kernel, by decide⟩
theorem cv_L_80 : ct_cV "CommandTreeLaw" 80 m_C_passed 1 := ⟨tb_3 _ (List.mem_of_getElem? (i := 68) rfl), tb_3 _ (List.mem_of_getElem? (i := 69) rfl), tb_3 _ (List.mem_of_getElem? (i := 70) rfl), ⟨by decide +kernel, by decide +kernel, by decide +kernel⟩, in_C_passed, by decide +kernel, by decide⟩
theorem sr_C_226 : Cond.stringRef "CommandTree" 226 "i is below 0" ∈ lw_tbl := tb_3 _ (List.mem_of_getElem? (i := 72) rfl)
theorem oi_M_1 : Cond.methodLink "CommandTreeModel" 1 objectInit ∈ lw_tbl := tb_3 _ (List.mem_of_getElem? (i := 78) rfl)
theorem fp_M_7 : ct_fp "CommandTreeModel" 7 3 3 (.array .int) true := ⟨_, _, _, rfl, by decide, tb_3 _ (List.mem_of_getElem? (i := 82) rfl), rfl, by decide +kernel, rfl⟩
theorem fp_M_13 : ct_fp "CommandTreeModel" 13 3 4 (.array .int) true := ⟨_, _, _, rfl, by decide, tb_3 _ (List.mem_of_getElem? (i := 83) rfl), rfl, by decide +kernel, rfl⟩
theorem fp_M_16 : ct_fp "CommandTreeModel" 16 3 5 (.array .int) true := ⟨_, _, _, rfl, by decide, tb_3 _ (List.mem_of_getElem? (i := 84) rfl), rfl, by decide +kernel, rfl⟩
theorem fp_M_19 : ct_fp "CommandTreeModel" 19 3 7 (.array .int) true := ⟨_, _, _, rfl, by decide, tb_3 _ (List.mem_of_getElem? (i := 86) rfl), rfl, by decide +kernel, rfl⟩
theorem fp_M_22 : ct_fp "CommandTreeModel" 22 3 8 (.int) false := ⟨_, _, _, rfl, by decide, tb_3 _ (List.mem_of_getElem? (i := 87) rfl), rfl, by decide +kernel, rfl⟩
theorem fp_M_26 : ct_fp "CommandTreeModel" 26 3 9 (.array .boolean) true := ⟨_, _, _, rfl, by decide, tb_3 _ (List.mem_of_getElem? (i := 88) rfl), rfl, by decide +kernel, rfl⟩
theorem fp_M_30 : ct_fp "CommandTreeModel" 30 3 10 (.array .int) true := ⟨_, _, _, rfl, by decide, tb_3 _ (List.mem_of_getElem? (i := 89) rfl), rfl, by decide +kernel, rfl⟩
theorem fp_M_33 : ct_fp "CommandTreeModel" 33 3 11 (.array .int) true := ⟨_, _, _, rfl, by decide, tb_3 _ (List.mem_of_getElem? (i := 90) rfl), rfl, by decide +kernel, rfl⟩
theorem fp_M_36 : ct_fp "CommandTreeModel" 36 3 12 (.array .int) true := ⟨_, _, _, rfl, by decide, tb_3 _ (List.mem_of_getElem? (i := 91) rfl), rfl, by decide +kernel, rfl⟩
theorem fp_M_39 : ct_fp "CommandTreeModel" 39 3 13 (.int) false := ⟨_, _, _, rfl, by decide, tb_3 _ (List.mem_of_getElem? (i := 92) rfl), rfl, by decide +kernel, rfl⟩
theorem fp_M_42 : ct_fp "CommandTreeModel" 42 3 15 (.array .int) true := ⟨_, _, _, rfl, by decide, tb_3 _ (List.mem_of_getElem? (i := 94) rfl), rfl, by decide +kernel, rfl⟩
theorem fp_M_45 : ct_fp "CommandTreeModel" 45 3 16 (.array .int) true := ⟨_, _, _, rfl, by decide, tb_3 _ (List.mem_of_getElem? (i := 95) rfl), rfl, by decide +kernel, rfl⟩
theorem fp_M_48 : ct_fp "CommandTreeModel" 48 3 17 (.array .int) true := ⟨_, _, _, rfl, by decide, tb_3 _ (List.mem_of_getElem? (i := 96) rfl), rfl, by decide +kernel, rfl⟩
theorem fp_M_51 : ct_fp "CommandTreeModel" 51 3 18 (.array .int) true := ⟨_, _, _, rfl, by decide, tb_3 _ (List.mem_of_getElem? (i := 97) rfl), rfl, by decide +kernel, rfl⟩
theorem fp_M_54 : ct_fp "CommandTreeModel" 54 3 20 (.array .int) true := ⟨_, _, _, rfl, by decide, tb_3 _ (List.mem_of_getElem? (i := 99) rfl), rfl, by decide +kernel, rfl⟩
theorem fp_M_57 : ct_fp "CommandTreeModel" 57 3 21 (.array .int) true := ⟨_, _, _, rfl, by decide, tb_3 _ (List.mem_of_getElem? (i := 100) rfl), rfl, by decide +kernel, rfl⟩
theorem fp_M_60 : ct_fp "CommandTreeModel" 60 3 22 (.array .int) true := ⟨_, _, _, rfl, by decide, tb_3 _ (List.mem_of_getElem? (i := 101) rfl), rfl, by decide +kernel, rfl⟩
theorem fp_M_63 : ct_fp "CommandTreeModel" 63 3 23 (.array .int) true := ⟨_, _, _, rfl, by decide, tb_3 _ (List.mem_of_getElem? (i := 102) rfl), rfl, by decide +kernel, rfl⟩
theorem fp_M_66 : ct_fp "CommandTreeModel" 66 3 24 (.int) false := ⟨_, _, _, rfl, by decide, tb_3 _ (List.mem_of_getElem? (i := 103) rfl), rfl, by decide +kernel, rfl⟩
theorem fl_M_30 : ct_fl "CommandTreeModel" 30 3 10 := ⟨_, _, _, rfl, by decide, tb_3 _ (List.mem_of_getElem? (i := 89) rfl)⟩
theorem fl_M_33 : ct_fl "CommandTreeModel" 33 3 11 := ⟨_, _, _, rfl, by decide, tb_3 _ (List.mem_of_getElem? (i := 90) rfl)⟩
theorem fl_M_36 : ct_fl "CommandTreeModel" 36 3 12 := ⟨_, _, _, rfl, by decide, tb_3 _ (List.mem_of_getElem? (i := 91) rfl)⟩
theorem fl_M_63 : ct_fl "CommandTreeModel" 63 3 23 := ⟨_, _, _, rfl, by decide, tb_3 _ (List.mem_of_getElem? (i := 102) rfl)⟩
theorem fl_M_69 : ct_fl "CommandTreeModel" 69 3 0 := ⟨_, _, _, rfl, by decide, tb_3 _ (List.mem_of_getElem? (i := 79) rfl)⟩
theorem cs_M_75 : ct_cS "CommandTreeModel" 75 m_M_within 3 := ⟨tb_3 _ (List.mem_of_getElem? (i := 163) rfl), tb_3 _ (List.mem_of_getElem? (i := 164) rfl), tb_1 _ (List.mem_of_getElem? (i := 5) rfl), ⟨by decide +kernel, by decide +kernel, by decide +kernel⟩, in_M_within, by decide +kernel, by decide⟩
theorem fl_M_72 : ct_fl "CommandTreeModel" 72 3 2 := ⟨_, _, _, rfl, by decide, tb_3 _ (List.mem_of_getElem? (i := 81) rfl)⟩
theorem cv_M_106 : ct_cV "CommandTreeModel" 106 m_M_goes 5 := ⟨tb_3 _ (List.mem_of_getElem? (i := 166) rfl), tb_3 _ (List.mem_of_getElem? (i := 168) rfl), List.mem_append_left _ (List.mem_of_getElem? (i := 20) rfl), ⟨by decide +kernel, by decide +kernel, by decide +kernel⟩, in_M_goes, by decide +kernel, by decide⟩
theorem fl_M_7 : ct_fl "CommandTreeModel" 7 3 3 := ⟨_, _, _, rfl, by decide, tb_3 _ (List.mem_of_getElem? (i := 82) rfl)⟩
theorem fl_M_13 : ct_fl "CommandTreeModel" 13 3 4 := ⟨_, _, _, rfl, by decide, tb_3 _ (List.mem_of_getElem? (i := 83) rfl)⟩
theorem fl_M_16 : ct_fl "CommandTreeModel" 16 3 5 := ⟨_, _, _, rfl, by decide, tb_3 _ (List.mem_of_getElem? (i := 84) rfl)⟩
theorem fp_M_72 : ct_fp "CommandTreeModel" 72 3 2 (.int) false := ⟨_, _, _, rfl, by decide, tb_3 _ (List.mem_of_getElem? (i := 81) rfl), rfl, by decide +kernel, rfl⟩
theorem fp_M_69 : ct_fp "CommandTreeModel" 69 3 0 (.int) false := ⟨_, _, _, rfl, by decide, tb_3 _ (List.mem_of_getElem? (i := 79) rfl), rfl, by decide +kernel, rfl⟩
theorem fl_M_79 : ct_fl "CommandTreeModel" 79 3 6 := ⟨_, _, _, rfl, by decide, tb_3 _ (List.mem_of_getElem? (i := 85) rfl)⟩
theorem fl_M_19 : ct_fl "CommandTreeModel" 19 3 7 := ⟨_, _, _, rfl, by decide, tb_3 _ (List.mem_of_getElem? (i := 86) rfl)⟩
theorem fp_M_79 : ct_fp "CommandTreeModel" 79 3 6 (.int) false := ⟨_, _, _, rfl, by decide, tb_3 _ (List.mem_of_getElem? (i := 85) rfl), rfl, by decide +kernel, rfl⟩
theorem cv_M_110 : ct_cV "CommandTreeModel" 110 m_M_isPerson 1 := ⟨tb_3 _ (List.mem_of_getElem? (i := 178) rfl), tb_3 _ (List.mem_of_getElem? (i := 180) rfl), List.mem_append_left _ (List.mem_of_getElem? (i := 21) rfl), ⟨by decide +kernel, by decide +kernel, by decide +kernel⟩, in_M_isPerson, by decide +kernel, by decide⟩
theorem fl_M_89 : ct_fl "CommandTreeModel" 89 3 1 := ⟨_, _, _, rfl, by decide, tb_3 _ (List.mem_of_getElem? (i := 80) rfl)⟩
theorem cv_M_113 : ct_cV "CommandTreeModel" 113 m_M_moves 2 := ⟨tb_3 _ (List.mem_of_getElem? (i := 182) rfl), tb_3 _ (List.mem_of_getElem? (i := 184) rfl), List.mem_append_left _ (List.mem_of_getElem? (i := 22) rfl), ⟨by decide +kernel, by decide +kernel, by decide +kernel⟩, in_M_moves, by decide +kernel, by decide⟩
theorem cv_M_96 : ct_cV "CommandTreeModel" 96 m_M_leads 1 := ⟨tb_3 _ (List.mem_of_getElem? (i := 186) rfl), tb_3 _ (List.mem_of_getElem? (i := 188) rfl), List.mem_append_left _ (List.mem_of_getElem? (i := 23) rfl), ⟨by decide +kernel, by decide +kernel, by decide +kernel⟩, in_M_leads, by decide +kernel, by decide⟩
theorem cv_M_100 : ct_cV "CommandTreeModel" 100 m_M_next 1 := ⟨tb_3 _ (List.mem_of_getElem? (i := 190) rfl), tb_3 _ (List.mem_of_getElem? (i := 192) rfl), List.mem_append_left _ (List.mem_of_getElem? (i := 24) rfl), ⟨by decide +kernel, by decide +kernel, by decide +kernel⟩, in_M_next, by decide +kernel, by decide⟩
theorem cv_M_103 : ct_cV "CommandTreeModel" 103 m_M_lead 2 := ⟨tb_3 _ (List.mem_of_getElem? (i := 194) rfl), tb_3 _ (List.mem_of_getElem? (i := 196) rfl), List.mem_append_left _ (List.mem_of_getElem? (i := 25) rfl), ⟨by decide +kernel, by decide +kernel, by decide +kernel⟩, in_M_lead, by decide +kernel, by decide⟩
theorem fl_M_22 : ct_fl "CommandTreeModel" 22 3 8 := ⟨_, _, _, rfl, by decide, tb_3 _ (List.mem_of_getElem? (i := 87) rfl)⟩
theorem cv_M_92 : ct_cV "CommandTreeModel" 92 m_M_row 2 := ⟨tb_3 _ (List.mem_of_getElem? (i := 198) rfl), tb_3 _ (List.mem_of_getElem? (i := 200) rfl), List.mem_append_left _ (List.mem_of_getElem? (i := 26) rfl), ⟨by decide +kernel, by decide +kernel, by decide +kernel⟩, in_M_row, by decide +kernel, by decide⟩
theorem fl_M_86 : ct_fl "CommandTreeModel" 86 3 19 := ⟨_, _, _, rfl, by decide, tb_3 _ (List.mem_of_getElem? (i := 98) rfl)⟩
theorem fl_M_54 : ct_fl "CommandTreeModel" 54 3 20 := ⟨_, _, _, rfl, by decide, tb_3 _ (List.mem_of_getElem? (i := 99) rfl)⟩
theorem fl_M_57 : ct_fl "CommandTreeModel" 57 3 21 := ⟨_, _, _, rfl, by decide, tb_3 _ (List.mem_of_getElem? (i := 100) rfl)⟩
theorem fl_M_60 : ct_fl "CommandTreeModel" 60 3 22 := ⟨_, _, _, rfl, by decide, tb_3 _ (List.mem_of_getElem? (i := 101) rfl)⟩
theorem fp_M_86 : ct_fp "CommandTreeModel" 86 3 19 (.int) false := ⟨_, _, _, rfl, by decide, tb_3 _ (List.mem_of_getElem? (i := 98) rfl), rfl, by decide +kernel, rfl⟩
theorem cv_M_82 : ct_cV "CommandTreeModel" 82 m_M_isSector 1 := ⟨tb_3 _ (List.mem_of_getElem? (i := 210) rfl), tb_3 _ (List.mem_of_getElem? (i := 212) rfl), List.mem_append_left _ (List.mem_of_getElem? (i := 27) rfl), ⟨by decide +kernel, by decide +kernel, by decide +kernel⟩, in_M_isSector, by decide +kernel, by decide⟩
theorem cv_M_116 : ct_cV "CommandTreeModel" 116 m_M_isOpen 1 := ⟨tb_3 _ (List.mem_of_getElem? (i := 214) rfl), tb_3 _ (List.mem_of_getElem? (i := 216) rfl), List.mem_append_left _ (List.mem_of_getElem? (i := 28) rfl), ⟨by decide +kernel, by decide +kernel, by decide +kernel⟩, in_M_isOpen, by decide +kernel, by decide⟩
theorem fl_M_26 : ct_fl "CommandTreeModel" 26 3 9 := ⟨_, _, _, rfl, by decide, tb_3 _ (List.mem_of_getElem? (i := 88) rfl)⟩
theorem cv_M_119 : ct_cV "CommandTreeModel" 119 m_M_isUnit 1 := ⟨tb_3 _ (List.mem_of_getElem? (i := 222) rfl), tb_3 _ (List.mem_of_getElem? (i := 224) rfl), List.mem_append_left _ (List.mem_of_getElem? (i := 29) rfl), ⟨by decide +kernel, by decide +kernel, by decide +kernel⟩, in_M_isUnit, by decide +kernel, by decide⟩
theorem cv_M_122 : ct_cV "CommandTreeModel" 122 m_M_isBelow 2 := ⟨tb_3 _ (List.mem_of_getElem? (i := 234) rfl), tb_3 _ (List.mem_of_getElem? (i := 236) rfl), List.mem_append_left _ (List.mem_of_getElem? (i := 30) rfl), ⟨by decide +kernel, by decide +kernel, by decide +kernel⟩, in_M_isBelow, by decide +kernel, by decide⟩
theorem fl_M_126 : ct_fl "CommandTreeModel" 126 3 14 := ⟨_, _, _, rfl, by decide, tb_3 _ (List.mem_of_getElem? (i := 93) rfl)⟩
theorem fl_M_42 : ct_fl "CommandTreeModel" 42 3 15 := ⟨_, _, _, rfl, by decide, tb_3 _ (List.mem_of_getElem? (i := 94) rfl)⟩
theorem fl_M_48 : ct_fl "CommandTreeModel" 48 3 17 := ⟨_, _, _, rfl, by decide, tb_3 _ (List.mem_of_getElem? (i := 96) rfl)⟩
theorem cn_M_129 : Cond.constant "CommandTreeModel" 129 99999 ∈ lw_tbl := tb_4 _ (List.mem_of_getElem? (i := 10) rfl)
theorem fl_M_45 : ct_fl "CommandTreeModel" 45 3 16 := ⟨_, _, _, rfl, by decide, tb_3 _ (List.mem_of_getElem? (i := 95) rfl)⟩
theorem fl_M_51 : ct_fl "CommandTreeModel" 51 3 18 := ⟨_, _, _, rfl, by decide, tb_3 _ (List.mem_of_getElem? (i := 97) rfl)⟩
theorem fp_M_126 : ct_fp "CommandTreeModel" 126 3 14 (.int) false := ⟨_, _, _, rfl, by decide, tb_3 _ (List.mem_of_getElem? (i := 93) rfl), rfl, by decide +kernel, rfl⟩
theorem cv_M_136 : ct_cV "CommandTreeModel" 136 m_M_isPassed 1 := ⟨tb_4 _ (List.mem_of_getElem? (i := 19) rfl), tb_4 _ (List.mem_of_getElem? (i := 21) rfl), List.mem_append_left _ (List.mem_of_getElem? (i := 31) rfl), ⟨by decide +kernel, by decide +kernel, by decide +kernel⟩, in_M_isPassed, by decide +kernel, by decide⟩
theorem cv_M_130 : ct_cV "CommandTreeModel" 130 m_M_below 1 := ⟨tb_4 _ (List.mem_of_getElem? (i := 23) rfl), tb_4 _ (List.mem_of_getElem? (i := 25) rfl), List.mem_append_left _ (List.mem_of_getElem? (i := 32) rfl), ⟨by decide +kernel, by decide +kernel, by decide +kernel⟩, in_M_below, by decide +kernel, by decide⟩
theorem cv_M_133 : ct_cV "CommandTreeModel" 133 m_M_unitsIn 1 := ⟨tb_4 _ (List.mem_of_getElem? (i := 27) rfl), tb_4 _ (List.mem_of_getElem? (i := 29) rfl), List.mem_append_left _ (List.mem_of_getElem? (i := 33) rfl), ⟨by decide +kernel, by decide +kernel, by decide +kernel⟩, in_M_unitsIn, by decide +kernel, by decide⟩
theorem fl_M_39 : ct_fl "CommandTreeModel" 39 3 13 := ⟨_, _, _, rfl, by decide, tb_3 _ (List.mem_of_getElem? (i := 92) rfl)⟩
theorem fp_M_89 : ct_fp "CommandTreeModel" 89 3 1 (.int) false := ⟨_, _, _, rfl, by decide, tb_3 _ (List.mem_of_getElem? (i := 80) rfl), rfl, by decide +kernel, rfl⟩
theorem fl_M_66 : ct_fl "CommandTreeModel" 66 3 24 := ⟨_, _, _, rfl, by decide, tb_3 _ (List.mem_of_getElem? (i := 103) rfl)⟩
theorem cl_L_8 : Cond.classLink "CommandTreeLaw" 8 "CommandTree" ∈ lw_tbl := tb_1 _ (List.mem_of_getElem? (i := 13) rfl)
theorem ci_L_83 : ct_cI "CommandTreeLaw" 83 m_C_init 0 := ⟨tb_1 _ (List.mem_of_getElem? (i := 15) rfl), tb_1 _ (List.mem_of_getElem? (i := 16) rfl), tb_1 _ (List.mem_of_getElem? (i := 17) rfl), ⟨by decide +kernel, by decide +kernel, by decide +kernel⟩, ⟨rfl, rfl, rfl⟩, by decide +kernel, by decide⟩
theorem cl_L_84 : Cond.classLink "CommandTreeLaw" 84 "CommandTreeModel" ∈ lw_tbl := tb_3 _ (List.mem_of_getElem? (i := 73) rfl)
theorem ci_L_86 : ct_cI "CommandTreeLaw" 86 m_M_init 0 := ⟨tb_3 _ (List.mem_of_getElem? (i := 75) rfl), tb_3 _ (List.mem_of_getElem? (i := 76) rfl), tb_3 _ (List.mem_of_getElem? (i := 77) rfl), ⟨by decide +kernel, by decide +kernel, by decide +kernel⟩, ⟨rfl, rfl, rfl⟩, by decide +kernel, by decide⟩
theorem cs_L_87 : ct_cS "CommandTreeLaw" 87 m_L_person 3 := ⟨tb_1 _ (List.mem_of_getElem? (i := 131) rfl), tb_1 _ (List.mem_of_getElem? (i := 132) rfl), tb_1 _ (List.mem_of_getElem? (i := 0) rfl), ⟨by decide +kernel, by decide +kernel, by decide +kernel⟩, in_L_person, by decide +kernel, by decide⟩
theorem cv_L_92 : ct_cV "CommandTreeLaw" 92 m_M_person 1 := ⟨tb_3 _ (List.mem_of_getElem? (i := 159) rfl), tb_3 _ (List.mem_of_getElem? (i := 160) rfl), tb_3 _ (List.mem_of_getElem? (i := 161) rfl), ⟨by decide +kernel, by decide +kernel, by decide +kernel⟩, in_M_person, by decide +kernel, by decide⟩
theorem cv_L_93 : ct_cV "CommandTreeLaw" 93 m_M_thrown 0 := ⟨tb_3 _ (List.mem_of_getElem? (i := 155) rfl), tb_3 _ (List.mem_of_getElem? (i := 156) rfl), tb_3 _ (List.mem_of_getElem? (i := 157) rfl), ⟨by decide +kernel, by decide +kernel, by decide +kernel⟩, in_M_thrown, by decide +kernel, by decide⟩
theorem cs_L_96 : ct_cS "CommandTreeLaw" 96 m_L_unit 2 := ⟨tb_1 _ (List.mem_of_getElem? (i := 225) rfl), tb_1 _ (List.mem_of_getElem? (i := 226) rfl), tb_1 _ (List.mem_of_getElem? (i := 0) rfl), ⟨by decide +kernel, by decide +kernel, by decide +kernel⟩, in_L_unit, by decide +kernel, by decide⟩
theorem cv_L_99 : ct_cV "CommandTreeLaw" 99 m_M_unit 0 := ⟨tb_3 _ (List.mem_of_getElem? (i := 170) rfl), tb_3 _ (List.mem_of_getElem? (i := 171) rfl), tb_3 _ (List.mem_of_getElem? (i := 172) rfl), ⟨by decide +kernel, by decide +kernel, by decide +kernel⟩, in_M_unit, by decide +kernel, by decide⟩
theorem cs_L_100 : ct_cS "CommandTreeLaw" 100 m_L_arrive 2 := ⟨tb_1 _ (List.mem_of_getElem? (i := 233) rfl), tb_1 _ (List.mem_of_getElem? (i := 234) rfl), tb_1 _ (List.mem_of_getElem? (i := 0) rfl), ⟨by decide +kernel, by decide +kernel, by decide +kernel⟩, in_L_arrive, by decide +kernel, by decide⟩
theorem cv_L_103 : ct_cV "CommandTreeLaw" 103 m_M_arrive 1 := ⟨tb_3 _ (List.mem_of_getElem? (i := 174) rfl), tb_3 _ (List.mem_of_getElem? (i := 175) rfl), tb_3 _ (List.mem_of_getElem? (i := 176) rfl), ⟨by decide +kernel, by decide +kernel, by decide +kernel⟩, in_M_arrive, by decide +kernel, by decide⟩
theorem cs_L_104 : ct_cS "CommandTreeLaw" 104 m_L_leave 2 := ⟨tb_2 _ (List.mem_of_getElem? (i := 81) rfl), tb_2 _ (List.mem_of_getElem? (i := 82) rfl), tb_1 _ (List.mem_of_getElem? (i := 0) rfl), ⟨by decide +kernel, by decide +kernel, by decide +kernel⟩, in_L_leave, by decide +kernel, by decide⟩
theorem cv_L_106 : ct_cV "CommandTreeLaw" 106 m_M_leave 1 := ⟨tb_3 _ (List.mem_of_getElem? (i := 202) rfl), tb_3 _ (List.mem_of_getElem? (i := 203) rfl), tb_3 _ (List.mem_of_getElem? (i := 204) rfl), ⟨by decide +kernel, by decide +kernel, by decide +kernel⟩, in_M_leave, by decide +kernel, by decide⟩
theorem cs_L_107 : ct_cS "CommandTreeLaw" 107 m_L_go 3 := ⟨tb_2 _ (List.mem_of_getElem? (i := 93) rfl), tb_2 _ (List.mem_of_getElem? (i := 94) rfl), tb_1 _ (List.mem_of_getElem? (i := 0) rfl), ⟨by decide +kernel, by decide +kernel, by decide +kernel⟩, in_L_go, by decide +kernel, by decide⟩
theorem cv_L_110 : ct_cV "CommandTreeLaw" 110 m_M_go 2 := ⟨tb_3 _ (List.mem_of_getElem? (i := 206) rfl), tb_3 _ (List.mem_of_getElem? (i := 207) rfl), tb_3 _ (List.mem_of_getElem? (i := 208) rfl), ⟨by decide +kernel, by decide +kernel, by decide +kernel⟩, in_M_go, by decide +kernel, by decide⟩
theorem cs_L_111 : ct_cS "CommandTreeLaw" 111 m_L_place 3 := ⟨tb_2 _ (List.mem_of_getElem? (i := 111) rfl), tb_2 _ (List.mem_of_getElem? (i := 112) rfl), tb_1 _ (List.mem_of_getElem? (i := 0) rfl), ⟨by decide +kernel, by decide +kernel, by decide +kernel⟩, in_L_place, by decide +kernel, by decide⟩
theorem cv_L_113 : ct_cV "CommandTreeLaw" 113 m_M_place 2 := ⟨tb_3 _ (List.mem_of_getElem? (i := 218) rfl), tb_3 _ (List.mem_of_getElem? (i := 219) rfl), tb_3 _ (List.mem_of_getElem? (i := 220) rfl), ⟨by decide +kernel, by decide +kernel, by decide +kernel⟩, in_M_place, by decide +kernel, by decide⟩
theorem cs_L_114 : ct_cS "CommandTreeLaw" 114 m_L_split 3 := ⟨tb_2 _ (List.mem_of_getElem? (i := 124) rfl), tb_2 _ (List.mem_of_getElem? (i := 125) rfl), tb_1 _ (List.mem_of_getElem? (i := 0) rfl), ⟨by decide +kernel, by decide +kernel, by decide +kernel⟩, in_L_split, by decide +kernel, by decide⟩
theorem cv_L_116 : ct_cV "CommandTreeLaw" 116 m_M_split 1 := ⟨tb_3 _ (List.mem_of_getElem? (i := 226) rfl), tb_3 _ (List.mem_of_getElem? (i := 227) rfl), tb_3 _ (List.mem_of_getElem? (i := 228) rfl), ⟨by decide +kernel, by decide +kernel, by decide +kernel⟩, in_M_split, by decide +kernel, by decide⟩
theorem cs_L_117 : ct_cS "CommandTreeLaw" 117 m_L_join 3 := ⟨tb_2 _ (List.mem_of_getElem? (i := 132) rfl), tb_2 _ (List.mem_of_getElem? (i := 133) rfl), tb_1 _ (List.mem_of_getElem? (i := 0) rfl), ⟨by decide +kernel, by decide +kernel, by decide +kernel⟩, in_L_join, by decide +kernel, by decide⟩
theorem cv_L_119 : ct_cV "CommandTreeLaw" 119 m_M_join 2 := ⟨tb_3 _ (List.mem_of_getElem? (i := 230) rfl), tb_3 _ (List.mem_of_getElem? (i := 231) rfl), tb_3 _ (List.mem_of_getElem? (i := 232) rfl), ⟨by decide +kernel, by decide +kernel, by decide +kernel⟩, in_M_join, by decide +kernel, by decide⟩
theorem cs_L_120 : ct_cS "CommandTreeLaw" 120 m_L_offer 3 := ⟨tb_2 _ (List.mem_of_getElem? (i := 157) rfl), tb_2 _ (List.mem_of_getElem? (i := 158) rfl), tb_1 _ (List.mem_of_getElem? (i := 0) rfl), ⟨by decide +kernel, by decide +kernel, by decide +kernel⟩, in_L_offer, by decide +kernel, by decide⟩
theorem cv_L_122 : ct_cV "CommandTreeLaw" 122 m_M_offer 2 := ⟨tb_3 _ (List.mem_of_getElem? (i := 238) rfl), tb_3 _ (List.mem_of_getElem? (i := 239) rfl), tb_4 _ (List.mem_of_getElem? (i := 0) rfl), ⟨by decide +kernel, by decide +kernel, by decide +kernel⟩, in_M_offer, by decide +kernel, by decide⟩
theorem cs_L_123 : ct_cS "CommandTreeLaw" 123 m_L_take 3 := ⟨tb_2 _ (List.mem_of_getElem? (i := 166) rfl), tb_2 _ (List.mem_of_getElem? (i := 167) rfl), tb_1 _ (List.mem_of_getElem? (i := 0) rfl), ⟨by decide +kernel, by decide +kernel, by decide +kernel⟩, in_L_take, by decide +kernel, by decide⟩
theorem cv_L_125 : ct_cV "CommandTreeLaw" 125 m_M_take 2 := ⟨tb_4 _ (List.mem_of_getElem? (i := 2) rfl), tb_4 _ (List.mem_of_getElem? (i := 3) rfl), tb_4 _ (List.mem_of_getElem? (i := 4) rfl), ⟨by decide +kernel, by decide +kernel, by decide +kernel⟩, in_M_take, by decide +kernel, by decide⟩
theorem cs_L_126 : ct_cS "CommandTreeLaw" 126 m_L_task 4 := ⟨tb_2 _ (List.mem_of_getElem? (i := 174) rfl), tb_2 _ (List.mem_of_getElem? (i := 175) rfl), tb_1 _ (List.mem_of_getElem? (i := 0) rfl), ⟨by decide +kernel, by decide +kernel, by decide +kernel⟩, in_L_task, by decide +kernel, by decide⟩
theorem cv_L_129 : ct_cV "CommandTreeLaw" 129 m_M_task 2 := ⟨tb_4 _ (List.mem_of_getElem? (i := 6) rfl), tb_4 _ (List.mem_of_getElem? (i := 7) rfl), tb_4 _ (List.mem_of_getElem? (i := 8) rfl), ⟨by decide +kernel, by decide +kernel, by decide +kernel⟩, in_M_task, by decide +kernel, by decide⟩
theorem cs_L_130 : ct_cS "CommandTreeLaw" 130 m_L_answer 3 := ⟨tb_2 _ (List.mem_of_getElem? (i := 193) rfl), tb_2 _ (List.mem_of_getElem? (i := 194) rfl), tb_1 _ (List.mem_of_getElem? (i := 0) rfl), ⟨by decide +kernel, by decide +kernel, by decide +kernel⟩, in_L_answer, by decide +kernel, by decide⟩
theorem cv_L_133 : ct_cV "CommandTreeLaw" 133 m_M_answer 2 := ⟨tb_4 _ (List.mem_of_getElem? (i := 11) rfl), tb_4 _ (List.mem_of_getElem? (i := 12) rfl), tb_4 _ (List.mem_of_getElem? (i := 13) rfl), ⟨by decide +kernel, by decide +kernel, by decide +kernel⟩, in_M_answer, by decide +kernel, by decide⟩
theorem cs_L_134 : ct_cS "CommandTreeLaw" 134 m_L_span 3 := ⟨tb_2 _ (List.mem_of_getElem? (i := 215) rfl), tb_2 _ (List.mem_of_getElem? (i := 216) rfl), tb_1 _ (List.mem_of_getElem? (i := 0) rfl), ⟨by decide +kernel, by decide +kernel, by decide +kernel⟩, in_L_span, by decide +kernel, by decide⟩
theorem cv_L_136 : ct_cV "CommandTreeLaw" 136 m_M_span 1 := ⟨tb_4 _ (List.mem_of_getElem? (i := 15) rfl), tb_4 _ (List.mem_of_getElem? (i := 16) rfl), tb_4 _ (List.mem_of_getElem? (i := 17) rfl), ⟨by decide +kernel, by decide +kernel, by decide +kernel⟩, in_M_span, by decide +kernel, by decide⟩
theorem cs_L_137 : ct_cS "CommandTreeLaw" 137 m_L_tick 3 := ⟨tb_2 _ (List.mem_of_getElem? (i := 234) rfl), tb_2 _ (List.mem_of_getElem? (i := 235) rfl), tb_1 _ (List.mem_of_getElem? (i := 0) rfl), ⟨by decide +kernel, by decide +kernel, by decide +kernel⟩, in_L_tick, by decide +kernel, by decide⟩
theorem cv_L_139 : ct_cV "CommandTreeLaw" 139 m_M_tick 1 := ⟨tb_4 _ (List.mem_of_getElem? (i := 31) rfl), tb_4 _ (List.mem_of_getElem? (i := 32) rfl), tb_4 _ (List.mem_of_getElem? (i := 33) rfl), ⟨by decide +kernel, by decide +kernel, by decide +kernel⟩, in_M_tick, by decide +kernel, by decide⟩
theorem cs_L_140 : ct_cS "CommandTreeLaw" 140 m_L_led 4 := ⟨tb_3 _ (List.mem_of_getElem? (i := 10) rfl), tb_3 _ (List.mem_of_getElem? (i := 11) rfl), tb_1 _ (List.mem_of_getElem? (i := 0) rfl), ⟨by decide +kernel, by decide +kernel, by decide +kernel⟩, in_L_led, by decide +kernel, by decide⟩
theorem cv_L_142 : ct_cV "CommandTreeLaw" 142 m_M_led 2 := ⟨tb_4 _ (List.mem_of_getElem? (i := 35) rfl), tb_4 _ (List.mem_of_getElem? (i := 36) rfl), tb_4 _ (List.mem_of_getElem? (i := 37) rfl), ⟨by decide +kernel, by decide +kernel, by decide +kernel⟩, in_M_led, by decide +kernel, by decide⟩
theorem cs_L_143 : ct_cS "CommandTreeLaw" 143 m_L_sectorAt 4 := ⟨tb_3 _ (List.mem_of_getElem? (i := 27) rfl), tb_3 _ (List.mem_of_getElem? (i := 28) rfl), tb_1 _ (List.mem_of_getElem? (i := 0) rfl), ⟨by decide +kernel, by decide +kernel, by decide +kernel⟩, in_L_sectorAt, by decide +kernel, by decide⟩
theorem cv_L_145 : ct_cV "CommandTreeLaw" 145 m_M_sectorAt 2 := ⟨tb_4 _ (List.mem_of_getElem? (i := 39) rfl), tb_4 _ (List.mem_of_getElem? (i := 40) rfl), tb_4 _ (List.mem_of_getElem? (i := 41) rfl), ⟨by decide +kernel, by decide +kernel, by decide +kernel⟩, in_M_sectorAt, by decide +kernel, by decide⟩
theorem cs_L_146 : ct_cS "CommandTreeLaw" 146 m_L_personAt 4 := ⟨tb_3 _ (List.mem_of_getElem? (i := 35) rfl), tb_3 _ (List.mem_of_getElem? (i := 36) rfl), tb_1 _ (List.mem_of_getElem? (i := 0) rfl), ⟨by decide +kernel, by decide +kernel, by decide +kernel⟩, in_L_personAt, by decide +kernel, by decide⟩
theorem cv_L_148 : ct_cV "CommandTreeLaw" 148 m_M_personAt 2 := ⟨tb_4 _ (List.mem_of_getElem? (i := 43) rfl), tb_4 _ (List.mem_of_getElem? (i := 44) rfl), tb_4 _ (List.mem_of_getElem? (i := 45) rfl), ⟨by decide +kernel, by decide +kernel, by decide +kernel⟩, in_M_personAt, by decide +kernel, by decide⟩
theorem cs_L_149 : ct_cS "CommandTreeLaw" 149 m_L_unitAt 3 := ⟨tb_3 _ (List.mem_of_getElem? (i := 42) rfl), tb_3 _ (List.mem_of_getElem? (i := 43) rfl), tb_1 _ (List.mem_of_getElem? (i := 0) rfl), ⟨by decide +kernel, by decide +kernel, by decide +kernel⟩, in_L_unitAt, by decide +kernel, by decide⟩
theorem cv_L_151 : ct_cV "CommandTreeLaw" 151 m_M_unitAt 1 := ⟨tb_4 _ (List.mem_of_getElem? (i := 47) rfl), tb_4 _ (List.mem_of_getElem? (i := 48) rfl), tb_4 _ (List.mem_of_getElem? (i := 49) rfl), ⟨by decide +kernel, by decide +kernel, by decide +kernel⟩, in_M_unitAt, by decide +kernel, by decide⟩
theorem cs_L_152 : ct_cS "CommandTreeLaw" 152 m_L_taskAt 4 := ⟨tb_3 _ (List.mem_of_getElem? (i := 49) rfl), tb_3 _ (List.mem_of_getElem? (i := 50) rfl), tb_1 _ (List.mem_of_getElem? (i := 0) rfl), ⟨by decide +kernel, by decide +kernel, by decide +kernel⟩, in_L_taskAt, by decide +kernel, by decide⟩
theorem cv_L_154 : ct_cV "CommandTreeLaw" 154 m_M_taskAt 2 := ⟨tb_4 _ (List.mem_of_getElem? (i := 51) rfl), tb_4 _ (List.mem_of_getElem? (i := 52) rfl), tb_4 _ (List.mem_of_getElem? (i := 53) rfl), ⟨by decide +kernel, by decide +kernel, by decide +kernel⟩, in_M_taskAt, by decide +kernel, by decide⟩
theorem cs_L_155 : ct_cS "CommandTreeLaw" 155 m_L_passed 3 := ⟨tb_3 _ (List.mem_of_getElem? (i := 65) rfl), tb_3 _ (List.mem_of_getElem? (i := 66) rfl), tb_1 _ (List.mem_of_getElem? (i := 0) rfl), ⟨by decide +kernel, by decide +kernel, by decide +kernel⟩, in_L_passed, by decide +kernel, by decide⟩
theorem cv_L_157 : ct_cV "CommandTreeLaw" 157 m_M_passed 1 := ⟨tb_4 _ (List.mem_of_getElem? (i := 55) rfl), tb_4 _ (List.mem_of_getElem? (i := 56) rfl), tb_4 _ (List.mem_of_getElem? (i := 57) rfl), ⟨by decide +kernel, by decide +kernel, by decide +kernel⟩, in_M_passed, by decide +kernel, by decide⟩
theorem cv_L_158 : ct_cV "CommandTreeLaw" 158 m_C_clock 0 := ⟨tb_1 _ (List.mem_of_getElem? (i := 127) rfl), tb_1 _ (List.mem_of_getElem? (i := 128) rfl), tb_1 _ (List.mem_of_getElem? (i := 129) rfl), ⟨by decide +kernel, by decide +kernel, by decide +kernel⟩, in_C_clock, by decide +kernel, by decide⟩
theorem cv_L_161 : ct_cV "CommandTreeLaw" 161 m_M_clock 0 := ⟨tb_4 _ (List.mem_of_getElem? (i := 59) rfl), tb_4 _ (List.mem_of_getElem? (i := 60) rfl), tb_4 _ (List.mem_of_getElem? (i := 61) rfl), ⟨by decide +kernel, by decide +kernel, by decide +kernel⟩, in_M_clock, by decide +kernel, by decide⟩
theorem ini_CommandTreeLaw : Cond.initialized "CommandTreeLaw" ∈ lw_tbl := tb_1 _ (List.mem_of_getElem? (i := 0) rfl)
theorem ini_CommandTree : Cond.initialized "CommandTree" ∈ lw_tbl := tb_1 _ (List.mem_of_getElem? (i := 1) rfl)
theorem ini_java_util_Arrays : Cond.initialized "java/util/Arrays" ∈ lw_tbl := tb_1 _ (List.mem_of_getElem? (i := 2) rfl)
theorem ini_CommandTree_TaskList : Cond.initialized "CommandTree$TaskList" ∈ lw_tbl := tb_1 _ (List.mem_of_getElem? (i := 3) rfl)
theorem ini_CommandTree_LeaderRows : Cond.initialized "CommandTree$LeaderRows" ∈ lw_tbl := tb_1 _ (List.mem_of_getElem? (i := 4) rfl)
theorem ini_CommandTreeModel : Cond.initialized "CommandTreeModel" ∈ lw_tbl := tb_1 _ (List.mem_of_getElem? (i := 5) rfl)
theorem ini_java_lang_Throwable : Cond.initialized "java/lang/Throwable" ∈ lw_tbl := tb_1 _ (List.mem_of_getElem? (i := 6) rfl)
theorem ini_java_lang_Exception : Cond.initialized "java/lang/Exception" ∈ lw_tbl := tb_1 _ (List.mem_of_getElem? (i := 7) rfl)
theorem ini_java_lang_RuntimeException : Cond.initialized "java/lang/RuntimeException" ∈ lw_tbl := tb_1 _ (List.mem_of_getElem? (i := 8) rfl)
theorem ini_java_lang_IndexOutOfBoundsException : Cond.initialized "java/lang/IndexOutOfBoundsException" ∈ lw_tbl := tb_1 _ (List.mem_of_getElem? (i := 9) rfl)
theorem ini_java_lang_UnsupportedOperationException : Cond.initialized "java/lang/UnsupportedOperationException" ∈ lw_tbl := tb_1 _ (List.mem_of_getElem? (i := 10) rfl)
theorem ini_java_lang_IllegalArgumentException : Cond.initialized "java/lang/IllegalArgumentException" ∈ lw_tbl := tb_1 _ (List.mem_of_getElem? (i := 11) rfl)
theorem ini_java_lang_IllegalStateException : Cond.initialized "java/lang/IllegalStateException" ∈ lw_tbl := tb_1 _ (List.mem_of_getElem? (i := 12) rfl)
theorem inst_C : Cond.instantiable "CommandTree" 16 ∈ lw_tbl := tb_1 _ (List.mem_of_getElem? (i := 14) rfl)
theorem inst_T : Cond.instantiable "CommandTree$TaskList" 5 ∈ lw_tbl := tb_1 _ (List.mem_of_getElem? (i := 25) rfl)
theorem arr_int : Cond.arrayClass .int ∈ lw_tbl := tb_1 _ (List.mem_of_getElem? (i := 47) rfl)
theorem arr_boolean : Cond.arrayClass .boolean ∈ lw_tbl := tb_1 _ (List.mem_of_getElem? (i := 48) rfl)
theorem inst_R : Cond.instantiable "CommandTree$LeaderRows" 7 ∈ lw_tbl := tb_1 _ (List.mem_of_getElem? (i := 50) rfl)
theorem cl_L_13 : Cond.classLink "CommandTreeLaw" 13 "java/lang/IndexOutOfBoundsException" ∈ lw_tbl := tb_1 _ (List.mem_of_getElem? (i := 134) rfl)
theorem cl_L_15 : Cond.classLink "CommandTreeLaw" 15 "java/lang/UnsupportedOperationException" ∈ lw_tbl := tb_1 _ (List.mem_of_getElem? (i := 135) rfl)
theorem cast_java_lang_IndexOutOfBoundsException : Cond.castable "java/lang/IndexOutOfBoundsException" "java/lang/IndexOutOfBoundsException" ∈ lw_tbl := tb_1 _ (List.mem_of_getElem? (i := 142) rfl)
theorem arr_byte : Cond.arrayClass .byte ∈ lw_tbl := tb_1 _ (List.mem_of_getElem? (i := 208) rfl)
theorem cast_java_lang_UnsupportedOperationException : Cond.castable "java/lang/UnsupportedOperationException" "java/lang/UnsupportedOperationException" ∈ lw_tbl := tb_1 _ (List.mem_of_getElem? (i := 211) rfl)
theorem cl_L_25 : Cond.classLink "CommandTreeLaw" 25 "java/lang/IllegalArgumentException" ∈ lw_tbl := tb_1 _ (List.mem_of_getElem? (i := 236) rfl)
theorem cl_L_27 : Cond.classLink "CommandTreeLaw" 27 "java/lang/IllegalStateException" ∈ lw_tbl := tb_1 _ (List.mem_of_getElem? (i := 237) rfl)
theorem cast_java_lang_IllegalArgumentException : Cond.castable "java/lang/IllegalArgumentException" "java/lang/IllegalArgumentException" ∈ lw_tbl := tb_2 _ (List.mem_of_getElem? (i := 8) rfl)
theorem cast_java_lang_IllegalStateException : Cond.castable "java/lang/IllegalStateException" "java/lang/IllegalStateException" ∈ lw_tbl := tb_2 _ (List.mem_of_getElem? (i := 28) rfl)
theorem inst_M : Cond.instantiable "CommandTreeModel" 25 ∈ lw_tbl := tb_3 _ (List.mem_of_getElem? (i := 74) rfl)
theorem arr_long : Cond.arrayClass .long ∈ lw_tbl := tb_4 _ (List.mem_of_getElem? (i := 63) rfl)
theorem oi_i : Cond.instanceMethod objectInit ∈ lw_tbl := tb_1 _ (List.mem_of_getElem? (i := 19) rfl)
theorem oi_c : Cond.code objectInit ⟨#[0xb1]⟩ 1 none ∈ lw_tbl := tb_1 _ (List.mem_of_getElem? (i := 20) rfl)
theorem thr_0 : ct_thr "CommandTree" 69 0 := ⟨by decide +kernel, by decide +kernel⟩
theorem thr_1 : ct_thr "CommandTree" 79 1 := ⟨by decide +kernel, by decide +kernel⟩
theorem thr_2 : ct_thr "CommandTree" 216 2 := ⟨by decide +kernel, by decide +kernel⟩
theorem thr_3 : ct_thr "CommandTree" 97 3 := ⟨by decide +kernel, by decide +kernel⟩
end
section
/-! THE STATES of class and reference as tuples, and the world of the whole run: 38 cells (printed by wip/whole/walk.py) -/
def up {α : Type} (f : Nat → α) (i : Nat) (v : α) : Nat → α := fun j => cond (Nat.beq j i) v (f j)
abbrev S_c : Type := (Nat → Nat) × (Nat → Int32) × (Nat → Nat → Int32)
def c_sec (z : S_c) : Nat := z.1 0
def c_sec_ (z : S_c) (v : Nat) : S_c := (up z.1 0 v, z.2.1, z.2.2)
def c_most (z : S_c) : Nat := z.1 1
def c_most_ (z : S_c) (v : Nat) : S_c := (up z.1 1 v, z.2.1, z.2.2)
def c_np (z : S_c) : Nat := z.1 2
def c_np_ (z : S_c) (v : Nat) : S_c := (up z.1 2 v, z.2.1, z.2.2)
def c_rank (z : S_c) : (Nat → Int32) := z.2.2 0
def c_rank_ (z : S_c) (v : (Nat → Int32)) : S_c := (z.1, z.2.1, up z.2.2 0 v)
def c_arr (z : S_c) : (Nat → Int32) := z.2.2 1
def c_arr_ (z : S_c) (v : (Nat → Int32)) : S_c := (z.1, z.2.1, up z.2.2 1 v)
def c_sop (z : S_c) : (Nat → Int32) := z.2.2 2
def c_sop_ (z : S_c) (v : (Nat → Int32)) : S_c := (z.1, z.2.1, up z.2.2 2 v)
def c_slb (z : S_c) : (Nat → Int32) := z.2.2 3
def c_slb_ (z : S_c) (v : (Nat → Int32)) : S_c := (z.1, z.2.1, up z.2.2 3 v)
def c_nu (z : S_c) : Nat := z.1 3
def c_nu_ (z : S_c) (v : Nat) : S_c := (up z.1 3 v, z.2.1, z.2.2)
def c_sou (z : S_c) : (Nat → Int32) := z.2.2 4
def c_sou_ (z : S_c) (v : (Nat → Int32)) : S_c := (z.1, z.2.1, up z.2.2 4 v)
def c_ns (z : S_c) : Nat := z.1 4
def c_ns_ (z : S_c) (v : Nat) : S_c := (up z.1 4 v, z.2.1, z.2.2)
def c_opn (z : S_c) : (Nat → Int32) := z.2.2 5
def c_opn_ (z : S_c) (v : (Nat → Int32)) : S_c := (z.1, z.2.1, up z.2.2 5 v)
def c_abv (z : S_c) : (Nat → Int32) := z.2.2 6
def c_abv_ (z : S_c) (v : (Nat → Int32)) : S_c := (z.1, z.2.1, up z.2.2 6 v)
def c_ldr (z : S_c) : (Nat → Int32) := z.2.2 7
def c_ldr_ (z : S_c) (v : (Nat → Int32)) : S_c := (z.1, z.2.1, up z.2.2 7 v)
def c_off (z : S_c) : (Nat → Int32) := z.2.2 8
def c_off_ (z : S_c) (v : (Nat → Int32)) : S_c := (z.1, z.2.1, up z.2.2 8 v)
def t_n (z : S_c) : Nat := z.1 5
def t_n_ (z : S_c) (v : Nat) : S_c := (up z.1 5 v, z.2.1, z.2.2)
def t_sec (z : S_c) : (Nat → Int32) := z.2.2 9
def t_sec_ (z : S_c) (v : (Nat → Int32)) : S_c := (z.1, z.2.1, up z.2.2 9 v)
def t_unt (z : S_c) : (Nat → Int32) := z.2.2 10
def t_unt_ (z : S_c) (v : (Nat → Int32)) : S_c := (z.1, z.2.1, up z.2.2 10 v)
def t_rep (z : S_c) : (Nat → Int32) := z.2.2 11
def t_rep_ (z : S_c) (v : (Nat → Int32)) : S_c := (z.1, z.2.1, up z.2.2 11 v)
def t_at (z : S_c) : (Nat → Int32) := z.2.2 12
def t_at_ (z : S_c) (v : (Nat → Int32)) : S_c := (z.1, z.2.1, up z.2.2 12 v)
def r_old (z : S_c) : Nat := z.1 6
def r_old_ (z : S_c) (v : Nat) : S_c := (up z.1 6 v, z.2.1, z.2.2)
def r_n (z : S_c) : Nat := z.1 7
def r_n_ (z : S_c) (v : Nat) : S_c := (up z.1 7 v, z.2.1, z.2.2)
def r_sec (z : S_c) : (Nat → Int32) := z.2.2 13
def r_sec_ (z : S_c) (v : (Nat → Int32)) : S_c := (z.1, z.2.1, up z.2.2 13 v)
def r_num (z : S_c) : (Nat → Int32) := z.2.2 14
def r_num_ (z : S_c) (v : (Nat → Int32)) : S_c := (z.1, z.2.1, up z.2.2 14 v)
def r_led (z : S_c) : (Nat → Int32) := z.2.2 15
def r_led_ (z : S_c) (v : (Nat → Int32)) : S_c := (z.1, z.2.1, up z.2.2 15 v)
def r_bef (z : S_c) : (Nat → Int32) := z.2.2 16
def r_bef_ (z : S_c) (v : (Nat → Int32)) : S_c := (z.1, z.2.1, up z.2.2 16 v)
def r_drop (z : S_c) : Nat := z.1 8
def r_drop_ (z : S_c) (v : Nat) : S_c := (up z.1 8 v, z.2.1, z.2.2)
abbrev S_m : Type := (Nat → Nat) × (Nat → Int32) × (Nat → Nat → Int32)
def k_thr (z : S_m) : Int32 := z.2.1 0
def k_thr_ (z : S_m) (v : Int32) : S_m := (z.1, up z.2.1 0 v, z.2.2)
def k_now (z : S_m) : Nat := z.1 0
def k_now_ (z : S_m) (v : Nat) : S_m := (up z.1 0 v, z.2.1, z.2.2)
def k_np (z : S_m) : Nat := z.1 1
def k_np_ (z : S_m) (v : Nat) : S_m := (up z.1 1 v, z.2.1, z.2.2)
def k_rank (z : S_m) : (Nat → Int32) := z.2.2 0
def k_rank_ (z : S_m) (v : (Nat → Int32)) : S_m := (z.1, z.2.1, up z.2.2 0 v)
def k_in (z : S_m) : (Nat → Int32) := z.2.2 1
def k_in_ (z : S_m) (v : (Nat → Int32)) : S_m := (z.1, z.2.1, up z.2.2 1 v)
def k_arr (z : S_m) : (Nat → Int32) := z.2.2 2
def k_arr_ (z : S_m) (v : (Nat → Int32)) : S_m := (z.1, z.2.1, up z.2.2 2 v)
def k_nu (z : S_m) : Nat := z.1 2
def k_nu_ (z : S_m) (v : Nat) : S_m := (up z.1 2 v, z.2.1, z.2.2)
def k_uin (z : S_m) : (Nat → Int32) := z.2.2 3
def k_uin_ (z : S_m) (v : (Nat → Int32)) : S_m := (z.1, z.2.1, up z.2.2 3 v)
def k_ns (z : S_m) : Nat := z.1 3
def k_ns_ (z : S_m) (v : Nat) : S_m := (up z.1 3 v, z.2.1, z.2.2)
def k_jnd (z : S_m) : (Nat → Int32) := z.2.2 4
def k_jnd_ (z : S_m) (v : (Nat → Int32)) : S_m := (z.1, z.2.1, up z.2.2 4 v)
def k_abv (z : S_m) : (Nat → Int32) := z.2.2 5
def k_abv_ (z : S_m) (v : (Nat → Int32)) : S_m := (z.1, z.2.1, up z.2.2 5 v)
def k_ldr (z : S_m) : (Nat → Int32) := z.2.2 6
def k_ldr_ (z : S_m) (v : (Nat → Int32)) : S_m := (z.1, z.2.1, up z.2.2 6 v)
def k_off (z : S_m) : (Nat → Int32) := z.2.2 7
def k_off_ (z : S_m) (v : (Nat → Int32)) : S_m := (z.1, z.2.1, up z.2.2 7 v)
def k_span (z : S_m) : Nat := z.1 4
def k_span_ (z : S_m) (v : Nat) : S_m := (up z.1 4 v, z.2.1, z.2.2)
def k_nt (z : S_m) : Nat := z.1 5
def k_nt_ (z : S_m) (v : Nat) : S_m := (up z.1 5 v, z.2.1, z.2.2)
def k_tof (z : S_m) : (Nat → Int32) := z.2.2 8
def k_tof_ (z : S_m) (v : (Nat → Int32)) : S_m := (z.1, z.2.1, up z.2.2 8 v)
def k_unt (z : S_m) : (Nat → Int32) := z.2.2 9
def k_unt_ (z : S_m) (v : (Nat → Int32)) : S_m := (z.1, z.2.1, up z.2.2 9 v)
def k_sta (z : S_m) : (Nat → Int32) := z.2.2 10
def k_sta_ (z : S_m) (v : (Nat → Int32)) : S_m := (z.1, z.2.1, up z.2.2 10 v)
def k_ans (z : S_m) : (Nat → Int32) := z.2.2 11
def k_ans_ (z : S_m) (v : (Nat → Int32)) : S_m := (z.1, z.2.1, up z.2.2 11 v)
def k_rows (z : S_m) : Nat := z.1 6
def k_rows_ (z : S_m) (v : Nat) : S_m := (up z.1 6 v, z.2.1, z.2.2)
def k_rs (z : S_m) : (Nat → Int32) := z.2.2 12
def k_rs_ (z : S_m) (v : (Nat → Int32)) : S_m := (z.1, z.2.1, up z.2.2 12 v)
def k_rl (z : S_m) : (Nat → Int32) := z.2.2 13
def k_rl_ (z : S_m) (v : (Nat → Int32)) : S_m := (z.1, z.2.1, up z.2.2 13 v)
def k_rt (z : S_m) : (Nat → Int32) := z.2.2 14
def k_rt_ (z : S_m) (v : (Nat → Int32)) : S_m := (z.1, z.2.1, up z.2.2 14 v)
def k_bef (z : S_m) : (Nat → Int32) := z.2.2 15
def k_bef_ (z : S_m) (v : (Nat → Int32)) : S_m := (z.1, z.2.1, up z.2.2 15 v)
def k_lost (z : S_m) : Int32 := z.2.1 1
def k_lost_ (z : S_m) (v : Int32) : S_m := (z.1, up z.2.1 1 v, z.2.2)
def wC (z : S_c) : ct_W := [.inr (2, [.int (nI (c_sec z)), .int (nI (c_most z)), .int (nI (c_np z)), .ref 1, .ref 2, .ref 3, .ref 4, .int (nI (c_nu z)), .ref 5, .int (nI (c_ns z)), .ref 6, .ref 7, .ref 8, .ref 9, .ref 10, .ref 15]), .inl (0, 40, .inl (c_rank z)), .inl (0, 40, .inl (c_arr z)), .inl (0, 40, .inl (c_sop z)), .inl (0, 40, .inl (c_slb z)), .inl (0, 20, .inl (c_sou z)), .inl (1, 20, .inl (c_opn z)), .inl (0, 20, .inl (c_abv z)), .inl (0, 20, .inl (c_ldr z)), .inl (0, 20, .inl (c_off z)), .inr (1, [.int (nI (t_n z)), .ref 11, .ref 12, .ref 13, .ref 14]), .inl (0, 60, .inl (t_sec z)), .inl (0, 60, .inl (t_unt z)), .inl (0, 60, .inl (t_rep z)), .inl (0, 60, .inl (t_at z)), .inr (0, [.int (nI (r_old z)), .int (nI (r_n z)), .ref 16, .ref 17, .ref 18, .ref 19, .int (nI (r_drop z))]), .inl (0, 400, .inl (r_sec z)), .inl (0, 400, .inl (r_num z)), .inl (0, 400, .inl (r_led z)), .inl (0, 20, .inl (r_bef z))]
def wL (z : S_c) (k : S_m) (o : Nat → Int64) : ct_W := [.inr (2, [.int (nI (c_sec z)), .int (nI (c_most z)), .int (nI (c_np z)), .ref 1, .ref 2, .ref 3, .ref 4, .int (nI (c_nu z)), .ref 5, .int (nI (c_ns z)), .ref 6, .ref 7, .ref 8, .ref 9, .ref 10, .ref 15]), .inl (0, 40, .inl (c_rank z)), .inl (0, 40, .inl (c_arr z)), .inl (0, 40, .inl (c_sop z)), .inl (0, 40, .inl (c_slb z)), .inl (0, 20, .inl (c_sou z)), .inl (1, 20, .inl (c_opn z)), .inl (0, 20, .inl (c_abv z)), .inl (0, 20, .inl (c_ldr z)), .inl (0, 20, .inl (c_off z)), .inr (1, [.int (nI (t_n z)), .ref 11, .ref 12, .ref 13, .ref 14]), .inl (0, 60, .inl (t_sec z)), .inl (0, 60, .inl (t_unt z)), .inl (0, 60, .inl (t_rep z)), .inl (0, 60, .inl (t_at z)), .inr (0, [.int (nI (r_old z)), .int (nI (r_n z)), .ref 16, .ref 17, .ref 18, .ref 19, .int (nI (r_drop z))]), .inl (0, 400, .inl (r_sec z)), .inl (0, 400, .inl (r_num z)), .inl (0, 400, .inl (r_led z)), .inl (0, 20, .inl (r_bef z)), .inr (3, [.int (k_thr k), .int (nI (k_now k)), .int (nI (k_np k)), .ref 21, .ref 22, .ref 23, .int (nI (k_nu k)), .ref 24, .int (nI (k_ns k)), .ref 25, .ref 26, .ref 27, .ref 28, .int (nI (k_span k)), .int (nI (k_nt k)), .ref 29, .ref 30, .ref 31, .ref 32, .int (nI (k_rows k)), .ref 33, .ref 34, .ref 35, .ref 36, .int (k_lost k)]), .inl (0, 40, .inl (k_rank k)), .inl (0, 40, .inl (k_in k)), .inl (0, 40, .inl (k_arr k)), .inl (0, 20, .inl (k_uin k)), .inl (1, 20, .inl (k_jnd k)), .inl (0, 20, .inl (k_abv k)), .inl (0, 20, .inl (k_ldr k)), .inl (0, 20, .inl (k_off k)), .inl (0, 60, .inl (k_tof k)), .inl (0, 60, .inl (k_unt k)), .inl (0, 60, .inl (k_sta k)), .inl (0, 60, .inl (k_ans k)), .inl (0, 400, .inl (k_rs k)), .inl (0, 400, .inl (k_rl k)), .inl (0, 400, .inl (k_rt k)), .inl (0, 20, .inl (k_bef k)), .inl (2, 1, .inr (.inl o))]
end
section
/-! CONTRACTS of the small methods of TaskList and LeaderRows (rows printed by wip/whole/m1.py) -/
def ring (a b : Nat) : Nat := if a + b < 400 then a + b else a + b - 400
theorem ring_lt {a b : Nat} (ha : a < 400) (hb : b ≤ 400) : ring a b < 400 := by unfold ring; split <;> omega
theorem c_ringIndex (X : ct_X) (z : S_c) (k : S_m) (o : Nat → Int64) (a : Nat) (ha : a ≤ 400) (hz : r_old z < 400) : AF X m_R_ringIndex 0 0 0 [.ref 15, .int (nI (a))] (wL z k o) (.inl (some (.int (nI (ring (r_old z) a))))) (wL z k o) := by
  refine AM.of rfl (Nat.le_of_ble_eq_true rfl) (ls := [some (.ref 15), some (.int (nI (a))), none]) rfl ?_
  refine AW.aload_n (pc' := 1) d_R_ringIndex_0 rfl rfl rfl ?_
  refine AW.getf (pc' := 4) d_R_ringIndex_1 rfl fl_R_41 rfl rfl ?_
  refine AW.iload_n (pc' := 5) d_R_ringIndex_4 rfl rfl rfl ?_
  refine AW.iaddN (pc' := 6) d_R_ringIndex_5 rfl ?_
  refine AW.istore_n (pc' := 7) (ls' := [some (.ref 15), some (.int (nI (a))), some (.int (nI ((r_old z) + a)))]) d_R_ringIndex_6 rfl rfl rfl rfl ?_
  refine AW.iload_n (pc' := 8) d_R_ringIndex_7 rfl rfl rfl ?_
  refine AW.sipush (pc' := 11) (v := nI 400) d_R_ringIndex_8 rfl (by decide) ?_
  refine AW.icmp_geN (tgt := 18) (pc' := 14) d_R_ringIndex_11 (by decide) rfl (by omega) (by omega) (fun h11 => ?_) (fun h11 => ?_)
  · refine AW.iload_n (pc' := 19) d_R_ringIndex_18 rfl rfl rfl ?_
    refine AW.sipush (pc' := 22) (v := nI 400) d_R_ringIndex_19 rfl (by decide) ?_
    refine AW.isubN (pc' := 23) d_R_ringIndex_22 rfl (by omega) ?_
    exact AW.iret d_R_ringIndex_23 rfl rfl rfl ⟨by simp only [ring]; rw [if_neg (by omega)], rfl⟩
  · refine AW.iload_n (pc' := 15) d_R_ringIndex_14 rfl rfl rfl ?_
    refine AW.goto (tgt := 23) d_R_ringIndex_15 (by decide) ?_
    exact AW.iret d_R_ringIndex_23 rfl rfl rfl ⟨by simp only [ring]; rw [if_pos (by omega)], rfl⟩
theorem c_dropOldest (X : ct_X) (z : S_c) (k : S_m) (o : Nat → Int64) (j t : Nat) (hz : r_old z < 400) (hj : j < 20) (ej : r_num z (r_old z) = nI j) (et : r_sec z (r_old z) = nI t) (hn : 1 ≤ r_n z) : AF X m_R_dropOldest 1 0 0 [.ref 15] (wL z k o) (.inl none) (wL (r_n_ (r_old_ (r_drop_ (r_bef_ z (upd (r_bef z) j (r_led z (r_old z)))) t) (ring (r_old z) 1)) (r_n z - 1)) k o) := by
  refine AM.of rfl (Nat.le_of_ble_eq_true rfl) (ls := [some (.ref 15)]) rfl ?_
  refine AW.aload_n (pc' := 1) d_R_dropOldest_0 rfl rfl rfl ?_
  refine AW.getf (pc' := 4) d_R_dropOldest_1 rfl fl_R_21 rfl rfl ?_
  refine AW.aload_n (pc' := 5) d_R_dropOldest_4 rfl rfl rfl ?_
  refine AW.getf (pc' := 8) d_R_dropOldest_5 rfl fl_R_15 rfl rfl ?_
  refine AW.aload_n (pc' := 9) d_R_dropOldest_8 rfl rfl rfl ?_
  refine AW.getf (pc' := 12) d_R_dropOldest_9 rfl fl_R_41 rfl rfl ?_
  refine AW.ialdN (pc' := 13) d_R_dropOldest_12 rfl rfl (by omega) (by decide) ?_
  refine AW.top (u := .int (nI j)) (by rw [ej]) ?_
  refine AW.aload_n (pc' := 14) d_R_dropOldest_13 rfl rfl rfl ?_
  refine AW.getf (pc' := 17) d_R_dropOldest_14 rfl fl_R_18 rfl rfl ?_
  refine AW.aload_n (pc' := 18) d_R_dropOldest_17 rfl rfl rfl ?_
  refine AW.getf (pc' := 21) d_R_dropOldest_18 rfl fl_R_41 rfl rfl ?_
  refine AW.ialdN (pc' := 22) d_R_dropOldest_21 rfl rfl (by omega) (by decide) ?_
  refine AW.iastN (pc' := 23) (w' := (wL (r_bef_ z (upd (r_bef z) j ((r_led z) (r_old z)))) k o)) d_R_dropOldest_22 rfl rfl (by omega) (by decide) rfl ?_
  refine AW.aload_n (pc' := 24) d_R_dropOldest_23 rfl rfl rfl ?_
  refine AW.aload_n (pc' := 25) d_R_dropOldest_24 rfl rfl rfl ?_
  refine AW.getf (pc' := 28) d_R_dropOldest_25 rfl fl_R_9 rfl rfl ?_
  refine AW.aload_n (pc' := 29) d_R_dropOldest_28 rfl rfl rfl ?_
  refine AW.getf (pc' := 32) d_R_dropOldest_29 rfl fl_R_41 rfl rfl ?_
  refine AW.top (u := .int (nI (r_old z))) rfl ?_
  refine AW.ialdN (pc' := 33) d_R_dropOldest_32 rfl rfl (by omega) (by decide) ?_
  refine AW.top (u := .int (nI t)) (by show Value.int (r_sec z (r_old z)) = _; rw [et]) ?_
  refine AW.putf (pc' := 36) (w' := (wL (r_drop_ (r_bef_ z (upd (r_bef z) j ((r_led z) (r_old z)))) (t)) k o)) d_R_dropOldest_33 rfl fp_R_44 rfl rfl (fun _ => ⟨rfl, rfl⟩) rfl rfl ?_
  refine AW.aload_n (pc' := 37) d_R_dropOldest_36 rfl rfl rfl ?_
  refine AW.aload_n (pc' := 38) d_R_dropOldest_37 rfl rfl rfl ?_
  refine AW.iconst (pc' := 39) (v := nI 1) d_R_dropOldest_38 rfl (by decide) ?_
  refine AW.cV (pc' := 42) d_R_dropOldest_39 rfl cv_R_37 (by decide) rfl rfl rfl (c_ringIndex X (r_drop_ (r_bef_ z (upd (r_bef z) j ((r_led z) (r_old z)))) (t)) k o 1 (by decide) hz) rfl rfl rfl rfl rfl rfl rfl ?_
  refine AW.putf (pc' := 45) (w' := (wL (r_old_ (r_drop_ (r_bef_ z (upd (r_bef z) j ((r_led z) (r_old z)))) (t)) (ring (r_old z) 1)) k o)) d_R_dropOldest_42 rfl fp_R_41 rfl rfl (fun _ => ⟨rfl, rfl⟩) rfl rfl ?_
  refine AW.aload_n (pc' := 46) d_R_dropOldest_45 rfl rfl rfl ?_
  refine AW.dup (pc' := 47) d_R_dropOldest_46 rfl rfl ?_
  refine AW.getf (pc' := 50) d_R_dropOldest_47 rfl fl_R_30 rfl rfl ?_
  refine AW.top (u := .int (nI (r_n z))) rfl ?_
  refine AW.iconst (pc' := 51) (v := nI 1) d_R_dropOldest_50 rfl (by decide) ?_
  refine AW.isubN (pc' := 52) d_R_dropOldest_51 rfl (by omega) ?_
  refine AW.putf (pc' := 55) (w' := (wL (r_n_ (r_old_ (r_drop_ (r_bef_ z (upd (r_bef z) j ((r_led z) (r_old z)))) (t)) (ring (r_old z) 1)) ((r_n z) - 1)) k o)) d_R_dropOldest_52 rfl fp_R_30 rfl rfl (fun _ => ⟨rfl, rfl⟩) rfl rfl ?_
  exact AW.vret d_R_dropOldest_55 rfl rfl rfl ⟨rfl, rfl⟩
theorem c_note_s (X : ct_X) (z : S_c) (k : S_m) (o : Nat → Int64) (t : Nat) (s p : Int32) (hz' : r_old z < 400) (hn : r_n z < 400) : AF X m_R_note 2 0 0 [.ref 15, .int (nI (t)), .int (s), .int (p)] (wL z k o) (.inl none) (wL (r_n_ (r_led_ (r_num_ (r_sec_ z (upd (r_sec z) (ring (r_old z) (r_n z)) (nI t))) (upd (r_num z) (ring (r_old z) (r_n z)) s)) (upd (r_led z) (ring (r_old z) (r_n z)) p)) (r_n z + 1)) k o) := by
  refine AM.of rfl (Nat.le_of_ble_eq_true rfl) (ls := [some (.ref 15), some (.int (nI (t))), some (.int (s)), some (.int (p)), none]) rfl ?_
  refine AW.aload_n (pc' := 1) d_R_note_0 rfl rfl rfl ?_
  refine AW.getf (pc' := 4) d_R_note_1 rfl fl_R_30 rfl rfl ?_
  refine AW.sipush (pc' := 7) (v := nI 400) d_R_note_4 rfl (by decide) ?_
  refine AW.icmp_ltN (tgt := 14) (pc' := 10) d_R_note_7 (by decide) rfl (by omega) (by omega) (fun _ => ?_) (fun h => absurd h (by omega))
  refine AW.aload_n (pc' := 15) d_R_note_14 rfl rfl rfl ?_
  refine AW.aload_n (pc' := 16) d_R_note_15 rfl rfl rfl ?_
  refine AW.getf (pc' := 19) d_R_note_16 rfl fl_R_30 rfl rfl ?_
  refine AW.cV (pc' := 22) d_R_note_19 rfl cv_R_37 (by decide) rfl rfl rfl (c_ringIndex X z k o (r_n z) (by omega) hz') rfl rfl rfl rfl rfl rfl rfl ?_
  refine AW.istore (pc' := 24) (ls' := [some (.ref 15), some (.int (nI (t))), some (.int (s)), some (.int (p)), some (.int (nI (ring (r_old z) (r_n z))))]) d_R_note_22 rfl rfl rfl ?_
  refine AW.aload_n (pc' := 25) d_R_note_24 rfl rfl rfl ?_
  refine AW.getf (pc' := 28) d_R_note_25 rfl fl_R_9 rfl rfl ?_
  refine AW.iload (pc' := 30) d_R_note_28 rfl rfl ?_
  refine AW.iload_n (pc' := 31) d_R_note_30 rfl rfl rfl ?_
  refine AW.iastN (pc' := 32) (w' := (wL (r_sec_ z (upd (r_sec z) (ring (r_old z) (r_n z)) (nI (t)))) k o)) d_R_note_31 rfl rfl (ring_lt hz' (by omega)) (by decide) rfl ?_
  refine AW.aload_n (pc' := 33) d_R_note_32 rfl rfl rfl ?_
  refine AW.getf (pc' := 36) d_R_note_33 rfl fl_R_15 rfl rfl ?_
  refine AW.iload (pc' := 38) d_R_note_36 rfl rfl ?_
  refine AW.iload_n (pc' := 39) d_R_note_38 rfl rfl rfl ?_
  refine AW.iastN (pc' := 40) (w' := (wL (r_num_ (r_sec_ z (upd (r_sec z) (ring (r_old z) (r_n z)) (nI (t)))) (upd (r_num z) (ring (r_old z) (r_n z)) s)) k o)) d_R_note_39 rfl rfl (ring_lt hz' (by omega)) (by decide) rfl ?_
  refine AW.aload_n (pc' := 41) d_R_note_40 rfl rfl rfl ?_
  refine AW.getf (pc' := 44) d_R_note_41 rfl fl_R_18 rfl rfl ?_
  refine AW.iload (pc' := 46) d_R_note_44 rfl rfl ?_
  refine AW.iload_n (pc' := 47) d_R_note_46 rfl rfl rfl ?_
  refine AW.iastN (pc' := 48) (w' := (wL (r_led_ (r_num_ (r_sec_ z (upd (r_sec z) (ring (r_old z) (r_n z)) (nI (t)))) (upd (r_num z) (ring (r_old z) (r_n z)) s)) (upd (r_led z) (ring (r_old z) (r_n z)) p)) k o)) d_R_note_47 rfl rfl (ring_lt hz' (by omega)) (by decide) rfl ?_
  refine AW.aload_n (pc' := 49) d_R_note_48 rfl rfl rfl ?_
  refine AW.dup (pc' := 50) d_R_note_49 rfl rfl ?_
  refine AW.getf (pc' := 53) d_R_note_50 rfl fl_R_30 rfl rfl ?_
  refine AW.top (u := .int (nI (r_n z))) rfl ?_
  refine AW.iconst (pc' := 54) (v := nI 1) d_R_note_53 rfl (by decide) ?_
  refine AW.iaddN (pc' := 55) d_R_note_54 rfl ?_
  refine AW.putf (pc' := 58) (w' := (wL (r_n_ (r_led_ (r_num_ (r_sec_ z (upd (r_sec z) (ring (r_old z) (r_n z)) (nI (t)))) (upd (r_num z) (ring (r_old z) (r_n z)) s)) (upd (r_led z) (ring (r_old z) (r_n z)) p)) ((r_n z) + 1)) k o)) d_R_note_55 rfl fp_R_30 rfl rfl (fun _ => ⟨rfl, rfl⟩) rfl rfl ?_
  exact AW.vret d_R_note_58 rfl rfl rfl ⟨rfl, rfl⟩
theorem c_reach_t (X : ct_X) (z : S_c) (k : S_m) (o : Nat → Int64) (t : Nat) (ht : t < 2 ^ 31) (hd : r_drop z ≤ t) : AF X m_R_reachBackTo 0 0 0 [.ref 15, .int (nI (t))] (wL z k o) (.inl (some (.int (nI 1)))) (wL z k o) := by
  refine AM.of rfl (Nat.le_of_ble_eq_true rfl) (ls := [some (.ref 15), some (.int (nI (t)))]) rfl ?_
  refine AW.iload_n (pc' := 1) d_R_reachBackTo_0 rfl rfl rfl ?_
  refine AW.aload_n (pc' := 2) d_R_reachBackTo_1 rfl rfl rfl ?_
  refine AW.getf (pc' := 5) d_R_reachBackTo_2 rfl fl_R_44 rfl rfl ?_
  refine AW.icmp_ltN (tgt := 12) (pc' := 8) d_R_reachBackTo_5 (by decide) rfl (by omega) (by omega) (fun h => absurd h (by omega)) (fun h5 => ?_)
  refine AW.iconst (pc' := 9) (v := nI 1) d_R_reachBackTo_8 rfl (by decide) ?_
  refine AW.goto (tgt := 13) d_R_reachBackTo_9 (by decide) ?_
  exact AW.zret d_R_reachBackTo_13 rfl (by decide) rfl rfl ⟨rfl, rfl⟩
theorem c_reach_f (X : ct_X) (z : S_c) (k : S_m) (o : Nat → Int64) (t : Nat) (ht : r_drop z < 2 ^ 31) (hd : t < r_drop z) : AF X m_R_reachBackTo 0 0 0 [.ref 15, .int (nI (t))] (wL z k o) (.inl (some (.int (nI 0)))) (wL z k o) := by
  refine AM.of rfl (Nat.le_of_ble_eq_true rfl) (ls := [some (.ref 15), some (.int (nI (t)))]) rfl ?_
  refine AW.iload_n (pc' := 1) d_R_reachBackTo_0 rfl rfl rfl ?_
  refine AW.aload_n (pc' := 2) d_R_reachBackTo_1 rfl rfl rfl ?_
  refine AW.getf (pc' := 5) d_R_reachBackTo_2 rfl fl_R_44 rfl rfl ?_
  refine AW.icmp_ltN (tgt := 12) (pc' := 8) d_R_reachBackTo_5 (by decide) rfl (by omega) (by omega) (fun h5 => ?_) (fun h => absurd h (by omega))
  refine AW.iconst (pc' := 13) (v := nI 0) d_R_reachBackTo_12 rfl (by decide) ?_
  exact AW.zret d_R_reachBackTo_13 rfl (by decide) rfl rfl ⟨rfl, rfl⟩
theorem c_isFull_t (X : ct_X) (z : S_c) (k : S_m) (o : Nat → Int64) (h : 60 ≤ t_n z) (h2 : t_n z < 2 ^ 31) : AF X m_T_isFull 0 0 0 [.ref 10] (wL z k o) (.inl (some (.int (nI 1)))) (wL z k o) := by
  refine AM.of rfl (Nat.le_of_ble_eq_true rfl) (ls := [some (.ref 10)]) rfl ?_
  refine AW.aload_n (pc' := 1) d_T_isFull_0 rfl rfl rfl ?_
  refine AW.getf (pc' := 4) d_T_isFull_1 rfl fl_T_30 rfl rfl ?_
  refine AW.bipush (pc' := 6) (v := nI 60) d_T_isFull_4 rfl (by decide) ?_
  refine AW.icmp_ltN (tgt := 13) (pc' := 9) d_T_isFull_6 (by decide) rfl (by omega) (by omega) (fun h => absurd h (by omega)) (fun h6 => ?_)
  refine AW.iconst (pc' := 10) (v := nI 1) d_T_isFull_9 rfl (by decide) ?_
  refine AW.goto (tgt := 14) d_T_isFull_10 (by decide) ?_
  exact AW.zret d_T_isFull_14 rfl (by decide) rfl rfl ⟨rfl, rfl⟩
theorem c_isFull_f (X : ct_X) (z : S_c) (k : S_m) (o : Nat → Int64) (h : t_n z < 60) : AF X m_T_isFull 0 0 0 [.ref 10] (wL z k o) (.inl (some (.int (nI 0)))) (wL z k o) := by
  refine AM.of rfl (Nat.le_of_ble_eq_true rfl) (ls := [some (.ref 10)]) rfl ?_
  refine AW.aload_n (pc' := 1) d_T_isFull_0 rfl rfl rfl ?_
  refine AW.getf (pc' := 4) d_T_isFull_1 rfl fl_T_30 rfl rfl ?_
  refine AW.bipush (pc' := 6) (v := nI 60) d_T_isFull_4 rfl (by decide) ?_
  refine AW.icmp_ltN (tgt := 13) (pc' := 9) d_T_isFull_6 (by decide) rfl (by omega) (by omega) (fun h6 => ?_) (fun h => absurd h (by omega))
  refine AW.iconst (pc' := 14) (v := nI 0) d_T_isFull_13 rfl (by decide) ?_
  exact AW.zret d_T_isFull_14 rfl (by decide) rfl rfl ⟨rfl, rfl⟩
theorem c_has_t (X : ct_X) (z : S_c) (k : S_m) (o : Nat → Int64) (j : Nat) (h : j < t_n z) (h2 : t_n z < 2 ^ 31) : AF X m_T_has 0 0 0 [.ref 10, .int (nI (j))] (wL z k o) (.inl (some (.int (nI 1)))) (wL z k o) := by
  refine AM.of rfl (Nat.le_of_ble_eq_true rfl) (ls := [some (.ref 10), some (.int (nI (j)))]) rfl ?_
  refine AW.iload_n (pc' := 1) d_T_has_0 rfl rfl rfl ?_
  refine AW.if_lt (tgt := 16) (pc' := 4) d_T_has_1 (by decide) rfl (fun h => absurd h (nI_pos (by omega))) (fun _ => ?_)
  refine AW.iload_n (pc' := 5) d_T_has_4 rfl rfl rfl ?_
  refine AW.aload_n (pc' := 6) d_T_has_5 rfl rfl rfl ?_
  refine AW.getf (pc' := 9) d_T_has_6 rfl fl_T_30 rfl rfl ?_
  refine AW.icmp_geN (tgt := 16) (pc' := 12) d_T_has_9 (by decide) rfl (by omega) (by omega) (fun h => absurd h (by omega)) (fun h9 => ?_)
  refine AW.iconst (pc' := 13) (v := nI 1) d_T_has_12 rfl (by decide) ?_
  refine AW.goto (tgt := 17) d_T_has_13 (by decide) ?_
  exact AW.zret d_T_has_17 rfl (by decide) rfl rfl ⟨rfl, rfl⟩
theorem c_has_f (X : ct_X) (z : S_c) (k : S_m) (o : Nat → Int64) (x : Int32) (hx : x < 0 ∨ nI (t_n z) ≤ x) : AF X m_T_has 0 0 0 [.ref 10, .int (x)] (wL z k o) (.inl (some (.int (nI 0)))) (wL z k o) := by
  refine AM.of rfl (Nat.le_of_ble_eq_true rfl) (ls := [some (.ref 10), some (.int (x))]) rfl ?_
  refine AW.iload_n (pc' := 1) d_T_has_0 rfl rfl rfl ?_
  refine AW.if_lt (tgt := 16) (pc' := 4) d_T_has_1 (by decide) rfl (fun h1 => ?_) (fun h1 => ?_)
  · refine AW.iconst (pc' := 17) (v := nI 0) d_T_has_16 rfl (by decide) ?_
    exact AW.zret d_T_has_17 rfl (by decide) rfl rfl ⟨rfl, rfl⟩
  · refine AW.iload_n (pc' := 5) d_T_has_4 rfl rfl rfl ?_
    refine AW.aload_n (pc' := 6) d_T_has_5 rfl rfl rfl ?_
    refine AW.getf (pc' := 9) d_T_has_6 rfl fl_T_30 rfl rfl ?_
    refine AW.icmp_ge (tgt := 16) (pc' := 12) d_T_has_9 (by decide) rfl (fun h9 => ?_) (fun h => (hx.elim (fun q => absurd q h1) (fun q => absurd q h)))
    refine AW.iconst (pc' := 17) (v := nI 0) d_T_has_16 rfl (by decide) ?_
    exact AW.zret d_T_has_17 rfl (by decide) rfl rfl ⟨rfl, rfl⟩
theorem c_add (X : ct_X) (z : S_c) (k : S_m) (o : Nat → Int64) (s u : Int32) (h : t_n z < 60) : AF X m_T_add 1 0 0 [.ref 10, .int (s), .int (u)] (wL z k o) (.inl (some (.int (nI (t_n z))))) (wL (t_n_ (t_unt_ (t_sec_ z (upd (t_sec z) (t_n z) s)) (upd (t_unt z) (t_n z) u)) (t_n z + 1)) k o) := by
  refine AM.of rfl (Nat.le_of_ble_eq_true rfl) (ls := [some (.ref 10), some (.int (s)), some (.int (u)), none]) rfl ?_
  refine AW.aload_n (pc' := 1) d_T_add_0 rfl rfl rfl ?_
  refine AW.cV (pc' := 4) d_T_add_1 rfl cv_T_34 (by decide) rfl rfl rfl (c_isFull_f X z k o h) rfl rfl rfl rfl rfl rfl rfl ?_
  refine AW.if_eq (tgt := 9) (pc' := 7) d_T_add_4 (by decide) rfl (fun _ => ?_) (fun h => absurd h (by decide))
  refine AW.aload_n (pc' := 10) d_T_add_9 rfl rfl rfl ?_
  refine AW.getf (pc' := 13) d_T_add_10 rfl fl_T_30 rfl rfl ?_
  refine AW.istore_n (pc' := 14) (ls' := [some (.ref 10), some (.int (s)), some (.int (u)), some (.int (nI (t_n z)))]) d_T_add_13 rfl rfl rfl rfl ?_
  refine AW.aload_n (pc' := 15) d_T_add_14 rfl rfl rfl ?_
  refine AW.getf (pc' := 18) d_T_add_15 rfl fl_T_9 rfl rfl ?_
  refine AW.iload_n (pc' := 19) d_T_add_18 rfl rfl rfl ?_
  refine AW.iload_n (pc' := 20) d_T_add_19 rfl rfl rfl ?_
  refine AW.iastN (pc' := 21) (w' := (wL (t_sec_ z (upd (t_sec z) (t_n z) s)) k o)) d_T_add_20 rfl rfl (by omega) (by decide) rfl ?_
  refine AW.aload_n (pc' := 22) d_T_add_21 rfl rfl rfl ?_
  refine AW.getf (pc' := 25) d_T_add_22 rfl fl_T_15 rfl rfl ?_
  refine AW.iload_n (pc' := 26) d_T_add_25 rfl rfl rfl ?_
  refine AW.iload_n (pc' := 27) d_T_add_26 rfl rfl rfl ?_
  refine AW.iastN (pc' := 28) (w' := (wL (t_unt_ (t_sec_ z (upd (t_sec z) (t_n z) s)) (upd (t_unt z) (t_n z) u)) k o)) d_T_add_27 rfl rfl (by omega) (by decide) rfl ?_
  refine AW.aload_n (pc' := 29) d_T_add_28 rfl rfl rfl ?_
  refine AW.dup (pc' := 30) d_T_add_29 rfl rfl ?_
  refine AW.getf (pc' := 33) d_T_add_30 rfl fl_T_30 rfl rfl ?_
  refine AW.top (u := .int (nI (t_n z))) rfl ?_
  refine AW.iconst (pc' := 34) (v := nI 1) d_T_add_33 rfl (by decide) ?_
  refine AW.iaddN (pc' := 35) d_T_add_34 rfl ?_
  refine AW.putf (pc' := 38) (w' := (wL (t_n_ (t_unt_ (t_sec_ z (upd (t_sec z) (t_n z) s)) (upd (t_unt z) (t_n z) u)) ((t_n z) + 1)) k o)) d_T_add_35 rfl fp_T_30 rfl rfl (fun _ => ⟨rfl, rfl⟩) rfl rfl ?_
  refine AW.iload_n (pc' := 39) d_T_add_38 rfl rfl rfl ?_
  exact AW.iret d_T_add_39 rfl rfl rfl ⟨rfl, rfl⟩
theorem c_isAnswered_t (X : ct_X) (z : S_c) (k : S_m) (o : Nat → Int64) (j : Nat) (h : j < 60) (h2 : ¬ t_rep z j = 0) : AF X m_T_isAnswered 0 0 0 [.ref 10, .int (nI (j))] (wL z k o) (.inl (some (.int (nI 1)))) (wL z k o) := by
  refine AM.of rfl (Nat.le_of_ble_eq_true rfl) (ls := [some (.ref 10), some (.int (nI (j)))]) rfl ?_
  refine AW.aload_n (pc' := 1) d_T_isAnswered_0 rfl rfl rfl ?_
  refine AW.getf (pc' := 4) d_T_isAnswered_1 rfl fl_T_18 rfl rfl ?_
  refine AW.iload_n (pc' := 5) d_T_isAnswered_4 rfl rfl rfl ?_
  refine AW.ialdN (pc' := 6) d_T_isAnswered_5 rfl rfl (by omega) (by decide) ?_
  refine AW.if_eq (tgt := 13) (pc' := 9) d_T_isAnswered_6 (by decide) rfl (fun h => absurd h h2) (fun h6 => ?_)
  refine AW.iconst (pc' := 10) (v := nI 1) d_T_isAnswered_9 rfl (by decide) ?_
  refine AW.goto (tgt := 14) d_T_isAnswered_10 (by decide) ?_
  exact AW.zret d_T_isAnswered_14 rfl (by decide) rfl rfl ⟨rfl, rfl⟩
theorem c_isAnswered_f (X : ct_X) (z : S_c) (k : S_m) (o : Nat → Int64) (j : Nat) (h : j < 60) (h2 : t_rep z j = 0) : AF X m_T_isAnswered 0 0 0 [.ref 10, .int (nI (j))] (wL z k o) (.inl (some (.int (nI 0)))) (wL z k o) := by
  refine AM.of rfl (Nat.le_of_ble_eq_true rfl) (ls := [some (.ref 10), some (.int (nI (j)))]) rfl ?_
  refine AW.aload_n (pc' := 1) d_T_isAnswered_0 rfl rfl rfl ?_
  refine AW.getf (pc' := 4) d_T_isAnswered_1 rfl fl_T_18 rfl rfl ?_
  refine AW.iload_n (pc' := 5) d_T_isAnswered_4 rfl rfl rfl ?_
  refine AW.ialdN (pc' := 6) d_T_isAnswered_5 rfl rfl (by omega) (by decide) ?_
  refine AW.if_eq (tgt := 13) (pc' := 9) d_T_isAnswered_6 (by decide) rfl (fun h6 => ?_) (fun h => absurd h2 h)
  refine AW.iconst (pc' := 14) (v := nI 0) d_T_isAnswered_13 rfl (by decide) ?_
  exact AW.zret d_T_isAnswered_14 rfl (by decide) rfl rfl ⟨rfl, rfl⟩
theorem c_setAnswer_t (X : ct_X) (z : S_c) (k : S_m) (o : Nat → Int64) (j t : Nat) (h : j < 60) : AF X m_T_setAnswer 0 0 0 [.ref 10, .int (nI (j)), .int (nI (1)), .int (nI (t))] (wL z k o) (.inl none) (wL (t_at_ (t_rep_ z (upd (t_rep z) j (nI 1))) (upd (t_at z) j (nI t))) k o) := by
  refine AM.of rfl (Nat.le_of_ble_eq_true rfl) (ls := [some (.ref 10), some (.int (nI (j))), some (.int (nI (1))), some (.int (nI (t)))]) rfl ?_
  refine AW.aload_n (pc' := 1) d_T_setAnswer_0 rfl rfl rfl ?_
  refine AW.getf (pc' := 4) d_T_setAnswer_1 rfl fl_T_18 rfl rfl ?_
  refine AW.iload_n (pc' := 5) d_T_setAnswer_4 rfl rfl rfl ?_
  refine AW.iload_n (pc' := 6) d_T_setAnswer_5 rfl rfl rfl ?_
  refine AW.if_eq (tgt := 13) (pc' := 9) d_T_setAnswer_6 (by decide) rfl (fun h => absurd h (by decide)) (fun _ => ?_)
  refine AW.iconst (pc' := 10) (v := nI 1) d_T_setAnswer_9 rfl (by decide) ?_
  refine AW.goto (tgt := 14) d_T_setAnswer_10 (by decide) ?_
  refine AW.iastN (pc' := 15) (w' := (wL (t_rep_ z (upd (t_rep z) j (nI (1)))) k o)) d_T_setAnswer_14 rfl rfl (by omega) (by decide) rfl ?_
  refine AW.aload_n (pc' := 16) d_T_setAnswer_15 rfl rfl rfl ?_
  refine AW.getf (pc' := 19) d_T_setAnswer_16 rfl fl_T_21 rfl rfl ?_
  refine AW.iload_n (pc' := 20) d_T_setAnswer_19 rfl rfl rfl ?_
  refine AW.iload_n (pc' := 21) d_T_setAnswer_20 rfl rfl rfl ?_
  refine AW.iastN (pc' := 22) (w' := (wL (t_at_ (t_rep_ z (upd (t_rep z) j (nI (1)))) (upd (t_at z) j (nI (t)))) k o)) d_T_setAnswer_21 rfl rfl (by omega) (by decide) rfl ?_
  exact AW.vret d_T_setAnswer_22 rfl rfl rfl ⟨rfl, rfl⟩
theorem c_setAnswer_f (X : ct_X) (z : S_c) (k : S_m) (o : Nat → Int64) (j t : Nat) (h : j < 60) : AF X m_T_setAnswer 0 0 0 [.ref 10, .int (nI (j)), .int (nI (0)), .int (nI (t))] (wL z k o) (.inl none) (wL (t_at_ (t_rep_ z (upd (t_rep z) j (nI 2))) (upd (t_at z) j (nI t))) k o) := by
  refine AM.of rfl (Nat.le_of_ble_eq_true rfl) (ls := [some (.ref 10), some (.int (nI (j))), some (.int (nI (0))), some (.int (nI (t)))]) rfl ?_
  refine AW.aload_n (pc' := 1) d_T_setAnswer_0 rfl rfl rfl ?_
  refine AW.getf (pc' := 4) d_T_setAnswer_1 rfl fl_T_18 rfl rfl ?_
  refine AW.iload_n (pc' := 5) d_T_setAnswer_4 rfl rfl rfl ?_
  refine AW.iload_n (pc' := 6) d_T_setAnswer_5 rfl rfl rfl ?_
  refine AW.if_eq (tgt := 13) (pc' := 9) d_T_setAnswer_6 (by decide) rfl (fun _ => ?_) (fun h => absurd h (by decide))
  refine AW.iconst (pc' := 14) (v := nI 2) d_T_setAnswer_13 rfl (by decide) ?_
  refine AW.iastN (pc' := 15) (w' := (wL (t_rep_ z (upd (t_rep z) j (nI (2)))) k o)) d_T_setAnswer_14 rfl rfl (by omega) (by decide) rfl ?_
  refine AW.aload_n (pc' := 16) d_T_setAnswer_15 rfl rfl rfl ?_
  refine AW.getf (pc' := 19) d_T_setAnswer_16 rfl fl_T_21 rfl rfl ?_
  refine AW.iload_n (pc' := 20) d_T_setAnswer_19 rfl rfl rfl ?_
  refine AW.iload_n (pc' := 21) d_T_setAnswer_20 rfl rfl rfl ?_
  refine AW.iastN (pc' := 22) (w' := (wL (t_at_ (t_rep_ z (upd (t_rep z) j (nI (2)))) (upd (t_at z) j (nI (t)))) k o)) d_T_setAnswer_21 rfl rfl (by omega) (by decide) rfl ?_
  exact AW.vret d_T_setAnswer_22 rfl rfl rfl ⟨rfl, rfl⟩
theorem c_sectorOf (X : ct_X) (z : S_c) (k : S_m) (o : Nat → Int64) (j : Nat) (h : j < 60) : AF X m_T_sectorOf 0 0 0 [.ref 10, .int (nI (j))] (wL z k o) (.inl (some (.int (t_sec z j)))) (wL z k o) := by
  refine AM.of rfl (Nat.le_of_ble_eq_true rfl) (ls := [some (.ref 10), some (.int (nI (j)))]) rfl ?_
  refine AW.aload_n (pc' := 1) d_T_sectorOf_0 rfl rfl rfl ?_
  refine AW.getf (pc' := 4) d_T_sectorOf_1 rfl fl_T_9 rfl rfl ?_
  refine AW.iload_n (pc' := 5) d_T_sectorOf_4 rfl rfl rfl ?_
  refine AW.ialdN (pc' := 6) d_T_sectorOf_5 rfl rfl (by omega) (by decide) ?_
  exact AW.iret d_T_sectorOf_6 rfl rfl rfl ⟨rfl, rfl⟩
theorem c_answeredAt (X : ct_X) (z : S_c) (k : S_m) (o : Nat → Int64) (j : Nat) (h : j < 60) : AF X m_T_answeredAt 0 0 0 [.ref 10, .int (nI (j))] (wL z k o) (.inl (some (.int (t_at z j)))) (wL z k o) := by
  refine AM.of rfl (Nat.le_of_ble_eq_true rfl) (ls := [some (.ref 10), some (.int (nI (j)))]) rfl ?_
  refine AW.aload_n (pc' := 1) d_T_answeredAt_0 rfl rfl rfl ?_
  refine AW.getf (pc' := 4) d_T_answeredAt_1 rfl fl_T_21 rfl rfl ?_
  refine AW.iload_n (pc' := 5) d_T_answeredAt_4 rfl rfl rfl ?_
  refine AW.ialdN (pc' := 6) d_T_answeredAt_5 rfl rfl (by omega) (by decide) ?_
  exact AW.iret d_T_answeredAt_6 rfl rfl rfl ⟨rfl, rfl⟩
/-- what a task is at the second t -/
def f_state (z : S_c) (j t : Nat) : Int32 := if t_rep z j = 0 then (if t_unt z j < nI t then nI 3 else nI 0) else t_rep z j
theorem c_stateOf_0 (X : ct_X) (z : S_c) (k : S_m) (o : Nat → Int64) (j t : Nat) (h : j < 60) (h2 : t_rep z j = 0) : AF X m_T_stateOf 1 0 0 [.ref 10, .int (nI (j)), .int (nI (t))] (wL z k o) (.inl (some (.int (f_state z j t)))) (wL z k o) := by
  refine AM.of rfl (Nat.le_of_ble_eq_true rfl) (ls := [some (.ref 10), some (.int (nI (j))), some (.int (nI (t)))]) rfl ?_
  refine AW.aload_n (pc' := 1) d_T_stateOf_0 rfl rfl rfl ?_
  refine AW.iload_n (pc' := 2) d_T_stateOf_1 rfl rfl rfl ?_
  refine AW.cV (pc' := 5) d_T_stateOf_2 rfl cv_T_38 (by decide) rfl rfl rfl (c_isAnswered_f X z k o j h h2) rfl rfl rfl rfl rfl rfl rfl ?_
  refine AW.if_eq (tgt := 15) (pc' := 8) d_T_stateOf_5 (by decide) rfl (fun _ => ?_) (fun h => absurd h (by decide))
  refine AW.iload_n (pc' := 16) d_T_stateOf_15 rfl rfl rfl ?_
  refine AW.aload_n (pc' := 17) d_T_stateOf_16 rfl rfl rfl ?_
  refine AW.getf (pc' := 20) d_T_stateOf_17 rfl fl_T_15 rfl rfl ?_
  refine AW.iload_n (pc' := 21) d_T_stateOf_20 rfl rfl rfl ?_
  refine AW.ialdN (pc' := 22) d_T_stateOf_21 rfl rfl (by omega) (by decide) ?_
  refine AW.icmp_le (tgt := 29) (pc' := 25) d_T_stateOf_22 (by decide) rfl (fun h22 => ?_) (fun h22 => ?_)
  · refine AW.iconst (pc' := 30) (v := nI 0) d_T_stateOf_29 rfl (by decide) ?_
    exact AW.iret d_T_stateOf_30 rfl rfl rfl ⟨by simp only [f_state]; first | rw [if_pos h2, if_pos (Int32.not_le.mp h22)] | rw [if_pos h2, if_neg (Int32.not_lt.mpr h22)], rfl⟩
  · refine AW.iconst (pc' := 26) (v := nI 3) d_T_stateOf_25 rfl (by decide) ?_
    refine AW.goto (tgt := 30) d_T_stateOf_26 (by decide) ?_
    exact AW.iret d_T_stateOf_30 rfl rfl rfl ⟨by simp only [f_state]; first | rw [if_pos h2, if_pos (Int32.not_le.mp h22)] | rw [if_pos h2, if_neg (Int32.not_lt.mpr h22)], rfl⟩
theorem c_stateOf_1 (X : ct_X) (z : S_c) (k : S_m) (o : Nat → Int64) (j t : Nat) (h : j < 60) (h2 : ¬ t_rep z j = 0) : AF X m_T_stateOf 1 0 0 [.ref 10, .int (nI (j)), .int (nI (t))] (wL z k o) (.inl (some (.int (f_state z j t)))) (wL z k o) := by
  refine AM.of rfl (Nat.le_of_ble_eq_true rfl) (ls := [some (.ref 10), some (.int (nI (j))), some (.int (nI (t)))]) rfl ?_
  refine AW.aload_n (pc' := 1) d_T_stateOf_0 rfl rfl rfl ?_
  refine AW.iload_n (pc' := 2) d_T_stateOf_1 rfl rfl rfl ?_
  refine AW.cV (pc' := 5) d_T_stateOf_2 rfl cv_T_38 (by decide) rfl rfl rfl (c_isAnswered_t X z k o j h h2) rfl rfl rfl rfl rfl rfl rfl ?_
  refine AW.if_eq (tgt := 15) (pc' := 8) d_T_stateOf_5 (by decide) rfl (fun h => absurd h (by decide)) (fun _ => ?_)
  refine AW.aload_n (pc' := 9) d_T_stateOf_8 rfl rfl rfl ?_
  refine AW.getf (pc' := 12) d_T_stateOf_9 rfl fl_T_18 rfl rfl ?_
  refine AW.iload_n (pc' := 13) d_T_stateOf_12 rfl rfl rfl ?_
  refine AW.ialdN (pc' := 14) d_T_stateOf_13 rfl rfl (by omega) (by decide) ?_
  exact AW.iret d_T_stateOf_14 rfl rfl rfl ⟨by simp only [f_state]; rw [if_neg h2], rfl⟩
theorem c_stateOf (X : ct_X) (z : S_c) (k : S_m) (o : Nat → Int64) (j t : Nat) (h : j < 60) : AF X m_T_stateOf 1 0 0 [.ref 10, .int (nI (j)), .int (nI (t))] (wL z k o) (.inl (some (.int (f_state z j t)))) (wL z k o) := by
  by_cases h2 : t_rep z j = 0
  · exact c_stateOf_0 X z k o j t h h2
  · exact c_stateOf_1 X z k o j t h h2
end
section
/-! LOOPS over any int array: fill, count, replace -/
theorem ct_setSame {w : ct_W} {r : Nat} {c : ct_E} (h : w[r]? = some c) : w.set r c = w := by
  apply List.ext_getElem?
  intro i
  rw [List.getElem?_set]
  by_cases e : r = i
  · subst e
    have hl := (List.getElem?_eq_some_iff.mp h).1
    rw [if_pos rfl, if_pos hl, h]
  · rw [if_neg e]
theorem ct_setAt {w : ct_W} {r : Nat} {c c' : ct_E} (h : w[r]? = some c) : (w.set r c')[r]? = some c' := by
  have hl := (List.getElem?_eq_some_iff.mp h).1
  rw [List.getElem?_set, if_pos rfl, if_pos hl]
theorem lp_fill (X : ct_X) (r n : Nat) (v : Int32) (hn : n < 2 ^ 31) : ∀ (m i : Nat) (g : Nat → Int32) (w : ct_W), i + m = n → w[r]? = some (.inl (0, n, .inl g)) →
    AW X m_A_fill 0 0 0 0 0 5 [some (.ref r), some (.int v), some (.int (nI i)), some (.int (nI n))] [] w (fun r' w' => r' = .inl none ∧ w' = w.set r (.inl (0, n, .inl (fun j => if i ≤ j ∧ j < n then v else g j)))) := by
  intro m
  induction m with
  | zero =>
    intro i g w hi hw
    refine AW.iload_n (pc' := 6) d_A_fill_5 rfl rfl rfl ?_
    refine AW.iload_n (pc' := 7) d_A_fill_6 rfl rfl rfl ?_
    refine AW.icmp_geN (tgt := 20) (pc' := 10) d_A_fill_7 (by decide) rfl (by omega) (by omega) (fun h => ?_) (fun h => absurd h (by omega))
    refine AW.vret d_A_fill_20 rfl rfl rfl ⟨rfl, ?_⟩
    have e : (fun j => if i ≤ j ∧ j < n then v else g j) = g := by
      funext j
      rw [if_neg (by omega)]
    rw [e, ct_setSame hw]
  | succ m ih =>
    intro i g w hi hw
    refine AW.iload_n (pc' := 6) d_A_fill_5 rfl rfl rfl ?_
    refine AW.iload_n (pc' := 7) d_A_fill_6 rfl rfl rfl ?_
    refine AW.icmp_geN (tgt := 20) (pc' := 10) d_A_fill_7 (by decide) rfl (by omega) (by omega) (fun h => absurd h (by omega)) (fun h => ?_)
    refine AW.aload_n (pc' := 11) d_A_fill_10 rfl rfl rfl ?_
    refine AW.iload_n (pc' := 12) d_A_fill_11 rfl rfl rfl ?_
    refine AW.iload_n (pc' := 13) d_A_fill_12 rfl rfl rfl ?_
    refine AW.iastN (pc' := 14) d_A_fill_13 rfl hw (by omega) hn rfl ?_
    refine AW.iincN (pc' := 17) (ls' := [some (.ref r), some (.int v), some (.int (nI (i + 1))), some (.int (nI n))]) d_A_fill_14 rfl rfl rfl rfl ?_
    refine AW.goto (tgt := 5) d_A_fill_17 (by decide) ?_
    have h9 := ih (i + 1) (upd g i v) _ (by omega) (ct_setAt hw)
    have e : (fun j => if i + 1 ≤ j ∧ j < n then v else upd g i v j) = fun j => if i ≤ j ∧ j < n then v else g j := by
      funext j
      by_cases hj : j = i
      · subst hj
        rw [if_neg (by omega), if_pos (by omega), pk_us]
      · rw [pk_un hj]
        by_cases h1 : i ≤ j ∧ j < n
        · rw [if_pos h1, if_pos (by omega)]
        · rw [if_neg h1, if_neg (by omega)]
    rw [e, List.set_set] at h9
    exact h9
/-- the first n of f are v -/
def fl (f : Nat → Int32) (v : Int32) (n : Nat) : Nat → Int32 := fun j => if j < n then v else f j
theorem c_fill (X : ct_X) (w : ct_W) (r n : Nat) (f : Nat → Int32) (v : Int32) (hn : n < 2 ^ 31) (hw : w[r]? = some (.inl (0, n, .inl f))) : AF X m_A_fill 0 0 0 [.ref r, .int v] w (.inl none) (w.set r (.inl (0, n, .inl (fl f v n)))) := by
  refine AM.of rfl (Nat.le_of_ble_eq_true rfl) (ls := [some (.ref r), some (.int v), none, none]) rfl ?_
  refine AW.iconst (pc' := 1) (v := nI 0) d_A_fill_0 rfl (by decide) ?_
  refine AW.istore_n (pc' := 2) (ls' := [some (.ref r), some (.int v), some (.int (nI 0)), none]) d_A_fill_1 rfl rfl rfl rfl ?_
  refine AW.aload_n (pc' := 3) d_A_fill_2 rfl rfl rfl ?_
  refine AW.alen (pc' := 4) (ty := .int) d_A_fill_3 rfl hw (fun _ => rfl) ?_
  refine AW.istore_n (pc' := 5) (ls' := [some (.ref r), some (.int v), some (.int (nI 0)), some (.int (nI n))]) d_A_fill_4 rfl rfl rfl rfl ?_
  have h9 := lp_fill X r n v hn n 0 f w (by omega) hw
  have e : (fun j => if 0 ≤ j ∧ j < n then v else f j) = fl f v n := by
    funext j
    unfold fl
    by_cases h1 : j < n
    · rw [if_pos h1, if_pos ⟨Nat.zero_le _, h1⟩]
    · rw [if_neg h1, if_neg (fun q => h1 q.2)]
  rw [e] at h9
  exact h9
/-- how many of the first n of f are v -/
def cnt (f : Nat → Int32) (v : Int32) : Nat → Nat
  | 0 => 0
  | n + 1 => cnt f v n + (if f n = v then 1 else 0)
theorem cnt_le (f : Nat → Int32) (v : Int32) : ∀ n, cnt f v n ≤ n
  | 0 => Nat.le_refl _
  | n + 1 => by
    have h := cnt_le f v n
    unfold cnt
    split <;> omega
theorem cnt_s {f : Nat → Int32} {v : Int32} {n : Nat} (h : f n = v) : cnt f v (n + 1) = cnt f v n + 1 := by rw [cnt, if_pos h]
theorem cnt_n {f : Nat → Int32} {v : Int32} {n : Nat} (h : ¬ f n = v) : cnt f v (n + 1) = cnt f v n := by rw [cnt, if_neg h]; rfl
theorem lp_count (X : ct_X) (w : ct_W) (r n c : Nat) (f : Nat → Int32) (v : Int32) (hn : n < 2 ^ 31) (hc : c ≤ n) (hw : w[r]? = some (.inl (0, n, .inl f))) : ∀ (m i : Nat), i + m = c →
    AW X m_C_count 0 0 0 0 0 5 [some (.ref r), some (.int (nI c)), some (.int v), some (.int (nI (cnt f v i))), some (.int (nI i))] [] w (fun r' w' => r' = .inl (some (.int (nI (cnt f v c)))) ∧ w' = w) := by
  intro m
  induction m with
  | zero =>
    intro i hi
    have e : i = c := by omega
    subst e
    refine AW.iload (pc' := 7) d_C_count_5 rfl rfl ?_
    refine AW.iload_n (pc' := 8) d_C_count_7 rfl rfl rfl ?_
    refine AW.icmp_geN (tgt := 35) (pc' := 11) d_C_count_8 (by decide) rfl (by omega) (by omega) (fun h => ?_) (fun h => absurd h (by omega))
    refine AW.iload_n (pc' := 36) d_C_count_35 rfl rfl rfl ?_
    exact AW.iret d_C_count_36 rfl rfl rfl ⟨rfl, rfl⟩
  | succ m ih =>
    intro i hi
    have ih := ih (i + 1) (by omega)
    refine AW.iload (pc' := 7) d_C_count_5 rfl rfl ?_
    refine AW.iload_n (pc' := 8) d_C_count_7 rfl rfl rfl ?_
    refine AW.icmp_geN (tgt := 35) (pc' := 11) d_C_count_8 (by decide) rfl (by omega) (by omega) (fun h => absurd h (by omega)) (fun h => ?_)
    refine AW.iload (pc' := 13) d_C_count_11 rfl rfl ?_
    refine AW.aload_n (pc' := 14) d_C_count_13 rfl rfl rfl ?_
    refine AW.alen (pc' := 15) (ty := .int) d_C_count_14 rfl hw (fun _ => rfl) ?_
    refine AW.top (u := .int (nI n)) rfl ?_
    refine AW.icmp_geN (tgt := 35) (pc' := 18) d_C_count_15 (by decide) rfl (by omega) (by omega) (fun h => absurd h (by omega)) (fun h => ?_)
    refine AW.aload_n (pc' := 19) d_C_count_18 rfl rfl rfl ?_
    refine AW.iload (pc' := 21) d_C_count_19 rfl rfl ?_
    refine AW.ialdN (pc' := 22) d_C_count_21 rfl hw (by omega) hn ?_
    refine AW.iload_n (pc' := 23) d_C_count_22 rfl rfl rfl ?_
    refine AW.icmp_ne (tgt := 29) (pc' := 26) d_C_count_23 (by decide) rfl (fun h9 => ?_) (fun h9 => ?_)
    · refine AW.iincN (pc' := 32) (ls' := [some (.ref r), some (.int (nI c)), some (.int v), some (.int (nI (cnt f v i))), some (.int (nI (i + 1)))]) d_C_count_29 rfl rfl rfl rfl ?_
      refine AW.goto (tgt := 5) d_C_count_32 (by decide) ?_
      rw [cnt_n h9] at ih
      exact ih
    · refine AW.iincN (pc' := 29) (ls' := [some (.ref r), some (.int (nI c)), some (.int v), some (.int (nI (cnt f v i + 1))), some (.int (nI i))]) d_C_count_26 rfl rfl rfl rfl ?_
      refine AW.iincN (pc' := 32) (ls' := [some (.ref r), some (.int (nI c)), some (.int v), some (.int (nI (cnt f v i + 1))), some (.int (nI (i + 1)))]) d_C_count_29 rfl rfl rfl rfl ?_
      refine AW.goto (tgt := 5) d_C_count_32 (by decide) ?_
      rw [cnt_s h9] at ih
      exact ih
theorem c_count (X : ct_X) (w : ct_W) (r n c : Nat) (f : Nat → Int32) (v : Int32) (hn : n < 2 ^ 31) (hc : c ≤ n) (hw : w[r]? = some (.inl (0, n, .inl f))) : AF X m_C_count 0 0 0 [.ref r, .int (nI c), .int v] w (.inl (some (.int (nI (cnt f v c))))) w := by
  refine AM.of rfl (Nat.le_of_ble_eq_true rfl) (ls := [some (.ref r), some (.int (nI c)), some (.int v), none, none]) rfl ?_
  refine AW.iconst (pc' := 1) (v := nI 0) d_C_count_0 rfl (by decide) ?_
  refine AW.istore_n (pc' := 2) (ls' := [some (.ref r), some (.int (nI c)), some (.int v), some (.int (nI 0)), none]) d_C_count_1 rfl rfl rfl rfl ?_
  refine AW.iconst (pc' := 3) (v := nI 0) d_C_count_2 rfl (by decide) ?_
  refine AW.istore (pc' := 5) (ls' := [some (.ref r), some (.int (nI c)), some (.int v), some (.int (nI 0)), some (.int (nI 0))]) d_C_count_3 rfl rfl rfl ?_
  exact lp_count X w r n c f v hn hc hw c 0 (by omega)
/-- a becomes b in the first n of f -/
def rep (f : Nat → Int32) (a b : Int32) (n : Nat) : Nat → Int32 := fun j => if j < n ∧ f j = a then b else f j
theorem lp_replace (X : ct_X) (r n c : Nat) (a b : Int32) (hn : n < 2 ^ 31) (hc : c ≤ n) : ∀ (m i : Nat) (g : Nat → Int32) (w : ct_W), i + m = c → w[r]? = some (.inl (0, n, .inl g)) →
    AW X m_C_replace 0 0 0 0 0 3 [some (.ref r), some (.int (nI c)), some (.int a), some (.int b), some (.int (nI i))] [] w (fun r' w' => r' = .inl none ∧ w' = w.set r (.inl (0, n, .inl (fun j => if (i ≤ j ∧ j < c) ∧ g j = a then b else g j)))) := by
  intro m
  induction m with
  | zero =>
    intro i g w hi hw
    refine AW.iload (pc' := 5) d_C_replace_3 rfl rfl ?_
    refine AW.iload_n (pc' := 6) d_C_replace_5 rfl rfl rfl ?_
    refine AW.icmp_geN (tgt := 35) (pc' := 9) d_C_replace_6 (by decide) rfl (by omega) (by omega) (fun h => ?_) (fun h => absurd h (by omega))
    refine AW.vret d_C_replace_35 rfl rfl rfl ⟨rfl, ?_⟩
    have e : (fun j => if (i ≤ j ∧ j < c) ∧ g j = a then b else g j) = g := by
      funext j
      rw [if_neg (by omega)]
    rw [e, ct_setSame hw]
  | succ m ih =>
    intro i g w hi hw
    refine AW.iload (pc' := 5) d_C_replace_3 rfl rfl ?_
    refine AW.iload_n (pc' := 6) d_C_replace_5 rfl rfl rfl ?_
    refine AW.icmp_geN (tgt := 35) (pc' := 9) d_C_replace_6 (by decide) rfl (by omega) (by omega) (fun h => absurd h (by omega)) (fun h => ?_)
    refine AW.iload (pc' := 11) d_C_replace_9 rfl rfl ?_
    refine AW.aload_n (pc' := 12) d_C_replace_11 rfl rfl rfl ?_
    refine AW.alen (pc' := 13) (ty := .int) d_C_replace_12 rfl hw (fun _ => rfl) ?_
    refine AW.top (u := .int (nI n)) rfl ?_
    refine AW.icmp_geN (tgt := 35) (pc' := 16) d_C_replace_13 (by decide) rfl (by omega) (by omega) (fun h => absurd h (by omega)) (fun h => ?_)
    refine AW.aload_n (pc' := 17) d_C_replace_16 rfl rfl rfl ?_
    refine AW.iload (pc' := 19) d_C_replace_17 rfl rfl ?_
    refine AW.ialdN (pc' := 20) d_C_replace_19 rfl hw (by omega) hn ?_
    refine AW.iload_n (pc' := 21) d_C_replace_20 rfl rfl rfl ?_
    refine AW.icmp_ne (tgt := 29) (pc' := 24) d_C_replace_21 (by decide) rfl (fun h9 => ?_) (fun h9 => ?_)
    · refine AW.iincN (pc' := 32) (ls' := [some (.ref r), some (.int (nI c)), some (.int a), some (.int b), some (.int (nI (i + 1)))]) d_C_replace_29 rfl rfl rfl rfl ?_
      refine AW.goto (tgt := 3) d_C_replace_32 (by decide) ?_
      have h8 := ih (i + 1) g w (by omega) hw
      have e : (fun j => if (i + 1 ≤ j ∧ j < c) ∧ g j = a then b else g j) = fun j => if (i ≤ j ∧ j < c) ∧ g j = a then b else g j := by
        funext j
        by_cases hj : j = i
        · subst hj
          rw [if_neg (by omega), if_neg (fun q => h9 q.2)]
        · by_cases h1 : (i ≤ j ∧ j < c) ∧ g j = a
          · rw [if_pos h1, if_pos ⟨by omega, h1.2⟩]
          · rw [if_neg h1, if_neg (fun q => h1 ⟨by omega, q.2⟩)]
      rw [e] at h8
      exact h8
    · refine AW.aload_n (pc' := 25) d_C_replace_24 rfl rfl rfl ?_
      refine AW.iload (pc' := 27) d_C_replace_25 rfl rfl ?_
      refine AW.iload_n (pc' := 28) d_C_replace_27 rfl rfl rfl ?_
      refine AW.iastN (pc' := 29) d_C_replace_28 rfl hw (by omega) hn rfl ?_
      refine AW.iincN (pc' := 32) (ls' := [some (.ref r), some (.int (nI c)), some (.int a), some (.int b), some (.int (nI (i + 1)))]) d_C_replace_29 rfl rfl rfl rfl ?_
      refine AW.goto (tgt := 3) d_C_replace_32 (by decide) ?_
      have h8 := ih (i + 1) (upd g i b) _ (by omega) (ct_setAt hw)
      have e : (fun j => if (i + 1 ≤ j ∧ j < c) ∧ upd g i b j = a then b else upd g i b j) = fun j => if (i ≤ j ∧ j < c) ∧ g j = a then b else g j := by
        funext j
        by_cases hj : j = i
        · subst hj
          rw [if_neg (by omega), pk_us, if_pos ⟨by omega, h9⟩]
        · rw [pk_un hj]
          by_cases h1 : (i ≤ j ∧ j < c) ∧ g j = a
          · rw [if_pos h1, if_pos ⟨by omega, h1.2⟩]
          · rw [if_neg h1, if_neg (fun q => h1 ⟨by omega, q.2⟩)]
      rw [e, List.set_set] at h8
      exact h8
theorem c_replace (X : ct_X) (w w' : ct_W) (r n c : Nat) (f : Nat → Int32) (a b : Int32) (hn : n < 2 ^ 31) (hc : c ≤ n) (hw : w[r]? = some (.inl (0, n, .inl f))) (hw' : w.set r (.inl (0, n, .inl (rep f a b c))) = w') : AF X m_C_replace 0 0 0 [.ref r, .int (nI c), .int a, .int b] w (.inl none) w' := by
  subst hw'
  refine AM.of rfl (Nat.le_of_ble_eq_true rfl) (ls := [some (.ref r), some (.int (nI c)), some (.int a), some (.int b), none]) rfl ?_
  refine AW.iconst (pc' := 1) (v := nI 0) d_C_replace_0 rfl (by decide) ?_
  refine AW.istore (pc' := 3) (ls' := [some (.ref r), some (.int (nI c)), some (.int a), some (.int b), some (.int (nI 0))]) d_C_replace_1 rfl rfl rfl ?_
  have h9 := lp_replace X r n c a b hn hc c 0 f w (by omega) hw
  have e : (fun j => if (0 ≤ j ∧ j < c) ∧ f j = a then b else f j) = rep f a b c := by
    funext j
    unfold rep
    by_cases h1 : j < c ∧ f j = a
    · rw [if_pos h1, if_pos ⟨⟨Nat.zero_le _, h1.1⟩, h1.2⟩]
    · rw [if_neg h1, if_neg (fun q => h1 ⟨q.1.2, q.2⟩)]
  rw [e] at h9
  exact h9
end
section
/-! CONTRACTS of the class's own private methods (rows printed by wip/whole/m2.py) -/
theorem c_reqPerson_ok (X : ct_X) (z : S_c) (k : S_m) (o : Nat → Int64) (j : Nat) (h : j < c_np z) (h2 : c_np z < 2 ^ 31) : AF X m_C_requirePerson 6 0 0 [.ref 0, .int (nI (j))] (wL z k o) (.inl none) (wL z k o) := by
  refine AM.of rfl (Nat.le_of_ble_eq_true rfl) (ls := [some (.ref 0), some (.int (nI (j)))]) rfl ?_
  refine AW.iload_n (pc' := 1) d_C_requirePerson_0 rfl rfl rfl ?_
  refine AW.if_lt (tgt := 12) (pc' := 4) d_C_requirePerson_1 (by decide) rfl (fun h => absurd h (nI_pos (by omega))) (fun _ => ?_)
  refine AW.iload_n (pc' := 5) d_C_requirePerson_4 rfl rfl rfl ?_
  refine AW.aload_n (pc' := 6) d_C_requirePerson_5 rfl rfl rfl ?_
  refine AW.getf (pc' := 9) d_C_requirePerson_6 rfl fl_C_72 rfl rfl ?_
  refine AW.icmp_ltN (tgt := 22) (pc' := 12) d_C_requirePerson_9 (by decide) rfl (by omega) (by omega) (fun h9 => ?_) (fun h => absurd h (by omega))
  exact AW.vret d_C_requirePerson_22 rfl rfl rfl ⟨rfl, rfl⟩
theorem c_reqPerson_no (X : ct_X) (z : S_c) (k : S_m) (o : Nat → Int64) (x : Int32) (hx : x < 0 ∨ nI (c_np z) ≤ x) : AF X m_C_requirePerson 6 0 0 [.ref 0, .int (x)] (wL z k o) (.inr 2) (wL z k o) := by
  refine AM.of rfl (Nat.le_of_ble_eq_true rfl) (ls := [some (.ref 0), some (.int (x))]) rfl ?_
  refine AW.iload_n (pc' := 1) d_C_requirePerson_0 rfl rfl rfl ?_
  refine AW.if_lt (tgt := 12) (pc' := 4) d_C_requirePerson_1 (by decide) rfl (fun h1 => ?_) (fun h1 => ?_)
  · exact AW.throwS (x := 2) d_C_requirePerson_12 d_C_requirePerson_15 d_C_requirePerson_16 d_C_requirePerson_18 d_C_requirePerson_21 cl_C_212 ini_java_lang_IllegalArgumentException sr_C_228 thr_2 rfl (by decide) rfl rfl rfl ⟨rfl, rfl⟩
  · refine AW.iload_n (pc' := 5) d_C_requirePerson_4 rfl rfl rfl ?_
    refine AW.aload_n (pc' := 6) d_C_requirePerson_5 rfl rfl rfl ?_
    refine AW.getf (pc' := 9) d_C_requirePerson_6 rfl fl_C_72 rfl rfl ?_
    refine AW.icmp_lt (tgt := 22) (pc' := 12) d_C_requirePerson_9 (by decide) rfl (fun h => hx.elim (fun q => absurd q h1) (fun q => absurd h (Int32.not_lt.mpr q))) (fun h9 => ?_)
    exact AW.throwS (x := 2) d_C_requirePerson_12 d_C_requirePerson_15 d_C_requirePerson_16 d_C_requirePerson_18 d_C_requirePerson_21 cl_C_212 ini_java_lang_IllegalArgumentException sr_C_228 thr_2 rfl (by decide) rfl rfl rfl ⟨rfl, rfl⟩
theorem c_reqUnit_ok (X : ct_X) (z : S_c) (k : S_m) (o : Nat → Int64) (j : Nat) (h : j < c_nu z) (h2 : c_nu z < 2 ^ 31) : AF X m_C_requireUnit 6 0 0 [.ref 0, .int (nI (j))] (wL z k o) (.inl none) (wL z k o) := by
  refine AM.of rfl (Nat.le_of_ble_eq_true rfl) (ls := [some (.ref 0), some (.int (nI (j)))]) rfl ?_
  refine AW.iload_n (pc' := 1) d_C_requireUnit_0 rfl rfl rfl ?_
  refine AW.if_lt (tgt := 12) (pc' := 4) d_C_requireUnit_1 (by decide) rfl (fun h => absurd h (nI_pos (by omega))) (fun _ => ?_)
  refine AW.iload_n (pc' := 5) d_C_requireUnit_4 rfl rfl rfl ?_
  refine AW.aload_n (pc' := 6) d_C_requireUnit_5 rfl rfl rfl ?_
  refine AW.getf (pc' := 9) d_C_requireUnit_6 rfl fl_C_80 rfl rfl ?_
  refine AW.icmp_ltN (tgt := 22) (pc' := 12) d_C_requireUnit_9 (by decide) rfl (by omega) (by omega) (fun h9 => ?_) (fun h => absurd h (by omega))
  exact AW.vret d_C_requireUnit_22 rfl rfl rfl ⟨rfl, rfl⟩
theorem c_reqUnit_no (X : ct_X) (z : S_c) (k : S_m) (o : Nat → Int64) (x : Int32) (hx : x < 0 ∨ nI (c_nu z) ≤ x) : AF X m_C_requireUnit 6 0 0 [.ref 0, .int (x)] (wL z k o) (.inr 2) (wL z k o) := by
  refine AM.of rfl (Nat.le_of_ble_eq_true rfl) (ls := [some (.ref 0), some (.int (x))]) rfl ?_
  refine AW.iload_n (pc' := 1) d_C_requireUnit_0 rfl rfl rfl ?_
  refine AW.if_lt (tgt := 12) (pc' := 4) d_C_requireUnit_1 (by decide) rfl (fun h1 => ?_) (fun h1 => ?_)
  · exact AW.throwS (x := 2) d_C_requireUnit_12 d_C_requireUnit_15 d_C_requireUnit_16 d_C_requireUnit_18 d_C_requireUnit_21 cl_C_212 ini_java_lang_IllegalArgumentException sr_C_230 thr_2 rfl (by decide) rfl rfl rfl ⟨rfl, rfl⟩
  · refine AW.iload_n (pc' := 5) d_C_requireUnit_4 rfl rfl rfl ?_
    refine AW.aload_n (pc' := 6) d_C_requireUnit_5 rfl rfl rfl ?_
    refine AW.getf (pc' := 9) d_C_requireUnit_6 rfl fl_C_80 rfl rfl ?_
    refine AW.icmp_lt (tgt := 22) (pc' := 12) d_C_requireUnit_9 (by decide) rfl (fun h => hx.elim (fun q => absurd q h1) (fun q => absurd h (Int32.not_lt.mpr q))) (fun h9 => ?_)
    exact AW.throwS (x := 2) d_C_requireUnit_12 d_C_requireUnit_15 d_C_requireUnit_16 d_C_requireUnit_18 d_C_requireUnit_21 cl_C_212 ini_java_lang_IllegalArgumentException sr_C_230 thr_2 rfl (by decide) rfl rfl rfl ⟨rfl, rfl⟩
theorem c_reqSector_ok (X : ct_X) (z : S_c) (k : S_m) (o : Nat → Int64) (j : Nat) (h : j < c_ns z) (h2 : c_ns z < 2 ^ 31) : AF X m_C_requireSector 6 0 0 [.ref 0, .int (nI (j))] (wL z k o) (.inl none) (wL z k o) := by
  refine AM.of rfl (Nat.le_of_ble_eq_true rfl) (ls := [some (.ref 0), some (.int (nI (j)))]) rfl ?_
  refine AW.iload_n (pc' := 1) d_C_requireSector_0 rfl rfl rfl ?_
  refine AW.if_lt (tgt := 12) (pc' := 4) d_C_requireSector_1 (by decide) rfl (fun h => absurd h (nI_pos (by omega))) (fun _ => ?_)
  refine AW.iload_n (pc' := 5) d_C_requireSector_4 rfl rfl rfl ?_
  refine AW.aload_n (pc' := 6) d_C_requireSector_5 rfl rfl rfl ?_
  refine AW.getf (pc' := 9) d_C_requireSector_6 rfl fl_C_48 rfl rfl ?_
  refine AW.icmp_ltN (tgt := 22) (pc' := 12) d_C_requireSector_9 (by decide) rfl (by omega) (by omega) (fun h9 => ?_) (fun h => absurd h (by omega))
  exact AW.vret d_C_requireSector_22 rfl rfl rfl ⟨rfl, rfl⟩
theorem c_reqSector_no (X : ct_X) (z : S_c) (k : S_m) (o : Nat → Int64) (x : Int32) (hx : x < 0 ∨ nI (c_ns z) ≤ x) : AF X m_C_requireSector 6 0 0 [.ref 0, .int (x)] (wL z k o) (.inr 2) (wL z k o) := by
  refine AM.of rfl (Nat.le_of_ble_eq_true rfl) (ls := [some (.ref 0), some (.int (x))]) rfl ?_
  refine AW.iload_n (pc' := 1) d_C_requireSector_0 rfl rfl rfl ?_
  refine AW.if_lt (tgt := 12) (pc' := 4) d_C_requireSector_1 (by decide) rfl (fun h1 => ?_) (fun h1 => ?_)
  · exact AW.throwS (x := 2) d_C_requireSector_12 d_C_requireSector_15 d_C_requireSector_16 d_C_requireSector_18 d_C_requireSector_21 cl_C_212 ini_java_lang_IllegalArgumentException sr_C_232 thr_2 rfl (by decide) rfl rfl rfl ⟨rfl, rfl⟩
  · refine AW.iload_n (pc' := 5) d_C_requireSector_4 rfl rfl rfl ?_
    refine AW.aload_n (pc' := 6) d_C_requireSector_5 rfl rfl rfl ?_
    refine AW.getf (pc' := 9) d_C_requireSector_6 rfl fl_C_48 rfl rfl ?_
    refine AW.icmp_lt (tgt := 22) (pc' := 12) d_C_requireSector_9 (by decide) rfl (fun h => hx.elim (fun q => absurd q h1) (fun q => absurd h (Int32.not_lt.mpr q))) (fun h9 => ?_)
    exact AW.throwS (x := 2) d_C_requireSector_12 d_C_requireSector_15 d_C_requireSector_16 d_C_requireSector_18 d_C_requireSector_21 cl_C_212 ini_java_lang_IllegalArgumentException sr_C_232 thr_2 rfl (by decide) rfl rfl rfl ⟨rfl, rfl⟩
theorem c_isThere_t (X : ct_X) (z : S_c) (k : S_m) (o : Nat → Int64) (j : Nat) (h : j < 40) (h2 : ¬ c_sop z j = -1) : AF X m_C_isThere 0 0 0 [.ref 0, .int (nI (j))] (wL z k o) (.inl (some (.int (nI 1)))) (wL z k o) := by
  refine AM.of rfl (Nat.le_of_ble_eq_true rfl) (ls := [some (.ref 0), some (.int (nI (j)))]) rfl ?_
  refine AW.aload_n (pc' := 1) d_C_isThere_0 rfl rfl rfl ?_
  refine AW.getf (pc' := 4) d_C_isThere_1 rfl fl_C_20 rfl rfl ?_
  refine AW.iload_n (pc' := 5) d_C_isThere_4 rfl rfl rfl ?_
  refine AW.ialdN (pc' := 6) d_C_isThere_5 rfl rfl (by omega) (by decide) ?_
  refine AW.iconst (pc' := 7) (v := (-1)) d_C_isThere_6 rfl (by decide) ?_
  refine AW.icmp_eq (tgt := 14) (pc' := 10) d_C_isThere_7 (by decide) rfl (fun h => absurd h h2) (fun h7 => ?_)
  refine AW.iconst (pc' := 11) (v := nI 1) d_C_isThere_10 rfl (by decide) ?_
  refine AW.goto (tgt := 15) d_C_isThere_11 (by decide) ?_
  exact AW.zret d_C_isThere_15 rfl (by decide) rfl rfl ⟨rfl, rfl⟩
theorem c_isThere_f (X : ct_X) (z : S_c) (k : S_m) (o : Nat → Int64) (j : Nat) (h : j < 40) (h2 : c_sop z j = -1) : AF X m_C_isThere 0 0 0 [.ref 0, .int (nI (j))] (wL z k o) (.inl (some (.int (nI 0)))) (wL z k o) := by
  refine AM.of rfl (Nat.le_of_ble_eq_true rfl) (ls := [some (.ref 0), some (.int (nI (j)))]) rfl ?_
  refine AW.aload_n (pc' := 1) d_C_isThere_0 rfl rfl rfl ?_
  refine AW.getf (pc' := 4) d_C_isThere_1 rfl fl_C_20 rfl rfl ?_
  refine AW.iload_n (pc' := 5) d_C_isThere_4 rfl rfl rfl ?_
  refine AW.ialdN (pc' := 6) d_C_isThere_5 rfl rfl (by omega) (by decide) ?_
  refine AW.iconst (pc' := 7) (v := (-1)) d_C_isThere_6 rfl (by decide) ?_
  refine AW.icmp_eq (tgt := 14) (pc' := 10) d_C_isThere_7 (by decide) rfl (fun h7 => ?_) (fun h => absurd h2 h)
  refine AW.iconst (pc' := 15) (v := nI 0) d_C_isThere_14 rfl (by decide) ?_
  exact AW.zret d_C_isThere_15 rfl (by decide) rfl rfl ⟨rfl, rfl⟩
theorem c_reqThere_ok (X : ct_X) (z : S_c) (k : S_m) (o : Nat → Int64) (j : Nat) (h : j < 40) (h2 : ¬ c_sop z j = -1) : AF X m_C_requireThere 6 0 0 [.ref 0, .int (nI (j))] (wL z k o) (.inl none) (wL z k o) := by
  refine AM.of rfl (Nat.le_of_ble_eq_true rfl) (ls := [some (.ref 0), some (.int (nI (j)))]) rfl ?_
  refine AW.aload_n (pc' := 1) d_C_requireThere_0 rfl rfl rfl ?_
  refine AW.iload_n (pc' := 2) d_C_requireThere_1 rfl rfl rfl ?_
  refine AW.cV (pc' := 5) d_C_requireThere_2 rfl cv_C_89 (by decide) rfl rfl rfl (c_isThere_t X z k o j h h2) rfl rfl rfl rfl rfl rfl rfl ?_
  refine AW.if_ne (tgt := 18) (pc' := 8) d_C_requireThere_5 (by decide) rfl (fun _ => ?_) (fun h => absurd h (by decide))
  exact AW.vret d_C_requireThere_18 rfl rfl rfl ⟨rfl, rfl⟩
theorem c_reqThere_no (X : ct_X) (z : S_c) (k : S_m) (o : Nat → Int64) (j : Nat) (h : j < 40) (h2 : c_sop z j = -1) : AF X m_C_requireThere 6 0 0 [.ref 0, .int (nI (j))] (wL z k o) (.inr 3) (wL z k o) := by
  refine AM.of rfl (Nat.le_of_ble_eq_true rfl) (ls := [some (.ref 0), some (.int (nI (j)))]) rfl ?_
  refine AW.aload_n (pc' := 1) d_C_requireThere_0 rfl rfl rfl ?_
  refine AW.iload_n (pc' := 2) d_C_requireThere_1 rfl rfl rfl ?_
  refine AW.cV (pc' := 5) d_C_requireThere_2 rfl cv_C_89 (by decide) rfl rfl rfl (c_isThere_f X z k o j h h2) rfl rfl rfl rfl rfl rfl rfl ?_
  refine AW.if_ne (tgt := 18) (pc' := 8) d_C_requireThere_5 (by decide) rfl (fun h => absurd h (by decide)) (fun _ => ?_)
  exact AW.throwS (x := 3) d_C_requireThere_8 d_C_requireThere_11 d_C_requireThere_12 d_C_requireThere_14 d_C_requireThere_17 cl_C_93 ini_java_lang_IllegalStateException sr_C_239 thr_3 rfl (by decide) rfl rfl rfl ⟨rfl, rfl⟩
theorem c_reqOpen_ok (X : ct_X) (z : S_c) (k : S_m) (o : Nat → Int64) (j : Nat) (h : j < 20) (h2 : ¬ c_opn z j = 0) : AF X m_C_requireOpen 6 0 0 [.ref 0, .int (nI (j))] (wL z k o) (.inl none) (wL z k o) := by
  refine AM.of rfl (Nat.le_of_ble_eq_true rfl) (ls := [some (.ref 0), some (.int (nI (j)))]) rfl ?_
  refine AW.aload_n (pc' := 1) d_C_requireOpen_0 rfl rfl rfl ?_
  refine AW.getf (pc' := 4) d_C_requireOpen_1 rfl fl_C_35 rfl rfl ?_
  refine AW.iload_n (pc' := 5) d_C_requireOpen_4 rfl rfl rfl ?_
  refine AW.zaldN (pc' := 6) d_C_requireOpen_5 rfl rfl (by omega) (by decide) ?_
  refine AW.if_ne (tgt := 19) (pc' := 9) d_C_requireOpen_6 (by decide) rfl (fun h6 => ?_) (fun h => absurd h h2)
  exact AW.vret d_C_requireOpen_19 rfl rfl rfl ⟨rfl, rfl⟩
theorem c_reqOpen_no (X : ct_X) (z : S_c) (k : S_m) (o : Nat → Int64) (j : Nat) (h : j < 20) (h2 : c_opn z j = 0) : AF X m_C_requireOpen 6 0 0 [.ref 0, .int (nI (j))] (wL z k o) (.inr 3) (wL z k o) := by
  refine AM.of rfl (Nat.le_of_ble_eq_true rfl) (ls := [some (.ref 0), some (.int (nI (j)))]) rfl ?_
  refine AW.aload_n (pc' := 1) d_C_requireOpen_0 rfl rfl rfl ?_
  refine AW.getf (pc' := 4) d_C_requireOpen_1 rfl fl_C_35 rfl rfl ?_
  refine AW.iload_n (pc' := 5) d_C_requireOpen_4 rfl rfl rfl ?_
  refine AW.zaldN (pc' := 6) d_C_requireOpen_5 rfl rfl (by omega) (by decide) ?_
  refine AW.if_ne (tgt := 19) (pc' := 9) d_C_requireOpen_6 (by decide) rfl (fun h => absurd h2 h) (fun h6 => ?_)
  exact AW.throwS (x := 3) d_C_requireOpen_9 d_C_requireOpen_12 d_C_requireOpen_13 d_C_requireOpen_15 d_C_requireOpen_18 cl_C_93 ini_java_lang_IllegalStateException sr_C_241 thr_3 rfl (by decide) rfl rfl rfl ⟨rfl, rfl⟩
theorem c_reqTask_ok (X : ct_X) (z : S_c) (k : S_m) (o : Nat → Int64) (j : Nat) (h : j < t_n z) (h2 : t_n z < 2 ^ 31) : AF X m_C_requireTask 6 0 0 [.ref 0, .int (nI (j))] (wL z k o) (.inl none) (wL z k o) := by
  refine AM.of rfl (Nat.le_of_ble_eq_true rfl) (ls := [some (.ref 0), some (.int (nI (j)))]) rfl ?_
  refine AW.aload_n (pc' := 1) d_C_requireTask_0 rfl rfl rfl ?_
  refine AW.getf (pc' := 4) d_C_requireTask_1 rfl fl_C_54 rfl rfl ?_
  refine AW.iload_n (pc' := 5) d_C_requireTask_4 rfl rfl rfl ?_
  refine AW.cV (pc' := 8) d_C_requireTask_5 rfl cv_C_234 (by decide) rfl rfl rfl (c_has_t X z k o j h h2) rfl rfl rfl rfl rfl rfl rfl ?_
  refine AW.if_ne (tgt := 21) (pc' := 11) d_C_requireTask_8 (by decide) rfl (fun _ => ?_) (fun h => absurd h (by decide))
  exact AW.vret d_C_requireTask_21 rfl rfl rfl ⟨rfl, rfl⟩
theorem c_reqTask_no (X : ct_X) (z : S_c) (k : S_m) (o : Nat → Int64) (x : Int32) (hx : x < 0 ∨ nI (t_n z) ≤ x) : AF X m_C_requireTask 6 0 0 [.ref 0, .int (x)] (wL z k o) (.inr 2) (wL z k o) := by
  refine AM.of rfl (Nat.le_of_ble_eq_true rfl) (ls := [some (.ref 0), some (.int (x))]) rfl ?_
  refine AW.aload_n (pc' := 1) d_C_requireTask_0 rfl rfl rfl ?_
  refine AW.getf (pc' := 4) d_C_requireTask_1 rfl fl_C_54 rfl rfl ?_
  refine AW.iload_n (pc' := 5) d_C_requireTask_4 rfl rfl rfl ?_
  refine AW.cV (pc' := 8) d_C_requireTask_5 rfl cv_C_234 (by decide) rfl rfl rfl (c_has_f X z k o x hx) rfl rfl rfl rfl rfl rfl rfl ?_
  refine AW.if_ne (tgt := 21) (pc' := 11) d_C_requireTask_8 (by decide) rfl (fun h => absurd h (by decide)) (fun _ => ?_)
  exact AW.throwS (x := 2) d_C_requireTask_11 d_C_requireTask_14 d_C_requireTask_15 d_C_requireTask_17 d_C_requireTask_20 cl_C_212 ini_java_lang_IllegalArgumentException sr_C_237 thr_2 rfl (by decide) rfl rfl rfl ⟨rfl, rfl⟩
def f_drop (z : S_c) (j t : Nat) : S_c := r_n_ (r_old_ (r_drop_ (r_bef_ z (upd (r_bef z) j (r_led z (r_old z)))) t) (ring (r_old z) 1)) (r_n z - 1)
def f_note1 (z : S_c) (t : Nat) (s p : Int32) : S_c := r_n_ (r_led_ (r_num_ (r_sec_ z (upd (r_sec z) (ring (r_old z) (r_n z)) (nI t))) (upd (r_num z) (ring (r_old z) (r_n z)) s)) (upd (r_led z) (ring (r_old z) (r_n z)) p)) (r_n z + 1)
theorem c_note_f (X : ct_X) (z : S_c) (k : S_m) (o : Nat → Int64) (t : Nat) (s p : Int32) (j t0 : Nat) (hz : r_old z < 400) (hn : r_n z = 400) (hj : j < 20) (ej : r_num z (r_old z) = nI j) (et : r_sec z (r_old z) = nI t0) : AF X m_R_note 2 0 0 [.ref 15, .int (nI (t)), .int (s), .int (p)] (wL z k o) (.inl none) (wL (f_note1 (f_drop z j t0) t s p) k o) := by
  refine AM.of rfl (Nat.le_of_ble_eq_true rfl) (ls := [some (.ref 15), some (.int (nI (t))), some (.int (s)), some (.int (p)), none]) rfl ?_
  refine AW.aload_n (pc' := 1) d_R_note_0 rfl rfl rfl ?_
  refine AW.getf (pc' := 4) d_R_note_1 rfl fl_R_30 rfl rfl ?_
  refine AW.sipush (pc' := 7) (v := nI 400) d_R_note_4 rfl (by decide) ?_
  refine AW.icmp_ltN (tgt := 14) (pc' := 10) d_R_note_7 (by decide) rfl (by omega) (by omega) (fun h => absurd h (by omega)) (fun _ => ?_)
  refine AW.aload_n (pc' := 11) d_R_note_10 rfl rfl rfl ?_
  refine AW.cV (pc' := 14) d_R_note_11 rfl cv_R_34 (by decide) rfl rfl rfl (c_dropOldest X z k o j t0 hz hj ej et (by omega)) rfl rfl rfl rfl rfl rfl rfl ?_
  have e1 : r_n (f_drop z j t0) = r_n z - 1 := rfl
  have hz' : r_old (f_drop z j t0) < 400 := ring_lt hz (by decide)
  refine AW.aload_n (pc' := 15) d_R_note_14 rfl rfl rfl ?_
  refine AW.aload_n (pc' := 16) d_R_note_15 rfl rfl rfl ?_
  refine AW.getf (pc' := 19) d_R_note_16 rfl fl_R_30 rfl rfl ?_
  refine AW.cV (pc' := 22) d_R_note_19 rfl cv_R_37 (by decide) rfl rfl rfl (c_ringIndex X (f_drop z j t0) k o (r_n (f_drop z j t0)) (by omega) hz') rfl rfl rfl rfl rfl rfl rfl ?_
  refine AW.istore (pc' := 24) (ls' := [some (.ref 15), some (.int (nI (t))), some (.int (s)), some (.int (p)), some (.int (nI (ring (r_old (f_drop z j t0)) (r_n (f_drop z j t0)))))]) d_R_note_22 rfl rfl rfl ?_
  refine AW.aload_n (pc' := 25) d_R_note_24 rfl rfl rfl ?_
  refine AW.getf (pc' := 28) d_R_note_25 rfl fl_R_9 rfl rfl ?_
  refine AW.iload (pc' := 30) d_R_note_28 rfl rfl ?_
  refine AW.iload_n (pc' := 31) d_R_note_30 rfl rfl rfl ?_
  refine AW.iastN (pc' := 32) (w' := (wL (r_sec_ ((f_drop z j t0)) (upd (r_sec ((f_drop z j t0))) (ring (r_old (f_drop z j t0)) (r_n (f_drop z j t0))) (nI (t)))) k o)) d_R_note_31 rfl rfl (ring_lt hz' (by omega)) (by decide) rfl ?_
  refine AW.aload_n (pc' := 33) d_R_note_32 rfl rfl rfl ?_
  refine AW.getf (pc' := 36) d_R_note_33 rfl fl_R_15 rfl rfl ?_
  refine AW.iload (pc' := 38) d_R_note_36 rfl rfl ?_
  refine AW.iload_n (pc' := 39) d_R_note_38 rfl rfl rfl ?_
  refine AW.iastN (pc' := 40) (w' := (wL (r_num_ (r_sec_ ((f_drop z j t0)) (upd (r_sec ((f_drop z j t0))) (ring (r_old (f_drop z j t0)) (r_n (f_drop z j t0))) (nI (t)))) (upd (r_num ((f_drop z j t0))) (ring (r_old (f_drop z j t0)) (r_n (f_drop z j t0))) s)) k o)) d_R_note_39 rfl rfl (ring_lt hz' (by omega)) (by decide) rfl ?_
  refine AW.aload_n (pc' := 41) d_R_note_40 rfl rfl rfl ?_
  refine AW.getf (pc' := 44) d_R_note_41 rfl fl_R_18 rfl rfl ?_
  refine AW.iload (pc' := 46) d_R_note_44 rfl rfl ?_
  refine AW.iload_n (pc' := 47) d_R_note_46 rfl rfl rfl ?_
  refine AW.iastN (pc' := 48) (w' := (wL (r_led_ (r_num_ (r_sec_ ((f_drop z j t0)) (upd (r_sec ((f_drop z j t0))) (ring (r_old (f_drop z j t0)) (r_n (f_drop z j t0))) (nI (t)))) (upd (r_num ((f_drop z j t0))) (ring (r_old (f_drop z j t0)) (r_n (f_drop z j t0))) s)) (upd (r_led ((f_drop z j t0))) (ring (r_old (f_drop z j t0)) (r_n (f_drop z j t0))) p)) k o)) d_R_note_47 rfl rfl (ring_lt hz' (by omega)) (by decide) rfl ?_
  refine AW.aload_n (pc' := 49) d_R_note_48 rfl rfl rfl ?_
  refine AW.dup (pc' := 50) d_R_note_49 rfl rfl ?_
  refine AW.getf (pc' := 53) d_R_note_50 rfl fl_R_30 rfl rfl ?_
  refine AW.top (u := .int (nI (r_n ((f_drop z j t0))))) rfl ?_
  refine AW.iconst (pc' := 54) (v := nI 1) d_R_note_53 rfl (by decide) ?_
  refine AW.iaddN (pc' := 55) d_R_note_54 rfl ?_
  refine AW.putf (pc' := 58) (w' := (wL (r_n_ (r_led_ (r_num_ (r_sec_ ((f_drop z j t0)) (upd (r_sec ((f_drop z j t0))) (ring (r_old (f_drop z j t0)) (r_n (f_drop z j t0))) (nI (t)))) (upd (r_num ((f_drop z j t0))) (ring (r_old (f_drop z j t0)) (r_n (f_drop z j t0))) s)) (upd (r_led ((f_drop z j t0))) (ring (r_old (f_drop z j t0)) (r_n (f_drop z j t0))) p)) ((r_n ((f_drop z j t0))) + 1)) k o)) d_R_note_55 rfl fp_R_30 rfl rfl (fun _ => ⟨rfl, rfl⟩) rfl rfl ?_
  exact AW.vret d_R_note_58 rfl rfl rfl ⟨rfl, rfl⟩
def f_note (z : S_c) (t : Nat) (s p : Int32) : S_c := if r_n z < 400 then f_note1 z t s p else f_note1 (f_drop z (r_num z (r_old z)).toNatClampNeg (r_sec z (r_old z)).toNatClampNeg) t s p
/-- the rows: the ring is in order, each row's sector and second are in range -/
def Ring (z : S_c) : Prop := r_old z < 400 ∧ r_n z ≤ 400 ∧ ∀ i, i < 400 → (∃ j, j < 20 ∧ r_num z i = nI j) ∧ ∃ t, t ≤ 99999 ∧ r_sec z i = nI t
theorem c_note (X : ct_X) (z : S_c) (k : S_m) (o : Nat → Int64) (t : Nat) (s p : Int32) (hR : Ring z) : AF X m_R_note 2 0 0 [.ref 15, .int (nI (t)), .int (s), .int (p)] (wL z k o) (.inl none) (wL (f_note z t s p) k o) := by
  obtain ⟨h1, h2, h3⟩ := hR
  by_cases hn : r_n z < 400
  · have e : f_note z t s p = f_note1 z t s p := by rw [f_note, if_pos hn]
    rw [e]
    exact c_note_s X z k o t s p h1 hn
  · obtain ⟨⟨j, hj, ej⟩, t0, ht, et⟩ := h3 _ h1
    have e : f_note z t s p = f_note1 (f_drop z j t0) t s p := by rw [f_note, if_neg hn, ej, et, nI_clamp (by omega), nI_clamp (by omega)]
    rw [e]
    exact c_note_f X z k o t s p j t0 h1 (by omega) hj ej et
theorem c_withdraw (X : ct_X) (z : S_c) (k : S_m) (o : Nat → Int64) (p : Int32) (h : c_ns z ≤ 20) : AF X m_C_withdrawOffersTo 1 0 0 [.ref 0, .int (p)] (wL z k o) (.inl none) (wL (c_off_ z (rep (c_off z) p (-1) (c_ns z))) k o) := by
  refine AM.of rfl (Nat.le_of_ble_eq_true rfl) (ls := [some (.ref 0), some (.int (p))]) rfl ?_
  refine AW.aload_n (pc' := 1) d_C_withdrawOffersTo_0 rfl rfl rfl ?_
  refine AW.getf (pc' := 4) d_C_withdrawOffersTo_1 rfl fl_C_45 rfl rfl ?_
  refine AW.aload_n (pc' := 5) d_C_withdrawOffersTo_4 rfl rfl rfl ?_
  refine AW.getf (pc' := 8) d_C_withdrawOffersTo_5 rfl fl_C_48 rfl rfl ?_
  refine AW.iload_n (pc' := 9) d_C_withdrawOffersTo_8 rfl rfl rfl ?_
  refine AW.iconst (pc' := 10) (v := (-1)) d_C_withdrawOffersTo_9 rfl (by decide) ?_
  refine AW.cS (pc' := 13) d_C_withdrawOffersTo_10 rfl cs_C_140 (by decide) (c_replace X _ (wL (c_off_ z (rep (c_off z) p (-1) (c_ns z))) k o) 9 20 (c_ns z) (c_off z) p (-1) (by decide) h rfl rfl) rfl rfl rfl rfl rfl rfl rfl ?_
  exact AW.vret d_C_withdrawOffersTo_13 rfl rfl rfl ⟨rfl, rfl⟩
def oI : Option Nat → Int32
  | none => -1
  | some p => nI p
theorem oI_neg : oI none < 0 := by decide
theorem oI_ne {p : Nat} (h : p < 2 ^ 31) : ¬ oI (some p) = oI none := fun e => by
  have h1 : ¬ nI p < 0 := nI_pos h
  have e1 : nI p = -1 := e
  rw [e1] at h1
  exact h1 (by decide)
/-- the leader of s becomes p: f was it -/
def f_set1 (z : S_c) (s : Nat) (f p : Option Nat) : S_c :=
  let z1 := match f with
    | none => z
    | some q => c_slb_ z (upd (c_slb z) q (-1))
  let z2 := c_off_ (c_ldr_ z1 (upd (c_ldr z1) s (oI p))) (upd (c_off z1) s (-1))
  let z3 := match p with
    | none => z2
    | some q => c_off_ (c_slb_ z2 (upd (c_slb z2) q (nI s))) (rep (c_off z2) (nI q) (-1) (c_ns z2))
  f_note z3 (c_sec z3) (nI s) (oI p)
theorem c_set_ns (X : ct_X) (z : S_c) (k : S_m) (o : Nat → Int64) (s : Nat) (r : Nat) (hr : r < 40) (hs : s < 20) (hn : c_ns z ≤ 20) (hf : c_ldr z s = oI none) (hR : Ring z) : AF X m_C_setLeader 3 0 0 [.ref 0, .int (nI (s)), .int (nI (r))] (wL z k o) (.inl none) (wL (f_set1 z s none (some r)) k o) := by
  refine AM.of rfl (Nat.le_of_ble_eq_true rfl) (ls := [some (.ref 0), some (.int (nI (s))), some (.int (nI (r))), none]) rfl ?_
  refine AW.aload_n (pc' := 1) d_C_setLeader_0 rfl rfl rfl ?_
  refine AW.getf (pc' := 4) d_C_setLeader_1 rfl fl_C_42 rfl rfl ?_
  refine AW.iload_n (pc' := 5) d_C_setLeader_4 rfl rfl rfl ?_
  refine AW.ialdN (pc' := 6) d_C_setLeader_5 rfl rfl (by omega) (by decide) ?_
  refine AW.top (u := .int ((-1))) (by rw [hf]; rfl) ?_
  refine AW.istore_n (pc' := 7) (ls' := [some (.ref 0), some (.int (nI (s))), some (.int (nI (r))), some (.int ((-1)))]) d_C_setLeader_6 rfl rfl rfl rfl ?_
  refine AW.iload_n (pc' := 8) d_C_setLeader_7 rfl rfl rfl ?_
  refine AW.iload_n (pc' := 9) d_C_setLeader_8 rfl rfl rfl ?_
  refine AW.icmp_ne (tgt := 13) (pc' := 12) d_C_setLeader_9 (by decide) rfl (fun h9 => ?_) (fun h => absurd h.symm (oI_ne (by omega)))
  refine AW.iload_n (pc' := 14) d_C_setLeader_13 rfl rfl rfl ?_
  refine AW.if_lt (tgt := 24) (pc' := 17) d_C_setLeader_14 (by decide) rfl (fun h14 => ?_) (fun h => absurd (by decide) h)
  refine AW.aload_n (pc' := 25) d_C_setLeader_24 rfl rfl rfl ?_
  refine AW.getf (pc' := 28) d_C_setLeader_25 rfl fl_C_42 rfl rfl ?_
  refine AW.iload_n (pc' := 29) d_C_setLeader_28 rfl rfl rfl ?_
  refine AW.iload_n (pc' := 30) d_C_setLeader_29 rfl rfl rfl ?_
  refine AW.iastN (pc' := 31) (w' := (wL (c_ldr_ z (upd (c_ldr z) s (nI (r)))) k o)) d_C_setLeader_30 rfl rfl (by omega) (by decide) rfl ?_
  refine AW.aload_n (pc' := 32) d_C_setLeader_31 rfl rfl rfl ?_
  refine AW.getf (pc' := 35) d_C_setLeader_32 rfl fl_C_45 rfl rfl ?_
  refine AW.iload_n (pc' := 36) d_C_setLeader_35 rfl rfl rfl ?_
  refine AW.iconst (pc' := 37) (v := (-1)) d_C_setLeader_36 rfl (by decide) ?_
  refine AW.iastN (pc' := 38) (w' := (wL (c_off_ (c_ldr_ z (upd (c_ldr z) s (nI (r)))) (upd (c_off z) s ((-1)))) k o)) d_C_setLeader_37 rfl rfl (by omega) (by decide) rfl ?_
  refine AW.iload_n (pc' := 39) d_C_setLeader_38 rfl rfl rfl ?_
  refine AW.if_lt (tgt := 54) (pc' := 42) d_C_setLeader_39 (by decide) rfl (fun h => absurd h (nI_pos (by omega))) (fun _ => ?_)
  refine AW.aload_n (pc' := 43) d_C_setLeader_42 rfl rfl rfl ?_
  refine AW.getf (pc' := 46) d_C_setLeader_43 rfl fl_C_23 rfl rfl ?_
  refine AW.iload_n (pc' := 47) d_C_setLeader_46 rfl rfl rfl ?_
  refine AW.iload_n (pc' := 48) d_C_setLeader_47 rfl rfl rfl ?_
  refine AW.iastN (pc' := 49) (w' := (wL (c_slb_ (c_off_ (c_ldr_ z (upd (c_ldr z) s (nI (r)))) (upd (c_off z) s ((-1)))) (upd (c_slb z) r (nI (s)))) k o)) d_C_setLeader_48 rfl rfl (by omega) (by decide) rfl ?_
  refine AW.aload_n (pc' := 50) d_C_setLeader_49 rfl rfl rfl ?_
  refine AW.iload_n (pc' := 51) d_C_setLeader_50 rfl rfl rfl ?_
  refine AW.cV (pc' := 54) d_C_setLeader_51 rfl cv_C_108 (by decide) rfl rfl rfl (c_withdraw X (c_slb_ (c_off_ (c_ldr_ z (upd (c_ldr z) s (nI (r)))) (upd (c_off z) s ((-1)))) (upd (c_slb z) r (nI (s)))) k o (nI r) hn) rfl rfl rfl rfl rfl rfl rfl ?_
  refine AW.aload_n (pc' := 55) d_C_setLeader_54 rfl rfl rfl ?_
  refine AW.getf (pc' := 58) d_C_setLeader_55 rfl fl_C_61 rfl rfl ?_
  refine AW.aload_n (pc' := 59) d_C_setLeader_58 rfl rfl rfl ?_
  refine AW.getf (pc' := 62) d_C_setLeader_59 rfl fl_C_98 rfl rfl ?_
  refine AW.iload_n (pc' := 63) d_C_setLeader_62 rfl rfl rfl ?_
  refine AW.iload_n (pc' := 64) d_C_setLeader_63 rfl rfl rfl ?_
  refine AW.cV (pc' := 67) d_C_setLeader_64 rfl cv_C_243 (by decide) rfl rfl rfl (c_note X ((c_off_ (c_slb_ (c_off_ (c_ldr_ z (upd (c_ldr z) s (nI (r)))) (upd (c_off z) s ((-1)))) (upd (c_slb z) r (nI (s)))) (rep (c_off (c_slb_ (c_off_ (c_ldr_ z (upd (c_ldr z) s (nI (r)))) (upd (c_off z) s ((-1)))) (upd (c_slb z) r (nI (s))))) (nI r) (-1) (c_ns (c_slb_ (c_off_ (c_ldr_ z (upd (c_ldr z) s (nI (r)))) (upd (c_off z) s ((-1)))) (upd (c_slb z) r (nI (s)))))))) k o (c_sec ((c_off_ (c_slb_ (c_off_ (c_ldr_ z (upd (c_ldr z) s (nI (r)))) (upd (c_off z) s ((-1)))) (upd (c_slb z) r (nI (s)))) (rep (c_off (c_slb_ (c_off_ (c_ldr_ z (upd (c_ldr z) s (nI (r)))) (upd (c_off z) s ((-1)))) (upd (c_slb z) r (nI (s))))) (nI r) (-1) (c_ns (c_slb_ (c_off_ (c_ldr_ z (upd (c_ldr z) s (nI (r)))) (upd (c_off z) s ((-1)))) (upd (c_slb z) r (nI (s))))))))) (nI s) ((nI (r))) hR) rfl rfl rfl rfl rfl rfl rfl ?_
  exact AW.vret d_C_setLeader_67 rfl rfl rfl ⟨rfl, rfl⟩
theorem c_set_sn (X : ct_X) (z : S_c) (k : S_m) (o : Nat → Int64) (s : Nat) (q : Nat) (hq : q < 40) (hs : s < 20) (hn : c_ns z ≤ 20) (hf : c_ldr z s = nI q) (hR : Ring z) : AF X m_C_setLeader 3 0 0 [.ref 0, .int (nI (s)), .int ((-1))] (wL z k o) (.inl none) (wL (f_set1 z s (some q) none) k o) := by
  refine AM.of rfl (Nat.le_of_ble_eq_true rfl) (ls := [some (.ref 0), some (.int (nI (s))), some (.int ((-1))), none]) rfl ?_
  refine AW.aload_n (pc' := 1) d_C_setLeader_0 rfl rfl rfl ?_
  refine AW.getf (pc' := 4) d_C_setLeader_1 rfl fl_C_42 rfl rfl ?_
  refine AW.iload_n (pc' := 5) d_C_setLeader_4 rfl rfl rfl ?_
  refine AW.ialdN (pc' := 6) d_C_setLeader_5 rfl rfl (by omega) (by decide) ?_
  refine AW.top (u := .int (nI (q))) (by rw [hf]) ?_
  refine AW.istore_n (pc' := 7) (ls' := [some (.ref 0), some (.int (nI (s))), some (.int ((-1))), some (.int (nI (q)))]) d_C_setLeader_6 rfl rfl rfl rfl ?_
  refine AW.iload_n (pc' := 8) d_C_setLeader_7 rfl rfl rfl ?_
  refine AW.iload_n (pc' := 9) d_C_setLeader_8 rfl rfl rfl ?_
  refine AW.icmp_ne (tgt := 13) (pc' := 12) d_C_setLeader_9 (by decide) rfl (fun h9 => ?_) (fun h => absurd h (oI_ne (by omega)))
  refine AW.iload_n (pc' := 14) d_C_setLeader_13 rfl rfl rfl ?_
  refine AW.if_lt (tgt := 24) (pc' := 17) d_C_setLeader_14 (by decide) rfl (fun h => absurd h (nI_pos (by omega))) (fun _ => ?_)
  refine AW.aload_n (pc' := 18) d_C_setLeader_17 rfl rfl rfl ?_
  refine AW.getf (pc' := 21) d_C_setLeader_18 rfl fl_C_23 rfl rfl ?_
  refine AW.iload_n (pc' := 22) d_C_setLeader_21 rfl rfl rfl ?_
  refine AW.iconst (pc' := 23) (v := (-1)) d_C_setLeader_22 rfl (by decide) ?_
  refine AW.iastN (pc' := 24) (w' := (wL (c_slb_ z (upd (c_slb z) q ((-1)))) k o)) d_C_setLeader_23 rfl rfl (by omega) (by decide) rfl ?_
  refine AW.aload_n (pc' := 25) d_C_setLeader_24 rfl rfl rfl ?_
  refine AW.getf (pc' := 28) d_C_setLeader_25 rfl fl_C_42 rfl rfl ?_
  refine AW.iload_n (pc' := 29) d_C_setLeader_28 rfl rfl rfl ?_
  refine AW.iload_n (pc' := 30) d_C_setLeader_29 rfl rfl rfl ?_
  refine AW.iastN (pc' := 31) (w' := (wL (c_ldr_ (c_slb_ z (upd (c_slb z) q ((-1)))) (upd (c_ldr z) s ((-1)))) k o)) d_C_setLeader_30 rfl rfl (by omega) (by decide) rfl ?_
  refine AW.aload_n (pc' := 32) d_C_setLeader_31 rfl rfl rfl ?_
  refine AW.getf (pc' := 35) d_C_setLeader_32 rfl fl_C_45 rfl rfl ?_
  refine AW.iload_n (pc' := 36) d_C_setLeader_35 rfl rfl rfl ?_
  refine AW.iconst (pc' := 37) (v := (-1)) d_C_setLeader_36 rfl (by decide) ?_
  refine AW.iastN (pc' := 38) (w' := (wL (c_off_ (c_ldr_ (c_slb_ z (upd (c_slb z) q ((-1)))) (upd (c_ldr z) s ((-1)))) (upd (c_off z) s ((-1)))) k o)) d_C_setLeader_37 rfl rfl (by omega) (by decide) rfl ?_
  refine AW.iload_n (pc' := 39) d_C_setLeader_38 rfl rfl rfl ?_
  refine AW.if_lt (tgt := 54) (pc' := 42) d_C_setLeader_39 (by decide) rfl (fun h39 => ?_) (fun h => absurd (by decide) h)
  refine AW.aload_n (pc' := 55) d_C_setLeader_54 rfl rfl rfl ?_
  refine AW.getf (pc' := 58) d_C_setLeader_55 rfl fl_C_61 rfl rfl ?_
  refine AW.aload_n (pc' := 59) d_C_setLeader_58 rfl rfl rfl ?_
  refine AW.getf (pc' := 62) d_C_setLeader_59 rfl fl_C_98 rfl rfl ?_
  refine AW.top (u := .int (nI (c_sec z))) rfl ?_
  refine AW.iload_n (pc' := 63) d_C_setLeader_62 rfl rfl rfl ?_
  refine AW.iload_n (pc' := 64) d_C_setLeader_63 rfl rfl rfl ?_
  refine AW.cV (pc' := 67) d_C_setLeader_64 rfl cv_C_243 (by decide) rfl rfl rfl (c_note X (c_off_ (c_ldr_ (c_slb_ z (upd (c_slb z) q ((-1)))) (upd (c_ldr z) s ((-1)))) (upd (c_off z) s ((-1)))) k o (c_sec (c_off_ (c_ldr_ (c_slb_ z (upd (c_slb z) q ((-1)))) (upd (c_ldr z) s ((-1)))) (upd (c_off z) s ((-1))))) (nI s) (((-1))) hR) rfl rfl rfl rfl rfl rfl rfl ?_
  exact AW.vret d_C_setLeader_67 rfl rfl rfl ⟨rfl, rfl⟩
theorem c_set_ss (X : ct_X) (z : S_c) (k : S_m) (o : Nat → Int64) (s : Nat) (q : Nat) (hq : q < 40) (r : Nat) (hr : r < 40) (hne : ¬ q = r) (hs : s < 20) (hn : c_ns z ≤ 20) (hf : c_ldr z s = nI q) (hR : Ring z) : AF X m_C_setLeader 3 0 0 [.ref 0, .int (nI (s)), .int (nI (r))] (wL z k o) (.inl none) (wL (f_set1 z s (some q) (some r)) k o) := by
  refine AM.of rfl (Nat.le_of_ble_eq_true rfl) (ls := [some (.ref 0), some (.int (nI (s))), some (.int (nI (r))), none]) rfl ?_
  refine AW.aload_n (pc' := 1) d_C_setLeader_0 rfl rfl rfl ?_
  refine AW.getf (pc' := 4) d_C_setLeader_1 rfl fl_C_42 rfl rfl ?_
  refine AW.iload_n (pc' := 5) d_C_setLeader_4 rfl rfl rfl ?_
  refine AW.ialdN (pc' := 6) d_C_setLeader_5 rfl rfl (by omega) (by decide) ?_
  refine AW.top (u := .int (nI (q))) (by rw [hf]) ?_
  refine AW.istore_n (pc' := 7) (ls' := [some (.ref 0), some (.int (nI (s))), some (.int (nI (r))), some (.int (nI (q)))]) d_C_setLeader_6 rfl rfl rfl rfl ?_
  refine AW.iload_n (pc' := 8) d_C_setLeader_7 rfl rfl rfl ?_
  refine AW.iload_n (pc' := 9) d_C_setLeader_8 rfl rfl rfl ?_
  refine AW.icmp_neN (tgt := 13) (pc' := 12) d_C_setLeader_9 (by decide) rfl (by omega) (by omega) (fun h9 => ?_) (fun h => absurd h (by omega))
  refine AW.iload_n (pc' := 14) d_C_setLeader_13 rfl rfl rfl ?_
  refine AW.if_lt (tgt := 24) (pc' := 17) d_C_setLeader_14 (by decide) rfl (fun h => absurd h (nI_pos (by omega))) (fun _ => ?_)
  refine AW.aload_n (pc' := 18) d_C_setLeader_17 rfl rfl rfl ?_
  refine AW.getf (pc' := 21) d_C_setLeader_18 rfl fl_C_23 rfl rfl ?_
  refine AW.iload_n (pc' := 22) d_C_setLeader_21 rfl rfl rfl ?_
  refine AW.iconst (pc' := 23) (v := (-1)) d_C_setLeader_22 rfl (by decide) ?_
  refine AW.iastN (pc' := 24) (w' := (wL (c_slb_ z (upd (c_slb z) q ((-1)))) k o)) d_C_setLeader_23 rfl rfl (by omega) (by decide) rfl ?_
  refine AW.aload_n (pc' := 25) d_C_setLeader_24 rfl rfl rfl ?_
  refine AW.getf (pc' := 28) d_C_setLeader_25 rfl fl_C_42 rfl rfl ?_
  refine AW.iload_n (pc' := 29) d_C_setLeader_28 rfl rfl rfl ?_
  refine AW.iload_n (pc' := 30) d_C_setLeader_29 rfl rfl rfl ?_
  refine AW.iastN (pc' := 31) (w' := (wL (c_ldr_ (c_slb_ z (upd (c_slb z) q ((-1)))) (upd (c_ldr z) s (nI (r)))) k o)) d_C_setLeader_30 rfl rfl (by omega) (by decide) rfl ?_
  refine AW.aload_n (pc' := 32) d_C_setLeader_31 rfl rfl rfl ?_
  refine AW.getf (pc' := 35) d_C_setLeader_32 rfl fl_C_45 rfl rfl ?_
  refine AW.iload_n (pc' := 36) d_C_setLeader_35 rfl rfl rfl ?_
  refine AW.iconst (pc' := 37) (v := (-1)) d_C_setLeader_36 rfl (by decide) ?_
  refine AW.iastN (pc' := 38) (w' := (wL (c_off_ (c_ldr_ (c_slb_ z (upd (c_slb z) q ((-1)))) (upd (c_ldr z) s (nI (r)))) (upd (c_off z) s ((-1)))) k o)) d_C_setLeader_37 rfl rfl (by omega) (by decide) rfl ?_
  refine AW.iload_n (pc' := 39) d_C_setLeader_38 rfl rfl rfl ?_
  refine AW.if_lt (tgt := 54) (pc' := 42) d_C_setLeader_39 (by decide) rfl (fun h => absurd h (nI_pos (by omega))) (fun _ => ?_)
  refine AW.aload_n (pc' := 43) d_C_setLeader_42 rfl rfl rfl ?_
  refine AW.getf (pc' := 46) d_C_setLeader_43 rfl fl_C_23 rfl rfl ?_
  refine AW.iload_n (pc' := 47) d_C_setLeader_46 rfl rfl rfl ?_
  refine AW.iload_n (pc' := 48) d_C_setLeader_47 rfl rfl rfl ?_
  refine AW.iastN (pc' := 49) (w' := (wL (c_slb_ (c_off_ (c_ldr_ (c_slb_ z (upd (c_slb z) q ((-1)))) (upd (c_ldr z) s (nI (r)))) (upd (c_off z) s ((-1)))) (upd (upd (c_slb z) q ((-1))) r (nI (s)))) k o)) d_C_setLeader_48 rfl rfl (by omega) (by decide) rfl ?_
  refine AW.aload_n (pc' := 50) d_C_setLeader_49 rfl rfl rfl ?_
  refine AW.iload_n (pc' := 51) d_C_setLeader_50 rfl rfl rfl ?_
  refine AW.cV (pc' := 54) d_C_setLeader_51 rfl cv_C_108 (by decide) rfl rfl rfl (c_withdraw X (c_slb_ (c_off_ (c_ldr_ (c_slb_ z (upd (c_slb z) q ((-1)))) (upd (c_ldr z) s (nI (r)))) (upd (c_off z) s ((-1)))) (upd (upd (c_slb z) q ((-1))) r (nI (s)))) k o (nI r) hn) rfl rfl rfl rfl rfl rfl rfl ?_
  refine AW.aload_n (pc' := 55) d_C_setLeader_54 rfl rfl rfl ?_
  refine AW.getf (pc' := 58) d_C_setLeader_55 rfl fl_C_61 rfl rfl ?_
  refine AW.aload_n (pc' := 59) d_C_setLeader_58 rfl rfl rfl ?_
  refine AW.getf (pc' := 62) d_C_setLeader_59 rfl fl_C_98 rfl rfl ?_
  refine AW.iload_n (pc' := 63) d_C_setLeader_62 rfl rfl rfl ?_
  refine AW.iload_n (pc' := 64) d_C_setLeader_63 rfl rfl rfl ?_
  refine AW.cV (pc' := 67) d_C_setLeader_64 rfl cv_C_243 (by decide) rfl rfl rfl (c_note X ((c_off_ (c_slb_ (c_off_ (c_ldr_ (c_slb_ z (upd (c_slb z) q ((-1)))) (upd (c_ldr z) s (nI (r)))) (upd (c_off z) s ((-1)))) (upd (upd (c_slb z) q ((-1))) r (nI (s)))) (rep (c_off (c_slb_ (c_off_ (c_ldr_ (c_slb_ z (upd (c_slb z) q ((-1)))) (upd (c_ldr z) s (nI (r)))) (upd (c_off z) s ((-1)))) (upd (upd (c_slb z) q ((-1))) r (nI (s))))) (nI r) (-1) (c_ns (c_slb_ (c_off_ (c_ldr_ (c_slb_ z (upd (c_slb z) q ((-1)))) (upd (c_ldr z) s (nI (r)))) (upd (c_off z) s ((-1)))) (upd (upd (c_slb z) q ((-1))) r (nI (s)))))))) k o (c_sec ((c_off_ (c_slb_ (c_off_ (c_ldr_ (c_slb_ z (upd (c_slb z) q ((-1)))) (upd (c_ldr z) s (nI (r)))) (upd (c_off z) s ((-1)))) (upd (upd (c_slb z) q ((-1))) r (nI (s)))) (rep (c_off (c_slb_ (c_off_ (c_ldr_ (c_slb_ z (upd (c_slb z) q ((-1)))) (upd (c_ldr z) s (nI (r)))) (upd (c_off z) s ((-1)))) (upd (upd (c_slb z) q ((-1))) r (nI (s))))) (nI r) (-1) (c_ns (c_slb_ (c_off_ (c_ldr_ (c_slb_ z (upd (c_slb z) q ((-1)))) (upd (c_ldr z) s (nI (r)))) (upd (c_off z) s ((-1)))) (upd (upd (c_slb z) q ((-1))) r (nI (s))))))))) (nI s) ((nI (r))) hR) rfl rfl rfl rfl rfl rfl rfl ?_
  exact AW.vret d_C_setLeader_67 rfl rfl rfl ⟨rfl, rfl⟩
theorem c_set_eq (X : ct_X) (z : S_c) (k : S_m) (o : Nat → Int64) (s : Nat) (p : Int32) (hs : s < 20) (hf : c_ldr z s = p) : AF X m_C_setLeader 3 0 0 [.ref 0, .int (nI (s)), .int (p)] (wL z k o) (.inl none) (wL z k o) := by
  refine AM.of rfl (Nat.le_of_ble_eq_true rfl) (ls := [some (.ref 0), some (.int (nI (s))), some (.int (p)), none]) rfl ?_
  refine AW.aload_n (pc' := 1) d_C_setLeader_0 rfl rfl rfl ?_
  refine AW.getf (pc' := 4) d_C_setLeader_1 rfl fl_C_42 rfl rfl ?_
  refine AW.iload_n (pc' := 5) d_C_setLeader_4 rfl rfl rfl ?_
  refine AW.ialdN (pc' := 6) d_C_setLeader_5 rfl rfl (by omega) (by decide) ?_
  refine AW.istore_n (pc' := 7) (ls' := [some (.ref 0), some (.int (nI (s))), some (.int (p)), some (.int ((c_ldr z) s))]) d_C_setLeader_6 rfl rfl rfl rfl ?_
  refine AW.iload_n (pc' := 8) d_C_setLeader_7 rfl rfl rfl ?_
  refine AW.iload_n (pc' := 9) d_C_setLeader_8 rfl rfl rfl ?_
  refine AW.icmp_ne (tgt := 13) (pc' := 12) d_C_setLeader_9 (by decide) rfl (fun h => absurd hf h) (fun h9 => ?_)
  exact AW.vret d_C_setLeader_12 rfl rfl rfl ⟨rfl, rfl⟩
end
section
/-! THE CLASS'S LOOPS (rows printed by wip/whole/m3.py) -/
theorem AW.dropL {X : ct_X} {M : ct_M} {d mc ms cb sb pc j : Nat} {ls ls' : List (Option Value)} {st : List Value} {w : ct_W} {Q : Option Value ⊕ Nat → ct_W → Prop} (hs : ls.set j none = ls') (k : AW X M d mc ms cb sb pc ls' st w Q) : AW X M d mc ms cb sb pc ls st w Q := by
  subst hs
  intro G p e R s m args below meth c A ad ad0 n0 H locs cells slots arr hR hA hr h1 h2
  refine k G p e R s m args below meth c A ad ad0 n0 H locs cells slots arr hR hA ⟨hr.1, hr.2.1, hr.2.2.1, ⟨hr.2.2.2.1.1, fun i v hv => ?_⟩, hr.2.2.2.2⟩ h1 h2
  rw [List.getElem?_set] at hv
  by_cases e9 : j = i
  · subst e9
    rw [if_pos rfl] at hv
    by_cases hl : j < ls.length
    · rw [if_pos hl] at hv
      exact nomatch (Option.some.inj hv)
    · rw [if_neg hl] at hv
      cases hv
  · rw [if_neg e9] at hv
    exact hr.2.2.2.1.2 i v hv
def befB (z : S_c) (p q : Nat) : Bool := if c_rank z p = c_rank z q then decide (c_arr z p < c_arr z q) else decide (c_rank z q < c_rank z p)
theorem c_before (X : ct_X) (z : S_c) (k : S_m) (o : Nat → Int64) (p q : Nat) (hp : p < 40) (hq : q < 40) : AF X m_C_comesBefore 0 0 0 [.ref 0, .int (nI (p)), .int (nI (q))] (wL z k o) (.inl (some (.int (nI (cond (befB z p q) 1 0))))) (wL z k o) := by
  refine AM.of rfl (Nat.le_of_ble_eq_true rfl) (ls := [some (.ref 0), some (.int (nI (p))), some (.int (nI (q)))]) rfl ?_
  refine AW.aload_n (pc' := 1) d_C_comesBefore_0 rfl rfl rfl ?_
  refine AW.getf (pc' := 4) d_C_comesBefore_1 rfl fl_C_13 rfl rfl ?_
  refine AW.iload_n (pc' := 5) d_C_comesBefore_4 rfl rfl rfl ?_
  refine AW.ialdN (pc' := 6) d_C_comesBefore_5 rfl rfl (by omega) (by decide) ?_
  refine AW.aload_n (pc' := 7) d_C_comesBefore_6 rfl rfl rfl ?_
  refine AW.getf (pc' := 10) d_C_comesBefore_7 rfl fl_C_13 rfl rfl ?_
  refine AW.iload_n (pc' := 11) d_C_comesBefore_10 rfl rfl rfl ?_
  refine AW.ialdN (pc' := 12) d_C_comesBefore_11 rfl rfl (by omega) (by decide) ?_
  refine AW.icmp_eq (tgt := 36) (pc' := 15) d_C_comesBefore_12 (by decide) rfl (fun h12 => ?_) (fun h12 => ?_)
  · refine AW.aload_n (pc' := 37) d_C_comesBefore_36 rfl rfl rfl ?_
    refine AW.getf (pc' := 40) d_C_comesBefore_37 rfl fl_C_17 rfl rfl ?_
    refine AW.iload_n (pc' := 41) d_C_comesBefore_40 rfl rfl rfl ?_
    refine AW.ialdN (pc' := 42) d_C_comesBefore_41 rfl rfl (by omega) (by decide) ?_
    refine AW.aload_n (pc' := 43) d_C_comesBefore_42 rfl rfl rfl ?_
    refine AW.getf (pc' := 46) d_C_comesBefore_43 rfl fl_C_17 rfl rfl ?_
    refine AW.iload_n (pc' := 47) d_C_comesBefore_46 rfl rfl rfl ?_
    refine AW.ialdN (pc' := 48) d_C_comesBefore_47 rfl rfl (by omega) (by decide) ?_
    refine AW.icmp_ge (tgt := 55) (pc' := 51) d_C_comesBefore_48 (by decide) rfl (fun h48 => ?_) (fun h48 => ?_)
    · refine AW.iconst (pc' := 56) (v := nI 0) d_C_comesBefore_55 rfl (by decide) ?_
      exact AW.zret d_C_comesBefore_56 rfl (by decide) rfl rfl ⟨by simp only [befB]; rw [if_pos h12, decide_eq_false (Int32.not_lt.mpr h48)]; rfl, rfl⟩
    · refine AW.iconst (pc' := 52) (v := nI 1) d_C_comesBefore_51 rfl (by decide) ?_
      refine AW.goto (tgt := 56) d_C_comesBefore_52 (by decide) ?_
      exact AW.zret d_C_comesBefore_56 rfl (by decide) rfl rfl ⟨by simp only [befB]; rw [if_pos h12, decide_eq_true (Int32.not_le.mp h48)]; rfl, rfl⟩
  · refine AW.aload_n (pc' := 16) d_C_comesBefore_15 rfl rfl rfl ?_
    refine AW.getf (pc' := 19) d_C_comesBefore_16 rfl fl_C_13 rfl rfl ?_
    refine AW.iload_n (pc' := 20) d_C_comesBefore_19 rfl rfl rfl ?_
    refine AW.ialdN (pc' := 21) d_C_comesBefore_20 rfl rfl (by omega) (by decide) ?_
    refine AW.aload_n (pc' := 22) d_C_comesBefore_21 rfl rfl rfl ?_
    refine AW.getf (pc' := 25) d_C_comesBefore_22 rfl fl_C_13 rfl rfl ?_
    refine AW.iload_n (pc' := 26) d_C_comesBefore_25 rfl rfl rfl ?_
    refine AW.ialdN (pc' := 27) d_C_comesBefore_26 rfl rfl (by omega) (by decide) ?_
    refine AW.icmp_le (tgt := 34) (pc' := 30) d_C_comesBefore_27 (by decide) rfl (fun h27 => ?_) (fun h27 => ?_)
    · refine AW.iconst (pc' := 35) (v := nI 0) d_C_comesBefore_34 rfl (by decide) ?_
      exact AW.zret d_C_comesBefore_35 rfl (by decide) rfl rfl ⟨by simp only [befB]; rw [if_neg h12, decide_eq_false (Int32.not_lt.mpr h27)]; rfl, rfl⟩
    · refine AW.iconst (pc' := 31) (v := nI 1) d_C_comesBefore_30 rfl (by decide) ?_
      refine AW.goto (tgt := 35) d_C_comesBefore_31 (by decide) ?_
      exact AW.zret d_C_comesBefore_35 rfl (by decide) rfl rfl ⟨by simp only [befB]; rw [if_neg h12, decide_eq_true (Int32.not_le.mp h27)]; rfl, rfl⟩
theorem c_before_t (X : ct_X) (z : S_c) (k : S_m) (o : Nat → Int64) (p q : Nat) (hp : p < 40) (hq : q < 40) (h : befB z p q = true) : AF X m_C_comesBefore 0 0 0 [.ref 0, .int (nI p), .int (nI q)] (wL z k o) (.inl (some (.int (nI 1)))) (wL z k o) := by
  have h9 := c_before X z k o p q hp hq
  rw [h] at h9
  exact h9
theorem c_before_f (X : ct_X) (z : S_c) (k : S_m) (o : Nat → Int64) (p q : Nat) (hp : p < 40) (hq : q < 40) (h : befB z p q = false) : AF X m_C_comesBefore 0 0 0 [.ref 0, .int (nI p), .int (nI q)] (wL z k o) (.inl (some (.int (nI 0)))) (wL z k o) := by
  have h9 := c_before X z k o p q hp hq
  rw [h] at h9
  exact h9
def mayB (z : S_c) (s : Int32) (p : Nat) : Bool := decide (c_sop z p = s) && decide (c_slb z p = -1)
def f_next (z : S_c) (s : Int32) : Nat → Option Nat
  | 0 => none
  | n + 1 => match f_next z s n with
    | none => if mayB z s n = true then some n else none
    | some q => if mayB z s n = true ∧ befB z n q = true then some n else some q
theorem f_next_lt {z : S_c} {s : Int32} : ∀ {n q : Nat}, f_next z s n = some q → q < n ∧ mayB z s q = true
  | 0, q, h => by cases h
  | n + 1, q, h => by
    unfold f_next at h
    cases e : f_next z s n with
    | none =>
      rw [e] at h
      dsimp only at h
      split at h
      · cases h
        exact ⟨by omega, by assumption⟩
      · cases h
    | some r =>
      rw [e] at h
      dsimp only at h
      split at h
      · cases h
        rename_i h1
        exact ⟨by omega, h1.1⟩
      · cases h
        obtain ⟨h1, h2⟩ := f_next_lt e
        exact ⟨by omega, h2⟩
theorem lp_next (X : ct_X) (z : S_c) (k : S_m) (o : Nat → Int64) (s : Int32) (hn : c_np z ≤ 40) : ∀ (n i : Nat), i + n = c_np z → AW X m_C_nextToLead 1 0 0 0 0 4 [some (.ref 0), some (.int s), some (.int (oI (f_next z s i))), some (.int (nI i)), none] [] (wL z k o) (fun r w' => r = .inl (some (.int (oI (f_next z s (c_np z))))) ∧ w' = wL z k o) := by
  intro n
  induction n with
  | zero =>
    intro i hi
    have e : i = c_np z := by omega
    subst e
    refine AW.iload_n (pc' := 5) d_C_nextToLead_4 rfl rfl rfl ?_
    refine AW.aload_n (pc' := 6) d_C_nextToLead_5 rfl rfl rfl ?_
    refine AW.getf (pc' := 9) d_C_nextToLead_6 rfl fl_C_72 rfl rfl ?_
    refine AW.icmp_geN (tgt := 66) (pc' := 12) d_C_nextToLead_9 (by decide) rfl (by omega) (by omega) (fun h9 => ?_) (fun h => absurd h (by omega))
    refine AW.iload_n (pc' := 67) d_C_nextToLead_66 rfl rfl rfl ?_
    exact AW.iret d_C_nextToLead_67 rfl rfl rfl ⟨rfl, rfl⟩
  | succ n ih =>
    intro i hi
    cases e : f_next z s i with
    | none =>
      show AW X m_C_nextToLead 1 0 0 0 0 4 [some (.ref 0), some (.int (s)), some (.int ((-1))), some (.int (nI (i))), none] [] (wL z k o) _
      refine AW.iload_n (pc' := 5) d_C_nextToLead_4 rfl rfl rfl ?_
      refine AW.aload_n (pc' := 6) d_C_nextToLead_5 rfl rfl rfl ?_
      refine AW.getf (pc' := 9) d_C_nextToLead_6 rfl fl_C_72 rfl rfl ?_
      refine AW.icmp_geN (tgt := 66) (pc' := 12) d_C_nextToLead_9 (by decide) rfl (by omega) (by omega) (fun h => absurd h (by omega)) (fun h9 => ?_)
      refine AW.aload_n (pc' := 13) d_C_nextToLead_12 rfl rfl rfl ?_
      refine AW.getf (pc' := 16) d_C_nextToLead_13 rfl fl_C_20 rfl rfl ?_
      refine AW.iload_n (pc' := 17) d_C_nextToLead_16 rfl rfl rfl ?_
      refine AW.ialdN (pc' := 18) d_C_nextToLead_17 rfl rfl (by omega) (by decide) ?_
      refine AW.iload_n (pc' := 19) d_C_nextToLead_18 rfl rfl rfl ?_
      refine AW.icmp_ne (tgt := 36) (pc' := 22) d_C_nextToLead_19 (by decide) rfl (fun h19 => ?_) (fun h19 => ?_)
      · refine AW.iconst (pc' := 37) (v := nI 0) d_C_nextToLead_36 rfl (by decide) ?_
        refine AW.istore (pc' := 39) (ls' := [some (.ref 0), some (.int (s)), some (.int ((-1))), some (.int (nI (i))), some (.int (nI (0)))]) d_C_nextToLead_37 rfl rfl rfl ?_
        refine AW.iload (pc' := 41) d_C_nextToLead_39 rfl rfl ?_
        refine AW.if_eq (tgt := 60) (pc' := 44) d_C_nextToLead_41 (by decide) rfl (fun _ => ?_) (fun h => absurd h (by decide))
        refine AW.iincN (pc' := 63) (ls' := [some (.ref 0), some (.int (s)), some (.int ((-1))), some (.int (nI (i + 1))), some (.int (nI (0)))]) d_C_nextToLead_60 rfl rfl rfl rfl ?_
        refine AW.goto (tgt := 4) d_C_nextToLead_63 (by decide) ?_
        have h9 := ih (i + 1) (by omega)
        rw [show f_next z s (i + 1) = none from by simp [f_next, e, mayB, h19]] at h9
        exact AW.dropL (j := 4) rfl h9
      · refine AW.aload_n (pc' := 23) d_C_nextToLead_22 rfl rfl rfl ?_
        refine AW.getf (pc' := 26) d_C_nextToLead_23 rfl fl_C_23 rfl rfl ?_
        refine AW.iload_n (pc' := 27) d_C_nextToLead_26 rfl rfl rfl ?_
        refine AW.ialdN (pc' := 28) d_C_nextToLead_27 rfl rfl (by omega) (by decide) ?_
        refine AW.iconst (pc' := 29) (v := (-1)) d_C_nextToLead_28 rfl (by decide) ?_
        refine AW.icmp_ne (tgt := 36) (pc' := 32) d_C_nextToLead_29 (by decide) rfl (fun h29 => ?_) (fun h29 => ?_)
        · refine AW.iconst (pc' := 37) (v := nI 0) d_C_nextToLead_36 rfl (by decide) ?_
          refine AW.istore (pc' := 39) (ls' := [some (.ref 0), some (.int (s)), some (.int ((-1))), some (.int (nI (i))), some (.int (nI (0)))]) d_C_nextToLead_37 rfl rfl rfl ?_
          refine AW.iload (pc' := 41) d_C_nextToLead_39 rfl rfl ?_
          refine AW.if_eq (tgt := 60) (pc' := 44) d_C_nextToLead_41 (by decide) rfl (fun _ => ?_) (fun h => absurd h (by decide))
          refine AW.iincN (pc' := 63) (ls' := [some (.ref 0), some (.int (s)), some (.int ((-1))), some (.int (nI (i + 1))), some (.int (nI (0)))]) d_C_nextToLead_60 rfl rfl rfl rfl ?_
          refine AW.goto (tgt := 4) d_C_nextToLead_63 (by decide) ?_
          have h9 := ih (i + 1) (by omega)
          rw [show f_next z s (i + 1) = none from by simp [f_next, e, mayB, h19, h29]] at h9
          exact AW.dropL (j := 4) rfl h9
        · refine AW.iconst (pc' := 33) (v := nI 1) d_C_nextToLead_32 rfl (by decide) ?_
          refine AW.goto (tgt := 37) d_C_nextToLead_33 (by decide) ?_
          refine AW.istore (pc' := 39) (ls' := [some (.ref 0), some (.int (s)), some (.int ((-1))), some (.int (nI (i))), some (.int (nI (1)))]) d_C_nextToLead_37 rfl rfl rfl ?_
          refine AW.iload (pc' := 41) d_C_nextToLead_39 rfl rfl ?_
          refine AW.if_eq (tgt := 60) (pc' := 44) d_C_nextToLead_41 (by decide) rfl (fun h => absurd h (by decide)) (fun _ => ?_)
          refine AW.iload_n (pc' := 45) d_C_nextToLead_44 rfl rfl rfl ?_
          refine AW.iconst (pc' := 46) (v := (-1)) d_C_nextToLead_45 rfl (by decide) ?_
          refine AW.icmp_eq (tgt := 58) (pc' := 49) d_C_nextToLead_46 (by decide) rfl (fun h46 => ?_) (fun h => absurd rfl h)
          refine AW.iload_n (pc' := 59) d_C_nextToLead_58 rfl rfl rfl ?_
          refine AW.istore_n (pc' := 60) (ls' := [some (.ref 0), some (.int (s)), some (.int (nI (i))), some (.int (nI (i))), some (.int (nI (1)))]) d_C_nextToLead_59 rfl rfl rfl rfl ?_
          refine AW.iincN (pc' := 63) (ls' := [some (.ref 0), some (.int (s)), some (.int (nI (i))), some (.int (nI (i + 1))), some (.int (nI (1)))]) d_C_nextToLead_60 rfl rfl rfl rfl ?_
          refine AW.goto (tgt := 4) d_C_nextToLead_63 (by decide) ?_
          have h9 := ih (i + 1) (by omega)
          rw [show f_next z s (i + 1) = some i from by simp [f_next, e, mayB, h19, h29]] at h9
          exact AW.dropL (j := 4) rfl h9
    | some q =>
      have hq := (f_next_lt e).1
      show AW X m_C_nextToLead 1 0 0 0 0 4 [some (.ref 0), some (.int (s)), some (.int (nI (q))), some (.int (nI (i))), none] [] (wL z k o) _
      refine AW.iload_n (pc' := 5) d_C_nextToLead_4 rfl rfl rfl ?_
      refine AW.aload_n (pc' := 6) d_C_nextToLead_5 rfl rfl rfl ?_
      refine AW.getf (pc' := 9) d_C_nextToLead_6 rfl fl_C_72 rfl rfl ?_
      refine AW.icmp_geN (tgt := 66) (pc' := 12) d_C_nextToLead_9 (by decide) rfl (by omega) (by omega) (fun h => absurd h (by omega)) (fun h9 => ?_)
      refine AW.aload_n (pc' := 13) d_C_nextToLead_12 rfl rfl rfl ?_
      refine AW.getf (pc' := 16) d_C_nextToLead_13 rfl fl_C_20 rfl rfl ?_
      refine AW.iload_n (pc' := 17) d_C_nextToLead_16 rfl rfl rfl ?_
      refine AW.ialdN (pc' := 18) d_C_nextToLead_17 rfl rfl (by omega) (by decide) ?_
      refine AW.iload_n (pc' := 19) d_C_nextToLead_18 rfl rfl rfl ?_
      refine AW.icmp_ne (tgt := 36) (pc' := 22) d_C_nextToLead_19 (by decide) rfl (fun h19 => ?_) (fun h19 => ?_)
      · refine AW.iconst (pc' := 37) (v := nI 0) d_C_nextToLead_36 rfl (by decide) ?_
        refine AW.istore (pc' := 39) (ls' := [some (.ref 0), some (.int (s)), some (.int (nI (q))), some (.int (nI (i))), some (.int (nI (0)))]) d_C_nextToLead_37 rfl rfl rfl ?_
        refine AW.iload (pc' := 41) d_C_nextToLead_39 rfl rfl ?_
        refine AW.if_eq (tgt := 60) (pc' := 44) d_C_nextToLead_41 (by decide) rfl (fun _ => ?_) (fun h => absurd h (by decide))
        refine AW.iincN (pc' := 63) (ls' := [some (.ref 0), some (.int (s)), some (.int (nI (q))), some (.int (nI (i + 1))), some (.int (nI (0)))]) d_C_nextToLead_60 rfl rfl rfl rfl ?_
        refine AW.goto (tgt := 4) d_C_nextToLead_63 (by decide) ?_
        have h9 := ih (i + 1) (by omega)
        rw [show f_next z s (i + 1) = some q from by simp [f_next, e, mayB, h19]] at h9
        exact AW.dropL (j := 4) rfl h9
      · refine AW.aload_n (pc' := 23) d_C_nextToLead_22 rfl rfl rfl ?_
        refine AW.getf (pc' := 26) d_C_nextToLead_23 rfl fl_C_23 rfl rfl ?_
        refine AW.iload_n (pc' := 27) d_C_nextToLead_26 rfl rfl rfl ?_
        refine AW.ialdN (pc' := 28) d_C_nextToLead_27 rfl rfl (by omega) (by decide) ?_
        refine AW.iconst (pc' := 29) (v := (-1)) d_C_nextToLead_28 rfl (by decide) ?_
        refine AW.icmp_ne (tgt := 36) (pc' := 32) d_C_nextToLead_29 (by decide) rfl (fun h29 => ?_) (fun h29 => ?_)
        · refine AW.iconst (pc' := 37) (v := nI 0) d_C_nextToLead_36 rfl (by decide) ?_
          refine AW.istore (pc' := 39) (ls' := [some (.ref 0), some (.int (s)), some (.int (nI (q))), some (.int (nI (i))), some (.int (nI (0)))]) d_C_nextToLead_37 rfl rfl rfl ?_
          refine AW.iload (pc' := 41) d_C_nextToLead_39 rfl rfl ?_
          refine AW.if_eq (tgt := 60) (pc' := 44) d_C_nextToLead_41 (by decide) rfl (fun _ => ?_) (fun h => absurd h (by decide))
          refine AW.iincN (pc' := 63) (ls' := [some (.ref 0), some (.int (s)), some (.int (nI (q))), some (.int (nI (i + 1))), some (.int (nI (0)))]) d_C_nextToLead_60 rfl rfl rfl rfl ?_
          refine AW.goto (tgt := 4) d_C_nextToLead_63 (by decide) ?_
          have h9 := ih (i + 1) (by omega)
          rw [show f_next z s (i + 1) = some q from by simp [f_next, e, mayB, h19, h29]] at h9
          exact AW.dropL (j := 4) rfl h9
        · refine AW.iconst (pc' := 33) (v := nI 1) d_C_nextToLead_32 rfl (by decide) ?_
          refine AW.goto (tgt := 37) d_C_nextToLead_33 (by decide) ?_
          refine AW.istore (pc' := 39) (ls' := [some (.ref 0), some (.int (s)), some (.int (nI (q))), some (.int (nI (i))), some (.int (nI (1)))]) d_C_nextToLead_37 rfl rfl rfl ?_
          refine AW.iload (pc' := 41) d_C_nextToLead_39 rfl rfl ?_
          refine AW.if_eq (tgt := 60) (pc' := 44) d_C_nextToLead_41 (by decide) rfl (fun h => absurd h (by decide)) (fun _ => ?_)
          refine AW.iload_n (pc' := 45) d_C_nextToLead_44 rfl rfl rfl ?_
          refine AW.iconst (pc' := 46) (v := (-1)) d_C_nextToLead_45 rfl (by decide) ?_
          refine AW.icmp_eq (tgt := 58) (pc' := 49) d_C_nextToLead_46 (by decide) rfl (fun h => absurd h (oI_ne (by omega))) (fun h46 => ?_)
          refine AW.aload_n (pc' := 50) d_C_nextToLead_49 rfl rfl rfl ?_
          refine AW.iload_n (pc' := 51) d_C_nextToLead_50 rfl rfl rfl ?_
          refine AW.iload_n (pc' := 52) d_C_nextToLead_51 rfl rfl rfl ?_
          by_cases hb : befB z i q = true
          · refine AW.cV (pc' := 55) d_C_nextToLead_52 rfl cv_C_247 (by decide) rfl rfl rfl (c_before_t X z k o i q (by omega) (by omega) hb) rfl rfl rfl rfl rfl rfl rfl ?_
            refine AW.if_eq (tgt := 60) (pc' := 58) d_C_nextToLead_55 (by decide) rfl (fun h => absurd h (by decide)) (fun _ => ?_)
            refine AW.iload_n (pc' := 59) d_C_nextToLead_58 rfl rfl rfl ?_
            refine AW.istore_n (pc' := 60) (ls' := [some (.ref 0), some (.int (s)), some (.int (nI (i))), some (.int (nI (i))), some (.int (nI (1)))]) d_C_nextToLead_59 rfl rfl rfl rfl ?_
            refine AW.iincN (pc' := 63) (ls' := [some (.ref 0), some (.int (s)), some (.int (nI (i))), some (.int (nI (i + 1))), some (.int (nI (1)))]) d_C_nextToLead_60 rfl rfl rfl rfl ?_
            refine AW.goto (tgt := 4) d_C_nextToLead_63 (by decide) ?_
            have h9 := ih (i + 1) (by omega)
            rw [show f_next z s (i + 1) = some i from by simp [f_next, e, mayB, h19, h29, hb]] at h9
            exact AW.dropL (j := 4) rfl h9
          · refine AW.cV (pc' := 55) d_C_nextToLead_52 rfl cv_C_247 (by decide) rfl rfl rfl (c_before_f X z k o i q (by omega) (by omega) (by simpa using hb)) rfl rfl rfl rfl rfl rfl rfl ?_
            refine AW.if_eq (tgt := 60) (pc' := 58) d_C_nextToLead_55 (by decide) rfl (fun _ => ?_) (fun h => absurd h (by decide))
            refine AW.iincN (pc' := 63) (ls' := [some (.ref 0), some (.int (s)), some (.int (nI (q))), some (.int (nI (i + 1))), some (.int (nI (1)))]) d_C_nextToLead_60 rfl rfl rfl rfl ?_
            refine AW.goto (tgt := 4) d_C_nextToLead_63 (by decide) ?_
            have h9 := ih (i + 1) (by omega)
            rw [show f_next z s (i + 1) = some q from by simp [f_next, e, mayB, h19, h29, hb]] at h9
            exact AW.dropL (j := 4) rfl h9
theorem c_next (X : ct_X) (z : S_c) (k : S_m) (o : Nat → Int64) (s : Int32) (hn : c_np z ≤ 40) : AF X m_C_nextToLead 1 0 0 [.ref 0, .int (s)] (wL z k o) (.inl (some (.int (oI (f_next z s (c_np z)))))) (wL z k o) := by
  refine AM.of rfl (Nat.le_of_ble_eq_true rfl) (ls := [some (.ref 0), some (.int (s)), none, none, none]) rfl ?_
  refine AW.iconst (pc' := 1) (v := (-1)) d_C_nextToLead_0 rfl (by decide) ?_
  refine AW.istore_n (pc' := 2) (ls' := [some (.ref 0), some (.int (s)), some (.int ((-1))), none, none]) d_C_nextToLead_1 rfl rfl rfl rfl ?_
  refine AW.iconst (pc' := 3) (v := nI 0) d_C_nextToLead_2 rfl (by decide) ?_
  refine AW.istore_n (pc' := 4) (ls' := [some (.ref 0), some (.int (s)), some (.int ((-1))), some (.int (nI (0))), none]) d_C_nextToLead_3 rfl rfl rfl rfl ?_
  exact lp_next X z k o s hn (c_np z) 0 (by omega)
def openB (z : S_c) (s : Int32) (j : Nat) : Bool := !decide (c_opn z j = 0) && decide (c_abv z j = s)
def cntB (P : Nat → Bool) : Nat → Nat
  | 0 => 0
  | n + 1 => cntB P n + cond (P n) 1 0
theorem cntB_t {P : Nat → Bool} {n : Nat} (h : P n = true) : cntB P (n + 1) = cntB P n + 1 := by rw [cntB, h]; rfl
theorem cntB_f {P : Nat → Bool} {n : Nat} (h : P n = false) : cntB P (n + 1) = cntB P n := by rw [cntB, h]; rfl
theorem cntB_le (P : Nat → Bool) : ∀ n, cntB P n ≤ n
  | 0 => Nat.le_refl _
  | n + 1 => by
    have h := cntB_le P n
    unfold cntB
    cases P n <;> simp <;> omega
theorem lp_open (X : ct_X) (z : S_c) (k : S_m) (o : Nat → Int64) (s : Int32) (hn : c_ns z ≤ 20) : ∀ (n i : Nat), i + n = c_ns z → AW X m_C_countOpenBelow 0 0 0 0 0 4 [some (.ref 0), some (.int (s)), some (.int (nI (cntB (openB z s) i))), some (.int (nI (i)))] [] (wL z k o) (fun r w' => r = .inl (some (.int (nI (cntB (openB z s) (c_ns z))))) ∧ w' = wL z k o) := by
  intro n
  induction n with
  | zero =>
    intro i hi
    have e : i = c_ns z := by omega
    subst e
    refine AW.iload_n (pc' := 5) d_C_countOpenBelow_4 rfl rfl rfl ?_
    refine AW.aload_n (pc' := 6) d_C_countOpenBelow_5 rfl rfl rfl ?_
    refine AW.getf (pc' := 9) d_C_countOpenBelow_6 rfl fl_C_48 rfl rfl ?_
    refine AW.icmp_geN (tgt := 40) (pc' := 12) d_C_countOpenBelow_9 (by decide) rfl (by omega) (by omega) (fun h9 => ?_) (fun h => absurd h (by omega))
    refine AW.iload_n (pc' := 41) d_C_countOpenBelow_40 rfl rfl rfl ?_
    exact AW.iret d_C_countOpenBelow_41 rfl rfl rfl ⟨rfl, rfl⟩
  | succ n ih =>
    intro i hi
    refine AW.iload_n (pc' := 5) d_C_countOpenBelow_4 rfl rfl rfl ?_
    refine AW.aload_n (pc' := 6) d_C_countOpenBelow_5 rfl rfl rfl ?_
    refine AW.getf (pc' := 9) d_C_countOpenBelow_6 rfl fl_C_48 rfl rfl ?_
    refine AW.icmp_geN (tgt := 40) (pc' := 12) d_C_countOpenBelow_9 (by decide) rfl (by omega) (by omega) (fun h => absurd h (by omega)) (fun h9 => ?_)
    refine AW.aload_n (pc' := 13) d_C_countOpenBelow_12 rfl rfl rfl ?_
    refine AW.getf (pc' := 16) d_C_countOpenBelow_13 rfl fl_C_35 rfl rfl ?_
    refine AW.iload_n (pc' := 17) d_C_countOpenBelow_16 rfl rfl rfl ?_
    refine AW.zaldN (pc' := 18) d_C_countOpenBelow_17 rfl rfl (by omega) (by decide) ?_
    refine AW.if_eq (tgt := 34) (pc' := 21) d_C_countOpenBelow_18 (by decide) rfl (fun h18 => ?_) (fun h18 => ?_)
    · refine AW.iincN (pc' := 37) (ls' := [some (.ref 0), some (.int (s)), some (.int (nI (cntB (openB z s) i))), some (.int (nI (i + 1)))]) d_C_countOpenBelow_34 rfl rfl rfl rfl ?_
      refine AW.goto (tgt := 4) d_C_countOpenBelow_37 (by decide) ?_
      have h9 := ih (i + 1) (by omega)
      rw [cntB_f (show (openB z s) i = false from by simp [openB, h18])] at h9
      exact h9
    · refine AW.aload_n (pc' := 22) d_C_countOpenBelow_21 rfl rfl rfl ?_
      refine AW.getf (pc' := 25) d_C_countOpenBelow_22 rfl fl_C_39 rfl rfl ?_
      refine AW.iload_n (pc' := 26) d_C_countOpenBelow_25 rfl rfl rfl ?_
      refine AW.ialdN (pc' := 27) d_C_countOpenBelow_26 rfl rfl (by omega) (by decide) ?_
      refine AW.iload_n (pc' := 28) d_C_countOpenBelow_27 rfl rfl rfl ?_
      refine AW.icmp_ne (tgt := 34) (pc' := 31) d_C_countOpenBelow_28 (by decide) rfl (fun h28 => ?_) (fun h28 => ?_)
      · refine AW.iincN (pc' := 37) (ls' := [some (.ref 0), some (.int (s)), some (.int (nI (cntB (openB z s) i))), some (.int (nI (i + 1)))]) d_C_countOpenBelow_34 rfl rfl rfl rfl ?_
        refine AW.goto (tgt := 4) d_C_countOpenBelow_37 (by decide) ?_
        have h9 := ih (i + 1) (by omega)
        rw [cntB_f (show (openB z s) i = false from by simp [openB, h18, h28])] at h9
        exact h9
      · refine AW.iincN (pc' := 34) (ls' := [some (.ref 0), some (.int (s)), some (.int (nI ((cntB (openB z s) i) + 1))), some (.int (nI (i)))]) d_C_countOpenBelow_31 rfl rfl rfl rfl ?_
        refine AW.iincN (pc' := 37) (ls' := [some (.ref 0), some (.int (s)), some (.int (nI ((cntB (openB z s) i) + 1))), some (.int (nI (i + 1)))]) d_C_countOpenBelow_34 rfl rfl rfl rfl ?_
        refine AW.goto (tgt := 4) d_C_countOpenBelow_37 (by decide) ?_
        have h9 := ih (i + 1) (by omega)
        rw [cntB_t (show (openB z s) i = true from by simp [openB, h18, h28])] at h9
        exact h9
theorem c_openBelow (X : ct_X) (z : S_c) (k : S_m) (o : Nat → Int64) (s : Int32) (hn : c_ns z ≤ 20) : AF X m_C_countOpenBelow 0 0 0 [.ref 0, .int (s)] (wL z k o) (.inl (some (.int (nI (cntB (openB z s) (c_ns z)))))) (wL z k o) := by
  refine AM.of rfl (Nat.le_of_ble_eq_true rfl) (ls := [some (.ref 0), some (.int (s)), none, none]) rfl ?_
  refine AW.iconst (pc' := 1) (v := nI 0) d_C_countOpenBelow_0 rfl (by decide) ?_
  refine AW.istore_n (pc' := 2) (ls' := [some (.ref 0), some (.int (s)), some (.int (nI (0))), none]) d_C_countOpenBelow_1 rfl rfl rfl rfl ?_
  refine AW.iconst (pc' := 3) (v := nI 0) d_C_countOpenBelow_2 rfl (by decide) ?_
  refine AW.istore_n (pc' := 4) (ls' := [some (.ref 0), some (.int (s)), some (.int (nI (0))), some (.int (nI (0)))]) d_C_countOpenBelow_3 rfl rfl rfl rfl ?_
  exact lp_open X z k o s hn (c_ns z) 0 (by omega)
def passB (z : S_c) (s : Nat) : Bool := !decide (c_ldr z s = -1) && decide (c_most z < cntB (openB z (nI s)) (c_ns z) + cnt (c_sou z) (nI s) (c_nu z))
theorem c_isPassed (X : ct_X) (z : S_c) (k : S_m) (o : Nat → Int64) (s : Nat) (hs : s < 20) (hn : c_ns z ≤ 20) (hu : c_nu z ≤ 20) (hm : c_most z ≤ 20) : AF X m_C_isPassed 1 0 0 [.ref 0, .int (nI (s))] (wL z k o) (.inl (some (.int (nI (cond (passB z s) 1 0))))) (wL z k o) := by
  have b1 := cntB_le (openB z (nI s)) (c_ns z)
  have b2 := cnt_le (c_sou z) (nI s) (c_nu z)
  refine AM.of rfl (Nat.le_of_ble_eq_true rfl) (ls := [some (.ref 0), some (.int (nI (s)))]) rfl ?_
  refine AW.aload_n (pc' := 1) d_C_isPassed_0 rfl rfl rfl ?_
  refine AW.getf (pc' := 4) d_C_isPassed_1 rfl fl_C_42 rfl rfl ?_
  refine AW.iload_n (pc' := 5) d_C_isPassed_4 rfl rfl rfl ?_
  refine AW.ialdN (pc' := 6) d_C_isPassed_5 rfl rfl (by omega) (by decide) ?_
  refine AW.iconst (pc' := 7) (v := (-1)) d_C_isPassed_6 rfl (by decide) ?_
  refine AW.icmp_ne (tgt := 12) (pc' := 10) d_C_isPassed_7 (by decide) rfl (fun h7 => ?_) (fun h7 => ?_)
  · refine AW.aload_n (pc' := 13) d_C_isPassed_12 rfl rfl rfl ?_
    refine AW.iload_n (pc' := 14) d_C_isPassed_13 rfl rfl rfl ?_
    refine AW.cV (pc' := 17) d_C_isPassed_14 rfl cv_C_209 (by decide) rfl rfl rfl (c_openBelow X z k o (nI s) hn) rfl rfl rfl rfl rfl rfl rfl ?_
    refine AW.aload_n (pc' := 18) d_C_isPassed_17 rfl rfl rfl ?_
    refine AW.getf (pc' := 21) d_C_isPassed_18 rfl fl_C_32 rfl rfl ?_
    refine AW.aload_n (pc' := 22) d_C_isPassed_21 rfl rfl rfl ?_
    refine AW.getf (pc' := 25) d_C_isPassed_22 rfl fl_C_80 rfl rfl ?_
    refine AW.iload_n (pc' := 26) d_C_isPassed_25 rfl rfl rfl ?_
    refine AW.cS (pc' := 29) d_C_isPassed_26 rfl cs_C_205 (by decide) (c_count X _ 5 20 (c_nu z) (c_sou z) (nI s) (by decide) hu rfl) rfl rfl rfl rfl rfl rfl rfl ?_
    refine AW.iaddN (pc' := 30) d_C_isPassed_29 rfl ?_
    refine AW.aload_n (pc' := 31) d_C_isPassed_30 rfl rfl rfl ?_
    refine AW.getf (pc' := 34) d_C_isPassed_31 rfl fl_C_9 rfl rfl ?_
    refine AW.icmp_leN (tgt := 41) (pc' := 37) d_C_isPassed_34 (by decide) rfl (by omega) (by omega) (fun h34 => ?_) (fun h34 => ?_)
    · refine AW.iconst (pc' := 42) (v := nI 0) d_C_isPassed_41 rfl (by decide) ?_
      exact AW.zret d_C_isPassed_42 rfl (by decide) rfl rfl ⟨by simp [passB, h7, Nat.not_lt.mpr h34], rfl⟩
    · refine AW.iconst (pc' := 38) (v := nI 1) d_C_isPassed_37 rfl (by decide) ?_
      refine AW.goto (tgt := 42) d_C_isPassed_38 (by decide) ?_
      exact AW.zret d_C_isPassed_42 rfl (by decide) rfl rfl ⟨by simp [passB, h7, h34], rfl⟩
  · refine AW.iconst (pc' := 11) (v := nI 0) d_C_isPassed_10 rfl (by decide) ?_
    exact AW.zret d_C_isPassed_11 rfl (by decide) rfl rfl ⟨by simp [passB, h7], rfl⟩
theorem c_isPassed_t (X : ct_X) (z : S_c) (k : S_m) (o : Nat → Int64) (s : Nat) (hs : s < 20) (hn : c_ns z ≤ 20) (hu : c_nu z ≤ 20) (hm : c_most z ≤ 20) (h : passB z s = true) : AF X m_C_isPassed 1 0 0 [.ref 0, .int (nI s)] (wL z k o) (.inl (some (.int (nI 1)))) (wL z k o) := by
  have h9 := c_isPassed X z k o s hs hn hu hm
  rw [h] at h9
  exact h9
theorem c_isPassed_f (X : ct_X) (z : S_c) (k : S_m) (o : Nat → Int64) (s : Nat) (hs : s < 20) (hn : c_ns z ≤ 20) (hu : c_nu z ≤ 20) (hm : c_most z ≤ 20) (h : passB z s = false) : AF X m_C_isPassed 1 0 0 [.ref 0, .int (nI s)] (wL z k o) (.inl (some (.int (nI 0)))) (wL z k o) := by
  have h9 := c_isPassed X z k o s hs hn hu hm
  rw [h] at h9
  exact h9
end
section
/-! MORE LOOPS, and a leader who goes (rows printed by wip/whole/m4.py) -/
/-- a number or none -/
def io (x : Int32) : Option Nat := if x < 0 then none else some x.toNatClampNeg
theorem io_n {j : Nat} (h : j < 2 ^ 31) : io (nI j) = some j := by rw [io, if_neg (nI_pos h), nI_clamp h]
theorem io_m : io (-1) = none := by decide
/-- none, or below n -/
def okO (n : Nat) (x : Int32) : Prop := x = -1 ∨ ∃ j, j < n ∧ x = nI j
theorem okO.io {n : Nat} {x : Int32} (h : okO n x) (hn : n < 2 ^ 31) : oI (io x) = x ∧ ∀ j, io x = some j → j < n := by
  rcases h with rfl | ⟨j, hj, rfl⟩
  · exact ⟨rfl, fun j h => by cases h⟩
  · rw [io_n (by omega)]
    exact ⟨rfl, fun i h => by cases h; exact hj⟩
theorem okO.mono {n m : Nat} {x : Int32} (h : okO n x) (hm : n ≤ m) : okO m x := h.imp id (fun ⟨j, hj, e⟩ => ⟨j, by omega, e⟩)
theorem okO.of {n j : Nat} (h : j < n) : okO n (nI j) := Or.inr ⟨j, h, rfl⟩
def f_sob (z : S_c) (t : Nat) : Nat → Option Nat → Bool
  | 0, _ => false
  | _ + 1, none => false
  | n + 1, some j => if j = t then true else f_sob z t n (io (c_abv z j))
theorem lp_sob (X : ct_X) (z : S_c) (k : S_m) (o : Nat → Int64) (a t : Nat) (ht : t < 20) (hab : ∀ j, j < 20 → okO 20 (c_abv z j)) : ∀ (n d : Nat) (x : Option Nat), d + n = 20 → (∀ j, x = some j → j < 20) → AW X m_C_isSameOrBelow 0 0 0 0 0 5 [some (.ref 0), some (.int (nI a)), some (.int (nI t)), some (.int (oI x)), some (.int (nI d))] [] (wL z k o) (fun r w' => r = .inl (some (.int (nI (cond (f_sob z t n x) 1 0)))) ∧ w' = wL z k o) := by
  intro n
  induction n with
  | zero =>
    intro d x hd hx
    refine AW.iload (pc' := 7) d_C_isSameOrBelow_5 rfl rfl ?_
    refine AW.bipush (pc' := 9) (v := nI 20) d_C_isSameOrBelow_7 rfl (by decide) ?_
    refine AW.icmp_geN (tgt := 36) (pc' := 12) d_C_isSameOrBelow_9 (by decide) rfl (by omega) (by omega) (fun h9 => ?_) (fun h => absurd h (by omega))
    refine AW.iconst (pc' := 37) (v := nI 0) d_C_isSameOrBelow_36 rfl (by decide) ?_
    exact AW.zret d_C_isSameOrBelow_37 rfl (by decide) rfl rfl ⟨by simp [f_sob], rfl⟩
  | succ n ih =>
    intro d x hd hx
    cases x with
    | none =>
      show AW X m_C_isSameOrBelow 0 0 0 0 0 5 [some (.ref 0), some (.int (nI (a))), some (.int (nI (t))), some (.int ((-1))), some (.int (nI (d)))] [] (wL z k o) _
      refine AW.iload (pc' := 7) d_C_isSameOrBelow_5 rfl rfl ?_
      refine AW.bipush (pc' := 9) (v := nI 20) d_C_isSameOrBelow_7 rfl (by decide) ?_
      refine AW.icmp_geN (tgt := 36) (pc' := 12) d_C_isSameOrBelow_9 (by decide) rfl (by omega) (by omega) (fun h => absurd h (by omega)) (fun h9 => ?_)
      refine AW.iload_n (pc' := 13) d_C_isSameOrBelow_12 rfl rfl rfl ?_
      refine AW.if_lt (tgt := 36) (pc' := 16) d_C_isSameOrBelow_13 (by decide) rfl (fun h13 => ?_) (fun h => absurd (by decide) h)
      refine AW.iconst (pc' := 37) (v := nI 0) d_C_isSameOrBelow_36 rfl (by decide) ?_
      exact AW.zret d_C_isSameOrBelow_37 rfl (by decide) rfl rfl ⟨by simp [f_sob], rfl⟩
    | some j =>
      have hj := hx j rfl
      obtain ⟨e1, e2⟩ := (hab j hj).io (by decide)
      show AW X m_C_isSameOrBelow 0 0 0 0 0 5 [some (.ref 0), some (.int (nI (a))), some (.int (nI (t))), some (.int (nI (j))), some (.int (nI (d)))] [] (wL z k o) _
      refine AW.iload (pc' := 7) d_C_isSameOrBelow_5 rfl rfl ?_
      refine AW.bipush (pc' := 9) (v := nI 20) d_C_isSameOrBelow_7 rfl (by decide) ?_
      refine AW.icmp_geN (tgt := 36) (pc' := 12) d_C_isSameOrBelow_9 (by decide) rfl (by omega) (by omega) (fun h => absurd h (by omega)) (fun h9 => ?_)
      refine AW.iload_n (pc' := 13) d_C_isSameOrBelow_12 rfl rfl rfl ?_
      refine AW.if_lt (tgt := 36) (pc' := 16) d_C_isSameOrBelow_13 (by decide) rfl (fun h => absurd h (nI_pos (by omega))) (fun _ => ?_)
      refine AW.iload_n (pc' := 17) d_C_isSameOrBelow_16 rfl rfl rfl ?_
      refine AW.iload_n (pc' := 18) d_C_isSameOrBelow_17 rfl rfl rfl ?_
      refine AW.icmp_neN (tgt := 23) (pc' := 21) d_C_isSameOrBelow_18 (by decide) rfl (by omega) (by omega) (fun h18 => ?_) (fun h18 => ?_)
      · refine AW.aload_n (pc' := 24) d_C_isSameOrBelow_23 rfl rfl rfl ?_
        refine AW.getf (pc' := 27) d_C_isSameOrBelow_24 rfl fl_C_39 rfl rfl ?_
        refine AW.iload_n (pc' := 28) d_C_isSameOrBelow_27 rfl rfl rfl ?_
        refine AW.ialdN (pc' := 29) d_C_isSameOrBelow_28 rfl rfl (by omega) (by decide) ?_
        refine AW.top (u := .int (oI (io (c_abv z j)))) (by rw [e1]) ?_
        refine AW.istore_n (pc' := 30) (ls' := [some (.ref 0), some (.int (nI (a))), some (.int (nI (t))), some (.int (oI (io (c_abv z j)))), some (.int (nI (d)))]) d_C_isSameOrBelow_29 rfl rfl rfl rfl ?_
        refine AW.iincN (pc' := 33) (ls' := [some (.ref 0), some (.int (nI (a))), some (.int (nI (t))), some (.int (oI (io (c_abv z j)))), some (.int (nI (d + 1)))]) d_C_isSameOrBelow_30 rfl rfl rfl rfl ?_
        refine AW.goto (tgt := 5) d_C_isSameOrBelow_33 (by decide) ?_
        have h9 := ih (d + 1) (io (c_abv z j)) (by omega) e2
        rw [show f_sob z t (n + 1) (some j) = f_sob z t n (io (c_abv z j)) from by simp [f_sob, h18]]
        exact h9
      · refine AW.iconst (pc' := 22) (v := nI 1) d_C_isSameOrBelow_21 rfl (by decide) ?_
        exact AW.zret d_C_isSameOrBelow_22 rfl (by decide) rfl rfl ⟨by simp [f_sob, h18], rfl⟩
theorem c_sob (X : ct_X) (z : S_c) (k : S_m) (o : Nat → Int64) (a t : Nat) (ha : a < 20) (ht : t < 20) (hab : ∀ j, j < 20 → okO 20 (c_abv z j)) : AF X m_C_isSameOrBelow 0 0 0 [.ref 0, .int (nI (a)), .int (nI (t))] (wL z k o) (.inl (some (.int (nI (cond (f_sob z t 20 (some a)) 1 0))))) (wL z k o) := by
  refine AM.of rfl (Nat.le_of_ble_eq_true rfl) (ls := [some (.ref 0), some (.int (nI (a))), some (.int (nI (t))), none, none]) rfl ?_
  refine AW.iload_n (pc' := 1) d_C_isSameOrBelow_0 rfl rfl rfl ?_
  refine AW.istore_n (pc' := 2) (ls' := [some (.ref 0), some (.int (nI (a))), some (.int (nI (t))), some (.int (nI (a))), none]) d_C_isSameOrBelow_1 rfl rfl rfl rfl ?_
  refine AW.iconst (pc' := 3) (v := nI 0) d_C_isSameOrBelow_2 rfl (by decide) ?_
  refine AW.istore (pc' := 5) (ls' := [some (.ref 0), some (.int (nI (a))), some (.int (nI (t))), some (.int (nI (a))), some (.int (nI (0)))]) d_C_isSameOrBelow_3 rfl rfl rfl ?_
  exact lp_sob X z k o a t ht hab 20 0 (some a) (by omega) (fun j h => by cases h; exact ha)
theorem c_sob_t (X : ct_X) (z : S_c) (k : S_m) (o : Nat → Int64) (a t : Nat) (ha : a < 20) (ht : t < 20) (hab : ∀ j, j < 20 → okO 20 (c_abv z j)) (h : f_sob z t 20 (some a) = true) : AF X m_C_isSameOrBelow 0 0 0 [.ref 0, .int (nI a), .int (nI t)] (wL z k o) (.inl (some (.int (nI 1)))) (wL z k o) := by
  have h9 := c_sob X z k o a t ha ht hab
  rw [h] at h9
  exact h9
theorem c_sob_f (X : ct_X) (z : S_c) (k : S_m) (o : Nat → Int64) (a t : Nat) (ha : a < 20) (ht : t < 20) (hab : ∀ j, j < 20 → okO 20 (c_abv z j)) (h : f_sob z t 20 (some a) = false) : AF X m_C_isSameOrBelow 0 0 0 [.ref 0, .int (nI a), .int (nI t)] (wL z k o) (.inl (some (.int (nI 0)))) (wL z k o) := by
  have h9 := c_sob X z k o a t ha ht hab
  rw [h] at h9
  exact h9
theorem lp_move (X : ct_X) (z : S_c) (k : S_m) (o : Nat → Int64) (s v : Int32) (hn : c_ns z ≤ 20) : ∀ (n i : Nat) (g : Nat → Int32), i + n = c_ns z → AW X m_C_moveSectorsBelow 0 0 0 0 0 2 [some (.ref 0), some (.int (s)), some (.int (v)), some (.int (nI (i)))] [] (wL (c_abv_ z g) k o) (fun r w' => r = .inl none ∧ w' = wL (c_abv_ z (fun j => if (i ≤ j ∧ j < c_ns z) ∧ (¬ c_opn z j = 0 ∧ g j = s) then v else g j)) k o) := by
  intro n
  induction n with
  | zero =>
    intro i g hi
    have e : (fun j => if (i ≤ j ∧ j < c_ns z) ∧ (¬ c_opn z j = 0 ∧ g j = s) then v else g j) = g := by
      funext j
      rw [if_neg (by omega)]
    rw [e]
    refine AW.iload_n (pc' := 3) d_C_moveSectorsBelow_2 rfl rfl rfl ?_
    refine AW.aload_n (pc' := 4) d_C_moveSectorsBelow_3 rfl rfl rfl ?_
    refine AW.getf (pc' := 7) d_C_moveSectorsBelow_4 rfl fl_C_48 rfl rfl ?_
    refine AW.top (u := .int (nI (c_ns z))) rfl ?_
    refine AW.icmp_geN (tgt := 42) (pc' := 10) d_C_moveSectorsBelow_7 (by decide) rfl (by omega) (by omega) (fun h7 => ?_) (fun h => absurd h (by omega))
    exact AW.vret d_C_moveSectorsBelow_42 rfl rfl rfl ⟨rfl, rfl⟩
  | succ n ih =>
    intro i g hi
    refine AW.iload_n (pc' := 3) d_C_moveSectorsBelow_2 rfl rfl rfl ?_
    refine AW.aload_n (pc' := 4) d_C_moveSectorsBelow_3 rfl rfl rfl ?_
    refine AW.getf (pc' := 7) d_C_moveSectorsBelow_4 rfl fl_C_48 rfl rfl ?_
    refine AW.top (u := .int (nI (c_ns z))) rfl ?_
    refine AW.icmp_geN (tgt := 42) (pc' := 10) d_C_moveSectorsBelow_7 (by decide) rfl (by omega) (by omega) (fun h => absurd h (by omega)) (fun h7 => ?_)
    refine AW.aload_n (pc' := 11) d_C_moveSectorsBelow_10 rfl rfl rfl ?_
    refine AW.getf (pc' := 14) d_C_moveSectorsBelow_11 rfl fl_C_35 rfl rfl ?_
    refine AW.iload_n (pc' := 15) d_C_moveSectorsBelow_14 rfl rfl rfl ?_
    refine AW.zaldN (pc' := 16) d_C_moveSectorsBelow_15 rfl rfl (by omega) (by decide) ?_
    refine AW.top (u := .int ((c_opn z) i)) rfl ?_
    refine AW.if_eq (tgt := 36) (pc' := 19) d_C_moveSectorsBelow_16 (by decide) rfl (fun h16 => ?_) (fun h16 => ?_)
    · refine AW.iincN (pc' := 39) (ls' := [some (.ref 0), some (.int (s)), some (.int (v)), some (.int (nI (i + 1)))]) d_C_moveSectorsBelow_36 rfl rfl rfl rfl ?_
      refine AW.goto (tgt := 2) d_C_moveSectorsBelow_39 (by decide) ?_
      have h9 := ih (i + 1) g (by omega)
      have e : (fun j => if (i + 1 ≤ j ∧ j < c_ns z) ∧ (¬ c_opn z j = 0 ∧ g j = s) then v else g j) = (fun j => if (i ≤ j ∧ j < c_ns z) ∧ (¬ c_opn z j = 0 ∧ g j = s) then v else g j) := by
        funext j
        by_cases hj : j = i
        · subst hj
          rw [if_neg (by omega), if_neg (fun q => absurd h16 q.2.1)]
        · skip
          by_cases h1 : (i ≤ j ∧ j < c_ns z) ∧ (¬ c_opn z j = 0 ∧ g j = s)
          · rw [if_pos h1, if_pos ⟨by omega, h1.2⟩]
          · rw [if_neg h1, if_neg (fun q => h1 ⟨by omega, q.2⟩)]
      rw [e] at h9
      exact AW.wld rfl h9
    · refine AW.aload_n (pc' := 20) d_C_moveSectorsBelow_19 rfl rfl rfl ?_
      refine AW.getf (pc' := 23) d_C_moveSectorsBelow_20 rfl fl_C_39 rfl rfl ?_
      refine AW.iload_n (pc' := 24) d_C_moveSectorsBelow_23 rfl rfl rfl ?_
      refine AW.ialdN (pc' := 25) d_C_moveSectorsBelow_24 rfl rfl (by omega) (by decide) ?_
      refine AW.top (u := .int (g i)) rfl ?_
      refine AW.iload_n (pc' := 26) d_C_moveSectorsBelow_25 rfl rfl rfl ?_
      refine AW.icmp_ne (tgt := 36) (pc' := 29) d_C_moveSectorsBelow_26 (by decide) rfl (fun h26 => ?_) (fun h26 => ?_)
      · refine AW.iincN (pc' := 39) (ls' := [some (.ref 0), some (.int (s)), some (.int (v)), some (.int (nI (i + 1)))]) d_C_moveSectorsBelow_36 rfl rfl rfl rfl ?_
        refine AW.goto (tgt := 2) d_C_moveSectorsBelow_39 (by decide) ?_
        have h9 := ih (i + 1) g (by omega)
        have e : (fun j => if (i + 1 ≤ j ∧ j < c_ns z) ∧ (¬ c_opn z j = 0 ∧ g j = s) then v else g j) = (fun j => if (i ≤ j ∧ j < c_ns z) ∧ (¬ c_opn z j = 0 ∧ g j = s) then v else g j) := by
          funext j
          by_cases hj : j = i
          · subst hj
            rw [if_neg (by omega), if_neg (fun q => absurd q.2.2 h26)]
          · skip
            by_cases h1 : (i ≤ j ∧ j < c_ns z) ∧ (¬ c_opn z j = 0 ∧ g j = s)
            · rw [if_pos h1, if_pos ⟨by omega, h1.2⟩]
            · rw [if_neg h1, if_neg (fun q => h1 ⟨by omega, q.2⟩)]
        rw [e] at h9
        exact AW.wld rfl h9
      · refine AW.aload_n (pc' := 30) d_C_moveSectorsBelow_29 rfl rfl rfl ?_
        refine AW.getf (pc' := 33) d_C_moveSectorsBelow_30 rfl fl_C_39 rfl rfl ?_
        refine AW.iload_n (pc' := 34) d_C_moveSectorsBelow_33 rfl rfl rfl ?_
        refine AW.iload_n (pc' := 35) d_C_moveSectorsBelow_34 rfl rfl rfl ?_
        refine AW.iastN (pc' := 36) (w' := (wL (c_abv_ (c_abv_ z (g)) (upd g i v)) k o)) d_C_moveSectorsBelow_35 rfl rfl (by omega) (by decide) rfl ?_
        refine AW.iincN (pc' := 39) (ls' := [some (.ref 0), some (.int (s)), some (.int (v)), some (.int (nI (i + 1)))]) d_C_moveSectorsBelow_36 rfl rfl rfl rfl ?_
        refine AW.goto (tgt := 2) d_C_moveSectorsBelow_39 (by decide) ?_
        have h9 := ih (i + 1) (upd g i v) (by omega)
        have e : (fun j => if (i + 1 ≤ j ∧ j < c_ns z) ∧ (¬ c_opn z j = 0 ∧ (upd g i v) j = s) then v else (upd g i v) j) = (fun j => if (i ≤ j ∧ j < c_ns z) ∧ (¬ c_opn z j = 0 ∧ g j = s) then v else g j) := by
          funext j
          by_cases hj : j = i
          · subst hj
            rw [if_neg (by omega), pk_us, if_pos ⟨by omega, ⟨h16, h26⟩⟩]
          · rw [pk_un hj]
            by_cases h1 : (i ≤ j ∧ j < c_ns z) ∧ (¬ c_opn z j = 0 ∧ g j = s)
            · rw [if_pos h1, if_pos ⟨by omega, h1.2⟩]
            · rw [if_neg h1, if_neg (fun q => h1 ⟨by omega, q.2⟩)]
        rw [e] at h9
        exact AW.wld rfl h9
def f_move (z : S_c) (s v : Int32) : Nat → Int32 := fun j => if (0 ≤ j ∧ j < c_ns z) ∧ (¬ c_opn z j = 0 ∧ c_abv z j = s) then v else c_abv z j
theorem c_move (X : ct_X) (z : S_c) (k : S_m) (o : Nat → Int64) (s v : Int32) (hn : c_ns z ≤ 20) : AF X m_C_moveSectorsBelow 0 0 0 [.ref 0, .int (s), .int (v)] (wL z k o) (.inl none) (wL (c_abv_ z (f_move z s v)) k o) := by
  refine AM.of rfl (Nat.le_of_ble_eq_true rfl) (ls := [some (.ref 0), some (.int (s)), some (.int (v)), none]) rfl ?_
  refine AW.iconst (pc' := 1) (v := nI 0) d_C_moveSectorsBelow_0 rfl (by decide) ?_
  refine AW.istore_n (pc' := 2) (ls' := [some (.ref 0), some (.int (s)), some (.int (v)), some (.int (nI (0)))]) d_C_moveSectorsBelow_1 rfl rfl rfl rfl ?_
  exact lp_move X z k o s v hn (c_ns z) 0 (c_abv z) (by omega)
theorem lp_give (X : ct_X) (z : S_c) (k : S_m) (o : Nat → Int64) (s v : Int32) (hn : t_n z ≤ 60) : ∀ (n i : Nat) (g : Nat → Int32), i + n = t_n z → AW X m_T_giveUnanswered 1 0 0 0 0 2 [some (.ref 10), some (.int (s)), some (.int (v)), some (.int (nI (i)))] [] (wL (t_sec_ z g) k o) (fun r w' => r = .inl none ∧ w' = wL (t_sec_ z (fun j => if (i ≤ j ∧ j < t_n z) ∧ (g j = s ∧ t_rep z j = 0) then v else g j)) k o) := by
  intro n
  induction n with
  | zero =>
    intro i g hi
    have e : (fun j => if (i ≤ j ∧ j < t_n z) ∧ (g j = s ∧ t_rep z j = 0) then v else g j) = g := by
      funext j
      rw [if_neg (by omega)]
    rw [e]
    refine AW.iload_n (pc' := 3) d_T_giveUnanswered_2 rfl rfl rfl ?_
    refine AW.aload_n (pc' := 4) d_T_giveUnanswered_3 rfl rfl rfl ?_
    refine AW.getf (pc' := 7) d_T_giveUnanswered_4 rfl fl_T_30 rfl rfl ?_
    refine AW.top (u := .int (nI (t_n z))) rfl ?_
    refine AW.icmp_geN (tgt := 41) (pc' := 10) d_T_giveUnanswered_7 (by decide) rfl (by omega) (by omega) (fun h7 => ?_) (fun h => absurd h (by omega))
    exact AW.vret d_T_giveUnanswered_41 rfl rfl rfl ⟨rfl, rfl⟩
  | succ n ih =>
    intro i g hi
    refine AW.iload_n (pc' := 3) d_T_giveUnanswered_2 rfl rfl rfl ?_
    refine AW.aload_n (pc' := 4) d_T_giveUnanswered_3 rfl rfl rfl ?_
    refine AW.getf (pc' := 7) d_T_giveUnanswered_4 rfl fl_T_30 rfl rfl ?_
    refine AW.top (u := .int (nI (t_n z))) rfl ?_
    refine AW.icmp_geN (tgt := 41) (pc' := 10) d_T_giveUnanswered_7 (by decide) rfl (by omega) (by omega) (fun h => absurd h (by omega)) (fun h7 => ?_)
    refine AW.aload_n (pc' := 11) d_T_giveUnanswered_10 rfl rfl rfl ?_
    refine AW.getf (pc' := 14) d_T_giveUnanswered_11 rfl fl_T_9 rfl rfl ?_
    refine AW.iload_n (pc' := 15) d_T_giveUnanswered_14 rfl rfl rfl ?_
    refine AW.ialdN (pc' := 16) d_T_giveUnanswered_15 rfl rfl (by omega) (by decide) ?_
    refine AW.top (u := .int (g i)) rfl ?_
    refine AW.iload_n (pc' := 17) d_T_giveUnanswered_16 rfl rfl rfl ?_
    refine AW.icmp_ne (tgt := 35) (pc' := 20) d_T_giveUnanswered_17 (by decide) rfl (fun h17 => ?_) (fun h17 => ?_)
    · refine AW.iincN (pc' := 38) (ls' := [some (.ref 10), some (.int (s)), some (.int (v)), some (.int (nI (i + 1)))]) d_T_giveUnanswered_35 rfl rfl rfl rfl ?_
      refine AW.goto (tgt := 2) d_T_giveUnanswered_38 (by decide) ?_
      have h9 := ih (i + 1) g (by omega)
      have e : (fun j => if (i + 1 ≤ j ∧ j < t_n z) ∧ (g j = s ∧ t_rep z j = 0) then v else g j) = (fun j => if (i ≤ j ∧ j < t_n z) ∧ (g j = s ∧ t_rep z j = 0) then v else g j) := by
        funext j
        by_cases hj : j = i
        · subst hj
          rw [if_neg (by omega), if_neg (fun q => absurd q.2.1 h17)]
        · skip
          by_cases h1 : (i ≤ j ∧ j < t_n z) ∧ (g j = s ∧ t_rep z j = 0)
          · rw [if_pos h1, if_pos ⟨by omega, h1.2⟩]
          · rw [if_neg h1, if_neg (fun q => h1 ⟨by omega, q.2⟩)]
      rw [e] at h9
      exact AW.wld rfl h9
    · refine AW.aload_n (pc' := 21) d_T_giveUnanswered_20 rfl rfl rfl ?_
      refine AW.iload_n (pc' := 22) d_T_giveUnanswered_21 rfl rfl rfl ?_
      by_cases hb : t_rep z i = 0
      · refine AW.cV (pc' := 25) d_T_giveUnanswered_22 rfl cv_T_38 (by decide) rfl rfl rfl (c_isAnswered_f X (t_sec_ z g) k o i (by omega) hb) rfl rfl rfl rfl rfl rfl rfl ?_
        refine AW.if_ne (tgt := 35) (pc' := 28) d_T_giveUnanswered_25 (by decide) rfl (fun h => absurd h (by decide)) (fun _ => ?_)
        refine AW.aload_n (pc' := 29) d_T_giveUnanswered_28 rfl rfl rfl ?_
        refine AW.getf (pc' := 32) d_T_giveUnanswered_29 rfl fl_T_9 rfl rfl ?_
        refine AW.iload_n (pc' := 33) d_T_giveUnanswered_32 rfl rfl rfl ?_
        refine AW.iload_n (pc' := 34) d_T_giveUnanswered_33 rfl rfl rfl ?_
        refine AW.iastN (pc' := 35) (w' := (wL (t_sec_ (t_sec_ z (g)) (upd g i v)) k o)) d_T_giveUnanswered_34 rfl rfl (by omega) (by decide) rfl ?_
        refine AW.iincN (pc' := 38) (ls' := [some (.ref 10), some (.int (s)), some (.int (v)), some (.int (nI (i + 1)))]) d_T_giveUnanswered_35 rfl rfl rfl rfl ?_
        refine AW.goto (tgt := 2) d_T_giveUnanswered_38 (by decide) ?_
        have h9 := ih (i + 1) (upd g i v) (by omega)
        have e : (fun j => if (i + 1 ≤ j ∧ j < t_n z) ∧ ((upd g i v) j = s ∧ t_rep z j = 0) then v else (upd g i v) j) = (fun j => if (i ≤ j ∧ j < t_n z) ∧ (g j = s ∧ t_rep z j = 0) then v else g j) := by
          funext j
          by_cases hj : j = i
          · subst hj
            rw [if_neg (by omega), pk_us, if_pos ⟨by omega, ⟨h17, hb⟩⟩]
          · rw [pk_un hj]
            by_cases h1 : (i ≤ j ∧ j < t_n z) ∧ (g j = s ∧ t_rep z j = 0)
            · rw [if_pos h1, if_pos ⟨by omega, h1.2⟩]
            · rw [if_neg h1, if_neg (fun q => h1 ⟨by omega, q.2⟩)]
        rw [e] at h9
        exact AW.wld rfl h9
      · refine AW.cV (pc' := 25) d_T_giveUnanswered_22 rfl cv_T_38 (by decide) rfl rfl rfl (c_isAnswered_t X (t_sec_ z g) k o i (by omega) hb) rfl rfl rfl rfl rfl rfl rfl ?_
        refine AW.if_ne (tgt := 35) (pc' := 28) d_T_giveUnanswered_25 (by decide) rfl (fun _ => ?_) (fun h => absurd h (by decide))
        refine AW.iincN (pc' := 38) (ls' := [some (.ref 10), some (.int (s)), some (.int (v)), some (.int (nI (i + 1)))]) d_T_giveUnanswered_35 rfl rfl rfl rfl ?_
        refine AW.goto (tgt := 2) d_T_giveUnanswered_38 (by decide) ?_
        have h9 := ih (i + 1) g (by omega)
        have e : (fun j => if (i + 1 ≤ j ∧ j < t_n z) ∧ (g j = s ∧ t_rep z j = 0) then v else g j) = (fun j => if (i ≤ j ∧ j < t_n z) ∧ (g j = s ∧ t_rep z j = 0) then v else g j) := by
          funext j
          by_cases hj : j = i
          · subst hj
            rw [if_neg (by omega), if_neg (fun q => absurd q.2.2 hb)]
          · skip
            by_cases h1 : (i ≤ j ∧ j < t_n z) ∧ (g j = s ∧ t_rep z j = 0)
            · rw [if_pos h1, if_pos ⟨by omega, h1.2⟩]
            · rw [if_neg h1, if_neg (fun q => h1 ⟨by omega, q.2⟩)]
        rw [e] at h9
        exact AW.wld rfl h9
def f_give (z : S_c) (s v : Int32) : Nat → Int32 := fun j => if (0 ≤ j ∧ j < t_n z) ∧ (t_sec z j = s ∧ t_rep z j = 0) then v else t_sec z j
theorem c_give (X : ct_X) (z : S_c) (k : S_m) (o : Nat → Int64) (s v : Int32) (hn : t_n z ≤ 60) : AF X m_T_giveUnanswered 1 0 0 [.ref 10, .int (s), .int (v)] (wL z k o) (.inl none) (wL (t_sec_ z (f_give z s v)) k o) := by
  refine AM.of rfl (Nat.le_of_ble_eq_true rfl) (ls := [some (.ref 10), some (.int (s)), some (.int (v)), none]) rfl ?_
  refine AW.iconst (pc' := 1) (v := nI 0) d_T_giveUnanswered_0 rfl (by decide) ?_
  refine AW.istore_n (pc' := 2) (ls' := [some (.ref 10), some (.int (s)), some (.int (v)), some (.int (nI (0)))]) d_T_giveUnanswered_1 rfl rfl rfl rfl ?_
  exact lp_give X z k o s v hn (t_n z) 0 (t_sec z) (by omega)
def overB (z : S_c) (a b j : Nat) : Bool := decide (f_state z j a = 0) && decide (f_state z j b = nI 3)
theorem lp_over (X : ct_X) (z : S_c) (k : S_m) (o : Nat → Int64) (a b : Nat) (hn : t_n z ≤ 60) : ∀ (n i : Nat), i + n = t_n z → AW X m_T_countNewlyOverdue 2 0 0 0 0 5 [some (.ref 10), some (.int (nI (a))), some (.int (nI (b))), some (.int (nI (cntB (overB z a b) i))), some (.int (nI (i)))] [] (wL z k o) (fun r w' => r = .inl (some (.int (nI (cntB (overB z a b) (t_n z))))) ∧ w' = wL z k o) := by
  intro n
  induction n with
  | zero =>
    intro i hi
    have e : i = t_n z := by omega
    subst e
    refine AW.iload (pc' := 7) d_T_countNewlyOverdue_5 rfl rfl ?_
    refine AW.aload_n (pc' := 8) d_T_countNewlyOverdue_7 rfl rfl rfl ?_
    refine AW.getf (pc' := 11) d_T_countNewlyOverdue_8 rfl fl_T_30 rfl rfl ?_
    refine AW.icmp_geN (tgt := 44) (pc' := 14) d_T_countNewlyOverdue_11 (by decide) rfl (by omega) (by omega) (fun h11 => ?_) (fun h => absurd h (by omega))
    refine AW.iload_n (pc' := 45) d_T_countNewlyOverdue_44 rfl rfl rfl ?_
    exact AW.iret d_T_countNewlyOverdue_45 rfl rfl rfl ⟨rfl, rfl⟩
  | succ n ih =>
    intro i hi
    refine AW.iload (pc' := 7) d_T_countNewlyOverdue_5 rfl rfl ?_
    refine AW.aload_n (pc' := 8) d_T_countNewlyOverdue_7 rfl rfl rfl ?_
    refine AW.getf (pc' := 11) d_T_countNewlyOverdue_8 rfl fl_T_30 rfl rfl ?_
    refine AW.icmp_geN (tgt := 44) (pc' := 14) d_T_countNewlyOverdue_11 (by decide) rfl (by omega) (by omega) (fun h => absurd h (by omega)) (fun h11 => ?_)
    refine AW.aload_n (pc' := 15) d_T_countNewlyOverdue_14 rfl rfl rfl ?_
    refine AW.iload (pc' := 17) d_T_countNewlyOverdue_15 rfl rfl ?_
    refine AW.iload_n (pc' := 18) d_T_countNewlyOverdue_17 rfl rfl rfl ?_
    refine AW.cV (pc' := 21) d_T_countNewlyOverdue_18 rfl cv_T_42 (by decide) rfl rfl rfl (c_stateOf X z k o i a (by omega)) rfl rfl rfl rfl rfl rfl rfl ?_
    refine AW.if_ne (tgt := 38) (pc' := 24) d_T_countNewlyOverdue_21 (by decide) rfl (fun h21 => ?_) (fun h21 => ?_)
    · refine AW.iincN (pc' := 41) (ls' := [some (.ref 10), some (.int (nI (a))), some (.int (nI (b))), some (.int (nI (cntB (overB z a b) i))), some (.int (nI (i + 1)))]) d_T_countNewlyOverdue_38 rfl rfl rfl rfl ?_
      refine AW.goto (tgt := 5) d_T_countNewlyOverdue_41 (by decide) ?_
      have h9 := ih (i + 1) (by omega)
      rw [cntB_f (show (overB z a b) i = false from by simp [overB, h21])] at h9
      exact h9
    · refine AW.aload_n (pc' := 25) d_T_countNewlyOverdue_24 rfl rfl rfl ?_
      refine AW.iload (pc' := 27) d_T_countNewlyOverdue_25 rfl rfl ?_
      refine AW.iload_n (pc' := 28) d_T_countNewlyOverdue_27 rfl rfl rfl ?_
      refine AW.cV (pc' := 31) d_T_countNewlyOverdue_28 rfl cv_T_42 (by decide) rfl rfl rfl (c_stateOf X z k o i b (by omega)) rfl rfl rfl rfl rfl rfl rfl ?_
      refine AW.iconst (pc' := 32) (v := nI 3) d_T_countNewlyOverdue_31 rfl (by decide) ?_
      refine AW.icmp_ne (tgt := 38) (pc' := 35) d_T_countNewlyOverdue_32 (by decide) rfl (fun h32 => ?_) (fun h32 => ?_)
      · refine AW.iincN (pc' := 41) (ls' := [some (.ref 10), some (.int (nI (a))), some (.int (nI (b))), some (.int (nI (cntB (overB z a b) i))), some (.int (nI (i + 1)))]) d_T_countNewlyOverdue_38 rfl rfl rfl rfl ?_
        refine AW.goto (tgt := 5) d_T_countNewlyOverdue_41 (by decide) ?_
        have h9 := ih (i + 1) (by omega)
        rw [cntB_f (show (overB z a b) i = false from by simp [overB, h21, h32])] at h9
        exact h9
      · refine AW.iincN (pc' := 38) (ls' := [some (.ref 10), some (.int (nI (a))), some (.int (nI (b))), some (.int (nI ((cntB (overB z a b) i) + 1))), some (.int (nI (i)))]) d_T_countNewlyOverdue_35 rfl rfl rfl rfl ?_
        refine AW.iincN (pc' := 41) (ls' := [some (.ref 10), some (.int (nI (a))), some (.int (nI (b))), some (.int (nI ((cntB (overB z a b) i) + 1))), some (.int (nI (i + 1)))]) d_T_countNewlyOverdue_38 rfl rfl rfl rfl ?_
        refine AW.goto (tgt := 5) d_T_countNewlyOverdue_41 (by decide) ?_
        have h9 := ih (i + 1) (by omega)
        rw [cntB_t (show (overB z a b) i = true from by simp [overB, h21, h32])] at h9
        exact h9
theorem c_over (X : ct_X) (z : S_c) (k : S_m) (o : Nat → Int64) (a b : Nat) (hn : t_n z ≤ 60) : AF X m_T_countNewlyOverdue 2 0 0 [.ref 10, .int (nI (a)), .int (nI (b))] (wL z k o) (.inl (some (.int (nI (cntB (overB z a b) (t_n z)))))) (wL z k o) := by
  refine AM.of rfl (Nat.le_of_ble_eq_true rfl) (ls := [some (.ref 10), some (.int (nI (a))), some (.int (nI (b))), none, none]) rfl ?_
  refine AW.iconst (pc' := 1) (v := nI 0) d_T_countNewlyOverdue_0 rfl (by decide) ?_
  refine AW.istore_n (pc' := 2) (ls' := [some (.ref 10), some (.int (nI (a))), some (.int (nI (b))), some (.int (nI (0))), none]) d_T_countNewlyOverdue_1 rfl rfl rfl rfl ?_
  refine AW.iconst (pc' := 3) (v := nI 0) d_T_countNewlyOverdue_2 rfl (by decide) ?_
  refine AW.istore (pc' := 5) (ls' := [some (.ref 10), some (.int (nI (a))), some (.int (nI (b))), some (.int (nI (0))), some (.int (nI (0)))]) d_T_countNewlyOverdue_3 rfl rfl rfl ?_
  exact lp_over X z k o a b hn (t_n z) 0 (by omega)
def f_lead (z : S_c) (s t : Int32) : Nat → Nat → Int32 → Int32
  | 0, _, a => a
  | n + 1, i, a => if r_sec z (ring (r_old z) i) ≤ t then f_lead z s t n (i + 1) (if r_num z (ring (r_old z) i) = s then r_led z (ring (r_old z) i) else a) else a
theorem lp_lead (X : ct_X) (z : S_c) (k : S_m) (o : Nat → Int64) (s : Nat) (t : Int32) (hz : r_old z < 400) (hn : r_n z ≤ 400) : ∀ (n i : Nat) (a : Int32), i + n = r_n z → AW X m_R_leaderBehind 1 0 0 0 0 10 [some (.ref 15), some (.int (nI (s))), some (.int (t)), some (.int (a)), some (.int (nI (i))), none] [] (wL z k o) (fun r w' => r = .inl (some (.int (f_lead z (nI s) t n i a))) ∧ w' = wL z k o) := by
  intro n
  induction n with
  | zero =>
    intro i a hi
    refine AW.iload (pc' := 12) d_R_leaderBehind_10 rfl rfl ?_
    refine AW.aload_n (pc' := 13) d_R_leaderBehind_12 rfl rfl rfl ?_
    refine AW.getf (pc' := 16) d_R_leaderBehind_13 rfl fl_R_30 rfl rfl ?_
    refine AW.icmp_geN (tgt := 65) (pc' := 19) d_R_leaderBehind_16 (by decide) rfl (by omega) (by omega) (fun h16 => ?_) (fun h => absurd h (by omega))
    refine AW.iload_n (pc' := 66) d_R_leaderBehind_65 rfl rfl rfl ?_
    exact AW.iret d_R_leaderBehind_66 rfl rfl rfl ⟨rfl, rfl⟩
  | succ n ih =>
    intro i a hi
    refine AW.iload (pc' := 12) d_R_leaderBehind_10 rfl rfl ?_
    refine AW.aload_n (pc' := 13) d_R_leaderBehind_12 rfl rfl rfl ?_
    refine AW.getf (pc' := 16) d_R_leaderBehind_13 rfl fl_R_30 rfl rfl ?_
    refine AW.icmp_geN (tgt := 65) (pc' := 19) d_R_leaderBehind_16 (by decide) rfl (by omega) (by omega) (fun h => absurd h (by omega)) (fun h16 => ?_)
    refine AW.aload_n (pc' := 20) d_R_leaderBehind_19 rfl rfl rfl ?_
    refine AW.iload (pc' := 22) d_R_leaderBehind_20 rfl rfl ?_
    refine AW.cV (pc' := 25) d_R_leaderBehind_22 rfl cv_R_37 (by decide) rfl rfl rfl (c_ringIndex X z k o i (by omega) hz) rfl rfl rfl rfl rfl rfl rfl ?_
    refine AW.istore (pc' := 27) (ls' := [some (.ref 15), some (.int (nI (s))), some (.int (t)), some (.int (a)), some (.int (nI (i))), some (.int (nI (ring (r_old z) i)))]) d_R_leaderBehind_25 rfl rfl rfl ?_
    refine AW.aload_n (pc' := 28) d_R_leaderBehind_27 rfl rfl rfl ?_
    refine AW.getf (pc' := 31) d_R_leaderBehind_28 rfl fl_R_9 rfl rfl ?_
    refine AW.iload (pc' := 33) d_R_leaderBehind_31 rfl rfl ?_
    refine AW.ialdN (pc' := 34) d_R_leaderBehind_33 rfl rfl (ring_lt hz (by omega)) (by decide) ?_
    refine AW.iload_n (pc' := 35) d_R_leaderBehind_34 rfl rfl rfl ?_
    refine AW.icmp_le (tgt := 40) (pc' := 38) d_R_leaderBehind_35 (by decide) rfl (fun h35 => ?_) (fun h35 => ?_)
    · refine AW.aload_n (pc' := 41) d_R_leaderBehind_40 rfl rfl rfl ?_
      refine AW.getf (pc' := 44) d_R_leaderBehind_41 rfl fl_R_15 rfl rfl ?_
      refine AW.iload (pc' := 46) d_R_leaderBehind_44 rfl rfl ?_
      refine AW.ialdN (pc' := 47) d_R_leaderBehind_46 rfl rfl (ring_lt hz (by omega)) (by decide) ?_
      refine AW.iload_n (pc' := 48) d_R_leaderBehind_47 rfl rfl rfl ?_
      refine AW.icmp_ne (tgt := 59) (pc' := 51) d_R_leaderBehind_48 (by decide) rfl (fun h48 => ?_) (fun h48 => ?_)
      · refine AW.iincN (pc' := 62) (ls' := [some (.ref 15), some (.int (nI (s))), some (.int (t)), some (.int (a)), some (.int (nI (i + 1))), some (.int (nI (ring (r_old z) i)))]) d_R_leaderBehind_59 rfl rfl rfl rfl ?_
        refine AW.goto (tgt := 10) d_R_leaderBehind_62 (by decide) ?_
        have h9 := ih (i + 1) a (by omega)
        rw [show f_lead z (nI s) t (n + 1) i a = f_lead z (nI s) t n (i + 1) a from by simp [f_lead, h35, h48]]
        exact AW.dropL (j := 5) rfl h9
      · refine AW.aload_n (pc' := 52) d_R_leaderBehind_51 rfl rfl rfl ?_
        refine AW.getf (pc' := 55) d_R_leaderBehind_52 rfl fl_R_18 rfl rfl ?_
        refine AW.iload (pc' := 57) d_R_leaderBehind_55 rfl rfl ?_
        refine AW.ialdN (pc' := 58) d_R_leaderBehind_57 rfl rfl (ring_lt hz (by omega)) (by decide) ?_
        refine AW.istore_n (pc' := 59) (ls' := [some (.ref 15), some (.int (nI (s))), some (.int (t)), some (.int ((r_led z) (ring (r_old z) i))), some (.int (nI (i))), some (.int (nI (ring (r_old z) i)))]) d_R_leaderBehind_58 rfl rfl rfl rfl ?_
        refine AW.iincN (pc' := 62) (ls' := [some (.ref 15), some (.int (nI (s))), some (.int (t)), some (.int ((r_led z) (ring (r_old z) i))), some (.int (nI (i + 1))), some (.int (nI (ring (r_old z) i)))]) d_R_leaderBehind_59 rfl rfl rfl rfl ?_
        refine AW.goto (tgt := 10) d_R_leaderBehind_62 (by decide) ?_
        have h9 := ih (i + 1) ((r_led z) (ring (r_old z) i)) (by omega)
        rw [show f_lead z (nI s) t (n + 1) i a = f_lead z (nI s) t n (i + 1) ((r_led z) (ring (r_old z) i)) from by simp [f_lead, h35, h48]]
        exact AW.dropL (j := 5) rfl h9
    · refine AW.iload_n (pc' := 39) d_R_leaderBehind_38 rfl rfl rfl ?_
      exact AW.iret d_R_leaderBehind_39 rfl rfl rfl ⟨by simp [f_lead, h35], rfl⟩
theorem c_lead (X : ct_X) (z : S_c) (k : S_m) (o : Nat → Int64) (s : Nat) (t : Int32) (hs : s < 20) (hz : r_old z < 400) (hn : r_n z ≤ 400) : AF X m_R_leaderBehind 1 0 0 [.ref 15, .int (nI (s)), .int (t)] (wL z k o) (.inl (some (.int (f_lead z (nI s) t (r_n z) 0 (r_bef z s))))) (wL z k o) := by
  refine AM.of rfl (Nat.le_of_ble_eq_true rfl) (ls := [some (.ref 15), some (.int (nI (s))), some (.int (t)), none, none, none]) rfl ?_
  refine AW.aload_n (pc' := 1) d_R_leaderBehind_0 rfl rfl rfl ?_
  refine AW.getf (pc' := 4) d_R_leaderBehind_1 rfl fl_R_21 rfl rfl ?_
  refine AW.iload_n (pc' := 5) d_R_leaderBehind_4 rfl rfl rfl ?_
  refine AW.ialdN (pc' := 6) d_R_leaderBehind_5 rfl rfl (by omega) (by decide) ?_
  refine AW.istore_n (pc' := 7) (ls' := [some (.ref 15), some (.int (nI (s))), some (.int (t)), some (.int ((r_bef z) s)), none, none]) d_R_leaderBehind_6 rfl rfl rfl rfl ?_
  refine AW.iconst (pc' := 8) (v := nI 0) d_R_leaderBehind_7 rfl (by decide) ?_
  refine AW.istore (pc' := 10) (ls' := [some (.ref 15), some (.int (nI (s))), some (.int (t)), some (.int ((r_bef z) s)), some (.int (nI (0))), none]) d_R_leaderBehind_8 rfl rfl rfl ?_
  exact lp_lead X z k o s t hz hn (r_n z) 0 _ (by omega)
theorem c_lln_n (X : ct_X) (z : S_c) (k : S_m) (o : Nat → Int64) (p : Nat) (hp : p < 40) (h : c_slb z p = -1) : AF X m_C_leaveLeadToNext 4 0 0 [.ref 0, .int (nI (p))] (wL z k o) (.inl none) (wL z k o) := by
  refine AM.of rfl (Nat.le_of_ble_eq_true rfl) (ls := [some (.ref 0), some (.int (nI (p))), none]) rfl ?_
  refine AW.aload_n (pc' := 1) d_C_leaveLeadToNext_0 rfl rfl rfl ?_
  refine AW.getf (pc' := 4) d_C_leaveLeadToNext_1 rfl fl_C_23 rfl rfl ?_
  refine AW.iload_n (pc' := 5) d_C_leaveLeadToNext_4 rfl rfl rfl ?_
  refine AW.ialdN (pc' := 6) d_C_leaveLeadToNext_5 rfl rfl (by omega) (by decide) ?_
  refine AW.top (u := .int ((-1))) (by rw [h]) ?_
  refine AW.istore_n (pc' := 7) (ls' := [some (.ref 0), some (.int (nI (p))), some (.int ((-1)))]) d_C_leaveLeadToNext_6 rfl rfl rfl rfl ?_
  refine AW.iload_n (pc' := 8) d_C_leaveLeadToNext_7 rfl rfl rfl ?_
  refine AW.if_lt (tgt := 21) (pc' := 11) d_C_leaveLeadToNext_8 (by decide) rfl (fun h8 => ?_) (fun h => absurd (by decide) h)
  exact AW.vret d_C_leaveLeadToNext_21 rfl rfl rfl ⟨rfl, rfl⟩
theorem c_lln_sn (X : ct_X) (z : S_c) (k : S_m) (o : Nat → Int64) (p s : Nat) (hp : p < 40) (hs : s < 20) (hnp : c_np z ≤ 40) (hn : c_ns z ≤ 20) (h : c_slb z p = nI s) (hl : c_ldr z s = nI p) (hx : f_next z (nI s) (c_np z) = none) (hR : Ring z) : AF X m_C_leaveLeadToNext 4 0 0 [.ref 0, .int (nI (p))] (wL z k o) (.inl none) (wL (f_set1 z s (some p) none) k o) := by
  refine AM.of rfl (Nat.le_of_ble_eq_true rfl) (ls := [some (.ref 0), some (.int (nI (p))), none]) rfl ?_
  refine AW.aload_n (pc' := 1) d_C_leaveLeadToNext_0 rfl rfl rfl ?_
  refine AW.getf (pc' := 4) d_C_leaveLeadToNext_1 rfl fl_C_23 rfl rfl ?_
  refine AW.iload_n (pc' := 5) d_C_leaveLeadToNext_4 rfl rfl rfl ?_
  refine AW.ialdN (pc' := 6) d_C_leaveLeadToNext_5 rfl rfl (by omega) (by decide) ?_
  refine AW.top (u := .int (nI (s))) (by rw [h]) ?_
  refine AW.istore_n (pc' := 7) (ls' := [some (.ref 0), some (.int (nI (p))), some (.int (nI (s)))]) d_C_leaveLeadToNext_6 rfl rfl rfl rfl ?_
  refine AW.iload_n (pc' := 8) d_C_leaveLeadToNext_7 rfl rfl rfl ?_
  refine AW.if_lt (tgt := 21) (pc' := 11) d_C_leaveLeadToNext_8 (by decide) rfl (fun h => absurd h (nI_pos (by omega))) (fun _ => ?_)
  refine AW.aload_n (pc' := 12) d_C_leaveLeadToNext_11 rfl rfl rfl ?_
  refine AW.iload_n (pc' := 13) d_C_leaveLeadToNext_12 rfl rfl rfl ?_
  refine AW.aload_n (pc' := 14) d_C_leaveLeadToNext_13 rfl rfl rfl ?_
  refine AW.iload_n (pc' := 15) d_C_leaveLeadToNext_14 rfl rfl rfl ?_
  refine AW.cV (pc' := 18) d_C_leaveLeadToNext_15 rfl cv_C_150 (by decide) rfl rfl rfl (c_next X z k o (nI s) hnp) rfl rfl rfl rfl rfl rfl rfl ?_
  refine AW.top (u := .int ((-1))) (by rw [hx]; rfl) ?_
  refine AW.cV (pc' := 21) d_C_leaveLeadToNext_18 rfl cv_C_137 (by decide) rfl rfl rfl (c_set_sn X z k o s p hp hs hn hl hR) rfl rfl rfl rfl rfl rfl rfl ?_
  exact AW.vret d_C_leaveLeadToNext_21 rfl rfl rfl ⟨rfl, rfl⟩
theorem c_lln_ss (X : ct_X) (z : S_c) (k : S_m) (o : Nat → Int64) (p s : Nat) (hp : p < 40) (hs : s < 20) (hnp : c_np z ≤ 40) (hn : c_ns z ≤ 20) (h : c_slb z p = nI s) (hl : c_ldr z s = nI p) (r : Nat) (hr : r < 40) (hne : ¬ p = r) (hx : f_next z (nI s) (c_np z) = some r) (hR : Ring z) : AF X m_C_leaveLeadToNext 4 0 0 [.ref 0, .int (nI (p))] (wL z k o) (.inl none) (wL (f_set1 z s (some p) (some r)) k o) := by
  refine AM.of rfl (Nat.le_of_ble_eq_true rfl) (ls := [some (.ref 0), some (.int (nI (p))), none]) rfl ?_
  refine AW.aload_n (pc' := 1) d_C_leaveLeadToNext_0 rfl rfl rfl ?_
  refine AW.getf (pc' := 4) d_C_leaveLeadToNext_1 rfl fl_C_23 rfl rfl ?_
  refine AW.iload_n (pc' := 5) d_C_leaveLeadToNext_4 rfl rfl rfl ?_
  refine AW.ialdN (pc' := 6) d_C_leaveLeadToNext_5 rfl rfl (by omega) (by decide) ?_
  refine AW.top (u := .int (nI (s))) (by rw [h]) ?_
  refine AW.istore_n (pc' := 7) (ls' := [some (.ref 0), some (.int (nI (p))), some (.int (nI (s)))]) d_C_leaveLeadToNext_6 rfl rfl rfl rfl ?_
  refine AW.iload_n (pc' := 8) d_C_leaveLeadToNext_7 rfl rfl rfl ?_
  refine AW.if_lt (tgt := 21) (pc' := 11) d_C_leaveLeadToNext_8 (by decide) rfl (fun h => absurd h (nI_pos (by omega))) (fun _ => ?_)
  refine AW.aload_n (pc' := 12) d_C_leaveLeadToNext_11 rfl rfl rfl ?_
  refine AW.iload_n (pc' := 13) d_C_leaveLeadToNext_12 rfl rfl rfl ?_
  refine AW.aload_n (pc' := 14) d_C_leaveLeadToNext_13 rfl rfl rfl ?_
  refine AW.iload_n (pc' := 15) d_C_leaveLeadToNext_14 rfl rfl rfl ?_
  refine AW.cV (pc' := 18) d_C_leaveLeadToNext_15 rfl cv_C_150 (by decide) rfl rfl rfl (c_next X z k o (nI s) hnp) rfl rfl rfl rfl rfl rfl rfl ?_
  refine AW.top (u := .int (nI (r))) (by rw [hx]; rfl) ?_
  refine AW.cV (pc' := 21) d_C_leaveLeadToNext_18 rfl cv_C_137 (by decide) rfl rfl rfl (c_set_ss X z k o s p hp r hr hne hs hn hl hR) rfl rfl rfl rfl rfl rfl rfl ?_
  exact AW.vret d_C_leaveLeadToNext_21 rfl rfl rfl ⟨rfl, rfl⟩
end
section
/-! A PERSON COMES INTO A SECTOR; what stays through a change of leaders (rows printed by wip/whole/m5.py) -/
theorem ring_drop {z : S_c} {j t : Nat} (h : Ring z) (hn : 1 ≤ r_n z) : Ring (f_drop z j t) := ⟨ring_lt h.1 (by decide), (by show r_n z - 1 ≤ 400; have := h.2.1; omega), h.2.2⟩
theorem ring_note1 {z : S_c} {t s : Nat} {p : Int32} (h : Ring z) (hn : r_n z < 400) (ht : t ≤ 99999) (hs : s < 20) : Ring (f_note1 z t (nI s) p) := by
  refine ⟨h.1, (by show r_n z + 1 ≤ 400; omega), fun i hi => ?_⟩
  show (∃ j, j < 20 ∧ upd (r_num z) (ring (r_old z) (r_n z)) (nI s) i = nI j) ∧ ∃ t', t' ≤ 99999 ∧ upd (r_sec z) (ring (r_old z) (r_n z)) (nI t) i = nI t'
  by_cases e : i = ring (r_old z) (r_n z)
  · rw [e, pk_us, pk_us]
    exact ⟨⟨s, hs, rfl⟩, t, ht, rfl⟩
  · rw [pk_un e, pk_un e]
    exact h.2.2 i hi
theorem ring_note {z : S_c} {t s : Nat} {p : Int32} (h : Ring z) (ht : t ≤ 99999) (hs : s < 20) : Ring (f_note z t (nI s) p) := by
  unfold f_note
  by_cases hn : r_n z < 400
  · rw [if_pos hn]
    exact ring_note1 h hn ht hs
  · rw [if_neg hn]
    have h4 := h.2.1
    refine ring_note1 (ring_drop h (by omega)) ?_ ht hs
    show r_n z - 1 < 400
    omega
/-- the parts of a state that the rows of leaders don't touch -/
def core (z : S_c) : (Nat × Nat × Nat × Nat × Nat × Nat) × (Nat → Int32) × (Nat → Int32) × (Nat → Int32) × (Nat → Int32) × (Nat → Int32) × (Nat → Int32) × (Nat → Int32) × (Nat → Int32) × (Nat → Int32) × (Nat → Int32) × (Nat → Int32) × (Nat → Int32) × (Nat → Int32) :=
  ((c_sec z, c_most z, c_np z, c_nu z, c_ns z, t_n z), c_rank z, c_arr z, c_sop z, c_slb z, c_sou z, c_opn z, c_abv z, c_ldr z, c_off z, t_sec z, t_unt z, t_rep z, t_at z)
theorem core_note (z : S_c) (t : Nat) (s p : Int32) : core (f_note z t s p) = core z := by
  unfold f_note
  split <;> rfl
theorem ring_set1 {z : S_c} {s : Nat} {f p : Option Nat} (h : Ring z) (hc : c_sec z ≤ 99999) (hs : s < 20) : Ring (f_set1 z s f p) := by
  unfold f_set1
  cases f <;> cases p <;> exact ring_note h hc hs
/-- what a change of leaders makes of the core -/
def slb1 (z : S_c) (s : Nat) (f p : Option Nat) : Nat → Int32 :=
  let g := match f with
    | none => c_slb z
    | some q => upd (c_slb z) q (-1)
  match p with
    | none => g
    | some q => upd g q (nI s)
def off1 (z : S_c) (s : Nat) (p : Option Nat) : Nat → Int32 := match p with
  | none => upd (c_off z) s (-1)
  | some q => rep (upd (c_off z) s (-1)) (nI q) (-1) (c_ns z)
theorem core_set1 (z : S_c) (s : Nat) (f p : Option Nat) : core (f_set1 z s f p) = ((c_sec z, c_most z, c_np z, c_nu z, c_ns z, t_n z), c_rank z, c_arr z, c_sop z, slb1 z s f p, c_sou z, c_opn z, c_abv z, upd (c_ldr z) s (oI p), off1 z s p, t_sec z, t_unt z, t_rep z, t_at z) := by
  unfold f_set1
  cases f <;> cases p <;> rw [core_note] <;> rfl
theorem set1_ldr (z : S_c) (s : Nat) (f p : Option Nat) : c_ldr (f_set1 z s f p) = upd (c_ldr z) s (oI p) := congrArg (fun q => q.2.2.2.2.2.2.2.2.1) (core_set1 z s f p)
theorem set1_ns (z : S_c) (s : Nat) (f p : Option Nat) : c_ns (f_set1 z s f p) = c_ns z := congrArg (fun q => q.1.2.2.2.2.1) (core_set1 z s f p)
theorem set1_np (z : S_c) (s : Nat) (f p : Option Nat) : c_np (f_set1 z s f p) = c_np z := congrArg (fun q => q.1.2.2.1) (core_set1 z s f p)
theorem set1_sec (z : S_c) (s : Nat) (f p : Option Nat) : c_sec (f_set1 z s f p) = c_sec z := congrArg (fun q => q.1.1) (core_set1 z s f p)
/-- who leads what, said twice, agrees -/
def Led (z : S_c) : Prop := (∀ p, p < 40 → okO 20 (c_slb z p)) ∧ ∀ p s, p < 40 → s < 20 → c_slb z p = nI s → c_ldr z s = nI p
def f_lln (z : S_c) (p : Nat) : S_c := match io (c_slb z p) with
  | none => z
  | some s => f_set1 z s (some p) (f_next z (nI s) (c_np z))
theorem next_ne {z : S_c} {p s r n : Nat} (hs : s < 20) (h : c_slb z p = nI s) (hx : f_next z (nI s) n = some r) : ¬ p = r := by
  intro e
  subst e
  have h1 := (f_next_lt hx).2
  simp only [mayB, Bool.and_eq_true, decide_eq_true_eq] at h1
  rw [h] at h1
  exact oI_ne (p := s) (by omega) h1.2
theorem c_lln (X : ct_X) (z : S_c) (k : S_m) (o : Nat → Int64) (p : Nat) (hp : p < 40) (hnp : c_np z ≤ 40) (hn : c_ns z ≤ 20) (hL : Led z) (hR : Ring z) : AF X m_C_leaveLeadToNext 4 0 0 [.ref 0, .int (nI p)] (wL z k o) (.inl none) (wL (f_lln z p) k o) := by
  rcases hL.1 p hp with h | ⟨s, hs, h⟩
  · have e : f_lln z p = z := by rw [f_lln, h, io_m]
    rw [e]
    exact c_lln_n X z k o p hp h
  · have e : f_lln z p = f_set1 z s (some p) (f_next z (nI s) (c_np z)) := by rw [f_lln, h, io_n (by omega)]
    rw [e]
    cases hx : f_next z (nI s) (c_np z) with
    | none => exact c_lln_sn X z k o p s hp hs hnp hn h (hL.2 p s hp hs h) hx hR
    | some r =>
      have hr := (f_next_lt hx).1
      exact c_lln_ss X z k o p s hp hs hnp hn h (hL.2 p s hp hs h) r (by omega) (next_ne hs h hx) hx hR
theorem ring_lln {z : S_c} {p : Nat} (hp : p < 40) (hL : Led z) (hR : Ring z) (hc : c_sec z ≤ 99999) : Ring (f_lln z p) := by
  unfold f_lln
  rcases hL.1 p hp with h | ⟨s, hs, h⟩
  · rw [h, io_m]
    exact hR
  · rw [h, io_n (by omega)]
    exact ring_set1 hR hc hs
theorem lln_ns (z : S_c) (p : Nat) : c_ns (f_lln z p) = c_ns z := by
  unfold f_lln
  split
  · rfl
  · exact set1_ns _ _ _ _
theorem lln_sec (z : S_c) (p : Nat) : c_sec (f_lln z p) = c_sec z := by
  unfold f_lln
  split
  · rfl
  · exact set1_sec _ _ _ _
def f_come (z : S_c) (p s : Nat) : S_c :=
  let z2 := f_lln (c_sop_ z (upd (c_sop z) p (nI s))) p
  if c_ldr z2 s = -1 then f_set1 z2 s none (some p) else z2
theorem c_come_1 (X : ct_X) (z : S_c) (k : S_m) (o : Nat → Int64) (p s : Nat) (hp : p < 40) (hs : s < 20) (hnp : c_np z ≤ 40) (hn : c_ns z ≤ 20) (hc : c_sec z ≤ 99999) (hL : Led z) (hR : Ring z) (hx : c_ldr (f_lln (c_sop_ z (upd (c_sop z) p (nI s))) p) s = -1) : AF X m_C_comeInto 5 0 0 [.ref 0, .int (nI (p)), .int (nI (s))] (wL z k o) (.inl none) (wL (f_set1 (f_lln (c_sop_ z (upd (c_sop z) p (nI s))) p) s none (some p)) k o) := by
  refine AM.of rfl (Nat.le_of_ble_eq_true rfl) (ls := [some (.ref 0), some (.int (nI (p))), some (.int (nI (s)))]) rfl ?_
  refine AW.aload_n (pc' := 1) d_C_comeInto_0 rfl rfl rfl ?_
  refine AW.getf (pc' := 4) d_C_comeInto_1 rfl fl_C_20 rfl rfl ?_
  refine AW.iload_n (pc' := 5) d_C_comeInto_4 rfl rfl rfl ?_
  refine AW.iload_n (pc' := 6) d_C_comeInto_5 rfl rfl rfl ?_
  refine AW.iastN (pc' := 7) (w' := (wL (c_sop_ z (upd (c_sop z) p (nI (s)))) k o)) d_C_comeInto_6 rfl rfl (by omega) (by decide) rfl ?_
  refine AW.aload_n (pc' := 8) d_C_comeInto_7 rfl rfl rfl ?_
  refine AW.iload_n (pc' := 9) d_C_comeInto_8 rfl rfl rfl ?_
  refine AW.cV (pc' := 12) d_C_comeInto_9 rfl cv_C_111 (by decide) rfl rfl rfl (c_lln X (c_sop_ z (upd (c_sop z) p (nI s))) k o p hp hnp hn hL hR) rfl rfl rfl rfl rfl rfl rfl ?_
  refine AW.aload_n (pc' := 13) d_C_comeInto_12 rfl rfl rfl ?_
  refine AW.getf (pc' := 16) d_C_comeInto_13 rfl fl_C_42 rfl rfl ?_
  refine AW.iload_n (pc' := 17) d_C_comeInto_16 rfl rfl rfl ?_
  refine AW.ialdN (pc' := 18) d_C_comeInto_17 rfl rfl (by omega) (by decide) ?_
  refine AW.iconst (pc' := 19) (v := (-1)) d_C_comeInto_18 rfl (by decide) ?_
  refine AW.icmp_ne (tgt := 28) (pc' := 22) d_C_comeInto_19 (by decide) rfl (fun h => absurd hx h) (fun h19 => ?_)
  refine AW.aload_n (pc' := 23) d_C_comeInto_22 rfl rfl rfl ?_
  refine AW.iload_n (pc' := 24) d_C_comeInto_23 rfl rfl rfl ?_
  refine AW.iload_n (pc' := 25) d_C_comeInto_24 rfl rfl rfl ?_
  refine AW.cV (pc' := 28) d_C_comeInto_25 rfl cv_C_137 (by decide) rfl rfl rfl (c_set_ns X (f_lln (c_sop_ z (upd (c_sop z) p (nI s))) p) k o s p hp hs (by rw [lln_ns]; exact hn) hx (ring_lln hp hL hR hc)) rfl rfl rfl rfl rfl rfl rfl ?_
  exact AW.vret d_C_comeInto_28 rfl rfl rfl ⟨rfl, rfl⟩
theorem c_come_2 (X : ct_X) (z : S_c) (k : S_m) (o : Nat → Int64) (p s : Nat) (hp : p < 40) (hs : s < 20) (hnp : c_np z ≤ 40) (hn : c_ns z ≤ 20) (hc : c_sec z ≤ 99999) (hL : Led z) (hR : Ring z) (hx : ¬ c_ldr (f_lln (c_sop_ z (upd (c_sop z) p (nI s))) p) s = -1) : AF X m_C_comeInto 5 0 0 [.ref 0, .int (nI (p)), .int (nI (s))] (wL z k o) (.inl none) (wL (f_lln (c_sop_ z (upd (c_sop z) p (nI s))) p) k o) := by
  refine AM.of rfl (Nat.le_of_ble_eq_true rfl) (ls := [some (.ref 0), some (.int (nI (p))), some (.int (nI (s)))]) rfl ?_
  refine AW.aload_n (pc' := 1) d_C_comeInto_0 rfl rfl rfl ?_
  refine AW.getf (pc' := 4) d_C_comeInto_1 rfl fl_C_20 rfl rfl ?_
  refine AW.iload_n (pc' := 5) d_C_comeInto_4 rfl rfl rfl ?_
  refine AW.iload_n (pc' := 6) d_C_comeInto_5 rfl rfl rfl ?_
  refine AW.iastN (pc' := 7) (w' := (wL (c_sop_ z (upd (c_sop z) p (nI (s)))) k o)) d_C_comeInto_6 rfl rfl (by omega) (by decide) rfl ?_
  refine AW.aload_n (pc' := 8) d_C_comeInto_7 rfl rfl rfl ?_
  refine AW.iload_n (pc' := 9) d_C_comeInto_8 rfl rfl rfl ?_
  refine AW.cV (pc' := 12) d_C_comeInto_9 rfl cv_C_111 (by decide) rfl rfl rfl (c_lln X (c_sop_ z (upd (c_sop z) p (nI s))) k o p hp hnp hn hL hR) rfl rfl rfl rfl rfl rfl rfl ?_
  refine AW.aload_n (pc' := 13) d_C_comeInto_12 rfl rfl rfl ?_
  refine AW.getf (pc' := 16) d_C_comeInto_13 rfl fl_C_42 rfl rfl ?_
  refine AW.iload_n (pc' := 17) d_C_comeInto_16 rfl rfl rfl ?_
  refine AW.ialdN (pc' := 18) d_C_comeInto_17 rfl rfl (by omega) (by decide) ?_
  refine AW.iconst (pc' := 19) (v := (-1)) d_C_comeInto_18 rfl (by decide) ?_
  refine AW.icmp_ne (tgt := 28) (pc' := 22) d_C_comeInto_19 (by decide) rfl (fun h19 => ?_) (fun h => absurd h hx)
  exact AW.vret d_C_comeInto_28 rfl rfl rfl ⟨rfl, rfl⟩
theorem c_come (X : ct_X) (z : S_c) (k : S_m) (o : Nat → Int64) (p s : Nat) (hp : p < 40) (hs : s < 20) (hnp : c_np z ≤ 40) (hn : c_ns z ≤ 20) (hc : c_sec z ≤ 99999) (hL : Led z) (hR : Ring z) : AF X m_C_comeInto 5 0 0 [.ref 0, .int (nI p), .int (nI s)] (wL z k o) (.inl none) (wL (f_come z p s) k o) := by
  by_cases hx : c_ldr (f_lln (c_sop_ z (upd (c_sop z) p (nI s))) p) s = -1
  · have e : f_come z p s = f_set1 (f_lln (c_sop_ z (upd (c_sop z) p (nI s))) p) s none (some p) := by
      show (if c_ldr (f_lln (c_sop_ z (upd (c_sop z) p (nI s))) p) s = -1 then f_set1 (f_lln (c_sop_ z (upd (c_sop z) p (nI s))) p) s none (some p) else f_lln (c_sop_ z (upd (c_sop z) p (nI s))) p) = _
      rw [if_pos hx]
    rw [e]
    exact c_come_1 X z k o p s hp hs hnp hn hc hL hR hx
  · have e : f_come z p s = f_lln (c_sop_ z (upd (c_sop z) p (nI s))) p := by
      show (if c_ldr (f_lln (c_sop_ z (upd (c_sop z) p (nI s))) p) s = -1 then f_set1 (f_lln (c_sop_ z (upd (c_sop z) p (nI s))) p) s none (some p) else f_lln (c_sop_ z (upd (c_sop z) p (nI s))) p) = _
      rw [if_neg hx]
    rw [e]
    exact c_come_2 X z k o p s hp hs hnp hn hc hL hR hx
end
section
/-! THE CLASS'S PUBLIC METHODS, case by case (rows printed by wip/whole/m5.py) -/
theorem c_person_0 (X : ct_X) (z : S_c) (k : S_m) (o : Nat → Int64) (x : Int32) (hx : x < 0 ∨ nI 9 < x) : AF X m_C_person 7 0 0 [.ref 0, .int (x)] (wL z k o) (.inr 0) (wL z k o) := by
  refine AM.of rfl (Nat.le_of_ble_eq_true rfl) (ls := [some (.ref 0), some (.int (x)), none]) rfl ?_
  refine AW.iload_n (pc' := 1) d_C_person_0 rfl rfl rfl ?_
  refine AW.if_lt (tgt := 10) (pc' := 4) d_C_person_1 (by decide) rfl (fun h1 => ?_) (fun h1 => ?_)
  · exact AW.throwS (x := 0) d_C_person_10 d_C_person_13 d_C_person_14 d_C_person_16 d_C_person_19 cl_C_65 ini_java_lang_IndexOutOfBoundsException sr_C_67 thr_0 rfl (by decide) rfl rfl rfl ⟨rfl, rfl⟩
  · refine AW.iload_n (pc' := 5) d_C_person_4 rfl rfl rfl ?_
    refine AW.bipush (pc' := 7) (v := nI 9) d_C_person_5 rfl (by decide) ?_
    refine AW.icmp_le (tgt := 20) (pc' := 10) d_C_person_7 (by decide) rfl (fun h => hx.elim (fun q => absurd q h1) (fun q => absurd h (Int32.not_le.mpr q))) (fun h7 => ?_)
    exact AW.throwS (x := 0) d_C_person_10 d_C_person_13 d_C_person_14 d_C_person_16 d_C_person_19 cl_C_65 ini_java_lang_IndexOutOfBoundsException sr_C_67 thr_0 rfl (by decide) rfl rfl rfl ⟨rfl, rfl⟩
theorem c_person_1 (X : ct_X) (z : S_c) (k : S_m) (o : Nat → Int64) (x : Int32) (hx : ¬ x < 0) (hx2 : ¬ nI 9 < x) (h : 40 ≤ c_np z) (h2 : c_np z < 2 ^ 31) : AF X m_C_person 7 0 0 [.ref 0, .int (x)] (wL z k o) (.inr 1) (wL z k o) := by
  refine AM.of rfl (Nat.le_of_ble_eq_true rfl) (ls := [some (.ref 0), some (.int (x)), none]) rfl ?_
  refine AW.iload_n (pc' := 1) d_C_person_0 rfl rfl rfl ?_
  refine AW.if_lt (tgt := 10) (pc' := 4) d_C_person_1 (by decide) rfl (fun h => absurd h hx) (fun h1 => ?_)
  refine AW.iload_n (pc' := 5) d_C_person_4 rfl rfl rfl ?_
  refine AW.bipush (pc' := 7) (v := nI 9) d_C_person_5 rfl (by decide) ?_
  refine AW.icmp_le (tgt := 20) (pc' := 10) d_C_person_7 (by decide) rfl (fun h7 => ?_) (fun h => absurd (Int32.not_le.mp h) hx2)
  refine AW.aload_n (pc' := 21) d_C_person_20 rfl rfl rfl ?_
  refine AW.getf (pc' := 24) d_C_person_21 rfl fl_C_72 rfl rfl ?_
  refine AW.bipush (pc' := 26) (v := nI 40) d_C_person_24 rfl (by decide) ?_
  refine AW.icmp_ltN (tgt := 39) (pc' := 29) d_C_person_26 (by decide) rfl (by omega) (by omega) (fun h => absurd h (by omega)) (fun h26 => ?_)
  exact AW.throwS (x := 1) d_C_person_29 d_C_person_32 d_C_person_33 d_C_person_35 d_C_person_38 cl_C_75 ini_java_lang_UnsupportedOperationException sr_C_77 thr_1 rfl (by decide) rfl rfl rfl ⟨rfl, rfl⟩
theorem c_person_2 (X : ct_X) (z : S_c) (k : S_m) (o : Nat → Int64) (x : Int32) (hx : ¬ x < 0) (hx2 : ¬ nI 9 < x) (h : c_np z < 40) : AF X m_C_person 7 0 0 [.ref 0, .int (x)] (wL z k o) (.inl (some (.int (nI (c_np z))))) (wL (c_np_ (c_rank_ z (upd (c_rank z) (c_np z) x)) (c_np z + 1)) k o) := by
  refine AM.of rfl (Nat.le_of_ble_eq_true rfl) (ls := [some (.ref 0), some (.int (x)), none]) rfl ?_
  refine AW.iload_n (pc' := 1) d_C_person_0 rfl rfl rfl ?_
  refine AW.if_lt (tgt := 10) (pc' := 4) d_C_person_1 (by decide) rfl (fun h => absurd h hx) (fun h1 => ?_)
  refine AW.iload_n (pc' := 5) d_C_person_4 rfl rfl rfl ?_
  refine AW.bipush (pc' := 7) (v := nI 9) d_C_person_5 rfl (by decide) ?_
  refine AW.icmp_le (tgt := 20) (pc' := 10) d_C_person_7 (by decide) rfl (fun h7 => ?_) (fun h => absurd (Int32.not_le.mp h) hx2)
  refine AW.aload_n (pc' := 21) d_C_person_20 rfl rfl rfl ?_
  refine AW.getf (pc' := 24) d_C_person_21 rfl fl_C_72 rfl rfl ?_
  refine AW.bipush (pc' := 26) (v := nI 40) d_C_person_24 rfl (by decide) ?_
  refine AW.icmp_ltN (tgt := 39) (pc' := 29) d_C_person_26 (by decide) rfl (by omega) (by omega) (fun h26 => ?_) (fun h => absurd h (by omega))
  refine AW.aload_n (pc' := 40) d_C_person_39 rfl rfl rfl ?_
  refine AW.getf (pc' := 43) d_C_person_40 rfl fl_C_72 rfl rfl ?_
  refine AW.istore_n (pc' := 44) (ls' := [some (.ref 0), some (.int (x)), some (.int (nI (c_np z)))]) d_C_person_43 rfl rfl rfl rfl ?_
  refine AW.aload_n (pc' := 45) d_C_person_44 rfl rfl rfl ?_
  refine AW.getf (pc' := 48) d_C_person_45 rfl fl_C_13 rfl rfl ?_
  refine AW.iload_n (pc' := 49) d_C_person_48 rfl rfl rfl ?_
  refine AW.iload_n (pc' := 50) d_C_person_49 rfl rfl rfl ?_
  refine AW.iastN (pc' := 51) (w' := (wL (c_rank_ z (upd (c_rank z) (c_np z) x)) k o)) d_C_person_50 rfl rfl (by omega) (by decide) rfl ?_
  refine AW.aload_n (pc' := 52) d_C_person_51 rfl rfl rfl ?_
  refine AW.dup (pc' := 53) d_C_person_52 rfl rfl ?_
  refine AW.getf (pc' := 56) d_C_person_53 rfl fl_C_72 rfl rfl ?_
  refine AW.top (u := .int (nI (c_np z))) rfl ?_
  refine AW.iconst (pc' := 57) (v := nI 1) d_C_person_56 rfl (by decide) ?_
  refine AW.iaddN (pc' := 58) d_C_person_57 rfl ?_
  refine AW.putf (pc' := 61) (w' := (wL (c_np_ (c_rank_ z (upd (c_rank z) (c_np z) x)) ((c_np z) + 1)) k o)) d_C_person_58 rfl fp_C_72 rfl rfl (fun _ => ⟨rfl, rfl⟩) rfl rfl ?_
  refine AW.iload_n (pc' := 62) d_C_person_61 rfl rfl rfl ?_
  exact AW.iret d_C_person_62 rfl rfl rfl ⟨rfl, rfl⟩
theorem c_unit_1 (X : ct_X) (z : S_c) (k : S_m) (o : Nat → Int64) (h : 20 ≤ c_nu z) (h2 : c_nu z < 2 ^ 31) : AF X m_C_unit 7 0 0 [.ref 0] (wL z k o) (.inr 1) (wL z k o) := by
  refine AM.of rfl (Nat.le_of_ble_eq_true rfl) (ls := [some (.ref 0), none]) rfl ?_
  refine AW.aload_n (pc' := 1) d_C_unit_0 rfl rfl rfl ?_
  refine AW.getf (pc' := 4) d_C_unit_1 rfl fl_C_80 rfl rfl ?_
  refine AW.bipush (pc' := 6) (v := nI 20) d_C_unit_4 rfl (by decide) ?_
  refine AW.icmp_ltN (tgt := 19) (pc' := 9) d_C_unit_6 (by decide) rfl (by omega) (by omega) (fun h => absurd h (by omega)) (fun h6 => ?_)
  exact AW.throwS (x := 1) d_C_unit_9 d_C_unit_12 d_C_unit_13 d_C_unit_15 d_C_unit_18 cl_C_75 ini_java_lang_UnsupportedOperationException sr_C_83 thr_1 rfl (by decide) rfl rfl rfl ⟨rfl, rfl⟩
theorem c_unit_2 (X : ct_X) (z : S_c) (k : S_m) (o : Nat → Int64) (h : c_nu z < 20) : AF X m_C_unit 7 0 0 [.ref 0] (wL z k o) (.inl (some (.int (nI (c_nu z))))) (wL (c_nu_ z (c_nu z + 1)) k o) := by
  refine AM.of rfl (Nat.le_of_ble_eq_true rfl) (ls := [some (.ref 0), none]) rfl ?_
  refine AW.aload_n (pc' := 1) d_C_unit_0 rfl rfl rfl ?_
  refine AW.getf (pc' := 4) d_C_unit_1 rfl fl_C_80 rfl rfl ?_
  refine AW.bipush (pc' := 6) (v := nI 20) d_C_unit_4 rfl (by decide) ?_
  refine AW.icmp_ltN (tgt := 19) (pc' := 9) d_C_unit_6 (by decide) rfl (by omega) (by omega) (fun h6 => ?_) (fun h => absurd h (by omega))
  refine AW.aload_n (pc' := 20) d_C_unit_19 rfl rfl rfl ?_
  refine AW.getf (pc' := 23) d_C_unit_20 rfl fl_C_80 rfl rfl ?_
  refine AW.istore_n (pc' := 24) (ls' := [some (.ref 0), some (.int (nI (c_nu z)))]) d_C_unit_23 rfl rfl rfl rfl ?_
  refine AW.aload_n (pc' := 25) d_C_unit_24 rfl rfl rfl ?_
  refine AW.dup (pc' := 26) d_C_unit_25 rfl rfl ?_
  refine AW.getf (pc' := 29) d_C_unit_26 rfl fl_C_80 rfl rfl ?_
  refine AW.iconst (pc' := 30) (v := nI 1) d_C_unit_29 rfl (by decide) ?_
  refine AW.iaddN (pc' := 31) d_C_unit_30 rfl ?_
  refine AW.putf (pc' := 34) (w' := (wL (c_nu_ z ((c_nu z) + 1)) k o)) d_C_unit_31 rfl fp_C_80 rfl rfl (fun _ => ⟨rfl, rfl⟩) rfl rfl ?_
  refine AW.iload_n (pc' := 35) d_C_unit_34 rfl rfl rfl ?_
  exact AW.iret d_C_unit_35 rfl rfl rfl ⟨rfl, rfl⟩
theorem c_arrive_0 (X : ct_X) (z : S_c) (k : S_m) (o : Nat → Int64) (x : Int32) (hx : x < 0 ∨ nI (c_np z) ≤ x) : AF X m_C_arrive 7 0 0 [.ref 0, .int (x)] (wL z k o) (.inr 2) (wL z k o) := by
  refine AM.of rfl (Nat.le_of_ble_eq_true rfl) (ls := [some (.ref 0), some (.int (x))]) rfl ?_
  refine AW.aload_n (pc' := 1) d_C_arrive_0 rfl rfl rfl ?_
  refine AW.iload_n (pc' := 2) d_C_arrive_1 rfl rfl rfl ?_
  exact AW.cVx d_C_arrive_2 cv_C_85 (by decide) rfl rfl rfl (c_reqPerson_no X z k o x hx) rfl rfl rfl rfl rfl rfl rfl ⟨rfl, rfl⟩
theorem c_arrive_1 (X : ct_X) (z : S_c) (k : S_m) (o : Nat → Int64) (p : Nat) (hj : p < c_np z) (hnp : c_np z ≤ 40) (h : ¬ c_sop z p = -1) : AF X m_C_arrive 7 0 0 [.ref 0, .int (nI (p))] (wL z k o) (.inr 3) (wL z k o) := by
  refine AM.of rfl (Nat.le_of_ble_eq_true rfl) (ls := [some (.ref 0), some (.int (nI (p)))]) rfl ?_
  refine AW.aload_n (pc' := 1) d_C_arrive_0 rfl rfl rfl ?_
  refine AW.iload_n (pc' := 2) d_C_arrive_1 rfl rfl rfl ?_
  refine AW.cV (pc' := 5) d_C_arrive_2 rfl cv_C_85 (by decide) rfl rfl rfl (c_reqPerson_ok X z k o p hj (by omega)) rfl rfl rfl rfl rfl rfl rfl ?_
  refine AW.aload_n (pc' := 6) d_C_arrive_5 rfl rfl rfl ?_
  refine AW.iload_n (pc' := 7) d_C_arrive_6 rfl rfl rfl ?_
  refine AW.cV (pc' := 10) d_C_arrive_7 rfl cv_C_89 (by decide) rfl rfl rfl (c_isThere_t X z k o p (by omega) h) rfl rfl rfl rfl rfl rfl rfl ?_
  refine AW.if_eq (tgt := 23) (pc' := 13) d_C_arrive_10 (by decide) rfl (fun h => absurd h (by decide)) (fun _ => ?_)
  exact AW.throwS (x := 3) d_C_arrive_13 d_C_arrive_16 d_C_arrive_17 d_C_arrive_19 d_C_arrive_22 cl_C_93 ini_java_lang_IllegalStateException sr_C_95 thr_3 rfl (by decide) rfl rfl rfl ⟨rfl, rfl⟩
theorem c_arrive_2 (X : ct_X) (z : S_c) (k : S_m) (o : Nat → Int64) (p : Nat) (hj : p < c_np z) (hnp : c_np z ≤ 40) (h : c_sop z p = -1) (hn : c_ns z ≤ 20) (hc : c_sec z ≤ 99999) (hL : Led z) (hR : Ring z) : AF X m_C_arrive 7 0 0 [.ref 0, .int (nI (p))] (wL z k o) (.inl none) (wL (f_come (c_arr_ z (upd (c_arr z) p (nI (c_sec z)))) p 0) k o) := by
  refine AM.of rfl (Nat.le_of_ble_eq_true rfl) (ls := [some (.ref 0), some (.int (nI (p)))]) rfl ?_
  refine AW.aload_n (pc' := 1) d_C_arrive_0 rfl rfl rfl ?_
  refine AW.iload_n (pc' := 2) d_C_arrive_1 rfl rfl rfl ?_
  refine AW.cV (pc' := 5) d_C_arrive_2 rfl cv_C_85 (by decide) rfl rfl rfl (c_reqPerson_ok X z k o p hj (by omega)) rfl rfl rfl rfl rfl rfl rfl ?_
  refine AW.aload_n (pc' := 6) d_C_arrive_5 rfl rfl rfl ?_
  refine AW.iload_n (pc' := 7) d_C_arrive_6 rfl rfl rfl ?_
  refine AW.cV (pc' := 10) d_C_arrive_7 rfl cv_C_89 (by decide) rfl rfl rfl (c_isThere_f X z k o p (by omega) h) rfl rfl rfl rfl rfl rfl rfl ?_
  refine AW.if_eq (tgt := 23) (pc' := 13) d_C_arrive_10 (by decide) rfl (fun _ => ?_) (fun h => absurd h (by decide))
  refine AW.aload_n (pc' := 24) d_C_arrive_23 rfl rfl rfl ?_
  refine AW.getf (pc' := 27) d_C_arrive_24 rfl fl_C_17 rfl rfl ?_
  refine AW.iload_n (pc' := 28) d_C_arrive_27 rfl rfl rfl ?_
  refine AW.aload_n (pc' := 29) d_C_arrive_28 rfl rfl rfl ?_
  refine AW.getf (pc' := 32) d_C_arrive_29 rfl fl_C_98 rfl rfl ?_
  refine AW.iastN (pc' := 33) (w' := (wL (c_arr_ z (upd (c_arr z) p (nI (c_sec z)))) k o)) d_C_arrive_32 rfl rfl (by omega) (by decide) rfl ?_
  refine AW.aload_n (pc' := 34) d_C_arrive_33 rfl rfl rfl ?_
  refine AW.iload_n (pc' := 35) d_C_arrive_34 rfl rfl rfl ?_
  refine AW.iconst (pc' := 36) (v := nI 0) d_C_arrive_35 rfl (by decide) ?_
  refine AW.cV (pc' := 39) d_C_arrive_36 rfl cv_C_101 (by decide) rfl rfl rfl (c_come X (c_arr_ z (upd (c_arr z) p (nI (c_sec z)))) k o p 0 (by omega) (by decide) hnp hn hc hL hR) rfl rfl rfl rfl rfl rfl rfl ?_
  exact AW.vret d_C_arrive_39 rfl rfl rfl ⟨rfl, rfl⟩
theorem c_leave_0 (X : ct_X) (z : S_c) (k : S_m) (o : Nat → Int64) (x : Int32) (hx : x < 0 ∨ nI (c_np z) ≤ x) : AF X m_C_leave 7 0 0 [.ref 0, .int (x)] (wL z k o) (.inr 2) (wL z k o) := by
  refine AM.of rfl (Nat.le_of_ble_eq_true rfl) (ls := [some (.ref 0), some (.int (x))]) rfl ?_
  refine AW.aload_n (pc' := 1) d_C_leave_0 rfl rfl rfl ?_
  refine AW.iload_n (pc' := 2) d_C_leave_1 rfl rfl rfl ?_
  exact AW.cVx d_C_leave_2 cv_C_85 (by decide) rfl rfl rfl (c_reqPerson_no X z k o x hx) rfl rfl rfl rfl rfl rfl rfl ⟨rfl, rfl⟩
theorem c_leave_1 (X : ct_X) (z : S_c) (k : S_m) (o : Nat → Int64) (p : Nat) (hj : p < c_np z) (hnp : c_np z ≤ 40) (h : c_sop z p = -1) : AF X m_C_leave 7 0 0 [.ref 0, .int (nI (p))] (wL z k o) (.inr 3) (wL z k o) := by
  refine AM.of rfl (Nat.le_of_ble_eq_true rfl) (ls := [some (.ref 0), some (.int (nI (p)))]) rfl ?_
  refine AW.aload_n (pc' := 1) d_C_leave_0 rfl rfl rfl ?_
  refine AW.iload_n (pc' := 2) d_C_leave_1 rfl rfl rfl ?_
  refine AW.cV (pc' := 5) d_C_leave_2 rfl cv_C_85 (by decide) rfl rfl rfl (c_reqPerson_ok X z k o p hj (by omega)) rfl rfl rfl rfl rfl rfl rfl ?_
  refine AW.aload_n (pc' := 6) d_C_leave_5 rfl rfl rfl ?_
  refine AW.iload_n (pc' := 7) d_C_leave_6 rfl rfl rfl ?_
  exact AW.cVx d_C_leave_7 cv_C_105 (by decide) rfl rfl rfl (c_reqThere_no X z k o p (by omega) h) rfl rfl rfl rfl rfl rfl rfl ⟨rfl, rfl⟩
theorem c_leave_2 (X : ct_X) (z : S_c) (k : S_m) (o : Nat → Int64) (p : Nat) (hj : p < c_np z) (hnp : c_np z ≤ 40) (h : ¬ c_sop z p = -1) (hn : c_ns z ≤ 20) (hc : c_sec z ≤ 99999) (hL : Led z) (hR : Ring z) : AF X m_C_leave 7 0 0 [.ref 0, .int (nI (p))] (wL z k o) (.inl none) (wL (f_lln (c_off_ (c_arr_ (c_sop_ z (upd (c_sop z) p (-1))) (upd (c_arr z) p (-1))) (rep (c_off (c_arr_ (c_sop_ z (upd (c_sop z) p (-1))) (upd (c_arr z) p (-1)))) (nI p) (-1) (c_ns (c_arr_ (c_sop_ z (upd (c_sop z) p (-1))) (upd (c_arr z) p (-1)))))) p) k o) := by
  refine AM.of rfl (Nat.le_of_ble_eq_true rfl) (ls := [some (.ref 0), some (.int (nI (p)))]) rfl ?_
  refine AW.aload_n (pc' := 1) d_C_leave_0 rfl rfl rfl ?_
  refine AW.iload_n (pc' := 2) d_C_leave_1 rfl rfl rfl ?_
  refine AW.cV (pc' := 5) d_C_leave_2 rfl cv_C_85 (by decide) rfl rfl rfl (c_reqPerson_ok X z k o p hj (by omega)) rfl rfl rfl rfl rfl rfl rfl ?_
  refine AW.aload_n (pc' := 6) d_C_leave_5 rfl rfl rfl ?_
  refine AW.iload_n (pc' := 7) d_C_leave_6 rfl rfl rfl ?_
  refine AW.cV (pc' := 10) d_C_leave_7 rfl cv_C_105 (by decide) rfl rfl rfl (c_reqThere_ok X z k o p (by omega) h) rfl rfl rfl rfl rfl rfl rfl ?_
  refine AW.aload_n (pc' := 11) d_C_leave_10 rfl rfl rfl ?_
  refine AW.getf (pc' := 14) d_C_leave_11 rfl fl_C_20 rfl rfl ?_
  refine AW.iload_n (pc' := 15) d_C_leave_14 rfl rfl rfl ?_
  refine AW.iconst (pc' := 16) (v := (-1)) d_C_leave_15 rfl (by decide) ?_
  refine AW.iastN (pc' := 17) (w' := (wL (c_sop_ z (upd (c_sop z) p ((-1)))) k o)) d_C_leave_16 rfl rfl (by omega) (by decide) rfl ?_
  refine AW.aload_n (pc' := 18) d_C_leave_17 rfl rfl rfl ?_
  refine AW.getf (pc' := 21) d_C_leave_18 rfl fl_C_17 rfl rfl ?_
  refine AW.iload_n (pc' := 22) d_C_leave_21 rfl rfl rfl ?_
  refine AW.iconst (pc' := 23) (v := (-1)) d_C_leave_22 rfl (by decide) ?_
  refine AW.iastN (pc' := 24) (w' := (wL (c_arr_ (c_sop_ z (upd (c_sop z) p ((-1)))) (upd (c_arr z) p ((-1)))) k o)) d_C_leave_23 rfl rfl (by omega) (by decide) rfl ?_
  refine AW.aload_n (pc' := 25) d_C_leave_24 rfl rfl rfl ?_
  refine AW.iload_n (pc' := 26) d_C_leave_25 rfl rfl rfl ?_
  refine AW.cV (pc' := 29) d_C_leave_26 rfl cv_C_108 (by decide) rfl rfl rfl (c_withdraw X (c_arr_ (c_sop_ z (upd (c_sop z) p (-1))) (upd (c_arr z) p (-1))) k o (nI p) hn) rfl rfl rfl rfl rfl rfl rfl ?_
  refine AW.aload_n (pc' := 30) d_C_leave_29 rfl rfl rfl ?_
  refine AW.iload_n (pc' := 31) d_C_leave_30 rfl rfl rfl ?_
  refine AW.cV (pc' := 34) d_C_leave_31 rfl cv_C_111 (by decide) rfl rfl rfl (c_lln X (c_off_ (c_arr_ (c_sop_ z (upd (c_sop z) p (-1))) (upd (c_arr z) p (-1))) (rep (c_off (c_arr_ (c_sop_ z (upd (c_sop z) p (-1))) (upd (c_arr z) p (-1)))) (nI p) (-1) (c_ns (c_arr_ (c_sop_ z (upd (c_sop z) p (-1))) (upd (c_arr z) p (-1)))))) k o p (by omega) hnp hn hL hR) rfl rfl rfl rfl rfl rfl rfl ?_
  exact AW.vret d_C_leave_34 rfl rfl rfl ⟨rfl, rfl⟩
theorem c_go_0 (X : ct_X) (z : S_c) (k : S_m) (o : Nat → Int64) (x y : Int32) (hx : x < 0 ∨ nI (c_np z) ≤ x) : AF X m_C_go 7 0 0 [.ref 0, .int (x), .int (y)] (wL z k o) (.inr 2) (wL z k o) := by
  refine AM.of rfl (Nat.le_of_ble_eq_true rfl) (ls := [some (.ref 0), some (.int (x)), some (.int (y))]) rfl ?_
  refine AW.aload_n (pc' := 1) d_C_go_0 rfl rfl rfl ?_
  refine AW.iload_n (pc' := 2) d_C_go_1 rfl rfl rfl ?_
  exact AW.cVx d_C_go_2 cv_C_85 (by decide) rfl rfl rfl (c_reqPerson_no X z k o x hx) rfl rfl rfl rfl rfl rfl rfl ⟨rfl, rfl⟩
theorem c_go_1 (X : ct_X) (z : S_c) (k : S_m) (o : Nat → Int64) (p : Nat) (hj : p < c_np z) (hnp : c_np z ≤ 40) (x : Int32) (hx : x < 0 ∨ nI (c_ns z) ≤ x) : AF X m_C_go 7 0 0 [.ref 0, .int (nI (p)), .int (x)] (wL z k o) (.inr 2) (wL z k o) := by
  refine AM.of rfl (Nat.le_of_ble_eq_true rfl) (ls := [some (.ref 0), some (.int (nI (p))), some (.int (x))]) rfl ?_
  refine AW.aload_n (pc' := 1) d_C_go_0 rfl rfl rfl ?_
  refine AW.iload_n (pc' := 2) d_C_go_1 rfl rfl rfl ?_
  refine AW.cV (pc' := 5) d_C_go_2 rfl cv_C_85 (by decide) rfl rfl rfl (c_reqPerson_ok X z k o p hj (by omega)) rfl rfl rfl rfl rfl rfl rfl ?_
  refine AW.aload_n (pc' := 6) d_C_go_5 rfl rfl rfl ?_
  refine AW.iload_n (pc' := 7) d_C_go_6 rfl rfl rfl ?_
  exact AW.cVx d_C_go_7 cv_C_114 (by decide) rfl rfl rfl (c_reqSector_no X z k o x hx) rfl rfl rfl rfl rfl rfl rfl ⟨rfl, rfl⟩
theorem c_go_2 (X : ct_X) (z : S_c) (k : S_m) (o : Nat → Int64) (p : Nat) (hj : p < c_np z) (hnp : c_np z ≤ 40) (s : Nat) (hs : s < c_ns z) (hn : c_ns z ≤ 20) (h : c_sop z p = -1) : AF X m_C_go 7 0 0 [.ref 0, .int (nI (p)), .int (nI (s))] (wL z k o) (.inr 3) (wL z k o) := by
  refine AM.of rfl (Nat.le_of_ble_eq_true rfl) (ls := [some (.ref 0), some (.int (nI (p))), some (.int (nI (s)))]) rfl ?_
  refine AW.aload_n (pc' := 1) d_C_go_0 rfl rfl rfl ?_
  refine AW.iload_n (pc' := 2) d_C_go_1 rfl rfl rfl ?_
  refine AW.cV (pc' := 5) d_C_go_2 rfl cv_C_85 (by decide) rfl rfl rfl (c_reqPerson_ok X z k o p hj (by omega)) rfl rfl rfl rfl rfl rfl rfl ?_
  refine AW.aload_n (pc' := 6) d_C_go_5 rfl rfl rfl ?_
  refine AW.iload_n (pc' := 7) d_C_go_6 rfl rfl rfl ?_
  refine AW.cV (pc' := 10) d_C_go_7 rfl cv_C_114 (by decide) rfl rfl rfl (c_reqSector_ok X z k o s hs (by omega)) rfl rfl rfl rfl rfl rfl rfl ?_
  refine AW.aload_n (pc' := 11) d_C_go_10 rfl rfl rfl ?_
  refine AW.iload_n (pc' := 12) d_C_go_11 rfl rfl rfl ?_
  exact AW.cVx d_C_go_12 cv_C_105 (by decide) rfl rfl rfl (c_reqThere_no X z k o p (by omega) h) rfl rfl rfl rfl rfl rfl rfl ⟨rfl, rfl⟩
theorem c_go_3 (X : ct_X) (z : S_c) (k : S_m) (o : Nat → Int64) (p : Nat) (hj : p < c_np z) (hnp : c_np z ≤ 40) (s : Nat) (hs : s < c_ns z) (hn : c_ns z ≤ 20) (h : ¬ c_sop z p = -1) (hq : c_sop z p = nI s) : AF X m_C_go 7 0 0 [.ref 0, .int (nI (p)), .int (nI (s))] (wL z k o) (.inr 3) (wL z k o) := by
  refine AM.of rfl (Nat.le_of_ble_eq_true rfl) (ls := [some (.ref 0), some (.int (nI (p))), some (.int (nI (s)))]) rfl ?_
  refine AW.aload_n (pc' := 1) d_C_go_0 rfl rfl rfl ?_
  refine AW.iload_n (pc' := 2) d_C_go_1 rfl rfl rfl ?_
  refine AW.cV (pc' := 5) d_C_go_2 rfl cv_C_85 (by decide) rfl rfl rfl (c_reqPerson_ok X z k o p hj (by omega)) rfl rfl rfl rfl rfl rfl rfl ?_
  refine AW.aload_n (pc' := 6) d_C_go_5 rfl rfl rfl ?_
  refine AW.iload_n (pc' := 7) d_C_go_6 rfl rfl rfl ?_
  refine AW.cV (pc' := 10) d_C_go_7 rfl cv_C_114 (by decide) rfl rfl rfl (c_reqSector_ok X z k o s hs (by omega)) rfl rfl rfl rfl rfl rfl rfl ?_
  refine AW.aload_n (pc' := 11) d_C_go_10 rfl rfl rfl ?_
  refine AW.iload_n (pc' := 12) d_C_go_11 rfl rfl rfl ?_
  refine AW.cV (pc' := 15) d_C_go_12 rfl cv_C_105 (by decide) rfl rfl rfl (c_reqThere_ok X z k o p (by omega) h) rfl rfl rfl rfl rfl rfl rfl ?_
  refine AW.aload_n (pc' := 16) d_C_go_15 rfl rfl rfl ?_
  refine AW.getf (pc' := 19) d_C_go_16 rfl fl_C_20 rfl rfl ?_
  refine AW.iload_n (pc' := 20) d_C_go_19 rfl rfl rfl ?_
  refine AW.ialdN (pc' := 21) d_C_go_20 rfl rfl (by omega) (by decide) ?_
  refine AW.iload_n (pc' := 22) d_C_go_21 rfl rfl rfl ?_
  refine AW.icmp_ne (tgt := 35) (pc' := 25) d_C_go_22 (by decide) rfl (fun h => absurd hq h) (fun h22 => ?_)
  exact AW.throwS (x := 3) d_C_go_25 d_C_go_28 d_C_go_29 d_C_go_31 d_C_go_34 cl_C_93 ini_java_lang_IllegalStateException sr_C_117 thr_3 rfl (by decide) rfl rfl rfl ⟨rfl, rfl⟩
theorem c_go_4 (X : ct_X) (z : S_c) (k : S_m) (o : Nat → Int64) (p : Nat) (hj : p < c_np z) (hnp : c_np z ≤ 40) (s : Nat) (hs : s < c_ns z) (hn : c_ns z ≤ 20) (h : ¬ c_sop z p = -1) (hq : ¬ c_sop z p = nI s) (hop : c_opn z s = 0) : AF X m_C_go 7 0 0 [.ref 0, .int (nI (p)), .int (nI (s))] (wL z k o) (.inr 3) (wL z k o) := by
  refine AM.of rfl (Nat.le_of_ble_eq_true rfl) (ls := [some (.ref 0), some (.int (nI (p))), some (.int (nI (s)))]) rfl ?_
  refine AW.aload_n (pc' := 1) d_C_go_0 rfl rfl rfl ?_
  refine AW.iload_n (pc' := 2) d_C_go_1 rfl rfl rfl ?_
  refine AW.cV (pc' := 5) d_C_go_2 rfl cv_C_85 (by decide) rfl rfl rfl (c_reqPerson_ok X z k o p hj (by omega)) rfl rfl rfl rfl rfl rfl rfl ?_
  refine AW.aload_n (pc' := 6) d_C_go_5 rfl rfl rfl ?_
  refine AW.iload_n (pc' := 7) d_C_go_6 rfl rfl rfl ?_
  refine AW.cV (pc' := 10) d_C_go_7 rfl cv_C_114 (by decide) rfl rfl rfl (c_reqSector_ok X z k o s hs (by omega)) rfl rfl rfl rfl rfl rfl rfl ?_
  refine AW.aload_n (pc' := 11) d_C_go_10 rfl rfl rfl ?_
  refine AW.iload_n (pc' := 12) d_C_go_11 rfl rfl rfl ?_
  refine AW.cV (pc' := 15) d_C_go_12 rfl cv_C_105 (by decide) rfl rfl rfl (c_reqThere_ok X z k o p (by omega) h) rfl rfl rfl rfl rfl rfl rfl ?_
  refine AW.aload_n (pc' := 16) d_C_go_15 rfl rfl rfl ?_
  refine AW.getf (pc' := 19) d_C_go_16 rfl fl_C_20 rfl rfl ?_
  refine AW.iload_n (pc' := 20) d_C_go_19 rfl rfl rfl ?_
  refine AW.ialdN (pc' := 21) d_C_go_20 rfl rfl (by omega) (by decide) ?_
  refine AW.iload_n (pc' := 22) d_C_go_21 rfl rfl rfl ?_
  refine AW.icmp_ne (tgt := 35) (pc' := 25) d_C_go_22 (by decide) rfl (fun h22 => ?_) (fun h => absurd h hq)
  refine AW.aload_n (pc' := 36) d_C_go_35 rfl rfl rfl ?_
  refine AW.iload_n (pc' := 37) d_C_go_36 rfl rfl rfl ?_
  exact AW.cVx d_C_go_37 cv_C_119 (by decide) rfl rfl rfl (c_reqOpen_no X z k o s (by omega) hop) rfl rfl rfl rfl rfl rfl rfl ⟨rfl, rfl⟩
theorem c_go_5 (X : ct_X) (z : S_c) (k : S_m) (o : Nat → Int64) (p : Nat) (hj : p < c_np z) (hnp : c_np z ≤ 40) (s : Nat) (hs : s < c_ns z) (hn : c_ns z ≤ 20) (h : ¬ c_sop z p = -1) (hq : ¬ c_sop z p = nI s) (hop : ¬ c_opn z s = 0) (hc : c_sec z ≤ 99999) (hL : Led z) (hR : Ring z) : AF X m_C_go 7 0 0 [.ref 0, .int (nI (p)), .int (nI (s))] (wL z k o) (.inl none) (wL (f_come z p s) k o) := by
  refine AM.of rfl (Nat.le_of_ble_eq_true rfl) (ls := [some (.ref 0), some (.int (nI (p))), some (.int (nI (s)))]) rfl ?_
  refine AW.aload_n (pc' := 1) d_C_go_0 rfl rfl rfl ?_
  refine AW.iload_n (pc' := 2) d_C_go_1 rfl rfl rfl ?_
  refine AW.cV (pc' := 5) d_C_go_2 rfl cv_C_85 (by decide) rfl rfl rfl (c_reqPerson_ok X z k o p hj (by omega)) rfl rfl rfl rfl rfl rfl rfl ?_
  refine AW.aload_n (pc' := 6) d_C_go_5 rfl rfl rfl ?_
  refine AW.iload_n (pc' := 7) d_C_go_6 rfl rfl rfl ?_
  refine AW.cV (pc' := 10) d_C_go_7 rfl cv_C_114 (by decide) rfl rfl rfl (c_reqSector_ok X z k o s hs (by omega)) rfl rfl rfl rfl rfl rfl rfl ?_
  refine AW.aload_n (pc' := 11) d_C_go_10 rfl rfl rfl ?_
  refine AW.iload_n (pc' := 12) d_C_go_11 rfl rfl rfl ?_
  refine AW.cV (pc' := 15) d_C_go_12 rfl cv_C_105 (by decide) rfl rfl rfl (c_reqThere_ok X z k o p (by omega) h) rfl rfl rfl rfl rfl rfl rfl ?_
  refine AW.aload_n (pc' := 16) d_C_go_15 rfl rfl rfl ?_
  refine AW.getf (pc' := 19) d_C_go_16 rfl fl_C_20 rfl rfl ?_
  refine AW.iload_n (pc' := 20) d_C_go_19 rfl rfl rfl ?_
  refine AW.ialdN (pc' := 21) d_C_go_20 rfl rfl (by omega) (by decide) ?_
  refine AW.iload_n (pc' := 22) d_C_go_21 rfl rfl rfl ?_
  refine AW.icmp_ne (tgt := 35) (pc' := 25) d_C_go_22 (by decide) rfl (fun h22 => ?_) (fun h => absurd h hq)
  refine AW.aload_n (pc' := 36) d_C_go_35 rfl rfl rfl ?_
  refine AW.iload_n (pc' := 37) d_C_go_36 rfl rfl rfl ?_
  refine AW.cV (pc' := 40) d_C_go_37 rfl cv_C_119 (by decide) rfl rfl rfl (c_reqOpen_ok X z k o s (by omega) hop) rfl rfl rfl rfl rfl rfl rfl ?_
  refine AW.aload_n (pc' := 41) d_C_go_40 rfl rfl rfl ?_
  refine AW.iload_n (pc' := 42) d_C_go_41 rfl rfl rfl ?_
  refine AW.iload_n (pc' := 43) d_C_go_42 rfl rfl rfl ?_
  refine AW.cV (pc' := 46) d_C_go_43 rfl cv_C_101 (by decide) rfl rfl rfl (c_come X z k o p s (by omega) (by omega) hnp hn hc hL hR) rfl rfl rfl rfl rfl rfl rfl ?_
  exact AW.vret d_C_go_46 rfl rfl rfl ⟨rfl, rfl⟩
theorem c_place_0 (X : ct_X) (z : S_c) (k : S_m) (o : Nat → Int64) (x y : Int32) (hx : x < 0 ∨ nI (c_nu z) ≤ x) : AF X m_C_place 7 0 0 [.ref 0, .int (x), .int (y)] (wL z k o) (.inr 2) (wL z k o) := by
  refine AM.of rfl (Nat.le_of_ble_eq_true rfl) (ls := [some (.ref 0), some (.int (x)), some (.int (y))]) rfl ?_
  refine AW.aload_n (pc' := 1) d_C_place_0 rfl rfl rfl ?_
  refine AW.iload_n (pc' := 2) d_C_place_1 rfl rfl rfl ?_
  exact AW.cVx d_C_place_2 cv_C_122 (by decide) rfl rfl rfl (c_reqUnit_no X z k o x hx) rfl rfl rfl rfl rfl rfl rfl ⟨rfl, rfl⟩
theorem c_place_1 (X : ct_X) (z : S_c) (k : S_m) (o : Nat → Int64) (u : Nat) (hu : u < c_nu z) (hnu : c_nu z ≤ 20) (x : Int32) (hm : ¬ x = -1) (hx : x < 0 ∨ nI (c_ns z) ≤ x) : AF X m_C_place 7 0 0 [.ref 0, .int (nI (u)), .int (x)] (wL z k o) (.inr 2) (wL z k o) := by
  refine AM.of rfl (Nat.le_of_ble_eq_true rfl) (ls := [some (.ref 0), some (.int (nI (u))), some (.int (x))]) rfl ?_
  refine AW.aload_n (pc' := 1) d_C_place_0 rfl rfl rfl ?_
  refine AW.iload_n (pc' := 2) d_C_place_1 rfl rfl rfl ?_
  refine AW.cV (pc' := 5) d_C_place_2 rfl cv_C_122 (by decide) rfl rfl rfl (c_reqUnit_ok X z k o u hu (by omega)) rfl rfl rfl rfl rfl rfl rfl ?_
  refine AW.iload_n (pc' := 6) d_C_place_5 rfl rfl rfl ?_
  refine AW.iconst (pc' := 7) (v := (-1)) d_C_place_6 rfl (by decide) ?_
  refine AW.icmp_eq (tgt := 15) (pc' := 10) d_C_place_7 (by decide) rfl (fun h => absurd h hm) (fun h7 => ?_)
  refine AW.aload_n (pc' := 11) d_C_place_10 rfl rfl rfl ?_
  refine AW.iload_n (pc' := 12) d_C_place_11 rfl rfl rfl ?_
  exact AW.cVx d_C_place_12 cv_C_114 (by decide) rfl rfl rfl (c_reqSector_no X z k o x hx) rfl rfl rfl rfl rfl rfl rfl ⟨rfl, rfl⟩
theorem c_place_2 (X : ct_X) (z : S_c) (k : S_m) (o : Nat → Int64) (u : Nat) (hu : u < c_nu z) (hnu : c_nu z ≤ 20) (hq : c_sou z u = -1) : AF X m_C_place 7 0 0 [.ref 0, .int (nI (u)), .int ((-1))] (wL z k o) (.inr 3) (wL z k o) := by
  refine AM.of rfl (Nat.le_of_ble_eq_true rfl) (ls := [some (.ref 0), some (.int (nI (u))), some (.int ((-1)))]) rfl ?_
  refine AW.aload_n (pc' := 1) d_C_place_0 rfl rfl rfl ?_
  refine AW.iload_n (pc' := 2) d_C_place_1 rfl rfl rfl ?_
  refine AW.cV (pc' := 5) d_C_place_2 rfl cv_C_122 (by decide) rfl rfl rfl (c_reqUnit_ok X z k o u hu (by omega)) rfl rfl rfl rfl rfl rfl rfl ?_
  refine AW.iload_n (pc' := 6) d_C_place_5 rfl rfl rfl ?_
  refine AW.iconst (pc' := 7) (v := (-1)) d_C_place_6 rfl (by decide) ?_
  refine AW.icmp_eq (tgt := 15) (pc' := 10) d_C_place_7 (by decide) rfl (fun h7 => ?_) (fun h => absurd rfl h)
  refine AW.aload_n (pc' := 16) d_C_place_15 rfl rfl rfl ?_
  refine AW.getf (pc' := 19) d_C_place_16 rfl fl_C_32 rfl rfl ?_
  refine AW.iload_n (pc' := 20) d_C_place_19 rfl rfl rfl ?_
  refine AW.ialdN (pc' := 21) d_C_place_20 rfl rfl (by omega) (by decide) ?_
  refine AW.iload_n (pc' := 22) d_C_place_21 rfl rfl rfl ?_
  refine AW.icmp_ne (tgt := 35) (pc' := 25) d_C_place_22 (by decide) rfl (fun h => absurd hq h) (fun h22 => ?_)
  exact AW.throwS (x := 3) d_C_place_25 d_C_place_28 d_C_place_29 d_C_place_31 d_C_place_34 cl_C_93 ini_java_lang_IllegalStateException sr_C_125 thr_3 rfl (by decide) rfl rfl rfl ⟨rfl, rfl⟩
theorem c_place_3 (X : ct_X) (z : S_c) (k : S_m) (o : Nat → Int64) (u : Nat) (hu : u < c_nu z) (hnu : c_nu z ≤ 20) (hq : ¬ c_sou z u = -1) : AF X m_C_place 7 0 0 [.ref 0, .int (nI (u)), .int ((-1))] (wL z k o) (.inl none) (wL (c_sou_ z (upd (c_sou z) u (-1))) k o) := by
  refine AM.of rfl (Nat.le_of_ble_eq_true rfl) (ls := [some (.ref 0), some (.int (nI (u))), some (.int ((-1)))]) rfl ?_
  refine AW.aload_n (pc' := 1) d_C_place_0 rfl rfl rfl ?_
  refine AW.iload_n (pc' := 2) d_C_place_1 rfl rfl rfl ?_
  refine AW.cV (pc' := 5) d_C_place_2 rfl cv_C_122 (by decide) rfl rfl rfl (c_reqUnit_ok X z k o u hu (by omega)) rfl rfl rfl rfl rfl rfl rfl ?_
  refine AW.iload_n (pc' := 6) d_C_place_5 rfl rfl rfl ?_
  refine AW.iconst (pc' := 7) (v := (-1)) d_C_place_6 rfl (by decide) ?_
  refine AW.icmp_eq (tgt := 15) (pc' := 10) d_C_place_7 (by decide) rfl (fun h7 => ?_) (fun h => absurd rfl h)
  refine AW.aload_n (pc' := 16) d_C_place_15 rfl rfl rfl ?_
  refine AW.getf (pc' := 19) d_C_place_16 rfl fl_C_32 rfl rfl ?_
  refine AW.iload_n (pc' := 20) d_C_place_19 rfl rfl rfl ?_
  refine AW.ialdN (pc' := 21) d_C_place_20 rfl rfl (by omega) (by decide) ?_
  refine AW.iload_n (pc' := 22) d_C_place_21 rfl rfl rfl ?_
  refine AW.icmp_ne (tgt := 35) (pc' := 25) d_C_place_22 (by decide) rfl (fun h22 => ?_) (fun h => absurd h hq)
  refine AW.iload_n (pc' := 36) d_C_place_35 rfl rfl rfl ?_
  refine AW.iconst (pc' := 37) (v := (-1)) d_C_place_36 rfl (by decide) ?_
  refine AW.icmp_eq (tgt := 45) (pc' := 40) d_C_place_37 (by decide) rfl (fun h37 => ?_) (fun h => absurd rfl h)
  refine AW.aload_n (pc' := 46) d_C_place_45 rfl rfl rfl ?_
  refine AW.getf (pc' := 49) d_C_place_46 rfl fl_C_32 rfl rfl ?_
  refine AW.iload_n (pc' := 50) d_C_place_49 rfl rfl rfl ?_
  refine AW.iload_n (pc' := 51) d_C_place_50 rfl rfl rfl ?_
  refine AW.iastN (pc' := 52) (w' := (wL (c_sou_ z (upd (c_sou z) u ((-1)))) k o)) d_C_place_51 rfl rfl (by omega) (by decide) rfl ?_
  exact AW.vret d_C_place_52 rfl rfl rfl ⟨rfl, rfl⟩
theorem c_place_4 (X : ct_X) (z : S_c) (k : S_m) (o : Nat → Int64) (u : Nat) (hu : u < c_nu z) (hnu : c_nu z ≤ 20) (s : Nat) (hs : s < c_ns z) (hn : c_ns z ≤ 20) (hq : c_sou z u = nI s) : AF X m_C_place 7 0 0 [.ref 0, .int (nI (u)), .int (nI (s))] (wL z k o) (.inr 3) (wL z k o) := by
  refine AM.of rfl (Nat.le_of_ble_eq_true rfl) (ls := [some (.ref 0), some (.int (nI (u))), some (.int (nI (s)))]) rfl ?_
  refine AW.aload_n (pc' := 1) d_C_place_0 rfl rfl rfl ?_
  refine AW.iload_n (pc' := 2) d_C_place_1 rfl rfl rfl ?_
  refine AW.cV (pc' := 5) d_C_place_2 rfl cv_C_122 (by decide) rfl rfl rfl (c_reqUnit_ok X z k o u hu (by omega)) rfl rfl rfl rfl rfl rfl rfl ?_
  refine AW.iload_n (pc' := 6) d_C_place_5 rfl rfl rfl ?_
  refine AW.iconst (pc' := 7) (v := (-1)) d_C_place_6 rfl (by decide) ?_
  refine AW.icmp_eq (tgt := 15) (pc' := 10) d_C_place_7 (by decide) rfl (fun h => absurd h (oI_ne (by omega))) (fun h7 => ?_)
  refine AW.aload_n (pc' := 11) d_C_place_10 rfl rfl rfl ?_
  refine AW.iload_n (pc' := 12) d_C_place_11 rfl rfl rfl ?_
  refine AW.cV (pc' := 15) d_C_place_12 rfl cv_C_114 (by decide) rfl rfl rfl (c_reqSector_ok X z k o s hs (by omega)) rfl rfl rfl rfl rfl rfl rfl ?_
  refine AW.aload_n (pc' := 16) d_C_place_15 rfl rfl rfl ?_
  refine AW.getf (pc' := 19) d_C_place_16 rfl fl_C_32 rfl rfl ?_
  refine AW.iload_n (pc' := 20) d_C_place_19 rfl rfl rfl ?_
  refine AW.ialdN (pc' := 21) d_C_place_20 rfl rfl (by omega) (by decide) ?_
  refine AW.iload_n (pc' := 22) d_C_place_21 rfl rfl rfl ?_
  refine AW.icmp_ne (tgt := 35) (pc' := 25) d_C_place_22 (by decide) rfl (fun h => absurd hq h) (fun h22 => ?_)
  exact AW.throwS (x := 3) d_C_place_25 d_C_place_28 d_C_place_29 d_C_place_31 d_C_place_34 cl_C_93 ini_java_lang_IllegalStateException sr_C_125 thr_3 rfl (by decide) rfl rfl rfl ⟨rfl, rfl⟩
theorem c_place_5 (X : ct_X) (z : S_c) (k : S_m) (o : Nat → Int64) (u : Nat) (hu : u < c_nu z) (hnu : c_nu z ≤ 20) (s : Nat) (hs : s < c_ns z) (hn : c_ns z ≤ 20) (hq : ¬ c_sou z u = nI s) (hop : c_opn z s = 0) : AF X m_C_place 7 0 0 [.ref 0, .int (nI (u)), .int (nI (s))] (wL z k o) (.inr 3) (wL z k o) := by
  refine AM.of rfl (Nat.le_of_ble_eq_true rfl) (ls := [some (.ref 0), some (.int (nI (u))), some (.int (nI (s)))]) rfl ?_
  refine AW.aload_n (pc' := 1) d_C_place_0 rfl rfl rfl ?_
  refine AW.iload_n (pc' := 2) d_C_place_1 rfl rfl rfl ?_
  refine AW.cV (pc' := 5) d_C_place_2 rfl cv_C_122 (by decide) rfl rfl rfl (c_reqUnit_ok X z k o u hu (by omega)) rfl rfl rfl rfl rfl rfl rfl ?_
  refine AW.iload_n (pc' := 6) d_C_place_5 rfl rfl rfl ?_
  refine AW.iconst (pc' := 7) (v := (-1)) d_C_place_6 rfl (by decide) ?_
  refine AW.icmp_eq (tgt := 15) (pc' := 10) d_C_place_7 (by decide) rfl (fun h => absurd h (oI_ne (by omega))) (fun h7 => ?_)
  refine AW.aload_n (pc' := 11) d_C_place_10 rfl rfl rfl ?_
  refine AW.iload_n (pc' := 12) d_C_place_11 rfl rfl rfl ?_
  refine AW.cV (pc' := 15) d_C_place_12 rfl cv_C_114 (by decide) rfl rfl rfl (c_reqSector_ok X z k o s hs (by omega)) rfl rfl rfl rfl rfl rfl rfl ?_
  refine AW.aload_n (pc' := 16) d_C_place_15 rfl rfl rfl ?_
  refine AW.getf (pc' := 19) d_C_place_16 rfl fl_C_32 rfl rfl ?_
  refine AW.iload_n (pc' := 20) d_C_place_19 rfl rfl rfl ?_
  refine AW.ialdN (pc' := 21) d_C_place_20 rfl rfl (by omega) (by decide) ?_
  refine AW.iload_n (pc' := 22) d_C_place_21 rfl rfl rfl ?_
  refine AW.icmp_ne (tgt := 35) (pc' := 25) d_C_place_22 (by decide) rfl (fun h22 => ?_) (fun h => absurd h hq)
  refine AW.iload_n (pc' := 36) d_C_place_35 rfl rfl rfl ?_
  refine AW.iconst (pc' := 37) (v := (-1)) d_C_place_36 rfl (by decide) ?_
  refine AW.icmp_eq (tgt := 45) (pc' := 40) d_C_place_37 (by decide) rfl (fun h => absurd h (oI_ne (by omega))) (fun h37 => ?_)
  refine AW.aload_n (pc' := 41) d_C_place_40 rfl rfl rfl ?_
  refine AW.iload_n (pc' := 42) d_C_place_41 rfl rfl rfl ?_
  exact AW.cVx d_C_place_42 cv_C_119 (by decide) rfl rfl rfl (c_reqOpen_no X z k o s (by omega) hop) rfl rfl rfl rfl rfl rfl rfl ⟨rfl, rfl⟩
theorem c_place_6 (X : ct_X) (z : S_c) (k : S_m) (o : Nat → Int64) (u : Nat) (hu : u < c_nu z) (hnu : c_nu z ≤ 20) (s : Nat) (hs : s < c_ns z) (hn : c_ns z ≤ 20) (hq : ¬ c_sou z u = nI s) (hop : ¬ c_opn z s = 0) : AF X m_C_place 7 0 0 [.ref 0, .int (nI (u)), .int (nI (s))] (wL z k o) (.inl none) (wL (c_sou_ z (upd (c_sou z) u (nI s))) k o) := by
  refine AM.of rfl (Nat.le_of_ble_eq_true rfl) (ls := [some (.ref 0), some (.int (nI (u))), some (.int (nI (s)))]) rfl ?_
  refine AW.aload_n (pc' := 1) d_C_place_0 rfl rfl rfl ?_
  refine AW.iload_n (pc' := 2) d_C_place_1 rfl rfl rfl ?_
  refine AW.cV (pc' := 5) d_C_place_2 rfl cv_C_122 (by decide) rfl rfl rfl (c_reqUnit_ok X z k o u hu (by omega)) rfl rfl rfl rfl rfl rfl rfl ?_
  refine AW.iload_n (pc' := 6) d_C_place_5 rfl rfl rfl ?_
  refine AW.iconst (pc' := 7) (v := (-1)) d_C_place_6 rfl (by decide) ?_
  refine AW.icmp_eq (tgt := 15) (pc' := 10) d_C_place_7 (by decide) rfl (fun h => absurd h (oI_ne (by omega))) (fun h7 => ?_)
  refine AW.aload_n (pc' := 11) d_C_place_10 rfl rfl rfl ?_
  refine AW.iload_n (pc' := 12) d_C_place_11 rfl rfl rfl ?_
  refine AW.cV (pc' := 15) d_C_place_12 rfl cv_C_114 (by decide) rfl rfl rfl (c_reqSector_ok X z k o s hs (by omega)) rfl rfl rfl rfl rfl rfl rfl ?_
  refine AW.aload_n (pc' := 16) d_C_place_15 rfl rfl rfl ?_
  refine AW.getf (pc' := 19) d_C_place_16 rfl fl_C_32 rfl rfl ?_
  refine AW.iload_n (pc' := 20) d_C_place_19 rfl rfl rfl ?_
  refine AW.ialdN (pc' := 21) d_C_place_20 rfl rfl (by omega) (by decide) ?_
  refine AW.iload_n (pc' := 22) d_C_place_21 rfl rfl rfl ?_
  refine AW.icmp_ne (tgt := 35) (pc' := 25) d_C_place_22 (by decide) rfl (fun h22 => ?_) (fun h => absurd h hq)
  refine AW.iload_n (pc' := 36) d_C_place_35 rfl rfl rfl ?_
  refine AW.iconst (pc' := 37) (v := (-1)) d_C_place_36 rfl (by decide) ?_
  refine AW.icmp_eq (tgt := 45) (pc' := 40) d_C_place_37 (by decide) rfl (fun h => absurd h (oI_ne (by omega))) (fun h37 => ?_)
  refine AW.aload_n (pc' := 41) d_C_place_40 rfl rfl rfl ?_
  refine AW.iload_n (pc' := 42) d_C_place_41 rfl rfl rfl ?_
  refine AW.cV (pc' := 45) d_C_place_42 rfl cv_C_119 (by decide) rfl rfl rfl (c_reqOpen_ok X z k o s (by omega) hop) rfl rfl rfl rfl rfl rfl rfl ?_
  refine AW.aload_n (pc' := 46) d_C_place_45 rfl rfl rfl ?_
  refine AW.getf (pc' := 49) d_C_place_46 rfl fl_C_32 rfl rfl ?_
  refine AW.iload_n (pc' := 50) d_C_place_49 rfl rfl rfl ?_
  refine AW.iload_n (pc' := 51) d_C_place_50 rfl rfl rfl ?_
  refine AW.iastN (pc' := 52) (w' := (wL (c_sou_ z (upd (c_sou z) u (nI (s)))) k o)) d_C_place_51 rfl rfl (by omega) (by decide) rfl ?_
  exact AW.vret d_C_place_52 rfl rfl rfl ⟨rfl, rfl⟩
theorem c_split_0 (X : ct_X) (z : S_c) (k : S_m) (o : Nat → Int64) (x : Int32) (hx : x < 0 ∨ nI (c_ns z) ≤ x) : AF X m_C_split 7 0 0 [.ref 0, .int (x)] (wL z k o) (.inr 2) (wL z k o) := by
  refine AM.of rfl (Nat.le_of_ble_eq_true rfl) (ls := [some (.ref 0), some (.int (x)), none]) rfl ?_
  refine AW.aload_n (pc' := 1) d_C_split_0 rfl rfl rfl ?_
  refine AW.iload_n (pc' := 2) d_C_split_1 rfl rfl rfl ?_
  exact AW.cVx d_C_split_2 cv_C_114 (by decide) rfl rfl rfl (c_reqSector_no X z k o x hx) rfl rfl rfl rfl rfl rfl rfl ⟨rfl, rfl⟩
theorem c_split_1 (X : ct_X) (z : S_c) (k : S_m) (o : Nat → Int64) (s : Nat) (hs : s < c_ns z) (hn : c_ns z ≤ 20) (hop : c_opn z s = 0) : AF X m_C_split 7 0 0 [.ref 0, .int (nI (s))] (wL z k o) (.inr 3) (wL z k o) := by
  refine AM.of rfl (Nat.le_of_ble_eq_true rfl) (ls := [some (.ref 0), some (.int (nI (s))), none]) rfl ?_
  refine AW.aload_n (pc' := 1) d_C_split_0 rfl rfl rfl ?_
  refine AW.iload_n (pc' := 2) d_C_split_1 rfl rfl rfl ?_
  refine AW.cV (pc' := 5) d_C_split_2 rfl cv_C_114 (by decide) rfl rfl rfl (c_reqSector_ok X z k o s hs (by omega)) rfl rfl rfl rfl rfl rfl rfl ?_
  refine AW.aload_n (pc' := 6) d_C_split_5 rfl rfl rfl ?_
  refine AW.iload_n (pc' := 7) d_C_split_6 rfl rfl rfl ?_
  exact AW.cVx d_C_split_7 cv_C_119 (by decide) rfl rfl rfl (c_reqOpen_no X z k o s (by omega) hop) rfl rfl rfl rfl rfl rfl rfl ⟨rfl, rfl⟩
theorem c_split_2 (X : ct_X) (z : S_c) (k : S_m) (o : Nat → Int64) (s : Nat) (hs : s < c_ns z) (hn : c_ns z ≤ 20) (hop : ¬ c_opn z s = 0) (h : 20 ≤ c_ns z) : AF X m_C_split 7 0 0 [.ref 0, .int (nI (s))] (wL z k o) (.inr 1) (wL z k o) := by
  refine AM.of rfl (Nat.le_of_ble_eq_true rfl) (ls := [some (.ref 0), some (.int (nI (s))), none]) rfl ?_
  refine AW.aload_n (pc' := 1) d_C_split_0 rfl rfl rfl ?_
  refine AW.iload_n (pc' := 2) d_C_split_1 rfl rfl rfl ?_
  refine AW.cV (pc' := 5) d_C_split_2 rfl cv_C_114 (by decide) rfl rfl rfl (c_reqSector_ok X z k o s hs (by omega)) rfl rfl rfl rfl rfl rfl rfl ?_
  refine AW.aload_n (pc' := 6) d_C_split_5 rfl rfl rfl ?_
  refine AW.iload_n (pc' := 7) d_C_split_6 rfl rfl rfl ?_
  refine AW.cV (pc' := 10) d_C_split_7 rfl cv_C_119 (by decide) rfl rfl rfl (c_reqOpen_ok X z k o s (by omega) hop) rfl rfl rfl rfl rfl rfl rfl ?_
  refine AW.aload_n (pc' := 11) d_C_split_10 rfl rfl rfl ?_
  refine AW.getf (pc' := 14) d_C_split_11 rfl fl_C_48 rfl rfl ?_
  refine AW.bipush (pc' := 16) (v := nI 20) d_C_split_14 rfl (by decide) ?_
  refine AW.icmp_ltN (tgt := 29) (pc' := 19) d_C_split_16 (by decide) rfl (by omega) (by omega) (fun h => absurd h (by omega)) (fun h16 => ?_)
  exact AW.throwS (x := 1) d_C_split_19 d_C_split_22 d_C_split_23 d_C_split_25 d_C_split_28 cl_C_75 ini_java_lang_UnsupportedOperationException sr_C_127 thr_1 rfl (by decide) rfl rfl rfl ⟨rfl, rfl⟩
theorem c_split_3 (X : ct_X) (z : S_c) (k : S_m) (o : Nat → Int64) (s : Nat) (hs : s < c_ns z) (hn : c_ns z ≤ 20) (hop : ¬ c_opn z s = 0) (h : c_ns z < 20) : AF X m_C_split 7 0 0 [.ref 0, .int (nI (s))] (wL z k o) (.inl (some (.int (nI (c_ns z))))) (wL (c_ns_ (c_abv_ (c_opn_ z (upd (c_opn z) (c_ns z) (nI 1))) (upd (c_abv z) (c_ns z) (nI s))) (c_ns z + 1)) k o) := by
  refine AM.of rfl (Nat.le_of_ble_eq_true rfl) (ls := [some (.ref 0), some (.int (nI (s))), none]) rfl ?_
  refine AW.aload_n (pc' := 1) d_C_split_0 rfl rfl rfl ?_
  refine AW.iload_n (pc' := 2) d_C_split_1 rfl rfl rfl ?_
  refine AW.cV (pc' := 5) d_C_split_2 rfl cv_C_114 (by decide) rfl rfl rfl (c_reqSector_ok X z k o s hs (by omega)) rfl rfl rfl rfl rfl rfl rfl ?_
  refine AW.aload_n (pc' := 6) d_C_split_5 rfl rfl rfl ?_
  refine AW.iload_n (pc' := 7) d_C_split_6 rfl rfl rfl ?_
  refine AW.cV (pc' := 10) d_C_split_7 rfl cv_C_119 (by decide) rfl rfl rfl (c_reqOpen_ok X z k o s (by omega) hop) rfl rfl rfl rfl rfl rfl rfl ?_
  refine AW.aload_n (pc' := 11) d_C_split_10 rfl rfl rfl ?_
  refine AW.getf (pc' := 14) d_C_split_11 rfl fl_C_48 rfl rfl ?_
  refine AW.bipush (pc' := 16) (v := nI 20) d_C_split_14 rfl (by decide) ?_
  refine AW.icmp_ltN (tgt := 29) (pc' := 19) d_C_split_16 (by decide) rfl (by omega) (by omega) (fun h16 => ?_) (fun h => absurd h (by omega))
  refine AW.aload_n (pc' := 30) d_C_split_29 rfl rfl rfl ?_
  refine AW.getf (pc' := 33) d_C_split_30 rfl fl_C_48 rfl rfl ?_
  refine AW.istore_n (pc' := 34) (ls' := [some (.ref 0), some (.int (nI (s))), some (.int (nI (c_ns z)))]) d_C_split_33 rfl rfl rfl rfl ?_
  refine AW.aload_n (pc' := 35) d_C_split_34 rfl rfl rfl ?_
  refine AW.getf (pc' := 38) d_C_split_35 rfl fl_C_35 rfl rfl ?_
  refine AW.iload_n (pc' := 39) d_C_split_38 rfl rfl rfl ?_
  refine AW.iconst (pc' := 40) (v := nI 1) d_C_split_39 rfl (by decide) ?_
  refine AW.zastN (pc' := 41) (w' := (wL (c_opn_ z (upd (c_opn z) (c_ns z) (nI (1)))) k o)) d_C_split_40 rfl rfl (by omega) (by decide) (by decide) rfl ?_
  refine AW.aload_n (pc' := 42) d_C_split_41 rfl rfl rfl ?_
  refine AW.getf (pc' := 45) d_C_split_42 rfl fl_C_39 rfl rfl ?_
  refine AW.iload_n (pc' := 46) d_C_split_45 rfl rfl rfl ?_
  refine AW.iload_n (pc' := 47) d_C_split_46 rfl rfl rfl ?_
  refine AW.iastN (pc' := 48) (w' := (wL (c_abv_ (c_opn_ z (upd (c_opn z) (c_ns z) (nI (1)))) (upd (c_abv z) (c_ns z) (nI (s)))) k o)) d_C_split_47 rfl rfl (by omega) (by decide) rfl ?_
  refine AW.aload_n (pc' := 49) d_C_split_48 rfl rfl rfl ?_
  refine AW.dup (pc' := 50) d_C_split_49 rfl rfl ?_
  refine AW.getf (pc' := 53) d_C_split_50 rfl fl_C_48 rfl rfl ?_
  refine AW.top (u := .int (nI (c_ns z))) rfl ?_
  refine AW.iconst (pc' := 54) (v := nI 1) d_C_split_53 rfl (by decide) ?_
  refine AW.iaddN (pc' := 55) d_C_split_54 rfl ?_
  refine AW.putf (pc' := 58) (w' := (wL (c_ns_ (c_abv_ (c_opn_ z (upd (c_opn z) (c_ns z) (nI (1)))) (upd (c_abv z) (c_ns z) (nI (s)))) ((c_ns z) + 1)) k o)) d_C_split_55 rfl fp_C_48 rfl rfl (fun _ => ⟨rfl, rfl⟩) rfl rfl ?_
  refine AW.iload_n (pc' := 59) d_C_split_58 rfl rfl rfl ?_
  exact AW.iret d_C_split_59 rfl rfl rfl ⟨rfl, rfl⟩
theorem c_clock (X : ct_X) (z : S_c) (k : S_m) (o : Nat → Int64)  : AF X m_C_clock 7 0 0 [.ref 0] (wL z k o) (.inl (some (.int (nI (c_sec z))))) (wL z k o) := by
  refine AM.of rfl (Nat.le_of_ble_eq_true rfl) (ls := [some (.ref 0)]) rfl ?_
  refine AW.aload_n (pc' := 1) d_C_clock_0 rfl rfl rfl ?_
  refine AW.getf (pc' := 4) d_C_clock_1 rfl fl_C_98 rfl rfl ?_
  exact AW.iret d_C_clock_4 rfl rfl rfl ⟨rfl, rfl⟩
end
section
/-! THE REST OF THE CLASS'S PUBLIC METHODS, case by case (rows printed by wip/whole/m6.py) -/
/-- the sector's leader goes -/
def f_unl (z : S_c) (s : Nat) : S_c := match io (c_ldr z s) with
  | none => z
  | some q => f_set1 z s (some q) none
theorem unl_core (z : S_c) (s : Nat) : core (f_unl z s) = match io (c_ldr z s) with
  | none => core z
  | some q => core (f_set1 z s (some q) none) := by
  unfold f_unl
  split <;> rfl
theorem unl_ns (z : S_c) (s : Nat) : c_ns (f_unl z s) = c_ns z := by
  unfold f_unl
  split
  · rfl
  · exact set1_ns _ _ _ _
theorem unl_np (z : S_c) (s : Nat) : c_np (f_unl z s) = c_np z := by
  unfold f_unl
  split
  · rfl
  · exact set1_np _ _ _ _
theorem set1_nu (z : S_c) (s : Nat) (f p : Option Nat) : c_nu (f_set1 z s f p) = c_nu z := congrArg (fun q => q.1.2.2.2.1) (core_set1 z s f p)
theorem set1_tn (z : S_c) (s : Nat) (f p : Option Nat) : t_n (f_set1 z s f p) = t_n z := congrArg (fun q => q.1.2.2.2.2.2) (core_set1 z s f p)
theorem unl_nu (z : S_c) (s : Nat) : c_nu (f_unl z s) = c_nu z := by
  unfold f_unl
  split
  · rfl
  · exact set1_nu _ _ _ _
theorem unl_tn (z : S_c) (s : Nat) : t_n (f_unl z s) = t_n z := by
  unfold f_unl
  split
  · rfl
  · exact set1_tn _ _ _ _
theorem unl_ring {z : S_c} {s : Nat} (hR : Ring z) (hc : c_sec z ≤ 99999) (hs : s < 20) : Ring (f_unl z s) := by
  unfold f_unl
  split
  · exact hR
  · exact ring_set1 hR hc hs
theorem c_unl (X : ct_X) (z : S_c) (k : S_m) (o : Nat → Int64) (s : Nat) (hs : s < 20) (hn : c_ns z ≤ 20) (hl : okO 40 (c_ldr z s)) (hR : Ring z) : AF X m_C_setLeader 3 0 0 [.ref 0, .int (nI s), .int (-1)] (wL z k o) (.inl none) (wL (f_unl z s) k o) := by
  rcases hl with h | ⟨q, hq, h⟩
  · have e : f_unl z s = z := by rw [f_unl, h, io_m]
    rw [e]
    exact c_set_eq X z k o s (-1) hs h
  · have e : f_unl z s = f_set1 z s (some q) none := by rw [f_unl, h, io_n (by omega)]
    rw [e]
    exact c_set_sn X z k o s q hq hs hn h hR
def f_fill (z : S_c) (b : Nat) : S_c := if c_ldr z b = -1 then (match f_next z (nI b) (c_np z) with
  | none => z
  | some r => f_set1 z b none (some r)) else z
theorem jn_fill (X : ct_X) (z : S_c) (k : S_m) (o : Nat → Int64) (a b : Nat) (hb : b < 20) (hn : c_ns z ≤ 20) (hnp : c_np z ≤ 40) (hR : Ring z) : AW X m_C_join 7 0 0 0 0 107 [some (.ref 0), some (.int (nI (a))), some (.int (nI (b)))] [] (wL z k o) (fun r w' => r = .inl none ∧ w' = wL (f_fill z b) k o) := by
  by_cases hx : c_ldr z b = -1
  · cases hq : f_next z (nI b) (c_np z) with
    | none =>
      have e : f_fill z b = z := by rw [f_fill, if_pos hx, hq]
      rw [e]
      refine AW.aload_n (pc' := 108) d_C_join_107 rfl rfl rfl ?_
      refine AW.getf (pc' := 111) d_C_join_108 rfl fl_C_42 rfl rfl ?_
      refine AW.iload_n (pc' := 112) d_C_join_111 rfl rfl rfl ?_
      refine AW.ialdN (pc' := 113) d_C_join_112 rfl rfl (by omega) (by decide) ?_
      refine AW.iconst (pc' := 114) (v := (-1)) d_C_join_113 rfl (by decide) ?_
      refine AW.icmp_ne (tgt := 127) (pc' := 117) d_C_join_114 (by decide) rfl (fun h => absurd hx h) (fun h114 => ?_)
      refine AW.aload_n (pc' := 118) d_C_join_117 rfl rfl rfl ?_
      refine AW.iload_n (pc' := 119) d_C_join_118 rfl rfl rfl ?_
      refine AW.aload_n (pc' := 120) d_C_join_119 rfl rfl rfl ?_
      refine AW.iload_n (pc' := 121) d_C_join_120 rfl rfl rfl ?_
      refine AW.cV (pc' := 124) d_C_join_121 rfl cv_C_150 (by decide) rfl rfl rfl (c_next X z k o (nI b) hnp) rfl rfl rfl rfl rfl rfl rfl ?_
      refine AW.top (u := .int ((-1))) (by rw [hq]; rfl) ?_
      refine AW.cV (pc' := 127) d_C_join_124 rfl cv_C_137 (by decide) rfl rfl rfl (c_set_eq X z k o b (-1) hb hx) rfl rfl rfl rfl rfl rfl rfl ?_
      exact AW.vret d_C_join_127 rfl rfl rfl ⟨rfl, rfl⟩
    | some r =>
      have hr := (f_next_lt hq).1
      have e : f_fill z b = f_set1 z b none (some r) := by rw [f_fill, if_pos hx, hq]
      rw [e]
      refine AW.aload_n (pc' := 108) d_C_join_107 rfl rfl rfl ?_
      refine AW.getf (pc' := 111) d_C_join_108 rfl fl_C_42 rfl rfl ?_
      refine AW.iload_n (pc' := 112) d_C_join_111 rfl rfl rfl ?_
      refine AW.ialdN (pc' := 113) d_C_join_112 rfl rfl (by omega) (by decide) ?_
      refine AW.iconst (pc' := 114) (v := (-1)) d_C_join_113 rfl (by decide) ?_
      refine AW.icmp_ne (tgt := 127) (pc' := 117) d_C_join_114 (by decide) rfl (fun h => absurd hx h) (fun h114 => ?_)
      refine AW.aload_n (pc' := 118) d_C_join_117 rfl rfl rfl ?_
      refine AW.iload_n (pc' := 119) d_C_join_118 rfl rfl rfl ?_
      refine AW.aload_n (pc' := 120) d_C_join_119 rfl rfl rfl ?_
      refine AW.iload_n (pc' := 121) d_C_join_120 rfl rfl rfl ?_
      refine AW.cV (pc' := 124) d_C_join_121 rfl cv_C_150 (by decide) rfl rfl rfl (c_next X z k o (nI b) hnp) rfl rfl rfl rfl rfl rfl rfl ?_
      refine AW.top (u := .int (nI (r))) (by rw [hq]; rfl) ?_
      refine AW.cV (pc' := 127) d_C_join_124 rfl cv_C_137 (by decide) rfl rfl rfl (c_set_ns X z k o b r (by omega) hb hn hx hR) rfl rfl rfl rfl rfl rfl rfl ?_
      exact AW.vret d_C_join_127 rfl rfl rfl ⟨rfl, rfl⟩
  · have e : f_fill z b = z := by rw [f_fill, if_neg hx]
    rw [e]
    refine AW.aload_n (pc' := 108) d_C_join_107 rfl rfl rfl ?_
    refine AW.getf (pc' := 111) d_C_join_108 rfl fl_C_42 rfl rfl ?_
    refine AW.iload_n (pc' := 112) d_C_join_111 rfl rfl rfl ?_
    refine AW.ialdN (pc' := 113) d_C_join_112 rfl rfl (by omega) (by decide) ?_
    refine AW.iconst (pc' := 114) (v := (-1)) d_C_join_113 rfl (by decide) ?_
    refine AW.icmp_ne (tgt := 127) (pc' := 117) d_C_join_114 (by decide) rfl (fun h114 => ?_) (fun h => absurd h hx)
    exact AW.vret d_C_join_127 rfl rfl rfl ⟨rfl, rfl⟩
/-- what is in a goes to b -/
def f_mv (z : S_c) (a b : Nat) : S_c :=
  let z1 := c_opn_ z (upd (c_opn z) a (nI 0))
  let z2 := c_sop_ z1 (rep (c_sop z1) (nI a) (nI b) (c_np z1))
  let z3 := c_sou_ z2 (rep (c_sou z2) (nI a) (nI b) (c_nu z2))
  let z4 := c_abv_ z3 (f_move z3 (nI a) (nI b))
  t_sec_ z4 (f_give z4 (nI a) (nI b))
theorem c_join_0 (X : ct_X) (z : S_c) (k : S_m) (o : Nat → Int64) (x y : Int32) (hx : x < 0 ∨ nI (c_ns z) ≤ x) : AF X m_C_join 7 0 0 [.ref 0, .int (x), .int (y)] (wL z k o) (.inr 2) (wL z k o) := by
  refine AM.of rfl (Nat.le_of_ble_eq_true rfl) (ls := [some (.ref 0), some (.int (x)), some (.int (y))]) rfl ?_
  refine AW.aload_n (pc' := 1) d_C_join_0 rfl rfl rfl ?_
  refine AW.iload_n (pc' := 2) d_C_join_1 rfl rfl rfl ?_
  exact AW.cVx d_C_join_2 cv_C_114 (by decide) rfl rfl rfl (c_reqSector_no X z k o x hx) rfl rfl rfl rfl rfl rfl rfl ⟨rfl, rfl⟩
theorem c_join_1 (X : ct_X) (z : S_c) (k : S_m) (o : Nat → Int64) (a : Nat) (ha : a < c_ns z) (hn : c_ns z ≤ 20) (x : Int32) (hx : x < 0 ∨ nI (c_ns z) ≤ x) : AF X m_C_join 7 0 0 [.ref 0, .int (nI (a)), .int (x)] (wL z k o) (.inr 2) (wL z k o) := by
  refine AM.of rfl (Nat.le_of_ble_eq_true rfl) (ls := [some (.ref 0), some (.int (nI (a))), some (.int (x))]) rfl ?_
  refine AW.aload_n (pc' := 1) d_C_join_0 rfl rfl rfl ?_
  refine AW.iload_n (pc' := 2) d_C_join_1 rfl rfl rfl ?_
  refine AW.cV (pc' := 5) d_C_join_2 rfl cv_C_114 (by decide) rfl rfl rfl (c_reqSector_ok X z k o a ha (by omega)) rfl rfl rfl rfl rfl rfl rfl ?_
  refine AW.aload_n (pc' := 6) d_C_join_5 rfl rfl rfl ?_
  refine AW.iload_n (pc' := 7) d_C_join_6 rfl rfl rfl ?_
  exact AW.cVx d_C_join_7 cv_C_114 (by decide) rfl rfl rfl (c_reqSector_no X z k o x hx) rfl rfl rfl rfl rfl rfl rfl ⟨rfl, rfl⟩
theorem c_join_2 (X : ct_X) (z : S_c) (k : S_m) (o : Nat → Int64) (a : Nat) (ha : a < c_ns z) (hn : c_ns z ≤ 20) (b : Nat) (hb : b < c_ns z) (h1 : c_opn z a = 0) : AF X m_C_join 7 0 0 [.ref 0, .int (nI (a)), .int (nI (b))] (wL z k o) (.inr 3) (wL z k o) := by
  refine AM.of rfl (Nat.le_of_ble_eq_true rfl) (ls := [some (.ref 0), some (.int (nI (a))), some (.int (nI (b)))]) rfl ?_
  refine AW.aload_n (pc' := 1) d_C_join_0 rfl rfl rfl ?_
  refine AW.iload_n (pc' := 2) d_C_join_1 rfl rfl rfl ?_
  refine AW.cV (pc' := 5) d_C_join_2 rfl cv_C_114 (by decide) rfl rfl rfl (c_reqSector_ok X z k o a ha (by omega)) rfl rfl rfl rfl rfl rfl rfl ?_
  refine AW.aload_n (pc' := 6) d_C_join_5 rfl rfl rfl ?_
  refine AW.iload_n (pc' := 7) d_C_join_6 rfl rfl rfl ?_
  refine AW.cV (pc' := 10) d_C_join_7 rfl cv_C_114 (by decide) rfl rfl rfl (c_reqSector_ok X z k o b hb (by omega)) rfl rfl rfl rfl rfl rfl rfl ?_
  refine AW.aload_n (pc' := 11) d_C_join_10 rfl rfl rfl ?_
  refine AW.iload_n (pc' := 12) d_C_join_11 rfl rfl rfl ?_
  exact AW.cVx d_C_join_12 cv_C_119 (by decide) rfl rfl rfl (c_reqOpen_no X z k o a (by omega) h1) rfl rfl rfl rfl rfl rfl rfl ⟨rfl, rfl⟩
theorem c_join_3 (X : ct_X) (z : S_c) (k : S_m) (o : Nat → Int64) (a : Nat) (ha : a < c_ns z) (hn : c_ns z ≤ 20) (b : Nat) (hb : b < c_ns z) (h1 : ¬ c_opn z a = 0) (h2 : c_opn z b = 0) : AF X m_C_join 7 0 0 [.ref 0, .int (nI (a)), .int (nI (b))] (wL z k o) (.inr 3) (wL z k o) := by
  refine AM.of rfl (Nat.le_of_ble_eq_true rfl) (ls := [some (.ref 0), some (.int (nI (a))), some (.int (nI (b)))]) rfl ?_
  refine AW.aload_n (pc' := 1) d_C_join_0 rfl rfl rfl ?_
  refine AW.iload_n (pc' := 2) d_C_join_1 rfl rfl rfl ?_
  refine AW.cV (pc' := 5) d_C_join_2 rfl cv_C_114 (by decide) rfl rfl rfl (c_reqSector_ok X z k o a ha (by omega)) rfl rfl rfl rfl rfl rfl rfl ?_
  refine AW.aload_n (pc' := 6) d_C_join_5 rfl rfl rfl ?_
  refine AW.iload_n (pc' := 7) d_C_join_6 rfl rfl rfl ?_
  refine AW.cV (pc' := 10) d_C_join_7 rfl cv_C_114 (by decide) rfl rfl rfl (c_reqSector_ok X z k o b hb (by omega)) rfl rfl rfl rfl rfl rfl rfl ?_
  refine AW.aload_n (pc' := 11) d_C_join_10 rfl rfl rfl ?_
  refine AW.iload_n (pc' := 12) d_C_join_11 rfl rfl rfl ?_
  refine AW.cV (pc' := 15) d_C_join_12 rfl cv_C_119 (by decide) rfl rfl rfl (c_reqOpen_ok X z k o a (by omega) h1) rfl rfl rfl rfl rfl rfl rfl ?_
  refine AW.aload_n (pc' := 16) d_C_join_15 rfl rfl rfl ?_
  refine AW.iload_n (pc' := 17) d_C_join_16 rfl rfl rfl ?_
  exact AW.cVx d_C_join_17 cv_C_119 (by decide) rfl rfl rfl (c_reqOpen_no X z k o b (by omega) h2) rfl rfl rfl rfl rfl rfl rfl ⟨rfl, rfl⟩
theorem c_join_4 (X : ct_X) (z : S_c) (k : S_m) (o : Nat → Int64) (ha : 0 < c_ns z) (hn : c_ns z ≤ 20) (b : Nat) (hb : b < c_ns z) (h1 : ¬ c_opn z 0 = 0) (h2 : ¬ c_opn z b = 0) : AF X m_C_join 7 0 0 [.ref 0, .int (nI (0)), .int (nI (b))] (wL z k o) (.inr 3) (wL z k o) := by
  refine AM.of rfl (Nat.le_of_ble_eq_true rfl) (ls := [some (.ref 0), some (.int (nI (0))), some (.int (nI (b)))]) rfl ?_
  refine AW.aload_n (pc' := 1) d_C_join_0 rfl rfl rfl ?_
  refine AW.iload_n (pc' := 2) d_C_join_1 rfl rfl rfl ?_
  refine AW.cV (pc' := 5) d_C_join_2 rfl cv_C_114 (by decide) rfl rfl rfl (c_reqSector_ok X z k o 0 ha (by omega)) rfl rfl rfl rfl rfl rfl rfl ?_
  refine AW.aload_n (pc' := 6) d_C_join_5 rfl rfl rfl ?_
  refine AW.iload_n (pc' := 7) d_C_join_6 rfl rfl rfl ?_
  refine AW.cV (pc' := 10) d_C_join_7 rfl cv_C_114 (by decide) rfl rfl rfl (c_reqSector_ok X z k o b hb (by omega)) rfl rfl rfl rfl rfl rfl rfl ?_
  refine AW.aload_n (pc' := 11) d_C_join_10 rfl rfl rfl ?_
  refine AW.iload_n (pc' := 12) d_C_join_11 rfl rfl rfl ?_
  refine AW.cV (pc' := 15) d_C_join_12 rfl cv_C_119 (by decide) rfl rfl rfl (c_reqOpen_ok X z k o 0 (by omega) h1) rfl rfl rfl rfl rfl rfl rfl ?_
  refine AW.aload_n (pc' := 16) d_C_join_15 rfl rfl rfl ?_
  refine AW.iload_n (pc' := 17) d_C_join_16 rfl rfl rfl ?_
  refine AW.cV (pc' := 20) d_C_join_17 rfl cv_C_119 (by decide) rfl rfl rfl (c_reqOpen_ok X z k o b (by omega) h2) rfl rfl rfl rfl rfl rfl rfl ?_
  refine AW.iload_n (pc' := 21) d_C_join_20 rfl rfl rfl ?_
  refine AW.if_ne (tgt := 34) (pc' := 24) d_C_join_21 (by decide) rfl (fun h => absurd h (by decide)) (fun _ => ?_)
  exact AW.throwS (x := 3) d_C_join_24 d_C_join_27 d_C_join_28 d_C_join_30 d_C_join_33 cl_C_93 ini_java_lang_IllegalStateException sr_C_129 thr_3 rfl (by decide) rfl rfl rfl ⟨rfl, rfl⟩
theorem c_join_5 (X : ct_X) (z : S_c) (k : S_m) (o : Nat → Int64) (a : Nat) (ha : a < c_ns z) (hn : c_ns z ≤ 20) (b : Nat) (hb : b < c_ns z) (h1 : ¬ c_opn z a = 0) (h2 : ¬ c_opn z b = 0) (h0 : ¬ a = 0) (hab : ∀ j, j < 20 → okO 20 (c_abv z j)) (h3 : f_sob z a 20 (some b) = true) : AF X m_C_join 7 0 0 [.ref 0, .int (nI (a)), .int (nI (b))] (wL z k o) (.inr 3) (wL z k o) := by
  refine AM.of rfl (Nat.le_of_ble_eq_true rfl) (ls := [some (.ref 0), some (.int (nI (a))), some (.int (nI (b)))]) rfl ?_
  refine AW.aload_n (pc' := 1) d_C_join_0 rfl rfl rfl ?_
  refine AW.iload_n (pc' := 2) d_C_join_1 rfl rfl rfl ?_
  refine AW.cV (pc' := 5) d_C_join_2 rfl cv_C_114 (by decide) rfl rfl rfl (c_reqSector_ok X z k o a ha (by omega)) rfl rfl rfl rfl rfl rfl rfl ?_
  refine AW.aload_n (pc' := 6) d_C_join_5 rfl rfl rfl ?_
  refine AW.iload_n (pc' := 7) d_C_join_6 rfl rfl rfl ?_
  refine AW.cV (pc' := 10) d_C_join_7 rfl cv_C_114 (by decide) rfl rfl rfl (c_reqSector_ok X z k o b hb (by omega)) rfl rfl rfl rfl rfl rfl rfl ?_
  refine AW.aload_n (pc' := 11) d_C_join_10 rfl rfl rfl ?_
  refine AW.iload_n (pc' := 12) d_C_join_11 rfl rfl rfl ?_
  refine AW.cV (pc' := 15) d_C_join_12 rfl cv_C_119 (by decide) rfl rfl rfl (c_reqOpen_ok X z k o a (by omega) h1) rfl rfl rfl rfl rfl rfl rfl ?_
  refine AW.aload_n (pc' := 16) d_C_join_15 rfl rfl rfl ?_
  refine AW.iload_n (pc' := 17) d_C_join_16 rfl rfl rfl ?_
  refine AW.cV (pc' := 20) d_C_join_17 rfl cv_C_119 (by decide) rfl rfl rfl (c_reqOpen_ok X z k o b (by omega) h2) rfl rfl rfl rfl rfl rfl rfl ?_
  refine AW.iload_n (pc' := 21) d_C_join_20 rfl rfl rfl ?_
  refine AW.if_ne (tgt := 34) (pc' := 24) d_C_join_21 (by decide) rfl (fun _ => ?_) (fun h => absurd ((nI_eq (b := 0) (by omega) (by decide)).mp (h.trans (by decide))) h0)
  refine AW.aload_n (pc' := 35) d_C_join_34 rfl rfl rfl ?_
  refine AW.iload_n (pc' := 36) d_C_join_35 rfl rfl rfl ?_
  refine AW.iload_n (pc' := 37) d_C_join_36 rfl rfl rfl ?_
  refine AW.cV (pc' := 40) d_C_join_37 rfl cv_C_131 (by decide) rfl rfl rfl (c_sob_t X z k o b a (by omega) (by omega) hab h3) rfl rfl rfl rfl rfl rfl rfl ?_
  refine AW.if_eq (tgt := 53) (pc' := 43) d_C_join_40 (by decide) rfl (fun h => absurd h (by decide)) (fun _ => ?_)
  exact AW.throwS (x := 3) d_C_join_43 d_C_join_46 d_C_join_47 d_C_join_49 d_C_join_52 cl_C_93 ini_java_lang_IllegalStateException sr_C_135 thr_3 rfl (by decide) rfl rfl rfl ⟨rfl, rfl⟩
theorem c_join_6 (X : ct_X) (z : S_c) (k : S_m) (o : Nat → Int64) (a : Nat) (ha : a < c_ns z) (hn : c_ns z ≤ 20) (b : Nat) (hb : b < c_ns z) (hnp : c_np z ≤ 40) (hnu : c_nu z ≤ 20) (htn : t_n z ≤ 60) (hc : c_sec z ≤ 99999) (hR : Ring z) (h1 : ¬ c_opn z a = 0) (h2 : ¬ c_opn z b = 0) (h0 : ¬ a = 0) (hab : ∀ j, j < 20 → okO 20 (c_abv z j)) (h3 : f_sob z a 20 (some b) = false) (hl : okO 40 (c_ldr z a)) : AF X m_C_join 7 0 0 [.ref 0, .int (nI (a)), .int (nI (b))] (wL z k o) (.inl none) (wL (f_fill (f_mv (f_unl z a) a b) b) k o) := by
  refine AM.of rfl (Nat.le_of_ble_eq_true rfl) (ls := [some (.ref 0), some (.int (nI (a))), some (.int (nI (b)))]) rfl ?_
  refine AW.aload_n (pc' := 1) d_C_join_0 rfl rfl rfl ?_
  refine AW.iload_n (pc' := 2) d_C_join_1 rfl rfl rfl ?_
  refine AW.cV (pc' := 5) d_C_join_2 rfl cv_C_114 (by decide) rfl rfl rfl (c_reqSector_ok X z k o a ha (by omega)) rfl rfl rfl rfl rfl rfl rfl ?_
  refine AW.aload_n (pc' := 6) d_C_join_5 rfl rfl rfl ?_
  refine AW.iload_n (pc' := 7) d_C_join_6 rfl rfl rfl ?_
  refine AW.cV (pc' := 10) d_C_join_7 rfl cv_C_114 (by decide) rfl rfl rfl (c_reqSector_ok X z k o b hb (by omega)) rfl rfl rfl rfl rfl rfl rfl ?_
  refine AW.aload_n (pc' := 11) d_C_join_10 rfl rfl rfl ?_
  refine AW.iload_n (pc' := 12) d_C_join_11 rfl rfl rfl ?_
  refine AW.cV (pc' := 15) d_C_join_12 rfl cv_C_119 (by decide) rfl rfl rfl (c_reqOpen_ok X z k o a (by omega) h1) rfl rfl rfl rfl rfl rfl rfl ?_
  refine AW.aload_n (pc' := 16) d_C_join_15 rfl rfl rfl ?_
  refine AW.iload_n (pc' := 17) d_C_join_16 rfl rfl rfl ?_
  refine AW.cV (pc' := 20) d_C_join_17 rfl cv_C_119 (by decide) rfl rfl rfl (c_reqOpen_ok X z k o b (by omega) h2) rfl rfl rfl rfl rfl rfl rfl ?_
  refine AW.iload_n (pc' := 21) d_C_join_20 rfl rfl rfl ?_
  refine AW.if_ne (tgt := 34) (pc' := 24) d_C_join_21 (by decide) rfl (fun _ => ?_) (fun h => absurd ((nI_eq (b := 0) (by omega) (by decide)).mp (h.trans (by decide))) h0)
  refine AW.aload_n (pc' := 35) d_C_join_34 rfl rfl rfl ?_
  refine AW.iload_n (pc' := 36) d_C_join_35 rfl rfl rfl ?_
  refine AW.iload_n (pc' := 37) d_C_join_36 rfl rfl rfl ?_
  refine AW.cV (pc' := 40) d_C_join_37 rfl cv_C_131 (by decide) rfl rfl rfl (c_sob_f X z k o b a (by omega) (by omega) hab h3) rfl rfl rfl rfl rfl rfl rfl ?_
  refine AW.if_eq (tgt := 53) (pc' := 43) d_C_join_40 (by decide) rfl (fun _ => ?_) (fun h => absurd h (by decide))
  refine AW.aload_n (pc' := 54) d_C_join_53 rfl rfl rfl ?_
  refine AW.iload_n (pc' := 55) d_C_join_54 rfl rfl rfl ?_
  refine AW.iconst (pc' := 56) (v := (-1)) d_C_join_55 rfl (by decide) ?_
  refine AW.cV (pc' := 59) d_C_join_56 rfl cv_C_137 (by decide) rfl rfl rfl (c_unl X z k o a (by omega) hn hl hR) rfl rfl rfl rfl rfl rfl rfl ?_
  refine AW.aload_n (pc' := 60) d_C_join_59 rfl rfl rfl ?_
  refine AW.getf (pc' := 63) d_C_join_60 rfl fl_C_35 rfl rfl ?_
  refine AW.iload_n (pc' := 64) d_C_join_63 rfl rfl rfl ?_
  refine AW.iconst (pc' := 65) (v := nI 0) d_C_join_64 rfl (by decide) ?_
  refine AW.zastN (pc' := 66) (w' := (wL (c_opn_ ((f_unl z a)) (upd (c_opn ((f_unl z a))) a (nI (0)))) k o)) d_C_join_65 rfl rfl (by omega) (by decide) (by decide) rfl ?_
  refine AW.aload_n (pc' := 67) d_C_join_66 rfl rfl rfl ?_
  refine AW.getf (pc' := 70) d_C_join_67 rfl fl_C_20 rfl rfl ?_
  refine AW.aload_n (pc' := 71) d_C_join_70 rfl rfl rfl ?_
  refine AW.getf (pc' := 74) d_C_join_71 rfl fl_C_72 rfl rfl ?_
  refine AW.top (u := .int (nI (c_np ((f_unl z a))))) rfl ?_
  refine AW.iload_n (pc' := 75) d_C_join_74 rfl rfl rfl ?_
  refine AW.iload_n (pc' := 76) d_C_join_75 rfl rfl rfl ?_
  refine AW.cS (pc' := 79) d_C_join_76 rfl cs_C_140 (by decide) (c_replace X _ (wL (c_sop_ (c_opn_ ((f_unl z a)) (upd (c_opn ((f_unl z a))) a (nI (0)))) (rep (c_sop (c_opn_ ((f_unl z a)) (upd (c_opn ((f_unl z a))) a (nI (0))))) (nI a) (nI b) (c_np (c_opn_ ((f_unl z a)) (upd (c_opn ((f_unl z a))) a (nI (0))))))) k o) 3 40 (c_np (c_opn_ ((f_unl z a)) (upd (c_opn ((f_unl z a))) a (nI (0))))) (c_sop (c_opn_ ((f_unl z a)) (upd (c_opn ((f_unl z a))) a (nI (0))))) (nI a) (nI b) (by decide) (by rw [← unl_np z a] at hnp; exact hnp) rfl rfl) rfl rfl rfl rfl rfl rfl rfl ?_
  refine AW.aload_n (pc' := 80) d_C_join_79 rfl rfl rfl ?_
  refine AW.getf (pc' := 83) d_C_join_80 rfl fl_C_32 rfl rfl ?_
  refine AW.aload_n (pc' := 84) d_C_join_83 rfl rfl rfl ?_
  refine AW.getf (pc' := 87) d_C_join_84 rfl fl_C_80 rfl rfl ?_
  refine AW.iload_n (pc' := 88) d_C_join_87 rfl rfl rfl ?_
  refine AW.iload_n (pc' := 89) d_C_join_88 rfl rfl rfl ?_
  refine AW.cS (pc' := 92) d_C_join_89 rfl cs_C_140 (by decide) (c_replace X _ (wL (c_sou_ ((c_sop_ (c_opn_ ((f_unl z a)) (upd (c_opn ((f_unl z a))) a (nI (0)))) (rep (c_sop (c_opn_ ((f_unl z a)) (upd (c_opn ((f_unl z a))) a (nI (0))))) (nI a) (nI b) (c_np (c_opn_ ((f_unl z a)) (upd (c_opn ((f_unl z a))) a (nI (0)))))))) (rep (c_sou ((c_sop_ (c_opn_ ((f_unl z a)) (upd (c_opn ((f_unl z a))) a (nI (0)))) (rep (c_sop (c_opn_ ((f_unl z a)) (upd (c_opn ((f_unl z a))) a (nI (0))))) (nI a) (nI b) (c_np (c_opn_ ((f_unl z a)) (upd (c_opn ((f_unl z a))) a (nI (0))))))))) (nI a) (nI b) (c_nu ((c_sop_ (c_opn_ ((f_unl z a)) (upd (c_opn ((f_unl z a))) a (nI (0)))) (rep (c_sop (c_opn_ ((f_unl z a)) (upd (c_opn ((f_unl z a))) a (nI (0))))) (nI a) (nI b) (c_np (c_opn_ ((f_unl z a)) (upd (c_opn ((f_unl z a))) a (nI (0))))))))))) k o) 5 20 (c_nu ((c_sop_ (c_opn_ ((f_unl z a)) (upd (c_opn ((f_unl z a))) a (nI (0)))) (rep (c_sop (c_opn_ ((f_unl z a)) (upd (c_opn ((f_unl z a))) a (nI (0))))) (nI a) (nI b) (c_np (c_opn_ ((f_unl z a)) (upd (c_opn ((f_unl z a))) a (nI (0))))))))) (c_sou ((c_sop_ (c_opn_ ((f_unl z a)) (upd (c_opn ((f_unl z a))) a (nI (0)))) (rep (c_sop (c_opn_ ((f_unl z a)) (upd (c_opn ((f_unl z a))) a (nI (0))))) (nI a) (nI b) (c_np (c_opn_ ((f_unl z a)) (upd (c_opn ((f_unl z a))) a (nI (0))))))))) (nI a) (nI b) (by decide) (by rw [← unl_nu z a] at hnu; exact hnu) rfl rfl) rfl rfl rfl rfl rfl rfl rfl ?_
  refine AW.aload_n (pc' := 93) d_C_join_92 rfl rfl rfl ?_
  refine AW.iload_n (pc' := 94) d_C_join_93 rfl rfl rfl ?_
  refine AW.iload_n (pc' := 95) d_C_join_94 rfl rfl rfl ?_
  refine AW.cV (pc' := 98) d_C_join_95 rfl cv_C_144 (by decide) rfl rfl rfl (c_move X ((c_sou_ ((c_sop_ (c_opn_ ((f_unl z a)) (upd (c_opn ((f_unl z a))) a (nI (0)))) (rep (c_sop (c_opn_ ((f_unl z a)) (upd (c_opn ((f_unl z a))) a (nI (0))))) (nI a) (nI b) (c_np (c_opn_ ((f_unl z a)) (upd (c_opn ((f_unl z a))) a (nI (0)))))))) (rep (c_sou ((c_sop_ (c_opn_ ((f_unl z a)) (upd (c_opn ((f_unl z a))) a (nI (0)))) (rep (c_sop (c_opn_ ((f_unl z a)) (upd (c_opn ((f_unl z a))) a (nI (0))))) (nI a) (nI b) (c_np (c_opn_ ((f_unl z a)) (upd (c_opn ((f_unl z a))) a (nI (0))))))))) (nI a) (nI b) (c_nu ((c_sop_ (c_opn_ ((f_unl z a)) (upd (c_opn ((f_unl z a))) a (nI (0)))) (rep (c_sop (c_opn_ ((f_unl z a)) (upd (c_opn ((f_unl z a))) a (nI (0))))) (nI a) (nI b) (c_np (c_opn_ ((f_unl z a)) (upd (c_opn ((f_unl z a))) a (nI (0)))))))))))) k o (nI a) (nI b) (by rw [← unl_ns z a] at hn; exact hn)) rfl rfl rfl rfl rfl rfl rfl ?_
  refine AW.aload_n (pc' := 99) d_C_join_98 rfl rfl rfl ?_
  refine AW.getf (pc' := 102) d_C_join_99 rfl fl_C_54 rfl rfl ?_
  refine AW.iload_n (pc' := 103) d_C_join_102 rfl rfl rfl ?_
  refine AW.iload_n (pc' := 104) d_C_join_103 rfl rfl rfl ?_
  refine AW.cV (pc' := 107) d_C_join_104 rfl cv_C_147 (by decide) rfl rfl rfl (c_give X ((c_abv_ ((c_sou_ ((c_sop_ (c_opn_ ((f_unl z a)) (upd (c_opn ((f_unl z a))) a (nI (0)))) (rep (c_sop (c_opn_ ((f_unl z a)) (upd (c_opn ((f_unl z a))) a (nI (0))))) (nI a) (nI b) (c_np (c_opn_ ((f_unl z a)) (upd (c_opn ((f_unl z a))) a (nI (0)))))))) (rep (c_sou ((c_sop_ (c_opn_ ((f_unl z a)) (upd (c_opn ((f_unl z a))) a (nI (0)))) (rep (c_sop (c_opn_ ((f_unl z a)) (upd (c_opn ((f_unl z a))) a (nI (0))))) (nI a) (nI b) (c_np (c_opn_ ((f_unl z a)) (upd (c_opn ((f_unl z a))) a (nI (0))))))))) (nI a) (nI b) (c_nu ((c_sop_ (c_opn_ ((f_unl z a)) (upd (c_opn ((f_unl z a))) a (nI (0)))) (rep (c_sop (c_opn_ ((f_unl z a)) (upd (c_opn ((f_unl z a))) a (nI (0))))) (nI a) (nI b) (c_np (c_opn_ ((f_unl z a)) (upd (c_opn ((f_unl z a))) a (nI (0)))))))))))) (f_move ((c_sou_ ((c_sop_ (c_opn_ ((f_unl z a)) (upd (c_opn ((f_unl z a))) a (nI (0)))) (rep (c_sop (c_opn_ ((f_unl z a)) (upd (c_opn ((f_unl z a))) a (nI (0))))) (nI a) (nI b) (c_np (c_opn_ ((f_unl z a)) (upd (c_opn ((f_unl z a))) a (nI (0)))))))) (rep (c_sou ((c_sop_ (c_opn_ ((f_unl z a)) (upd (c_opn ((f_unl z a))) a (nI (0)))) (rep (c_sop (c_opn_ ((f_unl z a)) (upd (c_opn ((f_unl z a))) a (nI (0))))) (nI a) (nI b) (c_np (c_opn_ ((f_unl z a)) (upd (c_opn ((f_unl z a))) a (nI (0))))))))) (nI a) (nI b) (c_nu ((c_sop_ (c_opn_ ((f_unl z a)) (upd (c_opn ((f_unl z a))) a (nI (0)))) (rep (c_sop (c_opn_ ((f_unl z a)) (upd (c_opn ((f_unl z a))) a (nI (0))))) (nI a) (nI b) (c_np (c_opn_ ((f_unl z a)) (upd (c_opn ((f_unl z a))) a (nI (0)))))))))))) (nI a) (nI b)))) k o (nI a) (nI b) (by rw [← unl_tn z a] at htn; exact htn)) rfl rfl rfl rfl rfl rfl rfl ?_
  refine AW.wld (w' := wL (f_mv (f_unl z a) a b) k o) rfl ?_
  exact jn_fill X (f_mv (f_unl z a) a b) k o a b (by omega) (by rw [← unl_ns z a] at hn; exact hn) (by rw [← unl_np z a] at hnp; exact hnp) (unl_ring hR hc (by omega))
theorem c_offer_0 (X : ct_X) (z : S_c) (k : S_m) (o : Nat → Int64) (x y : Int32) (hx : x < 0 ∨ nI (c_ns z) ≤ x) : AF X m_C_offer 7 0 0 [.ref 0, .int (x), .int (y)] (wL z k o) (.inr 2) (wL z k o) := by
  refine AM.of rfl (Nat.le_of_ble_eq_true rfl) (ls := [some (.ref 0), some (.int (x)), some (.int (y))]) rfl ?_
  refine AW.aload_n (pc' := 1) d_C_offer_0 rfl rfl rfl ?_
  refine AW.iload_n (pc' := 2) d_C_offer_1 rfl rfl rfl ?_
  exact AW.cVx d_C_offer_2 cv_C_114 (by decide) rfl rfl rfl (c_reqSector_no X z k o x hx) rfl rfl rfl rfl rfl rfl rfl ⟨rfl, rfl⟩
theorem c_offer_1 (X : ct_X) (z : S_c) (k : S_m) (o : Nat → Int64) (s : Nat) (hs : s < c_ns z) (hn : c_ns z ≤ 20) (x : Int32) (hx : x < 0 ∨ nI (c_np z) ≤ x) : AF X m_C_offer 7 0 0 [.ref 0, .int (nI (s)), .int (x)] (wL z k o) (.inr 2) (wL z k o) := by
  refine AM.of rfl (Nat.le_of_ble_eq_true rfl) (ls := [some (.ref 0), some (.int (nI (s))), some (.int (x))]) rfl ?_
  refine AW.aload_n (pc' := 1) d_C_offer_0 rfl rfl rfl ?_
  refine AW.iload_n (pc' := 2) d_C_offer_1 rfl rfl rfl ?_
  refine AW.cV (pc' := 5) d_C_offer_2 rfl cv_C_114 (by decide) rfl rfl rfl (c_reqSector_ok X z k o s hs (by omega)) rfl rfl rfl rfl rfl rfl rfl ?_
  refine AW.aload_n (pc' := 6) d_C_offer_5 rfl rfl rfl ?_
  refine AW.iload_n (pc' := 7) d_C_offer_6 rfl rfl rfl ?_
  exact AW.cVx d_C_offer_7 cv_C_85 (by decide) rfl rfl rfl (c_reqPerson_no X z k o x hx) rfl rfl rfl rfl rfl rfl rfl ⟨rfl, rfl⟩
theorem c_offer_2 (X : ct_X) (z : S_c) (k : S_m) (o : Nat → Int64) (s : Nat) (hs : s < c_ns z) (hn : c_ns z ≤ 20) (p : Nat) (hj : p < c_np z) (hnp : c_np z ≤ 40) (h1 : c_opn z s = 0) : AF X m_C_offer 7 0 0 [.ref 0, .int (nI (s)), .int (nI (p))] (wL z k o) (.inr 3) (wL z k o) := by
  refine AM.of rfl (Nat.le_of_ble_eq_true rfl) (ls := [some (.ref 0), some (.int (nI (s))), some (.int (nI (p)))]) rfl ?_
  refine AW.aload_n (pc' := 1) d_C_offer_0 rfl rfl rfl ?_
  refine AW.iload_n (pc' := 2) d_C_offer_1 rfl rfl rfl ?_
  refine AW.cV (pc' := 5) d_C_offer_2 rfl cv_C_114 (by decide) rfl rfl rfl (c_reqSector_ok X z k o s hs (by omega)) rfl rfl rfl rfl rfl rfl rfl ?_
  refine AW.aload_n (pc' := 6) d_C_offer_5 rfl rfl rfl ?_
  refine AW.iload_n (pc' := 7) d_C_offer_6 rfl rfl rfl ?_
  refine AW.cV (pc' := 10) d_C_offer_7 rfl cv_C_85 (by decide) rfl rfl rfl (c_reqPerson_ok X z k o p hj (by omega)) rfl rfl rfl rfl rfl rfl rfl ?_
  refine AW.aload_n (pc' := 11) d_C_offer_10 rfl rfl rfl ?_
  refine AW.iload_n (pc' := 12) d_C_offer_11 rfl rfl rfl ?_
  exact AW.cVx d_C_offer_12 cv_C_119 (by decide) rfl rfl rfl (c_reqOpen_no X z k o s (by omega) h1) rfl rfl rfl rfl rfl rfl rfl ⟨rfl, rfl⟩
theorem c_offer_3 (X : ct_X) (z : S_c) (k : S_m) (o : Nat → Int64) (s : Nat) (hs : s < c_ns z) (hn : c_ns z ≤ 20) (p : Nat) (hj : p < c_np z) (hnp : c_np z ≤ 40) (h1 : ¬ c_opn z s = 0) (h2 : c_ldr z s = -1) : AF X m_C_offer 7 0 0 [.ref 0, .int (nI (s)), .int (nI (p))] (wL z k o) (.inr 3) (wL z k o) := by
  refine AM.of rfl (Nat.le_of_ble_eq_true rfl) (ls := [some (.ref 0), some (.int (nI (s))), some (.int (nI (p)))]) rfl ?_
  refine AW.aload_n (pc' := 1) d_C_offer_0 rfl rfl rfl ?_
  refine AW.iload_n (pc' := 2) d_C_offer_1 rfl rfl rfl ?_
  refine AW.cV (pc' := 5) d_C_offer_2 rfl cv_C_114 (by decide) rfl rfl rfl (c_reqSector_ok X z k o s hs (by omega)) rfl rfl rfl rfl rfl rfl rfl ?_
  refine AW.aload_n (pc' := 6) d_C_offer_5 rfl rfl rfl ?_
  refine AW.iload_n (pc' := 7) d_C_offer_6 rfl rfl rfl ?_
  refine AW.cV (pc' := 10) d_C_offer_7 rfl cv_C_85 (by decide) rfl rfl rfl (c_reqPerson_ok X z k o p hj (by omega)) rfl rfl rfl rfl rfl rfl rfl ?_
  refine AW.aload_n (pc' := 11) d_C_offer_10 rfl rfl rfl ?_
  refine AW.iload_n (pc' := 12) d_C_offer_11 rfl rfl rfl ?_
  refine AW.cV (pc' := 15) d_C_offer_12 rfl cv_C_119 (by decide) rfl rfl rfl (c_reqOpen_ok X z k o s (by omega) h1) rfl rfl rfl rfl rfl rfl rfl ?_
  refine AW.aload_n (pc' := 16) d_C_offer_15 rfl rfl rfl ?_
  refine AW.getf (pc' := 19) d_C_offer_16 rfl fl_C_42 rfl rfl ?_
  refine AW.iload_n (pc' := 20) d_C_offer_19 rfl rfl rfl ?_
  refine AW.ialdN (pc' := 21) d_C_offer_20 rfl rfl (by omega) (by decide) ?_
  refine AW.iconst (pc' := 22) (v := (-1)) d_C_offer_21 rfl (by decide) ?_
  refine AW.icmp_ne (tgt := 35) (pc' := 25) d_C_offer_22 (by decide) rfl (fun h => absurd h2 h) (fun h22 => ?_)
  exact AW.throwS (x := 3) d_C_offer_25 d_C_offer_28 d_C_offer_29 d_C_offer_31 d_C_offer_34 cl_C_93 ini_java_lang_IllegalStateException sr_C_154 thr_3 rfl (by decide) rfl rfl rfl ⟨rfl, rfl⟩
theorem c_offer_4 (X : ct_X) (z : S_c) (k : S_m) (o : Nat → Int64) (s : Nat) (hs : s < c_ns z) (hn : c_ns z ≤ 20) (p : Nat) (hj : p < c_np z) (hnp : c_np z ≤ 40) (h1 : ¬ c_opn z s = 0) (h2 : ¬ c_ldr z s = -1) (h3 : c_sop z p = -1) : AF X m_C_offer 7 0 0 [.ref 0, .int (nI (s)), .int (nI (p))] (wL z k o) (.inr 3) (wL z k o) := by
  refine AM.of rfl (Nat.le_of_ble_eq_true rfl) (ls := [some (.ref 0), some (.int (nI (s))), some (.int (nI (p)))]) rfl ?_
  refine AW.aload_n (pc' := 1) d_C_offer_0 rfl rfl rfl ?_
  refine AW.iload_n (pc' := 2) d_C_offer_1 rfl rfl rfl ?_
  refine AW.cV (pc' := 5) d_C_offer_2 rfl cv_C_114 (by decide) rfl rfl rfl (c_reqSector_ok X z k o s hs (by omega)) rfl rfl rfl rfl rfl rfl rfl ?_
  refine AW.aload_n (pc' := 6) d_C_offer_5 rfl rfl rfl ?_
  refine AW.iload_n (pc' := 7) d_C_offer_6 rfl rfl rfl ?_
  refine AW.cV (pc' := 10) d_C_offer_7 rfl cv_C_85 (by decide) rfl rfl rfl (c_reqPerson_ok X z k o p hj (by omega)) rfl rfl rfl rfl rfl rfl rfl ?_
  refine AW.aload_n (pc' := 11) d_C_offer_10 rfl rfl rfl ?_
  refine AW.iload_n (pc' := 12) d_C_offer_11 rfl rfl rfl ?_
  refine AW.cV (pc' := 15) d_C_offer_12 rfl cv_C_119 (by decide) rfl rfl rfl (c_reqOpen_ok X z k o s (by omega) h1) rfl rfl rfl rfl rfl rfl rfl ?_
  refine AW.aload_n (pc' := 16) d_C_offer_15 rfl rfl rfl ?_
  refine AW.getf (pc' := 19) d_C_offer_16 rfl fl_C_42 rfl rfl ?_
  refine AW.iload_n (pc' := 20) d_C_offer_19 rfl rfl rfl ?_
  refine AW.ialdN (pc' := 21) d_C_offer_20 rfl rfl (by omega) (by decide) ?_
  refine AW.iconst (pc' := 22) (v := (-1)) d_C_offer_21 rfl (by decide) ?_
  refine AW.icmp_ne (tgt := 35) (pc' := 25) d_C_offer_22 (by decide) rfl (fun h22 => ?_) (fun h => absurd h h2)
  refine AW.aload_n (pc' := 36) d_C_offer_35 rfl rfl rfl ?_
  refine AW.iload_n (pc' := 37) d_C_offer_36 rfl rfl rfl ?_
  exact AW.cVx d_C_offer_37 cv_C_105 (by decide) rfl rfl rfl (c_reqThere_no X z k o p (by omega) h3) rfl rfl rfl rfl rfl rfl rfl ⟨rfl, rfl⟩
theorem c_offer_5 (X : ct_X) (z : S_c) (k : S_m) (o : Nat → Int64) (s : Nat) (hs : s < c_ns z) (hn : c_ns z ≤ 20) (p : Nat) (hj : p < c_np z) (hnp : c_np z ≤ 40) (h1 : ¬ c_opn z s = 0) (h2 : ¬ c_ldr z s = -1) (h3 : ¬ c_sop z p = -1) (h4 : ¬ c_slb z p = -1) : AF X m_C_offer 7 0 0 [.ref 0, .int (nI (s)), .int (nI (p))] (wL z k o) (.inr 3) (wL z k o) := by
  refine AM.of rfl (Nat.le_of_ble_eq_true rfl) (ls := [some (.ref 0), some (.int (nI (s))), some (.int (nI (p)))]) rfl ?_
  refine AW.aload_n (pc' := 1) d_C_offer_0 rfl rfl rfl ?_
  refine AW.iload_n (pc' := 2) d_C_offer_1 rfl rfl rfl ?_
  refine AW.cV (pc' := 5) d_C_offer_2 rfl cv_C_114 (by decide) rfl rfl rfl (c_reqSector_ok X z k o s hs (by omega)) rfl rfl rfl rfl rfl rfl rfl ?_
  refine AW.aload_n (pc' := 6) d_C_offer_5 rfl rfl rfl ?_
  refine AW.iload_n (pc' := 7) d_C_offer_6 rfl rfl rfl ?_
  refine AW.cV (pc' := 10) d_C_offer_7 rfl cv_C_85 (by decide) rfl rfl rfl (c_reqPerson_ok X z k o p hj (by omega)) rfl rfl rfl rfl rfl rfl rfl ?_
  refine AW.aload_n (pc' := 11) d_C_offer_10 rfl rfl rfl ?_
  refine AW.iload_n (pc' := 12) d_C_offer_11 rfl rfl rfl ?_
  refine AW.cV (pc' := 15) d_C_offer_12 rfl cv_C_119 (by decide) rfl rfl rfl (c_reqOpen_ok X z k o s (by omega) h1) rfl rfl rfl rfl rfl rfl rfl ?_
  refine AW.aload_n (pc' := 16) d_C_offer_15 rfl rfl rfl ?_
  refine AW.getf (pc' := 19) d_C_offer_16 rfl fl_C_42 rfl rfl ?_
  refine AW.iload_n (pc' := 20) d_C_offer_19 rfl rfl rfl ?_
  refine AW.ialdN (pc' := 21) d_C_offer_20 rfl rfl (by omega) (by decide) ?_
  refine AW.iconst (pc' := 22) (v := (-1)) d_C_offer_21 rfl (by decide) ?_
  refine AW.icmp_ne (tgt := 35) (pc' := 25) d_C_offer_22 (by decide) rfl (fun h22 => ?_) (fun h => absurd h h2)
  refine AW.aload_n (pc' := 36) d_C_offer_35 rfl rfl rfl ?_
  refine AW.iload_n (pc' := 37) d_C_offer_36 rfl rfl rfl ?_
  refine AW.cV (pc' := 40) d_C_offer_37 rfl cv_C_105 (by decide) rfl rfl rfl (c_reqThere_ok X z k o p (by omega) h3) rfl rfl rfl rfl rfl rfl rfl ?_
  refine AW.aload_n (pc' := 41) d_C_offer_40 rfl rfl rfl ?_
  refine AW.getf (pc' := 44) d_C_offer_41 rfl fl_C_23 rfl rfl ?_
  refine AW.iload_n (pc' := 45) d_C_offer_44 rfl rfl rfl ?_
  refine AW.ialdN (pc' := 46) d_C_offer_45 rfl rfl (by omega) (by decide) ?_
  refine AW.iconst (pc' := 47) (v := (-1)) d_C_offer_46 rfl (by decide) ?_
  refine AW.icmp_eq (tgt := 60) (pc' := 50) d_C_offer_47 (by decide) rfl (fun h => absurd h h4) (fun h47 => ?_)
  exact AW.throwS (x := 3) d_C_offer_50 d_C_offer_53 d_C_offer_54 d_C_offer_56 d_C_offer_59 cl_C_93 ini_java_lang_IllegalStateException sr_C_156 thr_3 rfl (by decide) rfl rfl rfl ⟨rfl, rfl⟩
theorem c_offer_6 (X : ct_X) (z : S_c) (k : S_m) (o : Nat → Int64) (s : Nat) (hs : s < c_ns z) (hn : c_ns z ≤ 20) (p : Nat) (hj : p < c_np z) (hnp : c_np z ≤ 40) (h1 : ¬ c_opn z s = 0) (h2 : ¬ c_ldr z s = -1) (h3 : ¬ c_sop z p = -1) (h4 : c_slb z p = -1) : AF X m_C_offer 7 0 0 [.ref 0, .int (nI (s)), .int (nI (p))] (wL z k o) (.inl none) (wL (c_off_ z (upd (c_off z) s (nI p))) k o) := by
  refine AM.of rfl (Nat.le_of_ble_eq_true rfl) (ls := [some (.ref 0), some (.int (nI (s))), some (.int (nI (p)))]) rfl ?_
  refine AW.aload_n (pc' := 1) d_C_offer_0 rfl rfl rfl ?_
  refine AW.iload_n (pc' := 2) d_C_offer_1 rfl rfl rfl ?_
  refine AW.cV (pc' := 5) d_C_offer_2 rfl cv_C_114 (by decide) rfl rfl rfl (c_reqSector_ok X z k o s hs (by omega)) rfl rfl rfl rfl rfl rfl rfl ?_
  refine AW.aload_n (pc' := 6) d_C_offer_5 rfl rfl rfl ?_
  refine AW.iload_n (pc' := 7) d_C_offer_6 rfl rfl rfl ?_
  refine AW.cV (pc' := 10) d_C_offer_7 rfl cv_C_85 (by decide) rfl rfl rfl (c_reqPerson_ok X z k o p hj (by omega)) rfl rfl rfl rfl rfl rfl rfl ?_
  refine AW.aload_n (pc' := 11) d_C_offer_10 rfl rfl rfl ?_
  refine AW.iload_n (pc' := 12) d_C_offer_11 rfl rfl rfl ?_
  refine AW.cV (pc' := 15) d_C_offer_12 rfl cv_C_119 (by decide) rfl rfl rfl (c_reqOpen_ok X z k o s (by omega) h1) rfl rfl rfl rfl rfl rfl rfl ?_
  refine AW.aload_n (pc' := 16) d_C_offer_15 rfl rfl rfl ?_
  refine AW.getf (pc' := 19) d_C_offer_16 rfl fl_C_42 rfl rfl ?_
  refine AW.iload_n (pc' := 20) d_C_offer_19 rfl rfl rfl ?_
  refine AW.ialdN (pc' := 21) d_C_offer_20 rfl rfl (by omega) (by decide) ?_
  refine AW.iconst (pc' := 22) (v := (-1)) d_C_offer_21 rfl (by decide) ?_
  refine AW.icmp_ne (tgt := 35) (pc' := 25) d_C_offer_22 (by decide) rfl (fun h22 => ?_) (fun h => absurd h h2)
  refine AW.aload_n (pc' := 36) d_C_offer_35 rfl rfl rfl ?_
  refine AW.iload_n (pc' := 37) d_C_offer_36 rfl rfl rfl ?_
  refine AW.cV (pc' := 40) d_C_offer_37 rfl cv_C_105 (by decide) rfl rfl rfl (c_reqThere_ok X z k o p (by omega) h3) rfl rfl rfl rfl rfl rfl rfl ?_
  refine AW.aload_n (pc' := 41) d_C_offer_40 rfl rfl rfl ?_
  refine AW.getf (pc' := 44) d_C_offer_41 rfl fl_C_23 rfl rfl ?_
  refine AW.iload_n (pc' := 45) d_C_offer_44 rfl rfl rfl ?_
  refine AW.ialdN (pc' := 46) d_C_offer_45 rfl rfl (by omega) (by decide) ?_
  refine AW.iconst (pc' := 47) (v := (-1)) d_C_offer_46 rfl (by decide) ?_
  refine AW.icmp_eq (tgt := 60) (pc' := 50) d_C_offer_47 (by decide) rfl (fun h47 => ?_) (fun h => absurd h4 h)
  refine AW.aload_n (pc' := 61) d_C_offer_60 rfl rfl rfl ?_
  refine AW.getf (pc' := 64) d_C_offer_61 rfl fl_C_45 rfl rfl ?_
  refine AW.iload_n (pc' := 65) d_C_offer_64 rfl rfl rfl ?_
  refine AW.iload_n (pc' := 66) d_C_offer_65 rfl rfl rfl ?_
  refine AW.iastN (pc' := 67) (w' := (wL (c_off_ z (upd (c_off z) s (nI (p)))) k o)) d_C_offer_66 rfl rfl (by omega) (by decide) rfl ?_
  exact AW.vret d_C_offer_67 rfl rfl rfl ⟨rfl, rfl⟩
theorem c_take_0 (X : ct_X) (z : S_c) (k : S_m) (o : Nat → Int64) (x y : Int32) (hx : x < 0 ∨ nI (c_ns z) ≤ x) : AF X m_C_take 7 0 0 [.ref 0, .int (x), .int (y)] (wL z k o) (.inr 2) (wL z k o) := by
  refine AM.of rfl (Nat.le_of_ble_eq_true rfl) (ls := [some (.ref 0), some (.int (x)), some (.int (y))]) rfl ?_
  refine AW.aload_n (pc' := 1) d_C_take_0 rfl rfl rfl ?_
  refine AW.iload_n (pc' := 2) d_C_take_1 rfl rfl rfl ?_
  exact AW.cVx d_C_take_2 cv_C_114 (by decide) rfl rfl rfl (c_reqSector_no X z k o x hx) rfl rfl rfl rfl rfl rfl rfl ⟨rfl, rfl⟩
theorem c_take_1 (X : ct_X) (z : S_c) (k : S_m) (o : Nat → Int64) (s : Nat) (hs : s < c_ns z) (hn : c_ns z ≤ 20) (x : Int32) (hx : x < 0 ∨ nI (c_np z) ≤ x) : AF X m_C_take 7 0 0 [.ref 0, .int (nI (s)), .int (x)] (wL z k o) (.inr 2) (wL z k o) := by
  refine AM.of rfl (Nat.le_of_ble_eq_true rfl) (ls := [some (.ref 0), some (.int (nI (s))), some (.int (x))]) rfl ?_
  refine AW.aload_n (pc' := 1) d_C_take_0 rfl rfl rfl ?_
  refine AW.iload_n (pc' := 2) d_C_take_1 rfl rfl rfl ?_
  refine AW.cV (pc' := 5) d_C_take_2 rfl cv_C_114 (by decide) rfl rfl rfl (c_reqSector_ok X z k o s hs (by omega)) rfl rfl rfl rfl rfl rfl rfl ?_
  refine AW.aload_n (pc' := 6) d_C_take_5 rfl rfl rfl ?_
  refine AW.iload_n (pc' := 7) d_C_take_6 rfl rfl rfl ?_
  exact AW.cVx d_C_take_7 cv_C_85 (by decide) rfl rfl rfl (c_reqPerson_no X z k o x hx) rfl rfl rfl rfl rfl rfl rfl ⟨rfl, rfl⟩
theorem c_take_2 (X : ct_X) (z : S_c) (k : S_m) (o : Nat → Int64) (s : Nat) (hs : s < c_ns z) (hn : c_ns z ≤ 20) (p : Nat) (hj : p < c_np z) (hnp : c_np z ≤ 40) (h1 : ¬ c_off z s = nI p) : AF X m_C_take 7 0 0 [.ref 0, .int (nI (s)), .int (nI (p))] (wL z k o) (.inr 3) (wL z k o) := by
  refine AM.of rfl (Nat.le_of_ble_eq_true rfl) (ls := [some (.ref 0), some (.int (nI (s))), some (.int (nI (p)))]) rfl ?_
  refine AW.aload_n (pc' := 1) d_C_take_0 rfl rfl rfl ?_
  refine AW.iload_n (pc' := 2) d_C_take_1 rfl rfl rfl ?_
  refine AW.cV (pc' := 5) d_C_take_2 rfl cv_C_114 (by decide) rfl rfl rfl (c_reqSector_ok X z k o s hs (by omega)) rfl rfl rfl rfl rfl rfl rfl ?_
  refine AW.aload_n (pc' := 6) d_C_take_5 rfl rfl rfl ?_
  refine AW.iload_n (pc' := 7) d_C_take_6 rfl rfl rfl ?_
  refine AW.cV (pc' := 10) d_C_take_7 rfl cv_C_85 (by decide) rfl rfl rfl (c_reqPerson_ok X z k o p hj (by omega)) rfl rfl rfl rfl rfl rfl rfl ?_
  refine AW.aload_n (pc' := 11) d_C_take_10 rfl rfl rfl ?_
  refine AW.getf (pc' := 14) d_C_take_11 rfl fl_C_45 rfl rfl ?_
  refine AW.iload_n (pc' := 15) d_C_take_14 rfl rfl rfl ?_
  refine AW.ialdN (pc' := 16) d_C_take_15 rfl rfl (by omega) (by decide) ?_
  refine AW.iload_n (pc' := 17) d_C_take_16 rfl rfl rfl ?_
  refine AW.icmp_eq (tgt := 30) (pc' := 20) d_C_take_17 (by decide) rfl (fun h => absurd h h1) (fun h17 => ?_)
  exact AW.throwS (x := 3) d_C_take_20 d_C_take_23 d_C_take_24 d_C_take_26 d_C_take_29 cl_C_93 ini_java_lang_IllegalStateException sr_C_158 thr_3 rfl (by decide) rfl rfl rfl ⟨rfl, rfl⟩
theorem c_take_3 (X : ct_X) (z : S_c) (k : S_m) (o : Nat → Int64) (s : Nat) (hs : s < c_ns z) (hn : c_ns z ≤ 20) (p : Nat) (hj : p < c_np z) (hnp : c_np z ≤ 40) (h1 : c_off z s = nI p) (q : Nat) (hq : q < 40) (h2 : c_ldr z s = nI q) (hne : ¬ q = p) (hR : Ring z) : AF X m_C_take 7 0 0 [.ref 0, .int (nI (s)), .int (nI (p))] (wL z k o) (.inl none) (wL (f_set1 (c_sop_ z (upd (c_sop z) p (nI s))) s (some q) (some p)) k o) := by
  refine AM.of rfl (Nat.le_of_ble_eq_true rfl) (ls := [some (.ref 0), some (.int (nI (s))), some (.int (nI (p)))]) rfl ?_
  refine AW.aload_n (pc' := 1) d_C_take_0 rfl rfl rfl ?_
  refine AW.iload_n (pc' := 2) d_C_take_1 rfl rfl rfl ?_
  refine AW.cV (pc' := 5) d_C_take_2 rfl cv_C_114 (by decide) rfl rfl rfl (c_reqSector_ok X z k o s hs (by omega)) rfl rfl rfl rfl rfl rfl rfl ?_
  refine AW.aload_n (pc' := 6) d_C_take_5 rfl rfl rfl ?_
  refine AW.iload_n (pc' := 7) d_C_take_6 rfl rfl rfl ?_
  refine AW.cV (pc' := 10) d_C_take_7 rfl cv_C_85 (by decide) rfl rfl rfl (c_reqPerson_ok X z k o p hj (by omega)) rfl rfl rfl rfl rfl rfl rfl ?_
  refine AW.aload_n (pc' := 11) d_C_take_10 rfl rfl rfl ?_
  refine AW.getf (pc' := 14) d_C_take_11 rfl fl_C_45 rfl rfl ?_
  refine AW.iload_n (pc' := 15) d_C_take_14 rfl rfl rfl ?_
  refine AW.ialdN (pc' := 16) d_C_take_15 rfl rfl (by omega) (by decide) ?_
  refine AW.iload_n (pc' := 17) d_C_take_16 rfl rfl rfl ?_
  refine AW.icmp_eq (tgt := 30) (pc' := 20) d_C_take_17 (by decide) rfl (fun h17 => ?_) (fun h => absurd h1 h)
  refine AW.aload_n (pc' := 31) d_C_take_30 rfl rfl rfl ?_
  refine AW.getf (pc' := 34) d_C_take_31 rfl fl_C_20 rfl rfl ?_
  refine AW.iload_n (pc' := 35) d_C_take_34 rfl rfl rfl ?_
  refine AW.iload_n (pc' := 36) d_C_take_35 rfl rfl rfl ?_
  refine AW.iastN (pc' := 37) (w' := (wL (c_sop_ z (upd (c_sop z) p (nI (s)))) k o)) d_C_take_36 rfl rfl (by omega) (by decide) rfl ?_
  refine AW.aload_n (pc' := 38) d_C_take_37 rfl rfl rfl ?_
  refine AW.iload_n (pc' := 39) d_C_take_38 rfl rfl rfl ?_
  refine AW.iload_n (pc' := 40) d_C_take_39 rfl rfl rfl ?_
  refine AW.cV (pc' := 43) d_C_take_40 rfl cv_C_137 (by decide) rfl rfl rfl (c_set_ss X (c_sop_ z (upd (c_sop z) p (nI s))) k o s q hq p (by omega) hne (by omega) hn h2 hR) rfl rfl rfl rfl rfl rfl rfl ?_
  exact AW.vret d_C_take_43 rfl rfl rfl ⟨rfl, rfl⟩
theorem c_task_0 (X : ct_X) (z : S_c) (k : S_m) (o : Nat → Int64) (x y : Int32) (hx : x < 0 ∨ nI (c_ns z) ≤ x) : AF X m_C_task 7 0 0 [.ref 0, .int (x), .int (y)] (wL z k o) (.inr 2) (wL z k o) := by
  refine AM.of rfl (Nat.le_of_ble_eq_true rfl) (ls := [some (.ref 0), some (.int (x)), some (.int (y))]) rfl ?_
  refine AW.aload_n (pc' := 1) d_C_task_0 rfl rfl rfl ?_
  refine AW.iload_n (pc' := 2) d_C_task_1 rfl rfl rfl ?_
  exact AW.cVx d_C_task_2 cv_C_114 (by decide) rfl rfl rfl (c_reqSector_no X z k o x hx) rfl rfl rfl rfl rfl rfl rfl ⟨rfl, rfl⟩
theorem c_task_1 (X : ct_X) (z : S_c) (k : S_m) (o : Nat → Int64) (s : Nat) (hs : s < c_ns z) (hn : c_ns z ≤ 20) (y : Int32) (hy : y < nI (c_sec z) ∨ nI 99999 < y) : AF X m_C_task 7 0 0 [.ref 0, .int (nI (s)), .int (y)] (wL z k o) (.inr 0) (wL z k o) := by
  refine AM.of rfl (Nat.le_of_ble_eq_true rfl) (ls := [some (.ref 0), some (.int (nI (s))), some (.int (y))]) rfl ?_
  refine AW.aload_n (pc' := 1) d_C_task_0 rfl rfl rfl ?_
  refine AW.iload_n (pc' := 2) d_C_task_1 rfl rfl rfl ?_
  refine AW.cV (pc' := 5) d_C_task_2 rfl cv_C_114 (by decide) rfl rfl rfl (c_reqSector_ok X z k o s hs (by omega)) rfl rfl rfl rfl rfl rfl rfl ?_
  refine AW.iload_n (pc' := 6) d_C_task_5 rfl rfl rfl ?_
  refine AW.aload_n (pc' := 7) d_C_task_6 rfl rfl rfl ?_
  refine AW.getf (pc' := 10) d_C_task_7 rfl fl_C_98 rfl rfl ?_
  refine AW.icmp_lt (tgt := 19) (pc' := 13) d_C_task_10 (by decide) rfl (fun h10 => ?_) (fun h10 => ?_)
  · exact AW.throwS (x := 0) d_C_task_19 d_C_task_22 d_C_task_23 d_C_task_25 d_C_task_28 cl_C_65 ini_java_lang_IndexOutOfBoundsException sr_C_161 thr_0 rfl (by decide) rfl rfl rfl ⟨rfl, rfl⟩
  · refine AW.iload_n (pc' := 14) d_C_task_13 rfl rfl rfl ?_
    refine AW.ldc (pc' := 16) d_C_task_14 rfl cn_C_160 ?_
    refine AW.top (u := .int (nI 99999)) (by decide) ?_
    refine AW.icmp_le (tgt := 29) (pc' := 19) d_C_task_16 (by decide) rfl (fun h => hy.elim (fun q => absurd q h10) (fun q => absurd h (Int32.not_le.mpr q))) (fun h16 => ?_)
    exact AW.throwS (x := 0) d_C_task_19 d_C_task_22 d_C_task_23 d_C_task_25 d_C_task_28 cl_C_65 ini_java_lang_IndexOutOfBoundsException sr_C_161 thr_0 rfl (by decide) rfl rfl rfl ⟨rfl, rfl⟩
theorem c_task_2 (X : ct_X) (z : S_c) (k : S_m) (o : Nat → Int64) (s : Nat) (hs : s < c_ns z) (hn : c_ns z ≤ 20) (t : Nat) (ht : c_sec z ≤ t) (ht2 : t ≤ 99999) (h1 : c_opn z s = 0) : AF X m_C_task 7 0 0 [.ref 0, .int (nI (s)), .int (nI (t))] (wL z k o) (.inr 3) (wL z k o) := by
  refine AM.of rfl (Nat.le_of_ble_eq_true rfl) (ls := [some (.ref 0), some (.int (nI (s))), some (.int (nI (t)))]) rfl ?_
  refine AW.aload_n (pc' := 1) d_C_task_0 rfl rfl rfl ?_
  refine AW.iload_n (pc' := 2) d_C_task_1 rfl rfl rfl ?_
  refine AW.cV (pc' := 5) d_C_task_2 rfl cv_C_114 (by decide) rfl rfl rfl (c_reqSector_ok X z k o s hs (by omega)) rfl rfl rfl rfl rfl rfl rfl ?_
  refine AW.iload_n (pc' := 6) d_C_task_5 rfl rfl rfl ?_
  refine AW.aload_n (pc' := 7) d_C_task_6 rfl rfl rfl ?_
  refine AW.getf (pc' := 10) d_C_task_7 rfl fl_C_98 rfl rfl ?_
  refine AW.icmp_ltN (tgt := 19) (pc' := 13) d_C_task_10 (by decide) rfl (by omega) (by omega) (fun h => absurd h (by omega)) (fun h10 => ?_)
  refine AW.iload_n (pc' := 14) d_C_task_13 rfl rfl rfl ?_
  refine AW.ldc (pc' := 16) d_C_task_14 rfl cn_C_160 ?_
  refine AW.top (u := .int (nI 99999)) (by decide) ?_
  refine AW.icmp_leN (tgt := 29) (pc' := 19) d_C_task_16 (by decide) rfl (by omega) (by omega) (fun h16 => ?_) (fun h => absurd h (by omega))
  refine AW.aload_n (pc' := 30) d_C_task_29 rfl rfl rfl ?_
  refine AW.iload_n (pc' := 31) d_C_task_30 rfl rfl rfl ?_
  exact AW.cVx d_C_task_31 cv_C_119 (by decide) rfl rfl rfl (c_reqOpen_no X z k o s (by omega) h1) rfl rfl rfl rfl rfl rfl rfl ⟨rfl, rfl⟩
theorem c_task_3 (X : ct_X) (z : S_c) (k : S_m) (o : Nat → Int64) (s : Nat) (hs : s < c_ns z) (hn : c_ns z ≤ 20) (t : Nat) (ht : c_sec z ≤ t) (ht2 : t ≤ 99999) (h1 : ¬ c_opn z s = 0) (h2 : t_n z = 60) : AF X m_C_task 7 0 0 [.ref 0, .int (nI (s)), .int (nI (t))] (wL z k o) (.inr 1) (wL z k o) := by
  refine AM.of rfl (Nat.le_of_ble_eq_true rfl) (ls := [some (.ref 0), some (.int (nI (s))), some (.int (nI (t)))]) rfl ?_
  refine AW.aload_n (pc' := 1) d_C_task_0 rfl rfl rfl ?_
  refine AW.iload_n (pc' := 2) d_C_task_1 rfl rfl rfl ?_
  refine AW.cV (pc' := 5) d_C_task_2 rfl cv_C_114 (by decide) rfl rfl rfl (c_reqSector_ok X z k o s hs (by omega)) rfl rfl rfl rfl rfl rfl rfl ?_
  refine AW.iload_n (pc' := 6) d_C_task_5 rfl rfl rfl ?_
  refine AW.aload_n (pc' := 7) d_C_task_6 rfl rfl rfl ?_
  refine AW.getf (pc' := 10) d_C_task_7 rfl fl_C_98 rfl rfl ?_
  refine AW.icmp_ltN (tgt := 19) (pc' := 13) d_C_task_10 (by decide) rfl (by omega) (by omega) (fun h => absurd h (by omega)) (fun h10 => ?_)
  refine AW.iload_n (pc' := 14) d_C_task_13 rfl rfl rfl ?_
  refine AW.ldc (pc' := 16) d_C_task_14 rfl cn_C_160 ?_
  refine AW.top (u := .int (nI 99999)) (by decide) ?_
  refine AW.icmp_leN (tgt := 29) (pc' := 19) d_C_task_16 (by decide) rfl (by omega) (by omega) (fun h16 => ?_) (fun h => absurd h (by omega))
  refine AW.aload_n (pc' := 30) d_C_task_29 rfl rfl rfl ?_
  refine AW.iload_n (pc' := 31) d_C_task_30 rfl rfl rfl ?_
  refine AW.cV (pc' := 34) d_C_task_31 rfl cv_C_119 (by decide) rfl rfl rfl (c_reqOpen_ok X z k o s (by omega) h1) rfl rfl rfl rfl rfl rfl rfl ?_
  refine AW.aload_n (pc' := 35) d_C_task_34 rfl rfl rfl ?_
  refine AW.getf (pc' := 38) d_C_task_35 rfl fl_C_54 rfl rfl ?_
  refine AW.cV (pc' := 41) d_C_task_38 rfl cv_C_163 (by decide) rfl rfl rfl (c_isFull_t X z k o (by omega) (by omega)) rfl rfl rfl rfl rfl rfl rfl ?_
  refine AW.if_eq (tgt := 54) (pc' := 44) d_C_task_41 (by decide) rfl (fun h => absurd h (by decide)) (fun _ => ?_)
  exact AW.throwS (x := 1) d_C_task_44 d_C_task_47 d_C_task_48 d_C_task_50 d_C_task_53 cl_C_75 ini_java_lang_UnsupportedOperationException sr_C_167 thr_1 rfl (by decide) rfl rfl rfl ⟨rfl, rfl⟩
theorem c_task_4 (X : ct_X) (z : S_c) (k : S_m) (o : Nat → Int64) (s : Nat) (hs : s < c_ns z) (hn : c_ns z ≤ 20) (t : Nat) (ht : c_sec z ≤ t) (ht2 : t ≤ 99999) (h1 : ¬ c_opn z s = 0) (h2 : t_n z < 60) : AF X m_C_task 7 0 0 [.ref 0, .int (nI (s)), .int (nI (t))] (wL z k o) (.inl (some (.int (nI (t_n z))))) (wL (t_n_ (t_unt_ (t_sec_ z (upd (t_sec z) (t_n z) (nI s))) (upd (t_unt z) (t_n z) (nI t))) (t_n z + 1)) k o) := by
  refine AM.of rfl (Nat.le_of_ble_eq_true rfl) (ls := [some (.ref 0), some (.int (nI (s))), some (.int (nI (t)))]) rfl ?_
  refine AW.aload_n (pc' := 1) d_C_task_0 rfl rfl rfl ?_
  refine AW.iload_n (pc' := 2) d_C_task_1 rfl rfl rfl ?_
  refine AW.cV (pc' := 5) d_C_task_2 rfl cv_C_114 (by decide) rfl rfl rfl (c_reqSector_ok X z k o s hs (by omega)) rfl rfl rfl rfl rfl rfl rfl ?_
  refine AW.iload_n (pc' := 6) d_C_task_5 rfl rfl rfl ?_
  refine AW.aload_n (pc' := 7) d_C_task_6 rfl rfl rfl ?_
  refine AW.getf (pc' := 10) d_C_task_7 rfl fl_C_98 rfl rfl ?_
  refine AW.icmp_ltN (tgt := 19) (pc' := 13) d_C_task_10 (by decide) rfl (by omega) (by omega) (fun h => absurd h (by omega)) (fun h10 => ?_)
  refine AW.iload_n (pc' := 14) d_C_task_13 rfl rfl rfl ?_
  refine AW.ldc (pc' := 16) d_C_task_14 rfl cn_C_160 ?_
  refine AW.top (u := .int (nI 99999)) (by decide) ?_
  refine AW.icmp_leN (tgt := 29) (pc' := 19) d_C_task_16 (by decide) rfl (by omega) (by omega) (fun h16 => ?_) (fun h => absurd h (by omega))
  refine AW.aload_n (pc' := 30) d_C_task_29 rfl rfl rfl ?_
  refine AW.iload_n (pc' := 31) d_C_task_30 rfl rfl rfl ?_
  refine AW.cV (pc' := 34) d_C_task_31 rfl cv_C_119 (by decide) rfl rfl rfl (c_reqOpen_ok X z k o s (by omega) h1) rfl rfl rfl rfl rfl rfl rfl ?_
  refine AW.aload_n (pc' := 35) d_C_task_34 rfl rfl rfl ?_
  refine AW.getf (pc' := 38) d_C_task_35 rfl fl_C_54 rfl rfl ?_
  refine AW.cV (pc' := 41) d_C_task_38 rfl cv_C_163 (by decide) rfl rfl rfl (c_isFull_f X z k o h2) rfl rfl rfl rfl rfl rfl rfl ?_
  refine AW.if_eq (tgt := 54) (pc' := 44) d_C_task_41 (by decide) rfl (fun _ => ?_) (fun h => absurd h (by decide))
  refine AW.aload_n (pc' := 55) d_C_task_54 rfl rfl rfl ?_
  refine AW.getf (pc' := 58) d_C_task_55 rfl fl_C_54 rfl rfl ?_
  refine AW.iload_n (pc' := 59) d_C_task_58 rfl rfl rfl ?_
  refine AW.iload_n (pc' := 60) d_C_task_59 rfl rfl rfl ?_
  refine AW.cV (pc' := 63) d_C_task_60 rfl cv_C_169 (by decide) rfl rfl rfl (c_add X z k o (nI s) (nI t) h2) rfl rfl rfl rfl rfl rfl rfl ?_
  exact AW.iret d_C_task_63 rfl rfl rfl ⟨rfl, rfl⟩
theorem c_answer_0 (X : ct_X) (z : S_c) (k : S_m) (o : Nat → Int64) (x y : Int32) (hx : x < 0 ∨ nI (t_n z) ≤ x) : AF X m_C_answer 7 0 0 [.ref 0, .int (x), .int (y)] (wL z k o) (.inr 2) (wL z k o) := by
  refine AM.of rfl (Nat.le_of_ble_eq_true rfl) (ls := [some (.ref 0), some (.int (x)), some (.int (y))]) rfl ?_
  refine AW.aload_n (pc' := 1) d_C_answer_0 rfl rfl rfl ?_
  refine AW.iload_n (pc' := 2) d_C_answer_1 rfl rfl rfl ?_
  exact AW.cVx d_C_answer_2 cv_C_173 (by decide) rfl rfl rfl (c_reqTask_no X z k o x hx) rfl rfl rfl rfl rfl rfl rfl ⟨rfl, rfl⟩
theorem c_answer_1 (X : ct_X) (z : S_c) (k : S_m) (o : Nat → Int64) (t : Nat) (ht : t < t_n z) (htn : t_n z ≤ 60) (y : Int32) (h1 : ¬ t_rep z t = 0) : AF X m_C_answer 7 0 0 [.ref 0, .int (nI (t)), .int (y)] (wL z k o) (.inr 3) (wL z k o) := by
  refine AM.of rfl (Nat.le_of_ble_eq_true rfl) (ls := [some (.ref 0), some (.int (nI (t))), some (.int (y))]) rfl ?_
  refine AW.aload_n (pc' := 1) d_C_answer_0 rfl rfl rfl ?_
  refine AW.iload_n (pc' := 2) d_C_answer_1 rfl rfl rfl ?_
  refine AW.cV (pc' := 5) d_C_answer_2 rfl cv_C_173 (by decide) rfl rfl rfl (c_reqTask_ok X z k o t ht (by omega)) rfl rfl rfl rfl rfl rfl rfl ?_
  refine AW.aload_n (pc' := 6) d_C_answer_5 rfl rfl rfl ?_
  refine AW.getf (pc' := 9) d_C_answer_6 rfl fl_C_54 rfl rfl ?_
  refine AW.iload_n (pc' := 10) d_C_answer_9 rfl rfl rfl ?_
  refine AW.cV (pc' := 13) d_C_answer_10 rfl cv_C_176 (by decide) rfl rfl rfl (c_isAnswered_t X z k o t (by omega) h1) rfl rfl rfl rfl rfl rfl rfl ?_
  refine AW.if_eq (tgt := 26) (pc' := 16) d_C_answer_13 (by decide) rfl (fun h => absurd h (by decide)) (fun _ => ?_)
  exact AW.throwS (x := 3) d_C_answer_16 d_C_answer_19 d_C_answer_20 d_C_answer_22 d_C_answer_25 cl_C_93 ini_java_lang_IllegalStateException sr_C_179 thr_3 rfl (by decide) rfl rfl rfl ⟨rfl, rfl⟩
theorem c_answer_2t (X : ct_X) (z : S_c) (k : S_m) (o : Nat → Int64) (t : Nat) (ht : t < t_n z) (htn : t_n z ≤ 60) (h1 : t_rep z t = 0) : AF X m_C_answer 7 0 0 [.ref 0, .int (nI (t)), .int (nI (1))] (wL z k o) (.inl none) (wL (t_at_ (t_rep_ z (upd (t_rep z) t (nI 1))) (upd (t_at z) t (nI (c_sec z)))) k o) := by
  refine AM.of rfl (Nat.le_of_ble_eq_true rfl) (ls := [some (.ref 0), some (.int (nI (t))), some (.int (nI (1)))]) rfl ?_
  refine AW.aload_n (pc' := 1) d_C_answer_0 rfl rfl rfl ?_
  refine AW.iload_n (pc' := 2) d_C_answer_1 rfl rfl rfl ?_
  refine AW.cV (pc' := 5) d_C_answer_2 rfl cv_C_173 (by decide) rfl rfl rfl (c_reqTask_ok X z k o t ht (by omega)) rfl rfl rfl rfl rfl rfl rfl ?_
  refine AW.aload_n (pc' := 6) d_C_answer_5 rfl rfl rfl ?_
  refine AW.getf (pc' := 9) d_C_answer_6 rfl fl_C_54 rfl rfl ?_
  refine AW.iload_n (pc' := 10) d_C_answer_9 rfl rfl rfl ?_
  refine AW.cV (pc' := 13) d_C_answer_10 rfl cv_C_176 (by decide) rfl rfl rfl (c_isAnswered_f X z k o t (by omega) h1) rfl rfl rfl rfl rfl rfl rfl ?_
  refine AW.if_eq (tgt := 26) (pc' := 16) d_C_answer_13 (by decide) rfl (fun _ => ?_) (fun h => absurd h (by decide))
  refine AW.aload_n (pc' := 27) d_C_answer_26 rfl rfl rfl ?_
  refine AW.getf (pc' := 30) d_C_answer_27 rfl fl_C_54 rfl rfl ?_
  refine AW.iload_n (pc' := 31) d_C_answer_30 rfl rfl rfl ?_
  refine AW.iload_n (pc' := 32) d_C_answer_31 rfl rfl rfl ?_
  refine AW.aload_n (pc' := 33) d_C_answer_32 rfl rfl rfl ?_
  refine AW.getf (pc' := 36) d_C_answer_33 rfl fl_C_98 rfl rfl ?_
  refine AW.cV (pc' := 39) d_C_answer_36 rfl cv_C_181 (by decide) rfl rfl rfl (c_setAnswer_t X z k o t (c_sec z) (by omega)) rfl rfl rfl rfl rfl rfl rfl ?_
  exact AW.vret d_C_answer_39 rfl rfl rfl ⟨rfl, rfl⟩
theorem c_answer_2f (X : ct_X) (z : S_c) (k : S_m) (o : Nat → Int64) (t : Nat) (ht : t < t_n z) (htn : t_n z ≤ 60) (h1 : t_rep z t = 0) : AF X m_C_answer 7 0 0 [.ref 0, .int (nI (t)), .int (nI (0))] (wL z k o) (.inl none) (wL (t_at_ (t_rep_ z (upd (t_rep z) t (nI 2))) (upd (t_at z) t (nI (c_sec z)))) k o) := by
  refine AM.of rfl (Nat.le_of_ble_eq_true rfl) (ls := [some (.ref 0), some (.int (nI (t))), some (.int (nI (0)))]) rfl ?_
  refine AW.aload_n (pc' := 1) d_C_answer_0 rfl rfl rfl ?_
  refine AW.iload_n (pc' := 2) d_C_answer_1 rfl rfl rfl ?_
  refine AW.cV (pc' := 5) d_C_answer_2 rfl cv_C_173 (by decide) rfl rfl rfl (c_reqTask_ok X z k o t ht (by omega)) rfl rfl rfl rfl rfl rfl rfl ?_
  refine AW.aload_n (pc' := 6) d_C_answer_5 rfl rfl rfl ?_
  refine AW.getf (pc' := 9) d_C_answer_6 rfl fl_C_54 rfl rfl ?_
  refine AW.iload_n (pc' := 10) d_C_answer_9 rfl rfl rfl ?_
  refine AW.cV (pc' := 13) d_C_answer_10 rfl cv_C_176 (by decide) rfl rfl rfl (c_isAnswered_f X z k o t (by omega) h1) rfl rfl rfl rfl rfl rfl rfl ?_
  refine AW.if_eq (tgt := 26) (pc' := 16) d_C_answer_13 (by decide) rfl (fun _ => ?_) (fun h => absurd h (by decide))
  refine AW.aload_n (pc' := 27) d_C_answer_26 rfl rfl rfl ?_
  refine AW.getf (pc' := 30) d_C_answer_27 rfl fl_C_54 rfl rfl ?_
  refine AW.iload_n (pc' := 31) d_C_answer_30 rfl rfl rfl ?_
  refine AW.iload_n (pc' := 32) d_C_answer_31 rfl rfl rfl ?_
  refine AW.aload_n (pc' := 33) d_C_answer_32 rfl rfl rfl ?_
  refine AW.getf (pc' := 36) d_C_answer_33 rfl fl_C_98 rfl rfl ?_
  refine AW.cV (pc' := 39) d_C_answer_36 rfl cv_C_181 (by decide) rfl rfl rfl (c_setAnswer_f X z k o t (c_sec z) (by omega)) rfl rfl rfl rfl rfl rfl rfl ?_
  exact AW.vret d_C_answer_39 rfl rfl rfl ⟨rfl, rfl⟩
theorem c_span_0 (X : ct_X) (z : S_c) (k : S_m) (o : Nat → Int64) (x : Int32) (hx : x < nI 1 ∨ nI 20 < x) : AF X m_C_span 7 0 0 [.ref 0, .int (x)] (wL z k o) (.inr 0) (wL z k o) := by
  refine AM.of rfl (Nat.le_of_ble_eq_true rfl) (ls := [some (.ref 0), some (.int (x)), none, none]) rfl ?_
  refine AW.iload_n (pc' := 1) d_C_span_0 rfl rfl rfl ?_
  refine AW.iconst (pc' := 2) (v := nI 1) d_C_span_1 rfl (by decide) ?_
  refine AW.icmp_lt (tgt := 11) (pc' := 5) d_C_span_2 (by decide) rfl (fun h2 => ?_) (fun h2 => ?_)
  · exact AW.throwS (x := 0) d_C_span_11 d_C_span_14 d_C_span_15 d_C_span_17 d_C_span_20 cl_C_65 ini_java_lang_IndexOutOfBoundsException sr_C_185 thr_0 rfl (by decide) rfl rfl rfl ⟨rfl, rfl⟩
  · refine AW.iload_n (pc' := 6) d_C_span_5 rfl rfl rfl ?_
    refine AW.bipush (pc' := 8) (v := nI 20) d_C_span_6 rfl (by decide) ?_
    refine AW.icmp_le (tgt := 21) (pc' := 11) d_C_span_8 (by decide) rfl (fun h => hx.elim (fun q => absurd q h2) (fun q => absurd h (Int32.not_le.mpr q))) (fun h8 => ?_)
    exact AW.throwS (x := 0) d_C_span_11 d_C_span_14 d_C_span_15 d_C_span_17 d_C_span_20 cl_C_65 ini_java_lang_IndexOutOfBoundsException sr_C_185 thr_0 rfl (by decide) rfl rfl rfl ⟨rfl, rfl⟩
theorem lp_span (X : ct_X) (z : S_c) (k : S_m) (o : Nat → Int64) (x : Int32) (hn : c_ns z ≤ 20) (hu : c_nu z ≤ 20) (hm : c_most z ≤ 20) : ∀ (n i : Nat), i + n = c_ns z → AW X m_C_span 7 0 0 0 0 30 [some (.ref 0), some (.int (x)), some (.int (nI (cntB (passB z) i))), some (.int (nI (i)))] [] (wL z k o) (fun r w' => r = .inl (some (.int (nI (cntB (passB z) (c_ns z))))) ∧ w' = wL z k o) := by
  intro n
  induction n with
  | zero =>
    intro i hi
    have e : i = c_ns z := by omega
    subst e
    refine AW.iload_n (pc' := 31) d_C_span_30 rfl rfl rfl ?_
    refine AW.aload_n (pc' := 32) d_C_span_31 rfl rfl rfl ?_
    refine AW.getf (pc' := 35) d_C_span_32 rfl fl_C_48 rfl rfl ?_
    refine AW.icmp_geN (tgt := 55) (pc' := 38) d_C_span_35 (by decide) rfl (by omega) (by omega) (fun h35 => ?_) (fun h => absurd h (by omega))
    refine AW.iload_n (pc' := 56) d_C_span_55 rfl rfl rfl ?_
    exact AW.iret d_C_span_56 rfl rfl rfl ⟨rfl, rfl⟩
  | succ n ih =>
    intro i hi
    refine AW.iload_n (pc' := 31) d_C_span_30 rfl rfl rfl ?_
    refine AW.aload_n (pc' := 32) d_C_span_31 rfl rfl rfl ?_
    refine AW.getf (pc' := 35) d_C_span_32 rfl fl_C_48 rfl rfl ?_
    refine AW.icmp_geN (tgt := 55) (pc' := 38) d_C_span_35 (by decide) rfl (by omega) (by omega) (fun h => absurd h (by omega)) (fun h35 => ?_)
    refine AW.aload_n (pc' := 39) d_C_span_38 rfl rfl rfl ?_
    refine AW.iload_n (pc' := 40) d_C_span_39 rfl rfl rfl ?_
    by_cases hb : passB z i = true
    · refine AW.cV (pc' := 43) d_C_span_40 rfl cv_C_187 (by decide) rfl rfl rfl (c_isPassed_t X z k o i (by omega) hn hu hm hb) rfl rfl rfl rfl rfl rfl rfl ?_
      refine AW.if_eq (tgt := 49) (pc' := 46) d_C_span_43 (by decide) rfl (fun h => absurd h (by decide)) (fun _ => ?_)
      refine AW.iincN (pc' := 49) (ls' := [some (.ref 0), some (.int (x)), some (.int (nI ((cntB (passB z) i) + 1))), some (.int (nI (i)))]) d_C_span_46 rfl rfl rfl rfl ?_
      refine AW.iincN (pc' := 52) (ls' := [some (.ref 0), some (.int (x)), some (.int (nI ((cntB (passB z) i) + 1))), some (.int (nI (i + 1)))]) d_C_span_49 rfl rfl rfl rfl ?_
      refine AW.goto (tgt := 30) d_C_span_52 (by decide) ?_
      have h9 := ih (i + 1) (by omega)
      rw [cntB_t (show (passB z) i = true from by simp [hb, hb])] at h9
      exact h9
    · refine AW.cV (pc' := 43) d_C_span_40 rfl cv_C_187 (by decide) rfl rfl rfl (c_isPassed_f X z k o i (by omega) hn hu hm (by simpa using hb)) rfl rfl rfl rfl rfl rfl rfl ?_
      refine AW.if_eq (tgt := 49) (pc' := 46) d_C_span_43 (by decide) rfl (fun _ => ?_) (fun h => absurd h (by decide))
      refine AW.iincN (pc' := 52) (ls' := [some (.ref 0), some (.int (x)), some (.int (nI (cntB (passB z) i))), some (.int (nI (i + 1)))]) d_C_span_49 rfl rfl rfl rfl ?_
      refine AW.goto (tgt := 30) d_C_span_52 (by decide) ?_
      have h9 := ih (i + 1) (by omega)
      rw [cntB_f (show (passB z) i = false from by simp [hb, hb])] at h9
      exact h9
theorem c_span_1 (X : ct_X) (z : S_c) (k : S_m) (o : Nat → Int64) (m : Nat) (hm1 : 1 ≤ m) (hm2 : m ≤ 20) (hn : c_ns z ≤ 20) (hu : c_nu z ≤ 20) : AF X m_C_span 7 0 0 [.ref 0, .int (nI (m))] (wL z k o) (.inl (some (.int (nI (cntB (passB (c_most_ z m)) (c_ns z)))))) (wL (c_most_ z m) k o) := by
  refine AM.of rfl (Nat.le_of_ble_eq_true rfl) (ls := [some (.ref 0), some (.int (nI (m))), none, none]) rfl ?_
  refine AW.iload_n (pc' := 1) d_C_span_0 rfl rfl rfl ?_
  refine AW.iconst (pc' := 2) (v := nI 1) d_C_span_1 rfl (by decide) ?_
  refine AW.icmp_ltN (tgt := 11) (pc' := 5) d_C_span_2 (by decide) rfl (by omega) (by omega) (fun h => absurd h (by omega)) (fun h2 => ?_)
  refine AW.iload_n (pc' := 6) d_C_span_5 rfl rfl rfl ?_
  refine AW.bipush (pc' := 8) (v := nI 20) d_C_span_6 rfl (by decide) ?_
  refine AW.icmp_leN (tgt := 21) (pc' := 11) d_C_span_8 (by decide) rfl (by omega) (by omega) (fun h8 => ?_) (fun h => absurd h (by omega))
  refine AW.aload_n (pc' := 22) d_C_span_21 rfl rfl rfl ?_
  refine AW.iload_n (pc' := 23) d_C_span_22 rfl rfl rfl ?_
  refine AW.putf (pc' := 26) (w' := (wL (c_most_ z (m)) k o)) d_C_span_23 rfl fp_C_9 rfl rfl (fun _ => ⟨rfl, rfl⟩) rfl rfl ?_
  refine AW.iconst (pc' := 27) (v := nI 0) d_C_span_26 rfl (by decide) ?_
  refine AW.istore_n (pc' := 28) (ls' := [some (.ref 0), some (.int (nI (m))), some (.int (nI (0))), none]) d_C_span_27 rfl rfl rfl rfl ?_
  refine AW.iconst (pc' := 29) (v := nI 0) d_C_span_28 rfl (by decide) ?_
  refine AW.istore_n (pc' := 30) (ls' := [some (.ref 0), some (.int (nI (m))), some (.int (nI (0))), some (.int (nI (0)))]) d_C_span_29 rfl rfl rfl rfl ?_
  exact lp_span X (c_most_ z m) k o (nI m) hn hu hm2 (c_ns z) 0 (by show 0 + c_ns z = c_ns z; omega)
theorem c_tick_0 (X : ct_X) (z : S_c) (k : S_m) (o : Nat → Int64) (x : Int32) (hc : c_sec z ≤ 99999) (hx : x < nI 1 ∨ nI 5000 < x ∨ nI (99999 - c_sec z) < x) : AF X m_C_tick 7 0 0 [.ref 0, .int (x)] (wL z k o) (.inr 0) (wL z k o) := by
  refine AM.of rfl (Nat.le_of_ble_eq_true rfl) (ls := [some (.ref 0), some (.int (x)), none]) rfl ?_
  refine AW.iload_n (pc' := 1) d_C_tick_0 rfl rfl rfl ?_
  refine AW.iconst (pc' := 2) (v := nI 1) d_C_tick_1 rfl (by decide) ?_
  refine AW.icmp_lt (tgt := 23) (pc' := 5) d_C_tick_2 (by decide) rfl (fun h2 => ?_) (fun h2 => ?_)
  · exact AW.throwS (x := 0) d_C_tick_23 d_C_tick_26 d_C_tick_27 d_C_tick_29 d_C_tick_32 cl_C_65 ini_java_lang_IndexOutOfBoundsException sr_C_190 thr_0 rfl (by decide) rfl rfl rfl ⟨rfl, rfl⟩
  · refine AW.iload_n (pc' := 6) d_C_tick_5 rfl rfl rfl ?_
    refine AW.sipush (pc' := 9) (v := nI 5000) d_C_tick_6 rfl (by decide) ?_
    refine AW.icmp_gt (tgt := 23) (pc' := 12) d_C_tick_9 (by decide) rfl (fun h9 => ?_) (fun h9 => ?_)
    · exact AW.throwS (x := 0) d_C_tick_23 d_C_tick_26 d_C_tick_27 d_C_tick_29 d_C_tick_32 cl_C_65 ini_java_lang_IndexOutOfBoundsException sr_C_190 thr_0 rfl (by decide) rfl rfl rfl ⟨rfl, rfl⟩
    · refine AW.iload_n (pc' := 13) d_C_tick_12 rfl rfl rfl ?_
      refine AW.ldc (pc' := 15) d_C_tick_13 rfl cn_C_160 ?_
      refine AW.top (u := .int (nI 99999)) (by decide) ?_
      refine AW.aload_n (pc' := 16) d_C_tick_15 rfl rfl rfl ?_
      refine AW.getf (pc' := 19) d_C_tick_16 rfl fl_C_98 rfl rfl ?_
      refine AW.isubN (pc' := 20) d_C_tick_19 rfl (by omega) ?_
      refine AW.icmp_le (tgt := 33) (pc' := 23) d_C_tick_20 (by decide) rfl (fun h => hx.elim (fun q => absurd q h2) (fun q => q.elim (fun q => absurd q h9) (fun q => absurd h (Int32.not_le.mpr q)))) (fun h20 => ?_)
      exact AW.throwS (x := 0) d_C_tick_23 d_C_tick_26 d_C_tick_27 d_C_tick_29 d_C_tick_32 cl_C_65 ini_java_lang_IndexOutOfBoundsException sr_C_190 thr_0 rfl (by decide) rfl rfl rfl ⟨rfl, rfl⟩
theorem c_tick_1 (X : ct_X) (z : S_c) (k : S_m) (o : Nat → Int64) (n : Nat) (hc : c_sec z ≤ 99999) (h1 : 1 ≤ n) (h2 : n ≤ 5000) (h3 : n ≤ 99999 - c_sec z) (htn : t_n z ≤ 60) : AF X m_C_tick 7 0 0 [.ref 0, .int (nI (n))] (wL z k o) (.inl (some (.int (nI (cntB (overB z (c_sec z) (c_sec z + n)) (t_n z)))))) (wL (c_sec_ z (c_sec z + n)) k o) := by
  refine AM.of rfl (Nat.le_of_ble_eq_true rfl) (ls := [some (.ref 0), some (.int (nI (n))), none]) rfl ?_
  refine AW.iload_n (pc' := 1) d_C_tick_0 rfl rfl rfl ?_
  refine AW.iconst (pc' := 2) (v := nI 1) d_C_tick_1 rfl (by decide) ?_
  refine AW.icmp_ltN (tgt := 23) (pc' := 5) d_C_tick_2 (by decide) rfl (by omega) (by omega) (fun h => absurd h (by omega)) (fun h2 => ?_)
  refine AW.iload_n (pc' := 6) d_C_tick_5 rfl rfl rfl ?_
  refine AW.sipush (pc' := 9) (v := nI 5000) d_C_tick_6 rfl (by decide) ?_
  refine AW.icmp_gtN (tgt := 23) (pc' := 12) d_C_tick_9 (by decide) rfl (by omega) (by omega) (fun h => absurd h (by omega)) (fun h9 => ?_)
  refine AW.iload_n (pc' := 13) d_C_tick_12 rfl rfl rfl ?_
  refine AW.ldc (pc' := 15) d_C_tick_13 rfl cn_C_160 ?_
  refine AW.top (u := .int (nI 99999)) (by decide) ?_
  refine AW.aload_n (pc' := 16) d_C_tick_15 rfl rfl rfl ?_
  refine AW.getf (pc' := 19) d_C_tick_16 rfl fl_C_98 rfl rfl ?_
  refine AW.isubN (pc' := 20) d_C_tick_19 rfl (by omega) ?_
  refine AW.icmp_leN (tgt := 33) (pc' := 23) d_C_tick_20 (by decide) rfl (by omega) (by omega) (fun h20 => ?_) (fun h => absurd h (by omega))
  refine AW.aload_n (pc' := 34) d_C_tick_33 rfl rfl rfl ?_
  refine AW.getf (pc' := 37) d_C_tick_34 rfl fl_C_98 rfl rfl ?_
  refine AW.istore_n (pc' := 38) (ls' := [some (.ref 0), some (.int (nI (n))), some (.int (nI (c_sec z)))]) d_C_tick_37 rfl rfl rfl rfl ?_
  refine AW.aload_n (pc' := 39) d_C_tick_38 rfl rfl rfl ?_
  refine AW.iload_n (pc' := 40) d_C_tick_39 rfl rfl rfl ?_
  refine AW.iload_n (pc' := 41) d_C_tick_40 rfl rfl rfl ?_
  refine AW.iaddN (pc' := 42) d_C_tick_41 rfl ?_
  refine AW.putf (pc' := 45) (w' := (wL (c_sec_ z ((c_sec z) + n)) k o)) d_C_tick_42 rfl fp_C_98 rfl rfl (fun _ => ⟨rfl, rfl⟩) rfl rfl ?_
  refine AW.aload_n (pc' := 46) d_C_tick_45 rfl rfl rfl ?_
  refine AW.getf (pc' := 49) d_C_tick_46 rfl fl_C_54 rfl rfl ?_
  refine AW.iload_n (pc' := 50) d_C_tick_49 rfl rfl rfl ?_
  refine AW.aload_n (pc' := 51) d_C_tick_50 rfl rfl rfl ?_
  refine AW.getf (pc' := 54) d_C_tick_51 rfl fl_C_98 rfl rfl ?_
  refine AW.top (u := .int (nI ((c_sec z) + n))) rfl ?_
  refine AW.cV (pc' := 57) d_C_tick_54 rfl cv_C_192 (by decide) rfl rfl rfl (c_over X (c_sec_ z ((c_sec z) + n)) k o (c_sec z) (c_sec z + n) htn) rfl rfl rfl rfl rfl rfl rfl ?_
  exact AW.iret d_C_tick_57 rfl rfl rfl ⟨rfl, rfl⟩
theorem c_led_0 (X : ct_X) (z : S_c) (k : S_m) (o : Nat → Int64) (x y : Int32) (hx : x < 0 ∨ nI (c_ns z) ≤ x) : AF X m_C_led 7 0 0 [.ref 0, .int (x), .int (y)] (wL z k o) (.inr 2) (wL z k o) := by
  refine AM.of rfl (Nat.le_of_ble_eq_true rfl) (ls := [some (.ref 0), some (.int (x)), some (.int (y))]) rfl ?_
  refine AW.aload_n (pc' := 1) d_C_led_0 rfl rfl rfl ?_
  refine AW.iload_n (pc' := 2) d_C_led_1 rfl rfl rfl ?_
  exact AW.cVx d_C_led_2 cv_C_114 (by decide) rfl rfl rfl (c_reqSector_no X z k o x hx) rfl rfl rfl rfl rfl rfl rfl ⟨rfl, rfl⟩
theorem c_led_1 (X : ct_X) (z : S_c) (k : S_m) (o : Nat → Int64) (s : Nat) (hs : s < c_ns z) (hn : c_ns z ≤ 20) (y : Int32) (hy : y < 0 ∨ nI (c_sec z) < y) : AF X m_C_led 7 0 0 [.ref 0, .int (nI (s)), .int (y)] (wL z k o) (.inr 0) (wL z k o) := by
  refine AM.of rfl (Nat.le_of_ble_eq_true rfl) (ls := [some (.ref 0), some (.int (nI (s))), some (.int (y))]) rfl ?_
  refine AW.aload_n (pc' := 1) d_C_led_0 rfl rfl rfl ?_
  refine AW.iload_n (pc' := 2) d_C_led_1 rfl rfl rfl ?_
  refine AW.cV (pc' := 5) d_C_led_2 rfl cv_C_114 (by decide) rfl rfl rfl (c_reqSector_ok X z k o s hs (by omega)) rfl rfl rfl rfl rfl rfl rfl ?_
  refine AW.iload_n (pc' := 6) d_C_led_5 rfl rfl rfl ?_
  refine AW.if_lt (tgt := 17) (pc' := 9) d_C_led_6 (by decide) rfl (fun h6 => ?_) (fun h6 => ?_)
  · exact AW.throwS (x := 0) d_C_led_17 d_C_led_20 d_C_led_21 d_C_led_23 d_C_led_26 cl_C_65 ini_java_lang_IndexOutOfBoundsException sr_C_195 thr_0 rfl (by decide) rfl rfl rfl ⟨rfl, rfl⟩
  · refine AW.iload_n (pc' := 10) d_C_led_9 rfl rfl rfl ?_
    refine AW.aload_n (pc' := 11) d_C_led_10 rfl rfl rfl ?_
    refine AW.getf (pc' := 14) d_C_led_11 rfl fl_C_98 rfl rfl ?_
    refine AW.icmp_le (tgt := 27) (pc' := 17) d_C_led_14 (by decide) rfl (fun h => hy.elim (fun q => absurd q h6) (fun q => absurd h (Int32.not_le.mpr q))) (fun h14 => ?_)
    exact AW.throwS (x := 0) d_C_led_17 d_C_led_20 d_C_led_21 d_C_led_23 d_C_led_26 cl_C_65 ini_java_lang_IndexOutOfBoundsException sr_C_195 thr_0 rfl (by decide) rfl rfl rfl ⟨rfl, rfl⟩
theorem c_led_2 (X : ct_X) (z : S_c) (k : S_m) (o : Nat → Int64) (s : Nat) (hs : s < c_ns z) (hn : c_ns z ≤ 20) (t : Nat) (ht : t ≤ c_sec z) (hc : c_sec z ≤ 99999) (h1 : t < r_drop z) (h2 : r_drop z < 2 ^ 31) : AF X m_C_led 7 0 0 [.ref 0, .int (nI (s)), .int (nI (t))] (wL z k o) (.inr 1) (wL z k o) := by
  refine AM.of rfl (Nat.le_of_ble_eq_true rfl) (ls := [some (.ref 0), some (.int (nI (s))), some (.int (nI (t)))]) rfl ?_
  refine AW.aload_n (pc' := 1) d_C_led_0 rfl rfl rfl ?_
  refine AW.iload_n (pc' := 2) d_C_led_1 rfl rfl rfl ?_
  refine AW.cV (pc' := 5) d_C_led_2 rfl cv_C_114 (by decide) rfl rfl rfl (c_reqSector_ok X z k o s hs (by omega)) rfl rfl rfl rfl rfl rfl rfl ?_
  refine AW.iload_n (pc' := 6) d_C_led_5 rfl rfl rfl ?_
  refine AW.if_lt (tgt := 17) (pc' := 9) d_C_led_6 (by decide) rfl (fun h => absurd h (nI_pos (by omega))) (fun _ => ?_)
  refine AW.iload_n (pc' := 10) d_C_led_9 rfl rfl rfl ?_
  refine AW.aload_n (pc' := 11) d_C_led_10 rfl rfl rfl ?_
  refine AW.getf (pc' := 14) d_C_led_11 rfl fl_C_98 rfl rfl ?_
  refine AW.icmp_leN (tgt := 27) (pc' := 17) d_C_led_14 (by decide) rfl (by omega) (by omega) (fun h14 => ?_) (fun h => absurd h (by omega))
  refine AW.aload_n (pc' := 28) d_C_led_27 rfl rfl rfl ?_
  refine AW.getf (pc' := 31) d_C_led_28 rfl fl_C_61 rfl rfl ?_
  refine AW.iload_n (pc' := 32) d_C_led_31 rfl rfl rfl ?_
  refine AW.cV (pc' := 35) d_C_led_32 rfl cv_C_197 (by decide) rfl rfl rfl (c_reach_f X z k o t h2 h1) rfl rfl rfl rfl rfl rfl rfl ?_
  refine AW.if_ne (tgt := 48) (pc' := 38) d_C_led_35 (by decide) rfl (fun h => absurd h (by decide)) (fun _ => ?_)
  exact AW.throwS (x := 1) d_C_led_38 d_C_led_41 d_C_led_42 d_C_led_44 d_C_led_47 cl_C_75 ini_java_lang_UnsupportedOperationException sr_C_200 thr_1 rfl (by decide) rfl rfl rfl ⟨rfl, rfl⟩
theorem c_led_3 (X : ct_X) (z : S_c) (k : S_m) (o : Nat → Int64) (s : Nat) (hs : s < c_ns z) (hn : c_ns z ≤ 20) (t : Nat) (ht : t ≤ c_sec z) (hc : c_sec z ≤ 99999) (h1 : r_drop z ≤ t) (hR : Ring z) : AF X m_C_led 7 0 0 [.ref 0, .int (nI (s)), .int (nI (t))] (wL z k o) (.inl (some (.int (f_lead z (nI s) (nI t) (r_n z) 0 (r_bef z s))))) (wL z k o) := by
  refine AM.of rfl (Nat.le_of_ble_eq_true rfl) (ls := [some (.ref 0), some (.int (nI (s))), some (.int (nI (t)))]) rfl ?_
  refine AW.aload_n (pc' := 1) d_C_led_0 rfl rfl rfl ?_
  refine AW.iload_n (pc' := 2) d_C_led_1 rfl rfl rfl ?_
  refine AW.cV (pc' := 5) d_C_led_2 rfl cv_C_114 (by decide) rfl rfl rfl (c_reqSector_ok X z k o s hs (by omega)) rfl rfl rfl rfl rfl rfl rfl ?_
  refine AW.iload_n (pc' := 6) d_C_led_5 rfl rfl rfl ?_
  refine AW.if_lt (tgt := 17) (pc' := 9) d_C_led_6 (by decide) rfl (fun h => absurd h (nI_pos (by omega))) (fun _ => ?_)
  refine AW.iload_n (pc' := 10) d_C_led_9 rfl rfl rfl ?_
  refine AW.aload_n (pc' := 11) d_C_led_10 rfl rfl rfl ?_
  refine AW.getf (pc' := 14) d_C_led_11 rfl fl_C_98 rfl rfl ?_
  refine AW.icmp_leN (tgt := 27) (pc' := 17) d_C_led_14 (by decide) rfl (by omega) (by omega) (fun h14 => ?_) (fun h => absurd h (by omega))
  refine AW.aload_n (pc' := 28) d_C_led_27 rfl rfl rfl ?_
  refine AW.getf (pc' := 31) d_C_led_28 rfl fl_C_61 rfl rfl ?_
  refine AW.iload_n (pc' := 32) d_C_led_31 rfl rfl rfl ?_
  refine AW.cV (pc' := 35) d_C_led_32 rfl cv_C_197 (by decide) rfl rfl rfl (c_reach_t X z k o t (by omega) h1) rfl rfl rfl rfl rfl rfl rfl ?_
  refine AW.if_ne (tgt := 48) (pc' := 38) d_C_led_35 (by decide) rfl (fun _ => ?_) (fun h => absurd h (by decide))
  refine AW.aload_n (pc' := 49) d_C_led_48 rfl rfl rfl ?_
  refine AW.getf (pc' := 52) d_C_led_49 rfl fl_C_61 rfl rfl ?_
  refine AW.iload_n (pc' := 53) d_C_led_52 rfl rfl rfl ?_
  refine AW.iload_n (pc' := 54) d_C_led_53 rfl rfl rfl ?_
  refine AW.cV (pc' := 57) d_C_led_54 rfl cv_C_202 (by decide) rfl rfl rfl (c_lead X z k o s (nI t) (by omega) hR.1 hR.2.1) rfl rfl rfl rfl rfl rfl rfl ?_
  exact AW.iret d_C_led_57 rfl rfl rfl ⟨rfl, rfl⟩
theorem sw_out {x : Int32} {n : Nat} (hn : n < 2 ^ 31) (h : x < 0 ∨ nI n < x) : x.toInt < 0 ∨ (n : Int) < x.toInt := by
  rcases h with h | h
  · exact Or.inl (Int32.lt_iff_toInt_lt.mp h)
  · have h2 := Int32.lt_iff_toInt_lt.mp h
    rw [nI_toInt hn] at h2
    exact Or.inr h2
theorem c_sectorAt_x (X : ct_X) (z : S_c) (k : S_m) (o : Nat → Int64) (x y : Int32) (hx : x < 0 ∨ nI (c_ns z) ≤ x) : AF X m_C_sectorAt 7 0 0 [.ref 0, .int (x), .int (y)] (wL z k o) (.inr 2) (wL z k o) := by
  refine AM.of rfl (Nat.le_of_ble_eq_true rfl) (ls := [some (.ref 0), some (.int (x)), some (.int (y))]) rfl ?_
  refine AW.aload_n (pc' := 1) d_C_sectorAt_0 rfl rfl rfl ?_
  refine AW.iload_n (pc' := 2) d_C_sectorAt_1 rfl rfl rfl ?_
  exact AW.cVx d_C_sectorAt_2 cv_C_114 (by decide) rfl rfl rfl (c_reqSector_no X z k o x hx) rfl rfl rfl rfl rfl rfl rfl ⟨rfl, rfl⟩
theorem c_sectorAt_y (X : ct_X) (z : S_c) (k : S_m) (o : Nat → Int64) (s : Nat) (hs : s < c_ns z) (hn : c_ns z ≤ 20) (y : Int32) (hy : y < 0 ∨ nI 7 < y) : AF X m_C_sectorAt 7 0 0 [.ref 0, .int (nI (s)), .int (y)] (wL z k o) (.inr 2) (wL z k o) := by
  refine AM.of rfl (Nat.le_of_ble_eq_true rfl) (ls := [some (.ref 0), some (.int (nI (s))), some (.int (y))]) rfl ?_
  refine AW.aload_n (pc' := 1) d_C_sectorAt_0 rfl rfl rfl ?_
  refine AW.iload_n (pc' := 2) d_C_sectorAt_1 rfl rfl rfl ?_
  refine AW.cV (pc' := 5) d_C_sectorAt_2 rfl cv_C_114 (by decide) rfl rfl rfl (c_reqSector_ok X z k o s hs (by omega)) rfl rfl rfl rfl rfl rfl rfl ?_
  refine AW.iload_n (pc' := 6) d_C_sectorAt_5 rfl rfl rfl ?_
  refine AW.tableOut (tgt := 134) d_C_sectorAt_6 (sw_out (by decide) hy) (by decide) ?_
  exact AW.throwS (x := 2) d_C_sectorAt_134 d_C_sectorAt_137 d_C_sectorAt_138 d_C_sectorAt_140 d_C_sectorAt_143 cl_C_212 ini_java_lang_IllegalArgumentException sr_C_214 thr_2 rfl (by decide) rfl rfl rfl ⟨rfl, rfl⟩
theorem c_sectorAt_0t (X : ct_X) (z : S_c) (k : S_m) (o : Nat → Int64) (s : Nat) (hs : s < c_ns z) (hn : c_ns z ≤ 20) (h1 : ¬ c_opn z s = 0) : AF X m_C_sectorAt 7 0 0 [.ref 0, .int (nI (s)), .int (nI (0))] (wL z k o) (.inl (some (.int (nI 1)))) (wL z k o) := by
  refine AM.of rfl (Nat.le_of_ble_eq_true rfl) (ls := [some (.ref 0), some (.int (nI (s))), some (.int (nI (0)))]) rfl ?_
  refine AW.aload_n (pc' := 1) d_C_sectorAt_0 rfl rfl rfl ?_
  refine AW.iload_n (pc' := 2) d_C_sectorAt_1 rfl rfl rfl ?_
  refine AW.cV (pc' := 5) d_C_sectorAt_2 rfl cv_C_114 (by decide) rfl rfl rfl (c_reqSector_ok X z k o s hs (by omega)) rfl rfl rfl rfl rfl rfl rfl ?_
  refine AW.iload_n (pc' := 6) d_C_sectorAt_5 rfl rfl rfl ?_
  refine AW.tableIn (off := 46) (tgt := 52) d_C_sectorAt_6 (by decide) (by decide) rfl (by decide) ?_
  refine AW.aload_n (pc' := 53) d_C_sectorAt_52 rfl rfl rfl ?_
  refine AW.getf (pc' := 56) d_C_sectorAt_53 rfl fl_C_35 rfl rfl ?_
  refine AW.iload_n (pc' := 57) d_C_sectorAt_56 rfl rfl rfl ?_
  refine AW.zaldN (pc' := 58) d_C_sectorAt_57 rfl rfl (by omega) (by decide) ?_
  refine AW.if_eq (tgt := 65) (pc' := 61) d_C_sectorAt_58 (by decide) rfl (fun h => absurd h h1) (fun h58 => ?_)
  refine AW.iconst (pc' := 62) (v := nI 1) d_C_sectorAt_61 rfl (by decide) ?_
  refine AW.goto (tgt := 66) d_C_sectorAt_62 (by decide) ?_
  exact AW.iret d_C_sectorAt_66 rfl rfl rfl ⟨rfl, rfl⟩
theorem c_sectorAt_0f (X : ct_X) (z : S_c) (k : S_m) (o : Nat → Int64) (s : Nat) (hs : s < c_ns z) (hn : c_ns z ≤ 20) (h1 : c_opn z s = 0) : AF X m_C_sectorAt 7 0 0 [.ref 0, .int (nI (s)), .int (nI (0))] (wL z k o) (.inl (some (.int (nI 0)))) (wL z k o) := by
  refine AM.of rfl (Nat.le_of_ble_eq_true rfl) (ls := [some (.ref 0), some (.int (nI (s))), some (.int (nI (0)))]) rfl ?_
  refine AW.aload_n (pc' := 1) d_C_sectorAt_0 rfl rfl rfl ?_
  refine AW.iload_n (pc' := 2) d_C_sectorAt_1 rfl rfl rfl ?_
  refine AW.cV (pc' := 5) d_C_sectorAt_2 rfl cv_C_114 (by decide) rfl rfl rfl (c_reqSector_ok X z k o s hs (by omega)) rfl rfl rfl rfl rfl rfl rfl ?_
  refine AW.iload_n (pc' := 6) d_C_sectorAt_5 rfl rfl rfl ?_
  refine AW.tableIn (off := 46) (tgt := 52) d_C_sectorAt_6 (by decide) (by decide) rfl (by decide) ?_
  refine AW.aload_n (pc' := 53) d_C_sectorAt_52 rfl rfl rfl ?_
  refine AW.getf (pc' := 56) d_C_sectorAt_53 rfl fl_C_35 rfl rfl ?_
  refine AW.iload_n (pc' := 57) d_C_sectorAt_56 rfl rfl rfl ?_
  refine AW.zaldN (pc' := 58) d_C_sectorAt_57 rfl rfl (by omega) (by decide) ?_
  refine AW.if_eq (tgt := 65) (pc' := 61) d_C_sectorAt_58 (by decide) rfl (fun h58 => ?_) (fun h => absurd h1 h)
  refine AW.iconst (pc' := 66) (v := nI 0) d_C_sectorAt_65 rfl (by decide) ?_
  exact AW.iret d_C_sectorAt_66 rfl rfl rfl ⟨rfl, rfl⟩
theorem c_sectorAt_1 (X : ct_X) (z : S_c) (k : S_m) (o : Nat → Int64) (s : Nat) (hs : s < c_ns z) (hn : c_ns z ≤ 20)  : AF X m_C_sectorAt 7 0 0 [.ref 0, .int (nI (s)), .int (nI (1))] (wL z k o) (.inl (some (.int (c_ldr z s)))) (wL z k o) := by
  refine AM.of rfl (Nat.le_of_ble_eq_true rfl) (ls := [some (.ref 0), some (.int (nI (s))), some (.int (nI (1)))]) rfl ?_
  refine AW.aload_n (pc' := 1) d_C_sectorAt_0 rfl rfl rfl ?_
  refine AW.iload_n (pc' := 2) d_C_sectorAt_1 rfl rfl rfl ?_
  refine AW.cV (pc' := 5) d_C_sectorAt_2 rfl cv_C_114 (by decide) rfl rfl rfl (c_reqSector_ok X z k o s hs (by omega)) rfl rfl rfl rfl rfl rfl rfl ?_
  refine AW.iload_n (pc' := 6) d_C_sectorAt_5 rfl rfl rfl ?_
  refine AW.tableIn (off := 61) (tgt := 67) d_C_sectorAt_6 (by decide) (by decide) rfl (by decide) ?_
  refine AW.aload_n (pc' := 68) d_C_sectorAt_67 rfl rfl rfl ?_
  refine AW.getf (pc' := 71) d_C_sectorAt_68 rfl fl_C_42 rfl rfl ?_
  refine AW.iload_n (pc' := 72) d_C_sectorAt_71 rfl rfl rfl ?_
  refine AW.ialdN (pc' := 73) d_C_sectorAt_72 rfl rfl (by omega) (by decide) ?_
  exact AW.iret d_C_sectorAt_73 rfl rfl rfl ⟨rfl, rfl⟩
theorem c_sectorAt_2 (X : ct_X) (z : S_c) (k : S_m) (o : Nat → Int64) (s : Nat) (hs : s < c_ns z) (hn : c_ns z ≤ 20)  : AF X m_C_sectorAt 7 0 0 [.ref 0, .int (nI (s)), .int (nI (2))] (wL z k o) (.inl (some (.int (c_abv z s)))) (wL z k o) := by
  refine AM.of rfl (Nat.le_of_ble_eq_true rfl) (ls := [some (.ref 0), some (.int (nI (s))), some (.int (nI (2)))]) rfl ?_
  refine AW.aload_n (pc' := 1) d_C_sectorAt_0 rfl rfl rfl ?_
  refine AW.iload_n (pc' := 2) d_C_sectorAt_1 rfl rfl rfl ?_
  refine AW.cV (pc' := 5) d_C_sectorAt_2 rfl cv_C_114 (by decide) rfl rfl rfl (c_reqSector_ok X z k o s hs (by omega)) rfl rfl rfl rfl rfl rfl rfl ?_
  refine AW.iload_n (pc' := 6) d_C_sectorAt_5 rfl rfl rfl ?_
  refine AW.tableIn (off := 68) (tgt := 74) d_C_sectorAt_6 (by decide) (by decide) rfl (by decide) ?_
  refine AW.aload_n (pc' := 75) d_C_sectorAt_74 rfl rfl rfl ?_
  refine AW.getf (pc' := 78) d_C_sectorAt_75 rfl fl_C_39 rfl rfl ?_
  refine AW.iload_n (pc' := 79) d_C_sectorAt_78 rfl rfl rfl ?_
  refine AW.ialdN (pc' := 80) d_C_sectorAt_79 rfl rfl (by omega) (by decide) ?_
  exact AW.iret d_C_sectorAt_80 rfl rfl rfl ⟨rfl, rfl⟩
theorem c_sectorAt_3 (X : ct_X) (z : S_c) (k : S_m) (o : Nat → Int64) (s : Nat) (hs : s < c_ns z) (hn : c_ns z ≤ 20) (hnp : c_np z ≤ 40) : AF X m_C_sectorAt 7 0 0 [.ref 0, .int (nI (s)), .int (nI (3))] (wL z k o) (.inl (some (.int (nI (cnt (c_sop z) (nI s) (c_np z)))))) (wL z k o) := by
  refine AM.of rfl (Nat.le_of_ble_eq_true rfl) (ls := [some (.ref 0), some (.int (nI (s))), some (.int (nI (3)))]) rfl ?_
  refine AW.aload_n (pc' := 1) d_C_sectorAt_0 rfl rfl rfl ?_
  refine AW.iload_n (pc' := 2) d_C_sectorAt_1 rfl rfl rfl ?_
  refine AW.cV (pc' := 5) d_C_sectorAt_2 rfl cv_C_114 (by decide) rfl rfl rfl (c_reqSector_ok X z k o s hs (by omega)) rfl rfl rfl rfl rfl rfl rfl ?_
  refine AW.iload_n (pc' := 6) d_C_sectorAt_5 rfl rfl rfl ?_
  refine AW.tableIn (off := 75) (tgt := 81) d_C_sectorAt_6 (by decide) (by decide) rfl (by decide) ?_
  refine AW.aload_n (pc' := 82) d_C_sectorAt_81 rfl rfl rfl ?_
  refine AW.getf (pc' := 85) d_C_sectorAt_82 rfl fl_C_20 rfl rfl ?_
  refine AW.aload_n (pc' := 86) d_C_sectorAt_85 rfl rfl rfl ?_
  refine AW.getf (pc' := 89) d_C_sectorAt_86 rfl fl_C_72 rfl rfl ?_
  refine AW.iload_n (pc' := 90) d_C_sectorAt_89 rfl rfl rfl ?_
  refine AW.cS (pc' := 93) d_C_sectorAt_90 rfl cs_C_205 (by decide) (c_count X _ 3 40 (c_np z) (c_sop z) (nI s) (by decide) hnp rfl) rfl rfl rfl rfl rfl rfl rfl ?_
  exact AW.iret d_C_sectorAt_93 rfl rfl rfl ⟨rfl, rfl⟩
theorem c_sectorAt_4 (X : ct_X) (z : S_c) (k : S_m) (o : Nat → Int64) (s : Nat) (hs : s < c_ns z) (hn : c_ns z ≤ 20) (hu : c_nu z ≤ 20) : AF X m_C_sectorAt 7 0 0 [.ref 0, .int (nI (s)), .int (nI (4))] (wL z k o) (.inl (some (.int (nI (cnt (c_sou z) (nI s) (c_nu z)))))) (wL z k o) := by
  refine AM.of rfl (Nat.le_of_ble_eq_true rfl) (ls := [some (.ref 0), some (.int (nI (s))), some (.int (nI (4)))]) rfl ?_
  refine AW.aload_n (pc' := 1) d_C_sectorAt_0 rfl rfl rfl ?_
  refine AW.iload_n (pc' := 2) d_C_sectorAt_1 rfl rfl rfl ?_
  refine AW.cV (pc' := 5) d_C_sectorAt_2 rfl cv_C_114 (by decide) rfl rfl rfl (c_reqSector_ok X z k o s hs (by omega)) rfl rfl rfl rfl rfl rfl rfl ?_
  refine AW.iload_n (pc' := 6) d_C_sectorAt_5 rfl rfl rfl ?_
  refine AW.tableIn (off := 88) (tgt := 94) d_C_sectorAt_6 (by decide) (by decide) rfl (by decide) ?_
  refine AW.aload_n (pc' := 95) d_C_sectorAt_94 rfl rfl rfl ?_
  refine AW.getf (pc' := 98) d_C_sectorAt_95 rfl fl_C_32 rfl rfl ?_
  refine AW.aload_n (pc' := 99) d_C_sectorAt_98 rfl rfl rfl ?_
  refine AW.getf (pc' := 102) d_C_sectorAt_99 rfl fl_C_80 rfl rfl ?_
  refine AW.iload_n (pc' := 103) d_C_sectorAt_102 rfl rfl rfl ?_
  refine AW.cS (pc' := 106) d_C_sectorAt_103 rfl cs_C_205 (by decide) (c_count X _ 5 20 (c_nu z) (c_sou z) (nI s) (by decide) hu rfl) rfl rfl rfl rfl rfl rfl rfl ?_
  exact AW.iret d_C_sectorAt_106 rfl rfl rfl ⟨rfl, rfl⟩
theorem c_sectorAt_5 (X : ct_X) (z : S_c) (k : S_m) (o : Nat → Int64) (s : Nat) (hs : s < c_ns z) (hn : c_ns z ≤ 20)  : AF X m_C_sectorAt 7 0 0 [.ref 0, .int (nI (s)), .int (nI (5))] (wL z k o) (.inl (some (.int (c_off z s)))) (wL z k o) := by
  refine AM.of rfl (Nat.le_of_ble_eq_true rfl) (ls := [some (.ref 0), some (.int (nI (s))), some (.int (nI (5)))]) rfl ?_
  refine AW.aload_n (pc' := 1) d_C_sectorAt_0 rfl rfl rfl ?_
  refine AW.iload_n (pc' := 2) d_C_sectorAt_1 rfl rfl rfl ?_
  refine AW.cV (pc' := 5) d_C_sectorAt_2 rfl cv_C_114 (by decide) rfl rfl rfl (c_reqSector_ok X z k o s hs (by omega)) rfl rfl rfl rfl rfl rfl rfl ?_
  refine AW.iload_n (pc' := 6) d_C_sectorAt_5 rfl rfl rfl ?_
  refine AW.tableIn (off := 101) (tgt := 107) d_C_sectorAt_6 (by decide) (by decide) rfl (by decide) ?_
  refine AW.aload_n (pc' := 108) d_C_sectorAt_107 rfl rfl rfl ?_
  refine AW.getf (pc' := 111) d_C_sectorAt_108 rfl fl_C_45 rfl rfl ?_
  refine AW.iload_n (pc' := 112) d_C_sectorAt_111 rfl rfl rfl ?_
  refine AW.ialdN (pc' := 113) d_C_sectorAt_112 rfl rfl (by omega) (by decide) ?_
  exact AW.iret d_C_sectorAt_113 rfl rfl rfl ⟨rfl, rfl⟩
theorem c_sectorAt_6t (X : ct_X) (z : S_c) (k : S_m) (o : Nat → Int64) (s : Nat) (hs : s < c_ns z) (hn : c_ns z ≤ 20) (hu : c_nu z ≤ 20) (hm : c_most z ≤ 20) (h1 : passB z s = true) : AF X m_C_sectorAt 7 0 0 [.ref 0, .int (nI (s)), .int (nI (6))] (wL z k o) (.inl (some (.int (nI 1)))) (wL z k o) := by
  refine AM.of rfl (Nat.le_of_ble_eq_true rfl) (ls := [some (.ref 0), some (.int (nI (s))), some (.int (nI (6)))]) rfl ?_
  refine AW.aload_n (pc' := 1) d_C_sectorAt_0 rfl rfl rfl ?_
  refine AW.iload_n (pc' := 2) d_C_sectorAt_1 rfl rfl rfl ?_
  refine AW.cV (pc' := 5) d_C_sectorAt_2 rfl cv_C_114 (by decide) rfl rfl rfl (c_reqSector_ok X z k o s hs (by omega)) rfl rfl rfl rfl rfl rfl rfl ?_
  refine AW.iload_n (pc' := 6) d_C_sectorAt_5 rfl rfl rfl ?_
  refine AW.tableIn (off := 108) (tgt := 114) d_C_sectorAt_6 (by decide) (by decide) rfl (by decide) ?_
  refine AW.aload_n (pc' := 115) d_C_sectorAt_114 rfl rfl rfl ?_
  refine AW.iload_n (pc' := 116) d_C_sectorAt_115 rfl rfl rfl ?_
  refine AW.cV (pc' := 119) d_C_sectorAt_116 rfl cv_C_187 (by decide) rfl rfl rfl (c_isPassed_t X z k o s (by omega) hn hu hm h1) rfl rfl rfl rfl rfl rfl rfl ?_
  refine AW.if_eq (tgt := 126) (pc' := 122) d_C_sectorAt_119 (by decide) rfl (fun h => absurd h (by decide)) (fun _ => ?_)
  refine AW.iconst (pc' := 123) (v := nI 1) d_C_sectorAt_122 rfl (by decide) ?_
  refine AW.goto (tgt := 127) d_C_sectorAt_123 (by decide) ?_
  exact AW.iret d_C_sectorAt_127 rfl rfl rfl ⟨rfl, rfl⟩
theorem c_sectorAt_6f (X : ct_X) (z : S_c) (k : S_m) (o : Nat → Int64) (s : Nat) (hs : s < c_ns z) (hn : c_ns z ≤ 20) (hu : c_nu z ≤ 20) (hm : c_most z ≤ 20) (h1 : passB z s = false) : AF X m_C_sectorAt 7 0 0 [.ref 0, .int (nI (s)), .int (nI (6))] (wL z k o) (.inl (some (.int (nI 0)))) (wL z k o) := by
  refine AM.of rfl (Nat.le_of_ble_eq_true rfl) (ls := [some (.ref 0), some (.int (nI (s))), some (.int (nI (6)))]) rfl ?_
  refine AW.aload_n (pc' := 1) d_C_sectorAt_0 rfl rfl rfl ?_
  refine AW.iload_n (pc' := 2) d_C_sectorAt_1 rfl rfl rfl ?_
  refine AW.cV (pc' := 5) d_C_sectorAt_2 rfl cv_C_114 (by decide) rfl rfl rfl (c_reqSector_ok X z k o s hs (by omega)) rfl rfl rfl rfl rfl rfl rfl ?_
  refine AW.iload_n (pc' := 6) d_C_sectorAt_5 rfl rfl rfl ?_
  refine AW.tableIn (off := 108) (tgt := 114) d_C_sectorAt_6 (by decide) (by decide) rfl (by decide) ?_
  refine AW.aload_n (pc' := 115) d_C_sectorAt_114 rfl rfl rfl ?_
  refine AW.iload_n (pc' := 116) d_C_sectorAt_115 rfl rfl rfl ?_
  refine AW.cV (pc' := 119) d_C_sectorAt_116 rfl cv_C_187 (by decide) rfl rfl rfl (c_isPassed_f X z k o s (by omega) hn hu hm h1) rfl rfl rfl rfl rfl rfl rfl ?_
  refine AW.if_eq (tgt := 126) (pc' := 122) d_C_sectorAt_119 (by decide) rfl (fun _ => ?_) (fun h => absurd h (by decide))
  refine AW.iconst (pc' := 127) (v := nI 0) d_C_sectorAt_126 rfl (by decide) ?_
  exact AW.iret d_C_sectorAt_127 rfl rfl rfl ⟨rfl, rfl⟩
theorem c_sectorAt_7 (X : ct_X) (z : S_c) (k : S_m) (o : Nat → Int64) (s : Nat) (hs : s < c_ns z) (hn : c_ns z ≤ 20)  : AF X m_C_sectorAt 7 0 0 [.ref 0, .int (nI (s)), .int (nI (7))] (wL z k o) (.inl (some (.int (nI (cntB (openB z (nI s)) (c_ns z)))))) (wL z k o) := by
  refine AM.of rfl (Nat.le_of_ble_eq_true rfl) (ls := [some (.ref 0), some (.int (nI (s))), some (.int (nI (7)))]) rfl ?_
  refine AW.aload_n (pc' := 1) d_C_sectorAt_0 rfl rfl rfl ?_
  refine AW.iload_n (pc' := 2) d_C_sectorAt_1 rfl rfl rfl ?_
  refine AW.cV (pc' := 5) d_C_sectorAt_2 rfl cv_C_114 (by decide) rfl rfl rfl (c_reqSector_ok X z k o s hs (by omega)) rfl rfl rfl rfl rfl rfl rfl ?_
  refine AW.iload_n (pc' := 6) d_C_sectorAt_5 rfl rfl rfl ?_
  refine AW.tableIn (off := 122) (tgt := 128) d_C_sectorAt_6 (by decide) (by decide) rfl (by decide) ?_
  refine AW.aload_n (pc' := 129) d_C_sectorAt_128 rfl rfl rfl ?_
  refine AW.iload_n (pc' := 130) d_C_sectorAt_129 rfl rfl rfl ?_
  refine AW.cV (pc' := 133) d_C_sectorAt_130 rfl cv_C_209 (by decide) rfl rfl rfl (c_openBelow X z k o (nI s) hn) rfl rfl rfl rfl rfl rfl rfl ?_
  exact AW.iret d_C_sectorAt_133 rfl rfl rfl ⟨rfl, rfl⟩
theorem c_personAt_x (X : ct_X) (z : S_c) (k : S_m) (o : Nat → Int64) (x y : Int32) (hx : x < 0 ∨ nI (c_np z) ≤ x) : AF X m_C_personAt 7 0 0 [.ref 0, .int (x), .int (y)] (wL z k o) (.inr 2) (wL z k o) := by
  refine AM.of rfl (Nat.le_of_ble_eq_true rfl) (ls := [some (.ref 0), some (.int (x)), some (.int (y))]) rfl ?_
  refine AW.aload_n (pc' := 1) d_C_personAt_0 rfl rfl rfl ?_
  refine AW.iload_n (pc' := 2) d_C_personAt_1 rfl rfl rfl ?_
  exact AW.cVx d_C_personAt_2 cv_C_85 (by decide) rfl rfl rfl (c_reqPerson_no X z k o x hx) rfl rfl rfl rfl rfl rfl rfl ⟨rfl, rfl⟩
theorem c_personAt_y (X : ct_X) (z : S_c) (k : S_m) (o : Nat → Int64) (p : Nat) (hj : p < c_np z) (hnp : c_np z ≤ 40) (y : Int32) (hy : y < 0 ∨ nI 2 < y) : AF X m_C_personAt 7 0 0 [.ref 0, .int (nI (p)), .int (y)] (wL z k o) (.inr 2) (wL z k o) := by
  refine AM.of rfl (Nat.le_of_ble_eq_true rfl) (ls := [some (.ref 0), some (.int (nI (p))), some (.int (y))]) rfl ?_
  refine AW.aload_n (pc' := 1) d_C_personAt_0 rfl rfl rfl ?_
  refine AW.iload_n (pc' := 2) d_C_personAt_1 rfl rfl rfl ?_
  refine AW.cV (pc' := 5) d_C_personAt_2 rfl cv_C_85 (by decide) rfl rfl rfl (c_reqPerson_ok X z k o p hj (by omega)) rfl rfl rfl rfl rfl rfl rfl ?_
  refine AW.iload_n (pc' := 6) d_C_personAt_5 rfl rfl rfl ?_
  refine AW.tableOut (tgt := 53) d_C_personAt_6 (sw_out (by decide) hy) (by decide) ?_
  exact AW.throwS (x := 2) d_C_personAt_53 d_C_personAt_56 d_C_personAt_57 d_C_personAt_59 d_C_personAt_62 cl_C_212 ini_java_lang_IllegalArgumentException sr_C_214 thr_2 rfl (by decide) rfl rfl rfl ⟨rfl, rfl⟩
theorem c_personAt_0 (X : ct_X) (z : S_c) (k : S_m) (o : Nat → Int64) (p : Nat) (hj : p < c_np z) (hnp : c_np z ≤ 40) : AF X m_C_personAt 7 0 0 [.ref 0, .int (nI (p)), .int (nI (0))] (wL z k o) (.inl (some (.int (c_sop z p)))) (wL z k o) := by
  refine AM.of rfl (Nat.le_of_ble_eq_true rfl) (ls := [some (.ref 0), some (.int (nI (p))), some (.int (nI (0)))]) rfl ?_
  refine AW.aload_n (pc' := 1) d_C_personAt_0 rfl rfl rfl ?_
  refine AW.iload_n (pc' := 2) d_C_personAt_1 rfl rfl rfl ?_
  refine AW.cV (pc' := 5) d_C_personAt_2 rfl cv_C_85 (by decide) rfl rfl rfl (c_reqPerson_ok X z k o p hj (by omega)) rfl rfl rfl rfl rfl rfl rfl ?_
  refine AW.iload_n (pc' := 6) d_C_personAt_5 rfl rfl rfl ?_
  refine AW.tableIn (off := 26) (tgt := 32) d_C_personAt_6 (by decide) (by decide) rfl (by decide) ?_
  refine AW.aload_n (pc' := 33) d_C_personAt_32 rfl rfl rfl ?_
  refine AW.getf (pc' := 36) d_C_personAt_33 rfl fl_C_20 rfl rfl ?_
  refine AW.iload_n (pc' := 37) d_C_personAt_36 rfl rfl rfl ?_
  refine AW.ialdN (pc' := 38) d_C_personAt_37 rfl rfl (by omega) (by decide) ?_
  exact AW.iret d_C_personAt_38 rfl rfl rfl ⟨rfl, rfl⟩
theorem c_personAt_1 (X : ct_X) (z : S_c) (k : S_m) (o : Nat → Int64) (p : Nat) (hj : p < c_np z) (hnp : c_np z ≤ 40) : AF X m_C_personAt 7 0 0 [.ref 0, .int (nI (p)), .int (nI (1))] (wL z k o) (.inl (some (.int (c_slb z p)))) (wL z k o) := by
  refine AM.of rfl (Nat.le_of_ble_eq_true rfl) (ls := [some (.ref 0), some (.int (nI (p))), some (.int (nI (1)))]) rfl ?_
  refine AW.aload_n (pc' := 1) d_C_personAt_0 rfl rfl rfl ?_
  refine AW.iload_n (pc' := 2) d_C_personAt_1 rfl rfl rfl ?_
  refine AW.cV (pc' := 5) d_C_personAt_2 rfl cv_C_85 (by decide) rfl rfl rfl (c_reqPerson_ok X z k o p hj (by omega)) rfl rfl rfl rfl rfl rfl rfl ?_
  refine AW.iload_n (pc' := 6) d_C_personAt_5 rfl rfl rfl ?_
  refine AW.tableIn (off := 33) (tgt := 39) d_C_personAt_6 (by decide) (by decide) rfl (by decide) ?_
  refine AW.aload_n (pc' := 40) d_C_personAt_39 rfl rfl rfl ?_
  refine AW.getf (pc' := 43) d_C_personAt_40 rfl fl_C_23 rfl rfl ?_
  refine AW.iload_n (pc' := 44) d_C_personAt_43 rfl rfl rfl ?_
  refine AW.ialdN (pc' := 45) d_C_personAt_44 rfl rfl (by omega) (by decide) ?_
  exact AW.iret d_C_personAt_45 rfl rfl rfl ⟨rfl, rfl⟩
theorem c_personAt_2 (X : ct_X) (z : S_c) (k : S_m) (o : Nat → Int64) (p : Nat) (hj : p < c_np z) (hnp : c_np z ≤ 40) : AF X m_C_personAt 7 0 0 [.ref 0, .int (nI (p)), .int (nI (2))] (wL z k o) (.inl (some (.int (c_arr z p)))) (wL z k o) := by
  refine AM.of rfl (Nat.le_of_ble_eq_true rfl) (ls := [some (.ref 0), some (.int (nI (p))), some (.int (nI (2)))]) rfl ?_
  refine AW.aload_n (pc' := 1) d_C_personAt_0 rfl rfl rfl ?_
  refine AW.iload_n (pc' := 2) d_C_personAt_1 rfl rfl rfl ?_
  refine AW.cV (pc' := 5) d_C_personAt_2 rfl cv_C_85 (by decide) rfl rfl rfl (c_reqPerson_ok X z k o p hj (by omega)) rfl rfl rfl rfl rfl rfl rfl ?_
  refine AW.iload_n (pc' := 6) d_C_personAt_5 rfl rfl rfl ?_
  refine AW.tableIn (off := 40) (tgt := 46) d_C_personAt_6 (by decide) (by decide) rfl (by decide) ?_
  refine AW.aload_n (pc' := 47) d_C_personAt_46 rfl rfl rfl ?_
  refine AW.getf (pc' := 50) d_C_personAt_47 rfl fl_C_17 rfl rfl ?_
  refine AW.iload_n (pc' := 51) d_C_personAt_50 rfl rfl rfl ?_
  refine AW.ialdN (pc' := 52) d_C_personAt_51 rfl rfl (by omega) (by decide) ?_
  exact AW.iret d_C_personAt_52 rfl rfl rfl ⟨rfl, rfl⟩
theorem c_unitAt_x (X : ct_X) (z : S_c) (k : S_m) (o : Nat → Int64) (x : Int32) (hx : x < 0 ∨ nI (c_nu z) ≤ x) : AF X m_C_unitAt 7 0 0 [.ref 0, .int (x)] (wL z k o) (.inr 2) (wL z k o) := by
  refine AM.of rfl (Nat.le_of_ble_eq_true rfl) (ls := [some (.ref 0), some (.int (x))]) rfl ?_
  refine AW.aload_n (pc' := 1) d_C_unitAt_0 rfl rfl rfl ?_
  refine AW.iload_n (pc' := 2) d_C_unitAt_1 rfl rfl rfl ?_
  exact AW.cVx d_C_unitAt_2 cv_C_122 (by decide) rfl rfl rfl (c_reqUnit_no X z k o x hx) rfl rfl rfl rfl rfl rfl rfl ⟨rfl, rfl⟩
theorem c_unitAt_0 (X : ct_X) (z : S_c) (k : S_m) (o : Nat → Int64) (u : Nat) (hu : u < c_nu z) (hnu : c_nu z ≤ 20) : AF X m_C_unitAt 7 0 0 [.ref 0, .int (nI (u))] (wL z k o) (.inl (some (.int (c_sou z u)))) (wL z k o) := by
  refine AM.of rfl (Nat.le_of_ble_eq_true rfl) (ls := [some (.ref 0), some (.int (nI (u)))]) rfl ?_
  refine AW.aload_n (pc' := 1) d_C_unitAt_0 rfl rfl rfl ?_
  refine AW.iload_n (pc' := 2) d_C_unitAt_1 rfl rfl rfl ?_
  refine AW.cV (pc' := 5) d_C_unitAt_2 rfl cv_C_122 (by decide) rfl rfl rfl (c_reqUnit_ok X z k o u hu (by omega)) rfl rfl rfl rfl rfl rfl rfl ?_
  refine AW.aload_n (pc' := 6) d_C_unitAt_5 rfl rfl rfl ?_
  refine AW.getf (pc' := 9) d_C_unitAt_6 rfl fl_C_32 rfl rfl ?_
  refine AW.iload_n (pc' := 10) d_C_unitAt_9 rfl rfl rfl ?_
  refine AW.ialdN (pc' := 11) d_C_unitAt_10 rfl rfl (by omega) (by decide) ?_
  exact AW.iret d_C_unitAt_11 rfl rfl rfl ⟨rfl, rfl⟩
theorem c_taskAt_x (X : ct_X) (z : S_c) (k : S_m) (o : Nat → Int64) (x y : Int32) (hx : x < 0 ∨ nI (t_n z) ≤ x) : AF X m_C_taskAt 7 0 0 [.ref 0, .int (x), .int (y)] (wL z k o) (.inr 2) (wL z k o) := by
  refine AM.of rfl (Nat.le_of_ble_eq_true rfl) (ls := [some (.ref 0), some (.int (x)), some (.int (y))]) rfl ?_
  refine AW.aload_n (pc' := 1) d_C_taskAt_0 rfl rfl rfl ?_
  refine AW.iload_n (pc' := 2) d_C_taskAt_1 rfl rfl rfl ?_
  exact AW.cVx d_C_taskAt_2 cv_C_173 (by decide) rfl rfl rfl (c_reqTask_no X z k o x hx) rfl rfl rfl rfl rfl rfl rfl ⟨rfl, rfl⟩
theorem c_taskAt_y (X : ct_X) (z : S_c) (k : S_m) (o : Nat → Int64) (t : Nat) (ht : t < t_n z) (htn : t_n z ≤ 60) (y : Int32) (hy : y < 0 ∨ nI 2 < y) : AF X m_C_taskAt 7 0 0 [.ref 0, .int (nI (t)), .int (y)] (wL z k o) (.inr 2) (wL z k o) := by
  refine AM.of rfl (Nat.le_of_ble_eq_true rfl) (ls := [some (.ref 0), some (.int (nI (t))), some (.int (y))]) rfl ?_
  refine AW.aload_n (pc' := 1) d_C_taskAt_0 rfl rfl rfl ?_
  refine AW.iload_n (pc' := 2) d_C_taskAt_1 rfl rfl rfl ?_
  refine AW.cV (pc' := 5) d_C_taskAt_2 rfl cv_C_173 (by decide) rfl rfl rfl (c_reqTask_ok X z k o t ht (by omega)) rfl rfl rfl rfl rfl rfl rfl ?_
  refine AW.iload_n (pc' := 6) d_C_taskAt_5 rfl rfl rfl ?_
  refine AW.tableOut (tgt := 63) d_C_taskAt_6 (sw_out (by decide) hy) (by decide) ?_
  exact AW.throwS (x := 2) d_C_taskAt_63 d_C_taskAt_66 d_C_taskAt_67 d_C_taskAt_69 d_C_taskAt_72 cl_C_212 ini_java_lang_IllegalArgumentException sr_C_214 thr_2 rfl (by decide) rfl rfl rfl ⟨rfl, rfl⟩
theorem c_taskAt_0 (X : ct_X) (z : S_c) (k : S_m) (o : Nat → Int64) (t : Nat) (ht : t < t_n z) (htn : t_n z ≤ 60) : AF X m_C_taskAt 7 0 0 [.ref 0, .int (nI (t)), .int (nI (0))] (wL z k o) (.inl (some (.int (t_sec z t)))) (wL z k o) := by
  refine AM.of rfl (Nat.le_of_ble_eq_true rfl) (ls := [some (.ref 0), some (.int (nI (t))), some (.int (nI (0)))]) rfl ?_
  refine AW.aload_n (pc' := 1) d_C_taskAt_0 rfl rfl rfl ?_
  refine AW.iload_n (pc' := 2) d_C_taskAt_1 rfl rfl rfl ?_
  refine AW.cV (pc' := 5) d_C_taskAt_2 rfl cv_C_173 (by decide) rfl rfl rfl (c_reqTask_ok X z k o t ht (by omega)) rfl rfl rfl rfl rfl rfl rfl ?_
  refine AW.iload_n (pc' := 6) d_C_taskAt_5 rfl rfl rfl ?_
  refine AW.tableIn (off := 26) (tgt := 32) d_C_taskAt_6 (by decide) (by decide) rfl (by decide) ?_
  refine AW.aload_n (pc' := 33) d_C_taskAt_32 rfl rfl rfl ?_
  refine AW.getf (pc' := 36) d_C_taskAt_33 rfl fl_C_54 rfl rfl ?_
  refine AW.iload_n (pc' := 37) d_C_taskAt_36 rfl rfl rfl ?_
  refine AW.cV (pc' := 40) d_C_taskAt_37 rfl cv_C_217 (by decide) rfl rfl rfl (c_sectorOf X z k o t (by omega)) rfl rfl rfl rfl rfl rfl rfl ?_
  exact AW.iret d_C_taskAt_40 rfl rfl rfl ⟨rfl, rfl⟩
theorem c_taskAt_1 (X : ct_X) (z : S_c) (k : S_m) (o : Nat → Int64) (t : Nat) (ht : t < t_n z) (htn : t_n z ≤ 60) : AF X m_C_taskAt 7 0 0 [.ref 0, .int (nI (t)), .int (nI (1))] (wL z k o) (.inl (some (.int (f_state z t (c_sec z))))) (wL z k o) := by
  refine AM.of rfl (Nat.le_of_ble_eq_true rfl) (ls := [some (.ref 0), some (.int (nI (t))), some (.int (nI (1)))]) rfl ?_
  refine AW.aload_n (pc' := 1) d_C_taskAt_0 rfl rfl rfl ?_
  refine AW.iload_n (pc' := 2) d_C_taskAt_1 rfl rfl rfl ?_
  refine AW.cV (pc' := 5) d_C_taskAt_2 rfl cv_C_173 (by decide) rfl rfl rfl (c_reqTask_ok X z k o t ht (by omega)) rfl rfl rfl rfl rfl rfl rfl ?_
  refine AW.iload_n (pc' := 6) d_C_taskAt_5 rfl rfl rfl ?_
  refine AW.tableIn (off := 35) (tgt := 41) d_C_taskAt_6 (by decide) (by decide) rfl (by decide) ?_
  refine AW.aload_n (pc' := 42) d_C_taskAt_41 rfl rfl rfl ?_
  refine AW.getf (pc' := 45) d_C_taskAt_42 rfl fl_C_54 rfl rfl ?_
  refine AW.iload_n (pc' := 46) d_C_taskAt_45 rfl rfl rfl ?_
  refine AW.aload_n (pc' := 47) d_C_taskAt_46 rfl rfl rfl ?_
  refine AW.getf (pc' := 50) d_C_taskAt_47 rfl fl_C_98 rfl rfl ?_
  refine AW.cV (pc' := 53) d_C_taskAt_50 rfl cv_C_220 (by decide) rfl rfl rfl (c_stateOf X z k o t (c_sec z) (by omega)) rfl rfl rfl rfl rfl rfl rfl ?_
  exact AW.iret d_C_taskAt_53 rfl rfl rfl ⟨rfl, rfl⟩
theorem c_taskAt_2 (X : ct_X) (z : S_c) (k : S_m) (o : Nat → Int64) (t : Nat) (ht : t < t_n z) (htn : t_n z ≤ 60) : AF X m_C_taskAt 7 0 0 [.ref 0, .int (nI (t)), .int (nI (2))] (wL z k o) (.inl (some (.int (t_at z t)))) (wL z k o) := by
  refine AM.of rfl (Nat.le_of_ble_eq_true rfl) (ls := [some (.ref 0), some (.int (nI (t))), some (.int (nI (2)))]) rfl ?_
  refine AW.aload_n (pc' := 1) d_C_taskAt_0 rfl rfl rfl ?_
  refine AW.iload_n (pc' := 2) d_C_taskAt_1 rfl rfl rfl ?_
  refine AW.cV (pc' := 5) d_C_taskAt_2 rfl cv_C_173 (by decide) rfl rfl rfl (c_reqTask_ok X z k o t ht (by omega)) rfl rfl rfl rfl rfl rfl rfl ?_
  refine AW.iload_n (pc' := 6) d_C_taskAt_5 rfl rfl rfl ?_
  refine AW.tableIn (off := 48) (tgt := 54) d_C_taskAt_6 (by decide) (by decide) rfl (by decide) ?_
  refine AW.aload_n (pc' := 55) d_C_taskAt_54 rfl rfl rfl ?_
  refine AW.getf (pc' := 58) d_C_taskAt_55 rfl fl_C_54 rfl rfl ?_
  refine AW.iload_n (pc' := 59) d_C_taskAt_58 rfl rfl rfl ?_
  refine AW.cV (pc' := 62) d_C_taskAt_59 rfl cv_C_223 (by decide) rfl rfl rfl (c_answeredAt X z k o t (by omega)) rfl rfl rfl rfl rfl rfl rfl ?_
  exact AW.iret d_C_taskAt_62 rfl rfl rfl ⟨rfl, rfl⟩
def f_psd (P : Nat → Bool) : Nat → Nat → Nat → Int32
  | 0, _, _ => -1
  | n + 1, s, l => if P s = true then (if l = 0 then nI s else f_psd P n (s + 1) (l - 1)) else f_psd P n (s + 1) l
theorem c_passed_0 (X : ct_X) (z : S_c) (k : S_m) (o : Nat → Int64) (x : Int32) (hx : x < 0) : AF X m_C_passed 7 0 0 [.ref 0, .int (x)] (wL z k o) (.inr 0) (wL z k o) := by
  refine AM.of rfl (Nat.le_of_ble_eq_true rfl) (ls := [some (.ref 0), some (.int (x)), none, none]) rfl ?_
  refine AW.iload_n (pc' := 1) d_C_passed_0 rfl rfl rfl ?_
  refine AW.if_ge (tgt := 14) (pc' := 4) d_C_passed_1 (by decide) rfl (fun h => absurd hx (Int32.not_lt.mpr h)) (fun h1 => ?_)
  exact AW.throwS (x := 0) d_C_passed_4 d_C_passed_7 d_C_passed_8 d_C_passed_10 d_C_passed_13 cl_C_65 ini_java_lang_IndexOutOfBoundsException sr_C_226 thr_0 rfl (by decide) rfl rfl rfl ⟨rfl, rfl⟩
theorem lp_psd (X : ct_X) (z : S_c) (k : S_m) (o : Nat → Int64) (m : Nat) (hmm : m < 2 ^ 31) (hn : c_ns z ≤ 20) (hu : c_nu z ≤ 20) (hm : c_most z ≤ 20) : ∀ (n i c : Nat), i + n = c_ns z → c ≤ m → c ≤ i → AW X m_C_passed 7 0 0 0 0 18 [some (.ref 0), some (.int (nI (m))), some (.int (nI (c))), some (.int (nI (i)))] [] (wL z k o) (fun r w' => r = .inl (some (.int (f_psd (passB z) n i (m - c)))) ∧ w' = wL z k o) := by
  intro n
  induction n with
  | zero =>
    intro i c hi hcm hci
    refine AW.iload_n (pc' := 19) d_C_passed_18 rfl rfl rfl ?_
    refine AW.aload_n (pc' := 20) d_C_passed_19 rfl rfl rfl ?_
    refine AW.getf (pc' := 23) d_C_passed_20 rfl fl_C_48 rfl rfl ?_
    refine AW.icmp_geN (tgt := 50) (pc' := 26) d_C_passed_23 (by decide) rfl (by omega) (by omega) (fun h23 => ?_) (fun h => absurd h (by omega))
    refine AW.iconst (pc' := 51) (v := (-1)) d_C_passed_50 rfl (by decide) ?_
    exact AW.iret d_C_passed_51 rfl rfl rfl ⟨rfl, rfl⟩
  | succ n ih =>
    intro i c hi hcm hci
    refine AW.iload_n (pc' := 19) d_C_passed_18 rfl rfl rfl ?_
    refine AW.aload_n (pc' := 20) d_C_passed_19 rfl rfl rfl ?_
    refine AW.getf (pc' := 23) d_C_passed_20 rfl fl_C_48 rfl rfl ?_
    refine AW.icmp_geN (tgt := 50) (pc' := 26) d_C_passed_23 (by decide) rfl (by omega) (by omega) (fun h => absurd h (by omega)) (fun h23 => ?_)
    refine AW.aload_n (pc' := 27) d_C_passed_26 rfl rfl rfl ?_
    refine AW.iload_n (pc' := 28) d_C_passed_27 rfl rfl rfl ?_
    by_cases hb : passB z i = true
    · refine AW.cV (pc' := 31) d_C_passed_28 rfl cv_C_187 (by decide) rfl rfl rfl (c_isPassed_t X z k o i (by omega) hn hu hm hb) rfl rfl rfl rfl rfl rfl rfl ?_
      refine AW.if_eq (tgt := 44) (pc' := 34) d_C_passed_31 (by decide) rfl (fun h => absurd h (by decide)) (fun _ => ?_)
      refine AW.iload_n (pc' := 35) d_C_passed_34 rfl rfl rfl ?_
      refine AW.iload_n (pc' := 36) d_C_passed_35 rfl rfl rfl ?_
      refine AW.icmp_neN (tgt := 41) (pc' := 39) d_C_passed_36 (by decide) rfl (by omega) (by omega) (fun h36 => ?_) (fun h36 => ?_)
      · refine AW.iincN (pc' := 44) (ls' := [some (.ref 0), some (.int (nI (m))), some (.int (nI (c + 1))), some (.int (nI (i)))]) d_C_passed_41 rfl rfl rfl rfl ?_
        refine AW.iincN (pc' := 47) (ls' := [some (.ref 0), some (.int (nI (m))), some (.int (nI (c + 1))), some (.int (nI (i + 1)))]) d_C_passed_44 rfl rfl rfl rfl ?_
        refine AW.goto (tgt := 18) d_C_passed_47 (by decide) ?_
        have h9 := ih (i + 1) (c + 1) (by omega) (by omega) (by omega)
        rw [show f_psd (passB z) (n + 1) i (m - c) = f_psd (passB z) n (i + 1) (m - (c + 1)) from by rw [f_psd, if_pos hb, if_neg (by omega)]; rfl]
        exact h9
      · refine AW.iload_n (pc' := 40) d_C_passed_39 rfl rfl rfl ?_
        exact AW.iret d_C_passed_40 rfl rfl rfl ⟨by rw [f_psd, if_pos hb, if_pos (by omega)], rfl⟩
    · refine AW.cV (pc' := 31) d_C_passed_28 rfl cv_C_187 (by decide) rfl rfl rfl (c_isPassed_f X z k o i (by omega) hn hu hm (by simpa using hb)) rfl rfl rfl rfl rfl rfl rfl ?_
      refine AW.if_eq (tgt := 44) (pc' := 34) d_C_passed_31 (by decide) rfl (fun _ => ?_) (fun h => absurd h (by decide))
      refine AW.iincN (pc' := 47) (ls' := [some (.ref 0), some (.int (nI (m))), some (.int (nI (c))), some (.int (nI (i + 1)))]) d_C_passed_44 rfl rfl rfl rfl ?_
      refine AW.goto (tgt := 18) d_C_passed_47 (by decide) ?_
      have h9 := ih (i + 1) c (by omega) hcm (by omega)
      rw [show f_psd (passB z) (n + 1) i (m - c) = f_psd (passB z) n (i + 1) (m - c) from by rw [f_psd, if_neg hb]]
      exact h9
theorem c_passed_1 (X : ct_X) (z : S_c) (k : S_m) (o : Nat → Int64) (m : Nat) (hmm : m < 2 ^ 31) (hn : c_ns z ≤ 20) (hu : c_nu z ≤ 20) (hm : c_most z ≤ 20) : AF X m_C_passed 7 0 0 [.ref 0, .int (nI (m))] (wL z k o) (.inl (some (.int (f_psd (passB z) (c_ns z) 0 m)))) (wL z k o) := by
  refine AM.of rfl (Nat.le_of_ble_eq_true rfl) (ls := [some (.ref 0), some (.int (nI (m))), none, none]) rfl ?_
  refine AW.iload_n (pc' := 1) d_C_passed_0 rfl rfl rfl ?_
  refine AW.if_ge (tgt := 14) (pc' := 4) d_C_passed_1 (by decide) rfl (fun _ => ?_) (fun h => absurd (nI_pos' (by omega)) h)
  refine AW.iconst (pc' := 15) (v := nI 0) d_C_passed_14 rfl (by decide) ?_
  refine AW.istore_n (pc' := 16) (ls' := [some (.ref 0), some (.int (nI (m))), some (.int (nI (0))), none]) d_C_passed_15 rfl rfl rfl rfl ?_
  refine AW.iconst (pc' := 17) (v := nI 0) d_C_passed_16 rfl (by decide) ?_
  refine AW.istore_n (pc' := 18) (ls' := [some (.ref 0), some (.int (nI (m))), some (.int (nI (0))), some (.int (nI (0)))]) d_C_passed_17 rfl rfl rfl rfl ?_
  exact lp_psd X z k o m hmm hn hu hm (c_ns z) 0 0 (by omega) (by omega) (by omega)
end
