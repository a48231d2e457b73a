/-! ROWS OF THE JUDGEMENT AW, one an instruction (printed by wip/whole/rules.py) -/
section AWR
variable {X : ct_X} {M : ct_M} {d mc ms cb sb pc pc' : Nat} {ls : List (Option Value)} {st : List Value} {w : ct_W} {Q : Option Value ⊕ Nat → ct_W → Prop}
theorem AW.iconst {n : Int} {v : Int32} (hd : decode M.2.1 pc = .ok (.iconst n, 1)) (hp : pc + 1 = pc') (hv : Int32.ofInt n = v) (k : AW X M d mc ms cb sb pc' ls (.int v :: st) w Q) : AW X M d mc ms cb sb pc ls (st) w Q := by
  subst hp
  intro G p e R s m args below meth c A ad ad0 n0 H locs cells slots arr hR hA hr h1 h2
  exact lv_iconst hA.exec hA.code hd hv (k G p e R s m args below meth c A ad ad0 n0 H locs cells slots arr hR hA hr h1 h2)
theorem AW.bipush {n : Int} {v : Int32} (hd : decode M.2.1 pc = .ok (.bipush n, 2)) (hp : pc + 2 = pc') (hv : (Int8.ofInt n).toInt32 = v) (k : AW X M d mc ms cb sb pc' ls (.int v :: st) w Q) : AW X M d mc ms cb sb pc ls (st) w Q := by
  subst hp
  intro G p e R s m args below meth c A ad ad0 n0 H locs cells slots arr hR hA hr h1 h2
  exact lv_bipush hA.exec hA.code hd hv (k G p e R s m args below meth c A ad ad0 n0 H locs cells slots arr hR hA hr h1 h2)
theorem AW.sipush {n : Int} {v : Int32} (hd : decode M.2.1 pc = .ok (.sipush n, 3)) (hp : pc + 3 = pc') (hv : (Int16.ofInt n).toInt32 = v) (k : AW X M d mc ms cb sb pc' ls (.int v :: st) w Q) : AW X M d mc ms cb sb pc ls (st) w Q := by
  subst hp
  intro G p e R s m args below meth c A ad ad0 n0 H locs cells slots arr hR hA hr h1 h2
  exact lv_sipush hA.exec hA.code hd hv (k G p e R s m args below meth c A ad ad0 n0 H locs cells slots arr hR hA hr h1 h2)
theorem AW.ldc {i : Nat} {v : Int32} (hd : decode M.2.1 pc = .ok (.ldc i, 2)) (hp : pc + 2 = pc') (hc : Cond.constant M.1.cls i v ∈ lw_tbl) (k : AW X M d mc ms cb sb pc' ls (.int v :: st) w Q) : AW X M d mc ms cb sb pc ls (st) w Q := by
  subst hp
  intro G p e R s m args below meth c A ad ad0 n0 H locs cells slots arr hR hA hr h1 h2
  exact lv_ldc hA.exec hA.code hA.own (hA.lat.w G hc rfl _) hd (k G p e R s m args below meth c A ad ad0 n0 H locs cells slots arr hR hA hr h1 h2)
theorem AW.iload_n {j : Fin 4} {i : Nat} {x : Int32} (hd : decode M.2.1 pc = .ok (.iload_n j, 1)) (hp : pc + 1 = pc') (hi : (j : Nat) = i) (hl : ls[i]? = some (some (.int x))) (k : AW X M d mc ms cb sb pc' ls (.int x :: st) w Q) : AW X M d mc ms cb sb pc ls (st) w Q := by
  subst hp
  intro G p e R s m args below meth c A ad ad0 n0 H locs cells slots arr hR hA hr h1 h2
  exact lv_iload_n hA.exec hA.code hd hi (hr.2.2.2.1.get hl) (k G p e R s m args below meth c A ad ad0 n0 H locs cells slots arr hR hA hr h1 h2)
theorem AW.iload {i : Nat} {x : Int32} (hd : decode M.2.1 pc = .ok (.iload i, 2)) (hp : pc + 2 = pc') (hl : ls[i]? = some (some (.int x))) (k : AW X M d mc ms cb sb pc' ls (.int x :: st) w Q) : AW X M d mc ms cb sb pc ls (st) w Q := by
  subst hp
  intro G p e R s m args below meth c A ad ad0 n0 H locs cells slots arr hR hA hr h1 h2
  exact lv_iload hA.exec hA.code hd (hr.2.2.2.1.get hl) (k G p e R s m args below meth c A ad ad0 n0 H locs cells slots arr hR hA hr h1 h2)
theorem AW.aload_n {j : Fin 4} {i : Nat} {x : Nat} (hd : decode M.2.1 pc = .ok (.aload_n j, 1)) (hp : pc + 1 = pc') (hi : (j : Nat) = i) (hl : ls[i]? = some (some (.ref x))) (k : AW X M d mc ms cb sb pc' ls (.ref x :: st) w Q) : AW X M d mc ms cb sb pc ls (st) w Q := by
  subst hp
  intro G p e R s m args below meth c A ad ad0 n0 H locs cells slots arr hR hA hr h1 h2
  exact lv_aload_n hA.exec hA.code hd hi (hr.2.2.2.1.get hl) (k G p e R s m args below meth c A ad ad0 n0 H locs cells slots arr hR hA hr h1 h2)
theorem AW.aload {i : Nat} {x : Nat} (hd : decode M.2.1 pc = .ok (.aload i, 2)) (hp : pc + 2 = pc') (hl : ls[i]? = some (some (.ref x))) (k : AW X M d mc ms cb sb pc' ls (.ref x :: st) w Q) : AW X M d mc ms cb sb pc ls (st) w Q := by
  subst hp
  intro G p e R s m args below meth c A ad ad0 n0 H locs cells slots arr hR hA hr h1 h2
  exact lv_aload hA.exec hA.code hd (hr.2.2.2.1.get hl) (k G p e R s m args below meth c A ad ad0 n0 H locs cells slots arr hR hA hr h1 h2)
theorem AW.istore_n {j : Fin 4} {i : Nat} {x : Int32} {ls' : List (Option Value)} (hd : decode M.2.1 pc = .ok (.istore_n j, 1)) (hp : pc + 1 = pc') (hi : (j : Nat) = i) (hn : Nat.ble (i + 1) M.2.2.1 = true) (hs : ls.set i (some (.int x)) = ls') (k : AW X M d mc ms cb sb pc' ls' (st) w Q) : AW X M d mc ms cb sb pc ls (.int x :: st) w Q := by
  subst hp
  intro G p e R s m args below meth c A ad ad0 n0 H locs cells slots arr hR hA hr h1 h2
  subst hs
  exact lv_istore_n hA.exec hA.code hd hi hr.2.2.2.1.has (Nat.le_of_ble_eq_true hn) rfl (fun arr' h' => k G p e R s m args below meth c A ad ad0 n0 H locs cells slots arr' hR hA ⟨hr.1, hr.2.1, hr.2.2.1, hr.2.2.2.1.set rfl h', hr.2.2.2.2⟩ h1 h2)
theorem AW.istore {i : Nat} {x : Int32} {ls' : List (Option Value)} (hd : decode M.2.1 pc = .ok (.istore i, 2)) (hp : pc + 2 = pc') (hn : Nat.ble (i + 1) M.2.2.1 = true) (hs : ls.set i (some (.int x)) = ls') (k : AW X M d mc ms cb sb pc' ls' (st) w Q) : AW X M d mc ms cb sb pc ls (.int x :: st) w Q := by
  subst hp
  intro G p e R s m args below meth c A ad ad0 n0 H locs cells slots arr hR hA hr h1 h2
  subst hs
  exact lv_istore hA.exec hA.code hd hr.2.2.2.1.has (Nat.le_of_ble_eq_true hn) rfl (fun arr' h' => k G p e R s m args below meth c A ad ad0 n0 H locs cells slots arr' hR hA ⟨hr.1, hr.2.1, hr.2.2.1, hr.2.2.2.1.set rfl h', hr.2.2.2.2⟩ h1 h2)
theorem AW.astore_n {j : Fin 4} {i : Nat} {x : Nat} {ls' : List (Option Value)} (hd : decode M.2.1 pc = .ok (.astore_n j, 1)) (hp : pc + 1 = pc') (hi : (j : Nat) = i) (hn : Nat.ble (i + 1) M.2.2.1 = true) (hs : ls.set i (some (.ref x)) = ls') (k : AW X M d mc ms cb sb pc' ls' (st) w Q) : AW X M d mc ms cb sb pc ls (.ref x :: st) w Q := by
  subst hp
  intro G p e R s m args below meth c A ad ad0 n0 H locs cells slots arr hR hA hr h1 h2
  subst hs
  exact lv_astore_n hA.exec hA.code hd hi hr.2.2.2.1.has (Nat.le_of_ble_eq_true hn) rfl (fun arr' h' => k G p e R s m args below meth c A ad ad0 n0 H locs cells slots arr' hR hA ⟨hr.1, hr.2.1, hr.2.2.1, hr.2.2.2.1.set rfl h', hr.2.2.2.2⟩ h1 h2)
theorem AW.astore {i : Nat} {x : Nat} {ls' : List (Option Value)} (hd : decode M.2.1 pc = .ok (.astore i, 2)) (hp : pc + 2 = pc') (hn : Nat.ble (i + 1) M.2.2.1 = true) (hs : ls.set i (some (.ref x)) = ls') (k : AW X M d mc ms cb sb pc' ls' (st) w Q) : AW X M d mc ms cb sb pc ls (.ref x :: st) w Q := by
  subst hp
  intro G p e R s m args below meth c A ad ad0 n0 H locs cells slots arr hR hA hr h1 h2
  subst hs
  exact lv_astore hA.exec hA.code hd hr.2.2.2.1.has (Nat.le_of_ble_eq_true hn) rfl (fun arr' h' => k G p e R s m args below meth c A ad ad0 n0 H locs cells slots arr' hR hA ⟨hr.1, hr.2.1, hr.2.2.1, hr.2.2.2.1.set rfl h', hr.2.2.2.2⟩ h1 h2)
theorem AW.iinc {i : Nat} {n : Int} {x v : Int32} {ls' : List (Option Value)} (hd : decode M.2.1 pc = .ok (.iinc i n, 3)) (hp : pc + 3 = pc') (hl : ls[i]? = some (some (.int x))) (hv : x + Int32.ofInt n = v) (hn : Nat.ble (i + 1) M.2.2.1 = true) (hs : ls.set i (some (.int v)) = ls') (k : AW X M d mc ms cb sb pc' ls' (st) w Q) : AW X M d mc ms cb sb pc ls (st) w Q := by
  subst hp
  intro G p e R s m args below meth c A ad ad0 n0 H locs cells slots arr hR hA hr h1 h2
  subst hs
  obtain ⟨j, hj⟩ := List.getElem?_of_mem (lvl_mem (ad := ad) (Nat.le_of_ble_eq_true hn) hl)
  exact lv_iinc hA.exec hA.code hd hr.2.2.2.1.has (k := j) hj hv (Nat.le_of_ble_eq_true hn) rfl (fun arr' h' => k G p e R s m args below meth c A ad ad0 n0 H locs cells slots arr' hR hA ⟨hr.1, hr.2.1, hr.2.2.1, hr.2.2.2.1.set rfl h', hr.2.2.2.2⟩ h1 h2)
theorem AW.iadd {x y : Int32} (hd : decode M.2.1 pc = .ok (.iadd, 1)) (hp : pc + 1 = pc') (k : AW X M d mc ms cb sb pc' ls (.int (x + y) :: st) w Q) : AW X M d mc ms cb sb pc ls (.int y :: .int x :: st) w Q := by
  subst hp
  intro G p e R s m args below meth c A ad ad0 n0 H locs cells slots arr hR hA hr h1 h2
  exact lv_iadd hA.exec hA.code hd (k G p e R s m args below meth c A ad ad0 n0 H locs cells slots arr hR hA hr h1 h2)
theorem AW.isub {x y : Int32} (hd : decode M.2.1 pc = .ok (.isub, 1)) (hp : pc + 1 = pc') (k : AW X M d mc ms cb sb pc' ls (.int (x - y) :: st) w Q) : AW X M d mc ms cb sb pc ls (.int y :: .int x :: st) w Q := by
  subst hp
  intro G p e R s m args below meth c A ad ad0 n0 H locs cells slots arr hR hA hr h1 h2
  exact lv_isub hA.exec hA.code hd (k G p e R s m args below meth c A ad ad0 n0 H locs cells slots arr hR hA hr h1 h2)
theorem AW.imul {x y : Int32} (hd : decode M.2.1 pc = .ok (.imul, 1)) (hp : pc + 1 = pc') (k : AW X M d mc ms cb sb pc' ls (.int (x * y) :: st) w Q) : AW X M d mc ms cb sb pc ls (.int y :: .int x :: st) w Q := by
  subst hp
  intro G p e R s m args below meth c A ad ad0 n0 H locs cells slots arr hR hA hr h1 h2
  exact lv_imul hA.exec hA.code hd (k G p e R s m args below meth c A ad ad0 n0 H locs cells slots arr hR hA hr h1 h2)
theorem AW.iand {x y : Int32} (hd : decode M.2.1 pc = .ok (.iand, 1)) (hp : pc + 1 = pc') (k : AW X M d mc ms cb sb pc' ls (.int (x &&& y) :: st) w Q) : AW X M d mc ms cb sb pc ls (.int y :: .int x :: st) w Q := by
  subst hp
  intro G p e R s m args below meth c A ad ad0 n0 H locs cells slots arr hR hA hr h1 h2
  exact lv_iand hA.exec hA.code hd (k G p e R s m args below meth c A ad ad0 n0 H locs cells slots arr hR hA hr h1 h2)
theorem AW.idiv {x y : Int32} (hd : decode M.2.1 pc = .ok (.idiv, 1)) (hp : pc + 1 = pc') (hne : ¬ y = 0) (k : AW X M d mc ms cb sb pc' ls (.int (x / y) :: st) w Q) : AW X M d mc ms cb sb pc ls (.int y :: .int x :: st) w Q := by
  subst hp
  intro G p e R s m args below meth c A ad ad0 n0 H locs cells slots arr hR hA hr h1 h2
  exact lv_idiv hA.exec hA.code hd hne (k G p e R s m args below meth c A ad ad0 n0 H locs cells slots arr hR hA hr h1 h2)
theorem AW.irem {x y : Int32} (hd : decode M.2.1 pc = .ok (.irem, 1)) (hp : pc + 1 = pc') (hne : ¬ y = 0) (k : AW X M d mc ms cb sb pc' ls (.int (x - x / y * y) :: st) w Q) : AW X M d mc ms cb sb pc ls (.int y :: .int x :: st) w Q := by
  subst hp
  intro G p e R s m args below meth c A ad ad0 n0 H locs cells slots arr hR hA hr h1 h2
  exact lv_irem hA.exec hA.code hd hne (k G p e R s m args below meth c A ad ad0 n0 H locs cells slots arr hR hA hr h1 h2)
theorem AW.ineg {x : Int32} (hd : decode M.2.1 pc = .ok (.ineg, 1)) (hp : pc + 1 = pc') (k : AW X M d mc ms cb sb pc' ls (.int (-x) :: st) w Q) : AW X M d mc ms cb sb pc ls (.int x :: st) w Q := by
  subst hp
  intro G p e R s m args below meth c A ad ad0 n0 H locs cells slots arr hR hA hr h1 h2
  exact lv_ineg hA.exec hA.code hd (k G p e R s m args below meth c A ad ad0 n0 H locs cells slots arr hR hA hr h1 h2)
theorem AW.i2l {x : Int32} (hd : decode M.2.1 pc = .ok (.i2l, 1)) (hp : pc + 1 = pc') (k : AW X M d mc ms cb sb pc' ls (.long x.toInt64 :: st) w Q) : AW X M d mc ms cb sb pc ls (.int x :: st) w Q := by
  subst hp
  intro G p e R s m args below meth c A ad ad0 n0 H locs cells slots arr hR hA hr h1 h2
  exact lv_i2l hA.exec hA.code hd rfl (k G p e R s m args below meth c A ad ad0 n0 H locs cells slots arr hR hA hr h1 h2)
theorem AW.lcmp {x y : Int64} (hd : decode M.2.1 pc = .ok (.lcmp, 1)) (hp : pc + 1 = pc') (k : AW X M d mc ms cb sb pc' ls (.int (lg_cmp x y) :: st) w Q) : AW X M d mc ms cb sb pc ls (.long y :: .long x :: st) w Q := by
  subst hp
  intro G p e R s m args below meth c A ad ad0 n0 H locs cells slots arr hR hA hr h1 h2
  exact W.lcmp hA.exec hA.code hd (k G p e R s m args below meth c A ad ad0 n0 H locs cells slots arr hR hA hr h1 h2)
theorem AW.dup {v : Value} (hd : decode M.2.1 pc = .ok (.dup, 1)) (hp : pc + 1 = pc') (hc : v.category = 1) (k : AW X M d mc ms cb sb pc' ls (v :: v :: st) w Q) : AW X M d mc ms cb sb pc ls (v :: st) w Q := by
  subst hp
  intro G p e R s m args below meth c A ad ad0 n0 H locs cells slots arr hR hA hr h1 h2
  exact lv_dup hA.exec hA.code hd ((cv_cat ad v).trans hc) (k G p e R s m args below meth c A ad ad0 n0 H locs cells slots arr hR hA hr h1 h2)
theorem AW.pop {v : Value} (hd : decode M.2.1 pc = .ok (.pop, 1)) (hp : pc + 1 = pc') (hc : v.category = 1) (k : AW X M d mc ms cb sb pc' ls (st) w Q) : AW X M d mc ms cb sb pc ls (v :: st) w Q := by
  subst hp
  intro G p e R s m args below meth c A ad ad0 n0 H locs cells slots arr hR hA hr h1 h2
  exact lv_pop hA.exec hA.code hd ((cv_cat ad v).trans hc) (k G p e R s m args below meth c A ad ad0 n0 H locs cells slots arr hR hA hr h1 h2)
theorem AW.if_eq {x : Int32} {off : Int} {tgt : Nat} (hd : decode M.2.1 pc = .ok (.ifCond .eq off, 3)) (ht : (pc : Int) + off = (tgt : Int)) (hp : pc + 3 = pc') (kt : x = 0 → AW X M d mc ms cb sb tgt ls (st) w Q) (kf : ¬ x = 0 → AW X M d mc ms cb sb pc' ls (st) w Q) : AW X M d mc ms cb sb pc ls (.int x :: st) w Q := by
  subst hp
  intro G p e R s m args below meth c A ad ad0 n0 H locs cells slots arr hR hA hr h1 h2
  exact lv_if_eq hA.exec hA.code hd ht (fun q => (kt q) G p e R s m args below meth c A ad ad0 n0 H locs cells slots arr hR hA hr h1 h2) (fun q => (kf q) G p e R s m args below meth c A ad ad0 n0 H locs cells slots arr hR hA hr h1 h2)
theorem AW.if_ne {x : Int32} {off : Int} {tgt : Nat} (hd : decode M.2.1 pc = .ok (.ifCond .ne off, 3)) (ht : (pc : Int) + off = (tgt : Int)) (hp : pc + 3 = pc') (kt : ¬ x = 0 → AW X M d mc ms cb sb tgt ls (st) w Q) (kf : x = 0 → AW X M d mc ms cb sb pc' ls (st) w Q) : AW X M d mc ms cb sb pc ls (.int x :: st) w Q := by
  subst hp
  intro G p e R s m args below meth c A ad ad0 n0 H locs cells slots arr hR hA hr h1 h2
  exact lv_if_ne hA.exec hA.code hd ht (fun q => (kt q) G p e R s m args below meth c A ad ad0 n0 H locs cells slots arr hR hA hr h1 h2) (fun q => (kf q) G p e R s m args below meth c A ad ad0 n0 H locs cells slots arr hR hA hr h1 h2)
theorem AW.if_lt {x : Int32} {off : Int} {tgt : Nat} (hd : decode M.2.1 pc = .ok (.ifCond .lt off, 3)) (ht : (pc : Int) + off = (tgt : Int)) (hp : pc + 3 = pc') (kt : x < 0 → AW X M d mc ms cb sb tgt ls (st) w Q) (kf : ¬ x < 0 → AW X M d mc ms cb sb pc' ls (st) w Q) : AW X M d mc ms cb sb pc ls (.int x :: st) w Q := by
  subst hp
  intro G p e R s m args below meth c A ad ad0 n0 H locs cells slots arr hR hA hr h1 h2
  exact lv_if_lt hA.exec hA.code hd ht (fun q => (kt q) G p e R s m args below meth c A ad ad0 n0 H locs cells slots arr hR hA hr h1 h2) (fun q => (kf q) G p e R s m args below meth c A ad ad0 n0 H locs cells slots arr hR hA hr h1 h2)
theorem AW.if_ge {x : Int32} {off : Int} {tgt : Nat} (hd : decode M.2.1 pc = .ok (.ifCond .ge off, 3)) (ht : (pc : Int) + off = (tgt : Int)) (hp : pc + 3 = pc') (kt : 0 ≤ x → AW X M d mc ms cb sb tgt ls (st) w Q) (kf : ¬ 0 ≤ x → AW X M d mc ms cb sb pc' ls (st) w Q) : AW X M d mc ms cb sb pc ls (.int x :: st) w Q := by
  subst hp
  intro G p e R s m args below meth c A ad ad0 n0 H locs cells slots arr hR hA hr h1 h2
  exact lv_if_ge hA.exec hA.code hd ht (fun q => (kt q) G p e R s m args below meth c A ad ad0 n0 H locs cells slots arr hR hA hr h1 h2) (fun q => (kf q) G p e R s m args below meth c A ad ad0 n0 H locs cells slots arr hR hA hr h1 h2)
theorem AW.if_gt {x : Int32} {off : Int} {tgt : Nat} (hd : decode M.2.1 pc = .ok (.ifCond .gt off, 3)) (ht : (pc : Int) + off = (tgt : Int)) (hp : pc + 3 = pc') (kt : 0 < x → AW X M d mc ms cb sb tgt ls (st) w Q) (kf : ¬ 0 < x → AW X M d mc ms cb sb pc' ls (st) w Q) : AW X M d mc ms cb sb pc ls (.int x :: st) w Q := by
  subst hp
  intro G p e R s m args below meth c A ad ad0 n0 H locs cells slots arr hR hA hr h1 h2
  exact lv_if_gt hA.exec hA.code hd ht (fun q => (kt q) G p e R s m args below meth c A ad ad0 n0 H locs cells slots arr hR hA hr h1 h2) (fun q => (kf q) G p e R s m args below meth c A ad ad0 n0 H locs cells slots arr hR hA hr h1 h2)
theorem AW.if_le {x : Int32} {off : Int} {tgt : Nat} (hd : decode M.2.1 pc = .ok (.ifCond .le off, 3)) (ht : (pc : Int) + off = (tgt : Int)) (hp : pc + 3 = pc') (kt : x ≤ 0 → AW X M d mc ms cb sb tgt ls (st) w Q) (kf : ¬ x ≤ 0 → AW X M d mc ms cb sb pc' ls (st) w Q) : AW X M d mc ms cb sb pc ls (.int x :: st) w Q := by
  subst hp
  intro G p e R s m args below meth c A ad ad0 n0 H locs cells slots arr hR hA hr h1 h2
  exact lv_if_le hA.exec hA.code hd ht (fun q => (kt q) G p e R s m args below meth c A ad ad0 n0 H locs cells slots arr hR hA hr h1 h2) (fun q => (kf q) G p e R s m args below meth c A ad ad0 n0 H locs cells slots arr hR hA hr h1 h2)
theorem AW.icmp_eq {x y : Int32} {off : Int} {tgt : Nat} (hd : decode M.2.1 pc = .ok (.if_icmp .eq off, 3)) (ht : (pc : Int) + off = (tgt : Int)) (hp : pc + 3 = pc') (kt : x = y → AW X M d mc ms cb sb tgt ls (st) w Q) (kf : ¬ x = y → AW X M d mc ms cb sb pc' ls (st) w Q) : AW X M d mc ms cb sb pc ls (.int y :: .int x :: st) w Q := by
  subst hp
  intro G p e R s m args below meth c A ad ad0 n0 H locs cells slots arr hR hA hr h1 h2
  exact lv_icmp_eq hA.exec hA.code hd ht (fun q => (kt q) G p e R s m args below meth c A ad ad0 n0 H locs cells slots arr hR hA hr h1 h2) (fun q => (kf q) G p e R s m args below meth c A ad ad0 n0 H locs cells slots arr hR hA hr h1 h2)
theorem AW.icmp_ne {x y : Int32} {off : Int} {tgt : Nat} (hd : decode M.2.1 pc = .ok (.if_icmp .ne off, 3)) (ht : (pc : Int) + off = (tgt : Int)) (hp : pc + 3 = pc') (kt : ¬ x = y → AW X M d mc ms cb sb tgt ls (st) w Q) (kf : x = y → AW X M d mc ms cb sb pc' ls (st) w Q) : AW X M d mc ms cb sb pc ls (.int y :: .int x :: st) w Q := by
  subst hp
  intro G p e R s m args below meth c A ad ad0 n0 H locs cells slots arr hR hA hr h1 h2
  exact lv_icmp_ne hA.exec hA.code hd ht (fun q => (kt q) G p e R s m args below meth c A ad ad0 n0 H locs cells slots arr hR hA hr h1 h2) (fun q => (kf q) G p e R s m args below meth c A ad ad0 n0 H locs cells slots arr hR hA hr h1 h2)
theorem AW.icmp_lt {x y : Int32} {off : Int} {tgt : Nat} (hd : decode M.2.1 pc = .ok (.if_icmp .lt off, 3)) (ht : (pc : Int) + off = (tgt : Int)) (hp : pc + 3 = pc') (kt : x < y → AW X M d mc ms cb sb tgt ls (st) w Q) (kf : ¬ x < y → AW X M d mc ms cb sb pc' ls (st) w Q) : AW X M d mc ms cb sb pc ls (.int y :: .int x :: st) w Q := by
  subst hp
  intro G p e R s m args below meth c A ad ad0 n0 H locs cells slots arr hR hA hr h1 h2
  exact lv_icmp_lt hA.exec hA.code hd ht (fun q => (kt q) G p e R s m args below meth c A ad ad0 n0 H locs cells slots arr hR hA hr h1 h2) (fun q => (kf q) G p e R s m args below meth c A ad ad0 n0 H locs cells slots arr hR hA hr h1 h2)
theorem AW.icmp_ge {x y : Int32} {off : Int} {tgt : Nat} (hd : decode M.2.1 pc = .ok (.if_icmp .ge off, 3)) (ht : (pc : Int) + off = (tgt : Int)) (hp : pc + 3 = pc') (kt : y ≤ x → AW X M d mc ms cb sb tgt ls (st) w Q) (kf : ¬ y ≤ x → AW X M d mc ms cb sb pc' ls (st) w Q) : AW X M d mc ms cb sb pc ls (.int y :: .int x :: st) w Q := by
  subst hp
  intro G p e R s m args below meth c A ad ad0 n0 H locs cells slots arr hR hA hr h1 h2
  exact lv_icmp_ge hA.exec hA.code hd ht (fun q => (kt q) G p e R s m args below meth c A ad ad0 n0 H locs cells slots arr hR hA hr h1 h2) (fun q => (kf q) G p e R s m args below meth c A ad ad0 n0 H locs cells slots arr hR hA hr h1 h2)
theorem AW.icmp_gt {x y : Int32} {off : Int} {tgt : Nat} (hd : decode M.2.1 pc = .ok (.if_icmp .gt off, 3)) (ht : (pc : Int) + off = (tgt : Int)) (hp : pc + 3 = pc') (kt : y < x → AW X M d mc ms cb sb tgt ls (st) w Q) (kf : ¬ y < x → AW X M d mc ms cb sb pc' ls (st) w Q) : AW X M d mc ms cb sb pc ls (.int y :: .int x :: st) w Q := by
  subst hp
  intro G p e R s m args below meth c A ad ad0 n0 H locs cells slots arr hR hA hr h1 h2
  exact lv_icmp_gt hA.exec hA.code hd ht (fun q => (kt q) G p e R s m args below meth c A ad ad0 n0 H locs cells slots arr hR hA hr h1 h2) (fun q => (kf q) G p e R s m args below meth c A ad ad0 n0 H locs cells slots arr hR hA hr h1 h2)
theorem AW.icmp_le {x y : Int32} {off : Int} {tgt : Nat} (hd : decode M.2.1 pc = .ok (.if_icmp .le off, 3)) (ht : (pc : Int) + off = (tgt : Int)) (hp : pc + 3 = pc') (kt : x ≤ y → AW X M d mc ms cb sb tgt ls (st) w Q) (kf : ¬ x ≤ y → AW X M d mc ms cb sb pc' ls (st) w Q) : AW X M d mc ms cb sb pc ls (.int y :: .int x :: st) w Q := by
  subst hp
  intro G p e R s m args below meth c A ad ad0 n0 H locs cells slots arr hR hA hr h1 h2
  exact lv_icmp_le hA.exec hA.code hd ht (fun q => (kt q) G p e R s m args below meth c A ad ad0 n0 H locs cells slots arr hR hA hr h1 h2) (fun q => (kf q) G p e R s m args below meth c A ad ad0 n0 H locs cells slots arr hR hA hr h1 h2)
theorem AW.goto {off : Int} {tgt : Nat} (hd : decode M.2.1 pc = .ok (.goto off, 3)) (ht : (pc : Int) + off = (tgt : Int)) (k : AW X M d mc ms cb sb tgt ls (st) w Q) : AW X M d mc ms cb sb pc ls (st) w Q := by
  intro G p e R s m args below meth c A ad ad0 n0 H locs cells slots arr hR hA hr h1 h2
  exact lv_goto hA.exec hA.code hd ht (k G p e R s m args below meth c A ad ad0 n0 H locs cells slots arr hR hA hr h1 h2)
theorem AW.tableIn {dflt lo hi : Int} {offs : Array Int} {len : Nat} {x : Int32} {off : Int} {tgt : Nat} (hd : decode M.2.1 pc = .ok (.tableswitch dflt lo hi offs, len)) (q1 : ¬ x.toInt < lo) (q2 : ¬ hi < x.toInt) (ho : offs[(x.toInt - lo).toNat]? = some off) (ht : (pc : Int) + off = (tgt : Int)) (k : AW X M d mc ms cb sb tgt ls (st) w Q) : AW X M d mc ms cb sb pc ls (.int x :: st) w Q := by
  intro G p e R s m args below meth c A ad ad0 n0 H locs cells slots arr hR hA hr h1 h2
  exact lv_tableIn hA.exec hA.code hd q1 q2 ho ht (k G p e R s m args below meth c A ad ad0 n0 H locs cells slots arr hR hA hr h1 h2)
theorem AW.tableOut {dflt lo hi : Int} {offs : Array Int} {len : Nat} {x : Int32} {tgt : Nat} (hd : decode M.2.1 pc = .ok (.tableswitch dflt lo hi offs, len)) (q1 : x.toInt < lo ∨ hi < x.toInt) (ht : (pc : Int) + dflt = (tgt : Int)) (k : AW X M d mc ms cb sb tgt ls (st) w Q) : AW X M d mc ms cb sb pc ls (.int x :: st) w Q := by
  intro G p e R s m args below meth c A ad ad0 n0 H locs cells slots arr hR hA hr h1 h2
  exact lv_tableOut hA.exec hA.code hd q1 ht (k G p e R s m args below meth c A ad ad0 n0 H locs cells slots arr hR hA hr h1 h2)
theorem AW.lookup {dflt : Int} {ps : Array (Int × Int)} {len : Nat} {x : Int32} {off : Int} {tgt : Nat} (hd : decode M.2.1 pc = .ok (.lookupswitch dflt ps, len)) (hq : (ps.toList.zip (ps.toList.drop 1)).all (fun (a, next) => a.1 < next.1) = true) (ho : Op.lookupswitch.offset ps.toList dflt x.toInt = off) (ht : (pc : Int) + off = (tgt : Int)) (k : AW X M d mc ms cb sb tgt ls (st) w Q) : AW X M d mc ms cb sb pc ls (.int x :: st) w Q := by
  intro G p e R s m args below meth c A ad ad0 n0 H locs cells slots arr hR hA hr h1 h2
  exact lv_lookup hA.exec hA.code hd hq ho ht (k G p e R s m args below meth c A ad ad0 n0 H locs cells slots arr hR hA hr h1 h2)
theorem AW.iald {o n : Nat} {f : Nat → Int32} {i : Int32} (hd : decode M.2.1 pc = .ok (.iaload, 1)) (hp : pc + 1 = pc') (hw : w[o]? = some (.inl (0, n, .inl f))) (hin : vp_in i n) (k : AW X M d mc ms cb sb pc' ls (.int (f i.toNatClampNeg) :: st) w Q) : AW X M d mc ms cb sb pc ls (.int i :: .ref o :: st) w Q := by
  subst hp
  intro G p e R s m args below meth c A ad ad0 n0 H locs cells slots arr hR hA hr h1 h2
  exact va_iald hA.exec hA.code (hA.K G) hr.1 o 0 (cw_at hw) rfl hin hd (k G p e R s m args below meth c A ad ad0 n0 H locs cells slots arr hR hA hr h1 h2)
theorem AW.zald {o n : Nat} {f : Nat → Int32} {i : Int32} (hd : decode M.2.1 pc = .ok (.baload, 1)) (hp : pc + 1 = pc') (hw : w[o]? = some (.inl (1, n, .inl f))) (hin : vp_in i n) (k : AW X M d mc ms cb sb pc' ls (.int (f i.toNatClampNeg) :: st) w Q) : AW X M d mc ms cb sb pc ls (.int i :: .ref o :: st) w Q := by
  subst hp
  intro G p e R s m args below meth c A ad ad0 n0 H locs cells slots arr hR hA hr h1 h2
  exact va_zald hA.exec hA.code (hA.K G) hr.1 o 1 (cw_at hw) rfl hin hd (k G p e R s m args below meth c A ad ad0 n0 H locs cells slots arr hR hA hr h1 h2)
theorem AW.lald {o n : Nat} {f : Nat → Int64} {i : Int32} (hd : decode M.2.1 pc = .ok (.laload, 1)) (hp : pc + 1 = pc') (hw : w[o]? = some (.inl (2, n, .inr (.inl f)))) (hin : vp_in i n) (k : AW X M d mc ms cb sb pc' ls (.long (f i.toNatClampNeg) :: st) w Q) : AW X M d mc ms cb sb pc ls (.int i :: .ref o :: st) w Q := by
  subst hp
  intro G p e R s m args below meth c A ad ad0 n0 H locs cells slots arr hR hA hr h1 h2
  exact va_lald hA.exec hA.code (hA.K G) hr.1 o 2 (cw_at hw) rfl hin hd (k G p e R s m args below meth c A ad ad0 n0 H locs cells slots arr hR hA hr h1 h2)
theorem AW.iast {o n : Nat} {f : Nat → Int32} {i : Int32} {x : Int32} {w' : ct_W} (hd : decode M.2.1 pc = .ok (.iastore, 1)) (hp : pc + 1 = pc') (hw : w[o]? = some (.inl (0, n, .inl f))) (hin : vp_in i n) (hs : w.set o (.inl (0, n, .inl (upd f i.toNatClampNeg x))) = w') (k : AW X M d mc ms cb sb pc' ls (st) w' Q) : AW X M d mc ms cb sb pc ls (.int x :: .int i :: .ref o :: st) w Q := by
  subst hp
  intro G p e R s m args below meth c A ad ad0 n0 H locs cells slots arr hR hA hr h1 h2
  subst hs
  exact va_iast hA.exec hA.code (hA.K G) hr.1 hr.2.1 hr.2.2.1 o 0 (cw_at hw) rfl hin hd (fun H' locs' hP' hD' hS' => k G p e R s m args below meth c A ad ad0 n0 H' locs' cells slots arr hR hA ⟨by rw [← cw_set]; exact hP', by rw [← cw_set]; exact hD', hS', hr.2.2.2.1, by rw [List.length_set]; exact hr.2.2.2.2.1, by rw [List.length_set]; exact hr.2.2.2.2.2.1, by rw [List.length_set]; exact hr.2.2.2.2.2.2.1, hr.2.2.2.2.2.2.2⟩ h1 h2)
theorem AW.zast {o n : Nat} {f : Nat → Int32} {i : Int32} {x : Int32} {w' : ct_W} (hd : decode M.2.1 pc = .ok (.bastore, 1)) (hp : pc + 1 = pc') (hw : w[o]? = some (.inl (1, n, .inl f))) (hin : vp_in i n) (hs : w.set o (.inl (1, n, .inl (upd f i.toNatClampNeg (vp_nar .boolean x)))) = w') (k : AW X M d mc ms cb sb pc' ls (st) w' Q) : AW X M d mc ms cb sb pc ls (.int x :: .int i :: .ref o :: st) w Q := by
  subst hp
  intro G p e R s m args below meth c A ad ad0 n0 H locs cells slots arr hR hA hr h1 h2
  subst hs
  exact va_zast hA.exec hA.code (hA.K G) hr.1 hr.2.1 hr.2.2.1 o 1 (cw_at hw) rfl hin hd (fun H' locs' hP' hD' hS' => k G p e R s m args below meth c A ad ad0 n0 H' locs' cells slots arr hR hA ⟨by rw [← cw_set]; exact hP', by rw [← cw_set]; exact hD', hS', hr.2.2.2.1, by rw [List.length_set]; exact hr.2.2.2.2.1, by rw [List.length_set]; exact hr.2.2.2.2.2.1, by rw [List.length_set]; exact hr.2.2.2.2.2.2.1, hr.2.2.2.2.2.2.2⟩ h1 h2)
theorem AW.last {o n : Nat} {f : Nat → Int64} {i : Int32} {x : Int64} {w' : ct_W} (hd : decode M.2.1 pc = .ok (.lastore, 1)) (hp : pc + 1 = pc') (hw : w[o]? = some (.inl (2, n, .inr (.inl f)))) (hin : vp_in i n) (hs : w.set o (.inl (2, n, .inr (.inl (vp_updL f i.toNatClampNeg x)))) = w') (k : AW X M d mc ms cb sb pc' ls (st) w' Q) : AW X M d mc ms cb sb pc ls (.long x :: .int i :: .ref o :: st) w Q := by
  subst hp
  intro G p e R s m args below meth c A ad ad0 n0 H locs cells slots arr hR hA hr h1 h2
  subst hs
  exact va_last hA.exec hA.code (hA.K G) hr.1 hr.2.1 hr.2.2.1 o 2 (cw_at hw) rfl hin hd (fun H' locs' hP' hD' hS' => k G p e R s m args below meth c A ad ad0 n0 H' locs' cells slots arr hR hA ⟨by rw [← cw_set]; exact hP', by rw [← cw_set]; exact hD', hS', hr.2.2.2.1, by rw [List.length_set]; exact hr.2.2.2.2.1, by rw [List.length_set]; exact hr.2.2.2.2.2.1, by rw [List.length_set]; exact hr.2.2.2.2.2.2.1, hr.2.2.2.2.2.2.2⟩ h1 h2)
theorem AW.alen {o : Nat} {a : Nat × vp_A} {ty : FieldType} (hd : decode M.2.1 pc = .ok (.arraylength, 1)) (hp : pc + 1 = pc') (hw : w[o]? = some (.inl a)) (hty : ∀ tc : Nat → ClassId, (ct_tys tc)[a.1]? = some (tc a.1, ty)) (k : AW X M d mc ms cb sb pc' ls (.int (Int32.ofNat a.2.1) :: st) w Q) : AW X M d mc ms cb sb pc ls (.ref o :: st) w Q := by
  subst hp
  intro G p e R s m args below meth c A ad ad0 n0 H locs cells slots arr hR hA hr h1 h2
  exact va_alen hA.exec hA.code (hA.K G) hr.1 o a.1 (cw_at hw) (hty (xt X)) rfl hd (k G p e R s m args below meth c A ad ad0 n0 H locs cells slots arr hR hA hr h1 h2)
theorem AW.sld {i : Int32} (hd : decode M.2.1 pc = .ok (.iaload, 1)) (hp : pc + 1 = pc') (hin : vp_in i (xL X)) (k : AW X M d mc ms cb sb pc' ls (.int (xx X i.toNatClampNeg) :: st) w Q) : AW X M d mc ms cb sb pc ls (.int i :: .ref scr :: st) w Q := by
  subst hp
  intro G p e R s m args below meth c A ad ad0 n0 H locs cells slots arr hR hA hr h1 h2
  have hb := hr.sc
  show W p (xl X) e R s m args below meth c H locs cells slots _ (F0 m pc arr (.int i :: .ref (ad scr) :: st.map (cv ad)))
  rw [hb]
  exact va_sld hA.exec hA.code (H0 := s.heap) (A := A) (va_X.moved hA.lat.1.alike (G.2.2.2.1.kept (hA.lat.2.2 _ G.2.2.2.2.1))) (Nat.lt_of_lt_of_le G.2.2.2.2.1 hA.lat.2.1) (fun q => Nat.not_le.mpr G.2.2.2.2.1 (hA.A1 _ q)) hr.2.2.1 hin hd (k G p e R s m args below meth c A ad ad0 n0 H locs cells slots arr hR hA hr h1 h2)
theorem AW.slen (hd : decode M.2.1 pc = .ok (.arraylength, 1)) (hp : pc + 1 = pc') (k : AW X M d mc ms cb sb pc' ls (.int (Int32.ofNat (xL X)) :: st) w Q) : AW X M d mc ms cb sb pc ls (.ref scr :: st) w Q := by
  subst hp
  intro G p e R s m args below meth c A ad ad0 n0 H locs cells slots arr hR hA hr h1 h2
  have hb := hr.sc
  show W p (xl X) e R s m args below meth c H locs cells slots _ (F0 m pc arr (.ref (ad scr) :: st.map (cv ad)))
  rw [hb]
  exact va_slen hA.exec hA.code (H0 := s.heap) (A := A) (va_X.moved hA.lat.1.alike (G.2.2.2.1.kept (hA.lat.2.2 _ G.2.2.2.2.1))) (Nat.lt_of_lt_of_le G.2.2.2.2.1 hA.lat.2.1) (fun q => Nat.not_le.mpr G.2.2.2.2.1 (hA.A1 _ q)) hr.2.2.1 hd (k G p e R s m args below meth c A ad ad0 n0 H locs cells slots arr hR hA hr h1 h2)
theorem AW.iret {x : Int32} (hd : decode M.2.1 pc = .ok (.ireturn, 1)) (hret : M.2.2.2.1 = some .int) (hc : Nat.ble cb mc = true) (hs : Nat.ble sb ms = true) (hq : Q (.inl (some (.int x))) w) : AW X M d mc ms cb sb pc ls ([.int x]) w Q := by
  intro G p e R s m args below meth c A ad ad0 n0 H locs cells slots arr hR hA hr h1 h2
  have hl9 := hA.locks
  exact ct_end hr hq (Nat.le_trans h1 (Nat.le_of_ble_eq_true hc)) (Nat.le_trans h2 (Nat.le_of_ble_eq_true hs)) (W.iret (v := x) hA.exec hA.code (hA.ret.trans hret) (fun t ht _ => ⟨rfl, ht⟩) hr.2.2.1.2.2 hd hl9)
theorem AW.zret {x : Int32} (hd : decode M.2.1 pc = .ok (.ireturn, 1)) (hret : M.2.2.2.1 = some .boolean) (hn : narrow .boolean (.int x) = .int x) (hc : Nat.ble cb mc = true) (hs : Nat.ble sb ms = true) (hq : Q (.inl (some (.int x))) w) : AW X M d mc ms cb sb pc ls ([.int x]) w Q := by
  intro G p e R s m args below meth c A ad ad0 n0 H locs cells slots arr hR hA hr h1 h2
  have hl9 := hA.locks
  exact ct_end hr hq (Nat.le_trans h1 (Nat.le_of_ble_eq_true hc)) (Nat.le_trans h2 (Nat.le_of_ble_eq_true hs)) (W.zret (v := x) hA.exec hA.code (hA.ret.trans hret) hn (fun t ht _ => ⟨rfl, ht⟩) hr.2.2.1.2.2 hd hl9)
theorem AW.vret (hd : decode M.2.1 pc = .ok (.return_, 1)) (hret : M.2.2.2.1 = none) (hc : Nat.ble cb mc = true) (hs : Nat.ble sb ms = true) (hq : Q (.inl none) w) : AW X M d mc ms cb sb pc ls ([]) w Q := by
  intro G p e R s m args below meth c A ad ad0 n0 H locs cells slots arr hR hA hr h1 h2
  have hl9 := hA.locks
  exact ct_end hr hq (Nat.le_trans h1 (Nat.le_of_ble_eq_true hc)) (Nat.le_trans h2 (Nat.le_of_ble_eq_true hs)) (W.vret hA.exec hA.code (hA.ret.trans hret) (fun t ht _ => ⟨rfl, ht⟩) hr.2.2.1.2.2 hd hl9)
end AWR
