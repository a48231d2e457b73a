/-! THROWING AND CATCHING -/
def ct_tab (hh : List (Nat × Nat × Nat × Nat)) : List ExceptionTableEntry := hh.map (fun h => ⟨h.1, h.2.1, h.2.2.1, h.2.2.2⟩)
theorem ct_tab_of {l : List ExceptionTableEntry} {hh : List (Nat × Nat × Nat × Nat)} (h : l.map (fun h => (h.startPc, h.endPc, h.handlerPc, h.catchType)) = hh) : l = ct_tab hh := by
  subst hh
  unfold ct_tab
  rw [List.map_map]
  exact (List.map_id'' (fun _ => rfl) l).symm
/-- a word that the tables alone decide and that warmer tables keep -/
def goodX (w : Cond) : Bool := w.onTables && w.keepsCast
theorem Lat.wx {X : ct_X} {s : State} (h : Lat X s) (G : Gl X) {w : Cond} (hw : w ∈ lw_tbl) (hg : goodX w = true) (args : Array Value) : w.before args s = true := by
  simp only [goodX, Bool.and_eq_true] at hg
  have h1 : w.before (xa X) ((xs X).setVm s.vm) = true := Cond.before_shiftedCast (State.Shifted.of_warmed h.1) w hg.2 (G.1 w hw)
  have e := Cond.onTables_vm (A := xa X) (A' := args) (U := xs X) (U' := s) s.vm w hg.1
  rw [h1] at e
  have e2 : s.setVm s.vm = s := rfl
  rw [e2] at e
  exact e.symm
def ct_up : List String := ["java/lang/RuntimeException", "java/lang/Exception"]
def ct_thr (own : String) (ic x : Nat) : Prop := (Bundle.fit (xn x) = true ∧ ∀ n ∈ ct_up, Bundle.fit n = true) ∧ ∀ w ∈ vx_atS own ic (xn x) ct_up, (w ∈ lw_tbl ∧ goodX w = true) ∧ vx_ot w = true
section THR
variable {X : ct_X} {M : ct_M} {d mc ms cb sb pc : Nat} {ls : List (Option Value)} {st : List Value} {w : ct_W} {Q : Option Value ⊕ Nat → ct_W → Prop}
set_option maxHeartbeats 1000000 in
theorem AW.throwS {ik is ic x : Nat} {text : String} (d0 : decode M.2.1 pc = .ok (.new ik, 3)) (d3 : decode M.2.1 (pc + 3) = .ok (.dup, 1)) (d4 : decode M.2.1 (pc + 4) = .ok (.ldc is, 2)) (d6 : decode M.2.1 (pc + 6) = .ok (.invokespecial ic, 3)) (d9 : decode M.2.1 (pc + 9) = .ok (.athrow, 1))
    (hk : Cond.classLink M.1.cls ik (xn x) ∈ lw_tbl) (hini : Cond.initialized (xn x) ∈ lw_tbl) (hstr : Cond.stringRef M.1.cls is text ∈ lw_tbl) (hat : ct_thr M.1.cls ic x) (h0 : M.2.2.2.2 = []) (hd : 6 ≤ d) (hcat : Nat.ble (st.map fun v => v.category).sum 8 = true) (hc : Nat.ble cb mc = true) (hs : Nat.ble sb ms = true) (hq : Q (.inr x) w) : AW X M d mc ms cb sb pc ls st w Q := by
  intro G p e R s m args below meth c A ad ad0 n0 H locs cells slots arr hR hA hr h1 h2
  obtain ⟨hR1, hR2, hR3, hR4⟩ := id hR
  obtain ⟨hP, hD, hS, hL, r5, r6, r7, r8⟩ := id hr
  have hc' := Nat.le_of_ble_eq_true hc
  have hs' := Nat.le_of_ble_eq_true hs
  have hc8 := Nat.le_of_ble_eq_true hcat
  have e1 : ((st.map (cv ad)).map fun v => v.category) = st.map fun v => v.category := by
    rw [List.map_map]
    exact List.map_congr_left fun v _ => cv_cat ad v
  have hno : c.exceptionTable.toList = [] := by
    have h := hA.table
    rw [h0] at h
    exact List.map_eq_nil_iff.mp h
  have hown0 : (xs X).vm.findClass M.1.cls = some m.cls := by
    have h := hA.own
    rw [hA.lat.1.alike.findClass] at h
    exact h
  have hstr0 : (Cond.stringRef M.1.cls is text).before (xa X) (xs X) = true := G.1 _ hstr
  obtain ⟨-, -, -, sa, -, -, -, -, -, hev⟩ := Cond.stringRef_spec hown0 hstr0
  have hR0 : vk_R M.1.cls is text sa (xs X) := vk_R.of hstr0 hev
  have hRs : vk_R M.1.cls is text sa s := vk_R.warm hA.lat.1 hR0
  have hU : vx_Zq Bundle.tN "UNASSIGNED_STACK" Bundle.steD A s s.heap := vx_Zq.moved hA.lat.1.alike ((G.2.2.2.2.2.1.kept (H1 := s.heap) (fun a ha _ => hA.lat.2.2 a ha)).narrow hA.A1)
  have hN : vx_Zq Bundle.tN "SUPPRESSED_SENTINEL" Bundle.listD A s s.heap := vx_Zq.moved hA.lat.1.alike ((G.2.2.2.2.2.2.1.kept (H1 := s.heap) (fun a ha _ => hA.lat.2.2 a ha)).narrow hA.A1)
  refine ct_mono (fun t ht => ?_) (vx_throwS (Qc := fun _ _ _ _ => False) (XC := fun E _ t => E = xn x ∧ H.size ≤ t.heap.size ∧ ∀ q : Nat, q < H.size → t.heap[q]? = H[q]?) (free := A) (mc := cells + 1) (ms := slots + 6) (A := A) (rest := st.map (cv ad)) hA.exec hA.code G.2.1 (own := M.1.cls) (cls := xn x) (text := text) (names := ct_up) (sa := sa) hA.own hat.1.1 hat.1.2 (hA.lat.w G hk rfl args) (hA.lat.w G hini rfl args) hRs
    (fun w h => hA.lat.wx G (hat.2 w h).1.1 (hat.2 w h).1.2 args) (fun w h => ?_) hU hN hS (hL.1.1.trans hA.maxL.symm) d0 d3 d4 d6 d9 (fun z hz => by rw [hno] at hz; cases hz) ?_ ?_ (by omega) (by omega) hA.locks (fun t _ h3 h4 => ⟨rfl, h3, h4⟩) hS.2.2 (Nat.le_refl _) (Nat.le_refl _))
  · obtain ⟨o, a1, a2, ⟨h, -⟩ | ⟨q, rfl, E, ce, L, ⟨rfl, g1, g2⟩, g3, g4, g5, g6, g7, g8⟩⟩ := ht
    · exact h.elim
    · exact ⟨.threw q, .inr x, ad, w, L, cells + 1, slots + 6, ⟨a1, a2, g6, g7, g8, ⟨Nat.le_trans hS.1 g1, fun q h1 h2 => (g2 q (Nat.lt_of_lt_of_le h1 hS.1)).trans (hS.2.1 q h1 h2)⟩⟩, ⟨hP.kept (fun k z hz => g2 z.1 (hP k z hz).lt), hD, r5, r6, r7⟩, hq, ⟨q, ce, rfl, g3, g4, g5⟩, by omega, by omega⟩
  · rcases List.mem_cons.mp h with rfl | h
    · rfl
    · rcases List.mem_cons.mp h with rfl | h
      · rfl
      · exact (hat.2 w h).2
  · show 2 + 3 < R.frames
    omega
  · rw [e1]
    show _ + (13 * (2 + 1) + 43) ≤ R.locals
    omega
/-- caught here: the handler's first instruction stores it -/
theorem AX.catch {x j a b hp ct : Nat} {k : Fin 4} {pre suf : List (Nat × Nat × Nat × Nat)} {ls' : List (Option Value)} (hsplit : M.2.2.2.2 = pre ++ (a, b, hp, ct) :: suf)
    (hpass : ∀ z ∈ pre, covers ⟨z.1, z.2.1, z.2.2.1, z.2.2.2⟩ pc = false ∨ (z.2.2.2 ≠ 0 ∧ ∃ y : Nat, y < 4 ∧ x ≠ y ∧ Cond.classLink M.1.cls z.2.2.2 (xn y) ∈ lw_tbl)) (hx4 : x < 4) (hcov : covers ⟨a, b, hp, ct⟩ pc = true) (hct : ct ≠ 0)
    (hlink : Cond.classLink M.1.cls ct (xn x) ∈ lw_tbl) (hcast : Cond.castable (xn x) (xn x) ∈ lw_tbl) (hd : decode M.2.1 hp = .ok (.astore_n k, 1)) (hi : (k : Nat) = j) (hn : Nat.ble (j + 1) M.2.2.1 = true) (hs : ls.set j none = ls') {cb' sb' : Nat} (hcb : cb + 1 = cb') (hsb : sb + 6 = sb')
    (kk : AW X M d mc ms cb' sb' (hp + 1) ls' [] w Q) : AX X M d mc ms cb sb pc ls w Q x := by
  subst hs
  subst hcb
  subst hsb
  intro G p e R s m args below meth c A ad ad0 n0 H locs cells slots arr stk q cell hR hA hr h1 h2 h3 h4 h5
  have htab : c.exceptionTable.toList = ct_tab pre ++ ⟨a, b, hp, ct⟩ :: ct_tab suf := by
    rw [ct_tab_of hA.table, hsplit]
    simp [ct_tab]
  refine vx_catch (own := M.1.cls) (name := xn x) (E := xn x) (ce := cell) (rest := stk) (pc := pc) (ls := arr) hA.own (ct_tab pre) ⟨a, b, hp, ct⟩ (ct_tab suf) htab (fun z hz => ?_) hcov hct (hA.lat.w G hlink rfl args) (hA.lat.wx G hcast rfl args) h3 h4 h5 ?_
  · obtain ⟨u, hu, rfl⟩ := List.mem_map.mp hz
    rcases hpass u hu with h | ⟨h6, y, h7, h8, h9⟩
    · exact Or.inl h
    · exact Or.inr ⟨h6, xn y, hA.lat.w G h9 rfl args, va_Nc.moved hA.lat.1.alike (G.2.2.2.2.2.2.2 x y hx4 h7 h8)⟩
  · exact lv_astore_n hA.exec hA.code hd hi hr.2.2.2.1.has (Nat.le_of_ble_eq_true hn) rfl (fun arr' h' => kk G p e R s m args below meth c A ad ad0 n0 H locs cells slots arr' hR hA ⟨hr.1, hr.2.1, hr.2.2.1, hr.2.2.2.1.setN h', hr.2.2.2.2⟩ h1 h2)
end THR
