/-! CALLS: a callee by its contract AM; it returns or throws -/
theorem ct_weaken {tb : Tables} {e : Env} {mid below : List Frame} {a b : State} (h : Steps tb e (mid ++ below) a b) : Steps tb e below a b := by
  obtain ⟨n, hn, hk⟩ := h
  exact ⟨n, hn, fun k hl => (hk k hl).weaken⟩
/-- the method's code stands in the tables -/
def ct_in (M : ct_M) : Prop := (M.2.2.2.2 = [] ∧ Cond.code M.1 M.2.1 M.2.2.1 M.2.2.2.1 ∈ lw_tbl) ∨ Cond.codeWith M.1 M.2.1 M.2.2.1 M.2.2.2.1 M.2.2.2.2 ∈ lw_tbl
theorem ct_in.spec {X : ct_X} {M : ct_M} (h : ct_in M) (G : Gl X) {s : State} (hl : Lat X s) : ∃ (mk : MethodId) (meth : Method) (c : Code), s.methodNamed? M.1 = some mk ∧ s.vm.method? mk = some meth ∧ meth.code = some c ∧ ct_Code M meth c ∧ parseMethodDescriptor M.1.desc = some meth.sig := by
  rcases h with ⟨h0, h⟩ | h
  · have hb := hl.w G h rfl #[]
    obtain ⟨mk, hn⟩ := Cond.code_named hb
    obtain ⟨meth, c, h1, h2, h3, h4, h5, h6, h7, h8⟩ := Cond.code_spec hn hb
    refine ⟨mk, meth, c, hn, h1, h2, ⟨h3, h4, h5, h6, ?_⟩, h8⟩
    rw [h0, Array.isEmpty_iff.mp h7]
    rfl
  · have hb := hl.w G h rfl #[]
    obtain ⟨mk, meth, c, hn, h1, h2, h3, h4, h5, h6, h7, h8⟩ := Cond.codeWith_spec hb
    exact ⟨mk, meth, c, hn, h1, h2, ⟨h3, h4, h6, h7, h5⟩, h8⟩
section CRUN
variable {X : ct_X} {M' : ct_M} {d' mc' ms' : Nat} {as : List Value} {w : ct_W} {Q' : Option Value ⊕ Nat → ct_W → Prop}
variable {p : Program} {e : Env} {R : Room} {s : State} {m : MethodId} {args : Array Value} {below : List Frame} {meth : Method} {c : Code} {T : State} {locs : List Loc} {cells slots : Nat}
set_option maxHeartbeats 1000000 in
theorem ct_run (hM : AM X M' d' mc' ms' as w Q') (G : Gl X) (Y : Stand p (xl X) e R s m args below meth c T locs cells slots)
    {g : JFrame} (hg : g.method = m) (hsize : g.locals.size = c.maxLocals) {ig : Instr} {len : Nat} (hdg : decode c.code g.pc = .ok (ig, len))
    {mk : MethodId} (hn : s.methodNamed? M'.1 = some mk) {methk : Method} {ck : Code} (hmk : s.vm.method? mk = some methk) (hck : methk.code = some ck) (hcd : ct_Code M' methk ck) (hpl : plainName M'.1.cls = true)
    (hexec : p.tables.exec = Jvm.exec) (hlat : Lat X s) {A : Nat → Prop} (hA1 : ∀ q, A q → (xs X).heap.size ≤ q) (hA2 : ∀ q, s.heap.size ≤ q → A q)
    {ad : Nat → Nat} (hP : va_P (xD X) vwCl (cw (xt X) ad w) T.heap) (hD : va_D A (cw (xt X) ad w)) (hS : va_S A s.heap T.heap locs) (hw : w.length ≤ scr) (hb : ad scr = xb X)
    (hf : d' + 1 ≤ R.frames) (hl : 2 * g.monitorRoom + (g.stack.map fun v => v.category).sum + (M'.2.2.1 + 11) + 30 * d' ≤ R.locals) (hc : cells + (mc' + 1) ≤ R.cells) (hs : slots + (ms' + 6) ≤ R.slots) :
    ∃ (r : Option Value ⊕ Nat) (ad' : Nat → Nat) (w' : ct_W) (L : List Loc) (k n : Nat) (T' : State), Q' r w' ∧ Stand p (xl X) e R s m args below meth c T' (locs ++ L) (cells + k) (slots + n) ∧
      (va_P (xD X) vwCl (cw (xt X) ad' w') T'.heap ∧ va_D A (cw (xt X) ad' w') ∧ va_S A s.heap T'.heap (locs ++ L) ∧ ct_ag w.length w'.length ad ad' ∧ w.length ≤ w'.length ∧ w'.length ≤ scr) ∧
      (∀ v, r = .inl v → k ≤ mc' ∧ n ≤ ms' ∧ ∀ acts, Steps p.tables e below (doInvoke e (T.setTop g) acts mk (as.map (cv ad)).toArray).1 (T'.setTop { g with pc := g.pc + len, stack := (v.map (cv ad')).toList ++ g.stack })) ∧
      (∀ x, r = .inr x → k ≤ mc' + 1 ∧ n ≤ ms' + 6 ∧ ∃ (q : Addr) (cell : Cell), T'.heap[q]? = some cell ∧ cell.vm = .none ∧ s.vm.findClass (xn x) = some cell.cls ∧
        ∀ acts, Steps p.tables e below (doInvoke e (T.setTop g) acts mk (as.map (cv ad)).toArray).1 ((T'.setTop g).pushFrame (.throwing q))) := by
  have hmkT : T.vm.method? mk = some methk := by rw [Y.warmed.alike.method?]; exact hmk
  have hnT : T.methodNamed? M'.1 = some mk := Y.named hn
  have hpk : T.plainMethod mk := State.plainMethod.of_named (s := T) (plainFor_of_name hpl) hnT hmkT
  obtain ⟨Z, hin⟩ := Y.into hg hsize hdg (as.map (cv ad)).toArray (R' := { frames := d', cells := mc' + 1, slots := ms' + 6, locals := 30 * d' }) hmkT hck hcd.2.2.2.1 hpk hf (by rw [hcd.2.1]; exact hl) hc hs
  have hamb : Amb X M' p (T.calling g mk (as.map (cv ad)).toArray) mk methk ck A := by
    refine ⟨hexec, hcd, findClass_of_methodNamed hnT, (name_of_methodNamed hn hmk).1, ⟨State.WarmedH.trans hlat.1 Y.warmed, Nat.le_trans hlat.2.1 hS.1, fun q hq => ?_⟩, hA1, fun q hq => hA2 q (Nat.le_trans hS.1 hq)⟩
    exact (hS.2.1 q (Nat.lt_of_lt_of_le hq hlat.2.1) (fun z => Nat.not_le.mpr hq (hA1 q z))).trans (hlat.2.2 q hq)
  obtain ⟨t, hst, o, r, ad', w', L, k, n, ⟨b1, b2, b3, b4, b5, b6⟩, ⟨c1, c2, c3, c4, c5⟩, hq, hout⟩ := hM G p e { frames := d', cells := mc' + 1, slots := ms' + 6, locals := 30 * d' } (T.calling g mk (as.map (cv ad)).toArray) mk (.java g :: below) methk ck A ad ⟨Nat.le_refl _, Nat.le_refl _, Nat.le_refl _, Nat.le_refl _⟩ hamb hP hD hw hb ((T.setTop g).pushFrame (.java (entryFrame mk (as.map (cv ad)).toArray ck.maxLocals))) rfl Z
  have hgo : ∀ acts, Steps p.tables e below (doInvoke e (T.setTop g) acts mk (as.map (cv ad)).toArray).1 t := fun acts => by
    rw [hin acts]
    rw [← hcd.2.1] at hst
    exact ct_weaken (mid := [.java g]) hst
  have hSt : va_S A s.heap t.heap (locs ++ L) := ⟨Nat.le_trans hS.1 b6.1, fun q h1 h2 => (b6.2 q (Nat.lt_of_lt_of_le h1 hS.1) h2).trans (hS.2.1 q h1 h2), fun q hq => (List.mem_append.mp hq).elim (hS.2.2 q) (b5 q)⟩
  cases r with
  | inl v =>
    obtain ⟨rfl, hk, hn9⟩ := hout
    obtain ⟨T', Y', -, -, ht⟩ := Y.outOf hg hdg b2 b3 b4
    have hh : t.heap = T'.heap := by rw [ht]; rfl
    rw [hh] at c1 hSt
    refine ⟨.inl v, ad', w', L, k, n, T', hq, Y', ⟨c1, c2, hSt, c3, c4, c5⟩, fun v' h => ?_, fun x h => nomatch h⟩
    cases h
    exact ⟨hk, hn9, fun acts => by rw [← ht]; exact hgo acts⟩
  | inr x =>
    obtain ⟨⟨q, cell, rfl, h1, h2, h3⟩, hk, hn9⟩ := hout
    obtain ⟨T', Y', -, -, ht⟩ := Y.outOfThrown hg b2 b3 b4
    have hh : t.heap = T'.heap := by rw [ht]; rfl
    rw [hh] at c1 hSt h1
    refine ⟨.inr x, ad', w', L, k, n, T', hq, Y', ⟨c1, c2, hSt, c3, c4, c5⟩, fun v' h => (nomatch h), fun x' h => ?_⟩
    cases h
    refine ⟨hk, hn9, q, cell, h1, h2, ?_, fun acts => by rw [← ht]; exact hgo acts⟩
    have h4 : T.vm.findClass (xn x) = some cell.cls := h3
    rw [Y.warmed.alike.findClass] at h4
    exact h4
end CRUN
theorem ct_room {m : MethodId} {pc : Nat} {arr : Array Slot} {st : List Value} {ad : Nat → Nat} {stk : List Value} {d d' nL RL : Nat} (hc : (st.map fun v => v.category).sum ≤ 8) (hd : d' < d) (hn : nL ≤ 11) (hR : 30 * d ≤ RL) :
    2 * (F0 m pc arr stk).monitorRoom + ((st.map (cv ad)).map fun v => v.category).sum + (nL + 11) + 30 * d' ≤ RL := by
  have h1 : ((st.map (cv ad)).map fun v => v.category) = st.map fun v => v.category := by
    rw [List.map_map]
    exact List.map_congr_left fun v _ => cv_cat ad v
  rw [h1]
  show 2 * 0 + _ + _ + _ ≤ _
  omega
/-- A POINT WHERE AN EXCEPTION OF THE CLASS xn x HAS COME to the instruction at pc -/
def AX (X : ct_X) (M : ct_M) (d mc ms cb sb pc : Nat) (ls : List (Option Value)) (w : ct_W) (Q : Option Value ⊕ Nat → ct_W → Prop) (x : Nat) : Prop :=
  Gl X → ∀ (p : Program) (e : Env) (R : Room) (s : State) (m : MethodId) (args : Array Value) (below : List Frame) (meth : Method) (c : Code) (A : Nat → Prop) (ad ad0 : Nat → Nat) (n0 : Nat) (H : Heap) (locs : List Loc) (cells slots : Nat) (arr : Array Slot) (stk : List Value) (q : Addr) (cell : Cell),
    RD d mc ms R → Amb X M p s m meth c A → Rel X M.2.2.1 A s ad ad0 n0 w H locs ls arr → cells ≤ cb + 1 → slots ≤ sb + 6 → H[q]? = some cell → cell.vm = .none → s.vm.findClass (xn x) = some cell.cls →
    ∀ T : State, T.heap = H → Stand p (xl X) e R s m args below meth c T locs cells slots → ∃ t, Steps p.tables e below ((T.setTop (F0 m pc arr stk)).pushFrame (.throwing q)) t ∧ AEnd X below s A ad0 n0 mc ms Q t
/-- no handlers: the method throws it on -/
theorem AX.out {X : ct_X} {M : ct_M} {d mc ms cb sb pc : Nat} {ls : List (Option Value)} {w : ct_W} {Q : Option Value ⊕ Nat → ct_W → Prop} {x : Nat} (h0 : M.2.2.2.2 = []) (hc : Nat.ble cb mc = true) (hs : Nat.ble sb ms = true) (hq : Q (.inr x) w) : AX X M d mc ms cb sb pc ls w Q x := by
  intro G p e R s m args below meth c A ad ad0 n0 H locs cells slots arr stk q cell hR hA hr h1 h2 h3 h4 h5 T hT Y
  have hl9 := hA.locks
  have hno : c.exceptionTable.toList = [] := by
    have h := hA.table
    rw [h0] at h
    exact List.map_eq_nil_iff.mp h
  obtain ⟨a1, a2, a3, a4, a5⟩ := Y.leaveThrown q (g := F0 m pc arr stk) rfl rfl rfl (fun z hz => by rw [hno] at hz; cases hz) hl9
  obtain ⟨hP, hD, hS, -, r5, r6, r7, -⟩ := hr
  have hc' := Nat.le_of_ble_eq_true hc
  have hs' := Nat.le_of_ble_eq_true hs
  have hh : (T.setFrames (.throwing q :: below)).heap = H := hT
  exact ⟨_, a1, .threw q, .inr x, ad, w, locs, cells, slots, ⟨a2, a3, a4, a5, hS.2.2, hS.F hh⟩, ⟨by rw [hh]; exact hP, hD, r5, r6, r7⟩, hq, ⟨q, cell, rfl, by rw [hh]; exact h3, h4, h5⟩, by omega, by omega⟩
section CCALL
variable {X : ct_X} {M M' : ct_M} {d d' mc ms mc' ms' cb sb pc pc' : Nat} {ls : List (Option Value)} {as st stk : List Value} {w : ct_W} {Q Q' : Option Value ⊕ Nat → ct_W → Prop}
set_option maxHeartbeats 1000000 in
theorem ct_call {p : Program} {e : Env} {R : Room} {s : State} {m : MethodId} {args : Array Value} {below : List Frame} {meth : Method} {c : Code} {A : Nat → Prop} {ad ad0 : Nat → Nat} {n0 : Nat} {H : Heap} {locs : List Loc} {cells slots : Nat} {arr : Array Slot} {ig : Instr} {sk : List Value}
    (hM : AM X M' d' mc' ms' as w Q') (G : Gl X) (hR : RD d mc ms R) (hA : Amb X M p s m meth c A) (hr : Rel X M.2.2.1 A s ad ad0 n0 w H locs ls arr) (h1 : cells ≤ cb) (h2 : slots ≤ sb)
    (hd : decode M.2.1 pc = .ok (ig, 3)) (hin : ct_in M') (hpl : plainName M'.1.cls = true) (hdep : d' < d) (hml : M'.2.2.1 ≤ 11) (hcat : (st.map fun v => v.category).sum ≤ 8) (hcb : cb + mc' ≤ mc) (hsb : sb + ms' ≤ ms)
    (hlk : ∀ T : State, T.heap = H → Stand p (xl X) e R s m args below meth c T locs cells slots → ∀ mk methk ck, s.methodNamed? M'.1 = some mk → s.vm.method? mk = some methk → methk.code = some ck → ct_Code M' methk ck → parseMethodDescriptor M'.1.desc = some methk.sig →
      ∃ vm₁, Stand p (xl X) e R s m args below meth c (T.setVm vm₁) locs cells slots ∧ ∀ target, (∀ acts, Steps p.tables e below (doInvoke e ((T.setVm vm₁).setTop (F0 m pc arr (st.map (cv ad)))) acts mk (as.map (cv ad)).toArray).1 target) → Steps p.tables e below (T.setTop (F0 m pc arr sk)) target)
    (hwf : ∀ r w', Q' r w' → w'.length = w.length ∨ (wfL w.length w'.length ls = true ∧ wfS w.length w'.length st = true))
    (hret : ∀ v w', Q' (.inl v) w' → AW X M d mc ms (cb + mc') (sb + ms') (pc + 3) ls (v.toList ++ st) w' Q)
    (hthr : ∀ x w', Q' (.inr x) w' → AX X M d mc ms (cb + mc') (sb + ms') pc ls w' Q x) :
    W p (xl X) e R s m args below meth c H locs cells slots (AEnd X below s A ad0 n0 mc ms Q) (F0 m pc arr sk) := by
  intro T hT Y
  obtain ⟨hP, hD, hS, hL, r5, r6, r7, r8⟩ := id hr
  obtain ⟨mk, methk, ck, hn, hmk, hck, hcd, hsig⟩ := hin.spec G hA.lat
  obtain ⟨vm₁, Y₁, hstep⟩ := hlk T hT Y mk methk ck hn hmk hck hcd hsig
  have hT1 : (T.setVm vm₁).heap = H := hT
  obtain ⟨hR1, hR2, hR3, hR4⟩ := hR
  obtain ⟨r, ad', w', L, k, n, T', hq, Y', ⟨c1, c2, c3, c4, c5, c6⟩, hv, hx⟩ := ct_run hM G Y₁ (g := F0 m pc arr (st.map (cv ad))) rfl (hL.1.1.trans hA.maxL.symm) (by rw [hA.code]; exact hd) hn hmk hck hcd hpl hA.exec hA.lat hA.A1 hA.A2
    (by rw [hT1]; exact hP) hD (by rw [hT1]; exact hS) r7 hr.sc (by omega) (ct_room hcat hdep hml hR2) (by omega) (by omega)
  have hag : LV ad' M.2.2.1 ls arr ∧ st.map (cv ad') = st.map (cv ad) := by
    rcases hwf r w' hq with h | ⟨h, h'⟩
    · have e9 : ad' = ad := funext fun i => c4 i (by omega)
      rw [e9]
      exact ⟨hL, rfl⟩
    · exact ⟨hL.wf h c4, cvs_wf h' c4⟩
  have hrel : Rel X M.2.2.1 A s ad' ad0 n0 w' T'.heap (locs ++ L) ls arr := ⟨c1, c2, c3, hag.1, fun i hi => (c4 i (by omega)).trans (r5 i (by omega)), Nat.le_trans r6 c5, c6, r8⟩
  cases r with
  | inl v =>
    obtain ⟨hk, hn9, hs9⟩ := hv v rfl
    obtain ⟨t, a1, b1⟩ := hret v w' hq G p e R s m args below meth c A ad' ad0 n0 T'.heap (locs ++ L) (cells + k) (slots + n) arr ⟨hR1, hR2, hR3, hR4⟩ hA hrel (by omega) (by omega) T' rfl Y'
    have hstk : (v.toList ++ st).map (cv ad') = (v.map (cv ad')).toList ++ st.map (cv ad) := by
      rw [List.map_append, hag.2]
      cases v <;> rfl
    rw [hstk] at a1
    exact ⟨t, hstep t (fun acts => (hs9 acts).trans a1), b1⟩
  | inr x =>
    obtain ⟨hk, hn9, q, cell, g1, g2, g3, hs9⟩ := hx x rfl
    obtain ⟨t, a1, b1⟩ := hthr x w' hq G p e R s m args below meth c A ad' ad0 n0 T'.heap (locs ++ L) (cells + k) (slots + n) arr (st.map (cv ad)) q cell ⟨hR1, hR2, hR3, hR4⟩ hA hrel (by omega) (by omega) g1 g2 g3 T' rfl Y'
    exact ⟨t, hstep t (fun acts => (hs9 acts).trans a1), b1⟩
/-- the number of a method's parameters, by its descriptor -/
def ct_np (y : MethodName) (n : Nat) : Prop := y.cls ≠ "java/lang/invoke/MethodHandle" ∧ y.cls ≠ "java/lang/invoke/VarHandle" ∧ (parseMethodDescriptor y.desc).map (fun q => q.parameters.length) = some n
theorem ct_np.len {y : MethodName} {n : Nat} (h : ct_np y n) {sig : MethodDescriptor} (hs : parseMethodDescriptor y.desc = some sig) : n = sig.parameters.length := by
  have h2 := h.2.2
  rw [hs] at h2
  exact (Option.some.inj h2).symm
/-- what a call's site asks of the callee M', of depth d' -/
def ct_site (M' : ct_M) (d d' : Nat) : Prop := ct_in M' ∧ plainName M'.1.cls = true ∧ d' < d ∧ M'.2.2.1 ≤ 11
theorem AW.callS {index : Nat} (hd : decode M.2.1 pc = .ok (.invokestatic index, 3)) (hp : pc + 3 = pc') (hsite : ct_site M' d d') (hlink : Cond.methodLink M.1.cls index M'.1 ∈ lw_tbl) (hstat : Cond.static M'.1 ∈ lw_tbl) (hini : Cond.initialized M'.1.cls ∈ lw_tbl) (hnp : ct_np M'.1 as.length)
    (hM : AM X M' d' mc' ms' as w Q') (hst : as.reverse ++ st = stk) (hcat : Nat.ble (st.map fun v => v.category).sum 8 = true) (hcb : Nat.ble (cb + mc') mc = true) (hsb : Nat.ble (sb + ms') ms = true)
    (hwf : ∀ r w', Q' r w' → w'.length = w.length ∨ (wfL w.length w'.length ls = true ∧ wfS w.length w'.length st = true))
    (hthr : ∀ x w', Q' (.inr x) w' → AX X M d mc ms (cb + mc') (sb + ms') pc ls w' Q x) (hret : ∀ v w', Q' (.inl v) w' → AW X M d mc ms (cb + mc') (sb + ms') pc' ls (v.toList ++ st) w' Q) : AW X M d mc ms cb sb pc ls stk w Q := by
  subst hp
  subst hst
  intro G p e R s m args below meth c A ad ad0 n0 H locs cells slots arr hR hA hr h1 h2
  refine ct_call hM G hR hA hr h1 h2 hd hsite.1 hsite.2.1 hsite.2.2.1 hsite.2.2.2 (Nat.le_of_ble_eq_true hcat) (Nat.le_of_ble_eq_true hcb) (Nat.le_of_ble_eq_true hsb) ?_ hwf hret hthr
  intro T hT Y mk methk ck hn hmk hck hcd hsig
  have hstatic : methk.isStatic = true := Cond.static_spec hn hmk (hA.lat.w G hstat rfl args)
  obtain ⟨kP, hkP, -⟩ := className_of_methodNamed hn
  have hinitP : kP.init = .initialized := Cond.initialized_spec (findClass_of_methodNamed hn) hkP (hA.lat.w G hini rfl args)
  exact Y.invokestatic hA.exec hA.own (hA.lat.w G hlink rfl args) hn hmk hstatic hkP hinitP ⟨hnp.1, hnp.2.1⟩ (g := F0 m pc arr ((as.reverse ++ st).map (cv ad))) rfl (argsL := as.map (cv ad)) (rest := st.map (cv ad)) (by rw [List.length_map]; exact hnp.len hsig)
    (by show (as.reverse ++ st).map (cv ad) = _; rw [List.map_append, List.map_reverse]) (by rw [hA.code]; exact hd)
theorem AW.callV {index o ci : Nat} {as' fs : List Value} {C : String} {F : u_T} {N : Nat} (hd : decode M.2.1 pc = .ok (.invokevirtual index, 3)) (hp : pc + 3 = pc') (hsite : ct_site M' d d') (hlink : Cond.methodLink M.1.cls index M'.1 ∈ lw_tbl) (hinst : Cond.instanceMethod M'.1 ∈ lw_tbl) (hnp : ct_np M'.1 as'.length)
    (hw : w[o]? = some (.inr (ci, fs))) (hc : vwCl[ci]? = some (C, F, N)) (hsel : Cond.selects C M'.1 M'.1 ∈ lw_tbl) (has : .ref o :: as' = as)
    (hM : AM X M' d' mc' ms' as w Q') (hst : as'.reverse ++ .ref o :: st = stk) (hcat : Nat.ble (st.map fun v => v.category).sum 8 = true) (hcb : Nat.ble (cb + mc') mc = true) (hsb : Nat.ble (sb + ms') ms = true)
    (hwf : ∀ r w', Q' r w' → w'.length = w.length ∨ (wfL w.length w'.length ls = true ∧ wfS w.length w'.length st = true))
    (hthr : ∀ x w', Q' (.inr x) w' → AX X M d mc ms (cb + mc') (sb + ms') pc ls w' Q x) (hret : ∀ v w', Q' (.inl v) w' → AW X M d mc ms (cb + mc') (sb + ms') pc' ls (v.toList ++ st) w' Q) : AW X M d mc ms cb sb pc ls stk w Q := by
  subst hp
  subst hst
  subst has
  intro G p e R s m args below meth c A ad ad0 n0 H locs cells slots arr hR hA hr h1 h2
  refine ct_call hM G hR hA hr h1 h2 hd hsite.1 hsite.2.1 hsite.2.2.1 hsite.2.2.2 (Nat.le_of_ble_eq_true hcat) (Nat.le_of_ble_eq_true hcb) (Nat.le_of_ble_eq_true hsb) ?_ hwf hret hthr
  intro T hT Y mk methk ck hn hmk hck hcd hsig
  obtain ⟨mk', methM, hn', hmethM, hstM, habM⟩ := Cond.instanceMethod_spec (hA.lat.w G hinst rfl args)
  cases Option.some.inj (hn.symm.trans hn')
  cases Option.some.inj (hmk.symm.trans hmethM)
  obtain ⟨c2, r2, m2, q1, q2, q3, q4, kP, hkP, hkPi⟩ := Cond.selects_spec (hA.lat.w G hsel rfl args)
  obtain ⟨cell, g1, g2, g3⟩ := va_recv (hA.K G) hr.1 hc (cw_at hw)
  cases Option.some.inj (g3.symm.trans q1)
  cases Option.some.inj ((State.methodFound?_of_named hn ⟨hnp.1, hnp.2.1⟩).symm.trans q2)
  cases Option.some.inj (hn.symm.trans q3)
  have hselP : selectMethod e.platform s.vm cell.cls mk = .method mk := by rw [Launch.admits_selectMethod Y.admits]; exact q4
  exact Y.invokevirtual hA.exec hA.own (hA.lat.w G hlink rfl args) hn hmk hstM hkP hkPi ⟨hnp.1, hnp.2.1⟩ (a := ad o) (cell := cell) (by rw [hT]; exact g1) (fun z h => by rw [h] at g2; cases g2) hselP hmk habM hkP hkPi
    (g := F0 m pc arr ((as'.reverse ++ .ref o :: st).map (cv ad))) rfl (argsL := as'.map (cv ad)) (rest := st.map (cv ad)) (by rw [List.length_map]; exact hnp.len hsig)
    (by show (as'.reverse ++ .ref o :: st).map (cv ad) = _; rw [List.map_append, List.map_reverse]; rfl) (by rw [hA.code]; exact hd)
theorem AW.callI {index o : Nat} {as' : List Value} (hd : decode M.2.1 pc = .ok (.invokespecial index, 3)) (hp : pc + 3 = pc') (hsite : ct_site M' d d') (hc0 : M'.2.2.2.2 = []) (hr0 : M'.2.2.2.1 = none) (hcode : Cond.code M'.1 M'.2.1 M'.2.2.1 none ∈ lw_tbl) (hy : M'.1.name = "<init>") (hlink : Cond.methodLink M.1.cls index M'.1 ∈ lw_tbl) (hinst : Cond.instanceMethod M'.1 ∈ lw_tbl) (hnp : ct_np M'.1 as'.length)
    (has : .ref o :: as' = as)
    (hM : AM X M' d' mc' ms' as w Q') (hst : as'.reverse ++ .ref o :: st = stk) (hcat : Nat.ble (st.map fun v => v.category).sum 8 = true) (hcb : Nat.ble (cb + mc') mc = true) (hsb : Nat.ble (sb + ms') ms = true)
    (hwf : ∀ r w', Q' r w' → w'.length = w.length ∨ (wfL w.length w'.length ls = true ∧ wfS w.length w'.length st = true))
    (hthr : ∀ x w', Q' (.inr x) w' → AX X M d mc ms (cb + mc') (sb + ms') pc ls w' Q x) (hret : ∀ v w', Q' (.inl v) w' → AW X M d mc ms (cb + mc') (sb + ms') pc' ls (v.toList ++ st) w' Q) : AW X M d mc ms cb sb pc ls stk w Q := by
  subst hp
  subst hst
  subst has
  intro G p e R s m args below meth c A ad ad0 n0 H locs cells slots arr hR hA hr h1 h2
  refine ct_call hM G hR hA hr h1 h2 hd hsite.1 hsite.2.1 hsite.2.2.1 hsite.2.2.2 (Nat.le_of_ble_eq_true hcat) (Nat.le_of_ble_eq_true hcb) (Nat.le_of_ble_eq_true hsb) ?_ hwf hret hthr
  intro T hT Y mk methk ck hn hmk hck hcd hsig
  have hplt : e.platform.magicAccessors = ({} : Platform).magicAccessors := by rw [Y.admits.platform]
  obtain ⟨mk', methM, cM, kP, vm₁, hn', -, -, -, -, -, -, -, hW₁, hstep₁⟩ := Steps.initColdArgs (e := e) Y.here hA.exec Y.warmed hplt hA.own hy ⟨hnp.1, hnp.2.1⟩ (hA.lat.w G hlink rfl args) (hA.lat.w G hinst rfl args) (hA.lat.w G hcode rfl args)
    (f := F0 m pc arr ((as'.reverse ++ .ref o :: st).map (cv ad))) rfl (a := ad o) (argsL := as'.map (cv ad)) (rest := st.map (cv ad)) (fun sig h => by rw [List.length_map]; exact hnp.len h)
    (by show (as'.reverse ++ .ref o :: st).map (cv ad) = _; rw [List.map_append, List.map_reverse]; rfl) (by rw [hA.code]; exact hd)
  cases Option.some.inj (hn.symm.trans hn')
  exact ⟨vm₁, Y.noted hW₁, hstep₁⟩
end CCALL
