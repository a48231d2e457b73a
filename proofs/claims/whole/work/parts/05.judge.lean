/-! THE JUDGEMENTS. X: what is fixed over the whole run: the launch, the law's first state and arguments, the classes' numbers and slots, the array classes, the script's address, length, contents -/
abbrev ct_X : Type := Launch × State × Array Value × va_G × (Nat → ClassId) × Nat × Nat × (Nat → Int32)
abbrev xl (X : ct_X) : Launch := X.1
abbrev xs (X : ct_X) : State := X.2.1
abbrev xa (X : ct_X) : Array Value := X.2.2.1
abbrev xD (X : ct_X) : va_G := X.2.2.2.1
abbrev xt (X : ct_X) : Nat → ClassId := X.2.2.2.2.1
abbrev xb (X : ct_X) : Nat := X.2.2.2.2.2.1
abbrev xL (X : ct_X) : Nat := X.2.2.2.2.2.2.1
abbrev xx (X : ct_X) : Nat → Int32 := X.2.2.2.2.2.2.2
abbrev ct_tys (tc : Nat → ClassId) : List (ClassId × FieldType) := [(tc 0, .int), (tc 1, .boolean), (tc 2, .long)]
/-- the script's cell number -/
def scr : Nat := 1000000
/-- the exceptions -/
def xn : Nat → String
  | 0 => "java/lang/IndexOutOfBoundsException"
  | 1 => "java/lang/UnsupportedOperationException"
  | 2 => "java/lang/IllegalArgumentException"
  | _ => "java/lang/IllegalStateException"
/-- what holds at the law's first state -/
def Gl (X : ct_X) : Prop :=
  (∀ w ∈ lw_tbl, w.before (xa X) (xs X) = true) ∧ (xl X).stackTraces = false ∧ va_K (xD X) vwCl (ct_tys (xt X)) (xs X) ∧ va_X (xb X) (xL X) (xx X) (xs X) (xs X).heap ∧ xb X < (xs X).heap.size ∧
  vx_Zq Bundle.tN "UNASSIGNED_STACK" Bundle.steD (fun q => (xs X).heap.size ≤ q) (xs X) (xs X).heap ∧ vx_Zq Bundle.tN "SUPPRESSED_SENTINEL" Bundle.listD (fun q => (xs X).heap.size ≤ q) (xs X) (xs X).heap ∧ ∀ i j : Nat, i < 4 → j < 4 → i ≠ j → va_Nc (xn i) (xn j) (xs X)
/-- a method: its name, code, number of locals, what it returns, its handlers -/
abbrev ct_M : Type := MethodName × ByteArray × Nat × Option FieldType × List (Nat × Nat × Nat × Nat)
/-- a later state: warmer tables, the first state's cells as they were -/
def Lat (X : ct_X) (s : State) : Prop := (xs X).WarmedH s.vm ∧ (xs X).heap.size ≤ s.heap.size ∧ ∀ q : Nat, q < (xs X).heap.size → s.heap[q]? = (xs X).heap[q]?
def ct_Code (M : ct_M) (meth : Method) (c : Code) : Prop :=
  c.code = M.2.1 ∧ c.maxLocals = M.2.2.1 ∧ meth.sig.returnType = M.2.2.2.1 ∧ meth.locks = false ∧ c.exceptionTable.toList.map (fun h => (h.startPc, h.endPc, h.handlerPc, h.catchType)) = M.2.2.2.2
def Amb (X : ct_X) (M : ct_M) (p : Program) (s : State) (m : MethodId) (meth : Method) (c : Code) (A : Nat → Prop) : Prop :=
  p.tables.exec = Jvm.exec ∧ ct_Code M meth c ∧ s.vm.findClass M.1.cls = some m.cls ∧ meth.name = M.1.name ∧ Lat X s ∧ (∀ q, A q → (xs X).heap.size ≤ q) ∧ ∀ q, s.heap.size ≤ q → A q
theorem Amb.exec {X : ct_X} {M : ct_M} {p : Program} {s : State} {m : MethodId} {meth : Method} {c : Code} {A : Nat → Prop} (h : Amb X M p s m meth c A) : p.tables.exec = Jvm.exec := h.1
theorem Amb.code {X : ct_X} {M : ct_M} {p : Program} {s : State} {m : MethodId} {meth : Method} {c : Code} {A : Nat → Prop} (h : Amb X M p s m meth c A) : c.code = M.2.1 := h.2.1.1
theorem Amb.maxL {X : ct_X} {M : ct_M} {p : Program} {s : State} {m : MethodId} {meth : Method} {c : Code} {A : Nat → Prop} (h : Amb X M p s m meth c A) : c.maxLocals = M.2.2.1 := h.2.1.2.1
theorem Amb.ret {X : ct_X} {M : ct_M} {p : Program} {s : State} {m : MethodId} {meth : Method} {c : Code} {A : Nat → Prop} (h : Amb X M p s m meth c A) : meth.sig.returnType = M.2.2.2.1 := h.2.1.2.2.1
theorem Amb.locks {X : ct_X} {M : ct_M} {p : Program} {s : State} {m : MethodId} {meth : Method} {c : Code} {A : Nat → Prop} (h : Amb X M p s m meth c A) : meth.locks = false := h.2.1.2.2.2.1
theorem Amb.table {X : ct_X} {M : ct_M} {p : Program} {s : State} {m : MethodId} {meth : Method} {c : Code} {A : Nat → Prop} (h : Amb X M p s m meth c A) : c.exceptionTable.toList.map (fun h => (h.startPc, h.endPc, h.handlerPc, h.catchType)) = M.2.2.2.2 := h.2.1.2.2.2.2
theorem Amb.own {X : ct_X} {M : ct_M} {p : Program} {s : State} {m : MethodId} {meth : Method} {c : Code} {A : Nat → Prop} (h : Amb X M p s m meth c A) : s.vm.findClass M.1.cls = some m.cls := h.2.2.1
theorem Amb.name {X : ct_X} {M : ct_M} {p : Program} {s : State} {m : MethodId} {meth : Method} {c : Code} {A : Nat → Prop} (h : Amb X M p s m meth c A) : meth.name = M.1.name := h.2.2.2.1
theorem Amb.lat {X : ct_X} {M : ct_M} {p : Program} {s : State} {m : MethodId} {meth : Method} {c : Code} {A : Nat → Prop} (h : Amb X M p s m meth c A) : Lat X s := h.2.2.2.2.1
theorem Amb.A1 {X : ct_X} {M : ct_M} {p : Program} {s : State} {m : MethodId} {meth : Method} {c : Code} {A : Nat → Prop} (h : Amb X M p s m meth c A) : ∀ q, A q → (xs X).heap.size ≤ q := h.2.2.2.2.2.1
theorem Amb.A2 {X : ct_X} {M : ct_M} {p : Program} {s : State} {m : MethodId} {meth : Method} {c : Code} {A : Nat → Prop} (h : Amb X M p s m meth c A) : ∀ q, s.heap.size ≤ q → A q := h.2.2.2.2.2.2
theorem Amb.K {X : ct_X} {M : ct_M} {p : Program} {s : State} {m : MethodId} {meth : Method} {c : Code} {A : Nat → Prop} (h : Amb X M p s m meth c A) (G : Gl X) : va_K (xD X) vwCl (ct_tys (xt X)) s := va_K.moved h.lat.1.alike G.2.2.1
/-- a good word of the tables, at a later state -/
theorem Lat.w {X : ct_X} {s : State} (h : Lat X s) (G : Gl X) {w : Cond} (hw : w ∈ lw_tbl) (hg : goodWord w = true) (args : Array Value) : w.before args s = true := word_at h.1 (good_of_word hg) (G.1 w hw)
/-- a point of a body: the world, what may have changed, the locals, the cell numbers that are as at the body's start -/
def Rel (X : ct_X) (nL : Nat) (A : Nat → Prop) (s : State) (ad ad0 : Nat → Nat) (n0 : Nat) (w : ct_W) (H : Heap) (locs : List Loc) (ls : List (Option Value)) (arr : Array Slot) : Prop :=
  va_P (xD X) vwCl (cw (xt X) ad w) H ∧ va_D A (cw (xt X) ad w) ∧ va_S A s.heap H locs ∧ LV ad nL ls arr ∧ ct_ag n0 w.length ad0 ad ∧ n0 ≤ w.length ∧ w.length ≤ scr ∧ ad0 scr = xb X
theorem Rel.sc {X : ct_X} {nL : Nat} {A : Nat → Prop} {s : State} {ad ad0 : Nat → Nat} {n0 : Nat} {w : ct_W} {H : Heap} {locs : List Loc} {ls : List (Option Value)} {arr : Array Slot} (h : Rel X nL A s ad ad0 n0 w H locs ls arr) : ad scr = xb X := by
  obtain ⟨-, -, -, -, h5, -, h7, h8⟩ := h
  rw [h5 scr (Or.inr h7), h8]
/-- how a method ends: r: it returned a value, or threw an exception of the class xn x; the world, the cells made -/
def ct_out (s : State) (ad : Nat → Nat) (mc ms k n : Nat) (o : Outcome) (t : State) : Option Value ⊕ Nat → Prop
  | .inl v => o = .returned (v.map (cv ad)) ∧ k ≤ mc ∧ n ≤ ms
  | .inr x => (∃ (a : Addr) (cell : Cell), o = .threw a ∧ t.heap[a]? = some cell ∧ cell.vm = .none ∧ s.vm.findClass (xn x) = some cell.cls) ∧ k ≤ mc + 1 ∧ n ≤ ms + 6
def AEnd (X : ct_X) (below : List Frame) (s : State) (A : Nat → Prop) (ad0 : Nat → Nat) (n0 mc ms : Nat) (Q : Option Value ⊕ Nat → ct_W → Prop) (t : State) : Prop :=
  ∃ (o : Outcome) (r : Option Value ⊕ Nat) (ad : Nat → Nat) (w : ct_W) (L : List Loc) (k n : Nat),
    (t.status = .running ∧ Ended t below o ∧ s.WarmedH t.vm ∧ s.sameButNew ({ t with vm := s.vm } : State) L k n ∧ (∀ q ∈ L, A q.base) ∧ va_F A s t) ∧
    (va_P (xD X) vwCl (cw (xt X) ad w) t.heap ∧ va_D A (cw (xt X) ad w) ∧ ct_ag n0 w.length ad0 ad ∧ n0 ≤ w.length ∧ w.length ≤ scr) ∧ Q r w ∧ ct_out s ad mc ms k n o t r
/-- the room of a method of depth d that makes mc cells of ms slots (and an exception) -/
def RD (d mc ms : Nat) (R : Room) : Prop := d ≤ R.frames ∧ 30 * d ≤ R.locals ∧ mc + 1 ≤ R.cells ∧ ms + 6 ≤ R.slots
/-- A POINT OF A BODY: pc, locals, stack, world; cb, sb: cells and slots made so far; Q: what the method's end owes -/
def AW (X : ct_X) (M : ct_M) (d mc ms cb sb pc : Nat) (ls : List (Option Value)) (st : List Value) (w : ct_W) (Q : Option Value ⊕ Nat → ct_W → Prop) : Prop :=
  Gl X → ∀ (p : Program) (e : Env) (R : Room) (s : State) (m : MethodId) (args : Array Value) (below : List Frame) (meth : Method) (c : Code) (A : Nat → Prop) (ad ad0 : Nat → Nat) (n0 : Nat) (H : Heap) (locs : List Loc) (cells slots : Nat) (arr : Array Slot),
    RD d mc ms R → Amb X M p s m meth c A → Rel X M.2.2.1 A s ad ad0 n0 w H locs ls arr → cells ≤ cb → slots ≤ sb →
    W p (xl X) e R s m args below meth c H locs cells slots (AEnd X below s A ad0 n0 mc ms Q) (F0 m pc arr (st.map (cv ad)))
/-- A METHOD: from arguments as and a world w it ends with Q -/
def AM (X : ct_X) (M : ct_M) (d mc ms : Nat) (as : List Value) (w : ct_W) (Q : Option Value ⊕ Nat → ct_W → Prop) : Prop :=
  Gl X → ∀ (p : Program) (e : Env) (R : Room) (s : State) (m : MethodId) (below : List Frame) (meth : Method) (c : Code) (A : Nat → Prop) (ad : Nat → Nat),
    RD d mc ms R → Amb X M p s m meth c A → va_P (xD X) vwCl (cw (xt X) ad w) s.heap → va_D A (cw (xt X) ad w) → w.length ≤ scr → ad scr = xb X →
    W p (xl X) e R s m (as.map (cv ad)).toArray below meth c s.heap [] 0 0 (AEnd X below s A ad w.length mc ms Q) (entryFrame m (as.map (cv ad)).toArray M.2.2.1)
def ct_c1 (as : List Value) : Bool := as.all (fun v => v.category == 1)
theorem AM.of {X : ct_X} {M : ct_M} {d mc ms : Nat} {as : List Value} {w : ct_W} {Q : Option Value ⊕ Nat → ct_W → Prop} (hc : ct_c1 as = true) (hl : as.length ≤ M.2.2.1) {ls : List (Option Value)} (hls : as.map some ++ List.replicate (M.2.2.1 - as.length) none = ls) (k : AW X M d mc ms 0 0 0 ls [] w Q) : AM X M d mc ms as w Q := by
  intro G p e R s m below meth c A ad hR hA hP hD hw hb
  subst hls
  have hcat : ∀ v ∈ as, v.category = 1 := fun v hv => by simpa using List.all_eq_true.mp hc v hv
  rw [entry_eq m (as.map (cv ad)) (fun v hv => by obtain ⟨u, h1, rfl⟩ := List.mem_map.mp hv; rw [cv_cat]; exact hcat u h1)]
  exact k G p e R s m _ below meth c A ad ad w.length s.heap [] 0 0 _ hR hA ⟨hP, hD, va_S.rf, LV.entry as hcat hl, fun _ _ => rfl, Nat.le_refl _, hw, hb⟩ (Nat.le_refl _) (Nat.le_refl _)
theorem ct_mono {p : Program} {l : Launch} {e : Env} {R : Room} {s : State} {m : MethodId} {args : Array Value} {below : List Frame} {meth : Method} {c : Code} {H : Heap} {locs : List Loc} {cells slots : Nat} {Q Q' : State → Prop} {g : JFrame} (h : ∀ t, Q t → Q' t) (k : W p l e R s m args below meth c H locs cells slots Q g) : W p l e R s m args below meth c H locs cells slots Q' g := by
  intro T hT Y
  obtain ⟨t, a, b⟩ := k T hT Y
  exact ⟨t, a, h t b⟩
theorem AM.mono {X : ct_X} {M : ct_M} {d mc ms : Nat} {as : List Value} {w : ct_W} {Q Q' : Option Value ⊕ Nat → ct_W → Prop} (h : ∀ r w', Q r w' → Q' r w') (k : AM X M d mc ms as w Q) : AM X M d mc ms as w Q' := by
  intro G p e R s m below meth c A ad hR hA hP hD hw hb
  refine ct_mono (fun t ht => ?_) (k G p e R s m below meth c A ad hR hA hP hD hw hb)
  obtain ⟨o, r, ad', w', L, k, n, h1, h2, h3, h4⟩ := ht
  exact ⟨o, r, ad', w', L, k, n, h1, h2, h _ _ h3, h4⟩
/-- a body's return -/
theorem ct_end {X : ct_X} {nL : Nat} {p : Program} {e : Env} {R : Room} {s : State} {m : MethodId} {args : Array Value} {below : List Frame} {meth : Method} {c : Code} {A : Nat → Prop} {ad ad0 : Nat → Nat} {n0 : Nat} {w : ct_W} {H : Heap} {locs : List Loc} {cells slots mc ms : Nat} {ls : List (Option Value)} {arr : Array Slot} {Q : Option Value ⊕ Nat → ct_W → Prop} {v : Option Value} {g : JFrame}
    (hr : Rel X nL A s ad ad0 n0 w H locs ls arr) (hq : Q (.inl v) w) (h1 : cells ≤ mc) (h2 : slots ≤ ms)
    (k : W p (xl X) e R s m args below meth c H locs cells slots (MQ below (fun _ _ o t => o = .returned (v.map (cv ad)) ∧ t.heap = H) args s cells slots A) g) : W p (xl X) e R s m args below meth c H locs cells slots (AEnd X below s A ad0 n0 mc ms Q) g := by
  refine ct_mono (fun t ht => ?_) k
  obtain ⟨o, a1, a2, ⟨a3, a4⟩, L, ⟨-, a5, a6⟩, a7⟩ := ht
  obtain ⟨hP, hD, hS, -, h5, h6, h7, -⟩ := hr
  exact ⟨o, .inl v, ad, w, L, cells, slots, ⟨a1, a2, a5, a6, a7, hS.F a4⟩, ⟨by rw [a4]; exact hP, hD, h5, h6, h7⟩, hq, a3, h1, h2⟩
