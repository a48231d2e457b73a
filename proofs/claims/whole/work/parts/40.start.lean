/-! THE CLAIM OUT OF ONE WALK OF THE LAW'S BODY. Your part is whole_start (and what it stands on); all else here is the same for every law, but numbers. -/
def R_law : String := "CommandTreeLaw"
def lw_P (b : Addr) (xs : List Int32) (args : Array Value) (s : State) : Prop := args = #[.ref b] ∧ s.IntsAt b xs ∧ xs.length ≤ 1536 ∧ (Jvm.Cond.and given_1 narrow_1).before args s = true
def lw_Q (_ : Array Value) (s : State) (o : Outcome) (t : State) : Prop := o = .returned (some (.int 1)) ∧ Framed s o t [] 1091 11820
def lw_Z (below : List Frame) (a : Array Value) (s : State) : State → Prop := fun t => ∃ o, t.status = .running ∧ Ended t below o ∧ lw_Q a s o t
/-- what holds at the law's entry: the machine, the code, the tables' words (any of lw_tbl by 'hts w (by decide +kernel)'), the script of L ints xs at the cell b, what the Statement gives of the start (any of its parts by flat_of_before) -/
def lw_At (p : Program) (s : State) (m : MethodId) (meth : Method) (c : Code) (b L : Nat) (xs : Nat → Int32) : Prop :=
  p.tables.exec = Jvm.exec ∧ c.code = code ∧ meth.sig.returnType = ret ∧ c.maxLocals = 7 ∧ s.vm.findClass R_law = some m.cls ∧ (∀ w ∈ lw_tbl, w.before #[Value.ref b] s = true) ∧ va_X b L xs s s.heap ∧ b < s.heap.size ∧ meth.locks = false ∧ (Jvm.Cond.and given_1 narrow_1).before #[Value.ref b] s = true ∧ c.exceptionTable.toList = [] ∧ meth.name = "law"
theorem arr_of {args : Array Value} {s : State} {ty : FieldType} (h : (Cond.arrayClass ty).before args s = true) (hty : ∀ C, ty ≠ .object C) : ∃ cA : ClassId, ArrOfT s cA ty ∧ va_RA s cA ty := by
  obtain ⟨cA, kA, comp, h1, h2, h3⟩ := Cond.arrayClass_spec h
  refine ⟨cA, fun n z => ⟨fun k h => (by cases h), kA, h2, comp, h3⟩, ?_⟩
  cases ty with
  | object C => exact absurd rfl (hty C)
  | _ => exact h1
theorem ls_1 : Cond.laysStatic Bundle.tN "UNASSIGNED_STACK" Bundle.steD ∈ lw_tbl := by decide +kernel
theorem ls_2 : Cond.laysStatic Bundle.tN "SUPPRESSED_SENTINEL" Bundle.listD ∈ lw_tbl := by decide +kernel
set_option maxRecDepth 100000 in
/-- the law, from its entry -/
theorem whole_start {p : Program} {e : Env} {s : State} {m : MethodId} {below : List Frame} {meth : Method} {c : Code} (l : Launch) (hlt : l.stackTraces = false) {b L : Nat} {xs : Nat → Int32} (hL : L ≤ 1536) (C0 : lw_At p s m meth c b L xs) : W p l e room_1 s m #[Value.ref b] below meth c s.heap [] 0 0 (lw_Z below #[Value.ref b] s) (entryFrame m ([Value.ref b] : List Value).toArray 7) := by
  obtain ⟨hx, hb, hr, hml, hown, hts, hX, hbl, hlocks, hgv, hex, hnm⟩ := C0
  have hs := flat_of_before _ hgv
  obtain ⟨c0, i0, hK0⟩ := u_known (C := "CommandTree$LeaderRows") (T := F_R) (N := 7) (n := 7) hts (fun w h => (us_R w h).1) (hts _ inst_R)
  obtain ⟨c1, i1, hK1⟩ := u_known (C := "CommandTree$TaskList") (T := F_T) (N := 5) (n := 5) hts (fun w h => (us_T w h).1) (hts _ inst_T)
  obtain ⟨c2, i2, hK2⟩ := u_known (C := "CommandTree") (T := F_C) (N := 16) (n := 16) hts (fun w h => (us_C w h).1) (hts _ inst_C)
  obtain ⟨c3, i3, hK3⟩ := u_known (C := "CommandTreeModel") (T := F_M) (N := 25) (n := 25) hts (fun w h => (us_M w h).1) (hts _ inst_M)
  obtain ⟨a0, hA0⟩ := arr_of (hts _ arr_int) (fun C h => nomatch h)
  obtain ⟨a1, hA1⟩ := arr_of (hts _ arr_boolean) (fun C h => nomatch h)
  obtain ⟨a2, hA2⟩ := arr_of (hts _ arr_long) (fun C h => nomatch h)
  obtain ⟨dC, dI, hKc⟩ : ∃ (dC : Nat → ClassId) (dI : Nat → Nat → Nat), ∀ (k : Nat) (q : vw_C), vwCl[k]? = some q → u_Kn s q.1 q.2.1 q.2.2 (dC k) (dI k) := by
    refine ⟨fun k => if k = 0 then c0 else if k = 1 then c1 else if k = 2 then c2 else c3, fun k => if k = 0 then i0 else if k = 1 then i1 else if k = 2 then i2 else i3, ?_⟩
    intro k q hq
    match k, hq with
    | 0, hq => cases hq; exact hK0
    | 1, hq => cases hq; exact hK1
    | 2, hq => cases hq; exact hK2
    | 3, hq => cases hq; exact hK3
    | k + 4, hq => cases hq
  obtain ⟨tc, hKt⟩ : ∃ tc : Nat → ClassId, ∀ (k : Nat) (q : ClassId × FieldType), (ct_tys tc)[k]? = some q → ArrOfT s q.1 q.2 ∧ va_RA s q.1 q.2 := by
    refine ⟨fun k => if k = 0 then a0 else if k = 1 then a1 else a2, ?_⟩
    intro k q hq
    match k, hq with
    | 0, hq => cases hq; exact hA0
    | 1, hq => cases hq; exact hA1
    | 2, hq => cases hq; exact hA2
    | k + 3, hq => cases hq
  have hnA : ∀ a : Nat, a < s.heap.size → ¬ (fun q : Nat => s.heap.size ≤ q) a := fun a h => Nat.not_le.mpr h
  have G : Gl (l, s, #[Value.ref b], (dC, dI), tc, b, L, xs) := by
    refine ⟨hts, hlt, ⟨hKc, hKt⟩, hX, hbl, vx_Zqof (hts _ ls_1) (hts _ ini_java_lang_Throwable) (hs _ (by decide +kernel)) hnA, vx_Zqof (hts _ ls_2) (hts _ ini_java_lang_Throwable) (hs _ (by decide +kernel)) hnA, fun i j hi hj hne => ?_⟩
    have hmem : ∀ i, i < 4 → ∀ j, j < 4 → i ≠ j → Cond.not (.castable (xn i) (xn j)) ∈ flatC (Jvm.Cond.and given_1 narrow_1) := by decide +kernel
    exact va_Nc.of (hs _ (hmem i hi j hj hne))
  have hM := law_all (l, s, #[Value.ref b], (dC, dI), tc, b, L, xs) hL
  have hW := hM G p e room_1 s m below meth c (fun q : Nat => s.heap.size ≤ q) (fun _ => b) ⟨by decide, by decide, by decide, by decide⟩
    ⟨hx, ⟨hb, hml, hr, hlocks, by rw [hex]; rfl⟩, hown, hnm, ⟨State.WarmedH.refl s, Nat.le_refl _, fun q _ => rfl⟩, fun q h => h, fun q h => h⟩ (fun k q h => (by cases h)) ⟨fun i j p q h => (by cases h), fun k q h => (by cases h)⟩ (Nat.zero_le _) rfl
  refine ct_mono (fun t ht => ?_) hW
  obtain ⟨o, r, ad, w, Lc, k, n, ⟨g1, g2, g3, g4, g5, -⟩, -, rfl, g6, g7, g8⟩ := ht
  refine ⟨o, g1, g2, g6, ⟨_, g6⟩, g3, (g4.sift (L' := []) (fun x hx => Or.inr (g5 x hx))).mono (by omega) (by omega)⟩
