/-! FIELDS, NEW CELLS -/
def ct_fl (own : String) (index ci j : Nat) : Prop := ∃ (C : String) (F : u_T) (N : Nat), vwCl[ci]? = some (C, F, N) ∧ j < N ∧ Cond.fieldLink own index (F j).1 (F j).2.1 (F j).2.2.1 ∈ lw_tbl
def ct_fp (own : String) (index ci j : Nat) (ty : FieldType) (fin : Bool) : Prop := ∃ (C : String) (F : u_T) (N : Nat), vwCl[ci]? = some (C, F, N) ∧ j < N ∧ Cond.fieldLink own index (F j).1 (F j).2.1 (F j).2.2.1 ∈ lw_tbl ∧ (F j).2.2.2 = fin ∧ parseFieldDescriptor (F j).2.2.1 = some ty ∧ (F j).1 = own
def ct_nw (own : String) (index ci N : Nat) (fs : List Value) : Prop := ∃ (C : String) (F : u_T) (ty : Nat → FieldType), vwCl[ci]? = some (C, F, N) ∧ Cond.classLink own index C ∈ lw_tbl ∧ Cond.instantiable C N ∈ lw_tbl ∧ Cond.initialized C ∈ lw_tbl ∧ (∀ j, j < N → parseFieldDescriptor (F j).2.2.1 = some (ty j)) ∧ ∀ j, j < N → defaultValue (ty j) = vp_V fs j
section CELLS
variable {X : ct_X} {M : ct_M} {d mc ms cb sb pc pc' : Nat} {ls : List (Option Value)} {st : List Value} {w : ct_W} {Q : Option Value ⊕ Nat → ct_W → Prop}
theorem AW.getf {index o ci j : Nat} {fs : List Value} {v : Value} (hd : decode M.2.1 pc = .ok (.getfield index, 3)) (hp : pc + 3 = pc') (hf : ct_fl M.1.cls index ci j) (hw : w[o]? = some (.inr (ci, fs))) (hv : fs[j]? = some v) (k : AW X M d mc ms cb sb pc' ls (v :: st) w Q) : AW X M d mc ms cb sb pc ls (.ref o :: st) w Q := by
  subst hp
  intro G p e R s m args below meth c A ad ad0 n0 H locs cells slots arr hR hA hr h1 h2
  obtain ⟨C, F, N, hc, hj, hl⟩ := hf
  obtain ⟨hu, -, -⟩ := ct_cls hc
  exact va_get (D := xD X) (ci := ci) (v := cv ad v) hA.exec hA.code (fun w h => hA.lat.w G (hu w h).1 (hu w h).2 args) (fun w h => h) hA.own (hA.K G) hr.1 o (cw_at hw) hc j hj (hA.lat.w G hl rfl args) (fun _ h => h) (by rw [List.getElem?_map, hv]; rfl) hd
    (k G p e R s m args below meth c A ad ad0 n0 H locs cells slots arr hR hA hr h1 h2)
theorem AW.putf {index o ci j : Nat} {fs fs' : List Value} {v : Value} {ty : FieldType} {w' : ct_W} (hd : decode M.2.1 pc = .ok (.putfield index, 3)) (hp : pc + 3 = pc') (hf : ct_fp M.1.cls index ci j ty false) (hw : w[o]? = some (.inr (ci, fs))) (hl : Nat.ble (j + 1) fs.length = true) (hn : ∀ ad, narrow ty (cv ad v) = cv ad v ∧ fits ty (cv ad v) = true) (hs : fs.set j v = fs') (hs' : w.set o (.inr (ci, fs')) = w') (k : AW X M d mc ms cb sb pc' ls st w' Q) : AW X M d mc ms cb sb pc ls (v :: .ref o :: st) w Q := by
  subst hp
  subst hs
  subst hs'
  intro G p e R s m args below meth c A ad ad0 n0 H locs cells slots arr hR hA hr h1 h2
  obtain ⟨C, F, N, hc, hj, hlk, hfin, hty, -⟩ := hf
  obtain ⟨hu, ⟨ty0, hty0⟩, hnm⟩ := ct_cls hc
  have hset : (fs.map (cv ad)).set j (cv ad v) = (fs.set j v).map (cv ad) := List.map_set.symm
  refine va_put (D := xD X) (ci := ci) (v := cv ad v) (ty := ty) hA.exec hA.code (fun w h => hA.lat.w G (hu w h).1 (hu w h).2 args) (fun w h => h) ty0 hty0 hnm hA.own (hA.K G) hr.1 hr.2.1 hr.2.2.1 o (cw_at hw) hc j hj (hA.lat.w G hlk rfl args) (fun _ h => h) hfin hty (hn ad).1 (hn ad).2 (by rw [List.length_map]; exact Nat.le_of_ble_eq_true hl) hd (fun H' locs' hP' hD' hS' => ?_)
  rw [hset] at hP' hD'
  exact k G p e R s m args below meth c A ad ad0 n0 H' locs' cells slots arr hR hA ⟨by rw [← cw_set]; exact hP', by rw [← cw_set]; exact hD', hS', hr.2.2.2.1, by rw [List.length_set]; exact hr.2.2.2.2.1, by rw [List.length_set]; exact hr.2.2.2.2.2.1, by rw [List.length_set]; exact hr.2.2.2.2.2.2.1, hr.2.2.2.2.2.2.2⟩ h1 h2
theorem AW.putF {index o ci j : Nat} {fs fs' : List Value} {v : Value} {ty : FieldType} {w' : ct_W} (hd : decode M.2.1 pc = .ok (.putfield index, 3)) (hp : pc + 3 = pc') (hi : M.1.name = "<init>") (hf : ct_fp M.1.cls index ci j ty true) (hw : w[o]? = some (.inr (ci, fs))) (hl : Nat.ble (j + 1) fs.length = true) (hn : ∀ ad, narrow ty (cv ad v) = cv ad v ∧ fits ty (cv ad v) = true) (hs : fs.set j v = fs') (hs' : w.set o (.inr (ci, fs')) = w') (k : AW X M d mc ms cb sb pc' ls st w' Q) : AW X M d mc ms cb sb pc ls (v :: .ref o :: st) w Q := by
  subst hp
  subst hs
  subst hs'
  intro G p e R s m args below meth c A ad ad0 n0 H locs cells slots arr hR hA hr h1 h2
  obtain ⟨C, F, N, hc, hj, hlk, hfin, hty, hdc⟩ := hf
  obtain ⟨hu, ⟨ty0, hty0⟩, hnm⟩ := ct_cls hc
  have hset : (fs.map (cv ad)).set j (cv ad v) = (fs.set j v).map (cv ad) := List.map_set.symm
  refine va_putF (D := xD X) (ci := ci) (v := cv ad v) (ty := ty) hA.exec hA.code (fun w h => hA.lat.w G (hu w h).1 (hu w h).2 args) (fun w h => h) ty0 hty0 hnm hA.own (hA.K G) hr.1 hr.2.1 hr.2.2.1 o (cw_at hw) hc j hj (hA.lat.w G hlk rfl args) (fun _ h => h) hfin (hA.name.trans hi) hdc hty (hn ad).1 (hn ad).2 (by rw [List.length_map]; exact Nat.le_of_ble_eq_true hl) hd (fun H' locs' hP' hD' hS' => ?_)
  rw [hset] at hP' hD'
  exact k G p e R s m args below meth c A ad ad0 n0 H' locs' cells slots arr hR hA ⟨by rw [← cw_set]; exact hP', by rw [← cw_set]; exact hD', hS', hr.2.2.2.1, by rw [List.length_set]; exact hr.2.2.2.2.1, by rw [List.length_set]; exact hr.2.2.2.2.2.1, by rw [List.length_set]; exact hr.2.2.2.2.2.2.1, hr.2.2.2.2.2.2.2⟩ h1 h2
theorem Rel.push {nL : Nat} {A : Nat → Prop} {s : State} {ad ad0 : Nat → Nat} {n0 : Nat} {H H' : Heap} {locs locs' : List Loc} {arr : Array Slot} {q : Nat} {z : ct_E} (hr : Rel X nL A s ad ad0 n0 w H locs ls arr) (hP : va_P (xD X) vwCl (cw (xt X) ad w ++ [(q, ce (xt X) ad z)]) H') (hD : va_D A (cw (xt X) ad w ++ [(q, ce (xt X) ad z)])) (hS : va_S A s.heap H' locs')
    (hwf : wfW w.length (w.length + 1) w = true ∧ wfE w.length (w.length + 1) z = true ∧ wfL w.length (w.length + 1) ls = true ∧ Nat.ble (w.length + 1) scr = true) : Rel X nL A s (va_up ad w.length q) ad0 n0 (w ++ [z]) H' locs' ls arr := by
  obtain ⟨-, -, -, hL, r5, r6, r7, r8⟩ := hr
  have ha : ct_ag w.length (w.length + 1) ad (va_up ad w.length q) := fun i hi => va_up_ne _ _ (by omega)
  have hlen : (w ++ [z]).length = w.length + 1 := by simp
  refine ⟨by rw [cw_push hwf.1 hwf.2.1]; exact hP, by rw [cw_push hwf.1 hwf.2.1]; exact hD, hS, hL.wf hwf.2.2.1 ha, fun i hi => ?_, by omega, by rw [hlen]; exact Nat.le_of_ble_eq_true hwf.2.2.2, r8⟩
  rw [hlen] at hi
  exact (ha i (by omega)).trans (r5 i (by omega))
theorem AW.new {index ci N cb' sb' : Nat} {fs : List Value} {w' : ct_W} {n : Nat} (hd : decode M.2.1 pc = .ok (.new index, 3)) (hp : pc + 3 = pc') (hf : ct_nw M.1.cls index ci N fs) (hfs : ∀ ad, fs.map (cv ad) = fs) (hn : w.length = n)
    (hwf : wfW w.length (w.length + 1) w = true ∧ wfE w.length (w.length + 1) (.inr (ci, fs)) = true ∧ wfL w.length (w.length + 1) ls = true ∧ Nat.ble (w.length + 1) scr = true) (hst : wfS w.length (w.length + 1) st = true) (hcb : cb + 1 = cb') (hsb : sb + N = sb') (hc : Nat.ble cb' mc = true) (hs : Nat.ble sb' ms = true) (hw' : w ++ [.inr (ci, fs)] = w')
    (k : AW X M d mc ms cb' sb' pc' ls (.ref n :: st) w' Q) : AW X M d mc ms cb sb pc ls st w Q := by
  subst hp
  subst hcb
  subst hsb
  subst hn
  subst hw'
  intro G p e R s m args below meth c A ad ad0 n0 H locs cells slots arr hR hA hr h1 h2
  obtain ⟨C, F, ty, hcl, hl1, hl2, hl3, hty, hdf⟩ := hf
  obtain ⟨hu, -, -⟩ := ct_cls hcl
  obtain ⟨hR1, hR2, hR3, hR4⟩ := id hR
  have hc' := Nat.le_of_ble_eq_true hc
  have hs' := Nat.le_of_ble_eq_true hs
  refine va_new (ci := ci) (fs := fs) hA.exec hA.code (fun w h => hA.lat.w G (hu w h).1 (hu w h).2 args) (fun w h => h) ty hty hA.own (hA.lat.w G hl1 rfl args) (hA.lat.w G hl2 rfl args) (hA.lat.w G hl3 rfl args) (hA.K G) hr.1 hr.2.1 hr.2.2.1 hA.A2 hcl hdf (by omega) (by omega) hd (fun q H' hP' hD' hS' => ?_)
  have e9 : ce (xt X) ad (.inr (ci, fs)) = .inr (ci, fs) := by show Sum.inr (ci, fs.map (cv ad)) = _; rw [hfs]
  rw [← e9] at hP' hD'
  have hk := k G p e R s m args below meth c A (va_up ad w.length q) ad0 n0 H' locs (cells + 1) (slots + N) arr hR hA (hr.push hP' hD' hS' hwf) (by omega) (by omega)
  have e8 : (Value.ref w.length :: st).map (cv (va_up ad w.length q)) = .ref q :: st.map (cv ad) := by
    show Value.ref (va_up ad w.length q w.length) :: st.map (cv (va_up ad w.length q)) = _
    rw [va_up_self, cvs_wf hst (fun i hi => va_up_ne _ _ (by omega))]
  rw [e8] at hk
  exact hk
theorem AW.newa {atype : ArrayType} {ty : FieldType} {t N cb' sb' : Nat} {a0 : vp_A} {x : Int32} {w' : ct_W} {n : Nat} (hd : decode M.2.1 pc = .ok (.newarray atype, 2)) (hp : pc + 2 = pc') (harr : Cond.arrayClass (newarray.typeOf atype) ∈ lw_tbl) (hty : newarray.typeOf atype = ty) (ht : ∀ tc : Nat → ClassId, (ct_tys tc)[t]? = some (tc t, ty)) (hra : ∀ (U : State) (c1 c2 : ClassId), va_RA U c1 ty → va_RA U c2 ty → c1 = c2)
    (ha : ∀ cA : ClassId, vp_cell cA a0 = arrV cA N (fun _ => defaultValue ty)) (hx : ¬ x < 0) (hN : x.toNatClampNeg = N) (hby : N * componentBytes ty ≤ 536870912) (hn : w.length = n)
    (hwf : wfW w.length (w.length + 1) w = true ∧ wfE w.length (w.length + 1) (.inl (t, a0)) = true ∧ wfL w.length (w.length + 1) ls = true ∧ Nat.ble (w.length + 1) scr = true) (hst : wfS w.length (w.length + 1) st = true) (hcb : cb + 1 = cb') (hsb : sb + N = sb') (hc : Nat.ble cb' mc = true) (hs : Nat.ble sb' ms = true) (hw' : w ++ [.inl (t, a0)] = w')
    (k : AW X M d mc ms cb' sb' pc' ls (.ref n :: st) w' Q) : AW X M d mc ms cb sb pc ls (.int x :: st) w Q := by
  subst hp
  subst hcb
  subst hsb
  subst hn
  subst hw'
  intro G p e R s m args below meth c A ad ad0 n0 H locs cells slots arr hR hA hr h1 h2
  obtain ⟨hR1, hR2, hR3, hR4⟩ := id hR
  have hc' := Nat.le_of_ble_eq_true hc
  have hs' := Nat.le_of_ble_eq_true hs
  refine va_newa hA.exec hA.code (hA.lat.w G harr rfl args) hty (hA.K G) hr.1 hr.2.1 hr.2.2.1 hA.A2 ha hx hN hby (by omega) (by omega) hd (fun q cA H' hK' hP' hD' hS' => ?_)
  have hA1 := (hK'.2 (ct_tys (xt X)).length (cA, ty) (by simp)).2
  have hA2 := ((hA.K G).2 t _ (ht (xt X))).2
  have e0 : cA = xt X t := hra s _ _ hA1 hA2
  subst e0
  have hk := k G p e R s m args below meth c A (va_up ad w.length q) ad0 n0 H' locs (cells + 1) (slots + N) arr hR hA (hr.push hP' hD' hS' hwf) (by omega) (by omega)
  have e8 : (Value.ref w.length :: st).map (cv (va_up ad w.length q)) = .ref q :: st.map (cv ad) := by
    show Value.ref (va_up ad w.length q w.length) :: st.map (cv (va_up ad w.length q)) = _
    rw [va_up_self, cvs_wf hst (fun i hi => va_up_ne _ _ (by omega))]
  rw [e8] at hk
  exact hk
theorem ct_ra {ty : FieldType} (h : ∀ C, ty ≠ .object C) (U : State) (c1 c2 : ClassId) (h1 : va_RA U c1 ty) (h2 : va_RA U c2 ty) : c1 = c2 := by
  cases ty with
  | object C => exact absurd rfl (h C)
  | _ => exact Option.some.inj (h1.symm.trans h2)
theorem AW.objInit {index o : Nat} (hd : decode M.2.1 pc = .ok (.invokespecial index, 3)) (hp : pc + 3 = pc') (hl : Cond.methodLink M.1.cls index objectInit ∈ lw_tbl) (hi : Cond.instanceMethod objectInit ∈ lw_tbl) (hc : Cond.code objectInit ⟨#[0xb1]⟩ 1 none ∈ lw_tbl) (hdp : 1 ≤ d) (hcat : Nat.ble (st.map fun v => v.category).sum 8 = true) (k : AW X M d mc ms cb sb pc' ls st w Q) : AW X M d mc ms cb sb pc ls (.ref o :: st) w Q := by
  subst hp
  intro G p e R s m args below meth c A ad ad0 n0 H locs cells slots arr hR hA hr h1 h2
  obtain ⟨hR1, hR2, hR3, hR4⟩ := id hR
  have hc8 := Nat.le_of_ble_eq_true hcat
  have e1 : ((st.map (cv ad)).map fun v => v.category) = st.map fun v => v.category := by
    rw [List.map_map]
    exact List.map_congr_left fun v _ => cv_cat ad v
  refine W.objInit hA.exec hA.code hA.own (hA.lat.w G hl rfl args) (hA.lat.w G hi rfl args) (hA.lat.w G hc rfl args) rfl (hr.2.2.2.1.1.1.trans hA.maxL.symm) rfl hd (by omega) ?_ (k G p e R s m args below meth c A ad ad0 n0 H locs cells slots arr hR hA hr h1 h2)
  rw [e1]
  show 2 * 0 + _ + _ ≤ _
  omega
end CELLS
