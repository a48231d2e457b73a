/-! AN OWN LAYER OVER THE KIT: worlds by cell numbers. cv: a value whose references are cell numbers, at addresses ad; ce, cw: a cell, a world -/
def cv (ad : Nat → Nat) : Value → Value
  | .ref k => .ref (ad k)
  | .int x => .int x
  | .long x => .long x
  | .float x => .float x
  | .double x => .double x
  | .null => .null
  | .retAddr x => .retAddr x
theorem cv_cat (ad : Nat → Nat) (v : Value) : (cv ad v).category = v.category := by cases v <;> rfl
abbrev ct_E : Type := (Nat × vp_A) ⊕ (Nat × List Value)
abbrev ct_W : Type := List ct_E
def ce (tc : Nat → ClassId) (ad : Nat → Nat) : ct_E → va_E
  | .inl a => .inl (tc a.1, a.2)
  | .inr o => .inr (o.1, o.2.map (cv ad))
def cw (tc : Nat → ClassId) (ad : Nat → Nat) (w : ct_W) : va_W := w.mapIdx (fun k c => (ad k, ce tc ad c))
theorem cw_at {tc : Nat → ClassId} {ad : Nat → Nat} {w : ct_W} {k : Nat} {c : ct_E} (h : w[k]? = some c) : (cw tc ad w)[k]? = some (ad k, ce tc ad c) := by
  simp [cw, List.getElem?_mapIdx, h]
theorem cw_inv {tc : Nat → ClassId} {ad : Nat → Nat} {w : ct_W} {k : Nat} {q : Nat × va_E} (h : (cw tc ad w)[k]? = some q) : ∃ c, w[k]? = some c ∧ q = (ad k, ce tc ad c) := by
  rw [cw, List.getElem?_mapIdx] at h
  cases hc : w[k]? with
  | none => rw [hc] at h; cases h
  | some c => rw [hc] at h; exact ⟨c, rfl, (Option.some.inj h).symm⟩
theorem cw_set {tc : Nat → ClassId} {ad : Nat → Nat} {w : ct_W} {k : Nat} {c : ct_E} : (cw tc ad w).set k (ad k, ce tc ad c) = cw tc ad (w.set k c) := by
  apply List.ext_getElem?
  intro i
  simp only [cw, List.getElem?_mapIdx, List.getElem?_set, List.length_mapIdx]
  by_cases h : k = i
  · subst h
    by_cases h2 : k < w.length <;> simp [h2]
  · simp [h]
/-- no reference to a cell number from n on, below n' -/
def wfV (n n' : Nat) : Value → Bool
  | .ref k => Nat.blt k n || Nat.ble n' k
  | _ => true
def wfE (n n' : Nat) : ct_E → Bool
  | .inl _ => true
  | .inr o => o.2.all (wfV n n')
def wfW (n n' : Nat) (w : ct_W) : Bool := w.all (wfE n n')
def wfO (n n' : Nat) : Option Value → Bool
  | none => true
  | some v => wfV n n' v
def wfL (n n' : Nat) (ls : List (Option Value)) : Bool := ls.all (wfO n n')
def wfS (n n' : Nat) (st : List Value) : Bool := st.all (wfV n n')
def ct_ag (n n' : Nat) (ad ad' : Nat → Nat) : Prop := ∀ i : Nat, (i < n ∨ n' ≤ i) → ad' i = ad i
theorem cv_wf {n n' : Nat} {ad ad' : Nat → Nat} {v : Value} (h : wfV n n' v = true) (ha : ct_ag n n' ad ad') : cv ad' v = cv ad v := by
  cases v with
  | ref k =>
    have h1 : k < n ∨ n' ≤ k := by
      simp only [wfV, Bool.or_eq_true, Nat.blt_eq, Nat.ble_eq] at h
      exact h
    simp only [cv, ha k h1]
  | _ => rfl
theorem cvs_wf {n n' : Nat} {ad ad' : Nat → Nat} {st : List Value} (h : wfS n n' st = true) (ha : ct_ag n n' ad ad') : st.map (cv ad') = st.map (cv ad) :=
  List.map_congr_left fun v hv => cv_wf (List.all_eq_true.mp h v hv) ha
theorem ce_wf {n n' : Nat} {tc : Nat → ClassId} {ad ad' : Nat → Nat} {c : ct_E} (h : wfE n n' c = true) (ha : ct_ag n n' ad ad') : ce tc ad' c = ce tc ad c := by
  cases c with
  | inl a => rfl
  | inr o =>
    show Sum.inr (o.1, o.2.map (cv ad')) = Sum.inr (o.1, o.2.map (cv ad))
    rw [cvs_wf h ha]
theorem cw_wf {n' : Nat} {tc : Nat → ClassId} {ad ad' : Nat → Nat} {w : ct_W} (h : wfW w.length n' w = true) (ha : ct_ag w.length n' ad ad') : cw tc ad' w = cw tc ad w := by
  apply List.ext_getElem?
  intro i
  simp only [cw, List.getElem?_mapIdx]
  cases hc : w[i]? with
  | none => rfl
  | some c =>
    have hi : i < w.length := (List.getElem?_eq_some_iff.mp hc).1
    have h1 : wfE w.length n' c = true := List.all_eq_true.mp h c (List.mem_of_getElem? hc)
    simp only [Option.map_some, ha i (Or.inl hi), ce_wf h1 ha]
theorem cw_push {tc : Nat → ClassId} {ad : Nat → Nat} {w : ct_W} {c : ct_E} {q : Nat} (h : wfW w.length (w.length + 1) w = true) (hc : wfE w.length (w.length + 1) c = true) :
    cw tc (va_up ad w.length q) (w ++ [c]) = cw tc ad w ++ [(q, ce tc ad c)] := by
  have ha : ct_ag w.length (w.length + 1) ad (va_up ad w.length q) := fun i hi => va_up_ne _ _ (by omega)
  have h1 : cw tc (va_up ad w.length q) (w ++ [c]) = cw tc (va_up ad w.length q) w ++ [(va_up ad w.length q w.length, ce tc (va_up ad w.length q) c)] := by
    simp [cw]
  rw [h1, cw_wf h ha, ce_wf hc ha, va_up_self]
/-- the locals: ls has the known ones, at their places -/
def LV (ad : Nat → Nat) (nL : Nat) (ls : List (Option Value)) (arr : Array Slot) : Prop :=
  lv_has arr nL [] ∧ ∀ (i : Nat) (v : Value), ls[i]? = some (some v) → v.category = 1 ∧ arr[i]? = some (.val (cv ad v))
def lvl (ad : Nat → Nat) (nL : Nat) (ls : List (Option Value)) : List (Nat × Value) := (List.range nL).filterMap (fun i => (ls[i]?.join).map (fun v => (i, cv ad v)))
theorem lvl_mem {ad : Nat → Nat} {nL : Nat} {ls : List (Option Value)} {i : Nat} {v : Value} (hi : i < nL) (h : ls[i]? = some (some v)) : (i, cv ad v) ∈ lvl ad nL ls :=
  List.mem_filterMap.mpr ⟨i, List.mem_range.mpr hi, by rw [h]; rfl⟩
theorem lvl_inv {ad : Nat → Nat} {nL : Nat} {ls : List (Option Value)} {q : Nat × Value} (h : q ∈ lvl ad nL ls) : ∃ v, ls[q.1]? = some (some v) ∧ q.2 = cv ad v := by
  obtain ⟨i, -, h2⟩ := List.mem_filterMap.mp h
  cases h3 : ls[i]? with
  | none => rw [h3] at h2; cases h2
  | some o =>
    cases o with
    | none => rw [h3] at h2; cases h2
    | some v =>
      rw [h3] at h2
      have h4 : (i, cv ad v) = q := Option.some.inj h2
      subst h4
      exact ⟨v, h3, rfl⟩
theorem LV.has {ad : Nat → Nat} {nL : Nat} {ls : List (Option Value)} {arr : Array Slot} (h : LV ad nL ls arr) : lv_has arr nL (lvl ad nL ls) := by
  refine ⟨h.1.1, h.1.2.1, fun q hq => ?_⟩
  obtain ⟨v, h1, h2⟩ := lvl_inv hq
  rw [h2]
  exact (h.2 q.1 v h1).2
theorem LV.get {ad : Nat → Nat} {nL : Nat} {ls : List (Option Value)} {arr : Array Slot} (h : LV ad nL ls arr) {i : Nat} {v : Value} (hv : ls[i]? = some (some v)) : arr[i]? = some (.val (cv ad v)) := (h.2 i v hv).2
theorem LV.old {ad : Nat → Nat} {nL : Nat} {ls : List (Option Value)} {arr arr' : Array Slot} {i j : Nat} {v u : Value} (h : LV ad nL ls arr) (hj : ls[j]? = some (some u)) (hne : j ≠ i)
    (h' : lv_has arr' nL ((i, v) :: (lvl ad nL ls).filter (fun q => !(q.1 == i) && !(q.1 + 1 == i && q.2.category == 2)))) : u.category = 1 ∧ arr'[j]? = some (.val (cv ad u)) := by
  obtain ⟨h1, h2⟩ := h.2 j u hj
  refine ⟨h1, h'.2.2 (j, cv ad u) (List.mem_cons_of_mem _ (List.mem_filter.mpr ⟨lvl_mem (by rw [← h.1.1]; exact lv_lt h2) hj, ?_⟩))⟩
  have h3 : ((cv ad u).category == 2) = false := by rw [cv_cat, h1]; rfl
  have h4 : (j == i) = false := by simpa using hne
  show (!(j == i) && !(j + 1 == i && (cv ad u).category == 2)) = true
  rw [h3, h4, Bool.and_false]
  rfl
theorem LV.set {ad : Nat → Nat} {nL : Nat} {ls : List (Option Value)} {arr arr' : Array Slot} {i : Nat} {v : Value} (h : LV ad nL ls arr) (hc : v.category = 1)
    (h' : lv_has arr' nL ((i, cv ad v) :: (lvl ad nL ls).filter (fun q => !(q.1 == i) && !(q.1 + 1 == i && q.2.category == 2)))) : LV ad nL (ls.set i (some v)) arr' := by
  refine ⟨⟨h'.1, h'.2.1, fun q hq => nomatch hq⟩, fun j u hj => ?_⟩
  rw [List.getElem?_set] at hj
  by_cases e : i = j
  · subst e
    rw [if_pos rfl] at hj
    by_cases hl : i < ls.length
    · rw [if_pos hl] at hj
      have hu : v = u := Option.some.inj (Option.some.inj hj)
      subst hu
      exact ⟨hc, h'.2.2 _ List.mem_cons_self⟩
    · rw [if_neg hl] at hj
      cases hj
  · rw [if_neg e] at hj
    exact h.old hj (Ne.symm e) h'
theorem LV.setN {ad : Nat → Nat} {nL : Nat} {ls : List (Option Value)} {arr arr' : Array Slot} {i : Nat} {v : Value} (h : LV ad nL ls arr)
    (h' : lv_has arr' nL ((i, v) :: (lvl ad nL ls).filter (fun q => !(q.1 == i) && !(q.1 + 1 == i && q.2.category == 2)))) : LV ad nL (ls.set i none) arr' := by
  refine ⟨⟨h'.1, h'.2.1, fun q hq => nomatch hq⟩, fun j u hj => ?_⟩
  rw [List.getElem?_set] at hj
  by_cases e : i = j
  · subst e
    rw [if_pos rfl] at hj
    by_cases hl : i < ls.length
    · rw [if_pos hl] at hj
      exact nomatch (Option.some.inj hj)
    · rw [if_neg hl] at hj
      cases hj
  · rw [if_neg e] at hj
    exact h.old hj (Ne.symm e) h'
theorem LV.wf {n n' : Nat} {ad ad' : Nat → Nat} {nL : Nat} {ls : List (Option Value)} {arr : Array Slot} (h : LV ad nL ls arr) (hw : wfL n n' ls = true) (ha : ct_ag n n' ad ad') : LV ad' nL ls arr := by
  refine ⟨h.1, fun i v hv => ?_⟩
  have h1 : wfV n n' v = true := List.all_eq_true.mp hw (some v) (List.mem_of_getElem? hv)
  rw [cv_wf h1 ha]
  exact h.2 i v hv
theorem LV.entry {ad : Nat → Nat} {nL : Nat} (as : List Value) (hc : ∀ v ∈ as, v.category = 1) (hl : as.length ≤ nL) : LV ad nL (as.map some ++ List.replicate (nL - as.length) none) ((((as.map (cv ad)).map Slot.val) ++ List.replicate (nL - (as.map (cv ad)).length) Slot.unset).toArray) := by
  have at' : ∀ (i : Nat) (z : Slot), ((((as.map (cv ad)).map Slot.val) ++ List.replicate (nL - (as.map (cv ad)).length) Slot.unset).toArray)[i]? = some z → z = .unset ∨ ∃ v, v.category = 1 ∧ z = .val v := by
    intro i z h
    rw [List.getElem?_toArray] at h
    rcases List.mem_append.mp (List.mem_of_getElem? h) with h1 | h1
    · obtain ⟨v, h2, rfl⟩ := List.mem_map.mp h1
      obtain ⟨u, h3, rfl⟩ := List.mem_map.mp h2
      exact Or.inr ⟨_, by rw [cv_cat]; exact hc u h3, rfl⟩
    · exact Or.inl (List.eq_of_mem_replicate h1)
  refine ⟨⟨by simp; omega, ⟨fun i v h1 h2 => ?_, fun i h1 => ?_⟩, fun q hq => nomatch hq⟩, fun i v hv => ?_⟩
  · rcases at' i _ h1 with h3 | ⟨u, h3, h4⟩
    · cases h3
    · cases h4
      omega
  · rcases at' i _ h1 with h3 | ⟨u, h3, h4⟩
    · cases h3
    · cases h4
  · by_cases hi : i < as.length
    · rw [List.getElem?_append_left (by simpa using hi), List.getElem?_map] at hv
      cases hq : as[i]? with
      | none => rw [hq] at hv; cases hv
      | some u =>
        rw [hq] at hv
        have hu : u = v := Option.some.inj (Option.some.inj hv)
        subst hu
        refine ⟨hc u (List.mem_of_getElem? hq), ?_⟩
        rw [List.getElem?_toArray, List.getElem?_append_left (by simpa using hi)]
        simp [hq]
    · rw [List.getElem?_append_right (by simpa using hi)] at hv
      exact nomatch (List.eq_of_mem_replicate (List.mem_of_getElem? hv))
