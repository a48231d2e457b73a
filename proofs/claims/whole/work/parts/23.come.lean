/-! A PERSON COMES INTO A SECTOR; what stays through a change of leaders (rows printed by wip/whole/m5.py) -/
theorem ring_drop {z : S_c} {j t : Nat} (h : Ring z) (hn : 1 ≤ r_n z) : Ring (f_drop z j t) := ⟨ring_lt h.1 (by decide), (by show r_n z - 1 ≤ 400; have := h.2.1; omega), h.2.2⟩
theorem ring_note1 {z : S_c} {t s : Nat} {p : Int32} (h : Ring z) (hn : r_n z < 400) (ht : t ≤ 99999) (hs : s < 20) : Ring (f_note1 z t (nI s) p) := by
  refine ⟨h.1, (by show r_n z + 1 ≤ 400; omega), fun i hi => ?_⟩
  show (∃ j, j < 20 ∧ upd (r_num z) (ring (r_old z) (r_n z)) (nI s) i = nI j) ∧ ∃ t', t' ≤ 99999 ∧ upd (r_sec z) (ring (r_old z) (r_n z)) (nI t) i = nI t'
  by_cases e : i = ring (r_old z) (r_n z)
  · rw [e, pk_us, pk_us]
    exact ⟨⟨s, hs, rfl⟩, t, ht, rfl⟩
  · rw [pk_un e, pk_un e]
    exact h.2.2 i hi
theorem ring_note {z : S_c} {t s : Nat} {p : Int32} (h : Ring z) (ht : t ≤ 99999) (hs : s < 20) : Ring (f_note z t (nI s) p) := by
  unfold f_note
  by_cases hn : r_n z < 400
  · rw [if_pos hn]
    exact ring_note1 h hn ht hs
  · rw [if_neg hn]
    have h4 := h.2.1
    refine ring_note1 (ring_drop h (by omega)) ?_ ht hs
    show r_n z - 1 < 400
    omega
/-- the parts of a state that the rows of leaders don't touch -/
def core (z : S_c) : (Nat × Nat × Nat × Nat × Nat × Nat) × (Nat → Int32) × (Nat → Int32) × (Nat → Int32) × (Nat → Int32) × (Nat → Int32) × (Nat → Int32) × (Nat → Int32) × (Nat → Int32) × (Nat → Int32) × (Nat → Int32) × (Nat → Int32) × (Nat → Int32) × (Nat → Int32) :=
  ((c_sec z, c_most z, c_np z, c_nu z, c_ns z, t_n z), c_rank z, c_arr z, c_sop z, c_slb z, c_sou z, c_opn z, c_abv z, c_ldr z, c_off z, t_sec z, t_unt z, t_rep z, t_at z)
theorem core_note (z : S_c) (t : Nat) (s p : Int32) : core (f_note z t s p) = core z := by
  unfold f_note
  split <;> rfl
theorem ring_set1 {z : S_c} {s : Nat} {f p : Option Nat} (h : Ring z) (hc : c_sec z ≤ 99999) (hs : s < 20) : Ring (f_set1 z s f p) := by
  unfold f_set1
  cases f <;> cases p <;> exact ring_note h hc hs
/-- what a change of leaders makes of the core -/
def slb1 (z : S_c) (s : Nat) (f p : Option Nat) : Nat → Int32 :=
  let g := match f with
    | none => c_slb z
    | some q => upd (c_slb z) q (-1)
  match p with
    | none => g
    | some q => upd g q (nI s)
def off1 (z : S_c) (s : Nat) (p : Option Nat) : Nat → Int32 := match p with
  | none => upd (c_off z) s (-1)
  | some q => rep (upd (c_off z) s (-1)) (nI q) (-1) (c_ns z)
theorem core_set1 (z : S_c) (s : Nat) (f p : Option Nat) : core (f_set1 z s f p) = ((c_sec z, c_most z, c_np z, c_nu z, c_ns z, t_n z), c_rank z, c_arr z, c_sop z, slb1 z s f p, c_sou z, c_opn z, c_abv z, upd (c_ldr z) s (oI p), off1 z s p, t_sec z, t_unt z, t_rep z, t_at z) := by
  unfold f_set1
  cases f <;> cases p <;> rw [core_note] <;> rfl
theorem set1_ldr (z : S_c) (s : Nat) (f p : Option Nat) : c_ldr (f_set1 z s f p) = upd (c_ldr z) s (oI p) := congrArg (fun q => q.2.2.2.2.2.2.2.2.1) (core_set1 z s f p)
theorem set1_ns (z : S_c) (s : Nat) (f p : Option Nat) : c_ns (f_set1 z s f p) = c_ns z := congrArg (fun q => q.1.2.2.2.2.1) (core_set1 z s f p)
theorem set1_np (z : S_c) (s : Nat) (f p : Option Nat) : c_np (f_set1 z s f p) = c_np z := congrArg (fun q => q.1.2.2.1) (core_set1 z s f p)
theorem set1_sec (z : S_c) (s : Nat) (f p : Option Nat) : c_sec (f_set1 z s f p) = c_sec z := congrArg (fun q => q.1.1) (core_set1 z s f p)
/-- who leads what, said twice, agrees -/
def Led (z : S_c) : Prop := (∀ p, p < 40 → okO 20 (c_slb z p)) ∧ ∀ p s, p < 40 → s < 20 → c_slb z p = nI s → c_ldr z s = nI p
def f_lln (z : S_c) (p : Nat) : S_c := match io (c_slb z p) with
  | none => z
  | some s => f_set1 z s (some p) (f_next z (nI s) (c_np z))
theorem next_ne {z : S_c} {p s r n : Nat} (hs : s < 20) (h : c_slb z p = nI s) (hx : f_next z (nI s) n = some r) : ¬ p = r := by
  intro e
  subst e
  have h1 := (f_next_lt hx).2
  simp only [mayB, Bool.and_eq_true, decide_eq_true_eq] at h1
  rw [h] at h1
  exact oI_ne (p := s) (by omega) h1.2
theorem c_lln (X : ct_X) (z : S_c) (k : S_m) (o : Nat → Int64) (p : Nat) (hp : p < 40) (hnp : c_np z ≤ 40) (hn : c_ns z ≤ 20) (hL : Led z) (hR : Ring z) : AF X m_C_leaveLeadToNext 4 0 0 [.ref 0, .int (nI p)] (wL z k o) (.inl none) (wL (f_lln z p) k o) := by
  rcases hL.1 p hp with h | ⟨s, hs, h⟩
  · have e : f_lln z p = z := by rw [f_lln, h, io_m]
    rw [e]
    exact c_lln_n X z k o p hp h
  · have e : f_lln z p = f_set1 z s (some p) (f_next z (nI s) (c_np z)) := by rw [f_lln, h, io_n (by omega)]
    rw [e]
    cases hx : f_next z (nI s) (c_np z) with
    | none => exact c_lln_sn X z k o p s hp hs hnp hn h (hL.2 p s hp hs h) hx hR
    | some r =>
      have hr := (f_next_lt hx).1
      exact c_lln_ss X z k o p s hp hs hnp hn h (hL.2 p s hp hs h) r (by omega) (next_ne hs h hx) hx hR
theorem ring_lln {z : S_c} {p : Nat} (hp : p < 40) (hL : Led z) (hR : Ring z) (hc : c_sec z ≤ 99999) : Ring (f_lln z p) := by
  unfold f_lln
  rcases hL.1 p hp with h | ⟨s, hs, h⟩
  · rw [h, io_m]
    exact hR
  · rw [h, io_n (by omega)]
    exact ring_set1 hR hc hs
theorem lln_ns (z : S_c) (p : Nat) : c_ns (f_lln z p) = c_ns z := by
  unfold f_lln
  split
  · rfl
  · exact set1_ns _ _ _ _
theorem lln_sec (z : S_c) (p : Nat) : c_sec (f_lln z p) = c_sec z := by
  unfold f_lln
  split
  · rfl
  · exact set1_sec _ _ _ _
def f_come (z : S_c) (p s : Nat) : S_c :=
  let z2 := f_lln (c_sop_ z (upd (c_sop z) p (nI s))) p
  if c_ldr z2 s = -1 then f_set1 z2 s none (some p) else z2
theorem c_come_1 (X : ct_X) (z : S_c) (k : S_m) (o : Nat → Int64) (p s : Nat) (hp : p < 40) (hs : s < 20) (hnp : c_np z ≤ 40) (hn : c_ns z ≤ 20) (hc : c_sec z ≤ 99999) (hL : Led z) (hR : Ring z) (hx : c_ldr (f_lln (c_sop_ z (upd (c_sop z) p (nI s))) p) s = -1) : AF X m_C_comeInto 5 0 0 [.ref 0, .int (nI (p)), .int (nI (s))] (wL z k o) (.inl none) (wL (f_set1 (f_lln (c_sop_ z (upd (c_sop z) p (nI s))) p) s none (some p)) k o) := by
  refine AM.of rfl (Nat.le_of_ble_eq_true rfl) (ls := [some (.ref 0), some (.int (nI (p))), some (.int (nI (s)))]) rfl ?_
  refine AW.aload_n (pc' := 1) d_C_comeInto_0 rfl rfl rfl ?_
  refine AW.getf (pc' := 4) d_C_comeInto_1 rfl fl_C_20 rfl rfl ?_
  refine AW.iload_n (pc' := 5) d_C_comeInto_4 rfl rfl rfl ?_
  refine AW.iload_n (pc' := 6) d_C_comeInto_5 rfl rfl rfl ?_
  refine AW.iastN (pc' := 7) (w' := (wL (c_sop_ z (upd (c_sop z) p (nI (s)))) k o)) d_C_comeInto_6 rfl rfl (by omega) (by decide) rfl ?_
  refine AW.aload_n (pc' := 8) d_C_comeInto_7 rfl rfl rfl ?_
  refine AW.iload_n (pc' := 9) d_C_comeInto_8 rfl rfl rfl ?_
  refine AW.cV (pc' := 12) d_C_comeInto_9 rfl cv_C_111 (by decide) rfl rfl rfl (c_lln X (c_sop_ z (upd (c_sop z) p (nI s))) k o p hp hnp hn hL hR) rfl rfl rfl rfl rfl rfl rfl ?_
  refine AW.aload_n (pc' := 13) d_C_comeInto_12 rfl rfl rfl ?_
  refine AW.getf (pc' := 16) d_C_comeInto_13 rfl fl_C_42 rfl rfl ?_
  refine AW.iload_n (pc' := 17) d_C_comeInto_16 rfl rfl rfl ?_
  refine AW.ialdN (pc' := 18) d_C_comeInto_17 rfl rfl (by omega) (by decide) ?_
  refine AW.iconst (pc' := 19) (v := (-1)) d_C_comeInto_18 rfl (by decide) ?_
  refine AW.icmp_ne (tgt := 28) (pc' := 22) d_C_comeInto_19 (by decide) rfl (fun h => absurd hx h) (fun h19 => ?_)
  refine AW.aload_n (pc' := 23) d_C_comeInto_22 rfl rfl rfl ?_
  refine AW.iload_n (pc' := 24) d_C_comeInto_23 rfl rfl rfl ?_
  refine AW.iload_n (pc' := 25) d_C_comeInto_24 rfl rfl rfl ?_
  refine AW.cV (pc' := 28) d_C_comeInto_25 rfl cv_C_137 (by decide) rfl rfl rfl (c_set_ns X (f_lln (c_sop_ z (upd (c_sop z) p (nI s))) p) k o s p hp hs (by rw [lln_ns]; exact hn) hx (ring_lln hp hL hR hc)) rfl rfl rfl rfl rfl rfl rfl ?_
  exact AW.vret d_C_comeInto_28 rfl rfl rfl ⟨rfl, rfl⟩
theorem c_come_2 (X : ct_X) (z : S_c) (k : S_m) (o : Nat → Int64) (p s : Nat) (hp : p < 40) (hs : s < 20) (hnp : c_np z ≤ 40) (hn : c_ns z ≤ 20) (hc : c_sec z ≤ 99999) (hL : Led z) (hR : Ring z) (hx : ¬ c_ldr (f_lln (c_sop_ z (upd (c_sop z) p (nI s))) p) s = -1) : AF X m_C_comeInto 5 0 0 [.ref 0, .int (nI (p)), .int (nI (s))] (wL z k o) (.inl none) (wL (f_lln (c_sop_ z (upd (c_sop z) p (nI s))) p) k o) := by
  refine AM.of rfl (Nat.le_of_ble_eq_true rfl) (ls := [some (.ref 0), some (.int (nI (p))), some (.int (nI (s)))]) rfl ?_
  refine AW.aload_n (pc' := 1) d_C_comeInto_0 rfl rfl rfl ?_
  refine AW.getf (pc' := 4) d_C_comeInto_1 rfl fl_C_20 rfl rfl ?_
  refine AW.iload_n (pc' := 5) d_C_comeInto_4 rfl rfl rfl ?_
  refine AW.iload_n (pc' := 6) d_C_comeInto_5 rfl rfl rfl ?_
  refine AW.iastN (pc' := 7) (w' := (wL (c_sop_ z (upd (c_sop z) p (nI (s)))) k o)) d_C_comeInto_6 rfl rfl (by omega) (by decide) rfl ?_
  refine AW.aload_n (pc' := 8) d_C_comeInto_7 rfl rfl rfl ?_
  refine AW.iload_n (pc' := 9) d_C_comeInto_8 rfl rfl rfl ?_
  refine AW.cV (pc' := 12) d_C_comeInto_9 rfl cv_C_111 (by decide) rfl rfl rfl (c_lln X (c_sop_ z (upd (c_sop z) p (nI s))) k o p hp hnp hn hL hR) rfl rfl rfl rfl rfl rfl rfl ?_
  refine AW.aload_n (pc' := 13) d_C_comeInto_12 rfl rfl rfl ?_
  refine AW.getf (pc' := 16) d_C_comeInto_13 rfl fl_C_42 rfl rfl ?_
  refine AW.iload_n (pc' := 17) d_C_comeInto_16 rfl rfl rfl ?_
  refine AW.ialdN (pc' := 18) d_C_comeInto_17 rfl rfl (by omega) (by decide) ?_
  refine AW.iconst (pc' := 19) (v := (-1)) d_C_comeInto_18 rfl (by decide) ?_
  refine AW.icmp_ne (tgt := 28) (pc' := 22) d_C_comeInto_19 (by decide) rfl (fun h19 => ?_) (fun h => absurd h hx)
  exact AW.vret d_C_comeInto_28 rfl rfl rfl ⟨rfl, rfl⟩
theorem c_come (X : ct_X) (z : S_c) (k : S_m) (o : Nat → Int64) (p s : Nat) (hp : p < 40) (hs : s < 20) (hnp : c_np z ≤ 40) (hn : c_ns z ≤ 20) (hc : c_sec z ≤ 99999) (hL : Led z) (hR : Ring z) : AF X m_C_comeInto 5 0 0 [.ref 0, .int (nI p), .int (nI s)] (wL z k o) (.inl none) (wL (f_come z p s) k o) := by
  by_cases hx : c_ldr (f_lln (c_sop_ z (upd (c_sop z) p (nI s))) p) s = -1
  · have e : f_come z p s = f_set1 (f_lln (c_sop_ z (upd (c_sop z) p (nI s))) p) s none (some p) := by
      show (if c_ldr (f_lln (c_sop_ z (upd (c_sop z) p (nI s))) p) s = -1 then f_set1 (f_lln (c_sop_ z (upd (c_sop z) p (nI s))) p) s none (some p) else f_lln (c_sop_ z (upd (c_sop z) p (nI s))) p) = _
      rw [if_pos hx]
    rw [e]
    exact c_come_1 X z k o p s hp hs hnp hn hc hL hR hx
  · have e : f_come z p s = f_lln (c_sop_ z (upd (c_sop z) p (nI s))) p := by
      show (if c_ldr (f_lln (c_sop_ z (upd (c_sop z) p (nI s))) p) s = -1 then f_set1 (f_lln (c_sop_ z (upd (c_sop z) p (nI s))) p) s none (some p) else f_lln (c_sop_ z (upd (c_sop z) p (nI s))) p) = _
      rw [if_neg hx]
    rw [e]
    exact c_come_2 X z k o p s hp hs hnp hn hc hL hR hx
