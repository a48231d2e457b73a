/-! THE REST OF THE CLASS'S PUBLIC METHODS, case by case (rows printed by wip/whole/m6.py) -/
/-- the sector's leader goes -/
def f_unl (z : S_c) (s : Nat) : S_c := match io (c_ldr z s) with
  | none => z
  | some q => f_set1 z s (some q) none
theorem unl_core (z : S_c) (s : Nat) : core (f_unl z s) = match io (c_ldr z s) with
  | none => core z
  | some q => core (f_set1 z s (some q) none) := by
  unfold f_unl
  split <;> rfl
theorem unl_ns (z : S_c) (s : Nat) : c_ns (f_unl z s) = c_ns z := by
  unfold f_unl
  split
  · rfl
  · exact set1_ns _ _ _ _
theorem unl_np (z : S_c) (s : Nat) : c_np (f_unl z s) = c_np z := by
  unfold f_unl
  split
  · rfl
  · exact set1_np _ _ _ _
theorem set1_nu (z : S_c) (s : Nat) (f p : Option Nat) : c_nu (f_set1 z s f p) = c_nu z := congrArg (fun q => q.1.2.2.2.1) (core_set1 z s f p)
theorem set1_tn (z : S_c) (s : Nat) (f p : Option Nat) : t_n (f_set1 z s f p) = t_n z := congrArg (fun q => q.1.2.2.2.2.2) (core_set1 z s f p)
theorem unl_nu (z : S_c) (s : Nat) : c_nu (f_unl z s) = c_nu z := by
  unfold f_unl
  split
  · rfl
  · exact set1_nu _ _ _ _
theorem unl_tn (z : S_c) (s : Nat) : t_n (f_unl z s) = t_n z := by
  unfold f_unl
  split
  · rfl
  · exact set1_tn _ _ _ _
theorem unl_ring {z : S_c} {s : Nat} (hR : Ring z) (hc : c_sec z ≤ 99999) (hs : s < 20) : Ring (f_unl z s) := by
  unfold f_unl
  split
  · exact hR
  · exact ring_set1 hR hc hs
theorem c_unl (X : ct_X) (z : S_c) (k : S_m) (o : Nat → Int64) (s : Nat) (hs : s < 20) (hn : c_ns z ≤ 20) (hl : okO 40 (c_ldr z s)) (hR : Ring z) : AF X m_C_setLeader 3 0 0 [.ref 0, .int (nI s), .int (-1)] (wL z k o) (.inl none) (wL (f_unl z s) k o) := by
  rcases hl with h | ⟨q, hq, h⟩
  · have e : f_unl z s = z := by rw [f_unl, h, io_m]
    rw [e]
    exact c_set_eq X z k o s (-1) hs h
  · have e : f_unl z s = f_set1 z s (some q) none := by rw [f_unl, h, io_n (by omega)]
    rw [e]
    exact c_set_sn X z k o s q hq hs hn h hR
def f_fill (z : S_c) (b : Nat) : S_c := if c_ldr z b = -1 then (match f_next z (nI b) (c_np z) with
  | none => z
  | some r => f_set1 z b none (some r)) else z
theorem jn_fill (X : ct_X) (z : S_c) (k : S_m) (o : Nat → Int64) (a b : Nat) (hb : b < 20) (hn : c_ns z ≤ 20) (hnp : c_np z ≤ 40) (hR : Ring z) : AW X m_C_join 7 0 0 0 0 107 [some (.ref 0), some (.int (nI (a))), some (.int (nI (b)))] [] (wL z k o) (fun r w' => r = .inl none ∧ w' = wL (f_fill z b) k o) := by
  by_cases hx : c_ldr z b = -1
  · cases hq : f_next z (nI b) (c_np z) with
    | none =>
      have e : f_fill z b = z := by rw [f_fill, if_pos hx, hq]
      rw [e]
      refine AW.aload_n (pc' := 108) d_C_join_107 rfl rfl rfl ?_
      refine AW.getf (pc' := 111) d_C_join_108 rfl fl_C_42 rfl rfl ?_
      refine AW.iload_n (pc' := 112) d_C_join_111 rfl rfl rfl ?_
      refine AW.ialdN (pc' := 113) d_C_join_112 rfl rfl (by omega) (by decide) ?_
      refine AW.iconst (pc' := 114) (v := (-1)) d_C_join_113 rfl (by decide) ?_
      refine AW.icmp_ne (tgt := 127) (pc' := 117) d_C_join_114 (by decide) rfl (fun h => absurd hx h) (fun h114 => ?_)
      refine AW.aload_n (pc' := 118) d_C_join_117 rfl rfl rfl ?_
      refine AW.iload_n (pc' := 119) d_C_join_118 rfl rfl rfl ?_
      refine AW.aload_n (pc' := 120) d_C_join_119 rfl rfl rfl ?_
      refine AW.iload_n (pc' := 121) d_C_join_120 rfl rfl rfl ?_
      refine AW.cV (pc' := 124) d_C_join_121 rfl cv_C_150 (by decide) rfl rfl rfl (c_next X z k o (nI b) hnp) rfl rfl rfl rfl rfl rfl rfl ?_
      refine AW.top (u := .int ((-1))) (by rw [hq]; rfl) ?_
      refine AW.cV (pc' := 127) d_C_join_124 rfl cv_C_137 (by decide) rfl rfl rfl (c_set_eq X z k o b (-1) hb hx) rfl rfl rfl rfl rfl rfl rfl ?_
      exact AW.vret d_C_join_127 rfl rfl rfl ⟨rfl, rfl⟩
    | some r =>
      have hr := (f_next_lt hq).1
      have e : f_fill z b = f_set1 z b none (some r) := by rw [f_fill, if_pos hx, hq]
      rw [e]
      refine AW.aload_n (pc' := 108) d_C_join_107 rfl rfl rfl ?_
      refine AW.getf (pc' := 111) d_C_join_108 rfl fl_C_42 rfl rfl ?_
      refine AW.iload_n (pc' := 112) d_C_join_111 rfl rfl rfl ?_
      refine AW.ialdN (pc' := 113) d_C_join_112 rfl rfl (by omega) (by decide) ?_
      refine AW.iconst (pc' := 114) (v := (-1)) d_C_join_113 rfl (by decide) ?_
      refine AW.icmp_ne (tgt := 127) (pc' := 117) d_C_join_114 (by decide) rfl (fun h => absurd hx h) (fun h114 => ?_)
      refine AW.aload_n (pc' := 118) d_C_join_117 rfl rfl rfl ?_
      refine AW.iload_n (pc' := 119) d_C_join_118 rfl rfl rfl ?_
      refine AW.aload_n (pc' := 120) d_C_join_119 rfl rfl rfl ?_
      refine AW.iload_n (pc' := 121) d_C_join_120 rfl rfl rfl ?_
      refine AW.cV (pc' := 124) d_C_join_121 rfl cv_C_150 (by decide) rfl rfl rfl (c_next X z k o (nI b) hnp) rfl rfl rfl rfl rfl rfl rfl ?_
      refine AW.top (u := .int (nI (r))) (by rw [hq]; rfl) ?_
      refine AW.cV (pc' := 127) d_C_join_124 rfl cv_C_137 (by decide) rfl rfl rfl (c_set_ns X z k o b r (by omega) hb hn hx hR) rfl rfl rfl rfl rfl rfl rfl ?_
      exact AW.vret d_C_join_127 rfl rfl rfl ⟨rfl, rfl⟩
  · have e : f_fill z b = z := by rw [f_fill, if_neg hx]
    rw [e]
    refine AW.aload_n (pc' := 108) d_C_join_107 rfl rfl rfl ?_
    refine AW.getf (pc' := 111) d_C_join_108 rfl fl_C_42 rfl rfl ?_
    refine AW.iload_n (pc' := 112) d_C_join_111 rfl rfl rfl ?_
    refine AW.ialdN (pc' := 113) d_C_join_112 rfl rfl (by omega) (by decide) ?_
    refine AW.iconst (pc' := 114) (v := (-1)) d_C_join_113 rfl (by decide) ?_
    refine AW.icmp_ne (tgt := 127) (pc' := 117) d_C_join_114 (by decide) rfl (fun h114 => ?_) (fun h => absurd h hx)
    exact AW.vret d_C_join_127 rfl rfl rfl ⟨rfl, rfl⟩
/-- what is in a goes to b -/
def f_mv (z : S_c) (a b : Nat) : S_c :=
  let z1 := c_opn_ z (upd (c_opn z) a (nI 0))
  let z2 := c_sop_ z1 (rep (c_sop z1) (nI a) (nI b) (c_np z1))
  let z3 := c_sou_ z2 (rep (c_sou z2) (nI a) (nI b) (c_nu z2))
  let z4 := c_abv_ z3 (f_move z3 (nI a) (nI b))
  t_sec_ z4 (f_give z4 (nI a) (nI b))
theorem c_join_0 (X : ct_X) (z : S_c) (k : S_m) (o : Nat → Int64) (x y : Int32) (hx : x < 0 ∨ nI (c_ns z) ≤ x) : AF X m_C_join 7 0 0 [.ref 0, .int (x), .int (y)] (wL z k o) (.inr 2) (wL z k o) := by
  refine AM.of rfl (Nat.le_of_ble_eq_true rfl) (ls := [some (.ref 0), some (.int (x)), some (.int (y))]) rfl ?_
  refine AW.aload_n (pc' := 1) d_C_join_0 rfl rfl rfl ?_
  refine AW.iload_n (pc' := 2) d_C_join_1 rfl rfl rfl ?_
  exact AW.cVx d_C_join_2 cv_C_114 (by decide) rfl rfl rfl (c_reqSector_no X z k o x hx) rfl rfl rfl rfl rfl rfl rfl ⟨rfl, rfl⟩
theorem c_join_1 (X : ct_X) (z : S_c) (k : S_m) (o : Nat → Int64) (a : Nat) (ha : a < c_ns z) (hn : c_ns z ≤ 20) (x : Int32) (hx : x < 0 ∨ nI (c_ns z) ≤ x) : AF X m_C_join 7 0 0 [.ref 0, .int (nI (a)), .int (x)] (wL z k o) (.inr 2) (wL z k o) := by
  refine AM.of rfl (Nat.le_of_ble_eq_true rfl) (ls := [some (.ref 0), some (.int (nI (a))), some (.int (x))]) rfl ?_
  refine AW.aload_n (pc' := 1) d_C_join_0 rfl rfl rfl ?_
  refine AW.iload_n (pc' := 2) d_C_join_1 rfl rfl rfl ?_
  refine AW.cV (pc' := 5) d_C_join_2 rfl cv_C_114 (by decide) rfl rfl rfl (c_reqSector_ok X z k o a ha (by omega)) rfl rfl rfl rfl rfl rfl rfl ?_
  refine AW.aload_n (pc' := 6) d_C_join_5 rfl rfl rfl ?_
  refine AW.iload_n (pc' := 7) d_C_join_6 rfl rfl rfl ?_
  exact AW.cVx d_C_join_7 cv_C_114 (by decide) rfl rfl rfl (c_reqSector_no X z k o x hx) rfl rfl rfl rfl rfl rfl rfl ⟨rfl, rfl⟩
theorem c_join_2 (X : ct_X) (z : S_c) (k : S_m) (o : Nat → Int64) (a : Nat) (ha : a < c_ns z) (hn : c_ns z ≤ 20) (b : Nat) (hb : b < c_ns z) (h1 : c_opn z a = 0) : AF X m_C_join 7 0 0 [.ref 0, .int (nI (a)), .int (nI (b))] (wL z k o) (.inr 3) (wL z k o) := by
  refine AM.of rfl (Nat.le_of_ble_eq_true rfl) (ls := [some (.ref 0), some (.int (nI (a))), some (.int (nI (b)))]) rfl ?_
  refine AW.aload_n (pc' := 1) d_C_join_0 rfl rfl rfl ?_
  refine AW.iload_n (pc' := 2) d_C_join_1 rfl rfl rfl ?_
  refine AW.cV (pc' := 5) d_C_join_2 rfl cv_C_114 (by decide) rfl rfl rfl (c_reqSector_ok X z k o a ha (by omega)) rfl rfl rfl rfl rfl rfl rfl ?_
  refine AW.aload_n (pc' := 6) d_C_join_5 rfl rfl rfl ?_
  refine AW.iload_n (pc' := 7) d_C_join_6 rfl rfl rfl ?_
  refine AW.cV (pc' := 10) d_C_join_7 rfl cv_C_114 (by decide) rfl rfl rfl (c_reqSector_ok X z k o b hb (by omega)) rfl rfl rfl rfl rfl rfl rfl ?_
  refine AW.aload_n (pc' := 11) d_C_join_10 rfl rfl rfl ?_
  refine AW.iload_n (pc' := 12) d_C_join_11 rfl rfl rfl ?_
  exact AW.cVx d_C_join_12 cv_C_119 (by decide) rfl rfl rfl (c_reqOpen_no X z k o a (by omega) h1) rfl rfl rfl rfl rfl rfl rfl ⟨rfl, rfl⟩
theorem c_join_3 (X : ct_X) (z : S_c) (k : S_m) (o : Nat → Int64) (a : Nat) (ha : a < c_ns z) (hn : c_ns z ≤ 20) (b : Nat) (hb : b < c_ns z) (h1 : ¬ c_opn z a = 0) (h2 : c_opn z b = 0) : AF X m_C_join 7 0 0 [.ref 0, .int (nI (a)), .int (nI (b))] (wL z k o) (.inr 3) (wL z k o) := by
  refine AM.of rfl (Nat.le_of_ble_eq_true rfl) (ls := [some (.ref 0), some (.int (nI (a))), some (.int (nI (b)))]) rfl ?_
  refine AW.aload_n (pc' := 1) d_C_join_0 rfl rfl rfl ?_
  refine AW.iload_n (pc' := 2) d_C_join_1 rfl rfl rfl ?_
  refine AW.cV (pc' := 5) d_C_join_2 rfl cv_C_114 (by decide) rfl rfl rfl (c_reqSector_ok X z k o a ha (by omega)) rfl rfl rfl rfl rfl rfl rfl ?_
  refine AW.aload_n (pc' := 6) d_C_join_5 rfl rfl rfl ?_
  refine AW.iload_n (pc' := 7) d_C_join_6 rfl rfl rfl ?_
  refine AW.cV (pc' := 10) d_C_join_7 rfl cv_C_114 (by decide) rfl rfl rfl (c_reqSector_ok X z k o b hb (by omega)) rfl rfl rfl rfl rfl rfl rfl ?_
  refine AW.aload_n (pc' := 11) d_C_join_10 rfl rfl rfl ?_
  refine AW.iload_n (pc' := 12) d_C_join_11 rfl rfl rfl ?_
  refine AW.cV (pc' := 15) d_C_join_12 rfl cv_C_119 (by decide) rfl rfl rfl (c_reqOpen_ok X z k o a (by omega) h1) rfl rfl rfl rfl rfl rfl rfl ?_
  refine AW.aload_n (pc' := 16) d_C_join_15 rfl rfl rfl ?_
  refine AW.iload_n (pc' := 17) d_C_join_16 rfl rfl rfl ?_
  exact AW.cVx d_C_join_17 cv_C_119 (by decide) rfl rfl rfl (c_reqOpen_no X z k o b (by omega) h2) rfl rfl rfl rfl rfl rfl rfl ⟨rfl, rfl⟩
theorem c_join_4 (X : ct_X) (z : S_c) (k : S_m) (o : Nat → Int64) (ha : 0 < c_ns z) (hn : c_ns z ≤ 20) (b : Nat) (hb : b < c_ns z) (h1 : ¬ c_opn z 0 = 0) (h2 : ¬ c_opn z b = 0) : AF X m_C_join 7 0 0 [.ref 0, .int (nI (0)), .int (nI (b))] (wL z k o) (.inr 3) (wL z k o) := by
  refine AM.of rfl (Nat.le_of_ble_eq_true rfl) (ls := [some (.ref 0), some (.int (nI (0))), some (.int (nI (b)))]) rfl ?_
  refine AW.aload_n (pc' := 1) d_C_join_0 rfl rfl rfl ?_
  refine AW.iload_n (pc' := 2) d_C_join_1 rfl rfl rfl ?_
  refine AW.cV (pc' := 5) d_C_join_2 rfl cv_C_114 (by decide) rfl rfl rfl (c_reqSector_ok X z k o 0 ha (by omega)) rfl rfl rfl rfl rfl rfl rfl ?_
  refine AW.aload_n (pc' := 6) d_C_join_5 rfl rfl rfl ?_
  refine AW.iload_n (pc' := 7) d_C_join_6 rfl rfl rfl ?_
  refine AW.cV (pc' := 10) d_C_join_7 rfl cv_C_114 (by decide) rfl rfl rfl (c_reqSector_ok X z k o b hb (by omega)) rfl rfl rfl rfl rfl rfl rfl ?_
  refine AW.aload_n (pc' := 11) d_C_join_10 rfl rfl rfl ?_
  refine AW.iload_n (pc' := 12) d_C_join_11 rfl rfl rfl ?_
  refine AW.cV (pc' := 15) d_C_join_12 rfl cv_C_119 (by decide) rfl rfl rfl (c_reqOpen_ok X z k o 0 (by omega) h1) rfl rfl rfl rfl rfl rfl rfl ?_
  refine AW.aload_n (pc' := 16) d_C_join_15 rfl rfl rfl ?_
  refine AW.iload_n (pc' := 17) d_C_join_16 rfl rfl rfl ?_
  refine AW.cV (pc' := 20) d_C_join_17 rfl cv_C_119 (by decide) rfl rfl rfl (c_reqOpen_ok X z k o b (by omega) h2) rfl rfl rfl rfl rfl rfl rfl ?_
  refine AW.iload_n (pc' := 21) d_C_join_20 rfl rfl rfl ?_
  refine AW.if_ne (tgt := 34) (pc' := 24) d_C_join_21 (by decide) rfl (fun h => absurd h (by decide)) (fun _ => ?_)
  exact AW.throwS (x := 3) d_C_join_24 d_C_join_27 d_C_join_28 d_C_join_30 d_C_join_33 cl_C_93 ini_java_lang_IllegalStateException sr_C_129 thr_3 rfl (by decide) rfl rfl rfl ⟨rfl, rfl⟩
theorem c_join_5 (X : ct_X) (z : S_c) (k : S_m) (o : Nat → Int64) (a : Nat) (ha : a < c_ns z) (hn : c_ns z ≤ 20) (b : Nat) (hb : b < c_ns z) (h1 : ¬ c_opn z a = 0) (h2 : ¬ c_opn z b = 0) (h0 : ¬ a = 0) (hab : ∀ j, j < 20 → okO 20 (c_abv z j)) (h3 : f_sob z a 20 (some b) = true) : AF X m_C_join 7 0 0 [.ref 0, .int (nI (a)), .int (nI (b))] (wL z k o) (.inr 3) (wL z k o) := by
  refine AM.of rfl (Nat.le_of_ble_eq_true rfl) (ls := [some (.ref 0), some (.int (nI (a))), some (.int (nI (b)))]) rfl ?_
  refine AW.aload_n (pc' := 1) d_C_join_0 rfl rfl rfl ?_
  refine AW.iload_n (pc' := 2) d_C_join_1 rfl rfl rfl ?_
  refine AW.cV (pc' := 5) d_C_join_2 rfl cv_C_114 (by decide) rfl rfl rfl (c_reqSector_ok X z k o a ha (by omega)) rfl rfl rfl rfl rfl rfl rfl ?_
  refine AW.aload_n (pc' := 6) d_C_join_5 rfl rfl rfl ?_
  refine AW.iload_n (pc' := 7) d_C_join_6 rfl rfl rfl ?_
  refine AW.cV (pc' := 10) d_C_join_7 rfl cv_C_114 (by decide) rfl rfl rfl (c_reqSector_ok X z k o b hb (by omega)) rfl rfl rfl rfl rfl rfl rfl ?_
  refine AW.aload_n (pc' := 11) d_C_join_10 rfl rfl rfl ?_
  refine AW.iload_n (pc' := 12) d_C_join_11 rfl rfl rfl ?_
  refine AW.cV (pc' := 15) d_C_join_12 rfl cv_C_119 (by decide) rfl rfl rfl (c_reqOpen_ok X z k o a (by omega) h1) rfl rfl rfl rfl rfl rfl rfl ?_
  refine AW.aload_n (pc' := 16) d_C_join_15 rfl rfl rfl ?_
  refine AW.iload_n (pc' := 17) d_C_join_16 rfl rfl rfl ?_
  refine AW.cV (pc' := 20) d_C_join_17 rfl cv_C_119 (by decide) rfl rfl rfl (c_reqOpen_ok X z k o b (by omega) h2) rfl rfl rfl rfl rfl rfl rfl ?_
  refine AW.iload_n (pc' := 21) d_C_join_20 rfl rfl rfl ?_
  refine AW.if_ne (tgt := 34) (pc' := 24) d_C_join_21 (by decide) rfl (fun _ => ?_) (fun h => absurd ((nI_eq (b := 0) (by omega) (by decide)).mp (h.trans (by decide))) h0)
  refine AW.aload_n (pc' := 35) d_C_join_34 rfl rfl rfl ?_
  refine AW.iload_n (pc' := 36) d_C_join_35 rfl rfl rfl ?_
  refine AW.iload_n (pc' := 37) d_C_join_36 rfl rfl rfl ?_
  refine AW.cV (pc' := 40) d_C_join_37 rfl cv_C_131 (by decide) rfl rfl rfl (c_sob_t X z k o b a (by omega) (by omega) hab h3) rfl rfl rfl rfl rfl rfl rfl ?_
  refine AW.if_eq (tgt := 53) (pc' := 43) d_C_join_40 (by decide) rfl (fun h => absurd h (by decide)) (fun _ => ?_)
  exact AW.throwS (x := 3) d_C_join_43 d_C_join_46 d_C_join_47 d_C_join_49 d_C_join_52 cl_C_93 ini_java_lang_IllegalStateException sr_C_135 thr_3 rfl (by decide) rfl rfl rfl ⟨rfl, rfl⟩
theorem c_join_6 (X : ct_X) (z : S_c) (k : S_m) (o : Nat → Int64) (a : Nat) (ha : a < c_ns z) (hn : c_ns z ≤ 20) (b : Nat) (hb : b < c_ns z) (hnp : c_np z ≤ 40) (hnu : c_nu z ≤ 20) (htn : t_n z ≤ 60) (hc : c_sec z ≤ 99999) (hR : Ring z) (h1 : ¬ c_opn z a = 0) (h2 : ¬ c_opn z b = 0) (h0 : ¬ a = 0) (hab : ∀ j, j < 20 → okO 20 (c_abv z j)) (h3 : f_sob z a 20 (some b) = false) (hl : okO 40 (c_ldr z a)) : AF X m_C_join 7 0 0 [.ref 0, .int (nI (a)), .int (nI (b))] (wL z k o) (.inl none) (wL (f_fill (f_mv (f_unl z a) a b) b) k o) := by
  refine AM.of rfl (Nat.le_of_ble_eq_true rfl) (ls := [some (.ref 0), some (.int (nI (a))), some (.int (nI (b)))]) rfl ?_
  refine AW.aload_n (pc' := 1) d_C_join_0 rfl rfl rfl ?_
  refine AW.iload_n (pc' := 2) d_C_join_1 rfl rfl rfl ?_
  refine AW.cV (pc' := 5) d_C_join_2 rfl cv_C_114 (by decide) rfl rfl rfl (c_reqSector_ok X z k o a ha (by omega)) rfl rfl rfl rfl rfl rfl rfl ?_
  refine AW.aload_n (pc' := 6) d_C_join_5 rfl rfl rfl ?_
  refine AW.iload_n (pc' := 7) d_C_join_6 rfl rfl rfl ?_
  refine AW.cV (pc' := 10) d_C_join_7 rfl cv_C_114 (by decide) rfl rfl rfl (c_reqSector_ok X z k o b hb (by omega)) rfl rfl rfl rfl rfl rfl rfl ?_
  refine AW.aload_n (pc' := 11) d_C_join_10 rfl rfl rfl ?_
  refine AW.iload_n (pc' := 12) d_C_join_11 rfl rfl rfl ?_
  refine AW.cV (pc' := 15) d_C_join_12 rfl cv_C_119 (by decide) rfl rfl rfl (c_reqOpen_ok X z k o a (by omega) h1) rfl rfl rfl rfl rfl rfl rfl ?_
  refine AW.aload_n (pc' := 16) d_C_join_15 rfl rfl rfl ?_
  refine AW.iload_n (pc' := 17) d_C_join_16 rfl rfl rfl ?_
  refine AW.cV (pc' := 20) d_C_join_17 rfl cv_C_119 (by decide) rfl rfl rfl (c_reqOpen_ok X z k o b (by omega) h2) rfl rfl rfl rfl rfl rfl rfl ?_
  refine AW.iload_n (pc' := 21) d_C_join_20 rfl rfl rfl ?_
  refine AW.if_ne (tgt := 34) (pc' := 24) d_C_join_21 (by decide) rfl (fun _ => ?_) (fun h => absurd ((nI_eq (b := 0) (by omega) (by decide)).mp (h.trans (by decide))) h0)
  refine AW.aload_n (pc' := 35) d_C_join_34 rfl rfl rfl ?_
  refine AW.iload_n (pc' := 36) d_C_join_35 rfl rfl rfl ?_
  refine AW.iload_n (pc' := 37) d_C_join_36 rfl rfl rfl ?_
  refine AW.cV (pc' := 40) d_C_join_37 rfl cv_C_131 (by decide) rfl rfl rfl (c_sob_f X z k o b a (by omega) (by omega) hab h3) rfl rfl rfl rfl rfl rfl rfl ?_
  refine AW.if_eq (tgt := 53) (pc' := 43) d_C_join_40 (by decide) rfl (fun _ => ?_) (fun h => absurd h (by decide))
  refine AW.aload_n (pc' := 54) d_C_join_53 rfl rfl rfl ?_
  refine AW.iload_n (pc' := 55) d_C_join_54 rfl rfl rfl ?_
  refine AW.iconst (pc' := 56) (v := (-1)) d_C_join_55 rfl (by decide) ?_
  refine AW.cV (pc' := 59) d_C_join_56 rfl cv_C_137 (by decide) rfl rfl rfl (c_unl X z k o a (by omega) hn hl hR) rfl rfl rfl rfl rfl rfl rfl ?_
  refine AW.aload_n (pc' := 60) d_C_join_59 rfl rfl rfl ?_
  refine AW.getf (pc' := 63) d_C_join_60 rfl fl_C_35 rfl rfl ?_
  refine AW.iload_n (pc' := 64) d_C_join_63 rfl rfl rfl ?_
  refine AW.iconst (pc' := 65) (v := nI 0) d_C_join_64 rfl (by decide) ?_
  refine AW.zastN (pc' := 66) (w' := (wL (c_opn_ ((f_unl z a)) (upd (c_opn ((f_unl z a))) a (nI (0)))) k o)) d_C_join_65 rfl rfl (by omega) (by decide) (by decide) rfl ?_
  refine AW.aload_n (pc' := 67) d_C_join_66 rfl rfl rfl ?_
  refine AW.getf (pc' := 70) d_C_join_67 rfl fl_C_20 rfl rfl ?_
  refine AW.aload_n (pc' := 71) d_C_join_70 rfl rfl rfl ?_
  refine AW.getf (pc' := 74) d_C_join_71 rfl fl_C_72 rfl rfl ?_
  refine AW.top (u := .int (nI (c_np ((f_unl z a))))) rfl ?_
  refine AW.iload_n (pc' := 75) d_C_join_74 rfl rfl rfl ?_
  refine AW.iload_n (pc' := 76) d_C_join_75 rfl rfl rfl ?_
  refine AW.cS (pc' := 79) d_C_join_76 rfl cs_C_140 (by decide) (c_replace X _ (wL (c_sop_ (c_opn_ ((f_unl z a)) (upd (c_opn ((f_unl z a))) a (nI (0)))) (rep (c_sop (c_opn_ ((f_unl z a)) (upd (c_opn ((f_unl z a))) a (nI (0))))) (nI a) (nI b) (c_np (c_opn_ ((f_unl z a)) (upd (c_opn ((f_unl z a))) a (nI (0))))))) k o) 3 40 (c_np (c_opn_ ((f_unl z a)) (upd (c_opn ((f_unl z a))) a (nI (0))))) (c_sop (c_opn_ ((f_unl z a)) (upd (c_opn ((f_unl z a))) a (nI (0))))) (nI a) (nI b) (by decide) (by rw [← unl_np z a] at hnp; exact hnp) rfl rfl) rfl rfl rfl rfl rfl rfl rfl ?_
  refine AW.aload_n (pc' := 80) d_C_join_79 rfl rfl rfl ?_
  refine AW.getf (pc' := 83) d_C_join_80 rfl fl_C_32 rfl rfl ?_
  refine AW.aload_n (pc' := 84) d_C_join_83 rfl rfl rfl ?_
  refine AW.getf (pc' := 87) d_C_join_84 rfl fl_C_80 rfl rfl ?_
  refine AW.iload_n (pc' := 88) d_C_join_87 rfl rfl rfl ?_
  refine AW.iload_n (pc' := 89) d_C_join_88 rfl rfl rfl ?_
  refine AW.cS (pc' := 92) d_C_join_89 rfl cs_C_140 (by decide) (c_replace X _ (wL (c_sou_ ((c_sop_ (c_opn_ ((f_unl z a)) (upd (c_opn ((f_unl z a))) a (nI (0)))) (rep (c_sop (c_opn_ ((f_unl z a)) (upd (c_opn ((f_unl z a))) a (nI (0))))) (nI a) (nI b) (c_np (c_opn_ ((f_unl z a)) (upd (c_opn ((f_unl z a))) a (nI (0)))))))) (rep (c_sou ((c_sop_ (c_opn_ ((f_unl z a)) (upd (c_opn ((f_unl z a))) a (nI (0)))) (rep (c_sop (c_opn_ ((f_unl z a)) (upd (c_opn ((f_unl z a))) a (nI (0))))) (nI a) (nI b) (c_np (c_opn_ ((f_unl z a)) (upd (c_opn ((f_unl z a))) a (nI (0))))))))) (nI a) (nI b) (c_nu ((c_sop_ (c_opn_ ((f_unl z a)) (upd (c_opn ((f_unl z a))) a (nI (0)))) (rep (c_sop (c_opn_ ((f_unl z a)) (upd (c_opn ((f_unl z a))) a (nI (0))))) (nI a) (nI b) (c_np (c_opn_ ((f_unl z a)) (upd (c_opn ((f_unl z a))) a (nI (0))))))))))) k o) 5 20 (c_nu ((c_sop_ (c_opn_ ((f_unl z a)) (upd (c_opn ((f_unl z a))) a (nI (0)))) (rep (c_sop (c_opn_ ((f_unl z a)) (upd (c_opn ((f_unl z a))) a (nI (0))))) (nI a) (nI b) (c_np (c_opn_ ((f_unl z a)) (upd (c_opn ((f_unl z a))) a (nI (0))))))))) (c_sou ((c_sop_ (c_opn_ ((f_unl z a)) (upd (c_opn ((f_unl z a))) a (nI (0)))) (rep (c_sop (c_opn_ ((f_unl z a)) (upd (c_opn ((f_unl z a))) a (nI (0))))) (nI a) (nI b) (c_np (c_opn_ ((f_unl z a)) (upd (c_opn ((f_unl z a))) a (nI (0))))))))) (nI a) (nI b) (by decide) (by rw [← unl_nu z a] at hnu; exact hnu) rfl rfl) rfl rfl rfl rfl rfl rfl rfl ?_
  refine AW.aload_n (pc' := 93) d_C_join_92 rfl rfl rfl ?_
  refine AW.iload_n (pc' := 94) d_C_join_93 rfl rfl rfl ?_
  refine AW.iload_n (pc' := 95) d_C_join_94 rfl rfl rfl ?_
  refine AW.cV (pc' := 98) d_C_join_95 rfl cv_C_144 (by decide) rfl rfl rfl (c_move X ((c_sou_ ((c_sop_ (c_opn_ ((f_unl z a)) (upd (c_opn ((f_unl z a))) a (nI (0)))) (rep (c_sop (c_opn_ ((f_unl z a)) (upd (c_opn ((f_unl z a))) a (nI (0))))) (nI a) (nI b) (c_np (c_opn_ ((f_unl z a)) (upd (c_opn ((f_unl z a))) a (nI (0)))))))) (rep (c_sou ((c_sop_ (c_opn_ ((f_unl z a)) (upd (c_opn ((f_unl z a))) a (nI (0)))) (rep (c_sop (c_opn_ ((f_unl z a)) (upd (c_opn ((f_unl z a))) a (nI (0))))) (nI a) (nI b) (c_np (c_opn_ ((f_unl z a)) (upd (c_opn ((f_unl z a))) a (nI (0))))))))) (nI a) (nI b) (c_nu ((c_sop_ (c_opn_ ((f_unl z a)) (upd (c_opn ((f_unl z a))) a (nI (0)))) (rep (c_sop (c_opn_ ((f_unl z a)) (upd (c_opn ((f_unl z a))) a (nI (0))))) (nI a) (nI b) (c_np (c_opn_ ((f_unl z a)) (upd (c_opn ((f_unl z a))) a (nI (0)))))))))))) k o (nI a) (nI b) (by rw [← unl_ns z a] at hn; exact hn)) rfl rfl rfl rfl rfl rfl rfl ?_
  refine AW.aload_n (pc' := 99) d_C_join_98 rfl rfl rfl ?_
  refine AW.getf (pc' := 102) d_C_join_99 rfl fl_C_54 rfl rfl ?_
  refine AW.iload_n (pc' := 103) d_C_join_102 rfl rfl rfl ?_
  refine AW.iload_n (pc' := 104) d_C_join_103 rfl rfl rfl ?_
  refine AW.cV (pc' := 107) d_C_join_104 rfl cv_C_147 (by decide) rfl rfl rfl (c_give X ((c_abv_ ((c_sou_ ((c_sop_ (c_opn_ ((f_unl z a)) (upd (c_opn ((f_unl z a))) a (nI (0)))) (rep (c_sop (c_opn_ ((f_unl z a)) (upd (c_opn ((f_unl z a))) a (nI (0))))) (nI a) (nI b) (c_np (c_opn_ ((f_unl z a)) (upd (c_opn ((f_unl z a))) a (nI (0)))))))) (rep (c_sou ((c_sop_ (c_opn_ ((f_unl z a)) (upd (c_opn ((f_unl z a))) a (nI (0)))) (rep (c_sop (c_opn_ ((f_unl z a)) (upd (c_opn ((f_unl z a))) a (nI (0))))) (nI a) (nI b) (c_np (c_opn_ ((f_unl z a)) (upd (c_opn ((f_unl z a))) a (nI (0))))))))) (nI a) (nI b) (c_nu ((c_sop_ (c_opn_ ((f_unl z a)) (upd (c_opn ((f_unl z a))) a (nI (0)))) (rep (c_sop (c_opn_ ((f_unl z a)) (upd (c_opn ((f_unl z a))) a (nI (0))))) (nI a) (nI b) (c_np (c_opn_ ((f_unl z a)) (upd (c_opn ((f_unl z a))) a (nI (0)))))))))))) (f_move ((c_sou_ ((c_sop_ (c_opn_ ((f_unl z a)) (upd (c_opn ((f_unl z a))) a (nI (0)))) (rep (c_sop (c_opn_ ((f_unl z a)) (upd (c_opn ((f_unl z a))) a (nI (0))))) (nI a) (nI b) (c_np (c_opn_ ((f_unl z a)) (upd (c_opn ((f_unl z a))) a (nI (0)))))))) (rep (c_sou ((c_sop_ (c_opn_ ((f_unl z a)) (upd (c_opn ((f_unl z a))) a (nI (0)))) (rep (c_sop (c_opn_ ((f_unl z a)) (upd (c_opn ((f_unl z a))) a (nI (0))))) (nI a) (nI b) (c_np (c_opn_ ((f_unl z a)) (upd (c_opn ((f_unl z a))) a (nI (0))))))))) (nI a) (nI b) (c_nu ((c_sop_ (c_opn_ ((f_unl z a)) (upd (c_opn ((f_unl z a))) a (nI (0)))) (rep (c_sop (c_opn_ ((f_unl z a)) (upd (c_opn ((f_unl z a))) a (nI (0))))) (nI a) (nI b) (c_np (c_opn_ ((f_unl z a)) (upd (c_opn ((f_unl z a))) a (nI (0)))))))))))) (nI a) (nI b)))) k o (nI a) (nI b) (by rw [← unl_tn z a] at htn; exact htn)) rfl rfl rfl rfl rfl rfl rfl ?_
  refine AW.wld (w' := wL (f_mv (f_unl z a) a b) k o) rfl ?_
  exact jn_fill X (f_mv (f_unl z a) a b) k o a b (by omega) (by rw [← unl_ns z a] at hn; exact hn) (by rw [← unl_np z a] at hnp; exact hnp) (unl_ring hR hc (by omega))
theorem c_offer_0 (X : ct_X) (z : S_c) (k : S_m) (o : Nat → Int64) (x y : Int32) (hx : x < 0 ∨ nI (c_ns z) ≤ x) : AF X m_C_offer 7 0 0 [.ref 0, .int (x), .int (y)] (wL z k o) (.inr 2) (wL z k o) := by
  refine AM.of rfl (Nat.le_of_ble_eq_true rfl) (ls := [some (.ref 0), some (.int (x)), some (.int (y))]) rfl ?_
  refine AW.aload_n (pc' := 1) d_C_offer_0 rfl rfl rfl ?_
  refine AW.iload_n (pc' := 2) d_C_offer_1 rfl rfl rfl ?_
  exact AW.cVx d_C_offer_2 cv_C_114 (by decide) rfl rfl rfl (c_reqSector_no X z k o x hx) rfl rfl rfl rfl rfl rfl rfl ⟨rfl, rfl⟩
theorem c_offer_1 (X : ct_X) (z : S_c) (k : S_m) (o : Nat → Int64) (s : Nat) (hs : s < c_ns z) (hn : c_ns z ≤ 20) (x : Int32) (hx : x < 0 ∨ nI (c_np z) ≤ x) : AF X m_C_offer 7 0 0 [.ref 0, .int (nI (s)), .int (x)] (wL z k o) (.inr 2) (wL z k o) := by
  refine AM.of rfl (Nat.le_of_ble_eq_true rfl) (ls := [some (.ref 0), some (.int (nI (s))), some (.int (x))]) rfl ?_
  refine AW.aload_n (pc' := 1) d_C_offer_0 rfl rfl rfl ?_
  refine AW.iload_n (pc' := 2) d_C_offer_1 rfl rfl rfl ?_
  refine AW.cV (pc' := 5) d_C_offer_2 rfl cv_C_114 (by decide) rfl rfl rfl (c_reqSector_ok X z k o s hs (by omega)) rfl rfl rfl rfl rfl rfl rfl ?_
  refine AW.aload_n (pc' := 6) d_C_offer_5 rfl rfl rfl ?_
  refine AW.iload_n (pc' := 7) d_C_offer_6 rfl rfl rfl ?_
  exact AW.cVx d_C_offer_7 cv_C_85 (by decide) rfl rfl rfl (c_reqPerson_no X z k o x hx) rfl rfl rfl rfl rfl rfl rfl ⟨rfl, rfl⟩
theorem c_offer_2 (X : ct_X) (z : S_c) (k : S_m) (o : Nat → Int64) (s : Nat) (hs : s < c_ns z) (hn : c_ns z ≤ 20) (p : Nat) (hj : p < c_np z) (hnp : c_np z ≤ 40) (h1 : c_opn z s = 0) : AF X m_C_offer 7 0 0 [.ref 0, .int (nI (s)), .int (nI (p))] (wL z k o) (.inr 3) (wL z k o) := by
  refine AM.of rfl (Nat.le_of_ble_eq_true rfl) (ls := [some (.ref 0), some (.int (nI (s))), some (.int (nI (p)))]) rfl ?_
  refine AW.aload_n (pc' := 1) d_C_offer_0 rfl rfl rfl ?_
  refine AW.iload_n (pc' := 2) d_C_offer_1 rfl rfl rfl ?_
  refine AW.cV (pc' := 5) d_C_offer_2 rfl cv_C_114 (by decide) rfl rfl rfl (c_reqSector_ok X z k o s hs (by omega)) rfl rfl rfl rfl rfl rfl rfl ?_
  refine AW.aload_n (pc' := 6) d_C_offer_5 rfl rfl rfl ?_
  refine AW.iload_n (pc' := 7) d_C_offer_6 rfl rfl rfl ?_
  refine AW.cV (pc' := 10) d_C_offer_7 rfl cv_C_85 (by decide) rfl rfl rfl (c_reqPerson_ok X z k o p hj (by omega)) rfl rfl rfl rfl rfl rfl rfl ?_
  refine AW.aload_n (pc' := 11) d_C_offer_10 rfl rfl rfl ?_
  refine AW.iload_n (pc' := 12) d_C_offer_11 rfl rfl rfl ?_
  exact AW.cVx d_C_offer_12 cv_C_119 (by decide) rfl rfl rfl (c_reqOpen_no X z k o s (by omega) h1) rfl rfl rfl rfl rfl rfl rfl ⟨rfl, rfl⟩
theorem c_offer_3 (X : ct_X) (z : S_c) (k : S_m) (o : Nat → Int64) (s : Nat) (hs : s < c_ns z) (hn : c_ns z ≤ 20) (p : Nat) (hj : p < c_np z) (hnp : c_np z ≤ 40) (h1 : ¬ c_opn z s = 0) (h2 : c_ldr z s = -1) : AF X m_C_offer 7 0 0 [.ref 0, .int (nI (s)), .int (nI (p))] (wL z k o) (.inr 3) (wL z k o) := by
  refine AM.of rfl (Nat.le_of_ble_eq_true rfl) (ls := [some (.ref 0), some (.int (nI (s))), some (.int (nI (p)))]) rfl ?_
  refine AW.aload_n (pc' := 1) d_C_offer_0 rfl rfl rfl ?_
  refine AW.iload_n (pc' := 2) d_C_offer_1 rfl rfl rfl ?_
  refine AW.cV (pc' := 5) d_C_offer_2 rfl cv_C_114 (by decide) rfl rfl rfl (c_reqSector_ok X z k o s hs (by omega)) rfl rfl rfl rfl rfl rfl rfl ?_
  refine AW.aload_n (pc' := 6) d_C_offer_5 rfl rfl rfl ?_
  refine AW.iload_n (pc' := 7) d_C_offer_6 rfl rfl rfl ?_
  refine AW.cV (pc' := 10) d_C_offer_7 rfl cv_C_85 (by decide) rfl rfl rfl (c_reqPerson_ok X z k o p hj (by omega)) rfl rfl rfl rfl rfl rfl rfl ?_
  refine AW.aload_n (pc' := 11) d_C_offer_10 rfl rfl rfl ?_
  refine AW.iload_n (pc' := 12) d_C_offer_11 rfl rfl rfl ?_
  refine AW.cV (pc' := 15) d_C_offer_12 rfl cv_C_119 (by decide) rfl rfl rfl (c_reqOpen_ok X z k o s (by omega) h1) rfl rfl rfl rfl rfl rfl rfl ?_
  refine AW.aload_n (pc' := 16) d_C_offer_15 rfl rfl rfl ?_
  refine AW.getf (pc' := 19) d_C_offer_16 rfl fl_C_42 rfl rfl ?_
  refine AW.iload_n (pc' := 20) d_C_offer_19 rfl rfl rfl ?_
  refine AW.ialdN (pc' := 21) d_C_offer_20 rfl rfl (by omega) (by decide) ?_
  refine AW.iconst (pc' := 22) (v := (-1)) d_C_offer_21 rfl (by decide) ?_
  refine AW.icmp_ne (tgt := 35) (pc' := 25) d_C_offer_22 (by decide) rfl (fun h => absurd h2 h) (fun h22 => ?_)
  exact AW.throwS (x := 3) d_C_offer_25 d_C_offer_28 d_C_offer_29 d_C_offer_31 d_C_offer_34 cl_C_93 ini_java_lang_IllegalStateException sr_C_154 thr_3 rfl (by decide) rfl rfl rfl ⟨rfl, rfl⟩
theorem c_offer_4 (X : ct_X) (z : S_c) (k : S_m) (o : Nat → Int64) (s : Nat) (hs : s < c_ns z) (hn : c_ns z ≤ 20) (p : Nat) (hj : p < c_np z) (hnp : c_np z ≤ 40) (h1 : ¬ c_opn z s = 0) (h2 : ¬ c_ldr z s = -1) (h3 : c_sop z p = -1) : AF X m_C_offer 7 0 0 [.ref 0, .int (nI (s)), .int (nI (p))] (wL z k o) (.inr 3) (wL z k o) := by
  refine AM.of rfl (Nat.le_of_ble_eq_true rfl) (ls := [some (.ref 0), some (.int (nI (s))), some (.int (nI (p)))]) rfl ?_
  refine AW.aload_n (pc' := 1) d_C_offer_0 rfl rfl rfl ?_
  refine AW.iload_n (pc' := 2) d_C_offer_1 rfl rfl rfl ?_
  refine AW.cV (pc' := 5) d_C_offer_2 rfl cv_C_114 (by decide) rfl rfl rfl (c_reqSector_ok X z k o s hs (by omega)) rfl rfl rfl rfl rfl rfl rfl ?_
  refine AW.aload_n (pc' := 6) d_C_offer_5 rfl rfl rfl ?_
  refine AW.iload_n (pc' := 7) d_C_offer_6 rfl rfl rfl ?_
  refine AW.cV (pc' := 10) d_C_offer_7 rfl cv_C_85 (by decide) rfl rfl rfl (c_reqPerson_ok X z k o p hj (by omega)) rfl rfl rfl rfl rfl rfl rfl ?_
  refine AW.aload_n (pc' := 11) d_C_offer_10 rfl rfl rfl ?_
  refine AW.iload_n (pc' := 12) d_C_offer_11 rfl rfl rfl ?_
  refine AW.cV (pc' := 15) d_C_offer_12 rfl cv_C_119 (by decide) rfl rfl rfl (c_reqOpen_ok X z k o s (by omega) h1) rfl rfl rfl rfl rfl rfl rfl ?_
  refine AW.aload_n (pc' := 16) d_C_offer_15 rfl rfl rfl ?_
  refine AW.getf (pc' := 19) d_C_offer_16 rfl fl_C_42 rfl rfl ?_
  refine AW.iload_n (pc' := 20) d_C_offer_19 rfl rfl rfl ?_
  refine AW.ialdN (pc' := 21) d_C_offer_20 rfl rfl (by omega) (by decide) ?_
  refine AW.iconst (pc' := 22) (v := (-1)) d_C_offer_21 rfl (by decide) ?_
  refine AW.icmp_ne (tgt := 35) (pc' := 25) d_C_offer_22 (by decide) rfl (fun h22 => ?_) (fun h => absurd h h2)
  refine AW.aload_n (pc' := 36) d_C_offer_35 rfl rfl rfl ?_
  refine AW.iload_n (pc' := 37) d_C_offer_36 rfl rfl rfl ?_
  exact AW.cVx d_C_offer_37 cv_C_105 (by decide) rfl rfl rfl (c_reqThere_no X z k o p (by omega) h3) rfl rfl rfl rfl rfl rfl rfl ⟨rfl, rfl⟩
theorem c_offer_5 (X : ct_X) (z : S_c) (k : S_m) (o : Nat → Int64) (s : Nat) (hs : s < c_ns z) (hn : c_ns z ≤ 20) (p : Nat) (hj : p < c_np z) (hnp : c_np z ≤ 40) (h1 : ¬ c_opn z s = 0) (h2 : ¬ c_ldr z s = -1) (h3 : ¬ c_sop z p = -1) (h4 : ¬ c_slb z p = -1) : AF X m_C_offer 7 0 0 [.ref 0, .int (nI (s)), .int (nI (p))] (wL z k o) (.inr 3) (wL z k o) := by
  refine AM.of rfl (Nat.le_of_ble_eq_true rfl) (ls := [some (.ref 0), some (.int (nI (s))), some (.int (nI (p)))]) rfl ?_
  refine AW.aload_n (pc' := 1) d_C_offer_0 rfl rfl rfl ?_
  refine AW.iload_n (pc' := 2) d_C_offer_1 rfl rfl rfl ?_
  refine AW.cV (pc' := 5) d_C_offer_2 rfl cv_C_114 (by decide) rfl rfl rfl (c_reqSector_ok X z k o s hs (by omega)) rfl rfl rfl rfl rfl rfl rfl ?_
  refine AW.aload_n (pc' := 6) d_C_offer_5 rfl rfl rfl ?_
  refine AW.iload_n (pc' := 7) d_C_offer_6 rfl rfl rfl ?_
  refine AW.cV (pc' := 10) d_C_offer_7 rfl cv_C_85 (by decide) rfl rfl rfl (c_reqPerson_ok X z k o p hj (by omega)) rfl rfl rfl rfl rfl rfl rfl ?_
  refine AW.aload_n (pc' := 11) d_C_offer_10 rfl rfl rfl ?_
  refine AW.iload_n (pc' := 12) d_C_offer_11 rfl rfl rfl ?_
  refine AW.cV (pc' := 15) d_C_offer_12 rfl cv_C_119 (by decide) rfl rfl rfl (c_reqOpen_ok X z k o s (by omega) h1) rfl rfl rfl rfl rfl rfl rfl ?_
  refine AW.aload_n (pc' := 16) d_C_offer_15 rfl rfl rfl ?_
  refine AW.getf (pc' := 19) d_C_offer_16 rfl fl_C_42 rfl rfl ?_
  refine AW.iload_n (pc' := 20) d_C_offer_19 rfl rfl rfl ?_
  refine AW.ialdN (pc' := 21) d_C_offer_20 rfl rfl (by omega) (by decide) ?_
  refine AW.iconst (pc' := 22) (v := (-1)) d_C_offer_21 rfl (by decide) ?_
  refine AW.icmp_ne (tgt := 35) (pc' := 25) d_C_offer_22 (by decide) rfl (fun h22 => ?_) (fun h => absurd h h2)
  refine AW.aload_n (pc' := 36) d_C_offer_35 rfl rfl rfl ?_
  refine AW.iload_n (pc' := 37) d_C_offer_36 rfl rfl rfl ?_
  refine AW.cV (pc' := 40) d_C_offer_37 rfl cv_C_105 (by decide) rfl rfl rfl (c_reqThere_ok X z k o p (by omega) h3) rfl rfl rfl rfl rfl rfl rfl ?_
  refine AW.aload_n (pc' := 41) d_C_offer_40 rfl rfl rfl ?_
  refine AW.getf (pc' := 44) d_C_offer_41 rfl fl_C_23 rfl rfl ?_
  refine AW.iload_n (pc' := 45) d_C_offer_44 rfl rfl rfl ?_
  refine AW.ialdN (pc' := 46) d_C_offer_45 rfl rfl (by omega) (by decide) ?_
  refine AW.iconst (pc' := 47) (v := (-1)) d_C_offer_46 rfl (by decide) ?_
  refine AW.icmp_eq (tgt := 60) (pc' := 50) d_C_offer_47 (by decide) rfl (fun h => absurd h h4) (fun h47 => ?_)
  exact AW.throwS (x := 3) d_C_offer_50 d_C_offer_53 d_C_offer_54 d_C_offer_56 d_C_offer_59 cl_C_93 ini_java_lang_IllegalStateException sr_C_156 thr_3 rfl (by decide) rfl rfl rfl ⟨rfl, rfl⟩
theorem c_offer_6 (X : ct_X) (z : S_c) (k : S_m) (o : Nat → Int64) (s : Nat) (hs : s < c_ns z) (hn : c_ns z ≤ 20) (p : Nat) (hj : p < c_np z) (hnp : c_np z ≤ 40) (h1 : ¬ c_opn z s = 0) (h2 : ¬ c_ldr z s = -1) (h3 : ¬ c_sop z p = -1) (h4 : c_slb z p = -1) : AF X m_C_offer 7 0 0 [.ref 0, .int (nI (s)), .int (nI (p))] (wL z k o) (.inl none) (wL (c_off_ z (upd (c_off z) s (nI p))) k o) := by
  refine AM.of rfl (Nat.le_of_ble_eq_true rfl) (ls := [some (.ref 0), some (.int (nI (s))), some (.int (nI (p)))]) rfl ?_
  refine AW.aload_n (pc' := 1) d_C_offer_0 rfl rfl rfl ?_
  refine AW.iload_n (pc' := 2) d_C_offer_1 rfl rfl rfl ?_
  refine AW.cV (pc' := 5) d_C_offer_2 rfl cv_C_114 (by decide) rfl rfl rfl (c_reqSector_ok X z k o s hs (by omega)) rfl rfl rfl rfl rfl rfl rfl ?_
  refine AW.aload_n (pc' := 6) d_C_offer_5 rfl rfl rfl ?_
  refine AW.iload_n (pc' := 7) d_C_offer_6 rfl rfl rfl ?_
  refine AW.cV (pc' := 10) d_C_offer_7 rfl cv_C_85 (by decide) rfl rfl rfl (c_reqPerson_ok X z k o p hj (by omega)) rfl rfl rfl rfl rfl rfl rfl ?_
  refine AW.aload_n (pc' := 11) d_C_offer_10 rfl rfl rfl ?_
  refine AW.iload_n (pc' := 12) d_C_offer_11 rfl rfl rfl ?_
  refine AW.cV (pc' := 15) d_C_offer_12 rfl cv_C_119 (by decide) rfl rfl rfl (c_reqOpen_ok X z k o s (by omega) h1) rfl rfl rfl rfl rfl rfl rfl ?_
  refine AW.aload_n (pc' := 16) d_C_offer_15 rfl rfl rfl ?_
  refine AW.getf (pc' := 19) d_C_offer_16 rfl fl_C_42 rfl rfl ?_
  refine AW.iload_n (pc' := 20) d_C_offer_19 rfl rfl rfl ?_
  refine AW.ialdN (pc' := 21) d_C_offer_20 rfl rfl (by omega) (by decide) ?_
  refine AW.iconst (pc' := 22) (v := (-1)) d_C_offer_21 rfl (by decide) ?_
  refine AW.icmp_ne (tgt := 35) (pc' := 25) d_C_offer_22 (by decide) rfl (fun h22 => ?_) (fun h => absurd h h2)
  refine AW.aload_n (pc' := 36) d_C_offer_35 rfl rfl rfl ?_
  refine AW.iload_n (pc' := 37) d_C_offer_36 rfl rfl rfl ?_
  refine AW.cV (pc' := 40) d_C_offer_37 rfl cv_C_105 (by decide) rfl rfl rfl (c_reqThere_ok X z k o p (by omega) h3) rfl rfl rfl rfl rfl rfl rfl ?_
  refine AW.aload_n (pc' := 41) d_C_offer_40 rfl rfl rfl ?_
  refine AW.getf (pc' := 44) d_C_offer_41 rfl fl_C_23 rfl rfl ?_
  refine AW.iload_n (pc' := 45) d_C_offer_44 rfl rfl rfl ?_
  refine AW.ialdN (pc' := 46) d_C_offer_45 rfl rfl (by omega) (by decide) ?_
  refine AW.iconst (pc' := 47) (v := (-1)) d_C_offer_46 rfl (by decide) ?_
  refine AW.icmp_eq (tgt := 60) (pc' := 50) d_C_offer_47 (by decide) rfl (fun h47 => ?_) (fun h => absurd h4 h)
  refine AW.aload_n (pc' := 61) d_C_offer_60 rfl rfl rfl ?_
  refine AW.getf (pc' := 64) d_C_offer_61 rfl fl_C_45 rfl rfl ?_
  refine AW.iload_n (pc' := 65) d_C_offer_64 rfl rfl rfl ?_
  refine AW.iload_n (pc' := 66) d_C_offer_65 rfl rfl rfl ?_
  refine AW.iastN (pc' := 67) (w' := (wL (c_off_ z (upd (c_off z) s (nI (p)))) k o)) d_C_offer_66 rfl rfl (by omega) (by decide) rfl ?_
  exact AW.vret d_C_offer_67 rfl rfl rfl ⟨rfl, rfl⟩
theorem c_take_0 (X : ct_X) (z : S_c) (k : S_m) (o : Nat → Int64) (x y : Int32) (hx : x < 0 ∨ nI (c_ns z) ≤ x) : AF X m_C_take 7 0 0 [.ref 0, .int (x), .int (y)] (wL z k o) (.inr 2) (wL z k o) := by
  refine AM.of rfl (Nat.le_of_ble_eq_true rfl) (ls := [some (.ref 0), some (.int (x)), some (.int (y))]) rfl ?_
  refine AW.aload_n (pc' := 1) d_C_take_0 rfl rfl rfl ?_
  refine AW.iload_n (pc' := 2) d_C_take_1 rfl rfl rfl ?_
  exact AW.cVx d_C_take_2 cv_C_114 (by decide) rfl rfl rfl (c_reqSector_no X z k o x hx) rfl rfl rfl rfl rfl rfl rfl ⟨rfl, rfl⟩
theorem c_take_1 (X : ct_X) (z : S_c) (k : S_m) (o : Nat → Int64) (s : Nat) (hs : s < c_ns z) (hn : c_ns z ≤ 20) (x : Int32) (hx : x < 0 ∨ nI (c_np z) ≤ x) : AF X m_C_take 7 0 0 [.ref 0, .int (nI (s)), .int (x)] (wL z k o) (.inr 2) (wL z k o) := by
  refine AM.of rfl (Nat.le_of_ble_eq_true rfl) (ls := [some (.ref 0), some (.int (nI (s))), some (.int (x))]) rfl ?_
  refine AW.aload_n (pc' := 1) d_C_take_0 rfl rfl rfl ?_
  refine AW.iload_n (pc' := 2) d_C_take_1 rfl rfl rfl ?_
  refine AW.cV (pc' := 5) d_C_take_2 rfl cv_C_114 (by decide) rfl rfl rfl (c_reqSector_ok X z k o s hs (by omega)) rfl rfl rfl rfl rfl rfl rfl ?_
  refine AW.aload_n (pc' := 6) d_C_take_5 rfl rfl rfl ?_
  refine AW.iload_n (pc' := 7) d_C_take_6 rfl rfl rfl ?_
  exact AW.cVx d_C_take_7 cv_C_85 (by decide) rfl rfl rfl (c_reqPerson_no X z k o x hx) rfl rfl rfl rfl rfl rfl rfl ⟨rfl, rfl⟩
theorem c_take_2 (X : ct_X) (z : S_c) (k : S_m) (o : Nat → Int64) (s : Nat) (hs : s < c_ns z) (hn : c_ns z ≤ 20) (p : Nat) (hj : p < c_np z) (hnp : c_np z ≤ 40) (h1 : ¬ c_off z s = nI p) : AF X m_C_take 7 0 0 [.ref 0, .int (nI (s)), .int (nI (p))] (wL z k o) (.inr 3) (wL z k o) := by
  refine AM.of rfl (Nat.le_of_ble_eq_true rfl) (ls := [some (.ref 0), some (.int (nI (s))), some (.int (nI (p)))]) rfl ?_
  refine AW.aload_n (pc' := 1) d_C_take_0 rfl rfl rfl ?_
  refine AW.iload_n (pc' := 2) d_C_take_1 rfl rfl rfl ?_
  refine AW.cV (pc' := 5) d_C_take_2 rfl cv_C_114 (by decide) rfl rfl rfl (c_reqSector_ok X z k o s hs (by omega)) rfl rfl rfl rfl rfl rfl rfl ?_
  refine AW.aload_n (pc' := 6) d_C_take_5 rfl rfl rfl ?_
  refine AW.iload_n (pc' := 7) d_C_take_6 rfl rfl rfl ?_
  refine AW.cV (pc' := 10) d_C_take_7 rfl cv_C_85 (by decide) rfl rfl rfl (c_reqPerson_ok X z k o p hj (by omega)) rfl rfl rfl rfl rfl rfl rfl ?_
  refine AW.aload_n (pc' := 11) d_C_take_10 rfl rfl rfl ?_
  refine AW.getf (pc' := 14) d_C_take_11 rfl fl_C_45 rfl rfl ?_
  refine AW.iload_n (pc' := 15) d_C_take_14 rfl rfl rfl ?_
  refine AW.ialdN (pc' := 16) d_C_take_15 rfl rfl (by omega) (by decide) ?_
  refine AW.iload_n (pc' := 17) d_C_take_16 rfl rfl rfl ?_
  refine AW.icmp_eq (tgt := 30) (pc' := 20) d_C_take_17 (by decide) rfl (fun h => absurd h h1) (fun h17 => ?_)
  exact AW.throwS (x := 3) d_C_take_20 d_C_take_23 d_C_take_24 d_C_take_26 d_C_take_29 cl_C_93 ini_java_lang_IllegalStateException sr_C_158 thr_3 rfl (by decide) rfl rfl rfl ⟨rfl, rfl⟩
theorem c_take_3 (X : ct_X) (z : S_c) (k : S_m) (o : Nat → Int64) (s : Nat) (hs : s < c_ns z) (hn : c_ns z ≤ 20) (p : Nat) (hj : p < c_np z) (hnp : c_np z ≤ 40) (h1 : c_off z s = nI p) (q : Nat) (hq : q < 40) (h2 : c_ldr z s = nI q) (hne : ¬ q = p) (hR : Ring z) : AF X m_C_take 7 0 0 [.ref 0, .int (nI (s)), .int (nI (p))] (wL z k o) (.inl none) (wL (f_set1 (c_sop_ z (upd (c_sop z) p (nI s))) s (some q) (some p)) k o) := by
  refine AM.of rfl (Nat.le_of_ble_eq_true rfl) (ls := [some (.ref 0), some (.int (nI (s))), some (.int (nI (p)))]) rfl ?_
  refine AW.aload_n (pc' := 1) d_C_take_0 rfl rfl rfl ?_
  refine AW.iload_n (pc' := 2) d_C_take_1 rfl rfl rfl ?_
  refine AW.cV (pc' := 5) d_C_take_2 rfl cv_C_114 (by decide) rfl rfl rfl (c_reqSector_ok X z k o s hs (by omega)) rfl rfl rfl rfl rfl rfl rfl ?_
  refine AW.aload_n (pc' := 6) d_C_take_5 rfl rfl rfl ?_
  refine AW.iload_n (pc' := 7) d_C_take_6 rfl rfl rfl ?_
  refine AW.cV (pc' := 10) d_C_take_7 rfl cv_C_85 (by decide) rfl rfl rfl (c_reqPerson_ok X z k o p hj (by omega)) rfl rfl rfl rfl rfl rfl rfl ?_
  refine AW.aload_n (pc' := 11) d_C_take_10 rfl rfl rfl ?_
  refine AW.getf (pc' := 14) d_C_take_11 rfl fl_C_45 rfl rfl ?_
  refine AW.iload_n (pc' := 15) d_C_take_14 rfl rfl rfl ?_
  refine AW.ialdN (pc' := 16) d_C_take_15 rfl rfl (by omega) (by decide) ?_
  refine AW.iload_n (pc' := 17) d_C_take_16 rfl rfl rfl ?_
  refine AW.icmp_eq (tgt := 30) (pc' := 20) d_C_take_17 (by decide) rfl (fun h17 => ?_) (fun h => absurd h1 h)
  refine AW.aload_n (pc' := 31) d_C_take_30 rfl rfl rfl ?_
  refine AW.getf (pc' := 34) d_C_take_31 rfl fl_C_20 rfl rfl ?_
  refine AW.iload_n (pc' := 35) d_C_take_34 rfl rfl rfl ?_
  refine AW.iload_n (pc' := 36) d_C_take_35 rfl rfl rfl ?_
  refine AW.iastN (pc' := 37) (w' := (wL (c_sop_ z (upd (c_sop z) p (nI (s)))) k o)) d_C_take_36 rfl rfl (by omega) (by decide) rfl ?_
  refine AW.aload_n (pc' := 38) d_C_take_37 rfl rfl rfl ?_
  refine AW.iload_n (pc' := 39) d_C_take_38 rfl rfl rfl ?_
  refine AW.iload_n (pc' := 40) d_C_take_39 rfl rfl rfl ?_
  refine AW.cV (pc' := 43) d_C_take_40 rfl cv_C_137 (by decide) rfl rfl rfl (c_set_ss X (c_sop_ z (upd (c_sop z) p (nI s))) k o s q hq p (by omega) hne (by omega) hn h2 hR) rfl rfl rfl rfl rfl rfl rfl ?_
  exact AW.vret d_C_take_43 rfl rfl rfl ⟨rfl, rfl⟩
theorem c_task_0 (X : ct_X) (z : S_c) (k : S_m) (o : Nat → Int64) (x y : Int32) (hx : x < 0 ∨ nI (c_ns z) ≤ x) : AF X m_C_task 7 0 0 [.ref 0, .int (x), .int (y)] (wL z k o) (.inr 2) (wL z k o) := by
  refine AM.of rfl (Nat.le_of_ble_eq_true rfl) (ls := [some (.ref 0), some (.int (x)), some (.int (y))]) rfl ?_
  refine AW.aload_n (pc' := 1) d_C_task_0 rfl rfl rfl ?_
  refine AW.iload_n (pc' := 2) d_C_task_1 rfl rfl rfl ?_
  exact AW.cVx d_C_task_2 cv_C_114 (by decide) rfl rfl rfl (c_reqSector_no X z k o x hx) rfl rfl rfl rfl rfl rfl rfl ⟨rfl, rfl⟩
theorem c_task_1 (X : ct_X) (z : S_c) (k : S_m) (o : Nat → Int64) (s : Nat) (hs : s < c_ns z) (hn : c_ns z ≤ 20) (y : Int32) (hy : y < nI (c_sec z) ∨ nI 99999 < y) : AF X m_C_task 7 0 0 [.ref 0, .int (nI (s)), .int (y)] (wL z k o) (.inr 0) (wL z k o) := by
  refine AM.of rfl (Nat.le_of_ble_eq_true rfl) (ls := [some (.ref 0), some (.int (nI (s))), some (.int (y))]) rfl ?_
  refine AW.aload_n (pc' := 1) d_C_task_0 rfl rfl rfl ?_
  refine AW.iload_n (pc' := 2) d_C_task_1 rfl rfl rfl ?_
  refine AW.cV (pc' := 5) d_C_task_2 rfl cv_C_114 (by decide) rfl rfl rfl (c_reqSector_ok X z k o s hs (by omega)) rfl rfl rfl rfl rfl rfl rfl ?_
  refine AW.iload_n (pc' := 6) d_C_task_5 rfl rfl rfl ?_
  refine AW.aload_n (pc' := 7) d_C_task_6 rfl rfl rfl ?_
  refine AW.getf (pc' := 10) d_C_task_7 rfl fl_C_98 rfl rfl ?_
  refine AW.icmp_lt (tgt := 19) (pc' := 13) d_C_task_10 (by decide) rfl (fun h10 => ?_) (fun h10 => ?_)
  · exact AW.throwS (x := 0) d_C_task_19 d_C_task_22 d_C_task_23 d_C_task_25 d_C_task_28 cl_C_65 ini_java_lang_IndexOutOfBoundsException sr_C_161 thr_0 rfl (by decide) rfl rfl rfl ⟨rfl, rfl⟩
  · refine AW.iload_n (pc' := 14) d_C_task_13 rfl rfl rfl ?_
    refine AW.ldc (pc' := 16) d_C_task_14 rfl cn_C_160 ?_
    refine AW.top (u := .int (nI 99999)) (by decide) ?_
    refine AW.icmp_le (tgt := 29) (pc' := 19) d_C_task_16 (by decide) rfl (fun h => hy.elim (fun q => absurd q h10) (fun q => absurd h (Int32.not_le.mpr q))) (fun h16 => ?_)
    exact AW.throwS (x := 0) d_C_task_19 d_C_task_22 d_C_task_23 d_C_task_25 d_C_task_28 cl_C_65 ini_java_lang_IndexOutOfBoundsException sr_C_161 thr_0 rfl (by decide) rfl rfl rfl ⟨rfl, rfl⟩
theorem c_task_2 (X : ct_X) (z : S_c) (k : S_m) (o : Nat → Int64) (s : Nat) (hs : s < c_ns z) (hn : c_ns z ≤ 20) (t : Nat) (ht : c_sec z ≤ t) (ht2 : t ≤ 99999) (h1 : c_opn z s = 0) : AF X m_C_task 7 0 0 [.ref 0, .int (nI (s)), .int (nI (t))] (wL z k o) (.inr 3) (wL z k o) := by
  refine AM.of rfl (Nat.le_of_ble_eq_true rfl) (ls := [some (.ref 0), some (.int (nI (s))), some (.int (nI (t)))]) rfl ?_
  refine AW.aload_n (pc' := 1) d_C_task_0 rfl rfl rfl ?_
  refine AW.iload_n (pc' := 2) d_C_task_1 rfl rfl rfl ?_
  refine AW.cV (pc' := 5) d_C_task_2 rfl cv_C_114 (by decide) rfl rfl rfl (c_reqSector_ok X z k o s hs (by omega)) rfl rfl rfl rfl rfl rfl rfl ?_
  refine AW.iload_n (pc' := 6) d_C_task_5 rfl rfl rfl ?_
  refine AW.aload_n (pc' := 7) d_C_task_6 rfl rfl rfl ?_
  refine AW.getf (pc' := 10) d_C_task_7 rfl fl_C_98 rfl rfl ?_
  refine AW.icmp_ltN (tgt := 19) (pc' := 13) d_C_task_10 (by decide) rfl (by omega) (by omega) (fun h => absurd h (by omega)) (fun h10 => ?_)
  refine AW.iload_n (pc' := 14) d_C_task_13 rfl rfl rfl ?_
  refine AW.ldc (pc' := 16) d_C_task_14 rfl cn_C_160 ?_
  refine AW.top (u := .int (nI 99999)) (by decide) ?_
  refine AW.icmp_leN (tgt := 29) (pc' := 19) d_C_task_16 (by decide) rfl (by omega) (by omega) (fun h16 => ?_) (fun h => absurd h (by omega))
  refine AW.aload_n (pc' := 30) d_C_task_29 rfl rfl rfl ?_
  refine AW.iload_n (pc' := 31) d_C_task_30 rfl rfl rfl ?_
  exact AW.cVx d_C_task_31 cv_C_119 (by decide) rfl rfl rfl (c_reqOpen_no X z k o s (by omega) h1) rfl rfl rfl rfl rfl rfl rfl ⟨rfl, rfl⟩
theorem c_task_3 (X : ct_X) (z : S_c) (k : S_m) (o : Nat → Int64) (s : Nat) (hs : s < c_ns z) (hn : c_ns z ≤ 20) (t : Nat) (ht : c_sec z ≤ t) (ht2 : t ≤ 99999) (h1 : ¬ c_opn z s = 0) (h2 : t_n z = 60) : AF X m_C_task 7 0 0 [.ref 0, .int (nI (s)), .int (nI (t))] (wL z k o) (.inr 1) (wL z k o) := by
  refine AM.of rfl (Nat.le_of_ble_eq_true rfl) (ls := [some (.ref 0), some (.int (nI (s))), some (.int (nI (t)))]) rfl ?_
  refine AW.aload_n (pc' := 1) d_C_task_0 rfl rfl rfl ?_
  refine AW.iload_n (pc' := 2) d_C_task_1 rfl rfl rfl ?_
  refine AW.cV (pc' := 5) d_C_task_2 rfl cv_C_114 (by decide) rfl rfl rfl (c_reqSector_ok X z k o s hs (by omega)) rfl rfl rfl rfl rfl rfl rfl ?_
  refine AW.iload_n (pc' := 6) d_C_task_5 rfl rfl rfl ?_
  refine AW.aload_n (pc' := 7) d_C_task_6 rfl rfl rfl ?_
  refine AW.getf (pc' := 10) d_C_task_7 rfl fl_C_98 rfl rfl ?_
  refine AW.icmp_ltN (tgt := 19) (pc' := 13) d_C_task_10 (by decide) rfl (by omega) (by omega) (fun h => absurd h (by omega)) (fun h10 => ?_)
  refine AW.iload_n (pc' := 14) d_C_task_13 rfl rfl rfl ?_
  refine AW.ldc (pc' := 16) d_C_task_14 rfl cn_C_160 ?_
  refine AW.top (u := .int (nI 99999)) (by decide) ?_
  refine AW.icmp_leN (tgt := 29) (pc' := 19) d_C_task_16 (by decide) rfl (by omega) (by omega) (fun h16 => ?_) (fun h => absurd h (by omega))
  refine AW.aload_n (pc' := 30) d_C_task_29 rfl rfl rfl ?_
  refine AW.iload_n (pc' := 31) d_C_task_30 rfl rfl rfl ?_
  refine AW.cV (pc' := 34) d_C_task_31 rfl cv_C_119 (by decide) rfl rfl rfl (c_reqOpen_ok X z k o s (by omega) h1) rfl rfl rfl rfl rfl rfl rfl ?_
  refine AW.aload_n (pc' := 35) d_C_task_34 rfl rfl rfl ?_
  refine AW.getf (pc' := 38) d_C_task_35 rfl fl_C_54 rfl rfl ?_
  refine AW.cV (pc' := 41) d_C_task_38 rfl cv_C_163 (by decide) rfl rfl rfl (c_isFull_t X z k o (by omega) (by omega)) rfl rfl rfl rfl rfl rfl rfl ?_
  refine AW.if_eq (tgt := 54) (pc' := 44) d_C_task_41 (by decide) rfl (fun h => absurd h (by decide)) (fun _ => ?_)
  exact AW.throwS (x := 1) d_C_task_44 d_C_task_47 d_C_task_48 d_C_task_50 d_C_task_53 cl_C_75 ini_java_lang_UnsupportedOperationException sr_C_167 thr_1 rfl (by decide) rfl rfl rfl ⟨rfl, rfl⟩
theorem c_task_4 (X : ct_X) (z : S_c) (k : S_m) (o : Nat → Int64) (s : Nat) (hs : s < c_ns z) (hn : c_ns z ≤ 20) (t : Nat) (ht : c_sec z ≤ t) (ht2 : t ≤ 99999) (h1 : ¬ c_opn z s = 0) (h2 : t_n z < 60) : AF X m_C_task 7 0 0 [.ref 0, .int (nI (s)), .int (nI (t))] (wL z k o) (.inl (some (.int (nI (t_n z))))) (wL (t_n_ (t_unt_ (t_sec_ z (upd (t_sec z) (t_n z) (nI s))) (upd (t_unt z) (t_n z) (nI t))) (t_n z + 1)) k o) := by
  refine AM.of rfl (Nat.le_of_ble_eq_true rfl) (ls := [some (.ref 0), some (.int (nI (s))), some (.int (nI (t)))]) rfl ?_
  refine AW.aload_n (pc' := 1) d_C_task_0 rfl rfl rfl ?_
  refine AW.iload_n (pc' := 2) d_C_task_1 rfl rfl rfl ?_
  refine AW.cV (pc' := 5) d_C_task_2 rfl cv_C_114 (by decide) rfl rfl rfl (c_reqSector_ok X z k o s hs (by omega)) rfl rfl rfl rfl rfl rfl rfl ?_
  refine AW.iload_n (pc' := 6) d_C_task_5 rfl rfl rfl ?_
  refine AW.aload_n (pc' := 7) d_C_task_6 rfl rfl rfl ?_
  refine AW.getf (pc' := 10) d_C_task_7 rfl fl_C_98 rfl rfl ?_
  refine AW.icmp_ltN (tgt := 19) (pc' := 13) d_C_task_10 (by decide) rfl (by omega) (by omega) (fun h => absurd h (by omega)) (fun h10 => ?_)
  refine AW.iload_n (pc' := 14) d_C_task_13 rfl rfl rfl ?_
  refine AW.ldc (pc' := 16) d_C_task_14 rfl cn_C_160 ?_
  refine AW.top (u := .int (nI 99999)) (by decide) ?_
  refine AW.icmp_leN (tgt := 29) (pc' := 19) d_C_task_16 (by decide) rfl (by omega) (by omega) (fun h16 => ?_) (fun h => absurd h (by omega))
  refine AW.aload_n (pc' := 30) d_C_task_29 rfl rfl rfl ?_
  refine AW.iload_n (pc' := 31) d_C_task_30 rfl rfl rfl ?_
  refine AW.cV (pc' := 34) d_C_task_31 rfl cv_C_119 (by decide) rfl rfl rfl (c_reqOpen_ok X z k o s (by omega) h1) rfl rfl rfl rfl rfl rfl rfl ?_
  refine AW.aload_n (pc' := 35) d_C_task_34 rfl rfl rfl ?_
  refine AW.getf (pc' := 38) d_C_task_35 rfl fl_C_54 rfl rfl ?_
  refine AW.cV (pc' := 41) d_C_task_38 rfl cv_C_163 (by decide) rfl rfl rfl (c_isFull_f X z k o h2) rfl rfl rfl rfl rfl rfl rfl ?_
  refine AW.if_eq (tgt := 54) (pc' := 44) d_C_task_41 (by decide) rfl (fun _ => ?_) (fun h => absurd h (by decide))
  refine AW.aload_n (pc' := 55) d_C_task_54 rfl rfl rfl ?_
  refine AW.getf (pc' := 58) d_C_task_55 rfl fl_C_54 rfl rfl ?_
  refine AW.iload_n (pc' := 59) d_C_task_58 rfl rfl rfl ?_
  refine AW.iload_n (pc' := 60) d_C_task_59 rfl rfl rfl ?_
  refine AW.cV (pc' := 63) d_C_task_60 rfl cv_C_169 (by decide) rfl rfl rfl (c_add X z k o (nI s) (nI t) h2) rfl rfl rfl rfl rfl rfl rfl ?_
  exact AW.iret d_C_task_63 rfl rfl rfl ⟨rfl, rfl⟩
theorem c_answer_0 (X : ct_X) (z : S_c) (k : S_m) (o : Nat → Int64) (x y : Int32) (hx : x < 0 ∨ nI (t_n z) ≤ x) : AF X m_C_answer 7 0 0 [.ref 0, .int (x), .int (y)] (wL z k o) (.inr 2) (wL z k o) := by
  refine AM.of rfl (Nat.le_of_ble_eq_true rfl) (ls := [some (.ref 0), some (.int (x)), some (.int (y))]) rfl ?_
  refine AW.aload_n (pc' := 1) d_C_answer_0 rfl rfl rfl ?_
  refine AW.iload_n (pc' := 2) d_C_answer_1 rfl rfl rfl ?_
  exact AW.cVx d_C_answer_2 cv_C_173 (by decide) rfl rfl rfl (c_reqTask_no X z k o x hx) rfl rfl rfl rfl rfl rfl rfl ⟨rfl, rfl⟩
theorem c_answer_1 (X : ct_X) (z : S_c) (k : S_m) (o : Nat → Int64) (t : Nat) (ht : t < t_n z) (htn : t_n z ≤ 60) (y : Int32) (h1 : ¬ t_rep z t = 0) : AF X m_C_answer 7 0 0 [.ref 0, .int (nI (t)), .int (y)] (wL z k o) (.inr 3) (wL z k o) := by
  refine AM.of rfl (Nat.le_of_ble_eq_true rfl) (ls := [some (.ref 0), some (.int (nI (t))), some (.int (y))]) rfl ?_
  refine AW.aload_n (pc' := 1) d_C_answer_0 rfl rfl rfl ?_
  refine AW.iload_n (pc' := 2) d_C_answer_1 rfl rfl rfl ?_
  refine AW.cV (pc' := 5) d_C_answer_2 rfl cv_C_173 (by decide) rfl rfl rfl (c_reqTask_ok X z k o t ht (by omega)) rfl rfl rfl rfl rfl rfl rfl ?_
  refine AW.aload_n (pc' := 6) d_C_answer_5 rfl rfl rfl ?_
  refine AW.getf (pc' := 9) d_C_answer_6 rfl fl_C_54 rfl rfl ?_
  refine AW.iload_n (pc' := 10) d_C_answer_9 rfl rfl rfl ?_
  refine AW.cV (pc' := 13) d_C_answer_10 rfl cv_C_176 (by decide) rfl rfl rfl (c_isAnswered_t X z k o t (by omega) h1) rfl rfl rfl rfl rfl rfl rfl ?_
  refine AW.if_eq (tgt := 26) (pc' := 16) d_C_answer_13 (by decide) rfl (fun h => absurd h (by decide)) (fun _ => ?_)
  exact AW.throwS (x := 3) d_C_answer_16 d_C_answer_19 d_C_answer_20 d_C_answer_22 d_C_answer_25 cl_C_93 ini_java_lang_IllegalStateException sr_C_179 thr_3 rfl (by decide) rfl rfl rfl ⟨rfl, rfl⟩
theorem c_answer_2t (X : ct_X) (z : S_c) (k : S_m) (o : Nat → Int64) (t : Nat) (ht : t < t_n z) (htn : t_n z ≤ 60) (h1 : t_rep z t = 0) : AF X m_C_answer 7 0 0 [.ref 0, .int (nI (t)), .int (nI (1))] (wL z k o) (.inl none) (wL (t_at_ (t_rep_ z (upd (t_rep z) t (nI 1))) (upd (t_at z) t (nI (c_sec z)))) k o) := by
  refine AM.of rfl (Nat.le_of_ble_eq_true rfl) (ls := [some (.ref 0), some (.int (nI (t))), some (.int (nI (1)))]) rfl ?_
  refine AW.aload_n (pc' := 1) d_C_answer_0 rfl rfl rfl ?_
  refine AW.iload_n (pc' := 2) d_C_answer_1 rfl rfl rfl ?_
  refine AW.cV (pc' := 5) d_C_answer_2 rfl cv_C_173 (by decide) rfl rfl rfl (c_reqTask_ok X z k o t ht (by omega)) rfl rfl rfl rfl rfl rfl rfl ?_
  refine AW.aload_n (pc' := 6) d_C_answer_5 rfl rfl rfl ?_
  refine AW.getf (pc' := 9) d_C_answer_6 rfl fl_C_54 rfl rfl ?_
  refine AW.iload_n (pc' := 10) d_C_answer_9 rfl rfl rfl ?_
  refine AW.cV (pc' := 13) d_C_answer_10 rfl cv_C_176 (by decide) rfl rfl rfl (c_isAnswered_f X z k o t (by omega) h1) rfl rfl rfl rfl rfl rfl rfl ?_
  refine AW.if_eq (tgt := 26) (pc' := 16) d_C_answer_13 (by decide) rfl (fun _ => ?_) (fun h => absurd h (by decide))
  refine AW.aload_n (pc' := 27) d_C_answer_26 rfl rfl rfl ?_
  refine AW.getf (pc' := 30) d_C_answer_27 rfl fl_C_54 rfl rfl ?_
  refine AW.iload_n (pc' := 31) d_C_answer_30 rfl rfl rfl ?_
  refine AW.iload_n (pc' := 32) d_C_answer_31 rfl rfl rfl ?_
  refine AW.aload_n (pc' := 33) d_C_answer_32 rfl rfl rfl ?_
  refine AW.getf (pc' := 36) d_C_answer_33 rfl fl_C_98 rfl rfl ?_
  refine AW.cV (pc' := 39) d_C_answer_36 rfl cv_C_181 (by decide) rfl rfl rfl (c_setAnswer_t X z k o t (c_sec z) (by omega)) rfl rfl rfl rfl rfl rfl rfl ?_
  exact AW.vret d_C_answer_39 rfl rfl rfl ⟨rfl, rfl⟩
theorem c_answer_2f (X : ct_X) (z : S_c) (k : S_m) (o : Nat → Int64) (t : Nat) (ht : t < t_n z) (htn : t_n z ≤ 60) (h1 : t_rep z t = 0) : AF X m_C_answer 7 0 0 [.ref 0, .int (nI (t)), .int (nI (0))] (wL z k o) (.inl none) (wL (t_at_ (t_rep_ z (upd (t_rep z) t (nI 2))) (upd (t_at z) t (nI (c_sec z)))) k o) := by
  refine AM.of rfl (Nat.le_of_ble_eq_true rfl) (ls := [some (.ref 0), some (.int (nI (t))), some (.int (nI (0)))]) rfl ?_
  refine AW.aload_n (pc' := 1) d_C_answer_0 rfl rfl rfl ?_
  refine AW.iload_n (pc' := 2) d_C_answer_1 rfl rfl rfl ?_
  refine AW.cV (pc' := 5) d_C_answer_2 rfl cv_C_173 (by decide) rfl rfl rfl (c_reqTask_ok X z k o t ht (by omega)) rfl rfl rfl rfl rfl rfl rfl ?_
  refine AW.aload_n (pc' := 6) d_C_answer_5 rfl rfl rfl ?_
  refine AW.getf (pc' := 9) d_C_answer_6 rfl fl_C_54 rfl rfl ?_
  refine AW.iload_n (pc' := 10) d_C_answer_9 rfl rfl rfl ?_
  refine AW.cV (pc' := 13) d_C_answer_10 rfl cv_C_176 (by decide) rfl rfl rfl (c_isAnswered_f X z k o t (by omega) h1) rfl rfl rfl rfl rfl rfl rfl ?_
  refine AW.if_eq (tgt := 26) (pc' := 16) d_C_answer_13 (by decide) rfl (fun _ => ?_) (fun h => absurd h (by decide))
  refine AW.aload_n (pc' := 27) d_C_answer_26 rfl rfl rfl ?_
  refine AW.getf (pc' := 30) d_C_answer_27 rfl fl_C_54 rfl rfl ?_
  refine AW.iload_n (pc' := 31) d_C_answer_30 rfl rfl rfl ?_
  refine AW.iload_n (pc' := 32) d_C_answer_31 rfl rfl rfl ?_
  refine AW.aload_n (pc' := 33) d_C_answer_32 rfl rfl rfl ?_
  refine AW.getf (pc' := 36) d_C_answer_33 rfl fl_C_98 rfl rfl ?_
  refine AW.cV (pc' := 39) d_C_answer_36 rfl cv_C_181 (by decide) rfl rfl rfl (c_setAnswer_f X z k o t (c_sec z) (by omega)) rfl rfl rfl rfl rfl rfl rfl ?_
  exact AW.vret d_C_answer_39 rfl rfl rfl ⟨rfl, rfl⟩
theorem c_span_0 (X : ct_X) (z : S_c) (k : S_m) (o : Nat → Int64) (x : Int32) (hx : x < nI 1 ∨ nI 20 < x) : AF X m_C_span 7 0 0 [.ref 0, .int (x)] (wL z k o) (.inr 0) (wL z k o) := by
  refine AM.of rfl (Nat.le_of_ble_eq_true rfl) (ls := [some (.ref 0), some (.int (x)), none, none]) rfl ?_
  refine AW.iload_n (pc' := 1) d_C_span_0 rfl rfl rfl ?_
  refine AW.iconst (pc' := 2) (v := nI 1) d_C_span_1 rfl (by decide) ?_
  refine AW.icmp_lt (tgt := 11) (pc' := 5) d_C_span_2 (by decide) rfl (fun h2 => ?_) (fun h2 => ?_)
  · exact AW.throwS (x := 0) d_C_span_11 d_C_span_14 d_C_span_15 d_C_span_17 d_C_span_20 cl_C_65 ini_java_lang_IndexOutOfBoundsException sr_C_185 thr_0 rfl (by decide) rfl rfl rfl ⟨rfl, rfl⟩
  · refine AW.iload_n (pc' := 6) d_C_span_5 rfl rfl rfl ?_
    refine AW.bipush (pc' := 8) (v := nI 20) d_C_span_6 rfl (by decide) ?_
    refine AW.icmp_le (tgt := 21) (pc' := 11) d_C_span_8 (by decide) rfl (fun h => hx.elim (fun q => absurd q h2) (fun q => absurd h (Int32.not_le.mpr q))) (fun h8 => ?_)
    exact AW.throwS (x := 0) d_C_span_11 d_C_span_14 d_C_span_15 d_C_span_17 d_C_span_20 cl_C_65 ini_java_lang_IndexOutOfBoundsException sr_C_185 thr_0 rfl (by decide) rfl rfl rfl ⟨rfl, rfl⟩
theorem lp_span (X : ct_X) (z : S_c) (k : S_m) (o : Nat → Int64) (x : Int32) (hn : c_ns z ≤ 20) (hu : c_nu z ≤ 20) (hm : c_most z ≤ 20) : ∀ (n i : Nat), i + n = c_ns z → AW X m_C_span 7 0 0 0 0 30 [some (.ref 0), some (.int (x)), some (.int (nI (cntB (passB z) i))), some (.int (nI (i)))] [] (wL z k o) (fun r w' => r = .inl (some (.int (nI (cntB (passB z) (c_ns z))))) ∧ w' = wL z k o) := by
  intro n
  induction n with
  | zero =>
    intro i hi
    have e : i = c_ns z := by omega
    subst e
    refine AW.iload_n (pc' := 31) d_C_span_30 rfl rfl rfl ?_
    refine AW.aload_n (pc' := 32) d_C_span_31 rfl rfl rfl ?_
    refine AW.getf (pc' := 35) d_C_span_32 rfl fl_C_48 rfl rfl ?_
    refine AW.icmp_geN (tgt := 55) (pc' := 38) d_C_span_35 (by decide) rfl (by omega) (by omega) (fun h35 => ?_) (fun h => absurd h (by omega))
    refine AW.iload_n (pc' := 56) d_C_span_55 rfl rfl rfl ?_
    exact AW.iret d_C_span_56 rfl rfl rfl ⟨rfl, rfl⟩
  | succ n ih =>
    intro i hi
    refine AW.iload_n (pc' := 31) d_C_span_30 rfl rfl rfl ?_
    refine AW.aload_n (pc' := 32) d_C_span_31 rfl rfl rfl ?_
    refine AW.getf (pc' := 35) d_C_span_32 rfl fl_C_48 rfl rfl ?_
    refine AW.icmp_geN (tgt := 55) (pc' := 38) d_C_span_35 (by decide) rfl (by omega) (by omega) (fun h => absurd h (by omega)) (fun h35 => ?_)
    refine AW.aload_n (pc' := 39) d_C_span_38 rfl rfl rfl ?_
    refine AW.iload_n (pc' := 40) d_C_span_39 rfl rfl rfl ?_
    by_cases hb : passB z i = true
    · refine AW.cV (pc' := 43) d_C_span_40 rfl cv_C_187 (by decide) rfl rfl rfl (c_isPassed_t X z k o i (by omega) hn hu hm hb) rfl rfl rfl rfl rfl rfl rfl ?_
      refine AW.if_eq (tgt := 49) (pc' := 46) d_C_span_43 (by decide) rfl (fun h => absurd h (by decide)) (fun _ => ?_)
      refine AW.iincN (pc' := 49) (ls' := [some (.ref 0), some (.int (x)), some (.int (nI ((cntB (passB z) i) + 1))), some (.int (nI (i)))]) d_C_span_46 rfl rfl rfl rfl ?_
      refine AW.iincN (pc' := 52) (ls' := [some (.ref 0), some (.int (x)), some (.int (nI ((cntB (passB z) i) + 1))), some (.int (nI (i + 1)))]) d_C_span_49 rfl rfl rfl rfl ?_
      refine AW.goto (tgt := 30) d_C_span_52 (by decide) ?_
      have h9 := ih (i + 1) (by omega)
      rw [cntB_t (show (passB z) i = true from by simp [hb, hb])] at h9
      exact h9
    · refine AW.cV (pc' := 43) d_C_span_40 rfl cv_C_187 (by decide) rfl rfl rfl (c_isPassed_f X z k o i (by omega) hn hu hm (by simpa using hb)) rfl rfl rfl rfl rfl rfl rfl ?_
      refine AW.if_eq (tgt := 49) (pc' := 46) d_C_span_43 (by decide) rfl (fun _ => ?_) (fun h => absurd h (by decide))
      refine AW.iincN (pc' := 52) (ls' := [some (.ref 0), some (.int (x)), some (.int (nI (cntB (passB z) i))), some (.int (nI (i + 1)))]) d_C_span_49 rfl rfl rfl rfl ?_
      refine AW.goto (tgt := 30) d_C_span_52 (by decide) ?_
      have h9 := ih (i + 1) (by omega)
      rw [cntB_f (show (passB z) i = false from by simp [hb, hb])] at h9
      exact h9
theorem c_span_1 (X : ct_X) (z : S_c) (k : S_m) (o : Nat → Int64) (m : Nat) (hm1 : 1 ≤ m) (hm2 : m ≤ 20) (hn : c_ns z ≤ 20) (hu : c_nu z ≤ 20) : AF X m_C_span 7 0 0 [.ref 0, .int (nI (m))] (wL z k o) (.inl (some (.int (nI (cntB (passB (c_most_ z m)) (c_ns z)))))) (wL (c_most_ z m) k o) := by
  refine AM.of rfl (Nat.le_of_ble_eq_true rfl) (ls := [some (.ref 0), some (.int (nI (m))), none, none]) rfl ?_
  refine AW.iload_n (pc' := 1) d_C_span_0 rfl rfl rfl ?_
  refine AW.iconst (pc' := 2) (v := nI 1) d_C_span_1 rfl (by decide) ?_
  refine AW.icmp_ltN (tgt := 11) (pc' := 5) d_C_span_2 (by decide) rfl (by omega) (by omega) (fun h => absurd h (by omega)) (fun h2 => ?_)
  refine AW.iload_n (pc' := 6) d_C_span_5 rfl rfl rfl ?_
  refine AW.bipush (pc' := 8) (v := nI 20) d_C_span_6 rfl (by decide) ?_
  refine AW.icmp_leN (tgt := 21) (pc' := 11) d_C_span_8 (by decide) rfl (by omega) (by omega) (fun h8 => ?_) (fun h => absurd h (by omega))
  refine AW.aload_n (pc' := 22) d_C_span_21 rfl rfl rfl ?_
  refine AW.iload_n (pc' := 23) d_C_span_22 rfl rfl rfl ?_
  refine AW.putf (pc' := 26) (w' := (wL (c_most_ z (m)) k o)) d_C_span_23 rfl fp_C_9 rfl rfl (fun _ => ⟨rfl, rfl⟩) rfl rfl ?_
  refine AW.iconst (pc' := 27) (v := nI 0) d_C_span_26 rfl (by decide) ?_
  refine AW.istore_n (pc' := 28) (ls' := [some (.ref 0), some (.int (nI (m))), some (.int (nI (0))), none]) d_C_span_27 rfl rfl rfl rfl ?_
  refine AW.iconst (pc' := 29) (v := nI 0) d_C_span_28 rfl (by decide) ?_
  refine AW.istore_n (pc' := 30) (ls' := [some (.ref 0), some (.int (nI (m))), some (.int (nI (0))), some (.int (nI (0)))]) d_C_span_29 rfl rfl rfl rfl ?_
  exact lp_span X (c_most_ z m) k o (nI m) hn hu hm2 (c_ns z) 0 (by show 0 + c_ns z = c_ns z; omega)
theorem c_tick_0 (X : ct_X) (z : S_c) (k : S_m) (o : Nat → Int64) (x : Int32) (hc : c_sec z ≤ 99999) (hx : x < nI 1 ∨ nI 5000 < x ∨ nI (99999 - c_sec z) < x) : AF X m_C_tick 7 0 0 [.ref 0, .int (x)] (wL z k o) (.inr 0) (wL z k o) := by
  refine AM.of rfl (Nat.le_of_ble_eq_true rfl) (ls := [some (.ref 0), some (.int (x)), none]) rfl ?_
  refine AW.iload_n (pc' := 1) d_C_tick_0 rfl rfl rfl ?_
  refine AW.iconst (pc' := 2) (v := nI 1) d_C_tick_1 rfl (by decide) ?_
  refine AW.icmp_lt (tgt := 23) (pc' := 5) d_C_tick_2 (by decide) rfl (fun h2 => ?_) (fun h2 => ?_)
  · exact AW.throwS (x := 0) d_C_tick_23 d_C_tick_26 d_C_tick_27 d_C_tick_29 d_C_tick_32 cl_C_65 ini_java_lang_IndexOutOfBoundsException sr_C_190 thr_0 rfl (by decide) rfl rfl rfl ⟨rfl, rfl⟩
  · refine AW.iload_n (pc' := 6) d_C_tick_5 rfl rfl rfl ?_
    refine AW.sipush (pc' := 9) (v := nI 5000) d_C_tick_6 rfl (by decide) ?_
    refine AW.icmp_gt (tgt := 23) (pc' := 12) d_C_tick_9 (by decide) rfl (fun h9 => ?_) (fun h9 => ?_)
    · exact AW.throwS (x := 0) d_C_tick_23 d_C_tick_26 d_C_tick_27 d_C_tick_29 d_C_tick_32 cl_C_65 ini_java_lang_IndexOutOfBoundsException sr_C_190 thr_0 rfl (by decide) rfl rfl rfl ⟨rfl, rfl⟩
    · refine AW.iload_n (pc' := 13) d_C_tick_12 rfl rfl rfl ?_
      refine AW.ldc (pc' := 15) d_C_tick_13 rfl cn_C_160 ?_
      refine AW.top (u := .int (nI 99999)) (by decide) ?_
      refine AW.aload_n (pc' := 16) d_C_tick_15 rfl rfl rfl ?_
      refine AW.getf (pc' := 19) d_C_tick_16 rfl fl_C_98 rfl rfl ?_
      refine AW.isubN (pc' := 20) d_C_tick_19 rfl (by omega) ?_
      refine AW.icmp_le (tgt := 33) (pc' := 23) d_C_tick_20 (by decide) rfl (fun h => hx.elim (fun q => absurd q h2) (fun q => q.elim (fun q => absurd q h9) (fun q => absurd h (Int32.not_le.mpr q)))) (fun h20 => ?_)
      exact AW.throwS (x := 0) d_C_tick_23 d_C_tick_26 d_C_tick_27 d_C_tick_29 d_C_tick_32 cl_C_65 ini_java_lang_IndexOutOfBoundsException sr_C_190 thr_0 rfl (by decide) rfl rfl rfl ⟨rfl, rfl⟩
theorem c_tick_1 (X : ct_X) (z : S_c) (k : S_m) (o : Nat → Int64) (n : Nat) (hc : c_sec z ≤ 99999) (h1 : 1 ≤ n) (h2 : n ≤ 5000) (h3 : n ≤ 99999 - c_sec z) (htn : t_n z ≤ 60) : AF X m_C_tick 7 0 0 [.ref 0, .int (nI (n))] (wL z k o) (.inl (some (.int (nI (cntB (overB z (c_sec z) (c_sec z + n)) (t_n z)))))) (wL (c_sec_ z (c_sec z + n)) k o) := by
  refine AM.of rfl (Nat.le_of_ble_eq_true rfl) (ls := [some (.ref 0), some (.int (nI (n))), none]) rfl ?_
  refine AW.iload_n (pc' := 1) d_C_tick_0 rfl rfl rfl ?_
  refine AW.iconst (pc' := 2) (v := nI 1) d_C_tick_1 rfl (by decide) ?_
  refine AW.icmp_ltN (tgt := 23) (pc' := 5) d_C_tick_2 (by decide) rfl (by omega) (by omega) (fun h => absurd h (by omega)) (fun h2 => ?_)
  refine AW.iload_n (pc' := 6) d_C_tick_5 rfl rfl rfl ?_
  refine AW.sipush (pc' := 9) (v := nI 5000) d_C_tick_6 rfl (by decide) ?_
  refine AW.icmp_gtN (tgt := 23) (pc' := 12) d_C_tick_9 (by decide) rfl (by omega) (by omega) (fun h => absurd h (by omega)) (fun h9 => ?_)
  refine AW.iload_n (pc' := 13) d_C_tick_12 rfl rfl rfl ?_
  refine AW.ldc (pc' := 15) d_C_tick_13 rfl cn_C_160 ?_
  refine AW.top (u := .int (nI 99999)) (by decide) ?_
  refine AW.aload_n (pc' := 16) d_C_tick_15 rfl rfl rfl ?_
  refine AW.getf (pc' := 19) d_C_tick_16 rfl fl_C_98 rfl rfl ?_
  refine AW.isubN (pc' := 20) d_C_tick_19 rfl (by omega) ?_
  refine AW.icmp_leN (tgt := 33) (pc' := 23) d_C_tick_20 (by decide) rfl (by omega) (by omega) (fun h20 => ?_) (fun h => absurd h (by omega))
  refine AW.aload_n (pc' := 34) d_C_tick_33 rfl rfl rfl ?_
  refine AW.getf (pc' := 37) d_C_tick_34 rfl fl_C_98 rfl rfl ?_
  refine AW.istore_n (pc' := 38) (ls' := [some (.ref 0), some (.int (nI (n))), some (.int (nI (c_sec z)))]) d_C_tick_37 rfl rfl rfl rfl ?_
  refine AW.aload_n (pc' := 39) d_C_tick_38 rfl rfl rfl ?_
  refine AW.iload_n (pc' := 40) d_C_tick_39 rfl rfl rfl ?_
  refine AW.iload_n (pc' := 41) d_C_tick_40 rfl rfl rfl ?_
  refine AW.iaddN (pc' := 42) d_C_tick_41 rfl ?_
  refine AW.putf (pc' := 45) (w' := (wL (c_sec_ z ((c_sec z) + n)) k o)) d_C_tick_42 rfl fp_C_98 rfl rfl (fun _ => ⟨rfl, rfl⟩) rfl rfl ?_
  refine AW.aload_n (pc' := 46) d_C_tick_45 rfl rfl rfl ?_
  refine AW.getf (pc' := 49) d_C_tick_46 rfl fl_C_54 rfl rfl ?_
  refine AW.iload_n (pc' := 50) d_C_tick_49 rfl rfl rfl ?_
  refine AW.aload_n (pc' := 51) d_C_tick_50 rfl rfl rfl ?_
  refine AW.getf (pc' := 54) d_C_tick_51 rfl fl_C_98 rfl rfl ?_
  refine AW.top (u := .int (nI ((c_sec z) + n))) rfl ?_
  refine AW.cV (pc' := 57) d_C_tick_54 rfl cv_C_192 (by decide) rfl rfl rfl (c_over X (c_sec_ z ((c_sec z) + n)) k o (c_sec z) (c_sec z + n) htn) rfl rfl rfl rfl rfl rfl rfl ?_
  exact AW.iret d_C_tick_57 rfl rfl rfl ⟨rfl, rfl⟩
theorem c_led_0 (X : ct_X) (z : S_c) (k : S_m) (o : Nat → Int64) (x y : Int32) (hx : x < 0 ∨ nI (c_ns z) ≤ x) : AF X m_C_led 7 0 0 [.ref 0, .int (x), .int (y)] (wL z k o) (.inr 2) (wL z k o) := by
  refine AM.of rfl (Nat.le_of_ble_eq_true rfl) (ls := [some (.ref 0), some (.int (x)), some (.int (y))]) rfl ?_
  refine AW.aload_n (pc' := 1) d_C_led_0 rfl rfl rfl ?_
  refine AW.iload_n (pc' := 2) d_C_led_1 rfl rfl rfl ?_
  exact AW.cVx d_C_led_2 cv_C_114 (by decide) rfl rfl rfl (c_reqSector_no X z k o x hx) rfl rfl rfl rfl rfl rfl rfl ⟨rfl, rfl⟩
theorem c_led_1 (X : ct_X) (z : S_c) (k : S_m) (o : Nat → Int64) (s : Nat) (hs : s < c_ns z) (hn : c_ns z ≤ 20) (y : Int32) (hy : y < 0 ∨ nI (c_sec z) < y) : AF X m_C_led 7 0 0 [.ref 0, .int (nI (s)), .int (y)] (wL z k o) (.inr 0) (wL z k o) := by
  refine AM.of rfl (Nat.le_of_ble_eq_true rfl) (ls := [some (.ref 0), some (.int (nI (s))), some (.int (y))]) rfl ?_
  refine AW.aload_n (pc' := 1) d_C_led_0 rfl rfl rfl ?_
  refine AW.iload_n (pc' := 2) d_C_led_1 rfl rfl rfl ?_
  refine AW.cV (pc' := 5) d_C_led_2 rfl cv_C_114 (by decide) rfl rfl rfl (c_reqSector_ok X z k o s hs (by omega)) rfl rfl rfl rfl rfl rfl rfl ?_
  refine AW.iload_n (pc' := 6) d_C_led_5 rfl rfl rfl ?_
  refine AW.if_lt (tgt := 17) (pc' := 9) d_C_led_6 (by decide) rfl (fun h6 => ?_) (fun h6 => ?_)
  · exact AW.throwS (x := 0) d_C_led_17 d_C_led_20 d_C_led_21 d_C_led_23 d_C_led_26 cl_C_65 ini_java_lang_IndexOutOfBoundsException sr_C_195 thr_0 rfl (by decide) rfl rfl rfl ⟨rfl, rfl⟩
  · refine AW.iload_n (pc' := 10) d_C_led_9 rfl rfl rfl ?_
    refine AW.aload_n (pc' := 11) d_C_led_10 rfl rfl rfl ?_
    refine AW.getf (pc' := 14) d_C_led_11 rfl fl_C_98 rfl rfl ?_
    refine AW.icmp_le (tgt := 27) (pc' := 17) d_C_led_14 (by decide) rfl (fun h => hy.elim (fun q => absurd q h6) (fun q => absurd h (Int32.not_le.mpr q))) (fun h14 => ?_)
    exact AW.throwS (x := 0) d_C_led_17 d_C_led_20 d_C_led_21 d_C_led_23 d_C_led_26 cl_C_65 ini_java_lang_IndexOutOfBoundsException sr_C_195 thr_0 rfl (by decide) rfl rfl rfl ⟨rfl, rfl⟩
theorem c_led_2 (X : ct_X) (z : S_c) (k : S_m) (o : Nat → Int64) (s : Nat) (hs : s < c_ns z) (hn : c_ns z ≤ 20) (t : Nat) (ht : t ≤ c_sec z) (hc : c_sec z ≤ 99999) (h1 : t < r_drop z) (h2 : r_drop z < 2 ^ 31) : AF X m_C_led 7 0 0 [.ref 0, .int (nI (s)), .int (nI (t))] (wL z k o) (.inr 1) (wL z k o) := by
  refine AM.of rfl (Nat.le_of_ble_eq_true rfl) (ls := [some (.ref 0), some (.int (nI (s))), some (.int (nI (t)))]) rfl ?_
  refine AW.aload_n (pc' := 1) d_C_led_0 rfl rfl rfl ?_
  refine AW.iload_n (pc' := 2) d_C_led_1 rfl rfl rfl ?_
  refine AW.cV (pc' := 5) d_C_led_2 rfl cv_C_114 (by decide) rfl rfl rfl (c_reqSector_ok X z k o s hs (by omega)) rfl rfl rfl rfl rfl rfl rfl ?_
  refine AW.iload_n (pc' := 6) d_C_led_5 rfl rfl rfl ?_
  refine AW.if_lt (tgt := 17) (pc' := 9) d_C_led_6 (by decide) rfl (fun h => absurd h (nI_pos (by omega))) (fun _ => ?_)
  refine AW.iload_n (pc' := 10) d_C_led_9 rfl rfl rfl ?_
  refine AW.aload_n (pc' := 11) d_C_led_10 rfl rfl rfl ?_
  refine AW.getf (pc' := 14) d_C_led_11 rfl fl_C_98 rfl rfl ?_
  refine AW.icmp_leN (tgt := 27) (pc' := 17) d_C_led_14 (by decide) rfl (by omega) (by omega) (fun h14 => ?_) (fun h => absurd h (by omega))
  refine AW.aload_n (pc' := 28) d_C_led_27 rfl rfl rfl ?_
  refine AW.getf (pc' := 31) d_C_led_28 rfl fl_C_61 rfl rfl ?_
  refine AW.iload_n (pc' := 32) d_C_led_31 rfl rfl rfl ?_
  refine AW.cV (pc' := 35) d_C_led_32 rfl cv_C_197 (by decide) rfl rfl rfl (c_reach_f X z k o t h2 h1) rfl rfl rfl rfl rfl rfl rfl ?_
  refine AW.if_ne (tgt := 48) (pc' := 38) d_C_led_35 (by decide) rfl (fun h => absurd h (by decide)) (fun _ => ?_)
  exact AW.throwS (x := 1) d_C_led_38 d_C_led_41 d_C_led_42 d_C_led_44 d_C_led_47 cl_C_75 ini_java_lang_UnsupportedOperationException sr_C_200 thr_1 rfl (by decide) rfl rfl rfl ⟨rfl, rfl⟩
theorem c_led_3 (X : ct_X) (z : S_c) (k : S_m) (o : Nat → Int64) (s : Nat) (hs : s < c_ns z) (hn : c_ns z ≤ 20) (t : Nat) (ht : t ≤ c_sec z) (hc : c_sec z ≤ 99999) (h1 : r_drop z ≤ t) (hR : Ring z) : AF X m_C_led 7 0 0 [.ref 0, .int (nI (s)), .int (nI (t))] (wL z k o) (.inl (some (.int (f_lead z (nI s) (nI t) (r_n z) 0 (r_bef z s))))) (wL z k o) := by
  refine AM.of rfl (Nat.le_of_ble_eq_true rfl) (ls := [some (.ref 0), some (.int (nI (s))), some (.int (nI (t)))]) rfl ?_
  refine AW.aload_n (pc' := 1) d_C_led_0 rfl rfl rfl ?_
  refine AW.iload_n (pc' := 2) d_C_led_1 rfl rfl rfl ?_
  refine AW.cV (pc' := 5) d_C_led_2 rfl cv_C_114 (by decide) rfl rfl rfl (c_reqSector_ok X z k o s hs (by omega)) rfl rfl rfl rfl rfl rfl rfl ?_
  refine AW.iload_n (pc' := 6) d_C_led_5 rfl rfl rfl ?_
  refine AW.if_lt (tgt := 17) (pc' := 9) d_C_led_6 (by decide) rfl (fun h => absurd h (nI_pos (by omega))) (fun _ => ?_)
  refine AW.iload_n (pc' := 10) d_C_led_9 rfl rfl rfl ?_
  refine AW.aload_n (pc' := 11) d_C_led_10 rfl rfl rfl ?_
  refine AW.getf (pc' := 14) d_C_led_11 rfl fl_C_98 rfl rfl ?_
  refine AW.icmp_leN (tgt := 27) (pc' := 17) d_C_led_14 (by decide) rfl (by omega) (by omega) (fun h14 => ?_) (fun h => absurd h (by omega))
  refine AW.aload_n (pc' := 28) d_C_led_27 rfl rfl rfl ?_
  refine AW.getf (pc' := 31) d_C_led_28 rfl fl_C_61 rfl rfl ?_
  refine AW.iload_n (pc' := 32) d_C_led_31 rfl rfl rfl ?_
  refine AW.cV (pc' := 35) d_C_led_32 rfl cv_C_197 (by decide) rfl rfl rfl (c_reach_t X z k o t (by omega) h1) rfl rfl rfl rfl rfl rfl rfl ?_
  refine AW.if_ne (tgt := 48) (pc' := 38) d_C_led_35 (by decide) rfl (fun _ => ?_) (fun h => absurd h (by decide))
  refine AW.aload_n (pc' := 49) d_C_led_48 rfl rfl rfl ?_
  refine AW.getf (pc' := 52) d_C_led_49 rfl fl_C_61 rfl rfl ?_
  refine AW.iload_n (pc' := 53) d_C_led_52 rfl rfl rfl ?_
  refine AW.iload_n (pc' := 54) d_C_led_53 rfl rfl rfl ?_
  refine AW.cV (pc' := 57) d_C_led_54 rfl cv_C_202 (by decide) rfl rfl rfl (c_lead X z k o s (nI t) (by omega) hR.1 hR.2.1) rfl rfl rfl rfl rfl rfl rfl ?_
  exact AW.iret d_C_led_57 rfl rfl rfl ⟨rfl, rfl⟩
theorem sw_out {x : Int32} {n : Nat} (hn : n < 2 ^ 31) (h : x < 0 ∨ nI n < x) : x.toInt < 0 ∨ (n : Int) < x.toInt := by
  rcases h with h | h
  · exact Or.inl (Int32.lt_iff_toInt_lt.mp h)
  · have h2 := Int32.lt_iff_toInt_lt.mp h
    rw [nI_toInt hn] at h2
    exact Or.inr h2
theorem c_sectorAt_x (X : ct_X) (z : S_c) (k : S_m) (o : Nat → Int64) (x y : Int32) (hx : x < 0 ∨ nI (c_ns z) ≤ x) : AF X m_C_sectorAt 7 0 0 [.ref 0, .int (x), .int (y)] (wL z k o) (.inr 2) (wL z k o) := by
  refine AM.of rfl (Nat.le_of_ble_eq_true rfl) (ls := [some (.ref 0), some (.int (x)), some (.int (y))]) rfl ?_
  refine AW.aload_n (pc' := 1) d_C_sectorAt_0 rfl rfl rfl ?_
  refine AW.iload_n (pc' := 2) d_C_sectorAt_1 rfl rfl rfl ?_
  exact AW.cVx d_C_sectorAt_2 cv_C_114 (by decide) rfl rfl rfl (c_reqSector_no X z k o x hx) rfl rfl rfl rfl rfl rfl rfl ⟨rfl, rfl⟩
theorem c_sectorAt_y (X : ct_X) (z : S_c) (k : S_m) (o : Nat → Int64) (s : Nat) (hs : s < c_ns z) (hn : c_ns z ≤ 20) (y : Int32) (hy : y < 0 ∨ nI 7 < y) : AF X m_C_sectorAt 7 0 0 [.ref 0, .int (nI (s)), .int (y)] (wL z k o) (.inr 2) (wL z k o) := by
  refine AM.of rfl (Nat.le_of_ble_eq_true rfl) (ls := [some (.ref 0), some (.int (nI (s))), some (.int (y))]) rfl ?_
  refine AW.aload_n (pc' := 1) d_C_sectorAt_0 rfl rfl rfl ?_
  refine AW.iload_n (pc' := 2) d_C_sectorAt_1 rfl rfl rfl ?_
  refine AW.cV (pc' := 5) d_C_sectorAt_2 rfl cv_C_114 (by decide) rfl rfl rfl (c_reqSector_ok X z k o s hs (by omega)) rfl rfl rfl rfl rfl rfl rfl ?_
  refine AW.iload_n (pc' := 6) d_C_sectorAt_5 rfl rfl rfl ?_
  refine AW.tableOut (tgt := 134) d_C_sectorAt_6 (sw_out (by decide) hy) (by decide) ?_
  exact AW.throwS (x := 2) d_C_sectorAt_134 d_C_sectorAt_137 d_C_sectorAt_138 d_C_sectorAt_140 d_C_sectorAt_143 cl_C_212 ini_java_lang_IllegalArgumentException sr_C_214 thr_2 rfl (by decide) rfl rfl rfl ⟨rfl, rfl⟩
theorem c_sectorAt_0t (X : ct_X) (z : S_c) (k : S_m) (o : Nat → Int64) (s : Nat) (hs : s < c_ns z) (hn : c_ns z ≤ 20) (h1 : ¬ c_opn z s = 0) : AF X m_C_sectorAt 7 0 0 [.ref 0, .int (nI (s)), .int (nI (0))] (wL z k o) (.inl (some (.int (nI 1)))) (wL z k o) := by
  refine AM.of rfl (Nat.le_of_ble_eq_true rfl) (ls := [some (.ref 0), some (.int (nI (s))), some (.int (nI (0)))]) rfl ?_
  refine AW.aload_n (pc' := 1) d_C_sectorAt_0 rfl rfl rfl ?_
  refine AW.iload_n (pc' := 2) d_C_sectorAt_1 rfl rfl rfl ?_
  refine AW.cV (pc' := 5) d_C_sectorAt_2 rfl cv_C_114 (by decide) rfl rfl rfl (c_reqSector_ok X z k o s hs (by omega)) rfl rfl rfl rfl rfl rfl rfl ?_
  refine AW.iload_n (pc' := 6) d_C_sectorAt_5 rfl rfl rfl ?_
  refine AW.tableIn (off := 46) (tgt := 52) d_C_sectorAt_6 (by decide) (by decide) rfl (by decide) ?_
  refine AW.aload_n (pc' := 53) d_C_sectorAt_52 rfl rfl rfl ?_
  refine AW.getf (pc' := 56) d_C_sectorAt_53 rfl fl_C_35 rfl rfl ?_
  refine AW.iload_n (pc' := 57) d_C_sectorAt_56 rfl rfl rfl ?_
  refine AW.zaldN (pc' := 58) d_C_sectorAt_57 rfl rfl (by omega) (by decide) ?_
  refine AW.if_eq (tgt := 65) (pc' := 61) d_C_sectorAt_58 (by decide) rfl (fun h => absurd h h1) (fun h58 => ?_)
  refine AW.iconst (pc' := 62) (v := nI 1) d_C_sectorAt_61 rfl (by decide) ?_
  refine AW.goto (tgt := 66) d_C_sectorAt_62 (by decide) ?_
  exact AW.iret d_C_sectorAt_66 rfl rfl rfl ⟨rfl, rfl⟩
theorem c_sectorAt_0f (X : ct_X) (z : S_c) (k : S_m) (o : Nat → Int64) (s : Nat) (hs : s < c_ns z) (hn : c_ns z ≤ 20) (h1 : c_opn z s = 0) : AF X m_C_sectorAt 7 0 0 [.ref 0, .int (nI (s)), .int (nI (0))] (wL z k o) (.inl (some (.int (nI 0)))) (wL z k o) := by
  refine AM.of rfl (Nat.le_of_ble_eq_true rfl) (ls := [some (.ref 0), some (.int (nI (s))), some (.int (nI (0)))]) rfl ?_
  refine AW.aload_n (pc' := 1) d_C_sectorAt_0 rfl rfl rfl ?_
  refine AW.iload_n (pc' := 2) d_C_sectorAt_1 rfl rfl rfl ?_
  refine AW.cV (pc' := 5) d_C_sectorAt_2 rfl cv_C_114 (by decide) rfl rfl rfl (c_reqSector_ok X z k o s hs (by omega)) rfl rfl rfl rfl rfl rfl rfl ?_
  refine AW.iload_n (pc' := 6) d_C_sectorAt_5 rfl rfl rfl ?_
  refine AW.tableIn (off := 46) (tgt := 52) d_C_sectorAt_6 (by decide) (by decide) rfl (by decide) ?_
  refine AW.aload_n (pc' := 53) d_C_sectorAt_52 rfl rfl rfl ?_
  refine AW.getf (pc' := 56) d_C_sectorAt_53 rfl fl_C_35 rfl rfl ?_
  refine AW.iload_n (pc' := 57) d_C_sectorAt_56 rfl rfl rfl ?_
  refine AW.zaldN (pc' := 58) d_C_sectorAt_57 rfl rfl (by omega) (by decide) ?_
  refine AW.if_eq (tgt := 65) (pc' := 61) d_C_sectorAt_58 (by decide) rfl (fun h58 => ?_) (fun h => absurd h1 h)
  refine AW.iconst (pc' := 66) (v := nI 0) d_C_sectorAt_65 rfl (by decide) ?_
  exact AW.iret d_C_sectorAt_66 rfl rfl rfl ⟨rfl, rfl⟩
theorem c_sectorAt_1 (X : ct_X) (z : S_c) (k : S_m) (o : Nat → Int64) (s : Nat) (hs : s < c_ns z) (hn : c_ns z ≤ 20)  : AF X m_C_sectorAt 7 0 0 [.ref 0, .int (nI (s)), .int (nI (1))] (wL z k o) (.inl (some (.int (c_ldr z s)))) (wL z k o) := by
  refine AM.of rfl (Nat.le_of_ble_eq_true rfl) (ls := [some (.ref 0), some (.int (nI (s))), some (.int (nI (1)))]) rfl ?_
  refine AW.aload_n (pc' := 1) d_C_sectorAt_0 rfl rfl rfl ?_
  refine AW.iload_n (pc' := 2) d_C_sectorAt_1 rfl rfl rfl ?_
  refine AW.cV (pc' := 5) d_C_sectorAt_2 rfl cv_C_114 (by decide) rfl rfl rfl (c_reqSector_ok X z k o s hs (by omega)) rfl rfl rfl rfl rfl rfl rfl ?_
  refine AW.iload_n (pc' := 6) d_C_sectorAt_5 rfl rfl rfl ?_
  refine AW.tableIn (off := 61) (tgt := 67) d_C_sectorAt_6 (by decide) (by decide) rfl (by decide) ?_
  refine AW.aload_n (pc' := 68) d_C_sectorAt_67 rfl rfl rfl ?_
  refine AW.getf (pc' := 71) d_C_sectorAt_68 rfl fl_C_42 rfl rfl ?_
  refine AW.iload_n (pc' := 72) d_C_sectorAt_71 rfl rfl rfl ?_
  refine AW.ialdN (pc' := 73) d_C_sectorAt_72 rfl rfl (by omega) (by decide) ?_
  exact AW.iret d_C_sectorAt_73 rfl rfl rfl ⟨rfl, rfl⟩
theorem c_sectorAt_2 (X : ct_X) (z : S_c) (k : S_m) (o : Nat → Int64) (s : Nat) (hs : s < c_ns z) (hn : c_ns z ≤ 20)  : AF X m_C_sectorAt 7 0 0 [.ref 0, .int (nI (s)), .int (nI (2))] (wL z k o) (.inl (some (.int (c_abv z s)))) (wL z k o) := by
  refine AM.of rfl (Nat.le_of_ble_eq_true rfl) (ls := [some (.ref 0), some (.int (nI (s))), some (.int (nI (2)))]) rfl ?_
  refine AW.aload_n (pc' := 1) d_C_sectorAt_0 rfl rfl rfl ?_
  refine AW.iload_n (pc' := 2) d_C_sectorAt_1 rfl rfl rfl ?_
  refine AW.cV (pc' := 5) d_C_sectorAt_2 rfl cv_C_114 (by decide) rfl rfl rfl (c_reqSector_ok X z k o s hs (by omega)) rfl rfl rfl rfl rfl rfl rfl ?_
  refine AW.iload_n (pc' := 6) d_C_sectorAt_5 rfl rfl rfl ?_
  refine AW.tableIn (off := 68) (tgt := 74) d_C_sectorAt_6 (by decide) (by decide) rfl (by decide) ?_
  refine AW.aload_n (pc' := 75) d_C_sectorAt_74 rfl rfl rfl ?_
  refine AW.getf (pc' := 78) d_C_sectorAt_75 rfl fl_C_39 rfl rfl ?_
  refine AW.iload_n (pc' := 79) d_C_sectorAt_78 rfl rfl rfl ?_
  refine AW.ialdN (pc' := 80) d_C_sectorAt_79 rfl rfl (by omega) (by decide) ?_
  exact AW.iret d_C_sectorAt_80 rfl rfl rfl ⟨rfl, rfl⟩
theorem c_sectorAt_3 (X : ct_X) (z : S_c) (k : S_m) (o : Nat → Int64) (s : Nat) (hs : s < c_ns z) (hn : c_ns z ≤ 20) (hnp : c_np z ≤ 40) : AF X m_C_sectorAt 7 0 0 [.ref 0, .int (nI (s)), .int (nI (3))] (wL z k o) (.inl (some (.int (nI (cnt (c_sop z) (nI s) (c_np z)))))) (wL z k o) := by
  refine AM.of rfl (Nat.le_of_ble_eq_true rfl) (ls := [some (.ref 0), some (.int (nI (s))), some (.int (nI (3)))]) rfl ?_
  refine AW.aload_n (pc' := 1) d_C_sectorAt_0 rfl rfl rfl ?_
  refine AW.iload_n (pc' := 2) d_C_sectorAt_1 rfl rfl rfl ?_
  refine AW.cV (pc' := 5) d_C_sectorAt_2 rfl cv_C_114 (by decide) rfl rfl rfl (c_reqSector_ok X z k o s hs (by omega)) rfl rfl rfl rfl rfl rfl rfl ?_
  refine AW.iload_n (pc' := 6) d_C_sectorAt_5 rfl rfl rfl ?_
  refine AW.tableIn (off := 75) (tgt := 81) d_C_sectorAt_6 (by decide) (by decide) rfl (by decide) ?_
  refine AW.aload_n (pc' := 82) d_C_sectorAt_81 rfl rfl rfl ?_
  refine AW.getf (pc' := 85) d_C_sectorAt_82 rfl fl_C_20 rfl rfl ?_
  refine AW.aload_n (pc' := 86) d_C_sectorAt_85 rfl rfl rfl ?_
  refine AW.getf (pc' := 89) d_C_sectorAt_86 rfl fl_C_72 rfl rfl ?_
  refine AW.iload_n (pc' := 90) d_C_sectorAt_89 rfl rfl rfl ?_
  refine AW.cS (pc' := 93) d_C_sectorAt_90 rfl cs_C_205 (by decide) (c_count X _ 3 40 (c_np z) (c_sop z) (nI s) (by decide) hnp rfl) rfl rfl rfl rfl rfl rfl rfl ?_
  exact AW.iret d_C_sectorAt_93 rfl rfl rfl ⟨rfl, rfl⟩
theorem c_sectorAt_4 (X : ct_X) (z : S_c) (k : S_m) (o : Nat → Int64) (s : Nat) (hs : s < c_ns z) (hn : c_ns z ≤ 20) (hu : c_nu z ≤ 20) : AF X m_C_sectorAt 7 0 0 [.ref 0, .int (nI (s)), .int (nI (4))] (wL z k o) (.inl (some (.int (nI (cnt (c_sou z) (nI s) (c_nu z)))))) (wL z k o) := by
  refine AM.of rfl (Nat.le_of_ble_eq_true rfl) (ls := [some (.ref 0), some (.int (nI (s))), some (.int (nI (4)))]) rfl ?_
  refine AW.aload_n (pc' := 1) d_C_sectorAt_0 rfl rfl rfl ?_
  refine AW.iload_n (pc' := 2) d_C_sectorAt_1 rfl rfl rfl ?_
  refine AW.cV (pc' := 5) d_C_sectorAt_2 rfl cv_C_114 (by decide) rfl rfl rfl (c_reqSector_ok X z k o s hs (by omega)) rfl rfl rfl rfl rfl rfl rfl ?_
  refine AW.iload_n (pc' := 6) d_C_sectorAt_5 rfl rfl rfl ?_
  refine AW.tableIn (off := 88) (tgt := 94) d_C_sectorAt_6 (by decide) (by decide) rfl (by decide) ?_
  refine AW.aload_n (pc' := 95) d_C_sectorAt_94 rfl rfl rfl ?_
  refine AW.getf (pc' := 98) d_C_sectorAt_95 rfl fl_C_32 rfl rfl ?_
  refine AW.aload_n (pc' := 99) d_C_sectorAt_98 rfl rfl rfl ?_
  refine AW.getf (pc' := 102) d_C_sectorAt_99 rfl fl_C_80 rfl rfl ?_
  refine AW.iload_n (pc' := 103) d_C_sectorAt_102 rfl rfl rfl ?_
  refine AW.cS (pc' := 106) d_C_sectorAt_103 rfl cs_C_205 (by decide) (c_count X _ 5 20 (c_nu z) (c_sou z) (nI s) (by decide) hu rfl) rfl rfl rfl rfl rfl rfl rfl ?_
  exact AW.iret d_C_sectorAt_106 rfl rfl rfl ⟨rfl, rfl⟩
theorem c_sectorAt_5 (X : ct_X) (z : S_c) (k : S_m) (o : Nat → Int64) (s : Nat) (hs : s < c_ns z) (hn : c_ns z ≤ 20)  : AF X m_C_sectorAt 7 0 0 [.ref 0, .int (nI (s)), .int (nI (5))] (wL z k o) (.inl (some (.int (c_off z s)))) (wL z k o) := by
  refine AM.of rfl (Nat.le_of_ble_eq_true rfl) (ls := [some (.ref 0), some (.int (nI (s))), some (.int (nI (5)))]) rfl ?_
  refine AW.aload_n (pc' := 1) d_C_sectorAt_0 rfl rfl rfl ?_
  refine AW.iload_n (pc' := 2) d_C_sectorAt_1 rfl rfl rfl ?_
  refine AW.cV (pc' := 5) d_C_sectorAt_2 rfl cv_C_114 (by decide) rfl rfl rfl (c_reqSector_ok X z k o s hs (by omega)) rfl rfl rfl rfl rfl rfl rfl ?_
  refine AW.iload_n (pc' := 6) d_C_sectorAt_5 rfl rfl rfl ?_
  refine AW.tableIn (off := 101) (tgt := 107) d_C_sectorAt_6 (by decide) (by decide) rfl (by decide) ?_
  refine AW.aload_n (pc' := 108) d_C_sectorAt_107 rfl rfl rfl ?_
  refine AW.getf (pc' := 111) d_C_sectorAt_108 rfl fl_C_45 rfl rfl ?_
  refine AW.iload_n (pc' := 112) d_C_sectorAt_111 rfl rfl rfl ?_
  refine AW.ialdN (pc' := 113) d_C_sectorAt_112 rfl rfl (by omega) (by decide) ?_
  exact AW.iret d_C_sectorAt_113 rfl rfl rfl ⟨rfl, rfl⟩
theorem c_sectorAt_6t (X : ct_X) (z : S_c) (k : S_m) (o : Nat → Int64) (s : Nat) (hs : s < c_ns z) (hn : c_ns z ≤ 20) (hu : c_nu z ≤ 20) (hm : c_most z ≤ 20) (h1 : passB z s = true) : AF X m_C_sectorAt 7 0 0 [.ref 0, .int (nI (s)), .int (nI (6))] (wL z k o) (.inl (some (.int (nI 1)))) (wL z k o) := by
  refine AM.of rfl (Nat.le_of_ble_eq_true rfl) (ls := [some (.ref 0), some (.int (nI (s))), some (.int (nI (6)))]) rfl ?_
  refine AW.aload_n (pc' := 1) d_C_sectorAt_0 rfl rfl rfl ?_
  refine AW.iload_n (pc' := 2) d_C_sectorAt_1 rfl rfl rfl ?_
  refine AW.cV (pc' := 5) d_C_sectorAt_2 rfl cv_C_114 (by decide) rfl rfl rfl (c_reqSector_ok X z k o s hs (by omega)) rfl rfl rfl rfl rfl rfl rfl ?_
  refine AW.iload_n (pc' := 6) d_C_sectorAt_5 rfl rfl rfl ?_
  refine AW.tableIn (off := 108) (tgt := 114) d_C_sectorAt_6 (by decide) (by decide) rfl (by decide) ?_
  refine AW.aload_n (pc' := 115) d_C_sectorAt_114 rfl rfl rfl ?_
  refine AW.iload_n (pc' := 116) d_C_sectorAt_115 rfl rfl rfl ?_
  refine AW.cV (pc' := 119) d_C_sectorAt_116 rfl cv_C_187 (by decide) rfl rfl rfl (c_isPassed_t X z k o s (by omega) hn hu hm h1) rfl rfl rfl rfl rfl rfl rfl ?_
  refine AW.if_eq (tgt := 126) (pc' := 122) d_C_sectorAt_119 (by decide) rfl (fun h => absurd h (by decide)) (fun _ => ?_)
  refine AW.iconst (pc' := 123) (v := nI 1) d_C_sectorAt_122 rfl (by decide) ?_
  refine AW.goto (tgt := 127) d_C_sectorAt_123 (by decide) ?_
  exact AW.iret d_C_sectorAt_127 rfl rfl rfl ⟨rfl, rfl⟩
theorem c_sectorAt_6f (X : ct_X) (z : S_c) (k : S_m) (o : Nat → Int64) (s : Nat) (hs : s < c_ns z) (hn : c_ns z ≤ 20) (hu : c_nu z ≤ 20) (hm : c_most z ≤ 20) (h1 : passB z s = false) : AF X m_C_sectorAt 7 0 0 [.ref 0, .int (nI (s)), .int (nI (6))] (wL z k o) (.inl (some (.int (nI 0)))) (wL z k o) := by
  refine AM.of rfl (Nat.le_of_ble_eq_true rfl) (ls := [some (.ref 0), some (.int (nI (s))), some (.int (nI (6)))]) rfl ?_
  refine AW.aload_n (pc' := 1) d_C_sectorAt_0 rfl rfl rfl ?_
  refine AW.iload_n (pc' := 2) d_C_sectorAt_1 rfl rfl rfl ?_
  refine AW.cV (pc' := 5) d_C_sectorAt_2 rfl cv_C_114 (by decide) rfl rfl rfl (c_reqSector_ok X z k o s hs (by omega)) rfl rfl rfl rfl rfl rfl rfl ?_
  refine AW.iload_n (pc' := 6) d_C_sectorAt_5 rfl rfl rfl ?_
  refine AW.tableIn (off := 108) (tgt := 114) d_C_sectorAt_6 (by decide) (by decide) rfl (by decide) ?_
  refine AW.aload_n (pc' := 115) d_C_sectorAt_114 rfl rfl rfl ?_
  refine AW.iload_n (pc' := 116) d_C_sectorAt_115 rfl rfl rfl ?_
  refine AW.cV (pc' := 119) d_C_sectorAt_116 rfl cv_C_187 (by decide) rfl rfl rfl (c_isPassed_f X z k o s (by omega) hn hu hm h1) rfl rfl rfl rfl rfl rfl rfl ?_
  refine AW.if_eq (tgt := 126) (pc' := 122) d_C_sectorAt_119 (by decide) rfl (fun _ => ?_) (fun h => absurd h (by decide))
  refine AW.iconst (pc' := 127) (v := nI 0) d_C_sectorAt_126 rfl (by decide) ?_
  exact AW.iret d_C_sectorAt_127 rfl rfl rfl ⟨rfl, rfl⟩
theorem c_sectorAt_7 (X : ct_X) (z : S_c) (k : S_m) (o : Nat → Int64) (s : Nat) (hs : s < c_ns z) (hn : c_ns z ≤ 20)  : AF X m_C_sectorAt 7 0 0 [.ref 0, .int (nI (s)), .int (nI (7))] (wL z k o) (.inl (some (.int (nI (cntB (openB z (nI s)) (c_ns z)))))) (wL z k o) := by
  refine AM.of rfl (Nat.le_of_ble_eq_true rfl) (ls := [some (.ref 0), some (.int (nI (s))), some (.int (nI (7)))]) rfl ?_
  refine AW.aload_n (pc' := 1) d_C_sectorAt_0 rfl rfl rfl ?_
  refine AW.iload_n (pc' := 2) d_C_sectorAt_1 rfl rfl rfl ?_
  refine AW.cV (pc' := 5) d_C_sectorAt_2 rfl cv_C_114 (by decide) rfl rfl rfl (c_reqSector_ok X z k o s hs (by omega)) rfl rfl rfl rfl rfl rfl rfl ?_
  refine AW.iload_n (pc' := 6) d_C_sectorAt_5 rfl rfl rfl ?_
  refine AW.tableIn (off := 122) (tgt := 128) d_C_sectorAt_6 (by decide) (by decide) rfl (by decide) ?_
  refine AW.aload_n (pc' := 129) d_C_sectorAt_128 rfl rfl rfl ?_
  refine AW.iload_n (pc' := 130) d_C_sectorAt_129 rfl rfl rfl ?_
  refine AW.cV (pc' := 133) d_C_sectorAt_130 rfl cv_C_209 (by decide) rfl rfl rfl (c_openBelow X z k o (nI s) hn) rfl rfl rfl rfl rfl rfl rfl ?_
  exact AW.iret d_C_sectorAt_133 rfl rfl rfl ⟨rfl, rfl⟩
theorem c_personAt_x (X : ct_X) (z : S_c) (k : S_m) (o : Nat → Int64) (x y : Int32) (hx : x < 0 ∨ nI (c_np z) ≤ x) : AF X m_C_personAt 7 0 0 [.ref 0, .int (x), .int (y)] (wL z k o) (.inr 2) (wL z k o) := by
  refine AM.of rfl (Nat.le_of_ble_eq_true rfl) (ls := [some (.ref 0), some (.int (x)), some (.int (y))]) rfl ?_
  refine AW.aload_n (pc' := 1) d_C_personAt_0 rfl rfl rfl ?_
  refine AW.iload_n (pc' := 2) d_C_personAt_1 rfl rfl rfl ?_
  exact AW.cVx d_C_personAt_2 cv_C_85 (by decide) rfl rfl rfl (c_reqPerson_no X z k o x hx) rfl rfl rfl rfl rfl rfl rfl ⟨rfl, rfl⟩
theorem c_personAt_y (X : ct_X) (z : S_c) (k : S_m) (o : Nat → Int64) (p : Nat) (hj : p < c_np z) (hnp : c_np z ≤ 40) (y : Int32) (hy : y < 0 ∨ nI 2 < y) : AF X m_C_personAt 7 0 0 [.ref 0, .int (nI (p)), .int (y)] (wL z k o) (.inr 2) (wL z k o) := by
  refine AM.of rfl (Nat.le_of_ble_eq_true rfl) (ls := [some (.ref 0), some (.int (nI (p))), some (.int (y))]) rfl ?_
  refine AW.aload_n (pc' := 1) d_C_personAt_0 rfl rfl rfl ?_
  refine AW.iload_n (pc' := 2) d_C_personAt_1 rfl rfl rfl ?_
  refine AW.cV (pc' := 5) d_C_personAt_2 rfl cv_C_85 (by decide) rfl rfl rfl (c_reqPerson_ok X z k o p hj (by omega)) rfl rfl rfl rfl rfl rfl rfl ?_
  refine AW.iload_n (pc' := 6) d_C_personAt_5 rfl rfl rfl ?_
  refine AW.tableOut (tgt := 53) d_C_personAt_6 (sw_out (by decide) hy) (by decide) ?_
  exact AW.throwS (x := 2) d_C_personAt_53 d_C_personAt_56 d_C_personAt_57 d_C_personAt_59 d_C_personAt_62 cl_C_212 ini_java_lang_IllegalArgumentException sr_C_214 thr_2 rfl (by decide) rfl rfl rfl ⟨rfl, rfl⟩
theorem c_personAt_0 (X : ct_X) (z : S_c) (k : S_m) (o : Nat → Int64) (p : Nat) (hj : p < c_np z) (hnp : c_np z ≤ 40) : AF X m_C_personAt 7 0 0 [.ref 0, .int (nI (p)), .int (nI (0))] (wL z k o) (.inl (some (.int (c_sop z p)))) (wL z k o) := by
  refine AM.of rfl (Nat.le_of_ble_eq_true rfl) (ls := [some (.ref 0), some (.int (nI (p))), some (.int (nI (0)))]) rfl ?_
  refine AW.aload_n (pc' := 1) d_C_personAt_0 rfl rfl rfl ?_
  refine AW.iload_n (pc' := 2) d_C_personAt_1 rfl rfl rfl ?_
  refine AW.cV (pc' := 5) d_C_personAt_2 rfl cv_C_85 (by decide) rfl rfl rfl (c_reqPerson_ok X z k o p hj (by omega)) rfl rfl rfl rfl rfl rfl rfl ?_
  refine AW.iload_n (pc' := 6) d_C_personAt_5 rfl rfl rfl ?_
  refine AW.tableIn (off := 26) (tgt := 32) d_C_personAt_6 (by decide) (by decide) rfl (by decide) ?_
  refine AW.aload_n (pc' := 33) d_C_personAt_32 rfl rfl rfl ?_
  refine AW.getf (pc' := 36) d_C_personAt_33 rfl fl_C_20 rfl rfl ?_
  refine AW.iload_n (pc' := 37) d_C_personAt_36 rfl rfl rfl ?_
  refine AW.ialdN (pc' := 38) d_C_personAt_37 rfl rfl (by omega) (by decide) ?_
  exact AW.iret d_C_personAt_38 rfl rfl rfl ⟨rfl, rfl⟩
theorem c_personAt_1 (X : ct_X) (z : S_c) (k : S_m) (o : Nat → Int64) (p : Nat) (hj : p < c_np z) (hnp : c_np z ≤ 40) : AF X m_C_personAt 7 0 0 [.ref 0, .int (nI (p)), .int (nI (1))] (wL z k o) (.inl (some (.int (c_slb z p)))) (wL z k o) := by
  refine AM.of rfl (Nat.le_of_ble_eq_true rfl) (ls := [some (.ref 0), some (.int (nI (p))), some (.int (nI (1)))]) rfl ?_
  refine AW.aload_n (pc' := 1) d_C_personAt_0 rfl rfl rfl ?_
  refine AW.iload_n (pc' := 2) d_C_personAt_1 rfl rfl rfl ?_
  refine AW.cV (pc' := 5) d_C_personAt_2 rfl cv_C_85 (by decide) rfl rfl rfl (c_reqPerson_ok X z k o p hj (by omega)) rfl rfl rfl rfl rfl rfl rfl ?_
  refine AW.iload_n (pc' := 6) d_C_personAt_5 rfl rfl rfl ?_
  refine AW.tableIn (off := 33) (tgt := 39) d_C_personAt_6 (by decide) (by decide) rfl (by decide) ?_
  refine AW.aload_n (pc' := 40) d_C_personAt_39 rfl rfl rfl ?_
  refine AW.getf (pc' := 43) d_C_personAt_40 rfl fl_C_23 rfl rfl ?_
  refine AW.iload_n (pc' := 44) d_C_personAt_43 rfl rfl rfl ?_
  refine AW.ialdN (pc' := 45) d_C_personAt_44 rfl rfl (by omega) (by decide) ?_
  exact AW.iret d_C_personAt_45 rfl rfl rfl ⟨rfl, rfl⟩
theorem c_personAt_2 (X : ct_X) (z : S_c) (k : S_m) (o : Nat → Int64) (p : Nat) (hj : p < c_np z) (hnp : c_np z ≤ 40) : AF X m_C_personAt 7 0 0 [.ref 0, .int (nI (p)), .int (nI (2))] (wL z k o) (.inl (some (.int (c_arr z p)))) (wL z k o) := by
  refine AM.of rfl (Nat.le_of_ble_eq_true rfl) (ls := [some (.ref 0), some (.int (nI (p))), some (.int (nI (2)))]) rfl ?_
  refine AW.aload_n (pc' := 1) d_C_personAt_0 rfl rfl rfl ?_
  refine AW.iload_n (pc' := 2) d_C_personAt_1 rfl rfl rfl ?_
  refine AW.cV (pc' := 5) d_C_personAt_2 rfl cv_C_85 (by decide) rfl rfl rfl (c_reqPerson_ok X z k o p hj (by omega)) rfl rfl rfl rfl rfl rfl rfl ?_
  refine AW.iload_n (pc' := 6) d_C_personAt_5 rfl rfl rfl ?_
  refine AW.tableIn (off := 40) (tgt := 46) d_C_personAt_6 (by decide) (by decide) rfl (by decide) ?_
  refine AW.aload_n (pc' := 47) d_C_personAt_46 rfl rfl rfl ?_
  refine AW.getf (pc' := 50) d_C_personAt_47 rfl fl_C_17 rfl rfl ?_
  refine AW.iload_n (pc' := 51) d_C_personAt_50 rfl rfl rfl ?_
  refine AW.ialdN (pc' := 52) d_C_personAt_51 rfl rfl (by omega) (by decide) ?_
  exact AW.iret d_C_personAt_52 rfl rfl rfl ⟨rfl, rfl⟩
theorem c_unitAt_x (X : ct_X) (z : S_c) (k : S_m) (o : Nat → Int64) (x : Int32) (hx : x < 0 ∨ nI (c_nu z) ≤ x) : AF X m_C_unitAt 7 0 0 [.ref 0, .int (x)] (wL z k o) (.inr 2) (wL z k o) := by
  refine AM.of rfl (Nat.le_of_ble_eq_true rfl) (ls := [some (.ref 0), some (.int (x))]) rfl ?_
  refine AW.aload_n (pc' := 1) d_C_unitAt_0 rfl rfl rfl ?_
  refine AW.iload_n (pc' := 2) d_C_unitAt_1 rfl rfl rfl ?_
  exact AW.cVx d_C_unitAt_2 cv_C_122 (by decide) rfl rfl rfl (c_reqUnit_no X z k o x hx) rfl rfl rfl rfl rfl rfl rfl ⟨rfl, rfl⟩
theorem c_unitAt_0 (X : ct_X) (z : S_c) (k : S_m) (o : Nat → Int64) (u : Nat) (hu : u < c_nu z) (hnu : c_nu z ≤ 20) : AF X m_C_unitAt 7 0 0 [.ref 0, .int (nI (u))] (wL z k o) (.inl (some (.int (c_sou z u)))) (wL z k o) := by
  refine AM.of rfl (Nat.le_of_ble_eq_true rfl) (ls := [some (.ref 0), some (.int (nI (u)))]) rfl ?_
  refine AW.aload_n (pc' := 1) d_C_unitAt_0 rfl rfl rfl ?_
  refine AW.iload_n (pc' := 2) d_C_unitAt_1 rfl rfl rfl ?_
  refine AW.cV (pc' := 5) d_C_unitAt_2 rfl cv_C_122 (by decide) rfl rfl rfl (c_reqUnit_ok X z k o u hu (by omega)) rfl rfl rfl rfl rfl rfl rfl ?_
  refine AW.aload_n (pc' := 6) d_C_unitAt_5 rfl rfl rfl ?_
  refine AW.getf (pc' := 9) d_C_unitAt_6 rfl fl_C_32 rfl rfl ?_
  refine AW.iload_n (pc' := 10) d_C_unitAt_9 rfl rfl rfl ?_
  refine AW.ialdN (pc' := 11) d_C_unitAt_10 rfl rfl (by omega) (by decide) ?_
  exact AW.iret d_C_unitAt_11 rfl rfl rfl ⟨rfl, rfl⟩
theorem c_taskAt_x (X : ct_X) (z : S_c) (k : S_m) (o : Nat → Int64) (x y : Int32) (hx : x < 0 ∨ nI (t_n z) ≤ x) : AF X m_C_taskAt 7 0 0 [.ref 0, .int (x), .int (y)] (wL z k o) (.inr 2) (wL z k o) := by
  refine AM.of rfl (Nat.le_of_ble_eq_true rfl) (ls := [some (.ref 0), some (.int (x)), some (.int (y))]) rfl ?_
  refine AW.aload_n (pc' := 1) d_C_taskAt_0 rfl rfl rfl ?_
  refine AW.iload_n (pc' := 2) d_C_taskAt_1 rfl rfl rfl ?_
  exact AW.cVx d_C_taskAt_2 cv_C_173 (by decide) rfl rfl rfl (c_reqTask_no X z k o x hx) rfl rfl rfl rfl rfl rfl rfl ⟨rfl, rfl⟩
theorem c_taskAt_y (X : ct_X) (z : S_c) (k : S_m) (o : Nat → Int64) (t : Nat) (ht : t < t_n z) (htn : t_n z ≤ 60) (y : Int32) (hy : y < 0 ∨ nI 2 < y) : AF X m_C_taskAt 7 0 0 [.ref 0, .int (nI (t)), .int (y)] (wL z k o) (.inr 2) (wL z k o) := by
  refine AM.of rfl (Nat.le_of_ble_eq_true rfl) (ls := [some (.ref 0), some (.int (nI (t))), some (.int (y))]) rfl ?_
  refine AW.aload_n (pc' := 1) d_C_taskAt_0 rfl rfl rfl ?_
  refine AW.iload_n (pc' := 2) d_C_taskAt_1 rfl rfl rfl ?_
  refine AW.cV (pc' := 5) d_C_taskAt_2 rfl cv_C_173 (by decide) rfl rfl rfl (c_reqTask_ok X z k o t ht (by omega)) rfl rfl rfl rfl rfl rfl rfl ?_
  refine AW.iload_n (pc' := 6) d_C_taskAt_5 rfl rfl rfl ?_
  refine AW.tableOut (tgt := 63) d_C_taskAt_6 (sw_out (by decide) hy) (by decide) ?_
  exact AW.throwS (x := 2) d_C_taskAt_63 d_C_taskAt_66 d_C_taskAt_67 d_C_taskAt_69 d_C_taskAt_72 cl_C_212 ini_java_lang_IllegalArgumentException sr_C_214 thr_2 rfl (by decide) rfl rfl rfl ⟨rfl, rfl⟩
theorem c_taskAt_0 (X : ct_X) (z : S_c) (k : S_m) (o : Nat → Int64) (t : Nat) (ht : t < t_n z) (htn : t_n z ≤ 60) : AF X m_C_taskAt 7 0 0 [.ref 0, .int (nI (t)), .int (nI (0))] (wL z k o) (.inl (some (.int (t_sec z t)))) (wL z k o) := by
  refine AM.of rfl (Nat.le_of_ble_eq_true rfl) (ls := [some (.ref 0), some (.int (nI (t))), some (.int (nI (0)))]) rfl ?_
  refine AW.aload_n (pc' := 1) d_C_taskAt_0 rfl rfl rfl ?_
  refine AW.iload_n (pc' := 2) d_C_taskAt_1 rfl rfl rfl ?_
  refine AW.cV (pc' := 5) d_C_taskAt_2 rfl cv_C_173 (by decide) rfl rfl rfl (c_reqTask_ok X z k o t ht (by omega)) rfl rfl rfl rfl rfl rfl rfl ?_
  refine AW.iload_n (pc' := 6) d_C_taskAt_5 rfl rfl rfl ?_
  refine AW.tableIn (off := 26) (tgt := 32) d_C_taskAt_6 (by decide) (by decide) rfl (by decide) ?_
  refine AW.aload_n (pc' := 33) d_C_taskAt_32 rfl rfl rfl ?_
  refine AW.getf (pc' := 36) d_C_taskAt_33 rfl fl_C_54 rfl rfl ?_
  refine AW.iload_n (pc' := 37) d_C_taskAt_36 rfl rfl rfl ?_
  refine AW.cV (pc' := 40) d_C_taskAt_37 rfl cv_C_217 (by decide) rfl rfl rfl (c_sectorOf X z k o t (by omega)) rfl rfl rfl rfl rfl rfl rfl ?_
  exact AW.iret d_C_taskAt_40 rfl rfl rfl ⟨rfl, rfl⟩
theorem c_taskAt_1 (X : ct_X) (z : S_c) (k : S_m) (o : Nat → Int64) (t : Nat) (ht : t < t_n z) (htn : t_n z ≤ 60) : AF X m_C_taskAt 7 0 0 [.ref 0, .int (nI (t)), .int (nI (1))] (wL z k o) (.inl (some (.int (f_state z t (c_sec z))))) (wL z k o) := by
  refine AM.of rfl (Nat.le_of_ble_eq_true rfl) (ls := [some (.ref 0), some (.int (nI (t))), some (.int (nI (1)))]) rfl ?_
  refine AW.aload_n (pc' := 1) d_C_taskAt_0 rfl rfl rfl ?_
  refine AW.iload_n (pc' := 2) d_C_taskAt_1 rfl rfl rfl ?_
  refine AW.cV (pc' := 5) d_C_taskAt_2 rfl cv_C_173 (by decide) rfl rfl rfl (c_reqTask_ok X z k o t ht (by omega)) rfl rfl rfl rfl rfl rfl rfl ?_
  refine AW.iload_n (pc' := 6) d_C_taskAt_5 rfl rfl rfl ?_
  refine AW.tableIn (off := 35) (tgt := 41) d_C_taskAt_6 (by decide) (by decide) rfl (by decide) ?_
  refine AW.aload_n (pc' := 42) d_C_taskAt_41 rfl rfl rfl ?_
  refine AW.getf (pc' := 45) d_C_taskAt_42 rfl fl_C_54 rfl rfl ?_
  refine AW.iload_n (pc' := 46) d_C_taskAt_45 rfl rfl rfl ?_
  refine AW.aload_n (pc' := 47) d_C_taskAt_46 rfl rfl rfl ?_
  refine AW.getf (pc' := 50) d_C_taskAt_47 rfl fl_C_98 rfl rfl ?_
  refine AW.cV (pc' := 53) d_C_taskAt_50 rfl cv_C_220 (by decide) rfl rfl rfl (c_stateOf X z k o t (c_sec z) (by omega)) rfl rfl rfl rfl rfl rfl rfl ?_
  exact AW.iret d_C_taskAt_53 rfl rfl rfl ⟨rfl, rfl⟩
theorem c_taskAt_2 (X : ct_X) (z : S_c) (k : S_m) (o : Nat → Int64) (t : Nat) (ht : t < t_n z) (htn : t_n z ≤ 60) : AF X m_C_taskAt 7 0 0 [.ref 0, .int (nI (t)), .int (nI (2))] (wL z k o) (.inl (some (.int (t_at z t)))) (wL z k o) := by
  refine AM.of rfl (Nat.le_of_ble_eq_true rfl) (ls := [some (.ref 0), some (.int (nI (t))), some (.int (nI (2)))]) rfl ?_
  refine AW.aload_n (pc' := 1) d_C_taskAt_0 rfl rfl rfl ?_
  refine AW.iload_n (pc' := 2) d_C_taskAt_1 rfl rfl rfl ?_
  refine AW.cV (pc' := 5) d_C_taskAt_2 rfl cv_C_173 (by decide) rfl rfl rfl (c_reqTask_ok X z k o t ht (by omega)) rfl rfl rfl rfl rfl rfl rfl ?_
  refine AW.iload_n (pc' := 6) d_C_taskAt_5 rfl rfl rfl ?_
  refine AW.tableIn (off := 48) (tgt := 54) d_C_taskAt_6 (by decide) (by decide) rfl (by decide) ?_
  refine AW.aload_n (pc' := 55) d_C_taskAt_54 rfl rfl rfl ?_
  refine AW.getf (pc' := 58) d_C_taskAt_55 rfl fl_C_54 rfl rfl ?_
  refine AW.iload_n (pc' := 59) d_C_taskAt_58 rfl rfl rfl ?_
  refine AW.cV (pc' := 62) d_C_taskAt_59 rfl cv_C_223 (by decide) rfl rfl rfl (c_answeredAt X z k o t (by omega)) rfl rfl rfl rfl rfl rfl rfl ?_
  exact AW.iret d_C_taskAt_62 rfl rfl rfl ⟨rfl, rfl⟩
def f_psd (P : Nat → Bool) : Nat → Nat → Nat → Int32
  | 0, _, _ => -1
  | n + 1, s, l => if P s = true then (if l = 0 then nI s else f_psd P n (s + 1) (l - 1)) else f_psd P n (s + 1) l
theorem c_passed_0 (X : ct_X) (z : S_c) (k : S_m) (o : Nat → Int64) (x : Int32) (hx : x < 0) : AF X m_C_passed 7 0 0 [.ref 0, .int (x)] (wL z k o) (.inr 0) (wL z k o) := by
  refine AM.of rfl (Nat.le_of_ble_eq_true rfl) (ls := [some (.ref 0), some (.int (x)), none, none]) rfl ?_
  refine AW.iload_n (pc' := 1) d_C_passed_0 rfl rfl rfl ?_
  refine AW.if_ge (tgt := 14) (pc' := 4) d_C_passed_1 (by decide) rfl (fun h => absurd hx (Int32.not_lt.mpr h)) (fun h1 => ?_)
  exact AW.throwS (x := 0) d_C_passed_4 d_C_passed_7 d_C_passed_8 d_C_passed_10 d_C_passed_13 cl_C_65 ini_java_lang_IndexOutOfBoundsException sr_C_226 thr_0 rfl (by decide) rfl rfl rfl ⟨rfl, rfl⟩
theorem lp_psd (X : ct_X) (z : S_c) (k : S_m) (o : Nat → Int64) (m : Nat) (hmm : m < 2 ^ 31) (hn : c_ns z ≤ 20) (hu : c_nu z ≤ 20) (hm : c_most z ≤ 20) : ∀ (n i c : Nat), i + n = c_ns z → c ≤ m → c ≤ i → AW X m_C_passed 7 0 0 0 0 18 [some (.ref 0), some (.int (nI (m))), some (.int (nI (c))), some (.int (nI (i)))] [] (wL z k o) (fun r w' => r = .inl (some (.int (f_psd (passB z) n i (m - c)))) ∧ w' = wL z k o) := by
  intro n
  induction n with
  | zero =>
    intro i c hi hcm hci
    refine AW.iload_n (pc' := 19) d_C_passed_18 rfl rfl rfl ?_
    refine AW.aload_n (pc' := 20) d_C_passed_19 rfl rfl rfl ?_
    refine AW.getf (pc' := 23) d_C_passed_20 rfl fl_C_48 rfl rfl ?_
    refine AW.icmp_geN (tgt := 50) (pc' := 26) d_C_passed_23 (by decide) rfl (by omega) (by omega) (fun h23 => ?_) (fun h => absurd h (by omega))
    refine AW.iconst (pc' := 51) (v := (-1)) d_C_passed_50 rfl (by decide) ?_
    exact AW.iret d_C_passed_51 rfl rfl rfl ⟨rfl, rfl⟩
  | succ n ih =>
    intro i c hi hcm hci
    refine AW.iload_n (pc' := 19) d_C_passed_18 rfl rfl rfl ?_
    refine AW.aload_n (pc' := 20) d_C_passed_19 rfl rfl rfl ?_
    refine AW.getf (pc' := 23) d_C_passed_20 rfl fl_C_48 rfl rfl ?_
    refine AW.icmp_geN (tgt := 50) (pc' := 26) d_C_passed_23 (by decide) rfl (by omega) (by omega) (fun h => absurd h (by omega)) (fun h23 => ?_)
    refine AW.aload_n (pc' := 27) d_C_passed_26 rfl rfl rfl ?_
    refine AW.iload_n (pc' := 28) d_C_passed_27 rfl rfl rfl ?_
    by_cases hb : passB z i = true
    · refine AW.cV (pc' := 31) d_C_passed_28 rfl cv_C_187 (by decide) rfl rfl rfl (c_isPassed_t X z k o i (by omega) hn hu hm hb) rfl rfl rfl rfl rfl rfl rfl ?_
      refine AW.if_eq (tgt := 44) (pc' := 34) d_C_passed_31 (by decide) rfl (fun h => absurd h (by decide)) (fun _ => ?_)
      refine AW.iload_n (pc' := 35) d_C_passed_34 rfl rfl rfl ?_
      refine AW.iload_n (pc' := 36) d_C_passed_35 rfl rfl rfl ?_
      refine AW.icmp_neN (tgt := 41) (pc' := 39) d_C_passed_36 (by decide) rfl (by omega) (by omega) (fun h36 => ?_) (fun h36 => ?_)
      · refine AW.iincN (pc' := 44) (ls' := [some (.ref 0), some (.int (nI (m))), some (.int (nI (c + 1))), some (.int (nI (i)))]) d_C_passed_41 rfl rfl rfl rfl ?_
        refine AW.iincN (pc' := 47) (ls' := [some (.ref 0), some (.int (nI (m))), some (.int (nI (c + 1))), some (.int (nI (i + 1)))]) d_C_passed_44 rfl rfl rfl rfl ?_
        refine AW.goto (tgt := 18) d_C_passed_47 (by decide) ?_
        have h9 := ih (i + 1) (c + 1) (by omega) (by omega) (by omega)
        rw [show f_psd (passB z) (n + 1) i (m - c) = f_psd (passB z) n (i + 1) (m - (c + 1)) from by rw [f_psd, if_pos hb, if_neg (by omega)]; rfl]
        exact h9
      · refine AW.iload_n (pc' := 40) d_C_passed_39 rfl rfl rfl ?_
        exact AW.iret d_C_passed_40 rfl rfl rfl ⟨by rw [f_psd, if_pos hb, if_pos (by omega)], rfl⟩
    · refine AW.cV (pc' := 31) d_C_passed_28 rfl cv_C_187 (by decide) rfl rfl rfl (c_isPassed_f X z k o i (by omega) hn hu hm (by simpa using hb)) rfl rfl rfl rfl rfl rfl rfl ?_
      refine AW.if_eq (tgt := 44) (pc' := 34) d_C_passed_31 (by decide) rfl (fun _ => ?_) (fun h => absurd h (by decide))
      refine AW.iincN (pc' := 47) (ls' := [some (.ref 0), some (.int (nI (m))), some (.int (nI (c))), some (.int (nI (i + 1)))]) d_C_passed_44 rfl rfl rfl rfl ?_
      refine AW.goto (tgt := 18) d_C_passed_47 (by decide) ?_
      have h9 := ih (i + 1) c (by omega) hcm (by omega)
      rw [show f_psd (passB z) (n + 1) i (m - c) = f_psd (passB z) n (i + 1) (m - c) from by rw [f_psd, if_neg hb]]
      exact h9
theorem c_passed_1 (X : ct_X) (z : S_c) (k : S_m) (o : Nat → Int64) (m : Nat) (hmm : m < 2 ^ 31) (hn : c_ns z ≤ 20) (hu : c_nu z ≤ 20) (hm : c_most z ≤ 20) : AF X m_C_passed 7 0 0 [.ref 0, .int (nI (m))] (wL z k o) (.inl (some (.int (f_psd (passB z) (c_ns z) 0 m)))) (wL z k o) := by
  refine AM.of rfl (Nat.le_of_ble_eq_true rfl) (ls := [some (.ref 0), some (.int (nI (m))), none, none]) rfl ?_
  refine AW.iload_n (pc' := 1) d_C_passed_0 rfl rfl rfl ?_
  refine AW.if_ge (tgt := 14) (pc' := 4) d_C_passed_1 (by decide) rfl (fun _ => ?_) (fun h => absurd (nI_pos' (by omega)) h)
  refine AW.iconst (pc' := 15) (v := nI 0) d_C_passed_14 rfl (by decide) ?_
  refine AW.istore_n (pc' := 16) (ls' := [some (.ref 0), some (.int (nI (m))), some (.int (nI (0))), none]) d_C_passed_15 rfl rfl rfl rfl ?_
  refine AW.iconst (pc' := 17) (v := nI 0) d_C_passed_16 rfl (by decide) ?_
  refine AW.istore_n (pc' := 18) (ls' := [some (.ref 0), some (.int (nI (m))), some (.int (nI (0))), some (.int (nI (0)))]) d_C_passed_17 rfl rfl rfl rfl ?_
  exact lp_psd X z k o m hmm hn hu hm (c_ns z) 0 0 (by omega) (by omega) (by omega)
