/-! CONTRACTS of the small methods of TaskList and LeaderRows (rows printed by wip/whole/m1.py) -/
def ring (a b : Nat) : Nat := if a + b < 400 then a + b else a + b - 400
theorem ring_lt {a b : Nat} (ha : a < 400) (hb : b ≤ 400) : ring a b < 400 := by unfold ring; split <;> omega
theorem c_ringIndex (X : ct_X) (z : S_c) (k : S_m) (o : Nat → Int64) (a : Nat) (ha : a ≤ 400) (hz : r_old z < 400) : AF X m_R_ringIndex 0 0 0 [.ref 15, .int (nI (a))] (wL z k o) (.inl (some (.int (nI (ring (r_old z) a))))) (wL z k o) := by
  refine AM.of rfl (Nat.le_of_ble_eq_true rfl) (ls := [some (.ref 15), some (.int (nI (a))), none]) rfl ?_
  refine AW.aload_n (pc' := 1) d_R_ringIndex_0 rfl rfl rfl ?_
  refine AW.getf (pc' := 4) d_R_ringIndex_1 rfl fl_R_41 rfl rfl ?_
  refine AW.iload_n (pc' := 5) d_R_ringIndex_4 rfl rfl rfl ?_
  refine AW.iaddN (pc' := 6) d_R_ringIndex_5 rfl ?_
  refine AW.istore_n (pc' := 7) (ls' := [some (.ref 15), some (.int (nI (a))), some (.int (nI ((r_old z) + a)))]) d_R_ringIndex_6 rfl rfl rfl rfl ?_
  refine AW.iload_n (pc' := 8) d_R_ringIndex_7 rfl rfl rfl ?_
  refine AW.sipush (pc' := 11) (v := nI 400) d_R_ringIndex_8 rfl (by decide) ?_
  refine AW.icmp_geN (tgt := 18) (pc' := 14) d_R_ringIndex_11 (by decide) rfl (by omega) (by omega) (fun h11 => ?_) (fun h11 => ?_)
  · refine AW.iload_n (pc' := 19) d_R_ringIndex_18 rfl rfl rfl ?_
    refine AW.sipush (pc' := 22) (v := nI 400) d_R_ringIndex_19 rfl (by decide) ?_
    refine AW.isubN (pc' := 23) d_R_ringIndex_22 rfl (by omega) ?_
    exact AW.iret d_R_ringIndex_23 rfl rfl rfl ⟨by simp only [ring]; rw [if_neg (by omega)], rfl⟩
  · refine AW.iload_n (pc' := 15) d_R_ringIndex_14 rfl rfl rfl ?_
    refine AW.goto (tgt := 23) d_R_ringIndex_15 (by decide) ?_
    exact AW.iret d_R_ringIndex_23 rfl rfl rfl ⟨by simp only [ring]; rw [if_pos (by omega)], rfl⟩
theorem c_dropOldest (X : ct_X) (z : S_c) (k : S_m) (o : Nat → Int64) (j t : Nat) (hz : r_old z < 400) (hj : j < 20) (ej : r_num z (r_old z) = nI j) (et : r_sec z (r_old z) = nI t) (hn : 1 ≤ r_n z) : AF X m_R_dropOldest 1 0 0 [.ref 15] (wL z k o) (.inl none) (wL (r_n_ (r_old_ (r_drop_ (r_bef_ z (upd (r_bef z) j (r_led z (r_old z)))) t) (ring (r_old z) 1)) (r_n z - 1)) k o) := by
  refine AM.of rfl (Nat.le_of_ble_eq_true rfl) (ls := [some (.ref 15)]) rfl ?_
  refine AW.aload_n (pc' := 1) d_R_dropOldest_0 rfl rfl rfl ?_
  refine AW.getf (pc' := 4) d_R_dropOldest_1 rfl fl_R_21 rfl rfl ?_
  refine AW.aload_n (pc' := 5) d_R_dropOldest_4 rfl rfl rfl ?_
  refine AW.getf (pc' := 8) d_R_dropOldest_5 rfl fl_R_15 rfl rfl ?_
  refine AW.aload_n (pc' := 9) d_R_dropOldest_8 rfl rfl rfl ?_
  refine AW.getf (pc' := 12) d_R_dropOldest_9 rfl fl_R_41 rfl rfl ?_
  refine AW.ialdN (pc' := 13) d_R_dropOldest_12 rfl rfl (by omega) (by decide) ?_
  refine AW.top (u := .int (nI j)) (by rw [ej]) ?_
  refine AW.aload_n (pc' := 14) d_R_dropOldest_13 rfl rfl rfl ?_
  refine AW.getf (pc' := 17) d_R_dropOldest_14 rfl fl_R_18 rfl rfl ?_
  refine AW.aload_n (pc' := 18) d_R_dropOldest_17 rfl rfl rfl ?_
  refine AW.getf (pc' := 21) d_R_dropOldest_18 rfl fl_R_41 rfl rfl ?_
  refine AW.ialdN (pc' := 22) d_R_dropOldest_21 rfl rfl (by omega) (by decide) ?_
  refine AW.iastN (pc' := 23) (w' := (wL (r_bef_ z (upd (r_bef z) j ((r_led z) (r_old z)))) k o)) d_R_dropOldest_22 rfl rfl (by omega) (by decide) rfl ?_
  refine AW.aload_n (pc' := 24) d_R_dropOldest_23 rfl rfl rfl ?_
  refine AW.aload_n (pc' := 25) d_R_dropOldest_24 rfl rfl rfl ?_
  refine AW.getf (pc' := 28) d_R_dropOldest_25 rfl fl_R_9 rfl rfl ?_
  refine AW.aload_n (pc' := 29) d_R_dropOldest_28 rfl rfl rfl ?_
  refine AW.getf (pc' := 32) d_R_dropOldest_29 rfl fl_R_41 rfl rfl ?_
  refine AW.top (u := .int (nI (r_old z))) rfl ?_
  refine AW.ialdN (pc' := 33) d_R_dropOldest_32 rfl rfl (by omega) (by decide) ?_
  refine AW.top (u := .int (nI t)) (by show Value.int (r_sec z (r_old z)) = _; rw [et]) ?_
  refine AW.putf (pc' := 36) (w' := (wL (r_drop_ (r_bef_ z (upd (r_bef z) j ((r_led z) (r_old z)))) (t)) k o)) d_R_dropOldest_33 rfl fp_R_44 rfl rfl (fun _ => ⟨rfl, rfl⟩) rfl rfl ?_
  refine AW.aload_n (pc' := 37) d_R_dropOldest_36 rfl rfl rfl ?_
  refine AW.aload_n (pc' := 38) d_R_dropOldest_37 rfl rfl rfl ?_
  refine AW.iconst (pc' := 39) (v := nI 1) d_R_dropOldest_38 rfl (by decide) ?_
  refine AW.cV (pc' := 42) d_R_dropOldest_39 rfl cv_R_37 (by decide) rfl rfl rfl (c_ringIndex X (r_drop_ (r_bef_ z (upd (r_bef z) j ((r_led z) (r_old z)))) (t)) k o 1 (by decide) hz) rfl rfl rfl rfl rfl rfl rfl ?_
  refine AW.putf (pc' := 45) (w' := (wL (r_old_ (r_drop_ (r_bef_ z (upd (r_bef z) j ((r_led z) (r_old z)))) (t)) (ring (r_old z) 1)) k o)) d_R_dropOldest_42 rfl fp_R_41 rfl rfl (fun _ => ⟨rfl, rfl⟩) rfl rfl ?_
  refine AW.aload_n (pc' := 46) d_R_dropOldest_45 rfl rfl rfl ?_
  refine AW.dup (pc' := 47) d_R_dropOldest_46 rfl rfl ?_
  refine AW.getf (pc' := 50) d_R_dropOldest_47 rfl fl_R_30 rfl rfl ?_
  refine AW.top (u := .int (nI (r_n z))) rfl ?_
  refine AW.iconst (pc' := 51) (v := nI 1) d_R_dropOldest_50 rfl (by decide) ?_
  refine AW.isubN (pc' := 52) d_R_dropOldest_51 rfl (by omega) ?_
  refine AW.putf (pc' := 55) (w' := (wL (r_n_ (r_old_ (r_drop_ (r_bef_ z (upd (r_bef z) j ((r_led z) (r_old z)))) (t)) (ring (r_old z) 1)) ((r_n z) - 1)) k o)) d_R_dropOldest_52 rfl fp_R_30 rfl rfl (fun _ => ⟨rfl, rfl⟩) rfl rfl ?_
  exact AW.vret d_R_dropOldest_55 rfl rfl rfl ⟨rfl, rfl⟩
theorem c_note_s (X : ct_X) (z : S_c) (k : S_m) (o : Nat → Int64) (t : Nat) (s p : Int32) (hz' : r_old z < 400) (hn : r_n z < 400) : AF X m_R_note 2 0 0 [.ref 15, .int (nI (t)), .int (s), .int (p)] (wL z k o) (.inl none) (wL (r_n_ (r_led_ (r_num_ (r_sec_ z (upd (r_sec z) (ring (r_old z) (r_n z)) (nI t))) (upd (r_num z) (ring (r_old z) (r_n z)) s)) (upd (r_led z) (ring (r_old z) (r_n z)) p)) (r_n z + 1)) k o) := by
  refine AM.of rfl (Nat.le_of_ble_eq_true rfl) (ls := [some (.ref 15), some (.int (nI (t))), some (.int (s)), some (.int (p)), none]) rfl ?_
  refine AW.aload_n (pc' := 1) d_R_note_0 rfl rfl rfl ?_
  refine AW.getf (pc' := 4) d_R_note_1 rfl fl_R_30 rfl rfl ?_
  refine AW.sipush (pc' := 7) (v := nI 400) d_R_note_4 rfl (by decide) ?_
  refine AW.icmp_ltN (tgt := 14) (pc' := 10) d_R_note_7 (by decide) rfl (by omega) (by omega) (fun _ => ?_) (fun h => absurd h (by omega))
  refine AW.aload_n (pc' := 15) d_R_note_14 rfl rfl rfl ?_
  refine AW.aload_n (pc' := 16) d_R_note_15 rfl rfl rfl ?_
  refine AW.getf (pc' := 19) d_R_note_16 rfl fl_R_30 rfl rfl ?_
  refine AW.cV (pc' := 22) d_R_note_19 rfl cv_R_37 (by decide) rfl rfl rfl (c_ringIndex X z k o (r_n z) (by omega) hz') rfl rfl rfl rfl rfl rfl rfl ?_
  refine AW.istore (pc' := 24) (ls' := [some (.ref 15), some (.int (nI (t))), some (.int (s)), some (.int (p)), some (.int (nI (ring (r_old z) (r_n z))))]) d_R_note_22 rfl rfl rfl ?_
  refine AW.aload_n (pc' := 25) d_R_note_24 rfl rfl rfl ?_
  refine AW.getf (pc' := 28) d_R_note_25 rfl fl_R_9 rfl rfl ?_
  refine AW.iload (pc' := 30) d_R_note_28 rfl rfl ?_
  refine AW.iload_n (pc' := 31) d_R_note_30 rfl rfl rfl ?_
  refine AW.iastN (pc' := 32) (w' := (wL (r_sec_ z (upd (r_sec z) (ring (r_old z) (r_n z)) (nI (t)))) k o)) d_R_note_31 rfl rfl (ring_lt hz' (by omega)) (by decide) rfl ?_
  refine AW.aload_n (pc' := 33) d_R_note_32 rfl rfl rfl ?_
  refine AW.getf (pc' := 36) d_R_note_33 rfl fl_R_15 rfl rfl ?_
  refine AW.iload (pc' := 38) d_R_note_36 rfl rfl ?_
  refine AW.iload_n (pc' := 39) d_R_note_38 rfl rfl rfl ?_
  refine AW.iastN (pc' := 40) (w' := (wL (r_num_ (r_sec_ z (upd (r_sec z) (ring (r_old z) (r_n z)) (nI (t)))) (upd (r_num z) (ring (r_old z) (r_n z)) s)) k o)) d_R_note_39 rfl rfl (ring_lt hz' (by omega)) (by decide) rfl ?_
  refine AW.aload_n (pc' := 41) d_R_note_40 rfl rfl rfl ?_
  refine AW.getf (pc' := 44) d_R_note_41 rfl fl_R_18 rfl rfl ?_
  refine AW.iload (pc' := 46) d_R_note_44 rfl rfl ?_
  refine AW.iload_n (pc' := 47) d_R_note_46 rfl rfl rfl ?_
  refine AW.iastN (pc' := 48) (w' := (wL (r_led_ (r_num_ (r_sec_ z (upd (r_sec z) (ring (r_old z) (r_n z)) (nI (t)))) (upd (r_num z) (ring (r_old z) (r_n z)) s)) (upd (r_led z) (ring (r_old z) (r_n z)) p)) k o)) d_R_note_47 rfl rfl (ring_lt hz' (by omega)) (by decide) rfl ?_
  refine AW.aload_n (pc' := 49) d_R_note_48 rfl rfl rfl ?_
  refine AW.dup (pc' := 50) d_R_note_49 rfl rfl ?_
  refine AW.getf (pc' := 53) d_R_note_50 rfl fl_R_30 rfl rfl ?_
  refine AW.top (u := .int (nI (r_n z))) rfl ?_
  refine AW.iconst (pc' := 54) (v := nI 1) d_R_note_53 rfl (by decide) ?_
  refine AW.iaddN (pc' := 55) d_R_note_54 rfl ?_
  refine AW.putf (pc' := 58) (w' := (wL (r_n_ (r_led_ (r_num_ (r_sec_ z (upd (r_sec z) (ring (r_old z) (r_n z)) (nI (t)))) (upd (r_num z) (ring (r_old z) (r_n z)) s)) (upd (r_led z) (ring (r_old z) (r_n z)) p)) ((r_n z) + 1)) k o)) d_R_note_55 rfl fp_R_30 rfl rfl (fun _ => ⟨rfl, rfl⟩) rfl rfl ?_
  exact AW.vret d_R_note_58 rfl rfl rfl ⟨rfl, rfl⟩
theorem c_reach_t (X : ct_X) (z : S_c) (k : S_m) (o : Nat → Int64) (t : Nat) (ht : t < 2 ^ 31) (hd : r_drop z ≤ t) : AF X m_R_reachBackTo 0 0 0 [.ref 15, .int (nI (t))] (wL z k o) (.inl (some (.int (nI 1)))) (wL z k o) := by
  refine AM.of rfl (Nat.le_of_ble_eq_true rfl) (ls := [some (.ref 15), some (.int (nI (t)))]) rfl ?_
  refine AW.iload_n (pc' := 1) d_R_reachBackTo_0 rfl rfl rfl ?_
  refine AW.aload_n (pc' := 2) d_R_reachBackTo_1 rfl rfl rfl ?_
  refine AW.getf (pc' := 5) d_R_reachBackTo_2 rfl fl_R_44 rfl rfl ?_
  refine AW.icmp_ltN (tgt := 12) (pc' := 8) d_R_reachBackTo_5 (by decide) rfl (by omega) (by omega) (fun h => absurd h (by omega)) (fun h5 => ?_)
  refine AW.iconst (pc' := 9) (v := nI 1) d_R_reachBackTo_8 rfl (by decide) ?_
  refine AW.goto (tgt := 13) d_R_reachBackTo_9 (by decide) ?_
  exact AW.zret d_R_reachBackTo_13 rfl (by decide) rfl rfl ⟨rfl, rfl⟩
theorem c_reach_f (X : ct_X) (z : S_c) (k : S_m) (o : Nat → Int64) (t : Nat) (ht : r_drop z < 2 ^ 31) (hd : t < r_drop z) : AF X m_R_reachBackTo 0 0 0 [.ref 15, .int (nI (t))] (wL z k o) (.inl (some (.int (nI 0)))) (wL z k o) := by
  refine AM.of rfl (Nat.le_of_ble_eq_true rfl) (ls := [some (.ref 15), some (.int (nI (t)))]) rfl ?_
  refine AW.iload_n (pc' := 1) d_R_reachBackTo_0 rfl rfl rfl ?_
  refine AW.aload_n (pc' := 2) d_R_reachBackTo_1 rfl rfl rfl ?_
  refine AW.getf (pc' := 5) d_R_reachBackTo_2 rfl fl_R_44 rfl rfl ?_
  refine AW.icmp_ltN (tgt := 12) (pc' := 8) d_R_reachBackTo_5 (by decide) rfl (by omega) (by omega) (fun h5 => ?_) (fun h => absurd h (by omega))
  refine AW.iconst (pc' := 13) (v := nI 0) d_R_reachBackTo_12 rfl (by decide) ?_
  exact AW.zret d_R_reachBackTo_13 rfl (by decide) rfl rfl ⟨rfl, rfl⟩
theorem c_isFull_t (X : ct_X) (z : S_c) (k : S_m) (o : Nat → Int64) (h : 60 ≤ t_n z) (h2 : t_n z < 2 ^ 31) : AF X m_T_isFull 0 0 0 [.ref 10] (wL z k o) (.inl (some (.int (nI 1)))) (wL z k o) := by
  refine AM.of rfl (Nat.le_of_ble_eq_true rfl) (ls := [some (.ref 10)]) rfl ?_
  refine AW.aload_n (pc' := 1) d_T_isFull_0 rfl rfl rfl ?_
  refine AW.getf (pc' := 4) d_T_isFull_1 rfl fl_T_30 rfl rfl ?_
  refine AW.bipush (pc' := 6) (v := nI 60) d_T_isFull_4 rfl (by decide) ?_
  refine AW.icmp_ltN (tgt := 13) (pc' := 9) d_T_isFull_6 (by decide) rfl (by omega) (by omega) (fun h => absurd h (by omega)) (fun h6 => ?_)
  refine AW.iconst (pc' := 10) (v := nI 1) d_T_isFull_9 rfl (by decide) ?_
  refine AW.goto (tgt := 14) d_T_isFull_10 (by decide) ?_
  exact AW.zret d_T_isFull_14 rfl (by decide) rfl rfl ⟨rfl, rfl⟩
theorem c_isFull_f (X : ct_X) (z : S_c) (k : S_m) (o : Nat → Int64) (h : t_n z < 60) : AF X m_T_isFull 0 0 0 [.ref 10] (wL z k o) (.inl (some (.int (nI 0)))) (wL z k o) := by
  refine AM.of rfl (Nat.le_of_ble_eq_true rfl) (ls := [some (.ref 10)]) rfl ?_
  refine AW.aload_n (pc' := 1) d_T_isFull_0 rfl rfl rfl ?_
  refine AW.getf (pc' := 4) d_T_isFull_1 rfl fl_T_30 rfl rfl ?_
  refine AW.bipush (pc' := 6) (v := nI 60) d_T_isFull_4 rfl (by decide) ?_
  refine AW.icmp_ltN (tgt := 13) (pc' := 9) d_T_isFull_6 (by decide) rfl (by omega) (by omega) (fun h6 => ?_) (fun h => absurd h (by omega))
  refine AW.iconst (pc' := 14) (v := nI 0) d_T_isFull_13 rfl (by decide) ?_
  exact AW.zret d_T_isFull_14 rfl (by decide) rfl rfl ⟨rfl, rfl⟩
theorem c_has_t (X : ct_X) (z : S_c) (k : S_m) (o : Nat → Int64) (j : Nat) (h : j < t_n z) (h2 : t_n z < 2 ^ 31) : AF X m_T_has 0 0 0 [.ref 10, .int (nI (j))] (wL z k o) (.inl (some (.int (nI 1)))) (wL z k o) := by
  refine AM.of rfl (Nat.le_of_ble_eq_true rfl) (ls := [some (.ref 10), some (.int (nI (j)))]) rfl ?_
  refine AW.iload_n (pc' := 1) d_T_has_0 rfl rfl rfl ?_
  refine AW.if_lt (tgt := 16) (pc' := 4) d_T_has_1 (by decide) rfl (fun h => absurd h (nI_pos (by omega))) (fun _ => ?_)
  refine AW.iload_n (pc' := 5) d_T_has_4 rfl rfl rfl ?_
  refine AW.aload_n (pc' := 6) d_T_has_5 rfl rfl rfl ?_
  refine AW.getf (pc' := 9) d_T_has_6 rfl fl_T_30 rfl rfl ?_
  refine AW.icmp_geN (tgt := 16) (pc' := 12) d_T_has_9 (by decide) rfl (by omega) (by omega) (fun h => absurd h (by omega)) (fun h9 => ?_)
  refine AW.iconst (pc' := 13) (v := nI 1) d_T_has_12 rfl (by decide) ?_
  refine AW.goto (tgt := 17) d_T_has_13 (by decide) ?_
  exact AW.zret d_T_has_17 rfl (by decide) rfl rfl ⟨rfl, rfl⟩
theorem c_has_f (X : ct_X) (z : S_c) (k : S_m) (o : Nat → Int64) (x : Int32) (hx : x < 0 ∨ nI (t_n z) ≤ x) : AF X m_T_has 0 0 0 [.ref 10, .int (x)] (wL z k o) (.inl (some (.int (nI 0)))) (wL z k o) := by
  refine AM.of rfl (Nat.le_of_ble_eq_true rfl) (ls := [some (.ref 10), some (.int (x))]) rfl ?_
  refine AW.iload_n (pc' := 1) d_T_has_0 rfl rfl rfl ?_
  refine AW.if_lt (tgt := 16) (pc' := 4) d_T_has_1 (by decide) rfl (fun h1 => ?_) (fun h1 => ?_)
  · refine AW.iconst (pc' := 17) (v := nI 0) d_T_has_16 rfl (by decide) ?_
    exact AW.zret d_T_has_17 rfl (by decide) rfl rfl ⟨rfl, rfl⟩
  · refine AW.iload_n (pc' := 5) d_T_has_4 rfl rfl rfl ?_
    refine AW.aload_n (pc' := 6) d_T_has_5 rfl rfl rfl ?_
    refine AW.getf (pc' := 9) d_T_has_6 rfl fl_T_30 rfl rfl ?_
    refine AW.icmp_ge (tgt := 16) (pc' := 12) d_T_has_9 (by decide) rfl (fun h9 => ?_) (fun h => (hx.elim (fun q => absurd q h1) (fun q => absurd q h)))
    refine AW.iconst (pc' := 17) (v := nI 0) d_T_has_16 rfl (by decide) ?_
    exact AW.zret d_T_has_17 rfl (by decide) rfl rfl ⟨rfl, rfl⟩
theorem c_add (X : ct_X) (z : S_c) (k : S_m) (o : Nat → Int64) (s u : Int32) (h : t_n z < 60) : AF X m_T_add 1 0 0 [.ref 10, .int (s), .int (u)] (wL z k o) (.inl (some (.int (nI (t_n z))))) (wL (t_n_ (t_unt_ (t_sec_ z (upd (t_sec z) (t_n z) s)) (upd (t_unt z) (t_n z) u)) (t_n z + 1)) k o) := by
  refine AM.of rfl (Nat.le_of_ble_eq_true rfl) (ls := [some (.ref 10), some (.int (s)), some (.int (u)), none]) rfl ?_
  refine AW.aload_n (pc' := 1) d_T_add_0 rfl rfl rfl ?_
  refine AW.cV (pc' := 4) d_T_add_1 rfl cv_T_34 (by decide) rfl rfl rfl (c_isFull_f X z k o h) rfl rfl rfl rfl rfl rfl rfl ?_
  refine AW.if_eq (tgt := 9) (pc' := 7) d_T_add_4 (by decide) rfl (fun _ => ?_) (fun h => absurd h (by decide))
  refine AW.aload_n (pc' := 10) d_T_add_9 rfl rfl rfl ?_
  refine AW.getf (pc' := 13) d_T_add_10 rfl fl_T_30 rfl rfl ?_
  refine AW.istore_n (pc' := 14) (ls' := [some (.ref 10), some (.int (s)), some (.int (u)), some (.int (nI (t_n z)))]) d_T_add_13 rfl rfl rfl rfl ?_
  refine AW.aload_n (pc' := 15) d_T_add_14 rfl rfl rfl ?_
  refine AW.getf (pc' := 18) d_T_add_15 rfl fl_T_9 rfl rfl ?_
  refine AW.iload_n (pc' := 19) d_T_add_18 rfl rfl rfl ?_
  refine AW.iload_n (pc' := 20) d_T_add_19 rfl rfl rfl ?_
  refine AW.iastN (pc' := 21) (w' := (wL (t_sec_ z (upd (t_sec z) (t_n z) s)) k o)) d_T_add_20 rfl rfl (by omega) (by decide) rfl ?_
  refine AW.aload_n (pc' := 22) d_T_add_21 rfl rfl rfl ?_
  refine AW.getf (pc' := 25) d_T_add_22 rfl fl_T_15 rfl rfl ?_
  refine AW.iload_n (pc' := 26) d_T_add_25 rfl rfl rfl ?_
  refine AW.iload_n (pc' := 27) d_T_add_26 rfl rfl rfl ?_
  refine AW.iastN (pc' := 28) (w' := (wL (t_unt_ (t_sec_ z (upd (t_sec z) (t_n z) s)) (upd (t_unt z) (t_n z) u)) k o)) d_T_add_27 rfl rfl (by omega) (by decide) rfl ?_
  refine AW.aload_n (pc' := 29) d_T_add_28 rfl rfl rfl ?_
  refine AW.dup (pc' := 30) d_T_add_29 rfl rfl ?_
  refine AW.getf (pc' := 33) d_T_add_30 rfl fl_T_30 rfl rfl ?_
  refine AW.top (u := .int (nI (t_n z))) rfl ?_
  refine AW.iconst (pc' := 34) (v := nI 1) d_T_add_33 rfl (by decide) ?_
  refine AW.iaddN (pc' := 35) d_T_add_34 rfl ?_
  refine AW.putf (pc' := 38) (w' := (wL (t_n_ (t_unt_ (t_sec_ z (upd (t_sec z) (t_n z) s)) (upd (t_unt z) (t_n z) u)) ((t_n z) + 1)) k o)) d_T_add_35 rfl fp_T_30 rfl rfl (fun _ => ⟨rfl, rfl⟩) rfl rfl ?_
  refine AW.iload_n (pc' := 39) d_T_add_38 rfl rfl rfl ?_
  exact AW.iret d_T_add_39 rfl rfl rfl ⟨rfl, rfl⟩
theorem c_isAnswered_t (X : ct_X) (z : S_c) (k : S_m) (o : Nat → Int64) (j : Nat) (h : j < 60) (h2 : ¬ t_rep z j = 0) : AF X m_T_isAnswered 0 0 0 [.ref 10, .int (nI (j))] (wL z k o) (.inl (some (.int (nI 1)))) (wL z k o) := by
  refine AM.of rfl (Nat.le_of_ble_eq_true rfl) (ls := [some (.ref 10), some (.int (nI (j)))]) rfl ?_
  refine AW.aload_n (pc' := 1) d_T_isAnswered_0 rfl rfl rfl ?_
  refine AW.getf (pc' := 4) d_T_isAnswered_1 rfl fl_T_18 rfl rfl ?_
  refine AW.iload_n (pc' := 5) d_T_isAnswered_4 rfl rfl rfl ?_
  refine AW.ialdN (pc' := 6) d_T_isAnswered_5 rfl rfl (by omega) (by decide) ?_
  refine AW.if_eq (tgt := 13) (pc' := 9) d_T_isAnswered_6 (by decide) rfl (fun h => absurd h h2) (fun h6 => ?_)
  refine AW.iconst (pc' := 10) (v := nI 1) d_T_isAnswered_9 rfl (by decide) ?_
  refine AW.goto (tgt := 14) d_T_isAnswered_10 (by decide) ?_
  exact AW.zret d_T_isAnswered_14 rfl (by decide) rfl rfl ⟨rfl, rfl⟩
theorem c_isAnswered_f (X : ct_X) (z : S_c) (k : S_m) (o : Nat → Int64) (j : Nat) (h : j < 60) (h2 : t_rep z j = 0) : AF X m_T_isAnswered 0 0 0 [.ref 10, .int (nI (j))] (wL z k o) (.inl (some (.int (nI 0)))) (wL z k o) := by
  refine AM.of rfl (Nat.le_of_ble_eq_true rfl) (ls := [some (.ref 10), some (.int (nI (j)))]) rfl ?_
  refine AW.aload_n (pc' := 1) d_T_isAnswered_0 rfl rfl rfl ?_
  refine AW.getf (pc' := 4) d_T_isAnswered_1 rfl fl_T_18 rfl rfl ?_
  refine AW.iload_n (pc' := 5) d_T_isAnswered_4 rfl rfl rfl ?_
  refine AW.ialdN (pc' := 6) d_T_isAnswered_5 rfl rfl (by omega) (by decide) ?_
  refine AW.if_eq (tgt := 13) (pc' := 9) d_T_isAnswered_6 (by decide) rfl (fun h6 => ?_) (fun h => absurd h2 h)
  refine AW.iconst (pc' := 14) (v := nI 0) d_T_isAnswered_13 rfl (by decide) ?_
  exact AW.zret d_T_isAnswered_14 rfl (by decide) rfl rfl ⟨rfl, rfl⟩
theorem c_setAnswer_t (X : ct_X) (z : S_c) (k : S_m) (o : Nat → Int64) (j t : Nat) (h : j < 60) : AF X m_T_setAnswer 0 0 0 [.ref 10, .int (nI (j)), .int (nI (1)), .int (nI (t))] (wL z k o) (.inl none) (wL (t_at_ (t_rep_ z (upd (t_rep z) j (nI 1))) (upd (t_at z) j (nI t))) k o) := by
  refine AM.of rfl (Nat.le_of_ble_eq_true rfl) (ls := [some (.ref 10), some (.int (nI (j))), some (.int (nI (1))), some (.int (nI (t)))]) rfl ?_
  refine AW.aload_n (pc' := 1) d_T_setAnswer_0 rfl rfl rfl ?_
  refine AW.getf (pc' := 4) d_T_setAnswer_1 rfl fl_T_18 rfl rfl ?_
  refine AW.iload_n (pc' := 5) d_T_setAnswer_4 rfl rfl rfl ?_
  refine AW.iload_n (pc' := 6) d_T_setAnswer_5 rfl rfl rfl ?_
  refine AW.if_eq (tgt := 13) (pc' := 9) d_T_setAnswer_6 (by decide) rfl (fun h => absurd h (by decide)) (fun _ => ?_)
  refine AW.iconst (pc' := 10) (v := nI 1) d_T_setAnswer_9 rfl (by decide) ?_
  refine AW.goto (tgt := 14) d_T_setAnswer_10 (by decide) ?_
  refine AW.iastN (pc' := 15) (w' := (wL (t_rep_ z (upd (t_rep z) j (nI (1)))) k o)) d_T_setAnswer_14 rfl rfl (by omega) (by decide) rfl ?_
  refine AW.aload_n (pc' := 16) d_T_setAnswer_15 rfl rfl rfl ?_
  refine AW.getf (pc' := 19) d_T_setAnswer_16 rfl fl_T_21 rfl rfl ?_
  refine AW.iload_n (pc' := 20) d_T_setAnswer_19 rfl rfl rfl ?_
  refine AW.iload_n (pc' := 21) d_T_setAnswer_20 rfl rfl rfl ?_
  refine AW.iastN (pc' := 22) (w' := (wL (t_at_ (t_rep_ z (upd (t_rep z) j (nI (1)))) (upd (t_at z) j (nI (t)))) k o)) d_T_setAnswer_21 rfl rfl (by omega) (by decide) rfl ?_
  exact AW.vret d_T_setAnswer_22 rfl rfl rfl ⟨rfl, rfl⟩
theorem c_setAnswer_f (X : ct_X) (z : S_c) (k : S_m) (o : Nat → Int64) (j t : Nat) (h : j < 60) : AF X m_T_setAnswer 0 0 0 [.ref 10, .int (nI (j)), .int (nI (0)), .int (nI (t))] (wL z k o) (.inl none) (wL (t_at_ (t_rep_ z (upd (t_rep z) j (nI 2))) (upd (t_at z) j (nI t))) k o) := by
  refine AM.of rfl (Nat.le_of_ble_eq_true rfl) (ls := [some (.ref 10), some (.int (nI (j))), some (.int (nI (0))), some (.int (nI (t)))]) rfl ?_
  refine AW.aload_n (pc' := 1) d_T_setAnswer_0 rfl rfl rfl ?_
  refine AW.getf (pc' := 4) d_T_setAnswer_1 rfl fl_T_18 rfl rfl ?_
  refine AW.iload_n (pc' := 5) d_T_setAnswer_4 rfl rfl rfl ?_
  refine AW.iload_n (pc' := 6) d_T_setAnswer_5 rfl rfl rfl ?_
  refine AW.if_eq (tgt := 13) (pc' := 9) d_T_setAnswer_6 (by decide) rfl (fun _ => ?_) (fun h => absurd h (by decide))
  refine AW.iconst (pc' := 14) (v := nI 2) d_T_setAnswer_13 rfl (by decide) ?_
  refine AW.iastN (pc' := 15) (w' := (wL (t_rep_ z (upd (t_rep z) j (nI (2)))) k o)) d_T_setAnswer_14 rfl rfl (by omega) (by decide) rfl ?_
  refine AW.aload_n (pc' := 16) d_T_setAnswer_15 rfl rfl rfl ?_
  refine AW.getf (pc' := 19) d_T_setAnswer_16 rfl fl_T_21 rfl rfl ?_
  refine AW.iload_n (pc' := 20) d_T_setAnswer_19 rfl rfl rfl ?_
  refine AW.iload_n (pc' := 21) d_T_setAnswer_20 rfl rfl rfl ?_
  refine AW.iastN (pc' := 22) (w' := (wL (t_at_ (t_rep_ z (upd (t_rep z) j (nI (2)))) (upd (t_at z) j (nI (t)))) k o)) d_T_setAnswer_21 rfl rfl (by omega) (by decide) rfl ?_
  exact AW.vret d_T_setAnswer_22 rfl rfl rfl ⟨rfl, rfl⟩
theorem c_sectorOf (X : ct_X) (z : S_c) (k : S_m) (o : Nat → Int64) (j : Nat) (h : j < 60) : AF X m_T_sectorOf 0 0 0 [.ref 10, .int (nI (j))] (wL z k o) (.inl (some (.int (t_sec z j)))) (wL z k o) := by
  refine AM.of rfl (Nat.le_of_ble_eq_true rfl) (ls := [some (.ref 10), some (.int (nI (j)))]) rfl ?_
  refine AW.aload_n (pc' := 1) d_T_sectorOf_0 rfl rfl rfl ?_
  refine AW.getf (pc' := 4) d_T_sectorOf_1 rfl fl_T_9 rfl rfl ?_
  refine AW.iload_n (pc' := 5) d_T_sectorOf_4 rfl rfl rfl ?_
  refine AW.ialdN (pc' := 6) d_T_sectorOf_5 rfl rfl (by omega) (by decide) ?_
  exact AW.iret d_T_sectorOf_6 rfl rfl rfl ⟨rfl, rfl⟩
theorem c_answeredAt (X : ct_X) (z : S_c) (k : S_m) (o : Nat → Int64) (j : Nat) (h : j < 60) : AF X m_T_answeredAt 0 0 0 [.ref 10, .int (nI (j))] (wL z k o) (.inl (some (.int (t_at z j)))) (wL z k o) := by
  refine AM.of rfl (Nat.le_of_ble_eq_true rfl) (ls := [some (.ref 10), some (.int (nI (j)))]) rfl ?_
  refine AW.aload_n (pc' := 1) d_T_answeredAt_0 rfl rfl rfl ?_
  refine AW.getf (pc' := 4) d_T_answeredAt_1 rfl fl_T_21 rfl rfl ?_
  refine AW.iload_n (pc' := 5) d_T_answeredAt_4 rfl rfl rfl ?_
  refine AW.ialdN (pc' := 6) d_T_answeredAt_5 rfl rfl (by omega) (by decide) ?_
  exact AW.iret d_T_answeredAt_6 rfl rfl rfl ⟨rfl, rfl⟩
/-- what a task is at the second t -/
def f_state (z : S_c) (j t : Nat) : Int32 := if t_rep z j = 0 then (if t_unt z j < nI t then nI 3 else nI 0) else t_rep z j
theorem c_stateOf_0 (X : ct_X) (z : S_c) (k : S_m) (o : Nat → Int64) (j t : Nat) (h : j < 60) (h2 : t_rep z j = 0) : AF X m_T_stateOf 1 0 0 [.ref 10, .int (nI (j)), .int (nI (t))] (wL z k o) (.inl (some (.int (f_state z j t)))) (wL z k o) := by
  refine AM.of rfl (Nat.le_of_ble_eq_true rfl) (ls := [some (.ref 10), some (.int (nI (j))), some (.int (nI (t)))]) rfl ?_
  refine AW.aload_n (pc' := 1) d_T_stateOf_0 rfl rfl rfl ?_
  refine AW.iload_n (pc' := 2) d_T_stateOf_1 rfl rfl rfl ?_
  refine AW.cV (pc' := 5) d_T_stateOf_2 rfl cv_T_38 (by decide) rfl rfl rfl (c_isAnswered_f X z k o j h h2) rfl rfl rfl rfl rfl rfl rfl ?_
  refine AW.if_eq (tgt := 15) (pc' := 8) d_T_stateOf_5 (by decide) rfl (fun _ => ?_) (fun h => absurd h (by decide))
  refine AW.iload_n (pc' := 16) d_T_stateOf_15 rfl rfl rfl ?_
  refine AW.aload_n (pc' := 17) d_T_stateOf_16 rfl rfl rfl ?_
  refine AW.getf (pc' := 20) d_T_stateOf_17 rfl fl_T_15 rfl rfl ?_
  refine AW.iload_n (pc' := 21) d_T_stateOf_20 rfl rfl rfl ?_
  refine AW.ialdN (pc' := 22) d_T_stateOf_21 rfl rfl (by omega) (by decide) ?_
  refine AW.icmp_le (tgt := 29) (pc' := 25) d_T_stateOf_22 (by decide) rfl (fun h22 => ?_) (fun h22 => ?_)
  · refine AW.iconst (pc' := 30) (v := nI 0) d_T_stateOf_29 rfl (by decide) ?_
    exact AW.iret d_T_stateOf_30 rfl rfl rfl ⟨by simp only [f_state]; first | rw [if_pos h2, if_pos (Int32.not_le.mp h22)] | rw [if_pos h2, if_neg (Int32.not_lt.mpr h22)], rfl⟩
  · refine AW.iconst (pc' := 26) (v := nI 3) d_T_stateOf_25 rfl (by decide) ?_
    refine AW.goto (tgt := 30) d_T_stateOf_26 (by decide) ?_
    exact AW.iret d_T_stateOf_30 rfl rfl rfl ⟨by simp only [f_state]; first | rw [if_pos h2, if_pos (Int32.not_le.mp h22)] | rw [if_pos h2, if_neg (Int32.not_lt.mpr h22)], rfl⟩
theorem c_stateOf_1 (X : ct_X) (z : S_c) (k : S_m) (o : Nat → Int64) (j t : Nat) (h : j < 60) (h2 : ¬ t_rep z j = 0) : AF X m_T_stateOf 1 0 0 [.ref 10, .int (nI (j)), .int (nI (t))] (wL z k o) (.inl (some (.int (f_state z j t)))) (wL z k o) := by
  refine AM.of rfl (Nat.le_of_ble_eq_true rfl) (ls := [some (.ref 10), some (.int (nI (j))), some (.int (nI (t)))]) rfl ?_
  refine AW.aload_n (pc' := 1) d_T_stateOf_0 rfl rfl rfl ?_
  refine AW.iload_n (pc' := 2) d_T_stateOf_1 rfl rfl rfl ?_
  refine AW.cV (pc' := 5) d_T_stateOf_2 rfl cv_T_38 (by decide) rfl rfl rfl (c_isAnswered_t X z k o j h h2) rfl rfl rfl rfl rfl rfl rfl ?_
  refine AW.if_eq (tgt := 15) (pc' := 8) d_T_stateOf_5 (by decide) rfl (fun h => absurd h (by decide)) (fun _ => ?_)
  refine AW.aload_n (pc' := 9) d_T_stateOf_8 rfl rfl rfl ?_
  refine AW.getf (pc' := 12) d_T_stateOf_9 rfl fl_T_18 rfl rfl ?_
  refine AW.iload_n (pc' := 13) d_T_stateOf_12 rfl rfl rfl ?_
  refine AW.ialdN (pc' := 14) d_T_stateOf_13 rfl rfl (by omega) (by decide) ?_
  exact AW.iret d_T_stateOf_14 rfl rfl rfl ⟨by simp only [f_state]; rw [if_neg h2], rfl⟩
theorem c_stateOf (X : ct_X) (z : S_c) (k : S_m) (o : Nat → Int64) (j t : Nat) (h : j < 60) : AF X m_T_stateOf 1 0 0 [.ref 10, .int (nI (j)), .int (nI (t))] (wL z k o) (.inl (some (.int (f_state z j t)))) (wL z k o) := by
  by_cases h2 : t_rep z j = 0
  · exact c_stateOf_0 X z k o j t h h2
  · exact c_stateOf_1 X z k o j t h h2
