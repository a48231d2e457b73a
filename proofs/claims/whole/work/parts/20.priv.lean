/-! CONTRACTS of the class's own private methods (rows printed by wip/whole/m2.py) -/
theorem c_reqPerson_ok (X : ct_X) (z : S_c) (k : S_m) (o : Nat → Int64) (j : Nat) (h : j < c_np z) (h2 : c_np z < 2 ^ 31) : AF X m_C_requirePerson 6 0 0 [.ref 0, .int (nI (j))] (wL z k o) (.inl none) (wL z k o) := by
  refine AM.of rfl (Nat.le_of_ble_eq_true rfl) (ls := [some (.ref 0), some (.int (nI (j)))]) rfl ?_
  refine AW.iload_n (pc' := 1) d_C_requirePerson_0 rfl rfl rfl ?_
  refine AW.if_lt (tgt := 12) (pc' := 4) d_C_requirePerson_1 (by decide) rfl (fun h => absurd h (nI_pos (by omega))) (fun _ => ?_)
  refine AW.iload_n (pc' := 5) d_C_requirePerson_4 rfl rfl rfl ?_
  refine AW.aload_n (pc' := 6) d_C_requirePerson_5 rfl rfl rfl ?_
  refine AW.getf (pc' := 9) d_C_requirePerson_6 rfl fl_C_72 rfl rfl ?_
  refine AW.icmp_ltN (tgt := 22) (pc' := 12) d_C_requirePerson_9 (by decide) rfl (by omega) (by omega) (fun h9 => ?_) (fun h => absurd h (by omega))
  exact AW.vret d_C_requirePerson_22 rfl rfl rfl ⟨rfl, rfl⟩
theorem c_reqPerson_no (X : ct_X) (z : S_c) (k : S_m) (o : Nat → Int64) (x : Int32) (hx : x < 0 ∨ nI (c_np z) ≤ x) : AF X m_C_requirePerson 6 0 0 [.ref 0, .int (x)] (wL z k o) (.inr 2) (wL z k o) := by
  refine AM.of rfl (Nat.le_of_ble_eq_true rfl) (ls := [some (.ref 0), some (.int (x))]) rfl ?_
  refine AW.iload_n (pc' := 1) d_C_requirePerson_0 rfl rfl rfl ?_
  refine AW.if_lt (tgt := 12) (pc' := 4) d_C_requirePerson_1 (by decide) rfl (fun h1 => ?_) (fun h1 => ?_)
  · exact AW.throwS (x := 2) d_C_requirePerson_12 d_C_requirePerson_15 d_C_requirePerson_16 d_C_requirePerson_18 d_C_requirePerson_21 cl_C_212 ini_java_lang_IllegalArgumentException sr_C_228 thr_2 rfl (by decide) rfl rfl rfl ⟨rfl, rfl⟩
  · refine AW.iload_n (pc' := 5) d_C_requirePerson_4 rfl rfl rfl ?_
    refine AW.aload_n (pc' := 6) d_C_requirePerson_5 rfl rfl rfl ?_
    refine AW.getf (pc' := 9) d_C_requirePerson_6 rfl fl_C_72 rfl rfl ?_
    refine AW.icmp_lt (tgt := 22) (pc' := 12) d_C_requirePerson_9 (by decide) rfl (fun h => hx.elim (fun q => absurd q h1) (fun q => absurd h (Int32.not_lt.mpr q))) (fun h9 => ?_)
    exact AW.throwS (x := 2) d_C_requirePerson_12 d_C_requirePerson_15 d_C_requirePerson_16 d_C_requirePerson_18 d_C_requirePerson_21 cl_C_212 ini_java_lang_IllegalArgumentException sr_C_228 thr_2 rfl (by decide) rfl rfl rfl ⟨rfl, rfl⟩
theorem c_reqUnit_ok (X : ct_X) (z : S_c) (k : S_m) (o : Nat → Int64) (j : Nat) (h : j < c_nu z) (h2 : c_nu z < 2 ^ 31) : AF X m_C_requireUnit 6 0 0 [.ref 0, .int (nI (j))] (wL z k o) (.inl none) (wL z k o) := by
  refine AM.of rfl (Nat.le_of_ble_eq_true rfl) (ls := [some (.ref 0), some (.int (nI (j)))]) rfl ?_
  refine AW.iload_n (pc' := 1) d_C_requireUnit_0 rfl rfl rfl ?_
  refine AW.if_lt (tgt := 12) (pc' := 4) d_C_requireUnit_1 (by decide) rfl (fun h => absurd h (nI_pos (by omega))) (fun _ => ?_)
  refine AW.iload_n (pc' := 5) d_C_requireUnit_4 rfl rfl rfl ?_
  refine AW.aload_n (pc' := 6) d_C_requireUnit_5 rfl rfl rfl ?_
  refine AW.getf (pc' := 9) d_C_requireUnit_6 rfl fl_C_80 rfl rfl ?_
  refine AW.icmp_ltN (tgt := 22) (pc' := 12) d_C_requireUnit_9 (by decide) rfl (by omega) (by omega) (fun h9 => ?_) (fun h => absurd h (by omega))
  exact AW.vret d_C_requireUnit_22 rfl rfl rfl ⟨rfl, rfl⟩
theorem c_reqUnit_no (X : ct_X) (z : S_c) (k : S_m) (o : Nat → Int64) (x : Int32) (hx : x < 0 ∨ nI (c_nu z) ≤ x) : AF X m_C_requireUnit 6 0 0 [.ref 0, .int (x)] (wL z k o) (.inr 2) (wL z k o) := by
  refine AM.of rfl (Nat.le_of_ble_eq_true rfl) (ls := [some (.ref 0), some (.int (x))]) rfl ?_
  refine AW.iload_n (pc' := 1) d_C_requireUnit_0 rfl rfl rfl ?_
  refine AW.if_lt (tgt := 12) (pc' := 4) d_C_requireUnit_1 (by decide) rfl (fun h1 => ?_) (fun h1 => ?_)
  · exact AW.throwS (x := 2) d_C_requireUnit_12 d_C_requireUnit_15 d_C_requireUnit_16 d_C_requireUnit_18 d_C_requireUnit_21 cl_C_212 ini_java_lang_IllegalArgumentException sr_C_230 thr_2 rfl (by decide) rfl rfl rfl ⟨rfl, rfl⟩
  · refine AW.iload_n (pc' := 5) d_C_requireUnit_4 rfl rfl rfl ?_
    refine AW.aload_n (pc' := 6) d_C_requireUnit_5 rfl rfl rfl ?_
    refine AW.getf (pc' := 9) d_C_requireUnit_6 rfl fl_C_80 rfl rfl ?_
    refine AW.icmp_lt (tgt := 22) (pc' := 12) d_C_requireUnit_9 (by decide) rfl (fun h => hx.elim (fun q => absurd q h1) (fun q => absurd h (Int32.not_lt.mpr q))) (fun h9 => ?_)
    exact AW.throwS (x := 2) d_C_requireUnit_12 d_C_requireUnit_15 d_C_requireUnit_16 d_C_requireUnit_18 d_C_requireUnit_21 cl_C_212 ini_java_lang_IllegalArgumentException sr_C_230 thr_2 rfl (by decide) rfl rfl rfl ⟨rfl, rfl⟩
theorem c_reqSector_ok (X : ct_X) (z : S_c) (k : S_m) (o : Nat → Int64) (j : Nat) (h : j < c_ns z) (h2 : c_ns z < 2 ^ 31) : AF X m_C_requireSector 6 0 0 [.ref 0, .int (nI (j))] (wL z k o) (.inl none) (wL z k o) := by
  refine AM.of rfl (Nat.le_of_ble_eq_true rfl) (ls := [some (.ref 0), some (.int (nI (j)))]) rfl ?_
  refine AW.iload_n (pc' := 1) d_C_requireSector_0 rfl rfl rfl ?_
  refine AW.if_lt (tgt := 12) (pc' := 4) d_C_requireSector_1 (by decide) rfl (fun h => absurd h (nI_pos (by omega))) (fun _ => ?_)
  refine AW.iload_n (pc' := 5) d_C_requireSector_4 rfl rfl rfl ?_
  refine AW.aload_n (pc' := 6) d_C_requireSector_5 rfl rfl rfl ?_
  refine AW.getf (pc' := 9) d_C_requireSector_6 rfl fl_C_48 rfl rfl ?_
  refine AW.icmp_ltN (tgt := 22) (pc' := 12) d_C_requireSector_9 (by decide) rfl (by omega) (by omega) (fun h9 => ?_) (fun h => absurd h (by omega))
  exact AW.vret d_C_requireSector_22 rfl rfl rfl ⟨rfl, rfl⟩
theorem c_reqSector_no (X : ct_X) (z : S_c) (k : S_m) (o : Nat → Int64) (x : Int32) (hx : x < 0 ∨ nI (c_ns z) ≤ x) : AF X m_C_requireSector 6 0 0 [.ref 0, .int (x)] (wL z k o) (.inr 2) (wL z k o) := by
  refine AM.of rfl (Nat.le_of_ble_eq_true rfl) (ls := [some (.ref 0), some (.int (x))]) rfl ?_
  refine AW.iload_n (pc' := 1) d_C_requireSector_0 rfl rfl rfl ?_
  refine AW.if_lt (tgt := 12) (pc' := 4) d_C_requireSector_1 (by decide) rfl (fun h1 => ?_) (fun h1 => ?_)
  · exact AW.throwS (x := 2) d_C_requireSector_12 d_C_requireSector_15 d_C_requireSector_16 d_C_requireSector_18 d_C_requireSector_21 cl_C_212 ini_java_lang_IllegalArgumentException sr_C_232 thr_2 rfl (by decide) rfl rfl rfl ⟨rfl, rfl⟩
  · refine AW.iload_n (pc' := 5) d_C_requireSector_4 rfl rfl rfl ?_
    refine AW.aload_n (pc' := 6) d_C_requireSector_5 rfl rfl rfl ?_
    refine AW.getf (pc' := 9) d_C_requireSector_6 rfl fl_C_48 rfl rfl ?_
    refine AW.icmp_lt (tgt := 22) (pc' := 12) d_C_requireSector_9 (by decide) rfl (fun h => hx.elim (fun q => absurd q h1) (fun q => absurd h (Int32.not_lt.mpr q))) (fun h9 => ?_)
    exact AW.throwS (x := 2) d_C_requireSector_12 d_C_requireSector_15 d_C_requireSector_16 d_C_requireSector_18 d_C_requireSector_21 cl_C_212 ini_java_lang_IllegalArgumentException sr_C_232 thr_2 rfl (by decide) rfl rfl rfl ⟨rfl, rfl⟩
theorem c_isThere_t (X : ct_X) (z : S_c) (k : S_m) (o : Nat → Int64) (j : Nat) (h : j < 40) (h2 : ¬ c_sop z j = -1) : AF X m_C_isThere 0 0 0 [.ref 0, .int (nI (j))] (wL z k o) (.inl (some (.int (nI 1)))) (wL z k o) := by
  refine AM.of rfl (Nat.le_of_ble_eq_true rfl) (ls := [some (.ref 0), some (.int (nI (j)))]) rfl ?_
  refine AW.aload_n (pc' := 1) d_C_isThere_0 rfl rfl rfl ?_
  refine AW.getf (pc' := 4) d_C_isThere_1 rfl fl_C_20 rfl rfl ?_
  refine AW.iload_n (pc' := 5) d_C_isThere_4 rfl rfl rfl ?_
  refine AW.ialdN (pc' := 6) d_C_isThere_5 rfl rfl (by omega) (by decide) ?_
  refine AW.iconst (pc' := 7) (v := (-1)) d_C_isThere_6 rfl (by decide) ?_
  refine AW.icmp_eq (tgt := 14) (pc' := 10) d_C_isThere_7 (by decide) rfl (fun h => absurd h h2) (fun h7 => ?_)
  refine AW.iconst (pc' := 11) (v := nI 1) d_C_isThere_10 rfl (by decide) ?_
  refine AW.goto (tgt := 15) d_C_isThere_11 (by decide) ?_
  exact AW.zret d_C_isThere_15 rfl (by decide) rfl rfl ⟨rfl, rfl⟩
theorem c_isThere_f (X : ct_X) (z : S_c) (k : S_m) (o : Nat → Int64) (j : Nat) (h : j < 40) (h2 : c_sop z j = -1) : AF X m_C_isThere 0 0 0 [.ref 0, .int (nI (j))] (wL z k o) (.inl (some (.int (nI 0)))) (wL z k o) := by
  refine AM.of rfl (Nat.le_of_ble_eq_true rfl) (ls := [some (.ref 0), some (.int (nI (j)))]) rfl ?_
  refine AW.aload_n (pc' := 1) d_C_isThere_0 rfl rfl rfl ?_
  refine AW.getf (pc' := 4) d_C_isThere_1 rfl fl_C_20 rfl rfl ?_
  refine AW.iload_n (pc' := 5) d_C_isThere_4 rfl rfl rfl ?_
  refine AW.ialdN (pc' := 6) d_C_isThere_5 rfl rfl (by omega) (by decide) ?_
  refine AW.iconst (pc' := 7) (v := (-1)) d_C_isThere_6 rfl (by decide) ?_
  refine AW.icmp_eq (tgt := 14) (pc' := 10) d_C_isThere_7 (by decide) rfl (fun h7 => ?_) (fun h => absurd h2 h)
  refine AW.iconst (pc' := 15) (v := nI 0) d_C_isThere_14 rfl (by decide) ?_
  exact AW.zret d_C_isThere_15 rfl (by decide) rfl rfl ⟨rfl, rfl⟩
theorem c_reqThere_ok (X : ct_X) (z : S_c) (k : S_m) (o : Nat → Int64) (j : Nat) (h : j < 40) (h2 : ¬ c_sop z j = -1) : AF X m_C_requireThere 6 0 0 [.ref 0, .int (nI (j))] (wL z k o) (.inl none) (wL z k o) := by
  refine AM.of rfl (Nat.le_of_ble_eq_true rfl) (ls := [some (.ref 0), some (.int (nI (j)))]) rfl ?_
  refine AW.aload_n (pc' := 1) d_C_requireThere_0 rfl rfl rfl ?_
  refine AW.iload_n (pc' := 2) d_C_requireThere_1 rfl rfl rfl ?_
  refine AW.cV (pc' := 5) d_C_requireThere_2 rfl cv_C_89 (by decide) rfl rfl rfl (c_isThere_t X z k o j h h2) rfl rfl rfl rfl rfl rfl rfl ?_
  refine AW.if_ne (tgt := 18) (pc' := 8) d_C_requireThere_5 (by decide) rfl (fun _ => ?_) (fun h => absurd h (by decide))
  exact AW.vret d_C_requireThere_18 rfl rfl rfl ⟨rfl, rfl⟩
theorem c_reqThere_no (X : ct_X) (z : S_c) (k : S_m) (o : Nat → Int64) (j : Nat) (h : j < 40) (h2 : c_sop z j = -1) : AF X m_C_requireThere 6 0 0 [.ref 0, .int (nI (j))] (wL z k o) (.inr 3) (wL z k o) := by
  refine AM.of rfl (Nat.le_of_ble_eq_true rfl) (ls := [some (.ref 0), some (.int (nI (j)))]) rfl ?_
  refine AW.aload_n (pc' := 1) d_C_requireThere_0 rfl rfl rfl ?_
  refine AW.iload_n (pc' := 2) d_C_requireThere_1 rfl rfl rfl ?_
  refine AW.cV (pc' := 5) d_C_requireThere_2 rfl cv_C_89 (by decide) rfl rfl rfl (c_isThere_f X z k o j h h2) rfl rfl rfl rfl rfl rfl rfl ?_
  refine AW.if_ne (tgt := 18) (pc' := 8) d_C_requireThere_5 (by decide) rfl (fun h => absurd h (by decide)) (fun _ => ?_)
  exact AW.throwS (x := 3) d_C_requireThere_8 d_C_requireThere_11 d_C_requireThere_12 d_C_requireThere_14 d_C_requireThere_17 cl_C_93 ini_java_lang_IllegalStateException sr_C_239 thr_3 rfl (by decide) rfl rfl rfl ⟨rfl, rfl⟩
theorem c_reqOpen_ok (X : ct_X) (z : S_c) (k : S_m) (o : Nat → Int64) (j : Nat) (h : j < 20) (h2 : ¬ c_opn z j = 0) : AF X m_C_requireOpen 6 0 0 [.ref 0, .int (nI (j))] (wL z k o) (.inl none) (wL z k o) := by
  refine AM.of rfl (Nat.le_of_ble_eq_true rfl) (ls := [some (.ref 0), some (.int (nI (j)))]) rfl ?_
  refine AW.aload_n (pc' := 1) d_C_requireOpen_0 rfl rfl rfl ?_
  refine AW.getf (pc' := 4) d_C_requireOpen_1 rfl fl_C_35 rfl rfl ?_
  refine AW.iload_n (pc' := 5) d_C_requireOpen_4 rfl rfl rfl ?_
  refine AW.zaldN (pc' := 6) d_C_requireOpen_5 rfl rfl (by omega) (by decide) ?_
  refine AW.if_ne (tgt := 19) (pc' := 9) d_C_requireOpen_6 (by decide) rfl (fun h6 => ?_) (fun h => absurd h h2)
  exact AW.vret d_C_requireOpen_19 rfl rfl rfl ⟨rfl, rfl⟩
theorem c_reqOpen_no (X : ct_X) (z : S_c) (k : S_m) (o : Nat → Int64) (j : Nat) (h : j < 20) (h2 : c_opn z j = 0) : AF X m_C_requireOpen 6 0 0 [.ref 0, .int (nI (j))] (wL z k o) (.inr 3) (wL z k o) := by
  refine AM.of rfl (Nat.le_of_ble_eq_true rfl) (ls := [some (.ref 0), some (.int (nI (j)))]) rfl ?_
  refine AW.aload_n (pc' := 1) d_C_requireOpen_0 rfl rfl rfl ?_
  refine AW.getf (pc' := 4) d_C_requireOpen_1 rfl fl_C_35 rfl rfl ?_
  refine AW.iload_n (pc' := 5) d_C_requireOpen_4 rfl rfl rfl ?_
  refine AW.zaldN (pc' := 6) d_C_requireOpen_5 rfl rfl (by omega) (by decide) ?_
  refine AW.if_ne (tgt := 19) (pc' := 9) d_C_requireOpen_6 (by decide) rfl (fun h => absurd h2 h) (fun h6 => ?_)
  exact AW.throwS (x := 3) d_C_requireOpen_9 d_C_requireOpen_12 d_C_requireOpen_13 d_C_requireOpen_15 d_C_requireOpen_18 cl_C_93 ini_java_lang_IllegalStateException sr_C_241 thr_3 rfl (by decide) rfl rfl rfl ⟨rfl, rfl⟩
theorem c_reqTask_ok (X : ct_X) (z : S_c) (k : S_m) (o : Nat → Int64) (j : Nat) (h : j < t_n z) (h2 : t_n z < 2 ^ 31) : AF X m_C_requireTask 6 0 0 [.ref 0, .int (nI (j))] (wL z k o) (.inl none) (wL z k o) := by
  refine AM.of rfl (Nat.le_of_ble_eq_true rfl) (ls := [some (.ref 0), some (.int (nI (j)))]) rfl ?_
  refine AW.aload_n (pc' := 1) d_C_requireTask_0 rfl rfl rfl ?_
  refine AW.getf (pc' := 4) d_C_requireTask_1 rfl fl_C_54 rfl rfl ?_
  refine AW.iload_n (pc' := 5) d_C_requireTask_4 rfl rfl rfl ?_
  refine AW.cV (pc' := 8) d_C_requireTask_5 rfl cv_C_234 (by decide) rfl rfl rfl (c_has_t X z k o j h h2) rfl rfl rfl rfl rfl rfl rfl ?_
  refine AW.if_ne (tgt := 21) (pc' := 11) d_C_requireTask_8 (by decide) rfl (fun _ => ?_) (fun h => absurd h (by decide))
  exact AW.vret d_C_requireTask_21 rfl rfl rfl ⟨rfl, rfl⟩
theorem c_reqTask_no (X : ct_X) (z : S_c) (k : S_m) (o : Nat → Int64) (x : Int32) (hx : x < 0 ∨ nI (t_n z) ≤ x) : AF X m_C_requireTask 6 0 0 [.ref 0, .int (x)] (wL z k o) (.inr 2) (wL z k o) := by
  refine AM.of rfl (Nat.le_of_ble_eq_true rfl) (ls := [some (.ref 0), some (.int (x))]) rfl ?_
  refine AW.aload_n (pc' := 1) d_C_requireTask_0 rfl rfl rfl ?_
  refine AW.getf (pc' := 4) d_C_requireTask_1 rfl fl_C_54 rfl rfl ?_
  refine AW.iload_n (pc' := 5) d_C_requireTask_4 rfl rfl rfl ?_
  refine AW.cV (pc' := 8) d_C_requireTask_5 rfl cv_C_234 (by decide) rfl rfl rfl (c_has_f X z k o x hx) rfl rfl rfl rfl rfl rfl rfl ?_
  refine AW.if_ne (tgt := 21) (pc' := 11) d_C_requireTask_8 (by decide) rfl (fun h => absurd h (by decide)) (fun _ => ?_)
  exact AW.throwS (x := 2) d_C_requireTask_11 d_C_requireTask_14 d_C_requireTask_15 d_C_requireTask_17 d_C_requireTask_20 cl_C_212 ini_java_lang_IllegalArgumentException sr_C_237 thr_2 rfl (by decide) rfl rfl rfl ⟨rfl, rfl⟩
def f_drop (z : S_c) (j t : Nat) : S_c := r_n_ (r_old_ (r_drop_ (r_bef_ z (upd (r_bef z) j (r_led z (r_old z)))) t) (ring (r_old z) 1)) (r_n z - 1)
def f_note1 (z : S_c) (t : Nat) (s p : Int32) : S_c := r_n_ (r_led_ (r_num_ (r_sec_ z (upd (r_sec z) (ring (r_old z) (r_n z)) (nI t))) (upd (r_num z) (ring (r_old z) (r_n z)) s)) (upd (r_led z) (ring (r_old z) (r_n z)) p)) (r_n z + 1)
theorem c_note_f (X : ct_X) (z : S_c) (k : S_m) (o : Nat → Int64) (t : Nat) (s p : Int32) (j t0 : Nat) (hz : r_old z < 400) (hn : r_n z = 400) (hj : j < 20) (ej : r_num z (r_old z) = nI j) (et : r_sec z (r_old z) = nI t0) : AF X m_R_note 2 0 0 [.ref 15, .int (nI (t)), .int (s), .int (p)] (wL z k o) (.inl none) (wL (f_note1 (f_drop z j t0) t s p) k o) := by
  refine AM.of rfl (Nat.le_of_ble_eq_true rfl) (ls := [some (.ref 15), some (.int (nI (t))), some (.int (s)), some (.int (p)), none]) rfl ?_
  refine AW.aload_n (pc' := 1) d_R_note_0 rfl rfl rfl ?_
  refine AW.getf (pc' := 4) d_R_note_1 rfl fl_R_30 rfl rfl ?_
  refine AW.sipush (pc' := 7) (v := nI 400) d_R_note_4 rfl (by decide) ?_
  refine AW.icmp_ltN (tgt := 14) (pc' := 10) d_R_note_7 (by decide) rfl (by omega) (by omega) (fun h => absurd h (by omega)) (fun _ => ?_)
  refine AW.aload_n (pc' := 11) d_R_note_10 rfl rfl rfl ?_
  refine AW.cV (pc' := 14) d_R_note_11 rfl cv_R_34 (by decide) rfl rfl rfl (c_dropOldest X z k o j t0 hz hj ej et (by omega)) rfl rfl rfl rfl rfl rfl rfl ?_
  have e1 : r_n (f_drop z j t0) = r_n z - 1 := rfl
  have hz' : r_old (f_drop z j t0) < 400 := ring_lt hz (by decide)
  refine AW.aload_n (pc' := 15) d_R_note_14 rfl rfl rfl ?_
  refine AW.aload_n (pc' := 16) d_R_note_15 rfl rfl rfl ?_
  refine AW.getf (pc' := 19) d_R_note_16 rfl fl_R_30 rfl rfl ?_
  refine AW.cV (pc' := 22) d_R_note_19 rfl cv_R_37 (by decide) rfl rfl rfl (c_ringIndex X (f_drop z j t0) k o (r_n (f_drop z j t0)) (by omega) hz') rfl rfl rfl rfl rfl rfl rfl ?_
  refine AW.istore (pc' := 24) (ls' := [some (.ref 15), some (.int (nI (t))), some (.int (s)), some (.int (p)), some (.int (nI (ring (r_old (f_drop z j t0)) (r_n (f_drop z j t0)))))]) d_R_note_22 rfl rfl rfl ?_
  refine AW.aload_n (pc' := 25) d_R_note_24 rfl rfl rfl ?_
  refine AW.getf (pc' := 28) d_R_note_25 rfl fl_R_9 rfl rfl ?_
  refine AW.iload (pc' := 30) d_R_note_28 rfl rfl ?_
  refine AW.iload_n (pc' := 31) d_R_note_30 rfl rfl rfl ?_
  refine AW.iastN (pc' := 32) (w' := (wL (r_sec_ ((f_drop z j t0)) (upd (r_sec ((f_drop z j t0))) (ring (r_old (f_drop z j t0)) (r_n (f_drop z j t0))) (nI (t)))) k o)) d_R_note_31 rfl rfl (ring_lt hz' (by omega)) (by decide) rfl ?_
  refine AW.aload_n (pc' := 33) d_R_note_32 rfl rfl rfl ?_
  refine AW.getf (pc' := 36) d_R_note_33 rfl fl_R_15 rfl rfl ?_
  refine AW.iload (pc' := 38) d_R_note_36 rfl rfl ?_
  refine AW.iload_n (pc' := 39) d_R_note_38 rfl rfl rfl ?_
  refine AW.iastN (pc' := 40) (w' := (wL (r_num_ (r_sec_ ((f_drop z j t0)) (upd (r_sec ((f_drop z j t0))) (ring (r_old (f_drop z j t0)) (r_n (f_drop z j t0))) (nI (t)))) (upd (r_num ((f_drop z j t0))) (ring (r_old (f_drop z j t0)) (r_n (f_drop z j t0))) s)) k o)) d_R_note_39 rfl rfl (ring_lt hz' (by omega)) (by decide) rfl ?_
  refine AW.aload_n (pc' := 41) d_R_note_40 rfl rfl rfl ?_
  refine AW.getf (pc' := 44) d_R_note_41 rfl fl_R_18 rfl rfl ?_
  refine AW.iload (pc' := 46) d_R_note_44 rfl rfl ?_
  refine AW.iload_n (pc' := 47) d_R_note_46 rfl rfl rfl ?_
  refine AW.iastN (pc' := 48) (w' := (wL (r_led_ (r_num_ (r_sec_ ((f_drop z j t0)) (upd (r_sec ((f_drop z j t0))) (ring (r_old (f_drop z j t0)) (r_n (f_drop z j t0))) (nI (t)))) (upd (r_num ((f_drop z j t0))) (ring (r_old (f_drop z j t0)) (r_n (f_drop z j t0))) s)) (upd (r_led ((f_drop z j t0))) (ring (r_old (f_drop z j t0)) (r_n (f_drop z j t0))) p)) k o)) d_R_note_47 rfl rfl (ring_lt hz' (by omega)) (by decide) rfl ?_
  refine AW.aload_n (pc' := 49) d_R_note_48 rfl rfl rfl ?_
  refine AW.dup (pc' := 50) d_R_note_49 rfl rfl ?_
  refine AW.getf (pc' := 53) d_R_note_50 rfl fl_R_30 rfl rfl ?_
  refine AW.top (u := .int (nI (r_n ((f_drop z j t0))))) rfl ?_
  refine AW.iconst (pc' := 54) (v := nI 1) d_R_note_53 rfl (by decide) ?_
  refine AW.iaddN (pc' := 55) d_R_note_54 rfl ?_
  refine AW.putf (pc' := 58) (w' := (wL (r_n_ (r_led_ (r_num_ (r_sec_ ((f_drop z j t0)) (upd (r_sec ((f_drop z j t0))) (ring (r_old (f_drop z j t0)) (r_n (f_drop z j t0))) (nI (t)))) (upd (r_num ((f_drop z j t0))) (ring (r_old (f_drop z j t0)) (r_n (f_drop z j t0))) s)) (upd (r_led ((f_drop z j t0))) (ring (r_old (f_drop z j t0)) (r_n (f_drop z j t0))) p)) ((r_n ((f_drop z j t0))) + 1)) k o)) d_R_note_55 rfl fp_R_30 rfl rfl (fun _ => ⟨rfl, rfl⟩) rfl rfl ?_
  exact AW.vret d_R_note_58 rfl rfl rfl ⟨rfl, rfl⟩
def f_note (z : S_c) (t : Nat) (s p : Int32) : S_c := if r_n z < 400 then f_note1 z t s p else f_note1 (f_drop z (r_num z (r_old z)).toNatClampNeg (r_sec z (r_old z)).toNatClampNeg) t s p
/-- the rows: the ring is in order, each row's sector and second are in range -/
def Ring (z : S_c) : Prop := r_old z < 400 ∧ r_n z ≤ 400 ∧ ∀ i, i < 400 → (∃ j, j < 20 ∧ r_num z i = nI j) ∧ ∃ t, t ≤ 99999 ∧ r_sec z i = nI t
theorem c_note (X : ct_X) (z : S_c) (k : S_m) (o : Nat → Int64) (t : Nat) (s p : Int32) (hR : Ring z) : AF X m_R_note 2 0 0 [.ref 15, .int (nI (t)), .int (s), .int (p)] (wL z k o) (.inl none) (wL (f_note z t s p) k o) := by
  obtain ⟨h1, h2, h3⟩ := hR
  by_cases hn : r_n z < 400
  · have e : f_note z t s p = f_note1 z t s p := by rw [f_note, if_pos hn]
    rw [e]
    exact c_note_s X z k o t s p h1 hn
  · obtain ⟨⟨j, hj, ej⟩, t0, ht, et⟩ := h3 _ h1
    have e : f_note z t s p = f_note1 (f_drop z j t0) t s p := by rw [f_note, if_neg hn, ej, et, nI_clamp (by omega), nI_clamp (by omega)]
    rw [e]
    exact c_note_f X z k o t s p j t0 h1 (by omega) hj ej et
theorem c_withdraw (X : ct_X) (z : S_c) (k : S_m) (o : Nat → Int64) (p : Int32) (h : c_ns z ≤ 20) : AF X m_C_withdrawOffersTo 1 0 0 [.ref 0, .int (p)] (wL z k o) (.inl none) (wL (c_off_ z (rep (c_off z) p (-1) (c_ns z))) k o) := by
  refine AM.of rfl (Nat.le_of_ble_eq_true rfl) (ls := [some (.ref 0), some (.int (p))]) rfl ?_
  refine AW.aload_n (pc' := 1) d_C_withdrawOffersTo_0 rfl rfl rfl ?_
  refine AW.getf (pc' := 4) d_C_withdrawOffersTo_1 rfl fl_C_45 rfl rfl ?_
  refine AW.aload_n (pc' := 5) d_C_withdrawOffersTo_4 rfl rfl rfl ?_
  refine AW.getf (pc' := 8) d_C_withdrawOffersTo_5 rfl fl_C_48 rfl rfl ?_
  refine AW.iload_n (pc' := 9) d_C_withdrawOffersTo_8 rfl rfl rfl ?_
  refine AW.iconst (pc' := 10) (v := (-1)) d_C_withdrawOffersTo_9 rfl (by decide) ?_
  refine AW.cS (pc' := 13) d_C_withdrawOffersTo_10 rfl cs_C_140 (by decide) (c_replace X _ (wL (c_off_ z (rep (c_off z) p (-1) (c_ns z))) k o) 9 20 (c_ns z) (c_off z) p (-1) (by decide) h rfl rfl) rfl rfl rfl rfl rfl rfl rfl ?_
  exact AW.vret d_C_withdrawOffersTo_13 rfl rfl rfl ⟨rfl, rfl⟩
def oI : Option Nat → Int32
  | none => -1
  | some p => nI p
theorem oI_neg : oI none < 0 := by decide
theorem oI_ne {p : Nat} (h : p < 2 ^ 31) : ¬ oI (some p) = oI none := fun e => by
  have h1 : ¬ nI p < 0 := nI_pos h
  have e1 : nI p = -1 := e
  rw [e1] at h1
  exact h1 (by decide)
/-- the leader of s becomes p: f was it -/
def f_set1 (z : S_c) (s : Nat) (f p : Option Nat) : S_c :=
  let z1 := match f with
    | none => z
    | some q => c_slb_ z (upd (c_slb z) q (-1))
  let z2 := c_off_ (c_ldr_ z1 (upd (c_ldr z1) s (oI p))) (upd (c_off z1) s (-1))
  let z3 := match p with
    | none => z2
    | some q => c_off_ (c_slb_ z2 (upd (c_slb z2) q (nI s))) (rep (c_off z2) (nI q) (-1) (c_ns z2))
  f_note z3 (c_sec z3) (nI s) (oI p)
theorem c_set_ns (X : ct_X) (z : S_c) (k : S_m) (o : Nat → Int64) (s : Nat) (r : Nat) (hr : r < 40) (hs : s < 20) (hn : c_ns z ≤ 20) (hf : c_ldr z s = oI none) (hR : Ring z) : AF X m_C_setLeader 3 0 0 [.ref 0, .int (nI (s)), .int (nI (r))] (wL z k o) (.inl none) (wL (f_set1 z s none (some r)) k o) := by
  refine AM.of rfl (Nat.le_of_ble_eq_true rfl) (ls := [some (.ref 0), some (.int (nI (s))), some (.int (nI (r))), none]) rfl ?_
  refine AW.aload_n (pc' := 1) d_C_setLeader_0 rfl rfl rfl ?_
  refine AW.getf (pc' := 4) d_C_setLeader_1 rfl fl_C_42 rfl rfl ?_
  refine AW.iload_n (pc' := 5) d_C_setLeader_4 rfl rfl rfl ?_
  refine AW.ialdN (pc' := 6) d_C_setLeader_5 rfl rfl (by omega) (by decide) ?_
  refine AW.top (u := .int ((-1))) (by rw [hf]; rfl) ?_
  refine AW.istore_n (pc' := 7) (ls' := [some (.ref 0), some (.int (nI (s))), some (.int (nI (r))), some (.int ((-1)))]) d_C_setLeader_6 rfl rfl rfl rfl ?_
  refine AW.iload_n (pc' := 8) d_C_setLeader_7 rfl rfl rfl ?_
  refine AW.iload_n (pc' := 9) d_C_setLeader_8 rfl rfl rfl ?_
  refine AW.icmp_ne (tgt := 13) (pc' := 12) d_C_setLeader_9 (by decide) rfl (fun h9 => ?_) (fun h => absurd h.symm (oI_ne (by omega)))
  refine AW.iload_n (pc' := 14) d_C_setLeader_13 rfl rfl rfl ?_
  refine AW.if_lt (tgt := 24) (pc' := 17) d_C_setLeader_14 (by decide) rfl (fun h14 => ?_) (fun h => absurd (by decide) h)
  refine AW.aload_n (pc' := 25) d_C_setLeader_24 rfl rfl rfl ?_
  refine AW.getf (pc' := 28) d_C_setLeader_25 rfl fl_C_42 rfl rfl ?_
  refine AW.iload_n (pc' := 29) d_C_setLeader_28 rfl rfl rfl ?_
  refine AW.iload_n (pc' := 30) d_C_setLeader_29 rfl rfl rfl ?_
  refine AW.iastN (pc' := 31) (w' := (wL (c_ldr_ z (upd (c_ldr z) s (nI (r)))) k o)) d_C_setLeader_30 rfl rfl (by omega) (by decide) rfl ?_
  refine AW.aload_n (pc' := 32) d_C_setLeader_31 rfl rfl rfl ?_
  refine AW.getf (pc' := 35) d_C_setLeader_32 rfl fl_C_45 rfl rfl ?_
  refine AW.iload_n (pc' := 36) d_C_setLeader_35 rfl rfl rfl ?_
  refine AW.iconst (pc' := 37) (v := (-1)) d_C_setLeader_36 rfl (by decide) ?_
  refine AW.iastN (pc' := 38) (w' := (wL (c_off_ (c_ldr_ z (upd (c_ldr z) s (nI (r)))) (upd (c_off z) s ((-1)))) k o)) d_C_setLeader_37 rfl rfl (by omega) (by decide) rfl ?_
  refine AW.iload_n (pc' := 39) d_C_setLeader_38 rfl rfl rfl ?_
  refine AW.if_lt (tgt := 54) (pc' := 42) d_C_setLeader_39 (by decide) rfl (fun h => absurd h (nI_pos (by omega))) (fun _ => ?_)
  refine AW.aload_n (pc' := 43) d_C_setLeader_42 rfl rfl rfl ?_
  refine AW.getf (pc' := 46) d_C_setLeader_43 rfl fl_C_23 rfl rfl ?_
  refine AW.iload_n (pc' := 47) d_C_setLeader_46 rfl rfl rfl ?_
  refine AW.iload_n (pc' := 48) d_C_setLeader_47 rfl rfl rfl ?_
  refine AW.iastN (pc' := 49) (w' := (wL (c_slb_ (c_off_ (c_ldr_ z (upd (c_ldr z) s (nI (r)))) (upd (c_off z) s ((-1)))) (upd (c_slb z) r (nI (s)))) k o)) d_C_setLeader_48 rfl rfl (by omega) (by decide) rfl ?_
  refine AW.aload_n (pc' := 50) d_C_setLeader_49 rfl rfl rfl ?_
  refine AW.iload_n (pc' := 51) d_C_setLeader_50 rfl rfl rfl ?_
  refine AW.cV (pc' := 54) d_C_setLeader_51 rfl cv_C_108 (by decide) rfl rfl rfl (c_withdraw X (c_slb_ (c_off_ (c_ldr_ z (upd (c_ldr z) s (nI (r)))) (upd (c_off z) s ((-1)))) (upd (c_slb z) r (nI (s)))) k o (nI r) hn) rfl rfl rfl rfl rfl rfl rfl ?_
  refine AW.aload_n (pc' := 55) d_C_setLeader_54 rfl rfl rfl ?_
  refine AW.getf (pc' := 58) d_C_setLeader_55 rfl fl_C_61 rfl rfl ?_
  refine AW.aload_n (pc' := 59) d_C_setLeader_58 rfl rfl rfl ?_
  refine AW.getf (pc' := 62) d_C_setLeader_59 rfl fl_C_98 rfl rfl ?_
  refine AW.iload_n (pc' := 63) d_C_setLeader_62 rfl rfl rfl ?_
  refine AW.iload_n (pc' := 64) d_C_setLeader_63 rfl rfl rfl ?_
  refine AW.cV (pc' := 67) d_C_setLeader_64 rfl cv_C_243 (by decide) rfl rfl rfl (c_note X ((c_off_ (c_slb_ (c_off_ (c_ldr_ z (upd (c_ldr z) s (nI (r)))) (upd (c_off z) s ((-1)))) (upd (c_slb z) r (nI (s)))) (rep (c_off (c_slb_ (c_off_ (c_ldr_ z (upd (c_ldr z) s (nI (r)))) (upd (c_off z) s ((-1)))) (upd (c_slb z) r (nI (s))))) (nI r) (-1) (c_ns (c_slb_ (c_off_ (c_ldr_ z (upd (c_ldr z) s (nI (r)))) (upd (c_off z) s ((-1)))) (upd (c_slb z) r (nI (s)))))))) k o (c_sec ((c_off_ (c_slb_ (c_off_ (c_ldr_ z (upd (c_ldr z) s (nI (r)))) (upd (c_off z) s ((-1)))) (upd (c_slb z) r (nI (s)))) (rep (c_off (c_slb_ (c_off_ (c_ldr_ z (upd (c_ldr z) s (nI (r)))) (upd (c_off z) s ((-1)))) (upd (c_slb z) r (nI (s))))) (nI r) (-1) (c_ns (c_slb_ (c_off_ (c_ldr_ z (upd (c_ldr z) s (nI (r)))) (upd (c_off z) s ((-1)))) (upd (c_slb z) r (nI (s))))))))) (nI s) ((nI (r))) hR) rfl rfl rfl rfl rfl rfl rfl ?_
  exact AW.vret d_C_setLeader_67 rfl rfl rfl ⟨rfl, rfl⟩
theorem c_set_sn (X : ct_X) (z : S_c) (k : S_m) (o : Nat → Int64) (s : Nat) (q : Nat) (hq : q < 40) (hs : s < 20) (hn : c_ns z ≤ 20) (hf : c_ldr z s = nI q) (hR : Ring z) : AF X m_C_setLeader 3 0 0 [.ref 0, .int (nI (s)), .int ((-1))] (wL z k o) (.inl none) (wL (f_set1 z s (some q) none) k o) := by
  refine AM.of rfl (Nat.le_of_ble_eq_true rfl) (ls := [some (.ref 0), some (.int (nI (s))), some (.int ((-1))), none]) rfl ?_
  refine AW.aload_n (pc' := 1) d_C_setLeader_0 rfl rfl rfl ?_
  refine AW.getf (pc' := 4) d_C_setLeader_1 rfl fl_C_42 rfl rfl ?_
  refine AW.iload_n (pc' := 5) d_C_setLeader_4 rfl rfl rfl ?_
  refine AW.ialdN (pc' := 6) d_C_setLeader_5 rfl rfl (by omega) (by decide) ?_
  refine AW.top (u := .int (nI (q))) (by rw [hf]) ?_
  refine AW.istore_n (pc' := 7) (ls' := [some (.ref 0), some (.int (nI (s))), some (.int ((-1))), some (.int (nI (q)))]) d_C_setLeader_6 rfl rfl rfl rfl ?_
  refine AW.iload_n (pc' := 8) d_C_setLeader_7 rfl rfl rfl ?_
  refine AW.iload_n (pc' := 9) d_C_setLeader_8 rfl rfl rfl ?_
  refine AW.icmp_ne (tgt := 13) (pc' := 12) d_C_setLeader_9 (by decide) rfl (fun h9 => ?_) (fun h => absurd h (oI_ne (by omega)))
  refine AW.iload_n (pc' := 14) d_C_setLeader_13 rfl rfl rfl ?_
  refine AW.if_lt (tgt := 24) (pc' := 17) d_C_setLeader_14 (by decide) rfl (fun h => absurd h (nI_pos (by omega))) (fun _ => ?_)
  refine AW.aload_n (pc' := 18) d_C_setLeader_17 rfl rfl rfl ?_
  refine AW.getf (pc' := 21) d_C_setLeader_18 rfl fl_C_23 rfl rfl ?_
  refine AW.iload_n (pc' := 22) d_C_setLeader_21 rfl rfl rfl ?_
  refine AW.iconst (pc' := 23) (v := (-1)) d_C_setLeader_22 rfl (by decide) ?_
  refine AW.iastN (pc' := 24) (w' := (wL (c_slb_ z (upd (c_slb z) q ((-1)))) k o)) d_C_setLeader_23 rfl rfl (by omega) (by decide) rfl ?_
  refine AW.aload_n (pc' := 25) d_C_setLeader_24 rfl rfl rfl ?_
  refine AW.getf (pc' := 28) d_C_setLeader_25 rfl fl_C_42 rfl rfl ?_
  refine AW.iload_n (pc' := 29) d_C_setLeader_28 rfl rfl rfl ?_
  refine AW.iload_n (pc' := 30) d_C_setLeader_29 rfl rfl rfl ?_
  refine AW.iastN (pc' := 31) (w' := (wL (c_ldr_ (c_slb_ z (upd (c_slb z) q ((-1)))) (upd (c_ldr z) s ((-1)))) k o)) d_C_setLeader_30 rfl rfl (by omega) (by decide) rfl ?_
  refine AW.aload_n (pc' := 32) d_C_setLeader_31 rfl rfl rfl ?_
  refine AW.getf (pc' := 35) d_C_setLeader_32 rfl fl_C_45 rfl rfl ?_
  refine AW.iload_n (pc' := 36) d_C_setLeader_35 rfl rfl rfl ?_
  refine AW.iconst (pc' := 37) (v := (-1)) d_C_setLeader_36 rfl (by decide) ?_
  refine AW.iastN (pc' := 38) (w' := (wL (c_off_ (c_ldr_ (c_slb_ z (upd (c_slb z) q ((-1)))) (upd (c_ldr z) s ((-1)))) (upd (c_off z) s ((-1)))) k o)) d_C_setLeader_37 rfl rfl (by omega) (by decide) rfl ?_
  refine AW.iload_n (pc' := 39) d_C_setLeader_38 rfl rfl rfl ?_
  refine AW.if_lt (tgt := 54) (pc' := 42) d_C_setLeader_39 (by decide) rfl (fun h39 => ?_) (fun h => absurd (by decide) h)
  refine AW.aload_n (pc' := 55) d_C_setLeader_54 rfl rfl rfl ?_
  refine AW.getf (pc' := 58) d_C_setLeader_55 rfl fl_C_61 rfl rfl ?_
  refine AW.aload_n (pc' := 59) d_C_setLeader_58 rfl rfl rfl ?_
  refine AW.getf (pc' := 62) d_C_setLeader_59 rfl fl_C_98 rfl rfl ?_
  refine AW.top (u := .int (nI (c_sec z))) rfl ?_
  refine AW.iload_n (pc' := 63) d_C_setLeader_62 rfl rfl rfl ?_
  refine AW.iload_n (pc' := 64) d_C_setLeader_63 rfl rfl rfl ?_
  refine AW.cV (pc' := 67) d_C_setLeader_64 rfl cv_C_243 (by decide) rfl rfl rfl (c_note X (c_off_ (c_ldr_ (c_slb_ z (upd (c_slb z) q ((-1)))) (upd (c_ldr z) s ((-1)))) (upd (c_off z) s ((-1)))) k o (c_sec (c_off_ (c_ldr_ (c_slb_ z (upd (c_slb z) q ((-1)))) (upd (c_ldr z) s ((-1)))) (upd (c_off z) s ((-1))))) (nI s) (((-1))) hR) rfl rfl rfl rfl rfl rfl rfl ?_
  exact AW.vret d_C_setLeader_67 rfl rfl rfl ⟨rfl, rfl⟩
theorem c_set_ss (X : ct_X) (z : S_c) (k : S_m) (o : Nat → Int64) (s : Nat) (q : Nat) (hq : q < 40) (r : Nat) (hr : r < 40) (hne : ¬ q = r) (hs : s < 20) (hn : c_ns z ≤ 20) (hf : c_ldr z s = nI q) (hR : Ring z) : AF X m_C_setLeader 3 0 0 [.ref 0, .int (nI (s)), .int (nI (r))] (wL z k o) (.inl none) (wL (f_set1 z s (some q) (some r)) k o) := by
  refine AM.of rfl (Nat.le_of_ble_eq_true rfl) (ls := [some (.ref 0), some (.int (nI (s))), some (.int (nI (r))), none]) rfl ?_
  refine AW.aload_n (pc' := 1) d_C_setLeader_0 rfl rfl rfl ?_
  refine AW.getf (pc' := 4) d_C_setLeader_1 rfl fl_C_42 rfl rfl ?_
  refine AW.iload_n (pc' := 5) d_C_setLeader_4 rfl rfl rfl ?_
  refine AW.ialdN (pc' := 6) d_C_setLeader_5 rfl rfl (by omega) (by decide) ?_
  refine AW.top (u := .int (nI (q))) (by rw [hf]) ?_
  refine AW.istore_n (pc' := 7) (ls' := [some (.ref 0), some (.int (nI (s))), some (.int (nI (r))), some (.int (nI (q)))]) d_C_setLeader_6 rfl rfl rfl rfl ?_
  refine AW.iload_n (pc' := 8) d_C_setLeader_7 rfl rfl rfl ?_
  refine AW.iload_n (pc' := 9) d_C_setLeader_8 rfl rfl rfl ?_
  refine AW.icmp_neN (tgt := 13) (pc' := 12) d_C_setLeader_9 (by decide) rfl (by omega) (by omega) (fun h9 => ?_) (fun h => absurd h (by omega))
  refine AW.iload_n (pc' := 14) d_C_setLeader_13 rfl rfl rfl ?_
  refine AW.if_lt (tgt := 24) (pc' := 17) d_C_setLeader_14 (by decide) rfl (fun h => absurd h (nI_pos (by omega))) (fun _ => ?_)
  refine AW.aload_n (pc' := 18) d_C_setLeader_17 rfl rfl rfl ?_
  refine AW.getf (pc' := 21) d_C_setLeader_18 rfl fl_C_23 rfl rfl ?_
  refine AW.iload_n (pc' := 22) d_C_setLeader_21 rfl rfl rfl ?_
  refine AW.iconst (pc' := 23) (v := (-1)) d_C_setLeader_22 rfl (by decide) ?_
  refine AW.iastN (pc' := 24) (w' := (wL (c_slb_ z (upd (c_slb z) q ((-1)))) k o)) d_C_setLeader_23 rfl rfl (by omega) (by decide) rfl ?_
  refine AW.aload_n (pc' := 25) d_C_setLeader_24 rfl rfl rfl ?_
  refine AW.getf (pc' := 28) d_C_setLeader_25 rfl fl_C_42 rfl rfl ?_
  refine AW.iload_n (pc' := 29) d_C_setLeader_28 rfl rfl rfl ?_
  refine AW.iload_n (pc' := 30) d_C_setLeader_29 rfl rfl rfl ?_
  refine AW.iastN (pc' := 31) (w' := (wL (c_ldr_ (c_slb_ z (upd (c_slb z) q ((-1)))) (upd (c_ldr z) s (nI (r)))) k o)) d_C_setLeader_30 rfl rfl (by omega) (by decide) rfl ?_
  refine AW.aload_n (pc' := 32) d_C_setLeader_31 rfl rfl rfl ?_
  refine AW.getf (pc' := 35) d_C_setLeader_32 rfl fl_C_45 rfl rfl ?_
  refine AW.iload_n (pc' := 36) d_C_setLeader_35 rfl rfl rfl ?_
  refine AW.iconst (pc' := 37) (v := (-1)) d_C_setLeader_36 rfl (by decide) ?_
  refine AW.iastN (pc' := 38) (w' := (wL (c_off_ (c_ldr_ (c_slb_ z (upd (c_slb z) q ((-1)))) (upd (c_ldr z) s (nI (r)))) (upd (c_off z) s ((-1)))) k o)) d_C_setLeader_37 rfl rfl (by omega) (by decide) rfl ?_
  refine AW.iload_n (pc' := 39) d_C_setLeader_38 rfl rfl rfl ?_
  refine AW.if_lt (tgt := 54) (pc' := 42) d_C_setLeader_39 (by decide) rfl (fun h => absurd h (nI_pos (by omega))) (fun _ => ?_)
  refine AW.aload_n (pc' := 43) d_C_setLeader_42 rfl rfl rfl ?_
  refine AW.getf (pc' := 46) d_C_setLeader_43 rfl fl_C_23 rfl rfl ?_
  refine AW.iload_n (pc' := 47) d_C_setLeader_46 rfl rfl rfl ?_
  refine AW.iload_n (pc' := 48) d_C_setLeader_47 rfl rfl rfl ?_
  refine AW.iastN (pc' := 49) (w' := (wL (c_slb_ (c_off_ (c_ldr_ (c_slb_ z (upd (c_slb z) q ((-1)))) (upd (c_ldr z) s (nI (r)))) (upd (c_off z) s ((-1)))) (upd (upd (c_slb z) q ((-1))) r (nI (s)))) k o)) d_C_setLeader_48 rfl rfl (by omega) (by decide) rfl ?_
  refine AW.aload_n (pc' := 50) d_C_setLeader_49 rfl rfl rfl ?_
  refine AW.iload_n (pc' := 51) d_C_setLeader_50 rfl rfl rfl ?_
  refine AW.cV (pc' := 54) d_C_setLeader_51 rfl cv_C_108 (by decide) rfl rfl rfl (c_withdraw X (c_slb_ (c_off_ (c_ldr_ (c_slb_ z (upd (c_slb z) q ((-1)))) (upd (c_ldr z) s (nI (r)))) (upd (c_off z) s ((-1)))) (upd (upd (c_slb z) q ((-1))) r (nI (s)))) k o (nI r) hn) rfl rfl rfl rfl rfl rfl rfl ?_
  refine AW.aload_n (pc' := 55) d_C_setLeader_54 rfl rfl rfl ?_
  refine AW.getf (pc' := 58) d_C_setLeader_55 rfl fl_C_61 rfl rfl ?_
  refine AW.aload_n (pc' := 59) d_C_setLeader_58 rfl rfl rfl ?_
  refine AW.getf (pc' := 62) d_C_setLeader_59 rfl fl_C_98 rfl rfl ?_
  refine AW.iload_n (pc' := 63) d_C_setLeader_62 rfl rfl rfl ?_
  refine AW.iload_n (pc' := 64) d_C_setLeader_63 rfl rfl rfl ?_
  refine AW.cV (pc' := 67) d_C_setLeader_64 rfl cv_C_243 (by decide) rfl rfl rfl (c_note X ((c_off_ (c_slb_ (c_off_ (c_ldr_ (c_slb_ z (upd (c_slb z) q ((-1)))) (upd (c_ldr z) s (nI (r)))) (upd (c_off z) s ((-1)))) (upd (upd (c_slb z) q ((-1))) r (nI (s)))) (rep (c_off (c_slb_ (c_off_ (c_ldr_ (c_slb_ z (upd (c_slb z) q ((-1)))) (upd (c_ldr z) s (nI (r)))) (upd (c_off z) s ((-1)))) (upd (upd (c_slb z) q ((-1))) r (nI (s))))) (nI r) (-1) (c_ns (c_slb_ (c_off_ (c_ldr_ (c_slb_ z (upd (c_slb z) q ((-1)))) (upd (c_ldr z) s (nI (r)))) (upd (c_off z) s ((-1)))) (upd (upd (c_slb z) q ((-1))) r (nI (s)))))))) k o (c_sec ((c_off_ (c_slb_ (c_off_ (c_ldr_ (c_slb_ z (upd (c_slb z) q ((-1)))) (upd (c_ldr z) s (nI (r)))) (upd (c_off z) s ((-1)))) (upd (upd (c_slb z) q ((-1))) r (nI (s)))) (rep (c_off (c_slb_ (c_off_ (c_ldr_ (c_slb_ z (upd (c_slb z) q ((-1)))) (upd (c_ldr z) s (nI (r)))) (upd (c_off z) s ((-1)))) (upd (upd (c_slb z) q ((-1))) r (nI (s))))) (nI r) (-1) (c_ns (c_slb_ (c_off_ (c_ldr_ (c_slb_ z (upd (c_slb z) q ((-1)))) (upd (c_ldr z) s (nI (r)))) (upd (c_off z) s ((-1)))) (upd (upd (c_slb z) q ((-1))) r (nI (s))))))))) (nI s) ((nI (r))) hR) rfl rfl rfl rfl rfl rfl rfl ?_
  exact AW.vret d_C_setLeader_67 rfl rfl rfl ⟨rfl, rfl⟩
theorem c_set_eq (X : ct_X) (z : S_c) (k : S_m) (o : Nat → Int64) (s : Nat) (p : Int32) (hs : s < 20) (hf : c_ldr z s = p) : AF X m_C_setLeader 3 0 0 [.ref 0, .int (nI (s)), .int (p)] (wL z k o) (.inl none) (wL z k o) := by
  refine AM.of rfl (Nat.le_of_ble_eq_true rfl) (ls := [some (.ref 0), some (.int (nI (s))), some (.int (p)), none]) rfl ?_
  refine AW.aload_n (pc' := 1) d_C_setLeader_0 rfl rfl rfl ?_
  refine AW.getf (pc' := 4) d_C_setLeader_1 rfl fl_C_42 rfl rfl ?_
  refine AW.iload_n (pc' := 5) d_C_setLeader_4 rfl rfl rfl ?_
  refine AW.ialdN (pc' := 6) d_C_setLeader_5 rfl rfl (by omega) (by decide) ?_
  refine AW.istore_n (pc' := 7) (ls' := [some (.ref 0), some (.int (nI (s))), some (.int (p)), some (.int ((c_ldr z) s))]) d_C_setLeader_6 rfl rfl rfl rfl ?_
  refine AW.iload_n (pc' := 8) d_C_setLeader_7 rfl rfl rfl ?_
  refine AW.iload_n (pc' := 9) d_C_setLeader_8 rfl rfl rfl ?_
  refine AW.icmp_ne (tgt := 13) (pc' := 12) d_C_setLeader_9 (by decide) rfl (fun h => absurd hf h) (fun h9 => ?_)
  exact AW.vret d_C_setLeader_12 rfl rfl rfl ⟨rfl, rfl⟩
