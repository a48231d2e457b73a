/-! THE CLASS'S PUBLIC METHODS, case by case (rows printed by wip/whole/m5.py) -/
theorem c_person_0 (X : ct_X) (z : S_c) (k : S_m) (o : Nat → Int64) (x : Int32) (hx : x < 0 ∨ nI 9 < x) : AF X m_C_person 7 0 0 [.ref 0, .int (x)] (wL z k o) (.inr 0) (wL z k o) := by
  refine AM.of rfl (Nat.le_of_ble_eq_true rfl) (ls := [some (.ref 0), some (.int (x)), none]) rfl ?_
  refine AW.iload_n (pc' := 1) d_C_person_0 rfl rfl rfl ?_
  refine AW.if_lt (tgt := 10) (pc' := 4) d_C_person_1 (by decide) rfl (fun h1 => ?_) (fun h1 => ?_)
  · exact AW.throwS (x := 0) d_C_person_10 d_C_person_13 d_C_person_14 d_C_person_16 d_C_person_19 cl_C_65 ini_java_lang_IndexOutOfBoundsException sr_C_67 thr_0 rfl (by decide) rfl rfl rfl ⟨rfl, rfl⟩
  · refine AW.iload_n (pc' := 5) d_C_person_4 rfl rfl rfl ?_
    refine AW.bipush (pc' := 7) (v := nI 9) d_C_person_5 rfl (by decide) ?_
    refine AW.icmp_le (tgt := 20) (pc' := 10) d_C_person_7 (by decide) rfl (fun h => hx.elim (fun q => absurd q h1) (fun q => absurd h (Int32.not_le.mpr q))) (fun h7 => ?_)
    exact AW.throwS (x := 0) d_C_person_10 d_C_person_13 d_C_person_14 d_C_person_16 d_C_person_19 cl_C_65 ini_java_lang_IndexOutOfBoundsException sr_C_67 thr_0 rfl (by decide) rfl rfl rfl ⟨rfl, rfl⟩
theorem c_person_1 (X : ct_X) (z : S_c) (k : S_m) (o : Nat → Int64) (x : Int32) (hx : ¬ x < 0) (hx2 : ¬ nI 9 < x) (h : 40 ≤ c_np z) (h2 : c_np z < 2 ^ 31) : AF X m_C_person 7 0 0 [.ref 0, .int (x)] (wL z k o) (.inr 1) (wL z k o) := by
  refine AM.of rfl (Nat.le_of_ble_eq_true rfl) (ls := [some (.ref 0), some (.int (x)), none]) rfl ?_
  refine AW.iload_n (pc' := 1) d_C_person_0 rfl rfl rfl ?_
  refine AW.if_lt (tgt := 10) (pc' := 4) d_C_person_1 (by decide) rfl (fun h => absurd h hx) (fun h1 => ?_)
  refine AW.iload_n (pc' := 5) d_C_person_4 rfl rfl rfl ?_
  refine AW.bipush (pc' := 7) (v := nI 9) d_C_person_5 rfl (by decide) ?_
  refine AW.icmp_le (tgt := 20) (pc' := 10) d_C_person_7 (by decide) rfl (fun h7 => ?_) (fun h => absurd (Int32.not_le.mp h) hx2)
  refine AW.aload_n (pc' := 21) d_C_person_20 rfl rfl rfl ?_
  refine AW.getf (pc' := 24) d_C_person_21 rfl fl_C_72 rfl rfl ?_
  refine AW.bipush (pc' := 26) (v := nI 40) d_C_person_24 rfl (by decide) ?_
  refine AW.icmp_ltN (tgt := 39) (pc' := 29) d_C_person_26 (by decide) rfl (by omega) (by omega) (fun h => absurd h (by omega)) (fun h26 => ?_)
  exact AW.throwS (x := 1) d_C_person_29 d_C_person_32 d_C_person_33 d_C_person_35 d_C_person_38 cl_C_75 ini_java_lang_UnsupportedOperationException sr_C_77 thr_1 rfl (by decide) rfl rfl rfl ⟨rfl, rfl⟩
theorem c_person_2 (X : ct_X) (z : S_c) (k : S_m) (o : Nat → Int64) (x : Int32) (hx : ¬ x < 0) (hx2 : ¬ nI 9 < x) (h : c_np z < 40) : AF X m_C_person 7 0 0 [.ref 0, .int (x)] (wL z k o) (.inl (some (.int (nI (c_np z))))) (wL (c_np_ (c_rank_ z (upd (c_rank z) (c_np z) x)) (c_np z + 1)) k o) := by
  refine AM.of rfl (Nat.le_of_ble_eq_true rfl) (ls := [some (.ref 0), some (.int (x)), none]) rfl ?_
  refine AW.iload_n (pc' := 1) d_C_person_0 rfl rfl rfl ?_
  refine AW.if_lt (tgt := 10) (pc' := 4) d_C_person_1 (by decide) rfl (fun h => absurd h hx) (fun h1 => ?_)
  refine AW.iload_n (pc' := 5) d_C_person_4 rfl rfl rfl ?_
  refine AW.bipush (pc' := 7) (v := nI 9) d_C_person_5 rfl (by decide) ?_
  refine AW.icmp_le (tgt := 20) (pc' := 10) d_C_person_7 (by decide) rfl (fun h7 => ?_) (fun h => absurd (Int32.not_le.mp h) hx2)
  refine AW.aload_n (pc' := 21) d_C_person_20 rfl rfl rfl ?_
  refine AW.getf (pc' := 24) d_C_person_21 rfl fl_C_72 rfl rfl ?_
  refine AW.bipush (pc' := 26) (v := nI 40) d_C_person_24 rfl (by decide) ?_
  refine AW.icmp_ltN (tgt := 39) (pc' := 29) d_C_person_26 (by decide) rfl (by omega) (by omega) (fun h26 => ?_) (fun h => absurd h (by omega))
  refine AW.aload_n (pc' := 40) d_C_person_39 rfl rfl rfl ?_
  refine AW.getf (pc' := 43) d_C_person_40 rfl fl_C_72 rfl rfl ?_
  refine AW.istore_n (pc' := 44) (ls' := [some (.ref 0), some (.int (x)), some (.int (nI (c_np z)))]) d_C_person_43 rfl rfl rfl rfl ?_
  refine AW.aload_n (pc' := 45) d_C_person_44 rfl rfl rfl ?_
  refine AW.getf (pc' := 48) d_C_person_45 rfl fl_C_13 rfl rfl ?_
  refine AW.iload_n (pc' := 49) d_C_person_48 rfl rfl rfl ?_
  refine AW.iload_n (pc' := 50) d_C_person_49 rfl rfl rfl ?_
  refine AW.iastN (pc' := 51) (w' := (wL (c_rank_ z (upd (c_rank z) (c_np z) x)) k o)) d_C_person_50 rfl rfl (by omega) (by decide) rfl ?_
  refine AW.aload_n (pc' := 52) d_C_person_51 rfl rfl rfl ?_
  refine AW.dup (pc' := 53) d_C_person_52 rfl rfl ?_
  refine AW.getf (pc' := 56) d_C_person_53 rfl fl_C_72 rfl rfl ?_
  refine AW.top (u := .int (nI (c_np z))) rfl ?_
  refine AW.iconst (pc' := 57) (v := nI 1) d_C_person_56 rfl (by decide) ?_
  refine AW.iaddN (pc' := 58) d_C_person_57 rfl ?_
  refine AW.putf (pc' := 61) (w' := (wL (c_np_ (c_rank_ z (upd (c_rank z) (c_np z) x)) ((c_np z) + 1)) k o)) d_C_person_58 rfl fp_C_72 rfl rfl (fun _ => ⟨rfl, rfl⟩) rfl rfl ?_
  refine AW.iload_n (pc' := 62) d_C_person_61 rfl rfl rfl ?_
  exact AW.iret d_C_person_62 rfl rfl rfl ⟨rfl, rfl⟩
theorem c_unit_1 (X : ct_X) (z : S_c) (k : S_m) (o : Nat → Int64) (h : 20 ≤ c_nu z) (h2 : c_nu z < 2 ^ 31) : AF X m_C_unit 7 0 0 [.ref 0] (wL z k o) (.inr 1) (wL z k o) := by
  refine AM.of rfl (Nat.le_of_ble_eq_true rfl) (ls := [some (.ref 0), none]) rfl ?_
  refine AW.aload_n (pc' := 1) d_C_unit_0 rfl rfl rfl ?_
  refine AW.getf (pc' := 4) d_C_unit_1 rfl fl_C_80 rfl rfl ?_
  refine AW.bipush (pc' := 6) (v := nI 20) d_C_unit_4 rfl (by decide) ?_
  refine AW.icmp_ltN (tgt := 19) (pc' := 9) d_C_unit_6 (by decide) rfl (by omega) (by omega) (fun h => absurd h (by omega)) (fun h6 => ?_)
  exact AW.throwS (x := 1) d_C_unit_9 d_C_unit_12 d_C_unit_13 d_C_unit_15 d_C_unit_18 cl_C_75 ini_java_lang_UnsupportedOperationException sr_C_83 thr_1 rfl (by decide) rfl rfl rfl ⟨rfl, rfl⟩
theorem c_unit_2 (X : ct_X) (z : S_c) (k : S_m) (o : Nat → Int64) (h : c_nu z < 20) : AF X m_C_unit 7 0 0 [.ref 0] (wL z k o) (.inl (some (.int (nI (c_nu z))))) (wL (c_nu_ z (c_nu z + 1)) k o) := by
  refine AM.of rfl (Nat.le_of_ble_eq_true rfl) (ls := [some (.ref 0), none]) rfl ?_
  refine AW.aload_n (pc' := 1) d_C_unit_0 rfl rfl rfl ?_
  refine AW.getf (pc' := 4) d_C_unit_1 rfl fl_C_80 rfl rfl ?_
  refine AW.bipush (pc' := 6) (v := nI 20) d_C_unit_4 rfl (by decide) ?_
  refine AW.icmp_ltN (tgt := 19) (pc' := 9) d_C_unit_6 (by decide) rfl (by omega) (by omega) (fun h6 => ?_) (fun h => absurd h (by omega))
  refine AW.aload_n (pc' := 20) d_C_unit_19 rfl rfl rfl ?_
  refine AW.getf (pc' := 23) d_C_unit_20 rfl fl_C_80 rfl rfl ?_
  refine AW.istore_n (pc' := 24) (ls' := [some (.ref 0), some (.int (nI (c_nu z)))]) d_C_unit_23 rfl rfl rfl rfl ?_
  refine AW.aload_n (pc' := 25) d_C_unit_24 rfl rfl rfl ?_
  refine AW.dup (pc' := 26) d_C_unit_25 rfl rfl ?_
  refine AW.getf (pc' := 29) d_C_unit_26 rfl fl_C_80 rfl rfl ?_
  refine AW.iconst (pc' := 30) (v := nI 1) d_C_unit_29 rfl (by decide) ?_
  refine AW.iaddN (pc' := 31) d_C_unit_30 rfl ?_
  refine AW.putf (pc' := 34) (w' := (wL (c_nu_ z ((c_nu z) + 1)) k o)) d_C_unit_31 rfl fp_C_80 rfl rfl (fun _ => ⟨rfl, rfl⟩) rfl rfl ?_
  refine AW.iload_n (pc' := 35) d_C_unit_34 rfl rfl rfl ?_
  exact AW.iret d_C_unit_35 rfl rfl rfl ⟨rfl, rfl⟩
theorem c_arrive_0 (X : ct_X) (z : S_c) (k : S_m) (o : Nat → Int64) (x : Int32) (hx : x < 0 ∨ nI (c_np z) ≤ x) : AF X m_C_arrive 7 0 0 [.ref 0, .int (x)] (wL z k o) (.inr 2) (wL z k o) := by
  refine AM.of rfl (Nat.le_of_ble_eq_true rfl) (ls := [some (.ref 0), some (.int (x))]) rfl ?_
  refine AW.aload_n (pc' := 1) d_C_arrive_0 rfl rfl rfl ?_
  refine AW.iload_n (pc' := 2) d_C_arrive_1 rfl rfl rfl ?_
  exact AW.cVx d_C_arrive_2 cv_C_85 (by decide) rfl rfl rfl (c_reqPerson_no X z k o x hx) rfl rfl rfl rfl rfl rfl rfl ⟨rfl, rfl⟩
theorem c_arrive_1 (X : ct_X) (z : S_c) (k : S_m) (o : Nat → Int64) (p : Nat) (hj : p < c_np z) (hnp : c_np z ≤ 40) (h : ¬ c_sop z p = -1) : AF X m_C_arrive 7 0 0 [.ref 0, .int (nI (p))] (wL z k o) (.inr 3) (wL z k o) := by
  refine AM.of rfl (Nat.le_of_ble_eq_true rfl) (ls := [some (.ref 0), some (.int (nI (p)))]) rfl ?_
  refine AW.aload_n (pc' := 1) d_C_arrive_0 rfl rfl rfl ?_
  refine AW.iload_n (pc' := 2) d_C_arrive_1 rfl rfl rfl ?_
  refine AW.cV (pc' := 5) d_C_arrive_2 rfl cv_C_85 (by decide) rfl rfl rfl (c_reqPerson_ok X z k o p hj (by omega)) rfl rfl rfl rfl rfl rfl rfl ?_
  refine AW.aload_n (pc' := 6) d_C_arrive_5 rfl rfl rfl ?_
  refine AW.iload_n (pc' := 7) d_C_arrive_6 rfl rfl rfl ?_
  refine AW.cV (pc' := 10) d_C_arrive_7 rfl cv_C_89 (by decide) rfl rfl rfl (c_isThere_t X z k o p (by omega) h) rfl rfl rfl rfl rfl rfl rfl ?_
  refine AW.if_eq (tgt := 23) (pc' := 13) d_C_arrive_10 (by decide) rfl (fun h => absurd h (by decide)) (fun _ => ?_)
  exact AW.throwS (x := 3) d_C_arrive_13 d_C_arrive_16 d_C_arrive_17 d_C_arrive_19 d_C_arrive_22 cl_C_93 ini_java_lang_IllegalStateException sr_C_95 thr_3 rfl (by decide) rfl rfl rfl ⟨rfl, rfl⟩
theorem c_arrive_2 (X : ct_X) (z : S_c) (k : S_m) (o : Nat → Int64) (p : Nat) (hj : p < c_np z) (hnp : c_np z ≤ 40) (h : c_sop z p = -1) (hn : c_ns z ≤ 20) (hc : c_sec z ≤ 99999) (hL : Led z) (hR : Ring z) : AF X m_C_arrive 7 0 0 [.ref 0, .int (nI (p))] (wL z k o) (.inl none) (wL (f_come (c_arr_ z (upd (c_arr z) p (nI (c_sec z)))) p 0) k o) := by
  refine AM.of rfl (Nat.le_of_ble_eq_true rfl) (ls := [some (.ref 0), some (.int (nI (p)))]) rfl ?_
  refine AW.aload_n (pc' := 1) d_C_arrive_0 rfl rfl rfl ?_
  refine AW.iload_n (pc' := 2) d_C_arrive_1 rfl rfl rfl ?_
  refine AW.cV (pc' := 5) d_C_arrive_2 rfl cv_C_85 (by decide) rfl rfl rfl (c_reqPerson_ok X z k o p hj (by omega)) rfl rfl rfl rfl rfl rfl rfl ?_
  refine AW.aload_n (pc' := 6) d_C_arrive_5 rfl rfl rfl ?_
  refine AW.iload_n (pc' := 7) d_C_arrive_6 rfl rfl rfl ?_
  refine AW.cV (pc' := 10) d_C_arrive_7 rfl cv_C_89 (by decide) rfl rfl rfl (c_isThere_f X z k o p (by omega) h) rfl rfl rfl rfl rfl rfl rfl ?_
  refine AW.if_eq (tgt := 23) (pc' := 13) d_C_arrive_10 (by decide) rfl (fun _ => ?_) (fun h => absurd h (by decide))
  refine AW.aload_n (pc' := 24) d_C_arrive_23 rfl rfl rfl ?_
  refine AW.getf (pc' := 27) d_C_arrive_24 rfl fl_C_17 rfl rfl ?_
  refine AW.iload_n (pc' := 28) d_C_arrive_27 rfl rfl rfl ?_
  refine AW.aload_n (pc' := 29) d_C_arrive_28 rfl rfl rfl ?_
  refine AW.getf (pc' := 32) d_C_arrive_29 rfl fl_C_98 rfl rfl ?_
  refine AW.iastN (pc' := 33) (w' := (wL (c_arr_ z (upd (c_arr z) p (nI (c_sec z)))) k o)) d_C_arrive_32 rfl rfl (by omega) (by decide) rfl ?_
  refine AW.aload_n (pc' := 34) d_C_arrive_33 rfl rfl rfl ?_
  refine AW.iload_n (pc' := 35) d_C_arrive_34 rfl rfl rfl ?_
  refine AW.iconst (pc' := 36) (v := nI 0) d_C_arrive_35 rfl (by decide) ?_
  refine AW.cV (pc' := 39) d_C_arrive_36 rfl cv_C_101 (by decide) rfl rfl rfl (c_come X (c_arr_ z (upd (c_arr z) p (nI (c_sec z)))) k o p 0 (by omega) (by decide) hnp hn hc hL hR) rfl rfl rfl rfl rfl rfl rfl ?_
  exact AW.vret d_C_arrive_39 rfl rfl rfl ⟨rfl, rfl⟩
theorem c_leave_0 (X : ct_X) (z : S_c) (k : S_m) (o : Nat → Int64) (x : Int32) (hx : x < 0 ∨ nI (c_np z) ≤ x) : AF X m_C_leave 7 0 0 [.ref 0, .int (x)] (wL z k o) (.inr 2) (wL z k o) := by
  refine AM.of rfl (Nat.le_of_ble_eq_true rfl) (ls := [some (.ref 0), some (.int (x))]) rfl ?_
  refine AW.aload_n (pc' := 1) d_C_leave_0 rfl rfl rfl ?_
  refine AW.iload_n (pc' := 2) d_C_leave_1 rfl rfl rfl ?_
  exact AW.cVx d_C_leave_2 cv_C_85 (by decide) rfl rfl rfl (c_reqPerson_no X z k o x hx) rfl rfl rfl rfl rfl rfl rfl ⟨rfl, rfl⟩
theorem c_leave_1 (X : ct_X) (z : S_c) (k : S_m) (o : Nat → Int64) (p : Nat) (hj : p < c_np z) (hnp : c_np z ≤ 40) (h : c_sop z p = -1) : AF X m_C_leave 7 0 0 [.ref 0, .int (nI (p))] (wL z k o) (.inr 3) (wL z k o) := by
  refine AM.of rfl (Nat.le_of_ble_eq_true rfl) (ls := [some (.ref 0), some (.int (nI (p)))]) rfl ?_
  refine AW.aload_n (pc' := 1) d_C_leave_0 rfl rfl rfl ?_
  refine AW.iload_n (pc' := 2) d_C_leave_1 rfl rfl rfl ?_
  refine AW.cV (pc' := 5) d_C_leave_2 rfl cv_C_85 (by decide) rfl rfl rfl (c_reqPerson_ok X z k o p hj (by omega)) rfl rfl rfl rfl rfl rfl rfl ?_
  refine AW.aload_n (pc' := 6) d_C_leave_5 rfl rfl rfl ?_
  refine AW.iload_n (pc' := 7) d_C_leave_6 rfl rfl rfl ?_
  exact AW.cVx d_C_leave_7 cv_C_105 (by decide) rfl rfl rfl (c_reqThere_no X z k o p (by omega) h) rfl rfl rfl rfl rfl rfl rfl ⟨rfl, rfl⟩
theorem c_leave_2 (X : ct_X) (z : S_c) (k : S_m) (o : Nat → Int64) (p : Nat) (hj : p < c_np z) (hnp : c_np z ≤ 40) (h : ¬ c_sop z p = -1) (hn : c_ns z ≤ 20) (hc : c_sec z ≤ 99999) (hL : Led z) (hR : Ring z) : AF X m_C_leave 7 0 0 [.ref 0, .int (nI (p))] (wL z k o) (.inl none) (wL (f_lln (c_off_ (c_arr_ (c_sop_ z (upd (c_sop z) p (-1))) (upd (c_arr z) p (-1))) (rep (c_off (c_arr_ (c_sop_ z (upd (c_sop z) p (-1))) (upd (c_arr z) p (-1)))) (nI p) (-1) (c_ns (c_arr_ (c_sop_ z (upd (c_sop z) p (-1))) (upd (c_arr z) p (-1)))))) p) k o) := by
  refine AM.of rfl (Nat.le_of_ble_eq_true rfl) (ls := [some (.ref 0), some (.int (nI (p)))]) rfl ?_
  refine AW.aload_n (pc' := 1) d_C_leave_0 rfl rfl rfl ?_
  refine AW.iload_n (pc' := 2) d_C_leave_1 rfl rfl rfl ?_
  refine AW.cV (pc' := 5) d_C_leave_2 rfl cv_C_85 (by decide) rfl rfl rfl (c_reqPerson_ok X z k o p hj (by omega)) rfl rfl rfl rfl rfl rfl rfl ?_
  refine AW.aload_n (pc' := 6) d_C_leave_5 rfl rfl rfl ?_
  refine AW.iload_n (pc' := 7) d_C_leave_6 rfl rfl rfl ?_
  refine AW.cV (pc' := 10) d_C_leave_7 rfl cv_C_105 (by decide) rfl rfl rfl (c_reqThere_ok X z k o p (by omega) h) rfl rfl rfl rfl rfl rfl rfl ?_
  refine AW.aload_n (pc' := 11) d_C_leave_10 rfl rfl rfl ?_
  refine AW.getf (pc' := 14) d_C_leave_11 rfl fl_C_20 rfl rfl ?_
  refine AW.iload_n (pc' := 15) d_C_leave_14 rfl rfl rfl ?_
  refine AW.iconst (pc' := 16) (v := (-1)) d_C_leave_15 rfl (by decide) ?_
  refine AW.iastN (pc' := 17) (w' := (wL (c_sop_ z (upd (c_sop z) p ((-1)))) k o)) d_C_leave_16 rfl rfl (by omega) (by decide) rfl ?_
  refine AW.aload_n (pc' := 18) d_C_leave_17 rfl rfl rfl ?_
  refine AW.getf (pc' := 21) d_C_leave_18 rfl fl_C_17 rfl rfl ?_
  refine AW.iload_n (pc' := 22) d_C_leave_21 rfl rfl rfl ?_
  refine AW.iconst (pc' := 23) (v := (-1)) d_C_leave_22 rfl (by decide) ?_
  refine AW.iastN (pc' := 24) (w' := (wL (c_arr_ (c_sop_ z (upd (c_sop z) p ((-1)))) (upd (c_arr z) p ((-1)))) k o)) d_C_leave_23 rfl rfl (by omega) (by decide) rfl ?_
  refine AW.aload_n (pc' := 25) d_C_leave_24 rfl rfl rfl ?_
  refine AW.iload_n (pc' := 26) d_C_leave_25 rfl rfl rfl ?_
  refine AW.cV (pc' := 29) d_C_leave_26 rfl cv_C_108 (by decide) rfl rfl rfl (c_withdraw X (c_arr_ (c_sop_ z (upd (c_sop z) p (-1))) (upd (c_arr z) p (-1))) k o (nI p) hn) rfl rfl rfl rfl rfl rfl rfl ?_
  refine AW.aload_n (pc' := 30) d_C_leave_29 rfl rfl rfl ?_
  refine AW.iload_n (pc' := 31) d_C_leave_30 rfl rfl rfl ?_
  refine AW.cV (pc' := 34) d_C_leave_31 rfl cv_C_111 (by decide) rfl rfl rfl (c_lln X (c_off_ (c_arr_ (c_sop_ z (upd (c_sop z) p (-1))) (upd (c_arr z) p (-1))) (rep (c_off (c_arr_ (c_sop_ z (upd (c_sop z) p (-1))) (upd (c_arr z) p (-1)))) (nI p) (-1) (c_ns (c_arr_ (c_sop_ z (upd (c_sop z) p (-1))) (upd (c_arr z) p (-1)))))) k o p (by omega) hnp hn hL hR) rfl rfl rfl rfl rfl rfl rfl ?_
  exact AW.vret d_C_leave_34 rfl rfl rfl ⟨rfl, rfl⟩
theorem c_go_0 (X : ct_X) (z : S_c) (k : S_m) (o : Nat → Int64) (x y : Int32) (hx : x < 0 ∨ nI (c_np z) ≤ x) : AF X m_C_go 7 0 0 [.ref 0, .int (x), .int (y)] (wL z k o) (.inr 2) (wL z k o) := by
  refine AM.of rfl (Nat.le_of_ble_eq_true rfl) (ls := [some (.ref 0), some (.int (x)), some (.int (y))]) rfl ?_
  refine AW.aload_n (pc' := 1) d_C_go_0 rfl rfl rfl ?_
  refine AW.iload_n (pc' := 2) d_C_go_1 rfl rfl rfl ?_
  exact AW.cVx d_C_go_2 cv_C_85 (by decide) rfl rfl rfl (c_reqPerson_no X z k o x hx) rfl rfl rfl rfl rfl rfl rfl ⟨rfl, rfl⟩
theorem c_go_1 (X : ct_X) (z : S_c) (k : S_m) (o : Nat → Int64) (p : Nat) (hj : p < c_np z) (hnp : c_np z ≤ 40) (x : Int32) (hx : x < 0 ∨ nI (c_ns z) ≤ x) : AF X m_C_go 7 0 0 [.ref 0, .int (nI (p)), .int (x)] (wL z k o) (.inr 2) (wL z k o) := by
  refine AM.of rfl (Nat.le_of_ble_eq_true rfl) (ls := [some (.ref 0), some (.int (nI (p))), some (.int (x))]) rfl ?_
  refine AW.aload_n (pc' := 1) d_C_go_0 rfl rfl rfl ?_
  refine AW.iload_n (pc' := 2) d_C_go_1 rfl rfl rfl ?_
  refine AW.cV (pc' := 5) d_C_go_2 rfl cv_C_85 (by decide) rfl rfl rfl (c_reqPerson_ok X z k o p hj (by omega)) rfl rfl rfl rfl rfl rfl rfl ?_
  refine AW.aload_n (pc' := 6) d_C_go_5 rfl rfl rfl ?_
  refine AW.iload_n (pc' := 7) d_C_go_6 rfl rfl rfl ?_
  exact AW.cVx d_C_go_7 cv_C_114 (by decide) rfl rfl rfl (c_reqSector_no X z k o x hx) rfl rfl rfl rfl rfl rfl rfl ⟨rfl, rfl⟩
theorem c_go_2 (X : ct_X) (z : S_c) (k : S_m) (o : Nat → Int64) (p : Nat) (hj : p < c_np z) (hnp : c_np z ≤ 40) (s : Nat) (hs : s < c_ns z) (hn : c_ns z ≤ 20) (h : c_sop z p = -1) : AF X m_C_go 7 0 0 [.ref 0, .int (nI (p)), .int (nI (s))] (wL z k o) (.inr 3) (wL z k o) := by
  refine AM.of rfl (Nat.le_of_ble_eq_true rfl) (ls := [some (.ref 0), some (.int (nI (p))), some (.int (nI (s)))]) rfl ?_
  refine AW.aload_n (pc' := 1) d_C_go_0 rfl rfl rfl ?_
  refine AW.iload_n (pc' := 2) d_C_go_1 rfl rfl rfl ?_
  refine AW.cV (pc' := 5) d_C_go_2 rfl cv_C_85 (by decide) rfl rfl rfl (c_reqPerson_ok X z k o p hj (by omega)) rfl rfl rfl rfl rfl rfl rfl ?_
  refine AW.aload_n (pc' := 6) d_C_go_5 rfl rfl rfl ?_
  refine AW.iload_n (pc' := 7) d_C_go_6 rfl rfl rfl ?_
  refine AW.cV (pc' := 10) d_C_go_7 rfl cv_C_114 (by decide) rfl rfl rfl (c_reqSector_ok X z k o s hs (by omega)) rfl rfl rfl rfl rfl rfl rfl ?_
  refine AW.aload_n (pc' := 11) d_C_go_10 rfl rfl rfl ?_
  refine AW.iload_n (pc' := 12) d_C_go_11 rfl rfl rfl ?_
  exact AW.cVx d_C_go_12 cv_C_105 (by decide) rfl rfl rfl (c_reqThere_no X z k o p (by omega) h) rfl rfl rfl rfl rfl rfl rfl ⟨rfl, rfl⟩
theorem c_go_3 (X : ct_X) (z : S_c) (k : S_m) (o : Nat → Int64) (p : Nat) (hj : p < c_np z) (hnp : c_np z ≤ 40) (s : Nat) (hs : s < c_ns z) (hn : c_ns z ≤ 20) (h : ¬ c_sop z p = -1) (hq : c_sop z p = nI s) : AF X m_C_go 7 0 0 [.ref 0, .int (nI (p)), .int (nI (s))] (wL z k o) (.inr 3) (wL z k o) := by
  refine AM.of rfl (Nat.le_of_ble_eq_true rfl) (ls := [some (.ref 0), some (.int (nI (p))), some (.int (nI (s)))]) rfl ?_
  refine AW.aload_n (pc' := 1) d_C_go_0 rfl rfl rfl ?_
  refine AW.iload_n (pc' := 2) d_C_go_1 rfl rfl rfl ?_
  refine AW.cV (pc' := 5) d_C_go_2 rfl cv_C_85 (by decide) rfl rfl rfl (c_reqPerson_ok X z k o p hj (by omega)) rfl rfl rfl rfl rfl rfl rfl ?_
  refine AW.aload_n (pc' := 6) d_C_go_5 rfl rfl rfl ?_
  refine AW.iload_n (pc' := 7) d_C_go_6 rfl rfl rfl ?_
  refine AW.cV (pc' := 10) d_C_go_7 rfl cv_C_114 (by decide) rfl rfl rfl (c_reqSector_ok X z k o s hs (by omega)) rfl rfl rfl rfl rfl rfl rfl ?_
  refine AW.aload_n (pc' := 11) d_C_go_10 rfl rfl rfl ?_
  refine AW.iload_n (pc' := 12) d_C_go_11 rfl rfl rfl ?_
  refine AW.cV (pc' := 15) d_C_go_12 rfl cv_C_105 (by decide) rfl rfl rfl (c_reqThere_ok X z k o p (by omega) h) rfl rfl rfl rfl rfl rfl rfl ?_
  refine AW.aload_n (pc' := 16) d_C_go_15 rfl rfl rfl ?_
  refine AW.getf (pc' := 19) d_C_go_16 rfl fl_C_20 rfl rfl ?_
  refine AW.iload_n (pc' := 20) d_C_go_19 rfl rfl rfl ?_
  refine AW.ialdN (pc' := 21) d_C_go_20 rfl rfl (by omega) (by decide) ?_
  refine AW.iload_n (pc' := 22) d_C_go_21 rfl rfl rfl ?_
  refine AW.icmp_ne (tgt := 35) (pc' := 25) d_C_go_22 (by decide) rfl (fun h => absurd hq h) (fun h22 => ?_)
  exact AW.throwS (x := 3) d_C_go_25 d_C_go_28 d_C_go_29 d_C_go_31 d_C_go_34 cl_C_93 ini_java_lang_IllegalStateException sr_C_117 thr_3 rfl (by decide) rfl rfl rfl ⟨rfl, rfl⟩
theorem c_go_4 (X : ct_X) (z : S_c) (k : S_m) (o : Nat → Int64) (p : Nat) (hj : p < c_np z) (hnp : c_np z ≤ 40) (s : Nat) (hs : s < c_ns z) (hn : c_ns z ≤ 20) (h : ¬ c_sop z p = -1) (hq : ¬ c_sop z p = nI s) (hop : c_opn z s = 0) : AF X m_C_go 7 0 0 [.ref 0, .int (nI (p)), .int (nI (s))] (wL z k o) (.inr 3) (wL z k o) := by
  refine AM.of rfl (Nat.le_of_ble_eq_true rfl) (ls := [some (.ref 0), some (.int (nI (p))), some (.int (nI (s)))]) rfl ?_
  refine AW.aload_n (pc' := 1) d_C_go_0 rfl rfl rfl ?_
  refine AW.iload_n (pc' := 2) d_C_go_1 rfl rfl rfl ?_
  refine AW.cV (pc' := 5) d_C_go_2 rfl cv_C_85 (by decide) rfl rfl rfl (c_reqPerson_ok X z k o p hj (by omega)) rfl rfl rfl rfl rfl rfl rfl ?_
  refine AW.aload_n (pc' := 6) d_C_go_5 rfl rfl rfl ?_
  refine AW.iload_n (pc' := 7) d_C_go_6 rfl rfl rfl ?_
  refine AW.cV (pc' := 10) d_C_go_7 rfl cv_C_114 (by decide) rfl rfl rfl (c_reqSector_ok X z k o s hs (by omega)) rfl rfl rfl rfl rfl rfl rfl ?_
  refine AW.aload_n (pc' := 11) d_C_go_10 rfl rfl rfl ?_
  refine AW.iload_n (pc' := 12) d_C_go_11 rfl rfl rfl ?_
  refine AW.cV (pc' := 15) d_C_go_12 rfl cv_C_105 (by decide) rfl rfl rfl (c_reqThere_ok X z k o p (by omega) h) rfl rfl rfl rfl rfl rfl rfl ?_
  refine AW.aload_n (pc' := 16) d_C_go_15 rfl rfl rfl ?_
  refine AW.getf (pc' := 19) d_C_go_16 rfl fl_C_20 rfl rfl ?_
  refine AW.iload_n (pc' := 20) d_C_go_19 rfl rfl rfl ?_
  refine AW.ialdN (pc' := 21) d_C_go_20 rfl rfl (by omega) (by decide) ?_
  refine AW.iload_n (pc' := 22) d_C_go_21 rfl rfl rfl ?_
  refine AW.icmp_ne (tgt := 35) (pc' := 25) d_C_go_22 (by decide) rfl (fun h22 => ?_) (fun h => absurd h hq)
  refine AW.aload_n (pc' := 36) d_C_go_35 rfl rfl rfl ?_
  refine AW.iload_n (pc' := 37) d_C_go_36 rfl rfl rfl ?_
  exact AW.cVx d_C_go_37 cv_C_119 (by decide) rfl rfl rfl (c_reqOpen_no X z k o s (by omega) hop) rfl rfl rfl rfl rfl rfl rfl ⟨rfl, rfl⟩
theorem c_go_5 (X : ct_X) (z : S_c) (k : S_m) (o : Nat → Int64) (p : Nat) (hj : p < c_np z) (hnp : c_np z ≤ 40) (s : Nat) (hs : s < c_ns z) (hn : c_ns z ≤ 20) (h : ¬ c_sop z p = -1) (hq : ¬ c_sop z p = nI s) (hop : ¬ c_opn z s = 0) (hc : c_sec z ≤ 99999) (hL : Led z) (hR : Ring z) : AF X m_C_go 7 0 0 [.ref 0, .int (nI (p)), .int (nI (s))] (wL z k o) (.inl none) (wL (f_come z p s) k o) := by
  refine AM.of rfl (Nat.le_of_ble_eq_true rfl) (ls := [some (.ref 0), some (.int (nI (p))), some (.int (nI (s)))]) rfl ?_
  refine AW.aload_n (pc' := 1) d_C_go_0 rfl rfl rfl ?_
  refine AW.iload_n (pc' := 2) d_C_go_1 rfl rfl rfl ?_
  refine AW.cV (pc' := 5) d_C_go_2 rfl cv_C_85 (by decide) rfl rfl rfl (c_reqPerson_ok X z k o p hj (by omega)) rfl rfl rfl rfl rfl rfl rfl ?_
  refine AW.aload_n (pc' := 6) d_C_go_5 rfl rfl rfl ?_
  refine AW.iload_n (pc' := 7) d_C_go_6 rfl rfl rfl ?_
  refine AW.cV (pc' := 10) d_C_go_7 rfl cv_C_114 (by decide) rfl rfl rfl (c_reqSector_ok X z k o s hs (by omega)) rfl rfl rfl rfl rfl rfl rfl ?_
  refine AW.aload_n (pc' := 11) d_C_go_10 rfl rfl rfl ?_
  refine AW.iload_n (pc' := 12) d_C_go_11 rfl rfl rfl ?_
  refine AW.cV (pc' := 15) d_C_go_12 rfl cv_C_105 (by decide) rfl rfl rfl (c_reqThere_ok X z k o p (by omega) h) rfl rfl rfl rfl rfl rfl rfl ?_
  refine AW.aload_n (pc' := 16) d_C_go_15 rfl rfl rfl ?_
  refine AW.getf (pc' := 19) d_C_go_16 rfl fl_C_20 rfl rfl ?_
  refine AW.iload_n (pc' := 20) d_C_go_19 rfl rfl rfl ?_
  refine AW.ialdN (pc' := 21) d_C_go_20 rfl rfl (by omega) (by decide) ?_
  refine AW.iload_n (pc' := 22) d_C_go_21 rfl rfl rfl ?_
  refine AW.icmp_ne (tgt := 35) (pc' := 25) d_C_go_22 (by decide) rfl (fun h22 => ?_) (fun h => absurd h hq)
  refine AW.aload_n (pc' := 36) d_C_go_35 rfl rfl rfl ?_
  refine AW.iload_n (pc' := 37) d_C_go_36 rfl rfl rfl ?_
  refine AW.cV (pc' := 40) d_C_go_37 rfl cv_C_119 (by decide) rfl rfl rfl (c_reqOpen_ok X z k o s (by omega) hop) rfl rfl rfl rfl rfl rfl rfl ?_
  refine AW.aload_n (pc' := 41) d_C_go_40 rfl rfl rfl ?_
  refine AW.iload_n (pc' := 42) d_C_go_41 rfl rfl rfl ?_
  refine AW.iload_n (pc' := 43) d_C_go_42 rfl rfl rfl ?_
  refine AW.cV (pc' := 46) d_C_go_43 rfl cv_C_101 (by decide) rfl rfl rfl (c_come X z k o p s (by omega) (by omega) hnp hn hc hL hR) rfl rfl rfl rfl rfl rfl rfl ?_
  exact AW.vret d_C_go_46 rfl rfl rfl ⟨rfl, rfl⟩
theorem c_place_0 (X : ct_X) (z : S_c) (k : S_m) (o : Nat → Int64) (x y : Int32) (hx : x < 0 ∨ nI (c_nu z) ≤ x) : AF X m_C_place 7 0 0 [.ref 0, .int (x), .int (y)] (wL z k o) (.inr 2) (wL z k o) := by
  refine AM.of rfl (Nat.le_of_ble_eq_true rfl) (ls := [some (.ref 0), some (.int (x)), some (.int (y))]) rfl ?_
  refine AW.aload_n (pc' := 1) d_C_place_0 rfl rfl rfl ?_
  refine AW.iload_n (pc' := 2) d_C_place_1 rfl rfl rfl ?_
  exact AW.cVx d_C_place_2 cv_C_122 (by decide) rfl rfl rfl (c_reqUnit_no X z k o x hx) rfl rfl rfl rfl rfl rfl rfl ⟨rfl, rfl⟩
theorem c_place_1 (X : ct_X) (z : S_c) (k : S_m) (o : Nat → Int64) (u : Nat) (hu : u < c_nu z) (hnu : c_nu z ≤ 20) (x : Int32) (hm : ¬ x = -1) (hx : x < 0 ∨ nI (c_ns z) ≤ x) : AF X m_C_place 7 0 0 [.ref 0, .int (nI (u)), .int (x)] (wL z k o) (.inr 2) (wL z k o) := by
  refine AM.of rfl (Nat.le_of_ble_eq_true rfl) (ls := [some (.ref 0), some (.int (nI (u))), some (.int (x))]) rfl ?_
  refine AW.aload_n (pc' := 1) d_C_place_0 rfl rfl rfl ?_
  refine AW.iload_n (pc' := 2) d_C_place_1 rfl rfl rfl ?_
  refine AW.cV (pc' := 5) d_C_place_2 rfl cv_C_122 (by decide) rfl rfl rfl (c_reqUnit_ok X z k o u hu (by omega)) rfl rfl rfl rfl rfl rfl rfl ?_
  refine AW.iload_n (pc' := 6) d_C_place_5 rfl rfl rfl ?_
  refine AW.iconst (pc' := 7) (v := (-1)) d_C_place_6 rfl (by decide) ?_
  refine AW.icmp_eq (tgt := 15) (pc' := 10) d_C_place_7 (by decide) rfl (fun h => absurd h hm) (fun h7 => ?_)
  refine AW.aload_n (pc' := 11) d_C_place_10 rfl rfl rfl ?_
  refine AW.iload_n (pc' := 12) d_C_place_11 rfl rfl rfl ?_
  exact AW.cVx d_C_place_12 cv_C_114 (by decide) rfl rfl rfl (c_reqSector_no X z k o x hx) rfl rfl rfl rfl rfl rfl rfl ⟨rfl, rfl⟩
theorem c_place_2 (X : ct_X) (z : S_c) (k : S_m) (o : Nat → Int64) (u : Nat) (hu : u < c_nu z) (hnu : c_nu z ≤ 20) (hq : c_sou z u = -1) : AF X m_C_place 7 0 0 [.ref 0, .int (nI (u)), .int ((-1))] (wL z k o) (.inr 3) (wL z k o) := by
  refine AM.of rfl (Nat.le_of_ble_eq_true rfl) (ls := [some (.ref 0), some (.int (nI (u))), some (.int ((-1)))]) rfl ?_
  refine AW.aload_n (pc' := 1) d_C_place_0 rfl rfl rfl ?_
  refine AW.iload_n (pc' := 2) d_C_place_1 rfl rfl rfl ?_
  refine AW.cV (pc' := 5) d_C_place_2 rfl cv_C_122 (by decide) rfl rfl rfl (c_reqUnit_ok X z k o u hu (by omega)) rfl rfl rfl rfl rfl rfl rfl ?_
  refine AW.iload_n (pc' := 6) d_C_place_5 rfl rfl rfl ?_
  refine AW.iconst (pc' := 7) (v := (-1)) d_C_place_6 rfl (by decide) ?_
  refine AW.icmp_eq (tgt := 15) (pc' := 10) d_C_place_7 (by decide) rfl (fun h7 => ?_) (fun h => absurd rfl h)
  refine AW.aload_n (pc' := 16) d_C_place_15 rfl rfl rfl ?_
  refine AW.getf (pc' := 19) d_C_place_16 rfl fl_C_32 rfl rfl ?_
  refine AW.iload_n (pc' := 20) d_C_place_19 rfl rfl rfl ?_
  refine AW.ialdN (pc' := 21) d_C_place_20 rfl rfl (by omega) (by decide) ?_
  refine AW.iload_n (pc' := 22) d_C_place_21 rfl rfl rfl ?_
  refine AW.icmp_ne (tgt := 35) (pc' := 25) d_C_place_22 (by decide) rfl (fun h => absurd hq h) (fun h22 => ?_)
  exact AW.throwS (x := 3) d_C_place_25 d_C_place_28 d_C_place_29 d_C_place_31 d_C_place_34 cl_C_93 ini_java_lang_IllegalStateException sr_C_125 thr_3 rfl (by decide) rfl rfl rfl ⟨rfl, rfl⟩
theorem c_place_3 (X : ct_X) (z : S_c) (k : S_m) (o : Nat → Int64) (u : Nat) (hu : u < c_nu z) (hnu : c_nu z ≤ 20) (hq : ¬ c_sou z u = -1) : AF X m_C_place 7 0 0 [.ref 0, .int (nI (u)), .int ((-1))] (wL z k o) (.inl none) (wL (c_sou_ z (upd (c_sou z) u (-1))) k o) := by
  refine AM.of rfl (Nat.le_of_ble_eq_true rfl) (ls := [some (.ref 0), some (.int (nI (u))), some (.int ((-1)))]) rfl ?_
  refine AW.aload_n (pc' := 1) d_C_place_0 rfl rfl rfl ?_
  refine AW.iload_n (pc' := 2) d_C_place_1 rfl rfl rfl ?_
  refine AW.cV (pc' := 5) d_C_place_2 rfl cv_C_122 (by decide) rfl rfl rfl (c_reqUnit_ok X z k o u hu (by omega)) rfl rfl rfl rfl rfl rfl rfl ?_
  refine AW.iload_n (pc' := 6) d_C_place_5 rfl rfl rfl ?_
  refine AW.iconst (pc' := 7) (v := (-1)) d_C_place_6 rfl (by decide) ?_
  refine AW.icmp_eq (tgt := 15) (pc' := 10) d_C_place_7 (by decide) rfl (fun h7 => ?_) (fun h => absurd rfl h)
  refine AW.aload_n (pc' := 16) d_C_place_15 rfl rfl rfl ?_
  refine AW.getf (pc' := 19) d_C_place_16 rfl fl_C_32 rfl rfl ?_
  refine AW.iload_n (pc' := 20) d_C_place_19 rfl rfl rfl ?_
  refine AW.ialdN (pc' := 21) d_C_place_20 rfl rfl (by omega) (by decide) ?_
  refine AW.iload_n (pc' := 22) d_C_place_21 rfl rfl rfl ?_
  refine AW.icmp_ne (tgt := 35) (pc' := 25) d_C_place_22 (by decide) rfl (fun h22 => ?_) (fun h => absurd h hq)
  refine AW.iload_n (pc' := 36) d_C_place_35 rfl rfl rfl ?_
  refine AW.iconst (pc' := 37) (v := (-1)) d_C_place_36 rfl (by decide) ?_
  refine AW.icmp_eq (tgt := 45) (pc' := 40) d_C_place_37 (by decide) rfl (fun h37 => ?_) (fun h => absurd rfl h)
  refine AW.aload_n (pc' := 46) d_C_place_45 rfl rfl rfl ?_
  refine AW.getf (pc' := 49) d_C_place_46 rfl fl_C_32 rfl rfl ?_
  refine AW.iload_n (pc' := 50) d_C_place_49 rfl rfl rfl ?_
  refine AW.iload_n (pc' := 51) d_C_place_50 rfl rfl rfl ?_
  refine AW.iastN (pc' := 52) (w' := (wL (c_sou_ z (upd (c_sou z) u ((-1)))) k o)) d_C_place_51 rfl rfl (by omega) (by decide) rfl ?_
  exact AW.vret d_C_place_52 rfl rfl rfl ⟨rfl, rfl⟩
theorem c_place_4 (X : ct_X) (z : S_c) (k : S_m) (o : Nat → Int64) (u : Nat) (hu : u < c_nu z) (hnu : c_nu z ≤ 20) (s : Nat) (hs : s < c_ns z) (hn : c_ns z ≤ 20) (hq : c_sou z u = nI s) : AF X m_C_place 7 0 0 [.ref 0, .int (nI (u)), .int (nI (s))] (wL z k o) (.inr 3) (wL z k o) := by
  refine AM.of rfl (Nat.le_of_ble_eq_true rfl) (ls := [some (.ref 0), some (.int (nI (u))), some (.int (nI (s)))]) rfl ?_
  refine AW.aload_n (pc' := 1) d_C_place_0 rfl rfl rfl ?_
  refine AW.iload_n (pc' := 2) d_C_place_1 rfl rfl rfl ?_
  refine AW.cV (pc' := 5) d_C_place_2 rfl cv_C_122 (by decide) rfl rfl rfl (c_reqUnit_ok X z k o u hu (by omega)) rfl rfl rfl rfl rfl rfl rfl ?_
  refine AW.iload_n (pc' := 6) d_C_place_5 rfl rfl rfl ?_
  refine AW.iconst (pc' := 7) (v := (-1)) d_C_place_6 rfl (by decide) ?_
  refine AW.icmp_eq (tgt := 15) (pc' := 10) d_C_place_7 (by decide) rfl (fun h => absurd h (oI_ne (by omega))) (fun h7 => ?_)
  refine AW.aload_n (pc' := 11) d_C_place_10 rfl rfl rfl ?_
  refine AW.iload_n (pc' := 12) d_C_place_11 rfl rfl rfl ?_
  refine AW.cV (pc' := 15) d_C_place_12 rfl cv_C_114 (by decide) rfl rfl rfl (c_reqSector_ok X z k o s hs (by omega)) rfl rfl rfl rfl rfl rfl rfl ?_
  refine AW.aload_n (pc' := 16) d_C_place_15 rfl rfl rfl ?_
  refine AW.getf (pc' := 19) d_C_place_16 rfl fl_C_32 rfl rfl ?_
  refine AW.iload_n (pc' := 20) d_C_place_19 rfl rfl rfl ?_
  refine AW.ialdN (pc' := 21) d_C_place_20 rfl rfl (by omega) (by decide) ?_
  refine AW.iload_n (pc' := 22) d_C_place_21 rfl rfl rfl ?_
  refine AW.icmp_ne (tgt := 35) (pc' := 25) d_C_place_22 (by decide) rfl (fun h => absurd hq h) (fun h22 => ?_)
  exact AW.throwS (x := 3) d_C_place_25 d_C_place_28 d_C_place_29 d_C_place_31 d_C_place_34 cl_C_93 ini_java_lang_IllegalStateException sr_C_125 thr_3 rfl (by decide) rfl rfl rfl ⟨rfl, rfl⟩
theorem c_place_5 (X : ct_X) (z : S_c) (k : S_m) (o : Nat → Int64) (u : Nat) (hu : u < c_nu z) (hnu : c_nu z ≤ 20) (s : Nat) (hs : s < c_ns z) (hn : c_ns z ≤ 20) (hq : ¬ c_sou z u = nI s) (hop : c_opn z s = 0) : AF X m_C_place 7 0 0 [.ref 0, .int (nI (u)), .int (nI (s))] (wL z k o) (.inr 3) (wL z k o) := by
  refine AM.of rfl (Nat.le_of_ble_eq_true rfl) (ls := [some (.ref 0), some (.int (nI (u))), some (.int (nI (s)))]) rfl ?_
  refine AW.aload_n (pc' := 1) d_C_place_0 rfl rfl rfl ?_
  refine AW.iload_n (pc' := 2) d_C_place_1 rfl rfl rfl ?_
  refine AW.cV (pc' := 5) d_C_place_2 rfl cv_C_122 (by decide) rfl rfl rfl (c_reqUnit_ok X z k o u hu (by omega)) rfl rfl rfl rfl rfl rfl rfl ?_
  refine AW.iload_n (pc' := 6) d_C_place_5 rfl rfl rfl ?_
  refine AW.iconst (pc' := 7) (v := (-1)) d_C_place_6 rfl (by decide) ?_
  refine AW.icmp_eq (tgt := 15) (pc' := 10) d_C_place_7 (by decide) rfl (fun h => absurd h (oI_ne (by omega))) (fun h7 => ?_)
  refine AW.aload_n (pc' := 11) d_C_place_10 rfl rfl rfl ?_
  refine AW.iload_n (pc' := 12) d_C_place_11 rfl rfl rfl ?_
  refine AW.cV (pc' := 15) d_C_place_12 rfl cv_C_114 (by decide) rfl rfl rfl (c_reqSector_ok X z k o s hs (by omega)) rfl rfl rfl rfl rfl rfl rfl ?_
  refine AW.aload_n (pc' := 16) d_C_place_15 rfl rfl rfl ?_
  refine AW.getf (pc' := 19) d_C_place_16 rfl fl_C_32 rfl rfl ?_
  refine AW.iload_n (pc' := 20) d_C_place_19 rfl rfl rfl ?_
  refine AW.ialdN (pc' := 21) d_C_place_20 rfl rfl (by omega) (by decide) ?_
  refine AW.iload_n (pc' := 22) d_C_place_21 rfl rfl rfl ?_
  refine AW.icmp_ne (tgt := 35) (pc' := 25) d_C_place_22 (by decide) rfl (fun h22 => ?_) (fun h => absurd h hq)
  refine AW.iload_n (pc' := 36) d_C_place_35 rfl rfl rfl ?_
  refine AW.iconst (pc' := 37) (v := (-1)) d_C_place_36 rfl (by decide) ?_
  refine AW.icmp_eq (tgt := 45) (pc' := 40) d_C_place_37 (by decide) rfl (fun h => absurd h (oI_ne (by omega))) (fun h37 => ?_)
  refine AW.aload_n (pc' := 41) d_C_place_40 rfl rfl rfl ?_
  refine AW.iload_n (pc' := 42) d_C_place_41 rfl rfl rfl ?_
  exact AW.cVx d_C_place_42 cv_C_119 (by decide) rfl rfl rfl (c_reqOpen_no X z k o s (by omega) hop) rfl rfl rfl rfl rfl rfl rfl ⟨rfl, rfl⟩
theorem c_place_6 (X : ct_X) (z : S_c) (k : S_m) (o : Nat → Int64) (u : Nat) (hu : u < c_nu z) (hnu : c_nu z ≤ 20) (s : Nat) (hs : s < c_ns z) (hn : c_ns z ≤ 20) (hq : ¬ c_sou z u = nI s) (hop : ¬ c_opn z s = 0) : AF X m_C_place 7 0 0 [.ref 0, .int (nI (u)), .int (nI (s))] (wL z k o) (.inl none) (wL (c_sou_ z (upd (c_sou z) u (nI s))) k o) := by
  refine AM.of rfl (Nat.le_of_ble_eq_true rfl) (ls := [some (.ref 0), some (.int (nI (u))), some (.int (nI (s)))]) rfl ?_
  refine AW.aload_n (pc' := 1) d_C_place_0 rfl rfl rfl ?_
  refine AW.iload_n (pc' := 2) d_C_place_1 rfl rfl rfl ?_
  refine AW.cV (pc' := 5) d_C_place_2 rfl cv_C_122 (by decide) rfl rfl rfl (c_reqUnit_ok X z k o u hu (by omega)) rfl rfl rfl rfl rfl rfl rfl ?_
  refine AW.iload_n (pc' := 6) d_C_place_5 rfl rfl rfl ?_
  refine AW.iconst (pc' := 7) (v := (-1)) d_C_place_6 rfl (by decide) ?_
  refine AW.icmp_eq (tgt := 15) (pc' := 10) d_C_place_7 (by decide) rfl (fun h => absurd h (oI_ne (by omega))) (fun h7 => ?_)
  refine AW.aload_n (pc' := 11) d_C_place_10 rfl rfl rfl ?_
  refine AW.iload_n (pc' := 12) d_C_place_11 rfl rfl rfl ?_
  refine AW.cV (pc' := 15) d_C_place_12 rfl cv_C_114 (by decide) rfl rfl rfl (c_reqSector_ok X z k o s hs (by omega)) rfl rfl rfl rfl rfl rfl rfl ?_
  refine AW.aload_n (pc' := 16) d_C_place_15 rfl rfl rfl ?_
  refine AW.getf (pc' := 19) d_C_place_16 rfl fl_C_32 rfl rfl ?_
  refine AW.iload_n (pc' := 20) d_C_place_19 rfl rfl rfl ?_
  refine AW.ialdN (pc' := 21) d_C_place_20 rfl rfl (by omega) (by decide) ?_
  refine AW.iload_n (pc' := 22) d_C_place_21 rfl rfl rfl ?_
  refine AW.icmp_ne (tgt := 35) (pc' := 25) d_C_place_22 (by decide) rfl (fun h22 => ?_) (fun h => absurd h hq)
  refine AW.iload_n (pc' := 36) d_C_place_35 rfl rfl rfl ?_
  refine AW.iconst (pc' := 37) (v := (-1)) d_C_place_36 rfl (by decide) ?_
  refine AW.icmp_eq (tgt := 45) (pc' := 40) d_C_place_37 (by decide) rfl (fun h => absurd h (oI_ne (by omega))) (fun h37 => ?_)
  refine AW.aload_n (pc' := 41) d_C_place_40 rfl rfl rfl ?_
  refine AW.iload_n (pc' := 42) d_C_place_41 rfl rfl rfl ?_
  refine AW.cV (pc' := 45) d_C_place_42 rfl cv_C_119 (by decide) rfl rfl rfl (c_reqOpen_ok X z k o s (by omega) hop) rfl rfl rfl rfl rfl rfl rfl ?_
  refine AW.aload_n (pc' := 46) d_C_place_45 rfl rfl rfl ?_
  refine AW.getf (pc' := 49) d_C_place_46 rfl fl_C_32 rfl rfl ?_
  refine AW.iload_n (pc' := 50) d_C_place_49 rfl rfl rfl ?_
  refine AW.iload_n (pc' := 51) d_C_place_50 rfl rfl rfl ?_
  refine AW.iastN (pc' := 52) (w' := (wL (c_sou_ z (upd (c_sou z) u (nI (s)))) k o)) d_C_place_51 rfl rfl (by omega) (by decide) rfl ?_
  exact AW.vret d_C_place_52 rfl rfl rfl ⟨rfl, rfl⟩
theorem c_split_0 (X : ct_X) (z : S_c) (k : S_m) (o : Nat → Int64) (x : Int32) (hx : x < 0 ∨ nI (c_ns z) ≤ x) : AF X m_C_split 7 0 0 [.ref 0, .int (x)] (wL z k o) (.inr 2) (wL z k o) := by
  refine AM.of rfl (Nat.le_of_ble_eq_true rfl) (ls := [some (.ref 0), some (.int (x)), none]) rfl ?_
  refine AW.aload_n (pc' := 1) d_C_split_0 rfl rfl rfl ?_
  refine AW.iload_n (pc' := 2) d_C_split_1 rfl rfl rfl ?_
  exact AW.cVx d_C_split_2 cv_C_114 (by decide) rfl rfl rfl (c_reqSector_no X z k o x hx) rfl rfl rfl rfl rfl rfl rfl ⟨rfl, rfl⟩
theorem c_split_1 (X : ct_X) (z : S_c) (k : S_m) (o : Nat → Int64) (s : Nat) (hs : s < c_ns z) (hn : c_ns z ≤ 20) (hop : c_opn z s = 0) : AF X m_C_split 7 0 0 [.ref 0, .int (nI (s))] (wL z k o) (.inr 3) (wL z k o) := by
  refine AM.of rfl (Nat.le_of_ble_eq_true rfl) (ls := [some (.ref 0), some (.int (nI (s))), none]) rfl ?_
  refine AW.aload_n (pc' := 1) d_C_split_0 rfl rfl rfl ?_
  refine AW.iload_n (pc' := 2) d_C_split_1 rfl rfl rfl ?_
  refine AW.cV (pc' := 5) d_C_split_2 rfl cv_C_114 (by decide) rfl rfl rfl (c_reqSector_ok X z k o s hs (by omega)) rfl rfl rfl rfl rfl rfl rfl ?_
  refine AW.aload_n (pc' := 6) d_C_split_5 rfl rfl rfl ?_
  refine AW.iload_n (pc' := 7) d_C_split_6 rfl rfl rfl ?_
  exact AW.cVx d_C_split_7 cv_C_119 (by decide) rfl rfl rfl (c_reqOpen_no X z k o s (by omega) hop) rfl rfl rfl rfl rfl rfl rfl ⟨rfl, rfl⟩
theorem c_split_2 (X : ct_X) (z : S_c) (k : S_m) (o : Nat → Int64) (s : Nat) (hs : s < c_ns z) (hn : c_ns z ≤ 20) (hop : ¬ c_opn z s = 0) (h : 20 ≤ c_ns z) : AF X m_C_split 7 0 0 [.ref 0, .int (nI (s))] (wL z k o) (.inr 1) (wL z k o) := by
  refine AM.of rfl (Nat.le_of_ble_eq_true rfl) (ls := [some (.ref 0), some (.int (nI (s))), none]) rfl ?_
  refine AW.aload_n (pc' := 1) d_C_split_0 rfl rfl rfl ?_
  refine AW.iload_n (pc' := 2) d_C_split_1 rfl rfl rfl ?_
  refine AW.cV (pc' := 5) d_C_split_2 rfl cv_C_114 (by decide) rfl rfl rfl (c_reqSector_ok X z k o s hs (by omega)) rfl rfl rfl rfl rfl rfl rfl ?_
  refine AW.aload_n (pc' := 6) d_C_split_5 rfl rfl rfl ?_
  refine AW.iload_n (pc' := 7) d_C_split_6 rfl rfl rfl ?_
  refine AW.cV (pc' := 10) d_C_split_7 rfl cv_C_119 (by decide) rfl rfl rfl (c_reqOpen_ok X z k o s (by omega) hop) rfl rfl rfl rfl rfl rfl rfl ?_
  refine AW.aload_n (pc' := 11) d_C_split_10 rfl rfl rfl ?_
  refine AW.getf (pc' := 14) d_C_split_11 rfl fl_C_48 rfl rfl ?_
  refine AW.bipush (pc' := 16) (v := nI 20) d_C_split_14 rfl (by decide) ?_
  refine AW.icmp_ltN (tgt := 29) (pc' := 19) d_C_split_16 (by decide) rfl (by omega) (by omega) (fun h => absurd h (by omega)) (fun h16 => ?_)
  exact AW.throwS (x := 1) d_C_split_19 d_C_split_22 d_C_split_23 d_C_split_25 d_C_split_28 cl_C_75 ini_java_lang_UnsupportedOperationException sr_C_127 thr_1 rfl (by decide) rfl rfl rfl ⟨rfl, rfl⟩
theorem c_split_3 (X : ct_X) (z : S_c) (k : S_m) (o : Nat → Int64) (s : Nat) (hs : s < c_ns z) (hn : c_ns z ≤ 20) (hop : ¬ c_opn z s = 0) (h : c_ns z < 20) : AF X m_C_split 7 0 0 [.ref 0, .int (nI (s))] (wL z k o) (.inl (some (.int (nI (c_ns z))))) (wL (c_ns_ (c_abv_ (c_opn_ z (upd (c_opn z) (c_ns z) (nI 1))) (upd (c_abv z) (c_ns z) (nI s))) (c_ns z + 1)) k o) := by
  refine AM.of rfl (Nat.le_of_ble_eq_true rfl) (ls := [some (.ref 0), some (.int (nI (s))), none]) rfl ?_
  refine AW.aload_n (pc' := 1) d_C_split_0 rfl rfl rfl ?_
  refine AW.iload_n (pc' := 2) d_C_split_1 rfl rfl rfl ?_
  refine AW.cV (pc' := 5) d_C_split_2 rfl cv_C_114 (by decide) rfl rfl rfl (c_reqSector_ok X z k o s hs (by omega)) rfl rfl rfl rfl rfl rfl rfl ?_
  refine AW.aload_n (pc' := 6) d_C_split_5 rfl rfl rfl ?_
  refine AW.iload_n (pc' := 7) d_C_split_6 rfl rfl rfl ?_
  refine AW.cV (pc' := 10) d_C_split_7 rfl cv_C_119 (by decide) rfl rfl rfl (c_reqOpen_ok X z k o s (by omega) hop) rfl rfl rfl rfl rfl rfl rfl ?_
  refine AW.aload_n (pc' := 11) d_C_split_10 rfl rfl rfl ?_
  refine AW.getf (pc' := 14) d_C_split_11 rfl fl_C_48 rfl rfl ?_
  refine AW.bipush (pc' := 16) (v := nI 20) d_C_split_14 rfl (by decide) ?_
  refine AW.icmp_ltN (tgt := 29) (pc' := 19) d_C_split_16 (by decide) rfl (by omega) (by omega) (fun h16 => ?_) (fun h => absurd h (by omega))
  refine AW.aload_n (pc' := 30) d_C_split_29 rfl rfl rfl ?_
  refine AW.getf (pc' := 33) d_C_split_30 rfl fl_C_48 rfl rfl ?_
  refine AW.istore_n (pc' := 34) (ls' := [some (.ref 0), some (.int (nI (s))), some (.int (nI (c_ns z)))]) d_C_split_33 rfl rfl rfl rfl ?_
  refine AW.aload_n (pc' := 35) d_C_split_34 rfl rfl rfl ?_
  refine AW.getf (pc' := 38) d_C_split_35 rfl fl_C_35 rfl rfl ?_
  refine AW.iload_n (pc' := 39) d_C_split_38 rfl rfl rfl ?_
  refine AW.iconst (pc' := 40) (v := nI 1) d_C_split_39 rfl (by decide) ?_
  refine AW.zastN (pc' := 41) (w' := (wL (c_opn_ z (upd (c_opn z) (c_ns z) (nI (1)))) k o)) d_C_split_40 rfl rfl (by omega) (by decide) (by decide) rfl ?_
  refine AW.aload_n (pc' := 42) d_C_split_41 rfl rfl rfl ?_
  refine AW.getf (pc' := 45) d_C_split_42 rfl fl_C_39 rfl rfl ?_
  refine AW.iload_n (pc' := 46) d_C_split_45 rfl rfl rfl ?_
  refine AW.iload_n (pc' := 47) d_C_split_46 rfl rfl rfl ?_
  refine AW.iastN (pc' := 48) (w' := (wL (c_abv_ (c_opn_ z (upd (c_opn z) (c_ns z) (nI (1)))) (upd (c_abv z) (c_ns z) (nI (s)))) k o)) d_C_split_47 rfl rfl (by omega) (by decide) rfl ?_
  refine AW.aload_n (pc' := 49) d_C_split_48 rfl rfl rfl ?_
  refine AW.dup (pc' := 50) d_C_split_49 rfl rfl ?_
  refine AW.getf (pc' := 53) d_C_split_50 rfl fl_C_48 rfl rfl ?_
  refine AW.top (u := .int (nI (c_ns z))) rfl ?_
  refine AW.iconst (pc' := 54) (v := nI 1) d_C_split_53 rfl (by decide) ?_
  refine AW.iaddN (pc' := 55) d_C_split_54 rfl ?_
  refine AW.putf (pc' := 58) (w' := (wL (c_ns_ (c_abv_ (c_opn_ z (upd (c_opn z) (c_ns z) (nI (1)))) (upd (c_abv z) (c_ns z) (nI (s)))) ((c_ns z) + 1)) k o)) d_C_split_55 rfl fp_C_48 rfl rfl (fun _ => ⟨rfl, rfl⟩) rfl rfl ?_
  refine AW.iload_n (pc' := 59) d_C_split_58 rfl rfl rfl ?_
  exact AW.iret d_C_split_59 rfl rfl rfl ⟨rfl, rfl⟩
theorem c_clock (X : ct_X) (z : S_c) (k : S_m) (o : Nat → Int64)  : AF X m_C_clock 7 0 0 [.ref 0] (wL z k o) (.inl (some (.int (nI (c_sec z))))) (wL z k o) := by
  refine AM.of rfl (Nat.le_of_ble_eq_true rfl) (ls := [some (.ref 0)]) rfl ?_
  refine AW.aload_n (pc' := 1) d_C_clock_0 rfl rfl rfl ?_
  refine AW.getf (pc' := 4) d_C_clock_1 rfl fl_C_98 rfl rfl ?_
  exact AW.iret d_C_clock_4 rfl rfl rfl ⟨rfl, rfl⟩
