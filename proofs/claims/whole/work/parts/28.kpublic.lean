/-! THE REFERENCE'S PUBLIC METHODS, case by case (rows printed by wip/whole/m9.py) -/
theorem k_person_0 (X : ct_X) (z : S_c) (k : S_m) (o : Nat → Int64) (x : Int32) (hx : x < nI 0 ∨ nI 9 < x) (hnp : k_np k ≤ 40) : AF X m_M_person 3 0 0 [.ref 20, .int (x)] (wL z k o) (.inl (some (.int (nI 0)))) (wL z (k_thr_ k (nI 1)) o) := by
  refine AM.of rfl (Nat.le_of_ble_eq_true rfl) (ls := [some (.ref 20), some (.int (x))]) rfl ?_
  refine AW.aload_n (pc' := 1) d_M_person_0 rfl rfl rfl ?_
  refine AW.bipush (pc' := 3) (v := nI 10) d_M_person_1 rfl (by decide) ?_
  refine AW.iconst (pc' := 4) (v := nI 1) d_M_person_3 rfl (by decide) ?_
  refine AW.iload_n (pc' := 5) d_M_person_4 rfl rfl rfl ?_
  refine AW.iconst (pc' := 6) (v := nI 0) d_M_person_5 rfl (by decide) ?_
  refine AW.bipush (pc' := 8) (v := nI 9) d_M_person_6 rfl (by decide) ?_
  refine AW.cS (pc' := 11) d_M_person_8 rfl cs_M_75 (by decide) (k_within_f X z k o x (nI 0) (nI 9) hx) rfl rfl rfl rfl rfl rfl rfl ?_
  refine AW.iconst (pc' := 12) (v := nI 1) d_M_person_11 rfl (by decide) ?_
  refine AW.aload_n (pc' := 13) d_M_person_12 rfl rfl rfl ?_
  refine AW.getf (pc' := 16) d_M_person_13 rfl fl_M_72 rfl rfl ?_
  refine AW.bipush (pc' := 18) (v := nI 40) d_M_person_16 rfl (by decide) ?_
  refine AW.icmp_geN (tgt := 25) (pc' := 21) d_M_person_18 (by decide) rfl (by omega) (by omega) (fun h18 => ?_) (fun h18 => ?_)
  · refine AW.iconst (pc' := 26) (v := nI 0) d_M_person_25 rfl (by decide) ?_
    refine AW.cV (pc' := 29) d_M_person_26 rfl cv_M_106 (by decide) rfl rfl rfl (k_goes_10_2 X z k o ((nI (1))) ((nI (0)))) rfl rfl rfl rfl rfl rfl rfl ?_
    refine AW.if_ne (tgt := 34) (pc' := 32) d_M_person_29 (by decide) rfl (fun h => absurd h (by decide)) (fun _ => ?_)
    refine AW.iconst (pc' := 33) (v := nI 0) d_M_person_32 rfl (by decide) ?_
    exact AW.iret d_M_person_33 rfl rfl rfl ⟨rfl, rfl⟩
  · refine AW.iconst (pc' := 22) (v := nI 1) d_M_person_21 rfl (by decide) ?_
    refine AW.goto (tgt := 26) d_M_person_22 (by decide) ?_
    refine AW.cV (pc' := 29) d_M_person_26 rfl cv_M_106 (by decide) rfl rfl rfl (k_goes_10_2 X z k o ((nI (1))) ((nI (1)))) rfl rfl rfl rfl rfl rfl rfl ?_
    refine AW.if_ne (tgt := 34) (pc' := 32) d_M_person_29 (by decide) rfl (fun h => absurd h (by decide)) (fun _ => ?_)
    refine AW.iconst (pc' := 33) (v := nI 0) d_M_person_32 rfl (by decide) ?_
    exact AW.iret d_M_person_33 rfl rfl rfl ⟨rfl, rfl⟩
theorem k_person_1 (X : ct_X) (z : S_c) (k : S_m) (o : Nat → Int64) (x : Int32) (hx : nI 0 ≤ x) (hx2 : x ≤ nI 9) (hq : k_np k = 40) : AF X m_M_person 3 0 0 [.ref 20, .int (x)] (wL z k o) (.inl (some (.int (nI 0)))) (wL z (k_thr_ k (nI 2)) o) := by
  refine AM.of rfl (Nat.le_of_ble_eq_true rfl) (ls := [some (.ref 20), some (.int (x))]) rfl ?_
  refine AW.aload_n (pc' := 1) d_M_person_0 rfl rfl rfl ?_
  refine AW.bipush (pc' := 3) (v := nI 10) d_M_person_1 rfl (by decide) ?_
  refine AW.iconst (pc' := 4) (v := nI 1) d_M_person_3 rfl (by decide) ?_
  refine AW.iload_n (pc' := 5) d_M_person_4 rfl rfl rfl ?_
  refine AW.iconst (pc' := 6) (v := nI 0) d_M_person_5 rfl (by decide) ?_
  refine AW.bipush (pc' := 8) (v := nI 9) d_M_person_6 rfl (by decide) ?_
  refine AW.cS (pc' := 11) d_M_person_8 rfl cs_M_75 (by decide) (k_within_t X z k o x (nI 0) (nI 9) hx hx2) rfl rfl rfl rfl rfl rfl rfl ?_
  refine AW.iconst (pc' := 12) (v := nI 1) d_M_person_11 rfl (by decide) ?_
  refine AW.aload_n (pc' := 13) d_M_person_12 rfl rfl rfl ?_
  refine AW.getf (pc' := 16) d_M_person_13 rfl fl_M_72 rfl rfl ?_
  refine AW.bipush (pc' := 18) (v := nI 40) d_M_person_16 rfl (by decide) ?_
  refine AW.icmp_geN (tgt := 25) (pc' := 21) d_M_person_18 (by decide) rfl (by omega) (by omega) (fun h18 => ?_) (fun h => absurd h (by omega))
  refine AW.iconst (pc' := 26) (v := nI 0) d_M_person_25 rfl (by decide) ?_
  refine AW.cV (pc' := 29) d_M_person_26 rfl cv_M_106 (by decide) rfl rfl rfl (k_goes_10_8 X z k o ) rfl rfl rfl rfl rfl rfl rfl ?_
  refine AW.if_ne (tgt := 34) (pc' := 32) d_M_person_29 (by decide) rfl (fun h => absurd h (by decide)) (fun _ => ?_)
  refine AW.iconst (pc' := 33) (v := nI 0) d_M_person_32 rfl (by decide) ?_
  exact AW.iret d_M_person_33 rfl rfl rfl ⟨rfl, rfl⟩
theorem k_person_2 (X : ct_X) (z : S_c) (k : S_m) (o : Nat → Int64) (x : Int32) (hx : nI 0 ≤ x) (hx2 : x ≤ nI 9) (hq : k_np k < 40) : AF X m_M_person 3 0 0 [.ref 20, .int (x)] (wL z k o) (.inl (some (.int (nI (k_np k))))) (wL z (k_np_ (k_arr_ (k_in_ (k_rank_ (k_thr_ k (nI 0)) (upd (k_rank k) (k_np k) x)) (upd (k_in k) (k_np k) (-1))) (upd (k_arr k) (k_np k) (-1))) (k_np k + 1)) o) := by
  refine AM.of rfl (Nat.le_of_ble_eq_true rfl) (ls := [some (.ref 20), some (.int (x))]) rfl ?_
  refine AW.aload_n (pc' := 1) d_M_person_0 rfl rfl rfl ?_
  refine AW.bipush (pc' := 3) (v := nI 10) d_M_person_1 rfl (by decide) ?_
  refine AW.iconst (pc' := 4) (v := nI 1) d_M_person_3 rfl (by decide) ?_
  refine AW.iload_n (pc' := 5) d_M_person_4 rfl rfl rfl ?_
  refine AW.iconst (pc' := 6) (v := nI 0) d_M_person_5 rfl (by decide) ?_
  refine AW.bipush (pc' := 8) (v := nI 9) d_M_person_6 rfl (by decide) ?_
  refine AW.cS (pc' := 11) d_M_person_8 rfl cs_M_75 (by decide) (k_within_t X z k o x (nI 0) (nI 9) hx hx2) rfl rfl rfl rfl rfl rfl rfl ?_
  refine AW.iconst (pc' := 12) (v := nI 1) d_M_person_11 rfl (by decide) ?_
  refine AW.aload_n (pc' := 13) d_M_person_12 rfl rfl rfl ?_
  refine AW.getf (pc' := 16) d_M_person_13 rfl fl_M_72 rfl rfl ?_
  refine AW.bipush (pc' := 18) (v := nI 40) d_M_person_16 rfl (by decide) ?_
  refine AW.icmp_geN (tgt := 25) (pc' := 21) d_M_person_18 (by decide) rfl (by omega) (by omega) (fun h => absurd h (by omega)) (fun h18 => ?_)
  refine AW.iconst (pc' := 22) (v := nI 1) d_M_person_21 rfl (by decide) ?_
  refine AW.goto (tgt := 26) d_M_person_22 (by decide) ?_
  refine AW.cV (pc' := 29) d_M_person_26 rfl cv_M_106 (by decide) rfl rfl rfl (k_goes_10_0 X z k o ) rfl rfl rfl rfl rfl rfl rfl ?_
  refine AW.if_ne (tgt := 34) (pc' := 32) d_M_person_29 (by decide) rfl (fun _ => ?_) (fun h => absurd h (by decide))
  refine AW.aload_n (pc' := 35) d_M_person_34 rfl rfl rfl ?_
  refine AW.getf (pc' := 38) d_M_person_35 rfl fl_M_7 rfl rfl ?_
  refine AW.aload_n (pc' := 39) d_M_person_38 rfl rfl rfl ?_
  refine AW.getf (pc' := 42) d_M_person_39 rfl fl_M_72 rfl rfl ?_
  refine AW.iload_n (pc' := 43) d_M_person_42 rfl rfl rfl ?_
  refine AW.iastN (pc' := 44) (w' := (wL z (k_rank_ ((k_thr_ k (nI 0))) (upd (k_rank ((k_thr_ k (nI 0)))) (k_np ((k_thr_ k (nI 0)))) x)) o)) d_M_person_43 rfl rfl hq (by decide) rfl ?_
  refine AW.aload_n (pc' := 45) d_M_person_44 rfl rfl rfl ?_
  refine AW.getf (pc' := 48) d_M_person_45 rfl fl_M_13 rfl rfl ?_
  refine AW.aload_n (pc' := 49) d_M_person_48 rfl rfl rfl ?_
  refine AW.getf (pc' := 52) d_M_person_49 rfl fl_M_72 rfl rfl ?_
  refine AW.top (u := .int (nI (k_np ((k_thr_ k (nI 0)))))) rfl ?_
  refine AW.iconst (pc' := 53) (v := (-1)) d_M_person_52 rfl (by decide) ?_
  refine AW.iastN (pc' := 54) (w' := (wL z (k_in_ (k_rank_ ((k_thr_ k (nI 0))) (upd (k_rank ((k_thr_ k (nI 0)))) (k_np ((k_thr_ k (nI 0)))) x)) (upd (k_in ((k_thr_ k (nI 0)))) (k_np ((k_thr_ k (nI 0)))) ((-1)))) o)) d_M_person_53 rfl rfl hq (by decide) rfl ?_
  refine AW.aload_n (pc' := 55) d_M_person_54 rfl rfl rfl ?_
  refine AW.getf (pc' := 58) d_M_person_55 rfl fl_M_16 rfl rfl ?_
  refine AW.aload_n (pc' := 59) d_M_person_58 rfl rfl rfl ?_
  refine AW.getf (pc' := 62) d_M_person_59 rfl fl_M_72 rfl rfl ?_
  refine AW.top (u := .int (nI (k_np ((k_thr_ k (nI 0)))))) rfl ?_
  refine AW.iconst (pc' := 63) (v := (-1)) d_M_person_62 rfl (by decide) ?_
  refine AW.iastN (pc' := 64) (w' := (wL z (k_arr_ (k_in_ (k_rank_ ((k_thr_ k (nI 0))) (upd (k_rank ((k_thr_ k (nI 0)))) (k_np ((k_thr_ k (nI 0)))) x)) (upd (k_in ((k_thr_ k (nI 0)))) (k_np ((k_thr_ k (nI 0)))) ((-1)))) (upd (k_arr ((k_thr_ k (nI 0)))) (k_np ((k_thr_ k (nI 0)))) ((-1)))) o)) d_M_person_63 rfl rfl hq (by decide) rfl ?_
  refine AW.aload_n (pc' := 65) d_M_person_64 rfl rfl rfl ?_
  refine AW.dup (pc' := 66) d_M_person_65 rfl rfl ?_
  refine AW.getf (pc' := 69) d_M_person_66 rfl fl_M_72 rfl rfl ?_
  refine AW.top (u := .int (nI (k_np ((k_thr_ k (nI 0)))))) rfl ?_
  refine AW.iconst (pc' := 70) (v := nI 1) d_M_person_69 rfl (by decide) ?_
  refine AW.iaddN (pc' := 71) d_M_person_70 rfl ?_
  refine AW.putf (pc' := 74) (w' := (wL z (k_np_ (k_arr_ (k_in_ (k_rank_ ((k_thr_ k (nI 0))) (upd (k_rank ((k_thr_ k (nI 0)))) (k_np ((k_thr_ k (nI 0)))) x)) (upd (k_in ((k_thr_ k (nI 0)))) (k_np ((k_thr_ k (nI 0)))) ((-1)))) (upd (k_arr ((k_thr_ k (nI 0)))) (k_np ((k_thr_ k (nI 0)))) ((-1)))) ((k_np ((k_thr_ k (nI 0)))) + 1)) o)) d_M_person_71 rfl fp_M_72 rfl rfl (fun _ => ⟨rfl, rfl⟩) rfl rfl ?_
  refine AW.aload_n (pc' := 75) d_M_person_74 rfl rfl rfl ?_
  refine AW.getf (pc' := 78) d_M_person_75 rfl fl_M_72 rfl rfl ?_
  refine AW.top (u := .int (nI ((k_np ((k_thr_ k (nI 0)))) + 1))) rfl ?_
  refine AW.iconst (pc' := 79) (v := nI 1) d_M_person_78 rfl (by decide) ?_
  refine AW.isubN (pc' := 80) d_M_person_79 rfl (by omega) ?_
  exact AW.iret d_M_person_80 rfl rfl rfl ⟨by rfl, rfl⟩
theorem k_unit_1 (X : ct_X) (z : S_c) (k : S_m) (o : Nat → Int64) (hq : k_nu k = 20) : AF X m_M_unit 3 0 0 [.ref 20] (wL z k o) (.inl (some (.int (nI 0)))) (wL z (k_thr_ k (nI 1)) o) := by
  refine AM.of rfl (Nat.le_of_ble_eq_true rfl) (ls := [some (.ref 20)]) rfl ?_
  refine AW.aload_n (pc' := 1) d_M_unit_0 rfl rfl rfl ?_
  refine AW.bipush (pc' := 3) (v := nI 8) d_M_unit_1 rfl (by decide) ?_
  refine AW.iconst (pc' := 4) (v := nI 1) d_M_unit_3 rfl (by decide) ?_
  refine AW.iconst (pc' := 5) (v := nI 1) d_M_unit_4 rfl (by decide) ?_
  refine AW.iconst (pc' := 6) (v := nI 1) d_M_unit_5 rfl (by decide) ?_
  refine AW.aload_n (pc' := 7) d_M_unit_6 rfl rfl rfl ?_
  refine AW.getf (pc' := 10) d_M_unit_7 rfl fl_M_79 rfl rfl ?_
  refine AW.bipush (pc' := 12) (v := nI 20) d_M_unit_10 rfl (by decide) ?_
  refine AW.icmp_geN (tgt := 19) (pc' := 15) d_M_unit_12 (by decide) rfl (by omega) (by omega) (fun h12 => ?_) (fun h => absurd h (by omega))
  refine AW.iconst (pc' := 20) (v := nI 0) d_M_unit_19 rfl (by decide) ?_
  refine AW.cV (pc' := 23) d_M_unit_20 rfl cv_M_106 (by decide) rfl rfl rfl (k_goes_8_8 X z k o ) rfl rfl rfl rfl rfl rfl rfl ?_
  refine AW.if_ne (tgt := 28) (pc' := 26) d_M_unit_23 (by decide) rfl (fun h => absurd h (by decide)) (fun _ => ?_)
  refine AW.iconst (pc' := 27) (v := nI 0) d_M_unit_26 rfl (by decide) ?_
  exact AW.iret d_M_unit_27 rfl rfl rfl ⟨rfl, rfl⟩
theorem k_unit_2 (X : ct_X) (z : S_c) (k : S_m) (o : Nat → Int64) (hq : k_nu k < 20) : AF X m_M_unit 3 0 0 [.ref 20] (wL z k o) (.inl (some (.int (nI (k_nu k))))) (wL z (k_nu_ (k_uin_ (k_thr_ k (nI 0)) (upd (k_uin k) (k_nu k) (-1))) (k_nu k + 1)) o) := by
  refine AM.of rfl (Nat.le_of_ble_eq_true rfl) (ls := [some (.ref 20)]) rfl ?_
  refine AW.aload_n (pc' := 1) d_M_unit_0 rfl rfl rfl ?_
  refine AW.bipush (pc' := 3) (v := nI 8) d_M_unit_1 rfl (by decide) ?_
  refine AW.iconst (pc' := 4) (v := nI 1) d_M_unit_3 rfl (by decide) ?_
  refine AW.iconst (pc' := 5) (v := nI 1) d_M_unit_4 rfl (by decide) ?_
  refine AW.iconst (pc' := 6) (v := nI 1) d_M_unit_5 rfl (by decide) ?_
  refine AW.aload_n (pc' := 7) d_M_unit_6 rfl rfl rfl ?_
  refine AW.getf (pc' := 10) d_M_unit_7 rfl fl_M_79 rfl rfl ?_
  refine AW.bipush (pc' := 12) (v := nI 20) d_M_unit_10 rfl (by decide) ?_
  refine AW.icmp_geN (tgt := 19) (pc' := 15) d_M_unit_12 (by decide) rfl (by omega) (by omega) (fun h => absurd h (by omega)) (fun h12 => ?_)
  refine AW.iconst (pc' := 16) (v := nI 1) d_M_unit_15 rfl (by decide) ?_
  refine AW.goto (tgt := 20) d_M_unit_16 (by decide) ?_
  refine AW.cV (pc' := 23) d_M_unit_20 rfl cv_M_106 (by decide) rfl rfl rfl (k_goes_8_0 X z k o ) rfl rfl rfl rfl rfl rfl rfl ?_
  refine AW.if_ne (tgt := 28) (pc' := 26) d_M_unit_23 (by decide) rfl (fun _ => ?_) (fun h => absurd h (by decide))
  refine AW.aload_n (pc' := 29) d_M_unit_28 rfl rfl rfl ?_
  refine AW.getf (pc' := 32) d_M_unit_29 rfl fl_M_19 rfl rfl ?_
  refine AW.aload_n (pc' := 33) d_M_unit_32 rfl rfl rfl ?_
  refine AW.getf (pc' := 36) d_M_unit_33 rfl fl_M_79 rfl rfl ?_
  refine AW.iconst (pc' := 37) (v := (-1)) d_M_unit_36 rfl (by decide) ?_
  refine AW.iastN (pc' := 38) (w' := (wL z (k_uin_ ((k_thr_ k (nI 0))) (upd (k_uin ((k_thr_ k (nI 0)))) (k_nu ((k_thr_ k (nI 0)))) ((-1)))) o)) d_M_unit_37 rfl rfl hq (by decide) rfl ?_
  refine AW.aload_n (pc' := 39) d_M_unit_38 rfl rfl rfl ?_
  refine AW.dup (pc' := 40) d_M_unit_39 rfl rfl ?_
  refine AW.getf (pc' := 43) d_M_unit_40 rfl fl_M_79 rfl rfl ?_
  refine AW.top (u := .int (nI (k_nu ((k_thr_ k (nI 0)))))) rfl ?_
  refine AW.iconst (pc' := 44) (v := nI 1) d_M_unit_43 rfl (by decide) ?_
  refine AW.iaddN (pc' := 45) d_M_unit_44 rfl ?_
  refine AW.putf (pc' := 48) (w' := (wL z (k_nu_ (k_uin_ ((k_thr_ k (nI 0))) (upd (k_uin ((k_thr_ k (nI 0)))) (k_nu ((k_thr_ k (nI 0)))) ((-1)))) ((k_nu ((k_thr_ k (nI 0)))) + 1)) o)) d_M_unit_45 rfl fp_M_79 rfl rfl (fun _ => ⟨rfl, rfl⟩) rfl rfl ?_
  refine AW.aload_n (pc' := 49) d_M_unit_48 rfl rfl rfl ?_
  refine AW.getf (pc' := 52) d_M_unit_49 rfl fl_M_79 rfl rfl ?_
  refine AW.top (u := .int (nI ((k_nu ((k_thr_ k (nI 0)))) + 1))) rfl ?_
  refine AW.iconst (pc' := 53) (v := nI 1) d_M_unit_52 rfl (by decide) ?_
  refine AW.isubN (pc' := 54) d_M_unit_53 rfl (by omega) ?_
  exact AW.iret d_M_unit_54 rfl rfl rfl ⟨by rfl, rfl⟩
theorem k_arrive_0 (X : ct_X) (z : S_c) (k : S_m) (o : Nat → Int64) (x : Int32) (hx : x < 0 ∨ nI (k_np k) ≤ x) (hnp : k_np k ≤ 40) : AF X m_M_arrive 3 0 0 [.ref 20, .int (x)] (wL z k o) (.inl none) (wL z (k_thr_ k (nI 1)) o) := by
  refine AM.of rfl (Nat.le_of_ble_eq_true rfl) (ls := [some (.ref 20), some (.int (x))]) rfl ?_
  refine AW.aload_n (pc' := 1) d_M_arrive_0 rfl rfl rfl ?_
  refine AW.iconst (pc' := 2) (v := nI 5) d_M_arrive_1 rfl (by decide) ?_
  refine AW.aload_n (pc' := 3) d_M_arrive_2 rfl rfl rfl ?_
  refine AW.iload_n (pc' := 4) d_M_arrive_3 rfl rfl rfl ?_
  refine AW.cV (pc' := 7) d_M_arrive_4 rfl cv_M_110 (by decide) rfl rfl rfl (k_isPerson_f X z k o x hx (by omega)) rfl rfl rfl rfl rfl rfl rfl ?_
  refine AW.iconst (pc' := 8) (v := nI 1) d_M_arrive_7 rfl (by decide) ?_
  refine AW.aload_n (pc' := 9) d_M_arrive_8 rfl rfl rfl ?_
  refine AW.iload_n (pc' := 10) d_M_arrive_9 rfl rfl rfl ?_
  refine AW.cV (pc' := 13) d_M_arrive_10 rfl cv_M_110 (by decide) rfl rfl rfl (k_isPerson_f X z k o x hx (by omega)) rfl rfl rfl rfl rfl rfl rfl ?_
  refine AW.if_eq (tgt := 29) (pc' := 16) d_M_arrive_13 (by decide) rfl (fun _ => ?_) (fun h => absurd h (by decide))
  refine AW.iconst (pc' := 30) (v := nI 0) d_M_arrive_29 rfl (by decide) ?_
  refine AW.iconst (pc' := 31) (v := nI 1) d_M_arrive_30 rfl (by decide) ?_
  refine AW.cV (pc' := 34) d_M_arrive_31 rfl cv_M_106 (by decide) rfl rfl rfl (k_goes_5_1 X z k o ((nI (1))) ((nI (0))) ((nI (1)))) rfl rfl rfl rfl rfl rfl rfl ?_
  refine AW.if_ne (tgt := 38) (pc' := 37) d_M_arrive_34 (by decide) rfl (fun h => absurd h (by decide)) (fun _ => ?_)
  exact AW.vret d_M_arrive_37 rfl rfl rfl ⟨rfl, rfl⟩
theorem k_leave_0 (X : ct_X) (z : S_c) (k : S_m) (o : Nat → Int64) (x : Int32) (hx : x < 0 ∨ nI (k_np k) ≤ x) (hnp : k_np k ≤ 40) : AF X m_M_leave 3 0 0 [.ref 20, .int (x)] (wL z k o) (.inl none) (wL z (k_thr_ k (nI 1)) o) := by
  refine AM.of rfl (Nat.le_of_ble_eq_true rfl) (ls := [some (.ref 20), some (.int (x)), none]) rfl ?_
  refine AW.aload_n (pc' := 1) d_M_leave_0 rfl rfl rfl ?_
  refine AW.iconst (pc' := 2) (v := nI 5) d_M_leave_1 rfl (by decide) ?_
  refine AW.aload_n (pc' := 3) d_M_leave_2 rfl rfl rfl ?_
  refine AW.iload_n (pc' := 4) d_M_leave_3 rfl rfl rfl ?_
  refine AW.cV (pc' := 7) d_M_leave_4 rfl cv_M_110 (by decide) rfl rfl rfl (k_isPerson_f X z k o x hx (by omega)) rfl rfl rfl rfl rfl rfl rfl ?_
  refine AW.iconst (pc' := 8) (v := nI 1) d_M_leave_7 rfl (by decide) ?_
  refine AW.aload_n (pc' := 9) d_M_leave_8 rfl rfl rfl ?_
  refine AW.iload_n (pc' := 10) d_M_leave_9 rfl rfl rfl ?_
  refine AW.cV (pc' := 13) d_M_leave_10 rfl cv_M_110 (by decide) rfl rfl rfl (k_isPerson_f X z k o x hx (by omega)) rfl rfl rfl rfl rfl rfl rfl ?_
  refine AW.if_eq (tgt := 29) (pc' := 16) d_M_leave_13 (by decide) rfl (fun _ => ?_) (fun h => absurd h (by decide))
  refine AW.iconst (pc' := 30) (v := nI 0) d_M_leave_29 rfl (by decide) ?_
  refine AW.iconst (pc' := 31) (v := nI 1) d_M_leave_30 rfl (by decide) ?_
  refine AW.cV (pc' := 34) d_M_leave_31 rfl cv_M_106 (by decide) rfl rfl rfl (k_goes_5_1 X z k o ((nI (1))) ((nI (0))) ((nI (1)))) rfl rfl rfl rfl rfl rfl rfl ?_
  refine AW.if_ne (tgt := 38) (pc' := 37) d_M_leave_34 (by decide) rfl (fun h => absurd h (by decide)) (fun _ => ?_)
  exact AW.vret d_M_leave_37 rfl rfl rfl ⟨rfl, rfl⟩
theorem k_arrive_1 (X : ct_X) (z : S_c) (k : S_m) (o : Nat → Int64) (p : Nat) (hj : p < k_np k) (hnp : k_np k ≤ 40) (h1 : ¬ k_in k p < 0) : AF X m_M_arrive 3 0 0 [.ref 20, .int (nI (p))] (wL z k o) (.inl none) (wL z (k_thr_ k (nI 2)) o) := by
  refine AM.of rfl (Nat.le_of_ble_eq_true rfl) (ls := [some (.ref 20), some (.int (nI (p)))]) rfl ?_
  refine AW.aload_n (pc' := 1) d_M_arrive_0 rfl rfl rfl ?_
  refine AW.iconst (pc' := 2) (v := nI 5) d_M_arrive_1 rfl (by decide) ?_
  refine AW.aload_n (pc' := 3) d_M_arrive_2 rfl rfl rfl ?_
  refine AW.iload_n (pc' := 4) d_M_arrive_3 rfl rfl rfl ?_
  refine AW.cV (pc' := 7) d_M_arrive_4 rfl cv_M_110 (by decide) rfl rfl rfl (k_isPerson_t X z k o p hj (by omega)) rfl rfl rfl rfl rfl rfl rfl ?_
  refine AW.iconst (pc' := 8) (v := nI 1) d_M_arrive_7 rfl (by decide) ?_
  refine AW.aload_n (pc' := 9) d_M_arrive_8 rfl rfl rfl ?_
  refine AW.iload_n (pc' := 10) d_M_arrive_9 rfl rfl rfl ?_
  refine AW.cV (pc' := 13) d_M_arrive_10 rfl cv_M_110 (by decide) rfl rfl rfl (k_isPerson_t X z k o p hj (by omega)) rfl rfl rfl rfl rfl rfl rfl ?_
  refine AW.if_eq (tgt := 29) (pc' := 16) d_M_arrive_13 (by decide) rfl (fun h => absurd h (by decide)) (fun _ => ?_)
  refine AW.aload_n (pc' := 17) d_M_arrive_16 rfl rfl rfl ?_
  refine AW.getf (pc' := 20) d_M_arrive_17 rfl fl_M_13 rfl rfl ?_
  refine AW.iload_n (pc' := 21) d_M_arrive_20 rfl rfl rfl ?_
  refine AW.ialdN (pc' := 22) d_M_arrive_21 rfl rfl (by omega) (by decide) ?_
  refine AW.if_ge (tgt := 29) (pc' := 25) d_M_arrive_22 (by decide) rfl (fun h22 => ?_) (fun h => absurd (Int32.not_lt.mp h1) h)
  refine AW.iconst (pc' := 30) (v := nI 0) d_M_arrive_29 rfl (by decide) ?_
  refine AW.iconst (pc' := 31) (v := nI 1) d_M_arrive_30 rfl (by decide) ?_
  refine AW.cV (pc' := 34) d_M_arrive_31 rfl cv_M_106 (by decide) rfl rfl rfl (k_goes_5_4 X z k o ((nI (1)))) rfl rfl rfl rfl rfl rfl rfl ?_
  refine AW.if_ne (tgt := 38) (pc' := 37) d_M_arrive_34 (by decide) rfl (fun h => absurd h (by decide)) (fun _ => ?_)
  exact AW.vret d_M_arrive_37 rfl rfl rfl ⟨rfl, rfl⟩
theorem k_leave_1 (X : ct_X) (z : S_c) (k : S_m) (o : Nat → Int64) (p : Nat) (hj : p < k_np k) (hnp : k_np k ≤ 40) (h1 : k_in k p < 0) : AF X m_M_leave 3 0 0 [.ref 20, .int (nI (p))] (wL z k o) (.inl none) (wL z (k_thr_ k (nI 2)) o) := by
  refine AM.of rfl (Nat.le_of_ble_eq_true rfl) (ls := [some (.ref 20), some (.int (nI (p))), none]) rfl ?_
  refine AW.aload_n (pc' := 1) d_M_leave_0 rfl rfl rfl ?_
  refine AW.iconst (pc' := 2) (v := nI 5) d_M_leave_1 rfl (by decide) ?_
  refine AW.aload_n (pc' := 3) d_M_leave_2 rfl rfl rfl ?_
  refine AW.iload_n (pc' := 4) d_M_leave_3 rfl rfl rfl ?_
  refine AW.cV (pc' := 7) d_M_leave_4 rfl cv_M_110 (by decide) rfl rfl rfl (k_isPerson_t X z k o p hj (by omega)) rfl rfl rfl rfl rfl rfl rfl ?_
  refine AW.iconst (pc' := 8) (v := nI 1) d_M_leave_7 rfl (by decide) ?_
  refine AW.aload_n (pc' := 9) d_M_leave_8 rfl rfl rfl ?_
  refine AW.iload_n (pc' := 10) d_M_leave_9 rfl rfl rfl ?_
  refine AW.cV (pc' := 13) d_M_leave_10 rfl cv_M_110 (by decide) rfl rfl rfl (k_isPerson_t X z k o p hj (by omega)) rfl rfl rfl rfl rfl rfl rfl ?_
  refine AW.if_eq (tgt := 29) (pc' := 16) d_M_leave_13 (by decide) rfl (fun h => absurd h (by decide)) (fun _ => ?_)
  refine AW.aload_n (pc' := 17) d_M_leave_16 rfl rfl rfl ?_
  refine AW.getf (pc' := 20) d_M_leave_17 rfl fl_M_13 rfl rfl ?_
  refine AW.iload_n (pc' := 21) d_M_leave_20 rfl rfl rfl ?_
  refine AW.ialdN (pc' := 22) d_M_leave_21 rfl rfl (by omega) (by decide) ?_
  refine AW.if_lt (tgt := 29) (pc' := 25) d_M_leave_22 (by decide) rfl (fun h22 => ?_) (fun h => absurd h1 h)
  refine AW.iconst (pc' := 30) (v := nI 0) d_M_leave_29 rfl (by decide) ?_
  refine AW.iconst (pc' := 31) (v := nI 1) d_M_leave_30 rfl (by decide) ?_
  refine AW.cV (pc' := 34) d_M_leave_31 rfl cv_M_106 (by decide) rfl rfl rfl (k_goes_5_4 X z k o ((nI (1)))) rfl rfl rfl rfl rfl rfl rfl ?_
  refine AW.if_ne (tgt := 38) (pc' := 37) d_M_leave_34 (by decide) rfl (fun h => absurd h (by decide)) (fun _ => ?_)
  exact AW.vret d_M_leave_37 rfl rfl rfl ⟨rfl, rfl⟩
theorem k_arrive_2 (X : ct_X) (z : S_c) (k : S_m) (o : Nat → Int64) (p : Nat) (hj : p < k_np k) (hnp : k_np k ≤ 40) (h1 : k_in k p < 0) (hn : k_ns k ≤ 20) (hr2 : k_rows k + 2 < 2 ^ 31) (hK : RowK k) : AF X m_M_arrive 3 0 0 [.ref 20, .int (nI (p))] (wL z k o) (.inl none) (wL z (f_moves (k_arr_ (k_thr_ k (nI 0)) (upd (k_arr k) p (nI (k_now k)))) p (some 0)) o) := by
  refine AM.of rfl (Nat.le_of_ble_eq_true rfl) (ls := [some (.ref 20), some (.int (nI (p)))]) rfl ?_
  refine AW.aload_n (pc' := 1) d_M_arrive_0 rfl rfl rfl ?_
  refine AW.iconst (pc' := 2) (v := nI 5) d_M_arrive_1 rfl (by decide) ?_
  refine AW.aload_n (pc' := 3) d_M_arrive_2 rfl rfl rfl ?_
  refine AW.iload_n (pc' := 4) d_M_arrive_3 rfl rfl rfl ?_
  refine AW.cV (pc' := 7) d_M_arrive_4 rfl cv_M_110 (by decide) rfl rfl rfl (k_isPerson_t X z k o p hj (by omega)) rfl rfl rfl rfl rfl rfl rfl ?_
  refine AW.iconst (pc' := 8) (v := nI 1) d_M_arrive_7 rfl (by decide) ?_
  refine AW.aload_n (pc' := 9) d_M_arrive_8 rfl rfl rfl ?_
  refine AW.iload_n (pc' := 10) d_M_arrive_9 rfl rfl rfl ?_
  refine AW.cV (pc' := 13) d_M_arrive_10 rfl cv_M_110 (by decide) rfl rfl rfl (k_isPerson_t X z k o p hj (by omega)) rfl rfl rfl rfl rfl rfl rfl ?_
  refine AW.if_eq (tgt := 29) (pc' := 16) d_M_arrive_13 (by decide) rfl (fun h => absurd h (by decide)) (fun _ => ?_)
  refine AW.aload_n (pc' := 17) d_M_arrive_16 rfl rfl rfl ?_
  refine AW.getf (pc' := 20) d_M_arrive_17 rfl fl_M_13 rfl rfl ?_
  refine AW.iload_n (pc' := 21) d_M_arrive_20 rfl rfl rfl ?_
  refine AW.ialdN (pc' := 22) d_M_arrive_21 rfl rfl (by omega) (by decide) ?_
  refine AW.if_ge (tgt := 29) (pc' := 25) d_M_arrive_22 (by decide) rfl (fun h => absurd h1 (Int32.not_lt.mpr h)) (fun h22 => ?_)
  refine AW.iconst (pc' := 26) (v := nI 1) d_M_arrive_25 rfl (by decide) ?_
  refine AW.goto (tgt := 30) d_M_arrive_26 (by decide) ?_
  refine AW.iconst (pc' := 31) (v := nI 1) d_M_arrive_30 rfl (by decide) ?_
  refine AW.cV (pc' := 34) d_M_arrive_31 rfl cv_M_106 (by decide) rfl rfl rfl (k_goes_5_0 X z k o ) rfl rfl rfl rfl rfl rfl rfl ?_
  refine AW.if_ne (tgt := 38) (pc' := 37) d_M_arrive_34 (by decide) rfl (fun _ => ?_) (fun h => absurd h (by decide))
  refine AW.aload_n (pc' := 39) d_M_arrive_38 rfl rfl rfl ?_
  refine AW.getf (pc' := 42) d_M_arrive_39 rfl fl_M_16 rfl rfl ?_
  refine AW.iload_n (pc' := 43) d_M_arrive_42 rfl rfl rfl ?_
  refine AW.aload_n (pc' := 44) d_M_arrive_43 rfl rfl rfl ?_
  refine AW.getf (pc' := 47) d_M_arrive_44 rfl fl_M_89 rfl rfl ?_
  refine AW.iastN (pc' := 48) (w' := (wL z (k_arr_ ((k_thr_ k (nI 0))) (upd (k_arr ((k_thr_ k (nI 0)))) p (nI (k_now ((k_thr_ k (nI 0))))))) o)) d_M_arrive_47 rfl rfl (by omega) (by decide) rfl ?_
  refine AW.aload_n (pc' := 49) d_M_arrive_48 rfl rfl rfl ?_
  refine AW.iload_n (pc' := 50) d_M_arrive_49 rfl rfl rfl ?_
  refine AW.iconst (pc' := 51) (v := nI 0) d_M_arrive_50 rfl (by decide) ?_
  refine AW.cV (pc' := 54) d_M_arrive_51 rfl cv_M_113 (by decide) rfl rfl rfl (k_moves X z (k_arr_ (k_thr_ k (nI 0)) (upd (k_arr k) p (nI (k_now k)))) o p (by omega) (some 0) (fun t h => by cases h; decide) hn hnp hr2 hK) rfl rfl rfl rfl rfl rfl rfl ?_
  exact AW.vret d_M_arrive_54 rfl rfl rfl ⟨rfl, rfl⟩
theorem lp_kleave (X : ct_X) (z : S_c) (k : S_m) (o : Nat → Int64) (p : Nat) (hn : k_ns k ≤ 20) {Q : Option Value ⊕ Nat → ct_W → Prop} : ∀ (n i : Nat) (g : Nat → Int32), i + n = k_ns k → AW X m_M_leave 3 0 0 0 0 71 [some (.ref 20), some (.int (nI (p))), some (.int (nI (k_ns k)))] [] (wL z (k_off_ k (fun j => if (i ≤ j ∧ j < k_ns k) ∧ g j = nI p then -1 else g j)) o) Q → AW X m_M_leave 3 0 0 0 0 40 [some (.ref 20), some (.int (nI (p))), some (.int (nI (i)))] [] (wL z (k_off_ k g) o) Q := by
  intro n
  induction n with
  | zero =>
    intro i g hi hC
    have e : (fun j => if (i ≤ j ∧ j < k_ns k) ∧ g j = nI p then -1 else g j) = g := by
      funext j
      rw [if_neg (by omega)]
    rw [e] at hC
    have e2 : i = k_ns k := by omega
    refine AW.iload_n (pc' := 41) d_M_leave_40 rfl rfl rfl ?_
    refine AW.aload_n (pc' := 42) d_M_leave_41 rfl rfl rfl ?_
    refine AW.getf (pc' := 45) d_M_leave_42 rfl fl_M_22 rfl rfl ?_
    refine AW.top (u := .int (nI (k_ns k))) rfl ?_
    refine AW.icmp_geN (tgt := 71) (pc' := 48) d_M_leave_45 (by decide) rfl (by omega) (by omega) (fun h45 => ?_) (fun h => absurd h (by omega))
    subst e2
    exact hC
  | succ n ih =>
    intro i g hi hC
    refine AW.iload_n (pc' := 41) d_M_leave_40 rfl rfl rfl ?_
    refine AW.aload_n (pc' := 42) d_M_leave_41 rfl rfl rfl ?_
    refine AW.getf (pc' := 45) d_M_leave_42 rfl fl_M_22 rfl rfl ?_
    refine AW.top (u := .int (nI (k_ns k))) rfl ?_
    refine AW.icmp_geN (tgt := 71) (pc' := 48) d_M_leave_45 (by decide) rfl (by omega) (by omega) (fun h => absurd h (by omega)) (fun h45 => ?_)
    refine AW.aload_n (pc' := 49) d_M_leave_48 rfl rfl rfl ?_
    refine AW.getf (pc' := 52) d_M_leave_49 rfl fl_M_36 rfl rfl ?_
    refine AW.iload_n (pc' := 53) d_M_leave_52 rfl rfl rfl ?_
    refine AW.ialdN (pc' := 54) d_M_leave_53 rfl rfl (by omega) (by decide) ?_
    refine AW.top (u := .int (g i)) rfl ?_
    refine AW.iload_n (pc' := 55) d_M_leave_54 rfl rfl rfl ?_
    refine AW.icmp_ne (tgt := 65) (pc' := 58) d_M_leave_55 (by decide) rfl (fun h55 => ?_) (fun h55 => ?_)
    · refine AW.iincN (pc' := 68) (ls' := [some (.ref 20), some (.int (nI (p))), some (.int (nI (i + 1)))]) d_M_leave_65 rfl rfl rfl rfl ?_
      refine AW.goto (tgt := 40) d_M_leave_68 (by decide) ?_
      have e : (fun j => if (i + 1 ≤ j ∧ j < k_ns k) ∧ g j = nI p then -1 else g j) = (fun j => if (i ≤ j ∧ j < k_ns k) ∧ g j = nI p then -1 else g j) := by
        funext j
        by_cases hj : j = i
        · subst hj
          rw [if_neg (by omega), if_neg (fun q => absurd q.2 h55)]
        · skip
          by_cases h1 : (i ≤ j ∧ j < k_ns k) ∧ g j = nI p
          · rw [if_pos h1, if_pos ⟨by omega, h1.2⟩]
          · rw [if_neg h1, if_neg (fun q => h1 ⟨by omega, q.2⟩)]
      have h9 := ih (i + 1) g (by omega) (by rw [e]; exact hC)
      exact AW.wld rfl h9
    · refine AW.aload_n (pc' := 59) d_M_leave_58 rfl rfl rfl ?_
      refine AW.getf (pc' := 62) d_M_leave_59 rfl fl_M_36 rfl rfl ?_
      refine AW.iload_n (pc' := 63) d_M_leave_62 rfl rfl rfl ?_
      refine AW.iconst (pc' := 64) (v := (-1)) d_M_leave_63 rfl (by decide) ?_
      refine AW.iastN (pc' := 65) (w' := (wL z (k_off_ (k_off_ k (g)) (upd g i ((-1)))) o)) d_M_leave_64 rfl rfl (by omega) (by decide) rfl ?_
      refine AW.iincN (pc' := 68) (ls' := [some (.ref 20), some (.int (nI (p))), some (.int (nI (i + 1)))]) d_M_leave_65 rfl rfl rfl rfl ?_
      refine AW.goto (tgt := 40) d_M_leave_68 (by decide) ?_
      have e : (fun j => if (i + 1 ≤ j ∧ j < k_ns k) ∧ (upd g i (-1)) j = nI p then -1 else (upd g i (-1)) j) = (fun j => if (i ≤ j ∧ j < k_ns k) ∧ g j = nI p then -1 else g j) := by
        funext j
        by_cases hj : j = i
        · subst hj
          rw [if_neg (by omega), pk_us, if_pos ⟨by omega, h55⟩]
        · rw [pk_un hj]
          by_cases h1 : (i ≤ j ∧ j < k_ns k) ∧ g j = nI p
          · rw [if_pos h1, if_pos ⟨by omega, h1.2⟩]
          · rw [if_neg h1, if_neg (fun q => h1 ⟨by omega, q.2⟩)]
      have h9 := ih (i + 1) (upd g i (-1)) (by omega) (by rw [e]; exact hC)
      exact AW.wld rfl h9
theorem k_leave_2 (X : ct_X) (z : S_c) (k : S_m) (o : Nat → Int64) (p : Nat) (hj : p < k_np k) (hnp : k_np k ≤ 40) (h1 : ¬ k_in k p < 0) (hn : k_ns k ≤ 20) (hr2 : k_rows k + 2 < 2 ^ 31) (hK : RowK k) : AF X m_M_leave 3 0 0 [.ref 20, .int (nI (p))] (wL z k o) (.inl none) (wL z (k_arr_ (f_moves (k_off_ (k_thr_ k (nI 0)) (rep (k_off k) (nI p) (-1) (k_ns k))) p none) (upd (k_arr (f_moves (k_off_ (k_thr_ k (nI 0)) (rep (k_off k) (nI p) (-1) (k_ns k))) p none)) p (-1))) o) := by
  refine AM.of rfl (Nat.le_of_ble_eq_true rfl) (ls := [some (.ref 20), some (.int (nI (p))), none]) rfl ?_
  refine AW.aload_n (pc' := 1) d_M_leave_0 rfl rfl rfl ?_
  refine AW.iconst (pc' := 2) (v := nI 5) d_M_leave_1 rfl (by decide) ?_
  refine AW.aload_n (pc' := 3) d_M_leave_2 rfl rfl rfl ?_
  refine AW.iload_n (pc' := 4) d_M_leave_3 rfl rfl rfl ?_
  refine AW.cV (pc' := 7) d_M_leave_4 rfl cv_M_110 (by decide) rfl rfl rfl (k_isPerson_t X z k o p hj (by omega)) rfl rfl rfl rfl rfl rfl rfl ?_
  refine AW.iconst (pc' := 8) (v := nI 1) d_M_leave_7 rfl (by decide) ?_
  refine AW.aload_n (pc' := 9) d_M_leave_8 rfl rfl rfl ?_
  refine AW.iload_n (pc' := 10) d_M_leave_9 rfl rfl rfl ?_
  refine AW.cV (pc' := 13) d_M_leave_10 rfl cv_M_110 (by decide) rfl rfl rfl (k_isPerson_t X z k o p hj (by omega)) rfl rfl rfl rfl rfl rfl rfl ?_
  refine AW.if_eq (tgt := 29) (pc' := 16) d_M_leave_13 (by decide) rfl (fun h => absurd h (by decide)) (fun _ => ?_)
  refine AW.aload_n (pc' := 17) d_M_leave_16 rfl rfl rfl ?_
  refine AW.getf (pc' := 20) d_M_leave_17 rfl fl_M_13 rfl rfl ?_
  refine AW.iload_n (pc' := 21) d_M_leave_20 rfl rfl rfl ?_
  refine AW.ialdN (pc' := 22) d_M_leave_21 rfl rfl (by omega) (by decide) ?_
  refine AW.if_lt (tgt := 29) (pc' := 25) d_M_leave_22 (by decide) rfl (fun h => absurd h h1) (fun h22 => ?_)
  refine AW.iconst (pc' := 26) (v := nI 1) d_M_leave_25 rfl (by decide) ?_
  refine AW.goto (tgt := 30) d_M_leave_26 (by decide) ?_
  refine AW.iconst (pc' := 31) (v := nI 1) d_M_leave_30 rfl (by decide) ?_
  refine AW.cV (pc' := 34) d_M_leave_31 rfl cv_M_106 (by decide) rfl rfl rfl (k_goes_5_0 X z k o ) rfl rfl rfl rfl rfl rfl rfl ?_
  refine AW.if_ne (tgt := 38) (pc' := 37) d_M_leave_34 (by decide) rfl (fun _ => ?_) (fun h => absurd h (by decide))
  refine AW.iconst (pc' := 39) (v := nI 0) d_M_leave_38 rfl (by decide) ?_
  refine AW.istore_n (pc' := 40) (ls' := [some (.ref 20), some (.int (nI (p))), some (.int (nI (0)))]) d_M_leave_39 rfl rfl rfl rfl ?_
  refine lp_kleave X z (k_thr_ k (nI 0)) o p hn (k_ns k) 0 (k_off k) (by show 0 + k_ns k = k_ns k; omega) ?_
  rw [rep0]
  show AW X m_M_leave 3 0 0 0 0 71 [some (.ref 20), some (.int (nI (p))), some (.int (nI (k_ns k)))] [] (wL z (k_off_ (k_thr_ k (nI 0)) (rep (k_off k) (nI p) (-1) (k_ns k))) o) _
  refine AW.aload_n (pc' := 72) d_M_leave_71 rfl rfl rfl ?_
  refine AW.iload_n (pc' := 73) d_M_leave_72 rfl rfl rfl ?_
  refine AW.iconst (pc' := 74) (v := (-1)) d_M_leave_73 rfl (by decide) ?_
  refine AW.cV (pc' := 77) d_M_leave_74 rfl cv_M_113 (by decide) rfl rfl rfl (k_moves X z (k_off_ (k_thr_ k (nI 0)) (rep (k_off k) (nI p) (-1) (k_ns k))) o p (by omega) none (fun t h => by cases h) hn hnp hr2 hK) rfl rfl rfl rfl rfl rfl rfl ?_
  refine AW.aload_n (pc' := 78) d_M_leave_77 rfl rfl rfl ?_
  refine AW.getf (pc' := 81) d_M_leave_78 rfl fl_M_16 rfl rfl ?_
  refine AW.iload_n (pc' := 82) d_M_leave_81 rfl rfl rfl ?_
  refine AW.iconst (pc' := 83) (v := (-1)) d_M_leave_82 rfl (by decide) ?_
  refine AW.iastN (pc' := 84) (w' := (wL z (k_arr_ ((f_moves (k_off_ (k_thr_ k (nI 0)) (rep (k_off k) (nI p) (-1) (k_ns k))) p none)) (upd (k_arr ((f_moves (k_off_ (k_thr_ k (nI 0)) (rep (k_off k) (nI p) (-1) (k_ns k))) p none))) p ((-1)))) o)) d_M_leave_83 rfl rfl (by omega) (by decide) rfl ?_
  exact AW.vret d_M_leave_84 rfl rfl rfl ⟨rfl, rfl⟩
theorem k_go_0 (X : ct_X) (z : S_c) (k : S_m) (o : Nat → Int64) (x : Int32) (hx : x < 0 ∨ nI (k_np k) ≤ x) (hnp : k_np k ≤ 40) (y : Int32) : AF X m_M_go 3 0 0 [.ref 20, .int (x), .int (y)] (wL z k o) (.inl none) (wL z (k_thr_ k (nI 1)) o) := by
  refine AM.of rfl (Nat.le_of_ble_eq_true rfl) (ls := [some (.ref 20), some (.int (x)), some (.int (y)), none]) rfl ?_
  refine AW.aload_n (pc' := 1) d_M_go_0 rfl rfl rfl ?_
  refine AW.iload_n (pc' := 2) d_M_go_1 rfl rfl rfl ?_
  refine AW.cV (pc' := 5) d_M_go_2 rfl cv_M_110 (by decide) rfl rfl rfl (k_isPerson_f X z k o x hx (by omega)) rfl rfl rfl rfl rfl rfl rfl ?_
  refine AW.if_eq (tgt := 20) (pc' := 8) d_M_go_5 (by decide) rfl (fun _ => ?_) (fun h => absurd h (by decide))
  refine AW.iconst (pc' := 21) (v := nI 0) d_M_go_20 rfl (by decide) ?_
  refine AW.istore_n (pc' := 22) (ls' := [some (.ref 20), some (.int (x)), some (.int (y)), some (.int (nI (0)))]) d_M_go_21 rfl rfl rfl rfl ?_
  refine AW.aload_n (pc' := 23) d_M_go_22 rfl rfl rfl ?_
  refine AW.iconst (pc' := 24) (v := nI 5) d_M_go_23 rfl (by decide) ?_
  refine AW.iload_n (pc' := 25) d_M_go_24 rfl rfl rfl ?_
  refine AW.iconst (pc' := 26) (v := nI 1) d_M_go_25 rfl (by decide) ?_
  refine AW.iload_n (pc' := 27) d_M_go_26 rfl rfl rfl ?_
  refine AW.if_eq (tgt := 61) (pc' := 30) d_M_go_27 (by decide) rfl (fun _ => ?_) (fun h => absurd h (by decide))
  refine AW.iconst (pc' := 62) (v := nI 0) d_M_go_61 rfl (by decide) ?_
  refine AW.iconst (pc' := 63) (v := nI 1) d_M_go_62 rfl (by decide) ?_
  refine AW.cV (pc' := 66) d_M_go_63 rfl cv_M_106 (by decide) rfl rfl rfl (k_goes_5_1 X z k o ((nI (1))) ((nI (0))) ((nI (1)))) rfl rfl rfl rfl rfl rfl rfl ?_
  refine AW.if_ne (tgt := 70) (pc' := 69) d_M_go_66 (by decide) rfl (fun h => absurd h (by decide)) (fun _ => ?_)
  exact AW.vret d_M_go_69 rfl rfl rfl ⟨rfl, rfl⟩
theorem k_go_1 (X : ct_X) (z : S_c) (k : S_m) (o : Nat → Int64) (p : Nat) (hj : p < k_np k) (hnp : k_np k ≤ 40) (x : Int32) (hx : x < 0 ∨ nI (k_ns k) ≤ x) (hn : k_ns k ≤ 20) : AF X m_M_go 3 0 0 [.ref 20, .int (nI (p)), .int (x)] (wL z k o) (.inl none) (wL z (k_thr_ k (nI 1)) o) := by
  refine AM.of rfl (Nat.le_of_ble_eq_true rfl) (ls := [some (.ref 20), some (.int (nI (p))), some (.int (x)), none]) rfl ?_
  refine AW.aload_n (pc' := 1) d_M_go_0 rfl rfl rfl ?_
  refine AW.iload_n (pc' := 2) d_M_go_1 rfl rfl rfl ?_
  refine AW.cV (pc' := 5) d_M_go_2 rfl cv_M_110 (by decide) rfl rfl rfl (k_isPerson_t X z k o p hj (by omega)) rfl rfl rfl rfl rfl rfl rfl ?_
  refine AW.if_eq (tgt := 20) (pc' := 8) d_M_go_5 (by decide) rfl (fun h => absurd h (by decide)) (fun _ => ?_)
  refine AW.aload_n (pc' := 9) d_M_go_8 rfl rfl rfl ?_
  refine AW.iload_n (pc' := 10) d_M_go_9 rfl rfl rfl ?_
  refine AW.cV (pc' := 13) d_M_go_10 rfl cv_M_82 (by decide) rfl rfl rfl (k_isSector_f X z k o x hx (by omega)) rfl rfl rfl rfl rfl rfl rfl ?_
  refine AW.if_eq (tgt := 20) (pc' := 16) d_M_go_13 (by decide) rfl (fun _ => ?_) (fun h => absurd h (by decide))
  refine AW.iconst (pc' := 21) (v := nI 0) d_M_go_20 rfl (by decide) ?_
  refine AW.istore_n (pc' := 22) (ls' := [some (.ref 20), some (.int (nI (p))), some (.int (x)), some (.int (nI (0)))]) d_M_go_21 rfl rfl rfl rfl ?_
  refine AW.aload_n (pc' := 23) d_M_go_22 rfl rfl rfl ?_
  refine AW.iconst (pc' := 24) (v := nI 5) d_M_go_23 rfl (by decide) ?_
  refine AW.iload_n (pc' := 25) d_M_go_24 rfl rfl rfl ?_
  refine AW.iconst (pc' := 26) (v := nI 1) d_M_go_25 rfl (by decide) ?_
  refine AW.iload_n (pc' := 27) d_M_go_26 rfl rfl rfl ?_
  refine AW.if_eq (tgt := 61) (pc' := 30) d_M_go_27 (by decide) rfl (fun _ => ?_) (fun h => absurd h (by decide))
  refine AW.iconst (pc' := 62) (v := nI 0) d_M_go_61 rfl (by decide) ?_
  refine AW.iconst (pc' := 63) (v := nI 1) d_M_go_62 rfl (by decide) ?_
  refine AW.cV (pc' := 66) d_M_go_63 rfl cv_M_106 (by decide) rfl rfl rfl (k_goes_5_1 X z k o ((nI (1))) ((nI (0))) ((nI (1)))) rfl rfl rfl rfl rfl rfl rfl ?_
  refine AW.if_ne (tgt := 70) (pc' := 69) d_M_go_66 (by decide) rfl (fun h => absurd h (by decide)) (fun _ => ?_)
  exact AW.vret d_M_go_69 rfl rfl rfl ⟨rfl, rfl⟩
theorem k_go_2 (X : ct_X) (z : S_c) (k : S_m) (o : Nat → Int64) (p : Nat) (hj : p < k_np k) (hnp : k_np k ≤ 40) (s : Nat) (hs : s < k_ns k) (hn : k_ns k ≤ 20) (h1 : k_in k p < 0) : AF X m_M_go 3 0 0 [.ref 20, .int (nI (p)), .int (nI (s))] (wL z k o) (.inl none) (wL z (k_thr_ k (nI 2)) o) := by
  refine AM.of rfl (Nat.le_of_ble_eq_true rfl) (ls := [some (.ref 20), some (.int (nI (p))), some (.int (nI (s))), none]) rfl ?_
  refine AW.aload_n (pc' := 1) d_M_go_0 rfl rfl rfl ?_
  refine AW.iload_n (pc' := 2) d_M_go_1 rfl rfl rfl ?_
  refine AW.cV (pc' := 5) d_M_go_2 rfl cv_M_110 (by decide) rfl rfl rfl (k_isPerson_t X z k o p hj (by omega)) rfl rfl rfl rfl rfl rfl rfl ?_
  refine AW.if_eq (tgt := 20) (pc' := 8) d_M_go_5 (by decide) rfl (fun h => absurd h (by decide)) (fun _ => ?_)
  refine AW.aload_n (pc' := 9) d_M_go_8 rfl rfl rfl ?_
  refine AW.iload_n (pc' := 10) d_M_go_9 rfl rfl rfl ?_
  refine AW.cV (pc' := 13) d_M_go_10 rfl cv_M_82 (by decide) rfl rfl rfl (k_isSector_t X z k o s hs (by omega)) rfl rfl rfl rfl rfl rfl rfl ?_
  refine AW.if_eq (tgt := 20) (pc' := 16) d_M_go_13 (by decide) rfl (fun h => absurd h (by decide)) (fun _ => ?_)
  refine AW.iconst (pc' := 17) (v := nI 1) d_M_go_16 rfl (by decide) ?_
  refine AW.goto (tgt := 21) d_M_go_17 (by decide) ?_
  refine AW.istore_n (pc' := 22) (ls' := [some (.ref 20), some (.int (nI (p))), some (.int (nI (s))), some (.int (nI (1)))]) d_M_go_21 rfl rfl rfl rfl ?_
  refine AW.aload_n (pc' := 23) d_M_go_22 rfl rfl rfl ?_
  refine AW.iconst (pc' := 24) (v := nI 5) d_M_go_23 rfl (by decide) ?_
  refine AW.iload_n (pc' := 25) d_M_go_24 rfl rfl rfl ?_
  refine AW.iconst (pc' := 26) (v := nI 1) d_M_go_25 rfl (by decide) ?_
  refine AW.iload_n (pc' := 27) d_M_go_26 rfl rfl rfl ?_
  refine AW.if_eq (tgt := 61) (pc' := 30) d_M_go_27 (by decide) rfl (fun h => absurd h (by decide)) (fun _ => ?_)
  refine AW.aload_n (pc' := 31) d_M_go_30 rfl rfl rfl ?_
  refine AW.getf (pc' := 34) d_M_go_31 rfl fl_M_13 rfl rfl ?_
  refine AW.iload_n (pc' := 35) d_M_go_34 rfl rfl rfl ?_
  refine AW.ialdN (pc' := 36) d_M_go_35 rfl rfl (by omega) (by decide) ?_
  refine AW.if_lt (tgt := 61) (pc' := 39) d_M_go_36 (by decide) rfl (fun h36 => ?_) (fun h => absurd h1 h)
  refine AW.iconst (pc' := 62) (v := nI 0) d_M_go_61 rfl (by decide) ?_
  refine AW.iconst (pc' := 63) (v := nI 1) d_M_go_62 rfl (by decide) ?_
  refine AW.cV (pc' := 66) d_M_go_63 rfl cv_M_106 (by decide) rfl rfl rfl (k_goes_5_4 X z k o ((nI (1)))) rfl rfl rfl rfl rfl rfl rfl ?_
  refine AW.if_ne (tgt := 70) (pc' := 69) d_M_go_66 (by decide) rfl (fun h => absurd h (by decide)) (fun _ => ?_)
  exact AW.vret d_M_go_69 rfl rfl rfl ⟨rfl, rfl⟩
theorem k_go_3 (X : ct_X) (z : S_c) (k : S_m) (o : Nat → Int64) (p : Nat) (hj : p < k_np k) (hnp : k_np k ≤ 40) (s : Nat) (hs : s < k_ns k) (hn : k_ns k ≤ 20) (h1 : ¬ k_in k p < 0) (h2 : k_in k p = nI s) : AF X m_M_go 3 0 0 [.ref 20, .int (nI (p)), .int (nI (s))] (wL z k o) (.inl none) (wL z (k_thr_ k (nI 2)) o) := by
  refine AM.of rfl (Nat.le_of_ble_eq_true rfl) (ls := [some (.ref 20), some (.int (nI (p))), some (.int (nI (s))), none]) rfl ?_
  refine AW.aload_n (pc' := 1) d_M_go_0 rfl rfl rfl ?_
  refine AW.iload_n (pc' := 2) d_M_go_1 rfl rfl rfl ?_
  refine AW.cV (pc' := 5) d_M_go_2 rfl cv_M_110 (by decide) rfl rfl rfl (k_isPerson_t X z k o p hj (by omega)) rfl rfl rfl rfl rfl rfl rfl ?_
  refine AW.if_eq (tgt := 20) (pc' := 8) d_M_go_5 (by decide) rfl (fun h => absurd h (by decide)) (fun _ => ?_)
  refine AW.aload_n (pc' := 9) d_M_go_8 rfl rfl rfl ?_
  refine AW.iload_n (pc' := 10) d_M_go_9 rfl rfl rfl ?_
  refine AW.cV (pc' := 13) d_M_go_10 rfl cv_M_82 (by decide) rfl rfl rfl (k_isSector_t X z k o s hs (by omega)) rfl rfl rfl rfl rfl rfl rfl ?_
  refine AW.if_eq (tgt := 20) (pc' := 16) d_M_go_13 (by decide) rfl (fun h => absurd h (by decide)) (fun _ => ?_)
  refine AW.iconst (pc' := 17) (v := nI 1) d_M_go_16 rfl (by decide) ?_
  refine AW.goto (tgt := 21) d_M_go_17 (by decide) ?_
  refine AW.istore_n (pc' := 22) (ls' := [some (.ref 20), some (.int (nI (p))), some (.int (nI (s))), some (.int (nI (1)))]) d_M_go_21 rfl rfl rfl rfl ?_
  refine AW.aload_n (pc' := 23) d_M_go_22 rfl rfl rfl ?_
  refine AW.iconst (pc' := 24) (v := nI 5) d_M_go_23 rfl (by decide) ?_
  refine AW.iload_n (pc' := 25) d_M_go_24 rfl rfl rfl ?_
  refine AW.iconst (pc' := 26) (v := nI 1) d_M_go_25 rfl (by decide) ?_
  refine AW.iload_n (pc' := 27) d_M_go_26 rfl rfl rfl ?_
  refine AW.if_eq (tgt := 61) (pc' := 30) d_M_go_27 (by decide) rfl (fun h => absurd h (by decide)) (fun _ => ?_)
  refine AW.aload_n (pc' := 31) d_M_go_30 rfl rfl rfl ?_
  refine AW.getf (pc' := 34) d_M_go_31 rfl fl_M_13 rfl rfl ?_
  refine AW.iload_n (pc' := 35) d_M_go_34 rfl rfl rfl ?_
  refine AW.ialdN (pc' := 36) d_M_go_35 rfl rfl (by omega) (by decide) ?_
  refine AW.if_lt (tgt := 61) (pc' := 39) d_M_go_36 (by decide) rfl (fun h => absurd h h1) (fun h36 => ?_)
  refine AW.aload_n (pc' := 40) d_M_go_39 rfl rfl rfl ?_
  refine AW.getf (pc' := 43) d_M_go_40 rfl fl_M_13 rfl rfl ?_
  refine AW.iload_n (pc' := 44) d_M_go_43 rfl rfl rfl ?_
  refine AW.ialdN (pc' := 45) d_M_go_44 rfl rfl (by omega) (by decide) ?_
  refine AW.iload_n (pc' := 46) d_M_go_45 rfl rfl rfl ?_
  refine AW.icmp_eq (tgt := 61) (pc' := 49) d_M_go_46 (by decide) rfl (fun h46 => ?_) (fun h => absurd h2 h)
  refine AW.iconst (pc' := 62) (v := nI 0) d_M_go_61 rfl (by decide) ?_
  refine AW.iconst (pc' := 63) (v := nI 1) d_M_go_62 rfl (by decide) ?_
  refine AW.cV (pc' := 66) d_M_go_63 rfl cv_M_106 (by decide) rfl rfl rfl (k_goes_5_4 X z k o ((nI (1)))) rfl rfl rfl rfl rfl rfl rfl ?_
  refine AW.if_ne (tgt := 70) (pc' := 69) d_M_go_66 (by decide) rfl (fun h => absurd h (by decide)) (fun _ => ?_)
  exact AW.vret d_M_go_69 rfl rfl rfl ⟨rfl, rfl⟩
theorem k_go_4 (X : ct_X) (z : S_c) (k : S_m) (o : Nat → Int64) (p : Nat) (hj : p < k_np k) (hnp : k_np k ≤ 40) (s : Nat) (hs : s < k_ns k) (hn : k_ns k ≤ 20) (h1 : ¬ k_in k p < 0) (h2 : ¬ k_in k p = nI s) (h3 : ¬ k_jnd k s = 0) : AF X m_M_go 3 0 0 [.ref 20, .int (nI (p)), .int (nI (s))] (wL z k o) (.inl none) (wL z (k_thr_ k (nI 2)) o) := by
  refine AM.of rfl (Nat.le_of_ble_eq_true rfl) (ls := [some (.ref 20), some (.int (nI (p))), some (.int (nI (s))), none]) rfl ?_
  refine AW.aload_n (pc' := 1) d_M_go_0 rfl rfl rfl ?_
  refine AW.iload_n (pc' := 2) d_M_go_1 rfl rfl rfl ?_
  refine AW.cV (pc' := 5) d_M_go_2 rfl cv_M_110 (by decide) rfl rfl rfl (k_isPerson_t X z k o p hj (by omega)) rfl rfl rfl rfl rfl rfl rfl ?_
  refine AW.if_eq (tgt := 20) (pc' := 8) d_M_go_5 (by decide) rfl (fun h => absurd h (by decide)) (fun _ => ?_)
  refine AW.aload_n (pc' := 9) d_M_go_8 rfl rfl rfl ?_
  refine AW.iload_n (pc' := 10) d_M_go_9 rfl rfl rfl ?_
  refine AW.cV (pc' := 13) d_M_go_10 rfl cv_M_82 (by decide) rfl rfl rfl (k_isSector_t X z k o s hs (by omega)) rfl rfl rfl rfl rfl rfl rfl ?_
  refine AW.if_eq (tgt := 20) (pc' := 16) d_M_go_13 (by decide) rfl (fun h => absurd h (by decide)) (fun _ => ?_)
  refine AW.iconst (pc' := 17) (v := nI 1) d_M_go_16 rfl (by decide) ?_
  refine AW.goto (tgt := 21) d_M_go_17 (by decide) ?_
  refine AW.istore_n (pc' := 22) (ls' := [some (.ref 20), some (.int (nI (p))), some (.int (nI (s))), some (.int (nI (1)))]) d_M_go_21 rfl rfl rfl rfl ?_
  refine AW.aload_n (pc' := 23) d_M_go_22 rfl rfl rfl ?_
  refine AW.iconst (pc' := 24) (v := nI 5) d_M_go_23 rfl (by decide) ?_
  refine AW.iload_n (pc' := 25) d_M_go_24 rfl rfl rfl ?_
  refine AW.iconst (pc' := 26) (v := nI 1) d_M_go_25 rfl (by decide) ?_
  refine AW.iload_n (pc' := 27) d_M_go_26 rfl rfl rfl ?_
  refine AW.if_eq (tgt := 61) (pc' := 30) d_M_go_27 (by decide) rfl (fun h => absurd h (by decide)) (fun _ => ?_)
  refine AW.aload_n (pc' := 31) d_M_go_30 rfl rfl rfl ?_
  refine AW.getf (pc' := 34) d_M_go_31 rfl fl_M_13 rfl rfl ?_
  refine AW.iload_n (pc' := 35) d_M_go_34 rfl rfl rfl ?_
  refine AW.ialdN (pc' := 36) d_M_go_35 rfl rfl (by omega) (by decide) ?_
  refine AW.if_lt (tgt := 61) (pc' := 39) d_M_go_36 (by decide) rfl (fun h => absurd h h1) (fun h36 => ?_)
  refine AW.aload_n (pc' := 40) d_M_go_39 rfl rfl rfl ?_
  refine AW.getf (pc' := 43) d_M_go_40 rfl fl_M_13 rfl rfl ?_
  refine AW.iload_n (pc' := 44) d_M_go_43 rfl rfl rfl ?_
  refine AW.ialdN (pc' := 45) d_M_go_44 rfl rfl (by omega) (by decide) ?_
  refine AW.iload_n (pc' := 46) d_M_go_45 rfl rfl rfl ?_
  refine AW.icmp_eq (tgt := 61) (pc' := 49) d_M_go_46 (by decide) rfl (fun h => absurd h h2) (fun h46 => ?_)
  refine AW.aload_n (pc' := 50) d_M_go_49 rfl rfl rfl ?_
  refine AW.iload_n (pc' := 51) d_M_go_50 rfl rfl rfl ?_
  refine AW.cV (pc' := 54) d_M_go_51 rfl cv_M_116 (by decide) rfl rfl rfl (k_isOpen_f X z k o s hs hn h3) rfl rfl rfl rfl rfl rfl rfl ?_
  refine AW.if_eq (tgt := 61) (pc' := 57) d_M_go_54 (by decide) rfl (fun _ => ?_) (fun h => absurd h (by decide))
  refine AW.iconst (pc' := 62) (v := nI 0) d_M_go_61 rfl (by decide) ?_
  refine AW.iconst (pc' := 63) (v := nI 1) d_M_go_62 rfl (by decide) ?_
  refine AW.cV (pc' := 66) d_M_go_63 rfl cv_M_106 (by decide) rfl rfl rfl (k_goes_5_4 X z k o ((nI (1)))) rfl rfl rfl rfl rfl rfl rfl ?_
  refine AW.if_ne (tgt := 70) (pc' := 69) d_M_go_66 (by decide) rfl (fun h => absurd h (by decide)) (fun _ => ?_)
  exact AW.vret d_M_go_69 rfl rfl rfl ⟨rfl, rfl⟩
theorem k_go_5 (X : ct_X) (z : S_c) (k : S_m) (o : Nat → Int64) (p : Nat) (hj : p < k_np k) (hnp : k_np k ≤ 40) (s : Nat) (hs : s < k_ns k) (hn : k_ns k ≤ 20) (h1 : ¬ k_in k p < 0) (h2 : ¬ k_in k p = nI s) (h3 : k_jnd k s = 0) (hr2 : k_rows k + 2 < 2 ^ 31) (hK : RowK k) : AF X m_M_go 3 0 0 [.ref 20, .int (nI (p)), .int (nI (s))] (wL z k o) (.inl none) (wL z (f_moves (k_thr_ k (nI 0)) p (some s)) o) := by
  refine AM.of rfl (Nat.le_of_ble_eq_true rfl) (ls := [some (.ref 20), some (.int (nI (p))), some (.int (nI (s))), none]) rfl ?_
  refine AW.aload_n (pc' := 1) d_M_go_0 rfl rfl rfl ?_
  refine AW.iload_n (pc' := 2) d_M_go_1 rfl rfl rfl ?_
  refine AW.cV (pc' := 5) d_M_go_2 rfl cv_M_110 (by decide) rfl rfl rfl (k_isPerson_t X z k o p hj (by omega)) rfl rfl rfl rfl rfl rfl rfl ?_
  refine AW.if_eq (tgt := 20) (pc' := 8) d_M_go_5 (by decide) rfl (fun h => absurd h (by decide)) (fun _ => ?_)
  refine AW.aload_n (pc' := 9) d_M_go_8 rfl rfl rfl ?_
  refine AW.iload_n (pc' := 10) d_M_go_9 rfl rfl rfl ?_
  refine AW.cV (pc' := 13) d_M_go_10 rfl cv_M_82 (by decide) rfl rfl rfl (k_isSector_t X z k o s hs (by omega)) rfl rfl rfl rfl rfl rfl rfl ?_
  refine AW.if_eq (tgt := 20) (pc' := 16) d_M_go_13 (by decide) rfl (fun h => absurd h (by decide)) (fun _ => ?_)
  refine AW.iconst (pc' := 17) (v := nI 1) d_M_go_16 rfl (by decide) ?_
  refine AW.goto (tgt := 21) d_M_go_17 (by decide) ?_
  refine AW.istore_n (pc' := 22) (ls' := [some (.ref 20), some (.int (nI (p))), some (.int (nI (s))), some (.int (nI (1)))]) d_M_go_21 rfl rfl rfl rfl ?_
  refine AW.aload_n (pc' := 23) d_M_go_22 rfl rfl rfl ?_
  refine AW.iconst (pc' := 24) (v := nI 5) d_M_go_23 rfl (by decide) ?_
  refine AW.iload_n (pc' := 25) d_M_go_24 rfl rfl rfl ?_
  refine AW.iconst (pc' := 26) (v := nI 1) d_M_go_25 rfl (by decide) ?_
  refine AW.iload_n (pc' := 27) d_M_go_26 rfl rfl rfl ?_
  refine AW.if_eq (tgt := 61) (pc' := 30) d_M_go_27 (by decide) rfl (fun h => absurd h (by decide)) (fun _ => ?_)
  refine AW.aload_n (pc' := 31) d_M_go_30 rfl rfl rfl ?_
  refine AW.getf (pc' := 34) d_M_go_31 rfl fl_M_13 rfl rfl ?_
  refine AW.iload_n (pc' := 35) d_M_go_34 rfl rfl rfl ?_
  refine AW.ialdN (pc' := 36) d_M_go_35 rfl rfl (by omega) (by decide) ?_
  refine AW.if_lt (tgt := 61) (pc' := 39) d_M_go_36 (by decide) rfl (fun h => absurd h h1) (fun h36 => ?_)
  refine AW.aload_n (pc' := 40) d_M_go_39 rfl rfl rfl ?_
  refine AW.getf (pc' := 43) d_M_go_40 rfl fl_M_13 rfl rfl ?_
  refine AW.iload_n (pc' := 44) d_M_go_43 rfl rfl rfl ?_
  refine AW.ialdN (pc' := 45) d_M_go_44 rfl rfl (by omega) (by decide) ?_
  refine AW.iload_n (pc' := 46) d_M_go_45 rfl rfl rfl ?_
  refine AW.icmp_eq (tgt := 61) (pc' := 49) d_M_go_46 (by decide) rfl (fun h => absurd h h2) (fun h46 => ?_)
  refine AW.aload_n (pc' := 50) d_M_go_49 rfl rfl rfl ?_
  refine AW.iload_n (pc' := 51) d_M_go_50 rfl rfl rfl ?_
  refine AW.cV (pc' := 54) d_M_go_51 rfl cv_M_116 (by decide) rfl rfl rfl (k_isOpen_t X z k o s hs hn h3) rfl rfl rfl rfl rfl rfl rfl ?_
  refine AW.if_eq (tgt := 61) (pc' := 57) d_M_go_54 (by decide) rfl (fun h => absurd h (by decide)) (fun _ => ?_)
  refine AW.iconst (pc' := 58) (v := nI 1) d_M_go_57 rfl (by decide) ?_
  refine AW.goto (tgt := 62) d_M_go_58 (by decide) ?_
  refine AW.iconst (pc' := 63) (v := nI 1) d_M_go_62 rfl (by decide) ?_
  refine AW.cV (pc' := 66) d_M_go_63 rfl cv_M_106 (by decide) rfl rfl rfl (k_goes_5_0 X z k o ) rfl rfl rfl rfl rfl rfl rfl ?_
  refine AW.if_ne (tgt := 70) (pc' := 69) d_M_go_66 (by decide) rfl (fun _ => ?_) (fun h => absurd h (by decide))
  refine AW.aload_n (pc' := 71) d_M_go_70 rfl rfl rfl ?_
  refine AW.iload_n (pc' := 72) d_M_go_71 rfl rfl rfl ?_
  refine AW.iload_n (pc' := 73) d_M_go_72 rfl rfl rfl ?_
  refine AW.cV (pc' := 76) d_M_go_73 rfl cv_M_113 (by decide) rfl rfl rfl (k_moves X z (k_thr_ k (nI 0)) o p (by omega) (some s) (fun t h => by cases h; omega) hn hnp hr2 hK) rfl rfl rfl rfl rfl rfl rfl ?_
  exact AW.vret d_M_go_76 rfl rfl rfl ⟨rfl, rfl⟩
theorem k_place_0 (X : ct_X) (z : S_c) (k : S_m) (o : Nat → Int64) (x : Int32) (hx : x < 0 ∨ nI (k_nu k) ≤ x) (hnu : k_nu k ≤ 20) (y : Int32) : AF X m_M_place 3 0 0 [.ref 20, .int (x), .int (y)] (wL z k o) (.inl none) (wL z (k_thr_ k (nI 1)) o) := by
  refine AM.of rfl (Nat.le_of_ble_eq_true rfl) (ls := [some (.ref 20), some (.int (x)), some (.int (y)), none]) rfl ?_
  refine AW.aload_n (pc' := 1) d_M_place_0 rfl rfl rfl ?_
  refine AW.iload_n (pc' := 2) d_M_place_1 rfl rfl rfl ?_
  refine AW.cV (pc' := 5) d_M_place_2 rfl cv_M_119 (by decide) rfl rfl rfl (k_isUnit_f X z k o x hx (by omega)) rfl rfl rfl rfl rfl rfl rfl ?_
  refine AW.if_eq (tgt := 25) (pc' := 8) d_M_place_5 (by decide) rfl (fun _ => ?_) (fun h => absurd h (by decide))
  refine AW.iconst (pc' := 26) (v := nI 0) d_M_place_25 rfl (by decide) ?_
  refine AW.istore_n (pc' := 27) (ls' := [some (.ref 20), some (.int (x)), some (.int (y)), some (.int (nI (0)))]) d_M_place_26 rfl rfl rfl rfl ?_
  refine AW.aload_n (pc' := 28) d_M_place_27 rfl rfl rfl ?_
  refine AW.iconst (pc' := 29) (v := nI 5) d_M_place_28 rfl (by decide) ?_
  refine AW.iload_n (pc' := 30) d_M_place_29 rfl rfl rfl ?_
  refine AW.iconst (pc' := 31) (v := nI 1) d_M_place_30 rfl (by decide) ?_
  refine AW.iload_n (pc' := 32) d_M_place_31 rfl rfl rfl ?_
  refine AW.if_eq (tgt := 62) (pc' := 35) d_M_place_32 (by decide) rfl (fun _ => ?_) (fun h => absurd h (by decide))
  refine AW.iconst (pc' := 63) (v := nI 0) d_M_place_62 rfl (by decide) ?_
  refine AW.iconst (pc' := 64) (v := nI 1) d_M_place_63 rfl (by decide) ?_
  refine AW.cV (pc' := 67) d_M_place_64 rfl cv_M_106 (by decide) rfl rfl rfl (k_goes_5_1 X z k o ((nI (1))) ((nI (0))) ((nI (1)))) rfl rfl rfl rfl rfl rfl rfl ?_
  refine AW.if_ne (tgt := 71) (pc' := 70) d_M_place_67 (by decide) rfl (fun h => absurd h (by decide)) (fun _ => ?_)
  exact AW.vret d_M_place_70 rfl rfl rfl ⟨rfl, rfl⟩
theorem k_place_1 (X : ct_X) (z : S_c) (k : S_m) (o : Nat → Int64) (u : Nat) (hu : u < k_nu k) (hnu : k_nu k ≤ 20) (x : Int32) (hx : x < 0 ∨ nI (k_ns k) ≤ x) (hn : k_ns k ≤ 20) (hm : ¬ x = -1) : AF X m_M_place 3 0 0 [.ref 20, .int (nI (u)), .int (x)] (wL z k o) (.inl none) (wL z (k_thr_ k (nI 1)) o) := by
  refine AM.of rfl (Nat.le_of_ble_eq_true rfl) (ls := [some (.ref 20), some (.int (nI (u))), some (.int (x)), none]) rfl ?_
  refine AW.aload_n (pc' := 1) d_M_place_0 rfl rfl rfl ?_
  refine AW.iload_n (pc' := 2) d_M_place_1 rfl rfl rfl ?_
  refine AW.cV (pc' := 5) d_M_place_2 rfl cv_M_119 (by decide) rfl rfl rfl (k_isUnit_t X z k o u hu (by omega)) rfl rfl rfl rfl rfl rfl rfl ?_
  refine AW.if_eq (tgt := 25) (pc' := 8) d_M_place_5 (by decide) rfl (fun h => absurd h (by decide)) (fun _ => ?_)
  refine AW.iload_n (pc' := 9) d_M_place_8 rfl rfl rfl ?_
  refine AW.iconst (pc' := 10) (v := (-1)) d_M_place_9 rfl (by decide) ?_
  refine AW.icmp_eq (tgt := 21) (pc' := 13) d_M_place_10 (by decide) rfl (fun h => absurd h hm) (fun h10 => ?_)
  refine AW.aload_n (pc' := 14) d_M_place_13 rfl rfl rfl ?_
  refine AW.iload_n (pc' := 15) d_M_place_14 rfl rfl rfl ?_
  refine AW.cV (pc' := 18) d_M_place_15 rfl cv_M_82 (by decide) rfl rfl rfl (k_isSector_f X z k o x hx (by omega)) rfl rfl rfl rfl rfl rfl rfl ?_
  refine AW.if_eq (tgt := 25) (pc' := 21) d_M_place_18 (by decide) rfl (fun _ => ?_) (fun h => absurd h (by decide))
  refine AW.iconst (pc' := 26) (v := nI 0) d_M_place_25 rfl (by decide) ?_
  refine AW.istore_n (pc' := 27) (ls' := [some (.ref 20), some (.int (nI (u))), some (.int (x)), some (.int (nI (0)))]) d_M_place_26 rfl rfl rfl rfl ?_
  refine AW.aload_n (pc' := 28) d_M_place_27 rfl rfl rfl ?_
  refine AW.iconst (pc' := 29) (v := nI 5) d_M_place_28 rfl (by decide) ?_
  refine AW.iload_n (pc' := 30) d_M_place_29 rfl rfl rfl ?_
  refine AW.iconst (pc' := 31) (v := nI 1) d_M_place_30 rfl (by decide) ?_
  refine AW.iload_n (pc' := 32) d_M_place_31 rfl rfl rfl ?_
  refine AW.if_eq (tgt := 62) (pc' := 35) d_M_place_32 (by decide) rfl (fun _ => ?_) (fun h => absurd h (by decide))
  refine AW.iconst (pc' := 63) (v := nI 0) d_M_place_62 rfl (by decide) ?_
  refine AW.iconst (pc' := 64) (v := nI 1) d_M_place_63 rfl (by decide) ?_
  refine AW.cV (pc' := 67) d_M_place_64 rfl cv_M_106 (by decide) rfl rfl rfl (k_goes_5_1 X z k o ((nI (1))) ((nI (0))) ((nI (1)))) rfl rfl rfl rfl rfl rfl rfl ?_
  refine AW.if_ne (tgt := 71) (pc' := 70) d_M_place_67 (by decide) rfl (fun h => absurd h (by decide)) (fun _ => ?_)
  exact AW.vret d_M_place_70 rfl rfl rfl ⟨rfl, rfl⟩
theorem k_place_2 (X : ct_X) (z : S_c) (k : S_m) (o : Nat → Int64) (u : Nat) (hu : u < k_nu k) (hnu : k_nu k ≤ 20) (h1 : k_uin k u = -1) : AF X m_M_place 3 0 0 [.ref 20, .int (nI (u)), .int ((-1))] (wL z k o) (.inl none) (wL z (k_thr_ k (nI 2)) o) := by
  refine AM.of rfl (Nat.le_of_ble_eq_true rfl) (ls := [some (.ref 20), some (.int (nI (u))), some (.int ((-1))), none]) rfl ?_
  refine AW.aload_n (pc' := 1) d_M_place_0 rfl rfl rfl ?_
  refine AW.iload_n (pc' := 2) d_M_place_1 rfl rfl rfl ?_
  refine AW.cV (pc' := 5) d_M_place_2 rfl cv_M_119 (by decide) rfl rfl rfl (k_isUnit_t X z k o u hu (by omega)) rfl rfl rfl rfl rfl rfl rfl ?_
  refine AW.if_eq (tgt := 25) (pc' := 8) d_M_place_5 (by decide) rfl (fun h => absurd h (by decide)) (fun _ => ?_)
  refine AW.iload_n (pc' := 9) d_M_place_8 rfl rfl rfl ?_
  refine AW.iconst (pc' := 10) (v := (-1)) d_M_place_9 rfl (by decide) ?_
  refine AW.icmp_eq (tgt := 21) (pc' := 13) d_M_place_10 (by decide) rfl (fun h10 => ?_) (fun h => absurd rfl h)
  refine AW.iconst (pc' := 22) (v := nI 1) d_M_place_21 rfl (by decide) ?_
  refine AW.goto (tgt := 26) d_M_place_22 (by decide) ?_
  refine AW.istore_n (pc' := 27) (ls' := [some (.ref 20), some (.int (nI (u))), some (.int ((-1))), some (.int (nI (1)))]) d_M_place_26 rfl rfl rfl rfl ?_
  refine AW.aload_n (pc' := 28) d_M_place_27 rfl rfl rfl ?_
  refine AW.iconst (pc' := 29) (v := nI 5) d_M_place_28 rfl (by decide) ?_
  refine AW.iload_n (pc' := 30) d_M_place_29 rfl rfl rfl ?_
  refine AW.iconst (pc' := 31) (v := nI 1) d_M_place_30 rfl (by decide) ?_
  refine AW.iload_n (pc' := 32) d_M_place_31 rfl rfl rfl ?_
  refine AW.if_eq (tgt := 62) (pc' := 35) d_M_place_32 (by decide) rfl (fun h => absurd h (by decide)) (fun _ => ?_)
  refine AW.aload_n (pc' := 36) d_M_place_35 rfl rfl rfl ?_
  refine AW.getf (pc' := 39) d_M_place_36 rfl fl_M_19 rfl rfl ?_
  refine AW.iload_n (pc' := 40) d_M_place_39 rfl rfl rfl ?_
  refine AW.ialdN (pc' := 41) d_M_place_40 rfl rfl (by omega) (by decide) ?_
  refine AW.iload_n (pc' := 42) d_M_place_41 rfl rfl rfl ?_
  refine AW.icmp_eq (tgt := 62) (pc' := 45) d_M_place_42 (by decide) rfl (fun h42 => ?_) (fun h => absurd h1 h)
  refine AW.iconst (pc' := 63) (v := nI 0) d_M_place_62 rfl (by decide) ?_
  refine AW.iconst (pc' := 64) (v := nI 1) d_M_place_63 rfl (by decide) ?_
  refine AW.cV (pc' := 67) d_M_place_64 rfl cv_M_106 (by decide) rfl rfl rfl (k_goes_5_4 X z k o ((nI (1)))) rfl rfl rfl rfl rfl rfl rfl ?_
  refine AW.if_ne (tgt := 71) (pc' := 70) d_M_place_67 (by decide) rfl (fun h => absurd h (by decide)) (fun _ => ?_)
  exact AW.vret d_M_place_70 rfl rfl rfl ⟨rfl, rfl⟩
theorem k_place_3 (X : ct_X) (z : S_c) (k : S_m) (o : Nat → Int64) (u : Nat) (hu : u < k_nu k) (hnu : k_nu k ≤ 20) (h1 : ¬ k_uin k u = -1) : AF X m_M_place 3 0 0 [.ref 20, .int (nI (u)), .int ((-1))] (wL z k o) (.inl none) (wL z (k_uin_ (k_thr_ k (nI 0)) (upd (k_uin k) u (-1))) o) := by
  refine AM.of rfl (Nat.le_of_ble_eq_true rfl) (ls := [some (.ref 20), some (.int (nI (u))), some (.int ((-1))), none]) rfl ?_
  refine AW.aload_n (pc' := 1) d_M_place_0 rfl rfl rfl ?_
  refine AW.iload_n (pc' := 2) d_M_place_1 rfl rfl rfl ?_
  refine AW.cV (pc' := 5) d_M_place_2 rfl cv_M_119 (by decide) rfl rfl rfl (k_isUnit_t X z k o u hu (by omega)) rfl rfl rfl rfl rfl rfl rfl ?_
  refine AW.if_eq (tgt := 25) (pc' := 8) d_M_place_5 (by decide) rfl (fun h => absurd h (by decide)) (fun _ => ?_)
  refine AW.iload_n (pc' := 9) d_M_place_8 rfl rfl rfl ?_
  refine AW.iconst (pc' := 10) (v := (-1)) d_M_place_9 rfl (by decide) ?_
  refine AW.icmp_eq (tgt := 21) (pc' := 13) d_M_place_10 (by decide) rfl (fun h10 => ?_) (fun h => absurd rfl h)
  refine AW.iconst (pc' := 22) (v := nI 1) d_M_place_21 rfl (by decide) ?_
  refine AW.goto (tgt := 26) d_M_place_22 (by decide) ?_
  refine AW.istore_n (pc' := 27) (ls' := [some (.ref 20), some (.int (nI (u))), some (.int ((-1))), some (.int (nI (1)))]) d_M_place_26 rfl rfl rfl rfl ?_
  refine AW.aload_n (pc' := 28) d_M_place_27 rfl rfl rfl ?_
  refine AW.iconst (pc' := 29) (v := nI 5) d_M_place_28 rfl (by decide) ?_
  refine AW.iload_n (pc' := 30) d_M_place_29 rfl rfl rfl ?_
  refine AW.iconst (pc' := 31) (v := nI 1) d_M_place_30 rfl (by decide) ?_
  refine AW.iload_n (pc' := 32) d_M_place_31 rfl rfl rfl ?_
  refine AW.if_eq (tgt := 62) (pc' := 35) d_M_place_32 (by decide) rfl (fun h => absurd h (by decide)) (fun _ => ?_)
  refine AW.aload_n (pc' := 36) d_M_place_35 rfl rfl rfl ?_
  refine AW.getf (pc' := 39) d_M_place_36 rfl fl_M_19 rfl rfl ?_
  refine AW.iload_n (pc' := 40) d_M_place_39 rfl rfl rfl ?_
  refine AW.ialdN (pc' := 41) d_M_place_40 rfl rfl (by omega) (by decide) ?_
  refine AW.iload_n (pc' := 42) d_M_place_41 rfl rfl rfl ?_
  refine AW.icmp_eq (tgt := 62) (pc' := 45) d_M_place_42 (by decide) rfl (fun h => absurd h h1) (fun h42 => ?_)
  refine AW.iload_n (pc' := 46) d_M_place_45 rfl rfl rfl ?_
  refine AW.iconst (pc' := 47) (v := (-1)) d_M_place_46 rfl (by decide) ?_
  refine AW.icmp_eq (tgt := 58) (pc' := 50) d_M_place_47 (by decide) rfl (fun h47 => ?_) (fun h => absurd rfl h)
  refine AW.iconst (pc' := 59) (v := nI 1) d_M_place_58 rfl (by decide) ?_
  refine AW.goto (tgt := 63) d_M_place_59 (by decide) ?_
  refine AW.iconst (pc' := 64) (v := nI 1) d_M_place_63 rfl (by decide) ?_
  refine AW.cV (pc' := 67) d_M_place_64 rfl cv_M_106 (by decide) rfl rfl rfl (k_goes_5_0 X z k o ) rfl rfl rfl rfl rfl rfl rfl ?_
  refine AW.if_ne (tgt := 71) (pc' := 70) d_M_place_67 (by decide) rfl (fun _ => ?_) (fun h => absurd h (by decide))
  refine AW.aload_n (pc' := 72) d_M_place_71 rfl rfl rfl ?_
  refine AW.getf (pc' := 75) d_M_place_72 rfl fl_M_19 rfl rfl ?_
  refine AW.iload_n (pc' := 76) d_M_place_75 rfl rfl rfl ?_
  refine AW.iload_n (pc' := 77) d_M_place_76 rfl rfl rfl ?_
  refine AW.iastN (pc' := 78) (w' := (wL z (k_uin_ ((k_thr_ k (nI 0))) (upd (k_uin ((k_thr_ k (nI 0)))) u ((-1)))) o)) d_M_place_77 rfl rfl (by omega) (by decide) rfl ?_
  exact AW.vret d_M_place_78 rfl rfl rfl ⟨rfl, rfl⟩
theorem k_place_4 (X : ct_X) (z : S_c) (k : S_m) (o : Nat → Int64) (u : Nat) (hu : u < k_nu k) (hnu : k_nu k ≤ 20) (s : Nat) (hs : s < k_ns k) (hn : k_ns k ≤ 20) (h1 : k_uin k u = nI s) : AF X m_M_place 3 0 0 [.ref 20, .int (nI (u)), .int (nI (s))] (wL z k o) (.inl none) (wL z (k_thr_ k (nI 2)) o) := by
  refine AM.of rfl (Nat.le_of_ble_eq_true rfl) (ls := [some (.ref 20), some (.int (nI (u))), some (.int (nI (s))), none]) rfl ?_
  refine AW.aload_n (pc' := 1) d_M_place_0 rfl rfl rfl ?_
  refine AW.iload_n (pc' := 2) d_M_place_1 rfl rfl rfl ?_
  refine AW.cV (pc' := 5) d_M_place_2 rfl cv_M_119 (by decide) rfl rfl rfl (k_isUnit_t X z k o u hu (by omega)) rfl rfl rfl rfl rfl rfl rfl ?_
  refine AW.if_eq (tgt := 25) (pc' := 8) d_M_place_5 (by decide) rfl (fun h => absurd h (by decide)) (fun _ => ?_)
  refine AW.iload_n (pc' := 9) d_M_place_8 rfl rfl rfl ?_
  refine AW.iconst (pc' := 10) (v := (-1)) d_M_place_9 rfl (by decide) ?_
  refine AW.icmp_eq (tgt := 21) (pc' := 13) d_M_place_10 (by decide) rfl (fun h => absurd h (oI_ne (by omega))) (fun h10 => ?_)
  refine AW.aload_n (pc' := 14) d_M_place_13 rfl rfl rfl ?_
  refine AW.iload_n (pc' := 15) d_M_place_14 rfl rfl rfl ?_
  refine AW.cV (pc' := 18) d_M_place_15 rfl cv_M_82 (by decide) rfl rfl rfl (k_isSector_t X z k o s hs (by omega)) rfl rfl rfl rfl rfl rfl rfl ?_
  refine AW.if_eq (tgt := 25) (pc' := 21) d_M_place_18 (by decide) rfl (fun h => absurd h (by decide)) (fun _ => ?_)
  refine AW.iconst (pc' := 22) (v := nI 1) d_M_place_21 rfl (by decide) ?_
  refine AW.goto (tgt := 26) d_M_place_22 (by decide) ?_
  refine AW.istore_n (pc' := 27) (ls' := [some (.ref 20), some (.int (nI (u))), some (.int (nI (s))), some (.int (nI (1)))]) d_M_place_26 rfl rfl rfl rfl ?_
  refine AW.aload_n (pc' := 28) d_M_place_27 rfl rfl rfl ?_
  refine AW.iconst (pc' := 29) (v := nI 5) d_M_place_28 rfl (by decide) ?_
  refine AW.iload_n (pc' := 30) d_M_place_29 rfl rfl rfl ?_
  refine AW.iconst (pc' := 31) (v := nI 1) d_M_place_30 rfl (by decide) ?_
  refine AW.iload_n (pc' := 32) d_M_place_31 rfl rfl rfl ?_
  refine AW.if_eq (tgt := 62) (pc' := 35) d_M_place_32 (by decide) rfl (fun h => absurd h (by decide)) (fun _ => ?_)
  refine AW.aload_n (pc' := 36) d_M_place_35 rfl rfl rfl ?_
  refine AW.getf (pc' := 39) d_M_place_36 rfl fl_M_19 rfl rfl ?_
  refine AW.iload_n (pc' := 40) d_M_place_39 rfl rfl rfl ?_
  refine AW.ialdN (pc' := 41) d_M_place_40 rfl rfl (by omega) (by decide) ?_
  refine AW.iload_n (pc' := 42) d_M_place_41 rfl rfl rfl ?_
  refine AW.icmp_eq (tgt := 62) (pc' := 45) d_M_place_42 (by decide) rfl (fun h42 => ?_) (fun h => absurd h1 h)
  refine AW.iconst (pc' := 63) (v := nI 0) d_M_place_62 rfl (by decide) ?_
  refine AW.iconst (pc' := 64) (v := nI 1) d_M_place_63 rfl (by decide) ?_
  refine AW.cV (pc' := 67) d_M_place_64 rfl cv_M_106 (by decide) rfl rfl rfl (k_goes_5_4 X z k o ((nI (1)))) rfl rfl rfl rfl rfl rfl rfl ?_
  refine AW.if_ne (tgt := 71) (pc' := 70) d_M_place_67 (by decide) rfl (fun h => absurd h (by decide)) (fun _ => ?_)
  exact AW.vret d_M_place_70 rfl rfl rfl ⟨rfl, rfl⟩
theorem k_place_5 (X : ct_X) (z : S_c) (k : S_m) (o : Nat → Int64) (u : Nat) (hu : u < k_nu k) (hnu : k_nu k ≤ 20) (s : Nat) (hs : s < k_ns k) (hn : k_ns k ≤ 20) (h1 : ¬ k_uin k u = nI s) (h2 : ¬ k_jnd k s = 0) : AF X m_M_place 3 0 0 [.ref 20, .int (nI (u)), .int (nI (s))] (wL z k o) (.inl none) (wL z (k_thr_ k (nI 2)) o) := by
  refine AM.of rfl (Nat.le_of_ble_eq_true rfl) (ls := [some (.ref 20), some (.int (nI (u))), some (.int (nI (s))), none]) rfl ?_
  refine AW.aload_n (pc' := 1) d_M_place_0 rfl rfl rfl ?_
  refine AW.iload_n (pc' := 2) d_M_place_1 rfl rfl rfl ?_
  refine AW.cV (pc' := 5) d_M_place_2 rfl cv_M_119 (by decide) rfl rfl rfl (k_isUnit_t X z k o u hu (by omega)) rfl rfl rfl rfl rfl rfl rfl ?_
  refine AW.if_eq (tgt := 25) (pc' := 8) d_M_place_5 (by decide) rfl (fun h => absurd h (by decide)) (fun _ => ?_)
  refine AW.iload_n (pc' := 9) d_M_place_8 rfl rfl rfl ?_
  refine AW.iconst (pc' := 10) (v := (-1)) d_M_place_9 rfl (by decide) ?_
  refine AW.icmp_eq (tgt := 21) (pc' := 13) d_M_place_10 (by decide) rfl (fun h => absurd h (oI_ne (by omega))) (fun h10 => ?_)
  refine AW.aload_n (pc' := 14) d_M_place_13 rfl rfl rfl ?_
  refine AW.iload_n (pc' := 15) d_M_place_14 rfl rfl rfl ?_
  refine AW.cV (pc' := 18) d_M_place_15 rfl cv_M_82 (by decide) rfl rfl rfl (k_isSector_t X z k o s hs (by omega)) rfl rfl rfl rfl rfl rfl rfl ?_
  refine AW.if_eq (tgt := 25) (pc' := 21) d_M_place_18 (by decide) rfl (fun h => absurd h (by decide)) (fun _ => ?_)
  refine AW.iconst (pc' := 22) (v := nI 1) d_M_place_21 rfl (by decide) ?_
  refine AW.goto (tgt := 26) d_M_place_22 (by decide) ?_
  refine AW.istore_n (pc' := 27) (ls' := [some (.ref 20), some (.int (nI (u))), some (.int (nI (s))), some (.int (nI (1)))]) d_M_place_26 rfl rfl rfl rfl ?_
  refine AW.aload_n (pc' := 28) d_M_place_27 rfl rfl rfl ?_
  refine AW.iconst (pc' := 29) (v := nI 5) d_M_place_28 rfl (by decide) ?_
  refine AW.iload_n (pc' := 30) d_M_place_29 rfl rfl rfl ?_
  refine AW.iconst (pc' := 31) (v := nI 1) d_M_place_30 rfl (by decide) ?_
  refine AW.iload_n (pc' := 32) d_M_place_31 rfl rfl rfl ?_
  refine AW.if_eq (tgt := 62) (pc' := 35) d_M_place_32 (by decide) rfl (fun h => absurd h (by decide)) (fun _ => ?_)
  refine AW.aload_n (pc' := 36) d_M_place_35 rfl rfl rfl ?_
  refine AW.getf (pc' := 39) d_M_place_36 rfl fl_M_19 rfl rfl ?_
  refine AW.iload_n (pc' := 40) d_M_place_39 rfl rfl rfl ?_
  refine AW.ialdN (pc' := 41) d_M_place_40 rfl rfl (by omega) (by decide) ?_
  refine AW.iload_n (pc' := 42) d_M_place_41 rfl rfl rfl ?_
  refine AW.icmp_eq (tgt := 62) (pc' := 45) d_M_place_42 (by decide) rfl (fun h => absurd h h1) (fun h42 => ?_)
  refine AW.iload_n (pc' := 46) d_M_place_45 rfl rfl rfl ?_
  refine AW.iconst (pc' := 47) (v := (-1)) d_M_place_46 rfl (by decide) ?_
  refine AW.icmp_eq (tgt := 58) (pc' := 50) d_M_place_47 (by decide) rfl (fun h => absurd h (oI_ne (by omega))) (fun h47 => ?_)
  refine AW.aload_n (pc' := 51) d_M_place_50 rfl rfl rfl ?_
  refine AW.iload_n (pc' := 52) d_M_place_51 rfl rfl rfl ?_
  refine AW.cV (pc' := 55) d_M_place_52 rfl cv_M_116 (by decide) rfl rfl rfl (k_isOpen_f X z k o s hs hn h2) rfl rfl rfl rfl rfl rfl rfl ?_
  refine AW.if_eq (tgt := 62) (pc' := 58) d_M_place_55 (by decide) rfl (fun _ => ?_) (fun h => absurd h (by decide))
  refine AW.iconst (pc' := 63) (v := nI 0) d_M_place_62 rfl (by decide) ?_
  refine AW.iconst (pc' := 64) (v := nI 1) d_M_place_63 rfl (by decide) ?_
  refine AW.cV (pc' := 67) d_M_place_64 rfl cv_M_106 (by decide) rfl rfl rfl (k_goes_5_4 X z k o ((nI (1)))) rfl rfl rfl rfl rfl rfl rfl ?_
  refine AW.if_ne (tgt := 71) (pc' := 70) d_M_place_67 (by decide) rfl (fun h => absurd h (by decide)) (fun _ => ?_)
  exact AW.vret d_M_place_70 rfl rfl rfl ⟨rfl, rfl⟩
theorem k_place_6 (X : ct_X) (z : S_c) (k : S_m) (o : Nat → Int64) (u : Nat) (hu : u < k_nu k) (hnu : k_nu k ≤ 20) (s : Nat) (hs : s < k_ns k) (hn : k_ns k ≤ 20) (h1 : ¬ k_uin k u = nI s) (h2 : k_jnd k s = 0) : AF X m_M_place 3 0 0 [.ref 20, .int (nI (u)), .int (nI (s))] (wL z k o) (.inl none) (wL z (k_uin_ (k_thr_ k (nI 0)) (upd (k_uin k) u (nI s))) o) := by
  refine AM.of rfl (Nat.le_of_ble_eq_true rfl) (ls := [some (.ref 20), some (.int (nI (u))), some (.int (nI (s))), none]) rfl ?_
  refine AW.aload_n (pc' := 1) d_M_place_0 rfl rfl rfl ?_
  refine AW.iload_n (pc' := 2) d_M_place_1 rfl rfl rfl ?_
  refine AW.cV (pc' := 5) d_M_place_2 rfl cv_M_119 (by decide) rfl rfl rfl (k_isUnit_t X z k o u hu (by omega)) rfl rfl rfl rfl rfl rfl rfl ?_
  refine AW.if_eq (tgt := 25) (pc' := 8) d_M_place_5 (by decide) rfl (fun h => absurd h (by decide)) (fun _ => ?_)
  refine AW.iload_n (pc' := 9) d_M_place_8 rfl rfl rfl ?_
  refine AW.iconst (pc' := 10) (v := (-1)) d_M_place_9 rfl (by decide) ?_
  refine AW.icmp_eq (tgt := 21) (pc' := 13) d_M_place_10 (by decide) rfl (fun h => absurd h (oI_ne (by omega))) (fun h10 => ?_)
  refine AW.aload_n (pc' := 14) d_M_place_13 rfl rfl rfl ?_
  refine AW.iload_n (pc' := 15) d_M_place_14 rfl rfl rfl ?_
  refine AW.cV (pc' := 18) d_M_place_15 rfl cv_M_82 (by decide) rfl rfl rfl (k_isSector_t X z k o s hs (by omega)) rfl rfl rfl rfl rfl rfl rfl ?_
  refine AW.if_eq (tgt := 25) (pc' := 21) d_M_place_18 (by decide) rfl (fun h => absurd h (by decide)) (fun _ => ?_)
  refine AW.iconst (pc' := 22) (v := nI 1) d_M_place_21 rfl (by decide) ?_
  refine AW.goto (tgt := 26) d_M_place_22 (by decide) ?_
  refine AW.istore_n (pc' := 27) (ls' := [some (.ref 20), some (.int (nI (u))), some (.int (nI (s))), some (.int (nI (1)))]) d_M_place_26 rfl rfl rfl rfl ?_
  refine AW.aload_n (pc' := 28) d_M_place_27 rfl rfl rfl ?_
  refine AW.iconst (pc' := 29) (v := nI 5) d_M_place_28 rfl (by decide) ?_
  refine AW.iload_n (pc' := 30) d_M_place_29 rfl rfl rfl ?_
  refine AW.iconst (pc' := 31) (v := nI 1) d_M_place_30 rfl (by decide) ?_
  refine AW.iload_n (pc' := 32) d_M_place_31 rfl rfl rfl ?_
  refine AW.if_eq (tgt := 62) (pc' := 35) d_M_place_32 (by decide) rfl (fun h => absurd h (by decide)) (fun _ => ?_)
  refine AW.aload_n (pc' := 36) d_M_place_35 rfl rfl rfl ?_
  refine AW.getf (pc' := 39) d_M_place_36 rfl fl_M_19 rfl rfl ?_
  refine AW.iload_n (pc' := 40) d_M_place_39 rfl rfl rfl ?_
  refine AW.ialdN (pc' := 41) d_M_place_40 rfl rfl (by omega) (by decide) ?_
  refine AW.iload_n (pc' := 42) d_M_place_41 rfl rfl rfl ?_
  refine AW.icmp_eq (tgt := 62) (pc' := 45) d_M_place_42 (by decide) rfl (fun h => absurd h h1) (fun h42 => ?_)
  refine AW.iload_n (pc' := 46) d_M_place_45 rfl rfl rfl ?_
  refine AW.iconst (pc' := 47) (v := (-1)) d_M_place_46 rfl (by decide) ?_
  refine AW.icmp_eq (tgt := 58) (pc' := 50) d_M_place_47 (by decide) rfl (fun h => absurd h (oI_ne (by omega))) (fun h47 => ?_)
  refine AW.aload_n (pc' := 51) d_M_place_50 rfl rfl rfl ?_
  refine AW.iload_n (pc' := 52) d_M_place_51 rfl rfl rfl ?_
  refine AW.cV (pc' := 55) d_M_place_52 rfl cv_M_116 (by decide) rfl rfl rfl (k_isOpen_t X z k o s hs hn h2) rfl rfl rfl rfl rfl rfl rfl ?_
  refine AW.if_eq (tgt := 62) (pc' := 58) d_M_place_55 (by decide) rfl (fun h => absurd h (by decide)) (fun _ => ?_)
  refine AW.iconst (pc' := 59) (v := nI 1) d_M_place_58 rfl (by decide) ?_
  refine AW.goto (tgt := 63) d_M_place_59 (by decide) ?_
  refine AW.iconst (pc' := 64) (v := nI 1) d_M_place_63 rfl (by decide) ?_
  refine AW.cV (pc' := 67) d_M_place_64 rfl cv_M_106 (by decide) rfl rfl rfl (k_goes_5_0 X z k o ) rfl rfl rfl rfl rfl rfl rfl ?_
  refine AW.if_ne (tgt := 71) (pc' := 70) d_M_place_67 (by decide) rfl (fun _ => ?_) (fun h => absurd h (by decide))
  refine AW.aload_n (pc' := 72) d_M_place_71 rfl rfl rfl ?_
  refine AW.getf (pc' := 75) d_M_place_72 rfl fl_M_19 rfl rfl ?_
  refine AW.iload_n (pc' := 76) d_M_place_75 rfl rfl rfl ?_
  refine AW.iload_n (pc' := 77) d_M_place_76 rfl rfl rfl ?_
  refine AW.iastN (pc' := 78) (w' := (wL z (k_uin_ ((k_thr_ k (nI 0))) (upd (k_uin ((k_thr_ k (nI 0)))) u (nI (s)))) o)) d_M_place_77 rfl rfl (by omega) (by decide) rfl ?_
  exact AW.vret d_M_place_78 rfl rfl rfl ⟨rfl, rfl⟩
theorem k_split_0 (X : ct_X) (z : S_c) (k : S_m) (o : Nat → Int64) (x : Int32) (hx : x < 0 ∨ nI (k_ns k) ≤ x) (hn : k_ns k ≤ 20) : AF X m_M_split 3 0 0 [.ref 20, .int (x)] (wL z k o) (.inl (some (.int (nI 0)))) (wL z (k_thr_ k (nI 1)) o) := by
  refine AM.of rfl (Nat.le_of_ble_eq_true rfl) (ls := [some (.ref 20), some (.int (x))]) rfl ?_
  refine AW.aload_n (pc' := 1) d_M_split_0 rfl rfl rfl ?_
  refine AW.bipush (pc' := 3) (v := nI 13) d_M_split_1 rfl (by decide) ?_
  refine AW.aload_n (pc' := 4) d_M_split_3 rfl rfl rfl ?_
  refine AW.iload_n (pc' := 5) d_M_split_4 rfl rfl rfl ?_
  refine AW.cV (pc' := 8) d_M_split_5 rfl cv_M_82 (by decide) rfl rfl rfl (k_isSector_f X z k o x hx (by omega)) rfl rfl rfl rfl rfl rfl rfl ?_
  refine AW.iconst (pc' := 9) (v := nI 1) d_M_split_8 rfl (by decide) ?_
  refine AW.aload_n (pc' := 10) d_M_split_9 rfl rfl rfl ?_
  refine AW.iload_n (pc' := 11) d_M_split_10 rfl rfl rfl ?_
  refine AW.cV (pc' := 14) d_M_split_11 rfl cv_M_116 (by decide) rfl rfl rfl (k_isOpen_x X z k o x hx hn) rfl rfl rfl rfl rfl rfl rfl ?_
  refine AW.aload_n (pc' := 15) d_M_split_14 rfl rfl rfl ?_
  refine AW.getf (pc' := 18) d_M_split_15 rfl fl_M_22 rfl rfl ?_
  refine AW.bipush (pc' := 20) (v := nI 20) d_M_split_18 rfl (by decide) ?_
  refine AW.icmp_geN (tgt := 27) (pc' := 23) d_M_split_20 (by decide) rfl (by omega) (by omega) (fun h20 => ?_) (fun h20 => ?_)
  · refine AW.iconst (pc' := 28) (v := nI 0) d_M_split_27 rfl (by decide) ?_
    refine AW.cV (pc' := 31) d_M_split_28 rfl cv_M_106 (by decide) rfl rfl rfl (k_goes_13_1 X z k o ((nI (1))) ((nI (0))) ((nI (0)))) rfl rfl rfl rfl rfl rfl rfl ?_
    refine AW.if_ne (tgt := 36) (pc' := 34) d_M_split_31 (by decide) rfl (fun h => absurd h (by decide)) (fun _ => ?_)
    refine AW.iconst (pc' := 35) (v := nI 0) d_M_split_34 rfl (by decide) ?_
    exact AW.iret d_M_split_35 rfl rfl rfl ⟨rfl, rfl⟩
  · refine AW.iconst (pc' := 24) (v := nI 1) d_M_split_23 rfl (by decide) ?_
    refine AW.goto (tgt := 28) d_M_split_24 (by decide) ?_
    refine AW.cV (pc' := 31) d_M_split_28 rfl cv_M_106 (by decide) rfl rfl rfl (k_goes_13_1 X z k o ((nI (1))) ((nI (0))) ((nI (1)))) rfl rfl rfl rfl rfl rfl rfl ?_
    refine AW.if_ne (tgt := 36) (pc' := 34) d_M_split_31 (by decide) rfl (fun h => absurd h (by decide)) (fun _ => ?_)
    refine AW.iconst (pc' := 35) (v := nI 0) d_M_split_34 rfl (by decide) ?_
    exact AW.iret d_M_split_35 rfl rfl rfl ⟨rfl, rfl⟩
theorem k_split_1 (X : ct_X) (z : S_c) (k : S_m) (o : Nat → Int64) (s : Nat) (hs : s < k_ns k) (hn : k_ns k ≤ 20) (h1 : ¬ k_jnd k s = 0) : AF X m_M_split 3 0 0 [.ref 20, .int (nI (s))] (wL z k o) (.inl (some (.int (nI 0)))) (wL z (k_thr_ k (nI 2)) o) := by
  refine AM.of rfl (Nat.le_of_ble_eq_true rfl) (ls := [some (.ref 20), some (.int (nI (s)))]) rfl ?_
  refine AW.aload_n (pc' := 1) d_M_split_0 rfl rfl rfl ?_
  refine AW.bipush (pc' := 3) (v := nI 13) d_M_split_1 rfl (by decide) ?_
  refine AW.aload_n (pc' := 4) d_M_split_3 rfl rfl rfl ?_
  refine AW.iload_n (pc' := 5) d_M_split_4 rfl rfl rfl ?_
  refine AW.cV (pc' := 8) d_M_split_5 rfl cv_M_82 (by decide) rfl rfl rfl (k_isSector_t X z k o s hs (by omega)) rfl rfl rfl rfl rfl rfl rfl ?_
  refine AW.iconst (pc' := 9) (v := nI 1) d_M_split_8 rfl (by decide) ?_
  refine AW.aload_n (pc' := 10) d_M_split_9 rfl rfl rfl ?_
  refine AW.iload_n (pc' := 11) d_M_split_10 rfl rfl rfl ?_
  refine AW.cV (pc' := 14) d_M_split_11 rfl cv_M_116 (by decide) rfl rfl rfl (k_isOpen_f X z k o s hs hn h1) rfl rfl rfl rfl rfl rfl rfl ?_
  refine AW.aload_n (pc' := 15) d_M_split_14 rfl rfl rfl ?_
  refine AW.getf (pc' := 18) d_M_split_15 rfl fl_M_22 rfl rfl ?_
  refine AW.bipush (pc' := 20) (v := nI 20) d_M_split_18 rfl (by decide) ?_
  refine AW.icmp_geN (tgt := 27) (pc' := 23) d_M_split_20 (by decide) rfl (by omega) (by omega) (fun h20 => ?_) (fun h20 => ?_)
  · refine AW.iconst (pc' := 28) (v := nI 0) d_M_split_27 rfl (by decide) ?_
    refine AW.cV (pc' := 31) d_M_split_28 rfl cv_M_106 (by decide) rfl rfl rfl (k_goes_13_4 X z k o ((nI (0)))) rfl rfl rfl rfl rfl rfl rfl ?_
    refine AW.if_ne (tgt := 36) (pc' := 34) d_M_split_31 (by decide) rfl (fun h => absurd h (by decide)) (fun _ => ?_)
    refine AW.iconst (pc' := 35) (v := nI 0) d_M_split_34 rfl (by decide) ?_
    exact AW.iret d_M_split_35 rfl rfl rfl ⟨rfl, rfl⟩
  · refine AW.iconst (pc' := 24) (v := nI 1) d_M_split_23 rfl (by decide) ?_
    refine AW.goto (tgt := 28) d_M_split_24 (by decide) ?_
    refine AW.cV (pc' := 31) d_M_split_28 rfl cv_M_106 (by decide) rfl rfl rfl (k_goes_13_4 X z k o ((nI (1)))) rfl rfl rfl rfl rfl rfl rfl ?_
    refine AW.if_ne (tgt := 36) (pc' := 34) d_M_split_31 (by decide) rfl (fun h => absurd h (by decide)) (fun _ => ?_)
    refine AW.iconst (pc' := 35) (v := nI 0) d_M_split_34 rfl (by decide) ?_
    exact AW.iret d_M_split_35 rfl rfl rfl ⟨rfl, rfl⟩
theorem k_split_2 (X : ct_X) (z : S_c) (k : S_m) (o : Nat → Int64) (s : Nat) (hs : s < k_ns k) (hn : k_ns k ≤ 20) (h1 : k_jnd k s = 0) (hq : k_ns k = 20) : AF X m_M_split 3 0 0 [.ref 20, .int (nI (s))] (wL z k o) (.inl (some (.int (nI 0)))) (wL z (k_thr_ k (nI 3)) o) := by
  refine AM.of rfl (Nat.le_of_ble_eq_true rfl) (ls := [some (.ref 20), some (.int (nI (s)))]) rfl ?_
  refine AW.aload_n (pc' := 1) d_M_split_0 rfl rfl rfl ?_
  refine AW.bipush (pc' := 3) (v := nI 13) d_M_split_1 rfl (by decide) ?_
  refine AW.aload_n (pc' := 4) d_M_split_3 rfl rfl rfl ?_
  refine AW.iload_n (pc' := 5) d_M_split_4 rfl rfl rfl ?_
  refine AW.cV (pc' := 8) d_M_split_5 rfl cv_M_82 (by decide) rfl rfl rfl (k_isSector_t X z k o s hs (by omega)) rfl rfl rfl rfl rfl rfl rfl ?_
  refine AW.iconst (pc' := 9) (v := nI 1) d_M_split_8 rfl (by decide) ?_
  refine AW.aload_n (pc' := 10) d_M_split_9 rfl rfl rfl ?_
  refine AW.iload_n (pc' := 11) d_M_split_10 rfl rfl rfl ?_
  refine AW.cV (pc' := 14) d_M_split_11 rfl cv_M_116 (by decide) rfl rfl rfl (k_isOpen_t X z k o s hs hn h1) rfl rfl rfl rfl rfl rfl rfl ?_
  refine AW.aload_n (pc' := 15) d_M_split_14 rfl rfl rfl ?_
  refine AW.getf (pc' := 18) d_M_split_15 rfl fl_M_22 rfl rfl ?_
  refine AW.bipush (pc' := 20) (v := nI 20) d_M_split_18 rfl (by decide) ?_
  refine AW.icmp_geN (tgt := 27) (pc' := 23) d_M_split_20 (by decide) rfl (by omega) (by omega) (fun h20 => ?_) (fun h => absurd h (by omega))
  refine AW.iconst (pc' := 28) (v := nI 0) d_M_split_27 rfl (by decide) ?_
  refine AW.cV (pc' := 31) d_M_split_28 rfl cv_M_106 (by decide) rfl rfl rfl (k_goes_13_8 X z k o ) rfl rfl rfl rfl rfl rfl rfl ?_
  refine AW.if_ne (tgt := 36) (pc' := 34) d_M_split_31 (by decide) rfl (fun h => absurd h (by decide)) (fun _ => ?_)
  refine AW.iconst (pc' := 35) (v := nI 0) d_M_split_34 rfl (by decide) ?_
  exact AW.iret d_M_split_35 rfl rfl rfl ⟨rfl, rfl⟩
theorem k_split_3 (X : ct_X) (z : S_c) (k : S_m) (o : Nat → Int64) (s : Nat) (hs : s < k_ns k) (hn : k_ns k ≤ 20) (h1 : k_jnd k s = 0) (hq : k_ns k < 20) : AF X m_M_split 3 0 0 [.ref 20, .int (nI (s))] (wL z k o) (.inl (some (.int (nI (k_ns k))))) (wL z (k_ns_ (k_abv_ (k_thr_ k (nI 0)) (upd (k_abv k) (k_ns k) (nI s))) (k_ns k + 1)) o) := by
  refine AM.of rfl (Nat.le_of_ble_eq_true rfl) (ls := [some (.ref 20), some (.int (nI (s)))]) rfl ?_
  refine AW.aload_n (pc' := 1) d_M_split_0 rfl rfl rfl ?_
  refine AW.bipush (pc' := 3) (v := nI 13) d_M_split_1 rfl (by decide) ?_
  refine AW.aload_n (pc' := 4) d_M_split_3 rfl rfl rfl ?_
  refine AW.iload_n (pc' := 5) d_M_split_4 rfl rfl rfl ?_
  refine AW.cV (pc' := 8) d_M_split_5 rfl cv_M_82 (by decide) rfl rfl rfl (k_isSector_t X z k o s hs (by omega)) rfl rfl rfl rfl rfl rfl rfl ?_
  refine AW.iconst (pc' := 9) (v := nI 1) d_M_split_8 rfl (by decide) ?_
  refine AW.aload_n (pc' := 10) d_M_split_9 rfl rfl rfl ?_
  refine AW.iload_n (pc' := 11) d_M_split_10 rfl rfl rfl ?_
  refine AW.cV (pc' := 14) d_M_split_11 rfl cv_M_116 (by decide) rfl rfl rfl (k_isOpen_t X z k o s hs hn h1) rfl rfl rfl rfl rfl rfl rfl ?_
  refine AW.aload_n (pc' := 15) d_M_split_14 rfl rfl rfl ?_
  refine AW.getf (pc' := 18) d_M_split_15 rfl fl_M_22 rfl rfl ?_
  refine AW.bipush (pc' := 20) (v := nI 20) d_M_split_18 rfl (by decide) ?_
  refine AW.icmp_geN (tgt := 27) (pc' := 23) d_M_split_20 (by decide) rfl (by omega) (by omega) (fun h => absurd h (by omega)) (fun h20 => ?_)
  refine AW.iconst (pc' := 24) (v := nI 1) d_M_split_23 rfl (by decide) ?_
  refine AW.goto (tgt := 28) d_M_split_24 (by decide) ?_
  refine AW.cV (pc' := 31) d_M_split_28 rfl cv_M_106 (by decide) rfl rfl rfl (k_goes_13_0 X z k o ) rfl rfl rfl rfl rfl rfl rfl ?_
  refine AW.if_ne (tgt := 36) (pc' := 34) d_M_split_31 (by decide) rfl (fun _ => ?_) (fun h => absurd h (by decide))
  refine AW.aload_n (pc' := 37) d_M_split_36 rfl rfl rfl ?_
  refine AW.getf (pc' := 40) d_M_split_37 rfl fl_M_30 rfl rfl ?_
  refine AW.aload_n (pc' := 41) d_M_split_40 rfl rfl rfl ?_
  refine AW.getf (pc' := 44) d_M_split_41 rfl fl_M_22 rfl rfl ?_
  refine AW.iload_n (pc' := 45) d_M_split_44 rfl rfl rfl ?_
  refine AW.iastN (pc' := 46) (w' := (wL z (k_abv_ ((k_thr_ k (nI 0))) (upd (k_abv ((k_thr_ k (nI 0)))) (k_ns ((k_thr_ k (nI 0)))) (nI (s)))) o)) d_M_split_45 rfl rfl hq (by decide) rfl ?_
  refine AW.aload_n (pc' := 47) d_M_split_46 rfl rfl rfl ?_
  refine AW.dup (pc' := 48) d_M_split_47 rfl rfl ?_
  refine AW.getf (pc' := 51) d_M_split_48 rfl fl_M_22 rfl rfl ?_
  refine AW.top (u := .int (nI (k_ns ((k_thr_ k (nI 0)))))) rfl ?_
  refine AW.iconst (pc' := 52) (v := nI 1) d_M_split_51 rfl (by decide) ?_
  refine AW.iaddN (pc' := 53) d_M_split_52 rfl ?_
  refine AW.putf (pc' := 56) (w' := (wL z (k_ns_ (k_abv_ ((k_thr_ k (nI 0))) (upd (k_abv ((k_thr_ k (nI 0)))) (k_ns ((k_thr_ k (nI 0)))) (nI (s)))) ((k_ns ((k_thr_ k (nI 0)))) + 1)) o)) d_M_split_53 rfl fp_M_22 rfl rfl (fun _ => ⟨rfl, rfl⟩) rfl rfl ?_
  refine AW.aload_n (pc' := 57) d_M_split_56 rfl rfl rfl ?_
  refine AW.getf (pc' := 60) d_M_split_57 rfl fl_M_22 rfl rfl ?_
  refine AW.top (u := .int (nI ((k_ns ((k_thr_ k (nI 0)))) + 1))) rfl ?_
  refine AW.iconst (pc' := 61) (v := nI 1) d_M_split_60 rfl (by decide) ?_
  refine AW.isubN (pc' := 62) d_M_split_61 rfl (by omega) ?_
  exact AW.iret d_M_split_62 rfl rfl rfl ⟨by rfl, rfl⟩
theorem k_offer_0 (X : ct_X) (z : S_c) (k : S_m) (o : Nat → Int64) (x : Int32) (hx : x < 0 ∨ nI (k_ns k) ≤ x) (hn : k_ns k ≤ 20) (y : Int32) : AF X m_M_offer 3 0 0 [.ref 20, .int (x), .int (y)] (wL z k o) (.inl none) (wL z (k_thr_ k (nI 1)) o) := by
  refine AM.of rfl (Nat.le_of_ble_eq_true rfl) (ls := [some (.ref 20), some (.int (x)), some (.int (y)), none]) rfl ?_
  refine AW.aload_n (pc' := 1) d_M_offer_0 rfl rfl rfl ?_
  refine AW.iload_n (pc' := 2) d_M_offer_1 rfl rfl rfl ?_
  refine AW.cV (pc' := 5) d_M_offer_2 rfl cv_M_82 (by decide) rfl rfl rfl (k_isSector_f X z k o x hx (by omega)) rfl rfl rfl rfl rfl rfl rfl ?_
  refine AW.if_eq (tgt := 20) (pc' := 8) d_M_offer_5 (by decide) rfl (fun _ => ?_) (fun h => absurd h (by decide))
  refine AW.iconst (pc' := 21) (v := nI 0) d_M_offer_20 rfl (by decide) ?_
  refine AW.istore_n (pc' := 22) (ls' := [some (.ref 20), some (.int (x)), some (.int (y)), some (.int (nI (0)))]) d_M_offer_21 rfl rfl rfl rfl ?_
  refine AW.aload_n (pc' := 23) d_M_offer_22 rfl rfl rfl ?_
  refine AW.iconst (pc' := 24) (v := nI 5) d_M_offer_23 rfl (by decide) ?_
  refine AW.iload_n (pc' := 25) d_M_offer_24 rfl rfl rfl ?_
  refine AW.iconst (pc' := 26) (v := nI 1) d_M_offer_25 rfl (by decide) ?_
  refine AW.iload_n (pc' := 27) d_M_offer_26 rfl rfl rfl ?_
  refine AW.if_eq (tgt := 68) (pc' := 30) d_M_offer_27 (by decide) rfl (fun _ => ?_) (fun h => absurd h (by decide))
  refine AW.iconst (pc' := 69) (v := nI 0) d_M_offer_68 rfl (by decide) ?_
  refine AW.iconst (pc' := 70) (v := nI 1) d_M_offer_69 rfl (by decide) ?_
  refine AW.cV (pc' := 73) d_M_offer_70 rfl cv_M_106 (by decide) rfl rfl rfl (k_goes_5_1 X z k o ((nI (1))) ((nI (0))) ((nI (1)))) rfl rfl rfl rfl rfl rfl rfl ?_
  refine AW.if_ne (tgt := 77) (pc' := 76) d_M_offer_73 (by decide) rfl (fun h => absurd h (by decide)) (fun _ => ?_)
  exact AW.vret d_M_offer_76 rfl rfl rfl ⟨rfl, rfl⟩
theorem k_offer_1 (X : ct_X) (z : S_c) (k : S_m) (o : Nat → Int64) (s : Nat) (hs : s < k_ns k) (hn : k_ns k ≤ 20) (x : Int32) (hx : x < 0 ∨ nI (k_np k) ≤ x) (hnp : k_np k ≤ 40) : AF X m_M_offer 3 0 0 [.ref 20, .int (nI (s)), .int (x)] (wL z k o) (.inl none) (wL z (k_thr_ k (nI 1)) o) := by
  refine AM.of rfl (Nat.le_of_ble_eq_true rfl) (ls := [some (.ref 20), some (.int (nI (s))), some (.int (x)), none]) rfl ?_
  refine AW.aload_n (pc' := 1) d_M_offer_0 rfl rfl rfl ?_
  refine AW.iload_n (pc' := 2) d_M_offer_1 rfl rfl rfl ?_
  refine AW.cV (pc' := 5) d_M_offer_2 rfl cv_M_82 (by decide) rfl rfl rfl (k_isSector_t X z k o s hs (by omega)) rfl rfl rfl rfl rfl rfl rfl ?_
  refine AW.if_eq (tgt := 20) (pc' := 8) d_M_offer_5 (by decide) rfl (fun h => absurd h (by decide)) (fun _ => ?_)
  refine AW.aload_n (pc' := 9) d_M_offer_8 rfl rfl rfl ?_
  refine AW.iload_n (pc' := 10) d_M_offer_9 rfl rfl rfl ?_
  refine AW.cV (pc' := 13) d_M_offer_10 rfl cv_M_110 (by decide) rfl rfl rfl (k_isPerson_f X z k o x hx (by omega)) rfl rfl rfl rfl rfl rfl rfl ?_
  refine AW.if_eq (tgt := 20) (pc' := 16) d_M_offer_13 (by decide) rfl (fun _ => ?_) (fun h => absurd h (by decide))
  refine AW.iconst (pc' := 21) (v := nI 0) d_M_offer_20 rfl (by decide) ?_
  refine AW.istore_n (pc' := 22) (ls' := [some (.ref 20), some (.int (nI (s))), some (.int (x)), some (.int (nI (0)))]) d_M_offer_21 rfl rfl rfl rfl ?_
  refine AW.aload_n (pc' := 23) d_M_offer_22 rfl rfl rfl ?_
  refine AW.iconst (pc' := 24) (v := nI 5) d_M_offer_23 rfl (by decide) ?_
  refine AW.iload_n (pc' := 25) d_M_offer_24 rfl rfl rfl ?_
  refine AW.iconst (pc' := 26) (v := nI 1) d_M_offer_25 rfl (by decide) ?_
  refine AW.iload_n (pc' := 27) d_M_offer_26 rfl rfl rfl ?_
  refine AW.if_eq (tgt := 68) (pc' := 30) d_M_offer_27 (by decide) rfl (fun _ => ?_) (fun h => absurd h (by decide))
  refine AW.iconst (pc' := 69) (v := nI 0) d_M_offer_68 rfl (by decide) ?_
  refine AW.iconst (pc' := 70) (v := nI 1) d_M_offer_69 rfl (by decide) ?_
  refine AW.cV (pc' := 73) d_M_offer_70 rfl cv_M_106 (by decide) rfl rfl rfl (k_goes_5_1 X z k o ((nI (1))) ((nI (0))) ((nI (1)))) rfl rfl rfl rfl rfl rfl rfl ?_
  refine AW.if_ne (tgt := 77) (pc' := 76) d_M_offer_73 (by decide) rfl (fun h => absurd h (by decide)) (fun _ => ?_)
  exact AW.vret d_M_offer_76 rfl rfl rfl ⟨rfl, rfl⟩
theorem k_offer_2 (X : ct_X) (z : S_c) (k : S_m) (o : Nat → Int64) (s : Nat) (hs : s < k_ns k) (hn : k_ns k ≤ 20) (p : Nat) (hj : p < k_np k) (hnp : k_np k ≤ 40) (h1 : ¬ k_jnd k s = 0) : AF X m_M_offer 3 0 0 [.ref 20, .int (nI (s)), .int (nI (p))] (wL z k o) (.inl none) (wL z (k_thr_ k (nI 2)) o) := by
  refine AM.of rfl (Nat.le_of_ble_eq_true rfl) (ls := [some (.ref 20), some (.int (nI (s))), some (.int (nI (p))), none]) rfl ?_
  refine AW.aload_n (pc' := 1) d_M_offer_0 rfl rfl rfl ?_
  refine AW.iload_n (pc' := 2) d_M_offer_1 rfl rfl rfl ?_
  refine AW.cV (pc' := 5) d_M_offer_2 rfl cv_M_82 (by decide) rfl rfl rfl (k_isSector_t X z k o s hs (by omega)) rfl rfl rfl rfl rfl rfl rfl ?_
  refine AW.if_eq (tgt := 20) (pc' := 8) d_M_offer_5 (by decide) rfl (fun h => absurd h (by decide)) (fun _ => ?_)
  refine AW.aload_n (pc' := 9) d_M_offer_8 rfl rfl rfl ?_
  refine AW.iload_n (pc' := 10) d_M_offer_9 rfl rfl rfl ?_
  refine AW.cV (pc' := 13) d_M_offer_10 rfl cv_M_110 (by decide) rfl rfl rfl (k_isPerson_t X z k o p hj (by omega)) rfl rfl rfl rfl rfl rfl rfl ?_
  refine AW.if_eq (tgt := 20) (pc' := 16) d_M_offer_13 (by decide) rfl (fun h => absurd h (by decide)) (fun _ => ?_)
  refine AW.iconst (pc' := 17) (v := nI 1) d_M_offer_16 rfl (by decide) ?_
  refine AW.goto (tgt := 21) d_M_offer_17 (by decide) ?_
  refine AW.istore_n (pc' := 22) (ls' := [some (.ref 20), some (.int (nI (s))), some (.int (nI (p))), some (.int (nI (1)))]) d_M_offer_21 rfl rfl rfl rfl ?_
  refine AW.aload_n (pc' := 23) d_M_offer_22 rfl rfl rfl ?_
  refine AW.iconst (pc' := 24) (v := nI 5) d_M_offer_23 rfl (by decide) ?_
  refine AW.iload_n (pc' := 25) d_M_offer_24 rfl rfl rfl ?_
  refine AW.iconst (pc' := 26) (v := nI 1) d_M_offer_25 rfl (by decide) ?_
  refine AW.iload_n (pc' := 27) d_M_offer_26 rfl rfl rfl ?_
  refine AW.if_eq (tgt := 68) (pc' := 30) d_M_offer_27 (by decide) rfl (fun h => absurd h (by decide)) (fun _ => ?_)
  refine AW.aload_n (pc' := 31) d_M_offer_30 rfl rfl rfl ?_
  refine AW.iload_n (pc' := 32) d_M_offer_31 rfl rfl rfl ?_
  refine AW.cV (pc' := 35) d_M_offer_32 rfl cv_M_116 (by decide) rfl rfl rfl (k_isOpen_f X z k o s hs hn h1) rfl rfl rfl rfl rfl rfl rfl ?_
  refine AW.if_eq (tgt := 68) (pc' := 38) d_M_offer_35 (by decide) rfl (fun _ => ?_) (fun h => absurd h (by decide))
  refine AW.iconst (pc' := 69) (v := nI 0) d_M_offer_68 rfl (by decide) ?_
  refine AW.iconst (pc' := 70) (v := nI 1) d_M_offer_69 rfl (by decide) ?_
  refine AW.cV (pc' := 73) d_M_offer_70 rfl cv_M_106 (by decide) rfl rfl rfl (k_goes_5_4 X z k o ((nI (1)))) rfl rfl rfl rfl rfl rfl rfl ?_
  refine AW.if_ne (tgt := 77) (pc' := 76) d_M_offer_73 (by decide) rfl (fun h => absurd h (by decide)) (fun _ => ?_)
  exact AW.vret d_M_offer_76 rfl rfl rfl ⟨rfl, rfl⟩
theorem k_offer_3 (X : ct_X) (z : S_c) (k : S_m) (o : Nat → Int64) (s : Nat) (hs : s < k_ns k) (hn : k_ns k ≤ 20) (p : Nat) (hj : p < k_np k) (hnp : k_np k ≤ 40) (h1 : k_jnd k s = 0) (h2 : k_ldr k s < 0) : AF X m_M_offer 3 0 0 [.ref 20, .int (nI (s)), .int (nI (p))] (wL z k o) (.inl none) (wL z (k_thr_ k (nI 2)) o) := by
  refine AM.of rfl (Nat.le_of_ble_eq_true rfl) (ls := [some (.ref 20), some (.int (nI (s))), some (.int (nI (p))), none]) rfl ?_
  refine AW.aload_n (pc' := 1) d_M_offer_0 rfl rfl rfl ?_
  refine AW.iload_n (pc' := 2) d_M_offer_1 rfl rfl rfl ?_
  refine AW.cV (pc' := 5) d_M_offer_2 rfl cv_M_82 (by decide) rfl rfl rfl (k_isSector_t X z k o s hs (by omega)) rfl rfl rfl rfl rfl rfl rfl ?_
  refine AW.if_eq (tgt := 20) (pc' := 8) d_M_offer_5 (by decide) rfl (fun h => absurd h (by decide)) (fun _ => ?_)
  refine AW.aload_n (pc' := 9) d_M_offer_8 rfl rfl rfl ?_
  refine AW.iload_n (pc' := 10) d_M_offer_9 rfl rfl rfl ?_
  refine AW.cV (pc' := 13) d_M_offer_10 rfl cv_M_110 (by decide) rfl rfl rfl (k_isPerson_t X z k o p hj (by omega)) rfl rfl rfl rfl rfl rfl rfl ?_
  refine AW.if_eq (tgt := 20) (pc' := 16) d_M_offer_13 (by decide) rfl (fun h => absurd h (by decide)) (fun _ => ?_)
  refine AW.iconst (pc' := 17) (v := nI 1) d_M_offer_16 rfl (by decide) ?_
  refine AW.goto (tgt := 21) d_M_offer_17 (by decide) ?_
  refine AW.istore_n (pc' := 22) (ls' := [some (.ref 20), some (.int (nI (s))), some (.int (nI (p))), some (.int (nI (1)))]) d_M_offer_21 rfl rfl rfl rfl ?_
  refine AW.aload_n (pc' := 23) d_M_offer_22 rfl rfl rfl ?_
  refine AW.iconst (pc' := 24) (v := nI 5) d_M_offer_23 rfl (by decide) ?_
  refine AW.iload_n (pc' := 25) d_M_offer_24 rfl rfl rfl ?_
  refine AW.iconst (pc' := 26) (v := nI 1) d_M_offer_25 rfl (by decide) ?_
  refine AW.iload_n (pc' := 27) d_M_offer_26 rfl rfl rfl ?_
  refine AW.if_eq (tgt := 68) (pc' := 30) d_M_offer_27 (by decide) rfl (fun h => absurd h (by decide)) (fun _ => ?_)
  refine AW.aload_n (pc' := 31) d_M_offer_30 rfl rfl rfl ?_
  refine AW.iload_n (pc' := 32) d_M_offer_31 rfl rfl rfl ?_
  refine AW.cV (pc' := 35) d_M_offer_32 rfl cv_M_116 (by decide) rfl rfl rfl (k_isOpen_t X z k o s hs hn h1) rfl rfl rfl rfl rfl rfl rfl ?_
  refine AW.if_eq (tgt := 68) (pc' := 38) d_M_offer_35 (by decide) rfl (fun h => absurd h (by decide)) (fun _ => ?_)
  refine AW.aload_n (pc' := 39) d_M_offer_38 rfl rfl rfl ?_
  refine AW.getf (pc' := 42) d_M_offer_39 rfl fl_M_33 rfl rfl ?_
  refine AW.iload_n (pc' := 43) d_M_offer_42 rfl rfl rfl ?_
  refine AW.ialdN (pc' := 44) d_M_offer_43 rfl rfl (by omega) (by decide) ?_
  refine AW.if_lt (tgt := 68) (pc' := 47) d_M_offer_44 (by decide) rfl (fun h44 => ?_) (fun h => absurd h2 h)
  refine AW.iconst (pc' := 69) (v := nI 0) d_M_offer_68 rfl (by decide) ?_
  refine AW.iconst (pc' := 70) (v := nI 1) d_M_offer_69 rfl (by decide) ?_
  refine AW.cV (pc' := 73) d_M_offer_70 rfl cv_M_106 (by decide) rfl rfl rfl (k_goes_5_4 X z k o ((nI (1)))) rfl rfl rfl rfl rfl rfl rfl ?_
  refine AW.if_ne (tgt := 77) (pc' := 76) d_M_offer_73 (by decide) rfl (fun h => absurd h (by decide)) (fun _ => ?_)
  exact AW.vret d_M_offer_76 rfl rfl rfl ⟨rfl, rfl⟩
theorem k_offer_4 (X : ct_X) (z : S_c) (k : S_m) (o : Nat → Int64) (s : Nat) (hs : s < k_ns k) (hn : k_ns k ≤ 20) (p : Nat) (hj : p < k_np k) (hnp : k_np k ≤ 40) (h1 : k_jnd k s = 0) (h2 : ¬ k_ldr k s < 0) (h3 : k_in k p < 0) : AF X m_M_offer 3 0 0 [.ref 20, .int (nI (s)), .int (nI (p))] (wL z k o) (.inl none) (wL z (k_thr_ k (nI 2)) o) := by
  refine AM.of rfl (Nat.le_of_ble_eq_true rfl) (ls := [some (.ref 20), some (.int (nI (s))), some (.int (nI (p))), none]) rfl ?_
  refine AW.aload_n (pc' := 1) d_M_offer_0 rfl rfl rfl ?_
  refine AW.iload_n (pc' := 2) d_M_offer_1 rfl rfl rfl ?_
  refine AW.cV (pc' := 5) d_M_offer_2 rfl cv_M_82 (by decide) rfl rfl rfl (k_isSector_t X z k o s hs (by omega)) rfl rfl rfl rfl rfl rfl rfl ?_
  refine AW.if_eq (tgt := 20) (pc' := 8) d_M_offer_5 (by decide) rfl (fun h => absurd h (by decide)) (fun _ => ?_)
  refine AW.aload_n (pc' := 9) d_M_offer_8 rfl rfl rfl ?_
  refine AW.iload_n (pc' := 10) d_M_offer_9 rfl rfl rfl ?_
  refine AW.cV (pc' := 13) d_M_offer_10 rfl cv_M_110 (by decide) rfl rfl rfl (k_isPerson_t X z k o p hj (by omega)) rfl rfl rfl rfl rfl rfl rfl ?_
  refine AW.if_eq (tgt := 20) (pc' := 16) d_M_offer_13 (by decide) rfl (fun h => absurd h (by decide)) (fun _ => ?_)
  refine AW.iconst (pc' := 17) (v := nI 1) d_M_offer_16 rfl (by decide) ?_
  refine AW.goto (tgt := 21) d_M_offer_17 (by decide) ?_
  refine AW.istore_n (pc' := 22) (ls' := [some (.ref 20), some (.int (nI (s))), some (.int (nI (p))), some (.int (nI (1)))]) d_M_offer_21 rfl rfl rfl rfl ?_
  refine AW.aload_n (pc' := 23) d_M_offer_22 rfl rfl rfl ?_
  refine AW.iconst (pc' := 24) (v := nI 5) d_M_offer_23 rfl (by decide) ?_
  refine AW.iload_n (pc' := 25) d_M_offer_24 rfl rfl rfl ?_
  refine AW.iconst (pc' := 26) (v := nI 1) d_M_offer_25 rfl (by decide) ?_
  refine AW.iload_n (pc' := 27) d_M_offer_26 rfl rfl rfl ?_
  refine AW.if_eq (tgt := 68) (pc' := 30) d_M_offer_27 (by decide) rfl (fun h => absurd h (by decide)) (fun _ => ?_)
  refine AW.aload_n (pc' := 31) d_M_offer_30 rfl rfl rfl ?_
  refine AW.iload_n (pc' := 32) d_M_offer_31 rfl rfl rfl ?_
  refine AW.cV (pc' := 35) d_M_offer_32 rfl cv_M_116 (by decide) rfl rfl rfl (k_isOpen_t X z k o s hs hn h1) rfl rfl rfl rfl rfl rfl rfl ?_
  refine AW.if_eq (tgt := 68) (pc' := 38) d_M_offer_35 (by decide) rfl (fun h => absurd h (by decide)) (fun _ => ?_)
  refine AW.aload_n (pc' := 39) d_M_offer_38 rfl rfl rfl ?_
  refine AW.getf (pc' := 42) d_M_offer_39 rfl fl_M_33 rfl rfl ?_
  refine AW.iload_n (pc' := 43) d_M_offer_42 rfl rfl rfl ?_
  refine AW.ialdN (pc' := 44) d_M_offer_43 rfl rfl (by omega) (by decide) ?_
  refine AW.if_lt (tgt := 68) (pc' := 47) d_M_offer_44 (by decide) rfl (fun h => absurd h h2) (fun h44 => ?_)
  refine AW.aload_n (pc' := 48) d_M_offer_47 rfl rfl rfl ?_
  refine AW.getf (pc' := 51) d_M_offer_48 rfl fl_M_13 rfl rfl ?_
  refine AW.iload_n (pc' := 52) d_M_offer_51 rfl rfl rfl ?_
  refine AW.ialdN (pc' := 53) d_M_offer_52 rfl rfl (by omega) (by decide) ?_
  refine AW.if_lt (tgt := 68) (pc' := 56) d_M_offer_53 (by decide) rfl (fun h53 => ?_) (fun h => absurd h3 h)
  refine AW.iconst (pc' := 69) (v := nI 0) d_M_offer_68 rfl (by decide) ?_
  refine AW.iconst (pc' := 70) (v := nI 1) d_M_offer_69 rfl (by decide) ?_
  refine AW.cV (pc' := 73) d_M_offer_70 rfl cv_M_106 (by decide) rfl rfl rfl (k_goes_5_4 X z k o ((nI (1)))) rfl rfl rfl rfl rfl rfl rfl ?_
  refine AW.if_ne (tgt := 77) (pc' := 76) d_M_offer_73 (by decide) rfl (fun h => absurd h (by decide)) (fun _ => ?_)
  exact AW.vret d_M_offer_76 rfl rfl rfl ⟨rfl, rfl⟩
theorem k_offer_5 (X : ct_X) (z : S_c) (k : S_m) (o : Nat → Int64) (s : Nat) (hs : s < k_ns k) (hn : k_ns k ≤ 20) (p : Nat) (hj : p < k_np k) (hnp : k_np k ≤ 40) (h1 : k_jnd k s = 0) (h2 : ¬ k_ldr k s < 0) (h3 : ¬ k_in k p < 0) (t : Nat) (h4 : f_leads k (nI p) = some t) : AF X m_M_offer 3 0 0 [.ref 20, .int (nI (s)), .int (nI (p))] (wL z k o) (.inl none) (wL z (k_thr_ k (nI 2)) o) := by
  refine AM.of rfl (Nat.le_of_ble_eq_true rfl) (ls := [some (.ref 20), some (.int (nI (s))), some (.int (nI (p))), none]) rfl ?_
  refine AW.aload_n (pc' := 1) d_M_offer_0 rfl rfl rfl ?_
  refine AW.iload_n (pc' := 2) d_M_offer_1 rfl rfl rfl ?_
  refine AW.cV (pc' := 5) d_M_offer_2 rfl cv_M_82 (by decide) rfl rfl rfl (k_isSector_t X z k o s hs (by omega)) rfl rfl rfl rfl rfl rfl rfl ?_
  refine AW.if_eq (tgt := 20) (pc' := 8) d_M_offer_5 (by decide) rfl (fun h => absurd h (by decide)) (fun _ => ?_)
  refine AW.aload_n (pc' := 9) d_M_offer_8 rfl rfl rfl ?_
  refine AW.iload_n (pc' := 10) d_M_offer_9 rfl rfl rfl ?_
  refine AW.cV (pc' := 13) d_M_offer_10 rfl cv_M_110 (by decide) rfl rfl rfl (k_isPerson_t X z k o p hj (by omega)) rfl rfl rfl rfl rfl rfl rfl ?_
  refine AW.if_eq (tgt := 20) (pc' := 16) d_M_offer_13 (by decide) rfl (fun h => absurd h (by decide)) (fun _ => ?_)
  refine AW.iconst (pc' := 17) (v := nI 1) d_M_offer_16 rfl (by decide) ?_
  refine AW.goto (tgt := 21) d_M_offer_17 (by decide) ?_
  refine AW.istore_n (pc' := 22) (ls' := [some (.ref 20), some (.int (nI (s))), some (.int (nI (p))), some (.int (nI (1)))]) d_M_offer_21 rfl rfl rfl rfl ?_
  refine AW.aload_n (pc' := 23) d_M_offer_22 rfl rfl rfl ?_
  refine AW.iconst (pc' := 24) (v := nI 5) d_M_offer_23 rfl (by decide) ?_
  refine AW.iload_n (pc' := 25) d_M_offer_24 rfl rfl rfl ?_
  refine AW.iconst (pc' := 26) (v := nI 1) d_M_offer_25 rfl (by decide) ?_
  refine AW.iload_n (pc' := 27) d_M_offer_26 rfl rfl rfl ?_
  refine AW.if_eq (tgt := 68) (pc' := 30) d_M_offer_27 (by decide) rfl (fun h => absurd h (by decide)) (fun _ => ?_)
  refine AW.aload_n (pc' := 31) d_M_offer_30 rfl rfl rfl ?_
  refine AW.iload_n (pc' := 32) d_M_offer_31 rfl rfl rfl ?_
  refine AW.cV (pc' := 35) d_M_offer_32 rfl cv_M_116 (by decide) rfl rfl rfl (k_isOpen_t X z k o s hs hn h1) rfl rfl rfl rfl rfl rfl rfl ?_
  refine AW.if_eq (tgt := 68) (pc' := 38) d_M_offer_35 (by decide) rfl (fun h => absurd h (by decide)) (fun _ => ?_)
  refine AW.aload_n (pc' := 39) d_M_offer_38 rfl rfl rfl ?_
  refine AW.getf (pc' := 42) d_M_offer_39 rfl fl_M_33 rfl rfl ?_
  refine AW.iload_n (pc' := 43) d_M_offer_42 rfl rfl rfl ?_
  refine AW.ialdN (pc' := 44) d_M_offer_43 rfl rfl (by omega) (by decide) ?_
  refine AW.if_lt (tgt := 68) (pc' := 47) d_M_offer_44 (by decide) rfl (fun h => absurd h h2) (fun h44 => ?_)
  refine AW.aload_n (pc' := 48) d_M_offer_47 rfl rfl rfl ?_
  refine AW.getf (pc' := 51) d_M_offer_48 rfl fl_M_13 rfl rfl ?_
  refine AW.iload_n (pc' := 52) d_M_offer_51 rfl rfl rfl ?_
  refine AW.ialdN (pc' := 53) d_M_offer_52 rfl rfl (by omega) (by decide) ?_
  refine AW.if_lt (tgt := 68) (pc' := 56) d_M_offer_53 (by decide) rfl (fun h => absurd h h3) (fun h53 => ?_)
  refine AW.aload_n (pc' := 57) d_M_offer_56 rfl rfl rfl ?_
  refine AW.iload_n (pc' := 58) d_M_offer_57 rfl rfl rfl ?_
  have ht := (f_leads_some h4).1
  refine AW.cV (pc' := 61) d_M_offer_58 rfl cv_M_96 (by decide) rfl rfl rfl (k_leads_s X z k o (nI p) t hn h4) rfl rfl rfl rfl rfl rfl rfl ?_
  refine AW.if_ge (tgt := 68) (pc' := 64) d_M_offer_61 (by decide) rfl (fun _ => ?_) (fun h => absurd (nI_pos' (by omega)) h)
  refine AW.iconst (pc' := 69) (v := nI 0) d_M_offer_68 rfl (by decide) ?_
  refine AW.iconst (pc' := 70) (v := nI 1) d_M_offer_69 rfl (by decide) ?_
  refine AW.cV (pc' := 73) d_M_offer_70 rfl cv_M_106 (by decide) rfl rfl rfl (k_goes_5_4 X z k o ((nI (1)))) rfl rfl rfl rfl rfl rfl rfl ?_
  refine AW.if_ne (tgt := 77) (pc' := 76) d_M_offer_73 (by decide) rfl (fun h => absurd h (by decide)) (fun _ => ?_)
  exact AW.vret d_M_offer_76 rfl rfl rfl ⟨rfl, rfl⟩
theorem k_offer_6 (X : ct_X) (z : S_c) (k : S_m) (o : Nat → Int64) (s : Nat) (hs : s < k_ns k) (hn : k_ns k ≤ 20) (p : Nat) (hj : p < k_np k) (hnp : k_np k ≤ 40) (h1 : k_jnd k s = 0) (h2 : ¬ k_ldr k s < 0) (h3 : ¬ k_in k p < 0) (h4 : f_leads k (nI p) = none) : AF X m_M_offer 3 0 0 [.ref 20, .int (nI (s)), .int (nI (p))] (wL z k o) (.inl none) (wL z (k_off_ (k_thr_ k (nI 0)) (upd (k_off k) s (nI p))) o) := by
  refine AM.of rfl (Nat.le_of_ble_eq_true rfl) (ls := [some (.ref 20), some (.int (nI (s))), some (.int (nI (p))), none]) rfl ?_
  refine AW.aload_n (pc' := 1) d_M_offer_0 rfl rfl rfl ?_
  refine AW.iload_n (pc' := 2) d_M_offer_1 rfl rfl rfl ?_
  refine AW.cV (pc' := 5) d_M_offer_2 rfl cv_M_82 (by decide) rfl rfl rfl (k_isSector_t X z k o s hs (by omega)) rfl rfl rfl rfl rfl rfl rfl ?_
  refine AW.if_eq (tgt := 20) (pc' := 8) d_M_offer_5 (by decide) rfl (fun h => absurd h (by decide)) (fun _ => ?_)
  refine AW.aload_n (pc' := 9) d_M_offer_8 rfl rfl rfl ?_
  refine AW.iload_n (pc' := 10) d_M_offer_9 rfl rfl rfl ?_
  refine AW.cV (pc' := 13) d_M_offer_10 rfl cv_M_110 (by decide) rfl rfl rfl (k_isPerson_t X z k o p hj (by omega)) rfl rfl rfl rfl rfl rfl rfl ?_
  refine AW.if_eq (tgt := 20) (pc' := 16) d_M_offer_13 (by decide) rfl (fun h => absurd h (by decide)) (fun _ => ?_)
  refine AW.iconst (pc' := 17) (v := nI 1) d_M_offer_16 rfl (by decide) ?_
  refine AW.goto (tgt := 21) d_M_offer_17 (by decide) ?_
  refine AW.istore_n (pc' := 22) (ls' := [some (.ref 20), some (.int (nI (s))), some (.int (nI (p))), some (.int (nI (1)))]) d_M_offer_21 rfl rfl rfl rfl ?_
  refine AW.aload_n (pc' := 23) d_M_offer_22 rfl rfl rfl ?_
  refine AW.iconst (pc' := 24) (v := nI 5) d_M_offer_23 rfl (by decide) ?_
  refine AW.iload_n (pc' := 25) d_M_offer_24 rfl rfl rfl ?_
  refine AW.iconst (pc' := 26) (v := nI 1) d_M_offer_25 rfl (by decide) ?_
  refine AW.iload_n (pc' := 27) d_M_offer_26 rfl rfl rfl ?_
  refine AW.if_eq (tgt := 68) (pc' := 30) d_M_offer_27 (by decide) rfl (fun h => absurd h (by decide)) (fun _ => ?_)
  refine AW.aload_n (pc' := 31) d_M_offer_30 rfl rfl rfl ?_
  refine AW.iload_n (pc' := 32) d_M_offer_31 rfl rfl rfl ?_
  refine AW.cV (pc' := 35) d_M_offer_32 rfl cv_M_116 (by decide) rfl rfl rfl (k_isOpen_t X z k o s hs hn h1) rfl rfl rfl rfl rfl rfl rfl ?_
  refine AW.if_eq (tgt := 68) (pc' := 38) d_M_offer_35 (by decide) rfl (fun h => absurd h (by decide)) (fun _ => ?_)
  refine AW.aload_n (pc' := 39) d_M_offer_38 rfl rfl rfl ?_
  refine AW.getf (pc' := 42) d_M_offer_39 rfl fl_M_33 rfl rfl ?_
  refine AW.iload_n (pc' := 43) d_M_offer_42 rfl rfl rfl ?_
  refine AW.ialdN (pc' := 44) d_M_offer_43 rfl rfl (by omega) (by decide) ?_
  refine AW.if_lt (tgt := 68) (pc' := 47) d_M_offer_44 (by decide) rfl (fun h => absurd h h2) (fun h44 => ?_)
  refine AW.aload_n (pc' := 48) d_M_offer_47 rfl rfl rfl ?_
  refine AW.getf (pc' := 51) d_M_offer_48 rfl fl_M_13 rfl rfl ?_
  refine AW.iload_n (pc' := 52) d_M_offer_51 rfl rfl rfl ?_
  refine AW.ialdN (pc' := 53) d_M_offer_52 rfl rfl (by omega) (by decide) ?_
  refine AW.if_lt (tgt := 68) (pc' := 56) d_M_offer_53 (by decide) rfl (fun h => absurd h h3) (fun h53 => ?_)
  refine AW.aload_n (pc' := 57) d_M_offer_56 rfl rfl rfl ?_
  refine AW.iload_n (pc' := 58) d_M_offer_57 rfl rfl rfl ?_
  refine AW.cV (pc' := 61) d_M_offer_58 rfl cv_M_96 (by decide) rfl rfl rfl (k_leads_n X z k o (nI p) hn h4) rfl rfl rfl rfl rfl rfl rfl ?_
  refine AW.if_ge (tgt := 68) (pc' := 64) d_M_offer_61 (by decide) rfl (fun h => absurd h (by decide)) (fun h61 => ?_)
  refine AW.iconst (pc' := 65) (v := nI 1) d_M_offer_64 rfl (by decide) ?_
  refine AW.goto (tgt := 69) d_M_offer_65 (by decide) ?_
  refine AW.iconst (pc' := 70) (v := nI 1) d_M_offer_69 rfl (by decide) ?_
  refine AW.cV (pc' := 73) d_M_offer_70 rfl cv_M_106 (by decide) rfl rfl rfl (k_goes_5_0 X z k o ) rfl rfl rfl rfl rfl rfl rfl ?_
  refine AW.if_ne (tgt := 77) (pc' := 76) d_M_offer_73 (by decide) rfl (fun _ => ?_) (fun h => absurd h (by decide))
  refine AW.aload_n (pc' := 78) d_M_offer_77 rfl rfl rfl ?_
  refine AW.getf (pc' := 81) d_M_offer_78 rfl fl_M_36 rfl rfl ?_
  refine AW.iload_n (pc' := 82) d_M_offer_81 rfl rfl rfl ?_
  refine AW.iload_n (pc' := 83) d_M_offer_82 rfl rfl rfl ?_
  refine AW.iastN (pc' := 84) (w' := (wL z (k_off_ ((k_thr_ k (nI 0))) (upd (k_off ((k_thr_ k (nI 0)))) s (nI (p)))) o)) d_M_offer_83 rfl rfl (by omega) (by decide) rfl ?_
  exact AW.vret d_M_offer_84 rfl rfl rfl ⟨rfl, rfl⟩
theorem k_take_0 (X : ct_X) (z : S_c) (k : S_m) (o : Nat → Int64) (x : Int32) (hx : x < 0 ∨ nI (k_ns k) ≤ x) (hn : k_ns k ≤ 20) (y : Int32) : AF X m_M_take 3 0 0 [.ref 20, .int (x), .int (y)] (wL z k o) (.inl none) (wL z (k_thr_ k (nI 1)) o) := by
  refine AM.of rfl (Nat.le_of_ble_eq_true rfl) (ls := [some (.ref 20), some (.int (x)), some (.int (y)), none]) rfl ?_
  refine AW.aload_n (pc' := 1) d_M_take_0 rfl rfl rfl ?_
  refine AW.iload_n (pc' := 2) d_M_take_1 rfl rfl rfl ?_
  refine AW.cV (pc' := 5) d_M_take_2 rfl cv_M_82 (by decide) rfl rfl rfl (k_isSector_f X z k o x hx (by omega)) rfl rfl rfl rfl rfl rfl rfl ?_
  refine AW.if_eq (tgt := 20) (pc' := 8) d_M_take_5 (by decide) rfl (fun _ => ?_) (fun h => absurd h (by decide))
  refine AW.iconst (pc' := 21) (v := nI 0) d_M_take_20 rfl (by decide) ?_
  refine AW.istore_n (pc' := 22) (ls' := [some (.ref 20), some (.int (x)), some (.int (y)), some (.int (nI (0)))]) d_M_take_21 rfl rfl rfl rfl ?_
  refine AW.aload_n (pc' := 23) d_M_take_22 rfl rfl rfl ?_
  refine AW.iconst (pc' := 24) (v := nI 5) d_M_take_23 rfl (by decide) ?_
  refine AW.iload_n (pc' := 25) d_M_take_24 rfl rfl rfl ?_
  refine AW.iconst (pc' := 26) (v := nI 1) d_M_take_25 rfl (by decide) ?_
  refine AW.iload_n (pc' := 27) d_M_take_26 rfl rfl rfl ?_
  refine AW.if_eq (tgt := 44) (pc' := 30) d_M_take_27 (by decide) rfl (fun _ => ?_) (fun h => absurd h (by decide))
  refine AW.iconst (pc' := 45) (v := nI 0) d_M_take_44 rfl (by decide) ?_
  refine AW.iconst (pc' := 46) (v := nI 1) d_M_take_45 rfl (by decide) ?_
  refine AW.cV (pc' := 49) d_M_take_46 rfl cv_M_106 (by decide) rfl rfl rfl (k_goes_5_1 X z k o ((nI (1))) ((nI (0))) ((nI (1)))) rfl rfl rfl rfl rfl rfl rfl ?_
  refine AW.if_ne (tgt := 53) (pc' := 52) d_M_take_49 (by decide) rfl (fun h => absurd h (by decide)) (fun _ => ?_)
  exact AW.vret d_M_take_52 rfl rfl rfl ⟨rfl, rfl⟩
theorem k_take_1 (X : ct_X) (z : S_c) (k : S_m) (o : Nat → Int64) (s : Nat) (hs : s < k_ns k) (hn : k_ns k ≤ 20) (x : Int32) (hx : x < 0 ∨ nI (k_np k) ≤ x) (hnp : k_np k ≤ 40) : AF X m_M_take 3 0 0 [.ref 20, .int (nI (s)), .int (x)] (wL z k o) (.inl none) (wL z (k_thr_ k (nI 1)) o) := by
  refine AM.of rfl (Nat.le_of_ble_eq_true rfl) (ls := [some (.ref 20), some (.int (nI (s))), some (.int (x)), none]) rfl ?_
  refine AW.aload_n (pc' := 1) d_M_take_0 rfl rfl rfl ?_
  refine AW.iload_n (pc' := 2) d_M_take_1 rfl rfl rfl ?_
  refine AW.cV (pc' := 5) d_M_take_2 rfl cv_M_82 (by decide) rfl rfl rfl (k_isSector_t X z k o s hs (by omega)) rfl rfl rfl rfl rfl rfl rfl ?_
  refine AW.if_eq (tgt := 20) (pc' := 8) d_M_take_5 (by decide) rfl (fun h => absurd h (by decide)) (fun _ => ?_)
  refine AW.aload_n (pc' := 9) d_M_take_8 rfl rfl rfl ?_
  refine AW.iload_n (pc' := 10) d_M_take_9 rfl rfl rfl ?_
  refine AW.cV (pc' := 13) d_M_take_10 rfl cv_M_110 (by decide) rfl rfl rfl (k_isPerson_f X z k o x hx (by omega)) rfl rfl rfl rfl rfl rfl rfl ?_
  refine AW.if_eq (tgt := 20) (pc' := 16) d_M_take_13 (by decide) rfl (fun _ => ?_) (fun h => absurd h (by decide))
  refine AW.iconst (pc' := 21) (v := nI 0) d_M_take_20 rfl (by decide) ?_
  refine AW.istore_n (pc' := 22) (ls' := [some (.ref 20), some (.int (nI (s))), some (.int (x)), some (.int (nI (0)))]) d_M_take_21 rfl rfl rfl rfl ?_
  refine AW.aload_n (pc' := 23) d_M_take_22 rfl rfl rfl ?_
  refine AW.iconst (pc' := 24) (v := nI 5) d_M_take_23 rfl (by decide) ?_
  refine AW.iload_n (pc' := 25) d_M_take_24 rfl rfl rfl ?_
  refine AW.iconst (pc' := 26) (v := nI 1) d_M_take_25 rfl (by decide) ?_
  refine AW.iload_n (pc' := 27) d_M_take_26 rfl rfl rfl ?_
  refine AW.if_eq (tgt := 44) (pc' := 30) d_M_take_27 (by decide) rfl (fun _ => ?_) (fun h => absurd h (by decide))
  refine AW.iconst (pc' := 45) (v := nI 0) d_M_take_44 rfl (by decide) ?_
  refine AW.iconst (pc' := 46) (v := nI 1) d_M_take_45 rfl (by decide) ?_
  refine AW.cV (pc' := 49) d_M_take_46 rfl cv_M_106 (by decide) rfl rfl rfl (k_goes_5_1 X z k o ((nI (1))) ((nI (0))) ((nI (1)))) rfl rfl rfl rfl rfl rfl rfl ?_
  refine AW.if_ne (tgt := 53) (pc' := 52) d_M_take_49 (by decide) rfl (fun h => absurd h (by decide)) (fun _ => ?_)
  exact AW.vret d_M_take_52 rfl rfl rfl ⟨rfl, rfl⟩
theorem k_take_2 (X : ct_X) (z : S_c) (k : S_m) (o : Nat → Int64) (s : Nat) (hs : s < k_ns k) (hn : k_ns k ≤ 20) (p : Nat) (hj : p < k_np k) (hnp : k_np k ≤ 40) (h1 : ¬ k_off k s = nI p) : AF X m_M_take 3 0 0 [.ref 20, .int (nI (s)), .int (nI (p))] (wL z k o) (.inl none) (wL z (k_thr_ k (nI 2)) o) := by
  refine AM.of rfl (Nat.le_of_ble_eq_true rfl) (ls := [some (.ref 20), some (.int (nI (s))), some (.int (nI (p))), none]) rfl ?_
  refine AW.aload_n (pc' := 1) d_M_take_0 rfl rfl rfl ?_
  refine AW.iload_n (pc' := 2) d_M_take_1 rfl rfl rfl ?_
  refine AW.cV (pc' := 5) d_M_take_2 rfl cv_M_82 (by decide) rfl rfl rfl (k_isSector_t X z k o s hs (by omega)) rfl rfl rfl rfl rfl rfl rfl ?_
  refine AW.if_eq (tgt := 20) (pc' := 8) d_M_take_5 (by decide) rfl (fun h => absurd h (by decide)) (fun _ => ?_)
  refine AW.aload_n (pc' := 9) d_M_take_8 rfl rfl rfl ?_
  refine AW.iload_n (pc' := 10) d_M_take_9 rfl rfl rfl ?_
  refine AW.cV (pc' := 13) d_M_take_10 rfl cv_M_110 (by decide) rfl rfl rfl (k_isPerson_t X z k o p hj (by omega)) rfl rfl rfl rfl rfl rfl rfl ?_
  refine AW.if_eq (tgt := 20) (pc' := 16) d_M_take_13 (by decide) rfl (fun h => absurd h (by decide)) (fun _ => ?_)
  refine AW.iconst (pc' := 17) (v := nI 1) d_M_take_16 rfl (by decide) ?_
  refine AW.goto (tgt := 21) d_M_take_17 (by decide) ?_
  refine AW.istore_n (pc' := 22) (ls' := [some (.ref 20), some (.int (nI (s))), some (.int (nI (p))), some (.int (nI (1)))]) d_M_take_21 rfl rfl rfl rfl ?_
  refine AW.aload_n (pc' := 23) d_M_take_22 rfl rfl rfl ?_
  refine AW.iconst (pc' := 24) (v := nI 5) d_M_take_23 rfl (by decide) ?_
  refine AW.iload_n (pc' := 25) d_M_take_24 rfl rfl rfl ?_
  refine AW.iconst (pc' := 26) (v := nI 1) d_M_take_25 rfl (by decide) ?_
  refine AW.iload_n (pc' := 27) d_M_take_26 rfl rfl rfl ?_
  refine AW.if_eq (tgt := 44) (pc' := 30) d_M_take_27 (by decide) rfl (fun h => absurd h (by decide)) (fun _ => ?_)
  refine AW.aload_n (pc' := 31) d_M_take_30 rfl rfl rfl ?_
  refine AW.getf (pc' := 34) d_M_take_31 rfl fl_M_36 rfl rfl ?_
  refine AW.iload_n (pc' := 35) d_M_take_34 rfl rfl rfl ?_
  refine AW.ialdN (pc' := 36) d_M_take_35 rfl rfl (by omega) (by decide) ?_
  refine AW.iload_n (pc' := 37) d_M_take_36 rfl rfl rfl ?_
  refine AW.icmp_ne (tgt := 44) (pc' := 40) d_M_take_37 (by decide) rfl (fun h37 => ?_) (fun h => absurd h h1)
  refine AW.iconst (pc' := 45) (v := nI 0) d_M_take_44 rfl (by decide) ?_
  refine AW.iconst (pc' := 46) (v := nI 1) d_M_take_45 rfl (by decide) ?_
  refine AW.cV (pc' := 49) d_M_take_46 rfl cv_M_106 (by decide) rfl rfl rfl (k_goes_5_4 X z k o ((nI (1)))) rfl rfl rfl rfl rfl rfl rfl ?_
  refine AW.if_ne (tgt := 53) (pc' := 52) d_M_take_49 (by decide) rfl (fun h => absurd h (by decide)) (fun _ => ?_)
  exact AW.vret d_M_take_52 rfl rfl rfl ⟨rfl, rfl⟩
theorem k_take_3 (X : ct_X) (z : S_c) (k : S_m) (o : Nat → Int64) (s : Nat) (hs : s < k_ns k) (hn : k_ns k ≤ 20) (p : Nat) (hj : p < k_np k) (hnp : k_np k ≤ 40) (h1 : k_off k s = nI p) (hr2 : k_rows k + 2 < 2 ^ 31) (hK : RowK k) : AF X m_M_take 3 0 0 [.ref 20, .int (nI (s)), .int (nI (p))] (wL z k o) (.inl none) (wL z (f_kl (k_in_ (k_thr_ k (nI 0)) (upd (k_in k) p (nI s))) s (some p)) o) := by
  refine AM.of rfl (Nat.le_of_ble_eq_true rfl) (ls := [some (.ref 20), some (.int (nI (s))), some (.int (nI (p))), none]) rfl ?_
  refine AW.aload_n (pc' := 1) d_M_take_0 rfl rfl rfl ?_
  refine AW.iload_n (pc' := 2) d_M_take_1 rfl rfl rfl ?_
  refine AW.cV (pc' := 5) d_M_take_2 rfl cv_M_82 (by decide) rfl rfl rfl (k_isSector_t X z k o s hs (by omega)) rfl rfl rfl rfl rfl rfl rfl ?_
  refine AW.if_eq (tgt := 20) (pc' := 8) d_M_take_5 (by decide) rfl (fun h => absurd h (by decide)) (fun _ => ?_)
  refine AW.aload_n (pc' := 9) d_M_take_8 rfl rfl rfl ?_
  refine AW.iload_n (pc' := 10) d_M_take_9 rfl rfl rfl ?_
  refine AW.cV (pc' := 13) d_M_take_10 rfl cv_M_110 (by decide) rfl rfl rfl (k_isPerson_t X z k o p hj (by omega)) rfl rfl rfl rfl rfl rfl rfl ?_
  refine AW.if_eq (tgt := 20) (pc' := 16) d_M_take_13 (by decide) rfl (fun h => absurd h (by decide)) (fun _ => ?_)
  refine AW.iconst (pc' := 17) (v := nI 1) d_M_take_16 rfl (by decide) ?_
  refine AW.goto (tgt := 21) d_M_take_17 (by decide) ?_
  refine AW.istore_n (pc' := 22) (ls' := [some (.ref 20), some (.int (nI (s))), some (.int (nI (p))), some (.int (nI (1)))]) d_M_take_21 rfl rfl rfl rfl ?_
  refine AW.aload_n (pc' := 23) d_M_take_22 rfl rfl rfl ?_
  refine AW.iconst (pc' := 24) (v := nI 5) d_M_take_23 rfl (by decide) ?_
  refine AW.iload_n (pc' := 25) d_M_take_24 rfl rfl rfl ?_
  refine AW.iconst (pc' := 26) (v := nI 1) d_M_take_25 rfl (by decide) ?_
  refine AW.iload_n (pc' := 27) d_M_take_26 rfl rfl rfl ?_
  refine AW.if_eq (tgt := 44) (pc' := 30) d_M_take_27 (by decide) rfl (fun h => absurd h (by decide)) (fun _ => ?_)
  refine AW.aload_n (pc' := 31) d_M_take_30 rfl rfl rfl ?_
  refine AW.getf (pc' := 34) d_M_take_31 rfl fl_M_36 rfl rfl ?_
  refine AW.iload_n (pc' := 35) d_M_take_34 rfl rfl rfl ?_
  refine AW.ialdN (pc' := 36) d_M_take_35 rfl rfl (by omega) (by decide) ?_
  refine AW.iload_n (pc' := 37) d_M_take_36 rfl rfl rfl ?_
  refine AW.icmp_ne (tgt := 44) (pc' := 40) d_M_take_37 (by decide) rfl (fun h => absurd h1 h) (fun h37 => ?_)
  refine AW.iconst (pc' := 41) (v := nI 1) d_M_take_40 rfl (by decide) ?_
  refine AW.goto (tgt := 45) d_M_take_41 (by decide) ?_
  refine AW.iconst (pc' := 46) (v := nI 1) d_M_take_45 rfl (by decide) ?_
  refine AW.cV (pc' := 49) d_M_take_46 rfl cv_M_106 (by decide) rfl rfl rfl (k_goes_5_0 X z k o ) rfl rfl rfl rfl rfl rfl rfl ?_
  refine AW.if_ne (tgt := 53) (pc' := 52) d_M_take_49 (by decide) rfl (fun _ => ?_) (fun h => absurd h (by decide))
  refine AW.aload_n (pc' := 54) d_M_take_53 rfl rfl rfl ?_
  refine AW.getf (pc' := 57) d_M_take_54 rfl fl_M_13 rfl rfl ?_
  refine AW.iload_n (pc' := 58) d_M_take_57 rfl rfl rfl ?_
  refine AW.iload_n (pc' := 59) d_M_take_58 rfl rfl rfl ?_
  refine AW.iastN (pc' := 60) (w' := (wL z (k_in_ ((k_thr_ k (nI 0))) (upd (k_in ((k_thr_ k (nI 0)))) p (nI (s)))) o)) d_M_take_59 rfl rfl (by omega) (by decide) rfl ?_
  refine AW.aload_n (pc' := 61) d_M_take_60 rfl rfl rfl ?_
  refine AW.iload_n (pc' := 62) d_M_take_61 rfl rfl rfl ?_
  refine AW.iload_n (pc' := 63) d_M_take_62 rfl rfl rfl ?_
  refine AW.cV (pc' := 66) d_M_take_63 rfl cv_M_103 (by decide) rfl rfl rfl (k_lead X z (k_in_ (k_thr_ k (nI 0)) (upd (k_in k) p (nI s))) o s (some p) (fun r h => by cases h; omega) (by omega) hn (by show k_rows k < 2 ^ 31; omega) hK) rfl rfl rfl rfl rfl rfl rfl ?_
  exact AW.vret d_M_take_66 rfl rfl rfl ⟨rfl, rfl⟩
theorem k_task_0 (X : ct_X) (z : S_c) (k : S_m) (o : Nat → Int64) (x : Int32) (hx : x < 0 ∨ nI (k_ns k) ≤ x) (hn : k_ns k ≤ 20) (hnt : k_nt k ≤ 60) (y : Int32) : AF X m_M_task 3 0 0 [.ref 20, .int (x), .int (y)] (wL z k o) (.inl (some (.int (nI 0)))) (wL z (k_thr_ k (nI 1)) o) := by
  refine AM.of rfl (Nat.le_of_ble_eq_true rfl) (ls := [some (.ref 20), some (.int (x)), some (.int (y))]) rfl ?_
  refine AW.aload_n (pc' := 1) d_M_task_0 rfl rfl rfl ?_
  refine AW.bipush (pc' := 3) (v := nI 15) d_M_task_1 rfl (by decide) ?_
  refine AW.aload_n (pc' := 4) d_M_task_3 rfl rfl rfl ?_
  refine AW.iload_n (pc' := 5) d_M_task_4 rfl rfl rfl ?_
  refine AW.cV (pc' := 8) d_M_task_5 rfl cv_M_82 (by decide) rfl rfl rfl (k_isSector_f X z k o x hx (by omega)) rfl rfl rfl rfl rfl rfl rfl ?_
  refine AW.iload_n (pc' := 9) d_M_task_8 rfl rfl rfl ?_
  refine AW.aload_n (pc' := 10) d_M_task_9 rfl rfl rfl ?_
  refine AW.getf (pc' := 13) d_M_task_10 rfl fl_M_89 rfl rfl ?_
  refine AW.ldc (pc' := 15) d_M_task_13 rfl cn_M_129 ?_
  refine AW.top (u := .int (nI 99999)) (by decide) ?_
  refine AW.cS (pc' := 18) d_M_task_15 rfl cs_M_75 (by decide) (k_within X z k o y (nI (k_now k)) (nI 99999)) rfl rfl rfl rfl rfl rfl rfl ?_
  refine AW.aload_n (pc' := 19) d_M_task_18 rfl rfl rfl ?_
  refine AW.iload_n (pc' := 20) d_M_task_19 rfl rfl rfl ?_
  refine AW.cV (pc' := 23) d_M_task_20 rfl cv_M_116 (by decide) rfl rfl rfl (k_isOpen_x X z k o x hx hn) rfl rfl rfl rfl rfl rfl rfl ?_
  refine AW.aload_n (pc' := 24) d_M_task_23 rfl rfl rfl ?_
  refine AW.getf (pc' := 27) d_M_task_24 rfl fl_M_126 rfl rfl ?_
  refine AW.bipush (pc' := 29) (v := nI 60) d_M_task_27 rfl (by decide) ?_
  refine AW.icmp_geN (tgt := 36) (pc' := 32) d_M_task_29 (by decide) rfl (by omega) (by omega) (fun h29 => ?_) (fun h29 => ?_)
  · refine AW.iconst (pc' := 37) (v := nI 0) d_M_task_36 rfl (by decide) ?_
    refine AW.cV (pc' := 40) d_M_task_37 rfl cv_M_106 (by decide) rfl rfl rfl (k_goes_15_1 X z k o ((nI (cond (decide (nI (k_now k) ≤ y) && decide (y ≤ nI 99999)) 1 0))) ((nI (0))) ((nI (0)))) rfl rfl rfl rfl rfl rfl rfl ?_
    refine AW.if_ne (tgt := 45) (pc' := 43) d_M_task_40 (by decide) rfl (fun h => absurd h (by decide)) (fun _ => ?_)
    refine AW.iconst (pc' := 44) (v := nI 0) d_M_task_43 rfl (by decide) ?_
    exact AW.iret d_M_task_44 rfl rfl rfl ⟨rfl, rfl⟩
  · refine AW.iconst (pc' := 33) (v := nI 1) d_M_task_32 rfl (by decide) ?_
    refine AW.goto (tgt := 37) d_M_task_33 (by decide) ?_
    refine AW.cV (pc' := 40) d_M_task_37 rfl cv_M_106 (by decide) rfl rfl rfl (k_goes_15_1 X z k o ((nI (cond (decide (nI (k_now k) ≤ y) && decide (y ≤ nI 99999)) 1 0))) ((nI (0))) ((nI (1)))) rfl rfl rfl rfl rfl rfl rfl ?_
    refine AW.if_ne (tgt := 45) (pc' := 43) d_M_task_40 (by decide) rfl (fun h => absurd h (by decide)) (fun _ => ?_)
    refine AW.iconst (pc' := 44) (v := nI 0) d_M_task_43 rfl (by decide) ?_
    exact AW.iret d_M_task_44 rfl rfl rfl ⟨rfl, rfl⟩
theorem k_task_1 (X : ct_X) (z : S_c) (k : S_m) (o : Nat → Int64) (s : Nat) (hs : s < k_ns k) (hn : k_ns k ≤ 20) (hnt : k_nt k ≤ 60) (y : Int32) (hy : y < nI (k_now k) ∨ nI 99999 < y) : AF X m_M_task 3 0 0 [.ref 20, .int (nI (s)), .int (y)] (wL z k o) (.inl (some (.int (nI 0)))) (wL z (k_thr_ k (nI 2)) o) := by
  refine AM.of rfl (Nat.le_of_ble_eq_true rfl) (ls := [some (.ref 20), some (.int (nI (s))), some (.int (y))]) rfl ?_
  refine AW.aload_n (pc' := 1) d_M_task_0 rfl rfl rfl ?_
  refine AW.bipush (pc' := 3) (v := nI 15) d_M_task_1 rfl (by decide) ?_
  refine AW.aload_n (pc' := 4) d_M_task_3 rfl rfl rfl ?_
  refine AW.iload_n (pc' := 5) d_M_task_4 rfl rfl rfl ?_
  refine AW.cV (pc' := 8) d_M_task_5 rfl cv_M_82 (by decide) rfl rfl rfl (k_isSector_t X z k o s hs (by omega)) rfl rfl rfl rfl rfl rfl rfl ?_
  refine AW.iload_n (pc' := 9) d_M_task_8 rfl rfl rfl ?_
  refine AW.aload_n (pc' := 10) d_M_task_9 rfl rfl rfl ?_
  refine AW.getf (pc' := 13) d_M_task_10 rfl fl_M_89 rfl rfl ?_
  refine AW.ldc (pc' := 15) d_M_task_13 rfl cn_M_129 ?_
  refine AW.top (u := .int (nI 99999)) (by decide) ?_
  refine AW.cS (pc' := 18) d_M_task_15 rfl cs_M_75 (by decide) (k_within_f X z k o y (nI (k_now k)) (nI 99999) hy) rfl rfl rfl rfl rfl rfl rfl ?_
  refine AW.aload_n (pc' := 19) d_M_task_18 rfl rfl rfl ?_
  refine AW.iload_n (pc' := 20) d_M_task_19 rfl rfl rfl ?_
  refine AW.cV (pc' := 23) d_M_task_20 rfl cv_M_116 (by decide) rfl rfl rfl (k_isOpen X z k o s hs hn) rfl rfl rfl rfl rfl rfl rfl ?_
  refine AW.aload_n (pc' := 24) d_M_task_23 rfl rfl rfl ?_
  refine AW.getf (pc' := 27) d_M_task_24 rfl fl_M_126 rfl rfl ?_
  refine AW.bipush (pc' := 29) (v := nI 60) d_M_task_27 rfl (by decide) ?_
  refine AW.icmp_geN (tgt := 36) (pc' := 32) d_M_task_29 (by decide) rfl (by omega) (by omega) (fun h29 => ?_) (fun h29 => ?_)
  · refine AW.iconst (pc' := 37) (v := nI 0) d_M_task_36 rfl (by decide) ?_
    refine AW.cV (pc' := 40) d_M_task_37 rfl cv_M_106 (by decide) rfl rfl rfl (k_goes_15_2 X z k o ((nI (cond (decide (k_jnd k s = 0)) 1 0))) ((nI (0)))) rfl rfl rfl rfl rfl rfl rfl ?_
    refine AW.if_ne (tgt := 45) (pc' := 43) d_M_task_40 (by decide) rfl (fun h => absurd h (by decide)) (fun _ => ?_)
    refine AW.iconst (pc' := 44) (v := nI 0) d_M_task_43 rfl (by decide) ?_
    exact AW.iret d_M_task_44 rfl rfl rfl ⟨rfl, rfl⟩
  · refine AW.iconst (pc' := 33) (v := nI 1) d_M_task_32 rfl (by decide) ?_
    refine AW.goto (tgt := 37) d_M_task_33 (by decide) ?_
    refine AW.cV (pc' := 40) d_M_task_37 rfl cv_M_106 (by decide) rfl rfl rfl (k_goes_15_2 X z k o ((nI (cond (decide (k_jnd k s = 0)) 1 0))) ((nI (1)))) rfl rfl rfl rfl rfl rfl rfl ?_
    refine AW.if_ne (tgt := 45) (pc' := 43) d_M_task_40 (by decide) rfl (fun h => absurd h (by decide)) (fun _ => ?_)
    refine AW.iconst (pc' := 44) (v := nI 0) d_M_task_43 rfl (by decide) ?_
    exact AW.iret d_M_task_44 rfl rfl rfl ⟨rfl, rfl⟩
theorem k_task_2 (X : ct_X) (z : S_c) (k : S_m) (o : Nat → Int64) (s : Nat) (hs : s < k_ns k) (hn : k_ns k ≤ 20) (t : Nat) (ht : k_now k ≤ t) (ht2 : t ≤ 99999) (hnt : k_nt k ≤ 60) (h1 : ¬ k_jnd k s = 0) : AF X m_M_task 3 0 0 [.ref 20, .int (nI (s)), .int (nI (t))] (wL z k o) (.inl (some (.int (nI 0)))) (wL z (k_thr_ k (nI 3)) o) := by
  refine AM.of rfl (Nat.le_of_ble_eq_true rfl) (ls := [some (.ref 20), some (.int (nI (s))), some (.int (nI (t)))]) rfl ?_
  refine AW.aload_n (pc' := 1) d_M_task_0 rfl rfl rfl ?_
  refine AW.bipush (pc' := 3) (v := nI 15) d_M_task_1 rfl (by decide) ?_
  refine AW.aload_n (pc' := 4) d_M_task_3 rfl rfl rfl ?_
  refine AW.iload_n (pc' := 5) d_M_task_4 rfl rfl rfl ?_
  refine AW.cV (pc' := 8) d_M_task_5 rfl cv_M_82 (by decide) rfl rfl rfl (k_isSector_t X z k o s hs (by omega)) rfl rfl rfl rfl rfl rfl rfl ?_
  refine AW.iload_n (pc' := 9) d_M_task_8 rfl rfl rfl ?_
  refine AW.aload_n (pc' := 10) d_M_task_9 rfl rfl rfl ?_
  refine AW.getf (pc' := 13) d_M_task_10 rfl fl_M_89 rfl rfl ?_
  refine AW.ldc (pc' := 15) d_M_task_13 rfl cn_M_129 ?_
  refine AW.top (u := .int (nI 99999)) (by decide) ?_
  refine AW.cS (pc' := 18) d_M_task_15 rfl cs_M_75 (by decide) (k_within_t X z k o (nI t) (nI (k_now k)) (nI 99999) ((nI_leI (by omega) (by omega)).mpr ht) ((nI_leI (by omega) (by omega)).mpr ht2)) rfl rfl rfl rfl rfl rfl rfl ?_
  refine AW.aload_n (pc' := 19) d_M_task_18 rfl rfl rfl ?_
  refine AW.iload_n (pc' := 20) d_M_task_19 rfl rfl rfl ?_
  refine AW.cV (pc' := 23) d_M_task_20 rfl cv_M_116 (by decide) rfl rfl rfl (k_isOpen_f X z k o s hs hn h1) rfl rfl rfl rfl rfl rfl rfl ?_
  refine AW.aload_n (pc' := 24) d_M_task_23 rfl rfl rfl ?_
  refine AW.getf (pc' := 27) d_M_task_24 rfl fl_M_126 rfl rfl ?_
  refine AW.bipush (pc' := 29) (v := nI 60) d_M_task_27 rfl (by decide) ?_
  refine AW.icmp_geN (tgt := 36) (pc' := 32) d_M_task_29 (by decide) rfl (by omega) (by omega) (fun h29 => ?_) (fun h29 => ?_)
  · refine AW.iconst (pc' := 37) (v := nI 0) d_M_task_36 rfl (by decide) ?_
    refine AW.cV (pc' := 40) d_M_task_37 rfl cv_M_106 (by decide) rfl rfl rfl (k_goes_15_4 X z k o ((nI (0)))) rfl rfl rfl rfl rfl rfl rfl ?_
    refine AW.if_ne (tgt := 45) (pc' := 43) d_M_task_40 (by decide) rfl (fun h => absurd h (by decide)) (fun _ => ?_)
    refine AW.iconst (pc' := 44) (v := nI 0) d_M_task_43 rfl (by decide) ?_
    exact AW.iret d_M_task_44 rfl rfl rfl ⟨rfl, rfl⟩
  · refine AW.iconst (pc' := 33) (v := nI 1) d_M_task_32 rfl (by decide) ?_
    refine AW.goto (tgt := 37) d_M_task_33 (by decide) ?_
    refine AW.cV (pc' := 40) d_M_task_37 rfl cv_M_106 (by decide) rfl rfl rfl (k_goes_15_4 X z k o ((nI (1)))) rfl rfl rfl rfl rfl rfl rfl ?_
    refine AW.if_ne (tgt := 45) (pc' := 43) d_M_task_40 (by decide) rfl (fun h => absurd h (by decide)) (fun _ => ?_)
    refine AW.iconst (pc' := 44) (v := nI 0) d_M_task_43 rfl (by decide) ?_
    exact AW.iret d_M_task_44 rfl rfl rfl ⟨rfl, rfl⟩
theorem k_task_3 (X : ct_X) (z : S_c) (k : S_m) (o : Nat → Int64) (s : Nat) (hs : s < k_ns k) (hn : k_ns k ≤ 20) (t : Nat) (ht : k_now k ≤ t) (ht2 : t ≤ 99999) (h1 : k_jnd k s = 0) (hq : k_nt k = 60) : AF X m_M_task 3 0 0 [.ref 20, .int (nI (s)), .int (nI (t))] (wL z k o) (.inl (some (.int (nI 0)))) (wL z (k_thr_ k (nI 4)) o) := by
  refine AM.of rfl (Nat.le_of_ble_eq_true rfl) (ls := [some (.ref 20), some (.int (nI (s))), some (.int (nI (t)))]) rfl ?_
  refine AW.aload_n (pc' := 1) d_M_task_0 rfl rfl rfl ?_
  refine AW.bipush (pc' := 3) (v := nI 15) d_M_task_1 rfl (by decide) ?_
  refine AW.aload_n (pc' := 4) d_M_task_3 rfl rfl rfl ?_
  refine AW.iload_n (pc' := 5) d_M_task_4 rfl rfl rfl ?_
  refine AW.cV (pc' := 8) d_M_task_5 rfl cv_M_82 (by decide) rfl rfl rfl (k_isSector_t X z k o s hs (by omega)) rfl rfl rfl rfl rfl rfl rfl ?_
  refine AW.iload_n (pc' := 9) d_M_task_8 rfl rfl rfl ?_
  refine AW.aload_n (pc' := 10) d_M_task_9 rfl rfl rfl ?_
  refine AW.getf (pc' := 13) d_M_task_10 rfl fl_M_89 rfl rfl ?_
  refine AW.ldc (pc' := 15) d_M_task_13 rfl cn_M_129 ?_
  refine AW.top (u := .int (nI 99999)) (by decide) ?_
  refine AW.cS (pc' := 18) d_M_task_15 rfl cs_M_75 (by decide) (k_within_t X z k o (nI t) (nI (k_now k)) (nI 99999) ((nI_leI (by omega) (by omega)).mpr ht) ((nI_leI (by omega) (by omega)).mpr ht2)) rfl rfl rfl rfl rfl rfl rfl ?_
  refine AW.aload_n (pc' := 19) d_M_task_18 rfl rfl rfl ?_
  refine AW.iload_n (pc' := 20) d_M_task_19 rfl rfl rfl ?_
  refine AW.cV (pc' := 23) d_M_task_20 rfl cv_M_116 (by decide) rfl rfl rfl (k_isOpen_t X z k o s hs hn h1) rfl rfl rfl rfl rfl rfl rfl ?_
  refine AW.aload_n (pc' := 24) d_M_task_23 rfl rfl rfl ?_
  refine AW.getf (pc' := 27) d_M_task_24 rfl fl_M_126 rfl rfl ?_
  refine AW.bipush (pc' := 29) (v := nI 60) d_M_task_27 rfl (by decide) ?_
  refine AW.icmp_geN (tgt := 36) (pc' := 32) d_M_task_29 (by decide) rfl (by omega) (by omega) (fun h29 => ?_) (fun h => absurd h (by omega))
  refine AW.iconst (pc' := 37) (v := nI 0) d_M_task_36 rfl (by decide) ?_
  refine AW.cV (pc' := 40) d_M_task_37 rfl cv_M_106 (by decide) rfl rfl rfl (k_goes_15_8 X z k o ) rfl rfl rfl rfl rfl rfl rfl ?_
  refine AW.if_ne (tgt := 45) (pc' := 43) d_M_task_40 (by decide) rfl (fun h => absurd h (by decide)) (fun _ => ?_)
  refine AW.iconst (pc' := 44) (v := nI 0) d_M_task_43 rfl (by decide) ?_
  exact AW.iret d_M_task_44 rfl rfl rfl ⟨rfl, rfl⟩
theorem k_task_4 (X : ct_X) (z : S_c) (k : S_m) (o : Nat → Int64) (s : Nat) (hs : s < k_ns k) (hn : k_ns k ≤ 20) (t : Nat) (ht : k_now k ≤ t) (ht2 : t ≤ 99999) (h1 : k_jnd k s = 0) (hq : k_nt k < 60) : AF X m_M_task 3 0 0 [.ref 20, .int (nI (s)), .int (nI (t))] (wL z k o) (.inl (some (.int (nI (k_nt k))))) (wL z (k_nt_ (k_ans_ (k_sta_ (k_unt_ (k_tof_ (k_thr_ k (nI 0)) (upd (k_tof k) (k_nt k) (nI s))) (upd (k_unt k) (k_nt k) (nI t))) (upd (k_sta k) (k_nt k) (nI 0))) (upd (k_ans k) (k_nt k) (-1))) (k_nt k + 1)) o) := by
  refine AM.of rfl (Nat.le_of_ble_eq_true rfl) (ls := [some (.ref 20), some (.int (nI (s))), some (.int (nI (t)))]) rfl ?_
  refine AW.aload_n (pc' := 1) d_M_task_0 rfl rfl rfl ?_
  refine AW.bipush (pc' := 3) (v := nI 15) d_M_task_1 rfl (by decide) ?_
  refine AW.aload_n (pc' := 4) d_M_task_3 rfl rfl rfl ?_
  refine AW.iload_n (pc' := 5) d_M_task_4 rfl rfl rfl ?_
  refine AW.cV (pc' := 8) d_M_task_5 rfl cv_M_82 (by decide) rfl rfl rfl (k_isSector_t X z k o s hs (by omega)) rfl rfl rfl rfl rfl rfl rfl ?_
  refine AW.iload_n (pc' := 9) d_M_task_8 rfl rfl rfl ?_
  refine AW.aload_n (pc' := 10) d_M_task_9 rfl rfl rfl ?_
  refine AW.getf (pc' := 13) d_M_task_10 rfl fl_M_89 rfl rfl ?_
  refine AW.ldc (pc' := 15) d_M_task_13 rfl cn_M_129 ?_
  refine AW.top (u := .int (nI 99999)) (by decide) ?_
  refine AW.cS (pc' := 18) d_M_task_15 rfl cs_M_75 (by decide) (k_within_t X z k o (nI t) (nI (k_now k)) (nI 99999) ((nI_leI (by omega) (by omega)).mpr ht) ((nI_leI (by omega) (by omega)).mpr ht2)) rfl rfl rfl rfl rfl rfl rfl ?_
  refine AW.aload_n (pc' := 19) d_M_task_18 rfl rfl rfl ?_
  refine AW.iload_n (pc' := 20) d_M_task_19 rfl rfl rfl ?_
  refine AW.cV (pc' := 23) d_M_task_20 rfl cv_M_116 (by decide) rfl rfl rfl (k_isOpen_t X z k o s hs hn h1) rfl rfl rfl rfl rfl rfl rfl ?_
  refine AW.aload_n (pc' := 24) d_M_task_23 rfl rfl rfl ?_
  refine AW.getf (pc' := 27) d_M_task_24 rfl fl_M_126 rfl rfl ?_
  refine AW.bipush (pc' := 29) (v := nI 60) d_M_task_27 rfl (by decide) ?_
  refine AW.icmp_geN (tgt := 36) (pc' := 32) d_M_task_29 (by decide) rfl (by omega) (by omega) (fun h => absurd h (by omega)) (fun h29 => ?_)
  refine AW.iconst (pc' := 33) (v := nI 1) d_M_task_32 rfl (by decide) ?_
  refine AW.goto (tgt := 37) d_M_task_33 (by decide) ?_
  refine AW.cV (pc' := 40) d_M_task_37 rfl cv_M_106 (by decide) rfl rfl rfl (k_goes_15_0 X z k o ) rfl rfl rfl rfl rfl rfl rfl ?_
  refine AW.if_ne (tgt := 45) (pc' := 43) d_M_task_40 (by decide) rfl (fun _ => ?_) (fun h => absurd h (by decide))
  refine AW.aload_n (pc' := 46) d_M_task_45 rfl rfl rfl ?_
  refine AW.getf (pc' := 49) d_M_task_46 rfl fl_M_42 rfl rfl ?_
  refine AW.aload_n (pc' := 50) d_M_task_49 rfl rfl rfl ?_
  refine AW.getf (pc' := 53) d_M_task_50 rfl fl_M_126 rfl rfl ?_
  refine AW.iload_n (pc' := 54) d_M_task_53 rfl rfl rfl ?_
  refine AW.iastN (pc' := 55) (w' := (wL z (k_tof_ ((k_thr_ k (nI 0))) (upd (k_tof ((k_thr_ k (nI 0)))) (k_nt ((k_thr_ k (nI 0)))) (nI (s)))) o)) d_M_task_54 rfl rfl hq (by decide) rfl ?_
  refine AW.aload_n (pc' := 56) d_M_task_55 rfl rfl rfl ?_
  refine AW.getf (pc' := 59) d_M_task_56 rfl fl_M_45 rfl rfl ?_
  refine AW.aload_n (pc' := 60) d_M_task_59 rfl rfl rfl ?_
  refine AW.getf (pc' := 63) d_M_task_60 rfl fl_M_126 rfl rfl ?_
  refine AW.top (u := .int (nI (k_nt ((k_thr_ k (nI 0)))))) rfl ?_
  refine AW.iload_n (pc' := 64) d_M_task_63 rfl rfl rfl ?_
  refine AW.iastN (pc' := 65) (w' := (wL z (k_unt_ (k_tof_ ((k_thr_ k (nI 0))) (upd (k_tof ((k_thr_ k (nI 0)))) (k_nt ((k_thr_ k (nI 0)))) (nI (s)))) (upd (k_unt ((k_thr_ k (nI 0)))) (k_nt ((k_thr_ k (nI 0)))) (nI (t)))) o)) d_M_task_64 rfl rfl hq (by decide) rfl ?_
  refine AW.aload_n (pc' := 66) d_M_task_65 rfl rfl rfl ?_
  refine AW.getf (pc' := 69) d_M_task_66 rfl fl_M_48 rfl rfl ?_
  refine AW.aload_n (pc' := 70) d_M_task_69 rfl rfl rfl ?_
  refine AW.getf (pc' := 73) d_M_task_70 rfl fl_M_126 rfl rfl ?_
  refine AW.top (u := .int (nI (k_nt ((k_thr_ k (nI 0)))))) rfl ?_
  refine AW.iconst (pc' := 74) (v := nI 0) d_M_task_73 rfl (by decide) ?_
  refine AW.iastN (pc' := 75) (w' := (wL z (k_sta_ (k_unt_ (k_tof_ ((k_thr_ k (nI 0))) (upd (k_tof ((k_thr_ k (nI 0)))) (k_nt ((k_thr_ k (nI 0)))) (nI (s)))) (upd (k_unt ((k_thr_ k (nI 0)))) (k_nt ((k_thr_ k (nI 0)))) (nI (t)))) (upd (k_sta ((k_thr_ k (nI 0)))) (k_nt ((k_thr_ k (nI 0)))) (nI (0)))) o)) d_M_task_74 rfl rfl hq (by decide) rfl ?_
  refine AW.aload_n (pc' := 76) d_M_task_75 rfl rfl rfl ?_
  refine AW.getf (pc' := 79) d_M_task_76 rfl fl_M_51 rfl rfl ?_
  refine AW.aload_n (pc' := 80) d_M_task_79 rfl rfl rfl ?_
  refine AW.getf (pc' := 83) d_M_task_80 rfl fl_M_126 rfl rfl ?_
  refine AW.top (u := .int (nI (k_nt ((k_thr_ k (nI 0)))))) rfl ?_
  refine AW.iconst (pc' := 84) (v := (-1)) d_M_task_83 rfl (by decide) ?_
  refine AW.iastN (pc' := 85) (w' := (wL z (k_ans_ (k_sta_ (k_unt_ (k_tof_ ((k_thr_ k (nI 0))) (upd (k_tof ((k_thr_ k (nI 0)))) (k_nt ((k_thr_ k (nI 0)))) (nI (s)))) (upd (k_unt ((k_thr_ k (nI 0)))) (k_nt ((k_thr_ k (nI 0)))) (nI (t)))) (upd (k_sta ((k_thr_ k (nI 0)))) (k_nt ((k_thr_ k (nI 0)))) (nI (0)))) (upd (k_ans ((k_thr_ k (nI 0)))) (k_nt ((k_thr_ k (nI 0)))) ((-1)))) o)) d_M_task_84 rfl rfl hq (by decide) rfl ?_
  refine AW.aload_n (pc' := 86) d_M_task_85 rfl rfl rfl ?_
  refine AW.dup (pc' := 87) d_M_task_86 rfl rfl ?_
  refine AW.getf (pc' := 90) d_M_task_87 rfl fl_M_126 rfl rfl ?_
  refine AW.top (u := .int (nI (k_nt ((k_thr_ k (nI 0)))))) rfl ?_
  refine AW.iconst (pc' := 91) (v := nI 1) d_M_task_90 rfl (by decide) ?_
  refine AW.iaddN (pc' := 92) d_M_task_91 rfl ?_
  refine AW.putf (pc' := 95) (w' := (wL z (k_nt_ (k_ans_ (k_sta_ (k_unt_ (k_tof_ ((k_thr_ k (nI 0))) (upd (k_tof ((k_thr_ k (nI 0)))) (k_nt ((k_thr_ k (nI 0)))) (nI (s)))) (upd (k_unt ((k_thr_ k (nI 0)))) (k_nt ((k_thr_ k (nI 0)))) (nI (t)))) (upd (k_sta ((k_thr_ k (nI 0)))) (k_nt ((k_thr_ k (nI 0)))) (nI (0)))) (upd (k_ans ((k_thr_ k (nI 0)))) (k_nt ((k_thr_ k (nI 0)))) ((-1)))) ((k_nt ((k_thr_ k (nI 0)))) + 1)) o)) d_M_task_92 rfl fp_M_126 rfl rfl (fun _ => ⟨rfl, rfl⟩) rfl rfl ?_
  refine AW.aload_n (pc' := 96) d_M_task_95 rfl rfl rfl ?_
  refine AW.getf (pc' := 99) d_M_task_96 rfl fl_M_126 rfl rfl ?_
  refine AW.top (u := .int (nI ((k_nt ((k_thr_ k (nI 0)))) + 1))) rfl ?_
  refine AW.iconst (pc' := 100) (v := nI 1) d_M_task_99 rfl (by decide) ?_
  refine AW.isubN (pc' := 101) d_M_task_100 rfl (by omega) ?_
  exact AW.iret d_M_task_101 rfl rfl rfl ⟨by rfl, rfl⟩
theorem k_answer_0 (X : ct_X) (z : S_c) (k : S_m) (o : Nat → Int64) (x : Int32) (hx : x < 0 ∨ nI (k_nt k) ≤ x) (hnt : k_nt k ≤ 60) (y : Int32) : AF X m_M_answer 3 0 0 [.ref 20, .int (x), .int (y)] (wL z k o) (.inl none) (wL z (k_thr_ k (nI 1)) o) := by
  refine AM.of rfl (Nat.le_of_ble_eq_true rfl) (ls := [some (.ref 20), some (.int (x)), some (.int (y)), none]) rfl ?_
  refine AW.iload_n (pc' := 1) d_M_answer_0 rfl rfl rfl ?_
  refine AW.iconst (pc' := 2) (v := nI 0) d_M_answer_1 rfl (by decide) ?_
  refine AW.aload_n (pc' := 3) d_M_answer_2 rfl rfl rfl ?_
  refine AW.getf (pc' := 6) d_M_answer_3 rfl fl_M_126 rfl rfl ?_
  refine AW.iconst (pc' := 7) (v := nI 1) d_M_answer_6 rfl (by decide) ?_
  refine AW.isub (pc' := 8) d_M_answer_7 rfl ?_
  refine AW.cS (pc' := 11) d_M_answer_8 rfl cs_M_75 (by decide) (k_within_f X z k o x (nI 0) (nI (k_nt k) - nI 1) (out_pred (by omega) hx)) rfl rfl rfl rfl rfl rfl rfl ?_
  refine AW.istore_n (pc' := 12) (ls' := [some (.ref 20), some (.int (x)), some (.int (y)), some (.int (nI (0)))]) d_M_answer_11 rfl rfl rfl rfl ?_
  refine AW.aload_n (pc' := 13) d_M_answer_12 rfl rfl rfl ?_
  refine AW.iconst (pc' := 14) (v := nI 5) d_M_answer_13 rfl (by decide) ?_
  refine AW.iload_n (pc' := 15) d_M_answer_14 rfl rfl rfl ?_
  refine AW.iconst (pc' := 16) (v := nI 1) d_M_answer_15 rfl (by decide) ?_
  refine AW.iload_n (pc' := 17) d_M_answer_16 rfl rfl rfl ?_
  refine AW.if_eq (tgt := 43) (pc' := 20) d_M_answer_17 (by decide) rfl (fun _ => ?_) (fun h => absurd h (by decide))
  refine AW.iconst (pc' := 44) (v := nI 0) d_M_answer_43 rfl (by decide) ?_
  refine AW.iconst (pc' := 45) (v := nI 1) d_M_answer_44 rfl (by decide) ?_
  refine AW.cV (pc' := 48) d_M_answer_45 rfl cv_M_106 (by decide) rfl rfl rfl (k_goes_5_1 X z k o ((nI (1))) ((nI (0))) ((nI (1)))) rfl rfl rfl rfl rfl rfl rfl ?_
  refine AW.if_ne (tgt := 52) (pc' := 51) d_M_answer_48 (by decide) rfl (fun h => absurd h (by decide)) (fun _ => ?_)
  exact AW.vret d_M_answer_51 rfl rfl rfl ⟨rfl, rfl⟩
theorem k_answer_1 (X : ct_X) (z : S_c) (k : S_m) (o : Nat → Int64) (t : Nat) (ht : t < k_nt k) (hnt : k_nt k ≤ 60) (y : Int32) (h1 : ¬ k_sta k t = 0) (h2 : ¬ k_sta k t = nI 3) : AF X m_M_answer 3 0 0 [.ref 20, .int (nI (t)), .int (y)] (wL z k o) (.inl none) (wL z (k_thr_ k (nI 2)) o) := by
  refine AM.of rfl (Nat.le_of_ble_eq_true rfl) (ls := [some (.ref 20), some (.int (nI (t))), some (.int (y)), none]) rfl ?_
  refine AW.iload_n (pc' := 1) d_M_answer_0 rfl rfl rfl ?_
  refine AW.iconst (pc' := 2) (v := nI 0) d_M_answer_1 rfl (by decide) ?_
  refine AW.aload_n (pc' := 3) d_M_answer_2 rfl rfl rfl ?_
  refine AW.getf (pc' := 6) d_M_answer_3 rfl fl_M_126 rfl rfl ?_
  refine AW.iconst (pc' := 7) (v := nI 1) d_M_answer_6 rfl (by decide) ?_
  refine AW.isub (pc' := 8) d_M_answer_7 rfl ?_
  refine AW.cS (pc' := 11) d_M_answer_8 rfl cs_M_75 (by decide) (k_within_t X z k o (nI t) (nI 0) (nI (k_nt k) - nI 1) (in_pred (by omega) ht).1 (in_pred (by omega) ht).2) rfl rfl rfl rfl rfl rfl rfl ?_
  refine AW.istore_n (pc' := 12) (ls' := [some (.ref 20), some (.int (nI (t))), some (.int (y)), some (.int (nI (1)))]) d_M_answer_11 rfl rfl rfl rfl ?_
  refine AW.aload_n (pc' := 13) d_M_answer_12 rfl rfl rfl ?_
  refine AW.iconst (pc' := 14) (v := nI 5) d_M_answer_13 rfl (by decide) ?_
  refine AW.iload_n (pc' := 15) d_M_answer_14 rfl rfl rfl ?_
  refine AW.iconst (pc' := 16) (v := nI 1) d_M_answer_15 rfl (by decide) ?_
  refine AW.iload_n (pc' := 17) d_M_answer_16 rfl rfl rfl ?_
  refine AW.if_eq (tgt := 43) (pc' := 20) d_M_answer_17 (by decide) rfl (fun h => absurd h (by decide)) (fun _ => ?_)
  refine AW.aload_n (pc' := 21) d_M_answer_20 rfl rfl rfl ?_
  refine AW.getf (pc' := 24) d_M_answer_21 rfl fl_M_48 rfl rfl ?_
  refine AW.iload_n (pc' := 25) d_M_answer_24 rfl rfl rfl ?_
  refine AW.ialdN (pc' := 26) d_M_answer_25 rfl rfl (by omega) (by decide) ?_
  refine AW.if_eq (tgt := 39) (pc' := 29) d_M_answer_26 (by decide) rfl (fun h => absurd h h1) (fun h26 => ?_)
  refine AW.aload_n (pc' := 30) d_M_answer_29 rfl rfl rfl ?_
  refine AW.getf (pc' := 33) d_M_answer_30 rfl fl_M_48 rfl rfl ?_
  refine AW.iload_n (pc' := 34) d_M_answer_33 rfl rfl rfl ?_
  refine AW.ialdN (pc' := 35) d_M_answer_34 rfl rfl (by omega) (by decide) ?_
  refine AW.iconst (pc' := 36) (v := nI 3) d_M_answer_35 rfl (by decide) ?_
  refine AW.icmp_ne (tgt := 43) (pc' := 39) d_M_answer_36 (by decide) rfl (fun h36 => ?_) (fun h => absurd h h2)
  refine AW.iconst (pc' := 44) (v := nI 0) d_M_answer_43 rfl (by decide) ?_
  refine AW.iconst (pc' := 45) (v := nI 1) d_M_answer_44 rfl (by decide) ?_
  refine AW.cV (pc' := 48) d_M_answer_45 rfl cv_M_106 (by decide) rfl rfl rfl (k_goes_5_4 X z k o ((nI (1)))) rfl rfl rfl rfl rfl rfl rfl ?_
  refine AW.if_ne (tgt := 52) (pc' := 51) d_M_answer_48 (by decide) rfl (fun h => absurd h (by decide)) (fun _ => ?_)
  exact AW.vret d_M_answer_51 rfl rfl rfl ⟨rfl, rfl⟩
theorem k_answer_2ta (X : ct_X) (z : S_c) (k : S_m) (o : Nat → Int64) (t : Nat) (ht : t < k_nt k) (hnt : k_nt k ≤ 60) (h1 : k_sta k t = 0) : AF X m_M_answer 3 0 0 [.ref 20, .int (nI (t)), .int (nI (1))] (wL z k o) (.inl none) (wL z (k_ans_ (k_sta_ (k_thr_ k (nI 0)) (upd (k_sta k) t (nI 1))) (upd (k_ans k) t (nI (k_now k)))) o) := by
  refine AM.of rfl (Nat.le_of_ble_eq_true rfl) (ls := [some (.ref 20), some (.int (nI (t))), some (.int (nI (1))), none]) rfl ?_
  refine AW.iload_n (pc' := 1) d_M_answer_0 rfl rfl rfl ?_
  refine AW.iconst (pc' := 2) (v := nI 0) d_M_answer_1 rfl (by decide) ?_
  refine AW.aload_n (pc' := 3) d_M_answer_2 rfl rfl rfl ?_
  refine AW.getf (pc' := 6) d_M_answer_3 rfl fl_M_126 rfl rfl ?_
  refine AW.iconst (pc' := 7) (v := nI 1) d_M_answer_6 rfl (by decide) ?_
  refine AW.isub (pc' := 8) d_M_answer_7 rfl ?_
  refine AW.cS (pc' := 11) d_M_answer_8 rfl cs_M_75 (by decide) (k_within_t X z k o (nI t) (nI 0) (nI (k_nt k) - nI 1) (in_pred (by omega) ht).1 (in_pred (by omega) ht).2) rfl rfl rfl rfl rfl rfl rfl ?_
  refine AW.istore_n (pc' := 12) (ls' := [some (.ref 20), some (.int (nI (t))), some (.int (nI (1))), some (.int (nI (1)))]) d_M_answer_11 rfl rfl rfl rfl ?_
  refine AW.aload_n (pc' := 13) d_M_answer_12 rfl rfl rfl ?_
  refine AW.iconst (pc' := 14) (v := nI 5) d_M_answer_13 rfl (by decide) ?_
  refine AW.iload_n (pc' := 15) d_M_answer_14 rfl rfl rfl ?_
  refine AW.iconst (pc' := 16) (v := nI 1) d_M_answer_15 rfl (by decide) ?_
  refine AW.iload_n (pc' := 17) d_M_answer_16 rfl rfl rfl ?_
  refine AW.if_eq (tgt := 43) (pc' := 20) d_M_answer_17 (by decide) rfl (fun h => absurd h (by decide)) (fun _ => ?_)
  refine AW.aload_n (pc' := 21) d_M_answer_20 rfl rfl rfl ?_
  refine AW.getf (pc' := 24) d_M_answer_21 rfl fl_M_48 rfl rfl ?_
  refine AW.iload_n (pc' := 25) d_M_answer_24 rfl rfl rfl ?_
  refine AW.ialdN (pc' := 26) d_M_answer_25 rfl rfl (by omega) (by decide) ?_
  refine AW.if_eq (tgt := 39) (pc' := 29) d_M_answer_26 (by decide) rfl (fun h26 => ?_) (fun h => absurd h1 h)
  refine AW.iconst (pc' := 40) (v := nI 1) d_M_answer_39 rfl (by decide) ?_
  refine AW.goto (tgt := 44) d_M_answer_40 (by decide) ?_
  refine AW.iconst (pc' := 45) (v := nI 1) d_M_answer_44 rfl (by decide) ?_
  refine AW.cV (pc' := 48) d_M_answer_45 rfl cv_M_106 (by decide) rfl rfl rfl (k_goes_5_0 X z k o ) rfl rfl rfl rfl rfl rfl rfl ?_
  refine AW.if_ne (tgt := 52) (pc' := 51) d_M_answer_48 (by decide) rfl (fun _ => ?_) (fun h => absurd h (by decide))
  refine AW.aload_n (pc' := 53) d_M_answer_52 rfl rfl rfl ?_
  refine AW.getf (pc' := 56) d_M_answer_53 rfl fl_M_48 rfl rfl ?_
  refine AW.iload_n (pc' := 57) d_M_answer_56 rfl rfl rfl ?_
  refine AW.iload_n (pc' := 58) d_M_answer_57 rfl rfl rfl ?_
  refine AW.if_eq (tgt := 65) (pc' := 61) d_M_answer_58 (by decide) rfl (fun h => absurd h (by decide)) (fun _ => ?_)
  refine AW.iconst (pc' := 62) (v := nI 1) d_M_answer_61 rfl (by decide) ?_
  refine AW.goto (tgt := 66) d_M_answer_62 (by decide) ?_
  refine AW.iastN (pc' := 67) (w' := (wL z (k_sta_ ((k_thr_ k (nI 0))) (upd (k_sta ((k_thr_ k (nI 0)))) t (nI (1)))) o)) d_M_answer_66 rfl rfl (by omega) (by decide) rfl ?_
  refine AW.aload_n (pc' := 68) d_M_answer_67 rfl rfl rfl ?_
  refine AW.getf (pc' := 71) d_M_answer_68 rfl fl_M_51 rfl rfl ?_
  refine AW.iload_n (pc' := 72) d_M_answer_71 rfl rfl rfl ?_
  refine AW.aload_n (pc' := 73) d_M_answer_72 rfl rfl rfl ?_
  refine AW.getf (pc' := 76) d_M_answer_73 rfl fl_M_89 rfl rfl ?_
  refine AW.top (u := .int (nI (k_now ((k_thr_ k (nI 0)))))) rfl ?_
  refine AW.iastN (pc' := 77) (w' := (wL z (k_ans_ (k_sta_ ((k_thr_ k (nI 0))) (upd (k_sta ((k_thr_ k (nI 0)))) t (nI (1)))) (upd (k_ans ((k_thr_ k (nI 0)))) t (nI (k_now ((k_thr_ k (nI 0))))))) o)) d_M_answer_76 rfl rfl (by omega) (by decide) rfl ?_
  exact AW.vret d_M_answer_77 rfl rfl rfl ⟨rfl, rfl⟩
theorem k_answer_2tb (X : ct_X) (z : S_c) (k : S_m) (o : Nat → Int64) (t : Nat) (ht : t < k_nt k) (hnt : k_nt k ≤ 60) (h1 : ¬ k_sta k t = 0) (h2 : k_sta k t = nI 3) : AF X m_M_answer 3 0 0 [.ref 20, .int (nI (t)), .int (nI (1))] (wL z k o) (.inl none) (wL z (k_ans_ (k_sta_ (k_thr_ k (nI 0)) (upd (k_sta k) t (nI 1))) (upd (k_ans k) t (nI (k_now k)))) o) := by
  refine AM.of rfl (Nat.le_of_ble_eq_true rfl) (ls := [some (.ref 20), some (.int (nI (t))), some (.int (nI (1))), none]) rfl ?_
  refine AW.iload_n (pc' := 1) d_M_answer_0 rfl rfl rfl ?_
  refine AW.iconst (pc' := 2) (v := nI 0) d_M_answer_1 rfl (by decide) ?_
  refine AW.aload_n (pc' := 3) d_M_answer_2 rfl rfl rfl ?_
  refine AW.getf (pc' := 6) d_M_answer_3 rfl fl_M_126 rfl rfl ?_
  refine AW.iconst (pc' := 7) (v := nI 1) d_M_answer_6 rfl (by decide) ?_
  refine AW.isub (pc' := 8) d_M_answer_7 rfl ?_
  refine AW.cS (pc' := 11) d_M_answer_8 rfl cs_M_75 (by decide) (k_within_t X z k o (nI t) (nI 0) (nI (k_nt k) - nI 1) (in_pred (by omega) ht).1 (in_pred (by omega) ht).2) rfl rfl rfl rfl rfl rfl rfl ?_
  refine AW.istore_n (pc' := 12) (ls' := [some (.ref 20), some (.int (nI (t))), some (.int (nI (1))), some (.int (nI (1)))]) d_M_answer_11 rfl rfl rfl rfl ?_
  refine AW.aload_n (pc' := 13) d_M_answer_12 rfl rfl rfl ?_
  refine AW.iconst (pc' := 14) (v := nI 5) d_M_answer_13 rfl (by decide) ?_
  refine AW.iload_n (pc' := 15) d_M_answer_14 rfl rfl rfl ?_
  refine AW.iconst (pc' := 16) (v := nI 1) d_M_answer_15 rfl (by decide) ?_
  refine AW.iload_n (pc' := 17) d_M_answer_16 rfl rfl rfl ?_
  refine AW.if_eq (tgt := 43) (pc' := 20) d_M_answer_17 (by decide) rfl (fun h => absurd h (by decide)) (fun _ => ?_)
  refine AW.aload_n (pc' := 21) d_M_answer_20 rfl rfl rfl ?_
  refine AW.getf (pc' := 24) d_M_answer_21 rfl fl_M_48 rfl rfl ?_
  refine AW.iload_n (pc' := 25) d_M_answer_24 rfl rfl rfl ?_
  refine AW.ialdN (pc' := 26) d_M_answer_25 rfl rfl (by omega) (by decide) ?_
  refine AW.if_eq (tgt := 39) (pc' := 29) d_M_answer_26 (by decide) rfl (fun h => absurd h h1) (fun h26 => ?_)
  refine AW.aload_n (pc' := 30) d_M_answer_29 rfl rfl rfl ?_
  refine AW.getf (pc' := 33) d_M_answer_30 rfl fl_M_48 rfl rfl ?_
  refine AW.iload_n (pc' := 34) d_M_answer_33 rfl rfl rfl ?_
  refine AW.ialdN (pc' := 35) d_M_answer_34 rfl rfl (by omega) (by decide) ?_
  refine AW.iconst (pc' := 36) (v := nI 3) d_M_answer_35 rfl (by decide) ?_
  refine AW.icmp_ne (tgt := 43) (pc' := 39) d_M_answer_36 (by decide) rfl (fun h => absurd h2 h) (fun h36 => ?_)
  refine AW.iconst (pc' := 40) (v := nI 1) d_M_answer_39 rfl (by decide) ?_
  refine AW.goto (tgt := 44) d_M_answer_40 (by decide) ?_
  refine AW.iconst (pc' := 45) (v := nI 1) d_M_answer_44 rfl (by decide) ?_
  refine AW.cV (pc' := 48) d_M_answer_45 rfl cv_M_106 (by decide) rfl rfl rfl (k_goes_5_0 X z k o ) rfl rfl rfl rfl rfl rfl rfl ?_
  refine AW.if_ne (tgt := 52) (pc' := 51) d_M_answer_48 (by decide) rfl (fun _ => ?_) (fun h => absurd h (by decide))
  refine AW.aload_n (pc' := 53) d_M_answer_52 rfl rfl rfl ?_
  refine AW.getf (pc' := 56) d_M_answer_53 rfl fl_M_48 rfl rfl ?_
  refine AW.iload_n (pc' := 57) d_M_answer_56 rfl rfl rfl ?_
  refine AW.iload_n (pc' := 58) d_M_answer_57 rfl rfl rfl ?_
  refine AW.if_eq (tgt := 65) (pc' := 61) d_M_answer_58 (by decide) rfl (fun h => absurd h (by decide)) (fun _ => ?_)
  refine AW.iconst (pc' := 62) (v := nI 1) d_M_answer_61 rfl (by decide) ?_
  refine AW.goto (tgt := 66) d_M_answer_62 (by decide) ?_
  refine AW.iastN (pc' := 67) (w' := (wL z (k_sta_ ((k_thr_ k (nI 0))) (upd (k_sta ((k_thr_ k (nI 0)))) t (nI (1)))) o)) d_M_answer_66 rfl rfl (by omega) (by decide) rfl ?_
  refine AW.aload_n (pc' := 68) d_M_answer_67 rfl rfl rfl ?_
  refine AW.getf (pc' := 71) d_M_answer_68 rfl fl_M_51 rfl rfl ?_
  refine AW.iload_n (pc' := 72) d_M_answer_71 rfl rfl rfl ?_
  refine AW.aload_n (pc' := 73) d_M_answer_72 rfl rfl rfl ?_
  refine AW.getf (pc' := 76) d_M_answer_73 rfl fl_M_89 rfl rfl ?_
  refine AW.top (u := .int (nI (k_now ((k_thr_ k (nI 0)))))) rfl ?_
  refine AW.iastN (pc' := 77) (w' := (wL z (k_ans_ (k_sta_ ((k_thr_ k (nI 0))) (upd (k_sta ((k_thr_ k (nI 0)))) t (nI (1)))) (upd (k_ans ((k_thr_ k (nI 0)))) t (nI (k_now ((k_thr_ k (nI 0))))))) o)) d_M_answer_76 rfl rfl (by omega) (by decide) rfl ?_
  exact AW.vret d_M_answer_77 rfl rfl rfl ⟨rfl, rfl⟩
theorem k_answer_2fa (X : ct_X) (z : S_c) (k : S_m) (o : Nat → Int64) (t : Nat) (ht : t < k_nt k) (hnt : k_nt k ≤ 60) (h1 : k_sta k t = 0) : AF X m_M_answer 3 0 0 [.ref 20, .int (nI (t)), .int (nI (0))] (wL z k o) (.inl none) (wL z (k_ans_ (k_sta_ (k_thr_ k (nI 0)) (upd (k_sta k) t (nI 2))) (upd (k_ans k) t (nI (k_now k)))) o) := by
  refine AM.of rfl (Nat.le_of_ble_eq_true rfl) (ls := [some (.ref 20), some (.int (nI (t))), some (.int (nI (0))), none]) rfl ?_
  refine AW.iload_n (pc' := 1) d_M_answer_0 rfl rfl rfl ?_
  refine AW.iconst (pc' := 2) (v := nI 0) d_M_answer_1 rfl (by decide) ?_
  refine AW.aload_n (pc' := 3) d_M_answer_2 rfl rfl rfl ?_
  refine AW.getf (pc' := 6) d_M_answer_3 rfl fl_M_126 rfl rfl ?_
  refine AW.iconst (pc' := 7) (v := nI 1) d_M_answer_6 rfl (by decide) ?_
  refine AW.isub (pc' := 8) d_M_answer_7 rfl ?_
  refine AW.cS (pc' := 11) d_M_answer_8 rfl cs_M_75 (by decide) (k_within_t X z k o (nI t) (nI 0) (nI (k_nt k) - nI 1) (in_pred (by omega) ht).1 (in_pred (by omega) ht).2) rfl rfl rfl rfl rfl rfl rfl ?_
  refine AW.istore_n (pc' := 12) (ls' := [some (.ref 20), some (.int (nI (t))), some (.int (nI (0))), some (.int (nI (1)))]) d_M_answer_11 rfl rfl rfl rfl ?_
  refine AW.aload_n (pc' := 13) d_M_answer_12 rfl rfl rfl ?_
  refine AW.iconst (pc' := 14) (v := nI 5) d_M_answer_13 rfl (by decide) ?_
  refine AW.iload_n (pc' := 15) d_M_answer_14 rfl rfl rfl ?_
  refine AW.iconst (pc' := 16) (v := nI 1) d_M_answer_15 rfl (by decide) ?_
  refine AW.iload_n (pc' := 17) d_M_answer_16 rfl rfl rfl ?_
  refine AW.if_eq (tgt := 43) (pc' := 20) d_M_answer_17 (by decide) rfl (fun h => absurd h (by decide)) (fun _ => ?_)
  refine AW.aload_n (pc' := 21) d_M_answer_20 rfl rfl rfl ?_
  refine AW.getf (pc' := 24) d_M_answer_21 rfl fl_M_48 rfl rfl ?_
  refine AW.iload_n (pc' := 25) d_M_answer_24 rfl rfl rfl ?_
  refine AW.ialdN (pc' := 26) d_M_answer_25 rfl rfl (by omega) (by decide) ?_
  refine AW.if_eq (tgt := 39) (pc' := 29) d_M_answer_26 (by decide) rfl (fun h26 => ?_) (fun h => absurd h1 h)
  refine AW.iconst (pc' := 40) (v := nI 1) d_M_answer_39 rfl (by decide) ?_
  refine AW.goto (tgt := 44) d_M_answer_40 (by decide) ?_
  refine AW.iconst (pc' := 45) (v := nI 1) d_M_answer_44 rfl (by decide) ?_
  refine AW.cV (pc' := 48) d_M_answer_45 rfl cv_M_106 (by decide) rfl rfl rfl (k_goes_5_0 X z k o ) rfl rfl rfl rfl rfl rfl rfl ?_
  refine AW.if_ne (tgt := 52) (pc' := 51) d_M_answer_48 (by decide) rfl (fun _ => ?_) (fun h => absurd h (by decide))
  refine AW.aload_n (pc' := 53) d_M_answer_52 rfl rfl rfl ?_
  refine AW.getf (pc' := 56) d_M_answer_53 rfl fl_M_48 rfl rfl ?_
  refine AW.iload_n (pc' := 57) d_M_answer_56 rfl rfl rfl ?_
  refine AW.iload_n (pc' := 58) d_M_answer_57 rfl rfl rfl ?_
  refine AW.if_eq (tgt := 65) (pc' := 61) d_M_answer_58 (by decide) rfl (fun _ => ?_) (fun h => absurd h (by decide))
  refine AW.iconst (pc' := 66) (v := nI 2) d_M_answer_65 rfl (by decide) ?_
  refine AW.iastN (pc' := 67) (w' := (wL z (k_sta_ ((k_thr_ k (nI 0))) (upd (k_sta ((k_thr_ k (nI 0)))) t (nI (2)))) o)) d_M_answer_66 rfl rfl (by omega) (by decide) rfl ?_
  refine AW.aload_n (pc' := 68) d_M_answer_67 rfl rfl rfl ?_
  refine AW.getf (pc' := 71) d_M_answer_68 rfl fl_M_51 rfl rfl ?_
  refine AW.iload_n (pc' := 72) d_M_answer_71 rfl rfl rfl ?_
  refine AW.aload_n (pc' := 73) d_M_answer_72 rfl rfl rfl ?_
  refine AW.getf (pc' := 76) d_M_answer_73 rfl fl_M_89 rfl rfl ?_
  refine AW.top (u := .int (nI (k_now ((k_thr_ k (nI 0)))))) rfl ?_
  refine AW.iastN (pc' := 77) (w' := (wL z (k_ans_ (k_sta_ ((k_thr_ k (nI 0))) (upd (k_sta ((k_thr_ k (nI 0)))) t (nI (2)))) (upd (k_ans ((k_thr_ k (nI 0)))) t (nI (k_now ((k_thr_ k (nI 0))))))) o)) d_M_answer_76 rfl rfl (by omega) (by decide) rfl ?_
  exact AW.vret d_M_answer_77 rfl rfl rfl ⟨rfl, rfl⟩
theorem k_answer_2fb (X : ct_X) (z : S_c) (k : S_m) (o : Nat → Int64) (t : Nat) (ht : t < k_nt k) (hnt : k_nt k ≤ 60) (h1 : ¬ k_sta k t = 0) (h2 : k_sta k t = nI 3) : AF X m_M_answer 3 0 0 [.ref 20, .int (nI (t)), .int (nI (0))] (wL z k o) (.inl none) (wL z (k_ans_ (k_sta_ (k_thr_ k (nI 0)) (upd (k_sta k) t (nI 2))) (upd (k_ans k) t (nI (k_now k)))) o) := by
  refine AM.of rfl (Nat.le_of_ble_eq_true rfl) (ls := [some (.ref 20), some (.int (nI (t))), some (.int (nI (0))), none]) rfl ?_
  refine AW.iload_n (pc' := 1) d_M_answer_0 rfl rfl rfl ?_
  refine AW.iconst (pc' := 2) (v := nI 0) d_M_answer_1 rfl (by decide) ?_
  refine AW.aload_n (pc' := 3) d_M_answer_2 rfl rfl rfl ?_
  refine AW.getf (pc' := 6) d_M_answer_3 rfl fl_M_126 rfl rfl ?_
  refine AW.iconst (pc' := 7) (v := nI 1) d_M_answer_6 rfl (by decide) ?_
  refine AW.isub (pc' := 8) d_M_answer_7 rfl ?_
  refine AW.cS (pc' := 11) d_M_answer_8 rfl cs_M_75 (by decide) (k_within_t X z k o (nI t) (nI 0) (nI (k_nt k) - nI 1) (in_pred (by omega) ht).1 (in_pred (by omega) ht).2) rfl rfl rfl rfl rfl rfl rfl ?_
  refine AW.istore_n (pc' := 12) (ls' := [some (.ref 20), some (.int (nI (t))), some (.int (nI (0))), some (.int (nI (1)))]) d_M_answer_11 rfl rfl rfl rfl ?_
  refine AW.aload_n (pc' := 13) d_M_answer_12 rfl rfl rfl ?_
  refine AW.iconst (pc' := 14) (v := nI 5) d_M_answer_13 rfl (by decide) ?_
  refine AW.iload_n (pc' := 15) d_M_answer_14 rfl rfl rfl ?_
  refine AW.iconst (pc' := 16) (v := nI 1) d_M_answer_15 rfl (by decide) ?_
  refine AW.iload_n (pc' := 17) d_M_answer_16 rfl rfl rfl ?_
  refine AW.if_eq (tgt := 43) (pc' := 20) d_M_answer_17 (by decide) rfl (fun h => absurd h (by decide)) (fun _ => ?_)
  refine AW.aload_n (pc' := 21) d_M_answer_20 rfl rfl rfl ?_
  refine AW.getf (pc' := 24) d_M_answer_21 rfl fl_M_48 rfl rfl ?_
  refine AW.iload_n (pc' := 25) d_M_answer_24 rfl rfl rfl ?_
  refine AW.ialdN (pc' := 26) d_M_answer_25 rfl rfl (by omega) (by decide) ?_
  refine AW.if_eq (tgt := 39) (pc' := 29) d_M_answer_26 (by decide) rfl (fun h => absurd h h1) (fun h26 => ?_)
  refine AW.aload_n (pc' := 30) d_M_answer_29 rfl rfl rfl ?_
  refine AW.getf (pc' := 33) d_M_answer_30 rfl fl_M_48 rfl rfl ?_
  refine AW.iload_n (pc' := 34) d_M_answer_33 rfl rfl rfl ?_
  refine AW.ialdN (pc' := 35) d_M_answer_34 rfl rfl (by omega) (by decide) ?_
  refine AW.iconst (pc' := 36) (v := nI 3) d_M_answer_35 rfl (by decide) ?_
  refine AW.icmp_ne (tgt := 43) (pc' := 39) d_M_answer_36 (by decide) rfl (fun h => absurd h2 h) (fun h36 => ?_)
  refine AW.iconst (pc' := 40) (v := nI 1) d_M_answer_39 rfl (by decide) ?_
  refine AW.goto (tgt := 44) d_M_answer_40 (by decide) ?_
  refine AW.iconst (pc' := 45) (v := nI 1) d_M_answer_44 rfl (by decide) ?_
  refine AW.cV (pc' := 48) d_M_answer_45 rfl cv_M_106 (by decide) rfl rfl rfl (k_goes_5_0 X z k o ) rfl rfl rfl rfl rfl rfl rfl ?_
  refine AW.if_ne (tgt := 52) (pc' := 51) d_M_answer_48 (by decide) rfl (fun _ => ?_) (fun h => absurd h (by decide))
  refine AW.aload_n (pc' := 53) d_M_answer_52 rfl rfl rfl ?_
  refine AW.getf (pc' := 56) d_M_answer_53 rfl fl_M_48 rfl rfl ?_
  refine AW.iload_n (pc' := 57) d_M_answer_56 rfl rfl rfl ?_
  refine AW.iload_n (pc' := 58) d_M_answer_57 rfl rfl rfl ?_
  refine AW.if_eq (tgt := 65) (pc' := 61) d_M_answer_58 (by decide) rfl (fun _ => ?_) (fun h => absurd h (by decide))
  refine AW.iconst (pc' := 66) (v := nI 2) d_M_answer_65 rfl (by decide) ?_
  refine AW.iastN (pc' := 67) (w' := (wL z (k_sta_ ((k_thr_ k (nI 0))) (upd (k_sta ((k_thr_ k (nI 0)))) t (nI (2)))) o)) d_M_answer_66 rfl rfl (by omega) (by decide) rfl ?_
  refine AW.aload_n (pc' := 68) d_M_answer_67 rfl rfl rfl ?_
  refine AW.getf (pc' := 71) d_M_answer_68 rfl fl_M_51 rfl rfl ?_
  refine AW.iload_n (pc' := 72) d_M_answer_71 rfl rfl rfl ?_
  refine AW.aload_n (pc' := 73) d_M_answer_72 rfl rfl rfl ?_
  refine AW.getf (pc' := 76) d_M_answer_73 rfl fl_M_89 rfl rfl ?_
  refine AW.top (u := .int (nI (k_now ((k_thr_ k (nI 0)))))) rfl ?_
  refine AW.iastN (pc' := 77) (w' := (wL z (k_ans_ (k_sta_ ((k_thr_ k (nI 0))) (upd (k_sta ((k_thr_ k (nI 0)))) t (nI (2)))) (upd (k_ans ((k_thr_ k (nI 0)))) t (nI (k_now ((k_thr_ k (nI 0))))))) o)) d_M_answer_76 rfl rfl (by omega) (by decide) rfl ?_
  exact AW.vret d_M_answer_77 rfl rfl rfl ⟨rfl, rfl⟩
theorem k_span_0 (X : ct_X) (z : S_c) (k : S_m) (o : Nat → Int64) (x : Int32) (hx : x < nI 1 ∨ nI 20 < x) : AF X m_M_span 3 0 0 [.ref 20, .int (x)] (wL z k o) (.inl (some (.int (nI 0)))) (wL z (k_thr_ k (nI 1)) o) := by
  refine AM.of rfl (Nat.le_of_ble_eq_true rfl) (ls := [some (.ref 20), some (.int (x)), none, none]) rfl ?_
  refine AW.aload_n (pc' := 1) d_M_span_0 rfl rfl rfl ?_
  refine AW.iconst (pc' := 2) (v := nI 2) d_M_span_1 rfl (by decide) ?_
  refine AW.iconst (pc' := 3) (v := nI 1) d_M_span_2 rfl (by decide) ?_
  refine AW.iload_n (pc' := 4) d_M_span_3 rfl rfl rfl ?_
  refine AW.iconst (pc' := 5) (v := nI 1) d_M_span_4 rfl (by decide) ?_
  refine AW.bipush (pc' := 7) (v := nI 20) d_M_span_5 rfl (by decide) ?_
  refine AW.cS (pc' := 10) d_M_span_7 rfl cs_M_75 (by decide) (k_within_f X z k o x (nI 1) (nI 20) hx) rfl rfl rfl rfl rfl rfl rfl ?_
  refine AW.iconst (pc' := 11) (v := nI 1) d_M_span_10 rfl (by decide) ?_
  refine AW.iconst (pc' := 12) (v := nI 1) d_M_span_11 rfl (by decide) ?_
  refine AW.cV (pc' := 15) d_M_span_12 rfl cv_M_106 (by decide) rfl rfl rfl (k_goes_2_2 X z k o ((nI (1))) ((nI (1)))) rfl rfl rfl rfl rfl rfl rfl ?_
  refine AW.if_ne (tgt := 20) (pc' := 18) d_M_span_15 (by decide) rfl (fun h => absurd h (by decide)) (fun _ => ?_)
  refine AW.iconst (pc' := 19) (v := nI 0) d_M_span_18 rfl (by decide) ?_
  exact AW.iret d_M_span_19 rfl rfl rfl ⟨rfl, rfl⟩
theorem lp_kspan (X : ct_X) (z : S_c) (k : S_m) (o : Nat → Int64) (x : Int32) (hn : k_ns k ≤ 20) (hu : k_nu k ≤ 20) (hm : k_span k ≤ 20) : ∀ (n i : Nat), i + n = k_ns k → AW X m_M_span 3 0 0 0 0 29 [some (.ref 20), some (.int (x)), some (.int (nI (cntB (passK k) i))), some (.int (nI (i)))] [] (wL z k o) (fun r w' => r = .inl (some (.int (nI (cntB (passK k) (k_ns k))))) ∧ w' = wL z k o) := by
  intro n
  induction n with
  | zero =>
    intro i hi
    have e : i = k_ns k := by omega
    subst e
    refine AW.iload_n (pc' := 30) d_M_span_29 rfl rfl rfl ?_
    refine AW.aload_n (pc' := 31) d_M_span_30 rfl rfl rfl ?_
    refine AW.getf (pc' := 34) d_M_span_31 rfl fl_M_22 rfl rfl ?_
    refine AW.icmp_geN (tgt := 54) (pc' := 37) d_M_span_34 (by decide) rfl (by omega) (by omega) (fun h34 => ?_) (fun h => absurd h (by omega))
    refine AW.iload_n (pc' := 55) d_M_span_54 rfl rfl rfl ?_
    exact AW.iret d_M_span_55 rfl rfl rfl ⟨rfl, rfl⟩
  | succ n ih =>
    intro i hi
    refine AW.iload_n (pc' := 30) d_M_span_29 rfl rfl rfl ?_
    refine AW.aload_n (pc' := 31) d_M_span_30 rfl rfl rfl ?_
    refine AW.getf (pc' := 34) d_M_span_31 rfl fl_M_22 rfl rfl ?_
    refine AW.icmp_geN (tgt := 54) (pc' := 37) d_M_span_34 (by decide) rfl (by omega) (by omega) (fun h => absurd h (by omega)) (fun h34 => ?_)
    refine AW.aload_n (pc' := 38) d_M_span_37 rfl rfl rfl ?_
    refine AW.iload_n (pc' := 39) d_M_span_38 rfl rfl rfl ?_
    by_cases hb : passK k i = true
    · refine AW.cV (pc' := 42) d_M_span_39 rfl cv_M_136 (by decide) rfl rfl rfl (k_isPassed_t X z k o i (by omega) hn hu hm hb) rfl rfl rfl rfl rfl rfl rfl ?_
      refine AW.if_eq (tgt := 48) (pc' := 45) d_M_span_42 (by decide) rfl (fun h => absurd h (by decide)) (fun _ => ?_)
      refine AW.iincN (pc' := 48) (ls' := [some (.ref 20), some (.int (x)), some (.int (nI ((cntB (passK k) i) + 1))), some (.int (nI (i)))]) d_M_span_45 rfl rfl rfl rfl ?_
      refine AW.iincN (pc' := 51) (ls' := [some (.ref 20), some (.int (x)), some (.int (nI ((cntB (passK k) i) + 1))), some (.int (nI (i + 1)))]) d_M_span_48 rfl rfl rfl rfl ?_
      refine AW.goto (tgt := 29) d_M_span_51 (by decide) ?_
      have h9 := ih (i + 1) (by omega)
      rw [cntB_t (show (passK k) i = true from by simp [hb, hb])] at h9
      exact h9
    · refine AW.cV (pc' := 42) d_M_span_39 rfl cv_M_136 (by decide) rfl rfl rfl (k_isPassed_f X z k o i (by omega) hn hu hm (by simpa using hb)) rfl rfl rfl rfl rfl rfl rfl ?_
      refine AW.if_eq (tgt := 48) (pc' := 45) d_M_span_42 (by decide) rfl (fun _ => ?_) (fun h => absurd h (by decide))
      refine AW.iincN (pc' := 51) (ls' := [some (.ref 20), some (.int (x)), some (.int (nI (cntB (passK k) i))), some (.int (nI (i + 1)))]) d_M_span_48 rfl rfl rfl rfl ?_
      refine AW.goto (tgt := 29) d_M_span_51 (by decide) ?_
      have h9 := ih (i + 1) (by omega)
      rw [cntB_f (show (passK k) i = false from by simp [hb, hb])] at h9
      exact h9
theorem k_span_1 (X : ct_X) (z : S_c) (k : S_m) (o : Nat → Int64) (m : Nat) (hm1 : 1 ≤ m) (hm2 : m ≤ 20) (hn : k_ns k ≤ 20) (hu : k_nu k ≤ 20) : AF X m_M_span 3 0 0 [.ref 20, .int (nI (m))] (wL z k o) (.inl (some (.int (nI (cntB (passK (k_span_ (k_thr_ k (nI 0)) m)) (k_ns k)))))) (wL z (k_span_ (k_thr_ k (nI 0)) m) o) := by
  refine AM.of rfl (Nat.le_of_ble_eq_true rfl) (ls := [some (.ref 20), some (.int (nI (m))), none, none]) rfl ?_
  refine AW.aload_n (pc' := 1) d_M_span_0 rfl rfl rfl ?_
  refine AW.iconst (pc' := 2) (v := nI 2) d_M_span_1 rfl (by decide) ?_
  refine AW.iconst (pc' := 3) (v := nI 1) d_M_span_2 rfl (by decide) ?_
  refine AW.iload_n (pc' := 4) d_M_span_3 rfl rfl rfl ?_
  refine AW.iconst (pc' := 5) (v := nI 1) d_M_span_4 rfl (by decide) ?_
  refine AW.bipush (pc' := 7) (v := nI 20) d_M_span_5 rfl (by decide) ?_
  refine AW.cS (pc' := 10) d_M_span_7 rfl cs_M_75 (by decide) (k_within_t X z k o (nI m) (nI 1) (nI 20) ((nI_leI (by omega) (by omega)).mpr hm1) ((nI_leI (by omega) (by omega)).mpr hm2)) rfl rfl rfl rfl rfl rfl rfl ?_
  refine AW.iconst (pc' := 11) (v := nI 1) d_M_span_10 rfl (by decide) ?_
  refine AW.iconst (pc' := 12) (v := nI 1) d_M_span_11 rfl (by decide) ?_
  refine AW.cV (pc' := 15) d_M_span_12 rfl cv_M_106 (by decide) rfl rfl rfl (k_goes_2_0 X z k o ) rfl rfl rfl rfl rfl rfl rfl ?_
  refine AW.if_ne (tgt := 20) (pc' := 18) d_M_span_15 (by decide) rfl (fun _ => ?_) (fun h => absurd h (by decide))
  refine AW.aload_n (pc' := 21) d_M_span_20 rfl rfl rfl ?_
  refine AW.iload_n (pc' := 22) d_M_span_21 rfl rfl rfl ?_
  refine AW.putf (pc' := 25) (w' := (wL z (k_span_ ((k_thr_ k (nI 0))) (m)) o)) d_M_span_22 rfl fp_M_39 rfl rfl (fun _ => ⟨rfl, rfl⟩) rfl rfl ?_
  refine AW.iconst (pc' := 26) (v := nI 0) d_M_span_25 rfl (by decide) ?_
  refine AW.istore_n (pc' := 27) (ls' := [some (.ref 20), some (.int (nI (m))), some (.int (nI (0))), none]) d_M_span_26 rfl rfl rfl rfl ?_
  refine AW.iconst (pc' := 28) (v := nI 0) d_M_span_27 rfl (by decide) ?_
  refine AW.istore_n (pc' := 29) (ls' := [some (.ref 20), some (.int (nI (m))), some (.int (nI (0))), some (.int (nI (0)))]) d_M_span_28 rfl rfl rfl rfl ?_
  exact lp_kspan X z (k_span_ (k_thr_ k (nI 0)) m) o (nI m) hn hu hm2 (k_ns k) 0 (by show 0 + k_ns k = k_ns k; omega)
theorem k_tick_0 (X : ct_X) (z : S_c) (k : S_m) (o : Nat → Int64) (x : Int32) (hc : k_now k ≤ 99999) (hx : x < nI 1 ∨ nI 5000 < x) : AF X m_M_tick 3 0 0 [.ref 20, .int (x)] (wL z k o) (.inl (some (.int (nI 0)))) (wL z (k_thr_ k (nI 1)) o) := by
  refine AM.of rfl (Nat.le_of_ble_eq_true rfl) (ls := [some (.ref 20), some (.int (x)), none, none]) rfl ?_
  refine AW.aload_n (pc' := 1) d_M_tick_0 rfl rfl rfl ?_
  refine AW.iconst (pc' := 2) (v := nI 2) d_M_tick_1 rfl (by decide) ?_
  refine AW.iconst (pc' := 3) (v := nI 1) d_M_tick_2 rfl (by decide) ?_
  refine AW.iload_n (pc' := 4) d_M_tick_3 rfl rfl rfl ?_
  refine AW.iconst (pc' := 5) (v := nI 1) d_M_tick_4 rfl (by decide) ?_
  refine AW.sipush (pc' := 8) (v := nI 5000) d_M_tick_5 rfl (by decide) ?_
  refine AW.cS (pc' := 11) d_M_tick_8 rfl cs_M_75 (by decide) (k_within_f X z k o x (nI 1) (nI 5000) hx) rfl rfl rfl rfl rfl rfl rfl ?_
  refine AW.if_eq (tgt := 29) (pc' := 14) d_M_tick_11 (by decide) rfl (fun _ => ?_) (fun h => absurd h (by decide))
  refine AW.iconst (pc' := 30) (v := nI 0) d_M_tick_29 rfl (by decide) ?_
  refine AW.iconst (pc' := 31) (v := nI 1) d_M_tick_30 rfl (by decide) ?_
  refine AW.iconst (pc' := 32) (v := nI 1) d_M_tick_31 rfl (by decide) ?_
  refine AW.cV (pc' := 35) d_M_tick_32 rfl cv_M_106 (by decide) rfl rfl rfl (k_goes_2_2 X z k o ((nI (1))) ((nI (1)))) rfl rfl rfl rfl rfl rfl rfl ?_
  refine AW.if_ne (tgt := 40) (pc' := 38) d_M_tick_35 (by decide) rfl (fun h => absurd h (by decide)) (fun _ => ?_)
  refine AW.iconst (pc' := 39) (v := nI 0) d_M_tick_38 rfl (by decide) ?_
  exact AW.iret d_M_tick_39 rfl rfl rfl ⟨rfl, rfl⟩
theorem k_tick_1 (X : ct_X) (z : S_c) (k : S_m) (o : Nat → Int64) (x : Int32) (hc : k_now k ≤ 99999) (h1 : nI 1 ≤ x) (h2 : x ≤ nI 5000) (h3 : nI (99999 - k_now k) < x) : AF X m_M_tick 3 0 0 [.ref 20, .int (x)] (wL z k o) (.inl (some (.int (nI 0)))) (wL z (k_thr_ k (nI 1)) o) := by
  refine AM.of rfl (Nat.le_of_ble_eq_true rfl) (ls := [some (.ref 20), some (.int (x)), none, none]) rfl ?_
  refine AW.aload_n (pc' := 1) d_M_tick_0 rfl rfl rfl ?_
  refine AW.iconst (pc' := 2) (v := nI 2) d_M_tick_1 rfl (by decide) ?_
  refine AW.iconst (pc' := 3) (v := nI 1) d_M_tick_2 rfl (by decide) ?_
  refine AW.iload_n (pc' := 4) d_M_tick_3 rfl rfl rfl ?_
  refine AW.iconst (pc' := 5) (v := nI 1) d_M_tick_4 rfl (by decide) ?_
  refine AW.sipush (pc' := 8) (v := nI 5000) d_M_tick_5 rfl (by decide) ?_
  refine AW.cS (pc' := 11) d_M_tick_8 rfl cs_M_75 (by decide) (k_within_t X z k o x (nI 1) (nI 5000) h1 h2) rfl rfl rfl rfl rfl rfl rfl ?_
  refine AW.if_eq (tgt := 29) (pc' := 14) d_M_tick_11 (by decide) rfl (fun h => absurd h (by decide)) (fun _ => ?_)
  refine AW.iload_n (pc' := 15) d_M_tick_14 rfl rfl rfl ?_
  refine AW.ldc (pc' := 17) d_M_tick_15 rfl cn_M_129 ?_
  refine AW.top (u := .int (nI 99999)) (by decide) ?_
  refine AW.aload_n (pc' := 18) d_M_tick_17 rfl rfl rfl ?_
  refine AW.getf (pc' := 21) d_M_tick_18 rfl fl_M_89 rfl rfl ?_
  refine AW.isubN (pc' := 22) d_M_tick_21 rfl (by omega) ?_
  refine AW.icmp_gt (tgt := 29) (pc' := 25) d_M_tick_22 (by decide) rfl (fun h22 => ?_) (fun h => absurd h3 h)
  refine AW.iconst (pc' := 30) (v := nI 0) d_M_tick_29 rfl (by decide) ?_
  refine AW.iconst (pc' := 31) (v := nI 1) d_M_tick_30 rfl (by decide) ?_
  refine AW.iconst (pc' := 32) (v := nI 1) d_M_tick_31 rfl (by decide) ?_
  refine AW.cV (pc' := 35) d_M_tick_32 rfl cv_M_106 (by decide) rfl rfl rfl (k_goes_2_2 X z k o ((nI (1))) ((nI (1)))) rfl rfl rfl rfl rfl rfl rfl ?_
  refine AW.if_ne (tgt := 40) (pc' := 38) d_M_tick_35 (by decide) rfl (fun h => absurd h (by decide)) (fun _ => ?_)
  refine AW.iconst (pc' := 39) (v := nI 0) d_M_tick_38 rfl (by decide) ?_
  exact AW.iret d_M_tick_39 rfl rfl rfl ⟨rfl, rfl⟩
def tickB (k : S_m) (j : Nat) : Bool := decide (k_sta k j = 0) && decide (k_unt k j < nI (k_now k))
def f_tk (k : S_m) (i : Nat) : Nat → Int32 := fun j => if j < i ∧ tickB k j = true then nI 3 else k_sta k j
theorem tk_at (k : S_m) (i : Nat) : f_tk k i i = k_sta k i := by rw [f_tk, if_neg (by omega)]
theorem tk_t {k : S_m} {i : Nat} (h : tickB k i = true) : upd (f_tk k i) i (nI 3) = f_tk k (i + 1) := by
  funext j
  by_cases e : j = i
  · subst e
    rw [pk_us, f_tk, if_pos ⟨by omega, h⟩]
  · rw [pk_un e, f_tk, f_tk]
    by_cases q : j < i ∧ tickB k j = true
    · rw [if_pos q, if_pos ⟨by omega, q.2⟩]
    · rw [if_neg q, if_neg (fun q' => q ⟨by omega, q'.2⟩)]
theorem tk_f {k : S_m} {i : Nat} (h : tickB k i = false) : f_tk k (i + 1) = f_tk k i := by
  funext j
  rw [f_tk, f_tk]
  by_cases q : j < i ∧ tickB k j = true
  · rw [if_pos q, if_pos ⟨by omega, q.2⟩]
  · rw [if_neg q, if_neg (fun q' => ?_)]
    have e : ¬ j = i := fun e => by
      rw [e, h] at q'
      exact nomatch q'.2
    exact q ⟨by omega, q'.2⟩
theorem tk_0 (k : S_m) : f_tk k 0 = k_sta k := by
  funext j
  rw [f_tk, if_neg (by omega)]
theorem lp_ktick (X : ct_X) (z : S_c) (k : S_m) (o : Nat → Int64) (x : Int32) (hnt : k_nt k ≤ 60) : ∀ (n i : Nat), i + n = k_nt k → AW X m_M_tick 3 0 0 0 0 54 [some (.ref 20), some (.int (x)), some (.int (nI (cntB (tickB k) i))), some (.int (nI (i)))] [] (wL z (k_sta_ k (f_tk k i)) o) (fun r w' => r = .inl (some (.int (nI (cntB (tickB k) (k_nt k))))) ∧ w' = (wL z (k_sta_ k (f_tk k (k_nt k))) o)) := by
  intro n
  induction n with
  | zero =>
    intro i hi
    have e : i = k_nt k := by omega
    subst e
    refine AW.iload_n (pc' := 55) d_M_tick_54 rfl rfl rfl ?_
    refine AW.aload_n (pc' := 56) d_M_tick_55 rfl rfl rfl ?_
    refine AW.getf (pc' := 59) d_M_tick_56 rfl fl_M_126 rfl rfl ?_
    refine AW.top (u := .int (nI (k_nt k))) rfl ?_
    refine AW.icmp_geN (tgt := 103) (pc' := 62) d_M_tick_59 (by decide) rfl (by omega) (by omega) (fun h59 => ?_) (fun h => absurd h (by omega))
    refine AW.iload_n (pc' := 104) d_M_tick_103 rfl rfl rfl ?_
    exact AW.iret d_M_tick_104 rfl rfl rfl ⟨rfl, rfl⟩
  | succ n ih =>
    intro i hi
    refine AW.iload_n (pc' := 55) d_M_tick_54 rfl rfl rfl ?_
    refine AW.aload_n (pc' := 56) d_M_tick_55 rfl rfl rfl ?_
    refine AW.getf (pc' := 59) d_M_tick_56 rfl fl_M_126 rfl rfl ?_
    refine AW.top (u := .int (nI (k_nt k))) rfl ?_
    refine AW.icmp_geN (tgt := 103) (pc' := 62) d_M_tick_59 (by decide) rfl (by omega) (by omega) (fun h => absurd h (by omega)) (fun h59 => ?_)
    refine AW.aload_n (pc' := 63) d_M_tick_62 rfl rfl rfl ?_
    refine AW.getf (pc' := 66) d_M_tick_63 rfl fl_M_48 rfl rfl ?_
    refine AW.iload_n (pc' := 67) d_M_tick_66 rfl rfl rfl ?_
    refine AW.ialdN (pc' := 68) d_M_tick_67 rfl rfl (by omega) (by decide) ?_
    refine AW.top (u := .int (k_sta k i)) (by show Value.int (f_tk k i i) = _; rw [tk_at]) ?_
    refine AW.if_ne (tgt := 97) (pc' := 71) d_M_tick_68 (by decide) rfl (fun h68 => ?_) (fun h68 => ?_)
    · refine AW.iincN (pc' := 100) (ls' := [some (.ref 20), some (.int (x)), some (.int (nI (cntB (tickB k) i))), some (.int (nI (i + 1)))]) d_M_tick_97 rfl rfl rfl rfl ?_
      refine AW.goto (tgt := 54) d_M_tick_100 (by decide) ?_
      have hb : tickB k i = false := by simp [tickB, h68]
      have h9 := ih (i + 1) (by omega)
      rw [cntB_f hb, tk_f hb] at h9
      exact h9
    · refine AW.aload_n (pc' := 72) d_M_tick_71 rfl rfl rfl ?_
      refine AW.getf (pc' := 75) d_M_tick_72 rfl fl_M_89 rfl rfl ?_
      refine AW.top (u := .int (nI (k_now k))) rfl ?_
      refine AW.aload_n (pc' := 76) d_M_tick_75 rfl rfl rfl ?_
      refine AW.getf (pc' := 79) d_M_tick_76 rfl fl_M_45 rfl rfl ?_
      refine AW.iload_n (pc' := 80) d_M_tick_79 rfl rfl rfl ?_
      refine AW.ialdN (pc' := 81) d_M_tick_80 rfl rfl (by omega) (by decide) ?_
      refine AW.top (u := .int ((k_unt k) i)) rfl ?_
      refine AW.icmp_gt (tgt := 87) (pc' := 84) d_M_tick_81 (by decide) rfl (fun h81 => ?_) (fun h81 => ?_)
      · refine AW.aload_n (pc' := 88) d_M_tick_87 rfl rfl rfl ?_
        refine AW.getf (pc' := 91) d_M_tick_88 rfl fl_M_48 rfl rfl ?_
        refine AW.iload_n (pc' := 92) d_M_tick_91 rfl rfl rfl ?_
        refine AW.iconst (pc' := 93) (v := nI 3) d_M_tick_92 rfl (by decide) ?_
        refine AW.iastN (pc' := 94) (w' := (wL z (k_sta_ (k_sta_ k (f_tk k (i))) (upd (f_tk k (i)) i (nI (3)))) o)) d_M_tick_93 rfl rfl (by omega) (by decide) rfl ?_
        refine AW.iincN (pc' := 97) (ls' := [some (.ref 20), some (.int (x)), some (.int (nI ((cntB (tickB k) i) + 1))), some (.int (nI (i)))]) d_M_tick_94 rfl rfl rfl rfl ?_
        refine AW.iincN (pc' := 100) (ls' := [some (.ref 20), some (.int (x)), some (.int (nI ((cntB (tickB k) i) + 1))), some (.int (nI (i + 1)))]) d_M_tick_97 rfl rfl rfl rfl ?_
        refine AW.goto (tgt := 54) d_M_tick_100 (by decide) ?_
        have hb : tickB k i = true := by simp [tickB, h68, h81]
        have h9 := ih (i + 1) (by omega)
        rw [cntB_t hb, ← tk_t hb] at h9
        exact AW.wld rfl h9
      · refine AW.goto (tgt := 97) d_M_tick_84 (by decide) ?_
        refine AW.iincN (pc' := 100) (ls' := [some (.ref 20), some (.int (x)), some (.int (nI (cntB (tickB k) i))), some (.int (nI (i + 1)))]) d_M_tick_97 rfl rfl rfl rfl ?_
        refine AW.goto (tgt := 54) d_M_tick_100 (by decide) ?_
        have hb : tickB k i = false := by simp [tickB, h68, h81]
        have h9 := ih (i + 1) (by omega)
        rw [cntB_f hb, tk_f hb] at h9
        exact h9
theorem k_tick_2 (X : ct_X) (z : S_c) (k : S_m) (o : Nat → Int64) (n : Nat) (hc : k_now k ≤ 99999) (hn1 : 1 ≤ n) (hn2 : n ≤ 5000) (hn3 : n ≤ 99999 - k_now k) (hnt : k_nt k ≤ 60) : AF X m_M_tick 3 0 0 [.ref 20, .int (nI (n))] (wL z k o) (.inl (some (.int (nI (cntB (tickB (k_now_ (k_thr_ k (nI 0)) (k_now k + n))) (k_nt k)))))) (wL z (k_sta_ (k_now_ (k_thr_ k (nI 0)) (k_now k + n)) (f_tk (k_now_ (k_thr_ k (nI 0)) (k_now k + n)) (k_nt k))) o) := by
  refine AM.of rfl (Nat.le_of_ble_eq_true rfl) (ls := [some (.ref 20), some (.int (nI (n))), none, none]) rfl ?_
  refine AW.aload_n (pc' := 1) d_M_tick_0 rfl rfl rfl ?_
  refine AW.iconst (pc' := 2) (v := nI 2) d_M_tick_1 rfl (by decide) ?_
  refine AW.iconst (pc' := 3) (v := nI 1) d_M_tick_2 rfl (by decide) ?_
  refine AW.iload_n (pc' := 4) d_M_tick_3 rfl rfl rfl ?_
  refine AW.iconst (pc' := 5) (v := nI 1) d_M_tick_4 rfl (by decide) ?_
  refine AW.sipush (pc' := 8) (v := nI 5000) d_M_tick_5 rfl (by decide) ?_
  refine AW.cS (pc' := 11) d_M_tick_8 rfl cs_M_75 (by decide) (k_within_t X z k o (nI n) (nI 1) (nI 5000) ((nI_leI (by omega) (by omega)).mpr hn1) ((nI_leI (by omega) (by omega)).mpr hn2)) rfl rfl rfl rfl rfl rfl rfl ?_
  refine AW.if_eq (tgt := 29) (pc' := 14) d_M_tick_11 (by decide) rfl (fun h => absurd h (by decide)) (fun _ => ?_)
  refine AW.iload_n (pc' := 15) d_M_tick_14 rfl rfl rfl ?_
  refine AW.ldc (pc' := 17) d_M_tick_15 rfl cn_M_129 ?_
  refine AW.top (u := .int (nI 99999)) (by decide) ?_
  refine AW.aload_n (pc' := 18) d_M_tick_17 rfl rfl rfl ?_
  refine AW.getf (pc' := 21) d_M_tick_18 rfl fl_M_89 rfl rfl ?_
  refine AW.isubN (pc' := 22) d_M_tick_21 rfl (by omega) ?_
  refine AW.icmp_gtN (tgt := 29) (pc' := 25) d_M_tick_22 (by decide) rfl (by omega) (by omega) (fun h => absurd h (by omega)) (fun h22 => ?_)
  refine AW.iconst (pc' := 26) (v := nI 1) d_M_tick_25 rfl (by decide) ?_
  refine AW.goto (tgt := 30) d_M_tick_26 (by decide) ?_
  refine AW.iconst (pc' := 31) (v := nI 1) d_M_tick_30 rfl (by decide) ?_
  refine AW.iconst (pc' := 32) (v := nI 1) d_M_tick_31 rfl (by decide) ?_
  refine AW.cV (pc' := 35) d_M_tick_32 rfl cv_M_106 (by decide) rfl rfl rfl (k_goes_2_0 X z k o ) rfl rfl rfl rfl rfl rfl rfl ?_
  refine AW.if_ne (tgt := 40) (pc' := 38) d_M_tick_35 (by decide) rfl (fun _ => ?_) (fun h => absurd h (by decide))
  refine AW.aload_n (pc' := 41) d_M_tick_40 rfl rfl rfl ?_
  refine AW.aload_n (pc' := 42) d_M_tick_41 rfl rfl rfl ?_
  refine AW.getf (pc' := 45) d_M_tick_42 rfl fl_M_89 rfl rfl ?_
  refine AW.iload_n (pc' := 46) d_M_tick_45 rfl rfl rfl ?_
  refine AW.iaddN (pc' := 47) d_M_tick_46 rfl ?_
  refine AW.putf (pc' := 50) (w' := (wL z (k_now_ ((k_thr_ k (nI 0))) ((k_now ((k_thr_ k (nI 0)))) + n)) o)) d_M_tick_47 rfl fp_M_89 rfl rfl (fun _ => ⟨rfl, rfl⟩) rfl rfl ?_
  refine AW.iconst (pc' := 51) (v := nI 0) d_M_tick_50 rfl (by decide) ?_
  refine AW.istore_n (pc' := 52) (ls' := [some (.ref 20), some (.int (nI (n))), some (.int (nI (0))), none]) d_M_tick_51 rfl rfl rfl rfl ?_
  refine AW.iconst (pc' := 53) (v := nI 0) d_M_tick_52 rfl (by decide) ?_
  refine AW.istore_n (pc' := 54) (ls' := [some (.ref 20), some (.int (nI (n))), some (.int (nI (0))), some (.int (nI (0)))]) d_M_tick_53 rfl rfl rfl rfl ?_
  have h9 := lp_ktick X z (k_now_ (k_thr_ k (nI 0)) (k_now k + n)) o (nI n) hnt (k_nt k) 0 (by show 0 + k_nt k = k_nt k; omega)
  rw [tk_0] at h9
  exact h9
theorem k_led_0 (X : ct_X) (z : S_c) (k : S_m) (o : Nat → Int64) (x : Int32) (hx : x < 0 ∨ nI (k_ns k) ≤ x) (hn : k_ns k ≤ 20) (y : Int32) : AF X m_M_led 3 0 0 [.ref 20, .int (x), .int (y)] (wL z k o) (.inl (some (.int (nI 0)))) (wL z (k_thr_ k (nI 1)) o) := by
  refine AM.of rfl (Nat.le_of_ble_eq_true rfl) (ls := [some (.ref 20), some (.int (x)), some (.int (y)), none, none]) rfl ?_
  refine AW.aload_n (pc' := 1) d_M_led_0 rfl rfl rfl ?_
  refine AW.bipush (pc' := 3) (v := nI 11) d_M_led_1 rfl (by decide) ?_
  refine AW.aload_n (pc' := 4) d_M_led_3 rfl rfl rfl ?_
  refine AW.iload_n (pc' := 5) d_M_led_4 rfl rfl rfl ?_
  refine AW.cV (pc' := 8) d_M_led_5 rfl cv_M_82 (by decide) rfl rfl rfl (k_isSector_f X z k o x hx (by omega)) rfl rfl rfl rfl rfl rfl rfl ?_
  refine AW.iload_n (pc' := 9) d_M_led_8 rfl rfl rfl ?_
  refine AW.iconst (pc' := 10) (v := nI 0) d_M_led_9 rfl (by decide) ?_
  refine AW.aload_n (pc' := 11) d_M_led_10 rfl rfl rfl ?_
  refine AW.getf (pc' := 14) d_M_led_11 rfl fl_M_89 rfl rfl ?_
  refine AW.cS (pc' := 17) d_M_led_14 rfl cs_M_75 (by decide) (k_within X z k o y (nI 0) (nI (k_now k))) rfl rfl rfl rfl rfl rfl rfl ?_
  refine AW.iconst (pc' := 18) (v := nI 1) d_M_led_17 rfl (by decide) ?_
  refine AW.iload_n (pc' := 19) d_M_led_18 rfl rfl rfl ?_
  refine AW.aload_n (pc' := 20) d_M_led_19 rfl rfl rfl ?_
  refine AW.getf (pc' := 23) d_M_led_20 rfl fl_M_66 rfl rfl ?_
  refine AW.icmp_lt (tgt := 30) (pc' := 26) d_M_led_23 (by decide) rfl (fun h23 => ?_) (fun h23 => ?_)
  · refine AW.iconst (pc' := 31) (v := nI 0) d_M_led_30 rfl (by decide) ?_
    refine AW.cV (pc' := 34) d_M_led_31 rfl cv_M_106 (by decide) rfl rfl rfl (k_goes_11_1 X z k o ((nI (cond (decide (nI 0 ≤ y) && decide (y ≤ nI (k_now k))) 1 0))) ((nI (1))) ((nI (0)))) rfl rfl rfl rfl rfl rfl rfl ?_
    refine AW.if_ne (tgt := 39) (pc' := 37) d_M_led_34 (by decide) rfl (fun h => absurd h (by decide)) (fun _ => ?_)
    refine AW.iconst (pc' := 38) (v := nI 0) d_M_led_37 rfl (by decide) ?_
    exact AW.iret d_M_led_38 rfl rfl rfl ⟨rfl, rfl⟩
  · refine AW.iconst (pc' := 27) (v := nI 1) d_M_led_26 rfl (by decide) ?_
    refine AW.goto (tgt := 31) d_M_led_27 (by decide) ?_
    refine AW.cV (pc' := 34) d_M_led_31 rfl cv_M_106 (by decide) rfl rfl rfl (k_goes_11_1 X z k o ((nI (cond (decide (nI 0 ≤ y) && decide (y ≤ nI (k_now k))) 1 0))) ((nI (1))) ((nI (1)))) rfl rfl rfl rfl rfl rfl rfl ?_
    refine AW.if_ne (tgt := 39) (pc' := 37) d_M_led_34 (by decide) rfl (fun h => absurd h (by decide)) (fun _ => ?_)
    refine AW.iconst (pc' := 38) (v := nI 0) d_M_led_37 rfl (by decide) ?_
    exact AW.iret d_M_led_38 rfl rfl rfl ⟨rfl, rfl⟩
theorem k_led_1 (X : ct_X) (z : S_c) (k : S_m) (o : Nat → Int64) (s : Nat) (hs : s < k_ns k) (hn : k_ns k ≤ 20) (y : Int32) (hy : y < nI 0 ∨ nI (k_now k) < y) : AF X m_M_led 3 0 0 [.ref 20, .int (nI (s)), .int (y)] (wL z k o) (.inl (some (.int (nI 0)))) (wL z (k_thr_ k (nI 2)) o) := by
  refine AM.of rfl (Nat.le_of_ble_eq_true rfl) (ls := [some (.ref 20), some (.int (nI (s))), some (.int (y)), none, none]) rfl ?_
  refine AW.aload_n (pc' := 1) d_M_led_0 rfl rfl rfl ?_
  refine AW.bipush (pc' := 3) (v := nI 11) d_M_led_1 rfl (by decide) ?_
  refine AW.aload_n (pc' := 4) d_M_led_3 rfl rfl rfl ?_
  refine AW.iload_n (pc' := 5) d_M_led_4 rfl rfl rfl ?_
  refine AW.cV (pc' := 8) d_M_led_5 rfl cv_M_82 (by decide) rfl rfl rfl (k_isSector_t X z k o s hs (by omega)) rfl rfl rfl rfl rfl rfl rfl ?_
  refine AW.iload_n (pc' := 9) d_M_led_8 rfl rfl rfl ?_
  refine AW.iconst (pc' := 10) (v := nI 0) d_M_led_9 rfl (by decide) ?_
  refine AW.aload_n (pc' := 11) d_M_led_10 rfl rfl rfl ?_
  refine AW.getf (pc' := 14) d_M_led_11 rfl fl_M_89 rfl rfl ?_
  refine AW.cS (pc' := 17) d_M_led_14 rfl cs_M_75 (by decide) (k_within_f X z k o y (nI 0) (nI (k_now k)) hy) rfl rfl rfl rfl rfl rfl rfl ?_
  refine AW.iconst (pc' := 18) (v := nI 1) d_M_led_17 rfl (by decide) ?_
  refine AW.iload_n (pc' := 19) d_M_led_18 rfl rfl rfl ?_
  refine AW.aload_n (pc' := 20) d_M_led_19 rfl rfl rfl ?_
  refine AW.getf (pc' := 23) d_M_led_20 rfl fl_M_66 rfl rfl ?_
  refine AW.icmp_lt (tgt := 30) (pc' := 26) d_M_led_23 (by decide) rfl (fun h23 => ?_) (fun h23 => ?_)
  · refine AW.iconst (pc' := 31) (v := nI 0) d_M_led_30 rfl (by decide) ?_
    refine AW.cV (pc' := 34) d_M_led_31 rfl cv_M_106 (by decide) rfl rfl rfl (k_goes_11_2 X z k o ((nI (1))) ((nI (0)))) rfl rfl rfl rfl rfl rfl rfl ?_
    refine AW.if_ne (tgt := 39) (pc' := 37) d_M_led_34 (by decide) rfl (fun h => absurd h (by decide)) (fun _ => ?_)
    refine AW.iconst (pc' := 38) (v := nI 0) d_M_led_37 rfl (by decide) ?_
    exact AW.iret d_M_led_38 rfl rfl rfl ⟨rfl, rfl⟩
  · refine AW.iconst (pc' := 27) (v := nI 1) d_M_led_26 rfl (by decide) ?_
    refine AW.goto (tgt := 31) d_M_led_27 (by decide) ?_
    refine AW.cV (pc' := 34) d_M_led_31 rfl cv_M_106 (by decide) rfl rfl rfl (k_goes_11_2 X z k o ((nI (1))) ((nI (1)))) rfl rfl rfl rfl rfl rfl rfl ?_
    refine AW.if_ne (tgt := 39) (pc' := 37) d_M_led_34 (by decide) rfl (fun h => absurd h (by decide)) (fun _ => ?_)
    refine AW.iconst (pc' := 38) (v := nI 0) d_M_led_37 rfl (by decide) ?_
    exact AW.iret d_M_led_38 rfl rfl rfl ⟨rfl, rfl⟩
theorem k_led_2 (X : ct_X) (z : S_c) (k : S_m) (o : Nat → Int64) (s : Nat) (hs : s < k_ns k) (hn : k_ns k ≤ 20) (t : Nat) (ht : t ≤ k_now k) (hc : k_now k ≤ 99999) (h1 : nI t < k_lost k) : AF X m_M_led 3 0 0 [.ref 20, .int (nI (s)), .int (nI (t))] (wL z k o) (.inl (some (.int (nI 0)))) (wL z (k_thr_ k (nI 3)) o) := by
  refine AM.of rfl (Nat.le_of_ble_eq_true rfl) (ls := [some (.ref 20), some (.int (nI (s))), some (.int (nI (t))), none, none]) rfl ?_
  refine AW.aload_n (pc' := 1) d_M_led_0 rfl rfl rfl ?_
  refine AW.bipush (pc' := 3) (v := nI 11) d_M_led_1 rfl (by decide) ?_
  refine AW.aload_n (pc' := 4) d_M_led_3 rfl rfl rfl ?_
  refine AW.iload_n (pc' := 5) d_M_led_4 rfl rfl rfl ?_
  refine AW.cV (pc' := 8) d_M_led_5 rfl cv_M_82 (by decide) rfl rfl rfl (k_isSector_t X z k o s hs (by omega)) rfl rfl rfl rfl rfl rfl rfl ?_
  refine AW.iload_n (pc' := 9) d_M_led_8 rfl rfl rfl ?_
  refine AW.iconst (pc' := 10) (v := nI 0) d_M_led_9 rfl (by decide) ?_
  refine AW.aload_n (pc' := 11) d_M_led_10 rfl rfl rfl ?_
  refine AW.getf (pc' := 14) d_M_led_11 rfl fl_M_89 rfl rfl ?_
  refine AW.cS (pc' := 17) d_M_led_14 rfl cs_M_75 (by decide) (k_within_t X z k o (nI t) (nI 0) (nI (k_now k)) ((nI_leI (by omega) (by omega)).mpr (by omega)) ((nI_leI (by omega) (by omega)).mpr ht)) rfl rfl rfl rfl rfl rfl rfl ?_
  refine AW.iconst (pc' := 18) (v := nI 1) d_M_led_17 rfl (by decide) ?_
  refine AW.iload_n (pc' := 19) d_M_led_18 rfl rfl rfl ?_
  refine AW.aload_n (pc' := 20) d_M_led_19 rfl rfl rfl ?_
  refine AW.getf (pc' := 23) d_M_led_20 rfl fl_M_66 rfl rfl ?_
  refine AW.icmp_lt (tgt := 30) (pc' := 26) d_M_led_23 (by decide) rfl (fun h23 => ?_) (fun h => absurd h1 h)
  refine AW.iconst (pc' := 31) (v := nI 0) d_M_led_30 rfl (by decide) ?_
  refine AW.cV (pc' := 34) d_M_led_31 rfl cv_M_106 (by decide) rfl rfl rfl (k_goes_11_8 X z k o ) rfl rfl rfl rfl rfl rfl rfl ?_
  refine AW.if_ne (tgt := 39) (pc' := 37) d_M_led_34 (by decide) rfl (fun h => absurd h (by decide)) (fun _ => ?_)
  refine AW.iconst (pc' := 38) (v := nI 0) d_M_led_37 rfl (by decide) ?_
  exact AW.iret d_M_led_38 rfl rfl rfl ⟨rfl, rfl⟩
def f_kled (k : S_m) (s t : Int32) : Nat → Nat → Int32 → Int32
  | 0, _, a => a
  | n + 1, i, a => f_kled k s t n (i + 1) (if k_rs k (i % 400) = s ∧ k_rt k (i % 400) ≤ t then k_rl k (i % 400) else a)
theorem lp_kled (X : ct_X) (z : S_c) (k : S_m) (o : Nat → Int64) (s t : Nat) (hr2 : k_rows k < 2 ^ 31) : ∀ (n i : Nat) (a : Int32), i + n = k_rows k → AW X m_M_led 3 0 0 0 0 82 [some (.ref 20), some (.int (nI (s))), some (.int (nI (t))), some (.int (a)), some (.int (nI (i)))] [] (wL z k o) (fun r w' => r = .inl (some (.int (f_kled k (nI s) (nI t) n i a))) ∧ w' = wL z k o) := by
  intro n
  induction n with
  | zero =>
    intro i a hi
    refine AW.iload (pc' := 84) d_M_led_82 rfl rfl ?_
    refine AW.aload_n (pc' := 85) d_M_led_84 rfl rfl rfl ?_
    refine AW.getf (pc' := 88) d_M_led_85 rfl fl_M_86 rfl rfl ?_
    refine AW.icmp_geN (tgt := 139) (pc' := 91) d_M_led_88 (by decide) rfl (by omega) (by omega) (fun h88 => ?_) (fun h => absurd h (by omega))
    refine AW.iload_n (pc' := 140) d_M_led_139 rfl rfl rfl ?_
    exact AW.iret d_M_led_140 rfl rfl rfl ⟨rfl, rfl⟩
  | succ n ih =>
    intro i a hi
    have hi4 : i % 400 < 400 := Nat.mod_lt _ (by decide)
    refine AW.iload (pc' := 84) d_M_led_82 rfl rfl ?_
    refine AW.aload_n (pc' := 85) d_M_led_84 rfl rfl rfl ?_
    refine AW.getf (pc' := 88) d_M_led_85 rfl fl_M_86 rfl rfl ?_
    refine AW.icmp_geN (tgt := 139) (pc' := 91) d_M_led_88 (by decide) rfl (by omega) (by omega) (fun h => absurd h (by omega)) (fun h88 => ?_)
    refine AW.aload_n (pc' := 92) d_M_led_91 rfl rfl rfl ?_
    refine AW.getf (pc' := 95) d_M_led_92 rfl fl_M_54 rfl rfl ?_
    refine AW.iload (pc' := 97) d_M_led_95 rfl rfl ?_
    refine AW.sipush (pc' := 100) (v := nI 400) d_M_led_97 rfl (by decide) ?_
    refine AW.irem (pc' := 101) d_M_led_100 rfl (by decide) ?_
    refine AW.top (u := .int (nI (i % 400))) (by rw [pk_rem (by omega) (by decide) (by decide)]) ?_
    refine AW.ialdN (pc' := 102) d_M_led_101 rfl rfl hi4 (by decide) ?_
    refine AW.iload_n (pc' := 103) d_M_led_102 rfl rfl rfl ?_
    refine AW.icmp_ne (tgt := 133) (pc' := 106) d_M_led_103 (by decide) rfl (fun h103 => ?_) (fun h103 => ?_)
    · refine AW.iincN (pc' := 136) (ls' := [some (.ref 20), some (.int (nI (s))), some (.int (nI (t))), some (.int (a)), some (.int (nI (i + 1)))]) d_M_led_133 rfl rfl rfl rfl ?_
      refine AW.goto (tgt := 82) d_M_led_136 (by decide) ?_
      have h9 := ih (i + 1) a (by omega)
      rw [show f_kled k (nI s) (nI t) (n + 1) i a = f_kled k (nI s) (nI t) n (i + 1) a from by simp [f_kled, h103]]
      exact h9
    · refine AW.aload_n (pc' := 107) d_M_led_106 rfl rfl rfl ?_
      refine AW.getf (pc' := 110) d_M_led_107 rfl fl_M_60 rfl rfl ?_
      refine AW.iload (pc' := 112) d_M_led_110 rfl rfl ?_
      refine AW.sipush (pc' := 115) (v := nI 400) d_M_led_112 rfl (by decide) ?_
      refine AW.irem (pc' := 116) d_M_led_115 rfl (by decide) ?_
      refine AW.top (u := .int (nI (i % 400))) (by rw [pk_rem (by omega) (by decide) (by decide)]) ?_
      refine AW.ialdN (pc' := 117) d_M_led_116 rfl rfl hi4 (by decide) ?_
      refine AW.iload_n (pc' := 118) d_M_led_117 rfl rfl rfl ?_
      refine AW.icmp_gt (tgt := 133) (pc' := 121) d_M_led_118 (by decide) rfl (fun h118 => ?_) (fun h118 => ?_)
      · refine AW.iincN (pc' := 136) (ls' := [some (.ref 20), some (.int (nI (s))), some (.int (nI (t))), some (.int (a)), some (.int (nI (i + 1)))]) d_M_led_133 rfl rfl rfl rfl ?_
        refine AW.goto (tgt := 82) d_M_led_136 (by decide) ?_
        have h9 := ih (i + 1) a (by omega)
        rw [show f_kled k (nI s) (nI t) (n + 1) i a = f_kled k (nI s) (nI t) n (i + 1) a from by simp [f_kled, h103, h118, Int32.not_le.mpr h118]]
        exact h9
      · refine AW.aload_n (pc' := 122) d_M_led_121 rfl rfl rfl ?_
        refine AW.getf (pc' := 125) d_M_led_122 rfl fl_M_57 rfl rfl ?_
        refine AW.iload (pc' := 127) d_M_led_125 rfl rfl ?_
        refine AW.sipush (pc' := 130) (v := nI 400) d_M_led_127 rfl (by decide) ?_
        refine AW.irem (pc' := 131) d_M_led_130 rfl (by decide) ?_
        refine AW.top (u := .int (nI (i % 400))) (by rw [pk_rem (by omega) (by decide) (by decide)]) ?_
        refine AW.ialdN (pc' := 132) d_M_led_131 rfl rfl hi4 (by decide) ?_
        refine AW.istore_n (pc' := 133) (ls' := [some (.ref 20), some (.int (nI (s))), some (.int (nI (t))), some (.int ((k_rl k) (i % 400))), some (.int (nI (i)))]) d_M_led_132 rfl rfl rfl rfl ?_
        refine AW.iincN (pc' := 136) (ls' := [some (.ref 20), some (.int (nI (s))), some (.int (nI (t))), some (.int ((k_rl k) (i % 400))), some (.int (nI (i + 1)))]) d_M_led_133 rfl rfl rfl rfl ?_
        refine AW.goto (tgt := 82) d_M_led_136 (by decide) ?_
        have h9 := ih (i + 1) ((k_rl k) (i % 400)) (by omega)
        rw [show f_kled k (nI s) (nI t) (n + 1) i a = f_kled k (nI s) (nI t) n (i + 1) ((k_rl k) (i % 400)) from by simp [f_kled, h103, h118, Int32.not_lt.mp h118]]
        exact h9
theorem k_led_3 (X : ct_X) (z : S_c) (k : S_m) (o : Nat → Int64) (s : Nat) (hs : s < k_ns k) (hn : k_ns k ≤ 20) (t : Nat) (ht : t ≤ k_now k) (hc : k_now k ≤ 99999) (h1 : k_lost k ≤ nI t) (hr2 : k_rows k < 2 ^ 31) (hr4 : k_rows k ≤ 400) : AF X m_M_led 3 0 0 [.ref 20, .int (nI (s)), .int (nI (t))] (wL z k o) (.inl (some (.int (f_kled (k_thr_ k (nI 0)) (nI s) (nI t) (k_rows k) 0 (k_bef k s))))) (wL z (k_thr_ k (nI 0)) o) := by
  have e9 : k_rows (k_thr_ k (nI 0)) = k_rows k := rfl
  refine AM.of rfl (Nat.le_of_ble_eq_true rfl) (ls := [some (.ref 20), some (.int (nI (s))), some (.int (nI (t))), none, none]) rfl ?_
  refine AW.aload_n (pc' := 1) d_M_led_0 rfl rfl rfl ?_
  refine AW.bipush (pc' := 3) (v := nI 11) d_M_led_1 rfl (by decide) ?_
  refine AW.aload_n (pc' := 4) d_M_led_3 rfl rfl rfl ?_
  refine AW.iload_n (pc' := 5) d_M_led_4 rfl rfl rfl ?_
  refine AW.cV (pc' := 8) d_M_led_5 rfl cv_M_82 (by decide) rfl rfl rfl (k_isSector_t X z k o s hs (by omega)) rfl rfl rfl rfl rfl rfl rfl ?_
  refine AW.iload_n (pc' := 9) d_M_led_8 rfl rfl rfl ?_
  refine AW.iconst (pc' := 10) (v := nI 0) d_M_led_9 rfl (by decide) ?_
  refine AW.aload_n (pc' := 11) d_M_led_10 rfl rfl rfl ?_
  refine AW.getf (pc' := 14) d_M_led_11 rfl fl_M_89 rfl rfl ?_
  refine AW.cS (pc' := 17) d_M_led_14 rfl cs_M_75 (by decide) (k_within_t X z k o (nI t) (nI 0) (nI (k_now k)) ((nI_leI (by omega) (by omega)).mpr (by omega)) ((nI_leI (by omega) (by omega)).mpr ht)) rfl rfl rfl rfl rfl rfl rfl ?_
  refine AW.iconst (pc' := 18) (v := nI 1) d_M_led_17 rfl (by decide) ?_
  refine AW.iload_n (pc' := 19) d_M_led_18 rfl rfl rfl ?_
  refine AW.aload_n (pc' := 20) d_M_led_19 rfl rfl rfl ?_
  refine AW.getf (pc' := 23) d_M_led_20 rfl fl_M_66 rfl rfl ?_
  refine AW.icmp_lt (tgt := 30) (pc' := 26) d_M_led_23 (by decide) rfl (fun h => absurd h1 (Int32.not_le.mpr h)) (fun h23 => ?_)
  refine AW.iconst (pc' := 27) (v := nI 1) d_M_led_26 rfl (by decide) ?_
  refine AW.goto (tgt := 31) d_M_led_27 (by decide) ?_
  refine AW.cV (pc' := 34) d_M_led_31 rfl cv_M_106 (by decide) rfl rfl rfl (k_goes_11_0 X z k o ) rfl rfl rfl rfl rfl rfl rfl ?_
  refine AW.if_ne (tgt := 39) (pc' := 37) d_M_led_34 (by decide) rfl (fun _ => ?_) (fun h => absurd h (by decide))
  refine AW.aload_n (pc' := 40) d_M_led_39 rfl rfl rfl ?_
  refine AW.getf (pc' := 43) d_M_led_40 rfl fl_M_63 rfl rfl ?_
  refine AW.aload_n (pc' := 44) d_M_led_43 rfl rfl rfl ?_
  refine AW.iload_n (pc' := 45) d_M_led_44 rfl rfl rfl ?_
  refine AW.cV (pc' := 48) d_M_led_45 rfl cv_M_82 (by decide) rfl rfl rfl (k_isSector_t X z (k_thr_ k (nI 0)) o s hs (by show k_ns k ≤ 100; omega)) rfl rfl rfl rfl rfl rfl rfl ?_
  refine AW.if_eq (tgt := 55) (pc' := 51) d_M_led_48 (by decide) rfl (fun h => absurd h (by decide)) (fun _ => ?_)
  refine AW.iload_n (pc' := 52) d_M_led_51 rfl rfl rfl ?_
  refine AW.goto (tgt := 56) d_M_led_52 (by decide) ?_
  refine AW.ialdN (pc' := 57) d_M_led_56 rfl rfl (by omega) (by decide) ?_
  refine AW.istore_n (pc' := 58) (ls' := [some (.ref 20), some (.int (nI (s))), some (.int (nI (t))), some (.int ((k_bef ((k_thr_ k (nI 0)))) s)), none]) d_M_led_57 rfl rfl rfl rfl ?_
  refine AW.aload_n (pc' := 59) d_M_led_58 rfl rfl rfl ?_
  refine AW.getf (pc' := 62) d_M_led_59 rfl fl_M_86 rfl rfl ?_
  refine AW.sipush (pc' := 65) (v := nI 400) d_M_led_62 rfl (by decide) ?_
  refine AW.icmp_leN (tgt := 79) (pc' := 68) d_M_led_65 (by decide) rfl (by omega) (by omega) (fun h65 => ?_) (fun h => absurd h (by omega))
  refine AW.iconst (pc' := 80) (v := nI 0) d_M_led_79 rfl (by decide) ?_
  refine AW.istore (pc' := 82) (ls' := [some (.ref 20), some (.int (nI (s))), some (.int (nI (t))), some (.int ((k_bef ((k_thr_ k (nI 0)))) s)), some (.int (nI (0)))]) d_M_led_80 rfl rfl rfl ?_
  exact lp_kled X z (k_thr_ k (nI 0)) o s t hr2 (k_rows k) 0 (k_bef k s) (by show 0 + k_rows k = k_rows k; omega)
theorem k_led_4 (X : ct_X) (z : S_c) (k : S_m) (o : Nat → Int64) (s : Nat) (hs : s < k_ns k) (hn : k_ns k ≤ 20) (t : Nat) (ht : t ≤ k_now k) (hc : k_now k ≤ 99999) (h1 : k_lost k ≤ nI t) (hr2 : k_rows k < 2 ^ 31) (hr4 : 400 < k_rows k) : AF X m_M_led 3 0 0 [.ref 20, .int (nI (s)), .int (nI (t))] (wL z k o) (.inl (some (.int (f_kled (k_thr_ k (nI 0)) (nI s) (nI t) 400 (k_rows k - 400) (k_bef k s))))) (wL z (k_thr_ k (nI 0)) o) := by
  have e9 : k_rows (k_thr_ k (nI 0)) = k_rows k := rfl
  refine AM.of rfl (Nat.le_of_ble_eq_true rfl) (ls := [some (.ref 20), some (.int (nI (s))), some (.int (nI (t))), none, none]) rfl ?_
  refine AW.aload_n (pc' := 1) d_M_led_0 rfl rfl rfl ?_
  refine AW.bipush (pc' := 3) (v := nI 11) d_M_led_1 rfl (by decide) ?_
  refine AW.aload_n (pc' := 4) d_M_led_3 rfl rfl rfl ?_
  refine AW.iload_n (pc' := 5) d_M_led_4 rfl rfl rfl ?_
  refine AW.cV (pc' := 8) d_M_led_5 rfl cv_M_82 (by decide) rfl rfl rfl (k_isSector_t X z k o s hs (by omega)) rfl rfl rfl rfl rfl rfl rfl ?_
  refine AW.iload_n (pc' := 9) d_M_led_8 rfl rfl rfl ?_
  refine AW.iconst (pc' := 10) (v := nI 0) d_M_led_9 rfl (by decide) ?_
  refine AW.aload_n (pc' := 11) d_M_led_10 rfl rfl rfl ?_
  refine AW.getf (pc' := 14) d_M_led_11 rfl fl_M_89 rfl rfl ?_
  refine AW.cS (pc' := 17) d_M_led_14 rfl cs_M_75 (by decide) (k_within_t X z k o (nI t) (nI 0) (nI (k_now k)) ((nI_leI (by omega) (by omega)).mpr (by omega)) ((nI_leI (by omega) (by omega)).mpr ht)) rfl rfl rfl rfl rfl rfl rfl ?_
  refine AW.iconst (pc' := 18) (v := nI 1) d_M_led_17 rfl (by decide) ?_
  refine AW.iload_n (pc' := 19) d_M_led_18 rfl rfl rfl ?_
  refine AW.aload_n (pc' := 20) d_M_led_19 rfl rfl rfl ?_
  refine AW.getf (pc' := 23) d_M_led_20 rfl fl_M_66 rfl rfl ?_
  refine AW.icmp_lt (tgt := 30) (pc' := 26) d_M_led_23 (by decide) rfl (fun h => absurd h1 (Int32.not_le.mpr h)) (fun h23 => ?_)
  refine AW.iconst (pc' := 27) (v := nI 1) d_M_led_26 rfl (by decide) ?_
  refine AW.goto (tgt := 31) d_M_led_27 (by decide) ?_
  refine AW.cV (pc' := 34) d_M_led_31 rfl cv_M_106 (by decide) rfl rfl rfl (k_goes_11_0 X z k o ) rfl rfl rfl rfl rfl rfl rfl ?_
  refine AW.if_ne (tgt := 39) (pc' := 37) d_M_led_34 (by decide) rfl (fun _ => ?_) (fun h => absurd h (by decide))
  refine AW.aload_n (pc' := 40) d_M_led_39 rfl rfl rfl ?_
  refine AW.getf (pc' := 43) d_M_led_40 rfl fl_M_63 rfl rfl ?_
  refine AW.aload_n (pc' := 44) d_M_led_43 rfl rfl rfl ?_
  refine AW.iload_n (pc' := 45) d_M_led_44 rfl rfl rfl ?_
  refine AW.cV (pc' := 48) d_M_led_45 rfl cv_M_82 (by decide) rfl rfl rfl (k_isSector_t X z (k_thr_ k (nI 0)) o s hs (by show k_ns k ≤ 100; omega)) rfl rfl rfl rfl rfl rfl rfl ?_
  refine AW.if_eq (tgt := 55) (pc' := 51) d_M_led_48 (by decide) rfl (fun h => absurd h (by decide)) (fun _ => ?_)
  refine AW.iload_n (pc' := 52) d_M_led_51 rfl rfl rfl ?_
  refine AW.goto (tgt := 56) d_M_led_52 (by decide) ?_
  refine AW.ialdN (pc' := 57) d_M_led_56 rfl rfl (by omega) (by decide) ?_
  refine AW.istore_n (pc' := 58) (ls' := [some (.ref 20), some (.int (nI (s))), some (.int (nI (t))), some (.int ((k_bef ((k_thr_ k (nI 0)))) s)), none]) d_M_led_57 rfl rfl rfl rfl ?_
  refine AW.aload_n (pc' := 59) d_M_led_58 rfl rfl rfl ?_
  refine AW.getf (pc' := 62) d_M_led_59 rfl fl_M_86 rfl rfl ?_
  refine AW.sipush (pc' := 65) (v := nI 400) d_M_led_62 rfl (by decide) ?_
  refine AW.icmp_leN (tgt := 79) (pc' := 68) d_M_led_65 (by decide) rfl (by omega) (by omega) (fun h => absurd h (by omega)) (fun h65 => ?_)
  refine AW.aload_n (pc' := 69) d_M_led_68 rfl rfl rfl ?_
  refine AW.getf (pc' := 72) d_M_led_69 rfl fl_M_86 rfl rfl ?_
  refine AW.sipush (pc' := 75) (v := nI 400) d_M_led_72 rfl (by decide) ?_
  refine AW.isubN (pc' := 76) d_M_led_75 rfl (by omega) ?_
  refine AW.goto (tgt := 80) d_M_led_76 (by decide) ?_
  refine AW.istore (pc' := 82) (ls' := [some (.ref 20), some (.int (nI (s))), some (.int (nI (t))), some (.int ((k_bef ((k_thr_ k (nI 0)))) s)), some (.int (nI ((k_rows ((k_thr_ k (nI 0)))) - 400)))]) d_M_led_80 rfl rfl rfl ?_
  exact lp_kled X z (k_thr_ k (nI 0)) o s t hr2 400 (k_rows k - 400) (k_bef k s) (by show k_rows k - 400 + 400 = k_rows k; omega)
theorem k_sectorAt_x (X : ct_X) (z : S_c) (k : S_m) (o : Nat → Int64) (x : Int32) (hx : x < 0 ∨ nI (k_ns k) ≤ x) (hn : k_ns k ≤ 20) (y : Int32) : AF X m_M_sectorAt 3 0 0 [.ref 20, .int (x), .int (y)] (wL z k o) (.inl (some (.int (nI 0)))) (wL z (k_thr_ k (nI 1)) o) := by
  refine AM.of rfl (Nat.le_of_ble_eq_true rfl) (ls := [some (.ref 20), some (.int (x)), some (.int (y)), none, none]) rfl ?_
  refine AW.aload_n (pc' := 1) d_M_sectorAt_0 rfl rfl rfl ?_
  refine AW.iconst (pc' := 2) (v := nI 1) d_M_sectorAt_1 rfl (by decide) ?_
  refine AW.aload_n (pc' := 3) d_M_sectorAt_2 rfl rfl rfl ?_
  refine AW.iload_n (pc' := 4) d_M_sectorAt_3 rfl rfl rfl ?_
  refine AW.cV (pc' := 7) d_M_sectorAt_4 rfl cv_M_82 (by decide) rfl rfl rfl (k_isSector_f X z k o x hx (by omega)) rfl rfl rfl rfl rfl rfl rfl ?_
  refine AW.if_eq (tgt := 24) (pc' := 10) d_M_sectorAt_7 (by decide) rfl (fun _ => ?_) (fun h => absurd h (by decide))
  refine AW.iconst (pc' := 25) (v := nI 0) d_M_sectorAt_24 rfl (by decide) ?_
  refine AW.iconst (pc' := 26) (v := nI 1) d_M_sectorAt_25 rfl (by decide) ?_
  refine AW.iconst (pc' := 27) (v := nI 1) d_M_sectorAt_26 rfl (by decide) ?_
  refine AW.iconst (pc' := 28) (v := nI 1) d_M_sectorAt_27 rfl (by decide) ?_
  refine AW.cV (pc' := 31) d_M_sectorAt_28 rfl cv_M_106 (by decide) rfl rfl rfl (k_goes_1_1 X z k o ((nI (1))) ((nI (1))) ((nI (1)))) rfl rfl rfl rfl rfl rfl rfl ?_
  refine AW.if_ne (tgt := 36) (pc' := 34) d_M_sectorAt_31 (by decide) rfl (fun h => absurd h (by decide)) (fun _ => ?_)
  refine AW.iconst (pc' := 35) (v := nI 0) d_M_sectorAt_34 rfl (by decide) ?_
  exact AW.iret d_M_sectorAt_35 rfl rfl rfl ⟨rfl, rfl⟩
theorem k_sectorAt_y (X : ct_X) (z : S_c) (k : S_m) (o : Nat → Int64) (s : Nat) (hs : s < k_ns k) (hn : k_ns k ≤ 20) (y : Int32) (hy : y < nI 0 ∨ nI 7 < y) : AF X m_M_sectorAt 3 0 0 [.ref 20, .int (nI (s)), .int (y)] (wL z k o) (.inl (some (.int (nI 0)))) (wL z (k_thr_ k (nI 1)) o) := by
  refine AM.of rfl (Nat.le_of_ble_eq_true rfl) (ls := [some (.ref 20), some (.int (nI (s))), some (.int (y)), none, none]) rfl ?_
  refine AW.aload_n (pc' := 1) d_M_sectorAt_0 rfl rfl rfl ?_
  refine AW.iconst (pc' := 2) (v := nI 1) d_M_sectorAt_1 rfl (by decide) ?_
  refine AW.aload_n (pc' := 3) d_M_sectorAt_2 rfl rfl rfl ?_
  refine AW.iload_n (pc' := 4) d_M_sectorAt_3 rfl rfl rfl ?_
  refine AW.cV (pc' := 7) d_M_sectorAt_4 rfl cv_M_82 (by decide) rfl rfl rfl (k_isSector_t X z k o s hs (by omega)) rfl rfl rfl rfl rfl rfl rfl ?_
  refine AW.if_eq (tgt := 24) (pc' := 10) d_M_sectorAt_7 (by decide) rfl (fun h => absurd h (by decide)) (fun _ => ?_)
  refine AW.iload_n (pc' := 11) d_M_sectorAt_10 rfl rfl rfl ?_
  refine AW.iconst (pc' := 12) (v := nI 0) d_M_sectorAt_11 rfl (by decide) ?_
  refine AW.bipush (pc' := 14) (v := nI 7) d_M_sectorAt_12 rfl (by decide) ?_
  refine AW.cS (pc' := 17) d_M_sectorAt_14 rfl cs_M_75 (by decide) (k_within_f X z k o y (nI 0) (nI 7) hy) rfl rfl rfl rfl rfl rfl rfl ?_
  refine AW.if_eq (tgt := 24) (pc' := 20) d_M_sectorAt_17 (by decide) rfl (fun _ => ?_) (fun h => absurd h (by decide))
  refine AW.iconst (pc' := 25) (v := nI 0) d_M_sectorAt_24 rfl (by decide) ?_
  refine AW.iconst (pc' := 26) (v := nI 1) d_M_sectorAt_25 rfl (by decide) ?_
  refine AW.iconst (pc' := 27) (v := nI 1) d_M_sectorAt_26 rfl (by decide) ?_
  refine AW.iconst (pc' := 28) (v := nI 1) d_M_sectorAt_27 rfl (by decide) ?_
  refine AW.cV (pc' := 31) d_M_sectorAt_28 rfl cv_M_106 (by decide) rfl rfl rfl (k_goes_1_1 X z k o ((nI (1))) ((nI (1))) ((nI (1)))) rfl rfl rfl rfl rfl rfl rfl ?_
  refine AW.if_ne (tgt := 36) (pc' := 34) d_M_sectorAt_31 (by decide) rfl (fun h => absurd h (by decide)) (fun _ => ?_)
  refine AW.iconst (pc' := 35) (v := nI 0) d_M_sectorAt_34 rfl (by decide) ?_
  exact AW.iret d_M_sectorAt_35 rfl rfl rfl ⟨rfl, rfl⟩
theorem lp_ksec (X : ct_X) (z : S_c) (k : S_m) (o : Nat → Int64) (s y : Int32) (hnp : k_np k ≤ 40) {Q : Option Value ⊕ Nat → ct_W → Prop} : ∀ (n i : Nat), i + n = k_np k → AW X m_M_sectorAt 3 0 0 0 0 70 [some (.ref 20), some (.int (s)), some (.int (y)), some (.int (nI (cntB (inB (k_in k) s) (k_np k)))), some (.int (nI (k_np k)))] [] (wL z k o) Q → AW X m_M_sectorAt 3 0 0 0 0 41 [some (.ref 20), some (.int (s)), some (.int (y)), some (.int (nI (cntB (inB (k_in k) s) i))), some (.int (nI (i)))] [] (wL z k o) Q := by
  intro n
  induction n with
  | zero =>
    intro i hi hC
    have e : i = k_np k := by omega
    subst e
    refine AW.iload (pc' := 43) d_M_sectorAt_41 rfl rfl ?_
    refine AW.aload_n (pc' := 44) d_M_sectorAt_43 rfl rfl rfl ?_
    refine AW.getf (pc' := 47) d_M_sectorAt_44 rfl fl_M_72 rfl rfl ?_
    refine AW.icmp_geN (tgt := 70) (pc' := 50) d_M_sectorAt_47 (by decide) rfl (by omega) (by omega) (fun h47 => ?_) (fun h => absurd h (by omega))
    exact hC
  | succ n ih =>
    intro i hi hC
    refine AW.iload (pc' := 43) d_M_sectorAt_41 rfl rfl ?_
    refine AW.aload_n (pc' := 44) d_M_sectorAt_43 rfl rfl rfl ?_
    refine AW.getf (pc' := 47) d_M_sectorAt_44 rfl fl_M_72 rfl rfl ?_
    refine AW.icmp_geN (tgt := 70) (pc' := 50) d_M_sectorAt_47 (by decide) rfl (by omega) (by omega) (fun h => absurd h (by omega)) (fun h47 => ?_)
    refine AW.aload_n (pc' := 51) d_M_sectorAt_50 rfl rfl rfl ?_
    refine AW.getf (pc' := 54) d_M_sectorAt_51 rfl fl_M_13 rfl rfl ?_
    refine AW.iload (pc' := 56) d_M_sectorAt_54 rfl rfl ?_
    refine AW.ialdN (pc' := 57) d_M_sectorAt_56 rfl rfl (by omega) (by decide) ?_
    refine AW.iload_n (pc' := 58) d_M_sectorAt_57 rfl rfl rfl ?_
    refine AW.icmp_ne (tgt := 64) (pc' := 61) d_M_sectorAt_58 (by decide) rfl (fun h58 => ?_) (fun h58 => ?_)
    · refine AW.iincN (pc' := 67) (ls' := [some (.ref 20), some (.int (s)), some (.int (y)), some (.int (nI (cntB (inB (k_in k) s) i))), some (.int (nI (i + 1)))]) d_M_sectorAt_64 rfl rfl rfl rfl ?_
      refine AW.goto (tgt := 41) d_M_sectorAt_67 (by decide) ?_
      have h9 := ih (i + 1) (by omega) hC
      rw [cntB_f (show inB (k_in k) s i = false from by simp [inB, h58])] at h9
      exact h9
    · refine AW.iincN (pc' := 64) (ls' := [some (.ref 20), some (.int (s)), some (.int (y)), some (.int (nI ((cntB (inB (k_in k) s) i) + 1))), some (.int (nI (i)))]) d_M_sectorAt_61 rfl rfl rfl rfl ?_
      refine AW.iincN (pc' := 67) (ls' := [some (.ref 20), some (.int (s)), some (.int (y)), some (.int (nI ((cntB (inB (k_in k) s) i) + 1))), some (.int (nI (i + 1)))]) d_M_sectorAt_64 rfl rfl rfl rfl ?_
      refine AW.goto (tgt := 41) d_M_sectorAt_67 (by decide) ?_
      have h9 := ih (i + 1) (by omega) hC
      rw [cntB_t (show inB (k_in k) s i = true from by simp [inB, h58])] at h9
      exact h9
theorem k_sectorAt_0t (X : ct_X) (z : S_c) (k : S_m) (o : Nat → Int64) (s : Nat) (hs : s < k_ns k) (hn : k_ns k ≤ 20) (hnp : k_np k ≤ 40) (h1 : k_jnd k s = 0) : AF X m_M_sectorAt 3 0 0 [.ref 20, .int (nI (s)), .int (nI (0))] (wL z k o) (.inl (some (.int (nI 1)))) (wL z (k_thr_ k (nI 0)) o) := by
  refine AM.of rfl (Nat.le_of_ble_eq_true rfl) (ls := [some (.ref 20), some (.int (nI (s))), some (.int (nI (0))), none, none]) rfl ?_
  refine AW.aload_n (pc' := 1) d_M_sectorAt_0 rfl rfl rfl ?_
  refine AW.iconst (pc' := 2) (v := nI 1) d_M_sectorAt_1 rfl (by decide) ?_
  refine AW.aload_n (pc' := 3) d_M_sectorAt_2 rfl rfl rfl ?_
  refine AW.iload_n (pc' := 4) d_M_sectorAt_3 rfl rfl rfl ?_
  refine AW.cV (pc' := 7) d_M_sectorAt_4 rfl cv_M_82 (by decide) rfl rfl rfl (k_isSector_t X z k o s hs (by omega)) rfl rfl rfl rfl rfl rfl rfl ?_
  refine AW.if_eq (tgt := 24) (pc' := 10) d_M_sectorAt_7 (by decide) rfl (fun h => absurd h (by decide)) (fun _ => ?_)
  refine AW.iload_n (pc' := 11) d_M_sectorAt_10 rfl rfl rfl ?_
  refine AW.iconst (pc' := 12) (v := nI 0) d_M_sectorAt_11 rfl (by decide) ?_
  refine AW.bipush (pc' := 14) (v := nI 7) d_M_sectorAt_12 rfl (by decide) ?_
  refine AW.cS (pc' := 17) d_M_sectorAt_14 rfl cs_M_75 (by decide) (k_within_t X z k o (nI 0) (nI 0) (nI 7) (by decide) (by decide)) rfl rfl rfl rfl rfl rfl rfl ?_
  refine AW.if_eq (tgt := 24) (pc' := 20) d_M_sectorAt_17 (by decide) rfl (fun h => absurd h (by decide)) (fun _ => ?_)
  refine AW.iconst (pc' := 21) (v := nI 1) d_M_sectorAt_20 rfl (by decide) ?_
  refine AW.goto (tgt := 25) d_M_sectorAt_21 (by decide) ?_
  refine AW.iconst (pc' := 26) (v := nI 1) d_M_sectorAt_25 rfl (by decide) ?_
  refine AW.iconst (pc' := 27) (v := nI 1) d_M_sectorAt_26 rfl (by decide) ?_
  refine AW.iconst (pc' := 28) (v := nI 1) d_M_sectorAt_27 rfl (by decide) ?_
  refine AW.cV (pc' := 31) d_M_sectorAt_28 rfl cv_M_106 (by decide) rfl rfl rfl (k_goes_1_0 X z k o ) rfl rfl rfl rfl rfl rfl rfl ?_
  refine AW.if_ne (tgt := 36) (pc' := 34) d_M_sectorAt_31 (by decide) rfl (fun _ => ?_) (fun h => absurd h (by decide))
  refine AW.iconst (pc' := 37) (v := nI 0) d_M_sectorAt_36 rfl (by decide) ?_
  refine AW.istore_n (pc' := 38) (ls' := [some (.ref 20), some (.int (nI (s))), some (.int (nI (0))), some (.int (nI (0))), none]) d_M_sectorAt_37 rfl rfl rfl rfl ?_
  refine AW.iconst (pc' := 39) (v := nI 0) d_M_sectorAt_38 rfl (by decide) ?_
  refine AW.istore (pc' := 41) (ls' := [some (.ref 20), some (.int (nI (s))), some (.int (nI (0))), some (.int (nI (0))), some (.int (nI (0)))]) d_M_sectorAt_39 rfl rfl rfl ?_
  refine lp_ksec X z (k_thr_ k (nI 0)) o (nI s) (nI 0) hnp (k_np k) 0 (by show 0 + k_np k = k_np k; omega) ?_
  show AW X m_M_sectorAt 3 0 0 0 0 70 [some (.ref 20), some (.int (nI (s))), some (.int (nI (0))), some (.int (nI (cntB (inB (k_in k) (nI s)) (k_np k)))), some (.int (nI (k_np k)))] [] (wL z (k_thr_ k (nI 0)) o) _
  refine AW.iload_n (pc' := 71) d_M_sectorAt_70 rfl rfl rfl ?_
  refine AW.if_ne (tgt := 91) (pc' := 74) d_M_sectorAt_71 (by decide) rfl (fun h => absurd h (by decide)) (fun _ => ?_)
  refine AW.aload_n (pc' := 75) d_M_sectorAt_74 rfl rfl rfl ?_
  refine AW.getf (pc' := 78) d_M_sectorAt_75 rfl fl_M_26 rfl rfl ?_
  refine AW.iload_n (pc' := 79) d_M_sectorAt_78 rfl rfl rfl ?_
  refine AW.zaldN (pc' := 80) d_M_sectorAt_79 rfl rfl (by omega) (by decide) ?_
  refine AW.if_eq (tgt := 87) (pc' := 83) d_M_sectorAt_80 (by decide) rfl (fun h80 => ?_) (fun h => absurd h1 h)
  refine AW.iconst (pc' := 88) (v := nI 1) d_M_sectorAt_87 rfl (by decide) ?_
  refine AW.goto (tgt := 182) d_M_sectorAt_88 (by decide) ?_
  exact AW.iret d_M_sectorAt_182 rfl rfl rfl ⟨rfl, rfl⟩
theorem k_sectorAt_0f (X : ct_X) (z : S_c) (k : S_m) (o : Nat → Int64) (s : Nat) (hs : s < k_ns k) (hn : k_ns k ≤ 20) (hnp : k_np k ≤ 40) (h1 : ¬ k_jnd k s = 0) : AF X m_M_sectorAt 3 0 0 [.ref 20, .int (nI (s)), .int (nI (0))] (wL z k o) (.inl (some (.int (nI 0)))) (wL z (k_thr_ k (nI 0)) o) := by
  refine AM.of rfl (Nat.le_of_ble_eq_true rfl) (ls := [some (.ref 20), some (.int (nI (s))), some (.int (nI (0))), none, none]) rfl ?_
  refine AW.aload_n (pc' := 1) d_M_sectorAt_0 rfl rfl rfl ?_
  refine AW.iconst (pc' := 2) (v := nI 1) d_M_sectorAt_1 rfl (by decide) ?_
  refine AW.aload_n (pc' := 3) d_M_sectorAt_2 rfl rfl rfl ?_
  refine AW.iload_n (pc' := 4) d_M_sectorAt_3 rfl rfl rfl ?_
  refine AW.cV (pc' := 7) d_M_sectorAt_4 rfl cv_M_82 (by decide) rfl rfl rfl (k_isSector_t X z k o s hs (by omega)) rfl rfl rfl rfl rfl rfl rfl ?_
  refine AW.if_eq (tgt := 24) (pc' := 10) d_M_sectorAt_7 (by decide) rfl (fun h => absurd h (by decide)) (fun _ => ?_)
  refine AW.iload_n (pc' := 11) d_M_sectorAt_10 rfl rfl rfl ?_
  refine AW.iconst (pc' := 12) (v := nI 0) d_M_sectorAt_11 rfl (by decide) ?_
  refine AW.bipush (pc' := 14) (v := nI 7) d_M_sectorAt_12 rfl (by decide) ?_
  refine AW.cS (pc' := 17) d_M_sectorAt_14 rfl cs_M_75 (by decide) (k_within_t X z k o (nI 0) (nI 0) (nI 7) (by decide) (by decide)) rfl rfl rfl rfl rfl rfl rfl ?_
  refine AW.if_eq (tgt := 24) (pc' := 20) d_M_sectorAt_17 (by decide) rfl (fun h => absurd h (by decide)) (fun _ => ?_)
  refine AW.iconst (pc' := 21) (v := nI 1) d_M_sectorAt_20 rfl (by decide) ?_
  refine AW.goto (tgt := 25) d_M_sectorAt_21 (by decide) ?_
  refine AW.iconst (pc' := 26) (v := nI 1) d_M_sectorAt_25 rfl (by decide) ?_
  refine AW.iconst (pc' := 27) (v := nI 1) d_M_sectorAt_26 rfl (by decide) ?_
  refine AW.iconst (pc' := 28) (v := nI 1) d_M_sectorAt_27 rfl (by decide) ?_
  refine AW.cV (pc' := 31) d_M_sectorAt_28 rfl cv_M_106 (by decide) rfl rfl rfl (k_goes_1_0 X z k o ) rfl rfl rfl rfl rfl rfl rfl ?_
  refine AW.if_ne (tgt := 36) (pc' := 34) d_M_sectorAt_31 (by decide) rfl (fun _ => ?_) (fun h => absurd h (by decide))
  refine AW.iconst (pc' := 37) (v := nI 0) d_M_sectorAt_36 rfl (by decide) ?_
  refine AW.istore_n (pc' := 38) (ls' := [some (.ref 20), some (.int (nI (s))), some (.int (nI (0))), some (.int (nI (0))), none]) d_M_sectorAt_37 rfl rfl rfl rfl ?_
  refine AW.iconst (pc' := 39) (v := nI 0) d_M_sectorAt_38 rfl (by decide) ?_
  refine AW.istore (pc' := 41) (ls' := [some (.ref 20), some (.int (nI (s))), some (.int (nI (0))), some (.int (nI (0))), some (.int (nI (0)))]) d_M_sectorAt_39 rfl rfl rfl ?_
  refine lp_ksec X z (k_thr_ k (nI 0)) o (nI s) (nI 0) hnp (k_np k) 0 (by show 0 + k_np k = k_np k; omega) ?_
  show AW X m_M_sectorAt 3 0 0 0 0 70 [some (.ref 20), some (.int (nI (s))), some (.int (nI (0))), some (.int (nI (cntB (inB (k_in k) (nI s)) (k_np k)))), some (.int (nI (k_np k)))] [] (wL z (k_thr_ k (nI 0)) o) _
  refine AW.iload_n (pc' := 71) d_M_sectorAt_70 rfl rfl rfl ?_
  refine AW.if_ne (tgt := 91) (pc' := 74) d_M_sectorAt_71 (by decide) rfl (fun h => absurd h (by decide)) (fun _ => ?_)
  refine AW.aload_n (pc' := 75) d_M_sectorAt_74 rfl rfl rfl ?_
  refine AW.getf (pc' := 78) d_M_sectorAt_75 rfl fl_M_26 rfl rfl ?_
  refine AW.iload_n (pc' := 79) d_M_sectorAt_78 rfl rfl rfl ?_
  refine AW.zaldN (pc' := 80) d_M_sectorAt_79 rfl rfl (by omega) (by decide) ?_
  refine AW.if_eq (tgt := 87) (pc' := 83) d_M_sectorAt_80 (by decide) rfl (fun h => absurd h h1) (fun h80 => ?_)
  refine AW.iconst (pc' := 84) (v := nI 0) d_M_sectorAt_83 rfl (by decide) ?_
  refine AW.goto (tgt := 182) d_M_sectorAt_84 (by decide) ?_
  exact AW.iret d_M_sectorAt_182 rfl rfl rfl ⟨rfl, rfl⟩
theorem k_sectorAt_1 (X : ct_X) (z : S_c) (k : S_m) (o : Nat → Int64) (s : Nat) (hs : s < k_ns k) (hn : k_ns k ≤ 20) (hnp : k_np k ≤ 40)  : AF X m_M_sectorAt 3 0 0 [.ref 20, .int (nI (s)), .int (nI (1))] (wL z k o) (.inl (some (.int (k_ldr k s)))) (wL z (k_thr_ k (nI 0)) o) := by
  refine AM.of rfl (Nat.le_of_ble_eq_true rfl) (ls := [some (.ref 20), some (.int (nI (s))), some (.int (nI (1))), none, none]) rfl ?_
  refine AW.aload_n (pc' := 1) d_M_sectorAt_0 rfl rfl rfl ?_
  refine AW.iconst (pc' := 2) (v := nI 1) d_M_sectorAt_1 rfl (by decide) ?_
  refine AW.aload_n (pc' := 3) d_M_sectorAt_2 rfl rfl rfl ?_
  refine AW.iload_n (pc' := 4) d_M_sectorAt_3 rfl rfl rfl ?_
  refine AW.cV (pc' := 7) d_M_sectorAt_4 rfl cv_M_82 (by decide) rfl rfl rfl (k_isSector_t X z k o s hs (by omega)) rfl rfl rfl rfl rfl rfl rfl ?_
  refine AW.if_eq (tgt := 24) (pc' := 10) d_M_sectorAt_7 (by decide) rfl (fun h => absurd h (by decide)) (fun _ => ?_)
  refine AW.iload_n (pc' := 11) d_M_sectorAt_10 rfl rfl rfl ?_
  refine AW.iconst (pc' := 12) (v := nI 0) d_M_sectorAt_11 rfl (by decide) ?_
  refine AW.bipush (pc' := 14) (v := nI 7) d_M_sectorAt_12 rfl (by decide) ?_
  refine AW.cS (pc' := 17) d_M_sectorAt_14 rfl cs_M_75 (by decide) (k_within_t X z k o (nI 1) (nI 0) (nI 7) (by decide) (by decide)) rfl rfl rfl rfl rfl rfl rfl ?_
  refine AW.if_eq (tgt := 24) (pc' := 20) d_M_sectorAt_17 (by decide) rfl (fun h => absurd h (by decide)) (fun _ => ?_)
  refine AW.iconst (pc' := 21) (v := nI 1) d_M_sectorAt_20 rfl (by decide) ?_
  refine AW.goto (tgt := 25) d_M_sectorAt_21 (by decide) ?_
  refine AW.iconst (pc' := 26) (v := nI 1) d_M_sectorAt_25 rfl (by decide) ?_
  refine AW.iconst (pc' := 27) (v := nI 1) d_M_sectorAt_26 rfl (by decide) ?_
  refine AW.iconst (pc' := 28) (v := nI 1) d_M_sectorAt_27 rfl (by decide) ?_
  refine AW.cV (pc' := 31) d_M_sectorAt_28 rfl cv_M_106 (by decide) rfl rfl rfl (k_goes_1_0 X z k o ) rfl rfl rfl rfl rfl rfl rfl ?_
  refine AW.if_ne (tgt := 36) (pc' := 34) d_M_sectorAt_31 (by decide) rfl (fun _ => ?_) (fun h => absurd h (by decide))
  refine AW.iconst (pc' := 37) (v := nI 0) d_M_sectorAt_36 rfl (by decide) ?_
  refine AW.istore_n (pc' := 38) (ls' := [some (.ref 20), some (.int (nI (s))), some (.int (nI (1))), some (.int (nI (0))), none]) d_M_sectorAt_37 rfl rfl rfl rfl ?_
  refine AW.iconst (pc' := 39) (v := nI 0) d_M_sectorAt_38 rfl (by decide) ?_
  refine AW.istore (pc' := 41) (ls' := [some (.ref 20), some (.int (nI (s))), some (.int (nI (1))), some (.int (nI (0))), some (.int (nI (0)))]) d_M_sectorAt_39 rfl rfl rfl ?_
  refine lp_ksec X z (k_thr_ k (nI 0)) o (nI s) (nI 1) hnp (k_np k) 0 (by show 0 + k_np k = k_np k; omega) ?_
  show AW X m_M_sectorAt 3 0 0 0 0 70 [some (.ref 20), some (.int (nI (s))), some (.int (nI (1))), some (.int (nI (cntB (inB (k_in k) (nI s)) (k_np k)))), some (.int (nI (k_np k)))] [] (wL z (k_thr_ k (nI 0)) o) _
  refine AW.iload_n (pc' := 71) d_M_sectorAt_70 rfl rfl rfl ?_
  refine AW.if_ne (tgt := 91) (pc' := 74) d_M_sectorAt_71 (by decide) rfl (fun _ => ?_) (fun h => absurd h (by decide))
  refine AW.iload_n (pc' := 92) d_M_sectorAt_91 rfl rfl rfl ?_
  refine AW.iconst (pc' := 93) (v := nI 1) d_M_sectorAt_92 rfl (by decide) ?_
  refine AW.icmp_neN (tgt := 105) (pc' := 96) d_M_sectorAt_93 (by decide) rfl (by decide) (by decide) (fun h => absurd h (by decide)) (fun _ => ?_)
  refine AW.aload_n (pc' := 97) d_M_sectorAt_96 rfl rfl rfl ?_
  refine AW.getf (pc' := 100) d_M_sectorAt_97 rfl fl_M_33 rfl rfl ?_
  refine AW.iload_n (pc' := 101) d_M_sectorAt_100 rfl rfl rfl ?_
  refine AW.ialdN (pc' := 102) d_M_sectorAt_101 rfl rfl (by omega) (by decide) ?_
  refine AW.goto (tgt := 182) d_M_sectorAt_102 (by decide) ?_
  exact AW.iret d_M_sectorAt_182 rfl rfl rfl ⟨rfl, rfl⟩
theorem k_sectorAt_2 (X : ct_X) (z : S_c) (k : S_m) (o : Nat → Int64) (s : Nat) (hs : s < k_ns k) (hn : k_ns k ≤ 20) (hnp : k_np k ≤ 40)  : AF X m_M_sectorAt 3 0 0 [.ref 20, .int (nI (s)), .int (nI (2))] (wL z k o) (.inl (some (.int (k_abv k s)))) (wL z (k_thr_ k (nI 0)) o) := by
  refine AM.of rfl (Nat.le_of_ble_eq_true rfl) (ls := [some (.ref 20), some (.int (nI (s))), some (.int (nI (2))), none, none]) rfl ?_
  refine AW.aload_n (pc' := 1) d_M_sectorAt_0 rfl rfl rfl ?_
  refine AW.iconst (pc' := 2) (v := nI 1) d_M_sectorAt_1 rfl (by decide) ?_
  refine AW.aload_n (pc' := 3) d_M_sectorAt_2 rfl rfl rfl ?_
  refine AW.iload_n (pc' := 4) d_M_sectorAt_3 rfl rfl rfl ?_
  refine AW.cV (pc' := 7) d_M_sectorAt_4 rfl cv_M_82 (by decide) rfl rfl rfl (k_isSector_t X z k o s hs (by omega)) rfl rfl rfl rfl rfl rfl rfl ?_
  refine AW.if_eq (tgt := 24) (pc' := 10) d_M_sectorAt_7 (by decide) rfl (fun h => absurd h (by decide)) (fun _ => ?_)
  refine AW.iload_n (pc' := 11) d_M_sectorAt_10 rfl rfl rfl ?_
  refine AW.iconst (pc' := 12) (v := nI 0) d_M_sectorAt_11 rfl (by decide) ?_
  refine AW.bipush (pc' := 14) (v := nI 7) d_M_sectorAt_12 rfl (by decide) ?_
  refine AW.cS (pc' := 17) d_M_sectorAt_14 rfl cs_M_75 (by decide) (k_within_t X z k o (nI 2) (nI 0) (nI 7) (by decide) (by decide)) rfl rfl rfl rfl rfl rfl rfl ?_
  refine AW.if_eq (tgt := 24) (pc' := 20) d_M_sectorAt_17 (by decide) rfl (fun h => absurd h (by decide)) (fun _ => ?_)
  refine AW.iconst (pc' := 21) (v := nI 1) d_M_sectorAt_20 rfl (by decide) ?_
  refine AW.goto (tgt := 25) d_M_sectorAt_21 (by decide) ?_
  refine AW.iconst (pc' := 26) (v := nI 1) d_M_sectorAt_25 rfl (by decide) ?_
  refine AW.iconst (pc' := 27) (v := nI 1) d_M_sectorAt_26 rfl (by decide) ?_
  refine AW.iconst (pc' := 28) (v := nI 1) d_M_sectorAt_27 rfl (by decide) ?_
  refine AW.cV (pc' := 31) d_M_sectorAt_28 rfl cv_M_106 (by decide) rfl rfl rfl (k_goes_1_0 X z k o ) rfl rfl rfl rfl rfl rfl rfl ?_
  refine AW.if_ne (tgt := 36) (pc' := 34) d_M_sectorAt_31 (by decide) rfl (fun _ => ?_) (fun h => absurd h (by decide))
  refine AW.iconst (pc' := 37) (v := nI 0) d_M_sectorAt_36 rfl (by decide) ?_
  refine AW.istore_n (pc' := 38) (ls' := [some (.ref 20), some (.int (nI (s))), some (.int (nI (2))), some (.int (nI (0))), none]) d_M_sectorAt_37 rfl rfl rfl rfl ?_
  refine AW.iconst (pc' := 39) (v := nI 0) d_M_sectorAt_38 rfl (by decide) ?_
  refine AW.istore (pc' := 41) (ls' := [some (.ref 20), some (.int (nI (s))), some (.int (nI (2))), some (.int (nI (0))), some (.int (nI (0)))]) d_M_sectorAt_39 rfl rfl rfl ?_
  refine lp_ksec X z (k_thr_ k (nI 0)) o (nI s) (nI 2) hnp (k_np k) 0 (by show 0 + k_np k = k_np k; omega) ?_
  show AW X m_M_sectorAt 3 0 0 0 0 70 [some (.ref 20), some (.int (nI (s))), some (.int (nI (2))), some (.int (nI (cntB (inB (k_in k) (nI s)) (k_np k)))), some (.int (nI (k_np k)))] [] (wL z (k_thr_ k (nI 0)) o) _
  refine AW.iload_n (pc' := 71) d_M_sectorAt_70 rfl rfl rfl ?_
  refine AW.if_ne (tgt := 91) (pc' := 74) d_M_sectorAt_71 (by decide) rfl (fun _ => ?_) (fun h => absurd h (by decide))
  refine AW.iload_n (pc' := 92) d_M_sectorAt_91 rfl rfl rfl ?_
  refine AW.iconst (pc' := 93) (v := nI 1) d_M_sectorAt_92 rfl (by decide) ?_
  refine AW.icmp_neN (tgt := 105) (pc' := 96) d_M_sectorAt_93 (by decide) rfl (by decide) (by decide) (fun _ => ?_) (fun h => absurd h (by decide))
  refine AW.iload_n (pc' := 106) d_M_sectorAt_105 rfl rfl rfl ?_
  refine AW.iconst (pc' := 107) (v := nI 2) d_M_sectorAt_106 rfl (by decide) ?_
  refine AW.icmp_neN (tgt := 119) (pc' := 110) d_M_sectorAt_107 (by decide) rfl (by decide) (by decide) (fun h => absurd h (by decide)) (fun _ => ?_)
  refine AW.aload_n (pc' := 111) d_M_sectorAt_110 rfl rfl rfl ?_
  refine AW.getf (pc' := 114) d_M_sectorAt_111 rfl fl_M_30 rfl rfl ?_
  refine AW.iload_n (pc' := 115) d_M_sectorAt_114 rfl rfl rfl ?_
  refine AW.ialdN (pc' := 116) d_M_sectorAt_115 rfl rfl (by omega) (by decide) ?_
  refine AW.goto (tgt := 182) d_M_sectorAt_116 (by decide) ?_
  exact AW.iret d_M_sectorAt_182 rfl rfl rfl ⟨rfl, rfl⟩
theorem k_sectorAt_3 (X : ct_X) (z : S_c) (k : S_m) (o : Nat → Int64) (s : Nat) (hs : s < k_ns k) (hn : k_ns k ≤ 20) (hnp : k_np k ≤ 40)  : AF X m_M_sectorAt 3 0 0 [.ref 20, .int (nI (s)), .int (nI (3))] (wL z k o) (.inl (some (.int (nI (cntB (inB (k_in k) (nI s)) (k_np k)))))) (wL z (k_thr_ k (nI 0)) o) := by
  refine AM.of rfl (Nat.le_of_ble_eq_true rfl) (ls := [some (.ref 20), some (.int (nI (s))), some (.int (nI (3))), none, none]) rfl ?_
  refine AW.aload_n (pc' := 1) d_M_sectorAt_0 rfl rfl rfl ?_
  refine AW.iconst (pc' := 2) (v := nI 1) d_M_sectorAt_1 rfl (by decide) ?_
  refine AW.aload_n (pc' := 3) d_M_sectorAt_2 rfl rfl rfl ?_
  refine AW.iload_n (pc' := 4) d_M_sectorAt_3 rfl rfl rfl ?_
  refine AW.cV (pc' := 7) d_M_sectorAt_4 rfl cv_M_82 (by decide) rfl rfl rfl (k_isSector_t X z k o s hs (by omega)) rfl rfl rfl rfl rfl rfl rfl ?_
  refine AW.if_eq (tgt := 24) (pc' := 10) d_M_sectorAt_7 (by decide) rfl (fun h => absurd h (by decide)) (fun _ => ?_)
  refine AW.iload_n (pc' := 11) d_M_sectorAt_10 rfl rfl rfl ?_
  refine AW.iconst (pc' := 12) (v := nI 0) d_M_sectorAt_11 rfl (by decide) ?_
  refine AW.bipush (pc' := 14) (v := nI 7) d_M_sectorAt_12 rfl (by decide) ?_
  refine AW.cS (pc' := 17) d_M_sectorAt_14 rfl cs_M_75 (by decide) (k_within_t X z k o (nI 3) (nI 0) (nI 7) (by decide) (by decide)) rfl rfl rfl rfl rfl rfl rfl ?_
  refine AW.if_eq (tgt := 24) (pc' := 20) d_M_sectorAt_17 (by decide) rfl (fun h => absurd h (by decide)) (fun _ => ?_)
  refine AW.iconst (pc' := 21) (v := nI 1) d_M_sectorAt_20 rfl (by decide) ?_
  refine AW.goto (tgt := 25) d_M_sectorAt_21 (by decide) ?_
  refine AW.iconst (pc' := 26) (v := nI 1) d_M_sectorAt_25 rfl (by decide) ?_
  refine AW.iconst (pc' := 27) (v := nI 1) d_M_sectorAt_26 rfl (by decide) ?_
  refine AW.iconst (pc' := 28) (v := nI 1) d_M_sectorAt_27 rfl (by decide) ?_
  refine AW.cV (pc' := 31) d_M_sectorAt_28 rfl cv_M_106 (by decide) rfl rfl rfl (k_goes_1_0 X z k o ) rfl rfl rfl rfl rfl rfl rfl ?_
  refine AW.if_ne (tgt := 36) (pc' := 34) d_M_sectorAt_31 (by decide) rfl (fun _ => ?_) (fun h => absurd h (by decide))
  refine AW.iconst (pc' := 37) (v := nI 0) d_M_sectorAt_36 rfl (by decide) ?_
  refine AW.istore_n (pc' := 38) (ls' := [some (.ref 20), some (.int (nI (s))), some (.int (nI (3))), some (.int (nI (0))), none]) d_M_sectorAt_37 rfl rfl rfl rfl ?_
  refine AW.iconst (pc' := 39) (v := nI 0) d_M_sectorAt_38 rfl (by decide) ?_
  refine AW.istore (pc' := 41) (ls' := [some (.ref 20), some (.int (nI (s))), some (.int (nI (3))), some (.int (nI (0))), some (.int (nI (0)))]) d_M_sectorAt_39 rfl rfl rfl ?_
  refine lp_ksec X z (k_thr_ k (nI 0)) o (nI s) (nI 3) hnp (k_np k) 0 (by show 0 + k_np k = k_np k; omega) ?_
  show AW X m_M_sectorAt 3 0 0 0 0 70 [some (.ref 20), some (.int (nI (s))), some (.int (nI (3))), some (.int (nI (cntB (inB (k_in k) (nI s)) (k_np k)))), some (.int (nI (k_np k)))] [] (wL z (k_thr_ k (nI 0)) o) _
  refine AW.iload_n (pc' := 71) d_M_sectorAt_70 rfl rfl rfl ?_
  refine AW.if_ne (tgt := 91) (pc' := 74) d_M_sectorAt_71 (by decide) rfl (fun _ => ?_) (fun h => absurd h (by decide))
  refine AW.iload_n (pc' := 92) d_M_sectorAt_91 rfl rfl rfl ?_
  refine AW.iconst (pc' := 93) (v := nI 1) d_M_sectorAt_92 rfl (by decide) ?_
  refine AW.icmp_neN (tgt := 105) (pc' := 96) d_M_sectorAt_93 (by decide) rfl (by decide) (by decide) (fun _ => ?_) (fun h => absurd h (by decide))
  refine AW.iload_n (pc' := 106) d_M_sectorAt_105 rfl rfl rfl ?_
  refine AW.iconst (pc' := 107) (v := nI 2) d_M_sectorAt_106 rfl (by decide) ?_
  refine AW.icmp_neN (tgt := 119) (pc' := 110) d_M_sectorAt_107 (by decide) rfl (by decide) (by decide) (fun _ => ?_) (fun h => absurd h (by decide))
  refine AW.iload_n (pc' := 120) d_M_sectorAt_119 rfl rfl rfl ?_
  refine AW.iconst (pc' := 121) (v := nI 3) d_M_sectorAt_120 rfl (by decide) ?_
  refine AW.icmp_neN (tgt := 128) (pc' := 124) d_M_sectorAt_121 (by decide) rfl (by decide) (by decide) (fun h => absurd h (by decide)) (fun _ => ?_)
  refine AW.iload_n (pc' := 125) d_M_sectorAt_124 rfl rfl rfl ?_
  refine AW.goto (tgt := 182) d_M_sectorAt_125 (by decide) ?_
  exact AW.iret d_M_sectorAt_182 rfl rfl rfl ⟨rfl, rfl⟩
theorem k_sectorAt_4 (X : ct_X) (z : S_c) (k : S_m) (o : Nat → Int64) (s : Nat) (hs : s < k_ns k) (hn : k_ns k ≤ 20) (hnp : k_np k ≤ 40) (hu : k_nu k ≤ 20) : AF X m_M_sectorAt 3 0 0 [.ref 20, .int (nI (s)), .int (nI (4))] (wL z k o) (.inl (some (.int (nI (cntB (inB (k_uin k) (nI s)) (k_nu k)))))) (wL z (k_thr_ k (nI 0)) o) := by
  refine AM.of rfl (Nat.le_of_ble_eq_true rfl) (ls := [some (.ref 20), some (.int (nI (s))), some (.int (nI (4))), none, none]) rfl ?_
  refine AW.aload_n (pc' := 1) d_M_sectorAt_0 rfl rfl rfl ?_
  refine AW.iconst (pc' := 2) (v := nI 1) d_M_sectorAt_1 rfl (by decide) ?_
  refine AW.aload_n (pc' := 3) d_M_sectorAt_2 rfl rfl rfl ?_
  refine AW.iload_n (pc' := 4) d_M_sectorAt_3 rfl rfl rfl ?_
  refine AW.cV (pc' := 7) d_M_sectorAt_4 rfl cv_M_82 (by decide) rfl rfl rfl (k_isSector_t X z k o s hs (by omega)) rfl rfl rfl rfl rfl rfl rfl ?_
  refine AW.if_eq (tgt := 24) (pc' := 10) d_M_sectorAt_7 (by decide) rfl (fun h => absurd h (by decide)) (fun _ => ?_)
  refine AW.iload_n (pc' := 11) d_M_sectorAt_10 rfl rfl rfl ?_
  refine AW.iconst (pc' := 12) (v := nI 0) d_M_sectorAt_11 rfl (by decide) ?_
  refine AW.bipush (pc' := 14) (v := nI 7) d_M_sectorAt_12 rfl (by decide) ?_
  refine AW.cS (pc' := 17) d_M_sectorAt_14 rfl cs_M_75 (by decide) (k_within_t X z k o (nI 4) (nI 0) (nI 7) (by decide) (by decide)) rfl rfl rfl rfl rfl rfl rfl ?_
  refine AW.if_eq (tgt := 24) (pc' := 20) d_M_sectorAt_17 (by decide) rfl (fun h => absurd h (by decide)) (fun _ => ?_)
  refine AW.iconst (pc' := 21) (v := nI 1) d_M_sectorAt_20 rfl (by decide) ?_
  refine AW.goto (tgt := 25) d_M_sectorAt_21 (by decide) ?_
  refine AW.iconst (pc' := 26) (v := nI 1) d_M_sectorAt_25 rfl (by decide) ?_
  refine AW.iconst (pc' := 27) (v := nI 1) d_M_sectorAt_26 rfl (by decide) ?_
  refine AW.iconst (pc' := 28) (v := nI 1) d_M_sectorAt_27 rfl (by decide) ?_
  refine AW.cV (pc' := 31) d_M_sectorAt_28 rfl cv_M_106 (by decide) rfl rfl rfl (k_goes_1_0 X z k o ) rfl rfl rfl rfl rfl rfl rfl ?_
  refine AW.if_ne (tgt := 36) (pc' := 34) d_M_sectorAt_31 (by decide) rfl (fun _ => ?_) (fun h => absurd h (by decide))
  refine AW.iconst (pc' := 37) (v := nI 0) d_M_sectorAt_36 rfl (by decide) ?_
  refine AW.istore_n (pc' := 38) (ls' := [some (.ref 20), some (.int (nI (s))), some (.int (nI (4))), some (.int (nI (0))), none]) d_M_sectorAt_37 rfl rfl rfl rfl ?_
  refine AW.iconst (pc' := 39) (v := nI 0) d_M_sectorAt_38 rfl (by decide) ?_
  refine AW.istore (pc' := 41) (ls' := [some (.ref 20), some (.int (nI (s))), some (.int (nI (4))), some (.int (nI (0))), some (.int (nI (0)))]) d_M_sectorAt_39 rfl rfl rfl ?_
  refine lp_ksec X z (k_thr_ k (nI 0)) o (nI s) (nI 4) hnp (k_np k) 0 (by show 0 + k_np k = k_np k; omega) ?_
  show AW X m_M_sectorAt 3 0 0 0 0 70 [some (.ref 20), some (.int (nI (s))), some (.int (nI (4))), some (.int (nI (cntB (inB (k_in k) (nI s)) (k_np k)))), some (.int (nI (k_np k)))] [] (wL z (k_thr_ k (nI 0)) o) _
  refine AW.iload_n (pc' := 71) d_M_sectorAt_70 rfl rfl rfl ?_
  refine AW.if_ne (tgt := 91) (pc' := 74) d_M_sectorAt_71 (by decide) rfl (fun _ => ?_) (fun h => absurd h (by decide))
  refine AW.iload_n (pc' := 92) d_M_sectorAt_91 rfl rfl rfl ?_
  refine AW.iconst (pc' := 93) (v := nI 1) d_M_sectorAt_92 rfl (by decide) ?_
  refine AW.icmp_neN (tgt := 105) (pc' := 96) d_M_sectorAt_93 (by decide) rfl (by decide) (by decide) (fun _ => ?_) (fun h => absurd h (by decide))
  refine AW.iload_n (pc' := 106) d_M_sectorAt_105 rfl rfl rfl ?_
  refine AW.iconst (pc' := 107) (v := nI 2) d_M_sectorAt_106 rfl (by decide) ?_
  refine AW.icmp_neN (tgt := 119) (pc' := 110) d_M_sectorAt_107 (by decide) rfl (by decide) (by decide) (fun _ => ?_) (fun h => absurd h (by decide))
  refine AW.iload_n (pc' := 120) d_M_sectorAt_119 rfl rfl rfl ?_
  refine AW.iconst (pc' := 121) (v := nI 3) d_M_sectorAt_120 rfl (by decide) ?_
  refine AW.icmp_neN (tgt := 128) (pc' := 124) d_M_sectorAt_121 (by decide) rfl (by decide) (by decide) (fun _ => ?_) (fun h => absurd h (by decide))
  refine AW.iload_n (pc' := 129) d_M_sectorAt_128 rfl rfl rfl ?_
  refine AW.iconst (pc' := 130) (v := nI 4) d_M_sectorAt_129 rfl (by decide) ?_
  refine AW.icmp_neN (tgt := 141) (pc' := 133) d_M_sectorAt_130 (by decide) rfl (by decide) (by decide) (fun h => absurd h (by decide)) (fun _ => ?_)
  refine AW.aload_n (pc' := 134) d_M_sectorAt_133 rfl rfl rfl ?_
  refine AW.iload_n (pc' := 135) d_M_sectorAt_134 rfl rfl rfl ?_
  refine AW.cV (pc' := 138) d_M_sectorAt_135 rfl cv_M_133 (by decide) rfl rfl rfl (k_unitsIn X z (k_thr_ k (nI 0)) o (nI s) hu) rfl rfl rfl rfl rfl rfl rfl ?_
  refine AW.goto (tgt := 182) d_M_sectorAt_138 (by decide) ?_
  exact AW.iret d_M_sectorAt_182 rfl rfl rfl ⟨rfl, rfl⟩
theorem k_sectorAt_5 (X : ct_X) (z : S_c) (k : S_m) (o : Nat → Int64) (s : Nat) (hs : s < k_ns k) (hn : k_ns k ≤ 20) (hnp : k_np k ≤ 40)  : AF X m_M_sectorAt 3 0 0 [.ref 20, .int (nI (s)), .int (nI (5))] (wL z k o) (.inl (some (.int (k_off k s)))) (wL z (k_thr_ k (nI 0)) o) := by
  refine AM.of rfl (Nat.le_of_ble_eq_true rfl) (ls := [some (.ref 20), some (.int (nI (s))), some (.int (nI (5))), none, none]) rfl ?_
  refine AW.aload_n (pc' := 1) d_M_sectorAt_0 rfl rfl rfl ?_
  refine AW.iconst (pc' := 2) (v := nI 1) d_M_sectorAt_1 rfl (by decide) ?_
  refine AW.aload_n (pc' := 3) d_M_sectorAt_2 rfl rfl rfl ?_
  refine AW.iload_n (pc' := 4) d_M_sectorAt_3 rfl rfl rfl ?_
  refine AW.cV (pc' := 7) d_M_sectorAt_4 rfl cv_M_82 (by decide) rfl rfl rfl (k_isSector_t X z k o s hs (by omega)) rfl rfl rfl rfl rfl rfl rfl ?_
  refine AW.if_eq (tgt := 24) (pc' := 10) d_M_sectorAt_7 (by decide) rfl (fun h => absurd h (by decide)) (fun _ => ?_)
  refine AW.iload_n (pc' := 11) d_M_sectorAt_10 rfl rfl rfl ?_
  refine AW.iconst (pc' := 12) (v := nI 0) d_M_sectorAt_11 rfl (by decide) ?_
  refine AW.bipush (pc' := 14) (v := nI 7) d_M_sectorAt_12 rfl (by decide) ?_
  refine AW.cS (pc' := 17) d_M_sectorAt_14 rfl cs_M_75 (by decide) (k_within_t X z k o (nI 5) (nI 0) (nI 7) (by decide) (by decide)) rfl rfl rfl rfl rfl rfl rfl ?_
  refine AW.if_eq (tgt := 24) (pc' := 20) d_M_sectorAt_17 (by decide) rfl (fun h => absurd h (by decide)) (fun _ => ?_)
  refine AW.iconst (pc' := 21) (v := nI 1) d_M_sectorAt_20 rfl (by decide) ?_
  refine AW.goto (tgt := 25) d_M_sectorAt_21 (by decide) ?_
  refine AW.iconst (pc' := 26) (v := nI 1) d_M_sectorAt_25 rfl (by decide) ?_
  refine AW.iconst (pc' := 27) (v := nI 1) d_M_sectorAt_26 rfl (by decide) ?_
  refine AW.iconst (pc' := 28) (v := nI 1) d_M_sectorAt_27 rfl (by decide) ?_
  refine AW.cV (pc' := 31) d_M_sectorAt_28 rfl cv_M_106 (by decide) rfl rfl rfl (k_goes_1_0 X z k o ) rfl rfl rfl rfl rfl rfl rfl ?_
  refine AW.if_ne (tgt := 36) (pc' := 34) d_M_sectorAt_31 (by decide) rfl (fun _ => ?_) (fun h => absurd h (by decide))
  refine AW.iconst (pc' := 37) (v := nI 0) d_M_sectorAt_36 rfl (by decide) ?_
  refine AW.istore_n (pc' := 38) (ls' := [some (.ref 20), some (.int (nI (s))), some (.int (nI (5))), some (.int (nI (0))), none]) d_M_sectorAt_37 rfl rfl rfl rfl ?_
  refine AW.iconst (pc' := 39) (v := nI 0) d_M_sectorAt_38 rfl (by decide) ?_
  refine AW.istore (pc' := 41) (ls' := [some (.ref 20), some (.int (nI (s))), some (.int (nI (5))), some (.int (nI (0))), some (.int (nI (0)))]) d_M_sectorAt_39 rfl rfl rfl ?_
  refine lp_ksec X z (k_thr_ k (nI 0)) o (nI s) (nI 5) hnp (k_np k) 0 (by show 0 + k_np k = k_np k; omega) ?_
  show AW X m_M_sectorAt 3 0 0 0 0 70 [some (.ref 20), some (.int (nI (s))), some (.int (nI (5))), some (.int (nI (cntB (inB (k_in k) (nI s)) (k_np k)))), some (.int (nI (k_np k)))] [] (wL z (k_thr_ k (nI 0)) o) _
  refine AW.iload_n (pc' := 71) d_M_sectorAt_70 rfl rfl rfl ?_
  refine AW.if_ne (tgt := 91) (pc' := 74) d_M_sectorAt_71 (by decide) rfl (fun _ => ?_) (fun h => absurd h (by decide))
  refine AW.iload_n (pc' := 92) d_M_sectorAt_91 rfl rfl rfl ?_
  refine AW.iconst (pc' := 93) (v := nI 1) d_M_sectorAt_92 rfl (by decide) ?_
  refine AW.icmp_neN (tgt := 105) (pc' := 96) d_M_sectorAt_93 (by decide) rfl (by decide) (by decide) (fun _ => ?_) (fun h => absurd h (by decide))
  refine AW.iload_n (pc' := 106) d_M_sectorAt_105 rfl rfl rfl ?_
  refine AW.iconst (pc' := 107) (v := nI 2) d_M_sectorAt_106 rfl (by decide) ?_
  refine AW.icmp_neN (tgt := 119) (pc' := 110) d_M_sectorAt_107 (by decide) rfl (by decide) (by decide) (fun _ => ?_) (fun h => absurd h (by decide))
  refine AW.iload_n (pc' := 120) d_M_sectorAt_119 rfl rfl rfl ?_
  refine AW.iconst (pc' := 121) (v := nI 3) d_M_sectorAt_120 rfl (by decide) ?_
  refine AW.icmp_neN (tgt := 128) (pc' := 124) d_M_sectorAt_121 (by decide) rfl (by decide) (by decide) (fun _ => ?_) (fun h => absurd h (by decide))
  refine AW.iload_n (pc' := 129) d_M_sectorAt_128 rfl rfl rfl ?_
  refine AW.iconst (pc' := 130) (v := nI 4) d_M_sectorAt_129 rfl (by decide) ?_
  refine AW.icmp_neN (tgt := 141) (pc' := 133) d_M_sectorAt_130 (by decide) rfl (by decide) (by decide) (fun _ => ?_) (fun h => absurd h (by decide))
  refine AW.iload_n (pc' := 142) d_M_sectorAt_141 rfl rfl rfl ?_
  refine AW.iconst (pc' := 143) (v := nI 5) d_M_sectorAt_142 rfl (by decide) ?_
  refine AW.icmp_neN (tgt := 155) (pc' := 146) d_M_sectorAt_143 (by decide) rfl (by decide) (by decide) (fun h => absurd h (by decide)) (fun _ => ?_)
  refine AW.aload_n (pc' := 147) d_M_sectorAt_146 rfl rfl rfl ?_
  refine AW.getf (pc' := 150) d_M_sectorAt_147 rfl fl_M_36 rfl rfl ?_
  refine AW.iload_n (pc' := 151) d_M_sectorAt_150 rfl rfl rfl ?_
  refine AW.ialdN (pc' := 152) d_M_sectorAt_151 rfl rfl (by omega) (by decide) ?_
  refine AW.goto (tgt := 182) d_M_sectorAt_152 (by decide) ?_
  exact AW.iret d_M_sectorAt_182 rfl rfl rfl ⟨rfl, rfl⟩
theorem k_sectorAt_6t (X : ct_X) (z : S_c) (k : S_m) (o : Nat → Int64) (s : Nat) (hs : s < k_ns k) (hn : k_ns k ≤ 20) (hnp : k_np k ≤ 40) (hu : k_nu k ≤ 20) (hm : k_span k ≤ 20) (h1 : passK k s = true) : AF X m_M_sectorAt 3 0 0 [.ref 20, .int (nI (s)), .int (nI (6))] (wL z k o) (.inl (some (.int (nI 1)))) (wL z (k_thr_ k (nI 0)) o) := by
  refine AM.of rfl (Nat.le_of_ble_eq_true rfl) (ls := [some (.ref 20), some (.int (nI (s))), some (.int (nI (6))), none, none]) rfl ?_
  refine AW.aload_n (pc' := 1) d_M_sectorAt_0 rfl rfl rfl ?_
  refine AW.iconst (pc' := 2) (v := nI 1) d_M_sectorAt_1 rfl (by decide) ?_
  refine AW.aload_n (pc' := 3) d_M_sectorAt_2 rfl rfl rfl ?_
  refine AW.iload_n (pc' := 4) d_M_sectorAt_3 rfl rfl rfl ?_
  refine AW.cV (pc' := 7) d_M_sectorAt_4 rfl cv_M_82 (by decide) rfl rfl rfl (k_isSector_t X z k o s hs (by omega)) rfl rfl rfl rfl rfl rfl rfl ?_
  refine AW.if_eq (tgt := 24) (pc' := 10) d_M_sectorAt_7 (by decide) rfl (fun h => absurd h (by decide)) (fun _ => ?_)
  refine AW.iload_n (pc' := 11) d_M_sectorAt_10 rfl rfl rfl ?_
  refine AW.iconst (pc' := 12) (v := nI 0) d_M_sectorAt_11 rfl (by decide) ?_
  refine AW.bipush (pc' := 14) (v := nI 7) d_M_sectorAt_12 rfl (by decide) ?_
  refine AW.cS (pc' := 17) d_M_sectorAt_14 rfl cs_M_75 (by decide) (k_within_t X z k o (nI 6) (nI 0) (nI 7) (by decide) (by decide)) rfl rfl rfl rfl rfl rfl rfl ?_
  refine AW.if_eq (tgt := 24) (pc' := 20) d_M_sectorAt_17 (by decide) rfl (fun h => absurd h (by decide)) (fun _ => ?_)
  refine AW.iconst (pc' := 21) (v := nI 1) d_M_sectorAt_20 rfl (by decide) ?_
  refine AW.goto (tgt := 25) d_M_sectorAt_21 (by decide) ?_
  refine AW.iconst (pc' := 26) (v := nI 1) d_M_sectorAt_25 rfl (by decide) ?_
  refine AW.iconst (pc' := 27) (v := nI 1) d_M_sectorAt_26 rfl (by decide) ?_
  refine AW.iconst (pc' := 28) (v := nI 1) d_M_sectorAt_27 rfl (by decide) ?_
  refine AW.cV (pc' := 31) d_M_sectorAt_28 rfl cv_M_106 (by decide) rfl rfl rfl (k_goes_1_0 X z k o ) rfl rfl rfl rfl rfl rfl rfl ?_
  refine AW.if_ne (tgt := 36) (pc' := 34) d_M_sectorAt_31 (by decide) rfl (fun _ => ?_) (fun h => absurd h (by decide))
  refine AW.iconst (pc' := 37) (v := nI 0) d_M_sectorAt_36 rfl (by decide) ?_
  refine AW.istore_n (pc' := 38) (ls' := [some (.ref 20), some (.int (nI (s))), some (.int (nI (6))), some (.int (nI (0))), none]) d_M_sectorAt_37 rfl rfl rfl rfl ?_
  refine AW.iconst (pc' := 39) (v := nI 0) d_M_sectorAt_38 rfl (by decide) ?_
  refine AW.istore (pc' := 41) (ls' := [some (.ref 20), some (.int (nI (s))), some (.int (nI (6))), some (.int (nI (0))), some (.int (nI (0)))]) d_M_sectorAt_39 rfl rfl rfl ?_
  refine lp_ksec X z (k_thr_ k (nI 0)) o (nI s) (nI 6) hnp (k_np k) 0 (by show 0 + k_np k = k_np k; omega) ?_
  show AW X m_M_sectorAt 3 0 0 0 0 70 [some (.ref 20), some (.int (nI (s))), some (.int (nI (6))), some (.int (nI (cntB (inB (k_in k) (nI s)) (k_np k)))), some (.int (nI (k_np k)))] [] (wL z (k_thr_ k (nI 0)) o) _
  refine AW.iload_n (pc' := 71) d_M_sectorAt_70 rfl rfl rfl ?_
  refine AW.if_ne (tgt := 91) (pc' := 74) d_M_sectorAt_71 (by decide) rfl (fun _ => ?_) (fun h => absurd h (by decide))
  refine AW.iload_n (pc' := 92) d_M_sectorAt_91 rfl rfl rfl ?_
  refine AW.iconst (pc' := 93) (v := nI 1) d_M_sectorAt_92 rfl (by decide) ?_
  refine AW.icmp_neN (tgt := 105) (pc' := 96) d_M_sectorAt_93 (by decide) rfl (by decide) (by decide) (fun _ => ?_) (fun h => absurd h (by decide))
  refine AW.iload_n (pc' := 106) d_M_sectorAt_105 rfl rfl rfl ?_
  refine AW.iconst (pc' := 107) (v := nI 2) d_M_sectorAt_106 rfl (by decide) ?_
  refine AW.icmp_neN (tgt := 119) (pc' := 110) d_M_sectorAt_107 (by decide) rfl (by decide) (by decide) (fun _ => ?_) (fun h => absurd h (by decide))
  refine AW.iload_n (pc' := 120) d_M_sectorAt_119 rfl rfl rfl ?_
  refine AW.iconst (pc' := 121) (v := nI 3) d_M_sectorAt_120 rfl (by decide) ?_
  refine AW.icmp_neN (tgt := 128) (pc' := 124) d_M_sectorAt_121 (by decide) rfl (by decide) (by decide) (fun _ => ?_) (fun h => absurd h (by decide))
  refine AW.iload_n (pc' := 129) d_M_sectorAt_128 rfl rfl rfl ?_
  refine AW.iconst (pc' := 130) (v := nI 4) d_M_sectorAt_129 rfl (by decide) ?_
  refine AW.icmp_neN (tgt := 141) (pc' := 133) d_M_sectorAt_130 (by decide) rfl (by decide) (by decide) (fun _ => ?_) (fun h => absurd h (by decide))
  refine AW.iload_n (pc' := 142) d_M_sectorAt_141 rfl rfl rfl ?_
  refine AW.iconst (pc' := 143) (v := nI 5) d_M_sectorAt_142 rfl (by decide) ?_
  refine AW.icmp_neN (tgt := 155) (pc' := 146) d_M_sectorAt_143 (by decide) rfl (by decide) (by decide) (fun _ => ?_) (fun h => absurd h (by decide))
  refine AW.iload_n (pc' := 156) d_M_sectorAt_155 rfl rfl rfl ?_
  refine AW.bipush (pc' := 158) (v := nI 6) d_M_sectorAt_156 rfl (by decide) ?_
  refine AW.icmp_neN (tgt := 177) (pc' := 161) d_M_sectorAt_158 (by decide) rfl (by decide) (by decide) (fun h => absurd h (by decide)) (fun _ => ?_)
  refine AW.aload_n (pc' := 162) d_M_sectorAt_161 rfl rfl rfl ?_
  refine AW.iload_n (pc' := 163) d_M_sectorAt_162 rfl rfl rfl ?_
  refine AW.cV (pc' := 166) d_M_sectorAt_163 rfl cv_M_136 (by decide) rfl rfl rfl (k_isPassed_t X z (k_thr_ k (nI 0)) o s (by omega) hn hu hm h1) rfl rfl rfl rfl rfl rfl rfl ?_
  refine AW.if_eq (tgt := 173) (pc' := 169) d_M_sectorAt_166 (by decide) rfl (fun h => absurd h (by decide)) (fun _ => ?_)
  refine AW.iconst (pc' := 170) (v := nI 1) d_M_sectorAt_169 rfl (by decide) ?_
  refine AW.goto (tgt := 182) d_M_sectorAt_170 (by decide) ?_
  exact AW.iret d_M_sectorAt_182 rfl rfl rfl ⟨rfl, rfl⟩
theorem k_sectorAt_6f (X : ct_X) (z : S_c) (k : S_m) (o : Nat → Int64) (s : Nat) (hs : s < k_ns k) (hn : k_ns k ≤ 20) (hnp : k_np k ≤ 40) (hu : k_nu k ≤ 20) (hm : k_span k ≤ 20) (h1 : passK k s = false) : AF X m_M_sectorAt 3 0 0 [.ref 20, .int (nI (s)), .int (nI (6))] (wL z k o) (.inl (some (.int (nI 0)))) (wL z (k_thr_ k (nI 0)) o) := by
  refine AM.of rfl (Nat.le_of_ble_eq_true rfl) (ls := [some (.ref 20), some (.int (nI (s))), some (.int (nI (6))), none, none]) rfl ?_
  refine AW.aload_n (pc' := 1) d_M_sectorAt_0 rfl rfl rfl ?_
  refine AW.iconst (pc' := 2) (v := nI 1) d_M_sectorAt_1 rfl (by decide) ?_
  refine AW.aload_n (pc' := 3) d_M_sectorAt_2 rfl rfl rfl ?_
  refine AW.iload_n (pc' := 4) d_M_sectorAt_3 rfl rfl rfl ?_
  refine AW.cV (pc' := 7) d_M_sectorAt_4 rfl cv_M_82 (by decide) rfl rfl rfl (k_isSector_t X z k o s hs (by omega)) rfl rfl rfl rfl rfl rfl rfl ?_
  refine AW.if_eq (tgt := 24) (pc' := 10) d_M_sectorAt_7 (by decide) rfl (fun h => absurd h (by decide)) (fun _ => ?_)
  refine AW.iload_n (pc' := 11) d_M_sectorAt_10 rfl rfl rfl ?_
  refine AW.iconst (pc' := 12) (v := nI 0) d_M_sectorAt_11 rfl (by decide) ?_
  refine AW.bipush (pc' := 14) (v := nI 7) d_M_sectorAt_12 rfl (by decide) ?_
  refine AW.cS (pc' := 17) d_M_sectorAt_14 rfl cs_M_75 (by decide) (k_within_t X z k o (nI 6) (nI 0) (nI 7) (by decide) (by decide)) rfl rfl rfl rfl rfl rfl rfl ?_
  refine AW.if_eq (tgt := 24) (pc' := 20) d_M_sectorAt_17 (by decide) rfl (fun h => absurd h (by decide)) (fun _ => ?_)
  refine AW.iconst (pc' := 21) (v := nI 1) d_M_sectorAt_20 rfl (by decide) ?_
  refine AW.goto (tgt := 25) d_M_sectorAt_21 (by decide) ?_
  refine AW.iconst (pc' := 26) (v := nI 1) d_M_sectorAt_25 rfl (by decide) ?_
  refine AW.iconst (pc' := 27) (v := nI 1) d_M_sectorAt_26 rfl (by decide) ?_
  refine AW.iconst (pc' := 28) (v := nI 1) d_M_sectorAt_27 rfl (by decide) ?_
  refine AW.cV (pc' := 31) d_M_sectorAt_28 rfl cv_M_106 (by decide) rfl rfl rfl (k_goes_1_0 X z k o ) rfl rfl rfl rfl rfl rfl rfl ?_
  refine AW.if_ne (tgt := 36) (pc' := 34) d_M_sectorAt_31 (by decide) rfl (fun _ => ?_) (fun h => absurd h (by decide))
  refine AW.iconst (pc' := 37) (v := nI 0) d_M_sectorAt_36 rfl (by decide) ?_
  refine AW.istore_n (pc' := 38) (ls' := [some (.ref 20), some (.int (nI (s))), some (.int (nI (6))), some (.int (nI (0))), none]) d_M_sectorAt_37 rfl rfl rfl rfl ?_
  refine AW.iconst (pc' := 39) (v := nI 0) d_M_sectorAt_38 rfl (by decide) ?_
  refine AW.istore (pc' := 41) (ls' := [some (.ref 20), some (.int (nI (s))), some (.int (nI (6))), some (.int (nI (0))), some (.int (nI (0)))]) d_M_sectorAt_39 rfl rfl rfl ?_
  refine lp_ksec X z (k_thr_ k (nI 0)) o (nI s) (nI 6) hnp (k_np k) 0 (by show 0 + k_np k = k_np k; omega) ?_
  show AW X m_M_sectorAt 3 0 0 0 0 70 [some (.ref 20), some (.int (nI (s))), some (.int (nI (6))), some (.int (nI (cntB (inB (k_in k) (nI s)) (k_np k)))), some (.int (nI (k_np k)))] [] (wL z (k_thr_ k (nI 0)) o) _
  refine AW.iload_n (pc' := 71) d_M_sectorAt_70 rfl rfl rfl ?_
  refine AW.if_ne (tgt := 91) (pc' := 74) d_M_sectorAt_71 (by decide) rfl (fun _ => ?_) (fun h => absurd h (by decide))
  refine AW.iload_n (pc' := 92) d_M_sectorAt_91 rfl rfl rfl ?_
  refine AW.iconst (pc' := 93) (v := nI 1) d_M_sectorAt_92 rfl (by decide) ?_
  refine AW.icmp_neN (tgt := 105) (pc' := 96) d_M_sectorAt_93 (by decide) rfl (by decide) (by decide) (fun _ => ?_) (fun h => absurd h (by decide))
  refine AW.iload_n (pc' := 106) d_M_sectorAt_105 rfl rfl rfl ?_
  refine AW.iconst (pc' := 107) (v := nI 2) d_M_sectorAt_106 rfl (by decide) ?_
  refine AW.icmp_neN (tgt := 119) (pc' := 110) d_M_sectorAt_107 (by decide) rfl (by decide) (by decide) (fun _ => ?_) (fun h => absurd h (by decide))
  refine AW.iload_n (pc' := 120) d_M_sectorAt_119 rfl rfl rfl ?_
  refine AW.iconst (pc' := 121) (v := nI 3) d_M_sectorAt_120 rfl (by decide) ?_
  refine AW.icmp_neN (tgt := 128) (pc' := 124) d_M_sectorAt_121 (by decide) rfl (by decide) (by decide) (fun _ => ?_) (fun h => absurd h (by decide))
  refine AW.iload_n (pc' := 129) d_M_sectorAt_128 rfl rfl rfl ?_
  refine AW.iconst (pc' := 130) (v := nI 4) d_M_sectorAt_129 rfl (by decide) ?_
  refine AW.icmp_neN (tgt := 141) (pc' := 133) d_M_sectorAt_130 (by decide) rfl (by decide) (by decide) (fun _ => ?_) (fun h => absurd h (by decide))
  refine AW.iload_n (pc' := 142) d_M_sectorAt_141 rfl rfl rfl ?_
  refine AW.iconst (pc' := 143) (v := nI 5) d_M_sectorAt_142 rfl (by decide) ?_
  refine AW.icmp_neN (tgt := 155) (pc' := 146) d_M_sectorAt_143 (by decide) rfl (by decide) (by decide) (fun _ => ?_) (fun h => absurd h (by decide))
  refine AW.iload_n (pc' := 156) d_M_sectorAt_155 rfl rfl rfl ?_
  refine AW.bipush (pc' := 158) (v := nI 6) d_M_sectorAt_156 rfl (by decide) ?_
  refine AW.icmp_neN (tgt := 177) (pc' := 161) d_M_sectorAt_158 (by decide) rfl (by decide) (by decide) (fun h => absurd h (by decide)) (fun _ => ?_)
  refine AW.aload_n (pc' := 162) d_M_sectorAt_161 rfl rfl rfl ?_
  refine AW.iload_n (pc' := 163) d_M_sectorAt_162 rfl rfl rfl ?_
  refine AW.cV (pc' := 166) d_M_sectorAt_163 rfl cv_M_136 (by decide) rfl rfl rfl (k_isPassed_f X z (k_thr_ k (nI 0)) o s (by omega) hn hu hm h1) rfl rfl rfl rfl rfl rfl rfl ?_
  refine AW.if_eq (tgt := 173) (pc' := 169) d_M_sectorAt_166 (by decide) rfl (fun _ => ?_) (fun h => absurd h (by decide))
  refine AW.iconst (pc' := 174) (v := nI 0) d_M_sectorAt_173 rfl (by decide) ?_
  refine AW.goto (tgt := 182) d_M_sectorAt_174 (by decide) ?_
  exact AW.iret d_M_sectorAt_182 rfl rfl rfl ⟨rfl, rfl⟩
theorem k_sectorAt_7 (X : ct_X) (z : S_c) (k : S_m) (o : Nat → Int64) (s : Nat) (hs : s < k_ns k) (hn : k_ns k ≤ 20) (hnp : k_np k ≤ 40)  : AF X m_M_sectorAt 3 0 0 [.ref 20, .int (nI (s)), .int (nI (7))] (wL z k o) (.inl (some (.int (nI (cntB (belowK k (nI s)) (k_ns k)))))) (wL z (k_thr_ k (nI 0)) o) := by
  refine AM.of rfl (Nat.le_of_ble_eq_true rfl) (ls := [some (.ref 20), some (.int (nI (s))), some (.int (nI (7))), none, none]) rfl ?_
  refine AW.aload_n (pc' := 1) d_M_sectorAt_0 rfl rfl rfl ?_
  refine AW.iconst (pc' := 2) (v := nI 1) d_M_sectorAt_1 rfl (by decide) ?_
  refine AW.aload_n (pc' := 3) d_M_sectorAt_2 rfl rfl rfl ?_
  refine AW.iload_n (pc' := 4) d_M_sectorAt_3 rfl rfl rfl ?_
  refine AW.cV (pc' := 7) d_M_sectorAt_4 rfl cv_M_82 (by decide) rfl rfl rfl (k_isSector_t X z k o s hs (by omega)) rfl rfl rfl rfl rfl rfl rfl ?_
  refine AW.if_eq (tgt := 24) (pc' := 10) d_M_sectorAt_7 (by decide) rfl (fun h => absurd h (by decide)) (fun _ => ?_)
  refine AW.iload_n (pc' := 11) d_M_sectorAt_10 rfl rfl rfl ?_
  refine AW.iconst (pc' := 12) (v := nI 0) d_M_sectorAt_11 rfl (by decide) ?_
  refine AW.bipush (pc' := 14) (v := nI 7) d_M_sectorAt_12 rfl (by decide) ?_
  refine AW.cS (pc' := 17) d_M_sectorAt_14 rfl cs_M_75 (by decide) (k_within_t X z k o (nI 7) (nI 0) (nI 7) (by decide) (by decide)) rfl rfl rfl rfl rfl rfl rfl ?_
  refine AW.if_eq (tgt := 24) (pc' := 20) d_M_sectorAt_17 (by decide) rfl (fun h => absurd h (by decide)) (fun _ => ?_)
  refine AW.iconst (pc' := 21) (v := nI 1) d_M_sectorAt_20 rfl (by decide) ?_
  refine AW.goto (tgt := 25) d_M_sectorAt_21 (by decide) ?_
  refine AW.iconst (pc' := 26) (v := nI 1) d_M_sectorAt_25 rfl (by decide) ?_
  refine AW.iconst (pc' := 27) (v := nI 1) d_M_sectorAt_26 rfl (by decide) ?_
  refine AW.iconst (pc' := 28) (v := nI 1) d_M_sectorAt_27 rfl (by decide) ?_
  refine AW.cV (pc' := 31) d_M_sectorAt_28 rfl cv_M_106 (by decide) rfl rfl rfl (k_goes_1_0 X z k o ) rfl rfl rfl rfl rfl rfl rfl ?_
  refine AW.if_ne (tgt := 36) (pc' := 34) d_M_sectorAt_31 (by decide) rfl (fun _ => ?_) (fun h => absurd h (by decide))
  refine AW.iconst (pc' := 37) (v := nI 0) d_M_sectorAt_36 rfl (by decide) ?_
  refine AW.istore_n (pc' := 38) (ls' := [some (.ref 20), some (.int (nI (s))), some (.int (nI (7))), some (.int (nI (0))), none]) d_M_sectorAt_37 rfl rfl rfl rfl ?_
  refine AW.iconst (pc' := 39) (v := nI 0) d_M_sectorAt_38 rfl (by decide) ?_
  refine AW.istore (pc' := 41) (ls' := [some (.ref 20), some (.int (nI (s))), some (.int (nI (7))), some (.int (nI (0))), some (.int (nI (0)))]) d_M_sectorAt_39 rfl rfl rfl ?_
  refine lp_ksec X z (k_thr_ k (nI 0)) o (nI s) (nI 7) hnp (k_np k) 0 (by show 0 + k_np k = k_np k; omega) ?_
  show AW X m_M_sectorAt 3 0 0 0 0 70 [some (.ref 20), some (.int (nI (s))), some (.int (nI (7))), some (.int (nI (cntB (inB (k_in k) (nI s)) (k_np k)))), some (.int (nI (k_np k)))] [] (wL z (k_thr_ k (nI 0)) o) _
  refine AW.iload_n (pc' := 71) d_M_sectorAt_70 rfl rfl rfl ?_
  refine AW.if_ne (tgt := 91) (pc' := 74) d_M_sectorAt_71 (by decide) rfl (fun _ => ?_) (fun h => absurd h (by decide))
  refine AW.iload_n (pc' := 92) d_M_sectorAt_91 rfl rfl rfl ?_
  refine AW.iconst (pc' := 93) (v := nI 1) d_M_sectorAt_92 rfl (by decide) ?_
  refine AW.icmp_neN (tgt := 105) (pc' := 96) d_M_sectorAt_93 (by decide) rfl (by decide) (by decide) (fun _ => ?_) (fun h => absurd h (by decide))
  refine AW.iload_n (pc' := 106) d_M_sectorAt_105 rfl rfl rfl ?_
  refine AW.iconst (pc' := 107) (v := nI 2) d_M_sectorAt_106 rfl (by decide) ?_
  refine AW.icmp_neN (tgt := 119) (pc' := 110) d_M_sectorAt_107 (by decide) rfl (by decide) (by decide) (fun _ => ?_) (fun h => absurd h (by decide))
  refine AW.iload_n (pc' := 120) d_M_sectorAt_119 rfl rfl rfl ?_
  refine AW.iconst (pc' := 121) (v := nI 3) d_M_sectorAt_120 rfl (by decide) ?_
  refine AW.icmp_neN (tgt := 128) (pc' := 124) d_M_sectorAt_121 (by decide) rfl (by decide) (by decide) (fun _ => ?_) (fun h => absurd h (by decide))
  refine AW.iload_n (pc' := 129) d_M_sectorAt_128 rfl rfl rfl ?_
  refine AW.iconst (pc' := 130) (v := nI 4) d_M_sectorAt_129 rfl (by decide) ?_
  refine AW.icmp_neN (tgt := 141) (pc' := 133) d_M_sectorAt_130 (by decide) rfl (by decide) (by decide) (fun _ => ?_) (fun h => absurd h (by decide))
  refine AW.iload_n (pc' := 142) d_M_sectorAt_141 rfl rfl rfl ?_
  refine AW.iconst (pc' := 143) (v := nI 5) d_M_sectorAt_142 rfl (by decide) ?_
  refine AW.icmp_neN (tgt := 155) (pc' := 146) d_M_sectorAt_143 (by decide) rfl (by decide) (by decide) (fun _ => ?_) (fun h => absurd h (by decide))
  refine AW.iload_n (pc' := 156) d_M_sectorAt_155 rfl rfl rfl ?_
  refine AW.bipush (pc' := 158) (v := nI 6) d_M_sectorAt_156 rfl (by decide) ?_
  refine AW.icmp_neN (tgt := 177) (pc' := 161) d_M_sectorAt_158 (by decide) rfl (by decide) (by decide) (fun _ => ?_) (fun h => absurd h (by decide))
  refine AW.aload_n (pc' := 178) d_M_sectorAt_177 rfl rfl rfl ?_
  refine AW.iload_n (pc' := 179) d_M_sectorAt_178 rfl rfl rfl ?_
  refine AW.cV (pc' := 182) d_M_sectorAt_179 rfl cv_M_130 (by decide) rfl rfl rfl (k_below X z (k_thr_ k (nI 0)) o (nI s) hn) rfl rfl rfl rfl rfl rfl rfl ?_
  exact AW.iret d_M_sectorAt_182 rfl rfl rfl ⟨rfl, rfl⟩
theorem k_personAt_x (X : ct_X) (z : S_c) (k : S_m) (o : Nat → Int64) (x : Int32) (hx : x < 0 ∨ nI (k_np k) ≤ x) (hnp : k_np k ≤ 40) (y : Int32) : AF X m_M_personAt 3 0 0 [.ref 20, .int (x), .int (y)] (wL z k o) (.inl (some (.int (nI 0)))) (wL z (k_thr_ k (nI 1)) o) := by
  refine AM.of rfl (Nat.le_of_ble_eq_true rfl) (ls := [some (.ref 20), some (.int (x)), some (.int (y))]) rfl ?_
  refine AW.aload_n (pc' := 1) d_M_personAt_0 rfl rfl rfl ?_
  refine AW.iconst (pc' := 2) (v := nI 1) d_M_personAt_1 rfl (by decide) ?_
  refine AW.aload_n (pc' := 3) d_M_personAt_2 rfl rfl rfl ?_
  refine AW.iload_n (pc' := 4) d_M_personAt_3 rfl rfl rfl ?_
  refine AW.cV (pc' := 7) d_M_personAt_4 rfl cv_M_110 (by decide) rfl rfl rfl (k_isPerson_f X z k o x hx (by omega)) rfl rfl rfl rfl rfl rfl rfl ?_
  refine AW.if_eq (tgt := 23) (pc' := 10) d_M_personAt_7 (by decide) rfl (fun _ => ?_) (fun h => absurd h (by decide))
  refine AW.iconst (pc' := 24) (v := nI 0) d_M_personAt_23 rfl (by decide) ?_
  refine AW.iconst (pc' := 25) (v := nI 1) d_M_personAt_24 rfl (by decide) ?_
  refine AW.iconst (pc' := 26) (v := nI 1) d_M_personAt_25 rfl (by decide) ?_
  refine AW.iconst (pc' := 27) (v := nI 1) d_M_personAt_26 rfl (by decide) ?_
  refine AW.cV (pc' := 30) d_M_personAt_27 rfl cv_M_106 (by decide) rfl rfl rfl (k_goes_1_1 X z k o ((nI (1))) ((nI (1))) ((nI (1)))) rfl rfl rfl rfl rfl rfl rfl ?_
  refine AW.if_ne (tgt := 35) (pc' := 33) d_M_personAt_30 (by decide) rfl (fun h => absurd h (by decide)) (fun _ => ?_)
  refine AW.iconst (pc' := 34) (v := nI 0) d_M_personAt_33 rfl (by decide) ?_
  exact AW.iret d_M_personAt_34 rfl rfl rfl ⟨rfl, rfl⟩
theorem k_personAt_y (X : ct_X) (z : S_c) (k : S_m) (o : Nat → Int64) (p : Nat) (hj : p < k_np k) (hnp : k_np k ≤ 40) (y : Int32) (hy : y < nI 0 ∨ nI 2 < y) : AF X m_M_personAt 3 0 0 [.ref 20, .int (nI (p)), .int (y)] (wL z k o) (.inl (some (.int (nI 0)))) (wL z (k_thr_ k (nI 1)) o) := by
  refine AM.of rfl (Nat.le_of_ble_eq_true rfl) (ls := [some (.ref 20), some (.int (nI (p))), some (.int (y))]) rfl ?_
  refine AW.aload_n (pc' := 1) d_M_personAt_0 rfl rfl rfl ?_
  refine AW.iconst (pc' := 2) (v := nI 1) d_M_personAt_1 rfl (by decide) ?_
  refine AW.aload_n (pc' := 3) d_M_personAt_2 rfl rfl rfl ?_
  refine AW.iload_n (pc' := 4) d_M_personAt_3 rfl rfl rfl ?_
  refine AW.cV (pc' := 7) d_M_personAt_4 rfl cv_M_110 (by decide) rfl rfl rfl (k_isPerson_t X z k o p hj (by omega)) rfl rfl rfl rfl rfl rfl rfl ?_
  refine AW.if_eq (tgt := 23) (pc' := 10) d_M_personAt_7 (by decide) rfl (fun h => absurd h (by decide)) (fun _ => ?_)
  refine AW.iload_n (pc' := 11) d_M_personAt_10 rfl rfl rfl ?_
  refine AW.iconst (pc' := 12) (v := nI 0) d_M_personAt_11 rfl (by decide) ?_
  refine AW.iconst (pc' := 13) (v := nI 2) d_M_personAt_12 rfl (by decide) ?_
  refine AW.cS (pc' := 16) d_M_personAt_13 rfl cs_M_75 (by decide) (k_within_f X z k o y (nI 0) (nI 2) hy) rfl rfl rfl rfl rfl rfl rfl ?_
  refine AW.if_eq (tgt := 23) (pc' := 19) d_M_personAt_16 (by decide) rfl (fun _ => ?_) (fun h => absurd h (by decide))
  refine AW.iconst (pc' := 24) (v := nI 0) d_M_personAt_23 rfl (by decide) ?_
  refine AW.iconst (pc' := 25) (v := nI 1) d_M_personAt_24 rfl (by decide) ?_
  refine AW.iconst (pc' := 26) (v := nI 1) d_M_personAt_25 rfl (by decide) ?_
  refine AW.iconst (pc' := 27) (v := nI 1) d_M_personAt_26 rfl (by decide) ?_
  refine AW.cV (pc' := 30) d_M_personAt_27 rfl cv_M_106 (by decide) rfl rfl rfl (k_goes_1_1 X z k o ((nI (1))) ((nI (1))) ((nI (1)))) rfl rfl rfl rfl rfl rfl rfl ?_
  refine AW.if_ne (tgt := 35) (pc' := 33) d_M_personAt_30 (by decide) rfl (fun h => absurd h (by decide)) (fun _ => ?_)
  refine AW.iconst (pc' := 34) (v := nI 0) d_M_personAt_33 rfl (by decide) ?_
  exact AW.iret d_M_personAt_34 rfl rfl rfl ⟨rfl, rfl⟩
theorem k_personAt_0 (X : ct_X) (z : S_c) (k : S_m) (o : Nat → Int64) (p : Nat) (hj : p < k_np k) (hnp : k_np k ≤ 40) : AF X m_M_personAt 3 0 0 [.ref 20, .int (nI (p)), .int (nI (0))] (wL z k o) (.inl (some (.int (k_in k p)))) (wL z (k_thr_ k (nI 0)) o) := by
  refine AM.of rfl (Nat.le_of_ble_eq_true rfl) (ls := [some (.ref 20), some (.int (nI (p))), some (.int (nI (0)))]) rfl ?_
  refine AW.aload_n (pc' := 1) d_M_personAt_0 rfl rfl rfl ?_
  refine AW.iconst (pc' := 2) (v := nI 1) d_M_personAt_1 rfl (by decide) ?_
  refine AW.aload_n (pc' := 3) d_M_personAt_2 rfl rfl rfl ?_
  refine AW.iload_n (pc' := 4) d_M_personAt_3 rfl rfl rfl ?_
  refine AW.cV (pc' := 7) d_M_personAt_4 rfl cv_M_110 (by decide) rfl rfl rfl (k_isPerson_t X z k o p hj (by omega)) rfl rfl rfl rfl rfl rfl rfl ?_
  refine AW.if_eq (tgt := 23) (pc' := 10) d_M_personAt_7 (by decide) rfl (fun h => absurd h (by decide)) (fun _ => ?_)
  refine AW.iload_n (pc' := 11) d_M_personAt_10 rfl rfl rfl ?_
  refine AW.iconst (pc' := 12) (v := nI 0) d_M_personAt_11 rfl (by decide) ?_
  refine AW.iconst (pc' := 13) (v := nI 2) d_M_personAt_12 rfl (by decide) ?_
  refine AW.cS (pc' := 16) d_M_personAt_13 rfl cs_M_75 (by decide) (k_within_t X z k o (nI 0) (nI 0) (nI 2) (by decide) (by decide)) rfl rfl rfl rfl rfl rfl rfl ?_
  refine AW.if_eq (tgt := 23) (pc' := 19) d_M_personAt_16 (by decide) rfl (fun h => absurd h (by decide)) (fun _ => ?_)
  refine AW.iconst (pc' := 20) (v := nI 1) d_M_personAt_19 rfl (by decide) ?_
  refine AW.goto (tgt := 24) d_M_personAt_20 (by decide) ?_
  refine AW.iconst (pc' := 25) (v := nI 1) d_M_personAt_24 rfl (by decide) ?_
  refine AW.iconst (pc' := 26) (v := nI 1) d_M_personAt_25 rfl (by decide) ?_
  refine AW.iconst (pc' := 27) (v := nI 1) d_M_personAt_26 rfl (by decide) ?_
  refine AW.cV (pc' := 30) d_M_personAt_27 rfl cv_M_106 (by decide) rfl rfl rfl (k_goes_1_0 X z k o ) rfl rfl rfl rfl rfl rfl rfl ?_
  refine AW.if_ne (tgt := 35) (pc' := 33) d_M_personAt_30 (by decide) rfl (fun _ => ?_) (fun h => absurd h (by decide))
  refine AW.iload_n (pc' := 36) d_M_personAt_35 rfl rfl rfl ?_
  refine AW.if_ne (tgt := 48) (pc' := 39) d_M_personAt_36 (by decide) rfl (fun h => absurd h (by decide)) (fun _ => ?_)
  refine AW.aload_n (pc' := 40) d_M_personAt_39 rfl rfl rfl ?_
  refine AW.getf (pc' := 43) d_M_personAt_40 rfl fl_M_13 rfl rfl ?_
  refine AW.iload_n (pc' := 44) d_M_personAt_43 rfl rfl rfl ?_
  refine AW.ialdN (pc' := 45) d_M_personAt_44 rfl rfl (by omega) (by decide) ?_
  refine AW.goto (tgt := 67) d_M_personAt_45 (by decide) ?_
  exact AW.iret d_M_personAt_67 rfl rfl rfl ⟨rfl, rfl⟩
theorem k_personAt_1 (X : ct_X) (z : S_c) (k : S_m) (o : Nat → Int64) (p : Nat) (hj : p < k_np k) (hnp : k_np k ≤ 40) (hn : k_ns k ≤ 20) : AF X m_M_personAt 3 0 0 [.ref 20, .int (nI (p)), .int (nI (1))] (wL z k o) (.inl (some (.int (oI (f_leads k (nI p)))))) (wL z (k_thr_ k (nI 0)) o) := by
  refine AM.of rfl (Nat.le_of_ble_eq_true rfl) (ls := [some (.ref 20), some (.int (nI (p))), some (.int (nI (1)))]) rfl ?_
  refine AW.aload_n (pc' := 1) d_M_personAt_0 rfl rfl rfl ?_
  refine AW.iconst (pc' := 2) (v := nI 1) d_M_personAt_1 rfl (by decide) ?_
  refine AW.aload_n (pc' := 3) d_M_personAt_2 rfl rfl rfl ?_
  refine AW.iload_n (pc' := 4) d_M_personAt_3 rfl rfl rfl ?_
  refine AW.cV (pc' := 7) d_M_personAt_4 rfl cv_M_110 (by decide) rfl rfl rfl (k_isPerson_t X z k o p hj (by omega)) rfl rfl rfl rfl rfl rfl rfl ?_
  refine AW.if_eq (tgt := 23) (pc' := 10) d_M_personAt_7 (by decide) rfl (fun h => absurd h (by decide)) (fun _ => ?_)
  refine AW.iload_n (pc' := 11) d_M_personAt_10 rfl rfl rfl ?_
  refine AW.iconst (pc' := 12) (v := nI 0) d_M_personAt_11 rfl (by decide) ?_
  refine AW.iconst (pc' := 13) (v := nI 2) d_M_personAt_12 rfl (by decide) ?_
  refine AW.cS (pc' := 16) d_M_personAt_13 rfl cs_M_75 (by decide) (k_within_t X z k o (nI 1) (nI 0) (nI 2) (by decide) (by decide)) rfl rfl rfl rfl rfl rfl rfl ?_
  refine AW.if_eq (tgt := 23) (pc' := 19) d_M_personAt_16 (by decide) rfl (fun h => absurd h (by decide)) (fun _ => ?_)
  refine AW.iconst (pc' := 20) (v := nI 1) d_M_personAt_19 rfl (by decide) ?_
  refine AW.goto (tgt := 24) d_M_personAt_20 (by decide) ?_
  refine AW.iconst (pc' := 25) (v := nI 1) d_M_personAt_24 rfl (by decide) ?_
  refine AW.iconst (pc' := 26) (v := nI 1) d_M_personAt_25 rfl (by decide) ?_
  refine AW.iconst (pc' := 27) (v := nI 1) d_M_personAt_26 rfl (by decide) ?_
  refine AW.cV (pc' := 30) d_M_personAt_27 rfl cv_M_106 (by decide) rfl rfl rfl (k_goes_1_0 X z k o ) rfl rfl rfl rfl rfl rfl rfl ?_
  refine AW.if_ne (tgt := 35) (pc' := 33) d_M_personAt_30 (by decide) rfl (fun _ => ?_) (fun h => absurd h (by decide))
  refine AW.iload_n (pc' := 36) d_M_personAt_35 rfl rfl rfl ?_
  refine AW.if_ne (tgt := 48) (pc' := 39) d_M_personAt_36 (by decide) rfl (fun _ => ?_) (fun h => absurd h (by decide))
  refine AW.iload_n (pc' := 49) d_M_personAt_48 rfl rfl rfl ?_
  refine AW.iconst (pc' := 50) (v := nI 1) d_M_personAt_49 rfl (by decide) ?_
  refine AW.icmp_neN (tgt := 61) (pc' := 53) d_M_personAt_50 (by decide) rfl (by decide) (by decide) (fun h => absurd h (by decide)) (fun _ => ?_)
  refine AW.aload_n (pc' := 54) d_M_personAt_53 rfl rfl rfl ?_
  refine AW.iload_n (pc' := 55) d_M_personAt_54 rfl rfl rfl ?_
  refine AW.cV (pc' := 58) d_M_personAt_55 rfl cv_M_96 (by decide) rfl rfl rfl (k_leads X z (k_thr_ k (nI 0)) o (nI p) hn) rfl rfl rfl rfl rfl rfl rfl ?_
  refine AW.goto (tgt := 67) d_M_personAt_58 (by decide) ?_
  exact AW.iret d_M_personAt_67 rfl rfl rfl ⟨rfl, rfl⟩
theorem k_personAt_2 (X : ct_X) (z : S_c) (k : S_m) (o : Nat → Int64) (p : Nat) (hj : p < k_np k) (hnp : k_np k ≤ 40) : AF X m_M_personAt 3 0 0 [.ref 20, .int (nI (p)), .int (nI (2))] (wL z k o) (.inl (some (.int (k_arr k p)))) (wL z (k_thr_ k (nI 0)) o) := by
  refine AM.of rfl (Nat.le_of_ble_eq_true rfl) (ls := [some (.ref 20), some (.int (nI (p))), some (.int (nI (2)))]) rfl ?_
  refine AW.aload_n (pc' := 1) d_M_personAt_0 rfl rfl rfl ?_
  refine AW.iconst (pc' := 2) (v := nI 1) d_M_personAt_1 rfl (by decide) ?_
  refine AW.aload_n (pc' := 3) d_M_personAt_2 rfl rfl rfl ?_
  refine AW.iload_n (pc' := 4) d_M_personAt_3 rfl rfl rfl ?_
  refine AW.cV (pc' := 7) d_M_personAt_4 rfl cv_M_110 (by decide) rfl rfl rfl (k_isPerson_t X z k o p hj (by omega)) rfl rfl rfl rfl rfl rfl rfl ?_
  refine AW.if_eq (tgt := 23) (pc' := 10) d_M_personAt_7 (by decide) rfl (fun h => absurd h (by decide)) (fun _ => ?_)
  refine AW.iload_n (pc' := 11) d_M_personAt_10 rfl rfl rfl ?_
  refine AW.iconst (pc' := 12) (v := nI 0) d_M_personAt_11 rfl (by decide) ?_
  refine AW.iconst (pc' := 13) (v := nI 2) d_M_personAt_12 rfl (by decide) ?_
  refine AW.cS (pc' := 16) d_M_personAt_13 rfl cs_M_75 (by decide) (k_within_t X z k o (nI 2) (nI 0) (nI 2) (by decide) (by decide)) rfl rfl rfl rfl rfl rfl rfl ?_
  refine AW.if_eq (tgt := 23) (pc' := 19) d_M_personAt_16 (by decide) rfl (fun h => absurd h (by decide)) (fun _ => ?_)
  refine AW.iconst (pc' := 20) (v := nI 1) d_M_personAt_19 rfl (by decide) ?_
  refine AW.goto (tgt := 24) d_M_personAt_20 (by decide) ?_
  refine AW.iconst (pc' := 25) (v := nI 1) d_M_personAt_24 rfl (by decide) ?_
  refine AW.iconst (pc' := 26) (v := nI 1) d_M_personAt_25 rfl (by decide) ?_
  refine AW.iconst (pc' := 27) (v := nI 1) d_M_personAt_26 rfl (by decide) ?_
  refine AW.cV (pc' := 30) d_M_personAt_27 rfl cv_M_106 (by decide) rfl rfl rfl (k_goes_1_0 X z k o ) rfl rfl rfl rfl rfl rfl rfl ?_
  refine AW.if_ne (tgt := 35) (pc' := 33) d_M_personAt_30 (by decide) rfl (fun _ => ?_) (fun h => absurd h (by decide))
  refine AW.iload_n (pc' := 36) d_M_personAt_35 rfl rfl rfl ?_
  refine AW.if_ne (tgt := 48) (pc' := 39) d_M_personAt_36 (by decide) rfl (fun _ => ?_) (fun h => absurd h (by decide))
  refine AW.iload_n (pc' := 49) d_M_personAt_48 rfl rfl rfl ?_
  refine AW.iconst (pc' := 50) (v := nI 1) d_M_personAt_49 rfl (by decide) ?_
  refine AW.icmp_neN (tgt := 61) (pc' := 53) d_M_personAt_50 (by decide) rfl (by decide) (by decide) (fun _ => ?_) (fun h => absurd h (by decide))
  refine AW.aload_n (pc' := 62) d_M_personAt_61 rfl rfl rfl ?_
  refine AW.getf (pc' := 65) d_M_personAt_62 rfl fl_M_16 rfl rfl ?_
  refine AW.iload_n (pc' := 66) d_M_personAt_65 rfl rfl rfl ?_
  refine AW.ialdN (pc' := 67) d_M_personAt_66 rfl rfl (by omega) (by decide) ?_
  exact AW.iret d_M_personAt_67 rfl rfl rfl ⟨rfl, rfl⟩
theorem k_unitAt_x (X : ct_X) (z : S_c) (k : S_m) (o : Nat → Int64) (x : Int32) (hx : x < 0 ∨ nI (k_nu k) ≤ x) (hnu : k_nu k ≤ 20) : AF X m_M_unitAt 3 0 0 [.ref 20, .int (x)] (wL z k o) (.inl (some (.int (nI 0)))) (wL z (k_thr_ k (nI 1)) o) := by
  refine AM.of rfl (Nat.le_of_ble_eq_true rfl) (ls := [some (.ref 20), some (.int (x))]) rfl ?_
  refine AW.aload_n (pc' := 1) d_M_unitAt_0 rfl rfl rfl ?_
  refine AW.iconst (pc' := 2) (v := nI 1) d_M_unitAt_1 rfl (by decide) ?_
  refine AW.aload_n (pc' := 3) d_M_unitAt_2 rfl rfl rfl ?_
  refine AW.iload_n (pc' := 4) d_M_unitAt_3 rfl rfl rfl ?_
  refine AW.cV (pc' := 7) d_M_unitAt_4 rfl cv_M_119 (by decide) rfl rfl rfl (k_isUnit_f X z k o x hx (by omega)) rfl rfl rfl rfl rfl rfl rfl ?_
  refine AW.iconst (pc' := 8) (v := nI 1) d_M_unitAt_7 rfl (by decide) ?_
  refine AW.iconst (pc' := 9) (v := nI 1) d_M_unitAt_8 rfl (by decide) ?_
  refine AW.iconst (pc' := 10) (v := nI 1) d_M_unitAt_9 rfl (by decide) ?_
  refine AW.cV (pc' := 13) d_M_unitAt_10 rfl cv_M_106 (by decide) rfl rfl rfl (k_goes_1_1 X z k o ((nI (1))) ((nI (1))) ((nI (1)))) rfl rfl rfl rfl rfl rfl rfl ?_
  refine AW.if_ne (tgt := 18) (pc' := 16) d_M_unitAt_13 (by decide) rfl (fun h => absurd h (by decide)) (fun _ => ?_)
  refine AW.iconst (pc' := 17) (v := nI 0) d_M_unitAt_16 rfl (by decide) ?_
  exact AW.iret d_M_unitAt_17 rfl rfl rfl ⟨rfl, rfl⟩
theorem k_unitAt_0 (X : ct_X) (z : S_c) (k : S_m) (o : Nat → Int64) (u : Nat) (hu : u < k_nu k) (hnu : k_nu k ≤ 20) : AF X m_M_unitAt 3 0 0 [.ref 20, .int (nI (u))] (wL z k o) (.inl (some (.int (k_uin k u)))) (wL z (k_thr_ k (nI 0)) o) := by
  refine AM.of rfl (Nat.le_of_ble_eq_true rfl) (ls := [some (.ref 20), some (.int (nI (u)))]) rfl ?_
  refine AW.aload_n (pc' := 1) d_M_unitAt_0 rfl rfl rfl ?_
  refine AW.iconst (pc' := 2) (v := nI 1) d_M_unitAt_1 rfl (by decide) ?_
  refine AW.aload_n (pc' := 3) d_M_unitAt_2 rfl rfl rfl ?_
  refine AW.iload_n (pc' := 4) d_M_unitAt_3 rfl rfl rfl ?_
  refine AW.cV (pc' := 7) d_M_unitAt_4 rfl cv_M_119 (by decide) rfl rfl rfl (k_isUnit_t X z k o u hu (by omega)) rfl rfl rfl rfl rfl rfl rfl ?_
  refine AW.iconst (pc' := 8) (v := nI 1) d_M_unitAt_7 rfl (by decide) ?_
  refine AW.iconst (pc' := 9) (v := nI 1) d_M_unitAt_8 rfl (by decide) ?_
  refine AW.iconst (pc' := 10) (v := nI 1) d_M_unitAt_9 rfl (by decide) ?_
  refine AW.cV (pc' := 13) d_M_unitAt_10 rfl cv_M_106 (by decide) rfl rfl rfl (k_goes_1_0 X z k o ) rfl rfl rfl rfl rfl rfl rfl ?_
  refine AW.if_ne (tgt := 18) (pc' := 16) d_M_unitAt_13 (by decide) rfl (fun _ => ?_) (fun h => absurd h (by decide))
  refine AW.aload_n (pc' := 19) d_M_unitAt_18 rfl rfl rfl ?_
  refine AW.getf (pc' := 22) d_M_unitAt_19 rfl fl_M_19 rfl rfl ?_
  refine AW.iload_n (pc' := 23) d_M_unitAt_22 rfl rfl rfl ?_
  refine AW.ialdN (pc' := 24) d_M_unitAt_23 rfl rfl (by omega) (by decide) ?_
  exact AW.iret d_M_unitAt_24 rfl rfl rfl ⟨rfl, rfl⟩
theorem k_taskAt_x (X : ct_X) (z : S_c) (k : S_m) (o : Nat → Int64) (x : Int32) (hx : x < 0 ∨ nI (k_nt k) ≤ x) (hnt : k_nt k ≤ 60) (y : Int32) : AF X m_M_taskAt 3 0 0 [.ref 20, .int (x), .int (y)] (wL z k o) (.inl (some (.int (nI 0)))) (wL z (k_thr_ k (nI 1)) o) := by
  refine AM.of rfl (Nat.le_of_ble_eq_true rfl) (ls := [some (.ref 20), some (.int (x)), some (.int (y))]) rfl ?_
  refine AW.aload_n (pc' := 1) d_M_taskAt_0 rfl rfl rfl ?_
  refine AW.iconst (pc' := 2) (v := nI 1) d_M_taskAt_1 rfl (by decide) ?_
  refine AW.iload_n (pc' := 3) d_M_taskAt_2 rfl rfl rfl ?_
  refine AW.iconst (pc' := 4) (v := nI 0) d_M_taskAt_3 rfl (by decide) ?_
  refine AW.aload_n (pc' := 5) d_M_taskAt_4 rfl rfl rfl ?_
  refine AW.getf (pc' := 8) d_M_taskAt_5 rfl fl_M_126 rfl rfl ?_
  refine AW.iconst (pc' := 9) (v := nI 1) d_M_taskAt_8 rfl (by decide) ?_
  refine AW.isub (pc' := 10) d_M_taskAt_9 rfl ?_
  refine AW.cS (pc' := 13) d_M_taskAt_10 rfl cs_M_75 (by decide) (k_within_f X z k o x (nI 0) (nI (k_nt k) - nI 1) (out_pred (by omega) hx)) rfl rfl rfl rfl rfl rfl rfl ?_
  refine AW.if_eq (tgt := 29) (pc' := 16) d_M_taskAt_13 (by decide) rfl (fun _ => ?_) (fun h => absurd h (by decide))
  refine AW.iconst (pc' := 30) (v := nI 0) d_M_taskAt_29 rfl (by decide) ?_
  refine AW.iconst (pc' := 31) (v := nI 1) d_M_taskAt_30 rfl (by decide) ?_
  refine AW.iconst (pc' := 32) (v := nI 1) d_M_taskAt_31 rfl (by decide) ?_
  refine AW.iconst (pc' := 33) (v := nI 1) d_M_taskAt_32 rfl (by decide) ?_
  refine AW.cV (pc' := 36) d_M_taskAt_33 rfl cv_M_106 (by decide) rfl rfl rfl (k_goes_1_1 X z k o ((nI (1))) ((nI (1))) ((nI (1)))) rfl rfl rfl rfl rfl rfl rfl ?_
  refine AW.if_ne (tgt := 41) (pc' := 39) d_M_taskAt_36 (by decide) rfl (fun h => absurd h (by decide)) (fun _ => ?_)
  refine AW.iconst (pc' := 40) (v := nI 0) d_M_taskAt_39 rfl (by decide) ?_
  exact AW.iret d_M_taskAt_40 rfl rfl rfl ⟨rfl, rfl⟩
theorem k_taskAt_y (X : ct_X) (z : S_c) (k : S_m) (o : Nat → Int64) (t : Nat) (ht : t < k_nt k) (hnt : k_nt k ≤ 60) (y : Int32) (hy : y < nI 0 ∨ nI 2 < y) : AF X m_M_taskAt 3 0 0 [.ref 20, .int (nI (t)), .int (y)] (wL z k o) (.inl (some (.int (nI 0)))) (wL z (k_thr_ k (nI 1)) o) := by
  refine AM.of rfl (Nat.le_of_ble_eq_true rfl) (ls := [some (.ref 20), some (.int (nI (t))), some (.int (y))]) rfl ?_
  refine AW.aload_n (pc' := 1) d_M_taskAt_0 rfl rfl rfl ?_
  refine AW.iconst (pc' := 2) (v := nI 1) d_M_taskAt_1 rfl (by decide) ?_
  refine AW.iload_n (pc' := 3) d_M_taskAt_2 rfl rfl rfl ?_
  refine AW.iconst (pc' := 4) (v := nI 0) d_M_taskAt_3 rfl (by decide) ?_
  refine AW.aload_n (pc' := 5) d_M_taskAt_4 rfl rfl rfl ?_
  refine AW.getf (pc' := 8) d_M_taskAt_5 rfl fl_M_126 rfl rfl ?_
  refine AW.iconst (pc' := 9) (v := nI 1) d_M_taskAt_8 rfl (by decide) ?_
  refine AW.isub (pc' := 10) d_M_taskAt_9 rfl ?_
  refine AW.cS (pc' := 13) d_M_taskAt_10 rfl cs_M_75 (by decide) (k_within_t X z k o (nI t) (nI 0) (nI (k_nt k) - nI 1) (in_pred (by omega) ht).1 (in_pred (by omega) ht).2) rfl rfl rfl rfl rfl rfl rfl ?_
  refine AW.if_eq (tgt := 29) (pc' := 16) d_M_taskAt_13 (by decide) rfl (fun h => absurd h (by decide)) (fun _ => ?_)
  refine AW.iload_n (pc' := 17) d_M_taskAt_16 rfl rfl rfl ?_
  refine AW.iconst (pc' := 18) (v := nI 0) d_M_taskAt_17 rfl (by decide) ?_
  refine AW.iconst (pc' := 19) (v := nI 2) d_M_taskAt_18 rfl (by decide) ?_
  refine AW.cS (pc' := 22) d_M_taskAt_19 rfl cs_M_75 (by decide) (k_within_f X z k o y (nI 0) (nI 2) hy) rfl rfl rfl rfl rfl rfl rfl ?_
  refine AW.if_eq (tgt := 29) (pc' := 25) d_M_taskAt_22 (by decide) rfl (fun _ => ?_) (fun h => absurd h (by decide))
  refine AW.iconst (pc' := 30) (v := nI 0) d_M_taskAt_29 rfl (by decide) ?_
  refine AW.iconst (pc' := 31) (v := nI 1) d_M_taskAt_30 rfl (by decide) ?_
  refine AW.iconst (pc' := 32) (v := nI 1) d_M_taskAt_31 rfl (by decide) ?_
  refine AW.iconst (pc' := 33) (v := nI 1) d_M_taskAt_32 rfl (by decide) ?_
  refine AW.cV (pc' := 36) d_M_taskAt_33 rfl cv_M_106 (by decide) rfl rfl rfl (k_goes_1_1 X z k o ((nI (1))) ((nI (1))) ((nI (1)))) rfl rfl rfl rfl rfl rfl rfl ?_
  refine AW.if_ne (tgt := 41) (pc' := 39) d_M_taskAt_36 (by decide) rfl (fun h => absurd h (by decide)) (fun _ => ?_)
  refine AW.iconst (pc' := 40) (v := nI 0) d_M_taskAt_39 rfl (by decide) ?_
  exact AW.iret d_M_taskAt_40 rfl rfl rfl ⟨rfl, rfl⟩
theorem k_taskAt_0 (X : ct_X) (z : S_c) (k : S_m) (o : Nat → Int64) (t : Nat) (ht : t < k_nt k) (hnt : k_nt k ≤ 60) : AF X m_M_taskAt 3 0 0 [.ref 20, .int (nI (t)), .int (nI (0))] (wL z k o) (.inl (some (.int (k_tof k t)))) (wL z (k_thr_ k (nI 0)) o) := by
  refine AM.of rfl (Nat.le_of_ble_eq_true rfl) (ls := [some (.ref 20), some (.int (nI (t))), some (.int (nI (0)))]) rfl ?_
  refine AW.aload_n (pc' := 1) d_M_taskAt_0 rfl rfl rfl ?_
  refine AW.iconst (pc' := 2) (v := nI 1) d_M_taskAt_1 rfl (by decide) ?_
  refine AW.iload_n (pc' := 3) d_M_taskAt_2 rfl rfl rfl ?_
  refine AW.iconst (pc' := 4) (v := nI 0) d_M_taskAt_3 rfl (by decide) ?_
  refine AW.aload_n (pc' := 5) d_M_taskAt_4 rfl rfl rfl ?_
  refine AW.getf (pc' := 8) d_M_taskAt_5 rfl fl_M_126 rfl rfl ?_
  refine AW.iconst (pc' := 9) (v := nI 1) d_M_taskAt_8 rfl (by decide) ?_
  refine AW.isub (pc' := 10) d_M_taskAt_9 rfl ?_
  refine AW.cS (pc' := 13) d_M_taskAt_10 rfl cs_M_75 (by decide) (k_within_t X z k o (nI t) (nI 0) (nI (k_nt k) - nI 1) (in_pred (by omega) ht).1 (in_pred (by omega) ht).2) rfl rfl rfl rfl rfl rfl rfl ?_
  refine AW.if_eq (tgt := 29) (pc' := 16) d_M_taskAt_13 (by decide) rfl (fun h => absurd h (by decide)) (fun _ => ?_)
  refine AW.iload_n (pc' := 17) d_M_taskAt_16 rfl rfl rfl ?_
  refine AW.iconst (pc' := 18) (v := nI 0) d_M_taskAt_17 rfl (by decide) ?_
  refine AW.iconst (pc' := 19) (v := nI 2) d_M_taskAt_18 rfl (by decide) ?_
  refine AW.cS (pc' := 22) d_M_taskAt_19 rfl cs_M_75 (by decide) (k_within_t X z k o (nI 0) (nI 0) (nI 2) (by decide) (by decide)) rfl rfl rfl rfl rfl rfl rfl ?_
  refine AW.if_eq (tgt := 29) (pc' := 25) d_M_taskAt_22 (by decide) rfl (fun h => absurd h (by decide)) (fun _ => ?_)
  refine AW.iconst (pc' := 26) (v := nI 1) d_M_taskAt_25 rfl (by decide) ?_
  refine AW.goto (tgt := 30) d_M_taskAt_26 (by decide) ?_
  refine AW.iconst (pc' := 31) (v := nI 1) d_M_taskAt_30 rfl (by decide) ?_
  refine AW.iconst (pc' := 32) (v := nI 1) d_M_taskAt_31 rfl (by decide) ?_
  refine AW.iconst (pc' := 33) (v := nI 1) d_M_taskAt_32 rfl (by decide) ?_
  refine AW.cV (pc' := 36) d_M_taskAt_33 rfl cv_M_106 (by decide) rfl rfl rfl (k_goes_1_0 X z k o ) rfl rfl rfl rfl rfl rfl rfl ?_
  refine AW.if_ne (tgt := 41) (pc' := 39) d_M_taskAt_36 (by decide) rfl (fun _ => ?_) (fun h => absurd h (by decide))
  refine AW.iload_n (pc' := 42) d_M_taskAt_41 rfl rfl rfl ?_
  refine AW.if_ne (tgt := 54) (pc' := 45) d_M_taskAt_42 (by decide) rfl (fun h => absurd h (by decide)) (fun _ => ?_)
  refine AW.aload_n (pc' := 46) d_M_taskAt_45 rfl rfl rfl ?_
  refine AW.getf (pc' := 49) d_M_taskAt_46 rfl fl_M_42 rfl rfl ?_
  refine AW.iload_n (pc' := 50) d_M_taskAt_49 rfl rfl rfl ?_
  refine AW.ialdN (pc' := 51) d_M_taskAt_50 rfl rfl (by omega) (by decide) ?_
  refine AW.goto (tgt := 74) d_M_taskAt_51 (by decide) ?_
  exact AW.iret d_M_taskAt_74 rfl rfl rfl ⟨rfl, rfl⟩
theorem k_taskAt_1 (X : ct_X) (z : S_c) (k : S_m) (o : Nat → Int64) (t : Nat) (ht : t < k_nt k) (hnt : k_nt k ≤ 60) : AF X m_M_taskAt 3 0 0 [.ref 20, .int (nI (t)), .int (nI (1))] (wL z k o) (.inl (some (.int (k_sta k t)))) (wL z (k_thr_ k (nI 0)) o) := by
  refine AM.of rfl (Nat.le_of_ble_eq_true rfl) (ls := [some (.ref 20), some (.int (nI (t))), some (.int (nI (1)))]) rfl ?_
  refine AW.aload_n (pc' := 1) d_M_taskAt_0 rfl rfl rfl ?_
  refine AW.iconst (pc' := 2) (v := nI 1) d_M_taskAt_1 rfl (by decide) ?_
  refine AW.iload_n (pc' := 3) d_M_taskAt_2 rfl rfl rfl ?_
  refine AW.iconst (pc' := 4) (v := nI 0) d_M_taskAt_3 rfl (by decide) ?_
  refine AW.aload_n (pc' := 5) d_M_taskAt_4 rfl rfl rfl ?_
  refine AW.getf (pc' := 8) d_M_taskAt_5 rfl fl_M_126 rfl rfl ?_
  refine AW.iconst (pc' := 9) (v := nI 1) d_M_taskAt_8 rfl (by decide) ?_
  refine AW.isub (pc' := 10) d_M_taskAt_9 rfl ?_
  refine AW.cS (pc' := 13) d_M_taskAt_10 rfl cs_M_75 (by decide) (k_within_t X z k o (nI t) (nI 0) (nI (k_nt k) - nI 1) (in_pred (by omega) ht).1 (in_pred (by omega) ht).2) rfl rfl rfl rfl rfl rfl rfl ?_
  refine AW.if_eq (tgt := 29) (pc' := 16) d_M_taskAt_13 (by decide) rfl (fun h => absurd h (by decide)) (fun _ => ?_)
  refine AW.iload_n (pc' := 17) d_M_taskAt_16 rfl rfl rfl ?_
  refine AW.iconst (pc' := 18) (v := nI 0) d_M_taskAt_17 rfl (by decide) ?_
  refine AW.iconst (pc' := 19) (v := nI 2) d_M_taskAt_18 rfl (by decide) ?_
  refine AW.cS (pc' := 22) d_M_taskAt_19 rfl cs_M_75 (by decide) (k_within_t X z k o (nI 1) (nI 0) (nI 2) (by decide) (by decide)) rfl rfl rfl rfl rfl rfl rfl ?_
  refine AW.if_eq (tgt := 29) (pc' := 25) d_M_taskAt_22 (by decide) rfl (fun h => absurd h (by decide)) (fun _ => ?_)
  refine AW.iconst (pc' := 26) (v := nI 1) d_M_taskAt_25 rfl (by decide) ?_
  refine AW.goto (tgt := 30) d_M_taskAt_26 (by decide) ?_
  refine AW.iconst (pc' := 31) (v := nI 1) d_M_taskAt_30 rfl (by decide) ?_
  refine AW.iconst (pc' := 32) (v := nI 1) d_M_taskAt_31 rfl (by decide) ?_
  refine AW.iconst (pc' := 33) (v := nI 1) d_M_taskAt_32 rfl (by decide) ?_
  refine AW.cV (pc' := 36) d_M_taskAt_33 rfl cv_M_106 (by decide) rfl rfl rfl (k_goes_1_0 X z k o ) rfl rfl rfl rfl rfl rfl rfl ?_
  refine AW.if_ne (tgt := 41) (pc' := 39) d_M_taskAt_36 (by decide) rfl (fun _ => ?_) (fun h => absurd h (by decide))
  refine AW.iload_n (pc' := 42) d_M_taskAt_41 rfl rfl rfl ?_
  refine AW.if_ne (tgt := 54) (pc' := 45) d_M_taskAt_42 (by decide) rfl (fun _ => ?_) (fun h => absurd h (by decide))
  refine AW.iload_n (pc' := 55) d_M_taskAt_54 rfl rfl rfl ?_
  refine AW.iconst (pc' := 56) (v := nI 1) d_M_taskAt_55 rfl (by decide) ?_
  refine AW.icmp_neN (tgt := 68) (pc' := 59) d_M_taskAt_56 (by decide) rfl (by decide) (by decide) (fun h => absurd h (by decide)) (fun _ => ?_)
  refine AW.aload_n (pc' := 60) d_M_taskAt_59 rfl rfl rfl ?_
  refine AW.getf (pc' := 63) d_M_taskAt_60 rfl fl_M_48 rfl rfl ?_
  refine AW.iload_n (pc' := 64) d_M_taskAt_63 rfl rfl rfl ?_
  refine AW.ialdN (pc' := 65) d_M_taskAt_64 rfl rfl (by omega) (by decide) ?_
  refine AW.goto (tgt := 74) d_M_taskAt_65 (by decide) ?_
  exact AW.iret d_M_taskAt_74 rfl rfl rfl ⟨rfl, rfl⟩
theorem k_taskAt_2 (X : ct_X) (z : S_c) (k : S_m) (o : Nat → Int64) (t : Nat) (ht : t < k_nt k) (hnt : k_nt k ≤ 60) : AF X m_M_taskAt 3 0 0 [.ref 20, .int (nI (t)), .int (nI (2))] (wL z k o) (.inl (some (.int (k_ans k t)))) (wL z (k_thr_ k (nI 0)) o) := by
  refine AM.of rfl (Nat.le_of_ble_eq_true rfl) (ls := [some (.ref 20), some (.int (nI (t))), some (.int (nI (2)))]) rfl ?_
  refine AW.aload_n (pc' := 1) d_M_taskAt_0 rfl rfl rfl ?_
  refine AW.iconst (pc' := 2) (v := nI 1) d_M_taskAt_1 rfl (by decide) ?_
  refine AW.iload_n (pc' := 3) d_M_taskAt_2 rfl rfl rfl ?_
  refine AW.iconst (pc' := 4) (v := nI 0) d_M_taskAt_3 rfl (by decide) ?_
  refine AW.aload_n (pc' := 5) d_M_taskAt_4 rfl rfl rfl ?_
  refine AW.getf (pc' := 8) d_M_taskAt_5 rfl fl_M_126 rfl rfl ?_
  refine AW.iconst (pc' := 9) (v := nI 1) d_M_taskAt_8 rfl (by decide) ?_
  refine AW.isub (pc' := 10) d_M_taskAt_9 rfl ?_
  refine AW.cS (pc' := 13) d_M_taskAt_10 rfl cs_M_75 (by decide) (k_within_t X z k o (nI t) (nI 0) (nI (k_nt k) - nI 1) (in_pred (by omega) ht).1 (in_pred (by omega) ht).2) rfl rfl rfl rfl rfl rfl rfl ?_
  refine AW.if_eq (tgt := 29) (pc' := 16) d_M_taskAt_13 (by decide) rfl (fun h => absurd h (by decide)) (fun _ => ?_)
  refine AW.iload_n (pc' := 17) d_M_taskAt_16 rfl rfl rfl ?_
  refine AW.iconst (pc' := 18) (v := nI 0) d_M_taskAt_17 rfl (by decide) ?_
  refine AW.iconst (pc' := 19) (v := nI 2) d_M_taskAt_18 rfl (by decide) ?_
  refine AW.cS (pc' := 22) d_M_taskAt_19 rfl cs_M_75 (by decide) (k_within_t X z k o (nI 2) (nI 0) (nI 2) (by decide) (by decide)) rfl rfl rfl rfl rfl rfl rfl ?_
  refine AW.if_eq (tgt := 29) (pc' := 25) d_M_taskAt_22 (by decide) rfl (fun h => absurd h (by decide)) (fun _ => ?_)
  refine AW.iconst (pc' := 26) (v := nI 1) d_M_taskAt_25 rfl (by decide) ?_
  refine AW.goto (tgt := 30) d_M_taskAt_26 (by decide) ?_
  refine AW.iconst (pc' := 31) (v := nI 1) d_M_taskAt_30 rfl (by decide) ?_
  refine AW.iconst (pc' := 32) (v := nI 1) d_M_taskAt_31 rfl (by decide) ?_
  refine AW.iconst (pc' := 33) (v := nI 1) d_M_taskAt_32 rfl (by decide) ?_
  refine AW.cV (pc' := 36) d_M_taskAt_33 rfl cv_M_106 (by decide) rfl rfl rfl (k_goes_1_0 X z k o ) rfl rfl rfl rfl rfl rfl rfl ?_
  refine AW.if_ne (tgt := 41) (pc' := 39) d_M_taskAt_36 (by decide) rfl (fun _ => ?_) (fun h => absurd h (by decide))
  refine AW.iload_n (pc' := 42) d_M_taskAt_41 rfl rfl rfl ?_
  refine AW.if_ne (tgt := 54) (pc' := 45) d_M_taskAt_42 (by decide) rfl (fun _ => ?_) (fun h => absurd h (by decide))
  refine AW.iload_n (pc' := 55) d_M_taskAt_54 rfl rfl rfl ?_
  refine AW.iconst (pc' := 56) (v := nI 1) d_M_taskAt_55 rfl (by decide) ?_
  refine AW.icmp_neN (tgt := 68) (pc' := 59) d_M_taskAt_56 (by decide) rfl (by decide) (by decide) (fun _ => ?_) (fun h => absurd h (by decide))
  refine AW.aload_n (pc' := 69) d_M_taskAt_68 rfl rfl rfl ?_
  refine AW.getf (pc' := 72) d_M_taskAt_69 rfl fl_M_51 rfl rfl ?_
  refine AW.iload_n (pc' := 73) d_M_taskAt_72 rfl rfl rfl ?_
  refine AW.ialdN (pc' := 74) d_M_taskAt_73 rfl rfl (by omega) (by decide) ?_
  exact AW.iret d_M_taskAt_74 rfl rfl rfl ⟨rfl, rfl⟩
theorem k_passed_0 (X : ct_X) (z : S_c) (k : S_m) (o : Nat → Int64) (x : Int32) (hx : x < 0) : AF X m_M_passed 3 0 0 [.ref 20, .int (x)] (wL z k o) (.inl (some (.int (nI 0)))) (wL z (k_thr_ k (nI 1)) o) := by
  refine AM.of rfl (Nat.le_of_ble_eq_true rfl) (ls := [some (.ref 20), some (.int (x)), none, none]) rfl ?_
  refine AW.aload_n (pc' := 1) d_M_passed_0 rfl rfl rfl ?_
  refine AW.iconst (pc' := 2) (v := nI 2) d_M_passed_1 rfl (by decide) ?_
  refine AW.iconst (pc' := 3) (v := nI 1) d_M_passed_2 rfl (by decide) ?_
  refine AW.iload_n (pc' := 4) d_M_passed_3 rfl rfl rfl ?_
  refine AW.if_lt (tgt := 11) (pc' := 7) d_M_passed_4 (by decide) rfl (fun h4 => ?_) (fun h => absurd hx h)
  refine AW.iconst (pc' := 12) (v := nI 0) d_M_passed_11 rfl (by decide) ?_
  refine AW.iconst (pc' := 13) (v := nI 1) d_M_passed_12 rfl (by decide) ?_
  refine AW.iconst (pc' := 14) (v := nI 1) d_M_passed_13 rfl (by decide) ?_
  refine AW.cV (pc' := 17) d_M_passed_14 rfl cv_M_106 (by decide) rfl rfl rfl (k_goes_2_2 X z k o ((nI (1))) ((nI (1)))) rfl rfl rfl rfl rfl rfl rfl ?_
  refine AW.if_ne (tgt := 22) (pc' := 20) d_M_passed_17 (by decide) rfl (fun h => absurd h (by decide)) (fun _ => ?_)
  refine AW.iconst (pc' := 21) (v := nI 0) d_M_passed_20 rfl (by decide) ?_
  exact AW.iret d_M_passed_21 rfl rfl rfl ⟨rfl, rfl⟩
theorem dec_nI {l : Nat} (h : 0 < l) : nI l + Int32.ofInt (-1) = nI (l - 1) := by
  rw [← pk_sub h, Int32.sub_eq_add_neg]
  rfl
theorem lp_kpsd (X : ct_X) (z : S_c) (k : S_m) (o : Nat → Int64) (m : Nat) (hn : k_ns k ≤ 20) (hu : k_nu k ≤ 20) (hm : k_span k ≤ 20) : ∀ (n i l : Nat), i + n = k_ns k → l < 2 ^ 31 → AW X m_M_passed 3 0 0 0 0 26 [some (.ref 20), some (.int (nI (m))), some (.int (nI (l))), some (.int (nI (i)))] [] (wL z k o) (fun r w' => r = .inl (some (.int (f_psd (passK k) n i l))) ∧ w' = wL z k o) := by
  intro n
  induction n with
  | zero =>
    intro i l hi hl
    refine AW.iload_n (pc' := 27) d_M_passed_26 rfl rfl rfl ?_
    refine AW.aload_n (pc' := 28) d_M_passed_27 rfl rfl rfl ?_
    refine AW.getf (pc' := 31) d_M_passed_28 rfl fl_M_22 rfl rfl ?_
    refine AW.icmp_geN (tgt := 60) (pc' := 34) d_M_passed_31 (by decide) rfl (by omega) (by omega) (fun h31 => ?_) (fun h => absurd h (by omega))
    refine AW.iconst (pc' := 61) (v := (-1)) d_M_passed_60 rfl (by decide) ?_
    exact AW.iret d_M_passed_61 rfl rfl rfl ⟨rfl, rfl⟩
  | succ n ih =>
    intro i l hi hl
    refine AW.iload_n (pc' := 27) d_M_passed_26 rfl rfl rfl ?_
    refine AW.aload_n (pc' := 28) d_M_passed_27 rfl rfl rfl ?_
    refine AW.getf (pc' := 31) d_M_passed_28 rfl fl_M_22 rfl rfl ?_
    refine AW.icmp_geN (tgt := 60) (pc' := 34) d_M_passed_31 (by decide) rfl (by omega) (by omega) (fun h => absurd h (by omega)) (fun h31 => ?_)
    refine AW.aload_n (pc' := 35) d_M_passed_34 rfl rfl rfl ?_
    refine AW.iload_n (pc' := 36) d_M_passed_35 rfl rfl rfl ?_
    by_cases hb : passK k i = true
    · refine AW.cV (pc' := 39) d_M_passed_36 rfl cv_M_136 (by decide) rfl rfl rfl (k_isPassed_t X z k o i (by omega) hn hu hm hb) rfl rfl rfl rfl rfl rfl rfl ?_
      refine AW.if_ne (tgt := 45) (pc' := 42) d_M_passed_39 (by decide) rfl (fun _ => ?_) (fun h => absurd h (by decide))
      by_cases hl0 : l = 0
      · refine AW.iload_n (pc' := 46) d_M_passed_45 rfl rfl rfl ?_
        refine AW.if_ne (tgt := 51) (pc' := 49) d_M_passed_46 (by decide) rfl (fun h => absurd (by rw [hl0]; rfl) h) (fun h46 => ?_)
        refine AW.iload_n (pc' := 50) d_M_passed_49 rfl rfl rfl ?_
        exact AW.iret d_M_passed_50 rfl rfl rfl ⟨by rw [f_psd, if_pos hb, if_pos hl0], rfl⟩
      · refine AW.iload_n (pc' := 46) d_M_passed_45 rfl rfl rfl ?_
        refine AW.if_ne (tgt := 51) (pc' := 49) d_M_passed_46 (by decide) rfl (fun h46 => ?_) (fun h => absurd ((nI_eq (b := 0) (by omega) (by decide)).mp (h.trans (by decide))) hl0)
        refine AW.iinc (pc' := 54) (ls' := [some (.ref 20), some (.int (nI (m))), some (.int (nI (l - 1))), some (.int (nI (i)))]) d_M_passed_51 rfl rfl (dec_nI (by omega)) rfl rfl ?_
        refine AW.iincN (pc' := 57) (ls' := [some (.ref 20), some (.int (nI (m))), some (.int (nI (l - 1))), some (.int (nI (i + 1)))]) d_M_passed_54 rfl rfl rfl rfl ?_
        refine AW.goto (tgt := 26) d_M_passed_57 (by decide) ?_
        have h9 := ih (i + 1) (l - 1) (by omega) (by omega)
        rw [show f_psd (passK k) (n + 1) i l = f_psd (passK k) n (i + 1) (l - 1) from by rw [f_psd, if_pos hb, if_neg hl0]]
        exact h9
    · refine AW.cV (pc' := 39) d_M_passed_36 rfl cv_M_136 (by decide) rfl rfl rfl (k_isPassed_f X z k o i (by omega) hn hu hm (by simpa using hb)) rfl rfl rfl rfl rfl rfl rfl ?_
      refine AW.if_ne (tgt := 45) (pc' := 42) d_M_passed_39 (by decide) rfl (fun h => absurd h (by decide)) (fun _ => ?_)
      refine AW.goto (tgt := 54) d_M_passed_42 (by decide) ?_
      refine AW.iincN (pc' := 57) (ls' := [some (.ref 20), some (.int (nI (m))), some (.int (nI (l))), some (.int (nI (i + 1)))]) d_M_passed_54 rfl rfl rfl rfl ?_
      refine AW.goto (tgt := 26) d_M_passed_57 (by decide) ?_
      have h9 := ih (i + 1) l (by omega) hl
      rw [show f_psd (passK k) (n + 1) i l = f_psd (passK k) n (i + 1) l from by rw [f_psd, if_neg hb]]
      exact h9
theorem k_passed_1 (X : ct_X) (z : S_c) (k : S_m) (o : Nat → Int64) (m : Nat) (hmm : m < 2 ^ 31) (hn : k_ns k ≤ 20) (hu : k_nu k ≤ 20) (hm : k_span k ≤ 20) : AF X m_M_passed 3 0 0 [.ref 20, .int (nI (m))] (wL z k o) (.inl (some (.int (f_psd (passK k) (k_ns k) 0 m)))) (wL z (k_thr_ k (nI 0)) o) := by
  refine AM.of rfl (Nat.le_of_ble_eq_true rfl) (ls := [some (.ref 20), some (.int (nI (m))), none, none]) rfl ?_
  refine AW.aload_n (pc' := 1) d_M_passed_0 rfl rfl rfl ?_
  refine AW.iconst (pc' := 2) (v := nI 2) d_M_passed_1 rfl (by decide) ?_
  refine AW.iconst (pc' := 3) (v := nI 1) d_M_passed_2 rfl (by decide) ?_
  refine AW.iload_n (pc' := 4) d_M_passed_3 rfl rfl rfl ?_
  refine AW.if_lt (tgt := 11) (pc' := 7) d_M_passed_4 (by decide) rfl (fun h => absurd h (nI_pos (by omega))) (fun _ => ?_)
  refine AW.iconst (pc' := 8) (v := nI 1) d_M_passed_7 rfl (by decide) ?_
  refine AW.goto (tgt := 12) d_M_passed_8 (by decide) ?_
  refine AW.iconst (pc' := 13) (v := nI 1) d_M_passed_12 rfl (by decide) ?_
  refine AW.iconst (pc' := 14) (v := nI 1) d_M_passed_13 rfl (by decide) ?_
  refine AW.cV (pc' := 17) d_M_passed_14 rfl cv_M_106 (by decide) rfl rfl rfl (k_goes_2_0 X z k o ) rfl rfl rfl rfl rfl rfl rfl ?_
  refine AW.if_ne (tgt := 22) (pc' := 20) d_M_passed_17 (by decide) rfl (fun _ => ?_) (fun h => absurd h (by decide))
  refine AW.iload_n (pc' := 23) d_M_passed_22 rfl rfl rfl ?_
  refine AW.istore_n (pc' := 24) (ls' := [some (.ref 20), some (.int (nI (m))), some (.int (nI (m))), none]) d_M_passed_23 rfl rfl rfl rfl ?_
  refine AW.iconst (pc' := 25) (v := nI 0) d_M_passed_24 rfl (by decide) ?_
  refine AW.istore_n (pc' := 26) (ls' := [some (.ref 20), some (.int (nI (m))), some (.int (nI (m))), some (.int (nI (0)))]) d_M_passed_25 rfl rfl rfl rfl ?_
  exact lp_kpsd X z (k_thr_ k (nI 0)) o m hn hu hm (k_ns k) 0 m (by show 0 + k_ns k = k_ns k; omega) hmm
theorem k_clock (X : ct_X) (z : S_c) (k : S_m) (o : Nat → Int64)  : AF X m_M_clock 3 0 0 [.ref 20] (wL z k o) (.inl (some (.int (nI (k_now k))))) (wL z (k_thr_ k (nI 0)) o) := by
  refine AM.of rfl (Nat.le_of_ble_eq_true rfl) (ls := [some (.ref 20)]) rfl ?_
  refine AW.aload_n (pc' := 1) d_M_clock_0 rfl rfl rfl ?_
  refine AW.iconst (pc' := 2) (v := nI 0) d_M_clock_1 rfl (by decide) ?_
  refine AW.putf (pc' := 5) (w' := (wL z (k_thr_ k (nI (0))) o)) d_M_clock_2 rfl fp_M_69 rfl rfl (fun _ => ⟨rfl, rfl⟩) rfl rfl ?_
  refine AW.aload_n (pc' := 6) d_M_clock_5 rfl rfl rfl ?_
  refine AW.getf (pc' := 9) d_M_clock_6 rfl fl_M_89 rfl rfl ?_
  refine AW.top (u := .int (nI (k_now k))) rfl ?_
  exact AW.iret d_M_clock_9 rfl rfl rfl ⟨rfl, rfl⟩
