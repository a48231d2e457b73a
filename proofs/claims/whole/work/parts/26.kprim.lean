/-! THE REFERENCE'S SMALL METHODS (rows printed by wip/whole/m7.py) -/
theorem k_within_t (X : ct_X) (z : S_c) (k : S_m) (o : Nat → Int64) (x a b : Int32) (h1 : a ≤ x) (h2 : x ≤ b) : AF X m_M_within 0 0 0 [.int (x), .int (a), .int (b)] (wL z k o) (.inl (some (.int (nI 1)))) (wL z k o) := by
  refine AM.of rfl (Nat.le_of_ble_eq_true rfl) (ls := [some (.int (x)), some (.int (a)), some (.int (b))]) rfl ?_
  refine AW.iload_n (pc' := 1) d_M_within_0 rfl rfl rfl ?_
  refine AW.iload_n (pc' := 2) d_M_within_1 rfl rfl rfl ?_
  refine AW.icmp_lt (tgt := 14) (pc' := 5) d_M_within_2 (by decide) rfl (fun h => absurd h1 (Int32.not_le.mpr h)) (fun h9 => ?_)
  refine AW.iload_n (pc' := 6) d_M_within_5 rfl rfl rfl ?_
  refine AW.iload_n (pc' := 7) d_M_within_6 rfl rfl rfl ?_
  refine AW.icmp_gt (tgt := 14) (pc' := 10) d_M_within_7 (by decide) rfl (fun h => absurd h2 (Int32.not_le.mpr h)) (fun h9 => ?_)
  refine AW.iconst (pc' := 11) (v := nI 1) d_M_within_10 rfl (by decide) ?_
  refine AW.goto (tgt := 15) d_M_within_11 (by decide) ?_
  exact AW.zret d_M_within_15 rfl (by decide) rfl rfl ⟨rfl, rfl⟩
theorem k_within_f (X : ct_X) (z : S_c) (k : S_m) (o : Nat → Int64) (x a b : Int32) (hx : x < a ∨ b < x) : AF X m_M_within 0 0 0 [.int (x), .int (a), .int (b)] (wL z k o) (.inl (some (.int (nI 0)))) (wL z k o) := by
  refine AM.of rfl (Nat.le_of_ble_eq_true rfl) (ls := [some (.int (x)), some (.int (a)), some (.int (b))]) rfl ?_
  refine AW.iload_n (pc' := 1) d_M_within_0 rfl rfl rfl ?_
  refine AW.iload_n (pc' := 2) d_M_within_1 rfl rfl rfl ?_
  refine AW.icmp_lt (tgt := 14) (pc' := 5) d_M_within_2 (by decide) rfl (fun h2 => ?_) (fun h2 => ?_)
  · refine AW.iconst (pc' := 15) (v := nI 0) d_M_within_14 rfl (by decide) ?_
    exact AW.zret d_M_within_15 rfl (by decide) rfl rfl ⟨rfl, rfl⟩
  · refine AW.iload_n (pc' := 6) d_M_within_5 rfl rfl rfl ?_
    refine AW.iload_n (pc' := 7) d_M_within_6 rfl rfl rfl ?_
    refine AW.icmp_gt (tgt := 14) (pc' := 10) d_M_within_7 (by decide) rfl (fun h7 => ?_) (fun h => hx.elim (fun q => absurd q h2) (fun q => absurd q h))
    refine AW.iconst (pc' := 15) (v := nI 0) d_M_within_14 rfl (by decide) ?_
    exact AW.zret d_M_within_15 rfl (by decide) rfl rfl ⟨rfl, rfl⟩
theorem le_pred {x : Int32} {n : Nat} (hn : n < 2 ^ 30) : x ≤ nI n - nI 1 ↔ x < nI n := by
  rw [Int32.le_iff_toInt_le, Int32.lt_iff_toInt_lt, pk_sub_toInt hn (by decide), nI_toInt (by omega)]
  omega
theorem out_pred {x : Int32} {n : Nat} (hn : n < 2 ^ 30) (h : x < 0 ∨ nI n ≤ x) : x < nI 0 ∨ nI n - nI 1 < x := by
  rcases h with h | h
  · exact Or.inl h
  · refine Or.inr (Int32.not_le.mp (fun q => ?_))
    exact absurd h (Int32.not_le.mpr ((le_pred hn).mp q))
theorem in_pred {j n : Nat} (hn : n < 2 ^ 30) (h : j < n) : nI 0 ≤ nI j ∧ nI j ≤ nI n - nI 1 :=
  ⟨(nI_leI (by decide) (by omega)).mpr (by omega), (le_pred hn).mpr ((nI_ltI (by omega) (by omega)).mpr h)⟩
theorem k_isPerson_t (X : ct_X) (z : S_c) (k : S_m) (o : Nat → Int64) (j : Nat) (h : j < k_np k) (h2 : k_np k ≤ 100) : AF X m_M_isPerson 1 0 0 [.ref 20, .int (nI (j))] (wL z k o) (.inl (some (.int (nI 1)))) (wL z k o) := by
  refine AM.of rfl (Nat.le_of_ble_eq_true rfl) (ls := [some (.ref 20), some (.int (nI (j)))]) rfl ?_
  refine AW.iload_n (pc' := 1) d_M_isPerson_0 rfl rfl rfl ?_
  refine AW.iconst (pc' := 2) (v := nI 0) d_M_isPerson_1 rfl (by decide) ?_
  refine AW.aload_n (pc' := 3) d_M_isPerson_2 rfl rfl rfl ?_
  refine AW.getf (pc' := 6) d_M_isPerson_3 rfl fl_M_72 rfl rfl ?_
  refine AW.iconst (pc' := 7) (v := nI 1) d_M_isPerson_6 rfl (by decide) ?_
  refine AW.isub (pc' := 8) d_M_isPerson_7 rfl ?_
  refine AW.cS (pc' := 11) d_M_isPerson_8 rfl cs_M_75 (by decide) (k_within_t X z k o (nI j) (nI 0) (nI (k_np k) - nI 1) (in_pred (by omega) h).1 (in_pred (by omega) h).2) rfl rfl rfl rfl rfl rfl rfl ?_
  exact AW.zret d_M_isPerson_11 rfl (by decide) rfl rfl ⟨rfl, rfl⟩
theorem k_isPerson_f (X : ct_X) (z : S_c) (k : S_m) (o : Nat → Int64) (x : Int32) (hx : x < 0 ∨ nI (k_np k) ≤ x) (h2 : k_np k ≤ 100) : AF X m_M_isPerson 1 0 0 [.ref 20, .int (x)] (wL z k o) (.inl (some (.int (nI 0)))) (wL z k o) := by
  refine AM.of rfl (Nat.le_of_ble_eq_true rfl) (ls := [some (.ref 20), some (.int (x))]) rfl ?_
  refine AW.iload_n (pc' := 1) d_M_isPerson_0 rfl rfl rfl ?_
  refine AW.iconst (pc' := 2) (v := nI 0) d_M_isPerson_1 rfl (by decide) ?_
  refine AW.aload_n (pc' := 3) d_M_isPerson_2 rfl rfl rfl ?_
  refine AW.getf (pc' := 6) d_M_isPerson_3 rfl fl_M_72 rfl rfl ?_
  refine AW.iconst (pc' := 7) (v := nI 1) d_M_isPerson_6 rfl (by decide) ?_
  refine AW.isub (pc' := 8) d_M_isPerson_7 rfl ?_
  refine AW.cS (pc' := 11) d_M_isPerson_8 rfl cs_M_75 (by decide) (k_within_f X z k o x (nI 0) (nI (k_np k) - nI 1) (out_pred (by omega) hx)) rfl rfl rfl rfl rfl rfl rfl ?_
  exact AW.zret d_M_isPerson_11 rfl (by decide) rfl rfl ⟨rfl, rfl⟩
theorem k_isUnit_t (X : ct_X) (z : S_c) (k : S_m) (o : Nat → Int64) (j : Nat) (h : j < k_nu k) (h2 : k_nu k ≤ 100) : AF X m_M_isUnit 1 0 0 [.ref 20, .int (nI (j))] (wL z k o) (.inl (some (.int (nI 1)))) (wL z k o) := by
  refine AM.of rfl (Nat.le_of_ble_eq_true rfl) (ls := [some (.ref 20), some (.int (nI (j)))]) rfl ?_
  refine AW.iload_n (pc' := 1) d_M_isUnit_0 rfl rfl rfl ?_
  refine AW.iconst (pc' := 2) (v := nI 0) d_M_isUnit_1 rfl (by decide) ?_
  refine AW.aload_n (pc' := 3) d_M_isUnit_2 rfl rfl rfl ?_
  refine AW.getf (pc' := 6) d_M_isUnit_3 rfl fl_M_79 rfl rfl ?_
  refine AW.iconst (pc' := 7) (v := nI 1) d_M_isUnit_6 rfl (by decide) ?_
  refine AW.isub (pc' := 8) d_M_isUnit_7 rfl ?_
  refine AW.cS (pc' := 11) d_M_isUnit_8 rfl cs_M_75 (by decide) (k_within_t X z k o (nI j) (nI 0) (nI (k_nu k) - nI 1) (in_pred (by omega) h).1 (in_pred (by omega) h).2) rfl rfl rfl rfl rfl rfl rfl ?_
  exact AW.zret d_M_isUnit_11 rfl (by decide) rfl rfl ⟨rfl, rfl⟩
theorem k_isUnit_f (X : ct_X) (z : S_c) (k : S_m) (o : Nat → Int64) (x : Int32) (hx : x < 0 ∨ nI (k_nu k) ≤ x) (h2 : k_nu k ≤ 100) : AF X m_M_isUnit 1 0 0 [.ref 20, .int (x)] (wL z k o) (.inl (some (.int (nI 0)))) (wL z k o) := by
  refine AM.of rfl (Nat.le_of_ble_eq_true rfl) (ls := [some (.ref 20), some (.int (x))]) rfl ?_
  refine AW.iload_n (pc' := 1) d_M_isUnit_0 rfl rfl rfl ?_
  refine AW.iconst (pc' := 2) (v := nI 0) d_M_isUnit_1 rfl (by decide) ?_
  refine AW.aload_n (pc' := 3) d_M_isUnit_2 rfl rfl rfl ?_
  refine AW.getf (pc' := 6) d_M_isUnit_3 rfl fl_M_79 rfl rfl ?_
  refine AW.iconst (pc' := 7) (v := nI 1) d_M_isUnit_6 rfl (by decide) ?_
  refine AW.isub (pc' := 8) d_M_isUnit_7 rfl ?_
  refine AW.cS (pc' := 11) d_M_isUnit_8 rfl cs_M_75 (by decide) (k_within_f X z k o x (nI 0) (nI (k_nu k) - nI 1) (out_pred (by omega) hx)) rfl rfl rfl rfl rfl rfl rfl ?_
  exact AW.zret d_M_isUnit_11 rfl (by decide) rfl rfl ⟨rfl, rfl⟩
theorem k_isSector_t (X : ct_X) (z : S_c) (k : S_m) (o : Nat → Int64) (j : Nat) (h : j < k_ns k) (h2 : k_ns k ≤ 100) : AF X m_M_isSector 1 0 0 [.ref 20, .int (nI (j))] (wL z k o) (.inl (some (.int (nI 1)))) (wL z k o) := by
  refine AM.of rfl (Nat.le_of_ble_eq_true rfl) (ls := [some (.ref 20), some (.int (nI (j)))]) rfl ?_
  refine AW.iload_n (pc' := 1) d_M_isSector_0 rfl rfl rfl ?_
  refine AW.iconst (pc' := 2) (v := nI 0) d_M_isSector_1 rfl (by decide) ?_
  refine AW.aload_n (pc' := 3) d_M_isSector_2 rfl rfl rfl ?_
  refine AW.getf (pc' := 6) d_M_isSector_3 rfl fl_M_22 rfl rfl ?_
  refine AW.iconst (pc' := 7) (v := nI 1) d_M_isSector_6 rfl (by decide) ?_
  refine AW.isub (pc' := 8) d_M_isSector_7 rfl ?_
  refine AW.cS (pc' := 11) d_M_isSector_8 rfl cs_M_75 (by decide) (k_within_t X z k o (nI j) (nI 0) (nI (k_ns k) - nI 1) (in_pred (by omega) h).1 (in_pred (by omega) h).2) rfl rfl rfl rfl rfl rfl rfl ?_
  exact AW.zret d_M_isSector_11 rfl (by decide) rfl rfl ⟨rfl, rfl⟩
theorem k_isSector_f (X : ct_X) (z : S_c) (k : S_m) (o : Nat → Int64) (x : Int32) (hx : x < 0 ∨ nI (k_ns k) ≤ x) (h2 : k_ns k ≤ 100) : AF X m_M_isSector 1 0 0 [.ref 20, .int (x)] (wL z k o) (.inl (some (.int (nI 0)))) (wL z k o) := by
  refine AM.of rfl (Nat.le_of_ble_eq_true rfl) (ls := [some (.ref 20), some (.int (x))]) rfl ?_
  refine AW.iload_n (pc' := 1) d_M_isSector_0 rfl rfl rfl ?_
  refine AW.iconst (pc' := 2) (v := nI 0) d_M_isSector_1 rfl (by decide) ?_
  refine AW.aload_n (pc' := 3) d_M_isSector_2 rfl rfl rfl ?_
  refine AW.getf (pc' := 6) d_M_isSector_3 rfl fl_M_22 rfl rfl ?_
  refine AW.iconst (pc' := 7) (v := nI 1) d_M_isSector_6 rfl (by decide) ?_
  refine AW.isub (pc' := 8) d_M_isSector_7 rfl ?_
  refine AW.cS (pc' := 11) d_M_isSector_8 rfl cs_M_75 (by decide) (k_within_f X z k o x (nI 0) (nI (k_ns k) - nI 1) (out_pred (by omega) hx)) rfl rfl rfl rfl rfl rfl rfl ?_
  exact AW.zret d_M_isSector_11 rfl (by decide) rfl rfl ⟨rfl, rfl⟩
theorem k_isOpen_t (X : ct_X) (z : S_c) (k : S_m) (o : Nat → Int64) (s : Nat) (hs : s < k_ns k) (hn : k_ns k ≤ 20) (h1 : k_jnd k s = 0) : AF X m_M_isOpen 2 0 0 [.ref 20, .int (nI (s))] (wL z k o) (.inl (some (.int (nI 1)))) (wL z k o) := by
  refine AM.of rfl (Nat.le_of_ble_eq_true rfl) (ls := [some (.ref 20), some (.int (nI (s)))]) rfl ?_
  refine AW.aload_n (pc' := 1) d_M_isOpen_0 rfl rfl rfl ?_
  refine AW.iload_n (pc' := 2) d_M_isOpen_1 rfl rfl rfl ?_
  refine AW.cV (pc' := 5) d_M_isOpen_2 rfl cv_M_82 (by decide) rfl rfl rfl (k_isSector_t X z k o s hs (by omega)) rfl rfl rfl rfl rfl rfl rfl ?_
  refine AW.if_eq (tgt := 21) (pc' := 8) d_M_isOpen_5 (by decide) rfl (fun h => absurd h (by decide)) (fun _ => ?_)
  refine AW.aload_n (pc' := 9) d_M_isOpen_8 rfl rfl rfl ?_
  refine AW.getf (pc' := 12) d_M_isOpen_9 rfl fl_M_26 rfl rfl ?_
  refine AW.iload_n (pc' := 13) d_M_isOpen_12 rfl rfl rfl ?_
  refine AW.zaldN (pc' := 14) d_M_isOpen_13 rfl rfl (by omega) (by decide) ?_
  refine AW.if_ne (tgt := 21) (pc' := 17) d_M_isOpen_14 (by decide) rfl (fun h => absurd h1 h) (fun h14 => ?_)
  refine AW.iconst (pc' := 18) (v := nI 1) d_M_isOpen_17 rfl (by decide) ?_
  refine AW.goto (tgt := 22) d_M_isOpen_18 (by decide) ?_
  exact AW.zret d_M_isOpen_22 rfl (by decide) rfl rfl ⟨rfl, rfl⟩
theorem k_isOpen_f (X : ct_X) (z : S_c) (k : S_m) (o : Nat → Int64) (s : Nat) (hs : s < k_ns k) (hn : k_ns k ≤ 20) (h1 : ¬ k_jnd k s = 0) : AF X m_M_isOpen 2 0 0 [.ref 20, .int (nI (s))] (wL z k o) (.inl (some (.int (nI 0)))) (wL z k o) := by
  refine AM.of rfl (Nat.le_of_ble_eq_true rfl) (ls := [some (.ref 20), some (.int (nI (s)))]) rfl ?_
  refine AW.aload_n (pc' := 1) d_M_isOpen_0 rfl rfl rfl ?_
  refine AW.iload_n (pc' := 2) d_M_isOpen_1 rfl rfl rfl ?_
  refine AW.cV (pc' := 5) d_M_isOpen_2 rfl cv_M_82 (by decide) rfl rfl rfl (k_isSector_t X z k o s hs (by omega)) rfl rfl rfl rfl rfl rfl rfl ?_
  refine AW.if_eq (tgt := 21) (pc' := 8) d_M_isOpen_5 (by decide) rfl (fun h => absurd h (by decide)) (fun _ => ?_)
  refine AW.aload_n (pc' := 9) d_M_isOpen_8 rfl rfl rfl ?_
  refine AW.getf (pc' := 12) d_M_isOpen_9 rfl fl_M_26 rfl rfl ?_
  refine AW.iload_n (pc' := 13) d_M_isOpen_12 rfl rfl rfl ?_
  refine AW.zaldN (pc' := 14) d_M_isOpen_13 rfl rfl (by omega) (by decide) ?_
  refine AW.if_ne (tgt := 21) (pc' := 17) d_M_isOpen_14 (by decide) rfl (fun h14 => ?_) (fun h => absurd h h1)
  refine AW.iconst (pc' := 22) (v := nI 0) d_M_isOpen_21 rfl (by decide) ?_
  exact AW.zret d_M_isOpen_22 rfl (by decide) rfl rfl ⟨rfl, rfl⟩
theorem k_isOpen_x (X : ct_X) (z : S_c) (k : S_m) (o : Nat → Int64) (x : Int32) (hx : x < 0 ∨ nI (k_ns k) ≤ x) (hn : k_ns k ≤ 20) : AF X m_M_isOpen 2 0 0 [.ref 20, .int (x)] (wL z k o) (.inl (some (.int (nI 0)))) (wL z k o) := by
  refine AM.of rfl (Nat.le_of_ble_eq_true rfl) (ls := [some (.ref 20), some (.int (x))]) rfl ?_
  refine AW.aload_n (pc' := 1) d_M_isOpen_0 rfl rfl rfl ?_
  refine AW.iload_n (pc' := 2) d_M_isOpen_1 rfl rfl rfl ?_
  refine AW.cV (pc' := 5) d_M_isOpen_2 rfl cv_M_82 (by decide) rfl rfl rfl (k_isSector_f X z k o x hx (by omega)) rfl rfl rfl rfl rfl rfl rfl ?_
  refine AW.if_eq (tgt := 21) (pc' := 8) d_M_isOpen_5 (by decide) rfl (fun _ => ?_) (fun h => absurd h (by decide))
  refine AW.iconst (pc' := 22) (v := nI 0) d_M_isOpen_21 rfl (by decide) ?_
  exact AW.zret d_M_isOpen_22 rfl (by decide) rfl rfl ⟨rfl, rfl⟩
theorem k_thrown (X : ct_X) (z : S_c) (k : S_m) (o : Nat → Int64)  : AF X m_M_thrown 0 0 0 [.ref 20] (wL z k o) (.inl (some (.int (k_thr k)))) (wL z k o) := by
  refine AM.of rfl (Nat.le_of_ble_eq_true rfl) (ls := [some (.ref 20)]) rfl ?_
  refine AW.aload_n (pc' := 1) d_M_thrown_0 rfl rfl rfl ?_
  refine AW.getf (pc' := 4) d_M_thrown_1 rfl fl_M_69 rfl rfl ?_
  exact AW.iret d_M_thrown_4 rfl rfl rfl ⟨rfl, rfl⟩
theorem k_goes_10_0 (X : ct_X) (z : S_c) (k : S_m) (o : Nat → Int64)  : AF X m_M_goes 0 0 0 [.ref 20, .int (nI (10)), .int (nI (1)), .int (nI (1)), .int (nI (1)), .int (nI (1))] (wL z k o) (.inl (some (.int (nI 1)))) (wL z (k_thr_ k (nI 0)) o) := by
  refine AM.of rfl (Nat.le_of_ble_eq_true rfl) (ls := [some (.ref 20), some (.int (nI (10))), some (.int (nI (1))), some (.int (nI (1))), some (.int (nI (1))), some (.int (nI (1))), none, none]) rfl ?_
  refine AW.iload_n (pc' := 1) d_M_goes_0 rfl rfl rfl ?_
  refine AW.if_ne (tgt := 8) (pc' := 4) d_M_goes_1 (by decide) rfl (fun _ => ?_) (fun h => absurd h (by decide))
  refine AW.iload_n (pc' := 9) d_M_goes_8 rfl rfl rfl ?_
  refine AW.if_ne (tgt := 16) (pc' := 12) d_M_goes_9 (by decide) rfl (fun _ => ?_) (fun h => absurd h (by decide))
  refine AW.iload (pc' := 18) d_M_goes_16 rfl rfl ?_
  refine AW.if_ne (tgt := 25) (pc' := 21) d_M_goes_18 (by decide) rfl (fun _ => ?_) (fun h => absurd h (by decide))
  refine AW.iload (pc' := 27) d_M_goes_25 rfl rfl ?_
  refine AW.if_ne (tgt := 35) (pc' := 30) d_M_goes_27 (by decide) rfl (fun _ => ?_) (fun h => absurd h (by decide))
  refine AW.iconst (pc' := 36) (v := nI 0) d_M_goes_35 rfl (by decide) ?_
  refine AW.istore (pc' := 38) (ls' := [some (.ref 20), some (.int (nI (10))), some (.int (nI (1))), some (.int (nI (1))), some (.int (nI (1))), some (.int (nI (1))), some (.int (nI (0))), none]) d_M_goes_36 rfl rfl rfl ?_
  refine AW.aload_n (pc' := 39) d_M_goes_38 rfl rfl rfl ?_
  refine AW.iconst (pc' := 40) (v := nI 0) d_M_goes_39 rfl (by decide) ?_
  refine AW.putf (pc' := 43) (w' := (wL z (k_thr_ k (nI (0))) o)) d_M_goes_40 rfl fp_M_69 rfl rfl (fun _ => ⟨rfl, rfl⟩) rfl rfl ?_
  refine AW.iconst (pc' := 44) (v := nI 1) d_M_goes_43 rfl (by decide) ?_
  refine AW.istore (pc' := 46) (ls' := [some (.ref 20), some (.int (nI (10))), some (.int (nI (1))), some (.int (nI (1))), some (.int (nI (1))), some (.int (nI (1))), some (.int (nI (0))), some (.int (nI (1)))]) d_M_goes_44 rfl rfl rfl ?_
  refine AW.iload (pc' := 48) d_M_goes_46 rfl rfl ?_
  refine AW.iload (pc' := 50) d_M_goes_48 rfl rfl ?_
  refine AW.icmp_gtN (tgt := 79) (pc' := 53) d_M_goes_50 (by decide) rfl (by decide) (by decide) (fun _ => ?_) (fun h => absurd h (by decide))
  refine AW.iload (pc' := 81) d_M_goes_79 rfl rfl ?_
  refine AW.if_ne (tgt := 88) (pc' := 84) d_M_goes_81 (by decide) rfl (fun h => absurd h (by decide)) (fun _ => ?_)
  refine AW.iconst (pc' := 85) (v := nI 1) d_M_goes_84 rfl (by decide) ?_
  refine AW.goto (tgt := 89) d_M_goes_85 (by decide) ?_
  exact AW.zret d_M_goes_89 rfl (by decide) rfl rfl ⟨rfl, rfl⟩
theorem k_goes_10_2 (X : ct_X) (z : S_c) (k : S_m) (o : Nat → Int64) (a4 a8 : Int32) : AF X m_M_goes 0 0 0 [.ref 20, .int (nI (10)), .int (nI (1)), .int (nI (0)), .int (a4), .int (a8)] (wL z k o) (.inl (some (.int (nI 0)))) (wL z (k_thr_ k (nI 1)) o) := by
  refine AM.of rfl (Nat.le_of_ble_eq_true rfl) (ls := [some (.ref 20), some (.int (nI (10))), some (.int (nI (1))), some (.int (nI (0))), some (.int (a4)), some (.int (a8)), none, none]) rfl ?_
  refine AW.iload_n (pc' := 1) d_M_goes_0 rfl rfl rfl ?_
  refine AW.if_ne (tgt := 8) (pc' := 4) d_M_goes_1 (by decide) rfl (fun _ => ?_) (fun h => absurd h (by decide))
  refine AW.iload_n (pc' := 9) d_M_goes_8 rfl rfl rfl ?_
  refine AW.if_ne (tgt := 16) (pc' := 12) d_M_goes_9 (by decide) rfl (fun h => absurd h (by decide)) (fun _ => ?_)
  refine AW.iconst (pc' := 13) (v := nI 2) d_M_goes_12 rfl (by decide) ?_
  refine AW.goto (tgt := 36) d_M_goes_13 (by decide) ?_
  refine AW.istore (pc' := 38) (ls' := [some (.ref 20), some (.int (nI (10))), some (.int (nI (1))), some (.int (nI (0))), some (.int (a4)), some (.int (a8)), some (.int (nI (2))), none]) d_M_goes_36 rfl rfl rfl ?_
  refine AW.aload_n (pc' := 39) d_M_goes_38 rfl rfl rfl ?_
  refine AW.iconst (pc' := 40) (v := nI 0) d_M_goes_39 rfl (by decide) ?_
  refine AW.putf (pc' := 43) (w' := (wL z (k_thr_ k (nI (0))) o)) d_M_goes_40 rfl fp_M_69 rfl rfl (fun _ => ⟨rfl, rfl⟩) rfl rfl ?_
  refine AW.iconst (pc' := 44) (v := nI 1) d_M_goes_43 rfl (by decide) ?_
  refine AW.istore (pc' := 46) (ls' := [some (.ref 20), some (.int (nI (10))), some (.int (nI (1))), some (.int (nI (0))), some (.int (a4)), some (.int (a8)), some (.int (nI (2))), some (.int (nI (1)))]) d_M_goes_44 rfl rfl rfl ?_
  refine AW.iload (pc' := 48) d_M_goes_46 rfl rfl ?_
  refine AW.iload (pc' := 50) d_M_goes_48 rfl rfl ?_
  refine AW.icmp_gtN (tgt := 79) (pc' := 53) d_M_goes_50 (by decide) rfl (by decide) (by decide) (fun h => absurd h (by decide)) (fun _ => ?_)
  refine AW.iload_n (pc' := 54) d_M_goes_53 rfl rfl rfl ?_
  refine AW.iload (pc' := 56) d_M_goes_54 rfl rfl ?_
  refine AW.iand (pc' := 57) d_M_goes_56 rfl ?_
  refine AW.top (u := .int (nI 0)) (by decide) ?_
  refine AW.if_le (tgt := 70) (pc' := 60) d_M_goes_57 (by decide) rfl (fun _ => ?_) (fun h => absurd (by decide) h)
  refine AW.iconst (pc' := 71) (v := nI 2) d_M_goes_70 rfl (by decide) ?_
  refine AW.iload (pc' := 73) d_M_goes_71 rfl rfl ?_
  refine AW.imul (pc' := 74) d_M_goes_73 rfl ?_
  refine AW.top (u := .int (nI 2)) (by decide) ?_
  refine AW.istore (pc' := 76) (ls' := [some (.ref 20), some (.int (nI (10))), some (.int (nI (1))), some (.int (nI (0))), some (.int (a4)), some (.int (a8)), some (.int (nI (2))), some (.int (nI (2)))]) d_M_goes_74 rfl rfl rfl ?_
  refine AW.goto (tgt := 46) d_M_goes_76 (by decide) ?_
  refine AW.iload (pc' := 48) d_M_goes_46 rfl rfl ?_
  refine AW.iload (pc' := 50) d_M_goes_48 rfl rfl ?_
  refine AW.icmp_gtN (tgt := 79) (pc' := 53) d_M_goes_50 (by decide) rfl (by decide) (by decide) (fun h => absurd h (by decide)) (fun _ => ?_)
  refine AW.iload_n (pc' := 54) d_M_goes_53 rfl rfl rfl ?_
  refine AW.iload (pc' := 56) d_M_goes_54 rfl rfl ?_
  refine AW.iand (pc' := 57) d_M_goes_56 rfl ?_
  refine AW.top (u := .int (nI 2)) (by decide) ?_
  refine AW.if_le (tgt := 70) (pc' := 60) d_M_goes_57 (by decide) rfl (fun h => absurd h (by decide)) (fun _ => ?_)
  refine AW.aload_n (pc' := 61) d_M_goes_60 rfl rfl rfl ?_
  refine AW.dup (pc' := 62) d_M_goes_61 rfl rfl ?_
  refine AW.getf (pc' := 65) d_M_goes_62 rfl fl_M_69 rfl rfl ?_
  refine AW.top (u := .int (nI (0))) rfl ?_
  refine AW.iconst (pc' := 66) (v := nI 1) d_M_goes_65 rfl (by decide) ?_
  refine AW.iadd (pc' := 67) d_M_goes_66 rfl ?_
  refine AW.top (u := .int (nI 1)) (by decide) ?_
  refine AW.putf (pc' := 70) (w' := (wL z (k_thr_ (k_thr_ k (nI (0))) (nI (1))) o)) d_M_goes_67 rfl fp_M_69 rfl rfl (fun _ => ⟨rfl, rfl⟩) rfl rfl ?_
  refine AW.iconst (pc' := 71) (v := nI 2) d_M_goes_70 rfl (by decide) ?_
  refine AW.iload (pc' := 73) d_M_goes_71 rfl rfl ?_
  refine AW.imul (pc' := 74) d_M_goes_73 rfl ?_
  refine AW.top (u := .int (nI 4)) (by decide) ?_
  refine AW.istore (pc' := 76) (ls' := [some (.ref 20), some (.int (nI (10))), some (.int (nI (1))), some (.int (nI (0))), some (.int (a4)), some (.int (a8)), some (.int (nI (2))), some (.int (nI (4)))]) d_M_goes_74 rfl rfl rfl ?_
  refine AW.goto (tgt := 46) d_M_goes_76 (by decide) ?_
  refine AW.iload (pc' := 48) d_M_goes_46 rfl rfl ?_
  refine AW.iload (pc' := 50) d_M_goes_48 rfl rfl ?_
  refine AW.icmp_gtN (tgt := 79) (pc' := 53) d_M_goes_50 (by decide) rfl (by decide) (by decide) (fun _ => ?_) (fun h => absurd h (by decide))
  refine AW.iload (pc' := 81) d_M_goes_79 rfl rfl ?_
  refine AW.if_ne (tgt := 88) (pc' := 84) d_M_goes_81 (by decide) rfl (fun _ => ?_) (fun h => absurd h (by decide))
  refine AW.iconst (pc' := 89) (v := nI 0) d_M_goes_88 rfl (by decide) ?_
  exact AW.zret d_M_goes_89 rfl (by decide) rfl rfl ⟨rfl, rfl⟩
theorem k_goes_10_8 (X : ct_X) (z : S_c) (k : S_m) (o : Nat → Int64)  : AF X m_M_goes 0 0 0 [.ref 20, .int (nI (10)), .int (nI (1)), .int (nI (1)), .int (nI (1)), .int (nI (0))] (wL z k o) (.inl (some (.int (nI 0)))) (wL z (k_thr_ k (nI 2)) o) := by
  refine AM.of rfl (Nat.le_of_ble_eq_true rfl) (ls := [some (.ref 20), some (.int (nI (10))), some (.int (nI (1))), some (.int (nI (1))), some (.int (nI (1))), some (.int (nI (0))), none, none]) rfl ?_
  refine AW.iload_n (pc' := 1) d_M_goes_0 rfl rfl rfl ?_
  refine AW.if_ne (tgt := 8) (pc' := 4) d_M_goes_1 (by decide) rfl (fun _ => ?_) (fun h => absurd h (by decide))
  refine AW.iload_n (pc' := 9) d_M_goes_8 rfl rfl rfl ?_
  refine AW.if_ne (tgt := 16) (pc' := 12) d_M_goes_9 (by decide) rfl (fun _ => ?_) (fun h => absurd h (by decide))
  refine AW.iload (pc' := 18) d_M_goes_16 rfl rfl ?_
  refine AW.if_ne (tgt := 25) (pc' := 21) d_M_goes_18 (by decide) rfl (fun _ => ?_) (fun h => absurd h (by decide))
  refine AW.iload (pc' := 27) d_M_goes_25 rfl rfl ?_
  refine AW.if_ne (tgt := 35) (pc' := 30) d_M_goes_27 (by decide) rfl (fun h => absurd h (by decide)) (fun _ => ?_)
  refine AW.bipush (pc' := 32) (v := nI 8) d_M_goes_30 rfl (by decide) ?_
  refine AW.goto (tgt := 36) d_M_goes_32 (by decide) ?_
  refine AW.istore (pc' := 38) (ls' := [some (.ref 20), some (.int (nI (10))), some (.int (nI (1))), some (.int (nI (1))), some (.int (nI (1))), some (.int (nI (0))), some (.int (nI (8))), none]) d_M_goes_36 rfl rfl rfl ?_
  refine AW.aload_n (pc' := 39) d_M_goes_38 rfl rfl rfl ?_
  refine AW.iconst (pc' := 40) (v := nI 0) d_M_goes_39 rfl (by decide) ?_
  refine AW.putf (pc' := 43) (w' := (wL z (k_thr_ k (nI (0))) o)) d_M_goes_40 rfl fp_M_69 rfl rfl (fun _ => ⟨rfl, rfl⟩) rfl rfl ?_
  refine AW.iconst (pc' := 44) (v := nI 1) d_M_goes_43 rfl (by decide) ?_
  refine AW.istore (pc' := 46) (ls' := [some (.ref 20), some (.int (nI (10))), some (.int (nI (1))), some (.int (nI (1))), some (.int (nI (1))), some (.int (nI (0))), some (.int (nI (8))), some (.int (nI (1)))]) d_M_goes_44 rfl rfl rfl ?_
  refine AW.iload (pc' := 48) d_M_goes_46 rfl rfl ?_
  refine AW.iload (pc' := 50) d_M_goes_48 rfl rfl ?_
  refine AW.icmp_gtN (tgt := 79) (pc' := 53) d_M_goes_50 (by decide) rfl (by decide) (by decide) (fun h => absurd h (by decide)) (fun _ => ?_)
  refine AW.iload_n (pc' := 54) d_M_goes_53 rfl rfl rfl ?_
  refine AW.iload (pc' := 56) d_M_goes_54 rfl rfl ?_
  refine AW.iand (pc' := 57) d_M_goes_56 rfl ?_
  refine AW.top (u := .int (nI 0)) (by decide) ?_
  refine AW.if_le (tgt := 70) (pc' := 60) d_M_goes_57 (by decide) rfl (fun _ => ?_) (fun h => absurd (by decide) h)
  refine AW.iconst (pc' := 71) (v := nI 2) d_M_goes_70 rfl (by decide) ?_
  refine AW.iload (pc' := 73) d_M_goes_71 rfl rfl ?_
  refine AW.imul (pc' := 74) d_M_goes_73 rfl ?_
  refine AW.top (u := .int (nI 2)) (by decide) ?_
  refine AW.istore (pc' := 76) (ls' := [some (.ref 20), some (.int (nI (10))), some (.int (nI (1))), some (.int (nI (1))), some (.int (nI (1))), some (.int (nI (0))), some (.int (nI (8))), some (.int (nI (2)))]) d_M_goes_74 rfl rfl rfl ?_
  refine AW.goto (tgt := 46) d_M_goes_76 (by decide) ?_
  refine AW.iload (pc' := 48) d_M_goes_46 rfl rfl ?_
  refine AW.iload (pc' := 50) d_M_goes_48 rfl rfl ?_
  refine AW.icmp_gtN (tgt := 79) (pc' := 53) d_M_goes_50 (by decide) rfl (by decide) (by decide) (fun h => absurd h (by decide)) (fun _ => ?_)
  refine AW.iload_n (pc' := 54) d_M_goes_53 rfl rfl rfl ?_
  refine AW.iload (pc' := 56) d_M_goes_54 rfl rfl ?_
  refine AW.iand (pc' := 57) d_M_goes_56 rfl ?_
  refine AW.top (u := .int (nI 2)) (by decide) ?_
  refine AW.if_le (tgt := 70) (pc' := 60) d_M_goes_57 (by decide) rfl (fun h => absurd h (by decide)) (fun _ => ?_)
  refine AW.aload_n (pc' := 61) d_M_goes_60 rfl rfl rfl ?_
  refine AW.dup (pc' := 62) d_M_goes_61 rfl rfl ?_
  refine AW.getf (pc' := 65) d_M_goes_62 rfl fl_M_69 rfl rfl ?_
  refine AW.top (u := .int (nI (0))) rfl ?_
  refine AW.iconst (pc' := 66) (v := nI 1) d_M_goes_65 rfl (by decide) ?_
  refine AW.iadd (pc' := 67) d_M_goes_66 rfl ?_
  refine AW.top (u := .int (nI 1)) (by decide) ?_
  refine AW.putf (pc' := 70) (w' := (wL z (k_thr_ (k_thr_ k (nI (0))) (nI (1))) o)) d_M_goes_67 rfl fp_M_69 rfl rfl (fun _ => ⟨rfl, rfl⟩) rfl rfl ?_
  refine AW.iconst (pc' := 71) (v := nI 2) d_M_goes_70 rfl (by decide) ?_
  refine AW.iload (pc' := 73) d_M_goes_71 rfl rfl ?_
  refine AW.imul (pc' := 74) d_M_goes_73 rfl ?_
  refine AW.top (u := .int (nI 4)) (by decide) ?_
  refine AW.istore (pc' := 76) (ls' := [some (.ref 20), some (.int (nI (10))), some (.int (nI (1))), some (.int (nI (1))), some (.int (nI (1))), some (.int (nI (0))), some (.int (nI (8))), some (.int (nI (4)))]) d_M_goes_74 rfl rfl rfl ?_
  refine AW.goto (tgt := 46) d_M_goes_76 (by decide) ?_
  refine AW.iload (pc' := 48) d_M_goes_46 rfl rfl ?_
  refine AW.iload (pc' := 50) d_M_goes_48 rfl rfl ?_
  refine AW.icmp_gtN (tgt := 79) (pc' := 53) d_M_goes_50 (by decide) rfl (by decide) (by decide) (fun h => absurd h (by decide)) (fun _ => ?_)
  refine AW.iload_n (pc' := 54) d_M_goes_53 rfl rfl rfl ?_
  refine AW.iload (pc' := 56) d_M_goes_54 rfl rfl ?_
  refine AW.iand (pc' := 57) d_M_goes_56 rfl ?_
  refine AW.top (u := .int (nI 0)) (by decide) ?_
  refine AW.if_le (tgt := 70) (pc' := 60) d_M_goes_57 (by decide) rfl (fun _ => ?_) (fun h => absurd (by decide) h)
  refine AW.iconst (pc' := 71) (v := nI 2) d_M_goes_70 rfl (by decide) ?_
  refine AW.iload (pc' := 73) d_M_goes_71 rfl rfl ?_
  refine AW.imul (pc' := 74) d_M_goes_73 rfl ?_
  refine AW.top (u := .int (nI 8)) (by decide) ?_
  refine AW.istore (pc' := 76) (ls' := [some (.ref 20), some (.int (nI (10))), some (.int (nI (1))), some (.int (nI (1))), some (.int (nI (1))), some (.int (nI (0))), some (.int (nI (8))), some (.int (nI (8)))]) d_M_goes_74 rfl rfl rfl ?_
  refine AW.goto (tgt := 46) d_M_goes_76 (by decide) ?_
  refine AW.iload (pc' := 48) d_M_goes_46 rfl rfl ?_
  refine AW.iload (pc' := 50) d_M_goes_48 rfl rfl ?_
  refine AW.icmp_gtN (tgt := 79) (pc' := 53) d_M_goes_50 (by decide) rfl (by decide) (by decide) (fun h => absurd h (by decide)) (fun _ => ?_)
  refine AW.iload_n (pc' := 54) d_M_goes_53 rfl rfl rfl ?_
  refine AW.iload (pc' := 56) d_M_goes_54 rfl rfl ?_
  refine AW.iand (pc' := 57) d_M_goes_56 rfl ?_
  refine AW.top (u := .int (nI 8)) (by decide) ?_
  refine AW.if_le (tgt := 70) (pc' := 60) d_M_goes_57 (by decide) rfl (fun h => absurd h (by decide)) (fun _ => ?_)
  refine AW.aload_n (pc' := 61) d_M_goes_60 rfl rfl rfl ?_
  refine AW.dup (pc' := 62) d_M_goes_61 rfl rfl ?_
  refine AW.getf (pc' := 65) d_M_goes_62 rfl fl_M_69 rfl rfl ?_
  refine AW.top (u := .int (nI (1))) rfl ?_
  refine AW.iconst (pc' := 66) (v := nI 1) d_M_goes_65 rfl (by decide) ?_
  refine AW.iadd (pc' := 67) d_M_goes_66 rfl ?_
  refine AW.top (u := .int (nI 2)) (by decide) ?_
  refine AW.putf (pc' := 70) (w' := (wL z (k_thr_ (k_thr_ (k_thr_ k (nI (0))) (nI (1))) (nI (2))) o)) d_M_goes_67 rfl fp_M_69 rfl rfl (fun _ => ⟨rfl, rfl⟩) rfl rfl ?_
  refine AW.iconst (pc' := 71) (v := nI 2) d_M_goes_70 rfl (by decide) ?_
  refine AW.iload (pc' := 73) d_M_goes_71 rfl rfl ?_
  refine AW.imul (pc' := 74) d_M_goes_73 rfl ?_
  refine AW.top (u := .int (nI 16)) (by decide) ?_
  refine AW.istore (pc' := 76) (ls' := [some (.ref 20), some (.int (nI (10))), some (.int (nI (1))), some (.int (nI (1))), some (.int (nI (1))), some (.int (nI (0))), some (.int (nI (8))), some (.int (nI (16)))]) d_M_goes_74 rfl rfl rfl ?_
  refine AW.goto (tgt := 46) d_M_goes_76 (by decide) ?_
  refine AW.iload (pc' := 48) d_M_goes_46 rfl rfl ?_
  refine AW.iload (pc' := 50) d_M_goes_48 rfl rfl ?_
  refine AW.icmp_gtN (tgt := 79) (pc' := 53) d_M_goes_50 (by decide) rfl (by decide) (by decide) (fun _ => ?_) (fun h => absurd h (by decide))
  refine AW.iload (pc' := 81) d_M_goes_79 rfl rfl ?_
  refine AW.if_ne (tgt := 88) (pc' := 84) d_M_goes_81 (by decide) rfl (fun _ => ?_) (fun h => absurd h (by decide))
  refine AW.iconst (pc' := 89) (v := nI 0) d_M_goes_88 rfl (by decide) ?_
  exact AW.zret d_M_goes_89 rfl (by decide) rfl rfl ⟨rfl, rfl⟩
theorem k_goes_8_0 (X : ct_X) (z : S_c) (k : S_m) (o : Nat → Int64)  : AF X m_M_goes 0 0 0 [.ref 20, .int (nI (8)), .int (nI (1)), .int (nI (1)), .int (nI (1)), .int (nI (1))] (wL z k o) (.inl (some (.int (nI 1)))) (wL z (k_thr_ k (nI 0)) o) := by
  refine AM.of rfl (Nat.le_of_ble_eq_true rfl) (ls := [some (.ref 20), some (.int (nI (8))), some (.int (nI (1))), some (.int (nI (1))), some (.int (nI (1))), some (.int (nI (1))), none, none]) rfl ?_
  refine AW.iload_n (pc' := 1) d_M_goes_0 rfl rfl rfl ?_
  refine AW.if_ne (tgt := 8) (pc' := 4) d_M_goes_1 (by decide) rfl (fun _ => ?_) (fun h => absurd h (by decide))
  refine AW.iload_n (pc' := 9) d_M_goes_8 rfl rfl rfl ?_
  refine AW.if_ne (tgt := 16) (pc' := 12) d_M_goes_9 (by decide) rfl (fun _ => ?_) (fun h => absurd h (by decide))
  refine AW.iload (pc' := 18) d_M_goes_16 rfl rfl ?_
  refine AW.if_ne (tgt := 25) (pc' := 21) d_M_goes_18 (by decide) rfl (fun _ => ?_) (fun h => absurd h (by decide))
  refine AW.iload (pc' := 27) d_M_goes_25 rfl rfl ?_
  refine AW.if_ne (tgt := 35) (pc' := 30) d_M_goes_27 (by decide) rfl (fun _ => ?_) (fun h => absurd h (by decide))
  refine AW.iconst (pc' := 36) (v := nI 0) d_M_goes_35 rfl (by decide) ?_
  refine AW.istore (pc' := 38) (ls' := [some (.ref 20), some (.int (nI (8))), some (.int (nI (1))), some (.int (nI (1))), some (.int (nI (1))), some (.int (nI (1))), some (.int (nI (0))), none]) d_M_goes_36 rfl rfl rfl ?_
  refine AW.aload_n (pc' := 39) d_M_goes_38 rfl rfl rfl ?_
  refine AW.iconst (pc' := 40) (v := nI 0) d_M_goes_39 rfl (by decide) ?_
  refine AW.putf (pc' := 43) (w' := (wL z (k_thr_ k (nI (0))) o)) d_M_goes_40 rfl fp_M_69 rfl rfl (fun _ => ⟨rfl, rfl⟩) rfl rfl ?_
  refine AW.iconst (pc' := 44) (v := nI 1) d_M_goes_43 rfl (by decide) ?_
  refine AW.istore (pc' := 46) (ls' := [some (.ref 20), some (.int (nI (8))), some (.int (nI (1))), some (.int (nI (1))), some (.int (nI (1))), some (.int (nI (1))), some (.int (nI (0))), some (.int (nI (1)))]) d_M_goes_44 rfl rfl rfl ?_
  refine AW.iload (pc' := 48) d_M_goes_46 rfl rfl ?_
  refine AW.iload (pc' := 50) d_M_goes_48 rfl rfl ?_
  refine AW.icmp_gtN (tgt := 79) (pc' := 53) d_M_goes_50 (by decide) rfl (by decide) (by decide) (fun _ => ?_) (fun h => absurd h (by decide))
  refine AW.iload (pc' := 81) d_M_goes_79 rfl rfl ?_
  refine AW.if_ne (tgt := 88) (pc' := 84) d_M_goes_81 (by decide) rfl (fun h => absurd h (by decide)) (fun _ => ?_)
  refine AW.iconst (pc' := 85) (v := nI 1) d_M_goes_84 rfl (by decide) ?_
  refine AW.goto (tgt := 89) d_M_goes_85 (by decide) ?_
  exact AW.zret d_M_goes_89 rfl (by decide) rfl rfl ⟨rfl, rfl⟩
theorem k_goes_8_8 (X : ct_X) (z : S_c) (k : S_m) (o : Nat → Int64)  : AF X m_M_goes 0 0 0 [.ref 20, .int (nI (8)), .int (nI (1)), .int (nI (1)), .int (nI (1)), .int (nI (0))] (wL z k o) (.inl (some (.int (nI 0)))) (wL z (k_thr_ k (nI 1)) o) := by
  refine AM.of rfl (Nat.le_of_ble_eq_true rfl) (ls := [some (.ref 20), some (.int (nI (8))), some (.int (nI (1))), some (.int (nI (1))), some (.int (nI (1))), some (.int (nI (0))), none, none]) rfl ?_
  refine AW.iload_n (pc' := 1) d_M_goes_0 rfl rfl rfl ?_
  refine AW.if_ne (tgt := 8) (pc' := 4) d_M_goes_1 (by decide) rfl (fun _ => ?_) (fun h => absurd h (by decide))
  refine AW.iload_n (pc' := 9) d_M_goes_8 rfl rfl rfl ?_
  refine AW.if_ne (tgt := 16) (pc' := 12) d_M_goes_9 (by decide) rfl (fun _ => ?_) (fun h => absurd h (by decide))
  refine AW.iload (pc' := 18) d_M_goes_16 rfl rfl ?_
  refine AW.if_ne (tgt := 25) (pc' := 21) d_M_goes_18 (by decide) rfl (fun _ => ?_) (fun h => absurd h (by decide))
  refine AW.iload (pc' := 27) d_M_goes_25 rfl rfl ?_
  refine AW.if_ne (tgt := 35) (pc' := 30) d_M_goes_27 (by decide) rfl (fun h => absurd h (by decide)) (fun _ => ?_)
  refine AW.bipush (pc' := 32) (v := nI 8) d_M_goes_30 rfl (by decide) ?_
  refine AW.goto (tgt := 36) d_M_goes_32 (by decide) ?_
  refine AW.istore (pc' := 38) (ls' := [some (.ref 20), some (.int (nI (8))), some (.int (nI (1))), some (.int (nI (1))), some (.int (nI (1))), some (.int (nI (0))), some (.int (nI (8))), none]) d_M_goes_36 rfl rfl rfl ?_
  refine AW.aload_n (pc' := 39) d_M_goes_38 rfl rfl rfl ?_
  refine AW.iconst (pc' := 40) (v := nI 0) d_M_goes_39 rfl (by decide) ?_
  refine AW.putf (pc' := 43) (w' := (wL z (k_thr_ k (nI (0))) o)) d_M_goes_40 rfl fp_M_69 rfl rfl (fun _ => ⟨rfl, rfl⟩) rfl rfl ?_
  refine AW.iconst (pc' := 44) (v := nI 1) d_M_goes_43 rfl (by decide) ?_
  refine AW.istore (pc' := 46) (ls' := [some (.ref 20), some (.int (nI (8))), some (.int (nI (1))), some (.int (nI (1))), some (.int (nI (1))), some (.int (nI (0))), some (.int (nI (8))), some (.int (nI (1)))]) d_M_goes_44 rfl rfl rfl ?_
  refine AW.iload (pc' := 48) d_M_goes_46 rfl rfl ?_
  refine AW.iload (pc' := 50) d_M_goes_48 rfl rfl ?_
  refine AW.icmp_gtN (tgt := 79) (pc' := 53) d_M_goes_50 (by decide) rfl (by decide) (by decide) (fun h => absurd h (by decide)) (fun _ => ?_)
  refine AW.iload_n (pc' := 54) d_M_goes_53 rfl rfl rfl ?_
  refine AW.iload (pc' := 56) d_M_goes_54 rfl rfl ?_
  refine AW.iand (pc' := 57) d_M_goes_56 rfl ?_
  refine AW.top (u := .int (nI 0)) (by decide) ?_
  refine AW.if_le (tgt := 70) (pc' := 60) d_M_goes_57 (by decide) rfl (fun _ => ?_) (fun h => absurd (by decide) h)
  refine AW.iconst (pc' := 71) (v := nI 2) d_M_goes_70 rfl (by decide) ?_
  refine AW.iload (pc' := 73) d_M_goes_71 rfl rfl ?_
  refine AW.imul (pc' := 74) d_M_goes_73 rfl ?_
  refine AW.top (u := .int (nI 2)) (by decide) ?_
  refine AW.istore (pc' := 76) (ls' := [some (.ref 20), some (.int (nI (8))), some (.int (nI (1))), some (.int (nI (1))), some (.int (nI (1))), some (.int (nI (0))), some (.int (nI (8))), some (.int (nI (2)))]) d_M_goes_74 rfl rfl rfl ?_
  refine AW.goto (tgt := 46) d_M_goes_76 (by decide) ?_
  refine AW.iload (pc' := 48) d_M_goes_46 rfl rfl ?_
  refine AW.iload (pc' := 50) d_M_goes_48 rfl rfl ?_
  refine AW.icmp_gtN (tgt := 79) (pc' := 53) d_M_goes_50 (by decide) rfl (by decide) (by decide) (fun h => absurd h (by decide)) (fun _ => ?_)
  refine AW.iload_n (pc' := 54) d_M_goes_53 rfl rfl rfl ?_
  refine AW.iload (pc' := 56) d_M_goes_54 rfl rfl ?_
  refine AW.iand (pc' := 57) d_M_goes_56 rfl ?_
  refine AW.top (u := .int (nI 0)) (by decide) ?_
  refine AW.if_le (tgt := 70) (pc' := 60) d_M_goes_57 (by decide) rfl (fun _ => ?_) (fun h => absurd (by decide) h)
  refine AW.iconst (pc' := 71) (v := nI 2) d_M_goes_70 rfl (by decide) ?_
  refine AW.iload (pc' := 73) d_M_goes_71 rfl rfl ?_
  refine AW.imul (pc' := 74) d_M_goes_73 rfl ?_
  refine AW.top (u := .int (nI 4)) (by decide) ?_
  refine AW.istore (pc' := 76) (ls' := [some (.ref 20), some (.int (nI (8))), some (.int (nI (1))), some (.int (nI (1))), some (.int (nI (1))), some (.int (nI (0))), some (.int (nI (8))), some (.int (nI (4)))]) d_M_goes_74 rfl rfl rfl ?_
  refine AW.goto (tgt := 46) d_M_goes_76 (by decide) ?_
  refine AW.iload (pc' := 48) d_M_goes_46 rfl rfl ?_
  refine AW.iload (pc' := 50) d_M_goes_48 rfl rfl ?_
  refine AW.icmp_gtN (tgt := 79) (pc' := 53) d_M_goes_50 (by decide) rfl (by decide) (by decide) (fun h => absurd h (by decide)) (fun _ => ?_)
  refine AW.iload_n (pc' := 54) d_M_goes_53 rfl rfl rfl ?_
  refine AW.iload (pc' := 56) d_M_goes_54 rfl rfl ?_
  refine AW.iand (pc' := 57) d_M_goes_56 rfl ?_
  refine AW.top (u := .int (nI 0)) (by decide) ?_
  refine AW.if_le (tgt := 70) (pc' := 60) d_M_goes_57 (by decide) rfl (fun _ => ?_) (fun h => absurd (by decide) h)
  refine AW.iconst (pc' := 71) (v := nI 2) d_M_goes_70 rfl (by decide) ?_
  refine AW.iload (pc' := 73) d_M_goes_71 rfl rfl ?_
  refine AW.imul (pc' := 74) d_M_goes_73 rfl ?_
  refine AW.top (u := .int (nI 8)) (by decide) ?_
  refine AW.istore (pc' := 76) (ls' := [some (.ref 20), some (.int (nI (8))), some (.int (nI (1))), some (.int (nI (1))), some (.int (nI (1))), some (.int (nI (0))), some (.int (nI (8))), some (.int (nI (8)))]) d_M_goes_74 rfl rfl rfl ?_
  refine AW.goto (tgt := 46) d_M_goes_76 (by decide) ?_
  refine AW.iload (pc' := 48) d_M_goes_46 rfl rfl ?_
  refine AW.iload (pc' := 50) d_M_goes_48 rfl rfl ?_
  refine AW.icmp_gtN (tgt := 79) (pc' := 53) d_M_goes_50 (by decide) rfl (by decide) (by decide) (fun h => absurd h (by decide)) (fun _ => ?_)
  refine AW.iload_n (pc' := 54) d_M_goes_53 rfl rfl rfl ?_
  refine AW.iload (pc' := 56) d_M_goes_54 rfl rfl ?_
  refine AW.iand (pc' := 57) d_M_goes_56 rfl ?_
  refine AW.top (u := .int (nI 8)) (by decide) ?_
  refine AW.if_le (tgt := 70) (pc' := 60) d_M_goes_57 (by decide) rfl (fun h => absurd h (by decide)) (fun _ => ?_)
  refine AW.aload_n (pc' := 61) d_M_goes_60 rfl rfl rfl ?_
  refine AW.dup (pc' := 62) d_M_goes_61 rfl rfl ?_
  refine AW.getf (pc' := 65) d_M_goes_62 rfl fl_M_69 rfl rfl ?_
  refine AW.top (u := .int (nI (0))) rfl ?_
  refine AW.iconst (pc' := 66) (v := nI 1) d_M_goes_65 rfl (by decide) ?_
  refine AW.iadd (pc' := 67) d_M_goes_66 rfl ?_
  refine AW.top (u := .int (nI 1)) (by decide) ?_
  refine AW.putf (pc' := 70) (w' := (wL z (k_thr_ (k_thr_ k (nI (0))) (nI (1))) o)) d_M_goes_67 rfl fp_M_69 rfl rfl (fun _ => ⟨rfl, rfl⟩) rfl rfl ?_
  refine AW.iconst (pc' := 71) (v := nI 2) d_M_goes_70 rfl (by decide) ?_
  refine AW.iload (pc' := 73) d_M_goes_71 rfl rfl ?_
  refine AW.imul (pc' := 74) d_M_goes_73 rfl ?_
  refine AW.top (u := .int (nI 16)) (by decide) ?_
  refine AW.istore (pc' := 76) (ls' := [some (.ref 20), some (.int (nI (8))), some (.int (nI (1))), some (.int (nI (1))), some (.int (nI (1))), some (.int (nI (0))), some (.int (nI (8))), some (.int (nI (16)))]) d_M_goes_74 rfl rfl rfl ?_
  refine AW.goto (tgt := 46) d_M_goes_76 (by decide) ?_
  refine AW.iload (pc' := 48) d_M_goes_46 rfl rfl ?_
  refine AW.iload (pc' := 50) d_M_goes_48 rfl rfl ?_
  refine AW.icmp_gtN (tgt := 79) (pc' := 53) d_M_goes_50 (by decide) rfl (by decide) (by decide) (fun _ => ?_) (fun h => absurd h (by decide))
  refine AW.iload (pc' := 81) d_M_goes_79 rfl rfl ?_
  refine AW.if_ne (tgt := 88) (pc' := 84) d_M_goes_81 (by decide) rfl (fun _ => ?_) (fun h => absurd h (by decide))
  refine AW.iconst (pc' := 89) (v := nI 0) d_M_goes_88 rfl (by decide) ?_
  exact AW.zret d_M_goes_89 rfl (by decide) rfl rfl ⟨rfl, rfl⟩
theorem k_goes_5_0 (X : ct_X) (z : S_c) (k : S_m) (o : Nat → Int64)  : AF X m_M_goes 0 0 0 [.ref 20, .int (nI (5)), .int (nI (1)), .int (nI (1)), .int (nI (1)), .int (nI (1))] (wL z k o) (.inl (some (.int (nI 1)))) (wL z (k_thr_ k (nI 0)) o) := by
  refine AM.of rfl (Nat.le_of_ble_eq_true rfl) (ls := [some (.ref 20), some (.int (nI (5))), some (.int (nI (1))), some (.int (nI (1))), some (.int (nI (1))), some (.int (nI (1))), none, none]) rfl ?_
  refine AW.iload_n (pc' := 1) d_M_goes_0 rfl rfl rfl ?_
  refine AW.if_ne (tgt := 8) (pc' := 4) d_M_goes_1 (by decide) rfl (fun _ => ?_) (fun h => absurd h (by decide))
  refine AW.iload_n (pc' := 9) d_M_goes_8 rfl rfl rfl ?_
  refine AW.if_ne (tgt := 16) (pc' := 12) d_M_goes_9 (by decide) rfl (fun _ => ?_) (fun h => absurd h (by decide))
  refine AW.iload (pc' := 18) d_M_goes_16 rfl rfl ?_
  refine AW.if_ne (tgt := 25) (pc' := 21) d_M_goes_18 (by decide) rfl (fun _ => ?_) (fun h => absurd h (by decide))
  refine AW.iload (pc' := 27) d_M_goes_25 rfl rfl ?_
  refine AW.if_ne (tgt := 35) (pc' := 30) d_M_goes_27 (by decide) rfl (fun _ => ?_) (fun h => absurd h (by decide))
  refine AW.iconst (pc' := 36) (v := nI 0) d_M_goes_35 rfl (by decide) ?_
  refine AW.istore (pc' := 38) (ls' := [some (.ref 20), some (.int (nI (5))), some (.int (nI (1))), some (.int (nI (1))), some (.int (nI (1))), some (.int (nI (1))), some (.int (nI (0))), none]) d_M_goes_36 rfl rfl rfl ?_
  refine AW.aload_n (pc' := 39) d_M_goes_38 rfl rfl rfl ?_
  refine AW.iconst (pc' := 40) (v := nI 0) d_M_goes_39 rfl (by decide) ?_
  refine AW.putf (pc' := 43) (w' := (wL z (k_thr_ k (nI (0))) o)) d_M_goes_40 rfl fp_M_69 rfl rfl (fun _ => ⟨rfl, rfl⟩) rfl rfl ?_
  refine AW.iconst (pc' := 44) (v := nI 1) d_M_goes_43 rfl (by decide) ?_
  refine AW.istore (pc' := 46) (ls' := [some (.ref 20), some (.int (nI (5))), some (.int (nI (1))), some (.int (nI (1))), some (.int (nI (1))), some (.int (nI (1))), some (.int (nI (0))), some (.int (nI (1)))]) d_M_goes_44 rfl rfl rfl ?_
  refine AW.iload (pc' := 48) d_M_goes_46 rfl rfl ?_
  refine AW.iload (pc' := 50) d_M_goes_48 rfl rfl ?_
  refine AW.icmp_gtN (tgt := 79) (pc' := 53) d_M_goes_50 (by decide) rfl (by decide) (by decide) (fun _ => ?_) (fun h => absurd h (by decide))
  refine AW.iload (pc' := 81) d_M_goes_79 rfl rfl ?_
  refine AW.if_ne (tgt := 88) (pc' := 84) d_M_goes_81 (by decide) rfl (fun h => absurd h (by decide)) (fun _ => ?_)
  refine AW.iconst (pc' := 85) (v := nI 1) d_M_goes_84 rfl (by decide) ?_
  refine AW.goto (tgt := 89) d_M_goes_85 (by decide) ?_
  exact AW.zret d_M_goes_89 rfl (by decide) rfl rfl ⟨rfl, rfl⟩
theorem k_goes_5_1 (X : ct_X) (z : S_c) (k : S_m) (o : Nat → Int64) (a2 a4 a8 : Int32) : AF X m_M_goes 0 0 0 [.ref 20, .int (nI (5)), .int (nI (0)), .int (a2), .int (a4), .int (a8)] (wL z k o) (.inl (some (.int (nI 0)))) (wL z (k_thr_ k (nI 1)) o) := by
  refine AM.of rfl (Nat.le_of_ble_eq_true rfl) (ls := [some (.ref 20), some (.int (nI (5))), some (.int (nI (0))), some (.int (a2)), some (.int (a4)), some (.int (a8)), none, none]) rfl ?_
  refine AW.iload_n (pc' := 1) d_M_goes_0 rfl rfl rfl ?_
  refine AW.if_ne (tgt := 8) (pc' := 4) d_M_goes_1 (by decide) rfl (fun h => absurd h (by decide)) (fun _ => ?_)
  refine AW.iconst (pc' := 5) (v := nI 1) d_M_goes_4 rfl (by decide) ?_
  refine AW.goto (tgt := 36) d_M_goes_5 (by decide) ?_
  refine AW.istore (pc' := 38) (ls' := [some (.ref 20), some (.int (nI (5))), some (.int (nI (0))), some (.int (a2)), some (.int (a4)), some (.int (a8)), some (.int (nI (1))), none]) d_M_goes_36 rfl rfl rfl ?_
  refine AW.aload_n (pc' := 39) d_M_goes_38 rfl rfl rfl ?_
  refine AW.iconst (pc' := 40) (v := nI 0) d_M_goes_39 rfl (by decide) ?_
  refine AW.putf (pc' := 43) (w' := (wL z (k_thr_ k (nI (0))) o)) d_M_goes_40 rfl fp_M_69 rfl rfl (fun _ => ⟨rfl, rfl⟩) rfl rfl ?_
  refine AW.iconst (pc' := 44) (v := nI 1) d_M_goes_43 rfl (by decide) ?_
  refine AW.istore (pc' := 46) (ls' := [some (.ref 20), some (.int (nI (5))), some (.int (nI (0))), some (.int (a2)), some (.int (a4)), some (.int (a8)), some (.int (nI (1))), some (.int (nI (1)))]) d_M_goes_44 rfl rfl rfl ?_
  refine AW.iload (pc' := 48) d_M_goes_46 rfl rfl ?_
  refine AW.iload (pc' := 50) d_M_goes_48 rfl rfl ?_
  refine AW.icmp_gtN (tgt := 79) (pc' := 53) d_M_goes_50 (by decide) rfl (by decide) (by decide) (fun h => absurd h (by decide)) (fun _ => ?_)
  refine AW.iload_n (pc' := 54) d_M_goes_53 rfl rfl rfl ?_
  refine AW.iload (pc' := 56) d_M_goes_54 rfl rfl ?_
  refine AW.iand (pc' := 57) d_M_goes_56 rfl ?_
  refine AW.top (u := .int (nI 1)) (by decide) ?_
  refine AW.if_le (tgt := 70) (pc' := 60) d_M_goes_57 (by decide) rfl (fun h => absurd h (by decide)) (fun _ => ?_)
  refine AW.aload_n (pc' := 61) d_M_goes_60 rfl rfl rfl ?_
  refine AW.dup (pc' := 62) d_M_goes_61 rfl rfl ?_
  refine AW.getf (pc' := 65) d_M_goes_62 rfl fl_M_69 rfl rfl ?_
  refine AW.top (u := .int (nI (0))) rfl ?_
  refine AW.iconst (pc' := 66) (v := nI 1) d_M_goes_65 rfl (by decide) ?_
  refine AW.iadd (pc' := 67) d_M_goes_66 rfl ?_
  refine AW.top (u := .int (nI 1)) (by decide) ?_
  refine AW.putf (pc' := 70) (w' := (wL z (k_thr_ (k_thr_ k (nI (0))) (nI (1))) o)) d_M_goes_67 rfl fp_M_69 rfl rfl (fun _ => ⟨rfl, rfl⟩) rfl rfl ?_
  refine AW.iconst (pc' := 71) (v := nI 2) d_M_goes_70 rfl (by decide) ?_
  refine AW.iload (pc' := 73) d_M_goes_71 rfl rfl ?_
  refine AW.imul (pc' := 74) d_M_goes_73 rfl ?_
  refine AW.top (u := .int (nI 2)) (by decide) ?_
  refine AW.istore (pc' := 76) (ls' := [some (.ref 20), some (.int (nI (5))), some (.int (nI (0))), some (.int (a2)), some (.int (a4)), some (.int (a8)), some (.int (nI (1))), some (.int (nI (2)))]) d_M_goes_74 rfl rfl rfl ?_
  refine AW.goto (tgt := 46) d_M_goes_76 (by decide) ?_
  refine AW.iload (pc' := 48) d_M_goes_46 rfl rfl ?_
  refine AW.iload (pc' := 50) d_M_goes_48 rfl rfl ?_
  refine AW.icmp_gtN (tgt := 79) (pc' := 53) d_M_goes_50 (by decide) rfl (by decide) (by decide) (fun _ => ?_) (fun h => absurd h (by decide))
  refine AW.iload (pc' := 81) d_M_goes_79 rfl rfl ?_
  refine AW.if_ne (tgt := 88) (pc' := 84) d_M_goes_81 (by decide) rfl (fun _ => ?_) (fun h => absurd h (by decide))
  refine AW.iconst (pc' := 89) (v := nI 0) d_M_goes_88 rfl (by decide) ?_
  exact AW.zret d_M_goes_89 rfl (by decide) rfl rfl ⟨rfl, rfl⟩
theorem k_goes_5_4 (X : ct_X) (z : S_c) (k : S_m) (o : Nat → Int64) (a8 : Int32) : AF X m_M_goes 0 0 0 [.ref 20, .int (nI (5)), .int (nI (1)), .int (nI (1)), .int (nI (0)), .int (a8)] (wL z k o) (.inl (some (.int (nI 0)))) (wL z (k_thr_ k (nI 2)) o) := by
  refine AM.of rfl (Nat.le_of_ble_eq_true rfl) (ls := [some (.ref 20), some (.int (nI (5))), some (.int (nI (1))), some (.int (nI (1))), some (.int (nI (0))), some (.int (a8)), none, none]) rfl ?_
  refine AW.iload_n (pc' := 1) d_M_goes_0 rfl rfl rfl ?_
  refine AW.if_ne (tgt := 8) (pc' := 4) d_M_goes_1 (by decide) rfl (fun _ => ?_) (fun h => absurd h (by decide))
  refine AW.iload_n (pc' := 9) d_M_goes_8 rfl rfl rfl ?_
  refine AW.if_ne (tgt := 16) (pc' := 12) d_M_goes_9 (by decide) rfl (fun _ => ?_) (fun h => absurd h (by decide))
  refine AW.iload (pc' := 18) d_M_goes_16 rfl rfl ?_
  refine AW.if_ne (tgt := 25) (pc' := 21) d_M_goes_18 (by decide) rfl (fun h => absurd h (by decide)) (fun _ => ?_)
  refine AW.iconst (pc' := 22) (v := nI 4) d_M_goes_21 rfl (by decide) ?_
  refine AW.goto (tgt := 36) d_M_goes_22 (by decide) ?_
  refine AW.istore (pc' := 38) (ls' := [some (.ref 20), some (.int (nI (5))), some (.int (nI (1))), some (.int (nI (1))), some (.int (nI (0))), some (.int (a8)), some (.int (nI (4))), none]) d_M_goes_36 rfl rfl rfl ?_
  refine AW.aload_n (pc' := 39) d_M_goes_38 rfl rfl rfl ?_
  refine AW.iconst (pc' := 40) (v := nI 0) d_M_goes_39 rfl (by decide) ?_
  refine AW.putf (pc' := 43) (w' := (wL z (k_thr_ k (nI (0))) o)) d_M_goes_40 rfl fp_M_69 rfl rfl (fun _ => ⟨rfl, rfl⟩) rfl rfl ?_
  refine AW.iconst (pc' := 44) (v := nI 1) d_M_goes_43 rfl (by decide) ?_
  refine AW.istore (pc' := 46) (ls' := [some (.ref 20), some (.int (nI (5))), some (.int (nI (1))), some (.int (nI (1))), some (.int (nI (0))), some (.int (a8)), some (.int (nI (4))), some (.int (nI (1)))]) d_M_goes_44 rfl rfl rfl ?_
  refine AW.iload (pc' := 48) d_M_goes_46 rfl rfl ?_
  refine AW.iload (pc' := 50) d_M_goes_48 rfl rfl ?_
  refine AW.icmp_gtN (tgt := 79) (pc' := 53) d_M_goes_50 (by decide) rfl (by decide) (by decide) (fun h => absurd h (by decide)) (fun _ => ?_)
  refine AW.iload_n (pc' := 54) d_M_goes_53 rfl rfl rfl ?_
  refine AW.iload (pc' := 56) d_M_goes_54 rfl rfl ?_
  refine AW.iand (pc' := 57) d_M_goes_56 rfl ?_
  refine AW.top (u := .int (nI 1)) (by decide) ?_
  refine AW.if_le (tgt := 70) (pc' := 60) d_M_goes_57 (by decide) rfl (fun h => absurd h (by decide)) (fun _ => ?_)
  refine AW.aload_n (pc' := 61) d_M_goes_60 rfl rfl rfl ?_
  refine AW.dup (pc' := 62) d_M_goes_61 rfl rfl ?_
  refine AW.getf (pc' := 65) d_M_goes_62 rfl fl_M_69 rfl rfl ?_
  refine AW.top (u := .int (nI (0))) rfl ?_
  refine AW.iconst (pc' := 66) (v := nI 1) d_M_goes_65 rfl (by decide) ?_
  refine AW.iadd (pc' := 67) d_M_goes_66 rfl ?_
  refine AW.top (u := .int (nI 1)) (by decide) ?_
  refine AW.putf (pc' := 70) (w' := (wL z (k_thr_ (k_thr_ k (nI (0))) (nI (1))) o)) d_M_goes_67 rfl fp_M_69 rfl rfl (fun _ => ⟨rfl, rfl⟩) rfl rfl ?_
  refine AW.iconst (pc' := 71) (v := nI 2) d_M_goes_70 rfl (by decide) ?_
  refine AW.iload (pc' := 73) d_M_goes_71 rfl rfl ?_
  refine AW.imul (pc' := 74) d_M_goes_73 rfl ?_
  refine AW.top (u := .int (nI 2)) (by decide) ?_
  refine AW.istore (pc' := 76) (ls' := [some (.ref 20), some (.int (nI (5))), some (.int (nI (1))), some (.int (nI (1))), some (.int (nI (0))), some (.int (a8)), some (.int (nI (4))), some (.int (nI (2)))]) d_M_goes_74 rfl rfl rfl ?_
  refine AW.goto (tgt := 46) d_M_goes_76 (by decide) ?_
  refine AW.iload (pc' := 48) d_M_goes_46 rfl rfl ?_
  refine AW.iload (pc' := 50) d_M_goes_48 rfl rfl ?_
  refine AW.icmp_gtN (tgt := 79) (pc' := 53) d_M_goes_50 (by decide) rfl (by decide) (by decide) (fun h => absurd h (by decide)) (fun _ => ?_)
  refine AW.iload_n (pc' := 54) d_M_goes_53 rfl rfl rfl ?_
  refine AW.iload (pc' := 56) d_M_goes_54 rfl rfl ?_
  refine AW.iand (pc' := 57) d_M_goes_56 rfl ?_
  refine AW.top (u := .int (nI 0)) (by decide) ?_
  refine AW.if_le (tgt := 70) (pc' := 60) d_M_goes_57 (by decide) rfl (fun _ => ?_) (fun h => absurd (by decide) h)
  refine AW.iconst (pc' := 71) (v := nI 2) d_M_goes_70 rfl (by decide) ?_
  refine AW.iload (pc' := 73) d_M_goes_71 rfl rfl ?_
  refine AW.imul (pc' := 74) d_M_goes_73 rfl ?_
  refine AW.top (u := .int (nI 4)) (by decide) ?_
  refine AW.istore (pc' := 76) (ls' := [some (.ref 20), some (.int (nI (5))), some (.int (nI (1))), some (.int (nI (1))), some (.int (nI (0))), some (.int (a8)), some (.int (nI (4))), some (.int (nI (4)))]) d_M_goes_74 rfl rfl rfl ?_
  refine AW.goto (tgt := 46) d_M_goes_76 (by decide) ?_
  refine AW.iload (pc' := 48) d_M_goes_46 rfl rfl ?_
  refine AW.iload (pc' := 50) d_M_goes_48 rfl rfl ?_
  refine AW.icmp_gtN (tgt := 79) (pc' := 53) d_M_goes_50 (by decide) rfl (by decide) (by decide) (fun h => absurd h (by decide)) (fun _ => ?_)
  refine AW.iload_n (pc' := 54) d_M_goes_53 rfl rfl rfl ?_
  refine AW.iload (pc' := 56) d_M_goes_54 rfl rfl ?_
  refine AW.iand (pc' := 57) d_M_goes_56 rfl ?_
  refine AW.top (u := .int (nI 4)) (by decide) ?_
  refine AW.if_le (tgt := 70) (pc' := 60) d_M_goes_57 (by decide) rfl (fun h => absurd h (by decide)) (fun _ => ?_)
  refine AW.aload_n (pc' := 61) d_M_goes_60 rfl rfl rfl ?_
  refine AW.dup (pc' := 62) d_M_goes_61 rfl rfl ?_
  refine AW.getf (pc' := 65) d_M_goes_62 rfl fl_M_69 rfl rfl ?_
  refine AW.top (u := .int (nI (1))) rfl ?_
  refine AW.iconst (pc' := 66) (v := nI 1) d_M_goes_65 rfl (by decide) ?_
  refine AW.iadd (pc' := 67) d_M_goes_66 rfl ?_
  refine AW.top (u := .int (nI 2)) (by decide) ?_
  refine AW.putf (pc' := 70) (w' := (wL z (k_thr_ (k_thr_ (k_thr_ k (nI (0))) (nI (1))) (nI (2))) o)) d_M_goes_67 rfl fp_M_69 rfl rfl (fun _ => ⟨rfl, rfl⟩) rfl rfl ?_
  refine AW.iconst (pc' := 71) (v := nI 2) d_M_goes_70 rfl (by decide) ?_
  refine AW.iload (pc' := 73) d_M_goes_71 rfl rfl ?_
  refine AW.imul (pc' := 74) d_M_goes_73 rfl ?_
  refine AW.top (u := .int (nI 8)) (by decide) ?_
  refine AW.istore (pc' := 76) (ls' := [some (.ref 20), some (.int (nI (5))), some (.int (nI (1))), some (.int (nI (1))), some (.int (nI (0))), some (.int (a8)), some (.int (nI (4))), some (.int (nI (8)))]) d_M_goes_74 rfl rfl rfl ?_
  refine AW.goto (tgt := 46) d_M_goes_76 (by decide) ?_
  refine AW.iload (pc' := 48) d_M_goes_46 rfl rfl ?_
  refine AW.iload (pc' := 50) d_M_goes_48 rfl rfl ?_
  refine AW.icmp_gtN (tgt := 79) (pc' := 53) d_M_goes_50 (by decide) rfl (by decide) (by decide) (fun _ => ?_) (fun h => absurd h (by decide))
  refine AW.iload (pc' := 81) d_M_goes_79 rfl rfl ?_
  refine AW.if_ne (tgt := 88) (pc' := 84) d_M_goes_81 (by decide) rfl (fun _ => ?_) (fun h => absurd h (by decide))
  refine AW.iconst (pc' := 89) (v := nI 0) d_M_goes_88 rfl (by decide) ?_
  exact AW.zret d_M_goes_89 rfl (by decide) rfl rfl ⟨rfl, rfl⟩
theorem k_goes_13_0 (X : ct_X) (z : S_c) (k : S_m) (o : Nat → Int64)  : AF X m_M_goes 0 0 0 [.ref 20, .int (nI (13)), .int (nI (1)), .int (nI (1)), .int (nI (1)), .int (nI (1))] (wL z k o) (.inl (some (.int (nI 1)))) (wL z (k_thr_ k (nI 0)) o) := by
  refine AM.of rfl (Nat.le_of_ble_eq_true rfl) (ls := [some (.ref 20), some (.int (nI (13))), some (.int (nI (1))), some (.int (nI (1))), some (.int (nI (1))), some (.int (nI (1))), none, none]) rfl ?_
  refine AW.iload_n (pc' := 1) d_M_goes_0 rfl rfl rfl ?_
  refine AW.if_ne (tgt := 8) (pc' := 4) d_M_goes_1 (by decide) rfl (fun _ => ?_) (fun h => absurd h (by decide))
  refine AW.iload_n (pc' := 9) d_M_goes_8 rfl rfl rfl ?_
  refine AW.if_ne (tgt := 16) (pc' := 12) d_M_goes_9 (by decide) rfl (fun _ => ?_) (fun h => absurd h (by decide))
  refine AW.iload (pc' := 18) d_M_goes_16 rfl rfl ?_
  refine AW.if_ne (tgt := 25) (pc' := 21) d_M_goes_18 (by decide) rfl (fun _ => ?_) (fun h => absurd h (by decide))
  refine AW.iload (pc' := 27) d_M_goes_25 rfl rfl ?_
  refine AW.if_ne (tgt := 35) (pc' := 30) d_M_goes_27 (by decide) rfl (fun _ => ?_) (fun h => absurd h (by decide))
  refine AW.iconst (pc' := 36) (v := nI 0) d_M_goes_35 rfl (by decide) ?_
  refine AW.istore (pc' := 38) (ls' := [some (.ref 20), some (.int (nI (13))), some (.int (nI (1))), some (.int (nI (1))), some (.int (nI (1))), some (.int (nI (1))), some (.int (nI (0))), none]) d_M_goes_36 rfl rfl rfl ?_
  refine AW.aload_n (pc' := 39) d_M_goes_38 rfl rfl rfl ?_
  refine AW.iconst (pc' := 40) (v := nI 0) d_M_goes_39 rfl (by decide) ?_
  refine AW.putf (pc' := 43) (w' := (wL z (k_thr_ k (nI (0))) o)) d_M_goes_40 rfl fp_M_69 rfl rfl (fun _ => ⟨rfl, rfl⟩) rfl rfl ?_
  refine AW.iconst (pc' := 44) (v := nI 1) d_M_goes_43 rfl (by decide) ?_
  refine AW.istore (pc' := 46) (ls' := [some (.ref 20), some (.int (nI (13))), some (.int (nI (1))), some (.int (nI (1))), some (.int (nI (1))), some (.int (nI (1))), some (.int (nI (0))), some (.int (nI (1)))]) d_M_goes_44 rfl rfl rfl ?_
  refine AW.iload (pc' := 48) d_M_goes_46 rfl rfl ?_
  refine AW.iload (pc' := 50) d_M_goes_48 rfl rfl ?_
  refine AW.icmp_gtN (tgt := 79) (pc' := 53) d_M_goes_50 (by decide) rfl (by decide) (by decide) (fun _ => ?_) (fun h => absurd h (by decide))
  refine AW.iload (pc' := 81) d_M_goes_79 rfl rfl ?_
  refine AW.if_ne (tgt := 88) (pc' := 84) d_M_goes_81 (by decide) rfl (fun h => absurd h (by decide)) (fun _ => ?_)
  refine AW.iconst (pc' := 85) (v := nI 1) d_M_goes_84 rfl (by decide) ?_
  refine AW.goto (tgt := 89) d_M_goes_85 (by decide) ?_
  exact AW.zret d_M_goes_89 rfl (by decide) rfl rfl ⟨rfl, rfl⟩
theorem k_goes_13_1 (X : ct_X) (z : S_c) (k : S_m) (o : Nat → Int64) (a2 a4 a8 : Int32) : AF X m_M_goes 0 0 0 [.ref 20, .int (nI (13)), .int (nI (0)), .int (a2), .int (a4), .int (a8)] (wL z k o) (.inl (some (.int (nI 0)))) (wL z (k_thr_ k (nI 1)) o) := by
  refine AM.of rfl (Nat.le_of_ble_eq_true rfl) (ls := [some (.ref 20), some (.int (nI (13))), some (.int (nI (0))), some (.int (a2)), some (.int (a4)), some (.int (a8)), none, none]) rfl ?_
  refine AW.iload_n (pc' := 1) d_M_goes_0 rfl rfl rfl ?_
  refine AW.if_ne (tgt := 8) (pc' := 4) d_M_goes_1 (by decide) rfl (fun h => absurd h (by decide)) (fun _ => ?_)
  refine AW.iconst (pc' := 5) (v := nI 1) d_M_goes_4 rfl (by decide) ?_
  refine AW.goto (tgt := 36) d_M_goes_5 (by decide) ?_
  refine AW.istore (pc' := 38) (ls' := [some (.ref 20), some (.int (nI (13))), some (.int (nI (0))), some (.int (a2)), some (.int (a4)), some (.int (a8)), some (.int (nI (1))), none]) d_M_goes_36 rfl rfl rfl ?_
  refine AW.aload_n (pc' := 39) d_M_goes_38 rfl rfl rfl ?_
  refine AW.iconst (pc' := 40) (v := nI 0) d_M_goes_39 rfl (by decide) ?_
  refine AW.putf (pc' := 43) (w' := (wL z (k_thr_ k (nI (0))) o)) d_M_goes_40 rfl fp_M_69 rfl rfl (fun _ => ⟨rfl, rfl⟩) rfl rfl ?_
  refine AW.iconst (pc' := 44) (v := nI 1) d_M_goes_43 rfl (by decide) ?_
  refine AW.istore (pc' := 46) (ls' := [some (.ref 20), some (.int (nI (13))), some (.int (nI (0))), some (.int (a2)), some (.int (a4)), some (.int (a8)), some (.int (nI (1))), some (.int (nI (1)))]) d_M_goes_44 rfl rfl rfl ?_
  refine AW.iload (pc' := 48) d_M_goes_46 rfl rfl ?_
  refine AW.iload (pc' := 50) d_M_goes_48 rfl rfl ?_
  refine AW.icmp_gtN (tgt := 79) (pc' := 53) d_M_goes_50 (by decide) rfl (by decide) (by decide) (fun h => absurd h (by decide)) (fun _ => ?_)
  refine AW.iload_n (pc' := 54) d_M_goes_53 rfl rfl rfl ?_
  refine AW.iload (pc' := 56) d_M_goes_54 rfl rfl ?_
  refine AW.iand (pc' := 57) d_M_goes_56 rfl ?_
  refine AW.top (u := .int (nI 1)) (by decide) ?_
  refine AW.if_le (tgt := 70) (pc' := 60) d_M_goes_57 (by decide) rfl (fun h => absurd h (by decide)) (fun _ => ?_)
  refine AW.aload_n (pc' := 61) d_M_goes_60 rfl rfl rfl ?_
  refine AW.dup (pc' := 62) d_M_goes_61 rfl rfl ?_
  refine AW.getf (pc' := 65) d_M_goes_62 rfl fl_M_69 rfl rfl ?_
  refine AW.top (u := .int (nI (0))) rfl ?_
  refine AW.iconst (pc' := 66) (v := nI 1) d_M_goes_65 rfl (by decide) ?_
  refine AW.iadd (pc' := 67) d_M_goes_66 rfl ?_
  refine AW.top (u := .int (nI 1)) (by decide) ?_
  refine AW.putf (pc' := 70) (w' := (wL z (k_thr_ (k_thr_ k (nI (0))) (nI (1))) o)) d_M_goes_67 rfl fp_M_69 rfl rfl (fun _ => ⟨rfl, rfl⟩) rfl rfl ?_
  refine AW.iconst (pc' := 71) (v := nI 2) d_M_goes_70 rfl (by decide) ?_
  refine AW.iload (pc' := 73) d_M_goes_71 rfl rfl ?_
  refine AW.imul (pc' := 74) d_M_goes_73 rfl ?_
  refine AW.top (u := .int (nI 2)) (by decide) ?_
  refine AW.istore (pc' := 76) (ls' := [some (.ref 20), some (.int (nI (13))), some (.int (nI (0))), some (.int (a2)), some (.int (a4)), some (.int (a8)), some (.int (nI (1))), some (.int (nI (2)))]) d_M_goes_74 rfl rfl rfl ?_
  refine AW.goto (tgt := 46) d_M_goes_76 (by decide) ?_
  refine AW.iload (pc' := 48) d_M_goes_46 rfl rfl ?_
  refine AW.iload (pc' := 50) d_M_goes_48 rfl rfl ?_
  refine AW.icmp_gtN (tgt := 79) (pc' := 53) d_M_goes_50 (by decide) rfl (by decide) (by decide) (fun _ => ?_) (fun h => absurd h (by decide))
  refine AW.iload (pc' := 81) d_M_goes_79 rfl rfl ?_
  refine AW.if_ne (tgt := 88) (pc' := 84) d_M_goes_81 (by decide) rfl (fun _ => ?_) (fun h => absurd h (by decide))
  refine AW.iconst (pc' := 89) (v := nI 0) d_M_goes_88 rfl (by decide) ?_
  exact AW.zret d_M_goes_89 rfl (by decide) rfl rfl ⟨rfl, rfl⟩
theorem k_goes_13_4 (X : ct_X) (z : S_c) (k : S_m) (o : Nat → Int64) (a8 : Int32) : AF X m_M_goes 0 0 0 [.ref 20, .int (nI (13)), .int (nI (1)), .int (nI (1)), .int (nI (0)), .int (a8)] (wL z k o) (.inl (some (.int (nI 0)))) (wL z (k_thr_ k (nI 2)) o) := by
  refine AM.of rfl (Nat.le_of_ble_eq_true rfl) (ls := [some (.ref 20), some (.int (nI (13))), some (.int (nI (1))), some (.int (nI (1))), some (.int (nI (0))), some (.int (a8)), none, none]) rfl ?_
  refine AW.iload_n (pc' := 1) d_M_goes_0 rfl rfl rfl ?_
  refine AW.if_ne (tgt := 8) (pc' := 4) d_M_goes_1 (by decide) rfl (fun _ => ?_) (fun h => absurd h (by decide))
  refine AW.iload_n (pc' := 9) d_M_goes_8 rfl rfl rfl ?_
  refine AW.if_ne (tgt := 16) (pc' := 12) d_M_goes_9 (by decide) rfl (fun _ => ?_) (fun h => absurd h (by decide))
  refine AW.iload (pc' := 18) d_M_goes_16 rfl rfl ?_
  refine AW.if_ne (tgt := 25) (pc' := 21) d_M_goes_18 (by decide) rfl (fun h => absurd h (by decide)) (fun _ => ?_)
  refine AW.iconst (pc' := 22) (v := nI 4) d_M_goes_21 rfl (by decide) ?_
  refine AW.goto (tgt := 36) d_M_goes_22 (by decide) ?_
  refine AW.istore (pc' := 38) (ls' := [some (.ref 20), some (.int (nI (13))), some (.int (nI (1))), some (.int (nI (1))), some (.int (nI (0))), some (.int (a8)), some (.int (nI (4))), none]) d_M_goes_36 rfl rfl rfl ?_
  refine AW.aload_n (pc' := 39) d_M_goes_38 rfl rfl rfl ?_
  refine AW.iconst (pc' := 40) (v := nI 0) d_M_goes_39 rfl (by decide) ?_
  refine AW.putf (pc' := 43) (w' := (wL z (k_thr_ k (nI (0))) o)) d_M_goes_40 rfl fp_M_69 rfl rfl (fun _ => ⟨rfl, rfl⟩) rfl rfl ?_
  refine AW.iconst (pc' := 44) (v := nI 1) d_M_goes_43 rfl (by decide) ?_
  refine AW.istore (pc' := 46) (ls' := [some (.ref 20), some (.int (nI (13))), some (.int (nI (1))), some (.int (nI (1))), some (.int (nI (0))), some (.int (a8)), some (.int (nI (4))), some (.int (nI (1)))]) d_M_goes_44 rfl rfl rfl ?_
  refine AW.iload (pc' := 48) d_M_goes_46 rfl rfl ?_
  refine AW.iload (pc' := 50) d_M_goes_48 rfl rfl ?_
  refine AW.icmp_gtN (tgt := 79) (pc' := 53) d_M_goes_50 (by decide) rfl (by decide) (by decide) (fun h => absurd h (by decide)) (fun _ => ?_)
  refine AW.iload_n (pc' := 54) d_M_goes_53 rfl rfl rfl ?_
  refine AW.iload (pc' := 56) d_M_goes_54 rfl rfl ?_
  refine AW.iand (pc' := 57) d_M_goes_56 rfl ?_
  refine AW.top (u := .int (nI 1)) (by decide) ?_
  refine AW.if_le (tgt := 70) (pc' := 60) d_M_goes_57 (by decide) rfl (fun h => absurd h (by decide)) (fun _ => ?_)
  refine AW.aload_n (pc' := 61) d_M_goes_60 rfl rfl rfl ?_
  refine AW.dup (pc' := 62) d_M_goes_61 rfl rfl ?_
  refine AW.getf (pc' := 65) d_M_goes_62 rfl fl_M_69 rfl rfl ?_
  refine AW.top (u := .int (nI (0))) rfl ?_
  refine AW.iconst (pc' := 66) (v := nI 1) d_M_goes_65 rfl (by decide) ?_
  refine AW.iadd (pc' := 67) d_M_goes_66 rfl ?_
  refine AW.top (u := .int (nI 1)) (by decide) ?_
  refine AW.putf (pc' := 70) (w' := (wL z (k_thr_ (k_thr_ k (nI (0))) (nI (1))) o)) d_M_goes_67 rfl fp_M_69 rfl rfl (fun _ => ⟨rfl, rfl⟩) rfl rfl ?_
  refine AW.iconst (pc' := 71) (v := nI 2) d_M_goes_70 rfl (by decide) ?_
  refine AW.iload (pc' := 73) d_M_goes_71 rfl rfl ?_
  refine AW.imul (pc' := 74) d_M_goes_73 rfl ?_
  refine AW.top (u := .int (nI 2)) (by decide) ?_
  refine AW.istore (pc' := 76) (ls' := [some (.ref 20), some (.int (nI (13))), some (.int (nI (1))), some (.int (nI (1))), some (.int (nI (0))), some (.int (a8)), some (.int (nI (4))), some (.int (nI (2)))]) d_M_goes_74 rfl rfl rfl ?_
  refine AW.goto (tgt := 46) d_M_goes_76 (by decide) ?_
  refine AW.iload (pc' := 48) d_M_goes_46 rfl rfl ?_
  refine AW.iload (pc' := 50) d_M_goes_48 rfl rfl ?_
  refine AW.icmp_gtN (tgt := 79) (pc' := 53) d_M_goes_50 (by decide) rfl (by decide) (by decide) (fun h => absurd h (by decide)) (fun _ => ?_)
  refine AW.iload_n (pc' := 54) d_M_goes_53 rfl rfl rfl ?_
  refine AW.iload (pc' := 56) d_M_goes_54 rfl rfl ?_
  refine AW.iand (pc' := 57) d_M_goes_56 rfl ?_
  refine AW.top (u := .int (nI 0)) (by decide) ?_
  refine AW.if_le (tgt := 70) (pc' := 60) d_M_goes_57 (by decide) rfl (fun _ => ?_) (fun h => absurd (by decide) h)
  refine AW.iconst (pc' := 71) (v := nI 2) d_M_goes_70 rfl (by decide) ?_
  refine AW.iload (pc' := 73) d_M_goes_71 rfl rfl ?_
  refine AW.imul (pc' := 74) d_M_goes_73 rfl ?_
  refine AW.top (u := .int (nI 4)) (by decide) ?_
  refine AW.istore (pc' := 76) (ls' := [some (.ref 20), some (.int (nI (13))), some (.int (nI (1))), some (.int (nI (1))), some (.int (nI (0))), some (.int (a8)), some (.int (nI (4))), some (.int (nI (4)))]) d_M_goes_74 rfl rfl rfl ?_
  refine AW.goto (tgt := 46) d_M_goes_76 (by decide) ?_
  refine AW.iload (pc' := 48) d_M_goes_46 rfl rfl ?_
  refine AW.iload (pc' := 50) d_M_goes_48 rfl rfl ?_
  refine AW.icmp_gtN (tgt := 79) (pc' := 53) d_M_goes_50 (by decide) rfl (by decide) (by decide) (fun h => absurd h (by decide)) (fun _ => ?_)
  refine AW.iload_n (pc' := 54) d_M_goes_53 rfl rfl rfl ?_
  refine AW.iload (pc' := 56) d_M_goes_54 rfl rfl ?_
  refine AW.iand (pc' := 57) d_M_goes_56 rfl ?_
  refine AW.top (u := .int (nI 4)) (by decide) ?_
  refine AW.if_le (tgt := 70) (pc' := 60) d_M_goes_57 (by decide) rfl (fun h => absurd h (by decide)) (fun _ => ?_)
  refine AW.aload_n (pc' := 61) d_M_goes_60 rfl rfl rfl ?_
  refine AW.dup (pc' := 62) d_M_goes_61 rfl rfl ?_
  refine AW.getf (pc' := 65) d_M_goes_62 rfl fl_M_69 rfl rfl ?_
  refine AW.top (u := .int (nI (1))) rfl ?_
  refine AW.iconst (pc' := 66) (v := nI 1) d_M_goes_65 rfl (by decide) ?_
  refine AW.iadd (pc' := 67) d_M_goes_66 rfl ?_
  refine AW.top (u := .int (nI 2)) (by decide) ?_
  refine AW.putf (pc' := 70) (w' := (wL z (k_thr_ (k_thr_ (k_thr_ k (nI (0))) (nI (1))) (nI (2))) o)) d_M_goes_67 rfl fp_M_69 rfl rfl (fun _ => ⟨rfl, rfl⟩) rfl rfl ?_
  refine AW.iconst (pc' := 71) (v := nI 2) d_M_goes_70 rfl (by decide) ?_
  refine AW.iload (pc' := 73) d_M_goes_71 rfl rfl ?_
  refine AW.imul (pc' := 74) d_M_goes_73 rfl ?_
  refine AW.top (u := .int (nI 8)) (by decide) ?_
  refine AW.istore (pc' := 76) (ls' := [some (.ref 20), some (.int (nI (13))), some (.int (nI (1))), some (.int (nI (1))), some (.int (nI (0))), some (.int (a8)), some (.int (nI (4))), some (.int (nI (8)))]) d_M_goes_74 rfl rfl rfl ?_
  refine AW.goto (tgt := 46) d_M_goes_76 (by decide) ?_
  refine AW.iload (pc' := 48) d_M_goes_46 rfl rfl ?_
  refine AW.iload (pc' := 50) d_M_goes_48 rfl rfl ?_
  refine AW.icmp_gtN (tgt := 79) (pc' := 53) d_M_goes_50 (by decide) rfl (by decide) (by decide) (fun _ => ?_) (fun h => absurd h (by decide))
  refine AW.iload (pc' := 81) d_M_goes_79 rfl rfl ?_
  refine AW.if_ne (tgt := 88) (pc' := 84) d_M_goes_81 (by decide) rfl (fun _ => ?_) (fun h => absurd h (by decide))
  refine AW.iconst (pc' := 89) (v := nI 0) d_M_goes_88 rfl (by decide) ?_
  exact AW.zret d_M_goes_89 rfl (by decide) rfl rfl ⟨rfl, rfl⟩
theorem k_goes_13_8 (X : ct_X) (z : S_c) (k : S_m) (o : Nat → Int64)  : AF X m_M_goes 0 0 0 [.ref 20, .int (nI (13)), .int (nI (1)), .int (nI (1)), .int (nI (1)), .int (nI (0))] (wL z k o) (.inl (some (.int (nI 0)))) (wL z (k_thr_ k (nI 3)) o) := by
  refine AM.of rfl (Nat.le_of_ble_eq_true rfl) (ls := [some (.ref 20), some (.int (nI (13))), some (.int (nI (1))), some (.int (nI (1))), some (.int (nI (1))), some (.int (nI (0))), none, none]) rfl ?_
  refine AW.iload_n (pc' := 1) d_M_goes_0 rfl rfl rfl ?_
  refine AW.if_ne (tgt := 8) (pc' := 4) d_M_goes_1 (by decide) rfl (fun _ => ?_) (fun h => absurd h (by decide))
  refine AW.iload_n (pc' := 9) d_M_goes_8 rfl rfl rfl ?_
  refine AW.if_ne (tgt := 16) (pc' := 12) d_M_goes_9 (by decide) rfl (fun _ => ?_) (fun h => absurd h (by decide))
  refine AW.iload (pc' := 18) d_M_goes_16 rfl rfl ?_
  refine AW.if_ne (tgt := 25) (pc' := 21) d_M_goes_18 (by decide) rfl (fun _ => ?_) (fun h => absurd h (by decide))
  refine AW.iload (pc' := 27) d_M_goes_25 rfl rfl ?_
  refine AW.if_ne (tgt := 35) (pc' := 30) d_M_goes_27 (by decide) rfl (fun h => absurd h (by decide)) (fun _ => ?_)
  refine AW.bipush (pc' := 32) (v := nI 8) d_M_goes_30 rfl (by decide) ?_
  refine AW.goto (tgt := 36) d_M_goes_32 (by decide) ?_
  refine AW.istore (pc' := 38) (ls' := [some (.ref 20), some (.int (nI (13))), some (.int (nI (1))), some (.int (nI (1))), some (.int (nI (1))), some (.int (nI (0))), some (.int (nI (8))), none]) d_M_goes_36 rfl rfl rfl ?_
  refine AW.aload_n (pc' := 39) d_M_goes_38 rfl rfl rfl ?_
  refine AW.iconst (pc' := 40) (v := nI 0) d_M_goes_39 rfl (by decide) ?_
  refine AW.putf (pc' := 43) (w' := (wL z (k_thr_ k (nI (0))) o)) d_M_goes_40 rfl fp_M_69 rfl rfl (fun _ => ⟨rfl, rfl⟩) rfl rfl ?_
  refine AW.iconst (pc' := 44) (v := nI 1) d_M_goes_43 rfl (by decide) ?_
  refine AW.istore (pc' := 46) (ls' := [some (.ref 20), some (.int (nI (13))), some (.int (nI (1))), some (.int (nI (1))), some (.int (nI (1))), some (.int (nI (0))), some (.int (nI (8))), some (.int (nI (1)))]) d_M_goes_44 rfl rfl rfl ?_
  refine AW.iload (pc' := 48) d_M_goes_46 rfl rfl ?_
  refine AW.iload (pc' := 50) d_M_goes_48 rfl rfl ?_
  refine AW.icmp_gtN (tgt := 79) (pc' := 53) d_M_goes_50 (by decide) rfl (by decide) (by decide) (fun h => absurd h (by decide)) (fun _ => ?_)
  refine AW.iload_n (pc' := 54) d_M_goes_53 rfl rfl rfl ?_
  refine AW.iload (pc' := 56) d_M_goes_54 rfl rfl ?_
  refine AW.iand (pc' := 57) d_M_goes_56 rfl ?_
  refine AW.top (u := .int (nI 1)) (by decide) ?_
  refine AW.if_le (tgt := 70) (pc' := 60) d_M_goes_57 (by decide) rfl (fun h => absurd h (by decide)) (fun _ => ?_)
  refine AW.aload_n (pc' := 61) d_M_goes_60 rfl rfl rfl ?_
  refine AW.dup (pc' := 62) d_M_goes_61 rfl rfl ?_
  refine AW.getf (pc' := 65) d_M_goes_62 rfl fl_M_69 rfl rfl ?_
  refine AW.top (u := .int (nI (0))) rfl ?_
  refine AW.iconst (pc' := 66) (v := nI 1) d_M_goes_65 rfl (by decide) ?_
  refine AW.iadd (pc' := 67) d_M_goes_66 rfl ?_
  refine AW.top (u := .int (nI 1)) (by decide) ?_
  refine AW.putf (pc' := 70) (w' := (wL z (k_thr_ (k_thr_ k (nI (0))) (nI (1))) o)) d_M_goes_67 rfl fp_M_69 rfl rfl (fun _ => ⟨rfl, rfl⟩) rfl rfl ?_
  refine AW.iconst (pc' := 71) (v := nI 2) d_M_goes_70 rfl (by decide) ?_
  refine AW.iload (pc' := 73) d_M_goes_71 rfl rfl ?_
  refine AW.imul (pc' := 74) d_M_goes_73 rfl ?_
  refine AW.top (u := .int (nI 2)) (by decide) ?_
  refine AW.istore (pc' := 76) (ls' := [some (.ref 20), some (.int (nI (13))), some (.int (nI (1))), some (.int (nI (1))), some (.int (nI (1))), some (.int (nI (0))), some (.int (nI (8))), some (.int (nI (2)))]) d_M_goes_74 rfl rfl rfl ?_
  refine AW.goto (tgt := 46) d_M_goes_76 (by decide) ?_
  refine AW.iload (pc' := 48) d_M_goes_46 rfl rfl ?_
  refine AW.iload (pc' := 50) d_M_goes_48 rfl rfl ?_
  refine AW.icmp_gtN (tgt := 79) (pc' := 53) d_M_goes_50 (by decide) rfl (by decide) (by decide) (fun h => absurd h (by decide)) (fun _ => ?_)
  refine AW.iload_n (pc' := 54) d_M_goes_53 rfl rfl rfl ?_
  refine AW.iload (pc' := 56) d_M_goes_54 rfl rfl ?_
  refine AW.iand (pc' := 57) d_M_goes_56 rfl ?_
  refine AW.top (u := .int (nI 0)) (by decide) ?_
  refine AW.if_le (tgt := 70) (pc' := 60) d_M_goes_57 (by decide) rfl (fun _ => ?_) (fun h => absurd (by decide) h)
  refine AW.iconst (pc' := 71) (v := nI 2) d_M_goes_70 rfl (by decide) ?_
  refine AW.iload (pc' := 73) d_M_goes_71 rfl rfl ?_
  refine AW.imul (pc' := 74) d_M_goes_73 rfl ?_
  refine AW.top (u := .int (nI 4)) (by decide) ?_
  refine AW.istore (pc' := 76) (ls' := [some (.ref 20), some (.int (nI (13))), some (.int (nI (1))), some (.int (nI (1))), some (.int (nI (1))), some (.int (nI (0))), some (.int (nI (8))), some (.int (nI (4)))]) d_M_goes_74 rfl rfl rfl ?_
  refine AW.goto (tgt := 46) d_M_goes_76 (by decide) ?_
  refine AW.iload (pc' := 48) d_M_goes_46 rfl rfl ?_
  refine AW.iload (pc' := 50) d_M_goes_48 rfl rfl ?_
  refine AW.icmp_gtN (tgt := 79) (pc' := 53) d_M_goes_50 (by decide) rfl (by decide) (by decide) (fun h => absurd h (by decide)) (fun _ => ?_)
  refine AW.iload_n (pc' := 54) d_M_goes_53 rfl rfl rfl ?_
  refine AW.iload (pc' := 56) d_M_goes_54 rfl rfl ?_
  refine AW.iand (pc' := 57) d_M_goes_56 rfl ?_
  refine AW.top (u := .int (nI 4)) (by decide) ?_
  refine AW.if_le (tgt := 70) (pc' := 60) d_M_goes_57 (by decide) rfl (fun h => absurd h (by decide)) (fun _ => ?_)
  refine AW.aload_n (pc' := 61) d_M_goes_60 rfl rfl rfl ?_
  refine AW.dup (pc' := 62) d_M_goes_61 rfl rfl ?_
  refine AW.getf (pc' := 65) d_M_goes_62 rfl fl_M_69 rfl rfl ?_
  refine AW.top (u := .int (nI (1))) rfl ?_
  refine AW.iconst (pc' := 66) (v := nI 1) d_M_goes_65 rfl (by decide) ?_
  refine AW.iadd (pc' := 67) d_M_goes_66 rfl ?_
  refine AW.top (u := .int (nI 2)) (by decide) ?_
  refine AW.putf (pc' := 70) (w' := (wL z (k_thr_ (k_thr_ (k_thr_ k (nI (0))) (nI (1))) (nI (2))) o)) d_M_goes_67 rfl fp_M_69 rfl rfl (fun _ => ⟨rfl, rfl⟩) rfl rfl ?_
  refine AW.iconst (pc' := 71) (v := nI 2) d_M_goes_70 rfl (by decide) ?_
  refine AW.iload (pc' := 73) d_M_goes_71 rfl rfl ?_
  refine AW.imul (pc' := 74) d_M_goes_73 rfl ?_
  refine AW.top (u := .int (nI 8)) (by decide) ?_
  refine AW.istore (pc' := 76) (ls' := [some (.ref 20), some (.int (nI (13))), some (.int (nI (1))), some (.int (nI (1))), some (.int (nI (1))), some (.int (nI (0))), some (.int (nI (8))), some (.int (nI (8)))]) d_M_goes_74 rfl rfl rfl ?_
  refine AW.goto (tgt := 46) d_M_goes_76 (by decide) ?_
  refine AW.iload (pc' := 48) d_M_goes_46 rfl rfl ?_
  refine AW.iload (pc' := 50) d_M_goes_48 rfl rfl ?_
  refine AW.icmp_gtN (tgt := 79) (pc' := 53) d_M_goes_50 (by decide) rfl (by decide) (by decide) (fun h => absurd h (by decide)) (fun _ => ?_)
  refine AW.iload_n (pc' := 54) d_M_goes_53 rfl rfl rfl ?_
  refine AW.iload (pc' := 56) d_M_goes_54 rfl rfl ?_
  refine AW.iand (pc' := 57) d_M_goes_56 rfl ?_
  refine AW.top (u := .int (nI 8)) (by decide) ?_
  refine AW.if_le (tgt := 70) (pc' := 60) d_M_goes_57 (by decide) rfl (fun h => absurd h (by decide)) (fun _ => ?_)
  refine AW.aload_n (pc' := 61) d_M_goes_60 rfl rfl rfl ?_
  refine AW.dup (pc' := 62) d_M_goes_61 rfl rfl ?_
  refine AW.getf (pc' := 65) d_M_goes_62 rfl fl_M_69 rfl rfl ?_
  refine AW.top (u := .int (nI (2))) rfl ?_
  refine AW.iconst (pc' := 66) (v := nI 1) d_M_goes_65 rfl (by decide) ?_
  refine AW.iadd (pc' := 67) d_M_goes_66 rfl ?_
  refine AW.top (u := .int (nI 3)) (by decide) ?_
  refine AW.putf (pc' := 70) (w' := (wL z (k_thr_ (k_thr_ (k_thr_ (k_thr_ k (nI (0))) (nI (1))) (nI (2))) (nI (3))) o)) d_M_goes_67 rfl fp_M_69 rfl rfl (fun _ => ⟨rfl, rfl⟩) rfl rfl ?_
  refine AW.iconst (pc' := 71) (v := nI 2) d_M_goes_70 rfl (by decide) ?_
  refine AW.iload (pc' := 73) d_M_goes_71 rfl rfl ?_
  refine AW.imul (pc' := 74) d_M_goes_73 rfl ?_
  refine AW.top (u := .int (nI 16)) (by decide) ?_
  refine AW.istore (pc' := 76) (ls' := [some (.ref 20), some (.int (nI (13))), some (.int (nI (1))), some (.int (nI (1))), some (.int (nI (1))), some (.int (nI (0))), some (.int (nI (8))), some (.int (nI (16)))]) d_M_goes_74 rfl rfl rfl ?_
  refine AW.goto (tgt := 46) d_M_goes_76 (by decide) ?_
  refine AW.iload (pc' := 48) d_M_goes_46 rfl rfl ?_
  refine AW.iload (pc' := 50) d_M_goes_48 rfl rfl ?_
  refine AW.icmp_gtN (tgt := 79) (pc' := 53) d_M_goes_50 (by decide) rfl (by decide) (by decide) (fun _ => ?_) (fun h => absurd h (by decide))
  refine AW.iload (pc' := 81) d_M_goes_79 rfl rfl ?_
  refine AW.if_ne (tgt := 88) (pc' := 84) d_M_goes_81 (by decide) rfl (fun _ => ?_) (fun h => absurd h (by decide))
  refine AW.iconst (pc' := 89) (v := nI 0) d_M_goes_88 rfl (by decide) ?_
  exact AW.zret d_M_goes_89 rfl (by decide) rfl rfl ⟨rfl, rfl⟩
theorem k_goes_15_0 (X : ct_X) (z : S_c) (k : S_m) (o : Nat → Int64)  : AF X m_M_goes 0 0 0 [.ref 20, .int (nI (15)), .int (nI (1)), .int (nI (1)), .int (nI (1)), .int (nI (1))] (wL z k o) (.inl (some (.int (nI 1)))) (wL z (k_thr_ k (nI 0)) o) := by
  refine AM.of rfl (Nat.le_of_ble_eq_true rfl) (ls := [some (.ref 20), some (.int (nI (15))), some (.int (nI (1))), some (.int (nI (1))), some (.int (nI (1))), some (.int (nI (1))), none, none]) rfl ?_
  refine AW.iload_n (pc' := 1) d_M_goes_0 rfl rfl rfl ?_
  refine AW.if_ne (tgt := 8) (pc' := 4) d_M_goes_1 (by decide) rfl (fun _ => ?_) (fun h => absurd h (by decide))
  refine AW.iload_n (pc' := 9) d_M_goes_8 rfl rfl rfl ?_
  refine AW.if_ne (tgt := 16) (pc' := 12) d_M_goes_9 (by decide) rfl (fun _ => ?_) (fun h => absurd h (by decide))
  refine AW.iload (pc' := 18) d_M_goes_16 rfl rfl ?_
  refine AW.if_ne (tgt := 25) (pc' := 21) d_M_goes_18 (by decide) rfl (fun _ => ?_) (fun h => absurd h (by decide))
  refine AW.iload (pc' := 27) d_M_goes_25 rfl rfl ?_
  refine AW.if_ne (tgt := 35) (pc' := 30) d_M_goes_27 (by decide) rfl (fun _ => ?_) (fun h => absurd h (by decide))
  refine AW.iconst (pc' := 36) (v := nI 0) d_M_goes_35 rfl (by decide) ?_
  refine AW.istore (pc' := 38) (ls' := [some (.ref 20), some (.int (nI (15))), some (.int (nI (1))), some (.int (nI (1))), some (.int (nI (1))), some (.int (nI (1))), some (.int (nI (0))), none]) d_M_goes_36 rfl rfl rfl ?_
  refine AW.aload_n (pc' := 39) d_M_goes_38 rfl rfl rfl ?_
  refine AW.iconst (pc' := 40) (v := nI 0) d_M_goes_39 rfl (by decide) ?_
  refine AW.putf (pc' := 43) (w' := (wL z (k_thr_ k (nI (0))) o)) d_M_goes_40 rfl fp_M_69 rfl rfl (fun _ => ⟨rfl, rfl⟩) rfl rfl ?_
  refine AW.iconst (pc' := 44) (v := nI 1) d_M_goes_43 rfl (by decide) ?_
  refine AW.istore (pc' := 46) (ls' := [some (.ref 20), some (.int (nI (15))), some (.int (nI (1))), some (.int (nI (1))), some (.int (nI (1))), some (.int (nI (1))), some (.int (nI (0))), some (.int (nI (1)))]) d_M_goes_44 rfl rfl rfl ?_
  refine AW.iload (pc' := 48) d_M_goes_46 rfl rfl ?_
  refine AW.iload (pc' := 50) d_M_goes_48 rfl rfl ?_
  refine AW.icmp_gtN (tgt := 79) (pc' := 53) d_M_goes_50 (by decide) rfl (by decide) (by decide) (fun _ => ?_) (fun h => absurd h (by decide))
  refine AW.iload (pc' := 81) d_M_goes_79 rfl rfl ?_
  refine AW.if_ne (tgt := 88) (pc' := 84) d_M_goes_81 (by decide) rfl (fun h => absurd h (by decide)) (fun _ => ?_)
  refine AW.iconst (pc' := 85) (v := nI 1) d_M_goes_84 rfl (by decide) ?_
  refine AW.goto (tgt := 89) d_M_goes_85 (by decide) ?_
  exact AW.zret d_M_goes_89 rfl (by decide) rfl rfl ⟨rfl, rfl⟩
theorem k_goes_15_1 (X : ct_X) (z : S_c) (k : S_m) (o : Nat → Int64) (a2 a4 a8 : Int32) : AF X m_M_goes 0 0 0 [.ref 20, .int (nI (15)), .int (nI (0)), .int (a2), .int (a4), .int (a8)] (wL z k o) (.inl (some (.int (nI 0)))) (wL z (k_thr_ k (nI 1)) o) := by
  refine AM.of rfl (Nat.le_of_ble_eq_true rfl) (ls := [some (.ref 20), some (.int (nI (15))), some (.int (nI (0))), some (.int (a2)), some (.int (a4)), some (.int (a8)), none, none]) rfl ?_
  refine AW.iload_n (pc' := 1) d_M_goes_0 rfl rfl rfl ?_
  refine AW.if_ne (tgt := 8) (pc' := 4) d_M_goes_1 (by decide) rfl (fun h => absurd h (by decide)) (fun _ => ?_)
  refine AW.iconst (pc' := 5) (v := nI 1) d_M_goes_4 rfl (by decide) ?_
  refine AW.goto (tgt := 36) d_M_goes_5 (by decide) ?_
  refine AW.istore (pc' := 38) (ls' := [some (.ref 20), some (.int (nI (15))), some (.int (nI (0))), some (.int (a2)), some (.int (a4)), some (.int (a8)), some (.int (nI (1))), none]) d_M_goes_36 rfl rfl rfl ?_
  refine AW.aload_n (pc' := 39) d_M_goes_38 rfl rfl rfl ?_
  refine AW.iconst (pc' := 40) (v := nI 0) d_M_goes_39 rfl (by decide) ?_
  refine AW.putf (pc' := 43) (w' := (wL z (k_thr_ k (nI (0))) o)) d_M_goes_40 rfl fp_M_69 rfl rfl (fun _ => ⟨rfl, rfl⟩) rfl rfl ?_
  refine AW.iconst (pc' := 44) (v := nI 1) d_M_goes_43 rfl (by decide) ?_
  refine AW.istore (pc' := 46) (ls' := [some (.ref 20), some (.int (nI (15))), some (.int (nI (0))), some (.int (a2)), some (.int (a4)), some (.int (a8)), some (.int (nI (1))), some (.int (nI (1)))]) d_M_goes_44 rfl rfl rfl ?_
  refine AW.iload (pc' := 48) d_M_goes_46 rfl rfl ?_
  refine AW.iload (pc' := 50) d_M_goes_48 rfl rfl ?_
  refine AW.icmp_gtN (tgt := 79) (pc' := 53) d_M_goes_50 (by decide) rfl (by decide) (by decide) (fun h => absurd h (by decide)) (fun _ => ?_)
  refine AW.iload_n (pc' := 54) d_M_goes_53 rfl rfl rfl ?_
  refine AW.iload (pc' := 56) d_M_goes_54 rfl rfl ?_
  refine AW.iand (pc' := 57) d_M_goes_56 rfl ?_
  refine AW.top (u := .int (nI 1)) (by decide) ?_
  refine AW.if_le (tgt := 70) (pc' := 60) d_M_goes_57 (by decide) rfl (fun h => absurd h (by decide)) (fun _ => ?_)
  refine AW.aload_n (pc' := 61) d_M_goes_60 rfl rfl rfl ?_
  refine AW.dup (pc' := 62) d_M_goes_61 rfl rfl ?_
  refine AW.getf (pc' := 65) d_M_goes_62 rfl fl_M_69 rfl rfl ?_
  refine AW.top (u := .int (nI (0))) rfl ?_
  refine AW.iconst (pc' := 66) (v := nI 1) d_M_goes_65 rfl (by decide) ?_
  refine AW.iadd (pc' := 67) d_M_goes_66 rfl ?_
  refine AW.top (u := .int (nI 1)) (by decide) ?_
  refine AW.putf (pc' := 70) (w' := (wL z (k_thr_ (k_thr_ k (nI (0))) (nI (1))) o)) d_M_goes_67 rfl fp_M_69 rfl rfl (fun _ => ⟨rfl, rfl⟩) rfl rfl ?_
  refine AW.iconst (pc' := 71) (v := nI 2) d_M_goes_70 rfl (by decide) ?_
  refine AW.iload (pc' := 73) d_M_goes_71 rfl rfl ?_
  refine AW.imul (pc' := 74) d_M_goes_73 rfl ?_
  refine AW.top (u := .int (nI 2)) (by decide) ?_
  refine AW.istore (pc' := 76) (ls' := [some (.ref 20), some (.int (nI (15))), some (.int (nI (0))), some (.int (a2)), some (.int (a4)), some (.int (a8)), some (.int (nI (1))), some (.int (nI (2)))]) d_M_goes_74 rfl rfl rfl ?_
  refine AW.goto (tgt := 46) d_M_goes_76 (by decide) ?_
  refine AW.iload (pc' := 48) d_M_goes_46 rfl rfl ?_
  refine AW.iload (pc' := 50) d_M_goes_48 rfl rfl ?_
  refine AW.icmp_gtN (tgt := 79) (pc' := 53) d_M_goes_50 (by decide) rfl (by decide) (by decide) (fun _ => ?_) (fun h => absurd h (by decide))
  refine AW.iload (pc' := 81) d_M_goes_79 rfl rfl ?_
  refine AW.if_ne (tgt := 88) (pc' := 84) d_M_goes_81 (by decide) rfl (fun _ => ?_) (fun h => absurd h (by decide))
  refine AW.iconst (pc' := 89) (v := nI 0) d_M_goes_88 rfl (by decide) ?_
  exact AW.zret d_M_goes_89 rfl (by decide) rfl rfl ⟨rfl, rfl⟩
theorem k_goes_15_2 (X : ct_X) (z : S_c) (k : S_m) (o : Nat → Int64) (a4 a8 : Int32) : AF X m_M_goes 0 0 0 [.ref 20, .int (nI (15)), .int (nI (1)), .int (nI (0)), .int (a4), .int (a8)] (wL z k o) (.inl (some (.int (nI 0)))) (wL z (k_thr_ k (nI 2)) o) := by
  refine AM.of rfl (Nat.le_of_ble_eq_true rfl) (ls := [some (.ref 20), some (.int (nI (15))), some (.int (nI (1))), some (.int (nI (0))), some (.int (a4)), some (.int (a8)), none, none]) rfl ?_
  refine AW.iload_n (pc' := 1) d_M_goes_0 rfl rfl rfl ?_
  refine AW.if_ne (tgt := 8) (pc' := 4) d_M_goes_1 (by decide) rfl (fun _ => ?_) (fun h => absurd h (by decide))
  refine AW.iload_n (pc' := 9) d_M_goes_8 rfl rfl rfl ?_
  refine AW.if_ne (tgt := 16) (pc' := 12) d_M_goes_9 (by decide) rfl (fun h => absurd h (by decide)) (fun _ => ?_)
  refine AW.iconst (pc' := 13) (v := nI 2) d_M_goes_12 rfl (by decide) ?_
  refine AW.goto (tgt := 36) d_M_goes_13 (by decide) ?_
  refine AW.istore (pc' := 38) (ls' := [some (.ref 20), some (.int (nI (15))), some (.int (nI (1))), some (.int (nI (0))), some (.int (a4)), some (.int (a8)), some (.int (nI (2))), none]) d_M_goes_36 rfl rfl rfl ?_
  refine AW.aload_n (pc' := 39) d_M_goes_38 rfl rfl rfl ?_
  refine AW.iconst (pc' := 40) (v := nI 0) d_M_goes_39 rfl (by decide) ?_
  refine AW.putf (pc' := 43) (w' := (wL z (k_thr_ k (nI (0))) o)) d_M_goes_40 rfl fp_M_69 rfl rfl (fun _ => ⟨rfl, rfl⟩) rfl rfl ?_
  refine AW.iconst (pc' := 44) (v := nI 1) d_M_goes_43 rfl (by decide) ?_
  refine AW.istore (pc' := 46) (ls' := [some (.ref 20), some (.int (nI (15))), some (.int (nI (1))), some (.int (nI (0))), some (.int (a4)), some (.int (a8)), some (.int (nI (2))), some (.int (nI (1)))]) d_M_goes_44 rfl rfl rfl ?_
  refine AW.iload (pc' := 48) d_M_goes_46 rfl rfl ?_
  refine AW.iload (pc' := 50) d_M_goes_48 rfl rfl ?_
  refine AW.icmp_gtN (tgt := 79) (pc' := 53) d_M_goes_50 (by decide) rfl (by decide) (by decide) (fun h => absurd h (by decide)) (fun _ => ?_)
  refine AW.iload_n (pc' := 54) d_M_goes_53 rfl rfl rfl ?_
  refine AW.iload (pc' := 56) d_M_goes_54 rfl rfl ?_
  refine AW.iand (pc' := 57) d_M_goes_56 rfl ?_
  refine AW.top (u := .int (nI 1)) (by decide) ?_
  refine AW.if_le (tgt := 70) (pc' := 60) d_M_goes_57 (by decide) rfl (fun h => absurd h (by decide)) (fun _ => ?_)
  refine AW.aload_n (pc' := 61) d_M_goes_60 rfl rfl rfl ?_
  refine AW.dup (pc' := 62) d_M_goes_61 rfl rfl ?_
  refine AW.getf (pc' := 65) d_M_goes_62 rfl fl_M_69 rfl rfl ?_
  refine AW.top (u := .int (nI (0))) rfl ?_
  refine AW.iconst (pc' := 66) (v := nI 1) d_M_goes_65 rfl (by decide) ?_
  refine AW.iadd (pc' := 67) d_M_goes_66 rfl ?_
  refine AW.top (u := .int (nI 1)) (by decide) ?_
  refine AW.putf (pc' := 70) (w' := (wL z (k_thr_ (k_thr_ k (nI (0))) (nI (1))) o)) d_M_goes_67 rfl fp_M_69 rfl rfl (fun _ => ⟨rfl, rfl⟩) rfl rfl ?_
  refine AW.iconst (pc' := 71) (v := nI 2) d_M_goes_70 rfl (by decide) ?_
  refine AW.iload (pc' := 73) d_M_goes_71 rfl rfl ?_
  refine AW.imul (pc' := 74) d_M_goes_73 rfl ?_
  refine AW.top (u := .int (nI 2)) (by decide) ?_
  refine AW.istore (pc' := 76) (ls' := [some (.ref 20), some (.int (nI (15))), some (.int (nI (1))), some (.int (nI (0))), some (.int (a4)), some (.int (a8)), some (.int (nI (2))), some (.int (nI (2)))]) d_M_goes_74 rfl rfl rfl ?_
  refine AW.goto (tgt := 46) d_M_goes_76 (by decide) ?_
  refine AW.iload (pc' := 48) d_M_goes_46 rfl rfl ?_
  refine AW.iload (pc' := 50) d_M_goes_48 rfl rfl ?_
  refine AW.icmp_gtN (tgt := 79) (pc' := 53) d_M_goes_50 (by decide) rfl (by decide) (by decide) (fun h => absurd h (by decide)) (fun _ => ?_)
  refine AW.iload_n (pc' := 54) d_M_goes_53 rfl rfl rfl ?_
  refine AW.iload (pc' := 56) d_M_goes_54 rfl rfl ?_
  refine AW.iand (pc' := 57) d_M_goes_56 rfl ?_
  refine AW.top (u := .int (nI 2)) (by decide) ?_
  refine AW.if_le (tgt := 70) (pc' := 60) d_M_goes_57 (by decide) rfl (fun h => absurd h (by decide)) (fun _ => ?_)
  refine AW.aload_n (pc' := 61) d_M_goes_60 rfl rfl rfl ?_
  refine AW.dup (pc' := 62) d_M_goes_61 rfl rfl ?_
  refine AW.getf (pc' := 65) d_M_goes_62 rfl fl_M_69 rfl rfl ?_
  refine AW.top (u := .int (nI (1))) rfl ?_
  refine AW.iconst (pc' := 66) (v := nI 1) d_M_goes_65 rfl (by decide) ?_
  refine AW.iadd (pc' := 67) d_M_goes_66 rfl ?_
  refine AW.top (u := .int (nI 2)) (by decide) ?_
  refine AW.putf (pc' := 70) (w' := (wL z (k_thr_ (k_thr_ (k_thr_ k (nI (0))) (nI (1))) (nI (2))) o)) d_M_goes_67 rfl fp_M_69 rfl rfl (fun _ => ⟨rfl, rfl⟩) rfl rfl ?_
  refine AW.iconst (pc' := 71) (v := nI 2) d_M_goes_70 rfl (by decide) ?_
  refine AW.iload (pc' := 73) d_M_goes_71 rfl rfl ?_
  refine AW.imul (pc' := 74) d_M_goes_73 rfl ?_
  refine AW.top (u := .int (nI 4)) (by decide) ?_
  refine AW.istore (pc' := 76) (ls' := [some (.ref 20), some (.int (nI (15))), some (.int (nI (1))), some (.int (nI (0))), some (.int (a4)), some (.int (a8)), some (.int (nI (2))), some (.int (nI (4)))]) d_M_goes_74 rfl rfl rfl ?_
  refine AW.goto (tgt := 46) d_M_goes_76 (by decide) ?_
  refine AW.iload (pc' := 48) d_M_goes_46 rfl rfl ?_
  refine AW.iload (pc' := 50) d_M_goes_48 rfl rfl ?_
  refine AW.icmp_gtN (tgt := 79) (pc' := 53) d_M_goes_50 (by decide) rfl (by decide) (by decide) (fun _ => ?_) (fun h => absurd h (by decide))
  refine AW.iload (pc' := 81) d_M_goes_79 rfl rfl ?_
  refine AW.if_ne (tgt := 88) (pc' := 84) d_M_goes_81 (by decide) rfl (fun _ => ?_) (fun h => absurd h (by decide))
  refine AW.iconst (pc' := 89) (v := nI 0) d_M_goes_88 rfl (by decide) ?_
  exact AW.zret d_M_goes_89 rfl (by decide) rfl rfl ⟨rfl, rfl⟩
theorem k_goes_15_4 (X : ct_X) (z : S_c) (k : S_m) (o : Nat → Int64) (a8 : Int32) : AF X m_M_goes 0 0 0 [.ref 20, .int (nI (15)), .int (nI (1)), .int (nI (1)), .int (nI (0)), .int (a8)] (wL z k o) (.inl (some (.int (nI 0)))) (wL z (k_thr_ k (nI 3)) o) := by
  refine AM.of rfl (Nat.le_of_ble_eq_true rfl) (ls := [some (.ref 20), some (.int (nI (15))), some (.int (nI (1))), some (.int (nI (1))), some (.int (nI (0))), some (.int (a8)), none, none]) rfl ?_
  refine AW.iload_n (pc' := 1) d_M_goes_0 rfl rfl rfl ?_
  refine AW.if_ne (tgt := 8) (pc' := 4) d_M_goes_1 (by decide) rfl (fun _ => ?_) (fun h => absurd h (by decide))
  refine AW.iload_n (pc' := 9) d_M_goes_8 rfl rfl rfl ?_
  refine AW.if_ne (tgt := 16) (pc' := 12) d_M_goes_9 (by decide) rfl (fun _ => ?_) (fun h => absurd h (by decide))
  refine AW.iload (pc' := 18) d_M_goes_16 rfl rfl ?_
  refine AW.if_ne (tgt := 25) (pc' := 21) d_M_goes_18 (by decide) rfl (fun h => absurd h (by decide)) (fun _ => ?_)
  refine AW.iconst (pc' := 22) (v := nI 4) d_M_goes_21 rfl (by decide) ?_
  refine AW.goto (tgt := 36) d_M_goes_22 (by decide) ?_
  refine AW.istore (pc' := 38) (ls' := [some (.ref 20), some (.int (nI (15))), some (.int (nI (1))), some (.int (nI (1))), some (.int (nI (0))), some (.int (a8)), some (.int (nI (4))), none]) d_M_goes_36 rfl rfl rfl ?_
  refine AW.aload_n (pc' := 39) d_M_goes_38 rfl rfl rfl ?_
  refine AW.iconst (pc' := 40) (v := nI 0) d_M_goes_39 rfl (by decide) ?_
  refine AW.putf (pc' := 43) (w' := (wL z (k_thr_ k (nI (0))) o)) d_M_goes_40 rfl fp_M_69 rfl rfl (fun _ => ⟨rfl, rfl⟩) rfl rfl ?_
  refine AW.iconst (pc' := 44) (v := nI 1) d_M_goes_43 rfl (by decide) ?_
  refine AW.istore (pc' := 46) (ls' := [some (.ref 20), some (.int (nI (15))), some (.int (nI (1))), some (.int (nI (1))), some (.int (nI (0))), some (.int (a8)), some (.int (nI (4))), some (.int (nI (1)))]) d_M_goes_44 rfl rfl rfl ?_
  refine AW.iload (pc' := 48) d_M_goes_46 rfl rfl ?_
  refine AW.iload (pc' := 50) d_M_goes_48 rfl rfl ?_
  refine AW.icmp_gtN (tgt := 79) (pc' := 53) d_M_goes_50 (by decide) rfl (by decide) (by decide) (fun h => absurd h (by decide)) (fun _ => ?_)
  refine AW.iload_n (pc' := 54) d_M_goes_53 rfl rfl rfl ?_
  refine AW.iload (pc' := 56) d_M_goes_54 rfl rfl ?_
  refine AW.iand (pc' := 57) d_M_goes_56 rfl ?_
  refine AW.top (u := .int (nI 1)) (by decide) ?_
  refine AW.if_le (tgt := 70) (pc' := 60) d_M_goes_57 (by decide) rfl (fun h => absurd h (by decide)) (fun _ => ?_)
  refine AW.aload_n (pc' := 61) d_M_goes_60 rfl rfl rfl ?_
  refine AW.dup (pc' := 62) d_M_goes_61 rfl rfl ?_
  refine AW.getf (pc' := 65) d_M_goes_62 rfl fl_M_69 rfl rfl ?_
  refine AW.top (u := .int (nI (0))) rfl ?_
  refine AW.iconst (pc' := 66) (v := nI 1) d_M_goes_65 rfl (by decide) ?_
  refine AW.iadd (pc' := 67) d_M_goes_66 rfl ?_
  refine AW.top (u := .int (nI 1)) (by decide) ?_
  refine AW.putf (pc' := 70) (w' := (wL z (k_thr_ (k_thr_ k (nI (0))) (nI (1))) o)) d_M_goes_67 rfl fp_M_69 rfl rfl (fun _ => ⟨rfl, rfl⟩) rfl rfl ?_
  refine AW.iconst (pc' := 71) (v := nI 2) d_M_goes_70 rfl (by decide) ?_
  refine AW.iload (pc' := 73) d_M_goes_71 rfl rfl ?_
  refine AW.imul (pc' := 74) d_M_goes_73 rfl ?_
  refine AW.top (u := .int (nI 2)) (by decide) ?_
  refine AW.istore (pc' := 76) (ls' := [some (.ref 20), some (.int (nI (15))), some (.int (nI (1))), some (.int (nI (1))), some (.int (nI (0))), some (.int (a8)), some (.int (nI (4))), some (.int (nI (2)))]) d_M_goes_74 rfl rfl rfl ?_
  refine AW.goto (tgt := 46) d_M_goes_76 (by decide) ?_
  refine AW.iload (pc' := 48) d_M_goes_46 rfl rfl ?_
  refine AW.iload (pc' := 50) d_M_goes_48 rfl rfl ?_
  refine AW.icmp_gtN (tgt := 79) (pc' := 53) d_M_goes_50 (by decide) rfl (by decide) (by decide) (fun h => absurd h (by decide)) (fun _ => ?_)
  refine AW.iload_n (pc' := 54) d_M_goes_53 rfl rfl rfl ?_
  refine AW.iload (pc' := 56) d_M_goes_54 rfl rfl ?_
  refine AW.iand (pc' := 57) d_M_goes_56 rfl ?_
  refine AW.top (u := .int (nI 2)) (by decide) ?_
  refine AW.if_le (tgt := 70) (pc' := 60) d_M_goes_57 (by decide) rfl (fun h => absurd h (by decide)) (fun _ => ?_)
  refine AW.aload_n (pc' := 61) d_M_goes_60 rfl rfl rfl ?_
  refine AW.dup (pc' := 62) d_M_goes_61 rfl rfl ?_
  refine AW.getf (pc' := 65) d_M_goes_62 rfl fl_M_69 rfl rfl ?_
  refine AW.top (u := .int (nI (1))) rfl ?_
  refine AW.iconst (pc' := 66) (v := nI 1) d_M_goes_65 rfl (by decide) ?_
  refine AW.iadd (pc' := 67) d_M_goes_66 rfl ?_
  refine AW.top (u := .int (nI 2)) (by decide) ?_
  refine AW.putf (pc' := 70) (w' := (wL z (k_thr_ (k_thr_ (k_thr_ k (nI (0))) (nI (1))) (nI (2))) o)) d_M_goes_67 rfl fp_M_69 rfl rfl (fun _ => ⟨rfl, rfl⟩) rfl rfl ?_
  refine AW.iconst (pc' := 71) (v := nI 2) d_M_goes_70 rfl (by decide) ?_
  refine AW.iload (pc' := 73) d_M_goes_71 rfl rfl ?_
  refine AW.imul (pc' := 74) d_M_goes_73 rfl ?_
  refine AW.top (u := .int (nI 4)) (by decide) ?_
  refine AW.istore (pc' := 76) (ls' := [some (.ref 20), some (.int (nI (15))), some (.int (nI (1))), some (.int (nI (1))), some (.int (nI (0))), some (.int (a8)), some (.int (nI (4))), some (.int (nI (4)))]) d_M_goes_74 rfl rfl rfl ?_
  refine AW.goto (tgt := 46) d_M_goes_76 (by decide) ?_
  refine AW.iload (pc' := 48) d_M_goes_46 rfl rfl ?_
  refine AW.iload (pc' := 50) d_M_goes_48 rfl rfl ?_
  refine AW.icmp_gtN (tgt := 79) (pc' := 53) d_M_goes_50 (by decide) rfl (by decide) (by decide) (fun h => absurd h (by decide)) (fun _ => ?_)
  refine AW.iload_n (pc' := 54) d_M_goes_53 rfl rfl rfl ?_
  refine AW.iload (pc' := 56) d_M_goes_54 rfl rfl ?_
  refine AW.iand (pc' := 57) d_M_goes_56 rfl ?_
  refine AW.top (u := .int (nI 4)) (by decide) ?_
  refine AW.if_le (tgt := 70) (pc' := 60) d_M_goes_57 (by decide) rfl (fun h => absurd h (by decide)) (fun _ => ?_)
  refine AW.aload_n (pc' := 61) d_M_goes_60 rfl rfl rfl ?_
  refine AW.dup (pc' := 62) d_M_goes_61 rfl rfl ?_
  refine AW.getf (pc' := 65) d_M_goes_62 rfl fl_M_69 rfl rfl ?_
  refine AW.top (u := .int (nI (2))) rfl ?_
  refine AW.iconst (pc' := 66) (v := nI 1) d_M_goes_65 rfl (by decide) ?_
  refine AW.iadd (pc' := 67) d_M_goes_66 rfl ?_
  refine AW.top (u := .int (nI 3)) (by decide) ?_
  refine AW.putf (pc' := 70) (w' := (wL z (k_thr_ (k_thr_ (k_thr_ (k_thr_ k (nI (0))) (nI (1))) (nI (2))) (nI (3))) o)) d_M_goes_67 rfl fp_M_69 rfl rfl (fun _ => ⟨rfl, rfl⟩) rfl rfl ?_
  refine AW.iconst (pc' := 71) (v := nI 2) d_M_goes_70 rfl (by decide) ?_
  refine AW.iload (pc' := 73) d_M_goes_71 rfl rfl ?_
  refine AW.imul (pc' := 74) d_M_goes_73 rfl ?_
  refine AW.top (u := .int (nI 8)) (by decide) ?_
  refine AW.istore (pc' := 76) (ls' := [some (.ref 20), some (.int (nI (15))), some (.int (nI (1))), some (.int (nI (1))), some (.int (nI (0))), some (.int (a8)), some (.int (nI (4))), some (.int (nI (8)))]) d_M_goes_74 rfl rfl rfl ?_
  refine AW.goto (tgt := 46) d_M_goes_76 (by decide) ?_
  refine AW.iload (pc' := 48) d_M_goes_46 rfl rfl ?_
  refine AW.iload (pc' := 50) d_M_goes_48 rfl rfl ?_
  refine AW.icmp_gtN (tgt := 79) (pc' := 53) d_M_goes_50 (by decide) rfl (by decide) (by decide) (fun _ => ?_) (fun h => absurd h (by decide))
  refine AW.iload (pc' := 81) d_M_goes_79 rfl rfl ?_
  refine AW.if_ne (tgt := 88) (pc' := 84) d_M_goes_81 (by decide) rfl (fun _ => ?_) (fun h => absurd h (by decide))
  refine AW.iconst (pc' := 89) (v := nI 0) d_M_goes_88 rfl (by decide) ?_
  exact AW.zret d_M_goes_89 rfl (by decide) rfl rfl ⟨rfl, rfl⟩
theorem k_goes_15_8 (X : ct_X) (z : S_c) (k : S_m) (o : Nat → Int64)  : AF X m_M_goes 0 0 0 [.ref 20, .int (nI (15)), .int (nI (1)), .int (nI (1)), .int (nI (1)), .int (nI (0))] (wL z k o) (.inl (some (.int (nI 0)))) (wL z (k_thr_ k (nI 4)) o) := by
  refine AM.of rfl (Nat.le_of_ble_eq_true rfl) (ls := [some (.ref 20), some (.int (nI (15))), some (.int (nI (1))), some (.int (nI (1))), some (.int (nI (1))), some (.int (nI (0))), none, none]) rfl ?_
  refine AW.iload_n (pc' := 1) d_M_goes_0 rfl rfl rfl ?_
  refine AW.if_ne (tgt := 8) (pc' := 4) d_M_goes_1 (by decide) rfl (fun _ => ?_) (fun h => absurd h (by decide))
  refine AW.iload_n (pc' := 9) d_M_goes_8 rfl rfl rfl ?_
  refine AW.if_ne (tgt := 16) (pc' := 12) d_M_goes_9 (by decide) rfl (fun _ => ?_) (fun h => absurd h (by decide))
  refine AW.iload (pc' := 18) d_M_goes_16 rfl rfl ?_
  refine AW.if_ne (tgt := 25) (pc' := 21) d_M_goes_18 (by decide) rfl (fun _ => ?_) (fun h => absurd h (by decide))
  refine AW.iload (pc' := 27) d_M_goes_25 rfl rfl ?_
  refine AW.if_ne (tgt := 35) (pc' := 30) d_M_goes_27 (by decide) rfl (fun h => absurd h (by decide)) (fun _ => ?_)
  refine AW.bipush (pc' := 32) (v := nI 8) d_M_goes_30 rfl (by decide) ?_
  refine AW.goto (tgt := 36) d_M_goes_32 (by decide) ?_
  refine AW.istore (pc' := 38) (ls' := [some (.ref 20), some (.int (nI (15))), some (.int (nI (1))), some (.int (nI (1))), some (.int (nI (1))), some (.int (nI (0))), some (.int (nI (8))), none]) d_M_goes_36 rfl rfl rfl ?_
  refine AW.aload_n (pc' := 39) d_M_goes_38 rfl rfl rfl ?_
  refine AW.iconst (pc' := 40) (v := nI 0) d_M_goes_39 rfl (by decide) ?_
  refine AW.putf (pc' := 43) (w' := (wL z (k_thr_ k (nI (0))) o)) d_M_goes_40 rfl fp_M_69 rfl rfl (fun _ => ⟨rfl, rfl⟩) rfl rfl ?_
  refine AW.iconst (pc' := 44) (v := nI 1) d_M_goes_43 rfl (by decide) ?_
  refine AW.istore (pc' := 46) (ls' := [some (.ref 20), some (.int (nI (15))), some (.int (nI (1))), some (.int (nI (1))), some (.int (nI (1))), some (.int (nI (0))), some (.int (nI (8))), some (.int (nI (1)))]) d_M_goes_44 rfl rfl rfl ?_
  refine AW.iload (pc' := 48) d_M_goes_46 rfl rfl ?_
  refine AW.iload (pc' := 50) d_M_goes_48 rfl rfl ?_
  refine AW.icmp_gtN (tgt := 79) (pc' := 53) d_M_goes_50 (by decide) rfl (by decide) (by decide) (fun h => absurd h (by decide)) (fun _ => ?_)
  refine AW.iload_n (pc' := 54) d_M_goes_53 rfl rfl rfl ?_
  refine AW.iload (pc' := 56) d_M_goes_54 rfl rfl ?_
  refine AW.iand (pc' := 57) d_M_goes_56 rfl ?_
  refine AW.top (u := .int (nI 1)) (by decide) ?_
  refine AW.if_le (tgt := 70) (pc' := 60) d_M_goes_57 (by decide) rfl (fun h => absurd h (by decide)) (fun _ => ?_)
  refine AW.aload_n (pc' := 61) d_M_goes_60 rfl rfl rfl ?_
  refine AW.dup (pc' := 62) d_M_goes_61 rfl rfl ?_
  refine AW.getf (pc' := 65) d_M_goes_62 rfl fl_M_69 rfl rfl ?_
  refine AW.top (u := .int (nI (0))) rfl ?_
  refine AW.iconst (pc' := 66) (v := nI 1) d_M_goes_65 rfl (by decide) ?_
  refine AW.iadd (pc' := 67) d_M_goes_66 rfl ?_
  refine AW.top (u := .int (nI 1)) (by decide) ?_
  refine AW.putf (pc' := 70) (w' := (wL z (k_thr_ (k_thr_ k (nI (0))) (nI (1))) o)) d_M_goes_67 rfl fp_M_69 rfl rfl (fun _ => ⟨rfl, rfl⟩) rfl rfl ?_
  refine AW.iconst (pc' := 71) (v := nI 2) d_M_goes_70 rfl (by decide) ?_
  refine AW.iload (pc' := 73) d_M_goes_71 rfl rfl ?_
  refine AW.imul (pc' := 74) d_M_goes_73 rfl ?_
  refine AW.top (u := .int (nI 2)) (by decide) ?_
  refine AW.istore (pc' := 76) (ls' := [some (.ref 20), some (.int (nI (15))), some (.int (nI (1))), some (.int (nI (1))), some (.int (nI (1))), some (.int (nI (0))), some (.int (nI (8))), some (.int (nI (2)))]) d_M_goes_74 rfl rfl rfl ?_
  refine AW.goto (tgt := 46) d_M_goes_76 (by decide) ?_
  refine AW.iload (pc' := 48) d_M_goes_46 rfl rfl ?_
  refine AW.iload (pc' := 50) d_M_goes_48 rfl rfl ?_
  refine AW.icmp_gtN (tgt := 79) (pc' := 53) d_M_goes_50 (by decide) rfl (by decide) (by decide) (fun h => absurd h (by decide)) (fun _ => ?_)
  refine AW.iload_n (pc' := 54) d_M_goes_53 rfl rfl rfl ?_
  refine AW.iload (pc' := 56) d_M_goes_54 rfl rfl ?_
  refine AW.iand (pc' := 57) d_M_goes_56 rfl ?_
  refine AW.top (u := .int (nI 2)) (by decide) ?_
  refine AW.if_le (tgt := 70) (pc' := 60) d_M_goes_57 (by decide) rfl (fun h => absurd h (by decide)) (fun _ => ?_)
  refine AW.aload_n (pc' := 61) d_M_goes_60 rfl rfl rfl ?_
  refine AW.dup (pc' := 62) d_M_goes_61 rfl rfl ?_
  refine AW.getf (pc' := 65) d_M_goes_62 rfl fl_M_69 rfl rfl ?_
  refine AW.top (u := .int (nI (1))) rfl ?_
  refine AW.iconst (pc' := 66) (v := nI 1) d_M_goes_65 rfl (by decide) ?_
  refine AW.iadd (pc' := 67) d_M_goes_66 rfl ?_
  refine AW.top (u := .int (nI 2)) (by decide) ?_
  refine AW.putf (pc' := 70) (w' := (wL z (k_thr_ (k_thr_ (k_thr_ k (nI (0))) (nI (1))) (nI (2))) o)) d_M_goes_67 rfl fp_M_69 rfl rfl (fun _ => ⟨rfl, rfl⟩) rfl rfl ?_
  refine AW.iconst (pc' := 71) (v := nI 2) d_M_goes_70 rfl (by decide) ?_
  refine AW.iload (pc' := 73) d_M_goes_71 rfl rfl ?_
  refine AW.imul (pc' := 74) d_M_goes_73 rfl ?_
  refine AW.top (u := .int (nI 4)) (by decide) ?_
  refine AW.istore (pc' := 76) (ls' := [some (.ref 20), some (.int (nI (15))), some (.int (nI (1))), some (.int (nI (1))), some (.int (nI (1))), some (.int (nI (0))), some (.int (nI (8))), some (.int (nI (4)))]) d_M_goes_74 rfl rfl rfl ?_
  refine AW.goto (tgt := 46) d_M_goes_76 (by decide) ?_
  refine AW.iload (pc' := 48) d_M_goes_46 rfl rfl ?_
  refine AW.iload (pc' := 50) d_M_goes_48 rfl rfl ?_
  refine AW.icmp_gtN (tgt := 79) (pc' := 53) d_M_goes_50 (by decide) rfl (by decide) (by decide) (fun h => absurd h (by decide)) (fun _ => ?_)
  refine AW.iload_n (pc' := 54) d_M_goes_53 rfl rfl rfl ?_
  refine AW.iload (pc' := 56) d_M_goes_54 rfl rfl ?_
  refine AW.iand (pc' := 57) d_M_goes_56 rfl ?_
  refine AW.top (u := .int (nI 4)) (by decide) ?_
  refine AW.if_le (tgt := 70) (pc' := 60) d_M_goes_57 (by decide) rfl (fun h => absurd h (by decide)) (fun _ => ?_)
  refine AW.aload_n (pc' := 61) d_M_goes_60 rfl rfl rfl ?_
  refine AW.dup (pc' := 62) d_M_goes_61 rfl rfl ?_
  refine AW.getf (pc' := 65) d_M_goes_62 rfl fl_M_69 rfl rfl ?_
  refine AW.top (u := .int (nI (2))) rfl ?_
  refine AW.iconst (pc' := 66) (v := nI 1) d_M_goes_65 rfl (by decide) ?_
  refine AW.iadd (pc' := 67) d_M_goes_66 rfl ?_
  refine AW.top (u := .int (nI 3)) (by decide) ?_
  refine AW.putf (pc' := 70) (w' := (wL z (k_thr_ (k_thr_ (k_thr_ (k_thr_ k (nI (0))) (nI (1))) (nI (2))) (nI (3))) o)) d_M_goes_67 rfl fp_M_69 rfl rfl (fun _ => ⟨rfl, rfl⟩) rfl rfl ?_
  refine AW.iconst (pc' := 71) (v := nI 2) d_M_goes_70 rfl (by decide) ?_
  refine AW.iload (pc' := 73) d_M_goes_71 rfl rfl ?_
  refine AW.imul (pc' := 74) d_M_goes_73 rfl ?_
  refine AW.top (u := .int (nI 8)) (by decide) ?_
  refine AW.istore (pc' := 76) (ls' := [some (.ref 20), some (.int (nI (15))), some (.int (nI (1))), some (.int (nI (1))), some (.int (nI (1))), some (.int (nI (0))), some (.int (nI (8))), some (.int (nI (8)))]) d_M_goes_74 rfl rfl rfl ?_
  refine AW.goto (tgt := 46) d_M_goes_76 (by decide) ?_
  refine AW.iload (pc' := 48) d_M_goes_46 rfl rfl ?_
  refine AW.iload (pc' := 50) d_M_goes_48 rfl rfl ?_
  refine AW.icmp_gtN (tgt := 79) (pc' := 53) d_M_goes_50 (by decide) rfl (by decide) (by decide) (fun h => absurd h (by decide)) (fun _ => ?_)
  refine AW.iload_n (pc' := 54) d_M_goes_53 rfl rfl rfl ?_
  refine AW.iload (pc' := 56) d_M_goes_54 rfl rfl ?_
  refine AW.iand (pc' := 57) d_M_goes_56 rfl ?_
  refine AW.top (u := .int (nI 8)) (by decide) ?_
  refine AW.if_le (tgt := 70) (pc' := 60) d_M_goes_57 (by decide) rfl (fun h => absurd h (by decide)) (fun _ => ?_)
  refine AW.aload_n (pc' := 61) d_M_goes_60 rfl rfl rfl ?_
  refine AW.dup (pc' := 62) d_M_goes_61 rfl rfl ?_
  refine AW.getf (pc' := 65) d_M_goes_62 rfl fl_M_69 rfl rfl ?_
  refine AW.top (u := .int (nI (3))) rfl ?_
  refine AW.iconst (pc' := 66) (v := nI 1) d_M_goes_65 rfl (by decide) ?_
  refine AW.iadd (pc' := 67) d_M_goes_66 rfl ?_
  refine AW.top (u := .int (nI 4)) (by decide) ?_
  refine AW.putf (pc' := 70) (w' := (wL z (k_thr_ (k_thr_ (k_thr_ (k_thr_ (k_thr_ k (nI (0))) (nI (1))) (nI (2))) (nI (3))) (nI (4))) o)) d_M_goes_67 rfl fp_M_69 rfl rfl (fun _ => ⟨rfl, rfl⟩) rfl rfl ?_
  refine AW.iconst (pc' := 71) (v := nI 2) d_M_goes_70 rfl (by decide) ?_
  refine AW.iload (pc' := 73) d_M_goes_71 rfl rfl ?_
  refine AW.imul (pc' := 74) d_M_goes_73 rfl ?_
  refine AW.top (u := .int (nI 16)) (by decide) ?_
  refine AW.istore (pc' := 76) (ls' := [some (.ref 20), some (.int (nI (15))), some (.int (nI (1))), some (.int (nI (1))), some (.int (nI (1))), some (.int (nI (0))), some (.int (nI (8))), some (.int (nI (16)))]) d_M_goes_74 rfl rfl rfl ?_
  refine AW.goto (tgt := 46) d_M_goes_76 (by decide) ?_
  refine AW.iload (pc' := 48) d_M_goes_46 rfl rfl ?_
  refine AW.iload (pc' := 50) d_M_goes_48 rfl rfl ?_
  refine AW.icmp_gtN (tgt := 79) (pc' := 53) d_M_goes_50 (by decide) rfl (by decide) (by decide) (fun _ => ?_) (fun h => absurd h (by decide))
  refine AW.iload (pc' := 81) d_M_goes_79 rfl rfl ?_
  refine AW.if_ne (tgt := 88) (pc' := 84) d_M_goes_81 (by decide) rfl (fun _ => ?_) (fun h => absurd h (by decide))
  refine AW.iconst (pc' := 89) (v := nI 0) d_M_goes_88 rfl (by decide) ?_
  exact AW.zret d_M_goes_89 rfl (by decide) rfl rfl ⟨rfl, rfl⟩
theorem k_goes_2_0 (X : ct_X) (z : S_c) (k : S_m) (o : Nat → Int64)  : AF X m_M_goes 0 0 0 [.ref 20, .int (nI (2)), .int (nI (1)), .int (nI (1)), .int (nI (1)), .int (nI (1))] (wL z k o) (.inl (some (.int (nI 1)))) (wL z (k_thr_ k (nI 0)) o) := by
  refine AM.of rfl (Nat.le_of_ble_eq_true rfl) (ls := [some (.ref 20), some (.int (nI (2))), some (.int (nI (1))), some (.int (nI (1))), some (.int (nI (1))), some (.int (nI (1))), none, none]) rfl ?_
  refine AW.iload_n (pc' := 1) d_M_goes_0 rfl rfl rfl ?_
  refine AW.if_ne (tgt := 8) (pc' := 4) d_M_goes_1 (by decide) rfl (fun _ => ?_) (fun h => absurd h (by decide))
  refine AW.iload_n (pc' := 9) d_M_goes_8 rfl rfl rfl ?_
  refine AW.if_ne (tgt := 16) (pc' := 12) d_M_goes_9 (by decide) rfl (fun _ => ?_) (fun h => absurd h (by decide))
  refine AW.iload (pc' := 18) d_M_goes_16 rfl rfl ?_
  refine AW.if_ne (tgt := 25) (pc' := 21) d_M_goes_18 (by decide) rfl (fun _ => ?_) (fun h => absurd h (by decide))
  refine AW.iload (pc' := 27) d_M_goes_25 rfl rfl ?_
  refine AW.if_ne (tgt := 35) (pc' := 30) d_M_goes_27 (by decide) rfl (fun _ => ?_) (fun h => absurd h (by decide))
  refine AW.iconst (pc' := 36) (v := nI 0) d_M_goes_35 rfl (by decide) ?_
  refine AW.istore (pc' := 38) (ls' := [some (.ref 20), some (.int (nI (2))), some (.int (nI (1))), some (.int (nI (1))), some (.int (nI (1))), some (.int (nI (1))), some (.int (nI (0))), none]) d_M_goes_36 rfl rfl rfl ?_
  refine AW.aload_n (pc' := 39) d_M_goes_38 rfl rfl rfl ?_
  refine AW.iconst (pc' := 40) (v := nI 0) d_M_goes_39 rfl (by decide) ?_
  refine AW.putf (pc' := 43) (w' := (wL z (k_thr_ k (nI (0))) o)) d_M_goes_40 rfl fp_M_69 rfl rfl (fun _ => ⟨rfl, rfl⟩) rfl rfl ?_
  refine AW.iconst (pc' := 44) (v := nI 1) d_M_goes_43 rfl (by decide) ?_
  refine AW.istore (pc' := 46) (ls' := [some (.ref 20), some (.int (nI (2))), some (.int (nI (1))), some (.int (nI (1))), some (.int (nI (1))), some (.int (nI (1))), some (.int (nI (0))), some (.int (nI (1)))]) d_M_goes_44 rfl rfl rfl ?_
  refine AW.iload (pc' := 48) d_M_goes_46 rfl rfl ?_
  refine AW.iload (pc' := 50) d_M_goes_48 rfl rfl ?_
  refine AW.icmp_gtN (tgt := 79) (pc' := 53) d_M_goes_50 (by decide) rfl (by decide) (by decide) (fun _ => ?_) (fun h => absurd h (by decide))
  refine AW.iload (pc' := 81) d_M_goes_79 rfl rfl ?_
  refine AW.if_ne (tgt := 88) (pc' := 84) d_M_goes_81 (by decide) rfl (fun h => absurd h (by decide)) (fun _ => ?_)
  refine AW.iconst (pc' := 85) (v := nI 1) d_M_goes_84 rfl (by decide) ?_
  refine AW.goto (tgt := 89) d_M_goes_85 (by decide) ?_
  exact AW.zret d_M_goes_89 rfl (by decide) rfl rfl ⟨rfl, rfl⟩
theorem k_goes_2_2 (X : ct_X) (z : S_c) (k : S_m) (o : Nat → Int64) (a4 a8 : Int32) : AF X m_M_goes 0 0 0 [.ref 20, .int (nI (2)), .int (nI (1)), .int (nI (0)), .int (a4), .int (a8)] (wL z k o) (.inl (some (.int (nI 0)))) (wL z (k_thr_ k (nI 1)) o) := by
  refine AM.of rfl (Nat.le_of_ble_eq_true rfl) (ls := [some (.ref 20), some (.int (nI (2))), some (.int (nI (1))), some (.int (nI (0))), some (.int (a4)), some (.int (a8)), none, none]) rfl ?_
  refine AW.iload_n (pc' := 1) d_M_goes_0 rfl rfl rfl ?_
  refine AW.if_ne (tgt := 8) (pc' := 4) d_M_goes_1 (by decide) rfl (fun _ => ?_) (fun h => absurd h (by decide))
  refine AW.iload_n (pc' := 9) d_M_goes_8 rfl rfl rfl ?_
  refine AW.if_ne (tgt := 16) (pc' := 12) d_M_goes_9 (by decide) rfl (fun h => absurd h (by decide)) (fun _ => ?_)
  refine AW.iconst (pc' := 13) (v := nI 2) d_M_goes_12 rfl (by decide) ?_
  refine AW.goto (tgt := 36) d_M_goes_13 (by decide) ?_
  refine AW.istore (pc' := 38) (ls' := [some (.ref 20), some (.int (nI (2))), some (.int (nI (1))), some (.int (nI (0))), some (.int (a4)), some (.int (a8)), some (.int (nI (2))), none]) d_M_goes_36 rfl rfl rfl ?_
  refine AW.aload_n (pc' := 39) d_M_goes_38 rfl rfl rfl ?_
  refine AW.iconst (pc' := 40) (v := nI 0) d_M_goes_39 rfl (by decide) ?_
  refine AW.putf (pc' := 43) (w' := (wL z (k_thr_ k (nI (0))) o)) d_M_goes_40 rfl fp_M_69 rfl rfl (fun _ => ⟨rfl, rfl⟩) rfl rfl ?_
  refine AW.iconst (pc' := 44) (v := nI 1) d_M_goes_43 rfl (by decide) ?_
  refine AW.istore (pc' := 46) (ls' := [some (.ref 20), some (.int (nI (2))), some (.int (nI (1))), some (.int (nI (0))), some (.int (a4)), some (.int (a8)), some (.int (nI (2))), some (.int (nI (1)))]) d_M_goes_44 rfl rfl rfl ?_
  refine AW.iload (pc' := 48) d_M_goes_46 rfl rfl ?_
  refine AW.iload (pc' := 50) d_M_goes_48 rfl rfl ?_
  refine AW.icmp_gtN (tgt := 79) (pc' := 53) d_M_goes_50 (by decide) rfl (by decide) (by decide) (fun h => absurd h (by decide)) (fun _ => ?_)
  refine AW.iload_n (pc' := 54) d_M_goes_53 rfl rfl rfl ?_
  refine AW.iload (pc' := 56) d_M_goes_54 rfl rfl ?_
  refine AW.iand (pc' := 57) d_M_goes_56 rfl ?_
  refine AW.top (u := .int (nI 0)) (by decide) ?_
  refine AW.if_le (tgt := 70) (pc' := 60) d_M_goes_57 (by decide) rfl (fun _ => ?_) (fun h => absurd (by decide) h)
  refine AW.iconst (pc' := 71) (v := nI 2) d_M_goes_70 rfl (by decide) ?_
  refine AW.iload (pc' := 73) d_M_goes_71 rfl rfl ?_
  refine AW.imul (pc' := 74) d_M_goes_73 rfl ?_
  refine AW.top (u := .int (nI 2)) (by decide) ?_
  refine AW.istore (pc' := 76) (ls' := [some (.ref 20), some (.int (nI (2))), some (.int (nI (1))), some (.int (nI (0))), some (.int (a4)), some (.int (a8)), some (.int (nI (2))), some (.int (nI (2)))]) d_M_goes_74 rfl rfl rfl ?_
  refine AW.goto (tgt := 46) d_M_goes_76 (by decide) ?_
  refine AW.iload (pc' := 48) d_M_goes_46 rfl rfl ?_
  refine AW.iload (pc' := 50) d_M_goes_48 rfl rfl ?_
  refine AW.icmp_gtN (tgt := 79) (pc' := 53) d_M_goes_50 (by decide) rfl (by decide) (by decide) (fun h => absurd h (by decide)) (fun _ => ?_)
  refine AW.iload_n (pc' := 54) d_M_goes_53 rfl rfl rfl ?_
  refine AW.iload (pc' := 56) d_M_goes_54 rfl rfl ?_
  refine AW.iand (pc' := 57) d_M_goes_56 rfl ?_
  refine AW.top (u := .int (nI 2)) (by decide) ?_
  refine AW.if_le (tgt := 70) (pc' := 60) d_M_goes_57 (by decide) rfl (fun h => absurd h (by decide)) (fun _ => ?_)
  refine AW.aload_n (pc' := 61) d_M_goes_60 rfl rfl rfl ?_
  refine AW.dup (pc' := 62) d_M_goes_61 rfl rfl ?_
  refine AW.getf (pc' := 65) d_M_goes_62 rfl fl_M_69 rfl rfl ?_
  refine AW.top (u := .int (nI (0))) rfl ?_
  refine AW.iconst (pc' := 66) (v := nI 1) d_M_goes_65 rfl (by decide) ?_
  refine AW.iadd (pc' := 67) d_M_goes_66 rfl ?_
  refine AW.top (u := .int (nI 1)) (by decide) ?_
  refine AW.putf (pc' := 70) (w' := (wL z (k_thr_ (k_thr_ k (nI (0))) (nI (1))) o)) d_M_goes_67 rfl fp_M_69 rfl rfl (fun _ => ⟨rfl, rfl⟩) rfl rfl ?_
  refine AW.iconst (pc' := 71) (v := nI 2) d_M_goes_70 rfl (by decide) ?_
  refine AW.iload (pc' := 73) d_M_goes_71 rfl rfl ?_
  refine AW.imul (pc' := 74) d_M_goes_73 rfl ?_
  refine AW.top (u := .int (nI 4)) (by decide) ?_
  refine AW.istore (pc' := 76) (ls' := [some (.ref 20), some (.int (nI (2))), some (.int (nI (1))), some (.int (nI (0))), some (.int (a4)), some (.int (a8)), some (.int (nI (2))), some (.int (nI (4)))]) d_M_goes_74 rfl rfl rfl ?_
  refine AW.goto (tgt := 46) d_M_goes_76 (by decide) ?_
  refine AW.iload (pc' := 48) d_M_goes_46 rfl rfl ?_
  refine AW.iload (pc' := 50) d_M_goes_48 rfl rfl ?_
  refine AW.icmp_gtN (tgt := 79) (pc' := 53) d_M_goes_50 (by decide) rfl (by decide) (by decide) (fun _ => ?_) (fun h => absurd h (by decide))
  refine AW.iload (pc' := 81) d_M_goes_79 rfl rfl ?_
  refine AW.if_ne (tgt := 88) (pc' := 84) d_M_goes_81 (by decide) rfl (fun _ => ?_) (fun h => absurd h (by decide))
  refine AW.iconst (pc' := 89) (v := nI 0) d_M_goes_88 rfl (by decide) ?_
  exact AW.zret d_M_goes_89 rfl (by decide) rfl rfl ⟨rfl, rfl⟩
theorem k_goes_11_0 (X : ct_X) (z : S_c) (k : S_m) (o : Nat → Int64)  : AF X m_M_goes 0 0 0 [.ref 20, .int (nI (11)), .int (nI (1)), .int (nI (1)), .int (nI (1)), .int (nI (1))] (wL z k o) (.inl (some (.int (nI 1)))) (wL z (k_thr_ k (nI 0)) o) := by
  refine AM.of rfl (Nat.le_of_ble_eq_true rfl) (ls := [some (.ref 20), some (.int (nI (11))), some (.int (nI (1))), some (.int (nI (1))), some (.int (nI (1))), some (.int (nI (1))), none, none]) rfl ?_
  refine AW.iload_n (pc' := 1) d_M_goes_0 rfl rfl rfl ?_
  refine AW.if_ne (tgt := 8) (pc' := 4) d_M_goes_1 (by decide) rfl (fun _ => ?_) (fun h => absurd h (by decide))
  refine AW.iload_n (pc' := 9) d_M_goes_8 rfl rfl rfl ?_
  refine AW.if_ne (tgt := 16) (pc' := 12) d_M_goes_9 (by decide) rfl (fun _ => ?_) (fun h => absurd h (by decide))
  refine AW.iload (pc' := 18) d_M_goes_16 rfl rfl ?_
  refine AW.if_ne (tgt := 25) (pc' := 21) d_M_goes_18 (by decide) rfl (fun _ => ?_) (fun h => absurd h (by decide))
  refine AW.iload (pc' := 27) d_M_goes_25 rfl rfl ?_
  refine AW.if_ne (tgt := 35) (pc' := 30) d_M_goes_27 (by decide) rfl (fun _ => ?_) (fun h => absurd h (by decide))
  refine AW.iconst (pc' := 36) (v := nI 0) d_M_goes_35 rfl (by decide) ?_
  refine AW.istore (pc' := 38) (ls' := [some (.ref 20), some (.int (nI (11))), some (.int (nI (1))), some (.int (nI (1))), some (.int (nI (1))), some (.int (nI (1))), some (.int (nI (0))), none]) d_M_goes_36 rfl rfl rfl ?_
  refine AW.aload_n (pc' := 39) d_M_goes_38 rfl rfl rfl ?_
  refine AW.iconst (pc' := 40) (v := nI 0) d_M_goes_39 rfl (by decide) ?_
  refine AW.putf (pc' := 43) (w' := (wL z (k_thr_ k (nI (0))) o)) d_M_goes_40 rfl fp_M_69 rfl rfl (fun _ => ⟨rfl, rfl⟩) rfl rfl ?_
  refine AW.iconst (pc' := 44) (v := nI 1) d_M_goes_43 rfl (by decide) ?_
  refine AW.istore (pc' := 46) (ls' := [some (.ref 20), some (.int (nI (11))), some (.int (nI (1))), some (.int (nI (1))), some (.int (nI (1))), some (.int (nI (1))), some (.int (nI (0))), some (.int (nI (1)))]) d_M_goes_44 rfl rfl rfl ?_
  refine AW.iload (pc' := 48) d_M_goes_46 rfl rfl ?_
  refine AW.iload (pc' := 50) d_M_goes_48 rfl rfl ?_
  refine AW.icmp_gtN (tgt := 79) (pc' := 53) d_M_goes_50 (by decide) rfl (by decide) (by decide) (fun _ => ?_) (fun h => absurd h (by decide))
  refine AW.iload (pc' := 81) d_M_goes_79 rfl rfl ?_
  refine AW.if_ne (tgt := 88) (pc' := 84) d_M_goes_81 (by decide) rfl (fun h => absurd h (by decide)) (fun _ => ?_)
  refine AW.iconst (pc' := 85) (v := nI 1) d_M_goes_84 rfl (by decide) ?_
  refine AW.goto (tgt := 89) d_M_goes_85 (by decide) ?_
  exact AW.zret d_M_goes_89 rfl (by decide) rfl rfl ⟨rfl, rfl⟩
theorem k_goes_11_1 (X : ct_X) (z : S_c) (k : S_m) (o : Nat → Int64) (a2 a4 a8 : Int32) : AF X m_M_goes 0 0 0 [.ref 20, .int (nI (11)), .int (nI (0)), .int (a2), .int (a4), .int (a8)] (wL z k o) (.inl (some (.int (nI 0)))) (wL z (k_thr_ k (nI 1)) o) := by
  refine AM.of rfl (Nat.le_of_ble_eq_true rfl) (ls := [some (.ref 20), some (.int (nI (11))), some (.int (nI (0))), some (.int (a2)), some (.int (a4)), some (.int (a8)), none, none]) rfl ?_
  refine AW.iload_n (pc' := 1) d_M_goes_0 rfl rfl rfl ?_
  refine AW.if_ne (tgt := 8) (pc' := 4) d_M_goes_1 (by decide) rfl (fun h => absurd h (by decide)) (fun _ => ?_)
  refine AW.iconst (pc' := 5) (v := nI 1) d_M_goes_4 rfl (by decide) ?_
  refine AW.goto (tgt := 36) d_M_goes_5 (by decide) ?_
  refine AW.istore (pc' := 38) (ls' := [some (.ref 20), some (.int (nI (11))), some (.int (nI (0))), some (.int (a2)), some (.int (a4)), some (.int (a8)), some (.int (nI (1))), none]) d_M_goes_36 rfl rfl rfl ?_
  refine AW.aload_n (pc' := 39) d_M_goes_38 rfl rfl rfl ?_
  refine AW.iconst (pc' := 40) (v := nI 0) d_M_goes_39 rfl (by decide) ?_
  refine AW.putf (pc' := 43) (w' := (wL z (k_thr_ k (nI (0))) o)) d_M_goes_40 rfl fp_M_69 rfl rfl (fun _ => ⟨rfl, rfl⟩) rfl rfl ?_
  refine AW.iconst (pc' := 44) (v := nI 1) d_M_goes_43 rfl (by decide) ?_
  refine AW.istore (pc' := 46) (ls' := [some (.ref 20), some (.int (nI (11))), some (.int (nI (0))), some (.int (a2)), some (.int (a4)), some (.int (a8)), some (.int (nI (1))), some (.int (nI (1)))]) d_M_goes_44 rfl rfl rfl ?_
  refine AW.iload (pc' := 48) d_M_goes_46 rfl rfl ?_
  refine AW.iload (pc' := 50) d_M_goes_48 rfl rfl ?_
  refine AW.icmp_gtN (tgt := 79) (pc' := 53) d_M_goes_50 (by decide) rfl (by decide) (by decide) (fun h => absurd h (by decide)) (fun _ => ?_)
  refine AW.iload_n (pc' := 54) d_M_goes_53 rfl rfl rfl ?_
  refine AW.iload (pc' := 56) d_M_goes_54 rfl rfl ?_
  refine AW.iand (pc' := 57) d_M_goes_56 rfl ?_
  refine AW.top (u := .int (nI 1)) (by decide) ?_
  refine AW.if_le (tgt := 70) (pc' := 60) d_M_goes_57 (by decide) rfl (fun h => absurd h (by decide)) (fun _ => ?_)
  refine AW.aload_n (pc' := 61) d_M_goes_60 rfl rfl rfl ?_
  refine AW.dup (pc' := 62) d_M_goes_61 rfl rfl ?_
  refine AW.getf (pc' := 65) d_M_goes_62 rfl fl_M_69 rfl rfl ?_
  refine AW.top (u := .int (nI (0))) rfl ?_
  refine AW.iconst (pc' := 66) (v := nI 1) d_M_goes_65 rfl (by decide) ?_
  refine AW.iadd (pc' := 67) d_M_goes_66 rfl ?_
  refine AW.top (u := .int (nI 1)) (by decide) ?_
  refine AW.putf (pc' := 70) (w' := (wL z (k_thr_ (k_thr_ k (nI (0))) (nI (1))) o)) d_M_goes_67 rfl fp_M_69 rfl rfl (fun _ => ⟨rfl, rfl⟩) rfl rfl ?_
  refine AW.iconst (pc' := 71) (v := nI 2) d_M_goes_70 rfl (by decide) ?_
  refine AW.iload (pc' := 73) d_M_goes_71 rfl rfl ?_
  refine AW.imul (pc' := 74) d_M_goes_73 rfl ?_
  refine AW.top (u := .int (nI 2)) (by decide) ?_
  refine AW.istore (pc' := 76) (ls' := [some (.ref 20), some (.int (nI (11))), some (.int (nI (0))), some (.int (a2)), some (.int (a4)), some (.int (a8)), some (.int (nI (1))), some (.int (nI (2)))]) d_M_goes_74 rfl rfl rfl ?_
  refine AW.goto (tgt := 46) d_M_goes_76 (by decide) ?_
  refine AW.iload (pc' := 48) d_M_goes_46 rfl rfl ?_
  refine AW.iload (pc' := 50) d_M_goes_48 rfl rfl ?_
  refine AW.icmp_gtN (tgt := 79) (pc' := 53) d_M_goes_50 (by decide) rfl (by decide) (by decide) (fun _ => ?_) (fun h => absurd h (by decide))
  refine AW.iload (pc' := 81) d_M_goes_79 rfl rfl ?_
  refine AW.if_ne (tgt := 88) (pc' := 84) d_M_goes_81 (by decide) rfl (fun _ => ?_) (fun h => absurd h (by decide))
  refine AW.iconst (pc' := 89) (v := nI 0) d_M_goes_88 rfl (by decide) ?_
  exact AW.zret d_M_goes_89 rfl (by decide) rfl rfl ⟨rfl, rfl⟩
theorem k_goes_11_2 (X : ct_X) (z : S_c) (k : S_m) (o : Nat → Int64) (a4 a8 : Int32) : AF X m_M_goes 0 0 0 [.ref 20, .int (nI (11)), .int (nI (1)), .int (nI (0)), .int (a4), .int (a8)] (wL z k o) (.inl (some (.int (nI 0)))) (wL z (k_thr_ k (nI 2)) o) := by
  refine AM.of rfl (Nat.le_of_ble_eq_true rfl) (ls := [some (.ref 20), some (.int (nI (11))), some (.int (nI (1))), some (.int (nI (0))), some (.int (a4)), some (.int (a8)), none, none]) rfl ?_
  refine AW.iload_n (pc' := 1) d_M_goes_0 rfl rfl rfl ?_
  refine AW.if_ne (tgt := 8) (pc' := 4) d_M_goes_1 (by decide) rfl (fun _ => ?_) (fun h => absurd h (by decide))
  refine AW.iload_n (pc' := 9) d_M_goes_8 rfl rfl rfl ?_
  refine AW.if_ne (tgt := 16) (pc' := 12) d_M_goes_9 (by decide) rfl (fun h => absurd h (by decide)) (fun _ => ?_)
  refine AW.iconst (pc' := 13) (v := nI 2) d_M_goes_12 rfl (by decide) ?_
  refine AW.goto (tgt := 36) d_M_goes_13 (by decide) ?_
  refine AW.istore (pc' := 38) (ls' := [some (.ref 20), some (.int (nI (11))), some (.int (nI (1))), some (.int (nI (0))), some (.int (a4)), some (.int (a8)), some (.int (nI (2))), none]) d_M_goes_36 rfl rfl rfl ?_
  refine AW.aload_n (pc' := 39) d_M_goes_38 rfl rfl rfl ?_
  refine AW.iconst (pc' := 40) (v := nI 0) d_M_goes_39 rfl (by decide) ?_
  refine AW.putf (pc' := 43) (w' := (wL z (k_thr_ k (nI (0))) o)) d_M_goes_40 rfl fp_M_69 rfl rfl (fun _ => ⟨rfl, rfl⟩) rfl rfl ?_
  refine AW.iconst (pc' := 44) (v := nI 1) d_M_goes_43 rfl (by decide) ?_
  refine AW.istore (pc' := 46) (ls' := [some (.ref 20), some (.int (nI (11))), some (.int (nI (1))), some (.int (nI (0))), some (.int (a4)), some (.int (a8)), some (.int (nI (2))), some (.int (nI (1)))]) d_M_goes_44 rfl rfl rfl ?_
  refine AW.iload (pc' := 48) d_M_goes_46 rfl rfl ?_
  refine AW.iload (pc' := 50) d_M_goes_48 rfl rfl ?_
  refine AW.icmp_gtN (tgt := 79) (pc' := 53) d_M_goes_50 (by decide) rfl (by decide) (by decide) (fun h => absurd h (by decide)) (fun _ => ?_)
  refine AW.iload_n (pc' := 54) d_M_goes_53 rfl rfl rfl ?_
  refine AW.iload (pc' := 56) d_M_goes_54 rfl rfl ?_
  refine AW.iand (pc' := 57) d_M_goes_56 rfl ?_
  refine AW.top (u := .int (nI 1)) (by decide) ?_
  refine AW.if_le (tgt := 70) (pc' := 60) d_M_goes_57 (by decide) rfl (fun h => absurd h (by decide)) (fun _ => ?_)
  refine AW.aload_n (pc' := 61) d_M_goes_60 rfl rfl rfl ?_
  refine AW.dup (pc' := 62) d_M_goes_61 rfl rfl ?_
  refine AW.getf (pc' := 65) d_M_goes_62 rfl fl_M_69 rfl rfl ?_
  refine AW.top (u := .int (nI (0))) rfl ?_
  refine AW.iconst (pc' := 66) (v := nI 1) d_M_goes_65 rfl (by decide) ?_
  refine AW.iadd (pc' := 67) d_M_goes_66 rfl ?_
  refine AW.top (u := .int (nI 1)) (by decide) ?_
  refine AW.putf (pc' := 70) (w' := (wL z (k_thr_ (k_thr_ k (nI (0))) (nI (1))) o)) d_M_goes_67 rfl fp_M_69 rfl rfl (fun _ => ⟨rfl, rfl⟩) rfl rfl ?_
  refine AW.iconst (pc' := 71) (v := nI 2) d_M_goes_70 rfl (by decide) ?_
  refine AW.iload (pc' := 73) d_M_goes_71 rfl rfl ?_
  refine AW.imul (pc' := 74) d_M_goes_73 rfl ?_
  refine AW.top (u := .int (nI 2)) (by decide) ?_
  refine AW.istore (pc' := 76) (ls' := [some (.ref 20), some (.int (nI (11))), some (.int (nI (1))), some (.int (nI (0))), some (.int (a4)), some (.int (a8)), some (.int (nI (2))), some (.int (nI (2)))]) d_M_goes_74 rfl rfl rfl ?_
  refine AW.goto (tgt := 46) d_M_goes_76 (by decide) ?_
  refine AW.iload (pc' := 48) d_M_goes_46 rfl rfl ?_
  refine AW.iload (pc' := 50) d_M_goes_48 rfl rfl ?_
  refine AW.icmp_gtN (tgt := 79) (pc' := 53) d_M_goes_50 (by decide) rfl (by decide) (by decide) (fun h => absurd h (by decide)) (fun _ => ?_)
  refine AW.iload_n (pc' := 54) d_M_goes_53 rfl rfl rfl ?_
  refine AW.iload (pc' := 56) d_M_goes_54 rfl rfl ?_
  refine AW.iand (pc' := 57) d_M_goes_56 rfl ?_
  refine AW.top (u := .int (nI 2)) (by decide) ?_
  refine AW.if_le (tgt := 70) (pc' := 60) d_M_goes_57 (by decide) rfl (fun h => absurd h (by decide)) (fun _ => ?_)
  refine AW.aload_n (pc' := 61) d_M_goes_60 rfl rfl rfl ?_
  refine AW.dup (pc' := 62) d_M_goes_61 rfl rfl ?_
  refine AW.getf (pc' := 65) d_M_goes_62 rfl fl_M_69 rfl rfl ?_
  refine AW.top (u := .int (nI (1))) rfl ?_
  refine AW.iconst (pc' := 66) (v := nI 1) d_M_goes_65 rfl (by decide) ?_
  refine AW.iadd (pc' := 67) d_M_goes_66 rfl ?_
  refine AW.top (u := .int (nI 2)) (by decide) ?_
  refine AW.putf (pc' := 70) (w' := (wL z (k_thr_ (k_thr_ (k_thr_ k (nI (0))) (nI (1))) (nI (2))) o)) d_M_goes_67 rfl fp_M_69 rfl rfl (fun _ => ⟨rfl, rfl⟩) rfl rfl ?_
  refine AW.iconst (pc' := 71) (v := nI 2) d_M_goes_70 rfl (by decide) ?_
  refine AW.iload (pc' := 73) d_M_goes_71 rfl rfl ?_
  refine AW.imul (pc' := 74) d_M_goes_73 rfl ?_
  refine AW.top (u := .int (nI 4)) (by decide) ?_
  refine AW.istore (pc' := 76) (ls' := [some (.ref 20), some (.int (nI (11))), some (.int (nI (1))), some (.int (nI (0))), some (.int (a4)), some (.int (a8)), some (.int (nI (2))), some (.int (nI (4)))]) d_M_goes_74 rfl rfl rfl ?_
  refine AW.goto (tgt := 46) d_M_goes_76 (by decide) ?_
  refine AW.iload (pc' := 48) d_M_goes_46 rfl rfl ?_
  refine AW.iload (pc' := 50) d_M_goes_48 rfl rfl ?_
  refine AW.icmp_gtN (tgt := 79) (pc' := 53) d_M_goes_50 (by decide) rfl (by decide) (by decide) (fun _ => ?_) (fun h => absurd h (by decide))
  refine AW.iload (pc' := 81) d_M_goes_79 rfl rfl ?_
  refine AW.if_ne (tgt := 88) (pc' := 84) d_M_goes_81 (by decide) rfl (fun _ => ?_) (fun h => absurd h (by decide))
  refine AW.iconst (pc' := 89) (v := nI 0) d_M_goes_88 rfl (by decide) ?_
  exact AW.zret d_M_goes_89 rfl (by decide) rfl rfl ⟨rfl, rfl⟩
theorem k_goes_11_8 (X : ct_X) (z : S_c) (k : S_m) (o : Nat → Int64)  : AF X m_M_goes 0 0 0 [.ref 20, .int (nI (11)), .int (nI (1)), .int (nI (1)), .int (nI (1)), .int (nI (0))] (wL z k o) (.inl (some (.int (nI 0)))) (wL z (k_thr_ k (nI 3)) o) := by
  refine AM.of rfl (Nat.le_of_ble_eq_true rfl) (ls := [some (.ref 20), some (.int (nI (11))), some (.int (nI (1))), some (.int (nI (1))), some (.int (nI (1))), some (.int (nI (0))), none, none]) rfl ?_
  refine AW.iload_n (pc' := 1) d_M_goes_0 rfl rfl rfl ?_
  refine AW.if_ne (tgt := 8) (pc' := 4) d_M_goes_1 (by decide) rfl (fun _ => ?_) (fun h => absurd h (by decide))
  refine AW.iload_n (pc' := 9) d_M_goes_8 rfl rfl rfl ?_
  refine AW.if_ne (tgt := 16) (pc' := 12) d_M_goes_9 (by decide) rfl (fun _ => ?_) (fun h => absurd h (by decide))
  refine AW.iload (pc' := 18) d_M_goes_16 rfl rfl ?_
  refine AW.if_ne (tgt := 25) (pc' := 21) d_M_goes_18 (by decide) rfl (fun _ => ?_) (fun h => absurd h (by decide))
  refine AW.iload (pc' := 27) d_M_goes_25 rfl rfl ?_
  refine AW.if_ne (tgt := 35) (pc' := 30) d_M_goes_27 (by decide) rfl (fun h => absurd h (by decide)) (fun _ => ?_)
  refine AW.bipush (pc' := 32) (v := nI 8) d_M_goes_30 rfl (by decide) ?_
  refine AW.goto (tgt := 36) d_M_goes_32 (by decide) ?_
  refine AW.istore (pc' := 38) (ls' := [some (.ref 20), some (.int (nI (11))), some (.int (nI (1))), some (.int (nI (1))), some (.int (nI (1))), some (.int (nI (0))), some (.int (nI (8))), none]) d_M_goes_36 rfl rfl rfl ?_
  refine AW.aload_n (pc' := 39) d_M_goes_38 rfl rfl rfl ?_
  refine AW.iconst (pc' := 40) (v := nI 0) d_M_goes_39 rfl (by decide) ?_
  refine AW.putf (pc' := 43) (w' := (wL z (k_thr_ k (nI (0))) o)) d_M_goes_40 rfl fp_M_69 rfl rfl (fun _ => ⟨rfl, rfl⟩) rfl rfl ?_
  refine AW.iconst (pc' := 44) (v := nI 1) d_M_goes_43 rfl (by decide) ?_
  refine AW.istore (pc' := 46) (ls' := [some (.ref 20), some (.int (nI (11))), some (.int (nI (1))), some (.int (nI (1))), some (.int (nI (1))), some (.int (nI (0))), some (.int (nI (8))), some (.int (nI (1)))]) d_M_goes_44 rfl rfl rfl ?_
  refine AW.iload (pc' := 48) d_M_goes_46 rfl rfl ?_
  refine AW.iload (pc' := 50) d_M_goes_48 rfl rfl ?_
  refine AW.icmp_gtN (tgt := 79) (pc' := 53) d_M_goes_50 (by decide) rfl (by decide) (by decide) (fun h => absurd h (by decide)) (fun _ => ?_)
  refine AW.iload_n (pc' := 54) d_M_goes_53 rfl rfl rfl ?_
  refine AW.iload (pc' := 56) d_M_goes_54 rfl rfl ?_
  refine AW.iand (pc' := 57) d_M_goes_56 rfl ?_
  refine AW.top (u := .int (nI 1)) (by decide) ?_
  refine AW.if_le (tgt := 70) (pc' := 60) d_M_goes_57 (by decide) rfl (fun h => absurd h (by decide)) (fun _ => ?_)
  refine AW.aload_n (pc' := 61) d_M_goes_60 rfl rfl rfl ?_
  refine AW.dup (pc' := 62) d_M_goes_61 rfl rfl ?_
  refine AW.getf (pc' := 65) d_M_goes_62 rfl fl_M_69 rfl rfl ?_
  refine AW.top (u := .int (nI (0))) rfl ?_
  refine AW.iconst (pc' := 66) (v := nI 1) d_M_goes_65 rfl (by decide) ?_
  refine AW.iadd (pc' := 67) d_M_goes_66 rfl ?_
  refine AW.top (u := .int (nI 1)) (by decide) ?_
  refine AW.putf (pc' := 70) (w' := (wL z (k_thr_ (k_thr_ k (nI (0))) (nI (1))) o)) d_M_goes_67 rfl fp_M_69 rfl rfl (fun _ => ⟨rfl, rfl⟩) rfl rfl ?_
  refine AW.iconst (pc' := 71) (v := nI 2) d_M_goes_70 rfl (by decide) ?_
  refine AW.iload (pc' := 73) d_M_goes_71 rfl rfl ?_
  refine AW.imul (pc' := 74) d_M_goes_73 rfl ?_
  refine AW.top (u := .int (nI 2)) (by decide) ?_
  refine AW.istore (pc' := 76) (ls' := [some (.ref 20), some (.int (nI (11))), some (.int (nI (1))), some (.int (nI (1))), some (.int (nI (1))), some (.int (nI (0))), some (.int (nI (8))), some (.int (nI (2)))]) d_M_goes_74 rfl rfl rfl ?_
  refine AW.goto (tgt := 46) d_M_goes_76 (by decide) ?_
  refine AW.iload (pc' := 48) d_M_goes_46 rfl rfl ?_
  refine AW.iload (pc' := 50) d_M_goes_48 rfl rfl ?_
  refine AW.icmp_gtN (tgt := 79) (pc' := 53) d_M_goes_50 (by decide) rfl (by decide) (by decide) (fun h => absurd h (by decide)) (fun _ => ?_)
  refine AW.iload_n (pc' := 54) d_M_goes_53 rfl rfl rfl ?_
  refine AW.iload (pc' := 56) d_M_goes_54 rfl rfl ?_
  refine AW.iand (pc' := 57) d_M_goes_56 rfl ?_
  refine AW.top (u := .int (nI 2)) (by decide) ?_
  refine AW.if_le (tgt := 70) (pc' := 60) d_M_goes_57 (by decide) rfl (fun h => absurd h (by decide)) (fun _ => ?_)
  refine AW.aload_n (pc' := 61) d_M_goes_60 rfl rfl rfl ?_
  refine AW.dup (pc' := 62) d_M_goes_61 rfl rfl ?_
  refine AW.getf (pc' := 65) d_M_goes_62 rfl fl_M_69 rfl rfl ?_
  refine AW.top (u := .int (nI (1))) rfl ?_
  refine AW.iconst (pc' := 66) (v := nI 1) d_M_goes_65 rfl (by decide) ?_
  refine AW.iadd (pc' := 67) d_M_goes_66 rfl ?_
  refine AW.top (u := .int (nI 2)) (by decide) ?_
  refine AW.putf (pc' := 70) (w' := (wL z (k_thr_ (k_thr_ (k_thr_ k (nI (0))) (nI (1))) (nI (2))) o)) d_M_goes_67 rfl fp_M_69 rfl rfl (fun _ => ⟨rfl, rfl⟩) rfl rfl ?_
  refine AW.iconst (pc' := 71) (v := nI 2) d_M_goes_70 rfl (by decide) ?_
  refine AW.iload (pc' := 73) d_M_goes_71 rfl rfl ?_
  refine AW.imul (pc' := 74) d_M_goes_73 rfl ?_
  refine AW.top (u := .int (nI 4)) (by decide) ?_
  refine AW.istore (pc' := 76) (ls' := [some (.ref 20), some (.int (nI (11))), some (.int (nI (1))), some (.int (nI (1))), some (.int (nI (1))), some (.int (nI (0))), some (.int (nI (8))), some (.int (nI (4)))]) d_M_goes_74 rfl rfl rfl ?_
  refine AW.goto (tgt := 46) d_M_goes_76 (by decide) ?_
  refine AW.iload (pc' := 48) d_M_goes_46 rfl rfl ?_
  refine AW.iload (pc' := 50) d_M_goes_48 rfl rfl ?_
  refine AW.icmp_gtN (tgt := 79) (pc' := 53) d_M_goes_50 (by decide) rfl (by decide) (by decide) (fun h => absurd h (by decide)) (fun _ => ?_)
  refine AW.iload_n (pc' := 54) d_M_goes_53 rfl rfl rfl ?_
  refine AW.iload (pc' := 56) d_M_goes_54 rfl rfl ?_
  refine AW.iand (pc' := 57) d_M_goes_56 rfl ?_
  refine AW.top (u := .int (nI 0)) (by decide) ?_
  refine AW.if_le (tgt := 70) (pc' := 60) d_M_goes_57 (by decide) rfl (fun _ => ?_) (fun h => absurd (by decide) h)
  refine AW.iconst (pc' := 71) (v := nI 2) d_M_goes_70 rfl (by decide) ?_
  refine AW.iload (pc' := 73) d_M_goes_71 rfl rfl ?_
  refine AW.imul (pc' := 74) d_M_goes_73 rfl ?_
  refine AW.top (u := .int (nI 8)) (by decide) ?_
  refine AW.istore (pc' := 76) (ls' := [some (.ref 20), some (.int (nI (11))), some (.int (nI (1))), some (.int (nI (1))), some (.int (nI (1))), some (.int (nI (0))), some (.int (nI (8))), some (.int (nI (8)))]) d_M_goes_74 rfl rfl rfl ?_
  refine AW.goto (tgt := 46) d_M_goes_76 (by decide) ?_
  refine AW.iload (pc' := 48) d_M_goes_46 rfl rfl ?_
  refine AW.iload (pc' := 50) d_M_goes_48 rfl rfl ?_
  refine AW.icmp_gtN (tgt := 79) (pc' := 53) d_M_goes_50 (by decide) rfl (by decide) (by decide) (fun h => absurd h (by decide)) (fun _ => ?_)
  refine AW.iload_n (pc' := 54) d_M_goes_53 rfl rfl rfl ?_
  refine AW.iload (pc' := 56) d_M_goes_54 rfl rfl ?_
  refine AW.iand (pc' := 57) d_M_goes_56 rfl ?_
  refine AW.top (u := .int (nI 8)) (by decide) ?_
  refine AW.if_le (tgt := 70) (pc' := 60) d_M_goes_57 (by decide) rfl (fun h => absurd h (by decide)) (fun _ => ?_)
  refine AW.aload_n (pc' := 61) d_M_goes_60 rfl rfl rfl ?_
  refine AW.dup (pc' := 62) d_M_goes_61 rfl rfl ?_
  refine AW.getf (pc' := 65) d_M_goes_62 rfl fl_M_69 rfl rfl ?_
  refine AW.top (u := .int (nI (2))) rfl ?_
  refine AW.iconst (pc' := 66) (v := nI 1) d_M_goes_65 rfl (by decide) ?_
  refine AW.iadd (pc' := 67) d_M_goes_66 rfl ?_
  refine AW.top (u := .int (nI 3)) (by decide) ?_
  refine AW.putf (pc' := 70) (w' := (wL z (k_thr_ (k_thr_ (k_thr_ (k_thr_ k (nI (0))) (nI (1))) (nI (2))) (nI (3))) o)) d_M_goes_67 rfl fp_M_69 rfl rfl (fun _ => ⟨rfl, rfl⟩) rfl rfl ?_
  refine AW.iconst (pc' := 71) (v := nI 2) d_M_goes_70 rfl (by decide) ?_
  refine AW.iload (pc' := 73) d_M_goes_71 rfl rfl ?_
  refine AW.imul (pc' := 74) d_M_goes_73 rfl ?_
  refine AW.top (u := .int (nI 16)) (by decide) ?_
  refine AW.istore (pc' := 76) (ls' := [some (.ref 20), some (.int (nI (11))), some (.int (nI (1))), some (.int (nI (1))), some (.int (nI (1))), some (.int (nI (0))), some (.int (nI (8))), some (.int (nI (16)))]) d_M_goes_74 rfl rfl rfl ?_
  refine AW.goto (tgt := 46) d_M_goes_76 (by decide) ?_
  refine AW.iload (pc' := 48) d_M_goes_46 rfl rfl ?_
  refine AW.iload (pc' := 50) d_M_goes_48 rfl rfl ?_
  refine AW.icmp_gtN (tgt := 79) (pc' := 53) d_M_goes_50 (by decide) rfl (by decide) (by decide) (fun _ => ?_) (fun h => absurd h (by decide))
  refine AW.iload (pc' := 81) d_M_goes_79 rfl rfl ?_
  refine AW.if_ne (tgt := 88) (pc' := 84) d_M_goes_81 (by decide) rfl (fun _ => ?_) (fun h => absurd h (by decide))
  refine AW.iconst (pc' := 89) (v := nI 0) d_M_goes_88 rfl (by decide) ?_
  exact AW.zret d_M_goes_89 rfl (by decide) rfl rfl ⟨rfl, rfl⟩
theorem k_goes_1_0 (X : ct_X) (z : S_c) (k : S_m) (o : Nat → Int64)  : AF X m_M_goes 0 0 0 [.ref 20, .int (nI (1)), .int (nI (1)), .int (nI (1)), .int (nI (1)), .int (nI (1))] (wL z k o) (.inl (some (.int (nI 1)))) (wL z (k_thr_ k (nI 0)) o) := by
  refine AM.of rfl (Nat.le_of_ble_eq_true rfl) (ls := [some (.ref 20), some (.int (nI (1))), some (.int (nI (1))), some (.int (nI (1))), some (.int (nI (1))), some (.int (nI (1))), none, none]) rfl ?_
  refine AW.iload_n (pc' := 1) d_M_goes_0 rfl rfl rfl ?_
  refine AW.if_ne (tgt := 8) (pc' := 4) d_M_goes_1 (by decide) rfl (fun _ => ?_) (fun h => absurd h (by decide))
  refine AW.iload_n (pc' := 9) d_M_goes_8 rfl rfl rfl ?_
  refine AW.if_ne (tgt := 16) (pc' := 12) d_M_goes_9 (by decide) rfl (fun _ => ?_) (fun h => absurd h (by decide))
  refine AW.iload (pc' := 18) d_M_goes_16 rfl rfl ?_
  refine AW.if_ne (tgt := 25) (pc' := 21) d_M_goes_18 (by decide) rfl (fun _ => ?_) (fun h => absurd h (by decide))
  refine AW.iload (pc' := 27) d_M_goes_25 rfl rfl ?_
  refine AW.if_ne (tgt := 35) (pc' := 30) d_M_goes_27 (by decide) rfl (fun _ => ?_) (fun h => absurd h (by decide))
  refine AW.iconst (pc' := 36) (v := nI 0) d_M_goes_35 rfl (by decide) ?_
  refine AW.istore (pc' := 38) (ls' := [some (.ref 20), some (.int (nI (1))), some (.int (nI (1))), some (.int (nI (1))), some (.int (nI (1))), some (.int (nI (1))), some (.int (nI (0))), none]) d_M_goes_36 rfl rfl rfl ?_
  refine AW.aload_n (pc' := 39) d_M_goes_38 rfl rfl rfl ?_
  refine AW.iconst (pc' := 40) (v := nI 0) d_M_goes_39 rfl (by decide) ?_
  refine AW.putf (pc' := 43) (w' := (wL z (k_thr_ k (nI (0))) o)) d_M_goes_40 rfl fp_M_69 rfl rfl (fun _ => ⟨rfl, rfl⟩) rfl rfl ?_
  refine AW.iconst (pc' := 44) (v := nI 1) d_M_goes_43 rfl (by decide) ?_
  refine AW.istore (pc' := 46) (ls' := [some (.ref 20), some (.int (nI (1))), some (.int (nI (1))), some (.int (nI (1))), some (.int (nI (1))), some (.int (nI (1))), some (.int (nI (0))), some (.int (nI (1)))]) d_M_goes_44 rfl rfl rfl ?_
  refine AW.iload (pc' := 48) d_M_goes_46 rfl rfl ?_
  refine AW.iload (pc' := 50) d_M_goes_48 rfl rfl ?_
  refine AW.icmp_gtN (tgt := 79) (pc' := 53) d_M_goes_50 (by decide) rfl (by decide) (by decide) (fun _ => ?_) (fun h => absurd h (by decide))
  refine AW.iload (pc' := 81) d_M_goes_79 rfl rfl ?_
  refine AW.if_ne (tgt := 88) (pc' := 84) d_M_goes_81 (by decide) rfl (fun h => absurd h (by decide)) (fun _ => ?_)
  refine AW.iconst (pc' := 85) (v := nI 1) d_M_goes_84 rfl (by decide) ?_
  refine AW.goto (tgt := 89) d_M_goes_85 (by decide) ?_
  exact AW.zret d_M_goes_89 rfl (by decide) rfl rfl ⟨rfl, rfl⟩
theorem k_goes_1_1 (X : ct_X) (z : S_c) (k : S_m) (o : Nat → Int64) (a2 a4 a8 : Int32) : AF X m_M_goes 0 0 0 [.ref 20, .int (nI (1)), .int (nI (0)), .int (a2), .int (a4), .int (a8)] (wL z k o) (.inl (some (.int (nI 0)))) (wL z (k_thr_ k (nI 1)) o) := by
  refine AM.of rfl (Nat.le_of_ble_eq_true rfl) (ls := [some (.ref 20), some (.int (nI (1))), some (.int (nI (0))), some (.int (a2)), some (.int (a4)), some (.int (a8)), none, none]) rfl ?_
  refine AW.iload_n (pc' := 1) d_M_goes_0 rfl rfl rfl ?_
  refine AW.if_ne (tgt := 8) (pc' := 4) d_M_goes_1 (by decide) rfl (fun h => absurd h (by decide)) (fun _ => ?_)
  refine AW.iconst (pc' := 5) (v := nI 1) d_M_goes_4 rfl (by decide) ?_
  refine AW.goto (tgt := 36) d_M_goes_5 (by decide) ?_
  refine AW.istore (pc' := 38) (ls' := [some (.ref 20), some (.int (nI (1))), some (.int (nI (0))), some (.int (a2)), some (.int (a4)), some (.int (a8)), some (.int (nI (1))), none]) d_M_goes_36 rfl rfl rfl ?_
  refine AW.aload_n (pc' := 39) d_M_goes_38 rfl rfl rfl ?_
  refine AW.iconst (pc' := 40) (v := nI 0) d_M_goes_39 rfl (by decide) ?_
  refine AW.putf (pc' := 43) (w' := (wL z (k_thr_ k (nI (0))) o)) d_M_goes_40 rfl fp_M_69 rfl rfl (fun _ => ⟨rfl, rfl⟩) rfl rfl ?_
  refine AW.iconst (pc' := 44) (v := nI 1) d_M_goes_43 rfl (by decide) ?_
  refine AW.istore (pc' := 46) (ls' := [some (.ref 20), some (.int (nI (1))), some (.int (nI (0))), some (.int (a2)), some (.int (a4)), some (.int (a8)), some (.int (nI (1))), some (.int (nI (1)))]) d_M_goes_44 rfl rfl rfl ?_
  refine AW.iload (pc' := 48) d_M_goes_46 rfl rfl ?_
  refine AW.iload (pc' := 50) d_M_goes_48 rfl rfl ?_
  refine AW.icmp_gtN (tgt := 79) (pc' := 53) d_M_goes_50 (by decide) rfl (by decide) (by decide) (fun h => absurd h (by decide)) (fun _ => ?_)
  refine AW.iload_n (pc' := 54) d_M_goes_53 rfl rfl rfl ?_
  refine AW.iload (pc' := 56) d_M_goes_54 rfl rfl ?_
  refine AW.iand (pc' := 57) d_M_goes_56 rfl ?_
  refine AW.top (u := .int (nI 1)) (by decide) ?_
  refine AW.if_le (tgt := 70) (pc' := 60) d_M_goes_57 (by decide) rfl (fun h => absurd h (by decide)) (fun _ => ?_)
  refine AW.aload_n (pc' := 61) d_M_goes_60 rfl rfl rfl ?_
  refine AW.dup (pc' := 62) d_M_goes_61 rfl rfl ?_
  refine AW.getf (pc' := 65) d_M_goes_62 rfl fl_M_69 rfl rfl ?_
  refine AW.top (u := .int (nI (0))) rfl ?_
  refine AW.iconst (pc' := 66) (v := nI 1) d_M_goes_65 rfl (by decide) ?_
  refine AW.iadd (pc' := 67) d_M_goes_66 rfl ?_
  refine AW.top (u := .int (nI 1)) (by decide) ?_
  refine AW.putf (pc' := 70) (w' := (wL z (k_thr_ (k_thr_ k (nI (0))) (nI (1))) o)) d_M_goes_67 rfl fp_M_69 rfl rfl (fun _ => ⟨rfl, rfl⟩) rfl rfl ?_
  refine AW.iconst (pc' := 71) (v := nI 2) d_M_goes_70 rfl (by decide) ?_
  refine AW.iload (pc' := 73) d_M_goes_71 rfl rfl ?_
  refine AW.imul (pc' := 74) d_M_goes_73 rfl ?_
  refine AW.top (u := .int (nI 2)) (by decide) ?_
  refine AW.istore (pc' := 76) (ls' := [some (.ref 20), some (.int (nI (1))), some (.int (nI (0))), some (.int (a2)), some (.int (a4)), some (.int (a8)), some (.int (nI (1))), some (.int (nI (2)))]) d_M_goes_74 rfl rfl rfl ?_
  refine AW.goto (tgt := 46) d_M_goes_76 (by decide) ?_
  refine AW.iload (pc' := 48) d_M_goes_46 rfl rfl ?_
  refine AW.iload (pc' := 50) d_M_goes_48 rfl rfl ?_
  refine AW.icmp_gtN (tgt := 79) (pc' := 53) d_M_goes_50 (by decide) rfl (by decide) (by decide) (fun _ => ?_) (fun h => absurd h (by decide))
  refine AW.iload (pc' := 81) d_M_goes_79 rfl rfl ?_
  refine AW.if_ne (tgt := 88) (pc' := 84) d_M_goes_81 (by decide) rfl (fun _ => ?_) (fun h => absurd h (by decide))
  refine AW.iconst (pc' := 89) (v := nI 0) d_M_goes_88 rfl (by decide) ?_
  exact AW.zret d_M_goes_89 rfl (by decide) rfl rfl ⟨rfl, rfl⟩
def fst1 (P : Nat → Bool) : Nat → Nat → Option Nat
  | 0, _ => none
  | n + 1, s => if P s = true then some s else fst1 P n (s + 1)
theorem fst1_some {P : Nat → Bool} : ∀ {n s j : Nat}, fst1 P n s = some j → s ≤ j ∧ j < s + n ∧ P j = true
  | 0, s, j, h => nomatch h
  | n + 1, s, j, h => by
    unfold fst1 at h
    split at h
    · cases h
      exact ⟨Nat.le_refl _, by omega, by assumption⟩
    · obtain ⟨h1, h2, h3⟩ := fst1_some h
      exact ⟨by omega, by omega, h3⟩
theorem fst1_none {P : Nat → Bool} : ∀ {n s : Nat}, fst1 P n s = none → ∀ j, s ≤ j → j < s + n → P j = false
  | 0, s, h, j, h1, h2 => absurd h2 (by omega)
  | n + 1, s, h, j, h1, h2 => by
    unfold fst1 at h
    split at h
    · cases h
    · rename_i h3
      by_cases e : j = s
      · subst e
        simpa using h3
      · exact fst1_none h j (by omega) (by omega)
def leadsB (k : S_m) (p : Int32) (s : Nat) : Bool := decide (k_ldr k s = p)
def f_leads (k : S_m) (p : Int32) : Option Nat := fst1 (leadsB k p) (k_ns k) 0
theorem f_leads_some {k : S_m} {p : Int32} {s : Nat} (h : f_leads k p = some s) : s < k_ns k ∧ k_ldr k s = p := by
  obtain ⟨-, h2, h3⟩ := fst1_some h
  exact ⟨by omega, of_decide_eq_true h3⟩
theorem f_leads_none {k : S_m} {p : Int32} (h : f_leads k p = none) : ∀ s, s < k_ns k → ¬ k_ldr k s = p := fun s hs => of_decide_eq_false (fst1_none h s (by omega) (by omega))
theorem lp_leads (X : ct_X) (z : S_c) (k : S_m) (o : Nat → Int64) (p : Int32) (hn : k_ns k ≤ 20) : ∀ (n i : Nat), i + n = k_ns k → AW X m_M_leads 0 0 0 0 0 2 [some (.ref 20), some (.int (p)), some (.int (nI (i)))] [] (wL z k o) (fun r w' => r = .inl (some (.int (oI (fst1 (leadsB k p) n i)))) ∧ w' = wL z k o) := by
  intro n
  induction n with
  | zero =>
    intro i hi
    refine AW.iload_n (pc' := 3) d_M_leads_2 rfl rfl rfl ?_
    refine AW.aload_n (pc' := 4) d_M_leads_3 rfl rfl rfl ?_
    refine AW.getf (pc' := 7) d_M_leads_4 rfl fl_M_22 rfl rfl ?_
    refine AW.icmp_geN (tgt := 28) (pc' := 10) d_M_leads_7 (by decide) rfl (by omega) (by omega) (fun h7 => ?_) (fun h => absurd h (by omega))
    refine AW.iconst (pc' := 29) (v := (-1)) d_M_leads_28 rfl (by decide) ?_
    exact AW.iret d_M_leads_29 rfl rfl rfl ⟨rfl, rfl⟩
  | succ n ih =>
    intro i hi
    refine AW.iload_n (pc' := 3) d_M_leads_2 rfl rfl rfl ?_
    refine AW.aload_n (pc' := 4) d_M_leads_3 rfl rfl rfl ?_
    refine AW.getf (pc' := 7) d_M_leads_4 rfl fl_M_22 rfl rfl ?_
    refine AW.icmp_geN (tgt := 28) (pc' := 10) d_M_leads_7 (by decide) rfl (by omega) (by omega) (fun h => absurd h (by omega)) (fun h7 => ?_)
    refine AW.aload_n (pc' := 11) d_M_leads_10 rfl rfl rfl ?_
    refine AW.getf (pc' := 14) d_M_leads_11 rfl fl_M_33 rfl rfl ?_
    refine AW.iload_n (pc' := 15) d_M_leads_14 rfl rfl rfl ?_
    refine AW.ialdN (pc' := 16) d_M_leads_15 rfl rfl (by omega) (by decide) ?_
    refine AW.iload_n (pc' := 17) d_M_leads_16 rfl rfl rfl ?_
    refine AW.icmp_ne (tgt := 22) (pc' := 20) d_M_leads_17 (by decide) rfl (fun h17 => ?_) (fun h17 => ?_)
    · refine AW.iincN (pc' := 25) (ls' := [some (.ref 20), some (.int (p)), some (.int (nI (i + 1)))]) d_M_leads_22 rfl rfl rfl rfl ?_
      refine AW.goto (tgt := 2) d_M_leads_25 (by decide) ?_
      have h9 := ih (i + 1) (by omega)
      rw [show fst1 (leadsB k p) (n + 1) i = fst1 (leadsB k p) n (i + 1) from by rw [fst1, if_neg (by simp [leadsB, h17])]]
      exact h9
    · refine AW.iload_n (pc' := 21) d_M_leads_20 rfl rfl rfl ?_
      exact AW.iret d_M_leads_21 rfl rfl rfl ⟨by rw [fst1, if_pos (by simp [leadsB, h17])]; rfl, rfl⟩
theorem k_leads (X : ct_X) (z : S_c) (k : S_m) (o : Nat → Int64) (p : Int32) (hn : k_ns k ≤ 20) : AF X m_M_leads 0 0 0 [.ref 20, .int (p)] (wL z k o) (.inl (some (.int (oI (f_leads k p))))) (wL z k o) := by
  refine AM.of rfl (Nat.le_of_ble_eq_true rfl) (ls := [some (.ref 20), some (.int (p)), none]) rfl ?_
  refine AW.iconst (pc' := 1) (v := nI 0) d_M_leads_0 rfl (by decide) ?_
  refine AW.istore_n (pc' := 2) (ls' := [some (.ref 20), some (.int (p)), some (.int (nI (0)))]) d_M_leads_1 rfl rfl rfl rfl ?_
  exact lp_leads X z k o p hn (k_ns k) 0 (by omega)
theorem k_leads_n (X : ct_X) (z : S_c) (k : S_m) (o : Nat → Int64) (p : Int32) (hn : k_ns k ≤ 20) (h : f_leads k p = none) : AF X m_M_leads 0 0 0 [.ref 20, .int p] (wL z k o) (.inl (some (.int (-1)))) (wL z k o) := by
  have h9 := k_leads X z k o p hn
  rw [h] at h9
  exact h9
theorem k_leads_s (X : ct_X) (z : S_c) (k : S_m) (o : Nat → Int64) (p : Int32) (t : Nat) (hn : k_ns k ≤ 20) (h : f_leads k p = some t) : AF X m_M_leads 0 0 0 [.ref 20, .int p] (wL z k o) (.inl (some (.int (nI t)))) (wL z k o) := by
  have h9 := k_leads X z k o p hn
  rw [h] at h9
  exact h9
def f_row1 (k : S_m) (s p : Int32) (i : Nat) : S_m := k_rows_ (k_rt_ (k_rl_ (k_rs_ k (upd (k_rs k) i s)) (upd (k_rl k) i p)) (upd (k_rt k) i (nI (k_now k)))) (k_rows k + 1)
def f_row0 (k : S_m) (i j : Nat) : S_m := k_lost_ (k_bef_ k (upd (k_bef k) j (k_rl k i))) (k_rt k i)
def f_row (k : S_m) (s p : Int32) : S_m := if k_rows k < 400 then f_row1 k s p (k_rows k % 400) else f_row1 (f_row0 k (k_rows k % 400) (k_rs k (k_rows k % 400)).toNatClampNeg) s p (k_rows k % 400)
/-- the sectors of the reference's rows are in range -/
def RowK (k : S_m) : Prop := ∀ i, i < 400 → ∃ j, j < 20 ∧ k_rs k i = nI j
theorem k_row_s (X : ct_X) (z : S_c) (k : S_m) (o : Nat → Int64) (s p : Int32) (hr : k_rows k < 400) : AF X m_M_row 0 0 0 [.ref 20, .int (s), .int (p)] (wL z k o) (.inl none) (wL z (f_row1 k s p (k_rows k % 400)) o) := by
  have hi : k_rows k % 400 < 400 := Nat.mod_lt _ (by decide)
  refine AM.of rfl (Nat.le_of_ble_eq_true rfl) (ls := [some (.ref 20), some (.int (s)), some (.int (p)), none]) rfl ?_
  refine AW.aload_n (pc' := 1) d_M_row_0 rfl rfl rfl ?_
  refine AW.getf (pc' := 4) d_M_row_1 rfl fl_M_86 rfl rfl ?_
  refine AW.sipush (pc' := 7) (v := nI 400) d_M_row_4 rfl (by decide) ?_
  refine AW.irem (pc' := 8) d_M_row_7 rfl (by decide) ?_
  refine AW.top (u := .int (nI ((k_rows k) % 400))) (by rw [pk_rem (by omega) (by decide) (by decide)]) ?_
  refine AW.istore_n (pc' := 9) (ls' := [some (.ref 20), some (.int (s)), some (.int (p)), some (.int (nI ((k_rows k) % 400)))]) d_M_row_8 rfl rfl rfl rfl ?_
  refine AW.aload_n (pc' := 10) d_M_row_9 rfl rfl rfl ?_
  refine AW.getf (pc' := 13) d_M_row_10 rfl fl_M_86 rfl rfl ?_
  refine AW.sipush (pc' := 16) (v := nI 400) d_M_row_13 rfl (by decide) ?_
  refine AW.icmp_ltN (tgt := 46) (pc' := 19) d_M_row_16 (by decide) rfl (by omega) (by omega) (fun h16 => ?_) (fun h => absurd h (by omega))
  refine AW.aload_n (pc' := 47) d_M_row_46 rfl rfl rfl ?_
  refine AW.getf (pc' := 50) d_M_row_47 rfl fl_M_54 rfl rfl ?_
  refine AW.iload_n (pc' := 51) d_M_row_50 rfl rfl rfl ?_
  refine AW.iload_n (pc' := 52) d_M_row_51 rfl rfl rfl ?_
  refine AW.iastN (pc' := 53) (w' := (wL z (k_rs_ k (upd (k_rs k) ((k_rows k) % 400) s)) o)) d_M_row_52 rfl rfl hi (by decide) rfl ?_
  refine AW.aload_n (pc' := 54) d_M_row_53 rfl rfl rfl ?_
  refine AW.getf (pc' := 57) d_M_row_54 rfl fl_M_57 rfl rfl ?_
  refine AW.iload_n (pc' := 58) d_M_row_57 rfl rfl rfl ?_
  refine AW.iload_n (pc' := 59) d_M_row_58 rfl rfl rfl ?_
  refine AW.iastN (pc' := 60) (w' := (wL z (k_rl_ (k_rs_ k (upd (k_rs k) ((k_rows k) % 400) s)) (upd (k_rl k) ((k_rows k) % 400) p)) o)) d_M_row_59 rfl rfl hi (by decide) rfl ?_
  refine AW.aload_n (pc' := 61) d_M_row_60 rfl rfl rfl ?_
  refine AW.getf (pc' := 64) d_M_row_61 rfl fl_M_60 rfl rfl ?_
  refine AW.iload_n (pc' := 65) d_M_row_64 rfl rfl rfl ?_
  refine AW.aload_n (pc' := 66) d_M_row_65 rfl rfl rfl ?_
  refine AW.getf (pc' := 69) d_M_row_66 rfl fl_M_89 rfl rfl ?_
  refine AW.top (u := .int (nI (k_now k))) rfl ?_
  refine AW.iastN (pc' := 70) (w' := (wL z (k_rt_ (k_rl_ (k_rs_ k (upd (k_rs k) ((k_rows k) % 400) s)) (upd (k_rl k) ((k_rows k) % 400) p)) (upd (k_rt k) ((k_rows k) % 400) (nI (k_now k)))) o)) d_M_row_69 rfl rfl hi (by decide) rfl ?_
  refine AW.aload_n (pc' := 71) d_M_row_70 rfl rfl rfl ?_
  refine AW.dup (pc' := 72) d_M_row_71 rfl rfl ?_
  refine AW.getf (pc' := 75) d_M_row_72 rfl fl_M_86 rfl rfl ?_
  refine AW.top (u := .int (nI (k_rows k))) rfl ?_
  refine AW.iconst (pc' := 76) (v := nI 1) d_M_row_75 rfl (by decide) ?_
  refine AW.iaddN (pc' := 77) d_M_row_76 rfl ?_
  refine AW.putf (pc' := 80) (w' := (wL z (k_rows_ (k_rt_ (k_rl_ (k_rs_ k (upd (k_rs k) ((k_rows k) % 400) s)) (upd (k_rl k) ((k_rows k) % 400) p)) (upd (k_rt k) ((k_rows k) % 400) (nI (k_now k)))) ((k_rows k) + 1)) o)) d_M_row_77 rfl fp_M_86 rfl rfl (fun _ => ⟨rfl, rfl⟩) rfl rfl ?_
  exact AW.vret d_M_row_80 rfl rfl rfl ⟨rfl, rfl⟩
theorem k_row_f (X : ct_X) (z : S_c) (k : S_m) (o : Nat → Int64) (s p : Int32) (j : Nat) (hr : 400 ≤ k_rows k) (hr2 : k_rows k < 2 ^ 31) (hj : j < 20) (ej : k_rs k (k_rows k % 400) = nI j) : AF X m_M_row 0 0 0 [.ref 20, .int (s), .int (p)] (wL z k o) (.inl none) (wL z (f_row1 (f_row0 k (k_rows k % 400) j) s p (k_rows k % 400)) o) := by
  have hi : k_rows k % 400 < 400 := Nat.mod_lt _ (by decide)
  refine AM.of rfl (Nat.le_of_ble_eq_true rfl) (ls := [some (.ref 20), some (.int (s)), some (.int (p)), none]) rfl ?_
  refine AW.aload_n (pc' := 1) d_M_row_0 rfl rfl rfl ?_
  refine AW.getf (pc' := 4) d_M_row_1 rfl fl_M_86 rfl rfl ?_
  refine AW.sipush (pc' := 7) (v := nI 400) d_M_row_4 rfl (by decide) ?_
  refine AW.irem (pc' := 8) d_M_row_7 rfl (by decide) ?_
  refine AW.top (u := .int (nI ((k_rows k) % 400))) (by rw [pk_rem (by omega) (by decide) (by decide)]) ?_
  refine AW.istore_n (pc' := 9) (ls' := [some (.ref 20), some (.int (s)), some (.int (p)), some (.int (nI ((k_rows k) % 400)))]) d_M_row_8 rfl rfl rfl rfl ?_
  refine AW.aload_n (pc' := 10) d_M_row_9 rfl rfl rfl ?_
  refine AW.getf (pc' := 13) d_M_row_10 rfl fl_M_86 rfl rfl ?_
  refine AW.sipush (pc' := 16) (v := nI 400) d_M_row_13 rfl (by decide) ?_
  refine AW.icmp_ltN (tgt := 46) (pc' := 19) d_M_row_16 (by decide) rfl (by omega) (by omega) (fun h => absurd h (by omega)) (fun h16 => ?_)
  refine AW.aload_n (pc' := 20) d_M_row_19 rfl rfl rfl ?_
  refine AW.getf (pc' := 23) d_M_row_20 rfl fl_M_63 rfl rfl ?_
  refine AW.aload_n (pc' := 24) d_M_row_23 rfl rfl rfl ?_
  refine AW.getf (pc' := 27) d_M_row_24 rfl fl_M_54 rfl rfl ?_
  refine AW.iload_n (pc' := 28) d_M_row_27 rfl rfl rfl ?_
  refine AW.ialdN (pc' := 29) d_M_row_28 rfl rfl hi (by decide) ?_
  refine AW.top (u := .int (nI j)) (by rw [ej]) ?_
  refine AW.aload_n (pc' := 30) d_M_row_29 rfl rfl rfl ?_
  refine AW.getf (pc' := 33) d_M_row_30 rfl fl_M_57 rfl rfl ?_
  refine AW.iload_n (pc' := 34) d_M_row_33 rfl rfl rfl ?_
  refine AW.ialdN (pc' := 35) d_M_row_34 rfl rfl hi (by decide) ?_
  refine AW.iastN (pc' := 36) (w' := (wL z (k_bef_ k (upd (k_bef k) j ((k_rl k) ((k_rows k) % 400)))) o)) d_M_row_35 rfl rfl hj (by decide) rfl ?_
  refine AW.aload_n (pc' := 37) d_M_row_36 rfl rfl rfl ?_
  refine AW.aload_n (pc' := 38) d_M_row_37 rfl rfl rfl ?_
  refine AW.getf (pc' := 41) d_M_row_38 rfl fl_M_60 rfl rfl ?_
  refine AW.iload_n (pc' := 42) d_M_row_41 rfl rfl rfl ?_
  refine AW.ialdN (pc' := 43) d_M_row_42 rfl rfl hi (by decide) ?_
  refine AW.top (u := .int ((k_rt k) ((k_rows k) % 400))) rfl ?_
  refine AW.putf (pc' := 46) (w' := (wL z (k_lost_ (k_bef_ k (upd (k_bef k) j ((k_rl k) ((k_rows k) % 400)))) ((k_rt k) ((k_rows k) % 400))) o)) d_M_row_43 rfl fp_M_66 rfl rfl (fun _ => ⟨rfl, rfl⟩) rfl rfl ?_
  refine AW.aload_n (pc' := 47) d_M_row_46 rfl rfl rfl ?_
  refine AW.getf (pc' := 50) d_M_row_47 rfl fl_M_54 rfl rfl ?_
  refine AW.iload_n (pc' := 51) d_M_row_50 rfl rfl rfl ?_
  refine AW.iload_n (pc' := 52) d_M_row_51 rfl rfl rfl ?_
  refine AW.iastN (pc' := 53) (w' := (wL z (k_rs_ (k_lost_ (k_bef_ k (upd (k_bef k) j ((k_rl k) ((k_rows k) % 400)))) ((k_rt k) ((k_rows k) % 400))) (upd (k_rs k) ((k_rows k) % 400) s)) o)) d_M_row_52 rfl rfl hi (by decide) rfl ?_
  refine AW.aload_n (pc' := 54) d_M_row_53 rfl rfl rfl ?_
  refine AW.getf (pc' := 57) d_M_row_54 rfl fl_M_57 rfl rfl ?_
  refine AW.iload_n (pc' := 58) d_M_row_57 rfl rfl rfl ?_
  refine AW.iload_n (pc' := 59) d_M_row_58 rfl rfl rfl ?_
  refine AW.iastN (pc' := 60) (w' := (wL z (k_rl_ (k_rs_ (k_lost_ (k_bef_ k (upd (k_bef k) j ((k_rl k) ((k_rows k) % 400)))) ((k_rt k) ((k_rows k) % 400))) (upd (k_rs k) ((k_rows k) % 400) s)) (upd (k_rl k) ((k_rows k) % 400) p)) o)) d_M_row_59 rfl rfl hi (by decide) rfl ?_
  refine AW.aload_n (pc' := 61) d_M_row_60 rfl rfl rfl ?_
  refine AW.getf (pc' := 64) d_M_row_61 rfl fl_M_60 rfl rfl ?_
  refine AW.iload_n (pc' := 65) d_M_row_64 rfl rfl rfl ?_
  refine AW.aload_n (pc' := 66) d_M_row_65 rfl rfl rfl ?_
  refine AW.getf (pc' := 69) d_M_row_66 rfl fl_M_89 rfl rfl ?_
  refine AW.top (u := .int (nI (k_now k))) rfl ?_
  refine AW.iastN (pc' := 70) (w' := (wL z (k_rt_ (k_rl_ (k_rs_ (k_lost_ (k_bef_ k (upd (k_bef k) j ((k_rl k) ((k_rows k) % 400)))) ((k_rt k) ((k_rows k) % 400))) (upd (k_rs k) ((k_rows k) % 400) s)) (upd (k_rl k) ((k_rows k) % 400) p)) (upd (k_rt k) ((k_rows k) % 400) (nI (k_now k)))) o)) d_M_row_69 rfl rfl hi (by decide) rfl ?_
  refine AW.aload_n (pc' := 71) d_M_row_70 rfl rfl rfl ?_
  refine AW.dup (pc' := 72) d_M_row_71 rfl rfl ?_
  refine AW.getf (pc' := 75) d_M_row_72 rfl fl_M_86 rfl rfl ?_
  refine AW.top (u := .int (nI (k_rows k))) rfl ?_
  refine AW.iconst (pc' := 76) (v := nI 1) d_M_row_75 rfl (by decide) ?_
  refine AW.iaddN (pc' := 77) d_M_row_76 rfl ?_
  refine AW.putf (pc' := 80) (w' := (wL z (k_rows_ (k_rt_ (k_rl_ (k_rs_ (k_lost_ (k_bef_ k (upd (k_bef k) j ((k_rl k) ((k_rows k) % 400)))) ((k_rt k) ((k_rows k) % 400))) (upd (k_rs k) ((k_rows k) % 400) s)) (upd (k_rl k) ((k_rows k) % 400) p)) (upd (k_rt k) ((k_rows k) % 400) (nI (k_now k)))) ((k_rows k) + 1)) o)) d_M_row_77 rfl fp_M_86 rfl rfl (fun _ => ⟨rfl, rfl⟩) rfl rfl ?_
  exact AW.vret d_M_row_80 rfl rfl rfl ⟨rfl, rfl⟩
theorem k_row (X : ct_X) (z : S_c) (k : S_m) (o : Nat → Int64) (s p : Int32) (hr2 : k_rows k < 2 ^ 31) (hK : RowK k) : AF X m_M_row 0 0 0 [.ref 20, .int s, .int p] (wL z k o) (.inl none) (wL z (f_row k s p) o) := by
  by_cases hr : k_rows k < 400
  · have e : f_row k s p = f_row1 k s p (k_rows k % 400) := by rw [f_row, if_pos hr]
    rw [e]
    exact k_row_s X z k o s p hr
  · obtain ⟨j, hj, ej⟩ := hK (k_rows k % 400) (Nat.mod_lt _ (by decide))
    have e : f_row k s p = f_row1 (f_row0 k (k_rows k % 400) j) s p (k_rows k % 400) := by rw [f_row, if_neg hr, ej, nI_clamp (by omega)]
    rw [e]
    exact k_row_f X z k o s p j (by omega) hr2 hj ej
theorem rep0 (f : Nat → Int32) (a b : Int32) (n : Nat) : (fun j => if (0 ≤ j ∧ j < n) ∧ f j = a then b else f j) = rep f a b n := by
  funext j
  unfold rep
  by_cases h : j < n ∧ f j = a
  · rw [if_pos h, if_pos ⟨⟨by omega, h.1⟩, h.2⟩]
  · rw [if_neg h, if_neg (fun q => h ⟨q.1.2, q.2⟩)]
theorem lp_klead (X : ct_X) (z : S_c) (k : S_m) (o : Nat → Int64) (s : Int32) (rr : Nat) (hr : rr < 40) (hn : k_ns k ≤ 20) : ∀ (n i : Nat) (g : Nat → Int32), i + n = k_ns k → AW X m_M_lead 1 0 0 0 0 33 [some (.ref 20), some (.int (s)), some (.int (nI (rr))), some (.int (nI (i)))] [] (wL z (k_off_ k g) o) (fun r w' => r = .inl none ∧ w' = wL z (k_off_ k (fun j => if (i ≤ j ∧ j < k_ns k) ∧ g j = nI rr then -1 else g j)) o) := by
  intro n
  induction n with
  | zero =>
    intro i g hi
    have e : (fun j => if (i ≤ j ∧ j < k_ns k) ∧ g j = nI rr then -1 else g j) = g := by
      funext j
      rw [if_neg (by omega)]
    rw [e]
    have e2 : i = k_ns k := by omega
    refine AW.iload_n (pc' := 34) d_M_lead_33 rfl rfl rfl ?_
    refine AW.aload_n (pc' := 35) d_M_lead_34 rfl rfl rfl ?_
    refine AW.getf (pc' := 38) d_M_lead_35 rfl fl_M_22 rfl rfl ?_
    refine AW.top (u := .int (nI (k_ns k))) rfl ?_
    refine AW.icmp_geN (tgt := 68) (pc' := 41) d_M_lead_38 (by decide) rfl (by omega) (by omega) (fun h38 => ?_) (fun h => absurd h (by omega))
    exact AW.vret d_M_lead_68 rfl rfl rfl ⟨rfl, rfl⟩
  | succ n ih =>
    intro i g hi
    refine AW.iload_n (pc' := 34) d_M_lead_33 rfl rfl rfl ?_
    refine AW.aload_n (pc' := 35) d_M_lead_34 rfl rfl rfl ?_
    refine AW.getf (pc' := 38) d_M_lead_35 rfl fl_M_22 rfl rfl ?_
    refine AW.top (u := .int (nI (k_ns k))) rfl ?_
    refine AW.icmp_geN (tgt := 68) (pc' := 41) d_M_lead_38 (by decide) rfl (by omega) (by omega) (fun h => absurd h (by omega)) (fun h38 => ?_)
    refine AW.iload_n (pc' := 42) d_M_lead_41 rfl rfl rfl ?_
    refine AW.if_lt (tgt := 62) (pc' := 45) d_M_lead_42 (by decide) rfl (fun h => absurd h (nI_pos (by omega))) (fun _ => ?_)
    refine AW.aload_n (pc' := 46) d_M_lead_45 rfl rfl rfl ?_
    refine AW.getf (pc' := 49) d_M_lead_46 rfl fl_M_36 rfl rfl ?_
    refine AW.iload_n (pc' := 50) d_M_lead_49 rfl rfl rfl ?_
    refine AW.ialdN (pc' := 51) d_M_lead_50 rfl rfl (by omega) (by decide) ?_
    refine AW.top (u := .int (g i)) rfl ?_
    refine AW.iload_n (pc' := 52) d_M_lead_51 rfl rfl rfl ?_
    refine AW.icmp_ne (tgt := 62) (pc' := 55) d_M_lead_52 (by decide) rfl (fun h52 => ?_) (fun h52 => ?_)
    · refine AW.iincN (pc' := 65) (ls' := [some (.ref 20), some (.int (s)), some (.int (nI (rr))), some (.int (nI (i + 1)))]) d_M_lead_62 rfl rfl rfl rfl ?_
      refine AW.goto (tgt := 33) d_M_lead_65 (by decide) ?_
      have e : (fun j => if (i + 1 ≤ j ∧ j < k_ns k) ∧ g j = nI rr then -1 else g j) = (fun j => if (i ≤ j ∧ j < k_ns k) ∧ g j = nI rr then -1 else g j) := by
        funext j
        by_cases hj : j = i
        · subst hj
          rw [if_neg (by omega), if_neg (fun q => absurd q.2 h52)]
        · skip
          by_cases h1 : (i ≤ j ∧ j < k_ns k) ∧ g j = nI rr
          · rw [if_pos h1, if_pos ⟨by omega, h1.2⟩]
          · rw [if_neg h1, if_neg (fun q => h1 ⟨by omega, q.2⟩)]
      have h9 := ih (i + 1) g (by omega)
      rw [e] at h9
      exact AW.wld rfl h9
    · refine AW.aload_n (pc' := 56) d_M_lead_55 rfl rfl rfl ?_
      refine AW.getf (pc' := 59) d_M_lead_56 rfl fl_M_36 rfl rfl ?_
      refine AW.iload_n (pc' := 60) d_M_lead_59 rfl rfl rfl ?_
      refine AW.iconst (pc' := 61) (v := (-1)) d_M_lead_60 rfl (by decide) ?_
      refine AW.iastN (pc' := 62) (w' := (wL z (k_off_ (k_off_ k (g)) (upd g i ((-1)))) o)) d_M_lead_61 rfl rfl (by omega) (by decide) rfl ?_
      refine AW.iincN (pc' := 65) (ls' := [some (.ref 20), some (.int (s)), some (.int (nI (rr))), some (.int (nI (i + 1)))]) d_M_lead_62 rfl rfl rfl rfl ?_
      refine AW.goto (tgt := 33) d_M_lead_65 (by decide) ?_
      have e : (fun j => if (i + 1 ≤ j ∧ j < k_ns k) ∧ (upd g i (-1)) j = nI rr then -1 else (upd g i (-1)) j) = (fun j => if (i ≤ j ∧ j < k_ns k) ∧ g j = nI rr then -1 else g j) := by
        funext j
        by_cases hj : j = i
        · subst hj
          rw [if_neg (by omega), pk_us, if_pos ⟨by omega, h52⟩]
        · rw [pk_un hj]
          by_cases h1 : (i ≤ j ∧ j < k_ns k) ∧ g j = nI rr
          · rw [if_pos h1, if_pos ⟨by omega, h1.2⟩]
          · rw [if_neg h1, if_neg (fun q => h1 ⟨by omega, q.2⟩)]
      have h9 := ih (i + 1) (upd g i (-1)) (by omega)
      rw [e] at h9
      exact AW.wld rfl h9
theorem lp_klead0 (X : ct_X) (z : S_c) (k : S_m) (o : Nat → Int64) (s : Int32) (hn : k_ns k ≤ 20) : ∀ (n i : Nat), i + n = k_ns k → AW X m_M_lead 1 0 0 0 0 33 [some (.ref 20), some (.int (s)), some (.int ((-1))), some (.int (nI (i)))] [] (wL z k o) (fun r w' => r = .inl none ∧ w' = wL z k o) := by
  intro n
  induction n with
  | zero =>
    intro i hi
    refine AW.iload_n (pc' := 34) d_M_lead_33 rfl rfl rfl ?_
    refine AW.aload_n (pc' := 35) d_M_lead_34 rfl rfl rfl ?_
    refine AW.getf (pc' := 38) d_M_lead_35 rfl fl_M_22 rfl rfl ?_
    refine AW.icmp_geN (tgt := 68) (pc' := 41) d_M_lead_38 (by decide) rfl (by omega) (by omega) (fun h38 => ?_) (fun h => absurd h (by omega))
    exact AW.vret d_M_lead_68 rfl rfl rfl ⟨rfl, rfl⟩
  | succ n ih =>
    intro i hi
    refine AW.iload_n (pc' := 34) d_M_lead_33 rfl rfl rfl ?_
    refine AW.aload_n (pc' := 35) d_M_lead_34 rfl rfl rfl ?_
    refine AW.getf (pc' := 38) d_M_lead_35 rfl fl_M_22 rfl rfl ?_
    refine AW.icmp_geN (tgt := 68) (pc' := 41) d_M_lead_38 (by decide) rfl (by omega) (by omega) (fun h => absurd h (by omega)) (fun h38 => ?_)
    refine AW.iload_n (pc' := 42) d_M_lead_41 rfl rfl rfl ?_
    refine AW.if_lt (tgt := 62) (pc' := 45) d_M_lead_42 (by decide) rfl (fun h42 => ?_) (fun h => absurd (by decide) h)
    refine AW.iincN (pc' := 65) (ls' := [some (.ref 20), some (.int (s)), some (.int ((-1))), some (.int (nI (i + 1)))]) d_M_lead_62 rfl rfl rfl rfl ?_
    refine AW.goto (tgt := 33) d_M_lead_65 (by decide) ?_
    exact ih (i + 1) (by omega)
def f_kl0 (k : S_m) (s : Nat) (p : Option Nat) : S_m := f_row (k_off_ (k_ldr_ k (upd (k_ldr k) s (oI p))) (upd (k_off k) s (-1))) (nI s) (oI p)
def f_kl1 (k : S_m) (s : Nat) (p : Option Nat) : S_m := match p with
  | none => f_kl0 k s p
  | some r => k_off_ (f_kl0 k s p) (rep (k_off (f_kl0 k s p)) (nI r) (-1) (k_ns (f_kl0 k s p)))
def f_kl (k : S_m) (s : Nat) (p : Option Nat) : S_m := if k_ldr k s = oI p then k else f_kl1 k s p
theorem row_ns (k : S_m) (s p : Int32) : k_ns (f_row k s p) = k_ns k := by
  unfold f_row
  split <;> rfl
theorem k_lead_eq (X : ct_X) (z : S_c) (k : S_m) (o : Nat → Int64) (s : Nat) (p : Int32) (hs : s < 20) (h : k_ldr k s = p) : AF X m_M_lead 1 0 0 [.ref 20, .int (nI (s)), .int (p)] (wL z k o) (.inl none) (wL z k o) := by
  refine AM.of rfl (Nat.le_of_ble_eq_true rfl) (ls := [some (.ref 20), some (.int (nI (s))), some (.int (p)), none]) rfl ?_
  refine AW.aload_n (pc' := 1) d_M_lead_0 rfl rfl rfl ?_
  refine AW.getf (pc' := 4) d_M_lead_1 rfl fl_M_33 rfl rfl ?_
  refine AW.iload_n (pc' := 5) d_M_lead_4 rfl rfl rfl ?_
  refine AW.ialdN (pc' := 6) d_M_lead_5 rfl rfl (by omega) (by decide) ?_
  refine AW.iload_n (pc' := 7) d_M_lead_6 rfl rfl rfl ?_
  refine AW.icmp_ne (tgt := 11) (pc' := 10) d_M_lead_7 (by decide) rfl (fun h => absurd ‹k_ldr k s = p› h) (fun h7 => ?_)
  exact AW.vret d_M_lead_10 rfl rfl rfl ⟨rfl, rfl⟩
theorem k_lead_n (X : ct_X) (z : S_c) (k : S_m) (o : Nat → Int64) (s : Nat) (hs : s < 20) (hn : k_ns k ≤ 20) (hr2 : k_rows k < 2 ^ 31) (hK : RowK k) (hne : ¬ k_ldr k s = -1) : AF X m_M_lead 1 0 0 [.ref 20, .int (nI (s)), .int ((-1))] (wL z k o) (.inl none) (wL z (f_kl1 k s none) o) := by
  refine AM.of rfl (Nat.le_of_ble_eq_true rfl) (ls := [some (.ref 20), some (.int (nI (s))), some (.int ((-1))), none]) rfl ?_
  refine AW.aload_n (pc' := 1) d_M_lead_0 rfl rfl rfl ?_
  refine AW.getf (pc' := 4) d_M_lead_1 rfl fl_M_33 rfl rfl ?_
  refine AW.iload_n (pc' := 5) d_M_lead_4 rfl rfl rfl ?_
  refine AW.ialdN (pc' := 6) d_M_lead_5 rfl rfl (by omega) (by decide) ?_
  refine AW.iload_n (pc' := 7) d_M_lead_6 rfl rfl rfl ?_
  refine AW.icmp_ne (tgt := 11) (pc' := 10) d_M_lead_7 (by decide) rfl (fun h7 => ?_) (fun h => absurd h hne)
  refine AW.aload_n (pc' := 12) d_M_lead_11 rfl rfl rfl ?_
  refine AW.getf (pc' := 15) d_M_lead_12 rfl fl_M_33 rfl rfl ?_
  refine AW.iload_n (pc' := 16) d_M_lead_15 rfl rfl rfl ?_
  refine AW.iload_n (pc' := 17) d_M_lead_16 rfl rfl rfl ?_
  refine AW.iastN (pc' := 18) (w' := (wL z (k_ldr_ k (upd (k_ldr k) s ((-1)))) o)) d_M_lead_17 rfl rfl (by omega) (by decide) rfl ?_
  refine AW.aload_n (pc' := 19) d_M_lead_18 rfl rfl rfl ?_
  refine AW.getf (pc' := 22) d_M_lead_19 rfl fl_M_36 rfl rfl ?_
  refine AW.iload_n (pc' := 23) d_M_lead_22 rfl rfl rfl ?_
  refine AW.iconst (pc' := 24) (v := (-1)) d_M_lead_23 rfl (by decide) ?_
  refine AW.iastN (pc' := 25) (w' := (wL z (k_off_ (k_ldr_ k (upd (k_ldr k) s ((-1)))) (upd (k_off k) s ((-1)))) o)) d_M_lead_24 rfl rfl (by omega) (by decide) rfl ?_
  refine AW.aload_n (pc' := 26) d_M_lead_25 rfl rfl rfl ?_
  refine AW.iload_n (pc' := 27) d_M_lead_26 rfl rfl rfl ?_
  refine AW.iload_n (pc' := 28) d_M_lead_27 rfl rfl rfl ?_
  refine AW.cV (pc' := 31) d_M_lead_28 rfl cv_M_92 (by decide) rfl rfl rfl (k_row X z (k_off_ (k_ldr_ k (upd (k_ldr k) s (-1))) (upd (k_off k) s (-1))) o (nI s) (-1) hr2 hK) rfl rfl rfl rfl rfl rfl rfl ?_
  refine AW.iconst (pc' := 32) (v := nI 0) d_M_lead_31 rfl (by decide) ?_
  refine AW.istore_n (pc' := 33) (ls' := [some (.ref 20), some (.int (nI (s))), some (.int ((-1))), some (.int (nI (0)))]) d_M_lead_32 rfl rfl rfl rfl ?_
  exact lp_klead0 X z (f_kl0 k s none) o (nI s) (by show k_ns (f_row _ _ _) ≤ 20; rw [row_ns]; exact hn) (k_ns (f_kl0 k s none)) 0 (by omega)
theorem k_lead_s (X : ct_X) (z : S_c) (k : S_m) (o : Nat → Int64) (s r : Nat) (hr : r < 40) (hs : s < 20) (hn : k_ns k ≤ 20) (hr2 : k_rows k < 2 ^ 31) (hK : RowK k) (hne : ¬ k_ldr k s = nI r) : AF X m_M_lead 1 0 0 [.ref 20, .int (nI (s)), .int (nI (r))] (wL z k o) (.inl none) (wL z (f_kl1 k s (some r)) o) := by
  refine AM.of rfl (Nat.le_of_ble_eq_true rfl) (ls := [some (.ref 20), some (.int (nI (s))), some (.int (nI (r))), none]) rfl ?_
  refine AW.aload_n (pc' := 1) d_M_lead_0 rfl rfl rfl ?_
  refine AW.getf (pc' := 4) d_M_lead_1 rfl fl_M_33 rfl rfl ?_
  refine AW.iload_n (pc' := 5) d_M_lead_4 rfl rfl rfl ?_
  refine AW.ialdN (pc' := 6) d_M_lead_5 rfl rfl (by omega) (by decide) ?_
  refine AW.iload_n (pc' := 7) d_M_lead_6 rfl rfl rfl ?_
  refine AW.icmp_ne (tgt := 11) (pc' := 10) d_M_lead_7 (by decide) rfl (fun h7 => ?_) (fun h => absurd h hne)
  refine AW.aload_n (pc' := 12) d_M_lead_11 rfl rfl rfl ?_
  refine AW.getf (pc' := 15) d_M_lead_12 rfl fl_M_33 rfl rfl ?_
  refine AW.iload_n (pc' := 16) d_M_lead_15 rfl rfl rfl ?_
  refine AW.iload_n (pc' := 17) d_M_lead_16 rfl rfl rfl ?_
  refine AW.iastN (pc' := 18) (w' := (wL z (k_ldr_ k (upd (k_ldr k) s (nI (r)))) o)) d_M_lead_17 rfl rfl (by omega) (by decide) rfl ?_
  refine AW.aload_n (pc' := 19) d_M_lead_18 rfl rfl rfl ?_
  refine AW.getf (pc' := 22) d_M_lead_19 rfl fl_M_36 rfl rfl ?_
  refine AW.iload_n (pc' := 23) d_M_lead_22 rfl rfl rfl ?_
  refine AW.iconst (pc' := 24) (v := (-1)) d_M_lead_23 rfl (by decide) ?_
  refine AW.iastN (pc' := 25) (w' := (wL z (k_off_ (k_ldr_ k (upd (k_ldr k) s (nI (r)))) (upd (k_off k) s ((-1)))) o)) d_M_lead_24 rfl rfl (by omega) (by decide) rfl ?_
  refine AW.aload_n (pc' := 26) d_M_lead_25 rfl rfl rfl ?_
  refine AW.iload_n (pc' := 27) d_M_lead_26 rfl rfl rfl ?_
  refine AW.iload_n (pc' := 28) d_M_lead_27 rfl rfl rfl ?_
  refine AW.cV (pc' := 31) d_M_lead_28 rfl cv_M_92 (by decide) rfl rfl rfl (k_row X z (k_off_ (k_ldr_ k (upd (k_ldr k) s (nI r))) (upd (k_off k) s (-1))) o (nI s) (nI r) hr2 hK) rfl rfl rfl rfl rfl rfl rfl ?_
  refine AW.iconst (pc' := 32) (v := nI 0) d_M_lead_31 rfl (by decide) ?_
  refine AW.istore_n (pc' := 33) (ls' := [some (.ref 20), some (.int (nI (s))), some (.int (nI (r))), some (.int (nI (0)))]) d_M_lead_32 rfl rfl rfl rfl ?_
  have h9 := lp_klead X z (f_kl0 k s (some r)) o (nI s) r hr (by show k_ns (f_row _ _ _) ≤ 20; rw [row_ns]; exact hn) (k_ns (f_kl0 k s (some r))) 0 (k_off (f_kl0 k s (some r))) (by omega)
  rw [rep0] at h9
  exact h9
theorem k_lead (X : ct_X) (z : S_c) (k : S_m) (o : Nat → Int64) (s : Nat) (p : Option Nat) (hp : ∀ r, p = some r → r < 40) (hs : s < 20) (hn : k_ns k ≤ 20) (hr2 : k_rows k < 2 ^ 31) (hK : RowK k) : AF X m_M_lead 1 0 0 [.ref 20, .int (nI s), .int (oI p)] (wL z k o) (.inl none) (wL z (f_kl k s p) o) := by
  by_cases h : k_ldr k s = oI p
  · have e : f_kl k s p = k := by rw [f_kl, if_pos h]
    rw [e]
    exact k_lead_eq X z k o s (oI p) hs h
  · have e : f_kl k s p = f_kl1 k s p := by rw [f_kl, if_neg h]
    rw [e]
    cases p with
    | none => exact k_lead_n X z k o s hs hn hr2 hK h
    | some r => exact k_lead_s X z k o s r (hp r rfl) hs hn hr2 hK h
def mayK (k : S_m) (s : Int32) (p : Nat) : Bool := decide (k_in k p = s) && (f_leads k (nI p)).isNone
def befK (k : S_m) (p q : Nat) : Bool := decide (k_rank k q < k_rank k p) || (decide (k_rank k p = k_rank k q) && decide (k_arr k p < k_arr k q))
def f_knext (k : S_m) (s : Int32) : Nat → Option Nat
  | 0 => none
  | n + 1 => match f_knext k s n with
    | none => if mayK k s n = true then some n else none
    | some q => if mayK k s n = true ∧ befK k n q = true then some n else some q
theorem f_knext_lt {k : S_m} {s : Int32} : ∀ {n q : Nat}, f_knext k s n = some q → q < n
  | 0, q, h => by cases h
  | n + 1, q, h => by
    unfold f_knext at h
    cases e : f_knext k s n with
    | none =>
      rw [e] at h
      dsimp only at h
      split at h
      · cases h
        omega
      · cases h
    | some r =>
      rw [e] at h
      dsimp only at h
      have h2 := f_knext_lt e
      split at h
      · cases h
        omega
      · cases h
        omega
theorem lp_knext (X : ct_X) (z : S_c) (k : S_m) (o : Nat → Int64) (s : Int32) (hn : k_np k ≤ 40) (hns : k_ns k ≤ 20) : ∀ (n i : Nat), i + n = k_np k → AW X m_M_next 1 0 0 0 0 4 [some (.ref 20), some (.int s), some (.int (oI (f_knext k s i))), some (.int (nI i))] [] (wL z k o) (fun r w' => r = .inl (some (.int (oI (f_knext k s (k_np k))))) ∧ w' = wL z k o) := by
  intro n
  induction n with
  | zero =>
    intro i hi
    have e : i = k_np k := by omega
    subst e
    refine AW.iload_n (pc' := 5) d_M_next_4 rfl rfl rfl ?_
    refine AW.aload_n (pc' := 6) d_M_next_5 rfl rfl rfl ?_
    refine AW.getf (pc' := 9) d_M_next_6 rfl fl_M_72 rfl rfl ?_
    refine AW.icmp_geN (tgt := 90) (pc' := 12) d_M_next_9 (by decide) rfl (by omega) (by omega) (fun h9 => ?_) (fun h => absurd h (by omega))
    refine AW.iload_n (pc' := 91) d_M_next_90 rfl rfl rfl ?_
    exact AW.iret d_M_next_91 rfl rfl rfl ⟨rfl, rfl⟩
  | succ n ih =>
    intro i hi
    cases e : f_knext k s i with
    | none =>
      show AW X m_M_next 1 0 0 0 0 4 [some (.ref 20), some (.int (s)), some (.int ((-1))), some (.int (nI (i)))] [] (wL z k o) _
      refine AW.iload_n (pc' := 5) d_M_next_4 rfl rfl rfl ?_
      refine AW.aload_n (pc' := 6) d_M_next_5 rfl rfl rfl ?_
      refine AW.getf (pc' := 9) d_M_next_6 rfl fl_M_72 rfl rfl ?_
      refine AW.icmp_geN (tgt := 90) (pc' := 12) d_M_next_9 (by decide) rfl (by omega) (by omega) (fun h => absurd h (by omega)) (fun h9 => ?_)
      refine AW.aload_n (pc' := 13) d_M_next_12 rfl rfl rfl ?_
      refine AW.getf (pc' := 16) d_M_next_13 rfl fl_M_13 rfl rfl ?_
      refine AW.iload_n (pc' := 17) d_M_next_16 rfl rfl rfl ?_
      refine AW.ialdN (pc' := 18) d_M_next_17 rfl rfl (by omega) (by decide) ?_
      refine AW.iload_n (pc' := 19) d_M_next_18 rfl rfl rfl ?_
      refine AW.icmp_ne (tgt := 84) (pc' := 22) d_M_next_19 (by decide) rfl (fun h19 => ?_) (fun h19 => ?_)
      · refine AW.iincN (pc' := 87) (ls' := [some (.ref 20), some (.int (s)), some (.int ((-1))), some (.int (nI (i + 1)))]) d_M_next_84 rfl rfl rfl rfl ?_
        refine AW.goto (tgt := 4) d_M_next_87 (by decide) ?_
        have h9 := ih (i + 1) (by omega)
        rw [show f_knext k s (i + 1) = none from by simp [f_knext, e, mayK, befK, h19]] at h9
        exact h9
      · refine AW.aload_n (pc' := 23) d_M_next_22 rfl rfl rfl ?_
        refine AW.iload_n (pc' := 24) d_M_next_23 rfl rfl rfl ?_
        rcases hl : f_leads k (nI i) with _ | t
        · refine AW.cV (pc' := 27) d_M_next_24 rfl cv_M_96 (by decide) rfl rfl rfl (k_leads_n X z k o (nI i) hns hl) rfl rfl rfl rfl rfl rfl rfl ?_
          refine AW.if_lt (tgt := 33) (pc' := 30) d_M_next_27 (by decide) rfl (fun h27 => ?_) (fun h => absurd (by decide) h)
          refine AW.iload_n (pc' := 34) d_M_next_33 rfl rfl rfl ?_
          refine AW.if_lt (tgt := 82) (pc' := 37) d_M_next_34 (by decide) rfl (fun h34 => ?_) (fun h => absurd (by decide) h)
          refine AW.iload_n (pc' := 83) d_M_next_82 rfl rfl rfl ?_
          refine AW.istore_n (pc' := 84) (ls' := [some (.ref 20), some (.int (s)), some (.int (nI (i))), some (.int (nI (i)))]) d_M_next_83 rfl rfl rfl rfl ?_
          refine AW.iincN (pc' := 87) (ls' := [some (.ref 20), some (.int (s)), some (.int (nI (i))), some (.int (nI (i + 1)))]) d_M_next_84 rfl rfl rfl rfl ?_
          refine AW.goto (tgt := 4) d_M_next_87 (by decide) ?_
          have h9 := ih (i + 1) (by omega)
          rw [show f_knext k s (i + 1) = some i from by simp [f_knext, e, mayK, befK, h19, hl]] at h9
          exact h9
        · have ht := (f_leads_some hl).1
          refine AW.cV (pc' := 27) d_M_next_24 rfl cv_M_96 (by decide) rfl rfl rfl (k_leads_s X z k o (nI i) t hns hl) rfl rfl rfl rfl rfl rfl rfl ?_
          refine AW.if_lt (tgt := 33) (pc' := 30) d_M_next_27 (by decide) rfl (fun h => absurd h (nI_pos (by omega))) (fun _ => ?_)
          refine AW.goto (tgt := 84) d_M_next_30 (by decide) ?_
          refine AW.iincN (pc' := 87) (ls' := [some (.ref 20), some (.int (s)), some (.int ((-1))), some (.int (nI (i + 1)))]) d_M_next_84 rfl rfl rfl rfl ?_
          refine AW.goto (tgt := 4) d_M_next_87 (by decide) ?_
          have h9 := ih (i + 1) (by omega)
          rw [show f_knext k s (i + 1) = none from by simp [f_knext, e, mayK, befK, h19, hl]] at h9
          exact h9
    | some q =>
      have hq := f_knext_lt e
      show AW X m_M_next 1 0 0 0 0 4 [some (.ref 20), some (.int (s)), some (.int (nI (q))), some (.int (nI (i)))] [] (wL z k o) _
      refine AW.iload_n (pc' := 5) d_M_next_4 rfl rfl rfl ?_
      refine AW.aload_n (pc' := 6) d_M_next_5 rfl rfl rfl ?_
      refine AW.getf (pc' := 9) d_M_next_6 rfl fl_M_72 rfl rfl ?_
      refine AW.icmp_geN (tgt := 90) (pc' := 12) d_M_next_9 (by decide) rfl (by omega) (by omega) (fun h => absurd h (by omega)) (fun h9 => ?_)
      refine AW.aload_n (pc' := 13) d_M_next_12 rfl rfl rfl ?_
      refine AW.getf (pc' := 16) d_M_next_13 rfl fl_M_13 rfl rfl ?_
      refine AW.iload_n (pc' := 17) d_M_next_16 rfl rfl rfl ?_
      refine AW.ialdN (pc' := 18) d_M_next_17 rfl rfl (by omega) (by decide) ?_
      refine AW.iload_n (pc' := 19) d_M_next_18 rfl rfl rfl ?_
      refine AW.icmp_ne (tgt := 84) (pc' := 22) d_M_next_19 (by decide) rfl (fun h19 => ?_) (fun h19 => ?_)
      · refine AW.iincN (pc' := 87) (ls' := [some (.ref 20), some (.int (s)), some (.int (nI (q))), some (.int (nI (i + 1)))]) d_M_next_84 rfl rfl rfl rfl ?_
        refine AW.goto (tgt := 4) d_M_next_87 (by decide) ?_
        have h9 := ih (i + 1) (by omega)
        rw [show f_knext k s (i + 1) = some q from by simp [f_knext, e, mayK, befK, h19]] at h9
        exact h9
      · refine AW.aload_n (pc' := 23) d_M_next_22 rfl rfl rfl ?_
        refine AW.iload_n (pc' := 24) d_M_next_23 rfl rfl rfl ?_
        rcases hl : f_leads k (nI i) with _ | t
        · refine AW.cV (pc' := 27) d_M_next_24 rfl cv_M_96 (by decide) rfl rfl rfl (k_leads_n X z k o (nI i) hns hl) rfl rfl rfl rfl rfl rfl rfl ?_
          refine AW.if_lt (tgt := 33) (pc' := 30) d_M_next_27 (by decide) rfl (fun h27 => ?_) (fun h => absurd (by decide) h)
          refine AW.iload_n (pc' := 34) d_M_next_33 rfl rfl rfl ?_
          refine AW.if_lt (tgt := 82) (pc' := 37) d_M_next_34 (by decide) rfl (fun h => absurd h (nI_pos (by omega))) (fun _ => ?_)
          refine AW.aload_n (pc' := 38) d_M_next_37 rfl rfl rfl ?_
          refine AW.getf (pc' := 41) d_M_next_38 rfl fl_M_7 rfl rfl ?_
          refine AW.iload_n (pc' := 42) d_M_next_41 rfl rfl rfl ?_
          refine AW.ialdN (pc' := 43) d_M_next_42 rfl rfl (by omega) (by decide) ?_
          refine AW.aload_n (pc' := 44) d_M_next_43 rfl rfl rfl ?_
          refine AW.getf (pc' := 47) d_M_next_44 rfl fl_M_7 rfl rfl ?_
          refine AW.iload_n (pc' := 48) d_M_next_47 rfl rfl rfl ?_
          refine AW.ialdN (pc' := 49) d_M_next_48 rfl rfl (by omega) (by decide) ?_
          refine AW.icmp_gt (tgt := 82) (pc' := 52) d_M_next_49 (by decide) rfl (fun h49 => ?_) (fun h49 => ?_)
          · refine AW.iload_n (pc' := 83) d_M_next_82 rfl rfl rfl ?_
            refine AW.istore_n (pc' := 84) (ls' := [some (.ref 20), some (.int (s)), some (.int (nI (i))), some (.int (nI (i)))]) d_M_next_83 rfl rfl rfl rfl ?_
            refine AW.iincN (pc' := 87) (ls' := [some (.ref 20), some (.int (s)), some (.int (nI (i))), some (.int (nI (i + 1)))]) d_M_next_84 rfl rfl rfl rfl ?_
            refine AW.goto (tgt := 4) d_M_next_87 (by decide) ?_
            have h9 := ih (i + 1) (by omega)
            rw [show f_knext k s (i + 1) = some i from by simp [f_knext, e, mayK, befK, h19, hl, h49]] at h9
            exact h9
          · refine AW.aload_n (pc' := 53) d_M_next_52 rfl rfl rfl ?_
            refine AW.getf (pc' := 56) d_M_next_53 rfl fl_M_7 rfl rfl ?_
            refine AW.iload_n (pc' := 57) d_M_next_56 rfl rfl rfl ?_
            refine AW.ialdN (pc' := 58) d_M_next_57 rfl rfl (by omega) (by decide) ?_
            refine AW.aload_n (pc' := 59) d_M_next_58 rfl rfl rfl ?_
            refine AW.getf (pc' := 62) d_M_next_59 rfl fl_M_7 rfl rfl ?_
            refine AW.iload_n (pc' := 63) d_M_next_62 rfl rfl rfl ?_
            refine AW.ialdN (pc' := 64) d_M_next_63 rfl rfl (by omega) (by decide) ?_
            refine AW.icmp_ne (tgt := 84) (pc' := 67) d_M_next_64 (by decide) rfl (fun h64 => ?_) (fun h64 => ?_)
            · refine AW.iincN (pc' := 87) (ls' := [some (.ref 20), some (.int (s)), some (.int (nI (q))), some (.int (nI (i + 1)))]) d_M_next_84 rfl rfl rfl rfl ?_
              refine AW.goto (tgt := 4) d_M_next_87 (by decide) ?_
              have h9 := ih (i + 1) (by omega)
              rw [show f_knext k s (i + 1) = some q from by simp [f_knext, e, mayK, befK, h19, hl, h49, h64]] at h9
              exact h9
            · refine AW.aload_n (pc' := 68) d_M_next_67 rfl rfl rfl ?_
              refine AW.getf (pc' := 71) d_M_next_68 rfl fl_M_16 rfl rfl ?_
              refine AW.iload_n (pc' := 72) d_M_next_71 rfl rfl rfl ?_
              refine AW.ialdN (pc' := 73) d_M_next_72 rfl rfl (by omega) (by decide) ?_
              refine AW.aload_n (pc' := 74) d_M_next_73 rfl rfl rfl ?_
              refine AW.getf (pc' := 77) d_M_next_74 rfl fl_M_16 rfl rfl ?_
              refine AW.iload_n (pc' := 78) d_M_next_77 rfl rfl rfl ?_
              refine AW.ialdN (pc' := 79) d_M_next_78 rfl rfl (by omega) (by decide) ?_
              refine AW.icmp_ge (tgt := 84) (pc' := 82) d_M_next_79 (by decide) rfl (fun h79 => ?_) (fun h79 => ?_)
              · refine AW.iincN (pc' := 87) (ls' := [some (.ref 20), some (.int (s)), some (.int (nI (q))), some (.int (nI (i + 1)))]) d_M_next_84 rfl rfl rfl rfl ?_
                refine AW.goto (tgt := 4) d_M_next_87 (by decide) ?_
                have h9 := ih (i + 1) (by omega)
                rw [show f_knext k s (i + 1) = some q from by simp [f_knext, e, mayK, befK, h19, hl, h49, h64, h79, Int32.not_lt.mpr h79]] at h9
                exact h9
              · refine AW.iload_n (pc' := 83) d_M_next_82 rfl rfl rfl ?_
                refine AW.istore_n (pc' := 84) (ls' := [some (.ref 20), some (.int (s)), some (.int (nI (i))), some (.int (nI (i)))]) d_M_next_83 rfl rfl rfl rfl ?_
                refine AW.iincN (pc' := 87) (ls' := [some (.ref 20), some (.int (s)), some (.int (nI (i))), some (.int (nI (i + 1)))]) d_M_next_84 rfl rfl rfl rfl ?_
                refine AW.goto (tgt := 4) d_M_next_87 (by decide) ?_
                have h9 := ih (i + 1) (by omega)
                rw [show f_knext k s (i + 1) = some i from by simp [f_knext, e, mayK, befK, h19, hl, h49, h64, h79]] at h9
                exact h9
        · have ht := (f_leads_some hl).1
          refine AW.cV (pc' := 27) d_M_next_24 rfl cv_M_96 (by decide) rfl rfl rfl (k_leads_s X z k o (nI i) t hns hl) rfl rfl rfl rfl rfl rfl rfl ?_
          refine AW.if_lt (tgt := 33) (pc' := 30) d_M_next_27 (by decide) rfl (fun h => absurd h (nI_pos (by omega))) (fun _ => ?_)
          refine AW.goto (tgt := 84) d_M_next_30 (by decide) ?_
          refine AW.iincN (pc' := 87) (ls' := [some (.ref 20), some (.int (s)), some (.int (nI (q))), some (.int (nI (i + 1)))]) d_M_next_84 rfl rfl rfl rfl ?_
          refine AW.goto (tgt := 4) d_M_next_87 (by decide) ?_
          have h9 := ih (i + 1) (by omega)
          rw [show f_knext k s (i + 1) = some q from by simp [f_knext, e, mayK, befK, h19, hl]] at h9
          exact h9
theorem k_next (X : ct_X) (z : S_c) (k : S_m) (o : Nat → Int64) (s : Int32) (hn : k_np k ≤ 40) (hns : k_ns k ≤ 20) : AF X m_M_next 1 0 0 [.ref 20, .int (s)] (wL z k o) (.inl (some (.int (oI (f_knext k s (k_np k)))))) (wL z k o) := by
  refine AM.of rfl (Nat.le_of_ble_eq_true rfl) (ls := [some (.ref 20), some (.int (s)), none, none]) rfl ?_
  refine AW.iconst (pc' := 1) (v := (-1)) d_M_next_0 rfl (by decide) ?_
  refine AW.istore_n (pc' := 2) (ls' := [some (.ref 20), some (.int (s)), some (.int ((-1))), none]) d_M_next_1 rfl rfl rfl rfl ?_
  refine AW.iconst (pc' := 3) (v := nI 0) d_M_next_2 rfl (by decide) ?_
  refine AW.istore_n (pc' := 4) (ls' := [some (.ref 20), some (.int (s)), some (.int ((-1))), some (.int (nI (0)))]) d_M_next_3 rfl rfl rfl rfl ?_
  exact lp_knext X z k o s hn hns (k_np k) 0 (by omega)
