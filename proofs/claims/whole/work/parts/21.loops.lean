/-! THE CLASS'S LOOPS (rows printed by wip/whole/m3.py) -/
theorem AW.dropL {X : ct_X} {M : ct_M} {d mc ms cb sb pc j : Nat} {ls ls' : List (Option Value)} {st : List Value} {w : ct_W} {Q : Option Value ⊕ Nat → ct_W → Prop} (hs : ls.set j none = ls') (k : AW X M d mc ms cb sb pc ls' st w Q) : AW X M d mc ms cb sb pc ls st w Q := by
  subst hs
  intro G p e R s m args below meth c A ad ad0 n0 H locs cells slots arr hR hA hr h1 h2
  refine k G p e R s m args below meth c A ad ad0 n0 H locs cells slots arr hR hA ⟨hr.1, hr.2.1, hr.2.2.1, ⟨hr.2.2.2.1.1, fun i v hv => ?_⟩, hr.2.2.2.2⟩ h1 h2
  rw [List.getElem?_set] at hv
  by_cases e9 : j = i
  · subst e9
    rw [if_pos rfl] at hv
    by_cases hl : j < ls.length
    · rw [if_pos hl] at hv
      exact nomatch (Option.some.inj hv)
    · rw [if_neg hl] at hv
      cases hv
  · rw [if_neg e9] at hv
    exact hr.2.2.2.1.2 i v hv
def befB (z : S_c) (p q : Nat) : Bool := if c_rank z p = c_rank z q then decide (c_arr z p < c_arr z q) else decide (c_rank z q < c_rank z p)
theorem c_before (X : ct_X) (z : S_c) (k : S_m) (o : Nat → Int64) (p q : Nat) (hp : p < 40) (hq : q < 40) : AF X m_C_comesBefore 0 0 0 [.ref 0, .int (nI (p)), .int (nI (q))] (wL z k o) (.inl (some (.int (nI (cond (befB z p q) 1 0))))) (wL z k o) := by
  refine AM.of rfl (Nat.le_of_ble_eq_true rfl) (ls := [some (.ref 0), some (.int (nI (p))), some (.int (nI (q)))]) rfl ?_
  refine AW.aload_n (pc' := 1) d_C_comesBefore_0 rfl rfl rfl ?_
  refine AW.getf (pc' := 4) d_C_comesBefore_1 rfl fl_C_13 rfl rfl ?_
  refine AW.iload_n (pc' := 5) d_C_comesBefore_4 rfl rfl rfl ?_
  refine AW.ialdN (pc' := 6) d_C_comesBefore_5 rfl rfl (by omega) (by decide) ?_
  refine AW.aload_n (pc' := 7) d_C_comesBefore_6 rfl rfl rfl ?_
  refine AW.getf (pc' := 10) d_C_comesBefore_7 rfl fl_C_13 rfl rfl ?_
  refine AW.iload_n (pc' := 11) d_C_comesBefore_10 rfl rfl rfl ?_
  refine AW.ialdN (pc' := 12) d_C_comesBefore_11 rfl rfl (by omega) (by decide) ?_
  refine AW.icmp_eq (tgt := 36) (pc' := 15) d_C_comesBefore_12 (by decide) rfl (fun h12 => ?_) (fun h12 => ?_)
  · refine AW.aload_n (pc' := 37) d_C_comesBefore_36 rfl rfl rfl ?_
    refine AW.getf (pc' := 40) d_C_comesBefore_37 rfl fl_C_17 rfl rfl ?_
    refine AW.iload_n (pc' := 41) d_C_comesBefore_40 rfl rfl rfl ?_
    refine AW.ialdN (pc' := 42) d_C_comesBefore_41 rfl rfl (by omega) (by decide) ?_
    refine AW.aload_n (pc' := 43) d_C_comesBefore_42 rfl rfl rfl ?_
    refine AW.getf (pc' := 46) d_C_comesBefore_43 rfl fl_C_17 rfl rfl ?_
    refine AW.iload_n (pc' := 47) d_C_comesBefore_46 rfl rfl rfl ?_
    refine AW.ialdN (pc' := 48) d_C_comesBefore_47 rfl rfl (by omega) (by decide) ?_
    refine AW.icmp_ge (tgt := 55) (pc' := 51) d_C_comesBefore_48 (by decide) rfl (fun h48 => ?_) (fun h48 => ?_)
    · refine AW.iconst (pc' := 56) (v := nI 0) d_C_comesBefore_55 rfl (by decide) ?_
      exact AW.zret d_C_comesBefore_56 rfl (by decide) rfl rfl ⟨by simp only [befB]; rw [if_pos h12, decide_eq_false (Int32.not_lt.mpr h48)]; rfl, rfl⟩
    · refine AW.iconst (pc' := 52) (v := nI 1) d_C_comesBefore_51 rfl (by decide) ?_
      refine AW.goto (tgt := 56) d_C_comesBefore_52 (by decide) ?_
      exact AW.zret d_C_comesBefore_56 rfl (by decide) rfl rfl ⟨by simp only [befB]; rw [if_pos h12, decide_eq_true (Int32.not_le.mp h48)]; rfl, rfl⟩
  · refine AW.aload_n (pc' := 16) d_C_comesBefore_15 rfl rfl rfl ?_
    refine AW.getf (pc' := 19) d_C_comesBefore_16 rfl fl_C_13 rfl rfl ?_
    refine AW.iload_n (pc' := 20) d_C_comesBefore_19 rfl rfl rfl ?_
    refine AW.ialdN (pc' := 21) d_C_comesBefore_20 rfl rfl (by omega) (by decide) ?_
    refine AW.aload_n (pc' := 22) d_C_comesBefore_21 rfl rfl rfl ?_
    refine AW.getf (pc' := 25) d_C_comesBefore_22 rfl fl_C_13 rfl rfl ?_
    refine AW.iload_n (pc' := 26) d_C_comesBefore_25 rfl rfl rfl ?_
    refine AW.ialdN (pc' := 27) d_C_comesBefore_26 rfl rfl (by omega) (by decide) ?_
    refine AW.icmp_le (tgt := 34) (pc' := 30) d_C_comesBefore_27 (by decide) rfl (fun h27 => ?_) (fun h27 => ?_)
    · refine AW.iconst (pc' := 35) (v := nI 0) d_C_comesBefore_34 rfl (by decide) ?_
      exact AW.zret d_C_comesBefore_35 rfl (by decide) rfl rfl ⟨by simp only [befB]; rw [if_neg h12, decide_eq_false (Int32.not_lt.mpr h27)]; rfl, rfl⟩
    · refine AW.iconst (pc' := 31) (v := nI 1) d_C_comesBefore_30 rfl (by decide) ?_
      refine AW.goto (tgt := 35) d_C_comesBefore_31 (by decide) ?_
      exact AW.zret d_C_comesBefore_35 rfl (by decide) rfl rfl ⟨by simp only [befB]; rw [if_neg h12, decide_eq_true (Int32.not_le.mp h27)]; rfl, rfl⟩
theorem c_before_t (X : ct_X) (z : S_c) (k : S_m) (o : Nat → Int64) (p q : Nat) (hp : p < 40) (hq : q < 40) (h : befB z p q = true) : AF X m_C_comesBefore 0 0 0 [.ref 0, .int (nI p), .int (nI q)] (wL z k o) (.inl (some (.int (nI 1)))) (wL z k o) := by
  have h9 := c_before X z k o p q hp hq
  rw [h] at h9
  exact h9
theorem c_before_f (X : ct_X) (z : S_c) (k : S_m) (o : Nat → Int64) (p q : Nat) (hp : p < 40) (hq : q < 40) (h : befB z p q = false) : AF X m_C_comesBefore 0 0 0 [.ref 0, .int (nI p), .int (nI q)] (wL z k o) (.inl (some (.int (nI 0)))) (wL z k o) := by
  have h9 := c_before X z k o p q hp hq
  rw [h] at h9
  exact h9
def mayB (z : S_c) (s : Int32) (p : Nat) : Bool := decide (c_sop z p = s) && decide (c_slb z p = -1)
def f_next (z : S_c) (s : Int32) : Nat → Option Nat
  | 0 => none
  | n + 1 => match f_next z s n with
    | none => if mayB z s n = true then some n else none
    | some q => if mayB z s n = true ∧ befB z n q = true then some n else some q
theorem f_next_lt {z : S_c} {s : Int32} : ∀ {n q : Nat}, f_next z s n = some q → q < n ∧ mayB z s q = true
  | 0, q, h => by cases h
  | n + 1, q, h => by
    unfold f_next at h
    cases e : f_next z s n with
    | none =>
      rw [e] at h
      dsimp only at h
      split at h
      · cases h
        exact ⟨by omega, by assumption⟩
      · cases h
    | some r =>
      rw [e] at h
      dsimp only at h
      split at h
      · cases h
        rename_i h1
        exact ⟨by omega, h1.1⟩
      · cases h
        obtain ⟨h1, h2⟩ := f_next_lt e
        exact ⟨by omega, h2⟩
theorem lp_next (X : ct_X) (z : S_c) (k : S_m) (o : Nat → Int64) (s : Int32) (hn : c_np z ≤ 40) : ∀ (n i : Nat), i + n = c_np z → AW X m_C_nextToLead 1 0 0 0 0 4 [some (.ref 0), some (.int s), some (.int (oI (f_next z s i))), some (.int (nI i)), none] [] (wL z k o) (fun r w' => r = .inl (some (.int (oI (f_next z s (c_np z))))) ∧ w' = wL z k o) := by
  intro n
  induction n with
  | zero =>
    intro i hi
    have e : i = c_np z := by omega
    subst e
    refine AW.iload_n (pc' := 5) d_C_nextToLead_4 rfl rfl rfl ?_
    refine AW.aload_n (pc' := 6) d_C_nextToLead_5 rfl rfl rfl ?_
    refine AW.getf (pc' := 9) d_C_nextToLead_6 rfl fl_C_72 rfl rfl ?_
    refine AW.icmp_geN (tgt := 66) (pc' := 12) d_C_nextToLead_9 (by decide) rfl (by omega) (by omega) (fun h9 => ?_) (fun h => absurd h (by omega))
    refine AW.iload_n (pc' := 67) d_C_nextToLead_66 rfl rfl rfl ?_
    exact AW.iret d_C_nextToLead_67 rfl rfl rfl ⟨rfl, rfl⟩
  | succ n ih =>
    intro i hi
    cases e : f_next z s i with
    | none =>
      show AW X m_C_nextToLead 1 0 0 0 0 4 [some (.ref 0), some (.int (s)), some (.int ((-1))), some (.int (nI (i))), none] [] (wL z k o) _
      refine AW.iload_n (pc' := 5) d_C_nextToLead_4 rfl rfl rfl ?_
      refine AW.aload_n (pc' := 6) d_C_nextToLead_5 rfl rfl rfl ?_
      refine AW.getf (pc' := 9) d_C_nextToLead_6 rfl fl_C_72 rfl rfl ?_
      refine AW.icmp_geN (tgt := 66) (pc' := 12) d_C_nextToLead_9 (by decide) rfl (by omega) (by omega) (fun h => absurd h (by omega)) (fun h9 => ?_)
      refine AW.aload_n (pc' := 13) d_C_nextToLead_12 rfl rfl rfl ?_
      refine AW.getf (pc' := 16) d_C_nextToLead_13 rfl fl_C_20 rfl rfl ?_
      refine AW.iload_n (pc' := 17) d_C_nextToLead_16 rfl rfl rfl ?_
      refine AW.ialdN (pc' := 18) d_C_nextToLead_17 rfl rfl (by omega) (by decide) ?_
      refine AW.iload_n (pc' := 19) d_C_nextToLead_18 rfl rfl rfl ?_
      refine AW.icmp_ne (tgt := 36) (pc' := 22) d_C_nextToLead_19 (by decide) rfl (fun h19 => ?_) (fun h19 => ?_)
      · refine AW.iconst (pc' := 37) (v := nI 0) d_C_nextToLead_36 rfl (by decide) ?_
        refine AW.istore (pc' := 39) (ls' := [some (.ref 0), some (.int (s)), some (.int ((-1))), some (.int (nI (i))), some (.int (nI (0)))]) d_C_nextToLead_37 rfl rfl rfl ?_
        refine AW.iload (pc' := 41) d_C_nextToLead_39 rfl rfl ?_
        refine AW.if_eq (tgt := 60) (pc' := 44) d_C_nextToLead_41 (by decide) rfl (fun _ => ?_) (fun h => absurd h (by decide))
        refine AW.iincN (pc' := 63) (ls' := [some (.ref 0), some (.int (s)), some (.int ((-1))), some (.int (nI (i + 1))), some (.int (nI (0)))]) d_C_nextToLead_60 rfl rfl rfl rfl ?_
        refine AW.goto (tgt := 4) d_C_nextToLead_63 (by decide) ?_
        have h9 := ih (i + 1) (by omega)
        rw [show f_next z s (i + 1) = none from by simp [f_next, e, mayB, h19]] at h9
        exact AW.dropL (j := 4) rfl h9
      · refine AW.aload_n (pc' := 23) d_C_nextToLead_22 rfl rfl rfl ?_
        refine AW.getf (pc' := 26) d_C_nextToLead_23 rfl fl_C_23 rfl rfl ?_
        refine AW.iload_n (pc' := 27) d_C_nextToLead_26 rfl rfl rfl ?_
        refine AW.ialdN (pc' := 28) d_C_nextToLead_27 rfl rfl (by omega) (by decide) ?_
        refine AW.iconst (pc' := 29) (v := (-1)) d_C_nextToLead_28 rfl (by decide) ?_
        refine AW.icmp_ne (tgt := 36) (pc' := 32) d_C_nextToLead_29 (by decide) rfl (fun h29 => ?_) (fun h29 => ?_)
        · refine AW.iconst (pc' := 37) (v := nI 0) d_C_nextToLead_36 rfl (by decide) ?_
          refine AW.istore (pc' := 39) (ls' := [some (.ref 0), some (.int (s)), some (.int ((-1))), some (.int (nI (i))), some (.int (nI (0)))]) d_C_nextToLead_37 rfl rfl rfl ?_
          refine AW.iload (pc' := 41) d_C_nextToLead_39 rfl rfl ?_
          refine AW.if_eq (tgt := 60) (pc' := 44) d_C_nextToLead_41 (by decide) rfl (fun _ => ?_) (fun h => absurd h (by decide))
          refine AW.iincN (pc' := 63) (ls' := [some (.ref 0), some (.int (s)), some (.int ((-1))), some (.int (nI (i + 1))), some (.int (nI (0)))]) d_C_nextToLead_60 rfl rfl rfl rfl ?_
          refine AW.goto (tgt := 4) d_C_nextToLead_63 (by decide) ?_
          have h9 := ih (i + 1) (by omega)
          rw [show f_next z s (i + 1) = none from by simp [f_next, e, mayB, h19, h29]] at h9
          exact AW.dropL (j := 4) rfl h9
        · refine AW.iconst (pc' := 33) (v := nI 1) d_C_nextToLead_32 rfl (by decide) ?_
          refine AW.goto (tgt := 37) d_C_nextToLead_33 (by decide) ?_
          refine AW.istore (pc' := 39) (ls' := [some (.ref 0), some (.int (s)), some (.int ((-1))), some (.int (nI (i))), some (.int (nI (1)))]) d_C_nextToLead_37 rfl rfl rfl ?_
          refine AW.iload (pc' := 41) d_C_nextToLead_39 rfl rfl ?_
          refine AW.if_eq (tgt := 60) (pc' := 44) d_C_nextToLead_41 (by decide) rfl (fun h => absurd h (by decide)) (fun _ => ?_)
          refine AW.iload_n (pc' := 45) d_C_nextToLead_44 rfl rfl rfl ?_
          refine AW.iconst (pc' := 46) (v := (-1)) d_C_nextToLead_45 rfl (by decide) ?_
          refine AW.icmp_eq (tgt := 58) (pc' := 49) d_C_nextToLead_46 (by decide) rfl (fun h46 => ?_) (fun h => absurd rfl h)
          refine AW.iload_n (pc' := 59) d_C_nextToLead_58 rfl rfl rfl ?_
          refine AW.istore_n (pc' := 60) (ls' := [some (.ref 0), some (.int (s)), some (.int (nI (i))), some (.int (nI (i))), some (.int (nI (1)))]) d_C_nextToLead_59 rfl rfl rfl rfl ?_
          refine AW.iincN (pc' := 63) (ls' := [some (.ref 0), some (.int (s)), some (.int (nI (i))), some (.int (nI (i + 1))), some (.int (nI (1)))]) d_C_nextToLead_60 rfl rfl rfl rfl ?_
          refine AW.goto (tgt := 4) d_C_nextToLead_63 (by decide) ?_
          have h9 := ih (i + 1) (by omega)
          rw [show f_next z s (i + 1) = some i from by simp [f_next, e, mayB, h19, h29]] at h9
          exact AW.dropL (j := 4) rfl h9
    | some q =>
      have hq := (f_next_lt e).1
      show AW X m_C_nextToLead 1 0 0 0 0 4 [some (.ref 0), some (.int (s)), some (.int (nI (q))), some (.int (nI (i))), none] [] (wL z k o) _
      refine AW.iload_n (pc' := 5) d_C_nextToLead_4 rfl rfl rfl ?_
      refine AW.aload_n (pc' := 6) d_C_nextToLead_5 rfl rfl rfl ?_
      refine AW.getf (pc' := 9) d_C_nextToLead_6 rfl fl_C_72 rfl rfl ?_
      refine AW.icmp_geN (tgt := 66) (pc' := 12) d_C_nextToLead_9 (by decide) rfl (by omega) (by omega) (fun h => absurd h (by omega)) (fun h9 => ?_)
      refine AW.aload_n (pc' := 13) d_C_nextToLead_12 rfl rfl rfl ?_
      refine AW.getf (pc' := 16) d_C_nextToLead_13 rfl fl_C_20 rfl rfl ?_
      refine AW.iload_n (pc' := 17) d_C_nextToLead_16 rfl rfl rfl ?_
      refine AW.ialdN (pc' := 18) d_C_nextToLead_17 rfl rfl (by omega) (by decide) ?_
      refine AW.iload_n (pc' := 19) d_C_nextToLead_18 rfl rfl rfl ?_
      refine AW.icmp_ne (tgt := 36) (pc' := 22) d_C_nextToLead_19 (by decide) rfl (fun h19 => ?_) (fun h19 => ?_)
      · refine AW.iconst (pc' := 37) (v := nI 0) d_C_nextToLead_36 rfl (by decide) ?_
        refine AW.istore (pc' := 39) (ls' := [some (.ref 0), some (.int (s)), some (.int (nI (q))), some (.int (nI (i))), some (.int (nI (0)))]) d_C_nextToLead_37 rfl rfl rfl ?_
        refine AW.iload (pc' := 41) d_C_nextToLead_39 rfl rfl ?_
        refine AW.if_eq (tgt := 60) (pc' := 44) d_C_nextToLead_41 (by decide) rfl (fun _ => ?_) (fun h => absurd h (by decide))
        refine AW.iincN (pc' := 63) (ls' := [some (.ref 0), some (.int (s)), some (.int (nI (q))), some (.int (nI (i + 1))), some (.int (nI (0)))]) d_C_nextToLead_60 rfl rfl rfl rfl ?_
        refine AW.goto (tgt := 4) d_C_nextToLead_63 (by decide) ?_
        have h9 := ih (i + 1) (by omega)
        rw [show f_next z s (i + 1) = some q from by simp [f_next, e, mayB, h19]] at h9
        exact AW.dropL (j := 4) rfl h9
      · refine AW.aload_n (pc' := 23) d_C_nextToLead_22 rfl rfl rfl ?_
        refine AW.getf (pc' := 26) d_C_nextToLead_23 rfl fl_C_23 rfl rfl ?_
        refine AW.iload_n (pc' := 27) d_C_nextToLead_26 rfl rfl rfl ?_
        refine AW.ialdN (pc' := 28) d_C_nextToLead_27 rfl rfl (by omega) (by decide) ?_
        refine AW.iconst (pc' := 29) (v := (-1)) d_C_nextToLead_28 rfl (by decide) ?_
        refine AW.icmp_ne (tgt := 36) (pc' := 32) d_C_nextToLead_29 (by decide) rfl (fun h29 => ?_) (fun h29 => ?_)
        · refine AW.iconst (pc' := 37) (v := nI 0) d_C_nextToLead_36 rfl (by decide) ?_
          refine AW.istore (pc' := 39) (ls' := [some (.ref 0), some (.int (s)), some (.int (nI (q))), some (.int (nI (i))), some (.int (nI (0)))]) d_C_nextToLead_37 rfl rfl rfl ?_
          refine AW.iload (pc' := 41) d_C_nextToLead_39 rfl rfl ?_
          refine AW.if_eq (tgt := 60) (pc' := 44) d_C_nextToLead_41 (by decide) rfl (fun _ => ?_) (fun h => absurd h (by decide))
          refine AW.iincN (pc' := 63) (ls' := [some (.ref 0), some (.int (s)), some (.int (nI (q))), some (.int (nI (i + 1))), some (.int (nI (0)))]) d_C_nextToLead_60 rfl rfl rfl rfl ?_
          refine AW.goto (tgt := 4) d_C_nextToLead_63 (by decide) ?_
          have h9 := ih (i + 1) (by omega)
          rw [show f_next z s (i + 1) = some q from by simp [f_next, e, mayB, h19, h29]] at h9
          exact AW.dropL (j := 4) rfl h9
        · refine AW.iconst (pc' := 33) (v := nI 1) d_C_nextToLead_32 rfl (by decide) ?_
          refine AW.goto (tgt := 37) d_C_nextToLead_33 (by decide) ?_
          refine AW.istore (pc' := 39) (ls' := [some (.ref 0), some (.int (s)), some (.int (nI (q))), some (.int (nI (i))), some (.int (nI (1)))]) d_C_nextToLead_37 rfl rfl rfl ?_
          refine AW.iload (pc' := 41) d_C_nextToLead_39 rfl rfl ?_
          refine AW.if_eq (tgt := 60) (pc' := 44) d_C_nextToLead_41 (by decide) rfl (fun h => absurd h (by decide)) (fun _ => ?_)
          refine AW.iload_n (pc' := 45) d_C_nextToLead_44 rfl rfl rfl ?_
          refine AW.iconst (pc' := 46) (v := (-1)) d_C_nextToLead_45 rfl (by decide) ?_
          refine AW.icmp_eq (tgt := 58) (pc' := 49) d_C_nextToLead_46 (by decide) rfl (fun h => absurd h (oI_ne (by omega))) (fun h46 => ?_)
          refine AW.aload_n (pc' := 50) d_C_nextToLead_49 rfl rfl rfl ?_
          refine AW.iload_n (pc' := 51) d_C_nextToLead_50 rfl rfl rfl ?_
          refine AW.iload_n (pc' := 52) d_C_nextToLead_51 rfl rfl rfl ?_
          by_cases hb : befB z i q = true
          · refine AW.cV (pc' := 55) d_C_nextToLead_52 rfl cv_C_247 (by decide) rfl rfl rfl (c_before_t X z k o i q (by omega) (by omega) hb) rfl rfl rfl rfl rfl rfl rfl ?_
            refine AW.if_eq (tgt := 60) (pc' := 58) d_C_nextToLead_55 (by decide) rfl (fun h => absurd h (by decide)) (fun _ => ?_)
            refine AW.iload_n (pc' := 59) d_C_nextToLead_58 rfl rfl rfl ?_
            refine AW.istore_n (pc' := 60) (ls' := [some (.ref 0), some (.int (s)), some (.int (nI (i))), some (.int (nI (i))), some (.int (nI (1)))]) d_C_nextToLead_59 rfl rfl rfl rfl ?_
            refine AW.iincN (pc' := 63) (ls' := [some (.ref 0), some (.int (s)), some (.int (nI (i))), some (.int (nI (i + 1))), some (.int (nI (1)))]) d_C_nextToLead_60 rfl rfl rfl rfl ?_
            refine AW.goto (tgt := 4) d_C_nextToLead_63 (by decide) ?_
            have h9 := ih (i + 1) (by omega)
            rw [show f_next z s (i + 1) = some i from by simp [f_next, e, mayB, h19, h29, hb]] at h9
            exact AW.dropL (j := 4) rfl h9
          · refine AW.cV (pc' := 55) d_C_nextToLead_52 rfl cv_C_247 (by decide) rfl rfl rfl (c_before_f X z k o i q (by omega) (by omega) (by simpa using hb)) rfl rfl rfl rfl rfl rfl rfl ?_
            refine AW.if_eq (tgt := 60) (pc' := 58) d_C_nextToLead_55 (by decide) rfl (fun _ => ?_) (fun h => absurd h (by decide))
            refine AW.iincN (pc' := 63) (ls' := [some (.ref 0), some (.int (s)), some (.int (nI (q))), some (.int (nI (i + 1))), some (.int (nI (1)))]) d_C_nextToLead_60 rfl rfl rfl rfl ?_
            refine AW.goto (tgt := 4) d_C_nextToLead_63 (by decide) ?_
            have h9 := ih (i + 1) (by omega)
            rw [show f_next z s (i + 1) = some q from by simp [f_next, e, mayB, h19, h29, hb]] at h9
            exact AW.dropL (j := 4) rfl h9
theorem c_next (X : ct_X) (z : S_c) (k : S_m) (o : Nat → Int64) (s : Int32) (hn : c_np z ≤ 40) : AF X m_C_nextToLead 1 0 0 [.ref 0, .int (s)] (wL z k o) (.inl (some (.int (oI (f_next z s (c_np z)))))) (wL z k o) := by
  refine AM.of rfl (Nat.le_of_ble_eq_true rfl) (ls := [some (.ref 0), some (.int (s)), none, none, none]) rfl ?_
  refine AW.iconst (pc' := 1) (v := (-1)) d_C_nextToLead_0 rfl (by decide) ?_
  refine AW.istore_n (pc' := 2) (ls' := [some (.ref 0), some (.int (s)), some (.int ((-1))), none, none]) d_C_nextToLead_1 rfl rfl rfl rfl ?_
  refine AW.iconst (pc' := 3) (v := nI 0) d_C_nextToLead_2 rfl (by decide) ?_
  refine AW.istore_n (pc' := 4) (ls' := [some (.ref 0), some (.int (s)), some (.int ((-1))), some (.int (nI (0))), none]) d_C_nextToLead_3 rfl rfl rfl rfl ?_
  exact lp_next X z k o s hn (c_np z) 0 (by omega)
def openB (z : S_c) (s : Int32) (j : Nat) : Bool := !decide (c_opn z j = 0) && decide (c_abv z j = s)
def cntB (P : Nat → Bool) : Nat → Nat
  | 0 => 0
  | n + 1 => cntB P n + cond (P n) 1 0
theorem cntB_t {P : Nat → Bool} {n : Nat} (h : P n = true) : cntB P (n + 1) = cntB P n + 1 := by rw [cntB, h]; rfl
theorem cntB_f {P : Nat → Bool} {n : Nat} (h : P n = false) : cntB P (n + 1) = cntB P n := by rw [cntB, h]; rfl
theorem cntB_le (P : Nat → Bool) : ∀ n, cntB P n ≤ n
  | 0 => Nat.le_refl _
  | n + 1 => by
    have h := cntB_le P n
    unfold cntB
    cases P n <;> simp <;> omega
theorem lp_open (X : ct_X) (z : S_c) (k : S_m) (o : Nat → Int64) (s : Int32) (hn : c_ns z ≤ 20) : ∀ (n i : Nat), i + n = c_ns z → AW X m_C_countOpenBelow 0 0 0 0 0 4 [some (.ref 0), some (.int (s)), some (.int (nI (cntB (openB z s) i))), some (.int (nI (i)))] [] (wL z k o) (fun r w' => r = .inl (some (.int (nI (cntB (openB z s) (c_ns z))))) ∧ w' = wL z k o) := by
  intro n
  induction n with
  | zero =>
    intro i hi
    have e : i = c_ns z := by omega
    subst e
    refine AW.iload_n (pc' := 5) d_C_countOpenBelow_4 rfl rfl rfl ?_
    refine AW.aload_n (pc' := 6) d_C_countOpenBelow_5 rfl rfl rfl ?_
    refine AW.getf (pc' := 9) d_C_countOpenBelow_6 rfl fl_C_48 rfl rfl ?_
    refine AW.icmp_geN (tgt := 40) (pc' := 12) d_C_countOpenBelow_9 (by decide) rfl (by omega) (by omega) (fun h9 => ?_) (fun h => absurd h (by omega))
    refine AW.iload_n (pc' := 41) d_C_countOpenBelow_40 rfl rfl rfl ?_
    exact AW.iret d_C_countOpenBelow_41 rfl rfl rfl ⟨rfl, rfl⟩
  | succ n ih =>
    intro i hi
    refine AW.iload_n (pc' := 5) d_C_countOpenBelow_4 rfl rfl rfl ?_
    refine AW.aload_n (pc' := 6) d_C_countOpenBelow_5 rfl rfl rfl ?_
    refine AW.getf (pc' := 9) d_C_countOpenBelow_6 rfl fl_C_48 rfl rfl ?_
    refine AW.icmp_geN (tgt := 40) (pc' := 12) d_C_countOpenBelow_9 (by decide) rfl (by omega) (by omega) (fun h => absurd h (by omega)) (fun h9 => ?_)
    refine AW.aload_n (pc' := 13) d_C_countOpenBelow_12 rfl rfl rfl ?_
    refine AW.getf (pc' := 16) d_C_countOpenBelow_13 rfl fl_C_35 rfl rfl ?_
    refine AW.iload_n (pc' := 17) d_C_countOpenBelow_16 rfl rfl rfl ?_
    refine AW.zaldN (pc' := 18) d_C_countOpenBelow_17 rfl rfl (by omega) (by decide) ?_
    refine AW.if_eq (tgt := 34) (pc' := 21) d_C_countOpenBelow_18 (by decide) rfl (fun h18 => ?_) (fun h18 => ?_)
    · refine AW.iincN (pc' := 37) (ls' := [some (.ref 0), some (.int (s)), some (.int (nI (cntB (openB z s) i))), some (.int (nI (i + 1)))]) d_C_countOpenBelow_34 rfl rfl rfl rfl ?_
      refine AW.goto (tgt := 4) d_C_countOpenBelow_37 (by decide) ?_
      have h9 := ih (i + 1) (by omega)
      rw [cntB_f (show (openB z s) i = false from by simp [openB, h18])] at h9
      exact h9
    · refine AW.aload_n (pc' := 22) d_C_countOpenBelow_21 rfl rfl rfl ?_
      refine AW.getf (pc' := 25) d_C_countOpenBelow_22 rfl fl_C_39 rfl rfl ?_
      refine AW.iload_n (pc' := 26) d_C_countOpenBelow_25 rfl rfl rfl ?_
      refine AW.ialdN (pc' := 27) d_C_countOpenBelow_26 rfl rfl (by omega) (by decide) ?_
      refine AW.iload_n (pc' := 28) d_C_countOpenBelow_27 rfl rfl rfl ?_
      refine AW.icmp_ne (tgt := 34) (pc' := 31) d_C_countOpenBelow_28 (by decide) rfl (fun h28 => ?_) (fun h28 => ?_)
      · refine AW.iincN (pc' := 37) (ls' := [some (.ref 0), some (.int (s)), some (.int (nI (cntB (openB z s) i))), some (.int (nI (i + 1)))]) d_C_countOpenBelow_34 rfl rfl rfl rfl ?_
        refine AW.goto (tgt := 4) d_C_countOpenBelow_37 (by decide) ?_
        have h9 := ih (i + 1) (by omega)
        rw [cntB_f (show (openB z s) i = false from by simp [openB, h18, h28])] at h9
        exact h9
      · refine AW.iincN (pc' := 34) (ls' := [some (.ref 0), some (.int (s)), some (.int (nI ((cntB (openB z s) i) + 1))), some (.int (nI (i)))]) d_C_countOpenBelow_31 rfl rfl rfl rfl ?_
        refine AW.iincN (pc' := 37) (ls' := [some (.ref 0), some (.int (s)), some (.int (nI ((cntB (openB z s) i) + 1))), some (.int (nI (i + 1)))]) d_C_countOpenBelow_34 rfl rfl rfl rfl ?_
        refine AW.goto (tgt := 4) d_C_countOpenBelow_37 (by decide) ?_
        have h9 := ih (i + 1) (by omega)
        rw [cntB_t (show (openB z s) i = true from by simp [openB, h18, h28])] at h9
        exact h9
theorem c_openBelow (X : ct_X) (z : S_c) (k : S_m) (o : Nat → Int64) (s : Int32) (hn : c_ns z ≤ 20) : AF X m_C_countOpenBelow 0 0 0 [.ref 0, .int (s)] (wL z k o) (.inl (some (.int (nI (cntB (openB z s) (c_ns z)))))) (wL z k o) := by
  refine AM.of rfl (Nat.le_of_ble_eq_true rfl) (ls := [some (.ref 0), some (.int (s)), none, none]) rfl ?_
  refine AW.iconst (pc' := 1) (v := nI 0) d_C_countOpenBelow_0 rfl (by decide) ?_
  refine AW.istore_n (pc' := 2) (ls' := [some (.ref 0), some (.int (s)), some (.int (nI (0))), none]) d_C_countOpenBelow_1 rfl rfl rfl rfl ?_
  refine AW.iconst (pc' := 3) (v := nI 0) d_C_countOpenBelow_2 rfl (by decide) ?_
  refine AW.istore_n (pc' := 4) (ls' := [some (.ref 0), some (.int (s)), some (.int (nI (0))), some (.int (nI (0)))]) d_C_countOpenBelow_3 rfl rfl rfl rfl ?_
  exact lp_open X z k o s hn (c_ns z) 0 (by omega)
def passB (z : S_c) (s : Nat) : Bool := !decide (c_ldr z s = -1) && decide (c_most z < cntB (openB z (nI s)) (c_ns z) + cnt (c_sou z) (nI s) (c_nu z))
theorem c_isPassed (X : ct_X) (z : S_c) (k : S_m) (o : Nat → Int64) (s : Nat) (hs : s < 20) (hn : c_ns z ≤ 20) (hu : c_nu z ≤ 20) (hm : c_most z ≤ 20) : AF X m_C_isPassed 1 0 0 [.ref 0, .int (nI (s))] (wL z k o) (.inl (some (.int (nI (cond (passB z s) 1 0))))) (wL z k o) := by
  have b1 := cntB_le (openB z (nI s)) (c_ns z)
  have b2 := cnt_le (c_sou z) (nI s) (c_nu z)
  refine AM.of rfl (Nat.le_of_ble_eq_true rfl) (ls := [some (.ref 0), some (.int (nI (s)))]) rfl ?_
  refine AW.aload_n (pc' := 1) d_C_isPassed_0 rfl rfl rfl ?_
  refine AW.getf (pc' := 4) d_C_isPassed_1 rfl fl_C_42 rfl rfl ?_
  refine AW.iload_n (pc' := 5) d_C_isPassed_4 rfl rfl rfl ?_
  refine AW.ialdN (pc' := 6) d_C_isPassed_5 rfl rfl (by omega) (by decide) ?_
  refine AW.iconst (pc' := 7) (v := (-1)) d_C_isPassed_6 rfl (by decide) ?_
  refine AW.icmp_ne (tgt := 12) (pc' := 10) d_C_isPassed_7 (by decide) rfl (fun h7 => ?_) (fun h7 => ?_)
  · refine AW.aload_n (pc' := 13) d_C_isPassed_12 rfl rfl rfl ?_
    refine AW.iload_n (pc' := 14) d_C_isPassed_13 rfl rfl rfl ?_
    refine AW.cV (pc' := 17) d_C_isPassed_14 rfl cv_C_209 (by decide) rfl rfl rfl (c_openBelow X z k o (nI s) hn) rfl rfl rfl rfl rfl rfl rfl ?_
    refine AW.aload_n (pc' := 18) d_C_isPassed_17 rfl rfl rfl ?_
    refine AW.getf (pc' := 21) d_C_isPassed_18 rfl fl_C_32 rfl rfl ?_
    refine AW.aload_n (pc' := 22) d_C_isPassed_21 rfl rfl rfl ?_
    refine AW.getf (pc' := 25) d_C_isPassed_22 rfl fl_C_80 rfl rfl ?_
    refine AW.iload_n (pc' := 26) d_C_isPassed_25 rfl rfl rfl ?_
    refine AW.cS (pc' := 29) d_C_isPassed_26 rfl cs_C_205 (by decide) (c_count X _ 5 20 (c_nu z) (c_sou z) (nI s) (by decide) hu rfl) rfl rfl rfl rfl rfl rfl rfl ?_
    refine AW.iaddN (pc' := 30) d_C_isPassed_29 rfl ?_
    refine AW.aload_n (pc' := 31) d_C_isPassed_30 rfl rfl rfl ?_
    refine AW.getf (pc' := 34) d_C_isPassed_31 rfl fl_C_9 rfl rfl ?_
    refine AW.icmp_leN (tgt := 41) (pc' := 37) d_C_isPassed_34 (by decide) rfl (by omega) (by omega) (fun h34 => ?_) (fun h34 => ?_)
    · refine AW.iconst (pc' := 42) (v := nI 0) d_C_isPassed_41 rfl (by decide) ?_
      exact AW.zret d_C_isPassed_42 rfl (by decide) rfl rfl ⟨by simp [passB, h7, Nat.not_lt.mpr h34], rfl⟩
    · refine AW.iconst (pc' := 38) (v := nI 1) d_C_isPassed_37 rfl (by decide) ?_
      refine AW.goto (tgt := 42) d_C_isPassed_38 (by decide) ?_
      exact AW.zret d_C_isPassed_42 rfl (by decide) rfl rfl ⟨by simp [passB, h7, h34], rfl⟩
  · refine AW.iconst (pc' := 11) (v := nI 0) d_C_isPassed_10 rfl (by decide) ?_
    exact AW.zret d_C_isPassed_11 rfl (by decide) rfl rfl ⟨by simp [passB, h7], rfl⟩
theorem c_isPassed_t (X : ct_X) (z : S_c) (k : S_m) (o : Nat → Int64) (s : Nat) (hs : s < 20) (hn : c_ns z ≤ 20) (hu : c_nu z ≤ 20) (hm : c_most z ≤ 20) (h : passB z s = true) : AF X m_C_isPassed 1 0 0 [.ref 0, .int (nI s)] (wL z k o) (.inl (some (.int (nI 1)))) (wL z k o) := by
  have h9 := c_isPassed X z k o s hs hn hu hm
  rw [h] at h9
  exact h9
theorem c_isPassed_f (X : ct_X) (z : S_c) (k : S_m) (o : Nat → Int64) (s : Nat) (hs : s < 20) (hn : c_ns z ≤ 20) (hu : c_nu z ≤ 20) (hm : c_most z ≤ 20) (h : passB z s = false) : AF X m_C_isPassed 1 0 0 [.ref 0, .int (nI s)] (wL z k o) (.inl (some (.int (nI 0)))) (wL z k o) := by
  have h9 := c_isPassed X z k o s hs hn hu hm
  rw [h] at h9
  exact h9
