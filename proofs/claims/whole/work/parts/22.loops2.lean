/-! MORE LOOPS, and a leader who goes (rows printed by wip/whole/m4.py) -/
/-- a number or none -/
def io (x : Int32) : Option Nat := if x < 0 then none else some x.toNatClampNeg
theorem io_n {j : Nat} (h : j < 2 ^ 31) : io (nI j) = some j := by rw [io, if_neg (nI_pos h), nI_clamp h]
theorem io_m : io (-1) = none := by decide
/-- none, or below n -/
def okO (n : Nat) (x : Int32) : Prop := x = -1 ∨ ∃ j, j < n ∧ x = nI j
theorem okO.io {n : Nat} {x : Int32} (h : okO n x) (hn : n < 2 ^ 31) : oI (io x) = x ∧ ∀ j, io x = some j → j < n := by
  rcases h with rfl | ⟨j, hj, rfl⟩
  · exact ⟨rfl, fun j h => by cases h⟩
  · rw [io_n (by omega)]
    exact ⟨rfl, fun i h => by cases h; exact hj⟩
theorem okO.mono {n m : Nat} {x : Int32} (h : okO n x) (hm : n ≤ m) : okO m x := h.imp id (fun ⟨j, hj, e⟩ => ⟨j, by omega, e⟩)
theorem okO.of {n j : Nat} (h : j < n) : okO n (nI j) := Or.inr ⟨j, h, rfl⟩
def f_sob (z : S_c) (t : Nat) : Nat → Option Nat → Bool
  | 0, _ => false
  | _ + 1, none => false
  | n + 1, some j => if j = t then true else f_sob z t n (io (c_abv z j))
theorem lp_sob (X : ct_X) (z : S_c) (k : S_m) (o : Nat → Int64) (a t : Nat) (ht : t < 20) (hab : ∀ j, j < 20 → okO 20 (c_abv z j)) : ∀ (n d : Nat) (x : Option Nat), d + n = 20 → (∀ j, x = some j → j < 20) → AW X m_C_isSameOrBelow 0 0 0 0 0 5 [some (.ref 0), some (.int (nI a)), some (.int (nI t)), some (.int (oI x)), some (.int (nI d))] [] (wL z k o) (fun r w' => r = .inl (some (.int (nI (cond (f_sob z t n x) 1 0)))) ∧ w' = wL z k o) := by
  intro n
  induction n with
  | zero =>
    intro d x hd hx
    refine AW.iload (pc' := 7) d_C_isSameOrBelow_5 rfl rfl ?_
    refine AW.bipush (pc' := 9) (v := nI 20) d_C_isSameOrBelow_7 rfl (by decide) ?_
    refine AW.icmp_geN (tgt := 36) (pc' := 12) d_C_isSameOrBelow_9 (by decide) rfl (by omega) (by omega) (fun h9 => ?_) (fun h => absurd h (by omega))
    refine AW.iconst (pc' := 37) (v := nI 0) d_C_isSameOrBelow_36 rfl (by decide) ?_
    exact AW.zret d_C_isSameOrBelow_37 rfl (by decide) rfl rfl ⟨by simp [f_sob], rfl⟩
  | succ n ih =>
    intro d x hd hx
    cases x with
    | none =>
      show AW X m_C_isSameOrBelow 0 0 0 0 0 5 [some (.ref 0), some (.int (nI (a))), some (.int (nI (t))), some (.int ((-1))), some (.int (nI (d)))] [] (wL z k o) _
      refine AW.iload (pc' := 7) d_C_isSameOrBelow_5 rfl rfl ?_
      refine AW.bipush (pc' := 9) (v := nI 20) d_C_isSameOrBelow_7 rfl (by decide) ?_
      refine AW.icmp_geN (tgt := 36) (pc' := 12) d_C_isSameOrBelow_9 (by decide) rfl (by omega) (by omega) (fun h => absurd h (by omega)) (fun h9 => ?_)
      refine AW.iload_n (pc' := 13) d_C_isSameOrBelow_12 rfl rfl rfl ?_
      refine AW.if_lt (tgt := 36) (pc' := 16) d_C_isSameOrBelow_13 (by decide) rfl (fun h13 => ?_) (fun h => absurd (by decide) h)
      refine AW.iconst (pc' := 37) (v := nI 0) d_C_isSameOrBelow_36 rfl (by decide) ?_
      exact AW.zret d_C_isSameOrBelow_37 rfl (by decide) rfl rfl ⟨by simp [f_sob], rfl⟩
    | some j =>
      have hj := hx j rfl
      obtain ⟨e1, e2⟩ := (hab j hj).io (by decide)
      show AW X m_C_isSameOrBelow 0 0 0 0 0 5 [some (.ref 0), some (.int (nI (a))), some (.int (nI (t))), some (.int (nI (j))), some (.int (nI (d)))] [] (wL z k o) _
      refine AW.iload (pc' := 7) d_C_isSameOrBelow_5 rfl rfl ?_
      refine AW.bipush (pc' := 9) (v := nI 20) d_C_isSameOrBelow_7 rfl (by decide) ?_
      refine AW.icmp_geN (tgt := 36) (pc' := 12) d_C_isSameOrBelow_9 (by decide) rfl (by omega) (by omega) (fun h => absurd h (by omega)) (fun h9 => ?_)
      refine AW.iload_n (pc' := 13) d_C_isSameOrBelow_12 rfl rfl rfl ?_
      refine AW.if_lt (tgt := 36) (pc' := 16) d_C_isSameOrBelow_13 (by decide) rfl (fun h => absurd h (nI_pos (by omega))) (fun _ => ?_)
      refine AW.iload_n (pc' := 17) d_C_isSameOrBelow_16 rfl rfl rfl ?_
      refine AW.iload_n (pc' := 18) d_C_isSameOrBelow_17 rfl rfl rfl ?_
      refine AW.icmp_neN (tgt := 23) (pc' := 21) d_C_isSameOrBelow_18 (by decide) rfl (by omega) (by omega) (fun h18 => ?_) (fun h18 => ?_)
      · refine AW.aload_n (pc' := 24) d_C_isSameOrBelow_23 rfl rfl rfl ?_
        refine AW.getf (pc' := 27) d_C_isSameOrBelow_24 rfl fl_C_39 rfl rfl ?_
        refine AW.iload_n (pc' := 28) d_C_isSameOrBelow_27 rfl rfl rfl ?_
        refine AW.ialdN (pc' := 29) d_C_isSameOrBelow_28 rfl rfl (by omega) (by decide) ?_
        refine AW.top (u := .int (oI (io (c_abv z j)))) (by rw [e1]) ?_
        refine AW.istore_n (pc' := 30) (ls' := [some (.ref 0), some (.int (nI (a))), some (.int (nI (t))), some (.int (oI (io (c_abv z j)))), some (.int (nI (d)))]) d_C_isSameOrBelow_29 rfl rfl rfl rfl ?_
        refine AW.iincN (pc' := 33) (ls' := [some (.ref 0), some (.int (nI (a))), some (.int (nI (t))), some (.int (oI (io (c_abv z j)))), some (.int (nI (d + 1)))]) d_C_isSameOrBelow_30 rfl rfl rfl rfl ?_
        refine AW.goto (tgt := 5) d_C_isSameOrBelow_33 (by decide) ?_
        have h9 := ih (d + 1) (io (c_abv z j)) (by omega) e2
        rw [show f_sob z t (n + 1) (some j) = f_sob z t n (io (c_abv z j)) from by simp [f_sob, h18]]
        exact h9
      · refine AW.iconst (pc' := 22) (v := nI 1) d_C_isSameOrBelow_21 rfl (by decide) ?_
        exact AW.zret d_C_isSameOrBelow_22 rfl (by decide) rfl rfl ⟨by simp [f_sob, h18], rfl⟩
theorem c_sob (X : ct_X) (z : S_c) (k : S_m) (o : Nat → Int64) (a t : Nat) (ha : a < 20) (ht : t < 20) (hab : ∀ j, j < 20 → okO 20 (c_abv z j)) : AF X m_C_isSameOrBelow 0 0 0 [.ref 0, .int (nI (a)), .int (nI (t))] (wL z k o) (.inl (some (.int (nI (cond (f_sob z t 20 (some a)) 1 0))))) (wL z k o) := by
  refine AM.of rfl (Nat.le_of_ble_eq_true rfl) (ls := [some (.ref 0), some (.int (nI (a))), some (.int (nI (t))), none, none]) rfl ?_
  refine AW.iload_n (pc' := 1) d_C_isSameOrBelow_0 rfl rfl rfl ?_
  refine AW.istore_n (pc' := 2) (ls' := [some (.ref 0), some (.int (nI (a))), some (.int (nI (t))), some (.int (nI (a))), none]) d_C_isSameOrBelow_1 rfl rfl rfl rfl ?_
  refine AW.iconst (pc' := 3) (v := nI 0) d_C_isSameOrBelow_2 rfl (by decide) ?_
  refine AW.istore (pc' := 5) (ls' := [some (.ref 0), some (.int (nI (a))), some (.int (nI (t))), some (.int (nI (a))), some (.int (nI (0)))]) d_C_isSameOrBelow_3 rfl rfl rfl ?_
  exact lp_sob X z k o a t ht hab 20 0 (some a) (by omega) (fun j h => by cases h; exact ha)
theorem c_sob_t (X : ct_X) (z : S_c) (k : S_m) (o : Nat → Int64) (a t : Nat) (ha : a < 20) (ht : t < 20) (hab : ∀ j, j < 20 → okO 20 (c_abv z j)) (h : f_sob z t 20 (some a) = true) : AF X m_C_isSameOrBelow 0 0 0 [.ref 0, .int (nI a), .int (nI t)] (wL z k o) (.inl (some (.int (nI 1)))) (wL z k o) := by
  have h9 := c_sob X z k o a t ha ht hab
  rw [h] at h9
  exact h9
theorem c_sob_f (X : ct_X) (z : S_c) (k : S_m) (o : Nat → Int64) (a t : Nat) (ha : a < 20) (ht : t < 20) (hab : ∀ j, j < 20 → okO 20 (c_abv z j)) (h : f_sob z t 20 (some a) = false) : AF X m_C_isSameOrBelow 0 0 0 [.ref 0, .int (nI a), .int (nI t)] (wL z k o) (.inl (some (.int (nI 0)))) (wL z k o) := by
  have h9 := c_sob X z k o a t ha ht hab
  rw [h] at h9
  exact h9
theorem lp_move (X : ct_X) (z : S_c) (k : S_m) (o : Nat → Int64) (s v : Int32) (hn : c_ns z ≤ 20) : ∀ (n i : Nat) (g : Nat → Int32), i + n = c_ns z → AW X m_C_moveSectorsBelow 0 0 0 0 0 2 [some (.ref 0), some (.int (s)), some (.int (v)), some (.int (nI (i)))] [] (wL (c_abv_ z g) k o) (fun r w' => r = .inl none ∧ w' = wL (c_abv_ z (fun j => if (i ≤ j ∧ j < c_ns z) ∧ (¬ c_opn z j = 0 ∧ g j = s) then v else g j)) k o) := by
  intro n
  induction n with
  | zero =>
    intro i g hi
    have e : (fun j => if (i ≤ j ∧ j < c_ns z) ∧ (¬ c_opn z j = 0 ∧ g j = s) then v else g j) = g := by
      funext j
      rw [if_neg (by omega)]
    rw [e]
    refine AW.iload_n (pc' := 3) d_C_moveSectorsBelow_2 rfl rfl rfl ?_
    refine AW.aload_n (pc' := 4) d_C_moveSectorsBelow_3 rfl rfl rfl ?_
    refine AW.getf (pc' := 7) d_C_moveSectorsBelow_4 rfl fl_C_48 rfl rfl ?_
    refine AW.top (u := .int (nI (c_ns z))) rfl ?_
    refine AW.icmp_geN (tgt := 42) (pc' := 10) d_C_moveSectorsBelow_7 (by decide) rfl (by omega) (by omega) (fun h7 => ?_) (fun h => absurd h (by omega))
    exact AW.vret d_C_moveSectorsBelow_42 rfl rfl rfl ⟨rfl, rfl⟩
  | succ n ih =>
    intro i g hi
    refine AW.iload_n (pc' := 3) d_C_moveSectorsBelow_2 rfl rfl rfl ?_
    refine AW.aload_n (pc' := 4) d_C_moveSectorsBelow_3 rfl rfl rfl ?_
    refine AW.getf (pc' := 7) d_C_moveSectorsBelow_4 rfl fl_C_48 rfl rfl ?_
    refine AW.top (u := .int (nI (c_ns z))) rfl ?_
    refine AW.icmp_geN (tgt := 42) (pc' := 10) d_C_moveSectorsBelow_7 (by decide) rfl (by omega) (by omega) (fun h => absurd h (by omega)) (fun h7 => ?_)
    refine AW.aload_n (pc' := 11) d_C_moveSectorsBelow_10 rfl rfl rfl ?_
    refine AW.getf (pc' := 14) d_C_moveSectorsBelow_11 rfl fl_C_35 rfl rfl ?_
    refine AW.iload_n (pc' := 15) d_C_moveSectorsBelow_14 rfl rfl rfl ?_
    refine AW.zaldN (pc' := 16) d_C_moveSectorsBelow_15 rfl rfl (by omega) (by decide) ?_
    refine AW.top (u := .int ((c_opn z) i)) rfl ?_
    refine AW.if_eq (tgt := 36) (pc' := 19) d_C_moveSectorsBelow_16 (by decide) rfl (fun h16 => ?_) (fun h16 => ?_)
    · refine AW.iincN (pc' := 39) (ls' := [some (.ref 0), some (.int (s)), some (.int (v)), some (.int (nI (i + 1)))]) d_C_moveSectorsBelow_36 rfl rfl rfl rfl ?_
      refine AW.goto (tgt := 2) d_C_moveSectorsBelow_39 (by decide) ?_
      have h9 := ih (i + 1) g (by omega)
      have e : (fun j => if (i + 1 ≤ j ∧ j < c_ns z) ∧ (¬ c_opn z j = 0 ∧ g j = s) then v else g j) = (fun j => if (i ≤ j ∧ j < c_ns z) ∧ (¬ c_opn z j = 0 ∧ g j = s) then v else g j) := by
        funext j
        by_cases hj : j = i
        · subst hj
          rw [if_neg (by omega), if_neg (fun q => absurd h16 q.2.1)]
        · skip
          by_cases h1 : (i ≤ j ∧ j < c_ns z) ∧ (¬ c_opn z j = 0 ∧ g j = s)
          · rw [if_pos h1, if_pos ⟨by omega, h1.2⟩]
          · rw [if_neg h1, if_neg (fun q => h1 ⟨by omega, q.2⟩)]
      rw [e] at h9
      exact AW.wld rfl h9
    · refine AW.aload_n (pc' := 20) d_C_moveSectorsBelow_19 rfl rfl rfl ?_
      refine AW.getf (pc' := 23) d_C_moveSectorsBelow_20 rfl fl_C_39 rfl rfl ?_
      refine AW.iload_n (pc' := 24) d_C_moveSectorsBelow_23 rfl rfl rfl ?_
      refine AW.ialdN (pc' := 25) d_C_moveSectorsBelow_24 rfl rfl (by omega) (by decide) ?_
      refine AW.top (u := .int (g i)) rfl ?_
      refine AW.iload_n (pc' := 26) d_C_moveSectorsBelow_25 rfl rfl rfl ?_
      refine AW.icmp_ne (tgt := 36) (pc' := 29) d_C_moveSectorsBelow_26 (by decide) rfl (fun h26 => ?_) (fun h26 => ?_)
      · refine AW.iincN (pc' := 39) (ls' := [some (.ref 0), some (.int (s)), some (.int (v)), some (.int (nI (i + 1)))]) d_C_moveSectorsBelow_36 rfl rfl rfl rfl ?_
        refine AW.goto (tgt := 2) d_C_moveSectorsBelow_39 (by decide) ?_
        have h9 := ih (i + 1) g (by omega)
        have e : (fun j => if (i + 1 ≤ j ∧ j < c_ns z) ∧ (¬ c_opn z j = 0 ∧ g j = s) then v else g j) = (fun j => if (i ≤ j ∧ j < c_ns z) ∧ (¬ c_opn z j = 0 ∧ g j = s) then v else g j) := by
          funext j
          by_cases hj : j = i
          · subst hj
            rw [if_neg (by omega), if_neg (fun q => absurd q.2.2 h26)]
          · skip
            by_cases h1 : (i ≤ j ∧ j < c_ns z) ∧ (¬ c_opn z j = 0 ∧ g j = s)
            · rw [if_pos h1, if_pos ⟨by omega, h1.2⟩]
            · rw [if_neg h1, if_neg (fun q => h1 ⟨by omega, q.2⟩)]
        rw [e] at h9
        exact AW.wld rfl h9
      · refine AW.aload_n (pc' := 30) d_C_moveSectorsBelow_29 rfl rfl rfl ?_
        refine AW.getf (pc' := 33) d_C_moveSectorsBelow_30 rfl fl_C_39 rfl rfl ?_
        refine AW.iload_n (pc' := 34) d_C_moveSectorsBelow_33 rfl rfl rfl ?_
        refine AW.iload_n (pc' := 35) d_C_moveSectorsBelow_34 rfl rfl rfl ?_
        refine AW.iastN (pc' := 36) (w' := (wL (c_abv_ (c_abv_ z (g)) (upd g i v)) k o)) d_C_moveSectorsBelow_35 rfl rfl (by omega) (by decide) rfl ?_
        refine AW.iincN (pc' := 39) (ls' := [some (.ref 0), some (.int (s)), some (.int (v)), some (.int (nI (i + 1)))]) d_C_moveSectorsBelow_36 rfl rfl rfl rfl ?_
        refine AW.goto (tgt := 2) d_C_moveSectorsBelow_39 (by decide) ?_
        have h9 := ih (i + 1) (upd g i v) (by omega)
        have e : (fun j => if (i + 1 ≤ j ∧ j < c_ns z) ∧ (¬ c_opn z j = 0 ∧ (upd g i v) j = s) then v else (upd g i v) j) = (fun j => if (i ≤ j ∧ j < c_ns z) ∧ (¬ c_opn z j = 0 ∧ g j = s) then v else g j) := by
          funext j
          by_cases hj : j = i
          · subst hj
            rw [if_neg (by omega), pk_us, if_pos ⟨by omega, ⟨h16, h26⟩⟩]
          · rw [pk_un hj]
            by_cases h1 : (i ≤ j ∧ j < c_ns z) ∧ (¬ c_opn z j = 0 ∧ g j = s)
            · rw [if_pos h1, if_pos ⟨by omega, h1.2⟩]
            · rw [if_neg h1, if_neg (fun q => h1 ⟨by omega, q.2⟩)]
        rw [e] at h9
        exact AW.wld rfl h9
def f_move (z : S_c) (s v : Int32) : Nat → Int32 := fun j => if (0 ≤ j ∧ j < c_ns z) ∧ (¬ c_opn z j = 0 ∧ c_abv z j = s) then v else c_abv z j
theorem c_move (X : ct_X) (z : S_c) (k : S_m) (o : Nat → Int64) (s v : Int32) (hn : c_ns z ≤ 20) : AF X m_C_moveSectorsBelow 0 0 0 [.ref 0, .int (s), .int (v)] (wL z k o) (.inl none) (wL (c_abv_ z (f_move z s v)) k o) := by
  refine AM.of rfl (Nat.le_of_ble_eq_true rfl) (ls := [some (.ref 0), some (.int (s)), some (.int (v)), none]) rfl ?_
  refine AW.iconst (pc' := 1) (v := nI 0) d_C_moveSectorsBelow_0 rfl (by decide) ?_
  refine AW.istore_n (pc' := 2) (ls' := [some (.ref 0), some (.int (s)), some (.int (v)), some (.int (nI (0)))]) d_C_moveSectorsBelow_1 rfl rfl rfl rfl ?_
  exact lp_move X z k o s v hn (c_ns z) 0 (c_abv z) (by omega)
theorem lp_give (X : ct_X) (z : S_c) (k : S_m) (o : Nat → Int64) (s v : Int32) (hn : t_n z ≤ 60) : ∀ (n i : Nat) (g : Nat → Int32), i + n = t_n z → AW X m_T_giveUnanswered 1 0 0 0 0 2 [some (.ref 10), some (.int (s)), some (.int (v)), some (.int (nI (i)))] [] (wL (t_sec_ z g) k o) (fun r w' => r = .inl none ∧ w' = wL (t_sec_ z (fun j => if (i ≤ j ∧ j < t_n z) ∧ (g j = s ∧ t_rep z j = 0) then v else g j)) k o) := by
  intro n
  induction n with
  | zero =>
    intro i g hi
    have e : (fun j => if (i ≤ j ∧ j < t_n z) ∧ (g j = s ∧ t_rep z j = 0) then v else g j) = g := by
      funext j
      rw [if_neg (by omega)]
    rw [e]
    refine AW.iload_n (pc' := 3) d_T_giveUnanswered_2 rfl rfl rfl ?_
    refine AW.aload_n (pc' := 4) d_T_giveUnanswered_3 rfl rfl rfl ?_
    refine AW.getf (pc' := 7) d_T_giveUnanswered_4 rfl fl_T_30 rfl rfl ?_
    refine AW.top (u := .int (nI (t_n z))) rfl ?_
    refine AW.icmp_geN (tgt := 41) (pc' := 10) d_T_giveUnanswered_7 (by decide) rfl (by omega) (by omega) (fun h7 => ?_) (fun h => absurd h (by omega))
    exact AW.vret d_T_giveUnanswered_41 rfl rfl rfl ⟨rfl, rfl⟩
  | succ n ih =>
    intro i g hi
    refine AW.iload_n (pc' := 3) d_T_giveUnanswered_2 rfl rfl rfl ?_
    refine AW.aload_n (pc' := 4) d_T_giveUnanswered_3 rfl rfl rfl ?_
    refine AW.getf (pc' := 7) d_T_giveUnanswered_4 rfl fl_T_30 rfl rfl ?_
    refine AW.top (u := .int (nI (t_n z))) rfl ?_
    refine AW.icmp_geN (tgt := 41) (pc' := 10) d_T_giveUnanswered_7 (by decide) rfl (by omega) (by omega) (fun h => absurd h (by omega)) (fun h7 => ?_)
    refine AW.aload_n (pc' := 11) d_T_giveUnanswered_10 rfl rfl rfl ?_
    refine AW.getf (pc' := 14) d_T_giveUnanswered_11 rfl fl_T_9 rfl rfl ?_
    refine AW.iload_n (pc' := 15) d_T_giveUnanswered_14 rfl rfl rfl ?_
    refine AW.ialdN (pc' := 16) d_T_giveUnanswered_15 rfl rfl (by omega) (by decide) ?_
    refine AW.top (u := .int (g i)) rfl ?_
    refine AW.iload_n (pc' := 17) d_T_giveUnanswered_16 rfl rfl rfl ?_
    refine AW.icmp_ne (tgt := 35) (pc' := 20) d_T_giveUnanswered_17 (by decide) rfl (fun h17 => ?_) (fun h17 => ?_)
    · refine AW.iincN (pc' := 38) (ls' := [some (.ref 10), some (.int (s)), some (.int (v)), some (.int (nI (i + 1)))]) d_T_giveUnanswered_35 rfl rfl rfl rfl ?_
      refine AW.goto (tgt := 2) d_T_giveUnanswered_38 (by decide) ?_
      have h9 := ih (i + 1) g (by omega)
      have e : (fun j => if (i + 1 ≤ j ∧ j < t_n z) ∧ (g j = s ∧ t_rep z j = 0) then v else g j) = (fun j => if (i ≤ j ∧ j < t_n z) ∧ (g j = s ∧ t_rep z j = 0) then v else g j) := by
        funext j
        by_cases hj : j = i
        · subst hj
          rw [if_neg (by omega), if_neg (fun q => absurd q.2.1 h17)]
        · skip
          by_cases h1 : (i ≤ j ∧ j < t_n z) ∧ (g j = s ∧ t_rep z j = 0)
          · rw [if_pos h1, if_pos ⟨by omega, h1.2⟩]
          · rw [if_neg h1, if_neg (fun q => h1 ⟨by omega, q.2⟩)]
      rw [e] at h9
      exact AW.wld rfl h9
    · refine AW.aload_n (pc' := 21) d_T_giveUnanswered_20 rfl rfl rfl ?_
      refine AW.iload_n (pc' := 22) d_T_giveUnanswered_21 rfl rfl rfl ?_
      by_cases hb : t_rep z i = 0
      · refine AW.cV (pc' := 25) d_T_giveUnanswered_22 rfl cv_T_38 (by decide) rfl rfl rfl (c_isAnswered_f X (t_sec_ z g) k o i (by omega) hb) rfl rfl rfl rfl rfl rfl rfl ?_
        refine AW.if_ne (tgt := 35) (pc' := 28) d_T_giveUnanswered_25 (by decide) rfl (fun h => absurd h (by decide)) (fun _ => ?_)
        refine AW.aload_n (pc' := 29) d_T_giveUnanswered_28 rfl rfl rfl ?_
        refine AW.getf (pc' := 32) d_T_giveUnanswered_29 rfl fl_T_9 rfl rfl ?_
        refine AW.iload_n (pc' := 33) d_T_giveUnanswered_32 rfl rfl rfl ?_
        refine AW.iload_n (pc' := 34) d_T_giveUnanswered_33 rfl rfl rfl ?_
        refine AW.iastN (pc' := 35) (w' := (wL (t_sec_ (t_sec_ z (g)) (upd g i v)) k o)) d_T_giveUnanswered_34 rfl rfl (by omega) (by decide) rfl ?_
        refine AW.iincN (pc' := 38) (ls' := [some (.ref 10), some (.int (s)), some (.int (v)), some (.int (nI (i + 1)))]) d_T_giveUnanswered_35 rfl rfl rfl rfl ?_
        refine AW.goto (tgt := 2) d_T_giveUnanswered_38 (by decide) ?_
        have h9 := ih (i + 1) (upd g i v) (by omega)
        have e : (fun j => if (i + 1 ≤ j ∧ j < t_n z) ∧ ((upd g i v) j = s ∧ t_rep z j = 0) then v else (upd g i v) j) = (fun j => if (i ≤ j ∧ j < t_n z) ∧ (g j = s ∧ t_rep z j = 0) then v else g j) := by
          funext j
          by_cases hj : j = i
          · subst hj
            rw [if_neg (by omega), pk_us, if_pos ⟨by omega, ⟨h17, hb⟩⟩]
          · rw [pk_un hj]
            by_cases h1 : (i ≤ j ∧ j < t_n z) ∧ (g j = s ∧ t_rep z j = 0)
            · rw [if_pos h1, if_pos ⟨by omega, h1.2⟩]
            · rw [if_neg h1, if_neg (fun q => h1 ⟨by omega, q.2⟩)]
        rw [e] at h9
        exact AW.wld rfl h9
      · refine AW.cV (pc' := 25) d_T_giveUnanswered_22 rfl cv_T_38 (by decide) rfl rfl rfl (c_isAnswered_t X (t_sec_ z g) k o i (by omega) hb) rfl rfl rfl rfl rfl rfl rfl ?_
        refine AW.if_ne (tgt := 35) (pc' := 28) d_T_giveUnanswered_25 (by decide) rfl (fun _ => ?_) (fun h => absurd h (by decide))
        refine AW.iincN (pc' := 38) (ls' := [some (.ref 10), some (.int (s)), some (.int (v)), some (.int (nI (i + 1)))]) d_T_giveUnanswered_35 rfl rfl rfl rfl ?_
        refine AW.goto (tgt := 2) d_T_giveUnanswered_38 (by decide) ?_
        have h9 := ih (i + 1) g (by omega)
        have e : (fun j => if (i + 1 ≤ j ∧ j < t_n z) ∧ (g j = s ∧ t_rep z j = 0) then v else g j) = (fun j => if (i ≤ j ∧ j < t_n z) ∧ (g j = s ∧ t_rep z j = 0) then v else g j) := by
          funext j
          by_cases hj : j = i
          · subst hj
            rw [if_neg (by omega), if_neg (fun q => absurd q.2.2 hb)]
          · skip
            by_cases h1 : (i ≤ j ∧ j < t_n z) ∧ (g j = s ∧ t_rep z j = 0)
            · rw [if_pos h1, if_pos ⟨by omega, h1.2⟩]
            · rw [if_neg h1, if_neg (fun q => h1 ⟨by omega, q.2⟩)]
        rw [e] at h9
        exact AW.wld rfl h9
def f_give (z : S_c) (s v : Int32) : Nat → Int32 := fun j => if (0 ≤ j ∧ j < t_n z) ∧ (t_sec z j = s ∧ t_rep z j = 0) then v else t_sec z j
theorem c_give (X : ct_X) (z : S_c) (k : S_m) (o : Nat → Int64) (s v : Int32) (hn : t_n z ≤ 60) : AF X m_T_giveUnanswered 1 0 0 [.ref 10, .int (s), .int (v)] (wL z k o) (.inl none) (wL (t_sec_ z (f_give z s v)) k o) := by
  refine AM.of rfl (Nat.le_of_ble_eq_true rfl) (ls := [some (.ref 10), some (.int (s)), some (.int (v)), none]) rfl ?_
  refine AW.iconst (pc' := 1) (v := nI 0) d_T_giveUnanswered_0 rfl (by decide) ?_
  refine AW.istore_n (pc' := 2) (ls' := [some (.ref 10), some (.int (s)), some (.int (v)), some (.int (nI (0)))]) d_T_giveUnanswered_1 rfl rfl rfl rfl ?_
  exact lp_give X z k o s v hn (t_n z) 0 (t_sec z) (by omega)
def overB (z : S_c) (a b j : Nat) : Bool := decide (f_state z j a = 0) && decide (f_state z j b = nI 3)
theorem lp_over (X : ct_X) (z : S_c) (k : S_m) (o : Nat → Int64) (a b : Nat) (hn : t_n z ≤ 60) : ∀ (n i : Nat), i + n = t_n z → AW X m_T_countNewlyOverdue 2 0 0 0 0 5 [some (.ref 10), some (.int (nI (a))), some (.int (nI (b))), some (.int (nI (cntB (overB z a b) i))), some (.int (nI (i)))] [] (wL z k o) (fun r w' => r = .inl (some (.int (nI (cntB (overB z a b) (t_n z))))) ∧ w' = wL z k o) := by
  intro n
  induction n with
  | zero =>
    intro i hi
    have e : i = t_n z := by omega
    subst e
    refine AW.iload (pc' := 7) d_T_countNewlyOverdue_5 rfl rfl ?_
    refine AW.aload_n (pc' := 8) d_T_countNewlyOverdue_7 rfl rfl rfl ?_
    refine AW.getf (pc' := 11) d_T_countNewlyOverdue_8 rfl fl_T_30 rfl rfl ?_
    refine AW.icmp_geN (tgt := 44) (pc' := 14) d_T_countNewlyOverdue_11 (by decide) rfl (by omega) (by omega) (fun h11 => ?_) (fun h => absurd h (by omega))
    refine AW.iload_n (pc' := 45) d_T_countNewlyOverdue_44 rfl rfl rfl ?_
    exact AW.iret d_T_countNewlyOverdue_45 rfl rfl rfl ⟨rfl, rfl⟩
  | succ n ih =>
    intro i hi
    refine AW.iload (pc' := 7) d_T_countNewlyOverdue_5 rfl rfl ?_
    refine AW.aload_n (pc' := 8) d_T_countNewlyOverdue_7 rfl rfl rfl ?_
    refine AW.getf (pc' := 11) d_T_countNewlyOverdue_8 rfl fl_T_30 rfl rfl ?_
    refine AW.icmp_geN (tgt := 44) (pc' := 14) d_T_countNewlyOverdue_11 (by decide) rfl (by omega) (by omega) (fun h => absurd h (by omega)) (fun h11 => ?_)
    refine AW.aload_n (pc' := 15) d_T_countNewlyOverdue_14 rfl rfl rfl ?_
    refine AW.iload (pc' := 17) d_T_countNewlyOverdue_15 rfl rfl ?_
    refine AW.iload_n (pc' := 18) d_T_countNewlyOverdue_17 rfl rfl rfl ?_
    refine AW.cV (pc' := 21) d_T_countNewlyOverdue_18 rfl cv_T_42 (by decide) rfl rfl rfl (c_stateOf X z k o i a (by omega)) rfl rfl rfl rfl rfl rfl rfl ?_
    refine AW.if_ne (tgt := 38) (pc' := 24) d_T_countNewlyOverdue_21 (by decide) rfl (fun h21 => ?_) (fun h21 => ?_)
    · refine AW.iincN (pc' := 41) (ls' := [some (.ref 10), some (.int (nI (a))), some (.int (nI (b))), some (.int (nI (cntB (overB z a b) i))), some (.int (nI (i + 1)))]) d_T_countNewlyOverdue_38 rfl rfl rfl rfl ?_
      refine AW.goto (tgt := 5) d_T_countNewlyOverdue_41 (by decide) ?_
      have h9 := ih (i + 1) (by omega)
      rw [cntB_f (show (overB z a b) i = false from by simp [overB, h21])] at h9
      exact h9
    · refine AW.aload_n (pc' := 25) d_T_countNewlyOverdue_24 rfl rfl rfl ?_
      refine AW.iload (pc' := 27) d_T_countNewlyOverdue_25 rfl rfl ?_
      refine AW.iload_n (pc' := 28) d_T_countNewlyOverdue_27 rfl rfl rfl ?_
      refine AW.cV (pc' := 31) d_T_countNewlyOverdue_28 rfl cv_T_42 (by decide) rfl rfl rfl (c_stateOf X z k o i b (by omega)) rfl rfl rfl rfl rfl rfl rfl ?_
      refine AW.iconst (pc' := 32) (v := nI 3) d_T_countNewlyOverdue_31 rfl (by decide) ?_
      refine AW.icmp_ne (tgt := 38) (pc' := 35) d_T_countNewlyOverdue_32 (by decide) rfl (fun h32 => ?_) (fun h32 => ?_)
      · refine AW.iincN (pc' := 41) (ls' := [some (.ref 10), some (.int (nI (a))), some (.int (nI (b))), some (.int (nI (cntB (overB z a b) i))), some (.int (nI (i + 1)))]) d_T_countNewlyOverdue_38 rfl rfl rfl rfl ?_
        refine AW.goto (tgt := 5) d_T_countNewlyOverdue_41 (by decide) ?_
        have h9 := ih (i + 1) (by omega)
        rw [cntB_f (show (overB z a b) i = false from by simp [overB, h21, h32])] at h9
        exact h9
      · refine AW.iincN (pc' := 38) (ls' := [some (.ref 10), some (.int (nI (a))), some (.int (nI (b))), some (.int (nI ((cntB (overB z a b) i) + 1))), some (.int (nI (i)))]) d_T_countNewlyOverdue_35 rfl rfl rfl rfl ?_
        refine AW.iincN (pc' := 41) (ls' := [some (.ref 10), some (.int (nI (a))), some (.int (nI (b))), some (.int (nI ((cntB (overB z a b) i) + 1))), some (.int (nI (i + 1)))]) d_T_countNewlyOverdue_38 rfl rfl rfl rfl ?_
        refine AW.goto (tgt := 5) d_T_countNewlyOverdue_41 (by decide) ?_
        have h9 := ih (i + 1) (by omega)
        rw [cntB_t (show (overB z a b) i = true from by simp [overB, h21, h32])] at h9
        exact h9
theorem c_over (X : ct_X) (z : S_c) (k : S_m) (o : Nat → Int64) (a b : Nat) (hn : t_n z ≤ 60) : AF X m_T_countNewlyOverdue 2 0 0 [.ref 10, .int (nI (a)), .int (nI (b))] (wL z k o) (.inl (some (.int (nI (cntB (overB z a b) (t_n z)))))) (wL z k o) := by
  refine AM.of rfl (Nat.le_of_ble_eq_true rfl) (ls := [some (.ref 10), some (.int (nI (a))), some (.int (nI (b))), none, none]) rfl ?_
  refine AW.iconst (pc' := 1) (v := nI 0) d_T_countNewlyOverdue_0 rfl (by decide) ?_
  refine AW.istore_n (pc' := 2) (ls' := [some (.ref 10), some (.int (nI (a))), some (.int (nI (b))), some (.int (nI (0))), none]) d_T_countNewlyOverdue_1 rfl rfl rfl rfl ?_
  refine AW.iconst (pc' := 3) (v := nI 0) d_T_countNewlyOverdue_2 rfl (by decide) ?_
  refine AW.istore (pc' := 5) (ls' := [some (.ref 10), some (.int (nI (a))), some (.int (nI (b))), some (.int (nI (0))), some (.int (nI (0)))]) d_T_countNewlyOverdue_3 rfl rfl rfl ?_
  exact lp_over X z k o a b hn (t_n z) 0 (by omega)
def f_lead (z : S_c) (s t : Int32) : Nat → Nat → Int32 → Int32
  | 0, _, a => a
  | n + 1, i, a => if r_sec z (ring (r_old z) i) ≤ t then f_lead z s t n (i + 1) (if r_num z (ring (r_old z) i) = s then r_led z (ring (r_old z) i) else a) else a
theorem lp_lead (X : ct_X) (z : S_c) (k : S_m) (o : Nat → Int64) (s : Nat) (t : Int32) (hz : r_old z < 400) (hn : r_n z ≤ 400) : ∀ (n i : Nat) (a : Int32), i + n = r_n z → AW X m_R_leaderBehind 1 0 0 0 0 10 [some (.ref 15), some (.int (nI (s))), some (.int (t)), some (.int (a)), some (.int (nI (i))), none] [] (wL z k o) (fun r w' => r = .inl (some (.int (f_lead z (nI s) t n i a))) ∧ w' = wL z k o) := by
  intro n
  induction n with
  | zero =>
    intro i a hi
    refine AW.iload (pc' := 12) d_R_leaderBehind_10 rfl rfl ?_
    refine AW.aload_n (pc' := 13) d_R_leaderBehind_12 rfl rfl rfl ?_
    refine AW.getf (pc' := 16) d_R_leaderBehind_13 rfl fl_R_30 rfl rfl ?_
    refine AW.icmp_geN (tgt := 65) (pc' := 19) d_R_leaderBehind_16 (by decide) rfl (by omega) (by omega) (fun h16 => ?_) (fun h => absurd h (by omega))
    refine AW.iload_n (pc' := 66) d_R_leaderBehind_65 rfl rfl rfl ?_
    exact AW.iret d_R_leaderBehind_66 rfl rfl rfl ⟨rfl, rfl⟩
  | succ n ih =>
    intro i a hi
    refine AW.iload (pc' := 12) d_R_leaderBehind_10 rfl rfl ?_
    refine AW.aload_n (pc' := 13) d_R_leaderBehind_12 rfl rfl rfl ?_
    refine AW.getf (pc' := 16) d_R_leaderBehind_13 rfl fl_R_30 rfl rfl ?_
    refine AW.icmp_geN (tgt := 65) (pc' := 19) d_R_leaderBehind_16 (by decide) rfl (by omega) (by omega) (fun h => absurd h (by omega)) (fun h16 => ?_)
    refine AW.aload_n (pc' := 20) d_R_leaderBehind_19 rfl rfl rfl ?_
    refine AW.iload (pc' := 22) d_R_leaderBehind_20 rfl rfl ?_
    refine AW.cV (pc' := 25) d_R_leaderBehind_22 rfl cv_R_37 (by decide) rfl rfl rfl (c_ringIndex X z k o i (by omega) hz) rfl rfl rfl rfl rfl rfl rfl ?_
    refine AW.istore (pc' := 27) (ls' := [some (.ref 15), some (.int (nI (s))), some (.int (t)), some (.int (a)), some (.int (nI (i))), some (.int (nI (ring (r_old z) i)))]) d_R_leaderBehind_25 rfl rfl rfl ?_
    refine AW.aload_n (pc' := 28) d_R_leaderBehind_27 rfl rfl rfl ?_
    refine AW.getf (pc' := 31) d_R_leaderBehind_28 rfl fl_R_9 rfl rfl ?_
    refine AW.iload (pc' := 33) d_R_leaderBehind_31 rfl rfl ?_
    refine AW.ialdN (pc' := 34) d_R_leaderBehind_33 rfl rfl (ring_lt hz (by omega)) (by decide) ?_
    refine AW.iload_n (pc' := 35) d_R_leaderBehind_34 rfl rfl rfl ?_
    refine AW.icmp_le (tgt := 40) (pc' := 38) d_R_leaderBehind_35 (by decide) rfl (fun h35 => ?_) (fun h35 => ?_)
    · refine AW.aload_n (pc' := 41) d_R_leaderBehind_40 rfl rfl rfl ?_
      refine AW.getf (pc' := 44) d_R_leaderBehind_41 rfl fl_R_15 rfl rfl ?_
      refine AW.iload (pc' := 46) d_R_leaderBehind_44 rfl rfl ?_
      refine AW.ialdN (pc' := 47) d_R_leaderBehind_46 rfl rfl (ring_lt hz (by omega)) (by decide) ?_
      refine AW.iload_n (pc' := 48) d_R_leaderBehind_47 rfl rfl rfl ?_
      refine AW.icmp_ne (tgt := 59) (pc' := 51) d_R_leaderBehind_48 (by decide) rfl (fun h48 => ?_) (fun h48 => ?_)
      · refine AW.iincN (pc' := 62) (ls' := [some (.ref 15), some (.int (nI (s))), some (.int (t)), some (.int (a)), some (.int (nI (i + 1))), some (.int (nI (ring (r_old z) i)))]) d_R_leaderBehind_59 rfl rfl rfl rfl ?_
        refine AW.goto (tgt := 10) d_R_leaderBehind_62 (by decide) ?_
        have h9 := ih (i + 1) a (by omega)
        rw [show f_lead z (nI s) t (n + 1) i a = f_lead z (nI s) t n (i + 1) a from by simp [f_lead, h35, h48]]
        exact AW.dropL (j := 5) rfl h9
      · refine AW.aload_n (pc' := 52) d_R_leaderBehind_51 rfl rfl rfl ?_
        refine AW.getf (pc' := 55) d_R_leaderBehind_52 rfl fl_R_18 rfl rfl ?_
        refine AW.iload (pc' := 57) d_R_leaderBehind_55 rfl rfl ?_
        refine AW.ialdN (pc' := 58) d_R_leaderBehind_57 rfl rfl (ring_lt hz (by omega)) (by decide) ?_
        refine AW.istore_n (pc' := 59) (ls' := [some (.ref 15), some (.int (nI (s))), some (.int (t)), some (.int ((r_led z) (ring (r_old z) i))), some (.int (nI (i))), some (.int (nI (ring (r_old z) i)))]) d_R_leaderBehind_58 rfl rfl rfl rfl ?_
        refine AW.iincN (pc' := 62) (ls' := [some (.ref 15), some (.int (nI (s))), some (.int (t)), some (.int ((r_led z) (ring (r_old z) i))), some (.int (nI (i + 1))), some (.int (nI (ring (r_old z) i)))]) d_R_leaderBehind_59 rfl rfl rfl rfl ?_
        refine AW.goto (tgt := 10) d_R_leaderBehind_62 (by decide) ?_
        have h9 := ih (i + 1) ((r_led z) (ring (r_old z) i)) (by omega)
        rw [show f_lead z (nI s) t (n + 1) i a = f_lead z (nI s) t n (i + 1) ((r_led z) (ring (r_old z) i)) from by simp [f_lead, h35, h48]]
        exact AW.dropL (j := 5) rfl h9
    · refine AW.iload_n (pc' := 39) d_R_leaderBehind_38 rfl rfl rfl ?_
      exact AW.iret d_R_leaderBehind_39 rfl rfl rfl ⟨by simp [f_lead, h35], rfl⟩
theorem c_lead (X : ct_X) (z : S_c) (k : S_m) (o : Nat → Int64) (s : Nat) (t : Int32) (hs : s < 20) (hz : r_old z < 400) (hn : r_n z ≤ 400) : AF X m_R_leaderBehind 1 0 0 [.ref 15, .int (nI (s)), .int (t)] (wL z k o) (.inl (some (.int (f_lead z (nI s) t (r_n z) 0 (r_bef z s))))) (wL z k o) := by
  refine AM.of rfl (Nat.le_of_ble_eq_true rfl) (ls := [some (.ref 15), some (.int (nI (s))), some (.int (t)), none, none, none]) rfl ?_
  refine AW.aload_n (pc' := 1) d_R_leaderBehind_0 rfl rfl rfl ?_
  refine AW.getf (pc' := 4) d_R_leaderBehind_1 rfl fl_R_21 rfl rfl ?_
  refine AW.iload_n (pc' := 5) d_R_leaderBehind_4 rfl rfl rfl ?_
  refine AW.ialdN (pc' := 6) d_R_leaderBehind_5 rfl rfl (by omega) (by decide) ?_
  refine AW.istore_n (pc' := 7) (ls' := [some (.ref 15), some (.int (nI (s))), some (.int (t)), some (.int ((r_bef z) s)), none, none]) d_R_leaderBehind_6 rfl rfl rfl rfl ?_
  refine AW.iconst (pc' := 8) (v := nI 0) d_R_leaderBehind_7 rfl (by decide) ?_
  refine AW.istore (pc' := 10) (ls' := [some (.ref 15), some (.int (nI (s))), some (.int (t)), some (.int ((r_bef z) s)), some (.int (nI (0))), none]) d_R_leaderBehind_8 rfl rfl rfl ?_
  exact lp_lead X z k o s t hz hn (r_n z) 0 _ (by omega)
theorem c_lln_n (X : ct_X) (z : S_c) (k : S_m) (o : Nat → Int64) (p : Nat) (hp : p < 40) (h : c_slb z p = -1) : AF X m_C_leaveLeadToNext 4 0 0 [.ref 0, .int (nI (p))] (wL z k o) (.inl none) (wL z k o) := by
  refine AM.of rfl (Nat.le_of_ble_eq_true rfl) (ls := [some (.ref 0), some (.int (nI (p))), none]) rfl ?_
  refine AW.aload_n (pc' := 1) d_C_leaveLeadToNext_0 rfl rfl rfl ?_
  refine AW.getf (pc' := 4) d_C_leaveLeadToNext_1 rfl fl_C_23 rfl rfl ?_
  refine AW.iload_n (pc' := 5) d_C_leaveLeadToNext_4 rfl rfl rfl ?_
  refine AW.ialdN (pc' := 6) d_C_leaveLeadToNext_5 rfl rfl (by omega) (by decide) ?_
  refine AW.top (u := .int ((-1))) (by rw [h]) ?_
  refine AW.istore_n (pc' := 7) (ls' := [some (.ref 0), some (.int (nI (p))), some (.int ((-1)))]) d_C_leaveLeadToNext_6 rfl rfl rfl rfl ?_
  refine AW.iload_n (pc' := 8) d_C_leaveLeadToNext_7 rfl rfl rfl ?_
  refine AW.if_lt (tgt := 21) (pc' := 11) d_C_leaveLeadToNext_8 (by decide) rfl (fun h8 => ?_) (fun h => absurd (by decide) h)
  exact AW.vret d_C_leaveLeadToNext_21 rfl rfl rfl ⟨rfl, rfl⟩
theorem c_lln_sn (X : ct_X) (z : S_c) (k : S_m) (o : Nat → Int64) (p s : Nat) (hp : p < 40) (hs : s < 20) (hnp : c_np z ≤ 40) (hn : c_ns z ≤ 20) (h : c_slb z p = nI s) (hl : c_ldr z s = nI p) (hx : f_next z (nI s) (c_np z) = none) (hR : Ring z) : AF X m_C_leaveLeadToNext 4 0 0 [.ref 0, .int (nI (p))] (wL z k o) (.inl none) (wL (f_set1 z s (some p) none) k o) := by
  refine AM.of rfl (Nat.le_of_ble_eq_true rfl) (ls := [some (.ref 0), some (.int (nI (p))), none]) rfl ?_
  refine AW.aload_n (pc' := 1) d_C_leaveLeadToNext_0 rfl rfl rfl ?_
  refine AW.getf (pc' := 4) d_C_leaveLeadToNext_1 rfl fl_C_23 rfl rfl ?_
  refine AW.iload_n (pc' := 5) d_C_leaveLeadToNext_4 rfl rfl rfl ?_
  refine AW.ialdN (pc' := 6) d_C_leaveLeadToNext_5 rfl rfl (by omega) (by decide) ?_
  refine AW.top (u := .int (nI (s))) (by rw [h]) ?_
  refine AW.istore_n (pc' := 7) (ls' := [some (.ref 0), some (.int (nI (p))), some (.int (nI (s)))]) d_C_leaveLeadToNext_6 rfl rfl rfl rfl ?_
  refine AW.iload_n (pc' := 8) d_C_leaveLeadToNext_7 rfl rfl rfl ?_
  refine AW.if_lt (tgt := 21) (pc' := 11) d_C_leaveLeadToNext_8 (by decide) rfl (fun h => absurd h (nI_pos (by omega))) (fun _ => ?_)
  refine AW.aload_n (pc' := 12) d_C_leaveLeadToNext_11 rfl rfl rfl ?_
  refine AW.iload_n (pc' := 13) d_C_leaveLeadToNext_12 rfl rfl rfl ?_
  refine AW.aload_n (pc' := 14) d_C_leaveLeadToNext_13 rfl rfl rfl ?_
  refine AW.iload_n (pc' := 15) d_C_leaveLeadToNext_14 rfl rfl rfl ?_
  refine AW.cV (pc' := 18) d_C_leaveLeadToNext_15 rfl cv_C_150 (by decide) rfl rfl rfl (c_next X z k o (nI s) hnp) rfl rfl rfl rfl rfl rfl rfl ?_
  refine AW.top (u := .int ((-1))) (by rw [hx]; rfl) ?_
  refine AW.cV (pc' := 21) d_C_leaveLeadToNext_18 rfl cv_C_137 (by decide) rfl rfl rfl (c_set_sn X z k o s p hp hs hn hl hR) rfl rfl rfl rfl rfl rfl rfl ?_
  exact AW.vret d_C_leaveLeadToNext_21 rfl rfl rfl ⟨rfl, rfl⟩
theorem c_lln_ss (X : ct_X) (z : S_c) (k : S_m) (o : Nat → Int64) (p s : Nat) (hp : p < 40) (hs : s < 20) (hnp : c_np z ≤ 40) (hn : c_ns z ≤ 20) (h : c_slb z p = nI s) (hl : c_ldr z s = nI p) (r : Nat) (hr : r < 40) (hne : ¬ p = r) (hx : f_next z (nI s) (c_np z) = some r) (hR : Ring z) : AF X m_C_leaveLeadToNext 4 0 0 [.ref 0, .int (nI (p))] (wL z k o) (.inl none) (wL (f_set1 z s (some p) (some r)) k o) := by
  refine AM.of rfl (Nat.le_of_ble_eq_true rfl) (ls := [some (.ref 0), some (.int (nI (p))), none]) rfl ?_
  refine AW.aload_n (pc' := 1) d_C_leaveLeadToNext_0 rfl rfl rfl ?_
  refine AW.getf (pc' := 4) d_C_leaveLeadToNext_1 rfl fl_C_23 rfl rfl ?_
  refine AW.iload_n (pc' := 5) d_C_leaveLeadToNext_4 rfl rfl rfl ?_
  refine AW.ialdN (pc' := 6) d_C_leaveLeadToNext_5 rfl rfl (by omega) (by decide) ?_
  refine AW.top (u := .int (nI (s))) (by rw [h]) ?_
  refine AW.istore_n (pc' := 7) (ls' := [some (.ref 0), some (.int (nI (p))), some (.int (nI (s)))]) d_C_leaveLeadToNext_6 rfl rfl rfl rfl ?_
  refine AW.iload_n (pc' := 8) d_C_leaveLeadToNext_7 rfl rfl rfl ?_
  refine AW.if_lt (tgt := 21) (pc' := 11) d_C_leaveLeadToNext_8 (by decide) rfl (fun h => absurd h (nI_pos (by omega))) (fun _ => ?_)
  refine AW.aload_n (pc' := 12) d_C_leaveLeadToNext_11 rfl rfl rfl ?_
  refine AW.iload_n (pc' := 13) d_C_leaveLeadToNext_12 rfl rfl rfl ?_
  refine AW.aload_n (pc' := 14) d_C_leaveLeadToNext_13 rfl rfl rfl ?_
  refine AW.iload_n (pc' := 15) d_C_leaveLeadToNext_14 rfl rfl rfl ?_
  refine AW.cV (pc' := 18) d_C_leaveLeadToNext_15 rfl cv_C_150 (by decide) rfl rfl rfl (c_next X z k o (nI s) hnp) rfl rfl rfl rfl rfl rfl rfl ?_
  refine AW.top (u := .int (nI (r))) (by rw [hx]; rfl) ?_
  refine AW.cV (pc' := 21) d_C_leaveLeadToNext_18 rfl cv_C_137 (by decide) rfl rfl rfl (c_set_ss X z k o s p hp r hr hne hs hn hl hR) rfl rfl rfl rfl rfl rfl rfl ?_
  exact AW.vret d_C_leaveLeadToNext_21 rfl rfl rfl ⟨rfl, rfl⟩
