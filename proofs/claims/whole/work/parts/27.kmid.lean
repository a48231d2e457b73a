/-! THE REFERENCE'S MIDDLE METHODS (rows printed by wip/whole/m8.py) -/
theorem row_rows (k : S_m) (s p : Int32) : k_rows (f_row k s p) = k_rows k + 1 := by
  unfold f_row
  split <;> rfl
theorem rowK_row {k : S_m} {s : Nat} {p : Int32} (h : RowK k) (hs : s < 20) : RowK (f_row k (nI s) p) := by
  intro i hi
  have e : k_rs (f_row k (nI s) p) = upd (k_rs k) (k_rows k % 400) (nI s) := by
    unfold f_row
    split <;> rfl
  rw [e]
  by_cases q : i = k_rows k % 400
  · rw [q, pk_us]
    exact ⟨s, hs, rfl⟩
  · rw [pk_un q]
    exact h i hi
theorem kl0_ns (k : S_m) (s : Nat) (p : Option Nat) : k_ns (f_kl0 k s p) = k_ns k := row_ns _ _ _
theorem kl_ns (k : S_m) (s : Nat) (p : Option Nat) : k_ns (f_kl k s p) = k_ns k := by
  unfold f_kl
  split
  · rfl
  · cases p <;> exact kl0_ns _ _ _
theorem kl_rows (k : S_m) (s : Nat) (p : Option Nat) : k_rows (f_kl k s p) ≤ k_rows k + 1 := by
  unfold f_kl
  split
  · omega
  · cases p <;> exact Nat.le_of_eq (row_rows _ _ _)
theorem kl_rowK {k : S_m} {s : Nat} {p : Option Nat} (h : RowK k) (hs : s < 20) : RowK (f_kl k s p) := by
  unfold f_kl
  split
  · exact h
  · cases p <;> exact rowK_row (k := k_off_ (k_ldr_ k _) _) h hs
def f_tl (k : S_m) (p : Nat) : Option Nat → S_m
  | none => k
  | some t => if k_ldr k t < 0 then f_kl k t (some p) else k
def f_mv0 (k : S_m) (p : Nat) (to : Option Nat) : S_m := k_in_ k (upd (k_in k) p (oI to))
def f_mv2 (k : S_m) (p s : Nat) (to : Option Nat) : S_m := k_ldr_ (f_mv0 k p to) (upd (k_ldr k) s (-1))
def f_mv3 (k : S_m) (p s : Nat) (to : Option Nat) : S_m := k_ldr_ (f_mv0 k p to) (upd (upd (k_ldr k) s (-1)) s (nI p))
def f_mv1 (k : S_m) (p : Nat) (to : Option Nat) : S_m := match f_leads k (nI p) with
  | none => f_mv0 k p to
  | some s => f_kl (f_mv3 k p s to) s (f_knext (f_mv2 k p s to) (nI s) (k_np k))
def f_moves (k : S_m) (p : Nat) (to : Option Nat) : S_m := f_tl (f_mv1 k p to) p to
theorem k_tl (X : ct_X) (z : S_c) (k : S_m) (o : Nat → Int64) (p : Nat) (hp : p < 40) (to : Option Nat) (ht : ∀ t, to = some t → t < 20) (hn : k_ns k ≤ 20) (hr2 : k_rows k + 1 < 2 ^ 31) (hK : RowK k) : AW X m_M_moves 2 0 0 0 0 45 [some (.ref 20), some (.int (nI (p))), some (.int (oI to)), none, none] [] (wL z k o) (fun r w' => r = .inl none ∧ w' = wL z (f_tl k p to) o) := by
  cases to with
  | none =>
    show AW X m_M_moves 2 0 0 0 0 45 [some (.ref 20), some (.int (nI (p))), some (.int ((-1))), none, none] [] (wL z k o) _
    refine AW.iload_n (pc' := 46) d_M_moves_45 rfl rfl rfl ?_
    refine AW.if_lt (tgt := 64) (pc' := 49) d_M_moves_46 (by decide) rfl (fun h46 => ?_) (fun h => absurd (by decide) h)
    exact AW.vret d_M_moves_64 rfl rfl rfl ⟨rfl, rfl⟩
  | some t =>
    have ht' := ht t rfl
    show AW X m_M_moves 2 0 0 0 0 45 [some (.ref 20), some (.int (nI (p))), some (.int (nI (t))), none, none] [] (wL z k o) _
    by_cases hl : k_ldr k t < 0
    · have e : f_tl k p (some t) = f_kl k t (some p) := by rw [f_tl, if_pos hl]
      rw [e]
      refine AW.iload_n (pc' := 46) d_M_moves_45 rfl rfl rfl ?_
      refine AW.if_lt (tgt := 64) (pc' := 49) d_M_moves_46 (by decide) rfl (fun h => absurd h (nI_pos (by omega))) (fun _ => ?_)
      refine AW.aload_n (pc' := 50) d_M_moves_49 rfl rfl rfl ?_
      refine AW.getf (pc' := 53) d_M_moves_50 rfl fl_M_33 rfl rfl ?_
      refine AW.iload_n (pc' := 54) d_M_moves_53 rfl rfl rfl ?_
      refine AW.ialdN (pc' := 55) d_M_moves_54 rfl rfl (by omega) (by decide) ?_
      refine AW.if_ge (tgt := 64) (pc' := 58) d_M_moves_55 (by decide) rfl (fun h => absurd hl (Int32.not_lt.mpr h)) (fun h55 => ?_)
      refine AW.aload_n (pc' := 59) d_M_moves_58 rfl rfl rfl ?_
      refine AW.iload_n (pc' := 60) d_M_moves_59 rfl rfl rfl ?_
      refine AW.iload_n (pc' := 61) d_M_moves_60 rfl rfl rfl ?_
      refine AW.cV (pc' := 64) d_M_moves_61 rfl cv_M_103 (by decide) rfl rfl rfl (k_lead X z k o t (some p) (fun r h => by cases h; exact hp) ht' hn (by omega) hK) rfl rfl rfl rfl rfl rfl rfl ?_
      exact AW.vret d_M_moves_64 rfl rfl rfl ⟨rfl, rfl⟩
    · have e : f_tl k p (some t) = k := by rw [f_tl, if_neg hl]
      rw [e]
      refine AW.iload_n (pc' := 46) d_M_moves_45 rfl rfl rfl ?_
      refine AW.if_lt (tgt := 64) (pc' := 49) d_M_moves_46 (by decide) rfl (fun h => absurd h (nI_pos (by omega))) (fun _ => ?_)
      refine AW.aload_n (pc' := 50) d_M_moves_49 rfl rfl rfl ?_
      refine AW.getf (pc' := 53) d_M_moves_50 rfl fl_M_33 rfl rfl ?_
      refine AW.iload_n (pc' := 54) d_M_moves_53 rfl rfl rfl ?_
      refine AW.ialdN (pc' := 55) d_M_moves_54 rfl rfl (by omega) (by decide) ?_
      refine AW.if_ge (tgt := 64) (pc' := 58) d_M_moves_55 (by decide) rfl (fun h55 => ?_) (fun h => absurd (Int32.not_lt.mp hl) h)
      exact AW.vret d_M_moves_64 rfl rfl rfl ⟨rfl, rfl⟩
theorem k_moves (X : ct_X) (z : S_c) (k : S_m) (o : Nat → Int64) (p : Nat) (hp : p < 40) (to : Option Nat) (ht : ∀ t, to = some t → t < 20) (hn : k_ns k ≤ 20) (hnp : k_np k ≤ 40) (hr2 : k_rows k + 2 < 2 ^ 31) (hK : RowK k) : AF X m_M_moves 2 0 0 [.ref 20, .int (nI (p)), .int (oI to)] (wL z k o) (.inl none) (wL z (f_moves k p to) o) := by
  cases hl : f_leads k (nI p) with
  | none =>
    have e : f_moves k p to = f_tl (f_mv0 k p to) p to := by rw [f_moves, f_mv1, hl]
    rw [e]
    refine AM.of rfl (Nat.le_of_ble_eq_true rfl) (ls := [some (.ref 20), some (.int (nI (p))), some (.int (oI to)), none, none]) rfl ?_
    refine AW.aload_n (pc' := 1) d_M_moves_0 rfl rfl rfl ?_
    refine AW.iload_n (pc' := 2) d_M_moves_1 rfl rfl rfl ?_
    refine AW.cV (pc' := 5) d_M_moves_2 rfl cv_M_96 (by decide) rfl rfl rfl (k_leads_n X z k o (nI p) hn hl) rfl rfl rfl rfl rfl rfl rfl ?_
    refine AW.istore_n (pc' := 6) (ls' := [some (.ref 20), some (.int (nI (p))), some (.int (oI to)), some (.int ((-1))), none]) d_M_moves_5 rfl rfl rfl rfl ?_
    refine AW.aload_n (pc' := 7) d_M_moves_6 rfl rfl rfl ?_
    refine AW.getf (pc' := 10) d_M_moves_7 rfl fl_M_13 rfl rfl ?_
    refine AW.iload_n (pc' := 11) d_M_moves_10 rfl rfl rfl ?_
    refine AW.iload_n (pc' := 12) d_M_moves_11 rfl rfl rfl ?_
    refine AW.iastN (pc' := 13) (w' := (wL z (k_in_ k (upd (k_in k) p (oI to))) o)) d_M_moves_12 rfl rfl (by omega) (by decide) rfl ?_
    refine AW.iload_n (pc' := 14) d_M_moves_13 rfl rfl rfl ?_
    refine AW.if_lt (tgt := 45) (pc' := 17) d_M_moves_14 (by decide) rfl (fun h14 => ?_) (fun h => absurd (by decide) h)
    exact AW.dropL (j := 3) rfl (k_tl X z (f_mv0 k p to) o p hp to ht hn (by show k_rows k + 1 < 2 ^ 31; omega) hK)
  | some s =>
    obtain ⟨hs, hq⟩ := f_leads_some hl
    have e : f_moves k p to = f_tl (f_kl (f_mv3 k p s to) s (f_knext (f_mv2 k p s to) (nI s) (k_np k))) p to := by rw [f_moves, f_mv1, hl]
    rw [e]
    refine AM.of rfl (Nat.le_of_ble_eq_true rfl) (ls := [some (.ref 20), some (.int (nI (p))), some (.int (oI to)), none, none]) rfl ?_
    refine AW.aload_n (pc' := 1) d_M_moves_0 rfl rfl rfl ?_
    refine AW.iload_n (pc' := 2) d_M_moves_1 rfl rfl rfl ?_
    refine AW.cV (pc' := 5) d_M_moves_2 rfl cv_M_96 (by decide) rfl rfl rfl (k_leads_s X z k o (nI p) s hn hl) rfl rfl rfl rfl rfl rfl rfl ?_
    refine AW.istore_n (pc' := 6) (ls' := [some (.ref 20), some (.int (nI (p))), some (.int (oI to)), some (.int (nI (s))), none]) d_M_moves_5 rfl rfl rfl rfl ?_
    refine AW.aload_n (pc' := 7) d_M_moves_6 rfl rfl rfl ?_
    refine AW.getf (pc' := 10) d_M_moves_7 rfl fl_M_13 rfl rfl ?_
    refine AW.iload_n (pc' := 11) d_M_moves_10 rfl rfl rfl ?_
    refine AW.iload_n (pc' := 12) d_M_moves_11 rfl rfl rfl ?_
    refine AW.iastN (pc' := 13) (w' := (wL z (k_in_ k (upd (k_in k) p (oI to))) o)) d_M_moves_12 rfl rfl (by omega) (by decide) rfl ?_
    refine AW.iload_n (pc' := 14) d_M_moves_13 rfl rfl rfl ?_
    refine AW.if_lt (tgt := 45) (pc' := 17) d_M_moves_14 (by decide) rfl (fun h => absurd h (nI_pos (by omega))) (fun _ => ?_)
    refine AW.aload_n (pc' := 18) d_M_moves_17 rfl rfl rfl ?_
    refine AW.getf (pc' := 21) d_M_moves_18 rfl fl_M_33 rfl rfl ?_
    refine AW.iload_n (pc' := 22) d_M_moves_21 rfl rfl rfl ?_
    refine AW.iconst (pc' := 23) (v := (-1)) d_M_moves_22 rfl (by decide) ?_
    refine AW.iastN (pc' := 24) (w' := (wL z (k_ldr_ (k_in_ k (upd (k_in k) p (oI to))) (upd (k_ldr k) s ((-1)))) o)) d_M_moves_23 rfl rfl (by omega) (by decide) rfl ?_
    refine AW.aload_n (pc' := 25) d_M_moves_24 rfl rfl rfl ?_
    refine AW.iload_n (pc' := 26) d_M_moves_25 rfl rfl rfl ?_
    refine AW.cV (pc' := 29) d_M_moves_26 rfl cv_M_100 (by decide) rfl rfl rfl (k_next X z (f_mv2 k p s to) o (nI s) hnp hn) rfl rfl rfl rfl rfl rfl rfl ?_
    refine AW.istore (pc' := 31) (ls' := [some (.ref 20), some (.int (nI (p))), some (.int (oI to)), some (.int (nI (s))), some (.int (oI (f_knext (f_mv2 k p s to) (nI s) (k_np k))))]) d_M_moves_29 rfl rfl rfl ?_
    refine AW.aload_n (pc' := 32) d_M_moves_31 rfl rfl rfl ?_
    refine AW.getf (pc' := 35) d_M_moves_32 rfl fl_M_33 rfl rfl ?_
    refine AW.iload_n (pc' := 36) d_M_moves_35 rfl rfl rfl ?_
    refine AW.iload_n (pc' := 37) d_M_moves_36 rfl rfl rfl ?_
    refine AW.iastN (pc' := 38) (w' := (wL z (k_ldr_ (k_ldr_ (k_in_ k (upd (k_in k) p (oI to))) (upd (k_ldr k) s ((-1)))) (upd (upd (k_ldr k) s ((-1))) s (nI (p)))) o)) d_M_moves_37 rfl rfl (by omega) (by decide) rfl ?_
    refine AW.aload_n (pc' := 39) d_M_moves_38 rfl rfl rfl ?_
    refine AW.iload_n (pc' := 40) d_M_moves_39 rfl rfl rfl ?_
    refine AW.iload (pc' := 42) d_M_moves_40 rfl rfl ?_
    refine AW.cV (pc' := 45) d_M_moves_42 rfl cv_M_103 (by decide) rfl rfl rfl (k_lead X z (f_mv3 k p s to) o s (f_knext (f_mv2 k p s to) (nI s) (k_np k)) (fun r h => by have := f_knext_lt h; omega) (by omega) hn (by show k_rows k < 2 ^ 31; omega) hK) rfl rfl rfl rfl rfl rfl rfl ?_
    refine AW.dropL (j := 3) rfl (AW.dropL (j := 4) rfl ?_)
    have hrk := kl_rows (f_mv3 k p s to) s (f_knext (f_mv2 k p s to) (nI s) (k_np k))
    have hrk2 : k_rows (f_mv3 k p s to) = k_rows k := rfl
    exact k_tl X z (f_kl (f_mv3 k p s to) s (f_knext (f_mv2 k p s to) (nI s) (k_np k))) o p hp to ht (by rw [kl_ns]; exact hn) (by omega) (kl_rowK (k := f_mv3 k p s to) hK (by omega))
def sob (f : Nat → Int32) (t : Nat) : Nat → Option Nat → Bool
  | 0, _ => false
  | _ + 1, none => false
  | n + 1, some j => if j = t then true else sob f t n (io (f j))
def itr (f : Nat → Int32) : Nat → Option Nat → Option Nat
  | 0, x => x
  | _ + 1, none => none
  | n + 1, some j => itr f n (io (f j))
theorem sob_none (f : Nat → Int32) (t : Nat) : ∀ n, sob f t n none = false
  | 0 => rfl
  | _ + 1 => rfl
theorem lp_kbel (X : ct_X) (z : S_c) (k : S_m) (o : Nat → Int64) (a : Int32) (t : Nat) (ht : t < 20) (hab : ∀ j, j < 20 → okO 20 (k_abv k j)) : ∀ (n : Nat) (x : Option Nat), itr (k_abv k) n x = none → (∀ j, x = some j → j < 20) → AW X m_M_isBelow 0 0 0 0 0 2 [some (.ref 20), some (.int (a)), some (.int (nI (t))), some (.int (oI x))] [] (wL z k o) (fun r w' => r = .inl (some (.int (nI (cond (sob (k_abv k) t n x) 1 0)))) ∧ w' = wL z k o) := by
  intro n
  induction n with
  | zero =>
    intro x hx hj
    have hx' : x = none := hx
    subst hx'
    show AW X m_M_isBelow 0 0 0 0 0 2 [some (.ref 20), some (.int (a)), some (.int (nI (t))), some (.int ((-1)))] [] (wL z k o) _
    refine AW.iload_n (pc' := 3) d_M_isBelow_2 rfl rfl rfl ?_
    refine AW.iconst (pc' := 4) (v := (-1)) d_M_isBelow_3 rfl (by decide) ?_
    refine AW.icmp_eq (tgt := 22) (pc' := 7) d_M_isBelow_4 (by decide) rfl (fun h4 => ?_) (fun h => absurd rfl h)
    refine AW.iload_n (pc' := 23) d_M_isBelow_22 rfl rfl rfl ?_
    refine AW.iload_n (pc' := 24) d_M_isBelow_23 rfl rfl rfl ?_
    refine AW.icmp_ne (tgt := 31) (pc' := 27) d_M_isBelow_24 (by decide) rfl (fun h24 => ?_) (fun h => absurd h.symm (oI_ne (by omega)))
    refine AW.iconst (pc' := 32) (v := nI 0) d_M_isBelow_31 rfl (by decide) ?_
    exact AW.zret d_M_isBelow_32 rfl (by decide) rfl rfl ⟨by rw [sob_none]; rfl, rfl⟩
  | succ n ih =>
    intro x hx hj
    cases x with
    | none =>
      show AW X m_M_isBelow 0 0 0 0 0 2 [some (.ref 20), some (.int (a)), some (.int (nI (t))), some (.int ((-1)))] [] (wL z k o) _
      refine AW.iload_n (pc' := 3) d_M_isBelow_2 rfl rfl rfl ?_
      refine AW.iconst (pc' := 4) (v := (-1)) d_M_isBelow_3 rfl (by decide) ?_
      refine AW.icmp_eq (tgt := 22) (pc' := 7) d_M_isBelow_4 (by decide) rfl (fun h4 => ?_) (fun h => absurd rfl h)
      refine AW.iload_n (pc' := 23) d_M_isBelow_22 rfl rfl rfl ?_
      refine AW.iload_n (pc' := 24) d_M_isBelow_23 rfl rfl rfl ?_
      refine AW.icmp_ne (tgt := 31) (pc' := 27) d_M_isBelow_24 (by decide) rfl (fun h24 => ?_) (fun h => absurd h.symm (oI_ne (by omega)))
      refine AW.iconst (pc' := 32) (v := nI 0) d_M_isBelow_31 rfl (by decide) ?_
      exact AW.zret d_M_isBelow_32 rfl (by decide) rfl rfl ⟨by rw [sob_none]; rfl, rfl⟩
    | some j =>
      have hj' := hj j rfl
      obtain ⟨e1, e2⟩ := (hab j hj').io (by decide)
      show AW X m_M_isBelow 0 0 0 0 0 2 [some (.ref 20), some (.int (a)), some (.int (nI (t))), some (.int (nI (j)))] [] (wL z k o) _
      refine AW.iload_n (pc' := 3) d_M_isBelow_2 rfl rfl rfl ?_
      refine AW.iconst (pc' := 4) (v := (-1)) d_M_isBelow_3 rfl (by decide) ?_
      refine AW.icmp_eq (tgt := 22) (pc' := 7) d_M_isBelow_4 (by decide) rfl (fun h => absurd h (oI_ne (by omega))) (fun h4 => ?_)
      refine AW.iload_n (pc' := 8) d_M_isBelow_7 rfl rfl rfl ?_
      refine AW.iload_n (pc' := 9) d_M_isBelow_8 rfl rfl rfl ?_
      refine AW.icmp_eqN (tgt := 22) (pc' := 12) d_M_isBelow_9 (by decide) rfl (by omega) (by omega) (fun h9 => ?_) (fun h9 => ?_)
      · refine AW.iload_n (pc' := 23) d_M_isBelow_22 rfl rfl rfl ?_
        refine AW.iload_n (pc' := 24) d_M_isBelow_23 rfl rfl rfl ?_
        refine AW.icmp_neN (tgt := 31) (pc' := 27) d_M_isBelow_24 (by decide) rfl (by omega) (by omega) (fun h => absurd h9 h) (fun h24 => ?_)
        refine AW.iconst (pc' := 28) (v := nI 1) d_M_isBelow_27 rfl (by decide) ?_
        refine AW.goto (tgt := 32) d_M_isBelow_28 (by decide) ?_
        exact AW.zret d_M_isBelow_32 rfl (by decide) rfl rfl ⟨by simp [sob, h9], rfl⟩
      · refine AW.aload_n (pc' := 13) d_M_isBelow_12 rfl rfl rfl ?_
        refine AW.getf (pc' := 16) d_M_isBelow_13 rfl fl_M_30 rfl rfl ?_
        refine AW.iload_n (pc' := 17) d_M_isBelow_16 rfl rfl rfl ?_
        refine AW.ialdN (pc' := 18) d_M_isBelow_17 rfl rfl (by omega) (by decide) ?_
        refine AW.top (u := .int (oI (io (k_abv k j)))) (by rw [e1]) ?_
        refine AW.istore_n (pc' := 19) (ls' := [some (.ref 20), some (.int (a)), some (.int (nI (t))), some (.int (oI (io (k_abv k j))))]) d_M_isBelow_18 rfl rfl rfl rfl ?_
        refine AW.goto (tgt := 2) d_M_isBelow_19 (by decide) ?_
        have h8 := ih (io (k_abv k j)) hx e2
        rw [show sob (k_abv k) t (n + 1) (some j) = sob (k_abv k) t n (io (k_abv k j)) from by simp [sob, h9]]
        exact h8
theorem k_isBelow_t (X : ct_X) (z : S_c) (k : S_m) (o : Nat → Int64) (a t n : Nat) (ha : a < 20) (ht : t < 20) (hab : ∀ j, j < 20 → okO 20 (k_abv k j)) (hi : itr (k_abv k) n (some a) = none) (hb : sob (k_abv k) t n (some a) = true) : AF X m_M_isBelow 0 0 0 [.ref 20, .int (nI (a)), .int (nI (t))] (wL z k o) (.inl (some (.int (nI 1)))) (wL z k o) := by
  refine AM.of rfl (Nat.le_of_ble_eq_true rfl) (ls := [some (.ref 20), some (.int (nI (a))), some (.int (nI (t))), none]) rfl ?_
  refine AW.iload_n (pc' := 1) d_M_isBelow_0 rfl rfl rfl ?_
  refine AW.istore_n (pc' := 2) (ls' := [some (.ref 20), some (.int (nI (a))), some (.int (nI (t))), some (.int (nI (a)))]) d_M_isBelow_1 rfl rfl rfl rfl ?_
  have h9 := lp_kbel X z k o (nI a) t ht hab n (some a) hi (fun j h => by cases h; exact ha)
  rw [hb] at h9
  exact h9
theorem k_isBelow_f (X : ct_X) (z : S_c) (k : S_m) (o : Nat → Int64) (a t n : Nat) (ha : a < 20) (ht : t < 20) (hab : ∀ j, j < 20 → okO 20 (k_abv k j)) (hi : itr (k_abv k) n (some a) = none) (hb : sob (k_abv k) t n (some a) = false) : AF X m_M_isBelow 0 0 0 [.ref 20, .int (nI (a)), .int (nI (t))] (wL z k o) (.inl (some (.int (nI 0)))) (wL z k o) := by
  refine AM.of rfl (Nat.le_of_ble_eq_true rfl) (ls := [some (.ref 20), some (.int (nI (a))), some (.int (nI (t))), none]) rfl ?_
  refine AW.iload_n (pc' := 1) d_M_isBelow_0 rfl rfl rfl ?_
  refine AW.istore_n (pc' := 2) (ls' := [some (.ref 20), some (.int (nI (a))), some (.int (nI (t))), some (.int (nI (a)))]) d_M_isBelow_1 rfl rfl rfl rfl ?_
  have h9 := lp_kbel X z k o (nI a) t ht hab n (some a) hi (fun j h => by cases h; exact ha)
  rw [hb] at h9
  exact h9
def belowK (k : S_m) (s : Int32) (j : Nat) : Bool := decide (k_abv k j = s) && decide (k_jnd k j = 0)
def inB (f : Nat → Int32) (s : Int32) (j : Nat) : Bool := decide (f j = s)
theorem lp_kbelow (X : ct_X) (z : S_c) (k : S_m) (o : Nat → Int64) (s : Int32) (hn : k_ns k ≤ 20) : ∀ (n i : Nat), i + n = k_ns k → AW X m_M_below 0 0 0 0 0 4 [some (.ref 20), some (.int (s)), some (.int (nI (cntB (belowK k s) i))), some (.int (nI (i)))] [] (wL z k o) (fun r w' => r = .inl (some (.int (nI (cntB (belowK k s) (k_ns k))))) ∧ w' = wL z k o) := by
  intro n
  induction n with
  | zero =>
    intro i hi
    have e : i = k_ns k := by omega
    subst e
    refine AW.iload_n (pc' := 5) d_M_below_4 rfl rfl rfl ?_
    refine AW.aload_n (pc' := 6) d_M_below_5 rfl rfl rfl ?_
    refine AW.getf (pc' := 9) d_M_below_6 rfl fl_M_22 rfl rfl ?_
    refine AW.icmp_geN (tgt := 40) (pc' := 12) d_M_below_9 (by decide) rfl (by omega) (by omega) (fun h9 => ?_) (fun h => absurd h (by omega))
    refine AW.iload_n (pc' := 41) d_M_below_40 rfl rfl rfl ?_
    exact AW.iret d_M_below_41 rfl rfl rfl ⟨rfl, rfl⟩
  | succ n ih =>
    intro i hi
    refine AW.iload_n (pc' := 5) d_M_below_4 rfl rfl rfl ?_
    refine AW.aload_n (pc' := 6) d_M_below_5 rfl rfl rfl ?_
    refine AW.getf (pc' := 9) d_M_below_6 rfl fl_M_22 rfl rfl ?_
    refine AW.icmp_geN (tgt := 40) (pc' := 12) d_M_below_9 (by decide) rfl (by omega) (by omega) (fun h => absurd h (by omega)) (fun h9 => ?_)
    refine AW.aload_n (pc' := 13) d_M_below_12 rfl rfl rfl ?_
    refine AW.getf (pc' := 16) d_M_below_13 rfl fl_M_30 rfl rfl ?_
    refine AW.iload_n (pc' := 17) d_M_below_16 rfl rfl rfl ?_
    refine AW.ialdN (pc' := 18) d_M_below_17 rfl rfl (by omega) (by decide) ?_
    refine AW.iload_n (pc' := 19) d_M_below_18 rfl rfl rfl ?_
    refine AW.icmp_ne (tgt := 34) (pc' := 22) d_M_below_19 (by decide) rfl (fun h19 => ?_) (fun h19 => ?_)
    · refine AW.iincN (pc' := 37) (ls' := [some (.ref 20), some (.int (s)), some (.int (nI (cntB (belowK k s) i))), some (.int (nI (i + 1)))]) d_M_below_34 rfl rfl rfl rfl ?_
      refine AW.goto (tgt := 4) d_M_below_37 (by decide) ?_
      have h9 := ih (i + 1) (by omega)
      rw [cntB_f (show (belowK k s) i = false from by simp [belowK, h19])] at h9
      exact h9
    · refine AW.aload_n (pc' := 23) d_M_below_22 rfl rfl rfl ?_
      refine AW.getf (pc' := 26) d_M_below_23 rfl fl_M_26 rfl rfl ?_
      refine AW.iload_n (pc' := 27) d_M_below_26 rfl rfl rfl ?_
      refine AW.zaldN (pc' := 28) d_M_below_27 rfl rfl (by omega) (by decide) ?_
      refine AW.if_ne (tgt := 34) (pc' := 31) d_M_below_28 (by decide) rfl (fun h28 => ?_) (fun h28 => ?_)
      · refine AW.iincN (pc' := 37) (ls' := [some (.ref 20), some (.int (s)), some (.int (nI (cntB (belowK k s) i))), some (.int (nI (i + 1)))]) d_M_below_34 rfl rfl rfl rfl ?_
        refine AW.goto (tgt := 4) d_M_below_37 (by decide) ?_
        have h9 := ih (i + 1) (by omega)
        rw [cntB_f (show (belowK k s) i = false from by simp [belowK, h19, h28])] at h9
        exact h9
      · refine AW.iincN (pc' := 34) (ls' := [some (.ref 20), some (.int (s)), some (.int (nI ((cntB (belowK k s) i) + 1))), some (.int (nI (i)))]) d_M_below_31 rfl rfl rfl rfl ?_
        refine AW.iincN (pc' := 37) (ls' := [some (.ref 20), some (.int (s)), some (.int (nI ((cntB (belowK k s) i) + 1))), some (.int (nI (i + 1)))]) d_M_below_34 rfl rfl rfl rfl ?_
        refine AW.goto (tgt := 4) d_M_below_37 (by decide) ?_
        have h9 := ih (i + 1) (by omega)
        rw [cntB_t (show (belowK k s) i = true from by simp [belowK, h19, h28])] at h9
        exact h9
theorem k_below (X : ct_X) (z : S_c) (k : S_m) (o : Nat → Int64) (s : Int32) (hn : k_ns k ≤ 20) : AF X m_M_below 0 0 0 [.ref 20, .int (s)] (wL z k o) (.inl (some (.int (nI (cntB (belowK k s) (k_ns k)))))) (wL z k o) := by
  refine AM.of rfl (Nat.le_of_ble_eq_true rfl) (ls := [some (.ref 20), some (.int (s)), none, none]) rfl ?_
  refine AW.iconst (pc' := 1) (v := nI 0) d_M_below_0 rfl (by decide) ?_
  refine AW.istore_n (pc' := 2) (ls' := [some (.ref 20), some (.int (s)), some (.int (nI (0))), none]) d_M_below_1 rfl rfl rfl rfl ?_
  refine AW.iconst (pc' := 3) (v := nI 0) d_M_below_2 rfl (by decide) ?_
  refine AW.istore_n (pc' := 4) (ls' := [some (.ref 20), some (.int (s)), some (.int (nI (0))), some (.int (nI (0)))]) d_M_below_3 rfl rfl rfl rfl ?_
  exact lp_kbelow X z k o s hn (k_ns k) 0 (by omega)
theorem lp_kuin (X : ct_X) (z : S_c) (k : S_m) (o : Nat → Int64) (s : Int32) (hn : k_nu k ≤ 20) : ∀ (n i : Nat), i + n = k_nu k → AW X m_M_unitsIn 0 0 0 0 0 4 [some (.ref 20), some (.int (s)), some (.int (nI (cntB (inB (k_uin k) s) i))), some (.int (nI (i)))] [] (wL z k o) (fun r w' => r = .inl (some (.int (nI (cntB (inB (k_uin k) s) (k_nu k))))) ∧ w' = wL z k o) := by
  intro n
  induction n with
  | zero =>
    intro i hi
    have e : i = k_nu k := by omega
    subst e
    refine AW.iload_n (pc' := 5) d_M_unitsIn_4 rfl rfl rfl ?_
    refine AW.aload_n (pc' := 6) d_M_unitsIn_5 rfl rfl rfl ?_
    refine AW.getf (pc' := 9) d_M_unitsIn_6 rfl fl_M_79 rfl rfl ?_
    refine AW.icmp_geN (tgt := 31) (pc' := 12) d_M_unitsIn_9 (by decide) rfl (by omega) (by omega) (fun h9 => ?_) (fun h => absurd h (by omega))
    refine AW.iload_n (pc' := 32) d_M_unitsIn_31 rfl rfl rfl ?_
    exact AW.iret d_M_unitsIn_32 rfl rfl rfl ⟨rfl, rfl⟩
  | succ n ih =>
    intro i hi
    refine AW.iload_n (pc' := 5) d_M_unitsIn_4 rfl rfl rfl ?_
    refine AW.aload_n (pc' := 6) d_M_unitsIn_5 rfl rfl rfl ?_
    refine AW.getf (pc' := 9) d_M_unitsIn_6 rfl fl_M_79 rfl rfl ?_
    refine AW.icmp_geN (tgt := 31) (pc' := 12) d_M_unitsIn_9 (by decide) rfl (by omega) (by omega) (fun h => absurd h (by omega)) (fun h9 => ?_)
    refine AW.aload_n (pc' := 13) d_M_unitsIn_12 rfl rfl rfl ?_
    refine AW.getf (pc' := 16) d_M_unitsIn_13 rfl fl_M_19 rfl rfl ?_
    refine AW.iload_n (pc' := 17) d_M_unitsIn_16 rfl rfl rfl ?_
    refine AW.ialdN (pc' := 18) d_M_unitsIn_17 rfl rfl (by omega) (by decide) ?_
    refine AW.iload_n (pc' := 19) d_M_unitsIn_18 rfl rfl rfl ?_
    refine AW.icmp_ne (tgt := 25) (pc' := 22) d_M_unitsIn_19 (by decide) rfl (fun h19 => ?_) (fun h19 => ?_)
    · refine AW.iincN (pc' := 28) (ls' := [some (.ref 20), some (.int (s)), some (.int (nI (cntB (inB (k_uin k) s) i))), some (.int (nI (i + 1)))]) d_M_unitsIn_25 rfl rfl rfl rfl ?_
      refine AW.goto (tgt := 4) d_M_unitsIn_28 (by decide) ?_
      have h9 := ih (i + 1) (by omega)
      rw [cntB_f (show (inB (k_uin k) s) i = false from by simp [inB, h19])] at h9
      exact h9
    · refine AW.iincN (pc' := 25) (ls' := [some (.ref 20), some (.int (s)), some (.int (nI ((cntB (inB (k_uin k) s) i) + 1))), some (.int (nI (i)))]) d_M_unitsIn_22 rfl rfl rfl rfl ?_
      refine AW.iincN (pc' := 28) (ls' := [some (.ref 20), some (.int (s)), some (.int (nI ((cntB (inB (k_uin k) s) i) + 1))), some (.int (nI (i + 1)))]) d_M_unitsIn_25 rfl rfl rfl rfl ?_
      refine AW.goto (tgt := 4) d_M_unitsIn_28 (by decide) ?_
      have h9 := ih (i + 1) (by omega)
      rw [cntB_t (show (inB (k_uin k) s) i = true from by simp [inB, h19])] at h9
      exact h9
theorem k_unitsIn (X : ct_X) (z : S_c) (k : S_m) (o : Nat → Int64) (s : Int32) (hn : k_nu k ≤ 20) : AF X m_M_unitsIn 0 0 0 [.ref 20, .int (s)] (wL z k o) (.inl (some (.int (nI (cntB (inB (k_uin k) s) (k_nu k)))))) (wL z k o) := by
  refine AM.of rfl (Nat.le_of_ble_eq_true rfl) (ls := [some (.ref 20), some (.int (s)), none, none]) rfl ?_
  refine AW.iconst (pc' := 1) (v := nI 0) d_M_unitsIn_0 rfl (by decide) ?_
  refine AW.istore_n (pc' := 2) (ls' := [some (.ref 20), some (.int (s)), some (.int (nI (0))), none]) d_M_unitsIn_1 rfl rfl rfl rfl ?_
  refine AW.iconst (pc' := 3) (v := nI 0) d_M_unitsIn_2 rfl (by decide) ?_
  refine AW.istore_n (pc' := 4) (ls' := [some (.ref 20), some (.int (s)), some (.int (nI (0))), some (.int (nI (0)))]) d_M_unitsIn_3 rfl rfl rfl rfl ?_
  exact lp_kuin X z k o s hn (k_nu k) 0 (by omega)
def passK (k : S_m) (s : Nat) : Bool := decide (k_jnd k s = 0) && (!decide (k_ldr k s < 0) && decide (k_span k < cntB (belowK k (nI s)) (k_ns k) + cntB (inB (k_uin k) (nI s)) (k_nu k)))
theorem k_isPassed (X : ct_X) (z : S_c) (k : S_m) (o : Nat → Int64) (s : Nat) (hs : s < 20) (hn : k_ns k ≤ 20) (hu : k_nu k ≤ 20) (hm : k_span k ≤ 20) : AF X m_M_isPassed 1 0 0 [.ref 20, .int (nI (s))] (wL z k o) (.inl (some (.int (nI (cond (passK k s) 1 0))))) (wL z k o) := by
  have b1 := cntB_le (belowK k (nI s)) (k_ns k)
  have b2 := cntB_le (inB (k_uin k) (nI s)) (k_nu k)
  refine AM.of rfl (Nat.le_of_ble_eq_true rfl) (ls := [some (.ref 20), some (.int (nI (s)))]) rfl ?_
  refine AW.aload_n (pc' := 1) d_M_isPassed_0 rfl rfl rfl ?_
  refine AW.getf (pc' := 4) d_M_isPassed_1 rfl fl_M_26 rfl rfl ?_
  refine AW.iload_n (pc' := 5) d_M_isPassed_4 rfl rfl rfl ?_
  refine AW.zaldN (pc' := 6) d_M_isPassed_5 rfl rfl (by omega) (by decide) ?_
  refine AW.if_ne (tgt := 40) (pc' := 9) d_M_isPassed_6 (by decide) rfl (fun h6 => ?_) (fun h6 => ?_)
  · refine AW.iconst (pc' := 41) (v := nI 0) d_M_isPassed_40 rfl (by decide) ?_
    exact AW.zret d_M_isPassed_41 rfl (by decide) rfl rfl ⟨by simp [passK, h6], rfl⟩
  · refine AW.aload_n (pc' := 10) d_M_isPassed_9 rfl rfl rfl ?_
    refine AW.getf (pc' := 13) d_M_isPassed_10 rfl fl_M_33 rfl rfl ?_
    refine AW.iload_n (pc' := 14) d_M_isPassed_13 rfl rfl rfl ?_
    refine AW.ialdN (pc' := 15) d_M_isPassed_14 rfl rfl (by omega) (by decide) ?_
    refine AW.if_lt (tgt := 40) (pc' := 18) d_M_isPassed_15 (by decide) rfl (fun h15 => ?_) (fun h15 => ?_)
    · refine AW.iconst (pc' := 41) (v := nI 0) d_M_isPassed_40 rfl (by decide) ?_
      exact AW.zret d_M_isPassed_41 rfl (by decide) rfl rfl ⟨by simp [passK, h6, h15], rfl⟩
    · refine AW.aload_n (pc' := 19) d_M_isPassed_18 rfl rfl rfl ?_
      refine AW.iload_n (pc' := 20) d_M_isPassed_19 rfl rfl rfl ?_
      refine AW.cV (pc' := 23) d_M_isPassed_20 rfl cv_M_130 (by decide) rfl rfl rfl (k_below X z k o (nI s) hn) rfl rfl rfl rfl rfl rfl rfl ?_
      refine AW.aload_n (pc' := 24) d_M_isPassed_23 rfl rfl rfl ?_
      refine AW.iload_n (pc' := 25) d_M_isPassed_24 rfl rfl rfl ?_
      refine AW.cV (pc' := 28) d_M_isPassed_25 rfl cv_M_133 (by decide) rfl rfl rfl (k_unitsIn X z k o (nI s) hu) rfl rfl rfl rfl rfl rfl rfl ?_
      refine AW.iaddN (pc' := 29) d_M_isPassed_28 rfl ?_
      refine AW.aload_n (pc' := 30) d_M_isPassed_29 rfl rfl rfl ?_
      refine AW.getf (pc' := 33) d_M_isPassed_30 rfl fl_M_39 rfl rfl ?_
      refine AW.icmp_leN (tgt := 40) (pc' := 36) d_M_isPassed_33 (by decide) rfl (by omega) (by omega) (fun h33 => ?_) (fun h33 => ?_)
      · refine AW.iconst (pc' := 41) (v := nI 0) d_M_isPassed_40 rfl (by decide) ?_
        exact AW.zret d_M_isPassed_41 rfl (by decide) rfl rfl ⟨by simp [passK, h6, h15, Nat.not_lt.mpr h33], rfl⟩
      · refine AW.iconst (pc' := 37) (v := nI 1) d_M_isPassed_36 rfl (by decide) ?_
        refine AW.goto (tgt := 41) d_M_isPassed_37 (by decide) ?_
        exact AW.zret d_M_isPassed_41 rfl (by decide) rfl rfl ⟨by simp [passK, h6, h15, h33], rfl⟩
theorem k_isPassed_t (X : ct_X) (z : S_c) (k : S_m) (o : Nat → Int64) (s : Nat) (hs : s < 20) (hn : k_ns k ≤ 20) (hu : k_nu k ≤ 20) (hm : k_span k ≤ 20) (h : passK k s = true) : AF X m_M_isPassed 1 0 0 [.ref 20, .int (nI s)] (wL z k o) (.inl (some (.int (nI 1)))) (wL z k o) := by
  have h9 := k_isPassed X z k o s hs hn hu hm
  rw [h] at h9
  exact h9
theorem k_isPassed_f (X : ct_X) (z : S_c) (k : S_m) (o : Nat → Int64) (s : Nat) (hs : s < 20) (hn : k_ns k ≤ 20) (hu : k_nu k ≤ 20) (hm : k_span k ≤ 20) (h : passK k s = false) : AF X m_M_isPassed 1 0 0 [.ref 20, .int (nI s)] (wL z k o) (.inl (some (.int (nI 0)))) (wL z k o) := by
  have h9 := k_isPassed X z k o s hs hn hu hm
  rw [h] at h9
  exact h9
theorem k_within (X : ct_X) (z : S_c) (k : S_m) (o : Nat → Int64) (x a b : Int32) : AF X m_M_within 0 0 0 [.int x, .int a, .int b] (wL z k o) (.inl (some (.int (nI (cond (decide (a ≤ x) && decide (x ≤ b)) 1 0))))) (wL z k o) := by
  by_cases h1 : a ≤ x
  · by_cases h2 : x ≤ b
    · rw [decide_eq_true h1, decide_eq_true h2]
      exact k_within_t X z k o x a b h1 h2
    · rw [decide_eq_false h2, Bool.and_false]
      exact k_within_f X z k o x a b (Or.inr (Int32.not_le.mp h2))
  · rw [decide_eq_false h1, Bool.false_and]
    exact k_within_f X z k o x a b (Or.inl (Int32.not_le.mp h1))
theorem k_isOpen (X : ct_X) (z : S_c) (k : S_m) (o : Nat → Int64) (s : Nat) (hs : s < k_ns k) (hn : k_ns k ≤ 20) : AF X m_M_isOpen 2 0 0 [.ref 20, .int (nI s)] (wL z k o) (.inl (some (.int (nI (cond (decide (k_jnd k s = 0)) 1 0))))) (wL z k o) := by
  by_cases h1 : k_jnd k s = 0
  · rw [decide_eq_true h1]
    exact k_isOpen_t X z k o s hs hn h1
  · rw [decide_eq_false h1]
    exact k_isOpen_f X z k o s hs hn h1
