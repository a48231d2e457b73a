/-! EACH CALL ON BOTH SIDES: what comes back agrees, and the states agree again -/
def St1 (X : ct_X) (mC mM : ct_M) (as : List Value) (cs : List Nat) (z : S_c) (k : S_m) : Prop := ∃ (r : Option Value ⊕ Nat) (z' : S_c) (b : Int32) (k' : S_m), (∀ o, AF X mC 7 0 0 (.ref 0 :: as) (wL z k o) r (wL z' k o)) ∧ (∀ o, AF X mM 3 0 0 (.ref 20 :: as) (wL z' k o) (.inl (some (.int b))) (wL z' k' o)) ∧ Rl z' k' ∧ k_rows k' ≤ k_rows k + 2 ∧ ((r = .inl (some (.int b)) ∧ k_thr k' = nI 0) ∨ ∃ e i, cs[i]? = some e ∧ r = .inr e ∧ k_thr k' = nI (i + 1))
def St0 (X : ct_X) (mC mM : ct_M) (as : List Value) (cs : List Nat) (z : S_c) (k : S_m) : Prop := ∃ (r : Option Value ⊕ Nat) (z' : S_c) (k' : S_m), (∀ o, AF X mC 7 0 0 (.ref 0 :: as) (wL z k o) r (wL z' k o)) ∧ (∀ o, AF X mM 3 0 0 (.ref 20 :: as) (wL z' k o) (.inl none) (wL z' k' o)) ∧ Rl z' k' ∧ k_rows k' ≤ k_rows k + 2 ∧ ((r = .inl none ∧ k_thr k' = nI 0) ∨ ∃ e i, cs[i]? = some e ∧ r = .inr e ∧ k_thr k' = nI (i + 1))
theorem Rl.thr {z : S_c} {k : S_m} (h : Rl z k) (v : Int32) : Rl z (k_thr_ k v) := h
section STEPS
variable {X : ct_X} {mC mM : ct_M} {as : List Value} {cs : List Nat} {z : S_c} {k : S_m}
theorem st1_err (i : Nat) {e : Nat} (hC : ∀ o, AF X mC 7 0 0 (.ref 0 :: as) (wL z k o) (.inr e) (wL z k o)) (hM : ∀ o, AF X mM 3 0 0 (.ref 20 :: as) (wL z k o) (.inl (some (.int (nI 0)))) (wL z (k_thr_ k (nI (i + 1))) o)) (h : Rl z k) (hi : cs[i]? = some e) : St1 X mC mM as cs z k :=
  ⟨.inr e, z, nI 0, k_thr_ k (nI (i + 1)), hC, hM, h.thr _, (by show k_rows k ≤ k_rows k + 2; omega), Or.inr ⟨e, i, hi, rfl, rfl⟩⟩
theorem st0_err (i : Nat) {e : Nat} (hC : ∀ o, AF X mC 7 0 0 (.ref 0 :: as) (wL z k o) (.inr e) (wL z k o)) (hM : ∀ o, AF X mM 3 0 0 (.ref 20 :: as) (wL z k o) (.inl none) (wL z (k_thr_ k (nI (i + 1))) o)) (h : Rl z k) (hi : cs[i]? = some e) : St0 X mC mM as cs z k :=
  ⟨.inr e, z, k_thr_ k (nI (i + 1)), hC, hM, h.thr _, (by show k_rows k ≤ k_rows k + 2; omega), Or.inr ⟨e, i, hi, rfl, rfl⟩⟩
theorem st1_q {v : Int32} (hC : ∀ o, AF X mC 7 0 0 (.ref 0 :: as) (wL z k o) (.inl (some (.int v))) (wL z k o)) {b : Int32} (hM : ∀ o, AF X mM 3 0 0 (.ref 20 :: as) (wL z k o) (.inl (some (.int b))) (wL z (k_thr_ k (nI 0)) o)) (h : Rl z k) (e : v = b) : St1 X mC mM as cs z k := by
  subst e
  exact ⟨_, z, v, k_thr_ k (nI 0), hC, hM, h.thr _, (by show k_rows k ≤ k_rows k + 2; omega), Or.inl ⟨rfl, rfl⟩⟩
end STEPS
theorem int_cases {n : Nat} (hn : n < 2 ^ 31) (x : Int32) : (x < 0 ∨ nI n ≤ x) ∨ ∃ j, j < n ∧ x = nI j := by
  by_cases h : x < 0
  · exact Or.inl (Or.inl h)
  · obtain ⟨j, hj, rfl⟩ := nI_of h
    by_cases h2 : j < n
    · exact Or.inr ⟨j, h2, rfl⟩
    · exact Or.inl (Or.inr ((nI_leI hn hj).mpr (by omega)))
theorem int_upto {n : Nat} (hn : n < 2 ^ 30) (x : Int32) : (x < 0 ∨ nI n < x) ∨ ∃ j, j ≤ n ∧ x = nI j := by
  rcases int_cases (n := n + 1) (by omega) x with (h | h) | ⟨j, hj, e⟩
  · exact Or.inl (Or.inl h)
  · refine Or.inl (Or.inr (Int32.lt_of_lt_of_le ?_ h))
    exact (nI_ltI (by omega) (by omega)).mpr (by omega)
  · exact Or.inr ⟨j, by omega, e⟩
theorem int_range {a b : Nat} (ha : a < 2 ^ 31) (hb : b < 2 ^ 31) (x : Int32) : (x < nI a ∨ nI b < x) ∨ ∃ j, a ≤ j ∧ j ≤ b ∧ x = nI j := by
  by_cases h : x < nI a
  · exact Or.inl (Or.inl h)
  · by_cases h2 : nI b < x
    · exact Or.inl (Or.inr h2)
    · have h3 : ¬ x < 0 := fun q => h (Int32.lt_of_lt_of_le q ((nI_leI (a := 0) (by decide) ha).mpr (by omega)))
      obtain ⟨j, hj, rfl⟩ := nI_of h3
      exact Or.inr ⟨j, (nI_leI ha hj).mp (Int32.not_lt.mp h), (nI_leI hj hb).mp (Int32.not_lt.mp h2), rfl⟩
theorem cntB_congr {P Q : Nat → Bool} : ∀ {n : Nat}, (∀ j, j < n → P j = Q j) → cntB P n = cntB Q n
  | 0, _ => rfl
  | n + 1, h => by rw [cntB, cntB, cntB_congr (n := n) (fun j hj => h j (by omega)), h n (by omega)]
theorem cnt_eq (f : Nat → Int32) (v : Int32) : ∀ n, cnt f v n = cntB (inB f v) n
  | 0 => rfl
  | n + 1 => by
    by_cases h : f n = v
    · rw [cntB_t (show inB f v n = true from by simp [inB, h]), ← cnt_eq f v n]
      simp [cnt, h]
    · rw [cntB_f (show inB f v n = false from by simp [inB, h]), ← cnt_eq f v n]
      simp [cnt, h]
theorem row_thr (k : S_m) (s p : Int32) : k_thr (f_row k s p) = k_thr k := by
  unfold f_row
  split <;> rfl
theorem kl_thr (k : S_m) (s : Nat) (p : Option Nat) : k_thr (f_kl k s p) = k_thr k := by
  unfold f_kl
  split
  · rfl
  · cases p <;> exact row_thr _ _ _
theorem mv1_thr (k : S_m) (p : Nat) (to : Option Nat) : k_thr (f_mv1 k p to) = k_thr k := by
  unfold f_mv1
  split
  · rfl
  · exact kl_thr _ _ _
theorem moves_thr (k : S_m) (p : Nat) (to : Option Nat) : k_thr (f_moves k p to) = k_thr k := by
  unfold f_moves
  cases to with
  | none => exact mv1_thr _ _ _
  | some t =>
    unfold f_tl
    dsimp only
    split
    · rw [kl_thr, mv1_thr]
    · exact mv1_thr _ _ _
theorem st_person (X : ct_X) (z : S_c) (k : S_m) (h : Rl z k) (x : Int32) : St1 X m_C_person m_M_person [.int x] [0, 1] z k := by
  have h' := h
  obtain ⟨⟨⟨⟨c1, c2, c3, c4, c5, c6⟩, b1, b2, b3, b4, b5, b6, b7⟩, hL, ⟨e1, e2, e3⟩, hP, hU, hT, hK, hR⟩, hO⟩ := h
  by_cases hx : x < 0 ∨ nI 9 < x
  · exact st1_err 0 (fun o => c_person_0 X z k o x hx) (fun o => k_person_0 X z k o x hx (by omega)) h' rfl
  · have hx1 : ¬ x < 0 := fun q => hx (Or.inl q)
    have hx2 : ¬ nI 9 < x := fun q => hx (Or.inr q)
    have hx3 : nI 0 ≤ x := Int32.not_lt.mp hx1
    have hx4 : x ≤ nI 9 := Int32.not_lt.mp hx2
    by_cases hn : c_np z = 40
    · exact st1_err 1 (fun o => c_person_1 X z k o x hx1 hx2 (by omega) (by omega)) (fun o => k_person_1 X z k o x hx3 hx4 (by omega)) h' rfl
    · refine ⟨_, _, _, _, fun o => c_person_2 X z k o x hx1 hx2 (by omega), fun o => k_person_2 X _ k o x hx3 hx4 (by omega), ⟨⟨⟨⟨c1, c2, ?_, c4, c5, c6⟩, b1, b2, ?_, b4, b5, b6, b7⟩, ?_, ⟨e1, e2, ?_⟩, ⟨fun p hp => ?_, fun p hp _ => ?_, fun p hp hq => ?_⟩, hU, hT, hK, hR⟩, hO⟩, ?_, Or.inl ⟨by rw [c3], rfl⟩⟩
      · show c_np z + 1 = k_np k + 1
        omega
      · show c_np z + 1 ≤ 40
        omega
      · obtain ⟨h1, h2, h3, h4, h5, h6, h7, h8, h9, h10⟩ := hL
        exact ⟨h1, h2, fun s hs => (h3 s hs).mono (by show c_np z ≤ c_np z + 1; omega), h4, h5, fun p hp hq => h6 p (by have : c_np z + 1 ≤ p := hp; omega) hq, fun s hs => (h7 s hs).mono (by show c_np z ≤ c_np z + 1; omega), h8, h9, h10⟩
      · show upd (k_rank k) (k_np k) x = upd (c_rank z) (c_np z) x
        rw [e3, c3]
      · show upd (k_in k) (k_np k) (-1) p = c_sop z p
        have hp' : p < c_np z + 1 := hp
        rw [upd_at]
        split
        · exact (hL.2.2.2.2.2.1 p (by omega) (by omega)).symm
        · exact hP.1 p (by omega)
      · show upd (k_arr k) (k_np k) (-1) p = c_arr z p
        have hp' : p < c_np z + 1 := hp
        rw [upd_at]
        split
        · exact (hP.2.2 p (by omega) (by omega)).symm
        · exact hP.2.1 p (by omega) (fun e => nomatch e)
      · have hp' : c_np z + 1 ≤ p := hp
        exact hP.2.2 p (by omega) hq
      · show k_rows k ≤ k_rows k + 2
        omega
theorem st_unit (X : ct_X) (z : S_c) (k : S_m) (h : Rl z k) : St1 X m_C_unit m_M_unit [] [1] z k := by
  have h' := h
  obtain ⟨⟨⟨⟨c1, c2, c3, c4, c5, c6⟩, b1, b2, b3, b4, b5, b6, b7⟩, hL, ⟨e1, e2, e3⟩, hP, hU, hT, hK, hR⟩, hO⟩ := h
  by_cases hn : c_nu z = 20
  · exact st1_err 0 (fun o => c_unit_1 X z k o (by omega) (by omega)) (fun o => k_unit_1 X z k o (by omega)) h' rfl
  · refine ⟨_, _, _, _, fun o => c_unit_2 X z k o (by omega), fun o => k_unit_2 X _ k o (by omega), ⟨⟨⟨⟨c1, c2, c3, ?_, c5, c6⟩, b1, b2, b3, ?_, b5, b6, b7⟩, hL, ⟨e1, e2, e3⟩, hP, ⟨fun u hu => ?_, fun u hu hq => ?_⟩, hT, hK, hR⟩, hO⟩, ?_, Or.inl ⟨by rw [c4], rfl⟩⟩
    · show c_nu z + 1 = k_nu k + 1
      omega
    · show c_nu z + 1 ≤ 20
      omega
    · show upd (k_uin k) (k_nu k) (-1) u = c_sou z u
      have hu' : u < c_nu z + 1 := hu
      rw [upd_at]
      split
      · exact (hU.2 u (by omega) (by omega)).symm
      · exact hU.1 u (by omega)
    · have hu' : c_nu z + 1 ≤ u := hu
      exact hU.2 u (by omega) hq
    · show k_rows k ≤ k_rows k + 2
      omega
theorem st_arrive (X : ct_X) (z : S_c) (k : S_m) (h : Rl z k) (hr : k_rows k < 100000) (x : Int32) : St0 X m_C_arrive m_M_arrive [.int x] [2, 3] z k := by
  have h' := h
  obtain ⟨⟨⟨⟨c1, c2, c3, c4, c5, c6⟩, b1, b2, b3, b4, b5, b6, b7⟩, hL, ⟨e1, e2, e3⟩, hP, hU, hT, hK, hR⟩, hO⟩ := h
  rcases int_cases (n := c_np z) (by omega) x with hx | ⟨p, hp, rfl⟩
  · exact st0_err 0 (fun o => c_arrive_0 X z k o x hx) (fun o => k_arrive_0 X z k o x (by rw [← c3]; exact hx) (by omega)) h' rfl
  · have hin := hP.1 p hp
    have hng := (hL.2.2.2.2.1 p (by omega)).neg (by omega)
    by_cases hs : c_sop z p = -1
    · have hcs := come_step (z := c_arr_ z (upd (c_arr z) p (nI (c_sec z)))) (k := k_arr_ (k_thr_ k (nI 0)) (upd (k_arr k) p (nI (k_now k)))) (p := p) (t := 0) ⟨⟨⟨c1, c2, c3, c4, c5, c6⟩, b1, b2, b3, b4, b5, b6, b7⟩, LD.go hL hp b3 b5 b6, ⟨e1, e2, e3⟩, ⟨fun q hq => ?_, fun q hq _ => ?_, fun q hq hq2 => ?_⟩, hU, hT, hK, hR⟩ hp b5 hL.2.2.2.2.2.2.2.2.2 (fun s hs2 e => ?_)
      · obtain ⟨q1, q2, q3, q4, q5⟩ := hcs
        refine ⟨_, _, _, fun o => c_arrive_2 X z k o p hp b3 hs b6 b1 (led_of hL b6) hR.rg, fun o => k_arrive_2 X _ k o p (by omega) (by omega) (by rw [hin]; exact hng.mpr hs) (by omega) (by omega) hR.rowK, ⟨q1, ?_⟩, q5, Or.inl ⟨rfl, ?_⟩⟩
        · unfold OJ
          rw [q2, q3, q4]
          exact hO
        · rw [moves_thr]
          rfl
      · show upd (k_in k) p (oI (some 0)) q = upd (c_sop z) p (nI 0) q
        rw [upd_at, upd_at, hP.1 q hq]
        rfl
      · show upd (k_arr k) p (nI (k_now k)) q = upd (c_arr z) p (nI (c_sec z)) q
        rw [upd_at, upd_at, c1, hP.2.1 q hq (fun e => nomatch e)]
      · show upd (c_arr z) p (nI (c_sec z)) q = -1
        have hq' : c_np z ≤ q := hq
        rw [upd_at, if_neg (by omega)]
        exact hP.2.2 q hq hq2
      · have w := hL.2.2.2.1 p s (by omega) hs2 (fun e => nomatch e) ((hL.2.1 p s (by omega) hs2).mp e)
        rw [hs] at w
        exact absurd w (m1n (by omega))
    · exact st0_err 1 (fun o => c_arrive_1 X z k o p hp b3 hs) (fun o => k_arrive_1 X z k o p (by omega) (by omega) (by rw [hin]; exact fun q => hs (hng.mp q))) h' rfl
theorem st_leave (X : ct_X) (z : S_c) (k : S_m) (h : Rl z k) (hr : k_rows k < 100000) (x : Int32) : St0 X m_C_leave m_M_leave [.int x] [2, 3] z k := by
  have h' := h
  obtain ⟨⟨⟨⟨c1, c2, c3, c4, c5, c6⟩, b1, b2, b3, b4, b5, b6, b7⟩, hL, ⟨e1, e2, e3⟩, hP, hU, hT, hK, hR⟩, hO⟩ := h
  rcases int_cases (n := c_np z) (by omega) x with hx | ⟨p, hp, rfl⟩
  · exact st0_err 0 (fun o => c_leave_0 X z k o x hx) (fun o => k_leave_0 X z k o x (by rw [← c3]; exact hx) (by omega)) h' rfl
  · have hin := hP.1 p hp
    have hng := (hL.2.2.2.2.1 p (by omega)).neg (by omega)
    by_cases hs : c_sop z p = -1
    · exact st0_err 1 (fun o => c_leave_1 X z k o p hp b3 hs) (fun o => k_leave_1 X z k o p (by omega) (by omega) (by rw [hin]; exact hng.mpr hs)) h' rfl
    · have hcs := lln_step (a := some p) (z := c_off_ (c_arr_ (c_sop_ z (upd (c_sop z) p (-1))) (upd (c_arr z) p (-1))) (rep (c_off z) (nI p) (-1) (c_ns z))) (k := k_off_ (k_thr_ k (nI 0)) (rep (k_off k) (nI p) (-1) (k_ns k))) (p := p) (to := none) ⟨⟨⟨c1, c2, c3, c4, c5, c6⟩, b1, b2, b3, b4, b5, b6, b7⟩, LD.away hL hp b3 b6, ⟨e1, ?_, e3⟩, ⟨fun q hq => ?_, fun q hq hqa => ?_, fun q hq hq2 => ?_⟩, hU, hT, hK, hR⟩ hp (fun q e => by cases e; rfl) (fun s hs2 e => m1n (by omega))
      · obtain ⟨q1, q2, q3, q4, q5, q6, q7, q8, q9, q10⟩ := hcs
        obtain ⟨⟨⟨d1, d2, d3, d4, d5, d6⟩, f1, f2, f3, f4, f5, f6, f7⟩, gL, ⟨g1, g2, g3⟩, gP, gU, gT, gK, gR⟩ := q1
        refine ⟨_, _, _, fun o => c_leave_2 X z k o p hp b3 hs b6 b1 (led_of hL b6) hR.rg, fun o => k_leave_2 X _ k o p (by omega) (by omega) (by rw [hin]; exact fun q => hs (hng.mp q)) (by omega) (by omega) hR.rowK, ⟨⟨⟨⟨d1, d2, d3, d4, d5, d6⟩, f1, f2, f3, f4, f5, f6, f7⟩, gL, ⟨g1, g2, g3⟩, ⟨gP.1, fun q hq _ => ?_, gP.2.2⟩, gU, gT, gK, gR⟩, ?_⟩, ?_, Or.inl ⟨rfl, ?_⟩⟩
        · show upd (k_arr (f_mv1 _ p none)) p (-1) q = c_arr (f_lln _ p) q
          rw [upd_at]
          by_cases e : q = p
          · rw [if_pos e, e]
            have w : c_arr (f_lln (c_off_ (c_arr_ (c_sop_ z (upd (c_sop z) p (-1))) (upd (c_arr z) p (-1))) (rep (c_off z) (nI p) (-1) (c_ns z))) p) p = upd (c_arr z) p (-1) p := by rw [q10]; rfl
            rw [pk_us] at w
            exact w.symm
          · rw [if_neg e]
            exact gP.2.1 q hq (fun w => e (by cases w; rfl))
        · have hO2 : OJ (f_lln (c_off_ (c_arr_ (c_sop_ z (upd (c_sop z) p (-1))) (upd (c_arr z) p (-1))) (rep (c_off z) (nI p) (-1) (c_ns z))) p) (f_mv1 (k_off_ (k_thr_ k (nI 0)) (rep (k_off k) (nI p) (-1) (k_ns k))) p none) := by
            unfold OJ
            rw [q3, q4, q7]
            exact hO
          exact hO2
        · show k_rows (f_mv1 _ p none) ≤ k_rows k + 2
          have w : k_rows (f_mv1 (k_off_ (k_thr_ k (nI 0)) (rep (k_off k) (nI p) (-1) (k_ns k))) p none) ≤ k_rows k + 1 := q8
          omega
        · show k_thr (f_mv1 _ p none) = _
          rw [mv1_thr]
          rfl
      · show rep (k_off k) (nI p) (-1) (k_ns k) = rep (c_off z) (nI p) (-1) (c_ns z)
        rw [e2, c5]
      · show upd (k_in k) p (oI none) q = upd (c_sop z) p (-1) q
        rw [upd_at, upd_at, hP.1 q hq]
        rfl
      · show k_arr k q = upd (c_arr z) p (-1) q
        rw [upd_at, if_neg (fun e => hqa (by rw [e])), hP.2.1 q hq (fun e => nomatch e)]
      · show upd (c_arr z) p (-1) q = -1
        rw [upd_at]
        split
        · rfl
        · exact hP.2.2 q hq hq2
theorem st_go (X : ct_X) (z : S_c) (k : S_m) (h : Rl z k) (hr : k_rows k < 100000) (x y : Int32) : St0 X m_C_go m_M_go [.int x, .int y] [2, 3] z k := by
  have h' := h
  obtain ⟨⟨⟨⟨c1, c2, c3, c4, c5, c6⟩, b1, b2, b3, b4, b5, b6, b7⟩, hL, ⟨e1, e2, e3⟩, hP, hU, hT, hK, hR⟩, hO⟩ := h
  rcases int_cases (n := c_np z) (by omega) x with hx | ⟨p, hp, rfl⟩
  · exact st0_err 0 (fun o => c_go_0 X z k o x y hx) (fun o => k_go_0 X z k o x (by rw [← c3]; exact hx) (by omega) y) h' rfl
  · have hin := hP.1 p hp
    have hng := (hL.2.2.2.2.1 p (by omega)).neg (by omega)
    rcases int_cases (n := c_ns z) (by omega) y with hy | ⟨s, hs, rfl⟩
    · exact st0_err 0 (fun o => c_go_1 X z k o p hp b3 y hy) (fun o => k_go_1 X z k o p (by omega) (by omega) y (by rw [← c5]; exact hy) (by omega)) h' rfl
    · by_cases h1 : c_sop z p = -1
      · exact st0_err 1 (fun o => c_go_2 X z k o p hp b3 s hs b6 h1) (fun o => k_go_2 X z k o p (by omega) (by omega) s (by omega) (by omega) (by rw [hin]; exact hng.mpr h1)) h' rfl
      · have k1 : ¬ k_in k p < 0 := by rw [hin]; exact fun q => h1 (hng.mp q)
        by_cases h2 : c_sop z p = nI s
        · exact st0_err 1 (fun o => c_go_3 X z k o p hp b3 s hs b6 h1 h2) (fun o => k_go_3 X z k o p (by omega) (by omega) s (by omega) (by omega) k1 (by rw [hin]; exact h2)) h' rfl
        · by_cases h3 : c_opn z s = 0
          · exact st0_err 1 (fun o => c_go_4 X z k o p hp b3 s hs b6 h1 h2 h3) (fun o => k_go_4 X z k o p (by omega) (by omega) s (by omega) (by omega) k1 (by rw [hin]; exact h2) (fun q => (hO.1 s hs).mp q h3)) h' rfl
          · have hcs := come_step (z := z) (k := k_thr_ k (nI 0)) (p := p) (t := s) ⟨⟨⟨c1, c2, c3, c4, c5, c6⟩, b1, b2, b3, b4, b5, b6, b7⟩, LD.go hL hp b3 hs b6, ⟨e1, e2, e3⟩, ⟨fun q hq => ?_, hP.2.1, hP.2.2⟩, hU, hT, hK, hR⟩ hp hs h3 (fun t ht e => ?_)
            · obtain ⟨q1, q2, q3, q4, q5⟩ := hcs
              refine ⟨_, _, _, fun o => c_go_5 X z k o p hp b3 s hs b6 h1 h2 h3 b1 (led_of hL b6) hR.rg, fun o => k_go_5 X _ k o p (by omega) (by omega) s (by omega) (by omega) k1 (by rw [hin]; exact h2) ((hO.1 s hs).mpr h3) (by omega) hR.rowK, ⟨q1, ?_⟩, q5, Or.inl ⟨rfl, ?_⟩⟩
              · unfold OJ
                rw [q2, q3, q4]
                exact hO
              · rw [moves_thr]
                rfl
            · show upd (k_in k) p (oI (some s)) q = upd (c_sop z) p (nI s) q
              rw [upd_at, upd_at, hP.1 q hq]
              rfl
            · have w := hL.2.2.2.1 p t (by omega) ht (fun e => nomatch e) ((hL.2.1 p t (by omega) ht).mp e)
              intro w2
              exact h2 (by rw [w, w2])
theorem st_place (X : ct_X) (z : S_c) (k : S_m) (h : Rl z k) (x y : Int32) : St0 X m_C_place m_M_place [.int x, .int y] [2, 3] z k := by
  have h' := h
  obtain ⟨⟨⟨⟨c1, c2, c3, c4, c5, c6⟩, b1, b2, b3, b4, b5, b6, b7⟩, hL, ⟨e1, e2, e3⟩, hP, hU, hT, hK, hR⟩, hO⟩ := h
  rcases int_cases (n := c_nu z) (by omega) x with hx | ⟨u, hu, rfl⟩
  · exact st0_err 0 (fun o => c_place_0 X z k o x y hx) (fun o => k_place_0 X z k o x (by rw [← c4]; exact hx) (by omega) y) h' rfl
  · have hin := hU.1 u hu
    have hnew : ∀ v : Int32, Rl (c_sou_ z (upd (c_sou z) u v)) (k_uin_ (k_thr_ k (nI 0)) (upd (k_uin k) u v)) := fun v => by
      refine ⟨⟨⟨⟨c1, c2, c3, c4, c5, c6⟩, b1, b2, b3, b4, b5, b6, b7⟩, hL, ⟨e1, e2, e3⟩, hP, ⟨fun w hw => ?_, fun w hw hw2 => ?_⟩, hT, hK, hR⟩, hO⟩
      · show upd (k_uin k) u v w = upd (c_sou z) u v w
        rw [upd_at, upd_at, hU.1 w hw]
      · show upd (c_sou z) u v w = -1
        have hw' : c_nu z ≤ w := hw
        rw [upd_at, if_neg (by omega)]
        exact hU.2 w hw hw2
    by_cases hm : y = -1
    · subst hm
      by_cases h1 : c_sou z u = -1
      · exact st0_err 1 (fun o => c_place_2 X z k o u hu b4 h1) (fun o => k_place_2 X z k o u (by omega) (by omega) (by rw [hin]; exact h1)) h' rfl
      · exact ⟨_, _, _, fun o => c_place_3 X z k o u hu b4 h1, fun o => k_place_3 X _ k o u (by omega) (by omega) (by rw [hin]; exact h1), hnew (-1), (by show k_rows k ≤ k_rows k + 2; omega), Or.inl ⟨rfl, rfl⟩⟩
    · rcases int_cases (n := c_ns z) (by omega) y with hy | ⟨s, hs, rfl⟩
      · exact st0_err 0 (fun o => c_place_1 X z k o u hu b4 y hm hy) (fun o => k_place_1 X z k o u (by omega) (by omega) y (by rw [← c5]; exact hy) (by omega) hm) h' rfl
      · by_cases h1 : c_sou z u = nI s
        · exact st0_err 1 (fun o => c_place_4 X z k o u hu b4 s hs b6 h1) (fun o => k_place_4 X z k o u (by omega) (by omega) s (by omega) (by omega) (by rw [hin]; exact h1)) h' rfl
        · by_cases h2 : c_opn z s = 0
          · exact st0_err 1 (fun o => c_place_5 X z k o u hu b4 s hs b6 h1 h2) (fun o => k_place_5 X z k o u (by omega) (by omega) s (by omega) (by omega) (by rw [hin]; exact h1) (fun q => (hO.1 s hs).mp q h2)) h' rfl
          · exact ⟨_, _, _, fun o => c_place_6 X z k o u hu b4 s hs b6 h1 h2, fun o => k_place_6 X _ k o u (by omega) (by omega) s (by omega) (by omega) (by rw [hin]; exact h1) ((hO.1 s hs).mpr h2), hnew (nI s), (by show k_rows k ≤ k_rows k + 2; omega), Or.inl ⟨rfl, rfl⟩⟩
theorem st_split (X : ct_X) (z : S_c) (k : S_m) (h : Rl z k) (x : Int32) : St1 X m_C_split m_M_split [.int x] [2, 3, 1] z k := by
  have h' := h
  obtain ⟨⟨⟨⟨c1, c2, c3, c4, c5, c6⟩, b1, b2, b3, b4, b5, b6, b7⟩, hL, ⟨e1, e2, e3⟩, hP, hU, hT, hK, hR⟩, hO⟩ := h
  rcases int_cases (n := c_ns z) (by omega) x with hx | ⟨s, hs, rfl⟩
  · exact st1_err 0 (fun o => c_split_0 X z k o x hx) (fun o => k_split_0 X z k o x (by rw [← c5]; exact hx) (by omega)) h' rfl
  · by_cases h1 : c_opn z s = 0
    · exact st1_err 1 (fun o => c_split_1 X z k o s hs b6 h1) (fun o => k_split_1 X z k o s (by omega) (by omega) (fun q => (hO.1 s hs).mp q h1)) h' rfl
    · have k1 := (hO.1 s hs).mpr h1
      by_cases h2 : c_ns z = 20
      · exact st1_err 2 (fun o => c_split_2 X z k o s hs b6 h1 (by omega)) (fun o => k_split_2 X z k o s (by omega) (by omega) k1 (by omega)) h' rfl
      · obtain ⟨t1, t2, t3, t4⟩ := hT
        have hcg : ∀ n j, j < c_ns z → itr (upd (c_abv z) (c_ns z) (nI s)) n (some j) = itr (c_abv z) n (some j) := fun n j hj => itr_congr (N := c_ns z) (by omega) (fun i hi => t3 i (by omega)) (fun i hi => by rw [upd_at, if_neg (by omega)]) n (some j) (fun i e => by cases e; exact hj)
        refine ⟨_, _, _, _, fun o => c_split_3 X z k o s hs b6 h1 (by omega), fun o => k_split_3 X _ k o s (by omega) (by omega) k1 (by omega), ⟨⟨⟨⟨c1, c2, c3, c4, ?_, c6⟩, b1, b2, b3, b4, ?_, ?_, b7⟩, ?_, ⟨e1, e2, e3⟩, hP, hU, ⟨fun j hj => ?_, fun j hj => ?_, fun j hj => ?_, fun j hj => ?_⟩, hK, hR⟩, fun j hj => ?_, fun j hj hj2 => ?_⟩, ?_, Or.inl ⟨by rw [c5], rfl⟩⟩
        · show c_ns z + 1 = k_ns k + 1
          omega
        · show 1 ≤ c_ns z + 1
          omega
        · show c_ns z + 1 ≤ 20
          omega
        · obtain ⟨h1, h2, h3, h4, h5, h6, h7, h8, h9, h10⟩ := hL
          have hle : c_ns z ≤ c_ns z + 1 := by omega
          refine ⟨fun p hp => (h1 p hp).mono hle, h2, h3, h4, fun p hp => (h5 p hp).mono hle, h6, h7, h8, fun t ht ho => ?_, ?_⟩
          · have ht' : t < c_ns z + 1 := ht
            have ho' : upd (c_opn z) (c_ns z) (nI 1) t = 0 := ho
            rw [upd_at] at ho'
            split at ho'
            · exact absurd ho' (by decide)
            · exact h9 t (by omega) ho'
          · show ¬ upd (c_opn z) (c_ns z) (nI 1) 0 = 0
            rw [upd_at, if_neg (by omega)]
            exact h10
        · show upd (k_abv k) (k_ns k) (nI s) j = upd (c_abv z) (c_ns z) (nI s) j
          have hj' : j < c_ns z + 1 := hj
          rw [upd_at, upd_at, c5]
          split
          · rfl
          · exact t1 j (by omega)
        · show okO 20 (upd (k_abv k) (k_ns k) (nI s) j)
          rw [upd_at]
          split
          · exact okO.of (by omega)
          · exact t2 j hj
        · show okO (c_ns z + 1) (upd (c_abv z) (c_ns z) (nI s) j)
          rw [upd_at]
          split
          · exact okO.of (by omega)
          · exact (t3 j hj).mono (by omega)
        · show ∃ n, itr (upd (c_abv z) (c_ns z) (nI s)) n (some j) = none
          have hj' : j < c_ns z + 1 := hj
          by_cases e : j = c_ns z
          · obtain ⟨n, hn⟩ := t4 s hs
            refine ⟨n + 1, ?_⟩
            show itr (upd (c_abv z) (c_ns z) (nI s)) n (io (upd (c_abv z) (c_ns z) (nI s) j)) = none
            rw [e, pk_us, io_n (by omega), hcg n s hs]
            exact hn
          · obtain ⟨n, hn⟩ := t4 j (by omega)
            exact ⟨n, by rw [hcg n j (by omega)]; exact hn⟩
        · show k_jnd k j = 0 ↔ ¬ upd (c_opn z) (c_ns z) (nI 1) j = 0
          have hj' : j < c_ns z + 1 := hj
          rw [upd_at]
          split
          · rename_i e
            exact ⟨fun _ => by decide, fun _ => hO.2 j (by omega) (by omega)⟩
          · exact hO.1 j (by omega)
        · have hj' : c_ns z + 1 ≤ j := hj
          exact hO.2 j (by omega) hj2
        · show k_rows k ≤ k_rows k + 2
          omega
