/-! TASKS, SPANS, THE CLOCK AND THE QUESTIONS on both sides -/
theorem open_eq {z : S_c} {k : S_m} (h : Rl z k) (s : Int32) : cntB (openB z s) (c_ns z) = cntB (belowK k s) (k_ns k) := by
  obtain ⟨⟨⟨⟨c1, c2, c3, c4, c5, c6⟩, b⟩, hL, e, hP, hU, hT, hK, hR⟩, hO⟩ := h
  rw [← c5]
  refine cntB_congr (fun j hj => ?_)
  unfold openB belowK
  rw [hT.1 j hj]
  by_cases w : c_opn z j = 0
  · rw [decide_eq_true w, decide_eq_false (fun q => (hO.1 j hj).mp q w), Bool.and_false]
    rfl
  · rw [decide_eq_false w, decide_eq_true ((hO.1 j hj).mpr w), Bool.and_true]
    rfl
theorem unit_eq {z : S_c} {k : S_m} (h : Rl z k) (s : Int32) : cnt (c_sou z) s (c_nu z) = cntB (inB (k_uin k) s) (k_nu k) := by
  obtain ⟨⟨⟨⟨c1, c2, c3, c4, c5, c6⟩, b⟩, hL, e, hP, hU, hT, hK, hR⟩, hO⟩ := h
  rw [cnt_eq, ← c4]
  exact cntB_congr (fun j hj => by unfold inB; rw [hU.1 j hj])
theorem pers_eq {z : S_c} {k : S_m} (h : Rl z k) (s : Int32) : cnt (c_sop z) s (c_np z) = cntB (inB (k_in k) s) (k_np k) := by
  obtain ⟨⟨⟨⟨c1, c2, c3, c4, c5, c6⟩, b⟩, hL, e, hP, hU, hT, hK, hR⟩, hO⟩ := h
  rw [cnt_eq, ← c3]
  exact cntB_congr (fun j hj => by unfold inB; rw [hP.1 j hj])
theorem pass_eq {z : S_c} {k : S_m} (h : Rl z k) {s : Nat} (hs : s < c_ns z) : passB z s = passK k s := by
  have h1 := open_eq h (nI s)
  have h2 := unit_eq h (nI s)
  obtain ⟨⟨⟨⟨c1, c2, c3, c4, c5, c6⟩, b1, b2, b3, b4, b5, b6, b7⟩, hL, ⟨e1, e2, e3⟩, hP, hU, hT, hK, hR⟩, hO⟩ := h
  unfold passB passK
  rw [h1, h2, e1, c2]
  have hng := (hL.2.2.1 s (by omega)).neg (by omega)
  by_cases w : c_ldr z s = -1
  · rw [decide_eq_true w, decide_eq_true (hng.mpr w)]
    simp
  · have ho : ¬ c_opn z s = 0 := fun q => w (hL.2.2.2.2.2.2.2.2.1 s hs q)
    rw [decide_eq_false w, decide_eq_false (fun q => w (hng.mp q)), decide_eq_true ((hO.1 s hs).mpr ho)]
    rfl
theorem psd_congr {P Q : Nat → Bool} : ∀ (n s l : Nat), (∀ j, s ≤ j → j < s + n → P j = Q j) → f_psd P n s l = f_psd Q n s l
  | 0, _, _, _ => rfl
  | n + 1, s, l, h => by
    unfold f_psd
    rw [h s (by omega) (by omega), psd_congr n (s + 1) l (fun j h1 h2 => h j (by omega) (by omega)), psd_congr n (s + 1) (l - 1) (fun j h1 h2 => h j (by omega) (by omega))]
theorem st_task (X : ct_X) (z : S_c) (k : S_m) (h : Rl z k) (x y : Int32) : St1 X m_C_task m_M_task [.int x, .int y] [2, 0, 3, 1] z k := by
  have h' := h
  obtain ⟨⟨⟨⟨c1, c2, c3, c4, c5, c6⟩, b1, b2, b3, b4, b5, b6, b7⟩, hL, ⟨e1, e2, e3⟩, hP, hU, hT, ⟨k1, k2, k3, k4⟩, hR⟩, hO⟩ := h
  rcases int_cases (n := c_ns z) (by omega) x with hx | ⟨s, hs, rfl⟩
  · exact st1_err 0 (fun o => c_task_0 X z k o x y hx) (fun o => k_task_0 X z k o x (by rw [← c5]; exact hx) (by omega) (by omega) y) h' rfl
  · rcases int_range (a := c_sec z) (b := 99999) (by omega) (by omega) y with hy | ⟨t, ht, ht2, rfl⟩
    · exact st1_err 1 (fun o => c_task_1 X z k o s hs b6 y hy) (fun o => k_task_1 X z k o s (by omega) (by omega) (by omega) y (by rw [← c1]; exact hy)) h' rfl
    · by_cases h1 : c_opn z s = 0
      · exact st1_err 2 (fun o => c_task_2 X z k o s hs b6 t ht ht2 h1) (fun o => k_task_2 X z k o s (by omega) (by omega) t (by omega) (by omega) (by omega) (fun q => (hO.1 s hs).mp q h1)) h' rfl
      · have j1 := (hO.1 s hs).mpr h1
        by_cases h2 : t_n z = 60
        · exact st1_err 3 (fun o => c_task_3 X z k o s hs b6 t ht ht2 h1 h2) (fun o => k_task_3 X z k o s (by omega) (by omega) t (by omega) (by omega) j1 (by omega)) h' rfl
        · refine ⟨_, _, _, _, fun o => c_task_4 X z k o s hs b6 t ht ht2 h1 (by omega), fun o => k_task_4 X _ k o s (by omega) (by omega) t (by omega) (by omega) j1 (by omega), ⟨⟨⟨⟨c1, c2, c3, c4, c5, ?_⟩, b1, b2, b3, b4, b5, b6, ?_⟩, hL, ⟨e1, e2, e3⟩, hP, hU, hT, ⟨?_, ?_, fun j hj => ?_, fun j hj hj2 => ?_⟩, hR⟩, hO⟩, (by show k_rows k ≤ k_rows k + 2; omega), Or.inl ⟨by rw [c6], rfl⟩⟩
          · show t_n z + 1 = k_nt k + 1
            omega
          · show t_n z + 1 ≤ 60
            omega
          · show upd (k_tof k) (k_nt k) (nI s) = upd (t_sec z) (t_n z) (nI s)
            rw [k1, c6]
          · show upd (k_unt k) (k_nt k) (nI t) = upd (t_unt z) (t_n z) (nI t)
            rw [k2, c6]
          · have hj' : j < t_n z + 1 := hj
            show upd (k_ans k) (k_nt k) (-1) j = t_at z j ∧ upd (k_sta k) (k_nt k) (nI 0) j = stF (t_rep z) (upd (t_unt z) (t_n z) (nI t)) j (c_sec z) ∧ (t_rep z j = 0 ∨ t_rep z j = nI 1 ∨ t_rep z j = nI 2)
            rw [← c6, upd_at, upd_at, stF, upd_at]
            by_cases e : j = t_n z
            · obtain ⟨w1, w2⟩ := k4 j (by omega) (by omega)
              rw [if_pos e, if_pos e, if_pos e, w1, w2, if_pos rfl, if_neg (fun q => absurd ((nI_ltI (by omega) (by omega)).mp q) (by omega))]
              exact ⟨rfl, rfl, Or.inl rfl⟩
            · rw [if_neg e, if_neg e, if_neg e]
              exact k3 j (by omega)
          · have hj' : t_n z + 1 ≤ j := hj
            exact k4 j (by omega) hj2
theorem st_answer (X : ct_X) (z : S_c) (k : S_m) (h : Rl z k) (x : Int32) (d : Bool) : St0 X m_C_answer m_M_answer [.int x, .int (nI (cond d 1 0))] [2, 3] z k := by
  have h' := h
  obtain ⟨⟨⟨⟨c1, c2, c3, c4, c5, c6⟩, b1, b2, b3, b4, b5, b6, b7⟩, hL, ⟨e1, e2, e3⟩, hP, hU, hT, ⟨k1, k2, k3, k4⟩, hR⟩, hO⟩ := h
  rcases int_cases (n := t_n z) (by omega) x with hx | ⟨t, ht, rfl⟩
  · exact st0_err 0 (fun o => c_answer_0 X z k o x _ hx) (fun o => k_answer_0 X z k o x (by rw [← c6]; exact hx) (by omega) _) h' rfl
  · obtain ⟨w1, w2, w3⟩ := k3 t ht
    have hiff := sta_iff (unt := t_unt z) (t := c_sec z) w3
    rw [← w2] at hiff
    by_cases h1 : t_rep z t = 0
    · have hnew : ∀ v : Nat, (v = 1 ∨ v = 2) → Rl (t_at_ (t_rep_ z (upd (t_rep z) t (nI v))) (upd (t_at z) t (nI (c_sec z)))) (k_ans_ (k_sta_ (k_thr_ k (nI 0)) (upd (k_sta k) t (nI v))) (upd (k_ans k) t (nI (k_now k)))) := fun v hv => by
        refine ⟨⟨⟨⟨c1, c2, c3, c4, c5, c6⟩, b1, b2, b3, b4, b5, b6, b7⟩, hL, ⟨e1, e2, e3⟩, hP, hU, hT, ⟨k1, k2, fun j hj => ?_, fun j hj hj2 => ?_⟩, hR⟩, hO⟩
        · show upd (k_ans k) t (nI (k_now k)) j = upd (t_at z) t (nI (c_sec z)) j ∧ upd (k_sta k) t (nI v) j = stF (upd (t_rep z) t (nI v)) (t_unt z) j (c_sec z) ∧ (upd (t_rep z) t (nI v) j = 0 ∨ upd (t_rep z) t (nI v) j = nI 1 ∨ upd (t_rep z) t (nI v) j = nI 2)
          rw [stF, upd_at, upd_at, upd_at, upd_at]
          by_cases e : j = t
          · rw [if_pos e, if_pos e, if_pos e, if_pos e, c1]
            rcases hv with rfl | rfl
            · exact ⟨rfl, (if_neg (by decide)).symm, Or.inr (Or.inl rfl)⟩
            · exact ⟨rfl, (if_neg (by decide)).symm, Or.inr (Or.inr rfl)⟩
          · rw [if_neg e, if_neg e, if_neg e, if_neg e]
            exact k3 j hj
        · show upd (t_rep z) t (nI v) j = 0 ∧ upd (t_at z) t (nI (c_sec z)) j = -1
          have hj' : t_n z ≤ j := hj
          rw [upd_at, upd_at, if_neg (by omega), if_neg (by omega)]
          exact k4 j hj hj2
      by_cases h2 : k_sta k t = 0
      · cases d with
        | true => exact ⟨_, _, _, fun o => c_answer_2t X z k o t ht b7 h1, fun o => k_answer_2ta X _ k o t (by omega) (by omega) h2, hnew 1 (Or.inl rfl), (by show k_rows k ≤ k_rows k + 2; omega), Or.inl ⟨rfl, rfl⟩⟩
        | false => exact ⟨_, _, _, fun o => c_answer_2f X z k o t ht b7 h1, fun o => k_answer_2fa X _ k o t (by omega) (by omega) h2, hnew 2 (Or.inr rfl), (by show k_rows k ≤ k_rows k + 2; omega), Or.inl ⟨rfl, rfl⟩⟩
      · have h3 : k_sta k t = nI 3 := (hiff.mpr h1).resolve_left h2
        cases d with
        | true => exact ⟨_, _, _, fun o => c_answer_2t X z k o t ht b7 h1, fun o => k_answer_2tb X _ k o t (by omega) (by omega) h2 h3, hnew 1 (Or.inl rfl), (by show k_rows k ≤ k_rows k + 2; omega), Or.inl ⟨rfl, rfl⟩⟩
        | false => exact ⟨_, _, _, fun o => c_answer_2f X z k o t ht b7 h1, fun o => k_answer_2fb X _ k o t (by omega) (by omega) h2 h3, hnew 2 (Or.inr rfl), (by show k_rows k ≤ k_rows k + 2; omega), Or.inl ⟨rfl, rfl⟩⟩
    · exact st0_err 1 (fun o => c_answer_1 X z k o t ht b7 _ h1) (fun o => k_answer_1 X z k o t (by omega) (by omega) _ (fun q => h1 (hiff.mp (Or.inl q))) (fun q => h1 (hiff.mp (Or.inr q)))) h' rfl
theorem st_span (X : ct_X) (z : S_c) (k : S_m) (h : Rl z k) (x : Int32) : St1 X m_C_span m_M_span [.int x] [0] z k := by
  have h' := h
  obtain ⟨⟨⟨⟨c1, c2, c3, c4, c5, c6⟩, b1, b2, b3, b4, b5, b6, b7⟩, hL, ⟨e1, e2, e3⟩, hP, hU, hT, hK, hR⟩, hO⟩ := h
  rcases int_range (a := 1) (b := 20) (by omega) (by omega) x with hx | ⟨m, hm, hm2, rfl⟩
  · exact st1_err 0 (fun o => c_span_0 X z k o x hx) (fun o => k_span_0 X z k o x hx) h' rfl
  · have hnew : Rl (c_most_ z m) (k_span_ (k_thr_ k (nI 0)) m) := ⟨⟨⟨⟨c1, rfl, c3, c4, c5, c6⟩, b1, hm2, b3, b4, b5, b6, b7⟩, hL, ⟨e1, e2, e3⟩, hP, hU, hT, hK, hR⟩, hO⟩
    refine ⟨_, _, _, _, fun o => c_span_1 X z k o m hm hm2 b6 b4, fun o => k_span_1 X _ k o m hm hm2 (by omega) (by omega), hnew, (by show k_rows k ≤ k_rows k + 2; omega), Or.inl ⟨?_, rfl⟩⟩
    rw [← c5, cntB_congr (P := passB (c_most_ z m)) (Q := passK (k_span_ (k_thr_ k (nI 0)) m)) (n := c_ns z) (fun j hj => pass_eq hnew hj)]
theorem st_tick (X : ct_X) (z : S_c) (k : S_m) (h : Rl z k) (x : Int32) : St1 X m_C_tick m_M_tick [.int x] [0] z k := by
  have h' := h
  obtain ⟨⟨⟨⟨c1, c2, c3, c4, c5, c6⟩, b1, b2, b3, b4, b5, b6, b7⟩, hL, ⟨e1, e2, e3⟩, hP, hU, hT, ⟨k1, k2, k3, k4⟩, hR⟩, hO⟩ := h
  rcases int_range (a := 1) (b := 5000) (by omega) (by omega) x with hx | ⟨n, hn, hn2, rfl⟩
  · exact st1_err 0 (fun o => c_tick_0 X z k o x b1 (hx.elim Or.inl (fun q => Or.inr (Or.inl q)))) (fun o => k_tick_0 X z k o x (by omega) hx) h' rfl
  · by_cases h3 : n ≤ 99999 - c_sec z
    · have hov : ∀ j, j < t_n z → overB z (c_sec z) (c_sec z + n) j = tickB (k_now_ (k_thr_ k (nI 0)) (k_now k + n)) j := fun j hj => by
        obtain ⟨w1, w2, w3⟩ := k3 j hj
        show (decide (stF (t_rep z) (t_unt z) j (c_sec z) = 0) && decide (stF (t_rep z) (t_unt z) j (c_sec z + n) = nI 3)) = (decide (k_sta k j = 0) && decide (k_unt k j < nI (k_now k + n)))
        rw [w2, k2, ← c1]
        by_cases e : t_rep z j = 0
        · have e4 : (decide (stF (t_rep z) (t_unt z) j (c_sec z + n) = nI 3)) = decide (t_unt z j < nI (c_sec z + n)) := by
            unfold stF
            rw [if_pos e]
            by_cases q : t_unt z j < nI (c_sec z + n)
            · rw [if_pos q, decide_eq_true q]
              decide
            · rw [if_neg q, decide_eq_false q]
              decide
          rw [e4]
        · have e4 : ¬ stF (t_rep z) (t_unt z) j (c_sec z) = 0 := by
            unfold stF
            rw [if_neg e]
            exact e
          rw [decide_eq_false e4, Bool.false_and, Bool.false_and]
      refine ⟨_, _, _, _, fun o => c_tick_1 X z k o n b1 hn hn2 h3 b7, fun o => k_tick_2 X _ k o n (by omega) hn hn2 (by omega) (by omega), ⟨⟨⟨⟨?_, c2, c3, c4, c5, c6⟩, ?_, b2, b3, b4, b5, b6, b7⟩, hL, ⟨e1, e2, e3⟩, hP, hU, hT, ⟨k1, k2, fun j hj => ?_, k4⟩, ?_⟩, hO⟩, (by show k_rows k ≤ k_rows k + 2; omega), Or.inl ⟨?_, rfl⟩⟩
      · show c_sec z + n = k_now k + n
        omega
      · show c_sec z + n ≤ 99999
        omega
      · have hj' : j < t_n z := hj
        obtain ⟨w1, w2, w3⟩ := k3 j hj'
        refine ⟨w1, ?_, w3⟩
        show f_tk (k_now_ (k_thr_ k (nI 0)) (k_now k + n)) (k_nt k) j = stF (t_rep z) (t_unt z) j (c_sec z + n)
        rw [f_tk]
        have e5 : tickB (k_now_ (k_thr_ k (nI 0)) (k_now k + n)) j = (decide (k_sta k j = 0) && decide (k_unt k j < nI (k_now k + n))) := rfl
        rw [e5]
        show (if j < k_nt k ∧ (decide (k_sta k j = 0) && decide (k_unt k j < nI (k_now k + n))) = true then nI 3 else k_sta k j) = _
        rw [w2, k2, ← c1]
        unfold stF
        by_cases e : t_rep z j = 0
        · rw [if_pos e, if_pos e]
          by_cases q : t_unt z j < nI (c_sec z + n)
          · rw [if_pos q]
            by_cases q2 : t_unt z j < nI (c_sec z)
            · rw [if_pos q2]
              split <;> rfl
            · rw [if_neg q2, decide_eq_true q, if_pos ⟨by omega, by decide⟩]
          · have q2 : ¬ t_unt z j < nI (c_sec z) := fun w => q (Int32.lt_of_lt_of_le w ((nI_leI (by omega) (by omega)).mpr (by omega)))
            rw [if_neg q, if_neg q2, decide_eq_false q, Bool.and_false, if_neg (fun w => nomatch w.2)]
        · rw [if_neg e, if_neg e, decide_eq_false e, Bool.false_and, if_neg (fun w => nomatch w.2)]
      · exact RW.later hR (by show k_now k ≤ k_now k + n; omega) (by show k_now k + n ≤ 99999; omega)
      · rw [← c6, cntB_congr hov]
    · have hx3 : nI (99999 - c_sec z) < nI n := (nI_ltI (by omega) (by omega)).mpr (by omega)
      exact st1_err 0 (fun o => c_tick_0 X z k o (nI n) b1 (Or.inr (Or.inr hx3))) (fun o => k_tick_1 X z k o (nI n) (by omega) ((nI_leI (by omega) (by omega)).mpr hn) ((nI_leI (by omega) (by omega)).mpr hn2) (by rw [← c1]; exact hx3)) h' rfl
theorem st_led (X : ct_X) (z : S_c) (k : S_m) (h : Rl z k) (hr : k_rows k < 100000) (x y : Int32) : St1 X m_C_led m_M_led [.int x, .int y] [2, 0, 1] z k := by
  have h' := h
  obtain ⟨⟨⟨⟨c1, c2, c3, c4, c5, c6⟩, b1, b2, b3, b4, b5, b6, b7⟩, hL, ⟨e1, e2, e3⟩, hP, hU, hT, hK, hR⟩, hO⟩ := h
  rcases int_cases (n := c_ns z) (by omega) x with hx | ⟨s, hs, rfl⟩
  · exact st1_err 0 (fun o => c_led_0 X z k o x y hx) (fun o => k_led_0 X z k o x (by rw [← c5]; exact hx) (by omega) y) h' rfl
  · rcases int_upto (n := c_sec z) (by omega) y with hy | ⟨t, ht, rfl⟩
    · exact st1_err 1 (fun o => c_led_1 X z k o s hs b6 y hy) (fun o => k_led_1 X z k o s (by omega) (by omega) y (by rw [← c1]; exact hy)) h' rfl
    · have hR' := hR
      obtain ⟨r1, r2, ⟨r3, r4, r5, r6⟩, r7, r8, r9, r10, r11, r12⟩ := hR
      have hR0 : RWs z (k_thr_ k (nI 0)) := hR'
      by_cases h4 : k_rows k ≤ 400
      · obtain ⟨d1, d2⟩ := r9 h4
        have hn : r_n z = k_rows k := by rw [r1, if_pos h4]
        refine st1_q (fun o => c_led_3 X z k o s hs b6 t ht b1 (by omega) hR'.rg) (fun o => k_led_3 X z k o s (by omega) (by omega) t (by omega) (by omega) ?_ (by omega) h4) h' ?_
        · rw [d2]
          exact Int32.le_of_lt (Int32.lt_of_lt_of_le (show (-1 : Int32) < nI 0 by decide) ((nI_leI (by omega) (by omega)).mpr (by omega)))
        · rw [led_eq hR0 (nI s) (nI t) 0 (by show 0 + r_n z = k_rows k; omega) (r_n z) 0 _ (by omega), hn, r6]
      · obtain ⟨d1, d2⟩ := r10 (by omega)
        have hn : r_n z = 400 := by rw [r1, if_neg h4]
        by_cases h5 : r_drop z ≤ t
        · refine st1_q (fun o => c_led_3 X z k o s hs b6 t ht b1 h5 hR'.rg) (fun o => k_led_4 X z k o s (by omega) (by omega) t (by omega) (by omega) (by rw [d1]; exact (nI_leI (by omega) (by omega)).mpr h5) (by omega) (by omega)) h' ?_
          rw [led_eq hR0 (nI s) (nI t) (k_rows k - 400) (by show k_rows k - 400 + r_n z = k_rows k; omega) (r_n z) 0 _ (by omega), hn, r6, Nat.add_zero]
        · exact st1_err 2 (fun o => c_led_2 X z k o s hs b6 t ht b1 (by omega) (by omega)) (fun o => k_led_2 X z k o s (by omega) (by omega) t (by omega) (by omega) (by rw [d1]; exact (nI_ltI (by omega) (by omega)).mpr (by omega))) h' rfl
theorem st_sectorAt (X : ct_X) (z : S_c) (k : S_m) (h : Rl z k) (x y : Int32) : St1 X m_C_sectorAt m_M_sectorAt [.int x, .int y] [2] z k := by
  have h' := h
  obtain ⟨⟨⟨⟨c1, c2, c3, c4, c5, c6⟩, b1, b2, b3, b4, b5, b6, b7⟩, hL, ⟨e1, e2, e3⟩, hP, hU, hT, hK, hR⟩, hO⟩ := h
  rcases int_cases (n := c_ns z) (by omega) x with hx | ⟨s, hs, rfl⟩
  · exact st1_err 0 (fun o => c_sectorAt_x X z k o x y hx) (fun o => k_sectorAt_x X z k o x (by rw [← c5]; exact hx) (by omega) y) h' rfl
  · rcases int_upto (n := 7) (by omega) y with hy | ⟨t, ht, rfl⟩
    · exact st1_err 0 (fun o => c_sectorAt_y X z k o s hs b6 y hy) (fun o => k_sectorAt_y X z k o s (by omega) (by omega) y hy) h' rfl
    · have ht' : t = 0 ∨ t = 1 ∨ t = 2 ∨ t = 3 ∨ t = 4 ∨ t = 5 ∨ t = 6 ∨ t = 7 := by omega
      rcases ht' with rfl | rfl | rfl | rfl | rfl | rfl | rfl | rfl
      · by_cases h1 : c_opn z s = 0
        · exact st1_q (fun o => c_sectorAt_0f X z k o s hs b6 h1) (fun o => k_sectorAt_0f X z k o s (by omega) (by omega) (by omega) (fun q => (hO.1 s hs).mp q h1)) h' rfl
        · exact st1_q (fun o => c_sectorAt_0t X z k o s hs b6 h1) (fun o => k_sectorAt_0t X z k o s (by omega) (by omega) (by omega) ((hO.1 s hs).mpr h1)) h' rfl
      · exact st1_q (fun o => c_sectorAt_1 X z k o s hs b6) (fun o => k_sectorAt_1 X z k o s (by omega) (by omega) (by omega)) h' (by rw [e1])
      · exact st1_q (fun o => c_sectorAt_2 X z k o s hs b6) (fun o => k_sectorAt_2 X z k o s (by omega) (by omega) (by omega)) h' (hT.1 s hs).symm
      · exact st1_q (fun o => c_sectorAt_3 X z k o s hs b6 b3) (fun o => k_sectorAt_3 X z k o s (by omega) (by omega) (by omega)) h' (by rw [pers_eq h'])
      · exact st1_q (fun o => c_sectorAt_4 X z k o s hs b6 b4) (fun o => k_sectorAt_4 X z k o s (by omega) (by omega) (by omega) (by omega)) h' (by rw [unit_eq h'])
      · exact st1_q (fun o => c_sectorAt_5 X z k o s hs b6) (fun o => k_sectorAt_5 X z k o s (by omega) (by omega) (by omega)) h' (by rw [e2])
      · cases hp : passB z s with
        | true => exact st1_q (fun o => c_sectorAt_6t X z k o s hs b6 b4 b2 hp) (fun o => k_sectorAt_6t X z k o s (by omega) (by omega) (by omega) (by omega) (by omega) (by rw [← pass_eq h' hs]; exact hp)) h' rfl
        | false => exact st1_q (fun o => c_sectorAt_6f X z k o s hs b6 b4 b2 hp) (fun o => k_sectorAt_6f X z k o s (by omega) (by omega) (by omega) (by omega) (by omega) (by rw [← pass_eq h' hs]; exact hp)) h' rfl
      · exact st1_q (fun o => c_sectorAt_7 X z k o s hs b6) (fun o => k_sectorAt_7 X z k o s (by omega) (by omega) (by omega)) h' (by rw [open_eq h'])
theorem st_personAt (X : ct_X) (z : S_c) (k : S_m) (h : Rl z k) (x y : Int32) : St1 X m_C_personAt m_M_personAt [.int x, .int y] [2] z k := by
  have h' := h
  obtain ⟨⟨⟨⟨c1, c2, c3, c4, c5, c6⟩, b1, b2, b3, b4, b5, b6, b7⟩, hL, ⟨e1, e2, e3⟩, hP, hU, hT, hK, hR⟩, hO⟩ := h
  rcases int_cases (n := c_np z) (by omega) x with hx | ⟨p, hp, rfl⟩
  · exact st1_err 0 (fun o => c_personAt_x X z k o x y hx) (fun o => k_personAt_x X z k o x (by rw [← c3]; exact hx) (by omega) y) h' rfl
  · rcases int_upto (n := 2) (by omega) y with hy | ⟨t, ht, rfl⟩
    · exact st1_err 0 (fun o => c_personAt_y X z k o p hp b3 y hy) (fun o => k_personAt_y X z k o p (by omega) (by omega) y hy) h' rfl
    · have ht' : t = 0 ∨ t = 1 ∨ t = 2 := by omega
      rcases ht' with rfl | rfl | rfl
      · exact st1_q (fun o => c_personAt_0 X z k o p hp b3) (fun o => k_personAt_0 X z k o p (by omega) (by omega)) h' (hP.1 p hp).symm
      · exact st1_q (fun o => c_personAt_1 X z k o p hp b3) (fun o => k_personAt_1 X z k o p (by omega) (by omega) (by omega)) h' (leads_slb hL b6 e1 c5 (by omega)).symm
      · exact st1_q (fun o => c_personAt_2 X z k o p hp b3) (fun o => k_personAt_2 X z k o p (by omega) (by omega)) h' (hP.2.1 p hp (fun e => nomatch e)).symm
theorem st_unitAt (X : ct_X) (z : S_c) (k : S_m) (h : Rl z k) (x : Int32) : St1 X m_C_unitAt m_M_unitAt [.int x] [2] z k := by
  have h' := h
  obtain ⟨⟨⟨⟨c1, c2, c3, c4, c5, c6⟩, b1, b2, b3, b4, b5, b6, b7⟩, hL, ⟨e1, e2, e3⟩, hP, hU, hT, hK, hR⟩, hO⟩ := h
  rcases int_cases (n := c_nu z) (by omega) x with hx | ⟨u, hu, rfl⟩
  · exact st1_err 0 (fun o => c_unitAt_x X z k o x hx) (fun o => k_unitAt_x X z k o x (by rw [← c4]; exact hx) (by omega)) h' rfl
  · exact st1_q (fun o => c_unitAt_0 X z k o u hu b4) (fun o => k_unitAt_0 X z k o u (by omega) (by omega)) h' (hU.1 u hu).symm
theorem st_taskAt (X : ct_X) (z : S_c) (k : S_m) (h : Rl z k) (x y : Int32) : St1 X m_C_taskAt m_M_taskAt [.int x, .int y] [2] z k := by
  have h' := h
  obtain ⟨⟨⟨⟨c1, c2, c3, c4, c5, c6⟩, b1, b2, b3, b4, b5, b6, b7⟩, hL, ⟨e1, e2, e3⟩, hP, hU, hT, ⟨k1, k2, k3, k4⟩, hR⟩, hO⟩ := h
  rcases int_cases (n := t_n z) (by omega) x with hx | ⟨j, hj, rfl⟩
  · exact st1_err 0 (fun o => c_taskAt_x X z k o x y hx) (fun o => k_taskAt_x X z k o x (by rw [← c6]; exact hx) (by omega) y) h' rfl
  · rcases int_upto (n := 2) (by omega) y with hy | ⟨t, ht, rfl⟩
    · exact st1_err 0 (fun o => c_taskAt_y X z k o j hj b7 y hy) (fun o => k_taskAt_y X z k o j (by omega) (by omega) y hy) h' rfl
    · have ht' : t = 0 ∨ t = 1 ∨ t = 2 := by omega
      rcases ht' with rfl | rfl | rfl
      · exact st1_q (fun o => c_taskAt_0 X z k o j hj b7) (fun o => k_taskAt_0 X z k o j (by omega) (by omega)) h' (by rw [k1])
      · exact st1_q (fun o => c_taskAt_1 X z k o j hj b7) (fun o => k_taskAt_1 X z k o j (by omega) (by omega)) h' (k3 j hj).2.1.symm
      · exact st1_q (fun o => c_taskAt_2 X z k o j hj b7) (fun o => k_taskAt_2 X z k o j (by omega) (by omega)) h' (k3 j hj).1.symm
theorem st_passed (X : ct_X) (z : S_c) (k : S_m) (h : Rl z k) (x : Int32) : St1 X m_C_passed m_M_passed [.int x] [0] z k := by
  have h' := h
  obtain ⟨⟨⟨⟨c1, c2, c3, c4, c5, c6⟩, b1, b2, b3, b4, b5, b6, b7⟩, hL, ⟨e1, e2, e3⟩, hP, hU, hT, hK, hR⟩, hO⟩ := h
  by_cases hx : x < 0
  · exact st1_err 0 (fun o => c_passed_0 X z k o x hx) (fun o => k_passed_0 X z k o x hx) h' rfl
  · obtain ⟨m, hm, rfl⟩ := nI_of hx
    refine st1_q (fun o => c_passed_1 X z k o m hm b6 b4 b2) (fun o => k_passed_1 X z k o m hm (by omega) (by omega) (by omega)) h' ?_
    rw [← c5]
    exact psd_congr _ _ _ (fun j _ hj => pass_eq h' (by omega))
