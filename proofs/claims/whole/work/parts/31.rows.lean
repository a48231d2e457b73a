/-! THE ROWS OF LEADERS: the ring of the first, the 400 of the second -/
def RW (old n drop : Nat) (rsec rnum rled bef : Nat → Int32) (R : Nat) (rt rs rl kbef : Nat → Int32) (lost : Int32) (now : Nat) : Prop :=
  (n = if R ≤ 400 then R else 400) ∧ (old = if R ≤ 400 then 0 else R % 400) ∧ (rt = rsec ∧ rs = rnum ∧ rl = rled ∧ kbef = bef) ∧
  (∀ i, i < 400 → ∃ j, j < 20 ∧ rnum i = nI j) ∧ (∀ i, i < 400 → ∃ t, t ≤ 99999 ∧ rsec i = nI t) ∧
  (R ≤ 400 → drop = 0 ∧ lost = -1) ∧ (400 < R → lost = nI drop ∧ drop ≤ 99999) ∧
  (∀ i, i < R → R ≤ i + 400 → rsec (i % 400) ≤ nI now) ∧ (∀ i j, i ≤ j → j < R → R ≤ i + 400 → rsec (i % 400) ≤ rsec (j % 400))
def RWs (z : S_c) (k : S_m) : Prop := RW (r_old z) (r_n z) (r_drop z) (r_sec z) (r_num z) (r_led z) (r_bef z) (k_rows k) (k_rt k) (k_rs k) (k_rl k) (k_bef k) (k_lost k) (k_now k)
theorem RWs.rg {z : S_c} {k : S_m} (h : RWs z k) : Ring z := by
  obtain ⟨h1, h2, -, h4, h5, -⟩ := h
  refine ⟨?_, ?_, fun i hi => ⟨h4 i hi, h5 i hi⟩⟩
  · rw [h2]
    split <;> omega
  · rw [h1]
    split <;> omega
theorem RWs.rowK {z : S_c} {k : S_m} (h : RWs z k) : RowK k := by
  obtain ⟨-, -, ⟨-, e, -⟩, h4, -⟩ := h
  intro i hi
  rw [e]
  exact h4 i hi
theorem RWs.row {z : S_c} {k : S_m} (h : RWs z k) (hc : c_sec z = k_now k) (hnow : k_now k ≤ 99999) {s : Nat} (hs : s < 20) (p : Int32) : RWs (f_note z (c_sec z) (nI s) p) (f_row k (nI s) p) := by
  obtain ⟨h1, h2, ⟨e1, e2, e3, e4⟩, h4, h5, h6, h7, h8, h9⟩ := h
  have hix : ∀ i, i < k_rows k → k_rows k + 1 ≤ i + 400 → ¬ i % 400 = k_rows k % 400 := fun i q1 q2 => by omega
  have hn4 : ∀ i, i < 400 → ∃ j, j < 20 ∧ upd (r_num z) (k_rows k % 400) (nI s) i = nI j := fun i hi => by
    rw [upd_at]
    split
    · exact ⟨s, hs, rfl⟩
    · exact h4 i hi
  have hn5 : ∀ i, i < 400 → ∃ t, t ≤ 99999 ∧ upd (r_sec z) (k_rows k % 400) (nI (c_sec z)) i = nI t := fun i hi => by
    rw [upd_at]
    split
    · exact ⟨c_sec z, by omega, rfl⟩
    · exact h5 i hi
  have hn8 : ∀ i, i < k_rows k + 1 → k_rows k + 1 ≤ i + 400 → upd (r_sec z) (k_rows k % 400) (nI (c_sec z)) (i % 400) ≤ nI (k_now k) := fun i q1 q2 => by
    rw [upd_at]
    split
    · rw [hc]
      exact Int32.le_refl _
    · rename_i q3
      refine h8 i ?_ (by omega)
      by_cases e : i = k_rows k
      · exact absurd (by rw [e]) q3
      · omega
  have hn9 : ∀ i j, i ≤ j → j < k_rows k + 1 → k_rows k + 1 ≤ i + 400 → upd (r_sec z) (k_rows k % 400) (nI (c_sec z)) (i % 400) ≤ upd (r_sec z) (k_rows k % 400) (nI (c_sec z)) (j % 400) := fun i j q0 q1 q2 => by
    by_cases e : j = k_rows k
    · rw [e, upd_at _ _ _ (k_rows k % 400), if_pos rfl, hc]
      have := hn8 i (by omega) q2
      rw [hc] at this
      exact this
    · rw [upd_at, upd_at, if_neg (hix i (by omega) q2), if_neg (hix j (by omega) (by omega))]
      exact h9 i j q0 (by omega) (by omega)
  by_cases hr : k_rows k < 400
  · have e5 : r_n z = k_rows k := by rw [h1, if_pos (by omega)]
    have e6 : r_old z = 0 := by rw [h2, if_pos (by omega)]
    have e7 : ring (r_old z) (r_n z) = k_rows k % 400 := by
      rw [e5, e6, ring, if_pos (by omega)]
      omega
    have ez : f_note z (c_sec z) (nI s) p = f_note1 z (c_sec z) (nI s) p := by rw [f_note, if_pos (by omega)]
    have ek : f_row k (nI s) p = f_row1 k (nI s) p (k_rows k % 400) := by rw [f_row, if_pos hr]
    rw [ez, ek]
    show RW (r_old z) (r_n z + 1) (r_drop z) (upd (r_sec z) (ring (r_old z) (r_n z)) (nI (c_sec z))) (upd (r_num z) (ring (r_old z) (r_n z)) (nI s)) (upd (r_led z) (ring (r_old z) (r_n z)) p) (r_bef z) (k_rows k + 1) (upd (k_rt k) (k_rows k % 400) (nI (k_now k))) (upd (k_rs k) (k_rows k % 400) (nI s)) (upd (k_rl k) (k_rows k % 400) p) (k_bef k) (k_lost k) (k_now k)
    rw [e7]
    refine ⟨by rw [e5, if_pos (by omega)], by rw [e6, if_pos (by omega)], ⟨by rw [e1, hc], by rw [e2], by rw [e3], e4⟩, hn4, hn5, fun _ => h6 (by omega), fun q => by omega, hn8, hn9⟩
  · have e5 : r_n z = 400 := by rw [h1]; split <;> omega
    have e6 : r_old z = k_rows k % 400 := by rw [h2]; split <;> omega
    obtain ⟨j, hj, ej⟩ := h4 (k_rows k % 400) (Nat.mod_lt _ (by decide))
    obtain ⟨t, ht, et⟩ := h5 (k_rows k % 400) (Nat.mod_lt _ (by decide))
    have ez : f_note z (c_sec z) (nI s) p = f_note1 (f_drop z j t) (c_sec z) (nI s) p := by rw [f_note, if_neg (by omega), e6, ej, et, nI_clamp (by omega), nI_clamp (by omega)]
    have ek : f_row k (nI s) p = f_row1 (f_row0 k (k_rows k % 400) j) (nI s) p (k_rows k % 400) := by rw [f_row, if_neg hr, e2, ej, nI_clamp (by omega)]
    rw [ez, ek]
    have e7 : ring (ring (r_old z) 1) (r_n z - 1) = k_rows k % 400 := by
      rw [e5, e6, ring, ring]
      split <;> split <;> omega
    show RW (ring (r_old z) 1) (r_n z - 1 + 1) t (upd (r_sec z) (ring (ring (r_old z) 1) (r_n z - 1)) (nI (c_sec z))) (upd (r_num z) (ring (ring (r_old z) 1) (r_n z - 1)) (nI s)) (upd (r_led z) (ring (ring (r_old z) 1) (r_n z - 1)) p) (upd (r_bef z) j (r_led z (r_old z))) (k_rows k + 1) (upd (k_rt k) (k_rows k % 400) (nI (k_now k))) (upd (k_rs k) (k_rows k % 400) (nI s)) (upd (k_rl k) (k_rows k % 400) p) (upd (k_bef k) j (k_rl k (k_rows k % 400))) (k_rt k (k_rows k % 400)) (k_now k)
    rw [e7]
    refine ⟨by rw [e5, if_neg (by omega)], ?_, ⟨by rw [e1, hc], by rw [e2], by rw [e3], by rw [e4, e3, e6]⟩, hn4, hn5, fun q => by omega, fun _ => ⟨by rw [e1, et], ht⟩, hn8, hn9⟩
    rw [e6, if_neg (by omega), ring]
    split <;> omega
/-- the clock goes on -/
theorem RW.later {old n drop R now now' : Nat} {rsec rnum rled bef rt rs rl kbef : Nat → Int32} {lost : Int32} (h : RW old n drop rsec rnum rled bef R rt rs rl kbef lost now) (h1 : now ≤ now') (h2 : now' ≤ 99999) : RW old n drop rsec rnum rled bef R rt rs rl kbef lost now' := by
  obtain ⟨a1, a2, a3, a4, a5, a6, a7, a8, a9⟩ := h
  exact ⟨a1, a2, a3, a4, a5, a6, a7, fun i q1 q2 => Int32.le_trans (a8 i q1 q2) ((nI_leI (by omega) (by omega)).mpr h1), a9⟩
/-- rows past t change nothing -/
theorem kled_past (k : S_m) (s t : Int32) : ∀ (n i : Nat) (a : Int32), (∀ j, i ≤ j → j < i + n → t < k_rt k (j % 400)) → f_kled k s t n i a = a
  | 0, _, _, _ => rfl
  | n + 1, i, a, h => by
    unfold f_kled
    rw [if_neg (fun q => absurd q.2 (Int32.not_le.mpr (h i (by omega) (by omega))))]
    exact kled_past k s t n (i + 1) a (fun j h1 h2 => h j (by omega) (by omega))
theorem led_eq {z : S_c} {k : S_m} (h : RWs z k) (s t : Int32) (B : Nat) (hB : B + r_n z = k_rows k) : ∀ (n i : Nat) (a : Int32), i + n = r_n z → f_lead z s t n i a = f_kled k s t n (B + i) a := by
  obtain ⟨h1, h2, ⟨e1, e2, e3, e4⟩, h4, h5, h6, h7, h8, h9⟩ := h
  intro n
  induction n with
  | zero => intro i a hi; rfl
  | succ n ih =>
    intro i a hi
    have hr : ring (r_old z) i = (B + i) % 400 := by
      rw [ring, h2]
      split at h1 <;> split <;> split <;> omega
    unfold f_lead f_kled
    rw [hr, e1, e2, e3]
    by_cases ht : r_sec z ((B + i) % 400) ≤ t
    · rw [if_pos ht, ih (i + 1) _ (by omega)]
      by_cases hs : r_num z ((B + i) % 400) = s
      · rw [if_pos hs, if_pos ⟨hs, ht⟩]
        rfl
      · rw [if_neg hs, if_neg (fun q => hs q.1)]
        rfl
    · rw [if_neg ht, if_neg (fun q => ht q.2)]
      symm
      refine kled_past k s t n (B + i + 1) a (fun j q1 q2 => ?_)
      rw [e1]
      refine Int32.lt_of_lt_of_le (Int32.not_le.mp ht) ?_
      refine h9 (B + i) j (by omega) (by omega) ?_
      split at h1 <;> omega
