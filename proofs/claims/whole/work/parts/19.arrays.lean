/-! LOOPS over any int array: fill, count, replace -/
theorem ct_setSame {w : ct_W} {r : Nat} {c : ct_E} (h : w[r]? = some c) : w.set r c = w := by
  apply List.ext_getElem?
  intro i
  rw [List.getElem?_set]
  by_cases e : r = i
  · subst e
    have hl := (List.getElem?_eq_some_iff.mp h).1
    rw [if_pos rfl, if_pos hl, h]
  · rw [if_neg e]
theorem ct_setAt {w : ct_W} {r : Nat} {c c' : ct_E} (h : w[r]? = some c) : (w.set r c')[r]? = some c' := by
  have hl := (List.getElem?_eq_some_iff.mp h).1
  rw [List.getElem?_set, if_pos rfl, if_pos hl]
theorem lp_fill (X : ct_X) (r n : Nat) (v : Int32) (hn : n < 2 ^ 31) : ∀ (m i : Nat) (g : Nat → Int32) (w : ct_W), i + m = n → w[r]? = some (.inl (0, n, .inl g)) →
    AW X m_A_fill 0 0 0 0 0 5 [some (.ref r), some (.int v), some (.int (nI i)), some (.int (nI n))] [] w (fun r' w' => r' = .inl none ∧ w' = w.set r (.inl (0, n, .inl (fun j => if i ≤ j ∧ j < n then v else g j)))) := by
  intro m
  induction m with
  | zero =>
    intro i g w hi hw
    refine AW.iload_n (pc' := 6) d_A_fill_5 rfl rfl rfl ?_
    refine AW.iload_n (pc' := 7) d_A_fill_6 rfl rfl rfl ?_
    refine AW.icmp_geN (tgt := 20) (pc' := 10) d_A_fill_7 (by decide) rfl (by omega) (by omega) (fun h => ?_) (fun h => absurd h (by omega))
    refine AW.vret d_A_fill_20 rfl rfl rfl ⟨rfl, ?_⟩
    have e : (fun j => if i ≤ j ∧ j < n then v else g j) = g := by
      funext j
      rw [if_neg (by omega)]
    rw [e, ct_setSame hw]
  | succ m ih =>
    intro i g w hi hw
    refine AW.iload_n (pc' := 6) d_A_fill_5 rfl rfl rfl ?_
    refine AW.iload_n (pc' := 7) d_A_fill_6 rfl rfl rfl ?_
    refine AW.icmp_geN (tgt := 20) (pc' := 10) d_A_fill_7 (by decide) rfl (by omega) (by omega) (fun h => absurd h (by omega)) (fun h => ?_)
    refine AW.aload_n (pc' := 11) d_A_fill_10 rfl rfl rfl ?_
    refine AW.iload_n (pc' := 12) d_A_fill_11 rfl rfl rfl ?_
    refine AW.iload_n (pc' := 13) d_A_fill_12 rfl rfl rfl ?_
    refine AW.iastN (pc' := 14) d_A_fill_13 rfl hw (by omega) hn rfl ?_
    refine AW.iincN (pc' := 17) (ls' := [some (.ref r), some (.int v), some (.int (nI (i + 1))), some (.int (nI n))]) d_A_fill_14 rfl rfl rfl rfl ?_
    refine AW.goto (tgt := 5) d_A_fill_17 (by decide) ?_
    have h9 := ih (i + 1) (upd g i v) _ (by omega) (ct_setAt hw)
    have e : (fun j => if i + 1 ≤ j ∧ j < n then v else upd g i v j) = fun j => if i ≤ j ∧ j < n then v else g j := by
      funext j
      by_cases hj : j = i
      · subst hj
        rw [if_neg (by omega), if_pos (by omega), pk_us]
      · rw [pk_un hj]
        by_cases h1 : i ≤ j ∧ j < n
        · rw [if_pos h1, if_pos (by omega)]
        · rw [if_neg h1, if_neg (by omega)]
    rw [e, List.set_set] at h9
    exact h9
/-- the first n of f are v -/
def fl (f : Nat → Int32) (v : Int32) (n : Nat) : Nat → Int32 := fun j => if j < n then v else f j
theorem c_fill (X : ct_X) (w : ct_W) (r n : Nat) (f : Nat → Int32) (v : Int32) (hn : n < 2 ^ 31) (hw : w[r]? = some (.inl (0, n, .inl f))) : AF X m_A_fill 0 0 0 [.ref r, .int v] w (.inl none) (w.set r (.inl (0, n, .inl (fl f v n)))) := by
  refine AM.of rfl (Nat.le_of_ble_eq_true rfl) (ls := [some (.ref r), some (.int v), none, none]) rfl ?_
  refine AW.iconst (pc' := 1) (v := nI 0) d_A_fill_0 rfl (by decide) ?_
  refine AW.istore_n (pc' := 2) (ls' := [some (.ref r), some (.int v), some (.int (nI 0)), none]) d_A_fill_1 rfl rfl rfl rfl ?_
  refine AW.aload_n (pc' := 3) d_A_fill_2 rfl rfl rfl ?_
  refine AW.alen (pc' := 4) (ty := .int) d_A_fill_3 rfl hw (fun _ => rfl) ?_
  refine AW.istore_n (pc' := 5) (ls' := [some (.ref r), some (.int v), some (.int (nI 0)), some (.int (nI n))]) d_A_fill_4 rfl rfl rfl rfl ?_
  have h9 := lp_fill X r n v hn n 0 f w (by omega) hw
  have e : (fun j => if 0 ≤ j ∧ j < n then v else f j) = fl f v n := by
    funext j
    unfold fl
    by_cases h1 : j < n
    · rw [if_pos h1, if_pos ⟨Nat.zero_le _, h1⟩]
    · rw [if_neg h1, if_neg (fun q => h1 q.2)]
  rw [e] at h9
  exact h9
/-- how many of the first n of f are v -/
def cnt (f : Nat → Int32) (v : Int32) : Nat → Nat
  | 0 => 0
  | n + 1 => cnt f v n + (if f n = v then 1 else 0)
theorem cnt_le (f : Nat → Int32) (v : Int32) : ∀ n, cnt f v n ≤ n
  | 0 => Nat.le_refl _
  | n + 1 => by
    have h := cnt_le f v n
    unfold cnt
    split <;> omega
theorem cnt_s {f : Nat → Int32} {v : Int32} {n : Nat} (h : f n = v) : cnt f v (n + 1) = cnt f v n + 1 := by rw [cnt, if_pos h]
theorem cnt_n {f : Nat → Int32} {v : Int32} {n : Nat} (h : ¬ f n = v) : cnt f v (n + 1) = cnt f v n := by rw [cnt, if_neg h]; rfl
theorem lp_count (X : ct_X) (w : ct_W) (r n c : Nat) (f : Nat → Int32) (v : Int32) (hn : n < 2 ^ 31) (hc : c ≤ n) (hw : w[r]? = some (.inl (0, n, .inl f))) : ∀ (m i : Nat), i + m = c →
    AW X m_C_count 0 0 0 0 0 5 [some (.ref r), some (.int (nI c)), some (.int v), some (.int (nI (cnt f v i))), some (.int (nI i))] [] w (fun r' w' => r' = .inl (some (.int (nI (cnt f v c)))) ∧ w' = w) := by
  intro m
  induction m with
  | zero =>
    intro i hi
    have e : i = c := by omega
    subst e
    refine AW.iload (pc' := 7) d_C_count_5 rfl rfl ?_
    refine AW.iload_n (pc' := 8) d_C_count_7 rfl rfl rfl ?_
    refine AW.icmp_geN (tgt := 35) (pc' := 11) d_C_count_8 (by decide) rfl (by omega) (by omega) (fun h => ?_) (fun h => absurd h (by omega))
    refine AW.iload_n (pc' := 36) d_C_count_35 rfl rfl rfl ?_
    exact AW.iret d_C_count_36 rfl rfl rfl ⟨rfl, rfl⟩
  | succ m ih =>
    intro i hi
    have ih := ih (i + 1) (by omega)
    refine AW.iload (pc' := 7) d_C_count_5 rfl rfl ?_
    refine AW.iload_n (pc' := 8) d_C_count_7 rfl rfl rfl ?_
    refine AW.icmp_geN (tgt := 35) (pc' := 11) d_C_count_8 (by decide) rfl (by omega) (by omega) (fun h => absurd h (by omega)) (fun h => ?_)
    refine AW.iload (pc' := 13) d_C_count_11 rfl rfl ?_
    refine AW.aload_n (pc' := 14) d_C_count_13 rfl rfl rfl ?_
    refine AW.alen (pc' := 15) (ty := .int) d_C_count_14 rfl hw (fun _ => rfl) ?_
    refine AW.top (u := .int (nI n)) rfl ?_
    refine AW.icmp_geN (tgt := 35) (pc' := 18) d_C_count_15 (by decide) rfl (by omega) (by omega) (fun h => absurd h (by omega)) (fun h => ?_)
    refine AW.aload_n (pc' := 19) d_C_count_18 rfl rfl rfl ?_
    refine AW.iload (pc' := 21) d_C_count_19 rfl rfl ?_
    refine AW.ialdN (pc' := 22) d_C_count_21 rfl hw (by omega) hn ?_
    refine AW.iload_n (pc' := 23) d_C_count_22 rfl rfl rfl ?_
    refine AW.icmp_ne (tgt := 29) (pc' := 26) d_C_count_23 (by decide) rfl (fun h9 => ?_) (fun h9 => ?_)
    · refine AW.iincN (pc' := 32) (ls' := [some (.ref r), some (.int (nI c)), some (.int v), some (.int (nI (cnt f v i))), some (.int (nI (i + 1)))]) d_C_count_29 rfl rfl rfl rfl ?_
      refine AW.goto (tgt := 5) d_C_count_32 (by decide) ?_
      rw [cnt_n h9] at ih
      exact ih
    · refine AW.iincN (pc' := 29) (ls' := [some (.ref r), some (.int (nI c)), some (.int v), some (.int (nI (cnt f v i + 1))), some (.int (nI i))]) d_C_count_26 rfl rfl rfl rfl ?_
      refine AW.iincN (pc' := 32) (ls' := [some (.ref r), some (.int (nI c)), some (.int v), some (.int (nI (cnt f v i + 1))), some (.int (nI (i + 1)))]) d_C_count_29 rfl rfl rfl rfl ?_
      refine AW.goto (tgt := 5) d_C_count_32 (by decide) ?_
      rw [cnt_s h9] at ih
      exact ih
theorem c_count (X : ct_X) (w : ct_W) (r n c : Nat) (f : Nat → Int32) (v : Int32) (hn : n < 2 ^ 31) (hc : c ≤ n) (hw : w[r]? = some (.inl (0, n, .inl f))) : AF X m_C_count 0 0 0 [.ref r, .int (nI c), .int v] w (.inl (some (.int (nI (cnt f v c))))) w := by
  refine AM.of rfl (Nat.le_of_ble_eq_true rfl) (ls := [some (.ref r), some (.int (nI c)), some (.int v), none, none]) rfl ?_
  refine AW.iconst (pc' := 1) (v := nI 0) d_C_count_0 rfl (by decide) ?_
  refine AW.istore_n (pc' := 2) (ls' := [some (.ref r), some (.int (nI c)), some (.int v), some (.int (nI 0)), none]) d_C_count_1 rfl rfl rfl rfl ?_
  refine AW.iconst (pc' := 3) (v := nI 0) d_C_count_2 rfl (by decide) ?_
  refine AW.istore (pc' := 5) (ls' := [some (.ref r), some (.int (nI c)), some (.int v), some (.int (nI 0)), some (.int (nI 0))]) d_C_count_3 rfl rfl rfl ?_
  exact lp_count X w r n c f v hn hc hw c 0 (by omega)
/-- a becomes b in the first n of f -/
def rep (f : Nat → Int32) (a b : Int32) (n : Nat) : Nat → Int32 := fun j => if j < n ∧ f j = a then b else f j
theorem lp_replace (X : ct_X) (r n c : Nat) (a b : Int32) (hn : n < 2 ^ 31) (hc : c ≤ n) : ∀ (m i : Nat) (g : Nat → Int32) (w : ct_W), i + m = c → w[r]? = some (.inl (0, n, .inl g)) →
    AW X m_C_replace 0 0 0 0 0 3 [some (.ref r), some (.int (nI c)), some (.int a), some (.int b), some (.int (nI i))] [] w (fun r' w' => r' = .inl none ∧ w' = w.set r (.inl (0, n, .inl (fun j => if (i ≤ j ∧ j < c) ∧ g j = a then b else g j)))) := by
  intro m
  induction m with
  | zero =>
    intro i g w hi hw
    refine AW.iload (pc' := 5) d_C_replace_3 rfl rfl ?_
    refine AW.iload_n (pc' := 6) d_C_replace_5 rfl rfl rfl ?_
    refine AW.icmp_geN (tgt := 35) (pc' := 9) d_C_replace_6 (by decide) rfl (by omega) (by omega) (fun h => ?_) (fun h => absurd h (by omega))
    refine AW.vret d_C_replace_35 rfl rfl rfl ⟨rfl, ?_⟩
    have e : (fun j => if (i ≤ j ∧ j < c) ∧ g j = a then b else g j) = g := by
      funext j
      rw [if_neg (by omega)]
    rw [e, ct_setSame hw]
  | succ m ih =>
    intro i g w hi hw
    refine AW.iload (pc' := 5) d_C_replace_3 rfl rfl ?_
    refine AW.iload_n (pc' := 6) d_C_replace_5 rfl rfl rfl ?_
    refine AW.icmp_geN (tgt := 35) (pc' := 9) d_C_replace_6 (by decide) rfl (by omega) (by omega) (fun h => absurd h (by omega)) (fun h => ?_)
    refine AW.iload (pc' := 11) d_C_replace_9 rfl rfl ?_
    refine AW.aload_n (pc' := 12) d_C_replace_11 rfl rfl rfl ?_
    refine AW.alen (pc' := 13) (ty := .int) d_C_replace_12 rfl hw (fun _ => rfl) ?_
    refine AW.top (u := .int (nI n)) rfl ?_
    refine AW.icmp_geN (tgt := 35) (pc' := 16) d_C_replace_13 (by decide) rfl (by omega) (by omega) (fun h => absurd h (by omega)) (fun h => ?_)
    refine AW.aload_n (pc' := 17) d_C_replace_16 rfl rfl rfl ?_
    refine AW.iload (pc' := 19) d_C_replace_17 rfl rfl ?_
    refine AW.ialdN (pc' := 20) d_C_replace_19 rfl hw (by omega) hn ?_
    refine AW.iload_n (pc' := 21) d_C_replace_20 rfl rfl rfl ?_
    refine AW.icmp_ne (tgt := 29) (pc' := 24) d_C_replace_21 (by decide) rfl (fun h9 => ?_) (fun h9 => ?_)
    · refine AW.iincN (pc' := 32) (ls' := [some (.ref r), some (.int (nI c)), some (.int a), some (.int b), some (.int (nI (i + 1)))]) d_C_replace_29 rfl rfl rfl rfl ?_
      refine AW.goto (tgt := 3) d_C_replace_32 (by decide) ?_
      have h8 := ih (i + 1) g w (by omega) hw
      have e : (fun j => if (i + 1 ≤ j ∧ j < c) ∧ g j = a then b else g j) = fun j => if (i ≤ j ∧ j < c) ∧ g j = a then b else g j := by
        funext j
        by_cases hj : j = i
        · subst hj
          rw [if_neg (by omega), if_neg (fun q => h9 q.2)]
        · by_cases h1 : (i ≤ j ∧ j < c) ∧ g j = a
          · rw [if_pos h1, if_pos ⟨by omega, h1.2⟩]
          · rw [if_neg h1, if_neg (fun q => h1 ⟨by omega, q.2⟩)]
      rw [e] at h8
      exact h8
    · refine AW.aload_n (pc' := 25) d_C_replace_24 rfl rfl rfl ?_
      refine AW.iload (pc' := 27) d_C_replace_25 rfl rfl ?_
      refine AW.iload_n (pc' := 28) d_C_replace_27 rfl rfl rfl ?_
      refine AW.iastN (pc' := 29) d_C_replace_28 rfl hw (by omega) hn rfl ?_
      refine AW.iincN (pc' := 32) (ls' := [some (.ref r), some (.int (nI c)), some (.int a), some (.int b), some (.int (nI (i + 1)))]) d_C_replace_29 rfl rfl rfl rfl ?_
      refine AW.goto (tgt := 3) d_C_replace_32 (by decide) ?_
      have h8 := ih (i + 1) (upd g i b) _ (by omega) (ct_setAt hw)
      have e : (fun j => if (i + 1 ≤ j ∧ j < c) ∧ upd g i b j = a then b else upd g i b j) = fun j => if (i ≤ j ∧ j < c) ∧ g j = a then b else g j := by
        funext j
        by_cases hj : j = i
        · subst hj
          rw [if_neg (by omega), pk_us, if_pos ⟨by omega, h9⟩]
        · rw [pk_un hj]
          by_cases h1 : (i ≤ j ∧ j < c) ∧ g j = a
          · rw [if_pos h1, if_pos ⟨by omega, h1.2⟩]
          · rw [if_neg h1, if_neg (fun q => h1 ⟨by omega, q.2⟩)]
      rw [e, List.set_set] at h8
      exact h8
theorem c_replace (X : ct_X) (w w' : ct_W) (r n c : Nat) (f : Nat → Int32) (a b : Int32) (hn : n < 2 ^ 31) (hc : c ≤ n) (hw : w[r]? = some (.inl (0, n, .inl f))) (hw' : w.set r (.inl (0, n, .inl (rep f a b c))) = w') : AF X m_C_replace 0 0 0 [.ref r, .int (nI c), .int a, .int b] w (.inl none) w' := by
  subst hw'
  refine AM.of rfl (Nat.le_of_ble_eq_true rfl) (ls := [some (.ref r), some (.int (nI c)), some (.int a), some (.int b), none]) rfl ?_
  refine AW.iconst (pc' := 1) (v := nI 0) d_C_replace_0 rfl (by decide) ?_
  refine AW.istore (pc' := 3) (ls' := [some (.ref r), some (.int (nI c)), some (.int a), some (.int b), some (.int (nI 0))]) d_C_replace_1 rfl rfl rfl ?_
  have h9 := lp_replace X r n c a b hn hc c 0 f w (by omega) hw
  have e : (fun j => if (0 ≤ j ∧ j < c) ∧ f j = a then b else f j) = rep f a b c := by
    funext j
    unfold rep
    by_cases h1 : j < c ∧ f j = a
    · rw [if_pos h1, if_pos ⟨⟨Nat.zero_le _, h1.1⟩, h1.2⟩]
    · rw [if_neg h1, if_neg (fun q => h1 ⟨q.1.2, q.2⟩)]
  rw [e] at h9
  exact h9
