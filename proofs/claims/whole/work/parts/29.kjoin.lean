/-! THE REFERENCE'S JOIN (rows printed by wip/whole/m10.py) -/
/-- the parts of the reference's state that its rows don't touch -/
def kcore (k : S_m) : (Nat × Nat × Nat × Nat × Nat × Nat) × (Nat → Int32) × (Nat → Int32) × (Nat → Int32) × (Nat → Int32) × (Nat → Int32) × (Nat → Int32) × (Nat → Int32) × (Nat → Int32) × (Nat → Int32) × (Nat → Int32) × (Nat → Int32) × (Nat → Int32) :=
  ((k_now k, k_np k, k_nu k, k_ns k, k_span k, k_nt k), k_rank k, k_in k, k_arr k, k_uin k, k_jnd k, k_abv k, k_ldr k, k_off k, k_tof k, k_unt k, k_sta k, k_ans k)
theorem kcore_row (k : S_m) (s p : Int32) : kcore (f_row k s p) = kcore k := by
  unfold f_row
  split <;> rfl
def koff1 (k : S_m) (s : Nat) : Option Nat → Nat → Int32
  | none => upd (k_off k) s (-1)
  | some r => rep (upd (k_off k) s (-1)) (nI r) (-1) (k_ns k)
theorem kcore_kl0 (k : S_m) (s : Nat) (p : Option Nat) : kcore (f_kl0 k s p) = ((k_now k, k_np k, k_nu k, k_ns k, k_span k, k_nt k), k_rank k, k_in k, k_arr k, k_uin k, k_jnd k, k_abv k, upd (k_ldr k) s (oI p), upd (k_off k) s (-1), k_tof k, k_unt k, k_sta k, k_ans k) := by
  unfold f_kl0
  rw [kcore_row]
  rfl
theorem kcore_kl1 (k : S_m) (s : Nat) (p : Option Nat) : kcore (f_kl1 k s p) = ((k_now k, k_np k, k_nu k, k_ns k, k_span k, k_nt k), k_rank k, k_in k, k_arr k, k_uin k, k_jnd k, k_abv k, upd (k_ldr k) s (oI p), koff1 k s p, k_tof k, k_unt k, k_sta k, k_ans k) := by
  have h := kcore_kl0 k s p
  cases p with
  | none => exact h
  | some r =>
    have h1 : k_off (f_kl0 k s (some r)) = upd (k_off k) s (-1) := congrArg (fun q => q.2.2.2.2.2.2.2.2.1) h
    have h2 : k_ns (f_kl0 k s (some r)) = k_ns k := congrArg (fun q => q.1.2.2.2.1) h
    have e : kcore (f_kl1 k s (some r)) = ((kcore (f_kl0 k s (some r))).1, (kcore (f_kl0 k s (some r))).2.1, (kcore (f_kl0 k s (some r))).2.2.1, (kcore (f_kl0 k s (some r))).2.2.2.1, (kcore (f_kl0 k s (some r))).2.2.2.2.1, (kcore (f_kl0 k s (some r))).2.2.2.2.2.1, (kcore (f_kl0 k s (some r))).2.2.2.2.2.2.1, (kcore (f_kl0 k s (some r))).2.2.2.2.2.2.2.1, rep (k_off (f_kl0 k s (some r))) (nI r) (-1) (k_ns (f_kl0 k s (some r))), (kcore (f_kl0 k s (some r))).2.2.2.2.2.2.2.2.2) := rfl
    rw [e, h1, h2, h]
    rfl
theorem kl_now (k : S_m) (s : Nat) (p : Option Nat) : k_now (f_kl k s p) = k_now k := by
  unfold f_kl
  split
  · rfl
  · exact congrArg (fun q => q.1.1) (kcore_kl1 k s p)
theorem kl_np (k : S_m) (s : Nat) (p : Option Nat) : k_np (f_kl k s p) = k_np k := by
  unfold f_kl
  split
  · rfl
  · exact congrArg (fun q => q.1.2.1) (kcore_kl1 k s p)
theorem kl_nu (k : S_m) (s : Nat) (p : Option Nat) : k_nu (f_kl k s p) = k_nu k := by
  unfold f_kl
  split
  · rfl
  · exact congrArg (fun q => q.1.2.2.1) (kcore_kl1 k s p)
theorem kl_span (k : S_m) (s : Nat) (p : Option Nat) : k_span (f_kl k s p) = k_span k := by
  unfold f_kl
  split
  · rfl
  · exact congrArg (fun q => q.1.2.2.2.2.1) (kcore_kl1 k s p)
theorem kl_nt (k : S_m) (s : Nat) (p : Option Nat) : k_nt (f_kl k s p) = k_nt k := by
  unfold f_kl
  split
  · rfl
  · exact congrArg (fun q => q.1.2.2.2.2.2) (kcore_kl1 k s p)
theorem kl_rank (k : S_m) (s : Nat) (p : Option Nat) : k_rank (f_kl k s p) = k_rank k := by
  unfold f_kl
  split
  · rfl
  · exact congrArg (fun q => q.2.1) (kcore_kl1 k s p)
theorem kl_in (k : S_m) (s : Nat) (p : Option Nat) : k_in (f_kl k s p) = k_in k := by
  unfold f_kl
  split
  · rfl
  · exact congrArg (fun q => q.2.2.1) (kcore_kl1 k s p)
theorem kl_arr (k : S_m) (s : Nat) (p : Option Nat) : k_arr (f_kl k s p) = k_arr k := by
  unfold f_kl
  split
  · rfl
  · exact congrArg (fun q => q.2.2.2.1) (kcore_kl1 k s p)
theorem kl_uin (k : S_m) (s : Nat) (p : Option Nat) : k_uin (f_kl k s p) = k_uin k := by
  unfold f_kl
  split
  · rfl
  · exact congrArg (fun q => q.2.2.2.2.1) (kcore_kl1 k s p)
theorem kl_jnd (k : S_m) (s : Nat) (p : Option Nat) : k_jnd (f_kl k s p) = k_jnd k := by
  unfold f_kl
  split
  · rfl
  · exact congrArg (fun q => q.2.2.2.2.2.1) (kcore_kl1 k s p)
theorem kl_abv (k : S_m) (s : Nat) (p : Option Nat) : k_abv (f_kl k s p) = k_abv k := by
  unfold f_kl
  split
  · rfl
  · exact congrArg (fun q => q.2.2.2.2.2.2.1) (kcore_kl1 k s p)
theorem kl_tof (k : S_m) (s : Nat) (p : Option Nat) : k_tof (f_kl k s p) = k_tof k := by
  unfold f_kl
  split
  · rfl
  · exact congrArg (fun q => q.2.2.2.2.2.2.2.2.2.1) (kcore_kl1 k s p)
theorem kl_unt (k : S_m) (s : Nat) (p : Option Nat) : k_unt (f_kl k s p) = k_unt k := by
  unfold f_kl
  split
  · rfl
  · exact congrArg (fun q => q.2.2.2.2.2.2.2.2.2.2.1) (kcore_kl1 k s p)
theorem kl_sta (k : S_m) (s : Nat) (p : Option Nat) : k_sta (f_kl k s p) = k_sta k := by
  unfold f_kl
  split
  · rfl
  · exact congrArg (fun q => q.2.2.2.2.2.2.2.2.2.2.2.1) (kcore_kl1 k s p)
theorem kl_ans (k : S_m) (s : Nat) (p : Option Nat) : k_ans (f_kl k s p) = k_ans k := by
  unfold f_kl
  split
  · rfl
  · exact congrArg (fun q => q.2.2.2.2.2.2.2.2.2.2.2.2) (kcore_kl1 k s p)
def f_kj1 (k : S_m) (a b : Nat) : S_m := k_in_ k (rep (k_in k) (nI a) (nI b) (k_np k))
def f_kj2 (k : S_m) (a b : Nat) : S_m := k_uin_ k (rep (k_uin k) (nI a) (nI b) (k_nu k))
def f_kj3 (k : S_m) (a b : Nat) : S_m := k_abv_ k (fun j => if (0 ≤ j ∧ j < k_ns k) ∧ (k_abv k j = nI a ∧ k_jnd k j = 0) then nI b else k_abv k j)
def f_kj4 (k : S_m) (a b : Nat) : S_m := k_tof_ k (fun j => if (0 ≤ j ∧ j < k_nt k) ∧ (k_tof k j = nI a ∧ (k_sta k j = 0 ∨ k_sta k j = nI 3)) then nI b else k_tof k j)
def f_kjs (k : S_m) (a b : Nat) : S_m := f_kj4 (f_kj3 (f_kj2 (f_kj1 k a b) a b) a b) a b
def f_kj0 (k : S_m) (a : Nat) : S_m := k_off_ (f_kl (k_jnd_ (k_thr_ k (nI 0)) (upd (k_jnd k) a (nI 1))) a none) (upd (k_off (f_kl (k_jnd_ (k_thr_ k (nI 0)) (upd (k_jnd k) a (nI 1))) a none)) a (-1))
def f_kfill (k : S_m) (b : Nat) : S_m := if k_ldr k b < 0 then f_kl k b (f_knext k (nI b) (k_np k)) else k
theorem lp_kj1 (X : ct_X) (z : S_c) (k : S_m) (o : Nat → Int64) (a b : Nat) (hN : k_np k ≤ 40) {Q : Option Value ⊕ Nat → ct_W → Prop} : ∀ (n i : Nat) (g : Nat → Int32), i + n = k_np k → AW X m_M_join 3 0 0 0 0 129 [some (.ref 20), some (.int (nI (a))), some (.int (nI (b))), some (.int (nI (1))), some (.int (nI (k_np k)))] [] (wL z (k_in_ k (fun j => if (i ≤ j ∧ j < k_np k) ∧ g j = nI a then nI b else g j)) o) Q → AW X m_M_join 3 0 0 0 0 95 [some (.ref 20), some (.int (nI (a))), some (.int (nI (b))), some (.int (nI (1))), some (.int (nI (i)))] [] (wL z (k_in_ k g) o) Q := by
  intro n
  induction n with
  | zero =>
    intro i g hi hC
    have e : (fun j => if (i ≤ j ∧ j < k_np k) ∧ g j = nI a then nI b else g j) = g := by
      funext j
      rw [if_neg (by omega)]
    rw [e] at hC
    have e2 : i = k_np k := by omega
    refine AW.iload (pc' := 97) d_M_join_95 rfl rfl ?_
    refine AW.aload_n (pc' := 98) d_M_join_97 rfl rfl rfl ?_
    refine AW.getf (pc' := 101) d_M_join_98 rfl fl_M_72 rfl rfl ?_
    refine AW.top (u := .int (nI (k_np k))) rfl ?_
    refine AW.icmp_geN (tgt := 129) (pc' := 104) d_M_join_101 (by decide) rfl (by omega) (by omega) (fun h101 => ?_) (fun h => absurd h (by omega))
    subst e2
    exact hC
  | succ n ih =>
    intro i g hi hC
    refine AW.iload (pc' := 97) d_M_join_95 rfl rfl ?_
    refine AW.aload_n (pc' := 98) d_M_join_97 rfl rfl rfl ?_
    refine AW.getf (pc' := 101) d_M_join_98 rfl fl_M_72 rfl rfl ?_
    refine AW.top (u := .int (nI (k_np k))) rfl ?_
    refine AW.icmp_geN (tgt := 129) (pc' := 104) d_M_join_101 (by decide) rfl (by omega) (by omega) (fun h => absurd h (by omega)) (fun h101 => ?_)
    refine AW.aload_n (pc' := 105) d_M_join_104 rfl rfl rfl ?_
    refine AW.getf (pc' := 108) d_M_join_105 rfl fl_M_13 rfl rfl ?_
    refine AW.iload (pc' := 110) d_M_join_108 rfl rfl ?_
    refine AW.ialdN (pc' := 111) d_M_join_110 rfl rfl (by omega) (by decide) ?_
    refine AW.top (u := .int (g i)) rfl ?_
    refine AW.iload_n (pc' := 112) d_M_join_111 rfl rfl rfl ?_
    refine AW.icmp_ne (tgt := 123) (pc' := 115) d_M_join_112 (by decide) rfl (fun h112 => ?_) (fun h112 => ?_)
    · refine AW.iincN (pc' := 126) (ls' := [some (.ref 20), some (.int (nI (a))), some (.int (nI (b))), some (.int (nI (1))), some (.int (nI (i + 1)))]) d_M_join_123 rfl rfl rfl rfl ?_
      refine AW.goto (tgt := 95) d_M_join_126 (by decide) ?_
      have e : (fun j => if (i + 1 ≤ j ∧ j < k_np k) ∧ g j = nI a then nI b else g j) = (fun j => if (i ≤ j ∧ j < k_np k) ∧ g j = nI a then nI b else g j) := by
        funext j
        by_cases hj : j = i
        · subst hj
          rw [if_neg (by omega), if_neg (fun q => absurd q.2 h112)]
        · skip
          by_cases h1 : (i ≤ j ∧ j < k_np k) ∧ g j = nI a
          · rw [if_pos h1, if_pos ⟨by omega, h1.2⟩]
          · rw [if_neg h1, if_neg (fun q => h1 ⟨by omega, q.2⟩)]
      have h9 := ih (i + 1) g (by omega) (by rw [e]; exact hC)
      exact AW.wld rfl h9
    · refine AW.aload_n (pc' := 116) d_M_join_115 rfl rfl rfl ?_
      refine AW.getf (pc' := 119) d_M_join_116 rfl fl_M_13 rfl rfl ?_
      refine AW.iload (pc' := 121) d_M_join_119 rfl rfl ?_
      refine AW.iload_n (pc' := 122) d_M_join_121 rfl rfl rfl ?_
      refine AW.iastN (pc' := 123) (w' := (wL z (k_in_ (k_in_ k (g)) (upd g i (nI (b)))) o)) d_M_join_122 rfl rfl (by omega) (by decide) rfl ?_
      refine AW.iincN (pc' := 126) (ls' := [some (.ref 20), some (.int (nI (a))), some (.int (nI (b))), some (.int (nI (1))), some (.int (nI (i + 1)))]) d_M_join_123 rfl rfl rfl rfl ?_
      refine AW.goto (tgt := 95) d_M_join_126 (by decide) ?_
      have e : (fun j => if (i + 1 ≤ j ∧ j < k_np k) ∧ (upd g i (nI b)) j = nI a then nI b else (upd g i (nI b)) j) = (fun j => if (i ≤ j ∧ j < k_np k) ∧ g j = nI a then nI b else g j) := by
        funext j
        by_cases hj : j = i
        · subst hj
          rw [if_neg (by omega), pk_us, if_pos ⟨by omega, h112⟩]
        · rw [pk_un hj]
          by_cases h1 : (i ≤ j ∧ j < k_np k) ∧ g j = nI a
          · rw [if_pos h1, if_pos ⟨by omega, h1.2⟩]
          · rw [if_neg h1, if_neg (fun q => h1 ⟨by omega, q.2⟩)]
      have h9 := ih (i + 1) (upd g i (nI b)) (by omega) (by rw [e]; exact hC)
      exact AW.wld rfl h9
theorem lp_kj2 (X : ct_X) (z : S_c) (k : S_m) (o : Nat → Int64) (a b : Nat) (hN : k_nu k ≤ 20) {Q : Option Value ⊕ Nat → ct_W → Prop} : ∀ (n i : Nat) (g : Nat → Int32), i + n = k_nu k → AW X m_M_join 3 0 0 0 0 166 [some (.ref 20), some (.int (nI (a))), some (.int (nI (b))), some (.int (nI (1))), some (.int (nI (k_nu k)))] [] (wL z (k_uin_ k (fun j => if (i ≤ j ∧ j < k_nu k) ∧ g j = nI a then nI b else g j)) o) Q → AW X m_M_join 3 0 0 0 0 132 [some (.ref 20), some (.int (nI (a))), some (.int (nI (b))), some (.int (nI (1))), some (.int (nI (i)))] [] (wL z (k_uin_ k g) o) Q := by
  intro n
  induction n with
  | zero =>
    intro i g hi hC
    have e : (fun j => if (i ≤ j ∧ j < k_nu k) ∧ g j = nI a then nI b else g j) = g := by
      funext j
      rw [if_neg (by omega)]
    rw [e] at hC
    have e2 : i = k_nu k := by omega
    refine AW.iload (pc' := 134) d_M_join_132 rfl rfl ?_
    refine AW.aload_n (pc' := 135) d_M_join_134 rfl rfl rfl ?_
    refine AW.getf (pc' := 138) d_M_join_135 rfl fl_M_79 rfl rfl ?_
    refine AW.top (u := .int (nI (k_nu k))) rfl ?_
    refine AW.icmp_geN (tgt := 166) (pc' := 141) d_M_join_138 (by decide) rfl (by omega) (by omega) (fun h138 => ?_) (fun h => absurd h (by omega))
    subst e2
    exact hC
  | succ n ih =>
    intro i g hi hC
    refine AW.iload (pc' := 134) d_M_join_132 rfl rfl ?_
    refine AW.aload_n (pc' := 135) d_M_join_134 rfl rfl rfl ?_
    refine AW.getf (pc' := 138) d_M_join_135 rfl fl_M_79 rfl rfl ?_
    refine AW.top (u := .int (nI (k_nu k))) rfl ?_
    refine AW.icmp_geN (tgt := 166) (pc' := 141) d_M_join_138 (by decide) rfl (by omega) (by omega) (fun h => absurd h (by omega)) (fun h138 => ?_)
    refine AW.aload_n (pc' := 142) d_M_join_141 rfl rfl rfl ?_
    refine AW.getf (pc' := 145) d_M_join_142 rfl fl_M_19 rfl rfl ?_
    refine AW.iload (pc' := 147) d_M_join_145 rfl rfl ?_
    refine AW.ialdN (pc' := 148) d_M_join_147 rfl rfl (by omega) (by decide) ?_
    refine AW.top (u := .int (g i)) rfl ?_
    refine AW.iload_n (pc' := 149) d_M_join_148 rfl rfl rfl ?_
    refine AW.icmp_ne (tgt := 160) (pc' := 152) d_M_join_149 (by decide) rfl (fun h149 => ?_) (fun h149 => ?_)
    · refine AW.iincN (pc' := 163) (ls' := [some (.ref 20), some (.int (nI (a))), some (.int (nI (b))), some (.int (nI (1))), some (.int (nI (i + 1)))]) d_M_join_160 rfl rfl rfl rfl ?_
      refine AW.goto (tgt := 132) d_M_join_163 (by decide) ?_
      have e : (fun j => if (i + 1 ≤ j ∧ j < k_nu k) ∧ g j = nI a then nI b else g j) = (fun j => if (i ≤ j ∧ j < k_nu k) ∧ g j = nI a then nI b else g j) := by
        funext j
        by_cases hj : j = i
        · subst hj
          rw [if_neg (by omega), if_neg (fun q => absurd q.2 h149)]
        · skip
          by_cases h1 : (i ≤ j ∧ j < k_nu k) ∧ g j = nI a
          · rw [if_pos h1, if_pos ⟨by omega, h1.2⟩]
          · rw [if_neg h1, if_neg (fun q => h1 ⟨by omega, q.2⟩)]
      have h9 := ih (i + 1) g (by omega) (by rw [e]; exact hC)
      exact AW.wld rfl h9
    · refine AW.aload_n (pc' := 153) d_M_join_152 rfl rfl rfl ?_
      refine AW.getf (pc' := 156) d_M_join_153 rfl fl_M_19 rfl rfl ?_
      refine AW.iload (pc' := 158) d_M_join_156 rfl rfl ?_
      refine AW.iload_n (pc' := 159) d_M_join_158 rfl rfl rfl ?_
      refine AW.iastN (pc' := 160) (w' := (wL z (k_uin_ (k_uin_ k (g)) (upd g i (nI (b)))) o)) d_M_join_159 rfl rfl (by omega) (by decide) rfl ?_
      refine AW.iincN (pc' := 163) (ls' := [some (.ref 20), some (.int (nI (a))), some (.int (nI (b))), some (.int (nI (1))), some (.int (nI (i + 1)))]) d_M_join_160 rfl rfl rfl rfl ?_
      refine AW.goto (tgt := 132) d_M_join_163 (by decide) ?_
      have e : (fun j => if (i + 1 ≤ j ∧ j < k_nu k) ∧ (upd g i (nI b)) j = nI a then nI b else (upd g i (nI b)) j) = (fun j => if (i ≤ j ∧ j < k_nu k) ∧ g j = nI a then nI b else g j) := by
        funext j
        by_cases hj : j = i
        · subst hj
          rw [if_neg (by omega), pk_us, if_pos ⟨by omega, h149⟩]
        · rw [pk_un hj]
          by_cases h1 : (i ≤ j ∧ j < k_nu k) ∧ g j = nI a
          · rw [if_pos h1, if_pos ⟨by omega, h1.2⟩]
          · rw [if_neg h1, if_neg (fun q => h1 ⟨by omega, q.2⟩)]
      have h9 := ih (i + 1) (upd g i (nI b)) (by omega) (by rw [e]; exact hC)
      exact AW.wld rfl h9
theorem lp_kj3 (X : ct_X) (z : S_c) (k : S_m) (o : Nat → Int64) (a b : Nat) (hN : k_ns k ≤ 20) {Q : Option Value ⊕ Nat → ct_W → Prop} : ∀ (n i : Nat) (g : Nat → Int32), i + n = k_ns k → AW X m_M_join 3 0 0 0 0 213 [some (.ref 20), some (.int (nI (a))), some (.int (nI (b))), some (.int (nI (1))), some (.int (nI (k_ns k)))] [] (wL z (k_abv_ k (fun j => if (i ≤ j ∧ j < k_ns k) ∧ (g j = nI a ∧ k_jnd k j = 0) then nI b else g j)) o) Q → AW X m_M_join 3 0 0 0 0 169 [some (.ref 20), some (.int (nI (a))), some (.int (nI (b))), some (.int (nI (1))), some (.int (nI (i)))] [] (wL z (k_abv_ k g) o) Q := by
  intro n
  induction n with
  | zero =>
    intro i g hi hC
    have e : (fun j => if (i ≤ j ∧ j < k_ns k) ∧ (g j = nI a ∧ k_jnd k j = 0) then nI b else g j) = g := by
      funext j
      rw [if_neg (by omega)]
    rw [e] at hC
    have e2 : i = k_ns k := by omega
    refine AW.iload (pc' := 171) d_M_join_169 rfl rfl ?_
    refine AW.aload_n (pc' := 172) d_M_join_171 rfl rfl rfl ?_
    refine AW.getf (pc' := 175) d_M_join_172 rfl fl_M_22 rfl rfl ?_
    refine AW.top (u := .int (nI (k_ns k))) rfl ?_
    refine AW.icmp_geN (tgt := 213) (pc' := 178) d_M_join_175 (by decide) rfl (by omega) (by omega) (fun h175 => ?_) (fun h => absurd h (by omega))
    subst e2
    exact hC
  | succ n ih =>
    intro i g hi hC
    refine AW.iload (pc' := 171) d_M_join_169 rfl rfl ?_
    refine AW.aload_n (pc' := 172) d_M_join_171 rfl rfl rfl ?_
    refine AW.getf (pc' := 175) d_M_join_172 rfl fl_M_22 rfl rfl ?_
    refine AW.top (u := .int (nI (k_ns k))) rfl ?_
    refine AW.icmp_geN (tgt := 213) (pc' := 178) d_M_join_175 (by decide) rfl (by omega) (by omega) (fun h => absurd h (by omega)) (fun h175 => ?_)
    refine AW.aload_n (pc' := 179) d_M_join_178 rfl rfl rfl ?_
    refine AW.getf (pc' := 182) d_M_join_179 rfl fl_M_30 rfl rfl ?_
    refine AW.iload (pc' := 184) d_M_join_182 rfl rfl ?_
    refine AW.ialdN (pc' := 185) d_M_join_184 rfl rfl (by omega) (by decide) ?_
    refine AW.top (u := .int (g i)) rfl ?_
    refine AW.iload_n (pc' := 186) d_M_join_185 rfl rfl rfl ?_
    refine AW.icmp_ne (tgt := 207) (pc' := 189) d_M_join_186 (by decide) rfl (fun h186 => ?_) (fun h186 => ?_)
    · refine AW.iincN (pc' := 210) (ls' := [some (.ref 20), some (.int (nI (a))), some (.int (nI (b))), some (.int (nI (1))), some (.int (nI (i + 1)))]) d_M_join_207 rfl rfl rfl rfl ?_
      refine AW.goto (tgt := 169) d_M_join_210 (by decide) ?_
      have e : (fun j => if (i + 1 ≤ j ∧ j < k_ns k) ∧ (g j = nI a ∧ k_jnd k j = 0) then nI b else g j) = (fun j => if (i ≤ j ∧ j < k_ns k) ∧ (g j = nI a ∧ k_jnd k j = 0) then nI b else g j) := by
        funext j
        by_cases hj : j = i
        · subst hj
          rw [if_neg (by omega), if_neg (fun q => absurd q.2.1 h186)]
        · skip
          by_cases h1 : (i ≤ j ∧ j < k_ns k) ∧ (g j = nI a ∧ k_jnd k j = 0)
          · rw [if_pos h1, if_pos ⟨by omega, h1.2⟩]
          · rw [if_neg h1, if_neg (fun q => h1 ⟨by omega, q.2⟩)]
      have h9 := ih (i + 1) g (by omega) (by rw [e]; exact hC)
      exact AW.wld rfl h9
    · refine AW.aload_n (pc' := 190) d_M_join_189 rfl rfl rfl ?_
      refine AW.getf (pc' := 193) d_M_join_190 rfl fl_M_26 rfl rfl ?_
      refine AW.iload (pc' := 195) d_M_join_193 rfl rfl ?_
      refine AW.zaldN (pc' := 196) d_M_join_195 rfl rfl (by omega) (by decide) ?_
      refine AW.top (u := .int ((k_jnd k) i)) rfl ?_
      refine AW.if_ne (tgt := 207) (pc' := 199) d_M_join_196 (by decide) rfl (fun h196 => ?_) (fun h196 => ?_)
      · refine AW.iincN (pc' := 210) (ls' := [some (.ref 20), some (.int (nI (a))), some (.int (nI (b))), some (.int (nI (1))), some (.int (nI (i + 1)))]) d_M_join_207 rfl rfl rfl rfl ?_
        refine AW.goto (tgt := 169) d_M_join_210 (by decide) ?_
        have e : (fun j => if (i + 1 ≤ j ∧ j < k_ns k) ∧ (g j = nI a ∧ k_jnd k j = 0) then nI b else g j) = (fun j => if (i ≤ j ∧ j < k_ns k) ∧ (g j = nI a ∧ k_jnd k j = 0) then nI b else g j) := by
          funext j
          by_cases hj : j = i
          · subst hj
            rw [if_neg (by omega), if_neg (fun q => absurd q.2.2 h196)]
          · skip
            by_cases h1 : (i ≤ j ∧ j < k_ns k) ∧ (g j = nI a ∧ k_jnd k j = 0)
            · rw [if_pos h1, if_pos ⟨by omega, h1.2⟩]
            · rw [if_neg h1, if_neg (fun q => h1 ⟨by omega, q.2⟩)]
        have h9 := ih (i + 1) g (by omega) (by rw [e]; exact hC)
        exact AW.wld rfl h9
      · refine AW.aload_n (pc' := 200) d_M_join_199 rfl rfl rfl ?_
        refine AW.getf (pc' := 203) d_M_join_200 rfl fl_M_30 rfl rfl ?_
        refine AW.iload (pc' := 205) d_M_join_203 rfl rfl ?_
        refine AW.iload_n (pc' := 206) d_M_join_205 rfl rfl rfl ?_
        refine AW.iastN (pc' := 207) (w' := (wL z (k_abv_ (k_abv_ k (g)) (upd g i (nI (b)))) o)) d_M_join_206 rfl rfl (by omega) (by decide) rfl ?_
        refine AW.iincN (pc' := 210) (ls' := [some (.ref 20), some (.int (nI (a))), some (.int (nI (b))), some (.int (nI (1))), some (.int (nI (i + 1)))]) d_M_join_207 rfl rfl rfl rfl ?_
        refine AW.goto (tgt := 169) d_M_join_210 (by decide) ?_
        have e : (fun j => if (i + 1 ≤ j ∧ j < k_ns k) ∧ ((upd g i (nI b)) j = nI a ∧ k_jnd k j = 0) then nI b else (upd g i (nI b)) j) = (fun j => if (i ≤ j ∧ j < k_ns k) ∧ (g j = nI a ∧ k_jnd k j = 0) then nI b else g j) := by
          funext j
          by_cases hj : j = i
          · subst hj
            rw [if_neg (by omega), pk_us, if_pos ⟨by omega, ⟨h186, h196⟩⟩]
          · rw [pk_un hj]
            by_cases h1 : (i ≤ j ∧ j < k_ns k) ∧ (g j = nI a ∧ k_jnd k j = 0)
            · rw [if_pos h1, if_pos ⟨by omega, h1.2⟩]
            · rw [if_neg h1, if_neg (fun q => h1 ⟨by omega, q.2⟩)]
        have h9 := ih (i + 1) (upd g i (nI b)) (by omega) (by rw [e]; exact hC)
        exact AW.wld rfl h9
theorem lp_kj4 (X : ct_X) (z : S_c) (k : S_m) (o : Nat → Int64) (a b : Nat) (hN : k_nt k ≤ 60) {Q : Option Value ⊕ Nat → ct_W → Prop} : ∀ (n i : Nat) (g : Nat → Int32), i + n = k_nt k → AW X m_M_join 3 0 0 0 0 271 [some (.ref 20), some (.int (nI (a))), some (.int (nI (b))), some (.int (nI (1))), some (.int (nI (k_nt k)))] [] (wL z (k_tof_ k (fun j => if (i ≤ j ∧ j < k_nt k) ∧ (g j = nI a ∧ (k_sta k j = 0 ∨ k_sta k j = nI 3)) then nI b else g j)) o) Q → AW X m_M_join 3 0 0 0 0 216 [some (.ref 20), some (.int (nI (a))), some (.int (nI (b))), some (.int (nI (1))), some (.int (nI (i)))] [] (wL z (k_tof_ k g) o) Q := by
  intro n
  induction n with
  | zero =>
    intro i g hi hC
    have e : (fun j => if (i ≤ j ∧ j < k_nt k) ∧ (g j = nI a ∧ (k_sta k j = 0 ∨ k_sta k j = nI 3)) then nI b else g j) = g := by
      funext j
      rw [if_neg (by omega)]
    rw [e] at hC
    have e2 : i = k_nt k := by omega
    refine AW.iload (pc' := 218) d_M_join_216 rfl rfl ?_
    refine AW.aload_n (pc' := 219) d_M_join_218 rfl rfl rfl ?_
    refine AW.getf (pc' := 222) d_M_join_219 rfl fl_M_126 rfl rfl ?_
    refine AW.top (u := .int (nI (k_nt k))) rfl ?_
    refine AW.icmp_geN (tgt := 271) (pc' := 225) d_M_join_222 (by decide) rfl (by omega) (by omega) (fun h222 => ?_) (fun h => absurd h (by omega))
    subst e2
    exact hC
  | succ n ih =>
    intro i g hi hC
    refine AW.iload (pc' := 218) d_M_join_216 rfl rfl ?_
    refine AW.aload_n (pc' := 219) d_M_join_218 rfl rfl rfl ?_
    refine AW.getf (pc' := 222) d_M_join_219 rfl fl_M_126 rfl rfl ?_
    refine AW.top (u := .int (nI (k_nt k))) rfl ?_
    refine AW.icmp_geN (tgt := 271) (pc' := 225) d_M_join_222 (by decide) rfl (by omega) (by omega) (fun h => absurd h (by omega)) (fun h222 => ?_)
    refine AW.aload_n (pc' := 226) d_M_join_225 rfl rfl rfl ?_
    refine AW.getf (pc' := 229) d_M_join_226 rfl fl_M_42 rfl rfl ?_
    refine AW.iload (pc' := 231) d_M_join_229 rfl rfl ?_
    refine AW.ialdN (pc' := 232) d_M_join_231 rfl rfl (by omega) (by decide) ?_
    refine AW.top (u := .int (g i)) rfl ?_
    refine AW.iload_n (pc' := 233) d_M_join_232 rfl rfl rfl ?_
    refine AW.icmp_ne (tgt := 265) (pc' := 236) d_M_join_233 (by decide) rfl (fun h233 => ?_) (fun h233 => ?_)
    · refine AW.iincN (pc' := 268) (ls' := [some (.ref 20), some (.int (nI (a))), some (.int (nI (b))), some (.int (nI (1))), some (.int (nI (i + 1)))]) d_M_join_265 rfl rfl rfl rfl ?_
      refine AW.goto (tgt := 216) d_M_join_268 (by decide) ?_
      have e : (fun j => if (i + 1 ≤ j ∧ j < k_nt k) ∧ (g j = nI a ∧ (k_sta k j = 0 ∨ k_sta k j = nI 3)) then nI b else g j) = (fun j => if (i ≤ j ∧ j < k_nt k) ∧ (g j = nI a ∧ (k_sta k j = 0 ∨ k_sta k j = nI 3)) then nI b else g j) := by
        funext j
        by_cases hj : j = i
        · subst hj
          rw [if_neg (by omega), if_neg (fun q => absurd q.2.1 h233)]
        · skip
          by_cases h1 : (i ≤ j ∧ j < k_nt k) ∧ (g j = nI a ∧ (k_sta k j = 0 ∨ k_sta k j = nI 3))
          · rw [if_pos h1, if_pos ⟨by omega, h1.2⟩]
          · rw [if_neg h1, if_neg (fun q => h1 ⟨by omega, q.2⟩)]
      have h9 := ih (i + 1) g (by omega) (by rw [e]; exact hC)
      exact AW.wld rfl h9
    · refine AW.aload_n (pc' := 237) d_M_join_236 rfl rfl rfl ?_
      refine AW.getf (pc' := 240) d_M_join_237 rfl fl_M_48 rfl rfl ?_
      refine AW.iload (pc' := 242) d_M_join_240 rfl rfl ?_
      refine AW.ialdN (pc' := 243) d_M_join_242 rfl rfl (by omega) (by decide) ?_
      refine AW.top (u := .int ((k_sta k) i)) rfl ?_
      refine AW.if_eq (tgt := 257) (pc' := 246) d_M_join_243 (by decide) rfl (fun h243 => ?_) (fun h243 => ?_)
      · refine AW.aload_n (pc' := 258) d_M_join_257 rfl rfl rfl ?_
        refine AW.getf (pc' := 261) d_M_join_258 rfl fl_M_42 rfl rfl ?_
        refine AW.iload (pc' := 263) d_M_join_261 rfl rfl ?_
        refine AW.iload_n (pc' := 264) d_M_join_263 rfl rfl rfl ?_
        refine AW.iastN (pc' := 265) (w' := (wL z (k_tof_ (k_tof_ k (g)) (upd g i (nI (b)))) o)) d_M_join_264 rfl rfl (by omega) (by decide) rfl ?_
        refine AW.iincN (pc' := 268) (ls' := [some (.ref 20), some (.int (nI (a))), some (.int (nI (b))), some (.int (nI (1))), some (.int (nI (i + 1)))]) d_M_join_265 rfl rfl rfl rfl ?_
        refine AW.goto (tgt := 216) d_M_join_268 (by decide) ?_
        have e : (fun j => if (i + 1 ≤ j ∧ j < k_nt k) ∧ ((upd g i (nI b)) j = nI a ∧ (k_sta k j = 0 ∨ k_sta k j = nI 3)) then nI b else (upd g i (nI b)) j) = (fun j => if (i ≤ j ∧ j < k_nt k) ∧ (g j = nI a ∧ (k_sta k j = 0 ∨ k_sta k j = nI 3)) then nI b else g j) := by
          funext j
          by_cases hj : j = i
          · subst hj
            rw [if_neg (by omega), pk_us, if_pos ⟨by omega, ⟨h233, Or.inl h243⟩⟩]
          · rw [pk_un hj]
            by_cases h1 : (i ≤ j ∧ j < k_nt k) ∧ (g j = nI a ∧ (k_sta k j = 0 ∨ k_sta k j = nI 3))
            · rw [if_pos h1, if_pos ⟨by omega, h1.2⟩]
            · rw [if_neg h1, if_neg (fun q => h1 ⟨by omega, q.2⟩)]
        have h9 := ih (i + 1) (upd g i (nI b)) (by omega) (by rw [e]; exact hC)
        exact AW.wld rfl h9
      · refine AW.aload_n (pc' := 247) d_M_join_246 rfl rfl rfl ?_
        refine AW.getf (pc' := 250) d_M_join_247 rfl fl_M_48 rfl rfl ?_
        refine AW.iload (pc' := 252) d_M_join_250 rfl rfl ?_
        refine AW.ialdN (pc' := 253) d_M_join_252 rfl rfl (by omega) (by decide) ?_
        refine AW.top (u := .int ((k_sta k) i)) rfl ?_
        refine AW.iconst (pc' := 254) (v := nI 3) d_M_join_253 rfl (by decide) ?_
        refine AW.icmp_ne (tgt := 265) (pc' := 257) d_M_join_254 (by decide) rfl (fun h254 => ?_) (fun h254 => ?_)
        · refine AW.iincN (pc' := 268) (ls' := [some (.ref 20), some (.int (nI (a))), some (.int (nI (b))), some (.int (nI (1))), some (.int (nI (i + 1)))]) d_M_join_265 rfl rfl rfl rfl ?_
          refine AW.goto (tgt := 216) d_M_join_268 (by decide) ?_
          have e : (fun j => if (i + 1 ≤ j ∧ j < k_nt k) ∧ (g j = nI a ∧ (k_sta k j = 0 ∨ k_sta k j = nI 3)) then nI b else g j) = (fun j => if (i ≤ j ∧ j < k_nt k) ∧ (g j = nI a ∧ (k_sta k j = 0 ∨ k_sta k j = nI 3)) then nI b else g j) := by
            funext j
            by_cases hj : j = i
            · subst hj
              rw [if_neg (by omega), if_neg (fun q => q.2.2.elim (fun q => absurd q h243) (fun q => absurd q h254))]
            · skip
              by_cases h1 : (i ≤ j ∧ j < k_nt k) ∧ (g j = nI a ∧ (k_sta k j = 0 ∨ k_sta k j = nI 3))
              · rw [if_pos h1, if_pos ⟨by omega, h1.2⟩]
              · rw [if_neg h1, if_neg (fun q => h1 ⟨by omega, q.2⟩)]
          have h9 := ih (i + 1) g (by omega) (by rw [e]; exact hC)
          exact AW.wld rfl h9
        · refine AW.aload_n (pc' := 258) d_M_join_257 rfl rfl rfl ?_
          refine AW.getf (pc' := 261) d_M_join_258 rfl fl_M_42 rfl rfl ?_
          refine AW.iload (pc' := 263) d_M_join_261 rfl rfl ?_
          refine AW.iload_n (pc' := 264) d_M_join_263 rfl rfl rfl ?_
          refine AW.iastN (pc' := 265) (w' := (wL z (k_tof_ (k_tof_ k (g)) (upd g i (nI (b)))) o)) d_M_join_264 rfl rfl (by omega) (by decide) rfl ?_
          refine AW.iincN (pc' := 268) (ls' := [some (.ref 20), some (.int (nI (a))), some (.int (nI (b))), some (.int (nI (1))), some (.int (nI (i + 1)))]) d_M_join_265 rfl rfl rfl rfl ?_
          refine AW.goto (tgt := 216) d_M_join_268 (by decide) ?_
          have e : (fun j => if (i + 1 ≤ j ∧ j < k_nt k) ∧ ((upd g i (nI b)) j = nI a ∧ (k_sta k j = 0 ∨ k_sta k j = nI 3)) then nI b else (upd g i (nI b)) j) = (fun j => if (i ≤ j ∧ j < k_nt k) ∧ (g j = nI a ∧ (k_sta k j = 0 ∨ k_sta k j = nI 3)) then nI b else g j) := by
            funext j
            by_cases hj : j = i
            · subst hj
              rw [if_neg (by omega), pk_us, if_pos ⟨by omega, ⟨h233, Or.inr h254⟩⟩]
            · rw [pk_un hj]
              by_cases h1 : (i ≤ j ∧ j < k_nt k) ∧ (g j = nI a ∧ (k_sta k j = 0 ∨ k_sta k j = nI 3))
              · rw [if_pos h1, if_pos ⟨by omega, h1.2⟩]
              · rw [if_neg h1, if_neg (fun q => h1 ⟨by omega, q.2⟩)]
          have h9 := ih (i + 1) (upd g i (nI b)) (by omega) (by rw [e]; exact hC)
          exact AW.wld rfl h9
theorem kj_fill (X : ct_X) (z : S_c) (k : S_m) (o : Nat → Int64) (a b : Nat) (hb : b < 20) (hn : k_ns k ≤ 20) (hnp : k_np k ≤ 40) (hr2 : k_rows k < 2 ^ 31) (hK : RowK k) : AW X m_M_join 3 0 0 0 0 271 [some (.ref 20), some (.int (nI (a))), some (.int (nI (b))), some (.int (nI (1))), none] [] (wL z k o) (fun r w' => r = .inl none ∧ w' = wL z (f_kfill k b) o) := by
  by_cases hx : k_ldr k b < 0
  · have e : f_kfill k b = f_kl k b (f_knext k (nI b) (k_np k)) := by rw [f_kfill, if_pos hx]
    rw [e]
    refine AW.aload_n (pc' := 272) d_M_join_271 rfl rfl rfl ?_
    refine AW.getf (pc' := 275) d_M_join_272 rfl fl_M_33 rfl rfl ?_
    refine AW.iload_n (pc' := 276) d_M_join_275 rfl rfl rfl ?_
    refine AW.ialdN (pc' := 277) d_M_join_276 rfl rfl (by omega) (by decide) ?_
    refine AW.if_ge (tgt := 290) (pc' := 280) d_M_join_277 (by decide) rfl (fun h => absurd hx (Int32.not_lt.mpr h)) (fun h277 => ?_)
    refine AW.aload_n (pc' := 281) d_M_join_280 rfl rfl rfl ?_
    refine AW.iload_n (pc' := 282) d_M_join_281 rfl rfl rfl ?_
    refine AW.aload_n (pc' := 283) d_M_join_282 rfl rfl rfl ?_
    refine AW.iload_n (pc' := 284) d_M_join_283 rfl rfl rfl ?_
    refine AW.cV (pc' := 287) d_M_join_284 rfl cv_M_100 (by decide) rfl rfl rfl (k_next X z k o (nI b) hnp hn) rfl rfl rfl rfl rfl rfl rfl ?_
    refine AW.cV (pc' := 290) d_M_join_287 rfl cv_M_103 (by decide) rfl rfl rfl (k_lead X z k o b (f_knext k (nI b) (k_np k)) (fun r h => by have := f_knext_lt h; omega) hb hn hr2 hK) rfl rfl rfl rfl rfl rfl rfl ?_
    exact AW.vret d_M_join_290 rfl rfl rfl ⟨rfl, rfl⟩
  · have e : f_kfill k b = k := by rw [f_kfill, if_neg hx]
    rw [e]
    refine AW.aload_n (pc' := 272) d_M_join_271 rfl rfl rfl ?_
    refine AW.getf (pc' := 275) d_M_join_272 rfl fl_M_33 rfl rfl ?_
    refine AW.iload_n (pc' := 276) d_M_join_275 rfl rfl rfl ?_
    refine AW.ialdN (pc' := 277) d_M_join_276 rfl rfl (by omega) (by decide) ?_
    refine AW.if_ge (tgt := 290) (pc' := 280) d_M_join_277 (by decide) rfl (fun h277 => ?_) (fun h => absurd (Int32.not_lt.mp hx) h)
    exact AW.vret d_M_join_290 rfl rfl rfl ⟨rfl, rfl⟩
theorem k_join_0 (X : ct_X) (z : S_c) (k : S_m) (o : Nat → Int64) (x : Int32) (hx : x < 0 ∨ nI (k_ns k) ≤ x) (hn : k_ns k ≤ 20) (y : Int32) : AF X m_M_join 3 0 0 [.ref 20, .int (x), .int (y)] (wL z k o) (.inl none) (wL z (k_thr_ k (nI 1)) o) := by
  refine AM.of rfl (Nat.le_of_ble_eq_true rfl) (ls := [some (.ref 20), some (.int (x)), some (.int (y)), none, none]) rfl ?_
  refine AW.aload_n (pc' := 1) d_M_join_0 rfl rfl rfl ?_
  refine AW.iload_n (pc' := 2) d_M_join_1 rfl rfl rfl ?_
  refine AW.cV (pc' := 5) d_M_join_2 rfl cv_M_82 (by decide) rfl rfl rfl (k_isSector_f X z k o x hx (by omega)) rfl rfl rfl rfl rfl rfl rfl ?_
  refine AW.if_eq (tgt := 20) (pc' := 8) d_M_join_5 (by decide) rfl (fun _ => ?_) (fun h => absurd h (by decide))
  refine AW.iconst (pc' := 21) (v := nI 0) d_M_join_20 rfl (by decide) ?_
  refine AW.istore_n (pc' := 22) (ls' := [some (.ref 20), some (.int (x)), some (.int (y)), some (.int (nI (0))), none]) d_M_join_21 rfl rfl rfl rfl ?_
  refine AW.aload_n (pc' := 23) d_M_join_22 rfl rfl rfl ?_
  refine AW.iconst (pc' := 24) (v := nI 5) d_M_join_23 rfl (by decide) ?_
  refine AW.iload_n (pc' := 25) d_M_join_24 rfl rfl rfl ?_
  refine AW.iconst (pc' := 26) (v := nI 1) d_M_join_25 rfl (by decide) ?_
  refine AW.iload_n (pc' := 27) d_M_join_26 rfl rfl rfl ?_
  refine AW.if_eq (tgt := 63) (pc' := 30) d_M_join_27 (by decide) rfl (fun _ => ?_) (fun h => absurd h (by decide))
  refine AW.iconst (pc' := 64) (v := nI 0) d_M_join_63 rfl (by decide) ?_
  refine AW.iconst (pc' := 65) (v := nI 1) d_M_join_64 rfl (by decide) ?_
  refine AW.cV (pc' := 68) d_M_join_65 rfl cv_M_106 (by decide) rfl rfl rfl (k_goes_5_1 X z k o ((nI (1))) ((nI (0))) ((nI (1)))) rfl rfl rfl rfl rfl rfl rfl ?_
  refine AW.if_ne (tgt := 72) (pc' := 71) d_M_join_68 (by decide) rfl (fun h => absurd h (by decide)) (fun _ => ?_)
  exact AW.vret d_M_join_71 rfl rfl rfl ⟨rfl, rfl⟩
theorem k_join_1 (X : ct_X) (z : S_c) (k : S_m) (o : Nat → Int64) (a : Nat) (ha : a < k_ns k) (hn : k_ns k ≤ 20) (x : Int32) (hx : x < 0 ∨ nI (k_ns k) ≤ x) : AF X m_M_join 3 0 0 [.ref 20, .int (nI (a)), .int (x)] (wL z k o) (.inl none) (wL z (k_thr_ k (nI 1)) o) := by
  refine AM.of rfl (Nat.le_of_ble_eq_true rfl) (ls := [some (.ref 20), some (.int (nI (a))), some (.int (x)), none, none]) rfl ?_
  refine AW.aload_n (pc' := 1) d_M_join_0 rfl rfl rfl ?_
  refine AW.iload_n (pc' := 2) d_M_join_1 rfl rfl rfl ?_
  refine AW.cV (pc' := 5) d_M_join_2 rfl cv_M_82 (by decide) rfl rfl rfl (k_isSector_t X z k o a ha (by omega)) rfl rfl rfl rfl rfl rfl rfl ?_
  refine AW.if_eq (tgt := 20) (pc' := 8) d_M_join_5 (by decide) rfl (fun h => absurd h (by decide)) (fun _ => ?_)
  refine AW.aload_n (pc' := 9) d_M_join_8 rfl rfl rfl ?_
  refine AW.iload_n (pc' := 10) d_M_join_9 rfl rfl rfl ?_
  refine AW.cV (pc' := 13) d_M_join_10 rfl cv_M_82 (by decide) rfl rfl rfl (k_isSector_f X z k o x hx (by omega)) rfl rfl rfl rfl rfl rfl rfl ?_
  refine AW.if_eq (tgt := 20) (pc' := 16) d_M_join_13 (by decide) rfl (fun _ => ?_) (fun h => absurd h (by decide))
  refine AW.iconst (pc' := 21) (v := nI 0) d_M_join_20 rfl (by decide) ?_
  refine AW.istore_n (pc' := 22) (ls' := [some (.ref 20), some (.int (nI (a))), some (.int (x)), some (.int (nI (0))), none]) d_M_join_21 rfl rfl rfl rfl ?_
  refine AW.aload_n (pc' := 23) d_M_join_22 rfl rfl rfl ?_
  refine AW.iconst (pc' := 24) (v := nI 5) d_M_join_23 rfl (by decide) ?_
  refine AW.iload_n (pc' := 25) d_M_join_24 rfl rfl rfl ?_
  refine AW.iconst (pc' := 26) (v := nI 1) d_M_join_25 rfl (by decide) ?_
  refine AW.iload_n (pc' := 27) d_M_join_26 rfl rfl rfl ?_
  refine AW.if_eq (tgt := 63) (pc' := 30) d_M_join_27 (by decide) rfl (fun _ => ?_) (fun h => absurd h (by decide))
  refine AW.iconst (pc' := 64) (v := nI 0) d_M_join_63 rfl (by decide) ?_
  refine AW.iconst (pc' := 65) (v := nI 1) d_M_join_64 rfl (by decide) ?_
  refine AW.cV (pc' := 68) d_M_join_65 rfl cv_M_106 (by decide) rfl rfl rfl (k_goes_5_1 X z k o ((nI (1))) ((nI (0))) ((nI (1)))) rfl rfl rfl rfl rfl rfl rfl ?_
  refine AW.if_ne (tgt := 72) (pc' := 71) d_M_join_68 (by decide) rfl (fun h => absurd h (by decide)) (fun _ => ?_)
  exact AW.vret d_M_join_71 rfl rfl rfl ⟨rfl, rfl⟩
theorem k_join_2 (X : ct_X) (z : S_c) (k : S_m) (o : Nat → Int64) (a : Nat) (ha : a < k_ns k) (hn : k_ns k ≤ 20) (b : Nat) (hb : b < k_ns k) (h1 : ¬ k_jnd k a = 0) : AF X m_M_join 3 0 0 [.ref 20, .int (nI (a)), .int (nI (b))] (wL z k o) (.inl none) (wL z (k_thr_ k (nI 2)) o) := by
  refine AM.of rfl (Nat.le_of_ble_eq_true rfl) (ls := [some (.ref 20), some (.int (nI (a))), some (.int (nI (b))), none, none]) rfl ?_
  refine AW.aload_n (pc' := 1) d_M_join_0 rfl rfl rfl ?_
  refine AW.iload_n (pc' := 2) d_M_join_1 rfl rfl rfl ?_
  refine AW.cV (pc' := 5) d_M_join_2 rfl cv_M_82 (by decide) rfl rfl rfl (k_isSector_t X z k o a ha (by omega)) rfl rfl rfl rfl rfl rfl rfl ?_
  refine AW.if_eq (tgt := 20) (pc' := 8) d_M_join_5 (by decide) rfl (fun h => absurd h (by decide)) (fun _ => ?_)
  refine AW.aload_n (pc' := 9) d_M_join_8 rfl rfl rfl ?_
  refine AW.iload_n (pc' := 10) d_M_join_9 rfl rfl rfl ?_
  refine AW.cV (pc' := 13) d_M_join_10 rfl cv_M_82 (by decide) rfl rfl rfl (k_isSector_t X z k o b hb (by omega)) rfl rfl rfl rfl rfl rfl rfl ?_
  refine AW.if_eq (tgt := 20) (pc' := 16) d_M_join_13 (by decide) rfl (fun h => absurd h (by decide)) (fun _ => ?_)
  refine AW.iconst (pc' := 17) (v := nI 1) d_M_join_16 rfl (by decide) ?_
  refine AW.goto (tgt := 21) d_M_join_17 (by decide) ?_
  refine AW.istore_n (pc' := 22) (ls' := [some (.ref 20), some (.int (nI (a))), some (.int (nI (b))), some (.int (nI (1))), none]) d_M_join_21 rfl rfl rfl rfl ?_
  refine AW.aload_n (pc' := 23) d_M_join_22 rfl rfl rfl ?_
  refine AW.iconst (pc' := 24) (v := nI 5) d_M_join_23 rfl (by decide) ?_
  refine AW.iload_n (pc' := 25) d_M_join_24 rfl rfl rfl ?_
  refine AW.iconst (pc' := 26) (v := nI 1) d_M_join_25 rfl (by decide) ?_
  refine AW.iload_n (pc' := 27) d_M_join_26 rfl rfl rfl ?_
  refine AW.if_eq (tgt := 63) (pc' := 30) d_M_join_27 (by decide) rfl (fun h => absurd h (by decide)) (fun _ => ?_)
  refine AW.aload_n (pc' := 31) d_M_join_30 rfl rfl rfl ?_
  refine AW.iload_n (pc' := 32) d_M_join_31 rfl rfl rfl ?_
  refine AW.cV (pc' := 35) d_M_join_32 rfl cv_M_116 (by decide) rfl rfl rfl (k_isOpen_f X z k o a ha hn h1) rfl rfl rfl rfl rfl rfl rfl ?_
  refine AW.if_eq (tgt := 63) (pc' := 38) d_M_join_35 (by decide) rfl (fun _ => ?_) (fun h => absurd h (by decide))
  refine AW.iconst (pc' := 64) (v := nI 0) d_M_join_63 rfl (by decide) ?_
  refine AW.iconst (pc' := 65) (v := nI 1) d_M_join_64 rfl (by decide) ?_
  refine AW.cV (pc' := 68) d_M_join_65 rfl cv_M_106 (by decide) rfl rfl rfl (k_goes_5_4 X z k o ((nI (1)))) rfl rfl rfl rfl rfl rfl rfl ?_
  refine AW.if_ne (tgt := 72) (pc' := 71) d_M_join_68 (by decide) rfl (fun h => absurd h (by decide)) (fun _ => ?_)
  exact AW.vret d_M_join_71 rfl rfl rfl ⟨rfl, rfl⟩
theorem k_join_3 (X : ct_X) (z : S_c) (k : S_m) (o : Nat → Int64) (a : Nat) (ha : a < k_ns k) (hn : k_ns k ≤ 20) (b : Nat) (hb : b < k_ns k) (h1 : k_jnd k a = 0) (h2 : ¬ k_jnd k b = 0) : AF X m_M_join 3 0 0 [.ref 20, .int (nI (a)), .int (nI (b))] (wL z k o) (.inl none) (wL z (k_thr_ k (nI 2)) o) := by
  refine AM.of rfl (Nat.le_of_ble_eq_true rfl) (ls := [some (.ref 20), some (.int (nI (a))), some (.int (nI (b))), none, none]) rfl ?_
  refine AW.aload_n (pc' := 1) d_M_join_0 rfl rfl rfl ?_
  refine AW.iload_n (pc' := 2) d_M_join_1 rfl rfl rfl ?_
  refine AW.cV (pc' := 5) d_M_join_2 rfl cv_M_82 (by decide) rfl rfl rfl (k_isSector_t X z k o a ha (by omega)) rfl rfl rfl rfl rfl rfl rfl ?_
  refine AW.if_eq (tgt := 20) (pc' := 8) d_M_join_5 (by decide) rfl (fun h => absurd h (by decide)) (fun _ => ?_)
  refine AW.aload_n (pc' := 9) d_M_join_8 rfl rfl rfl ?_
  refine AW.iload_n (pc' := 10) d_M_join_9 rfl rfl rfl ?_
  refine AW.cV (pc' := 13) d_M_join_10 rfl cv_M_82 (by decide) rfl rfl rfl (k_isSector_t X z k o b hb (by omega)) rfl rfl rfl rfl rfl rfl rfl ?_
  refine AW.if_eq (tgt := 20) (pc' := 16) d_M_join_13 (by decide) rfl (fun h => absurd h (by decide)) (fun _ => ?_)
  refine AW.iconst (pc' := 17) (v := nI 1) d_M_join_16 rfl (by decide) ?_
  refine AW.goto (tgt := 21) d_M_join_17 (by decide) ?_
  refine AW.istore_n (pc' := 22) (ls' := [some (.ref 20), some (.int (nI (a))), some (.int (nI (b))), some (.int (nI (1))), none]) d_M_join_21 rfl rfl rfl rfl ?_
  refine AW.aload_n (pc' := 23) d_M_join_22 rfl rfl rfl ?_
  refine AW.iconst (pc' := 24) (v := nI 5) d_M_join_23 rfl (by decide) ?_
  refine AW.iload_n (pc' := 25) d_M_join_24 rfl rfl rfl ?_
  refine AW.iconst (pc' := 26) (v := nI 1) d_M_join_25 rfl (by decide) ?_
  refine AW.iload_n (pc' := 27) d_M_join_26 rfl rfl rfl ?_
  refine AW.if_eq (tgt := 63) (pc' := 30) d_M_join_27 (by decide) rfl (fun h => absurd h (by decide)) (fun _ => ?_)
  refine AW.aload_n (pc' := 31) d_M_join_30 rfl rfl rfl ?_
  refine AW.iload_n (pc' := 32) d_M_join_31 rfl rfl rfl ?_
  refine AW.cV (pc' := 35) d_M_join_32 rfl cv_M_116 (by decide) rfl rfl rfl (k_isOpen_t X z k o a ha hn h1) rfl rfl rfl rfl rfl rfl rfl ?_
  refine AW.if_eq (tgt := 63) (pc' := 38) d_M_join_35 (by decide) rfl (fun h => absurd h (by decide)) (fun _ => ?_)
  refine AW.aload_n (pc' := 39) d_M_join_38 rfl rfl rfl ?_
  refine AW.iload_n (pc' := 40) d_M_join_39 rfl rfl rfl ?_
  refine AW.cV (pc' := 43) d_M_join_40 rfl cv_M_116 (by decide) rfl rfl rfl (k_isOpen_f X z k o b hb hn h2) rfl rfl rfl rfl rfl rfl rfl ?_
  refine AW.if_eq (tgt := 63) (pc' := 46) d_M_join_43 (by decide) rfl (fun _ => ?_) (fun h => absurd h (by decide))
  refine AW.iconst (pc' := 64) (v := nI 0) d_M_join_63 rfl (by decide) ?_
  refine AW.iconst (pc' := 65) (v := nI 1) d_M_join_64 rfl (by decide) ?_
  refine AW.cV (pc' := 68) d_M_join_65 rfl cv_M_106 (by decide) rfl rfl rfl (k_goes_5_4 X z k o ((nI (1)))) rfl rfl rfl rfl rfl rfl rfl ?_
  refine AW.if_ne (tgt := 72) (pc' := 71) d_M_join_68 (by decide) rfl (fun h => absurd h (by decide)) (fun _ => ?_)
  exact AW.vret d_M_join_71 rfl rfl rfl ⟨rfl, rfl⟩
theorem k_join_4 (X : ct_X) (z : S_c) (k : S_m) (o : Nat → Int64) (ha : 0 < k_ns k) (hn : k_ns k ≤ 20) (b : Nat) (hb : b < k_ns k) (h1 : k_jnd k 0 = 0) (h2 : k_jnd k b = 0) : AF X m_M_join 3 0 0 [.ref 20, .int (nI (0)), .int (nI (b))] (wL z k o) (.inl none) (wL z (k_thr_ k (nI 2)) o) := by
  refine AM.of rfl (Nat.le_of_ble_eq_true rfl) (ls := [some (.ref 20), some (.int (nI (0))), some (.int (nI (b))), none, none]) rfl ?_
  refine AW.aload_n (pc' := 1) d_M_join_0 rfl rfl rfl ?_
  refine AW.iload_n (pc' := 2) d_M_join_1 rfl rfl rfl ?_
  refine AW.cV (pc' := 5) d_M_join_2 rfl cv_M_82 (by decide) rfl rfl rfl (k_isSector_t X z k o 0 ha (by omega)) rfl rfl rfl rfl rfl rfl rfl ?_
  refine AW.if_eq (tgt := 20) (pc' := 8) d_M_join_5 (by decide) rfl (fun h => absurd h (by decide)) (fun _ => ?_)
  refine AW.aload_n (pc' := 9) d_M_join_8 rfl rfl rfl ?_
  refine AW.iload_n (pc' := 10) d_M_join_9 rfl rfl rfl ?_
  refine AW.cV (pc' := 13) d_M_join_10 rfl cv_M_82 (by decide) rfl rfl rfl (k_isSector_t X z k o b hb (by omega)) rfl rfl rfl rfl rfl rfl rfl ?_
  refine AW.if_eq (tgt := 20) (pc' := 16) d_M_join_13 (by decide) rfl (fun h => absurd h (by decide)) (fun _ => ?_)
  refine AW.iconst (pc' := 17) (v := nI 1) d_M_join_16 rfl (by decide) ?_
  refine AW.goto (tgt := 21) d_M_join_17 (by decide) ?_
  refine AW.istore_n (pc' := 22) (ls' := [some (.ref 20), some (.int (nI (0))), some (.int (nI (b))), some (.int (nI (1))), none]) d_M_join_21 rfl rfl rfl rfl ?_
  refine AW.aload_n (pc' := 23) d_M_join_22 rfl rfl rfl ?_
  refine AW.iconst (pc' := 24) (v := nI 5) d_M_join_23 rfl (by decide) ?_
  refine AW.iload_n (pc' := 25) d_M_join_24 rfl rfl rfl ?_
  refine AW.iconst (pc' := 26) (v := nI 1) d_M_join_25 rfl (by decide) ?_
  refine AW.iload_n (pc' := 27) d_M_join_26 rfl rfl rfl ?_
  refine AW.if_eq (tgt := 63) (pc' := 30) d_M_join_27 (by decide) rfl (fun h => absurd h (by decide)) (fun _ => ?_)
  refine AW.aload_n (pc' := 31) d_M_join_30 rfl rfl rfl ?_
  refine AW.iload_n (pc' := 32) d_M_join_31 rfl rfl rfl ?_
  refine AW.cV (pc' := 35) d_M_join_32 rfl cv_M_116 (by decide) rfl rfl rfl (k_isOpen_t X z k o 0 ha hn h1) rfl rfl rfl rfl rfl rfl rfl ?_
  refine AW.if_eq (tgt := 63) (pc' := 38) d_M_join_35 (by decide) rfl (fun h => absurd h (by decide)) (fun _ => ?_)
  refine AW.aload_n (pc' := 39) d_M_join_38 rfl rfl rfl ?_
  refine AW.iload_n (pc' := 40) d_M_join_39 rfl rfl rfl ?_
  refine AW.cV (pc' := 43) d_M_join_40 rfl cv_M_116 (by decide) rfl rfl rfl (k_isOpen_t X z k o b hb hn h2) rfl rfl rfl rfl rfl rfl rfl ?_
  refine AW.if_eq (tgt := 63) (pc' := 46) d_M_join_43 (by decide) rfl (fun h => absurd h (by decide)) (fun _ => ?_)
  refine AW.iload_n (pc' := 47) d_M_join_46 rfl rfl rfl ?_
  refine AW.if_eq (tgt := 63) (pc' := 50) d_M_join_47 (by decide) rfl (fun _ => ?_) (fun h => absurd h (by decide))
  refine AW.iconst (pc' := 64) (v := nI 0) d_M_join_63 rfl (by decide) ?_
  refine AW.iconst (pc' := 65) (v := nI 1) d_M_join_64 rfl (by decide) ?_
  refine AW.cV (pc' := 68) d_M_join_65 rfl cv_M_106 (by decide) rfl rfl rfl (k_goes_5_4 X z k o ((nI (1)))) rfl rfl rfl rfl rfl rfl rfl ?_
  refine AW.if_ne (tgt := 72) (pc' := 71) d_M_join_68 (by decide) rfl (fun h => absurd h (by decide)) (fun _ => ?_)
  exact AW.vret d_M_join_71 rfl rfl rfl ⟨rfl, rfl⟩
theorem k_join_5 (X : ct_X) (z : S_c) (k : S_m) (o : Nat → Int64) (a : Nat) (ha : a < k_ns k) (hn : k_ns k ≤ 20) (b : Nat) (hb : b < k_ns k) (h1 : k_jnd k a = 0) (h2 : k_jnd k b = 0) (h0 : ¬ a = 0) (hab : ∀ j, j < 20 → okO 20 (k_abv k j)) (hi : itr (k_abv k) 20 (some b) = none) (h3 : sob (k_abv k) a 20 (some b) = true) : AF X m_M_join 3 0 0 [.ref 20, .int (nI (a)), .int (nI (b))] (wL z k o) (.inl none) (wL z (k_thr_ k (nI 2)) o) := by
  refine AM.of rfl (Nat.le_of_ble_eq_true rfl) (ls := [some (.ref 20), some (.int (nI (a))), some (.int (nI (b))), none, none]) rfl ?_
  refine AW.aload_n (pc' := 1) d_M_join_0 rfl rfl rfl ?_
  refine AW.iload_n (pc' := 2) d_M_join_1 rfl rfl rfl ?_
  refine AW.cV (pc' := 5) d_M_join_2 rfl cv_M_82 (by decide) rfl rfl rfl (k_isSector_t X z k o a ha (by omega)) rfl rfl rfl rfl rfl rfl rfl ?_
  refine AW.if_eq (tgt := 20) (pc' := 8) d_M_join_5 (by decide) rfl (fun h => absurd h (by decide)) (fun _ => ?_)
  refine AW.aload_n (pc' := 9) d_M_join_8 rfl rfl rfl ?_
  refine AW.iload_n (pc' := 10) d_M_join_9 rfl rfl rfl ?_
  refine AW.cV (pc' := 13) d_M_join_10 rfl cv_M_82 (by decide) rfl rfl rfl (k_isSector_t X z k o b hb (by omega)) rfl rfl rfl rfl rfl rfl rfl ?_
  refine AW.if_eq (tgt := 20) (pc' := 16) d_M_join_13 (by decide) rfl (fun h => absurd h (by decide)) (fun _ => ?_)
  refine AW.iconst (pc' := 17) (v := nI 1) d_M_join_16 rfl (by decide) ?_
  refine AW.goto (tgt := 21) d_M_join_17 (by decide) ?_
  refine AW.istore_n (pc' := 22) (ls' := [some (.ref 20), some (.int (nI (a))), some (.int (nI (b))), some (.int (nI (1))), none]) d_M_join_21 rfl rfl rfl rfl ?_
  refine AW.aload_n (pc' := 23) d_M_join_22 rfl rfl rfl ?_
  refine AW.iconst (pc' := 24) (v := nI 5) d_M_join_23 rfl (by decide) ?_
  refine AW.iload_n (pc' := 25) d_M_join_24 rfl rfl rfl ?_
  refine AW.iconst (pc' := 26) (v := nI 1) d_M_join_25 rfl (by decide) ?_
  refine AW.iload_n (pc' := 27) d_M_join_26 rfl rfl rfl ?_
  refine AW.if_eq (tgt := 63) (pc' := 30) d_M_join_27 (by decide) rfl (fun h => absurd h (by decide)) (fun _ => ?_)
  refine AW.aload_n (pc' := 31) d_M_join_30 rfl rfl rfl ?_
  refine AW.iload_n (pc' := 32) d_M_join_31 rfl rfl rfl ?_
  refine AW.cV (pc' := 35) d_M_join_32 rfl cv_M_116 (by decide) rfl rfl rfl (k_isOpen_t X z k o a ha hn h1) rfl rfl rfl rfl rfl rfl rfl ?_
  refine AW.if_eq (tgt := 63) (pc' := 38) d_M_join_35 (by decide) rfl (fun h => absurd h (by decide)) (fun _ => ?_)
  refine AW.aload_n (pc' := 39) d_M_join_38 rfl rfl rfl ?_
  refine AW.iload_n (pc' := 40) d_M_join_39 rfl rfl rfl ?_
  refine AW.cV (pc' := 43) d_M_join_40 rfl cv_M_116 (by decide) rfl rfl rfl (k_isOpen_t X z k o b hb hn h2) rfl rfl rfl rfl rfl rfl rfl ?_
  refine AW.if_eq (tgt := 63) (pc' := 46) d_M_join_43 (by decide) rfl (fun h => absurd h (by decide)) (fun _ => ?_)
  refine AW.iload_n (pc' := 47) d_M_join_46 rfl rfl rfl ?_
  refine AW.if_eq (tgt := 63) (pc' := 50) d_M_join_47 (by decide) rfl (fun h => absurd ((nI_eq (b := 0) (by omega) (by decide)).mp (h.trans (by decide))) h0) (fun h47 => ?_)
  refine AW.aload_n (pc' := 51) d_M_join_50 rfl rfl rfl ?_
  refine AW.iload_n (pc' := 52) d_M_join_51 rfl rfl rfl ?_
  refine AW.iload_n (pc' := 53) d_M_join_52 rfl rfl rfl ?_
  refine AW.cV (pc' := 56) d_M_join_53 rfl cv_M_122 (by decide) rfl rfl rfl (k_isBelow_t X z k o b a 20 (by omega) (by omega) hab hi h3) rfl rfl rfl rfl rfl rfl rfl ?_
  refine AW.if_ne (tgt := 63) (pc' := 59) d_M_join_56 (by decide) rfl (fun _ => ?_) (fun h => absurd h (by decide))
  refine AW.iconst (pc' := 64) (v := nI 0) d_M_join_63 rfl (by decide) ?_
  refine AW.iconst (pc' := 65) (v := nI 1) d_M_join_64 rfl (by decide) ?_
  refine AW.cV (pc' := 68) d_M_join_65 rfl cv_M_106 (by decide) rfl rfl rfl (k_goes_5_4 X z k o ((nI (1)))) rfl rfl rfl rfl rfl rfl rfl ?_
  refine AW.if_ne (tgt := 72) (pc' := 71) d_M_join_68 (by decide) rfl (fun h => absurd h (by decide)) (fun _ => ?_)
  exact AW.vret d_M_join_71 rfl rfl rfl ⟨rfl, rfl⟩
theorem k_join_6 (X : ct_X) (z : S_c) (k : S_m) (o : Nat → Int64) (a : Nat) (ha : a < k_ns k) (hn : k_ns k ≤ 20) (b : Nat) (hb : b < k_ns k) (h1 : k_jnd k a = 0) (h2 : k_jnd k b = 0) (h0 : ¬ a = 0) (hab : ∀ j, j < 20 → okO 20 (k_abv k j)) (hi : itr (k_abv k) 20 (some b) = none) (h3 : sob (k_abv k) a 20 (some b) = false) (hnp : k_np k ≤ 40) (hnu : k_nu k ≤ 20) (hnt : k_nt k ≤ 60) (hr2 : k_rows k + 2 < 2 ^ 31) (hK : RowK k) : AF X m_M_join 3 0 0 [.ref 20, .int (nI (a)), .int (nI (b))] (wL z k o) (.inl none) (wL z (f_kfill (f_kjs (f_kj0 k a) a b) b) o) := by
  have q1 : k_np (f_kj0 k a) ≤ 40 := by show k_np (f_kl _ a none) ≤ 40; rw [kl_np]; exact hnp
  have q2 : k_nu (f_kj0 k a) ≤ 20 := by show k_nu (f_kl _ a none) ≤ 20; rw [kl_nu]; exact hnu
  have q3 : k_ns (f_kj0 k a) ≤ 20 := by show k_ns (f_kl _ a none) ≤ 20; rw [kl_ns]; exact hn
  have q4 : k_nt (f_kj0 k a) ≤ 60 := by show k_nt (f_kl _ a none) ≤ 60; rw [kl_nt]; exact hnt
  have q5 : k_rows (f_kj0 k a) ≤ k_rows k + 1 := kl_rows (k_jnd_ (k_thr_ k (nI 0)) (upd (k_jnd k) a (nI 1))) a none
  have q6 : RowK (f_kj0 k a) := kl_rowK (k := (k_jnd_ (k_thr_ k (nI 0)) (upd (k_jnd k) a (nI 1)))) hK (by omega)
  refine AM.of rfl (Nat.le_of_ble_eq_true rfl) (ls := [some (.ref 20), some (.int (nI (a))), some (.int (nI (b))), none, none]) rfl ?_
  refine AW.aload_n (pc' := 1) d_M_join_0 rfl rfl rfl ?_
  refine AW.iload_n (pc' := 2) d_M_join_1 rfl rfl rfl ?_
  refine AW.cV (pc' := 5) d_M_join_2 rfl cv_M_82 (by decide) rfl rfl rfl (k_isSector_t X z k o a ha (by omega)) rfl rfl rfl rfl rfl rfl rfl ?_
  refine AW.if_eq (tgt := 20) (pc' := 8) d_M_join_5 (by decide) rfl (fun h => absurd h (by decide)) (fun _ => ?_)
  refine AW.aload_n (pc' := 9) d_M_join_8 rfl rfl rfl ?_
  refine AW.iload_n (pc' := 10) d_M_join_9 rfl rfl rfl ?_
  refine AW.cV (pc' := 13) d_M_join_10 rfl cv_M_82 (by decide) rfl rfl rfl (k_isSector_t X z k o b hb (by omega)) rfl rfl rfl rfl rfl rfl rfl ?_
  refine AW.if_eq (tgt := 20) (pc' := 16) d_M_join_13 (by decide) rfl (fun h => absurd h (by decide)) (fun _ => ?_)
  refine AW.iconst (pc' := 17) (v := nI 1) d_M_join_16 rfl (by decide) ?_
  refine AW.goto (tgt := 21) d_M_join_17 (by decide) ?_
  refine AW.istore_n (pc' := 22) (ls' := [some (.ref 20), some (.int (nI (a))), some (.int (nI (b))), some (.int (nI (1))), none]) d_M_join_21 rfl rfl rfl rfl ?_
  refine AW.aload_n (pc' := 23) d_M_join_22 rfl rfl rfl ?_
  refine AW.iconst (pc' := 24) (v := nI 5) d_M_join_23 rfl (by decide) ?_
  refine AW.iload_n (pc' := 25) d_M_join_24 rfl rfl rfl ?_
  refine AW.iconst (pc' := 26) (v := nI 1) d_M_join_25 rfl (by decide) ?_
  refine AW.iload_n (pc' := 27) d_M_join_26 rfl rfl rfl ?_
  refine AW.if_eq (tgt := 63) (pc' := 30) d_M_join_27 (by decide) rfl (fun h => absurd h (by decide)) (fun _ => ?_)
  refine AW.aload_n (pc' := 31) d_M_join_30 rfl rfl rfl ?_
  refine AW.iload_n (pc' := 32) d_M_join_31 rfl rfl rfl ?_
  refine AW.cV (pc' := 35) d_M_join_32 rfl cv_M_116 (by decide) rfl rfl rfl (k_isOpen_t X z k o a ha hn h1) rfl rfl rfl rfl rfl rfl rfl ?_
  refine AW.if_eq (tgt := 63) (pc' := 38) d_M_join_35 (by decide) rfl (fun h => absurd h (by decide)) (fun _ => ?_)
  refine AW.aload_n (pc' := 39) d_M_join_38 rfl rfl rfl ?_
  refine AW.iload_n (pc' := 40) d_M_join_39 rfl rfl rfl ?_
  refine AW.cV (pc' := 43) d_M_join_40 rfl cv_M_116 (by decide) rfl rfl rfl (k_isOpen_t X z k o b hb hn h2) rfl rfl rfl rfl rfl rfl rfl ?_
  refine AW.if_eq (tgt := 63) (pc' := 46) d_M_join_43 (by decide) rfl (fun h => absurd h (by decide)) (fun _ => ?_)
  refine AW.iload_n (pc' := 47) d_M_join_46 rfl rfl rfl ?_
  refine AW.if_eq (tgt := 63) (pc' := 50) d_M_join_47 (by decide) rfl (fun h => absurd ((nI_eq (b := 0) (by omega) (by decide)).mp (h.trans (by decide))) h0) (fun h47 => ?_)
  refine AW.aload_n (pc' := 51) d_M_join_50 rfl rfl rfl ?_
  refine AW.iload_n (pc' := 52) d_M_join_51 rfl rfl rfl ?_
  refine AW.iload_n (pc' := 53) d_M_join_52 rfl rfl rfl ?_
  refine AW.cV (pc' := 56) d_M_join_53 rfl cv_M_122 (by decide) rfl rfl rfl (k_isBelow_f X z k o b a 20 (by omega) (by omega) hab hi h3) rfl rfl rfl rfl rfl rfl rfl ?_
  refine AW.if_ne (tgt := 63) (pc' := 59) d_M_join_56 (by decide) rfl (fun h => absurd h (by decide)) (fun _ => ?_)
  refine AW.iconst (pc' := 60) (v := nI 1) d_M_join_59 rfl (by decide) ?_
  refine AW.goto (tgt := 64) d_M_join_60 (by decide) ?_
  refine AW.iconst (pc' := 65) (v := nI 1) d_M_join_64 rfl (by decide) ?_
  refine AW.cV (pc' := 68) d_M_join_65 rfl cv_M_106 (by decide) rfl rfl rfl (k_goes_5_0 X z k o ) rfl rfl rfl rfl rfl rfl rfl ?_
  refine AW.if_ne (tgt := 72) (pc' := 71) d_M_join_68 (by decide) rfl (fun _ => ?_) (fun h => absurd h (by decide))
  refine AW.aload_n (pc' := 73) d_M_join_72 rfl rfl rfl ?_
  refine AW.getf (pc' := 76) d_M_join_73 rfl fl_M_26 rfl rfl ?_
  refine AW.iload_n (pc' := 77) d_M_join_76 rfl rfl rfl ?_
  refine AW.iconst (pc' := 78) (v := nI 1) d_M_join_77 rfl (by decide) ?_
  refine AW.zastN (pc' := 79) (w' := (wL z (k_jnd_ ((k_thr_ k (nI 0))) (upd (k_jnd ((k_thr_ k (nI 0)))) a (nI (1)))) o)) d_M_join_78 rfl rfl (by omega) (by decide) (by decide) rfl ?_
  refine AW.aload_n (pc' := 80) d_M_join_79 rfl rfl rfl ?_
  refine AW.iload_n (pc' := 81) d_M_join_80 rfl rfl rfl ?_
  refine AW.iconst (pc' := 82) (v := (-1)) d_M_join_81 rfl (by decide) ?_
  refine AW.cV (pc' := 85) d_M_join_82 rfl cv_M_103 (by decide) rfl rfl rfl (k_lead X z (k_jnd_ (k_thr_ k (nI 0)) (upd (k_jnd k) a (nI 1))) o a none (fun r h => by cases h) (by omega) hn (by show k_rows k < 2 ^ 31; omega) hK) rfl rfl rfl rfl rfl rfl rfl ?_
  refine AW.aload_n (pc' := 86) d_M_join_85 rfl rfl rfl ?_
  refine AW.getf (pc' := 89) d_M_join_86 rfl fl_M_36 rfl rfl ?_
  refine AW.iload_n (pc' := 90) d_M_join_89 rfl rfl rfl ?_
  refine AW.iconst (pc' := 91) (v := (-1)) d_M_join_90 rfl (by decide) ?_
  refine AW.iastN (pc' := 92) (w' := (wL z (k_off_ ((f_kl (k_jnd_ (k_thr_ k (nI 0)) (upd (k_jnd k) a (nI 1))) a none)) (upd (k_off ((f_kl (k_jnd_ (k_thr_ k (nI 0)) (upd (k_jnd k) a (nI 1))) a none))) a ((-1)))) o)) d_M_join_91 rfl rfl (by omega) (by decide) rfl ?_
  refine AW.iconst (pc' := 93) (v := nI 0) d_M_join_92 rfl (by decide) ?_
  refine AW.istore (pc' := 95) (ls' := [some (.ref 20), some (.int (nI (a))), some (.int (nI (b))), some (.int (nI (1))), some (.int (nI (0)))]) d_M_join_93 rfl rfl rfl ?_
  refine lp_kj1 X z (f_kj0 k a) o a b q1 (k_np (f_kj0 k a)) 0 (k_in (f_kj0 k a)) (by omega) ?_
  rw [rep0]
  show AW X m_M_join 3 0 0 0 0 129 [some (.ref 20), some (.int (nI (a))), some (.int (nI (b))), some (.int (nI (1))), some (.int (nI (k_np (f_kj0 k a))))] [] (wL z (f_kj1 (f_kj0 k a) a b) o) _
  refine AW.iconst (pc' := 130) (v := nI 0) d_M_join_129 rfl (by decide) ?_
  refine AW.istore (pc' := 132) (ls' := [some (.ref 20), some (.int (nI (a))), some (.int (nI (b))), some (.int (nI (1))), some (.int (nI (0)))]) d_M_join_130 rfl rfl rfl ?_
  refine lp_kj2 X z (f_kj1 (f_kj0 k a) a b) o a b q2 (k_nu (f_kj1 (f_kj0 k a) a b)) 0 (k_uin (f_kj1 (f_kj0 k a) a b)) (by omega) ?_
  rw [rep0]
  show AW X m_M_join 3 0 0 0 0 166 [some (.ref 20), some (.int (nI (a))), some (.int (nI (b))), some (.int (nI (1))), some (.int (nI (k_nu (f_kj1 (f_kj0 k a) a b))))] [] (wL z (f_kj2 (f_kj1 (f_kj0 k a) a b) a b) o) _
  refine AW.iconst (pc' := 167) (v := nI 0) d_M_join_166 rfl (by decide) ?_
  refine AW.istore (pc' := 169) (ls' := [some (.ref 20), some (.int (nI (a))), some (.int (nI (b))), some (.int (nI (1))), some (.int (nI (0)))]) d_M_join_167 rfl rfl rfl ?_
  refine lp_kj3 X z (f_kj2 (f_kj1 (f_kj0 k a) a b) a b) o a b q3 (k_ns (f_kj2 (f_kj1 (f_kj0 k a) a b) a b)) 0 (k_abv (f_kj2 (f_kj1 (f_kj0 k a) a b) a b)) (by omega) ?_
  show AW X m_M_join 3 0 0 0 0 213 [some (.ref 20), some (.int (nI (a))), some (.int (nI (b))), some (.int (nI (1))), some (.int (nI (k_ns (f_kj2 (f_kj1 (f_kj0 k a) a b) a b))))] [] (wL z (f_kj3 (f_kj2 (f_kj1 (f_kj0 k a) a b) a b) a b) o) _
  refine AW.iconst (pc' := 214) (v := nI 0) d_M_join_213 rfl (by decide) ?_
  refine AW.istore (pc' := 216) (ls' := [some (.ref 20), some (.int (nI (a))), some (.int (nI (b))), some (.int (nI (1))), some (.int (nI (0)))]) d_M_join_214 rfl rfl rfl ?_
  refine lp_kj4 X z (f_kj3 (f_kj2 (f_kj1 (f_kj0 k a) a b) a b) a b) o a b q4 (k_nt (f_kj3 (f_kj2 (f_kj1 (f_kj0 k a) a b) a b) a b)) 0 (k_tof (f_kj3 (f_kj2 (f_kj1 (f_kj0 k a) a b) a b) a b)) (by omega) ?_
  show AW X m_M_join 3 0 0 0 0 271 [some (.ref 20), some (.int (nI (a))), some (.int (nI (b))), some (.int (nI (1))), some (.int (nI (k_nt (f_kj3 (f_kj2 (f_kj1 (f_kj0 k a) a b) a b) a b))))] [] (wL z (f_kj4 (f_kj3 (f_kj2 (f_kj1 (f_kj0 k a) a b) a b) a b) a b) o) _
  exact AW.dropL (j := 4) rfl (kj_fill X z (f_kjs (f_kj0 k a) a b) o a b (by omega) q3 q1 (by show k_rows (f_kj0 k a) < 2 ^ 31; omega) q6)
