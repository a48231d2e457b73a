/-! THE TWO STATES AGREE: what that means, and that a change of leaders keeps it (wip/whole/m11.py) -/
theorem set1_most (z : S_c) (s : Nat) (f p : Option Nat) : c_most (f_set1 z s f p) = c_most z := congrArg (fun q => q.1.2.1) (core_set1 z s f p)
theorem set1_rank (z : S_c) (s : Nat) (f p : Option Nat) : c_rank (f_set1 z s f p) = c_rank z := congrArg (fun q => q.2.1) (core_set1 z s f p)
theorem set1_arr (z : S_c) (s : Nat) (f p : Option Nat) : c_arr (f_set1 z s f p) = c_arr z := congrArg (fun q => q.2.2.1) (core_set1 z s f p)
theorem set1_sop (z : S_c) (s : Nat) (f p : Option Nat) : c_sop (f_set1 z s f p) = c_sop z := congrArg (fun q => q.2.2.2.1) (core_set1 z s f p)
theorem set1_slb (z : S_c) (s : Nat) (f p : Option Nat) : c_slb (f_set1 z s f p) = slbF (c_slb z) s f p := by
  have h : c_slb (f_set1 z s f p) = slb1 z s f p := congrArg (fun q => q.2.2.2.2.1) (core_set1 z s f p)
  rw [h]
  cases f <;> cases p <;> rfl
theorem set1_sou (z : S_c) (s : Nat) (f p : Option Nat) : c_sou (f_set1 z s f p) = c_sou z := congrArg (fun q => q.2.2.2.2.2.1) (core_set1 z s f p)
theorem set1_opn (z : S_c) (s : Nat) (f p : Option Nat) : c_opn (f_set1 z s f p) = c_opn z := congrArg (fun q => q.2.2.2.2.2.2.1) (core_set1 z s f p)
theorem set1_abv (z : S_c) (s : Nat) (f p : Option Nat) : c_abv (f_set1 z s f p) = c_abv z := congrArg (fun q => q.2.2.2.2.2.2.2.1) (core_set1 z s f p)
theorem set1_off (z : S_c) (s : Nat) (f p : Option Nat) : c_off (f_set1 z s f p) = offF (c_off z) (c_ns z) s p := by
  have h : c_off (f_set1 z s f p) = off1 z s p := congrArg (fun q => q.2.2.2.2.2.2.2.2.2.1) (core_set1 z s f p)
  rw [h]
  cases f <;> cases p <;> rfl
theorem set1_tsec (z : S_c) (s : Nat) (f p : Option Nat) : t_sec (f_set1 z s f p) = t_sec z := congrArg (fun q => q.2.2.2.2.2.2.2.2.2.2.1) (core_set1 z s f p)
theorem set1_tunt (z : S_c) (s : Nat) (f p : Option Nat) : t_unt (f_set1 z s f p) = t_unt z := congrArg (fun q => q.2.2.2.2.2.2.2.2.2.2.2.1) (core_set1 z s f p)
theorem set1_trep (z : S_c) (s : Nat) (f p : Option Nat) : t_rep (f_set1 z s f p) = t_rep z := congrArg (fun q => q.2.2.2.2.2.2.2.2.2.2.2.2.1) (core_set1 z s f p)
theorem set1_tat (z : S_c) (s : Nat) (f p : Option Nat) : t_at (f_set1 z s f p) = t_at z := congrArg (fun q => q.2.2.2.2.2.2.2.2.2.2.2.2.2) (core_set1 z s f p)
theorem kl1_ldr (k : S_m) (s : Nat) (p : Option Nat) : k_ldr (f_kl1 k s p) = upd (k_ldr k) s (oI p) := congrArg (fun q => q.2.2.2.2.2.2.2.1) (kcore_kl1 k s p)
theorem kl1_off (k : S_m) (s : Nat) (p : Option Nat) : k_off (f_kl1 k s p) = offF (k_off k) (k_ns k) s p := by
  have h : k_off (f_kl1 k s p) = koff1 k s p := congrArg (fun q => q.2.2.2.2.2.2.2.2.1) (kcore_kl1 k s p)
  rw [h]
  cases p <;> rfl
def Cnt (z : S_c) (k : S_m) : Prop := (c_sec z = k_now k ∧ c_most z = k_span k ∧ c_np z = k_np k ∧ c_nu z = k_nu k ∧ c_ns z = k_ns k ∧ t_n z = k_nt k) ∧ (c_sec z ≤ 99999 ∧ c_most z ≤ 20 ∧ c_np z ≤ 40 ∧ c_nu z ≤ 20 ∧ 1 ≤ c_ns z ∧ c_ns z ≤ 20 ∧ t_n z ≤ 60)
def LDz (x : Option Nat) (z : S_c) : Prop := LD x (c_np z) (c_ns z) (c_sop z) (c_slb z) (c_ldr z) (c_off z) (c_opn z)
def EQ3 (z : S_c) (k : S_m) : Prop := k_ldr k = c_ldr z ∧ k_off k = c_off z ∧ k_rank k = c_rank z
def PA (a : Option Nat) (z : S_c) (k : S_m) : Prop := (∀ p, p < c_np z → k_in k p = c_sop z p) ∧ (∀ p, p < c_np z → ¬ a = some p → k_arr k p = c_arr z p) ∧ (∀ p, c_np z ≤ p → p < 40 → c_arr z p = -1)
def UN (z : S_c) (k : S_m) : Prop := (∀ u, u < c_nu z → k_uin k u = c_sou z u) ∧ (∀ u, c_nu z ≤ u → u < 20 → c_sou z u = -1)
def TR (z : S_c) (k : S_m) : Prop := (∀ j, j < c_ns z → k_abv k j = c_abv z j) ∧ (∀ j, j < 20 → okO 20 (k_abv k j)) ∧ (∀ j, j < 20 → okO (c_ns z) (c_abv z j)) ∧ (∀ j, j < c_ns z → ∃ n, itr (c_abv z) n (some j) = none)
def OJ (z : S_c) (k : S_m) : Prop := (∀ j, j < c_ns z → (k_jnd k j = 0 ↔ ¬ c_opn z j = 0)) ∧ (∀ j, c_ns z ≤ j → j < 20 → k_jnd k j = 0)
def stF (rep unt : Nat → Int32) (j t : Nat) : Int32 := if rep j = 0 then (if unt j < nI t then nI 3 else nI 0) else rep j
def TK (z : S_c) (k : S_m) : Prop := k_tof k = t_sec z ∧ k_unt k = t_unt z ∧ (∀ j, j < t_n z → k_ans k j = t_at z j ∧ k_sta k j = stF (t_rep z) (t_unt z) j (c_sec z) ∧ (t_rep z j = 0 ∨ t_rep z j = nI 1 ∨ t_rep z j = nI 2)) ∧ (∀ j, t_n z ≤ j → j < 60 → t_rep z j = 0 ∧ t_at z j = -1)
def RX (x a : Option Nat) (z : S_c) (k : S_m) : Prop := Cnt z k ∧ LDz x z ∧ EQ3 z k ∧ PA a z k ∧ UN z k ∧ TR z k ∧ TK z k ∧ RWs z k
def Rl (z : S_c) (k : S_m) : Prop := RX none none z k ∧ OJ z k
theorem rws_set {z : S_c} {k : S_m} (h : RWs z k) (hc : c_sec z = k_now k) (hb : k_now k ≤ 99999) {s : Nat} (hs : s < 20) (f p : Option Nat) : RWs (f_set1 z s f p) (f_kl1 k s p) := by
  have hw : ∀ z3 k3, RWs z3 k3 → c_sec z3 = k_now k3 → k_now k3 ≤ 99999 → RWs (f_note z3 (c_sec z3) (nI s) (oI p)) (f_row k3 (nI s) (oI p)) := fun z3 k3 q1 q2 q3 => RWs.row q1 q2 q3 hs (oI p)
  cases p with
  | none =>
    show RWs _ (f_kl0 k s none)
    unfold f_kl0
    cases f with
    | none => exact hw (c_off_ (c_ldr_ z (upd (c_ldr z) s (oI none))) (upd (c_off z) s (-1))) _ h hc hb
    | some q => exact hw (c_off_ (c_ldr_ (c_slb_ z (upd (c_slb z) q (-1))) (upd (c_ldr z) s (oI none))) (upd (c_off z) s (-1))) _ h hc hb
  | some r =>
    show RWs _ (f_kl0 k s (some r))
    unfold f_kl0
    cases f with
    | none => exact hw (c_off_ (c_slb_ (c_off_ (c_ldr_ z (upd (c_ldr z) s (oI (some r)))) (upd (c_off z) s (-1))) (upd (c_slb z) r (nI s))) (rep (upd (c_off z) s (-1)) (nI r) (-1) (c_ns z))) _ h hc hb
    | some q => exact hw (c_off_ (c_slb_ (c_off_ (c_ldr_ (c_slb_ z (upd (c_slb z) q (-1))) (upd (c_ldr z) s (oI (some r)))) (upd (c_off z) s (-1))) (upd (upd (c_slb z) q (-1)) r (nI s))) (rep (upd (c_off z) s (-1)) (nI r) (-1) (c_ns z))) _ h hc hb
theorem oI_inj {f p : Option Nat} (hf : ∀ q, f = some q → q < 40) (hp : ∀ q, p = some q → q < 40) (h : oI f = oI p) : f = p := by
  cases f with
  | none =>
    cases p with
    | none => rfl
    | some r => exact absurd h (m1n (by have := hp r rfl; omega))
  | some q =>
    cases p with
    | none => exact absurd h (nm1 (by have := hf q rfl; omega))
    | some r => rw [nIi (by have := hf q rfl; omega) (by have := hp r rfl; omega) h]
/-- a change of leaders, on both sides -/
theorem set_step {x y a : Option Nat} {z : S_c} {k : S_m} (h : RX x a z k) {s : Nat} (hs : s < c_ns z) {f p : Option Nat} (hf : c_ldr z s = oI f) (hf4 : ∀ q, f = some q → q < 40) (hne : ¬ f = p)
    (hp : ∀ q, p = some q → q < c_np z ∧ c_slb z q = -1 ∧ c_sop z q = nI s ∧ ¬ c_opn z s = 0) (hx : ∀ q, x = some q → y = some q ∨ f = some q) : RX y a (f_set1 z s f p) (f_kl k s p) := by
  obtain ⟨⟨⟨c1, c2, c3, c4, c5, c6⟩, b1, b2, b3, b4, b5, b6, b7⟩, hL, ⟨e1, e2, e3⟩, hP, hU, hT, hK, hR⟩ := h
  have e0 : ¬ k_ldr k s = oI p := fun e => hne (oI_inj hf4 (fun q w => by have := (hp q w).1; omega) (by rw [← hf, ← e1, e]))
  have ek : f_kl k s p = f_kl1 k s p := by rw [f_kl, if_neg e0]
  have hRW := rws_set hR c1 (by omega) (s := s) (by omega) f p
  rw [← ek] at hRW
  refine ⟨?_, ?_, ?_, ?_, ?_, ?_, ?_, hRW⟩
  · simp only [Cnt, set1_sec, set1_most, set1_np, set1_nu, set1_ns, set1_tn, kl_now, kl_span, kl_np, kl_nu, kl_ns, kl_nt]
    exact ⟨⟨c1, c2, c3, c4, c5, c6⟩, b1, b2, b3, b4, b5, b6, b7⟩
  · unfold LDz
    rw [set1_np, set1_ns, set1_sop, set1_slb, set1_ldr, set1_off, set1_opn]
    exact LD.set hL b3 b6 hs hf (fun q e w => hne (by rw [e, w])) hf4 hp hx
  · exact ⟨by rw [ek, kl1_ldr, set1_ldr, e1], by rw [ek, kl1_off, set1_off, e2, c5], by rw [kl_rank, set1_rank, e3]⟩
  · simp only [PA, set1_np, set1_sop, set1_arr, kl_in, kl_arr]
    exact hP
  · simp only [UN, set1_nu, set1_sou, kl_uin]
    exact hU
  · simp only [TR, set1_ns, set1_abv, kl_abv]
    exact hT
  · simp only [TK, set1_tsec, set1_tunt, set1_trep, set1_tat, set1_tn, set1_sec, kl_tof, kl_unt, kl_ans, kl_sta]
    exact hK
theorem leads_slb {x : Option Nat} {z : S_c} {k : S_m} (hL : LDz x z) (hns : c_ns z ≤ 20) (e : k_ldr k = c_ldr z) (en : c_ns z = k_ns k) {p : Nat} (hp : p < 40) : oI (f_leads k (nI p)) = c_slb z p := by
  obtain ⟨h1, h2, -⟩ := hL
  cases hl : f_leads k (nI p) with
  | none =>
    have hn := f_leads_none hl
    rcases h1 p hp with w | ⟨s, hs, w⟩
    · rw [w]
      rfl
    · have e2 := (h2 p s hp (by omega)).mp w
      rw [← e] at e2
      exact absurd e2 (hn s (by omega))
  | some s =>
    obtain ⟨q1, q2⟩ := f_leads_some hl
    rw [e] at q2
    exact ((h2 p s hp (by omega)).mpr q2).symm
theorem bef_eq {z : S_c} {k : S_m} {p q : Nat} (hr : k_rank k = c_rank z) (h1 : k_arr k p = c_arr z p) (h2 : k_arr k q = c_arr z q) : befB z p q = befK k p q := by
  unfold befB befK
  rw [hr, h1, h2]
  by_cases e : c_rank z p = c_rank z q
  · rw [if_pos e, decide_eq_true e, e, decide_eq_false Int32.lt_irrefl, Bool.false_or, Bool.true_and]
  · rw [if_neg e, decide_eq_false e, Bool.false_and, Bool.or_false]
theorem next_eq {z : S_c} {k : S_m} {a : Option Nat} {s : Int32} {N : Nat} (hmay : ∀ p, p < N → mayB z s p = mayK k s p) (hrank : k_rank k = c_rank z) (harr : ∀ p, p < N → ¬ a = some p → k_arr k p = c_arr z p) (ha : ∀ p, a = some p → mayB z s p = false) : ∀ n, n ≤ N → f_next z s n = f_knext k s n
  | 0, _ => rfl
  | n + 1, hn => by
    unfold f_next f_knext
    rw [← next_eq hmay hrank harr ha n (by omega), ← hmay n (by omega)]
    cases e : f_next z s n with
    | none => rfl
    | some q =>
      obtain ⟨q1, q2⟩ := f_next_lt e
      dsimp only
      by_cases hm : mayB z s n = true
      · have na : ¬ a = some n := fun w => by rw [ha n w] at hm; cases hm
        have qa : ¬ a = some q := fun w => by rw [ha q w] at q2; cases q2
        rw [bef_eq hrank (harr n (by omega) na) (harr q (by omega) qa)]
      · rw [if_neg (fun w => hm w.1), if_neg (fun w => hm w.1)]
theorem up_self {α : Type} (f : Nat → α) (i : Nat) : up f i (f i) = f := by
  funext j
  unfold up
  cases e : Nat.beq j i with
  | true =>
    have := Nat.eq_of_beq_eq_true e
    rw [this]
    rfl
  | false => rfl
theorem ldr_self (k : S_m) : k_ldr_ k (k_ldr k) = k := by
  show (k.1, k.2.1, up k.2.2 6 (k.2.2 6)) = k
  rw [up_self]
theorem lln_eq_none {z : S_c} {p : Nat} (h : c_slb z p = -1) : f_lln z p = z := by rw [f_lln, h, io_m]
theorem lln_eq_some {z : S_c} {p s : Nat} (hs : s < 20) (h : c_slb z p = nI s) : f_lln z p = f_set1 z s (some p) (f_next z (nI s) (c_np z)) := by rw [f_lln, h, io_n (by omega)]
/-- a person has gone: its lead goes to the next, on both sides -/
theorem lln_step {a : Option Nat} {z : S_c} {k : S_m} {p : Nat} {to : Option Nat} (h : RX (some p) a z (f_mv0 k p to)) (hp : p < c_np z) (ha : ∀ q, a = some q → q = p) (hto : ∀ s, s < 20 → c_slb z p = nI s → ¬ oI to = nI s) :
    RX none a (f_lln z p) (f_mv1 k p to) ∧ c_slb (f_lln z p) p = -1 ∧ c_opn (f_lln z p) = c_opn z ∧ k_jnd (f_mv1 k p to) = k_jnd k ∧ c_sop (f_lln z p) = c_sop z ∧ c_np (f_lln z p) = c_np z ∧ c_ns (f_lln z p) = c_ns z ∧ k_rows (f_mv1 k p to) ≤ k_rows k + 1 ∧ k_arr (f_mv1 k p to) = k_arr k ∧ c_arr (f_lln z p) = c_arr z := by
  have h' := h
  obtain ⟨⟨⟨c1, c2, c3, c4, c5, c6⟩, b1, b2, b3, b4, b5, b6, b7⟩, hL, ⟨e1, e2, e3⟩, hP, hU, hT, hK, hR⟩ := h
  have hls := leads_slb (p := p) hL b6 e1 c5 (by omega)
  have hls' : oI (f_leads k (nI p)) = c_slb z p := hls
  rcases hL.1 p (by omega) with w | ⟨s, hs, w⟩
  · have e4 : f_leads k (nI p) = none := by
      cases e5 : f_leads k (nI p) with
      | none => rfl
      | some t =>
        rw [e5, w] at hls'
        have := (f_leads_some e5).1
        have c5' : c_ns z = k_ns k := c5
        exact absurd hls' (nm1 (by omega))
    have e6 : f_mv1 k p to = f_mv0 k p to := by rw [f_mv1, e4]
    rw [lln_eq_none w, e6]
    exact ⟨⟨⟨⟨c1, c2, c3, c4, c5, c6⟩, b1, b2, b3, b4, b5, b6, b7⟩, hL.plain w, ⟨e1, e2, e3⟩, hP, hU, hT, hK, hR⟩, w, rfl, rfl, rfl, rfl, rfl, by show k_rows k ≤ _; omega, rfl, rfl⟩
  · have hlp := (hL.2.1 p s (by omega) (by omega)).mp w
    have e4 : f_leads k (nI p) = some s := by
      cases e5 : f_leads k (nI p) with
      | none =>
        rw [e5, w] at hls'
        exact absurd hls' (m1n (by omega))
      | some t =>
        rw [e5, w] at hls'
        have h1 := (f_leads_some e5).1
        have c5' : c_ns z = k_ns k := c5
        rw [nIi (by omega) (by omega) hls']
    have hkl : k_ldr k = c_ldr z := e1
    have e7 : f_mv3 k p s to = f_mv0 k p to := by
      have q : upd (upd (k_ldr k) s (-1)) s (nI p) = k_ldr (f_mv0 k p to) := by
        funext j
        rw [upd_at, upd_at]
        show _ = k_ldr k j
        by_cases e : j = s
        · rw [if_pos e, e, hkl, hlp]
        · rw [if_neg e, if_neg e]
      rw [f_mv3, q, ldr_self]
    have hsp : c_sop z p = oI to := by
      rw [← hP.1 p hp]
      show upd (k_in k) p (oI to) p = _
      rw [pk_us]
    have hnx : f_next z (nI s) (c_np z) = f_knext (f_mv2 k p s to) (nI s) (k_np k) := by
      rw [show k_np k = c_np z from c3.symm]
      refine next_eq (k := f_mv2 k p s to) (a := a) (N := c_np z) (fun q hq => ?_) e3 hP.2.1 (fun q hq => ?_) (c_np z) (Nat.le_refl _)
      · have hin : k_in (f_mv2 k p s to) q = c_sop z q := hP.1 q hq
        unfold mayB mayK
        rw [hin]
        by_cases eq : q = p
        · rw [eq, hsp, decide_eq_false (hto s (by omega) w), Bool.false_and, Bool.false_and]
        · congr 1
          have hq4 : q < 40 := by omega
          have hlq := leads_slb (p := q) hL b6 e1 c5 hq4
          cases e5 : f_leads (f_mv2 k p s to) (nI q) with
          | none =>
            have hn := f_leads_none e5
            have : c_slb z q = -1 := by
              rcases hL.1 q hq4 with w2 | ⟨t, ht, w2⟩
              · exact w2
              · have w3 := (hL.2.1 q t hq4 (by omega)).mp w2
                have w4 : upd (k_ldr k) s (-1) t = nI q := by
                  rw [upd_at, if_neg, hkl, w3]
                  intro w5
                  rw [w5, hlp] at w3
                  exact eq (nIi (by omega) (by omega) w3).symm
                have c5' : c_ns z = k_ns k := c5
                exact absurd w4 (hn t (by show t < k_ns k; omega))
            rw [this]
            rfl
          | some t =>
            obtain ⟨q1, q2⟩ := f_leads_some e5
            have q3 : upd (k_ldr k) s (-1) t = nI q := q2
            have q4 : t < k_ns k := q1
            have c5' : c_ns z = k_ns k := c5
            rw [upd_at] at q3
            by_cases w5 : t = s
            · rw [if_pos w5] at q3
              exact absurd q3 (m1n (by omega))
            · rw [if_neg w5, hkl] at q3
              have w6 := (hL.2.1 q t hq4 (by omega)).mpr q3
              rw [w6, decide_eq_false (nm1 (by omega))]
              rfl
      · rw [ha q hq, mayB, w, decide_eq_false (nm1 (p := s) (by omega)), Bool.and_false]
    have e6 : f_mv1 k p to = f_kl (f_mv0 k p to) s (f_next z (nI s) (c_np z)) := by
      rw [f_mv1, e4]
      dsimp only
      rw [e7, hnx]
    have hne : ¬ some p = f_next z (nI s) (c_np z) := fun e => next_ne (by omega) w e.symm rfl
    have hop : ¬ c_opn z s = 0 := fun e => by
      have := hL.2.2.2.2.2.2.2.2.1 s hs e
      rw [hlp] at this
      exact nm1 (by omega) this
    have hst := set_step (y := none) h' hs (f := some p) (p := f_next z (nI s) (c_np z)) hlp (fun q e => by cases e; omega) hne (fun q e => by
      obtain ⟨q1, q2⟩ := f_next_lt e
      simp only [mayB, Bool.and_eq_true, decide_eq_true_eq] at q2
      exact ⟨q1, q2.2, q2.1, hop⟩) (fun q e => Or.inr e)
    rw [lln_eq_some (by omega) w, e6]
    refine ⟨hst, ?_, set1_opn _ _ _ _, kl_jnd _ _ _, set1_sop _ _ _ _, set1_np _ _ _ _, set1_ns _ _ _ _, kl_rows (f_mv0 k p to) s _, kl_arr _ _ _, set1_arr _ _ _ _⟩
    rw [set1_slb, slbF_at, if_neg (fun e => hne e.symm), if_pos rfl]
/-- a person comes into a sector, on both sides -/
theorem come_step {z : S_c} {k : S_m} {p t : Nat} (h : RX (some p) none (c_sop_ z (upd (c_sop z) p (nI t))) (f_mv0 k p (some t))) (hp : p < c_np z) (ht : t < c_ns z) (hop : ¬ c_opn z t = 0) (hto : ∀ s, s < 20 → c_slb z p = nI s → ¬ nI t = nI s) :
    RX none none (f_come z p t) (f_moves k p (some t)) ∧ c_opn (f_come z p t) = c_opn z ∧ k_jnd (f_moves k p (some t)) = k_jnd k ∧ c_ns (f_come z p t) = c_ns z ∧ k_rows (f_moves k p (some t)) ≤ k_rows k + 2 := by
  obtain ⟨q1, q2, q3, q4, q5, q6, q7, q8, -, -⟩ := lln_step h hp (fun q e => nomatch e) hto
  have q1' := q1
  obtain ⟨⟨⟨c1, c2, c3, c4, c5, c6⟩, b1, b2, b3, b4, b5, b6, b7⟩, hL, ⟨e1, e2, e3⟩, hP, hU, hT, hK, hR⟩ := q1
  have hns : c_ns (c_sop_ z (upd (c_sop z) p (nI t))) = c_ns z := rfl
  have hnp : c_np (c_sop_ z (upd (c_sop z) p (nI t))) = c_np z := rfl
  have ht2 : t < c_ns (f_lln (c_sop_ z (upd (c_sop z) p (nI t))) p) := by rw [q7]; exact ht
  have hok := hL.2.2.1 t (by omega)
  have e4 : f_moves k p (some t) = if k_ldr (f_mv1 k p (some t)) t < 0 then f_kl (f_mv1 k p (some t)) t (some p) else f_mv1 k p (some t) := rfl
  have e5 : f_come z p t = if c_ldr (f_lln (c_sop_ z (upd (c_sop z) p (nI t))) p) t = -1 then f_set1 (f_lln (c_sop_ z (upd (c_sop z) p (nI t))) p) t none (some p) else f_lln (c_sop_ z (upd (c_sop z) p (nI t))) p := rfl
  rw [e4, e5, e1]
  by_cases hl : c_ldr (f_lln (c_sop_ z (upd (c_sop z) p (nI t))) p) t = -1
  · rw [if_pos hl, if_pos ((hok.neg (by omega)).mpr hl)]
    have hst := set_step (y := none) q1' ht2 (f := none) (p := some p) hl (fun q e => nomatch e) (fun e => nomatch e) (fun q e => by
      cases e
      refine ⟨by omega, q2, ?_, by rw [q3]; exact hop⟩
      rw [q5]
      show upd (c_sop z) p (nI t) p = _
      rw [pk_us]) (fun q e => nomatch e)
    have hr := kl_rows (f_mv1 k p (some t)) t (some p)
    exact ⟨hst, by rw [set1_opn, q3]; rfl, by rw [kl_jnd, q4], by rw [set1_ns, q7]; rfl, by omega⟩
  · rw [if_neg hl, if_neg (fun e => hl ((hok.neg (by omega)).mp e))]
    exact ⟨q1', by rw [q3]; rfl, q4, by rw [q7]; rfl, by omega⟩
theorem led_of {x : Option Nat} {z : S_c} (h : LDz x z) (hns : c_ns z ≤ 20) : Led z := ⟨fun p hp => (h.1 p hp).mono hns, fun p s hp hs e => (h.2.1 p s hp hs).mp e⟩

