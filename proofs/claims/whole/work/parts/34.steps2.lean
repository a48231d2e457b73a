/-! JOIN, OFFER, TAKE on both sides -/
theorem upd_self {f : Nat → Int32} {i : Nat} {v : Int32} (h : f i = v) : upd f i v = f := by
  funext j
  rw [upd_at]
  split
  · rename_i e
    rw [e, h]
  · rfl
theorem may_eq {z : S_c} {k : S_m} (h : RX none none z k) (s : Int32) : ∀ p, p < c_np z → mayB z s p = mayK k s p := by
  obtain ⟨⟨⟨c1, c2, c3, c4, c5, c6⟩, b1, b2, b3, b4, b5, b6, b7⟩, hL, ⟨e1, e2, e3⟩, hP, hU, hT, hK, hR⟩ := h
  intro p hp
  unfold mayB mayK
  rw [hP.1 p hp, ← leads_slb hL b6 e1 c5 (p := p) (by omega)]
  congr 1
  cases e : f_leads k (nI p) with
  | none => rfl
  | some t =>
    have ht := (f_leads_some e).1
    rw [show oI (some t) = nI t from rfl, decide_eq_false (nm1 (by omega))]
    rfl
theorem fill_step {z : S_c} {k : S_m} (h : RX none none z k) {b : Nat} (hb : b < c_ns z) (ho : ¬ c_opn z b = 0) : RX none none (f_fill z b) (f_kfill k b) ∧ c_opn (f_fill z b) = c_opn z ∧ k_jnd (f_kfill k b) = k_jnd k ∧ c_ns (f_fill z b) = c_ns z ∧ k_rows (f_kfill k b) ≤ k_rows k + 1 ∧ k_thr (f_kfill k b) = k_thr k := by
  have hm := may_eq h (nI b)
  have h' := h
  obtain ⟨⟨⟨c1, c2, c3, c4, c5, c6⟩, b1, b2, b3, b4, b5, b6, b7⟩, hL, ⟨e1, e2, e3⟩, hP, hU, hT, hK, hR⟩ := h
  have hng := (hL.2.2.1 b (by omega)).neg (by omega)
  have hnx : f_next z (nI b) (c_np z) = f_knext k (nI b) (k_np k) := by
    rw [← c3]
    exact next_eq (a := none) hm e3 hP.2.1 (fun q e => nomatch e) (c_np z) (Nat.le_refl _)
  by_cases hl : c_ldr z b = -1
  · have ek : f_kfill k b = f_kl k b (f_next z (nI b) (c_np z)) := by
      rw [f_kfill, e1, if_pos (hng.mpr hl), hnx]
    cases hx : f_next z (nI b) (c_np z) with
    | none =>
      have e4 : f_fill z b = z := by rw [f_fill, if_pos hl, hx]
      have e5 : f_kfill k b = k := by rw [ek, hx, f_kl, e1, hl, if_pos (show (-1 : Int32) = oI none from rfl)]
      rw [e4, e5]
      exact ⟨h', rfl, rfl, rfl, by omega, rfl⟩
    | some r =>
      have e4 : f_fill z b = f_set1 z b none (some r) := by rw [f_fill, if_pos hl, hx]
      rw [e4, ek, hx]
      refine ⟨set_step (y := none) h' hb hl (fun q e => nomatch e) (fun e => nomatch e) (fun q e => ?_) (fun q e => nomatch e), set1_opn _ _ _ _, kl_jnd _ _ _, set1_ns _ _ _ _, kl_rows _ _ _, kl_thr _ _ _⟩
      cases e
      obtain ⟨q1, q2⟩ := f_next_lt hx
      simp only [mayB, Bool.and_eq_true, decide_eq_true_eq] at q2
      exact ⟨q1, q2.2, q2.1, ho⟩
  · have e4 : f_fill z b = z := by rw [f_fill, if_neg hl]
    have e5 : f_kfill k b = k := by rw [f_kfill, e1, if_neg (fun q => hl (hng.mp q))]
    rw [e4, e5]
    exact ⟨h', rfl, rfl, rfl, by omega, rfl⟩
theorem unl_step {z : S_c} {k : S_m} (h : RX none none z k) {a : Nat} (ha : a < c_ns z) : RX none none (f_unl z a) (f_kl k a none) ∧ c_ldr (f_unl z a) a = -1 ∧ c_opn (f_unl z a) = c_opn z ∧ c_abv (f_unl z a) = c_abv z := by
  have h' := h
  obtain ⟨⟨⟨c1, c2, c3, c4, c5, c6⟩, b1, b2, b3, b4, b5, b6, b7⟩, hL, ⟨e1, e2, e3⟩, hP, hU, hT, hK, hR⟩ := h
  rcases hL.2.2.1 a (by omega) with w | ⟨q, hq, w⟩
  · have e4 : f_unl z a = z := by rw [f_unl, w, io_m]
    have e5 : f_kl k a none = k := by rw [f_kl, e1, w, if_pos (show (-1 : Int32) = oI none from rfl)]
    rw [e4, e5]
    exact ⟨h', w, rfl, rfl⟩
  · have e4 : f_unl z a = f_set1 z a (some q) none := by rw [f_unl, w, io_n (by omega)]
    rw [e4]
    refine ⟨set_step (y := none) h' ha w (fun q' e => by cases e; omega) (fun e => nomatch e) (fun q e => nomatch e) (fun q e => nomatch e), ?_, set1_opn _ _ _ _, set1_abv _ _ _ _⟩
    rw [set1_ldr, pk_us]
    rfl
theorem sta_iff {rep unt : Nat → Int32} {j t : Nat} (h : rep j = 0 ∨ rep j = nI 1 ∨ rep j = nI 2) : (stF rep unt j t = 0 ∨ stF rep unt j t = nI 3) ↔ rep j = 0 := by
  unfold stF
  by_cases e : rep j = 0
  · rw [if_pos e]
    split
    · exact ⟨fun _ => e, fun _ => Or.inr rfl⟩
    · exact ⟨fun _ => e, fun _ => Or.inl (by decide)⟩
  · rw [if_neg e]
    rcases h with w | w | w
    · exact absurd w e
    · rw [w]
      decide
    · rw [w]
      decide
theorem mv_step2 {z : S_c} {k : S_m} (h : RX none none z k) {a b : Nat} (ha : a < c_ns z) (hb : b < c_ns z) (h0 : ¬ a = 0) (hl : c_ldr z a = -1) (hsb : sob (c_abv z) a 20 (some b) = false) (hoj : ∀ j, j < c_ns z → (k_jnd k j = 0 ↔ ¬ upd (c_opn z) a (nI 0) j = 0)) : RX none none (f_mv z a b) (f_kjs k a b) := by
  obtain ⟨⟨⟨c1, c2, c3, c4, c5, c6⟩, b1, b2, b3, b4, b5, b6, b7⟩, hL, ⟨e1, e2, e3⟩, hP, hU, ⟨t1, t2, t3, t4⟩, ⟨k1, k2, k3, k4⟩, hR⟩ := h
  have hg : ∀ j, (fun j => if (0 ≤ j ∧ j < c_ns z) ∧ (¬ upd (c_opn z) a (nI 0) j = 0 ∧ c_abv z j = nI a) then nI b else c_abv z j) j = c_abv z j ∨ (c_abv z j = nI a ∧ (fun j => if (0 ≤ j ∧ j < c_ns z) ∧ (¬ upd (c_opn z) a (nI 0) j = 0 ∧ c_abv z j = nI a) then nI b else c_abv z j) j = nI b) := fun j => by
    by_cases q : (0 ≤ j ∧ j < c_ns z) ∧ (¬ upd (c_opn z) a (nI 0) j = 0 ∧ c_abv z j = nI a)
    · right
      exact ⟨q.2.2, if_pos q⟩
    · left
      exact if_neg q
  have hi20 := itr_20 (N := c_ns z) (fun j hj => t3 j (by omega)) b6 hb (t4 b hb)
  have hib := itr_join1 (by omega) hg 20 (some b) hi20 hsb
  refine ⟨⟨⟨c1, c2, c3, c4, c5, c6⟩, b1, b2, b3, b4, b5, b6, b7⟩, ?_, ⟨e1, e2, e3⟩, ⟨fun p hp => ?_, hP.2.1, hP.2.2⟩, ⟨fun u hu => ?_, fun u hu hu2 => ?_⟩, ⟨fun j hj => ?_, fun j hj => ?_, fun j hj => ?_, fun j hj => ?_⟩, ⟨?_, k2, k3, k4⟩, hR⟩
  · obtain ⟨h1, h2, h3, h4, h5, h6, h7, h8, h9, h10⟩ := hL
    show LD none (c_np z) (c_ns z) (rep (c_sop z) (nI a) (nI b) (c_np z)) (c_slb z) (c_ldr z) (c_off z) (upd (c_opn z) a (nI 0))
    refine ⟨h1, h2, h3, fun p s hp hs hx e => ?_, fun p hp => ?_, fun p hp hp2 => ?_, h7, fun s p hs hp e => ?_, fun s hs e => ?_, ?_⟩
    · have w := h4 p s hp hs hx e
      rw [rep, if_neg, w]
      intro q
      rw [w] at q
      have : s = a := nIi (by omega) (by omega) q.2
      rw [this, hl] at e
      exact m1n (by omega) e
    · rw [rep]
      split
      · exact okO.of hb
      · exact h5 p hp
    · rw [rep, if_neg (by omega)]
      exact h6 p hp hp2
    · obtain ⟨q1, q2, q3⟩ := h8 s p hs hp e
      refine ⟨q1, ?_, q3⟩
      rw [rep]
      split
      · exact nm1 (by omega)
      · exact q2
    · rw [upd_at] at e
      split at e
      · rename_i e9
        rw [e9]
        exact hl
      · exact h9 s hs e
    · rw [upd_at, if_neg (fun e => h0 e.symm)]
      exact h10
  · show rep (k_in k) (nI a) (nI b) (k_np k) p = rep (c_sop z) (nI a) (nI b) (c_np z) p
    rw [rep, rep, hP.1 p hp, c3]
  · show rep (k_uin k) (nI a) (nI b) (k_nu k) u = rep (c_sou z) (nI a) (nI b) (c_nu z) u
    rw [rep, rep, hU.1 u hu, c4]
  · show rep (c_sou z) (nI a) (nI b) (c_nu z) u = -1
    have hu' : c_nu z ≤ u := hu
    rw [rep, if_neg (by omega)]
    exact hU.2 u hu hu2
  · show (if (0 ≤ j ∧ j < k_ns k) ∧ (k_abv k j = nI a ∧ k_jnd k j = 0) then nI b else k_abv k j) = (if (0 ≤ j ∧ j < c_ns z) ∧ (¬ upd (c_opn z) a (nI 0) j = 0 ∧ c_abv z j = nI a) then nI b else c_abv z j)
    have hj' : j < c_ns z := hj
    rw [t1 j hj', ← c5]
    by_cases q : (0 ≤ j ∧ j < c_ns z) ∧ (¬ upd (c_opn z) a (nI 0) j = 0 ∧ c_abv z j = nI a)
    · rw [if_pos q, if_pos ⟨q.1, q.2.2, (hoj j hj').mpr q.2.1⟩]
    · rw [if_neg q, if_neg (fun w => q ⟨w.1, (hoj j hj').mp w.2.2, w.2.1⟩)]
  · show okO 20 (if (0 ≤ j ∧ j < k_ns k) ∧ (k_abv k j = nI a ∧ k_jnd k j = 0) then nI b else k_abv k j)
    split
    · exact okO.of (by omega)
    · exact t2 j hj
  · show okO (c_ns z) (if (0 ≤ j ∧ j < c_ns z) ∧ (¬ upd (c_opn z) a (nI 0) j = 0 ∧ c_abv z j = nI a) then nI b else c_abv z j)
    split
    · exact okO.of hb
    · exact t3 j hj
  · obtain ⟨n, hn⟩ := t4 j hj
    exact itr_join2 (by omega) hg hib n (some j) hn
  · show (fun j => if (0 ≤ j ∧ j < k_nt k) ∧ (k_tof k j = nI a ∧ (k_sta k j = 0 ∨ k_sta k j = nI 3)) then nI b else k_tof k j) = (fun j => if (0 ≤ j ∧ j < t_n z) ∧ (t_sec z j = nI a ∧ t_rep z j = 0) then nI b else t_sec z j)
    funext j
    rw [k1, ← c6]
    by_cases q : (0 ≤ j ∧ j < t_n z) ∧ (t_sec z j = nI a ∧ t_rep z j = 0)
    · obtain ⟨-, w2, w3⟩ := k3 j q.1.2
      rw [if_pos q, if_pos ⟨q.1, q.2.1, by rw [w2]; exact (sta_iff w3).mpr q.2.2⟩]
    · rw [if_neg q, if_neg (fun w => q ⟨w.1, w.2.1, ?_⟩)]
      obtain ⟨-, w2, w3⟩ := k3 j w.1.2
      rw [w2] at w
      exact (sta_iff w3).mp w.2.2
theorem st_join (X : ct_X) (z : S_c) (k : S_m) (h : Rl z k) (hr : k_rows k < 100000) (x y : Int32) : St0 X m_C_join m_M_join [.int x, .int y] [2, 3] z k := by
  have h' := h
  obtain ⟨hX, hO⟩ := h
  have hX' := hX
  obtain ⟨⟨⟨c1, c2, c3, c4, c5, c6⟩, b1, b2, b3, b4, b5, b6, b7⟩, hL, ⟨e1, e2, e3⟩, hP, hU, ⟨t1, t2, t3, t4⟩, hK, hR⟩ := hX
  rcases int_cases (n := c_ns z) (by omega) x with hx | ⟨a, ha, rfl⟩
  · exact st0_err 0 (fun o => c_join_0 X z k o x y hx) (fun o => k_join_0 X z k o x (by rw [← c5]; exact hx) (by omega) y) h' rfl
  · rcases int_cases (n := c_ns z) (by omega) y with hy | ⟨b, hb, rfl⟩
    · exact st0_err 0 (fun o => c_join_1 X z k o a ha b6 y hy) (fun o => k_join_1 X z k o a (by omega) (by omega) y (by rw [← c5]; exact hy)) h' rfl
    · by_cases h1 : c_opn z a = 0
      · exact st0_err 1 (fun o => c_join_2 X z k o a ha b6 b hb h1) (fun o => k_join_2 X z k o a (by omega) (by omega) b (by omega) (fun q => (hO.1 a ha).mp q h1)) h' rfl
      · have j1 := (hO.1 a ha).mpr h1
        by_cases h2 : c_opn z b = 0
        · exact st0_err 1 (fun o => c_join_3 X z k o a ha b6 b hb h1 h2) (fun o => k_join_3 X z k o a (by omega) (by omega) b (by omega) j1 (fun q => (hO.1 b hb).mp q h2)) h' rfl
        · have j2 := (hO.1 b hb).mpr h2
          by_cases h0 : a = 0
          · subst h0
            exact st0_err 1 (fun o => c_join_4 X z k o ha b6 b hb h1 h2) (fun o => k_join_4 X z k o (by omega) (by omega) b (by omega) j1 j2) h' rfl
          · have hok : ∀ j, j < c_ns z → okO (c_ns z) (c_abv z j) := fun j hj => t3 j (by omega)
            have hab : ∀ j, j < 20 → okO 20 (c_abv z j) := fun j hj => (t3 j hj).mono b6
            have hi20 := itr_20 (N := c_ns z) hok b6 hb (t4 b hb)
            have hbs : ∀ j, some b = some j → j < c_ns z := fun j e => by cases e; exact hb
            have hik : itr (k_abv k) 20 (some b) = none := by rw [itr_congr (by omega) hok t1 20 (some b) hbs]; exact hi20
            have hsk : sob (k_abv k) a 20 (some b) = f_sob z a 20 (some b) := by rw [sob_congr (by omega) hok t1 a 20 (some b) hbs, f_sob_eq]
            cases h3 : f_sob z a 20 (some b) with
            | true => exact st0_err 1 (fun o => c_join_5 X z k o a ha b6 b hb h1 h2 h0 hab h3) (fun o => k_join_5 X z k o a (by omega) (by omega) b (by omega) j1 j2 h0 t2 hik (by rw [hsk]; exact h3)) h' rfl
            | false =>
              have hne : ¬ b = a := fun e => by
                rw [e] at h3
                unfold f_sob at h3
                rw [if_pos rfl] at h3
                cases h3
              have hXj : RX none none z (k_jnd_ (k_thr_ k (nI 0)) (upd (k_jnd k) a (nI 1))) := hX'
              obtain ⟨q1, q2, q3, q4⟩ := unl_step hXj ha
              have q1' := q1
              obtain ⟨gC, gL, ⟨g1, g2, g3⟩, gP, gU, gT, gK, gR⟩ := q1
              have hns : c_ns (f_unl z a) = c_ns z := unl_ns z a
              have hoa : c_off (f_unl z a) a = -1 := by
                rcases gL.2.2.2.2.2.2.1 a (by omega) with w | ⟨p, hp, w⟩
                · exact w
                · have hp2 : c_np (f_unl z a) = c_np z := unl_np z a
                  exact absurd q2 (gL.2.2.2.2.2.2.2.1 a p (by omega) (by omega) w).2.2
              have hX0 : RX none none (f_unl z a) (f_kj0 k a) := by
                refine ⟨gC, gL, ⟨g1, ?_, g3⟩, gP, gU, gT, gK, gR⟩
                show upd (k_off (f_kl _ a none)) a (-1) = _
                rw [g2, upd_self hoa]
              have hj0 : k_jnd (f_kj0 k a) = upd (k_jnd k) a (nI 1) := kl_jnd (k_jnd_ (k_thr_ k (nI 0)) (upd (k_jnd k) a (nI 1))) a none
              have hojn : ∀ j, j < c_ns z → (k_jnd (f_kj0 k a) j = 0 ↔ ¬ upd (c_opn (f_unl z a)) a (nI 0) j = 0) := fun j hj => by
                rw [hj0, q3, upd_at, upd_at]
                split
                · exact ⟨fun e => absurd e (by decide), fun e => absurd (by decide) e⟩
                · exact hO.1 j hj
              have hX1 := mv_step2 (a := a) (b := b) hX0 (by omega) (by omega) h0 q2 (by rw [q4, ← f_sob_eq]; exact h3) (fun j hj => hojn j (by omega))
              obtain ⟨w1, w2, w3, w4, w5, w6⟩ := fill_step (b := b) hX1 (by show b < c_ns (f_unl z a); omega) (by
                show ¬ upd (c_opn (f_unl z a)) a (nI 0) b = 0
                rw [upd_at, if_neg hne, q3]
                exact h2)
              refine ⟨_, _, _, fun o => c_join_6 X z k o a ha b6 b hb b3 b4 b7 b1 hR.rg h1 h2 h0 hab h3 ((hL.2.2.1 a (by omega)).mono b3), fun o => k_join_6 X _ k o a (by omega) (by omega) b (by omega) j1 j2 h0 t2 hik (by rw [hsk]; exact h3) (by omega) (by omega) (by omega) (by omega) hR.rowK, ⟨w1, ?_⟩, ?_, Or.inl ⟨rfl, ?_⟩⟩
              · have hj3 : k_jnd (f_kjs (f_kj0 k a) a b) = k_jnd (f_kj0 k a) := rfl
                have ho3 : c_opn (f_mv (f_unl z a) a b) = upd (c_opn (f_unl z a)) a (nI 0) := rfl
                have hn3 : c_ns (f_mv (f_unl z a) a b) = c_ns (f_unl z a) := rfl
                unfold OJ
                rw [w2, w3, w4, hj3, ho3, hn3, hns]
                refine ⟨hojn, fun j hj hj2 => ?_⟩
                rw [hj0, upd_at, if_neg (by omega)]
                exact hO.2 j hj hj2
              · have v1 : k_rows (f_kj0 k a) ≤ k_rows k + 1 := kl_rows (k_jnd_ (k_thr_ k (nI 0)) (upd (k_jnd k) a (nI 1))) a none
                have v2 : k_rows (f_kjs (f_kj0 k a) a b) = k_rows (f_kj0 k a) := rfl
                omega
              · rw [w6]
                show k_thr (f_kl _ a none) = _
                rw [kl_thr]
                rfl
theorem st_offer (X : ct_X) (z : S_c) (k : S_m) (h : Rl z k) (x y : Int32) : St0 X m_C_offer m_M_offer [.int x, .int y] [2, 3] z k := by
  have h' := h
  obtain ⟨⟨⟨⟨c1, c2, c3, c4, c5, c6⟩, b1, b2, b3, b4, b5, b6, b7⟩, hL, ⟨e1, e2, e3⟩, hP, hU, hT, hK, hR⟩, hO⟩ := h
  rcases int_cases (n := c_ns z) (by omega) x with hx | ⟨s, hs, rfl⟩
  · exact st0_err 0 (fun o => c_offer_0 X z k o x y hx) (fun o => k_offer_0 X z k o x (by rw [← c5]; exact hx) (by omega) y) h' rfl
  · rcases int_cases (n := c_np z) (by omega) y with hy | ⟨p, hp, rfl⟩
    · exact st0_err 0 (fun o => c_offer_1 X z k o s hs b6 y hy) (fun o => k_offer_1 X z k o s (by omega) (by omega) y (by rw [← c3]; exact hy) (by omega)) h' rfl
    · by_cases h1 : c_opn z s = 0
      · exact st0_err 1 (fun o => c_offer_2 X z k o s hs b6 p hp b3 h1) (fun o => k_offer_2 X z k o s (by omega) (by omega) p (by omega) (by omega) (fun q => (hO.1 s hs).mp q h1)) h' rfl
      · have j1 := (hO.1 s hs).mpr h1
        have hng := (hL.2.2.1 s (by omega)).neg (by omega)
        have hns := (hL.2.2.2.2.1 p (by omega)).neg (by omega)
        by_cases h2 : c_ldr z s = -1
        · exact st0_err 1 (fun o => c_offer_3 X z k o s hs b6 p hp b3 h1 h2) (fun o => k_offer_3 X z k o s (by omega) (by omega) p (by omega) (by omega) j1 (by rw [e1]; exact hng.mpr h2)) h' rfl
        · have j2 : ¬ k_ldr k s < 0 := by rw [e1]; exact fun q => h2 (hng.mp q)
          by_cases h3 : c_sop z p = -1
          · exact st0_err 1 (fun o => c_offer_4 X z k o s hs b6 p hp b3 h1 h2 h3) (fun o => k_offer_4 X z k o s (by omega) (by omega) p (by omega) (by omega) j1 j2 (by rw [hP.1 p hp]; exact hns.mpr h3)) h' rfl
          · have j3 : ¬ k_in k p < 0 := by rw [hP.1 p hp]; exact fun q => h3 (hns.mp q)
            have hls := leads_slb hL b6 e1 c5 (p := p) (by omega)
            by_cases h4 : c_slb z p = -1
            · have j4 : f_leads k (nI p) = none := by
                cases e : f_leads k (nI p) with
                | none => rfl
                | some t =>
                  rw [e, h4] at hls
                  have ht := (f_leads_some e).1
                  exact absurd hls (nm1 (by omega))
              refine ⟨_, _, _, fun o => c_offer_6 X z k o s hs b6 p hp b3 h1 h2 h3 h4, fun o => k_offer_6 X _ k o s (by omega) (by omega) p (by omega) (by omega) j1 j2 j3 j4, ⟨⟨⟨⟨c1, c2, c3, c4, c5, c6⟩, b1, b2, b3, b4, b5, b6, b7⟩, ?_, ⟨e1, ?_, e3⟩, hP, hU, hT, hK, hR⟩, hO⟩, (by show k_rows k ≤ k_rows k + 2; omega), Or.inl ⟨rfl, rfl⟩⟩
              · obtain ⟨l1, l2, l3, l4, l5, l6, l7, l8, l9, l10⟩ := hL
                refine ⟨l1, l2, l3, l4, l5, l6, fun t ht => ?_, fun t q ht hq e => ?_, l9, l10⟩
                · show okO (c_np z) (upd (c_off z) s (nI p) t)
                  rw [upd_at]
                  split
                  · exact okO.of hp
                  · exact l7 t ht
                · have e' : upd (c_off z) s (nI p) t = nI q := e
                  rw [upd_at] at e'
                  split at e'
                  · rename_i e9
                    have := nIi (by omega) (by omega) e'
                    subst this
                    rw [e9]
                    exact ⟨h4, h3, h2⟩
                  · exact l8 t q ht hq e'
              · show upd (k_off k) s (nI p) = upd (c_off z) s (nI p)
                rw [e2]
            · cases e : f_leads k (nI p) with
              | none =>
                rw [e] at hls
                exact absurd hls.symm h4
              | some t => exact st0_err 1 (fun o => c_offer_5 X z k o s hs b6 p hp b3 h1 h2 h3 h4) (fun o => k_offer_5 X z k o s (by omega) (by omega) p (by omega) (by omega) j1 j2 j3 t e) h' rfl
theorem st_take (X : ct_X) (z : S_c) (k : S_m) (h : Rl z k) (hr : k_rows k < 100000) (x y : Int32) : St0 X m_C_take m_M_take [.int x, .int y] [2, 3] z k := by
  have h' := h
  obtain ⟨⟨⟨⟨c1, c2, c3, c4, c5, c6⟩, b1, b2, b3, b4, b5, b6, b7⟩, hL, ⟨e1, e2, e3⟩, hP, hU, hT, hK, hR⟩, hO⟩ := h
  rcases int_cases (n := c_ns z) (by omega) x with hx | ⟨s, hs, rfl⟩
  · exact st0_err 0 (fun o => c_take_0 X z k o x y hx) (fun o => k_take_0 X z k o x (by rw [← c5]; exact hx) (by omega) y) h' rfl
  · rcases int_cases (n := c_np z) (by omega) y with hy | ⟨p, hp, rfl⟩
    · exact st0_err 0 (fun o => c_take_1 X z k o s hs b6 y hy) (fun o => k_take_1 X z k o s (by omega) (by omega) y (by rw [← c3]; exact hy) (by omega)) h' rfl
    · by_cases h1 : c_off z s = nI p
      · obtain ⟨o1, o2, o3⟩ := hL.2.2.2.2.2.2.2.1 s p (by omega) (by omega) h1
        rcases hL.2.2.1 s (by omega) with w | ⟨q, hq, w⟩
        · exact absurd w o3
        · have hqp : ¬ q = p := fun e => by
            have e9 := (hL.2.1 q s (by omega) (by omega)).mpr w
            rw [e, o1] at e9
            exact m1n (by omega) e9
          have hop : ¬ c_opn z s = 0 := fun e => o3 (hL.2.2.2.2.2.2.2.2.1 s hs e)
          have hst := set_step (x := none) (y := none) (a := none) (z := c_sop_ z (upd (c_sop z) p (nI s))) (k := k_in_ (k_thr_ k (nI 0)) (upd (k_in k) p (nI s))) (s := s) (f := some q) (p := some p) ⟨⟨⟨c1, c2, c3, c4, c5, c6⟩, b1, b2, b3, b4, b5, b6, b7⟩, (LD.go hL hp b3 hs b6).plain o1, ⟨e1, e2, e3⟩, ⟨fun q hq => ?_, hP.2.1, hP.2.2⟩, hU, hT, hK, hR⟩ hs w (fun q' e => by cases e; omega) (fun e => hqp (by cases e; rfl)) (fun q' e => ?_) (fun q' e => nomatch e)
          · refine ⟨_, _, _, fun o => c_take_3 X z k o s hs b6 p hp b3 h1 q (by omega) w hqp hR.rg, fun o => k_take_3 X _ k o s (by omega) (by omega) p (by omega) (by omega) (by rw [e2]; exact h1) (by omega) hR.rowK, ⟨hst, ?_⟩, ?_, Or.inl ⟨rfl, ?_⟩⟩
            · unfold OJ
              rw [set1_opn, kl_jnd, set1_ns]
              exact hO
            · have := kl_rows (k_in_ (k_thr_ k (nI 0)) (upd (k_in k) p (nI s))) s (some p)
              have e9 : k_rows (k_in_ (k_thr_ k (nI 0)) (upd (k_in k) p (nI s))) = k_rows k := rfl
              omega
            · rw [kl_thr]
              rfl
          · show upd (k_in k) p (nI s) q = upd (c_sop z) p (nI s) q
            rw [upd_at, upd_at, hP.1 q hq]
          · cases e
            refine ⟨hp, o1, ?_, hop⟩
            show upd (c_sop z) p (nI s) p = nI s
            rw [pk_us]
      · exact st0_err 1 (fun o => c_take_2 X z k o s hs b6 p hp b3 h1) (fun o => k_take_2 X z k o s (by omega) (by omega) p (by omega) (by omega) (by rw [e2]; exact h1)) h' rfl
