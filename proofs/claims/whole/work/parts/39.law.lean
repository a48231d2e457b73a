/-! THE FIRST STATES AGREE; THE LAW (rows printed by wip/whole/m14.py) -/
theorem fl_in {n j : Nat} (h : j < n) : fl zf (-1) n j = -1 := if_pos h
theorem rl0 : Rl z0 k0 := by
  refine ⟨⟨⟨⟨rfl, rfl, rfl, rfl, rfl, rfl⟩, ?_⟩, ?_, ⟨rfl, rfl, rfl⟩, ⟨fun p hp => absurd hp (Nat.not_lt_zero _), fun p hp => absurd hp (Nat.not_lt_zero _), fun p _ hp => fl_in hp⟩, ⟨fun p hp => absurd hp (Nat.not_lt_zero _), fun u _ hu => fl_in hu⟩, ⟨fun j hj => ?_, fun j hj => ?_, fun j hj => Or.inl (fl_in hj), fun j hj => ?_⟩, ⟨rfl, rfl, fun p hp => absurd hp (Nat.not_lt_zero _), fun j _ hj => ⟨rfl, fl_in hj⟩⟩, ?_⟩, fun j hj => ?_, fun j _ _ => rfl⟩
  · exact ⟨by decide, by decide, by decide, by decide, by decide, by decide, by decide⟩
  · show LD none 0 1 (fl zf (-1) 40) (fl zf (-1) 40) (fl zf (-1) 20) (fl zf (-1) 20) (upd zf 0 (nI 1))
    refine ⟨fun p hp => Or.inl (fl_in hp), fun p s hp hs => ?_, fun s hs => Or.inl (fl_in hs), fun p s hp hs _ e => ?_, fun p hp => Or.inl (fl_in hp), fun p _ hp => fl_in hp, fun s hs => Or.inl (fl_in hs), fun s p hs hp e => ?_, fun s hs _ => fl_in (by omega), by decide⟩
    · rw [fl_in hp, fl_in hs]
      exact ⟨fun q => absurd q (m1n (by omega)), fun q => absurd q (m1n (by omega))⟩
    · rw [fl_in hs] at e
      exact absurd e (m1n (by omega))
    · rw [fl_in hs] at e
      exact absurd e (m1n (by omega))
  · have hj' : j < 1 := hj
    have e : j = 0 := by omega
    subst e
    rfl
  · show okO 20 (upd zf 0 (-1) j)
    rw [upd_at]
    split
    · exact Or.inl rfl
    · exact Or.inr ⟨0, by decide, rfl⟩
  · have hj' : j < 1 := hj
    have e : j = 0 := by omega
    subst e
    exact ⟨1, rfl⟩
  · show RW 0 0 0 zf zf zf (fl zf (-1) 20) 0 zf zf zf (fl zf (-1) 20) (-1) 0
    exact ⟨rfl, rfl, ⟨rfl, rfl, rfl, rfl⟩, fun i _ => ⟨0, by decide, rfl⟩, fun i _ => ⟨0, by decide, rfl⟩, fun _ => ⟨rfl, rfl⟩, fun h => absurd h (by omega), fun i h => absurd h (by omega), fun i j _ h => absurd h (by omega)⟩
  · have hj' : j < 1 := hj
    have e : j = 0 := by omega
    subst e
    exact ⟨fun _ => by decide, fun _ => rfl⟩
theorem law_all (X : ct_X) (hL : xL X ≤ 1536) : AM X m_L_law 11 1090 11814 [.ref scr] [] (fun r _ => r = .inl (some (.int (nI 1)))) := by
  refine AM.of rfl (Nat.le_of_ble_eq_true rfl) (ls := [some (.ref scr), none, none, none, none, none, none]) rfl ?_
  refine AW.new (pc' := 3) (n := 0) (cb' := 1) (sb' := 16) (w' := [.inr (2, [.int (nI 0), .int (nI 0), .int (nI 0), .null, .null, .null, .null, .int (nI 0), .null, .int (nI 0), .null, .null, .null, .null, .null, .null])]) d_L_law_0 rfl nw_C (fun _ => rfl) rfl ⟨rfl, rfl, rfl, rfl⟩ rfl rfl rfl rfl rfl rfl ?_
  refine AW.dup (pc' := 4) d_L_law_3 rfl rfl ?_
  refine AW.cI (pc' := 7) (mc' := 19) (ms' := 1732) (cb' := 20) (sb' := 1748) (w' := [.inr (2, [.int (nI 0), .int (nI (5)), .int (nI 0), .ref 1, .ref 2, .ref 3, .ref 4, .int (nI 0), .ref 5, .int (nI (1)), .ref 6, .ref 7, .ref 8, .ref 9, .ref 10, .ref 15]), .inl (0, 40, .inl (zf)), .inl (0, 40, .inl (fl zf (-1) 40)), .inl (0, 40, .inl (fl zf (-1) 40)), .inl (0, 40, .inl (fl zf (-1) 40)), .inl (0, 20, .inl (fl zf (-1) 20)), .inl (1, 20, .inl (upd zf 0 (nI 1))), .inl (0, 20, .inl (fl zf (-1) 20)), .inl (0, 20, .inl (fl zf (-1) 20)), .inl (0, 20, .inl (fl zf (-1) 20)), .inr (1, [.int (nI 0), .ref 11, .ref 12, .ref 13, .ref 14]), .inl (0, 60, .inl (zf)), .inl (0, 60, .inl (zf)), .inl (0, 60, .inl (zf)), .inl (0, 60, .inl (fl zf (-1) 60)), .inr (0, [.int (nI 0), .int (nI 0), .ref 16, .ref 17, .ref 18, .ref 19, .int (nI 0)]), .inl (0, 400, .inl (zf)), .inl (0, 400, .inl (zf)), .inl (0, 400, .inl (zf)), .inl (0, 20, .inl (fl zf (-1) 20))]) d_L_law_4 rfl ci_L_83 (by decide) rfl (i_C X) rfl rfl rfl rfl rfl rfl rfl ⟨rfl, rfl⟩ ?_
  refine AW.astore_n (pc' := 8) (ls' := [some (.ref scr), some (.ref 0), none, none, none, none, none]) d_L_law_7 rfl rfl rfl rfl ?_
  refine AW.new (pc' := 11) (n := 20) (cb' := 21) (sb' := 1773) (w' := [.inr (2, [.int (nI 0), .int (nI (5)), .int (nI 0), .ref 1, .ref 2, .ref 3, .ref 4, .int (nI 0), .ref 5, .int (nI (1)), .ref 6, .ref 7, .ref 8, .ref 9, .ref 10, .ref 15]), .inl (0, 40, .inl (zf)), .inl (0, 40, .inl (fl zf (-1) 40)), .inl (0, 40, .inl (fl zf (-1) 40)), .inl (0, 40, .inl (fl zf (-1) 40)), .inl (0, 20, .inl (fl zf (-1) 20)), .inl (1, 20, .inl (upd zf 0 (nI 1))), .inl (0, 20, .inl (fl zf (-1) 20)), .inl (0, 20, .inl (fl zf (-1) 20)), .inl (0, 20, .inl (fl zf (-1) 20)), .inr (1, [.int (nI 0), .ref 11, .ref 12, .ref 13, .ref 14]), .inl (0, 60, .inl (zf)), .inl (0, 60, .inl (zf)), .inl (0, 60, .inl (zf)), .inl (0, 60, .inl (fl zf (-1) 60)), .inr (0, [.int (nI 0), .int (nI 0), .ref 16, .ref 17, .ref 18, .ref 19, .int (nI 0)]), .inl (0, 400, .inl (zf)), .inl (0, 400, .inl (zf)), .inl (0, 400, .inl (zf)), .inl (0, 20, .inl (fl zf (-1) 20)), .inr (3, [.int (nI 0), .int (nI 0), .int (nI 0), .null, .null, .null, .int (nI 0), .null, .int (nI 0), .null, .null, .null, .null, .int (nI 0), .int (nI 0), .null, .null, .null, .null, .int (nI 0), .null, .null, .null, .null, .int (nI 0)])]) d_L_law_8 rfl nw_M (fun _ => rfl) rfl ⟨rfl, rfl, rfl, rfl⟩ rfl rfl rfl rfl rfl rfl ?_
  refine AW.dup (pc' := 12) d_L_law_11 rfl rfl ?_
  refine AW.cI (pc' := 15) (mc' := 16) (ms' := 1680) (cb' := 37) (sb' := 3453) (w' := [.inr (2, [.int (nI 0), .int (nI (5)), .int (nI 0), .ref 1, .ref 2, .ref 3, .ref 4, .int (nI 0), .ref 5, .int (nI (1)), .ref 6, .ref 7, .ref 8, .ref 9, .ref 10, .ref 15]), .inl (0, 40, .inl (zf)), .inl (0, 40, .inl (fl zf (-1) 40)), .inl (0, 40, .inl (fl zf (-1) 40)), .inl (0, 40, .inl (fl zf (-1) 40)), .inl (0, 20, .inl (fl zf (-1) 20)), .inl (1, 20, .inl (upd zf 0 (nI 1))), .inl (0, 20, .inl (fl zf (-1) 20)), .inl (0, 20, .inl (fl zf (-1) 20)), .inl (0, 20, .inl (fl zf (-1) 20)), .inr (1, [.int (nI 0), .ref 11, .ref 12, .ref 13, .ref 14]), .inl (0, 60, .inl (zf)), .inl (0, 60, .inl (zf)), .inl (0, 60, .inl (zf)), .inl (0, 60, .inl (fl zf (-1) 60)), .inr (0, [.int (nI 0), .int (nI 0), .ref 16, .ref 17, .ref 18, .ref 19, .int (nI 0)]), .inl (0, 400, .inl (zf)), .inl (0, 400, .inl (zf)), .inl (0, 400, .inl (zf)), .inl (0, 20, .inl (fl zf (-1) 20)), .inr (3, [.int (nI 0), .int (nI 0), .int (nI 0), .ref 21, .ref 22, .ref 23, .int (nI 0), .ref 24, .int (nI (1)), .ref 25, .ref 26, .ref 27, .ref 28, .int (nI (5)), .int (nI 0), .ref 29, .ref 30, .ref 31, .ref 32, .int (nI 0), .ref 33, .ref 34, .ref 35, .ref 36, .int ((-1))]), .inl (0, 40, .inl (zf)), .inl (0, 40, .inl (zf)), .inl (0, 40, .inl (zf)), .inl (0, 20, .inl (zf)), .inl (1, 20, .inl (zf)), .inl (0, 20, .inl (upd zf 0 (-1))), .inl (0, 20, .inl (fl zf (-1) 20)), .inl (0, 20, .inl (fl zf (-1) 20)), .inl (0, 60, .inl (zf)), .inl (0, 60, .inl (zf)), .inl (0, 60, .inl (zf)), .inl (0, 60, .inl (zf)), .inl (0, 400, .inl (zf)), .inl (0, 400, .inl (zf)), .inl (0, 400, .inl (zf)), .inl (0, 20, .inl (fl zf (-1) 20))]) d_L_law_12 rfl ci_L_86 (by decide) rfl (i_M X) rfl rfl rfl rfl rfl rfl rfl ⟨rfl, rfl⟩ ?_
  refine AW.astore_n (pc' := 16) (ls' := [some (.ref scr), some (.ref 0), some (.ref 20), none, none, none, none]) d_L_law_15 rfl rfl rfl rfl ?_
  refine AW.iconst (pc' := 17) (v := nI 1) d_L_law_16 rfl (by decide) ?_
  refine AW.newa (pc' := 19) (ty := .long) (t := 2) (N := 1) (a0 := (1, .inr (.inl (fun _ => 0)))) (n := 37) (cb' := 38) (sb' := 3454) (w' := [.inr (2, [.int (nI 0), .int (nI (5)), .int (nI 0), .ref 1, .ref 2, .ref 3, .ref 4, .int (nI 0), .ref 5, .int (nI (1)), .ref 6, .ref 7, .ref 8, .ref 9, .ref 10, .ref 15]), .inl (0, 40, .inl (zf)), .inl (0, 40, .inl (fl zf (-1) 40)), .inl (0, 40, .inl (fl zf (-1) 40)), .inl (0, 40, .inl (fl zf (-1) 40)), .inl (0, 20, .inl (fl zf (-1) 20)), .inl (1, 20, .inl (upd zf 0 (nI 1))), .inl (0, 20, .inl (fl zf (-1) 20)), .inl (0, 20, .inl (fl zf (-1) 20)), .inl (0, 20, .inl (fl zf (-1) 20)), .inr (1, [.int (nI 0), .ref 11, .ref 12, .ref 13, .ref 14]), .inl (0, 60, .inl (zf)), .inl (0, 60, .inl (zf)), .inl (0, 60, .inl (zf)), .inl (0, 60, .inl (fl zf (-1) 60)), .inr (0, [.int (nI 0), .int (nI 0), .ref 16, .ref 17, .ref 18, .ref 19, .int (nI 0)]), .inl (0, 400, .inl (zf)), .inl (0, 400, .inl (zf)), .inl (0, 400, .inl (zf)), .inl (0, 20, .inl (fl zf (-1) 20)), .inr (3, [.int (nI 0), .int (nI 0), .int (nI 0), .ref 21, .ref 22, .ref 23, .int (nI 0), .ref 24, .int (nI (1)), .ref 25, .ref 26, .ref 27, .ref 28, .int (nI (5)), .int (nI 0), .ref 29, .ref 30, .ref 31, .ref 32, .int (nI 0), .ref 33, .ref 34, .ref 35, .ref 36, .int ((-1))]), .inl (0, 40, .inl (zf)), .inl (0, 40, .inl (zf)), .inl (0, 40, .inl (zf)), .inl (0, 20, .inl (zf)), .inl (1, 20, .inl (zf)), .inl (0, 20, .inl (upd zf 0 (-1))), .inl (0, 20, .inl (fl zf (-1) 20)), .inl (0, 20, .inl (fl zf (-1) 20)), .inl (0, 60, .inl (zf)), .inl (0, 60, .inl (zf)), .inl (0, 60, .inl (zf)), .inl (0, 60, .inl (zf)), .inl (0, 400, .inl (zf)), .inl (0, 400, .inl (zf)), .inl (0, 400, .inl (zf)), .inl (0, 20, .inl (fl zf (-1) 20)), .inl (2, 1, .inr (.inl (fun _ => 0)))]) d_L_law_17 rfl arr_long rfl (fun _ => rfl) (ct_ra (fun C h => nomatch h)) (fun _ => rfl) (by decide) (by decide) (by decide) rfl ⟨rfl, rfl, rfl, rfl⟩ rfl rfl rfl rfl rfl rfl ?_
  refine AW.astore_n (pc' := 20) (ls' := [some (.ref scr), some (.ref 0), some (.ref 20), some (.ref 37), none, none, none]) d_L_law_19 rfl rfl rfl rfl ?_
  refine AW.iconst (pc' := 21) (v := nI 0) d_L_law_20 rfl (by decide) ?_
  refine AW.istore (pc' := 23) (ls' := [some (.ref scr), some (.ref 0), some (.ref 20), some (.ref 37), some (.int (nI (0))), none, none]) d_L_law_21 rfl rfl rfl ?_
  refine AW.wld (w' := wL z0 k0 (fun _ => 0)) rfl ?_
  exact lw_loop X hL (xL X) 0 z0 k0 (fun _ => 0) 38 3454 (by omega) rl0 (Nat.le_refl _) (by omega) (by omega) (by omega)
