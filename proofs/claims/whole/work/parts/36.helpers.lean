/-! THE LAW'S HELPERS (rows printed by wip/whole/m12.py) -/
section LAWR
variable {X : ct_X} {M : ct_M} {d mc ms cb sb pc pc' : Nat} {ls : List (Option Value)} {st : List Value} {w : ct_W} {Q : Option Value ⊕ Nat → ct_W → Prop}
variable {M' : ct_M} {d' : Nat} {as stk stk' : List Value} {w' : ct_W}
theorem AW.sldN {j : Nat} (hd : decode M.2.1 pc = .ok (.iaload, 1)) (hp : pc + 1 = pc') (hj : j < xL X) (hL : xL X < 2 ^ 31) (k : AW X M d mc ms cb sb pc' ls (.int (xx X j) :: st) w Q) : AW X M d mc ms cb sb pc ls (.int (nI j) :: .ref scr :: st) w Q :=
  AW.sld hd hp (vp_in_nI hj hL) (by rw [nI_clamp (by omega)]; exact k)
theorem AW.cSm {index n mc' ms' : Nat} {v : Option Value} (hd : decode M.2.1 pc = .ok (.invokestatic index, 3)) (hp : pc + 3 = pc') (hc : ct_cS M.1.cls index M' n) (hdp : d' < d) (hM : AF X M' d' mc' ms' as w (.inl v) w') (hn : as.length = n) (hst : as.reverse ++ st = stk) (hcat : Nat.ble (st.map fun v => v.category).sum 8 = true) (hcb : Nat.ble (cb + mc') mc = true) (hsb : Nat.ble (sb + ms') ms = true) (hlen : w'.length = w.length) (hv : v.toList ++ st = stk')
    (k : AW X M d mc ms (cb + mc') (sb + ms') pc' ls stk' w' Q) : AW X M d mc ms cb sb pc ls stk w Q := by
  subst hn
  subst hv
  exact AW.callS (mc' := mc') (ms' := ms') hd hp ⟨hc.2.2.2.2.1, hc.2.2.2.2.2.1, hdp, hc.2.2.2.2.2.2⟩ hc.1 hc.2.1 hc.2.2.1 hc.2.2.2.1 hM hst hcat hcb hsb (fun r w'' h => Or.inl (by rw [h.2]; exact hlen)) (fun x w'' h => nomatch h.1) (fun v' w'' h => by obtain ⟨h1, rfl⟩ := h; cases h1; exact k)
theorem AW.cVc {index n o ci N x : Nat} {as' fs : List Value} {F : u_T} (hd : decode M.2.1 pc = .ok (.invokevirtual index, 3)) (hc : ct_cV M.1.cls index M' n) (hdp : d' < d) (hw : w[o]? = some (.inr (ci, fs))) (hcl : vwCl[ci]? = some (M'.1.cls, F, N)) (has : .ref o :: as' = as) (hM : AF X M' d' 0 0 as w (.inr x) w') (hn : as'.length = n) (hst : as'.reverse ++ .ref o :: st = stk) (hcat : Nat.ble (st.map fun v => v.category).sum 8 = true) (hcb : Nat.ble cb mc = true) (hsb : Nat.ble sb ms = true) (hlen : w'.length = w.length) (hk : AX X M d mc ms cb sb pc ls w' Q x) : AW X M d mc ms cb sb pc ls stk w Q := by
  subst hn
  exact AW.callV (mc' := 0) (ms' := 0) hd rfl ⟨hc.2.2.2.2.1, hc.2.2.2.2.2.1, hdp, hc.2.2.2.2.2.2⟩ hc.1 hc.2.1 hc.2.2.2.1 hw hcl hc.2.2.1 has hM hst hcat hcb hsb (fun r w'' h => Or.inl (by rw [h.2]; exact hlen)) (fun x' w'' h => by obtain ⟨h1, rfl⟩ := h; cases h1; exact hk) (fun v' w'' h => nomatch h.1)
theorem AX.catchA {x j a b hp ct : Nat} {pre suf : List (Nat × Nat × Nat × Nat)} {ls' : List (Option Value)} (hsplit : M.2.2.2.2 = pre ++ (a, b, hp, ct) :: suf)
    (hpass : ∀ z ∈ pre, covers ⟨z.1, z.2.1, z.2.2.1, z.2.2.2⟩ pc = false ∨ (z.2.2.2 ≠ 0 ∧ ∃ y : Nat, y < 4 ∧ x ≠ y ∧ Cond.classLink M.1.cls z.2.2.2 (xn y) ∈ lw_tbl)) (hx4 : x < 4) (hcov : covers ⟨a, b, hp, ct⟩ pc = true) (hct : ct ≠ 0)
    (hlink : Cond.classLink M.1.cls ct (xn x) ∈ lw_tbl) (hcast : Cond.castable (xn x) (xn x) ∈ lw_tbl) (hd : decode M.2.1 hp = .ok (.astore j, 2)) (hn : Nat.ble (j + 1) M.2.2.1 = true) (hs : ls.set j none = ls') {cb' sb' : Nat} (hcb : cb + 1 = cb') (hsb : sb + 6 = sb')
    (kk : AW X M d mc ms cb' sb' (hp + 2) ls' [] w Q) : AX X M d mc ms cb sb pc ls w Q x := by
  subst hs
  subst hcb
  subst hsb
  intro G p e R s m args below meth c A ad ad0 n0 H locs cells slots arr stk q cell hR hA hr h1 h2 h3 h4 h5
  have htab : c.exceptionTable.toList = ct_tab pre ++ ⟨a, b, hp, ct⟩ :: ct_tab suf := by
    rw [ct_tab_of hA.table, hsplit]
    simp [ct_tab]
  refine vx_catch (own := M.1.cls) (name := xn x) (E := xn x) (ce := cell) (rest := stk) (pc := pc) (ls := arr) hA.own (ct_tab pre) ⟨a, b, hp, ct⟩ (ct_tab suf) htab (fun z hz => ?_) hcov hct (hA.lat.w G hlink rfl args) (hA.lat.wx G hcast rfl args) h3 h4 h5 ?_
  · obtain ⟨u, hu, rfl⟩ := List.mem_map.mp hz
    rcases hpass u hu with h | ⟨h6, y, h7, h8, h9⟩
    · exact Or.inl h
    · exact Or.inr ⟨h6, xn y, hA.lat.w G h9 rfl args, va_Nc.moved hA.lat.1.alike (G.2.2.2.2.2.2.2 x y hx4 h7 h8)⟩
  · exact lv_astore hA.exec hA.code hd hr.2.2.2.1.has (Nat.le_of_ble_eq_true hn) rfl (fun arr' h' => kk G p e R s m args below meth c A ad ad0 n0 H locs cells slots arr' hR hA ⟨hr.1, hr.2.1, hr.2.2.1, hr.2.2.2.1.setN h', hr.2.2.2.2⟩ h1 h2)
theorem AW.lessb {cb' sb' : Nat} (h1 : cb ≤ cb') (h2 : sb ≤ sb') (k : AW X M d mc ms cb' sb' pc ls st w Q) : AW X M d mc ms cb sb pc ls st w Q := by
  intro G p e R s m args below meth c A ad ad0 n0 H locs cells slots arr hR hA hr q1 q2
  exact k G p e R s m args below meth c A ad ad0 n0 H locs cells slots arr hR hA hr (by omega) (by omega)
end LAWR
theorem h_person_ok (X : ct_X) (z z' : S_c) (k : S_m) (o : Nat → Int64) (x : Int32) (b : Int32) (hC : AF X m_C_person 7 0 0 [.ref 0, .int (x)] (wL z k o) (.inl (some (.int b))) (wL z' k o)) : AF X m_L_person 8 1 6 [.ref 0, .int (x), .ref 37] (wL z k o) (.inl (some (.int (nI 0)))) (wL z' k (vp_updL o 0 (Int32.toInt64 b))) := by
  refine AM.of rfl (Nat.le_of_ble_eq_true rfl) (ls := [some (.ref 0), some (.int (x)), some (.ref 37), none]) rfl ?_
  refine AW.aload_n (pc' := 1) d_L_person_0 rfl rfl rfl ?_
  refine AW.iconst (pc' := 2) (v := nI 0) d_L_person_1 rfl (by decide) ?_
  refine AW.aload_n (pc' := 3) d_L_person_2 rfl rfl rfl ?_
  refine AW.iload_n (pc' := 4) d_L_person_3 rfl rfl rfl ?_
  refine AW.cV (pc' := 7) d_L_person_4 rfl cv_L_7 (by decide) rfl rfl rfl (hC) rfl rfl rfl rfl rfl rfl rfl ?_
  refine AW.i2l (pc' := 8) d_L_person_7 rfl ?_
  refine AW.lastN (pc' := 9) (w' := (wL z' k (vp_updL o 0 (Int32.toInt64 b)))) d_L_person_8 rfl rfl (by omega) (by decide) rfl ?_
  refine AW.goto (tgt := 18) d_L_person_9 (by decide) ?_
  refine AW.iconst (pc' := 19) (v := nI 0) d_L_person_18 rfl (by decide) ?_
  exact AW.iret d_L_person_19 rfl rfl rfl ⟨rfl, rfl⟩
theorem h_person_e0 (X : ct_X) (z z' : S_c) (k : S_m) (o : Nat → Int64) (x : Int32) (hC : AF X m_C_person 7 0 0 [.ref 0, .int (x)] (wL z k o) (.inr 0) (wL z' k o)) : AF X m_L_person 8 1 6 [.ref 0, .int (x), .ref 37] (wL z k o) (.inl (some (.int (nI 1)))) (wL z' k o) := by
  refine AM.of rfl (Nat.le_of_ble_eq_true rfl) (ls := [some (.ref 0), some (.int (x)), some (.ref 37), none]) rfl ?_
  refine AW.aload_n (pc' := 1) d_L_person_0 rfl rfl rfl ?_
  refine AW.iconst (pc' := 2) (v := nI 0) d_L_person_1 rfl (by decide) ?_
  refine AW.aload_n (pc' := 3) d_L_person_2 rfl rfl rfl ?_
  refine AW.iload_n (pc' := 4) d_L_person_3 rfl rfl rfl ?_
  refine AW.cVc d_L_person_4 cv_L_7 (by decide) rfl rfl rfl hC rfl rfl rfl rfl rfl rfl ?_
  refine AX.catch (x := 0) (j := 3) (a := 0) (b := 9) (hp := 12) (ct := 13) (pre := []) (suf := [(0, 9, 15, 15)]) (ls' := [some (.ref 0), some (.int (x)), some (.ref 37), none]) rfl (fun z hz => nomatch hz) (by decide) rfl (by decide) cl_L_13 cast_java_lang_IndexOutOfBoundsException d_L_person_12 rfl rfl rfl rfl rfl ?_
  refine AW.iconst (pc' := 14) (v := nI 1) d_L_person_13 rfl (by decide) ?_
  exact AW.iret d_L_person_14 rfl rfl rfl ⟨rfl, rfl⟩
theorem h_person_e1 (X : ct_X) (z z' : S_c) (k : S_m) (o : Nat → Int64) (x : Int32) (hC : AF X m_C_person 7 0 0 [.ref 0, .int (x)] (wL z k o) (.inr 1) (wL z' k o)) : AF X m_L_person 8 1 6 [.ref 0, .int (x), .ref 37] (wL z k o) (.inl (some (.int (nI 2)))) (wL z' k o) := by
  refine AM.of rfl (Nat.le_of_ble_eq_true rfl) (ls := [some (.ref 0), some (.int (x)), some (.ref 37), none]) rfl ?_
  refine AW.aload_n (pc' := 1) d_L_person_0 rfl rfl rfl ?_
  refine AW.iconst (pc' := 2) (v := nI 0) d_L_person_1 rfl (by decide) ?_
  refine AW.aload_n (pc' := 3) d_L_person_2 rfl rfl rfl ?_
  refine AW.iload_n (pc' := 4) d_L_person_3 rfl rfl rfl ?_
  refine AW.cVc d_L_person_4 cv_L_7 (by decide) rfl rfl rfl hC rfl rfl rfl rfl rfl rfl ?_
  refine AX.catch (x := 1) (j := 3) (a := 0) (b := 9) (hp := 15) (ct := 15) (pre := [(0, 9, 12, 13)]) (suf := []) (ls' := [some (.ref 0), some (.int (x)), some (.ref 37), none]) rfl (fun z hz => ?_) (by decide) rfl (by decide) cl_L_15 cast_java_lang_UnsupportedOperationException d_L_person_15 rfl rfl rfl rfl rfl ?_
  · simp only [List.mem_cons, List.not_mem_nil, or_false] at hz
    rcases hz with rfl
    exact Or.inr ⟨by decide, 0, by decide, by decide, cl_L_13⟩
  refine AW.iconst (pc' := 17) (v := nI 2) d_L_person_16 rfl (by decide) ?_
  exact AW.iret d_L_person_17 rfl rfl rfl ⟨rfl, rfl⟩
theorem h_unit_ok (X : ct_X) (z z' : S_c) (k : S_m) (o : Nat → Int64)  (b : Int32) (hC : AF X m_C_unit 7 0 0 [.ref 0] (wL z k o) (.inl (some (.int b))) (wL z' k o)) : AF X m_L_unit 8 1 6 [.ref 0, .ref 37] (wL z k o) (.inl (some (.int (nI 0)))) (wL z' k (vp_updL o 0 (Int32.toInt64 b))) := by
  refine AM.of rfl (Nat.le_of_ble_eq_true rfl) (ls := [some (.ref 0), some (.ref 37), none]) rfl ?_
  refine AW.aload_n (pc' := 1) d_L_unit_0 rfl rfl rfl ?_
  refine AW.iconst (pc' := 2) (v := nI 0) d_L_unit_1 rfl (by decide) ?_
  refine AW.aload_n (pc' := 3) d_L_unit_2 rfl rfl rfl ?_
  refine AW.cV (pc' := 6) d_L_unit_3 rfl cv_L_17 (by decide) rfl rfl rfl (hC) rfl rfl rfl rfl rfl rfl rfl ?_
  refine AW.i2l (pc' := 7) d_L_unit_6 rfl ?_
  refine AW.lastN (pc' := 8) (w' := (wL z' k (vp_updL o 0 (Int32.toInt64 b)))) d_L_unit_7 rfl rfl (by omega) (by decide) rfl ?_
  refine AW.goto (tgt := 14) d_L_unit_8 (by decide) ?_
  refine AW.iconst (pc' := 15) (v := nI 0) d_L_unit_14 rfl (by decide) ?_
  exact AW.iret d_L_unit_15 rfl rfl rfl ⟨rfl, rfl⟩
theorem h_unit_e0 (X : ct_X) (z z' : S_c) (k : S_m) (o : Nat → Int64)  (hC : AF X m_C_unit 7 0 0 [.ref 0] (wL z k o) (.inr 1) (wL z' k o)) : AF X m_L_unit 8 1 6 [.ref 0, .ref 37] (wL z k o) (.inl (some (.int (nI 1)))) (wL z' k o) := by
  refine AM.of rfl (Nat.le_of_ble_eq_true rfl) (ls := [some (.ref 0), some (.ref 37), none]) rfl ?_
  refine AW.aload_n (pc' := 1) d_L_unit_0 rfl rfl rfl ?_
  refine AW.iconst (pc' := 2) (v := nI 0) d_L_unit_1 rfl (by decide) ?_
  refine AW.aload_n (pc' := 3) d_L_unit_2 rfl rfl rfl ?_
  refine AW.cVc d_L_unit_3 cv_L_17 (by decide) rfl rfl rfl hC rfl rfl rfl rfl rfl rfl ?_
  refine AX.catch (x := 1) (j := 2) (a := 0) (b := 8) (hp := 11) (ct := 15) (pre := []) (suf := []) (ls' := [some (.ref 0), some (.ref 37), none]) rfl (fun z hz => nomatch hz) (by decide) rfl (by decide) cl_L_15 cast_java_lang_UnsupportedOperationException d_L_unit_11 rfl rfl rfl rfl rfl ?_
  refine AW.iconst (pc' := 13) (v := nI 1) d_L_unit_12 rfl (by decide) ?_
  exact AW.iret d_L_unit_13 rfl rfl rfl ⟨rfl, rfl⟩
theorem h_arrive_ok (X : ct_X) (z z' : S_c) (k : S_m) (o : Nat → Int64) (x : Int32) (hC : AF X m_C_arrive 7 0 0 [.ref 0, .int (x)] (wL z k o) (.inl none) (wL z' k o)) : AF X m_L_arrive 8 1 6 [.ref 0, .int (x)] (wL z k o) (.inl (some (.int (nI 0)))) (wL z' k o) := by
  refine AM.of rfl (Nat.le_of_ble_eq_true rfl) (ls := [some (.ref 0), some (.int (x)), none]) rfl ?_
  refine AW.aload_n (pc' := 1) d_L_arrive_0 rfl rfl rfl ?_
  refine AW.iload_n (pc' := 2) d_L_arrive_1 rfl rfl rfl ?_
  refine AW.cV (pc' := 5) d_L_arrive_2 rfl cv_L_21 (by decide) rfl rfl rfl (hC) rfl rfl rfl rfl rfl rfl rfl ?_
  refine AW.goto (tgt := 14) d_L_arrive_5 (by decide) ?_
  refine AW.iconst (pc' := 15) (v := nI 0) d_L_arrive_14 rfl (by decide) ?_
  exact AW.iret d_L_arrive_15 rfl rfl rfl ⟨rfl, rfl⟩
theorem h_arrive_e0 (X : ct_X) (z z' : S_c) (k : S_m) (o : Nat → Int64) (x : Int32) (hC : AF X m_C_arrive 7 0 0 [.ref 0, .int (x)] (wL z k o) (.inr 2) (wL z' k o)) : AF X m_L_arrive 8 1 6 [.ref 0, .int (x)] (wL z k o) (.inl (some (.int (nI 1)))) (wL z' k o) := by
  refine AM.of rfl (Nat.le_of_ble_eq_true rfl) (ls := [some (.ref 0), some (.int (x)), none]) rfl ?_
  refine AW.aload_n (pc' := 1) d_L_arrive_0 rfl rfl rfl ?_
  refine AW.iload_n (pc' := 2) d_L_arrive_1 rfl rfl rfl ?_
  refine AW.cVc d_L_arrive_2 cv_L_21 (by decide) rfl rfl rfl hC rfl rfl rfl rfl rfl rfl ?_
  refine AX.catch (x := 2) (j := 2) (a := 0) (b := 5) (hp := 8) (ct := 25) (pre := []) (suf := [(0, 5, 11, 27)]) (ls' := [some (.ref 0), some (.int (x)), none]) rfl (fun z hz => nomatch hz) (by decide) rfl (by decide) cl_L_25 cast_java_lang_IllegalArgumentException d_L_arrive_8 rfl rfl rfl rfl rfl ?_
  refine AW.iconst (pc' := 10) (v := nI 1) d_L_arrive_9 rfl (by decide) ?_
  exact AW.iret d_L_arrive_10 rfl rfl rfl ⟨rfl, rfl⟩
theorem h_arrive_e1 (X : ct_X) (z z' : S_c) (k : S_m) (o : Nat → Int64) (x : Int32) (hC : AF X m_C_arrive 7 0 0 [.ref 0, .int (x)] (wL z k o) (.inr 3) (wL z' k o)) : AF X m_L_arrive 8 1 6 [.ref 0, .int (x)] (wL z k o) (.inl (some (.int (nI 2)))) (wL z' k o) := by
  refine AM.of rfl (Nat.le_of_ble_eq_true rfl) (ls := [some (.ref 0), some (.int (x)), none]) rfl ?_
  refine AW.aload_n (pc' := 1) d_L_arrive_0 rfl rfl rfl ?_
  refine AW.iload_n (pc' := 2) d_L_arrive_1 rfl rfl rfl ?_
  refine AW.cVc d_L_arrive_2 cv_L_21 (by decide) rfl rfl rfl hC rfl rfl rfl rfl rfl rfl ?_
  refine AX.catch (x := 3) (j := 2) (a := 0) (b := 5) (hp := 11) (ct := 27) (pre := [(0, 5, 8, 25)]) (suf := []) (ls' := [some (.ref 0), some (.int (x)), none]) rfl (fun z hz => ?_) (by decide) rfl (by decide) cl_L_27 cast_java_lang_IllegalStateException d_L_arrive_11 rfl rfl rfl rfl rfl ?_
  · simp only [List.mem_cons, List.not_mem_nil, or_false] at hz
    rcases hz with rfl
    exact Or.inr ⟨by decide, 2, by decide, by decide, cl_L_25⟩
  refine AW.iconst (pc' := 13) (v := nI 2) d_L_arrive_12 rfl (by decide) ?_
  exact AW.iret d_L_arrive_13 rfl rfl rfl ⟨rfl, rfl⟩
theorem h_leave_ok (X : ct_X) (z z' : S_c) (k : S_m) (o : Nat → Int64) (x : Int32) (hC : AF X m_C_leave 7 0 0 [.ref 0, .int (x)] (wL z k o) (.inl none) (wL z' k o)) : AF X m_L_leave 8 1 6 [.ref 0, .int (x)] (wL z k o) (.inl (some (.int (nI 0)))) (wL z' k o) := by
  refine AM.of rfl (Nat.le_of_ble_eq_true rfl) (ls := [some (.ref 0), some (.int (x)), none]) rfl ?_
  refine AW.aload_n (pc' := 1) d_L_leave_0 rfl rfl rfl ?_
  refine AW.iload_n (pc' := 2) d_L_leave_1 rfl rfl rfl ?_
  refine AW.cV (pc' := 5) d_L_leave_2 rfl cv_L_29 (by decide) rfl rfl rfl (hC) rfl rfl rfl rfl rfl rfl rfl ?_
  refine AW.goto (tgt := 14) d_L_leave_5 (by decide) ?_
  refine AW.iconst (pc' := 15) (v := nI 0) d_L_leave_14 rfl (by decide) ?_
  exact AW.iret d_L_leave_15 rfl rfl rfl ⟨rfl, rfl⟩
theorem h_leave_e0 (X : ct_X) (z z' : S_c) (k : S_m) (o : Nat → Int64) (x : Int32) (hC : AF X m_C_leave 7 0 0 [.ref 0, .int (x)] (wL z k o) (.inr 2) (wL z' k o)) : AF X m_L_leave 8 1 6 [.ref 0, .int (x)] (wL z k o) (.inl (some (.int (nI 1)))) (wL z' k o) := by
  refine AM.of rfl (Nat.le_of_ble_eq_true rfl) (ls := [some (.ref 0), some (.int (x)), none]) rfl ?_
  refine AW.aload_n (pc' := 1) d_L_leave_0 rfl rfl rfl ?_
  refine AW.iload_n (pc' := 2) d_L_leave_1 rfl rfl rfl ?_
  refine AW.cVc d_L_leave_2 cv_L_29 (by decide) rfl rfl rfl hC rfl rfl rfl rfl rfl rfl ?_
  refine AX.catch (x := 2) (j := 2) (a := 0) (b := 5) (hp := 8) (ct := 25) (pre := []) (suf := [(0, 5, 11, 27)]) (ls' := [some (.ref 0), some (.int (x)), none]) rfl (fun z hz => nomatch hz) (by decide) rfl (by decide) cl_L_25 cast_java_lang_IllegalArgumentException d_L_leave_8 rfl rfl rfl rfl rfl ?_
  refine AW.iconst (pc' := 10) (v := nI 1) d_L_leave_9 rfl (by decide) ?_
  exact AW.iret d_L_leave_10 rfl rfl rfl ⟨rfl, rfl⟩
theorem h_leave_e1 (X : ct_X) (z z' : S_c) (k : S_m) (o : Nat → Int64) (x : Int32) (hC : AF X m_C_leave 7 0 0 [.ref 0, .int (x)] (wL z k o) (.inr 3) (wL z' k o)) : AF X m_L_leave 8 1 6 [.ref 0, .int (x)] (wL z k o) (.inl (some (.int (nI 2)))) (wL z' k o) := by
  refine AM.of rfl (Nat.le_of_ble_eq_true rfl) (ls := [some (.ref 0), some (.int (x)), none]) rfl ?_
  refine AW.aload_n (pc' := 1) d_L_leave_0 rfl rfl rfl ?_
  refine AW.iload_n (pc' := 2) d_L_leave_1 rfl rfl rfl ?_
  refine AW.cVc d_L_leave_2 cv_L_29 (by decide) rfl rfl rfl hC rfl rfl rfl rfl rfl rfl ?_
  refine AX.catch (x := 3) (j := 2) (a := 0) (b := 5) (hp := 11) (ct := 27) (pre := [(0, 5, 8, 25)]) (suf := []) (ls' := [some (.ref 0), some (.int (x)), none]) rfl (fun z hz => ?_) (by decide) rfl (by decide) cl_L_27 cast_java_lang_IllegalStateException d_L_leave_11 rfl rfl rfl rfl rfl ?_
  · simp only [List.mem_cons, List.not_mem_nil, or_false] at hz
    rcases hz with rfl
    exact Or.inr ⟨by decide, 2, by decide, by decide, cl_L_25⟩
  refine AW.iconst (pc' := 13) (v := nI 2) d_L_leave_12 rfl (by decide) ?_
  exact AW.iret d_L_leave_13 rfl rfl rfl ⟨rfl, rfl⟩
theorem h_go_ok (X : ct_X) (z z' : S_c) (k : S_m) (o : Nat → Int64) (x y : Int32) (hC : AF X m_C_go 7 0 0 [.ref 0, .int (x), .int (y)] (wL z k o) (.inl none) (wL z' k o)) : AF X m_L_go 8 1 6 [.ref 0, .int (x), .int (y)] (wL z k o) (.inl (some (.int (nI 0)))) (wL z' k o) := by
  refine AM.of rfl (Nat.le_of_ble_eq_true rfl) (ls := [some (.ref 0), some (.int (x)), some (.int (y)), none]) rfl ?_
  refine AW.aload_n (pc' := 1) d_L_go_0 rfl rfl rfl ?_
  refine AW.iload_n (pc' := 2) d_L_go_1 rfl rfl rfl ?_
  refine AW.iload_n (pc' := 3) d_L_go_2 rfl rfl rfl ?_
  refine AW.cV (pc' := 6) d_L_go_3 rfl cv_L_32 (by decide) rfl rfl rfl (hC) rfl rfl rfl rfl rfl rfl rfl ?_
  refine AW.goto (tgt := 15) d_L_go_6 (by decide) ?_
  refine AW.iconst (pc' := 16) (v := nI 0) d_L_go_15 rfl (by decide) ?_
  exact AW.iret d_L_go_16 rfl rfl rfl ⟨rfl, rfl⟩
theorem h_go_e0 (X : ct_X) (z z' : S_c) (k : S_m) (o : Nat → Int64) (x y : Int32) (hC : AF X m_C_go 7 0 0 [.ref 0, .int (x), .int (y)] (wL z k o) (.inr 2) (wL z' k o)) : AF X m_L_go 8 1 6 [.ref 0, .int (x), .int (y)] (wL z k o) (.inl (some (.int (nI 1)))) (wL z' k o) := by
  refine AM.of rfl (Nat.le_of_ble_eq_true rfl) (ls := [some (.ref 0), some (.int (x)), some (.int (y)), none]) rfl ?_
  refine AW.aload_n (pc' := 1) d_L_go_0 rfl rfl rfl ?_
  refine AW.iload_n (pc' := 2) d_L_go_1 rfl rfl rfl ?_
  refine AW.iload_n (pc' := 3) d_L_go_2 rfl rfl rfl ?_
  refine AW.cVc d_L_go_3 cv_L_32 (by decide) rfl rfl rfl hC rfl rfl rfl rfl rfl rfl ?_
  refine AX.catch (x := 2) (j := 3) (a := 0) (b := 6) (hp := 9) (ct := 25) (pre := []) (suf := [(0, 6, 12, 27)]) (ls' := [some (.ref 0), some (.int (x)), some (.int (y)), none]) rfl (fun z hz => nomatch hz) (by decide) rfl (by decide) cl_L_25 cast_java_lang_IllegalArgumentException d_L_go_9 rfl rfl rfl rfl rfl ?_
  refine AW.iconst (pc' := 11) (v := nI 1) d_L_go_10 rfl (by decide) ?_
  exact AW.iret d_L_go_11 rfl rfl rfl ⟨rfl, rfl⟩
theorem h_go_e1 (X : ct_X) (z z' : S_c) (k : S_m) (o : Nat → Int64) (x y : Int32) (hC : AF X m_C_go 7 0 0 [.ref 0, .int (x), .int (y)] (wL z k o) (.inr 3) (wL z' k o)) : AF X m_L_go 8 1 6 [.ref 0, .int (x), .int (y)] (wL z k o) (.inl (some (.int (nI 2)))) (wL z' k o) := by
  refine AM.of rfl (Nat.le_of_ble_eq_true rfl) (ls := [some (.ref 0), some (.int (x)), some (.int (y)), none]) rfl ?_
  refine AW.aload_n (pc' := 1) d_L_go_0 rfl rfl rfl ?_
  refine AW.iload_n (pc' := 2) d_L_go_1 rfl rfl rfl ?_
  refine AW.iload_n (pc' := 3) d_L_go_2 rfl rfl rfl ?_
  refine AW.cVc d_L_go_3 cv_L_32 (by decide) rfl rfl rfl hC rfl rfl rfl rfl rfl rfl ?_
  refine AX.catch (x := 3) (j := 3) (a := 0) (b := 6) (hp := 12) (ct := 27) (pre := [(0, 6, 9, 25)]) (suf := []) (ls' := [some (.ref 0), some (.int (x)), some (.int (y)), none]) rfl (fun z hz => ?_) (by decide) rfl (by decide) cl_L_27 cast_java_lang_IllegalStateException d_L_go_12 rfl rfl rfl rfl rfl ?_
  · simp only [List.mem_cons, List.not_mem_nil, or_false] at hz
    rcases hz with rfl
    exact Or.inr ⟨by decide, 2, by decide, by decide, cl_L_25⟩
  refine AW.iconst (pc' := 14) (v := nI 2) d_L_go_13 rfl (by decide) ?_
  exact AW.iret d_L_go_14 rfl rfl rfl ⟨rfl, rfl⟩
theorem h_place_ok (X : ct_X) (z z' : S_c) (k : S_m) (o : Nat → Int64) (x y : Int32) (hC : AF X m_C_place 7 0 0 [.ref 0, .int (x), .int (y)] (wL z k o) (.inl none) (wL z' k o)) : AF X m_L_place 8 1 6 [.ref 0, .int (x), .int (y)] (wL z k o) (.inl (some (.int (nI 0)))) (wL z' k o) := by
  refine AM.of rfl (Nat.le_of_ble_eq_true rfl) (ls := [some (.ref 0), some (.int (x)), some (.int (y)), none]) rfl ?_
  refine AW.aload_n (pc' := 1) d_L_place_0 rfl rfl rfl ?_
  refine AW.iload_n (pc' := 2) d_L_place_1 rfl rfl rfl ?_
  refine AW.iload_n (pc' := 3) d_L_place_2 rfl rfl rfl ?_
  refine AW.cV (pc' := 6) d_L_place_3 rfl cv_L_36 (by decide) rfl rfl rfl (hC) rfl rfl rfl rfl rfl rfl rfl ?_
  refine AW.goto (tgt := 15) d_L_place_6 (by decide) ?_
  refine AW.iconst (pc' := 16) (v := nI 0) d_L_place_15 rfl (by decide) ?_
  exact AW.iret d_L_place_16 rfl rfl rfl ⟨rfl, rfl⟩
theorem h_place_e0 (X : ct_X) (z z' : S_c) (k : S_m) (o : Nat → Int64) (x y : Int32) (hC : AF X m_C_place 7 0 0 [.ref 0, .int (x), .int (y)] (wL z k o) (.inr 2) (wL z' k o)) : AF X m_L_place 8 1 6 [.ref 0, .int (x), .int (y)] (wL z k o) (.inl (some (.int (nI 1)))) (wL z' k o) := by
  refine AM.of rfl (Nat.le_of_ble_eq_true rfl) (ls := [some (.ref 0), some (.int (x)), some (.int (y)), none]) rfl ?_
  refine AW.aload_n (pc' := 1) d_L_place_0 rfl rfl rfl ?_
  refine AW.iload_n (pc' := 2) d_L_place_1 rfl rfl rfl ?_
  refine AW.iload_n (pc' := 3) d_L_place_2 rfl rfl rfl ?_
  refine AW.cVc d_L_place_3 cv_L_36 (by decide) rfl rfl rfl hC rfl rfl rfl rfl rfl rfl ?_
  refine AX.catch (x := 2) (j := 3) (a := 0) (b := 6) (hp := 9) (ct := 25) (pre := []) (suf := [(0, 6, 12, 27)]) (ls' := [some (.ref 0), some (.int (x)), some (.int (y)), none]) rfl (fun z hz => nomatch hz) (by decide) rfl (by decide) cl_L_25 cast_java_lang_IllegalArgumentException d_L_place_9 rfl rfl rfl rfl rfl ?_
  refine AW.iconst (pc' := 11) (v := nI 1) d_L_place_10 rfl (by decide) ?_
  exact AW.iret d_L_place_11 rfl rfl rfl ⟨rfl, rfl⟩
theorem h_place_e1 (X : ct_X) (z z' : S_c) (k : S_m) (o : Nat → Int64) (x y : Int32) (hC : AF X m_C_place 7 0 0 [.ref 0, .int (x), .int (y)] (wL z k o) (.inr 3) (wL z' k o)) : AF X m_L_place 8 1 6 [.ref 0, .int (x), .int (y)] (wL z k o) (.inl (some (.int (nI 2)))) (wL z' k o) := by
  refine AM.of rfl (Nat.le_of_ble_eq_true rfl) (ls := [some (.ref 0), some (.int (x)), some (.int (y)), none]) rfl ?_
  refine AW.aload_n (pc' := 1) d_L_place_0 rfl rfl rfl ?_
  refine AW.iload_n (pc' := 2) d_L_place_1 rfl rfl rfl ?_
  refine AW.iload_n (pc' := 3) d_L_place_2 rfl rfl rfl ?_
  refine AW.cVc d_L_place_3 cv_L_36 (by decide) rfl rfl rfl hC rfl rfl rfl rfl rfl rfl ?_
  refine AX.catch (x := 3) (j := 3) (a := 0) (b := 6) (hp := 12) (ct := 27) (pre := [(0, 6, 9, 25)]) (suf := []) (ls' := [some (.ref 0), some (.int (x)), some (.int (y)), none]) rfl (fun z hz => ?_) (by decide) rfl (by decide) cl_L_27 cast_java_lang_IllegalStateException d_L_place_12 rfl rfl rfl rfl rfl ?_
  · simp only [List.mem_cons, List.not_mem_nil, or_false] at hz
    rcases hz with rfl
    exact Or.inr ⟨by decide, 2, by decide, by decide, cl_L_25⟩
  refine AW.iconst (pc' := 14) (v := nI 2) d_L_place_13 rfl (by decide) ?_
  exact AW.iret d_L_place_14 rfl rfl rfl ⟨rfl, rfl⟩
theorem h_split_ok (X : ct_X) (z z' : S_c) (k : S_m) (o : Nat → Int64) (x : Int32) (b : Int32) (hC : AF X m_C_split 7 0 0 [.ref 0, .int (x)] (wL z k o) (.inl (some (.int b))) (wL z' k o)) : AF X m_L_split 8 1 6 [.ref 0, .int (x), .ref 37] (wL z k o) (.inl (some (.int (nI 0)))) (wL z' k (vp_updL o 0 (Int32.toInt64 b))) := by
  refine AM.of rfl (Nat.le_of_ble_eq_true rfl) (ls := [some (.ref 0), some (.int (x)), some (.ref 37), none]) rfl ?_
  refine AW.aload_n (pc' := 1) d_L_split_0 rfl rfl rfl ?_
  refine AW.iconst (pc' := 2) (v := nI 0) d_L_split_1 rfl (by decide) ?_
  refine AW.aload_n (pc' := 3) d_L_split_2 rfl rfl rfl ?_
  refine AW.iload_n (pc' := 4) d_L_split_3 rfl rfl rfl ?_
  refine AW.cV (pc' := 7) d_L_split_4 rfl cv_L_39 (by decide) rfl rfl rfl (hC) rfl rfl rfl rfl rfl rfl rfl ?_
  refine AW.i2l (pc' := 8) d_L_split_7 rfl ?_
  refine AW.lastN (pc' := 9) (w' := (wL z' k (vp_updL o 0 (Int32.toInt64 b)))) d_L_split_8 rfl rfl (by omega) (by decide) rfl ?_
  refine AW.goto (tgt := 21) d_L_split_9 (by decide) ?_
  refine AW.iconst (pc' := 22) (v := nI 0) d_L_split_21 rfl (by decide) ?_
  exact AW.iret d_L_split_22 rfl rfl rfl ⟨rfl, rfl⟩
theorem h_split_e0 (X : ct_X) (z z' : S_c) (k : S_m) (o : Nat → Int64) (x : Int32) (hC : AF X m_C_split 7 0 0 [.ref 0, .int (x)] (wL z k o) (.inr 2) (wL z' k o)) : AF X m_L_split 8 1 6 [.ref 0, .int (x), .ref 37] (wL z k o) (.inl (some (.int (nI 1)))) (wL z' k o) := by
  refine AM.of rfl (Nat.le_of_ble_eq_true rfl) (ls := [some (.ref 0), some (.int (x)), some (.ref 37), none]) rfl ?_
  refine AW.aload_n (pc' := 1) d_L_split_0 rfl rfl rfl ?_
  refine AW.iconst (pc' := 2) (v := nI 0) d_L_split_1 rfl (by decide) ?_
  refine AW.aload_n (pc' := 3) d_L_split_2 rfl rfl rfl ?_
  refine AW.iload_n (pc' := 4) d_L_split_3 rfl rfl rfl ?_
  refine AW.cVc d_L_split_4 cv_L_39 (by decide) rfl rfl rfl hC rfl rfl rfl rfl rfl rfl ?_
  refine AX.catch (x := 2) (j := 3) (a := 0) (b := 9) (hp := 12) (ct := 25) (pre := []) (suf := [(0, 9, 15, 27), (0, 9, 18, 15)]) (ls' := [some (.ref 0), some (.int (x)), some (.ref 37), none]) rfl (fun z hz => nomatch hz) (by decide) rfl (by decide) cl_L_25 cast_java_lang_IllegalArgumentException d_L_split_12 rfl rfl rfl rfl rfl ?_
  refine AW.iconst (pc' := 14) (v := nI 1) d_L_split_13 rfl (by decide) ?_
  exact AW.iret d_L_split_14 rfl rfl rfl ⟨rfl, rfl⟩
theorem h_split_e1 (X : ct_X) (z z' : S_c) (k : S_m) (o : Nat → Int64) (x : Int32) (hC : AF X m_C_split 7 0 0 [.ref 0, .int (x)] (wL z k o) (.inr 3) (wL z' k o)) : AF X m_L_split 8 1 6 [.ref 0, .int (x), .ref 37] (wL z k o) (.inl (some (.int (nI 2)))) (wL z' k o) := by
  refine AM.of rfl (Nat.le_of_ble_eq_true rfl) (ls := [some (.ref 0), some (.int (x)), some (.ref 37), none]) rfl ?_
  refine AW.aload_n (pc' := 1) d_L_split_0 rfl rfl rfl ?_
  refine AW.iconst (pc' := 2) (v := nI 0) d_L_split_1 rfl (by decide) ?_
  refine AW.aload_n (pc' := 3) d_L_split_2 rfl rfl rfl ?_
  refine AW.iload_n (pc' := 4) d_L_split_3 rfl rfl rfl ?_
  refine AW.cVc d_L_split_4 cv_L_39 (by decide) rfl rfl rfl hC rfl rfl rfl rfl rfl rfl ?_
  refine AX.catch (x := 3) (j := 3) (a := 0) (b := 9) (hp := 15) (ct := 27) (pre := [(0, 9, 12, 25)]) (suf := [(0, 9, 18, 15)]) (ls' := [some (.ref 0), some (.int (x)), some (.ref 37), none]) rfl (fun z hz => ?_) (by decide) rfl (by decide) cl_L_27 cast_java_lang_IllegalStateException d_L_split_15 rfl rfl rfl rfl rfl ?_
  · simp only [List.mem_cons, List.not_mem_nil, or_false] at hz
    rcases hz with rfl
    exact Or.inr ⟨by decide, 2, by decide, by decide, cl_L_25⟩
  refine AW.iconst (pc' := 17) (v := nI 2) d_L_split_16 rfl (by decide) ?_
  exact AW.iret d_L_split_17 rfl rfl rfl ⟨rfl, rfl⟩
theorem h_split_e2 (X : ct_X) (z z' : S_c) (k : S_m) (o : Nat → Int64) (x : Int32) (hC : AF X m_C_split 7 0 0 [.ref 0, .int (x)] (wL z k o) (.inr 1) (wL z' k o)) : AF X m_L_split 8 1 6 [.ref 0, .int (x), .ref 37] (wL z k o) (.inl (some (.int (nI 3)))) (wL z' k o) := by
  refine AM.of rfl (Nat.le_of_ble_eq_true rfl) (ls := [some (.ref 0), some (.int (x)), some (.ref 37), none]) rfl ?_
  refine AW.aload_n (pc' := 1) d_L_split_0 rfl rfl rfl ?_
  refine AW.iconst (pc' := 2) (v := nI 0) d_L_split_1 rfl (by decide) ?_
  refine AW.aload_n (pc' := 3) d_L_split_2 rfl rfl rfl ?_
  refine AW.iload_n (pc' := 4) d_L_split_3 rfl rfl rfl ?_
  refine AW.cVc d_L_split_4 cv_L_39 (by decide) rfl rfl rfl hC rfl rfl rfl rfl rfl rfl ?_
  refine AX.catch (x := 1) (j := 3) (a := 0) (b := 9) (hp := 18) (ct := 15) (pre := [(0, 9, 12, 25), (0, 9, 15, 27)]) (suf := []) (ls' := [some (.ref 0), some (.int (x)), some (.ref 37), none]) rfl (fun z hz => ?_) (by decide) rfl (by decide) cl_L_15 cast_java_lang_UnsupportedOperationException d_L_split_18 rfl rfl rfl rfl rfl ?_
  · simp only [List.mem_cons, List.not_mem_nil, or_false] at hz
    rcases hz with rfl | rfl
    · exact Or.inr ⟨by decide, 2, by decide, by decide, cl_L_25⟩
    · exact Or.inr ⟨by decide, 3, by decide, by decide, cl_L_27⟩
  refine AW.iconst (pc' := 20) (v := nI 3) d_L_split_19 rfl (by decide) ?_
  exact AW.iret d_L_split_20 rfl rfl rfl ⟨rfl, rfl⟩
theorem h_join_ok (X : ct_X) (z z' : S_c) (k : S_m) (o : Nat → Int64) (x y : Int32) (hC : AF X m_C_join 7 0 0 [.ref 0, .int (x), .int (y)] (wL z k o) (.inl none) (wL z' k o)) : AF X m_L_join 8 1 6 [.ref 0, .int (x), .int (y)] (wL z k o) (.inl (some (.int (nI 0)))) (wL z' k o) := by
  refine AM.of rfl (Nat.le_of_ble_eq_true rfl) (ls := [some (.ref 0), some (.int (x)), some (.int (y)), none]) rfl ?_
  refine AW.aload_n (pc' := 1) d_L_join_0 rfl rfl rfl ?_
  refine AW.iload_n (pc' := 2) d_L_join_1 rfl rfl rfl ?_
  refine AW.iload_n (pc' := 3) d_L_join_2 rfl rfl rfl ?_
  refine AW.cV (pc' := 6) d_L_join_3 rfl cv_L_42 (by decide) rfl rfl rfl (hC) rfl rfl rfl rfl rfl rfl rfl ?_
  refine AW.goto (tgt := 15) d_L_join_6 (by decide) ?_
  refine AW.iconst (pc' := 16) (v := nI 0) d_L_join_15 rfl (by decide) ?_
  exact AW.iret d_L_join_16 rfl rfl rfl ⟨rfl, rfl⟩
theorem h_join_e0 (X : ct_X) (z z' : S_c) (k : S_m) (o : Nat → Int64) (x y : Int32) (hC : AF X m_C_join 7 0 0 [.ref 0, .int (x), .int (y)] (wL z k o) (.inr 2) (wL z' k o)) : AF X m_L_join 8 1 6 [.ref 0, .int (x), .int (y)] (wL z k o) (.inl (some (.int (nI 1)))) (wL z' k o) := by
  refine AM.of rfl (Nat.le_of_ble_eq_true rfl) (ls := [some (.ref 0), some (.int (x)), some (.int (y)), none]) rfl ?_
  refine AW.aload_n (pc' := 1) d_L_join_0 rfl rfl rfl ?_
  refine AW.iload_n (pc' := 2) d_L_join_1 rfl rfl rfl ?_
  refine AW.iload_n (pc' := 3) d_L_join_2 rfl rfl rfl ?_
  refine AW.cVc d_L_join_3 cv_L_42 (by decide) rfl rfl rfl hC rfl rfl rfl rfl rfl rfl ?_
  refine AX.catch (x := 2) (j := 3) (a := 0) (b := 6) (hp := 9) (ct := 25) (pre := []) (suf := [(0, 6, 12, 27)]) (ls' := [some (.ref 0), some (.int (x)), some (.int (y)), none]) rfl (fun z hz => nomatch hz) (by decide) rfl (by decide) cl_L_25 cast_java_lang_IllegalArgumentException d_L_join_9 rfl rfl rfl rfl rfl ?_
  refine AW.iconst (pc' := 11) (v := nI 1) d_L_join_10 rfl (by decide) ?_
  exact AW.iret d_L_join_11 rfl rfl rfl ⟨rfl, rfl⟩
theorem h_join_e1 (X : ct_X) (z z' : S_c) (k : S_m) (o : Nat → Int64) (x y : Int32) (hC : AF X m_C_join 7 0 0 [.ref 0, .int (x), .int (y)] (wL z k o) (.inr 3) (wL z' k o)) : AF X m_L_join 8 1 6 [.ref 0, .int (x), .int (y)] (wL z k o) (.inl (some (.int (nI 2)))) (wL z' k o) := by
  refine AM.of rfl (Nat.le_of_ble_eq_true rfl) (ls := [some (.ref 0), some (.int (x)), some (.int (y)), none]) rfl ?_
  refine AW.aload_n (pc' := 1) d_L_join_0 rfl rfl rfl ?_
  refine AW.iload_n (pc' := 2) d_L_join_1 rfl rfl rfl ?_
  refine AW.iload_n (pc' := 3) d_L_join_2 rfl rfl rfl ?_
  refine AW.cVc d_L_join_3 cv_L_42 (by decide) rfl rfl rfl hC rfl rfl rfl rfl rfl rfl ?_
  refine AX.catch (x := 3) (j := 3) (a := 0) (b := 6) (hp := 12) (ct := 27) (pre := [(0, 6, 9, 25)]) (suf := []) (ls' := [some (.ref 0), some (.int (x)), some (.int (y)), none]) rfl (fun z hz => ?_) (by decide) rfl (by decide) cl_L_27 cast_java_lang_IllegalStateException d_L_join_12 rfl rfl rfl rfl rfl ?_
  · simp only [List.mem_cons, List.not_mem_nil, or_false] at hz
    rcases hz with rfl
    exact Or.inr ⟨by decide, 2, by decide, by decide, cl_L_25⟩
  refine AW.iconst (pc' := 14) (v := nI 2) d_L_join_13 rfl (by decide) ?_
  exact AW.iret d_L_join_14 rfl rfl rfl ⟨rfl, rfl⟩
theorem h_offer_ok (X : ct_X) (z z' : S_c) (k : S_m) (o : Nat → Int64) (x y : Int32) (hC : AF X m_C_offer 7 0 0 [.ref 0, .int (x), .int (y)] (wL z k o) (.inl none) (wL z' k o)) : AF X m_L_offer 8 1 6 [.ref 0, .int (x), .int (y)] (wL z k o) (.inl (some (.int (nI 0)))) (wL z' k o) := by
  refine AM.of rfl (Nat.le_of_ble_eq_true rfl) (ls := [some (.ref 0), some (.int (x)), some (.int (y)), none]) rfl ?_
  refine AW.aload_n (pc' := 1) d_L_offer_0 rfl rfl rfl ?_
  refine AW.iload_n (pc' := 2) d_L_offer_1 rfl rfl rfl ?_
  refine AW.iload_n (pc' := 3) d_L_offer_2 rfl rfl rfl ?_
  refine AW.cV (pc' := 6) d_L_offer_3 rfl cv_L_45 (by decide) rfl rfl rfl (hC) rfl rfl rfl rfl rfl rfl rfl ?_
  refine AW.goto (tgt := 15) d_L_offer_6 (by decide) ?_
  refine AW.iconst (pc' := 16) (v := nI 0) d_L_offer_15 rfl (by decide) ?_
  exact AW.iret d_L_offer_16 rfl rfl rfl ⟨rfl, rfl⟩
theorem h_offer_e0 (X : ct_X) (z z' : S_c) (k : S_m) (o : Nat → Int64) (x y : Int32) (hC : AF X m_C_offer 7 0 0 [.ref 0, .int (x), .int (y)] (wL z k o) (.inr 2) (wL z' k o)) : AF X m_L_offer 8 1 6 [.ref 0, .int (x), .int (y)] (wL z k o) (.inl (some (.int (nI 1)))) (wL z' k o) := by
  refine AM.of rfl (Nat.le_of_ble_eq_true rfl) (ls := [some (.ref 0), some (.int (x)), some (.int (y)), none]) rfl ?_
  refine AW.aload_n (pc' := 1) d_L_offer_0 rfl rfl rfl ?_
  refine AW.iload_n (pc' := 2) d_L_offer_1 rfl rfl rfl ?_
  refine AW.iload_n (pc' := 3) d_L_offer_2 rfl rfl rfl ?_
  refine AW.cVc d_L_offer_3 cv_L_45 (by decide) rfl rfl rfl hC rfl rfl rfl rfl rfl rfl ?_
  refine AX.catch (x := 2) (j := 3) (a := 0) (b := 6) (hp := 9) (ct := 25) (pre := []) (suf := [(0, 6, 12, 27)]) (ls' := [some (.ref 0), some (.int (x)), some (.int (y)), none]) rfl (fun z hz => nomatch hz) (by decide) rfl (by decide) cl_L_25 cast_java_lang_IllegalArgumentException d_L_offer_9 rfl rfl rfl rfl rfl ?_
  refine AW.iconst (pc' := 11) (v := nI 1) d_L_offer_10 rfl (by decide) ?_
  exact AW.iret d_L_offer_11 rfl rfl rfl ⟨rfl, rfl⟩
theorem h_offer_e1 (X : ct_X) (z z' : S_c) (k : S_m) (o : Nat → Int64) (x y : Int32) (hC : AF X m_C_offer 7 0 0 [.ref 0, .int (x), .int (y)] (wL z k o) (.inr 3) (wL z' k o)) : AF X m_L_offer 8 1 6 [.ref 0, .int (x), .int (y)] (wL z k o) (.inl (some (.int (nI 2)))) (wL z' k o) := by
  refine AM.of rfl (Nat.le_of_ble_eq_true rfl) (ls := [some (.ref 0), some (.int (x)), some (.int (y)), none]) rfl ?_
  refine AW.aload_n (pc' := 1) d_L_offer_0 rfl rfl rfl ?_
  refine AW.iload_n (pc' := 2) d_L_offer_1 rfl rfl rfl ?_
  refine AW.iload_n (pc' := 3) d_L_offer_2 rfl rfl rfl ?_
  refine AW.cVc d_L_offer_3 cv_L_45 (by decide) rfl rfl rfl hC rfl rfl rfl rfl rfl rfl ?_
  refine AX.catch (x := 3) (j := 3) (a := 0) (b := 6) (hp := 12) (ct := 27) (pre := [(0, 6, 9, 25)]) (suf := []) (ls' := [some (.ref 0), some (.int (x)), some (.int (y)), none]) rfl (fun z hz => ?_) (by decide) rfl (by decide) cl_L_27 cast_java_lang_IllegalStateException d_L_offer_12 rfl rfl rfl rfl rfl ?_
  · simp only [List.mem_cons, List.not_mem_nil, or_false] at hz
    rcases hz with rfl
    exact Or.inr ⟨by decide, 2, by decide, by decide, cl_L_25⟩
  refine AW.iconst (pc' := 14) (v := nI 2) d_L_offer_13 rfl (by decide) ?_
  exact AW.iret d_L_offer_14 rfl rfl rfl ⟨rfl, rfl⟩
theorem h_take_ok (X : ct_X) (z z' : S_c) (k : S_m) (o : Nat → Int64) (x y : Int32) (hC : AF X m_C_take 7 0 0 [.ref 0, .int (x), .int (y)] (wL z k o) (.inl none) (wL z' k o)) : AF X m_L_take 8 1 6 [.ref 0, .int (x), .int (y)] (wL z k o) (.inl (some (.int (nI 0)))) (wL z' k o) := by
  refine AM.of rfl (Nat.le_of_ble_eq_true rfl) (ls := [some (.ref 0), some (.int (x)), some (.int (y)), none]) rfl ?_
  refine AW.aload_n (pc' := 1) d_L_take_0 rfl rfl rfl ?_
  refine AW.iload_n (pc' := 2) d_L_take_1 rfl rfl rfl ?_
  refine AW.iload_n (pc' := 3) d_L_take_2 rfl rfl rfl ?_
  refine AW.cV (pc' := 6) d_L_take_3 rfl cv_L_48 (by decide) rfl rfl rfl (hC) rfl rfl rfl rfl rfl rfl rfl ?_
  refine AW.goto (tgt := 15) d_L_take_6 (by decide) ?_
  refine AW.iconst (pc' := 16) (v := nI 0) d_L_take_15 rfl (by decide) ?_
  exact AW.iret d_L_take_16 rfl rfl rfl ⟨rfl, rfl⟩
theorem h_take_e0 (X : ct_X) (z z' : S_c) (k : S_m) (o : Nat → Int64) (x y : Int32) (hC : AF X m_C_take 7 0 0 [.ref 0, .int (x), .int (y)] (wL z k o) (.inr 2) (wL z' k o)) : AF X m_L_take 8 1 6 [.ref 0, .int (x), .int (y)] (wL z k o) (.inl (some (.int (nI 1)))) (wL z' k o) := by
  refine AM.of rfl (Nat.le_of_ble_eq_true rfl) (ls := [some (.ref 0), some (.int (x)), some (.int (y)), none]) rfl ?_
  refine AW.aload_n (pc' := 1) d_L_take_0 rfl rfl rfl ?_
  refine AW.iload_n (pc' := 2) d_L_take_1 rfl rfl rfl ?_
  refine AW.iload_n (pc' := 3) d_L_take_2 rfl rfl rfl ?_
  refine AW.cVc d_L_take_3 cv_L_48 (by decide) rfl rfl rfl hC rfl rfl rfl rfl rfl rfl ?_
  refine AX.catch (x := 2) (j := 3) (a := 0) (b := 6) (hp := 9) (ct := 25) (pre := []) (suf := [(0, 6, 12, 27)]) (ls' := [some (.ref 0), some (.int (x)), some (.int (y)), none]) rfl (fun z hz => nomatch hz) (by decide) rfl (by decide) cl_L_25 cast_java_lang_IllegalArgumentException d_L_take_9 rfl rfl rfl rfl rfl ?_
  refine AW.iconst (pc' := 11) (v := nI 1) d_L_take_10 rfl (by decide) ?_
  exact AW.iret d_L_take_11 rfl rfl rfl ⟨rfl, rfl⟩
theorem h_take_e1 (X : ct_X) (z z' : S_c) (k : S_m) (o : Nat → Int64) (x y : Int32) (hC : AF X m_C_take 7 0 0 [.ref 0, .int (x), .int (y)] (wL z k o) (.inr 3) (wL z' k o)) : AF X m_L_take 8 1 6 [.ref 0, .int (x), .int (y)] (wL z k o) (.inl (some (.int (nI 2)))) (wL z' k o) := by
  refine AM.of rfl (Nat.le_of_ble_eq_true rfl) (ls := [some (.ref 0), some (.int (x)), some (.int (y)), none]) rfl ?_
  refine AW.aload_n (pc' := 1) d_L_take_0 rfl rfl rfl ?_
  refine AW.iload_n (pc' := 2) d_L_take_1 rfl rfl rfl ?_
  refine AW.iload_n (pc' := 3) d_L_take_2 rfl rfl rfl ?_
  refine AW.cVc d_L_take_3 cv_L_48 (by decide) rfl rfl rfl hC rfl rfl rfl rfl rfl rfl ?_
  refine AX.catch (x := 3) (j := 3) (a := 0) (b := 6) (hp := 12) (ct := 27) (pre := [(0, 6, 9, 25)]) (suf := []) (ls' := [some (.ref 0), some (.int (x)), some (.int (y)), none]) rfl (fun z hz => ?_) (by decide) rfl (by decide) cl_L_27 cast_java_lang_IllegalStateException d_L_take_12 rfl rfl rfl rfl rfl ?_
  · simp only [List.mem_cons, List.not_mem_nil, or_false] at hz
    rcases hz with rfl
    exact Or.inr ⟨by decide, 2, by decide, by decide, cl_L_25⟩
  refine AW.iconst (pc' := 14) (v := nI 2) d_L_take_13 rfl (by decide) ?_
  exact AW.iret d_L_take_14 rfl rfl rfl ⟨rfl, rfl⟩
theorem h_task_ok (X : ct_X) (z z' : S_c) (k : S_m) (o : Nat → Int64) (x y : Int32) (b : Int32) (hC : AF X m_C_task 7 0 0 [.ref 0, .int (x), .int (y)] (wL z k o) (.inl (some (.int b))) (wL z' k o)) : AF X m_L_task 8 1 6 [.ref 0, .int (x), .int (y), .ref 37] (wL z k o) (.inl (some (.int (nI 0)))) (wL z' k (vp_updL o 0 (Int32.toInt64 b))) := by
  refine AM.of rfl (Nat.le_of_ble_eq_true rfl) (ls := [some (.ref 0), some (.int (x)), some (.int (y)), some (.ref 37), none]) rfl ?_
  refine AW.aload_n (pc' := 1) d_L_task_0 rfl rfl rfl ?_
  refine AW.iconst (pc' := 2) (v := nI 0) d_L_task_1 rfl (by decide) ?_
  refine AW.aload_n (pc' := 3) d_L_task_2 rfl rfl rfl ?_
  refine AW.iload_n (pc' := 4) d_L_task_3 rfl rfl rfl ?_
  refine AW.iload_n (pc' := 5) d_L_task_4 rfl rfl rfl ?_
  refine AW.cV (pc' := 8) d_L_task_5 rfl cv_L_51 (by decide) rfl rfl rfl (hC) rfl rfl rfl rfl rfl rfl rfl ?_
  refine AW.i2l (pc' := 9) d_L_task_8 rfl ?_
  refine AW.lastN (pc' := 10) (w' := (wL z' k (vp_updL o 0 (Int32.toInt64 b)))) d_L_task_9 rfl rfl (by omega) (by decide) rfl ?_
  refine AW.goto (tgt := 29) d_L_task_10 (by decide) ?_
  refine AW.iconst (pc' := 30) (v := nI 0) d_L_task_29 rfl (by decide) ?_
  exact AW.iret d_L_task_30 rfl rfl rfl ⟨rfl, rfl⟩
theorem h_task_e0 (X : ct_X) (z z' : S_c) (k : S_m) (o : Nat → Int64) (x y : Int32) (hC : AF X m_C_task 7 0 0 [.ref 0, .int (x), .int (y)] (wL z k o) (.inr 2) (wL z' k o)) : AF X m_L_task 8 1 6 [.ref 0, .int (x), .int (y), .ref 37] (wL z k o) (.inl (some (.int (nI 1)))) (wL z' k o) := by
  refine AM.of rfl (Nat.le_of_ble_eq_true rfl) (ls := [some (.ref 0), some (.int (x)), some (.int (y)), some (.ref 37), none]) rfl ?_
  refine AW.aload_n (pc' := 1) d_L_task_0 rfl rfl rfl ?_
  refine AW.iconst (pc' := 2) (v := nI 0) d_L_task_1 rfl (by decide) ?_
  refine AW.aload_n (pc' := 3) d_L_task_2 rfl rfl rfl ?_
  refine AW.iload_n (pc' := 4) d_L_task_3 rfl rfl rfl ?_
  refine AW.iload_n (pc' := 5) d_L_task_4 rfl rfl rfl ?_
  refine AW.cVc d_L_task_5 cv_L_51 (by decide) rfl rfl rfl hC rfl rfl rfl rfl rfl rfl ?_
  refine AX.catchA (x := 2) (j := 4) (a := 0) (b := 10) (hp := 13) (ct := 25) (pre := []) (suf := [(0, 10, 17, 13), (0, 10, 21, 27), (0, 10, 25, 15)]) (ls' := [some (.ref 0), some (.int (x)), some (.int (y)), some (.ref 37), none]) rfl (fun z hz => nomatch hz) (by decide) rfl (by decide) cl_L_25 cast_java_lang_IllegalArgumentException d_L_task_13 rfl rfl rfl rfl ?_
  refine AW.iconst (pc' := 16) (v := nI 1) d_L_task_15 rfl (by decide) ?_
  exact AW.iret d_L_task_16 rfl rfl rfl ⟨rfl, rfl⟩
theorem h_task_e1 (X : ct_X) (z z' : S_c) (k : S_m) (o : Nat → Int64) (x y : Int32) (hC : AF X m_C_task 7 0 0 [.ref 0, .int (x), .int (y)] (wL z k o) (.inr 0) (wL z' k o)) : AF X m_L_task 8 1 6 [.ref 0, .int (x), .int (y), .ref 37] (wL z k o) (.inl (some (.int (nI 2)))) (wL z' k o) := by
  refine AM.of rfl (Nat.le_of_ble_eq_true rfl) (ls := [some (.ref 0), some (.int (x)), some (.int (y)), some (.ref 37), none]) rfl ?_
  refine AW.aload_n (pc' := 1) d_L_task_0 rfl rfl rfl ?_
  refine AW.iconst (pc' := 2) (v := nI 0) d_L_task_1 rfl (by decide) ?_
  refine AW.aload_n (pc' := 3) d_L_task_2 rfl rfl rfl ?_
  refine AW.iload_n (pc' := 4) d_L_task_3 rfl rfl rfl ?_
  refine AW.iload_n (pc' := 5) d_L_task_4 rfl rfl rfl ?_
  refine AW.cVc d_L_task_5 cv_L_51 (by decide) rfl rfl rfl hC rfl rfl rfl rfl rfl rfl ?_
  refine AX.catchA (x := 0) (j := 4) (a := 0) (b := 10) (hp := 17) (ct := 13) (pre := [(0, 10, 13, 25)]) (suf := [(0, 10, 21, 27), (0, 10, 25, 15)]) (ls' := [some (.ref 0), some (.int (x)), some (.int (y)), some (.ref 37), none]) rfl (fun z hz => ?_) (by decide) rfl (by decide) cl_L_13 cast_java_lang_IndexOutOfBoundsException d_L_task_17 rfl rfl rfl rfl ?_
  · simp only [List.mem_cons, List.not_mem_nil, or_false] at hz
    rcases hz with rfl
    exact Or.inr ⟨by decide, 2, by decide, by decide, cl_L_25⟩
  refine AW.iconst (pc' := 20) (v := nI 2) d_L_task_19 rfl (by decide) ?_
  exact AW.iret d_L_task_20 rfl rfl rfl ⟨rfl, rfl⟩
theorem h_task_e2 (X : ct_X) (z z' : S_c) (k : S_m) (o : Nat → Int64) (x y : Int32) (hC : AF X m_C_task 7 0 0 [.ref 0, .int (x), .int (y)] (wL z k o) (.inr 3) (wL z' k o)) : AF X m_L_task 8 1 6 [.ref 0, .int (x), .int (y), .ref 37] (wL z k o) (.inl (some (.int (nI 3)))) (wL z' k o) := by
  refine AM.of rfl (Nat.le_of_ble_eq_true rfl) (ls := [some (.ref 0), some (.int (x)), some (.int (y)), some (.ref 37), none]) rfl ?_
  refine AW.aload_n (pc' := 1) d_L_task_0 rfl rfl rfl ?_
  refine AW.iconst (pc' := 2) (v := nI 0) d_L_task_1 rfl (by decide) ?_
  refine AW.aload_n (pc' := 3) d_L_task_2 rfl rfl rfl ?_
  refine AW.iload_n (pc' := 4) d_L_task_3 rfl rfl rfl ?_
  refine AW.iload_n (pc' := 5) d_L_task_4 rfl rfl rfl ?_
  refine AW.cVc d_L_task_5 cv_L_51 (by decide) rfl rfl rfl hC rfl rfl rfl rfl rfl rfl ?_
  refine AX.catchA (x := 3) (j := 4) (a := 0) (b := 10) (hp := 21) (ct := 27) (pre := [(0, 10, 13, 25), (0, 10, 17, 13)]) (suf := [(0, 10, 25, 15)]) (ls' := [some (.ref 0), some (.int (x)), some (.int (y)), some (.ref 37), none]) rfl (fun z hz => ?_) (by decide) rfl (by decide) cl_L_27 cast_java_lang_IllegalStateException d_L_task_21 rfl rfl rfl rfl ?_
  · simp only [List.mem_cons, List.not_mem_nil, or_false] at hz
    rcases hz with rfl | rfl
    · exact Or.inr ⟨by decide, 2, by decide, by decide, cl_L_25⟩
    · exact Or.inr ⟨by decide, 0, by decide, by decide, cl_L_13⟩
  refine AW.iconst (pc' := 24) (v := nI 3) d_L_task_23 rfl (by decide) ?_
  exact AW.iret d_L_task_24 rfl rfl rfl ⟨rfl, rfl⟩
theorem h_task_e3 (X : ct_X) (z z' : S_c) (k : S_m) (o : Nat → Int64) (x y : Int32) (hC : AF X m_C_task 7 0 0 [.ref 0, .int (x), .int (y)] (wL z k o) (.inr 1) (wL z' k o)) : AF X m_L_task 8 1 6 [.ref 0, .int (x), .int (y), .ref 37] (wL z k o) (.inl (some (.int (nI 4)))) (wL z' k o) := by
  refine AM.of rfl (Nat.le_of_ble_eq_true rfl) (ls := [some (.ref 0), some (.int (x)), some (.int (y)), some (.ref 37), none]) rfl ?_
  refine AW.aload_n (pc' := 1) d_L_task_0 rfl rfl rfl ?_
  refine AW.iconst (pc' := 2) (v := nI 0) d_L_task_1 rfl (by decide) ?_
  refine AW.aload_n (pc' := 3) d_L_task_2 rfl rfl rfl ?_
  refine AW.iload_n (pc' := 4) d_L_task_3 rfl rfl rfl ?_
  refine AW.iload_n (pc' := 5) d_L_task_4 rfl rfl rfl ?_
  refine AW.cVc d_L_task_5 cv_L_51 (by decide) rfl rfl rfl hC rfl rfl rfl rfl rfl rfl ?_
  refine AX.catchA (x := 1) (j := 4) (a := 0) (b := 10) (hp := 25) (ct := 15) (pre := [(0, 10, 13, 25), (0, 10, 17, 13), (0, 10, 21, 27)]) (suf := []) (ls' := [some (.ref 0), some (.int (x)), some (.int (y)), some (.ref 37), none]) rfl (fun z hz => ?_) (by decide) rfl (by decide) cl_L_15 cast_java_lang_UnsupportedOperationException d_L_task_25 rfl rfl rfl rfl ?_
  · simp only [List.mem_cons, List.not_mem_nil, or_false] at hz
    rcases hz with rfl | rfl | rfl
    · exact Or.inr ⟨by decide, 2, by decide, by decide, cl_L_25⟩
    · exact Or.inr ⟨by decide, 0, by decide, by decide, cl_L_13⟩
    · exact Or.inr ⟨by decide, 3, by decide, by decide, cl_L_27⟩
  refine AW.iconst (pc' := 28) (v := nI 4) d_L_task_27 rfl (by decide) ?_
  exact AW.iret d_L_task_28 rfl rfl rfl ⟨rfl, rfl⟩
theorem h_answer_ok (X : ct_X) (z z' : S_c) (k : S_m) (o : Nat → Int64) (x y : Int32) (hC : AF X m_C_answer 7 0 0 [.ref 0, .int (x), .int (y)] (wL z k o) (.inl none) (wL z' k o)) : AF X m_L_answer 8 1 6 [.ref 0, .int (x), .int (y)] (wL z k o) (.inl (some (.int (nI 0)))) (wL z' k o) := by
  refine AM.of rfl (Nat.le_of_ble_eq_true rfl) (ls := [some (.ref 0), some (.int (x)), some (.int (y)), none]) rfl ?_
  refine AW.aload_n (pc' := 1) d_L_answer_0 rfl rfl rfl ?_
  refine AW.iload_n (pc' := 2) d_L_answer_1 rfl rfl rfl ?_
  refine AW.iload_n (pc' := 3) d_L_answer_2 rfl rfl rfl ?_
  refine AW.cV (pc' := 6) d_L_answer_3 rfl cv_L_55 (by decide) rfl rfl rfl (hC) rfl rfl rfl rfl rfl rfl rfl ?_
  refine AW.goto (tgt := 15) d_L_answer_6 (by decide) ?_
  refine AW.iconst (pc' := 16) (v := nI 0) d_L_answer_15 rfl (by decide) ?_
  exact AW.iret d_L_answer_16 rfl rfl rfl ⟨rfl, rfl⟩
theorem h_answer_e0 (X : ct_X) (z z' : S_c) (k : S_m) (o : Nat → Int64) (x y : Int32) (hC : AF X m_C_answer 7 0 0 [.ref 0, .int (x), .int (y)] (wL z k o) (.inr 2) (wL z' k o)) : AF X m_L_answer 8 1 6 [.ref 0, .int (x), .int (y)] (wL z k o) (.inl (some (.int (nI 1)))) (wL z' k o) := by
  refine AM.of rfl (Nat.le_of_ble_eq_true rfl) (ls := [some (.ref 0), some (.int (x)), some (.int (y)), none]) rfl ?_
  refine AW.aload_n (pc' := 1) d_L_answer_0 rfl rfl rfl ?_
  refine AW.iload_n (pc' := 2) d_L_answer_1 rfl rfl rfl ?_
  refine AW.iload_n (pc' := 3) d_L_answer_2 rfl rfl rfl ?_
  refine AW.cVc d_L_answer_3 cv_L_55 (by decide) rfl rfl rfl hC rfl rfl rfl rfl rfl rfl ?_
  refine AX.catch (x := 2) (j := 3) (a := 0) (b := 6) (hp := 9) (ct := 25) (pre := []) (suf := [(0, 6, 12, 27)]) (ls' := [some (.ref 0), some (.int (x)), some (.int (y)), none]) rfl (fun z hz => nomatch hz) (by decide) rfl (by decide) cl_L_25 cast_java_lang_IllegalArgumentException d_L_answer_9 rfl rfl rfl rfl rfl ?_
  refine AW.iconst (pc' := 11) (v := nI 1) d_L_answer_10 rfl (by decide) ?_
  exact AW.iret d_L_answer_11 rfl rfl rfl ⟨rfl, rfl⟩
theorem h_answer_e1 (X : ct_X) (z z' : S_c) (k : S_m) (o : Nat → Int64) (x y : Int32) (hC : AF X m_C_answer 7 0 0 [.ref 0, .int (x), .int (y)] (wL z k o) (.inr 3) (wL z' k o)) : AF X m_L_answer 8 1 6 [.ref 0, .int (x), .int (y)] (wL z k o) (.inl (some (.int (nI 2)))) (wL z' k o) := by
  refine AM.of rfl (Nat.le_of_ble_eq_true rfl) (ls := [some (.ref 0), some (.int (x)), some (.int (y)), none]) rfl ?_
  refine AW.aload_n (pc' := 1) d_L_answer_0 rfl rfl rfl ?_
  refine AW.iload_n (pc' := 2) d_L_answer_1 rfl rfl rfl ?_
  refine AW.iload_n (pc' := 3) d_L_answer_2 rfl rfl rfl ?_
  refine AW.cVc d_L_answer_3 cv_L_55 (by decide) rfl rfl rfl hC rfl rfl rfl rfl rfl rfl ?_
  refine AX.catch (x := 3) (j := 3) (a := 0) (b := 6) (hp := 12) (ct := 27) (pre := [(0, 6, 9, 25)]) (suf := []) (ls' := [some (.ref 0), some (.int (x)), some (.int (y)), none]) rfl (fun z hz => ?_) (by decide) rfl (by decide) cl_L_27 cast_java_lang_IllegalStateException d_L_answer_12 rfl rfl rfl rfl rfl ?_
  · simp only [List.mem_cons, List.not_mem_nil, or_false] at hz
    rcases hz with rfl
    exact Or.inr ⟨by decide, 2, by decide, by decide, cl_L_25⟩
  refine AW.iconst (pc' := 14) (v := nI 2) d_L_answer_13 rfl (by decide) ?_
  exact AW.iret d_L_answer_14 rfl rfl rfl ⟨rfl, rfl⟩
theorem h_span_ok (X : ct_X) (z z' : S_c) (k : S_m) (o : Nat → Int64) (x : Int32) (b : Int32) (hC : AF X m_C_span 7 0 0 [.ref 0, .int (x)] (wL z k o) (.inl (some (.int b))) (wL z' k o)) : AF X m_L_span 8 1 6 [.ref 0, .int (x), .ref 37] (wL z k o) (.inl (some (.int (nI 0)))) (wL z' k (vp_updL o 0 (Int32.toInt64 b))) := by
  refine AM.of rfl (Nat.le_of_ble_eq_true rfl) (ls := [some (.ref 0), some (.int (x)), some (.ref 37), none]) rfl ?_
  refine AW.aload_n (pc' := 1) d_L_span_0 rfl rfl rfl ?_
  refine AW.iconst (pc' := 2) (v := nI 0) d_L_span_1 rfl (by decide) ?_
  refine AW.aload_n (pc' := 3) d_L_span_2 rfl rfl rfl ?_
  refine AW.iload_n (pc' := 4) d_L_span_3 rfl rfl rfl ?_
  refine AW.cV (pc' := 7) d_L_span_4 rfl cv_L_59 (by decide) rfl rfl rfl (hC) rfl rfl rfl rfl rfl rfl rfl ?_
  refine AW.i2l (pc' := 8) d_L_span_7 rfl ?_
  refine AW.lastN (pc' := 9) (w' := (wL z' k (vp_updL o 0 (Int32.toInt64 b)))) d_L_span_8 rfl rfl (by omega) (by decide) rfl ?_
  refine AW.goto (tgt := 15) d_L_span_9 (by decide) ?_
  refine AW.iconst (pc' := 16) (v := nI 0) d_L_span_15 rfl (by decide) ?_
  exact AW.iret d_L_span_16 rfl rfl rfl ⟨rfl, rfl⟩
theorem h_span_e0 (X : ct_X) (z z' : S_c) (k : S_m) (o : Nat → Int64) (x : Int32) (hC : AF X m_C_span 7 0 0 [.ref 0, .int (x)] (wL z k o) (.inr 0) (wL z' k o)) : AF X m_L_span 8 1 6 [.ref 0, .int (x), .ref 37] (wL z k o) (.inl (some (.int (nI 1)))) (wL z' k o) := by
  refine AM.of rfl (Nat.le_of_ble_eq_true rfl) (ls := [some (.ref 0), some (.int (x)), some (.ref 37), none]) rfl ?_
  refine AW.aload_n (pc' := 1) d_L_span_0 rfl rfl rfl ?_
  refine AW.iconst (pc' := 2) (v := nI 0) d_L_span_1 rfl (by decide) ?_
  refine AW.aload_n (pc' := 3) d_L_span_2 rfl rfl rfl ?_
  refine AW.iload_n (pc' := 4) d_L_span_3 rfl rfl rfl ?_
  refine AW.cVc d_L_span_4 cv_L_59 (by decide) rfl rfl rfl hC rfl rfl rfl rfl rfl rfl ?_
  refine AX.catch (x := 0) (j := 3) (a := 0) (b := 9) (hp := 12) (ct := 13) (pre := []) (suf := []) (ls' := [some (.ref 0), some (.int (x)), some (.ref 37), none]) rfl (fun z hz => nomatch hz) (by decide) rfl (by decide) cl_L_13 cast_java_lang_IndexOutOfBoundsException d_L_span_12 rfl rfl rfl rfl rfl ?_
  refine AW.iconst (pc' := 14) (v := nI 1) d_L_span_13 rfl (by decide) ?_
  exact AW.iret d_L_span_14 rfl rfl rfl ⟨rfl, rfl⟩
theorem h_tick_ok (X : ct_X) (z z' : S_c) (k : S_m) (o : Nat → Int64) (x : Int32) (b : Int32) (hC : AF X m_C_tick 7 0 0 [.ref 0, .int (x)] (wL z k o) (.inl (some (.int b))) (wL z' k o)) : AF X m_L_tick 8 1 6 [.ref 0, .int (x), .ref 37] (wL z k o) (.inl (some (.int (nI 0)))) (wL z' k (vp_updL o 0 (Int32.toInt64 b))) := by
  refine AM.of rfl (Nat.le_of_ble_eq_true rfl) (ls := [some (.ref 0), some (.int (x)), some (.ref 37), none]) rfl ?_
  refine AW.aload_n (pc' := 1) d_L_tick_0 rfl rfl rfl ?_
  refine AW.iconst (pc' := 2) (v := nI 0) d_L_tick_1 rfl (by decide) ?_
  refine AW.aload_n (pc' := 3) d_L_tick_2 rfl rfl rfl ?_
  refine AW.iload_n (pc' := 4) d_L_tick_3 rfl rfl rfl ?_
  refine AW.cV (pc' := 7) d_L_tick_4 rfl cv_L_62 (by decide) rfl rfl rfl (hC) rfl rfl rfl rfl rfl rfl rfl ?_
  refine AW.i2l (pc' := 8) d_L_tick_7 rfl ?_
  refine AW.lastN (pc' := 9) (w' := (wL z' k (vp_updL o 0 (Int32.toInt64 b)))) d_L_tick_8 rfl rfl (by omega) (by decide) rfl ?_
  refine AW.goto (tgt := 15) d_L_tick_9 (by decide) ?_
  refine AW.iconst (pc' := 16) (v := nI 0) d_L_tick_15 rfl (by decide) ?_
  exact AW.iret d_L_tick_16 rfl rfl rfl ⟨rfl, rfl⟩
theorem h_tick_e0 (X : ct_X) (z z' : S_c) (k : S_m) (o : Nat → Int64) (x : Int32) (hC : AF X m_C_tick 7 0 0 [.ref 0, .int (x)] (wL z k o) (.inr 0) (wL z' k o)) : AF X m_L_tick 8 1 6 [.ref 0, .int (x), .ref 37] (wL z k o) (.inl (some (.int (nI 1)))) (wL z' k o) := by
  refine AM.of rfl (Nat.le_of_ble_eq_true rfl) (ls := [some (.ref 0), some (.int (x)), some (.ref 37), none]) rfl ?_
  refine AW.aload_n (pc' := 1) d_L_tick_0 rfl rfl rfl ?_
  refine AW.iconst (pc' := 2) (v := nI 0) d_L_tick_1 rfl (by decide) ?_
  refine AW.aload_n (pc' := 3) d_L_tick_2 rfl rfl rfl ?_
  refine AW.iload_n (pc' := 4) d_L_tick_3 rfl rfl rfl ?_
  refine AW.cVc d_L_tick_4 cv_L_62 (by decide) rfl rfl rfl hC rfl rfl rfl rfl rfl rfl ?_
  refine AX.catch (x := 0) (j := 3) (a := 0) (b := 9) (hp := 12) (ct := 13) (pre := []) (suf := []) (ls' := [some (.ref 0), some (.int (x)), some (.ref 37), none]) rfl (fun z hz => nomatch hz) (by decide) rfl (by decide) cl_L_13 cast_java_lang_IndexOutOfBoundsException d_L_tick_12 rfl rfl rfl rfl rfl ?_
  refine AW.iconst (pc' := 14) (v := nI 1) d_L_tick_13 rfl (by decide) ?_
  exact AW.iret d_L_tick_14 rfl rfl rfl ⟨rfl, rfl⟩
theorem h_led_ok (X : ct_X) (z z' : S_c) (k : S_m) (o : Nat → Int64) (x y : Int32) (b : Int32) (hC : AF X m_C_led 7 0 0 [.ref 0, .int (x), .int (y)] (wL z k o) (.inl (some (.int b))) (wL z' k o)) : AF X m_L_led 8 1 6 [.ref 0, .int (x), .int (y), .ref 37] (wL z k o) (.inl (some (.int (nI 0)))) (wL z' k (vp_updL o 0 (Int32.toInt64 b))) := by
  refine AM.of rfl (Nat.le_of_ble_eq_true rfl) (ls := [some (.ref 0), some (.int (x)), some (.int (y)), some (.ref 37), none]) rfl ?_
  refine AW.aload_n (pc' := 1) d_L_led_0 rfl rfl rfl ?_
  refine AW.iconst (pc' := 2) (v := nI 0) d_L_led_1 rfl (by decide) ?_
  refine AW.aload_n (pc' := 3) d_L_led_2 rfl rfl rfl ?_
  refine AW.iload_n (pc' := 4) d_L_led_3 rfl rfl rfl ?_
  refine AW.iload_n (pc' := 5) d_L_led_4 rfl rfl rfl ?_
  refine AW.cV (pc' := 8) d_L_led_5 rfl cv_L_65 (by decide) rfl rfl rfl (hC) rfl rfl rfl rfl rfl rfl rfl ?_
  refine AW.i2l (pc' := 9) d_L_led_8 rfl ?_
  refine AW.lastN (pc' := 10) (w' := (wL z' k (vp_updL o 0 (Int32.toInt64 b)))) d_L_led_9 rfl rfl (by omega) (by decide) rfl ?_
  refine AW.goto (tgt := 25) d_L_led_10 (by decide) ?_
  refine AW.iconst (pc' := 26) (v := nI 0) d_L_led_25 rfl (by decide) ?_
  exact AW.iret d_L_led_26 rfl rfl rfl ⟨rfl, rfl⟩
theorem h_led_e0 (X : ct_X) (z z' : S_c) (k : S_m) (o : Nat → Int64) (x y : Int32) (hC : AF X m_C_led 7 0 0 [.ref 0, .int (x), .int (y)] (wL z k o) (.inr 2) (wL z' k o)) : AF X m_L_led 8 1 6 [.ref 0, .int (x), .int (y), .ref 37] (wL z k o) (.inl (some (.int (nI 1)))) (wL z' k o) := by
  refine AM.of rfl (Nat.le_of_ble_eq_true rfl) (ls := [some (.ref 0), some (.int (x)), some (.int (y)), some (.ref 37), none]) rfl ?_
  refine AW.aload_n (pc' := 1) d_L_led_0 rfl rfl rfl ?_
  refine AW.iconst (pc' := 2) (v := nI 0) d_L_led_1 rfl (by decide) ?_
  refine AW.aload_n (pc' := 3) d_L_led_2 rfl rfl rfl ?_
  refine AW.iload_n (pc' := 4) d_L_led_3 rfl rfl rfl ?_
  refine AW.iload_n (pc' := 5) d_L_led_4 rfl rfl rfl ?_
  refine AW.cVc d_L_led_5 cv_L_65 (by decide) rfl rfl rfl hC rfl rfl rfl rfl rfl rfl ?_
  refine AX.catchA (x := 2) (j := 4) (a := 0) (b := 10) (hp := 13) (ct := 25) (pre := []) (suf := [(0, 10, 17, 13), (0, 10, 21, 15)]) (ls' := [some (.ref 0), some (.int (x)), some (.int (y)), some (.ref 37), none]) rfl (fun z hz => nomatch hz) (by decide) rfl (by decide) cl_L_25 cast_java_lang_IllegalArgumentException d_L_led_13 rfl rfl rfl rfl ?_
  refine AW.iconst (pc' := 16) (v := nI 1) d_L_led_15 rfl (by decide) ?_
  exact AW.iret d_L_led_16 rfl rfl rfl ⟨rfl, rfl⟩
theorem h_led_e1 (X : ct_X) (z z' : S_c) (k : S_m) (o : Nat → Int64) (x y : Int32) (hC : AF X m_C_led 7 0 0 [.ref 0, .int (x), .int (y)] (wL z k o) (.inr 0) (wL z' k o)) : AF X m_L_led 8 1 6 [.ref 0, .int (x), .int (y), .ref 37] (wL z k o) (.inl (some (.int (nI 2)))) (wL z' k o) := by
  refine AM.of rfl (Nat.le_of_ble_eq_true rfl) (ls := [some (.ref 0), some (.int (x)), some (.int (y)), some (.ref 37), none]) rfl ?_
  refine AW.aload_n (pc' := 1) d_L_led_0 rfl rfl rfl ?_
  refine AW.iconst (pc' := 2) (v := nI 0) d_L_led_1 rfl (by decide) ?_
  refine AW.aload_n (pc' := 3) d_L_led_2 rfl rfl rfl ?_
  refine AW.iload_n (pc' := 4) d_L_led_3 rfl rfl rfl ?_
  refine AW.iload_n (pc' := 5) d_L_led_4 rfl rfl rfl ?_
  refine AW.cVc d_L_led_5 cv_L_65 (by decide) rfl rfl rfl hC rfl rfl rfl rfl rfl rfl ?_
  refine AX.catchA (x := 0) (j := 4) (a := 0) (b := 10) (hp := 17) (ct := 13) (pre := [(0, 10, 13, 25)]) (suf := [(0, 10, 21, 15)]) (ls' := [some (.ref 0), some (.int (x)), some (.int (y)), some (.ref 37), none]) rfl (fun z hz => ?_) (by decide) rfl (by decide) cl_L_13 cast_java_lang_IndexOutOfBoundsException d_L_led_17 rfl rfl rfl rfl ?_
  · simp only [List.mem_cons, List.not_mem_nil, or_false] at hz
    rcases hz with rfl
    exact Or.inr ⟨by decide, 2, by decide, by decide, cl_L_25⟩
  refine AW.iconst (pc' := 20) (v := nI 2) d_L_led_19 rfl (by decide) ?_
  exact AW.iret d_L_led_20 rfl rfl rfl ⟨rfl, rfl⟩
theorem h_led_e2 (X : ct_X) (z z' : S_c) (k : S_m) (o : Nat → Int64) (x y : Int32) (hC : AF X m_C_led 7 0 0 [.ref 0, .int (x), .int (y)] (wL z k o) (.inr 1) (wL z' k o)) : AF X m_L_led 8 1 6 [.ref 0, .int (x), .int (y), .ref 37] (wL z k o) (.inl (some (.int (nI 3)))) (wL z' k o) := by
  refine AM.of rfl (Nat.le_of_ble_eq_true rfl) (ls := [some (.ref 0), some (.int (x)), some (.int (y)), some (.ref 37), none]) rfl ?_
  refine AW.aload_n (pc' := 1) d_L_led_0 rfl rfl rfl ?_
  refine AW.iconst (pc' := 2) (v := nI 0) d_L_led_1 rfl (by decide) ?_
  refine AW.aload_n (pc' := 3) d_L_led_2 rfl rfl rfl ?_
  refine AW.iload_n (pc' := 4) d_L_led_3 rfl rfl rfl ?_
  refine AW.iload_n (pc' := 5) d_L_led_4 rfl rfl rfl ?_
  refine AW.cVc d_L_led_5 cv_L_65 (by decide) rfl rfl rfl hC rfl rfl rfl rfl rfl rfl ?_
  refine AX.catchA (x := 1) (j := 4) (a := 0) (b := 10) (hp := 21) (ct := 15) (pre := [(0, 10, 13, 25), (0, 10, 17, 13)]) (suf := []) (ls' := [some (.ref 0), some (.int (x)), some (.int (y)), some (.ref 37), none]) rfl (fun z hz => ?_) (by decide) rfl (by decide) cl_L_15 cast_java_lang_UnsupportedOperationException d_L_led_21 rfl rfl rfl rfl ?_
  · simp only [List.mem_cons, List.not_mem_nil, or_false] at hz
    rcases hz with rfl | rfl
    · exact Or.inr ⟨by decide, 2, by decide, by decide, cl_L_25⟩
    · exact Or.inr ⟨by decide, 0, by decide, by decide, cl_L_13⟩
  refine AW.iconst (pc' := 24) (v := nI 3) d_L_led_23 rfl (by decide) ?_
  exact AW.iret d_L_led_24 rfl rfl rfl ⟨rfl, rfl⟩
theorem h_sectorAt_ok (X : ct_X) (z z' : S_c) (k : S_m) (o : Nat → Int64) (x y : Int32) (b : Int32) (hC : AF X m_C_sectorAt 7 0 0 [.ref 0, .int (x), .int (y)] (wL z k o) (.inl (some (.int b))) (wL z' k o)) : AF X m_L_sectorAt 8 1 6 [.ref 0, .int (x), .int (y), .ref 37] (wL z k o) (.inl (some (.int (nI 0)))) (wL z' k (vp_updL o 0 (Int32.toInt64 b))) := by
  refine AM.of rfl (Nat.le_of_ble_eq_true rfl) (ls := [some (.ref 0), some (.int (x)), some (.int (y)), some (.ref 37), none]) rfl ?_
  refine AW.aload_n (pc' := 1) d_L_sectorAt_0 rfl rfl rfl ?_
  refine AW.iconst (pc' := 2) (v := nI 0) d_L_sectorAt_1 rfl (by decide) ?_
  refine AW.aload_n (pc' := 3) d_L_sectorAt_2 rfl rfl rfl ?_
  refine AW.iload_n (pc' := 4) d_L_sectorAt_3 rfl rfl rfl ?_
  refine AW.iload_n (pc' := 5) d_L_sectorAt_4 rfl rfl rfl ?_
  refine AW.cV (pc' := 8) d_L_sectorAt_5 rfl cv_L_68 (by decide) rfl rfl rfl (hC) rfl rfl rfl rfl rfl rfl rfl ?_
  refine AW.i2l (pc' := 9) d_L_sectorAt_8 rfl ?_
  refine AW.lastN (pc' := 10) (w' := (wL z' k (vp_updL o 0 (Int32.toInt64 b)))) d_L_sectorAt_9 rfl rfl (by omega) (by decide) rfl ?_
  refine AW.goto (tgt := 17) d_L_sectorAt_10 (by decide) ?_
  refine AW.iconst (pc' := 18) (v := nI 0) d_L_sectorAt_17 rfl (by decide) ?_
  exact AW.iret d_L_sectorAt_18 rfl rfl rfl ⟨rfl, rfl⟩
theorem h_sectorAt_e0 (X : ct_X) (z z' : S_c) (k : S_m) (o : Nat → Int64) (x y : Int32) (hC : AF X m_C_sectorAt 7 0 0 [.ref 0, .int (x), .int (y)] (wL z k o) (.inr 2) (wL z' k o)) : AF X m_L_sectorAt 8 1 6 [.ref 0, .int (x), .int (y), .ref 37] (wL z k o) (.inl (some (.int (nI 1)))) (wL z' k o) := by
  refine AM.of rfl (Nat.le_of_ble_eq_true rfl) (ls := [some (.ref 0), some (.int (x)), some (.int (y)), some (.ref 37), none]) rfl ?_
  refine AW.aload_n (pc' := 1) d_L_sectorAt_0 rfl rfl rfl ?_
  refine AW.iconst (pc' := 2) (v := nI 0) d_L_sectorAt_1 rfl (by decide) ?_
  refine AW.aload_n (pc' := 3) d_L_sectorAt_2 rfl rfl rfl ?_
  refine AW.iload_n (pc' := 4) d_L_sectorAt_3 rfl rfl rfl ?_
  refine AW.iload_n (pc' := 5) d_L_sectorAt_4 rfl rfl rfl ?_
  refine AW.cVc d_L_sectorAt_5 cv_L_68 (by decide) rfl rfl rfl hC rfl rfl rfl rfl rfl rfl ?_
  refine AX.catchA (x := 2) (j := 4) (a := 0) (b := 10) (hp := 13) (ct := 25) (pre := []) (suf := []) (ls' := [some (.ref 0), some (.int (x)), some (.int (y)), some (.ref 37), none]) rfl (fun z hz => nomatch hz) (by decide) rfl (by decide) cl_L_25 cast_java_lang_IllegalArgumentException d_L_sectorAt_13 rfl rfl rfl rfl ?_
  refine AW.iconst (pc' := 16) (v := nI 1) d_L_sectorAt_15 rfl (by decide) ?_
  exact AW.iret d_L_sectorAt_16 rfl rfl rfl ⟨rfl, rfl⟩
theorem h_personAt_ok (X : ct_X) (z z' : S_c) (k : S_m) (o : Nat → Int64) (x y : Int32) (b : Int32) (hC : AF X m_C_personAt 7 0 0 [.ref 0, .int (x), .int (y)] (wL z k o) (.inl (some (.int b))) (wL z' k o)) : AF X m_L_personAt 8 1 6 [.ref 0, .int (x), .int (y), .ref 37] (wL z k o) (.inl (some (.int (nI 0)))) (wL z' k (vp_updL o 0 (Int32.toInt64 b))) := by
  refine AM.of rfl (Nat.le_of_ble_eq_true rfl) (ls := [some (.ref 0), some (.int (x)), some (.int (y)), some (.ref 37), none]) rfl ?_
  refine AW.aload_n (pc' := 1) d_L_personAt_0 rfl rfl rfl ?_
  refine AW.iconst (pc' := 2) (v := nI 0) d_L_personAt_1 rfl (by decide) ?_
  refine AW.aload_n (pc' := 3) d_L_personAt_2 rfl rfl rfl ?_
  refine AW.iload_n (pc' := 4) d_L_personAt_3 rfl rfl rfl ?_
  refine AW.iload_n (pc' := 5) d_L_personAt_4 rfl rfl rfl ?_
  refine AW.cV (pc' := 8) d_L_personAt_5 rfl cv_L_71 (by decide) rfl rfl rfl (hC) rfl rfl rfl rfl rfl rfl rfl ?_
  refine AW.i2l (pc' := 9) d_L_personAt_8 rfl ?_
  refine AW.lastN (pc' := 10) (w' := (wL z' k (vp_updL o 0 (Int32.toInt64 b)))) d_L_personAt_9 rfl rfl (by omega) (by decide) rfl ?_
  refine AW.goto (tgt := 17) d_L_personAt_10 (by decide) ?_
  refine AW.iconst (pc' := 18) (v := nI 0) d_L_personAt_17 rfl (by decide) ?_
  exact AW.iret d_L_personAt_18 rfl rfl rfl ⟨rfl, rfl⟩
theorem h_personAt_e0 (X : ct_X) (z z' : S_c) (k : S_m) (o : Nat → Int64) (x y : Int32) (hC : AF X m_C_personAt 7 0 0 [.ref 0, .int (x), .int (y)] (wL z k o) (.inr 2) (wL z' k o)) : AF X m_L_personAt 8 1 6 [.ref 0, .int (x), .int (y), .ref 37] (wL z k o) (.inl (some (.int (nI 1)))) (wL z' k o) := by
  refine AM.of rfl (Nat.le_of_ble_eq_true rfl) (ls := [some (.ref 0), some (.int (x)), some (.int (y)), some (.ref 37), none]) rfl ?_
  refine AW.aload_n (pc' := 1) d_L_personAt_0 rfl rfl rfl ?_
  refine AW.iconst (pc' := 2) (v := nI 0) d_L_personAt_1 rfl (by decide) ?_
  refine AW.aload_n (pc' := 3) d_L_personAt_2 rfl rfl rfl ?_
  refine AW.iload_n (pc' := 4) d_L_personAt_3 rfl rfl rfl ?_
  refine AW.iload_n (pc' := 5) d_L_personAt_4 rfl rfl rfl ?_
  refine AW.cVc d_L_personAt_5 cv_L_71 (by decide) rfl rfl rfl hC rfl rfl rfl rfl rfl rfl ?_
  refine AX.catchA (x := 2) (j := 4) (a := 0) (b := 10) (hp := 13) (ct := 25) (pre := []) (suf := []) (ls' := [some (.ref 0), some (.int (x)), some (.int (y)), some (.ref 37), none]) rfl (fun z hz => nomatch hz) (by decide) rfl (by decide) cl_L_25 cast_java_lang_IllegalArgumentException d_L_personAt_13 rfl rfl rfl rfl ?_
  refine AW.iconst (pc' := 16) (v := nI 1) d_L_personAt_15 rfl (by decide) ?_
  exact AW.iret d_L_personAt_16 rfl rfl rfl ⟨rfl, rfl⟩
theorem h_unitAt_ok (X : ct_X) (z z' : S_c) (k : S_m) (o : Nat → Int64) (x : Int32) (b : Int32) (hC : AF X m_C_unitAt 7 0 0 [.ref 0, .int (x)] (wL z k o) (.inl (some (.int b))) (wL z' k o)) : AF X m_L_unitAt 8 1 6 [.ref 0, .int (x), .ref 37] (wL z k o) (.inl (some (.int (nI 0)))) (wL z' k (vp_updL o 0 (Int32.toInt64 b))) := by
  refine AM.of rfl (Nat.le_of_ble_eq_true rfl) (ls := [some (.ref 0), some (.int (x)), some (.ref 37), none]) rfl ?_
  refine AW.aload_n (pc' := 1) d_L_unitAt_0 rfl rfl rfl ?_
  refine AW.iconst (pc' := 2) (v := nI 0) d_L_unitAt_1 rfl (by decide) ?_
  refine AW.aload_n (pc' := 3) d_L_unitAt_2 rfl rfl rfl ?_
  refine AW.iload_n (pc' := 4) d_L_unitAt_3 rfl rfl rfl ?_
  refine AW.cV (pc' := 7) d_L_unitAt_4 rfl cv_L_74 (by decide) rfl rfl rfl (hC) rfl rfl rfl rfl rfl rfl rfl ?_
  refine AW.i2l (pc' := 8) d_L_unitAt_7 rfl ?_
  refine AW.lastN (pc' := 9) (w' := (wL z' k (vp_updL o 0 (Int32.toInt64 b)))) d_L_unitAt_8 rfl rfl (by omega) (by decide) rfl ?_
  refine AW.goto (tgt := 15) d_L_unitAt_9 (by decide) ?_
  refine AW.iconst (pc' := 16) (v := nI 0) d_L_unitAt_15 rfl (by decide) ?_
  exact AW.iret d_L_unitAt_16 rfl rfl rfl ⟨rfl, rfl⟩
theorem h_unitAt_e0 (X : ct_X) (z z' : S_c) (k : S_m) (o : Nat → Int64) (x : Int32) (hC : AF X m_C_unitAt 7 0 0 [.ref 0, .int (x)] (wL z k o) (.inr 2) (wL z' k o)) : AF X m_L_unitAt 8 1 6 [.ref 0, .int (x), .ref 37] (wL z k o) (.inl (some (.int (nI 1)))) (wL z' k o) := by
  refine AM.of rfl (Nat.le_of_ble_eq_true rfl) (ls := [some (.ref 0), some (.int (x)), some (.ref 37), none]) rfl ?_
  refine AW.aload_n (pc' := 1) d_L_unitAt_0 rfl rfl rfl ?_
  refine AW.iconst (pc' := 2) (v := nI 0) d_L_unitAt_1 rfl (by decide) ?_
  refine AW.aload_n (pc' := 3) d_L_unitAt_2 rfl rfl rfl ?_
  refine AW.iload_n (pc' := 4) d_L_unitAt_3 rfl rfl rfl ?_
  refine AW.cVc d_L_unitAt_4 cv_L_74 (by decide) rfl rfl rfl hC rfl rfl rfl rfl rfl rfl ?_
  refine AX.catch (x := 2) (j := 3) (a := 0) (b := 9) (hp := 12) (ct := 25) (pre := []) (suf := []) (ls' := [some (.ref 0), some (.int (x)), some (.ref 37), none]) rfl (fun z hz => nomatch hz) (by decide) rfl (by decide) cl_L_25 cast_java_lang_IllegalArgumentException d_L_unitAt_12 rfl rfl rfl rfl rfl ?_
  refine AW.iconst (pc' := 14) (v := nI 1) d_L_unitAt_13 rfl (by decide) ?_
  exact AW.iret d_L_unitAt_14 rfl rfl rfl ⟨rfl, rfl⟩
theorem h_taskAt_ok (X : ct_X) (z z' : S_c) (k : S_m) (o : Nat → Int64) (x y : Int32) (b : Int32) (hC : AF X m_C_taskAt 7 0 0 [.ref 0, .int (x), .int (y)] (wL z k o) (.inl (some (.int b))) (wL z' k o)) : AF X m_L_taskAt 8 1 6 [.ref 0, .int (x), .int (y), .ref 37] (wL z k o) (.inl (some (.int (nI 0)))) (wL z' k (vp_updL o 0 (Int32.toInt64 b))) := by
  refine AM.of rfl (Nat.le_of_ble_eq_true rfl) (ls := [some (.ref 0), some (.int (x)), some (.int (y)), some (.ref 37), none]) rfl ?_
  refine AW.aload_n (pc' := 1) d_L_taskAt_0 rfl rfl rfl ?_
  refine AW.iconst (pc' := 2) (v := nI 0) d_L_taskAt_1 rfl (by decide) ?_
  refine AW.aload_n (pc' := 3) d_L_taskAt_2 rfl rfl rfl ?_
  refine AW.iload_n (pc' := 4) d_L_taskAt_3 rfl rfl rfl ?_
  refine AW.iload_n (pc' := 5) d_L_taskAt_4 rfl rfl rfl ?_
  refine AW.cV (pc' := 8) d_L_taskAt_5 rfl cv_L_77 (by decide) rfl rfl rfl (hC) rfl rfl rfl rfl rfl rfl rfl ?_
  refine AW.i2l (pc' := 9) d_L_taskAt_8 rfl ?_
  refine AW.lastN (pc' := 10) (w' := (wL z' k (vp_updL o 0 (Int32.toInt64 b)))) d_L_taskAt_9 rfl rfl (by omega) (by decide) rfl ?_
  refine AW.goto (tgt := 17) d_L_taskAt_10 (by decide) ?_
  refine AW.iconst (pc' := 18) (v := nI 0) d_L_taskAt_17 rfl (by decide) ?_
  exact AW.iret d_L_taskAt_18 rfl rfl rfl ⟨rfl, rfl⟩
theorem h_taskAt_e0 (X : ct_X) (z z' : S_c) (k : S_m) (o : Nat → Int64) (x y : Int32) (hC : AF X m_C_taskAt 7 0 0 [.ref 0, .int (x), .int (y)] (wL z k o) (.inr 2) (wL z' k o)) : AF X m_L_taskAt 8 1 6 [.ref 0, .int (x), .int (y), .ref 37] (wL z k o) (.inl (some (.int (nI 1)))) (wL z' k o) := by
  refine AM.of rfl (Nat.le_of_ble_eq_true rfl) (ls := [some (.ref 0), some (.int (x)), some (.int (y)), some (.ref 37), none]) rfl ?_
  refine AW.aload_n (pc' := 1) d_L_taskAt_0 rfl rfl rfl ?_
  refine AW.iconst (pc' := 2) (v := nI 0) d_L_taskAt_1 rfl (by decide) ?_
  refine AW.aload_n (pc' := 3) d_L_taskAt_2 rfl rfl rfl ?_
  refine AW.iload_n (pc' := 4) d_L_taskAt_3 rfl rfl rfl ?_
  refine AW.iload_n (pc' := 5) d_L_taskAt_4 rfl rfl rfl ?_
  refine AW.cVc d_L_taskAt_5 cv_L_77 (by decide) rfl rfl rfl hC rfl rfl rfl rfl rfl rfl ?_
  refine AX.catchA (x := 2) (j := 4) (a := 0) (b := 10) (hp := 13) (ct := 25) (pre := []) (suf := []) (ls' := [some (.ref 0), some (.int (x)), some (.int (y)), some (.ref 37), none]) rfl (fun z hz => nomatch hz) (by decide) rfl (by decide) cl_L_25 cast_java_lang_IllegalArgumentException d_L_taskAt_13 rfl rfl rfl rfl ?_
  refine AW.iconst (pc' := 16) (v := nI 1) d_L_taskAt_15 rfl (by decide) ?_
  exact AW.iret d_L_taskAt_16 rfl rfl rfl ⟨rfl, rfl⟩
theorem h_passed_ok (X : ct_X) (z z' : S_c) (k : S_m) (o : Nat → Int64) (x : Int32) (b : Int32) (hC : AF X m_C_passed 7 0 0 [.ref 0, .int (x)] (wL z k o) (.inl (some (.int b))) (wL z' k o)) : AF X m_L_passed 8 1 6 [.ref 0, .int (x), .ref 37] (wL z k o) (.inl (some (.int (nI 0)))) (wL z' k (vp_updL o 0 (Int32.toInt64 b))) := by
  refine AM.of rfl (Nat.le_of_ble_eq_true rfl) (ls := [some (.ref 0), some (.int (x)), some (.ref 37), none]) rfl ?_
  refine AW.aload_n (pc' := 1) d_L_passed_0 rfl rfl rfl ?_
  refine AW.iconst (pc' := 2) (v := nI 0) d_L_passed_1 rfl (by decide) ?_
  refine AW.aload_n (pc' := 3) d_L_passed_2 rfl rfl rfl ?_
  refine AW.iload_n (pc' := 4) d_L_passed_3 rfl rfl rfl ?_
  refine AW.cV (pc' := 7) d_L_passed_4 rfl cv_L_80 (by decide) rfl rfl rfl (hC) rfl rfl rfl rfl rfl rfl rfl ?_
  refine AW.i2l (pc' := 8) d_L_passed_7 rfl ?_
  refine AW.lastN (pc' := 9) (w' := (wL z' k (vp_updL o 0 (Int32.toInt64 b)))) d_L_passed_8 rfl rfl (by omega) (by decide) rfl ?_
  refine AW.goto (tgt := 15) d_L_passed_9 (by decide) ?_
  refine AW.iconst (pc' := 16) (v := nI 0) d_L_passed_15 rfl (by decide) ?_
  exact AW.iret d_L_passed_16 rfl rfl rfl ⟨rfl, rfl⟩
theorem h_passed_e0 (X : ct_X) (z z' : S_c) (k : S_m) (o : Nat → Int64) (x : Int32) (hC : AF X m_C_passed 7 0 0 [.ref 0, .int (x)] (wL z k o) (.inr 0) (wL z' k o)) : AF X m_L_passed 8 1 6 [.ref 0, .int (x), .ref 37] (wL z k o) (.inl (some (.int (nI 1)))) (wL z' k o) := by
  refine AM.of rfl (Nat.le_of_ble_eq_true rfl) (ls := [some (.ref 0), some (.int (x)), some (.ref 37), none]) rfl ?_
  refine AW.aload_n (pc' := 1) d_L_passed_0 rfl rfl rfl ?_
  refine AW.iconst (pc' := 2) (v := nI 0) d_L_passed_1 rfl (by decide) ?_
  refine AW.aload_n (pc' := 3) d_L_passed_2 rfl rfl rfl ?_
  refine AW.iload_n (pc' := 4) d_L_passed_3 rfl rfl rfl ?_
  refine AW.cVc d_L_passed_4 cv_L_80 (by decide) rfl rfl rfl hC rfl rfl rfl rfl rfl rfl ?_
  refine AX.catch (x := 0) (j := 3) (a := 0) (b := 9) (hp := 12) (ct := 13) (pre := []) (suf := []) (ls' := [some (.ref 0), some (.int (x)), some (.ref 37), none]) rfl (fun z hz => nomatch hz) (by decide) rfl (by decide) cl_L_13 cast_java_lang_IndexOutOfBoundsException d_L_passed_12 rfl rfl rfl rfl rfl ?_
  refine AW.iconst (pc' := 14) (v := nI 1) d_L_passed_13 rfl (by decide) ?_
  exact AW.iret d_L_passed_14 rfl rfl rfl ⟨rfl, rfl⟩
def SL1 (X : ct_X) (mL mM : ct_M) (as : List Value) (z : S_c) (k : S_m) (o : Nat → Int64) : Prop := ∃ (c : Nat) (b : Int32) (z' : S_c) (k' : S_m) (o' : Nat → Int64), AF X mL 8 1 6 (.ref 0 :: (as ++ [.ref 37])) (wL z k o) (.inl (some (.int (nI c)))) (wL z' k o') ∧ (∀ o, AF X mM 3 0 0 (.ref 20 :: as) (wL z' k o) (.inl (some (.int b))) (wL z' k' o)) ∧ Rl z' k' ∧ k_rows k' ≤ k_rows k + 2 ∧ k_thr k' = nI c ∧ c ≤ 4 ∧ (nI c = 0 → o' 0 = Int32.toInt64 b)
def SL0 (X : ct_X) (mL mM : ct_M) (as : List Value) (z : S_c) (k : S_m) (o : Nat → Int64) : Prop := ∃ (c : Nat) (z' : S_c) (k' : S_m), AF X mL 8 1 6 (.ref 0 :: as) (wL z k o) (.inl (some (.int (nI c)))) (wL z' k o) ∧ (∀ o, AF X mM 3 0 0 (.ref 20 :: as) (wL z' k o) (.inl none) (wL z' k' o)) ∧ Rl z' k' ∧ k_rows k' ≤ k_rows k + 2 ∧ k_thr k' = nI c ∧ c ≤ 4
theorem sl1_of {X : ct_X} {mC mM mL : ct_M} {as : List Value} {cs : List Nat} {z : S_c} {k : S_m} (o : Nat → Int64) (h : St1 X mC mM as cs z k) (hok : ∀ z' b, AF X mC 7 0 0 (.ref 0 :: as) (wL z k o) (.inl (some (.int b))) (wL z' k o) → AF X mL 8 1 6 (.ref 0 :: (as ++ [.ref 37])) (wL z k o) (.inl (some (.int (nI 0)))) (wL z' k (vp_updL o 0 (Int32.toInt64 b))))
    (her : ∀ z' e i, cs[i]? = some e → AF X mC 7 0 0 (.ref 0 :: as) (wL z k o) (.inr e) (wL z' k o) → AF X mL 8 1 6 (.ref 0 :: (as ++ [.ref 37])) (wL z k o) (.inl (some (.int (nI (i + 1))))) (wL z' k o)) (hl : cs.length ≤ 4) : SL1 X mL mM as z k o := by
  obtain ⟨r, z', b, k', h1, h2, h3, h4, ⟨rfl, h5⟩ | ⟨e, i, h6, rfl, h7⟩⟩ := h
  · exact ⟨0, b, z', k', _, hok z' b (h1 o), h2, h3, h4, h5, by omega, fun _ => pk_uLs⟩
  · have hi : i < cs.length := (List.getElem?_eq_some_iff.mp h6).1
    refine ⟨i + 1, b, z', k', o, her z' e i h6 (h1 o), h2, h3, h4, h7, by omega, fun q => ?_⟩
    have := (nI_eq (b := 0) (by omega) (by decide)).mp (q.trans (by decide))
    omega
theorem sl0_of {X : ct_X} {mC mM mL : ct_M} {as : List Value} {cs : List Nat} {z : S_c} {k : S_m} (o : Nat → Int64) (h : St0 X mC mM as cs z k) (hok : ∀ z', AF X mC 7 0 0 (.ref 0 :: as) (wL z k o) (.inl none) (wL z' k o) → AF X mL 8 1 6 (.ref 0 :: as) (wL z k o) (.inl (some (.int (nI 0)))) (wL z' k o))
    (her : ∀ z' e i, cs[i]? = some e → AF X mC 7 0 0 (.ref 0 :: as) (wL z k o) (.inr e) (wL z' k o) → AF X mL 8 1 6 (.ref 0 :: as) (wL z k o) (.inl (some (.int (nI (i + 1))))) (wL z' k o)) (hl : cs.length ≤ 4) : SL0 X mL mM as z k o := by
  obtain ⟨r, z', k', h1, h2, h3, h4, ⟨rfl, h5⟩ | ⟨e, i, h6, rfl, h7⟩⟩ := h
  · exact ⟨0, z', k', hok z' (h1 o), h2, h3, h4, h5, by omega⟩
  · have hi : i < cs.length := (List.getElem?_eq_some_iff.mp h6).1
    exact ⟨i + 1, z', k', her z' e i h6 (h1 o), h2, h3, h4, h7, by omega⟩
theorem sl_person (X : ct_X) (z : S_c) (k : S_m) (o : Nat → Int64) (h : Rl z k) (x : Int32) : SL1 X m_L_person m_M_person [.int x] z k o := by
  refine sl1_of o (st_person X z k h x) (fun z1 b q => h_person_ok X z z1 k o x b q) (fun z1 e i hi q => ?_) (by decide)
  match i, hi with
  | 0, hi =>
    cases hi
    exact h_person_e0 X z z1 k o x q
  | 1, hi =>
    cases hi
    exact h_person_e1 X z z1 k o x q
  | _ + 2, hi => cases hi
theorem sl_unit (X : ct_X) (z : S_c) (k : S_m) (o : Nat → Int64) (h : Rl z k)  : SL1 X m_L_unit m_M_unit [] z k o := by
  refine sl1_of o (st_unit X z k h ) (fun z1 b q => h_unit_ok X z z1 k o  b q) (fun z1 e i hi q => ?_) (by decide)
  match i, hi with
  | 0, hi =>
    cases hi
    exact h_unit_e0 X z z1 k o  q
  | _ + 1, hi => cases hi
theorem sl_arrive (X : ct_X) (z : S_c) (k : S_m) (o : Nat → Int64) (h : Rl z k) (hr : k_rows k < 100000) (x : Int32) : SL0 X m_L_arrive m_M_arrive [.int x] z k o := by
  refine sl0_of o (st_arrive X z k h hr x) (fun z1 q => h_arrive_ok X z z1 k o x q) (fun z1 e i hi q => ?_) (by decide)
  match i, hi with
  | 0, hi =>
    cases hi
    exact h_arrive_e0 X z z1 k o x q
  | 1, hi =>
    cases hi
    exact h_arrive_e1 X z z1 k o x q
  | _ + 2, hi => cases hi
theorem sl_leave (X : ct_X) (z : S_c) (k : S_m) (o : Nat → Int64) (h : Rl z k) (hr : k_rows k < 100000) (x : Int32) : SL0 X m_L_leave m_M_leave [.int x] z k o := by
  refine sl0_of o (st_leave X z k h hr x) (fun z1 q => h_leave_ok X z z1 k o x q) (fun z1 e i hi q => ?_) (by decide)
  match i, hi with
  | 0, hi =>
    cases hi
    exact h_leave_e0 X z z1 k o x q
  | 1, hi =>
    cases hi
    exact h_leave_e1 X z z1 k o x q
  | _ + 2, hi => cases hi
theorem sl_go (X : ct_X) (z : S_c) (k : S_m) (o : Nat → Int64) (h : Rl z k) (hr : k_rows k < 100000) (x y : Int32) : SL0 X m_L_go m_M_go [.int x, .int y] z k o := by
  refine sl0_of o (st_go X z k h hr x y) (fun z1 q => h_go_ok X z z1 k o x y q) (fun z1 e i hi q => ?_) (by decide)
  match i, hi with
  | 0, hi =>
    cases hi
    exact h_go_e0 X z z1 k o x y q
  | 1, hi =>
    cases hi
    exact h_go_e1 X z z1 k o x y q
  | _ + 2, hi => cases hi
theorem sl_place (X : ct_X) (z : S_c) (k : S_m) (o : Nat → Int64) (h : Rl z k) (x y : Int32) : SL0 X m_L_place m_M_place [.int x, .int y] z k o := by
  refine sl0_of o (st_place X z k h x y) (fun z1 q => h_place_ok X z z1 k o x y q) (fun z1 e i hi q => ?_) (by decide)
  match i, hi with
  | 0, hi =>
    cases hi
    exact h_place_e0 X z z1 k o x y q
  | 1, hi =>
    cases hi
    exact h_place_e1 X z z1 k o x y q
  | _ + 2, hi => cases hi
theorem sl_split (X : ct_X) (z : S_c) (k : S_m) (o : Nat → Int64) (h : Rl z k) (x : Int32) : SL1 X m_L_split m_M_split [.int x] z k o := by
  refine sl1_of o (st_split X z k h x) (fun z1 b q => h_split_ok X z z1 k o x b q) (fun z1 e i hi q => ?_) (by decide)
  match i, hi with
  | 0, hi =>
    cases hi
    exact h_split_e0 X z z1 k o x q
  | 1, hi =>
    cases hi
    exact h_split_e1 X z z1 k o x q
  | 2, hi =>
    cases hi
    exact h_split_e2 X z z1 k o x q
  | _ + 3, hi => cases hi
theorem sl_join (X : ct_X) (z : S_c) (k : S_m) (o : Nat → Int64) (h : Rl z k) (hr : k_rows k < 100000) (x y : Int32) : SL0 X m_L_join m_M_join [.int x, .int y] z k o := by
  refine sl0_of o (st_join X z k h hr x y) (fun z1 q => h_join_ok X z z1 k o x y q) (fun z1 e i hi q => ?_) (by decide)
  match i, hi with
  | 0, hi =>
    cases hi
    exact h_join_e0 X z z1 k o x y q
  | 1, hi =>
    cases hi
    exact h_join_e1 X z z1 k o x y q
  | _ + 2, hi => cases hi
theorem sl_offer (X : ct_X) (z : S_c) (k : S_m) (o : Nat → Int64) (h : Rl z k) (x y : Int32) : SL0 X m_L_offer m_M_offer [.int x, .int y] z k o := by
  refine sl0_of o (st_offer X z k h x y) (fun z1 q => h_offer_ok X z z1 k o x y q) (fun z1 e i hi q => ?_) (by decide)
  match i, hi with
  | 0, hi =>
    cases hi
    exact h_offer_e0 X z z1 k o x y q
  | 1, hi =>
    cases hi
    exact h_offer_e1 X z z1 k o x y q
  | _ + 2, hi => cases hi
theorem sl_take (X : ct_X) (z : S_c) (k : S_m) (o : Nat → Int64) (h : Rl z k) (hr : k_rows k < 100000) (x y : Int32) : SL0 X m_L_take m_M_take [.int x, .int y] z k o := by
  refine sl0_of o (st_take X z k h hr x y) (fun z1 q => h_take_ok X z z1 k o x y q) (fun z1 e i hi q => ?_) (by decide)
  match i, hi with
  | 0, hi =>
    cases hi
    exact h_take_e0 X z z1 k o x y q
  | 1, hi =>
    cases hi
    exact h_take_e1 X z z1 k o x y q
  | _ + 2, hi => cases hi
theorem sl_task (X : ct_X) (z : S_c) (k : S_m) (o : Nat → Int64) (h : Rl z k) (x y : Int32) : SL1 X m_L_task m_M_task [.int x, .int y] z k o := by
  refine sl1_of o (st_task X z k h x y) (fun z1 b q => h_task_ok X z z1 k o x y b q) (fun z1 e i hi q => ?_) (by decide)
  match i, hi with
  | 0, hi =>
    cases hi
    exact h_task_e0 X z z1 k o x y q
  | 1, hi =>
    cases hi
    exact h_task_e1 X z z1 k o x y q
  | 2, hi =>
    cases hi
    exact h_task_e2 X z z1 k o x y q
  | 3, hi =>
    cases hi
    exact h_task_e3 X z z1 k o x y q
  | _ + 4, hi => cases hi
theorem sl_answer (X : ct_X) (z : S_c) (k : S_m) (o : Nat → Int64) (h : Rl z k) (x : Int32) (d : Bool) : SL0 X m_L_answer m_M_answer [.int x, .int (nI (cond d 1 0))] z k o := by
  refine sl0_of o (st_answer X z k h x d) (fun z1 q => h_answer_ok X z z1 k o x (nI (cond d 1 0)) q) (fun z1 e i hi q => ?_) (by decide)
  match i, hi with
  | 0, hi =>
    cases hi
    exact h_answer_e0 X z z1 k o x (nI (cond d 1 0)) q
  | 1, hi =>
    cases hi
    exact h_answer_e1 X z z1 k o x (nI (cond d 1 0)) q
  | _ + 2, hi => cases hi
theorem sl_span (X : ct_X) (z : S_c) (k : S_m) (o : Nat → Int64) (h : Rl z k) (x : Int32) : SL1 X m_L_span m_M_span [.int x] z k o := by
  refine sl1_of o (st_span X z k h x) (fun z1 b q => h_span_ok X z z1 k o x b q) (fun z1 e i hi q => ?_) (by decide)
  match i, hi with
  | 0, hi =>
    cases hi
    exact h_span_e0 X z z1 k o x q
  | _ + 1, hi => cases hi
theorem sl_tick (X : ct_X) (z : S_c) (k : S_m) (o : Nat → Int64) (h : Rl z k) (x : Int32) : SL1 X m_L_tick m_M_tick [.int x] z k o := by
  refine sl1_of o (st_tick X z k h x) (fun z1 b q => h_tick_ok X z z1 k o x b q) (fun z1 e i hi q => ?_) (by decide)
  match i, hi with
  | 0, hi =>
    cases hi
    exact h_tick_e0 X z z1 k o x q
  | _ + 1, hi => cases hi
theorem sl_led (X : ct_X) (z : S_c) (k : S_m) (o : Nat → Int64) (h : Rl z k) (hr : k_rows k < 100000) (x y : Int32) : SL1 X m_L_led m_M_led [.int x, .int y] z k o := by
  refine sl1_of o (st_led X z k h hr x y) (fun z1 b q => h_led_ok X z z1 k o x y b q) (fun z1 e i hi q => ?_) (by decide)
  match i, hi with
  | 0, hi =>
    cases hi
    exact h_led_e0 X z z1 k o x y q
  | 1, hi =>
    cases hi
    exact h_led_e1 X z z1 k o x y q
  | 2, hi =>
    cases hi
    exact h_led_e2 X z z1 k o x y q
  | _ + 3, hi => cases hi
theorem sl_sectorAt (X : ct_X) (z : S_c) (k : S_m) (o : Nat → Int64) (h : Rl z k) (x y : Int32) : SL1 X m_L_sectorAt m_M_sectorAt [.int x, .int y] z k o := by
  refine sl1_of o (st_sectorAt X z k h x y) (fun z1 b q => h_sectorAt_ok X z z1 k o x y b q) (fun z1 e i hi q => ?_) (by decide)
  match i, hi with
  | 0, hi =>
    cases hi
    exact h_sectorAt_e0 X z z1 k o x y q
  | _ + 1, hi => cases hi
theorem sl_personAt (X : ct_X) (z : S_c) (k : S_m) (o : Nat → Int64) (h : Rl z k) (x y : Int32) : SL1 X m_L_personAt m_M_personAt [.int x, .int y] z k o := by
  refine sl1_of o (st_personAt X z k h x y) (fun z1 b q => h_personAt_ok X z z1 k o x y b q) (fun z1 e i hi q => ?_) (by decide)
  match i, hi with
  | 0, hi =>
    cases hi
    exact h_personAt_e0 X z z1 k o x y q
  | _ + 1, hi => cases hi
theorem sl_unitAt (X : ct_X) (z : S_c) (k : S_m) (o : Nat → Int64) (h : Rl z k) (x : Int32) : SL1 X m_L_unitAt m_M_unitAt [.int x] z k o := by
  refine sl1_of o (st_unitAt X z k h x) (fun z1 b q => h_unitAt_ok X z z1 k o x b q) (fun z1 e i hi q => ?_) (by decide)
  match i, hi with
  | 0, hi =>
    cases hi
    exact h_unitAt_e0 X z z1 k o x q
  | _ + 1, hi => cases hi
theorem sl_taskAt (X : ct_X) (z : S_c) (k : S_m) (o : Nat → Int64) (h : Rl z k) (x y : Int32) : SL1 X m_L_taskAt m_M_taskAt [.int x, .int y] z k o := by
  refine sl1_of o (st_taskAt X z k h x y) (fun z1 b q => h_taskAt_ok X z z1 k o x y b q) (fun z1 e i hi q => ?_) (by decide)
  match i, hi with
  | 0, hi =>
    cases hi
    exact h_taskAt_e0 X z z1 k o x y q
  | _ + 1, hi => cases hi
theorem sl_passed (X : ct_X) (z : S_c) (k : S_m) (o : Nat → Int64) (h : Rl z k) (x : Int32) : SL1 X m_L_passed m_M_passed [.int x] z k o := by
  refine sl1_of o (st_passed X z k h x) (fun z1 b q => h_passed_ok X z z1 k o x b q) (fun z1 e i hi q => ?_) (by decide)
  match i, hi with
  | 0, hi =>
    cases hi
    exact h_passed_e0 X z z1 k o x q
  | _ + 1, hi => cases hi
