/-! ROWS WITH NUMBERS (nI), CONTRACTS AS FUNCTIONS (AF), CALLS BY THEM -/
section MORE
variable {X : ct_X} {M : ct_M} {d mc ms cb sb pc pc' : Nat} {ls : List (Option Value)} {st : List Value} {w : ct_W} {Q : Option Value ⊕ Nat → ct_W → Prop}
theorem AW.top {v u : Value} (h : v = u) (k : AW X M d mc ms cb sb pc ls (u :: st) w Q) : AW X M d mc ms cb sb pc ls (v :: st) w Q := h ▸ k
theorem AW.wld {w' : ct_W} (h : w = w') (k : AW X M d mc ms cb sb pc ls st w' Q) : AW X M d mc ms cb sb pc ls st w Q := h ▸ k
theorem AW.iaddN {a b : Nat} (hd : decode M.2.1 pc = .ok (.iadd, 1)) (hp : pc + 1 = pc') (k : AW X M d mc ms cb sb pc' ls (.int (nI (a + b)) :: st) w Q) : AW X M d mc ms cb sb pc ls (.int (nI b) :: .int (nI a) :: st) w Q :=
  AW.iadd hd hp (by rw [nI_add]; exact k)
theorem AW.isubN {a b : Nat} (hd : decode M.2.1 pc = .ok (.isub, 1)) (hp : pc + 1 = pc') (h : b ≤ a) (k : AW X M d mc ms cb sb pc' ls (.int (nI (a - b)) :: st) w Q) : AW X M d mc ms cb sb pc ls (.int (nI b) :: .int (nI a) :: st) w Q :=
  AW.isub hd hp (by rw [pk_sub h]; exact k)
theorem AW.iincN {i a : Nat} {ls' : List (Option Value)} (hd : decode M.2.1 pc = .ok (.iinc i 1, 3)) (hp : pc + 3 = pc') (hl : ls[i]? = some (some (.int (nI a)))) (hn : Nat.ble (i + 1) M.2.2.1 = true) (hs : ls.set i (some (.int (nI (a + 1)))) = ls') (k : AW X M d mc ms cb sb pc' ls' st w Q) : AW X M d mc ms cb sb pc ls st w Q :=
  AW.iinc hd hp hl (by show nI a + Int32.ofInt 1 = nI (a + 1); rw [← nI_1]; rfl) hn hs k
theorem AW.ialdN {o n j : Nat} {f : Nat → Int32} (hd : decode M.2.1 pc = .ok (.iaload, 1)) (hp : pc + 1 = pc') (hw : w[o]? = some (.inl (0, n, .inl f))) (hj : j < n) (hn : n < 2 ^ 31) (k : AW X M d mc ms cb sb pc' ls (.int (f j) :: st) w Q) : AW X M d mc ms cb sb pc ls (.int (nI j) :: .ref o :: st) w Q :=
  AW.iald hd hp hw (vp_in_nI hj hn) (by rw [nI_clamp (by omega)]; exact k)
theorem AW.zaldN {o n j : Nat} {f : Nat → Int32} (hd : decode M.2.1 pc = .ok (.baload, 1)) (hp : pc + 1 = pc') (hw : w[o]? = some (.inl (1, n, .inl f))) (hj : j < n) (hn : n < 2 ^ 31) (k : AW X M d mc ms cb sb pc' ls (.int (f j) :: st) w Q) : AW X M d mc ms cb sb pc ls (.int (nI j) :: .ref o :: st) w Q :=
  AW.zald hd hp hw (vp_in_nI hj hn) (by rw [nI_clamp (by omega)]; exact k)
theorem AW.laldN {o n j : Nat} {f : Nat → Int64} (hd : decode M.2.1 pc = .ok (.laload, 1)) (hp : pc + 1 = pc') (hw : w[o]? = some (.inl (2, n, .inr (.inl f)))) (hj : j < n) (hn : n < 2 ^ 31) (k : AW X M d mc ms cb sb pc' ls (.long (f j) :: st) w Q) : AW X M d mc ms cb sb pc ls (.int (nI j) :: .ref o :: st) w Q :=
  AW.lald hd hp hw (vp_in_nI hj hn) (by rw [nI_clamp (by omega)]; exact k)
theorem AW.iastN {o n j : Nat} {f : Nat → Int32} {x : Int32} {w' : ct_W} (hd : decode M.2.1 pc = .ok (.iastore, 1)) (hp : pc + 1 = pc') (hw : w[o]? = some (.inl (0, n, .inl f))) (hj : j < n) (hn : n < 2 ^ 31) (hs : w.set o (.inl (0, n, .inl (upd f j x))) = w') (k : AW X M d mc ms cb sb pc' ls st w' Q) : AW X M d mc ms cb sb pc ls (.int x :: .int (nI j) :: .ref o :: st) w Q :=
  AW.iast hd hp hw (vp_in_nI hj hn) (by rw [nI_clamp (by omega)]; exact hs) k
theorem AW.zastN {o n j : Nat} {f : Nat → Int32} {x : Int32} {w' : ct_W} (hd : decode M.2.1 pc = .ok (.bastore, 1)) (hp : pc + 1 = pc') (hw : w[o]? = some (.inl (1, n, .inl f))) (hj : j < n) (hn : n < 2 ^ 31) (hx : vp_nar .boolean x = x) (hs : w.set o (.inl (1, n, .inl (upd f j x))) = w') (k : AW X M d mc ms cb sb pc' ls st w' Q) : AW X M d mc ms cb sb pc ls (.int x :: .int (nI j) :: .ref o :: st) w Q :=
  AW.zast hd hp hw (vp_in_nI hj hn) (by rw [nI_clamp (by omega), hx]; exact hs) k
theorem AW.lastN {o n j : Nat} {f : Nat → Int64} {x : Int64} {w' : ct_W} (hd : decode M.2.1 pc = .ok (.lastore, 1)) (hp : pc + 1 = pc') (hw : w[o]? = some (.inl (2, n, .inr (.inl f)))) (hj : j < n) (hn : n < 2 ^ 31) (hs : w.set o (.inl (2, n, .inr (.inl (vp_updL f j x)))) = w') (k : AW X M d mc ms cb sb pc' ls st w' Q) : AW X M d mc ms cb sb pc ls (.long x :: .int (nI j) :: .ref o :: st) w Q :=
  AW.last hd hp hw (vp_in_nI hj hn) (by rw [nI_clamp (by omega)]; exact hs) k
theorem AW.icmp_eqN {a b : Nat} {off : Int} {tgt : Nat} (hd : decode M.2.1 pc = .ok (.if_icmp .eq off, 3)) (ht : (pc : Int) + off = (tgt : Int)) (hp : pc + 3 = pc') (ha : a < 2 ^ 31) (hb : b < 2 ^ 31) (kt : a = b → AW X M d mc ms cb sb tgt ls st w Q) (kf : ¬ a = b → AW X M d mc ms cb sb pc' ls st w Q) : AW X M d mc ms cb sb pc ls (.int (nI b) :: .int (nI a) :: st) w Q := by
  exact AW.icmp_eq hd ht hp (fun h => kt ((nI_eq ha hb).mp h)) (fun h => kf (fun q => h ((nI_eq ha hb).mpr q)))
theorem AW.icmp_neN {a b : Nat} {off : Int} {tgt : Nat} (hd : decode M.2.1 pc = .ok (.if_icmp .ne off, 3)) (ht : (pc : Int) + off = (tgt : Int)) (hp : pc + 3 = pc') (ha : a < 2 ^ 31) (hb : b < 2 ^ 31) (kt : ¬ a = b → AW X M d mc ms cb sb tgt ls st w Q) (kf : a = b → AW X M d mc ms cb sb pc' ls st w Q) : AW X M d mc ms cb sb pc ls (.int (nI b) :: .int (nI a) :: st) w Q := by
  exact AW.icmp_ne hd ht hp (fun h => kt (fun q => h ((nI_eq ha hb).mpr q))) (fun h => kf ((nI_eq ha hb).mp h))
theorem AW.icmp_ltN {a b : Nat} {off : Int} {tgt : Nat} (hd : decode M.2.1 pc = .ok (.if_icmp .lt off, 3)) (ht : (pc : Int) + off = (tgt : Int)) (hp : pc + 3 = pc') (ha : a < 2 ^ 31) (hb : b < 2 ^ 31) (kt : a < b → AW X M d mc ms cb sb tgt ls st w Q) (kf : b ≤ a → AW X M d mc ms cb sb pc' ls st w Q) : AW X M d mc ms cb sb pc ls (.int (nI b) :: .int (nI a) :: st) w Q := by
  exact AW.icmp_lt hd ht hp (fun h => kt ((nI_ltI ha hb).mp h)) (fun h => kf (Nat.not_lt.mp (fun q => h ((nI_ltI ha hb).mpr q))))
theorem AW.icmp_geN {a b : Nat} {off : Int} {tgt : Nat} (hd : decode M.2.1 pc = .ok (.if_icmp .ge off, 3)) (ht : (pc : Int) + off = (tgt : Int)) (hp : pc + 3 = pc') (ha : a < 2 ^ 31) (hb : b < 2 ^ 31) (kt : b ≤ a → AW X M d mc ms cb sb tgt ls st w Q) (kf : a < b → AW X M d mc ms cb sb pc' ls st w Q) : AW X M d mc ms cb sb pc ls (.int (nI b) :: .int (nI a) :: st) w Q := by
  exact AW.icmp_ge hd ht hp (fun h => kt ((nI_leI hb ha).mp h)) (fun h => kf (Nat.not_le.mp (fun q => h ((nI_leI hb ha).mpr q))))
theorem AW.icmp_gtN {a b : Nat} {off : Int} {tgt : Nat} (hd : decode M.2.1 pc = .ok (.if_icmp .gt off, 3)) (ht : (pc : Int) + off = (tgt : Int)) (hp : pc + 3 = pc') (ha : a < 2 ^ 31) (hb : b < 2 ^ 31) (kt : b < a → AW X M d mc ms cb sb tgt ls st w Q) (kf : a ≤ b → AW X M d mc ms cb sb pc' ls st w Q) : AW X M d mc ms cb sb pc ls (.int (nI b) :: .int (nI a) :: st) w Q := by
  exact AW.icmp_gt hd ht hp (fun h => kt ((nI_ltI hb ha).mp h)) (fun h => kf (Nat.not_lt.mp (fun q => h ((nI_ltI hb ha).mpr q))))
theorem AW.icmp_leN {a b : Nat} {off : Int} {tgt : Nat} (hd : decode M.2.1 pc = .ok (.if_icmp .le off, 3)) (ht : (pc : Int) + off = (tgt : Int)) (hp : pc + 3 = pc') (ha : a < 2 ^ 31) (hb : b < 2 ^ 31) (kt : a ≤ b → AW X M d mc ms cb sb tgt ls st w Q) (kf : b < a → AW X M d mc ms cb sb pc' ls st w Q) : AW X M d mc ms cb sb pc ls (.int (nI b) :: .int (nI a) :: st) w Q := by
  exact AW.icmp_le hd ht hp (fun h => kt ((nI_leI ha hb).mp h)) (fun h => kf (Nat.not_le.mp (fun q => h ((nI_leI ha hb).mpr q))))
/-- a method as a function: it ends with r, the world w' -/
def AF (X : ct_X) (M : ct_M) (d mc ms : Nat) (as : List Value) (w : ct_W) (r : Option Value ⊕ Nat) (w' : ct_W) : Prop := AM X M d mc ms as w (fun r' w'' => r' = r ∧ w'' = w')
def ct_cS (own : String) (index : Nat) (M' : ct_M) (n : Nat) : Prop := Cond.methodLink own index M'.1 ∈ lw_tbl ∧ Cond.static M'.1 ∈ lw_tbl ∧ Cond.initialized M'.1.cls ∈ lw_tbl ∧ ct_np M'.1 n ∧ ct_in M' ∧ plainName M'.1.cls = true ∧ M'.2.2.1 ≤ 11
def ct_cV (own : String) (index : Nat) (M' : ct_M) (n : Nat) : Prop := Cond.methodLink own index M'.1 ∈ lw_tbl ∧ Cond.instanceMethod M'.1 ∈ lw_tbl ∧ Cond.selects M'.1.cls M'.1 M'.1 ∈ lw_tbl ∧ ct_np M'.1 n ∧ ct_in M' ∧ plainName M'.1.cls = true ∧ M'.2.2.1 ≤ 11
def ct_cI (own : String) (index : Nat) (M' : ct_M) (n : Nat) : Prop := Cond.methodLink own index M'.1 ∈ lw_tbl ∧ Cond.instanceMethod M'.1 ∈ lw_tbl ∧ Cond.code M'.1 M'.2.1 M'.2.2.1 none ∈ lw_tbl ∧ ct_np M'.1 n ∧ (M'.2.2.2.2 = [] ∧ M'.2.2.2.1 = none ∧ M'.1.name = "<init>") ∧ plainName M'.1.cls = true ∧ M'.2.2.1 ≤ 11
variable {M' : ct_M} {d' : Nat} {as stk stk' : List Value} {w' : ct_W}
theorem AW.cS {index n : Nat} {v : Option Value} (hd : decode M.2.1 pc = .ok (.invokestatic index, 3)) (hp : pc + 3 = pc') (hc : ct_cS M.1.cls index M' n) (hdp : d' < d) (hM : AF X M' d' 0 0 as w (.inl v) w') (hn : as.length = n) (hst : as.reverse ++ st = stk) (hcat : Nat.ble (st.map fun v => v.category).sum 8 = true) (hcb : Nat.ble cb mc = true) (hsb : Nat.ble sb ms = true) (hlen : w'.length = w.length) (hv : v.toList ++ st = stk')
    (k : AW X M d mc ms cb sb pc' ls stk' w' Q) : AW X M d mc ms cb sb pc ls stk w Q := by
  subst hn
  subst hv
  exact AW.callS (mc' := 0) (ms' := 0) hd hp ⟨hc.2.2.2.2.1, hc.2.2.2.2.2.1, hdp, hc.2.2.2.2.2.2⟩ hc.1 hc.2.1 hc.2.2.1 hc.2.2.2.1 hM hst hcat hcb hsb (fun r w'' h => Or.inl (by rw [h.2]; exact hlen)) (fun x w'' h => nomatch h.1) (fun v' w'' h => by obtain ⟨h1, rfl⟩ := h; cases h1; exact k)
theorem AW.cSx {index n x : Nat} (hd : decode M.2.1 pc = .ok (.invokestatic index, 3)) (hc : ct_cS M.1.cls index M' n) (hdp : d' < d) (hM : AF X M' d' 0 0 as w (.inr x) w') (hn : as.length = n) (hst : as.reverse ++ st = stk) (hcat : Nat.ble (st.map fun v => v.category).sum 8 = true) (hcb : Nat.ble cb mc = true) (hsb : Nat.ble sb ms = true) (hlen : w'.length = w.length) (h0 : M.2.2.2.2 = []) (hq : Q (.inr x) w') : AW X M d mc ms cb sb pc ls stk w Q := by
  subst hn
  exact AW.callS (mc' := 0) (ms' := 0) hd rfl ⟨hc.2.2.2.2.1, hc.2.2.2.2.2.1, hdp, hc.2.2.2.2.2.2⟩ hc.1 hc.2.1 hc.2.2.1 hc.2.2.2.1 hM hst hcat hcb hsb (fun r w'' h => Or.inl (by rw [h.2]; exact hlen)) (fun x' w'' h => by obtain ⟨h1, rfl⟩ := h; cases h1; exact AX.out h0 hcb hsb hq) (fun v' w'' h => nomatch h.1)
theorem AW.cV {index n o ci N : Nat} {as' fs : List Value} {F : u_T} {v : Option Value} (hd : decode M.2.1 pc = .ok (.invokevirtual index, 3)) (hp : pc + 3 = pc') (hc : ct_cV M.1.cls index M' n) (hdp : d' < d) (hw : w[o]? = some (.inr (ci, fs))) (hcl : vwCl[ci]? = some (M'.1.cls, F, N)) (has : .ref o :: as' = as) (hM : AF X M' d' 0 0 as w (.inl v) w') (hn : as'.length = n) (hst : as'.reverse ++ .ref o :: st = stk) (hcat : Nat.ble (st.map fun v => v.category).sum 8 = true) (hcb : Nat.ble cb mc = true) (hsb : Nat.ble sb ms = true) (hlen : w'.length = w.length) (hv : v.toList ++ st = stk')
    (k : AW X M d mc ms cb sb pc' ls stk' w' Q) : AW X M d mc ms cb sb pc ls stk w Q := by
  subst hn
  subst hv
  exact AW.callV (mc' := 0) (ms' := 0) hd hp ⟨hc.2.2.2.2.1, hc.2.2.2.2.2.1, hdp, hc.2.2.2.2.2.2⟩ hc.1 hc.2.1 hc.2.2.2.1 hw hcl hc.2.2.1 has hM hst hcat hcb hsb (fun r w'' h => Or.inl (by rw [h.2]; exact hlen)) (fun x w'' h => nomatch h.1) (fun v' w'' h => by obtain ⟨h1, rfl⟩ := h; cases h1; exact k)
theorem AW.cVx {index n o ci N x : Nat} {as' fs : List Value} {F : u_T} (hd : decode M.2.1 pc = .ok (.invokevirtual index, 3)) (hc : ct_cV M.1.cls index M' n) (hdp : d' < d) (hw : w[o]? = some (.inr (ci, fs))) (hcl : vwCl[ci]? = some (M'.1.cls, F, N)) (has : .ref o :: as' = as) (hM : AF X M' d' 0 0 as w (.inr x) w') (hn : as'.length = n) (hst : as'.reverse ++ .ref o :: st = stk) (hcat : Nat.ble (st.map fun v => v.category).sum 8 = true) (hcb : Nat.ble cb mc = true) (hsb : Nat.ble sb ms = true) (hlen : w'.length = w.length) (h0 : M.2.2.2.2 = []) (hq : Q (.inr x) w') : AW X M d mc ms cb sb pc ls stk w Q := by
  subst hn
  exact AW.callV (mc' := 0) (ms' := 0) hd rfl ⟨hc.2.2.2.2.1, hc.2.2.2.2.2.1, hdp, hc.2.2.2.2.2.2⟩ hc.1 hc.2.1 hc.2.2.2.1 hw hcl hc.2.2.1 has hM hst hcat hcb hsb (fun r w'' h => Or.inl (by rw [h.2]; exact hlen)) (fun x' w'' h => by obtain ⟨h1, rfl⟩ := h; cases h1; exact AX.out h0 hcb hsb hq) (fun v' w'' h => nomatch h.1)
theorem AW.cI {index n o mc' ms' cb' sb' : Nat} {as' : List Value} (hd : decode M.2.1 pc = .ok (.invokespecial index, 3)) (hp : pc + 3 = pc') (hc : ct_cI M.1.cls index M' n) (hdp : d' < d) (has : .ref o :: as' = as) (hM : AF X M' d' mc' ms' as w (.inl none) w') (hn : as'.length = n) (hst : as'.reverse ++ .ref o :: st = stk) (hcat : Nat.ble (st.map fun v => v.category).sum 8 = true) (hcb : cb + mc' = cb') (hsb : sb + ms' = sb') (hcb' : Nat.ble cb' mc = true) (hsb' : Nat.ble sb' ms = true) (hwf : wfL w.length w'.length ls = true ∧ wfS w.length w'.length st = true)
    (k : AW X M d mc ms cb' sb' pc' ls st w' Q) : AW X M d mc ms cb sb pc ls stk w Q := by
  subst hn
  subst hcb
  subst hsb
  obtain ⟨h1, h2, h3, h4, ⟨h5, h6, h7⟩, h8, h9⟩ := hc
  exact AW.callI (mc' := mc') (ms' := ms') hd hp ⟨Or.inl ⟨h5, by rw [h6]; exact h3⟩, h8, hdp, h9⟩ h5 h6 h3 h7 h1 h2 h4 has hM hst hcat hcb' hsb' (fun r w'' h => by obtain ⟨-, rfl⟩ := h; exact Or.inr hwf) (fun x w'' h => nomatch h.1) (fun v' w'' h => by obtain ⟨q, rfl⟩ := h; cases q; exact k)
end MORE
