/-! WHO LEADS WHAT, as a fact of plain functions; a change of leaders keeps it -/
theorem m1n {p : Nat} (h : p < 2 ^ 31) : ¬ (-1 : Int32) = nI p := fun e => oI_ne h e.symm
theorem nm1 {p : Nat} (h : p < 2 ^ 31) : ¬ nI p = (-1 : Int32) := fun e => oI_ne h e
theorem nIi {a b : Nat} (ha : a < 100) (hb : b < 100) (h : nI a = nI b) : a = b := (nI_eq (by omega) (by omega)).mp h
theorem okO.neg {n : Nat} {x : Int32} (h : okO n x) (hn : n < 2 ^ 31) : x < 0 ↔ x = -1 := by
  rcases h with rfl | ⟨j, hj, rfl⟩
  · exact ⟨fun _ => rfl, fun _ => by decide⟩
  · exact ⟨fun q => absurd q (nI_pos (by omega)), fun q => absurd q (nm1 (by omega))⟩
theorem okO.cases {n : Nat} {x : Int32} (h : okO n x) : (∃ j, j < n ∧ x = nI j) ∨ x = -1 := h.symm
def slbF (slb : Nat → Int32) (s : Nat) : Option Nat → Option Nat → Nat → Int32
  | none, none => slb
  | some f, none => upd slb f (-1)
  | none, some q => upd slb q (nI s)
  | some f, some q => upd (upd slb f (-1)) q (nI s)
def offF (off : Nat → Int32) (ns s : Nat) : Option Nat → Nat → Int32
  | none => upd off s (-1)
  | some q => rep (upd off s (-1)) (nI q) (-1) ns
theorem upd_at (f : Nat → Int32) (i : Nat) (v : Int32) (j : Nat) : upd f i v j = if j = i then v else f j := rfl
theorem slbF_at (slb : Nat → Int32) (s : Nat) (f p : Option Nat) (j : Nat) : slbF slb s f p j = if p = some j then nI s else if f = some j then -1 else slb j := by
  cases f with
  | none =>
    cases p with
    | none => simp [slbF]
    | some q => simp only [slbF, upd_at, Option.some.injEq, reduceCtorEq, if_false, eq_comm (a := q)]
  | some f =>
    cases p with
    | none => simp only [slbF, upd_at, Option.some.injEq, reduceCtorEq, if_false, eq_comm (a := f)]
    | some q => simp only [slbF, upd_at, Option.some.injEq, eq_comm (a := q), eq_comm (a := f)]
theorem offF_at (off : Nat → Int32) (ns s : Nat) (p : Option Nat) (j : Nat) : offF off ns s p j = -1 ∨ (¬ j = s ∧ offF off ns s p j = off j ∧ ∀ q, p = some q → j < ns → ¬ off j = nI q) := by
  by_cases e : j = s
  · left
    cases p with
    | none => rw [offF, upd_at, if_pos e]
    | some q =>
      rw [offF, rep, upd_at, if_pos e]
      split <;> rfl
  · cases p with
    | none => exact Or.inr ⟨e, by rw [offF, upd_at, if_neg e], fun q h => nomatch h⟩
    | some q =>
      rw [offF, rep, upd_at, if_neg e]
      by_cases h : j < ns ∧ off j = nI q
      · left
        rw [if_pos h]
      · right
        rw [if_neg h]
        exact ⟨e, rfl, fun q' hq hj he => by cases hq; exact h ⟨hj, he⟩⟩
/-- who leads what; x may stand outside the sector that it leads -/
def LD (x : Option Nat) (np ns : Nat) (sop slb ldr off opn : Nat → Int32) : Prop :=
  (∀ p, p < 40 → okO ns (slb p)) ∧
  (∀ p s, p < 40 → s < 20 → (slb p = nI s ↔ ldr s = nI p)) ∧
  (∀ s, s < 20 → okO np (ldr s)) ∧
  (∀ p s, p < 40 → s < 20 → ¬ x = some p → ldr s = nI p → sop p = nI s) ∧
  (∀ p, p < 40 → okO ns (sop p)) ∧
  (∀ p, np ≤ p → p < 40 → sop p = -1) ∧
  (∀ s, s < 20 → okO np (off s)) ∧
  (∀ s p, s < 20 → p < 40 → off s = nI p → slb p = -1 ∧ ¬ sop p = -1 ∧ ¬ ldr s = -1) ∧
  (∀ s, s < ns → opn s = 0 → ldr s = -1) ∧ ¬ opn 0 = 0
section LDS
variable {x y : Option Nat} {np ns : Nat} {sop slb ldr off opn : Nat → Int32}
theorem LD.lns (h : LD x np ns sop slb ldr off opn) (hnp : np ≤ 40) (hns : ns ≤ 20) {s p : Nat} (hs : s < 20) (hl : ldr s = nI p) (hp : p < 100) : s < ns ∧ p < np := by
  obtain ⟨h1, h2, h3, -⟩ := h
  have hp' : p < np := by
    rcases h3 s hs with e | ⟨q, hq, e⟩
    · rw [hl] at e
      exact absurd e (nm1 (by omega))
    · rw [hl] at e
      have := nIi hp (by omega) e
      omega
  refine ⟨?_, hp'⟩
  have e := (h2 p s (by omega) hs).mpr hl
  rcases h1 p (by omega) with e2 | ⟨q, hq, e2⟩
  · rw [e] at e2
    exact absurd e2 (nm1 (by omega))
  · rw [e] at e2
    have := nIi (by omega) (by omega) e2
    omega
theorem LD.set (h : LD x np ns sop slb ldr off opn) (hnp : np ≤ 40) (hns : ns ≤ 20) {s : Nat} (hs : s < ns) {f p : Option Nat} (hf : ldr s = oI f) (hfp : ∀ q, f = some q → ¬ p = some q) (hf4 : ∀ q, f = some q → q < 40)
    (hp : ∀ q, p = some q → q < np ∧ slb q = -1 ∧ sop q = nI s ∧ ¬ opn s = 0) (hx : ∀ q, x = some q → y = some q ∨ f = some q) : LD y np ns sop (slbF slb s f p) (upd ldr s (oI p)) (offF off ns s p) opn := by
  have hl := fun s p => LD.lns (s := s) (p := p) h hnp hns
  obtain ⟨h1, h2, h3, h4, h5, h6, h7, h8, h9, h10⟩ := h
  have hfs : ∀ q, f = some q → slb q = nI s := fun q e => (h2 q s (hf4 q e) (by omega)).mpr (by rw [hf, e]; rfl)
  have hsf : ∀ q, q < 40 → slb q = nI s → f = some q := fun q hq e => by
    have e2 := (h2 q s hq (by omega)).mp e
    rw [hf] at e2
    cases f with
    | none => exact absurd e2 (m1n (by omega))
    | some r =>
      have := nIi (by have := hf4 r rfl; omega) (by omega) e2
      rw [this]
  refine ⟨fun q hq => ?_, fun q t hq ht => ?_, fun t ht => ?_, fun q t hq ht hxq hl' => ?_, h5, h6, fun t ht => ?_, fun t q ht hq ho => ?_, fun t ht ho => ?_, h10⟩
  · rw [slbF_at]
    split
    · exact okO.of hs
    · split
      · exact Or.inl rfl
      · exact h1 q hq
  · rw [slbF_at, upd_at]
    by_cases e1 : p = some q
    · rw [if_pos e1]
      by_cases e2 : t = s
      · rw [if_pos e2, e1, e2]
        exact ⟨fun _ => rfl, fun _ => rfl⟩
      · rw [if_neg e2]
        refine ⟨fun e => absurd (nIi (by omega) (by omega) e).symm e2, fun e => ?_⟩
        have e3 := (h2 q t hq ht).mpr e
        rw [(hp q e1).2.1] at e3
        exact absurd e3 (m1n (by omega))
    · rw [if_neg e1]
      have e4 : ¬ oI p = nI q := fun e => by
        cases p with
        | none => exact absurd e (m1n (by omega))
        | some r => exact e1 (by rw [nIi (by have := (hp r rfl).1; omega) (by omega) e])
      by_cases e2 : f = some q
      · rw [if_pos e2]
        refine ⟨fun e => absurd e (m1n (by omega)), fun e => ?_⟩
        by_cases e3 : t = s
        · rw [if_pos e3] at e
          exact absurd e e4
        · rw [if_neg e3] at e
          have e5 := (h2 q t hq ht).mpr e
          rw [hfs q e2] at e5
          exact absurd (nIi (by omega) (by omega) e5).symm e3
      · rw [if_neg e2]
        by_cases e3 : t = s
        · rw [if_pos e3, e3]
          exact ⟨fun e => absurd (hsf q hq e) e2, fun e => absurd e e4⟩
        · rw [if_neg e3]
          exact h2 q t hq ht
  · rw [upd_at]
    split
    · cases p with
      | none => exact Or.inl rfl
      | some r => exact okO.of (hp r rfl).1
    · exact h3 t ht
  · rw [upd_at] at hl'
    by_cases e3 : t = s
    · rw [if_pos e3] at hl'
      cases p with
      | none => exact absurd hl' (m1n (by omega))
      | some r =>
        have := hp r rfl
        have e := nIi (by omega) (by omega) hl'
        rw [← e, this.2.2.1, e3]
    · rw [if_neg e3] at hl'
      refine h4 q t hq ht (fun e => ?_) hl'
      rcases hx q e with e5 | e5
      · exact hxq e5
      · have e6 := (h2 q t hq ht).mpr hl'
        rw [hfs q e5] at e6
        exact e3 (nIi (by omega) (by omega) e6).symm
  · rcases offF_at off ns s p t with e | ⟨-, e, -⟩
    · rw [e]
      exact Or.inl rfl
    · rw [e]
      exact h7 t ht
  · rcases offF_at off ns s p t with e | ⟨e1, e, e2⟩
    · rw [e] at ho
      exact absurd ho (m1n (by omega))
    · rw [e] at ho
      obtain ⟨q1, q2, q3⟩ := h8 t q ht hq ho
      have htn : t < ns := by
        rcases h3 t ht with w | ⟨r, hr, w⟩
        · exact absurd w q3
        · exact (hl t r ht w (by omega)).1
      have hpq : ¬ p = some q := fun w => e2 q w htn ho
      refine ⟨?_, q2, ?_⟩
      · rw [slbF_at, if_neg hpq]
        split
        · rfl
        · exact q1
      · rw [upd_at, if_neg e1]
        exact q3
  · rw [upd_at]
    by_cases e3 : t = s
    · rw [if_pos e3]
      cases p with
      | none => rfl
      | some r =>
        rw [e3] at ho
        exact absurd ho (hp r rfl).2.2.2
    · rw [if_neg e3]
      exact h9 t ht ho
/-- a person goes into another sector, or away with its offers -/
theorem LD.go (h : LD none np ns sop slb ldr off opn) {p : Nat} (hp : p < np) (hnp : np ≤ 40) {s : Nat} (hs : s < ns) (hns : ns ≤ 20) : LD (some p) np ns (upd sop p (nI s)) slb ldr off opn := by
  obtain ⟨h1, h2, h3, h4, h5, h6, h7, h8, h9, h10⟩ := h
  refine ⟨h1, h2, h3, fun q t hq ht hx hl => ?_, fun q hq => ?_, fun q h1 h2 => ?_, h7, fun t q ht hq ho => ?_, h9, h10⟩
  · have e : ¬ q = p := fun e => hx (by rw [e])
    rw [upd_at, if_neg e]
    exact h4 q t hq ht (fun w => nomatch w) hl
  · rw [upd_at]
    split
    · exact okO.of hs
    · exact h5 q hq
  · rw [upd_at, if_neg (by omega)]
    exact h6 q h1 h2
  · obtain ⟨q1, q2, q3⟩ := h8 t q ht hq ho
    refine ⟨q1, ?_, q3⟩
    rw [upd_at]
    split
    · exact nm1 (by omega)
    · exact q2
theorem LD.away (h : LD none np ns sop slb ldr off opn) {p : Nat} (hp : p < np) (hnp : np ≤ 40) (hns : ns ≤ 20) : LD (some p) np ns (upd sop p (-1)) slb ldr (rep off (nI p) (-1) ns) opn := by
  have hl := fun s p => LD.lns (s := s) (p := p) h hnp hns
  obtain ⟨h1, h2, h3, h4, h5, h6, h7, h8, h9, h10⟩ := h
  refine ⟨h1, h2, h3, fun q t hq ht hx hl => ?_, fun q hq => ?_, fun q h1 h2 => ?_, fun t ht => ?_, fun t q ht hq ho => ?_, h9, h10⟩
  · have e : ¬ q = p := fun e => hx (by rw [e])
    rw [upd_at, if_neg e]
    exact h4 q t hq ht (fun w => nomatch w) hl
  · rw [upd_at]
    split
    · exact Or.inl rfl
    · exact h5 q hq
  · rw [upd_at, if_neg (by omega)]
    exact h6 q h1 h2
  · rw [rep]
    split
    · exact Or.inl rfl
    · exact h7 t ht
  · rw [rep] at ho
    split at ho
    · exact absurd ho (m1n (by omega))
    · rename_i hno
      obtain ⟨q1, q2, q3⟩ := h8 t q ht hq ho
      refine ⟨q1, ?_, q3⟩
      have htn : t < ns := by
        rcases h3 t ht with w | ⟨r, hr, w⟩
        · exact absurd w q3
        · exact (hl t r ht w (by omega)).1
      rw [upd_at]
      split
      · rename_i e
        rw [e] at ho
        exact absurd ⟨htn, ho⟩ hno
      · exact q2
/-- whoever leads nothing is no exception -/
theorem LD.plain {p : Nat} (h : LD (some p) np ns sop slb ldr off opn) (hs : slb p = -1) : LD none np ns sop slb ldr off opn := by
  obtain ⟨h1, h2, h3, h4, h5, h6, h7, h8, h9, h10⟩ := h
  refine ⟨h1, h2, h3, fun q t hq ht _ hl => ?_, h5, h6, h7, h8, h9, h10⟩
  refine h4 q t hq ht (fun e => ?_) hl
  cases e
  have e2 := (h2 p t hq ht).mpr hl
  rw [hs] at e2
  exact absurd e2 (m1n (by omega))
end LDS
/-! THE TREE: chains upward end, and in at most 20 steps -/
theorem itr_none (f : Nat → Int32) : ∀ n, itr f n none = none
  | 0 => rfl
  | _ + 1 => rfl
theorem itr_add (f : Nat → Int32) : ∀ (m n : Nat) (x : Option Nat), itr f (m + n) x = itr f n (itr f m x)
  | 0, n, x => by rw [Nat.zero_add]; rfl
  | m + 1, n, none => by rw [itr_none, itr_none, itr_none]
  | m + 1, n, some j => by
    rw [show m + 1 + n = (m + n) + 1 from by omega]
    exact itr_add f m n (io (f j))
theorem itr_mono {f : Nat → Int32} {m n : Nat} {x : Option Nat} (h : itr f m x = none) (hn : m ≤ n) : itr f n x = none := by
  obtain ⟨d, rfl⟩ := Nat.exists_eq_add_of_le hn
  rw [itr_add, h, itr_none]
theorem itr_cyc {f : Nat → Int32} {m : Nat} {x : Option Nat} (h : itr f m x = x) : ∀ q, itr f (q * m) x = x
  | 0 => by rw [Nat.zero_mul]; rfl
  | q + 1 => by rw [Nat.succ_mul, itr_add, itr_cyc h q, h]
theorem pigeon : ∀ (n : Nat) (g : Nat → Nat), (∀ i, i ≤ n → g i < n) → ∃ a b, a < b ∧ b ≤ n ∧ g a = g b
  | 0, g, h => absurd (h 0 (Nat.le_refl _)) (by omega)
  | n + 1, g, h => by
    by_cases he : ∃ a, a ≤ n ∧ g a = g (n + 1)
    · obtain ⟨a, h1, h2⟩ := he
      exact ⟨a, n + 1, by omega, by omega, h2⟩
    · have hne : ∀ a, a ≤ n → ¬ g a = g (n + 1) := fun a ha e => he ⟨a, ha, e⟩
      have hv := h (n + 1) (by omega)
      obtain ⟨a, b, h1, h2, h3⟩ := pigeon n (fun i => if g i = n then g (n + 1) else g i) (fun i hi => by
        have h1 := h i (by omega)
        have h2 := hne i hi
        split <;> omega)
      refine ⟨a, b, h1, by omega, ?_⟩
      have ha := hne a (by omega)
      have hb := hne b h2
      split at h3 <;> split at h3 <;> omega
theorem itr_lt {f : Nat → Int32} {N : Nat} (hf : ∀ j, j < N → okO N (f j)) (hN : N < 2 ^ 31) : ∀ (n : Nat) (x : Option Nat), (∀ j, x = some j → j < N) → ∀ j, itr f n x = some j → j < N
  | 0, x, hx, j, h => hx j h
  | n + 1, none, hx, j, h => by cases h
  | n + 1, some i, hx, j, h => itr_lt hf hN n (io (f i)) ((hf i (hx i rfl)).io hN).2 j h
theorem itr_20 {f : Nat → Int32} {N : Nat} (hf : ∀ j, j < N → okO N (f j)) (hN : N ≤ 20) {j : Nat} (hj : j < N) (h : ∃ n, itr f n (some j) = none) : itr f 20 (some j) = none := by
  obtain ⟨n, hn⟩ := h
  cases e : itr f 20 (some j) with
  | none => rfl
  | some t =>
    exfalso
    have hs : ∀ i, i ≤ N → ∃ v, itr f i (some j) = some v := fun i hi => by
      cases e2 : itr f i (some j) with
      | none =>
        have := itr_mono e2 (show i ≤ 20 by omega)
        rw [e] at this
        cases this
      | some v => exact ⟨v, rfl⟩
    obtain ⟨a, b, h1, h2, h3⟩ := pigeon N (fun i => (itr f i (some j)).getD 0) (fun i hi => by
      obtain ⟨v, hv⟩ := hs i hi
      rw [hv]
      exact itr_lt hf (by omega) i (some j) (fun q hq => by cases hq; exact hj) v hv)
    obtain ⟨va, ea⟩ := hs a (by omega)
    obtain ⟨vb, eb⟩ := hs b h2
    rw [ea, eb] at h3
    have h4 : va = vb := h3
    subst h4
    obtain ⟨d, hd⟩ := Nat.exists_eq_add_of_lt h1
    have hc : itr f (d + 1) (some va) = some va := by
      have e5 := itr_add f a (d + 1) (some j)
      rw [ea] at e5
      rw [← e5, show a + (d + 1) = b from by omega, eb]
    have hz : itr f ((n + 1) * (d + 1)) (some va) = none := by
      have e6 := itr_add f a ((n + 1) * (d + 1)) (some j)
      rw [ea] at e6
      rw [← e6]
      refine itr_mono hn ?_
      have := Nat.le_mul_of_pos_right (n + 1) (show 0 < d + 1 by omega)
      omega
    rw [itr_cyc hc (n + 1)] at hz
    cases hz
theorem f_sob_eq (z : S_c) (t : Nat) : ∀ (n : Nat) (x : Option Nat), f_sob z t n x = sob (c_abv z) t n x
  | 0, _ => rfl
  | _ + 1, none => rfl
  | n + 1, some j => by
    unfold f_sob sob
    rw [f_sob_eq z t n]
theorem sob_congr {f g : Nat → Int32} {N : Nat} (hN : N < 2 ^ 31) (hf : ∀ j, j < N → okO N (f j)) (he : ∀ j, j < N → g j = f j) (t : Nat) : ∀ (n : Nat) (x : Option Nat), (∀ j, x = some j → j < N) → sob g t n x = sob f t n x
  | 0, _, _ => rfl
  | _ + 1, none, _ => rfl
  | n + 1, some j, hx => by
    have hj := hx j rfl
    unfold sob
    rw [he j hj, sob_congr hN hf he t n _ ((hf j hj).io hN).2]
theorem itr_congr {f g : Nat → Int32} {N : Nat} (hN : N < 2 ^ 31) (hf : ∀ j, j < N → okO N (f j)) (he : ∀ j, j < N → g j = f j) : ∀ (n : Nat) (x : Option Nat), (∀ j, x = some j → j < N) → itr g n x = itr f n x
  | 0, _, _ => rfl
  | _ + 1, none, _ => rfl
  | n + 1, some j, hx => by
    have hj := hx j rfl
    unfold itr
    rw [he j hj, itr_congr hN hf he n _ ((hf j hj).io hN).2]
/-- chains after a is joined to b, which is not below a -/
theorem itr_join1 {f g : Nat → Int32} {a b : Nat} (ha : a < 2 ^ 31) (hg : ∀ j, g j = f j ∨ (f j = nI a ∧ g j = nI b)) : ∀ (n : Nat) (x : Option Nat), itr f n x = none → sob f a n x = false → itr g n x = none
  | 0, x, h, _ => h
  | _ + 1, none, _, _ => rfl
  | n + 1, some j, h, hs => by
    unfold sob at hs
    by_cases e : j = a
    · rw [if_pos e] at hs
      cases hs
    · rw [if_neg e] at hs
      have h' : itr f n (io (f j)) = none := h
      show itr g n (io (g j)) = none
      rcases hg j with e2 | ⟨e2, -⟩
      · rw [e2]
        exact itr_join1 ha hg n _ h' hs
      · rw [e2, io_n ha] at h' hs
        cases n with
        | zero => cases h'
        | succ n =>
          unfold sob at hs
          rw [if_pos rfl] at hs
          cases hs
theorem itr_join2 {f g : Nat → Int32} {a b : Nat} (hb : b < 2 ^ 31) (hg : ∀ j, g j = f j ∨ (f j = nI a ∧ g j = nI b)) {m : Nat} (hm : itr g m (some b) = none) : ∀ (n : Nat) (x : Option Nat), itr f n x = none → ∃ q, itr g q x = none
  | 0, x, h => ⟨0, h⟩
  | _ + 1, none, _ => ⟨0, rfl⟩
  | n + 1, some j, h => by
    rcases hg j with e | ⟨-, e⟩
    · obtain ⟨q, hq⟩ := itr_join2 hb hg hm n (io (f j)) h
      refine ⟨q + 1, ?_⟩
      show itr g q (io (g j)) = none
      rw [e]
      exact hq
    · refine ⟨m + 1, ?_⟩
      show itr g m (io (g j)) = none
      rw [e, io_n hb]
      exact hm
