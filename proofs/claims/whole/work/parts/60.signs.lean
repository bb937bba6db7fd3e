/-! THE PARSER: signs that wait -/
def gL : List Int32 := [-1, -2, -3, -4, -5, -6, -7, -8, -9, -10, -11]
def rkM (g : Int32) : Nat := if g = -1 then 1 else if g = -2 then 2 else if g < -5 then (if g < -7 then (if g < -9 then 6 else 5) else 4) else 3
def chG (g : Int32) : Int32 := if g = -1 then 124 else if g = -2 then 38 else if g = -3 then 60 else if g = -4 then 61 else if g = -5 then 62 else if g = -6 then 43 else if g = -7 then 45 else if g = -8 then 42 else if g = -9 then 47 else if g = -10 then 33 else 40
def rkC (x : Int32) : Nat := if x = 38 then 2 else if x = 42 then 5 else if x = 43 then 4 else if x = 45 then 4 else if x = 47 then 5 else if x = 60 then 3 else if x = 61 then 3 else if x = 62 then 3 else if x = 124 then 1 else 0
theorem ch_rk : ∀ g ∈ gL, g ≠ -10 → g ≠ -11 → rkC (chG g) = rkM g ∧ 1 ≤ rkM g ∧ rkM g ≤ 5 := by decide +kernel
theorem ch_33 : ∀ g ∈ gL, (chG g = 33 ↔ g = -10) := by decide +kernel
theorem ch_gS : ∀ g ∈ gL, g ≠ -11 → gS (20000 + chG g) = g := by decide +kernel
theorem ch_ge : ∀ g ∈ gL, g < 0 := by decide +kernel
theorem rk_11 : rkM (-11) = 6 := by decide +kernel
theorem rk_10 : rkM (-10) = 6 := by decide +kernel
theorem rkC_40 : rkC 40 = 0 := by decide +kernel
theorem ch_11 : chG (-11) = 40 := by decide +kernel
theorem ch_10 : chG (-10) = 33 := by decide +kernel
theorem ch_ok {g : Int32} (h : g ∈ gL) (h1 : g ≠ -11) : okG (20000 + chG g) := by
  unfold gL at h
  simp only [List.mem_cons, List.not_mem_nil, or_false] at h
  unfold okG
  rcases h with rfl | rfl | rfl | rfl | rfl | rfl | rfl | rfl | rfl | rfl | rfl
  · exact Or.inr (Or.inr (Or.inl (by decide)))
  · exact Or.inr (Or.inr (Or.inr (Or.inl (by decide))))
  · exact Or.inr (Or.inr (Or.inr (Or.inr (Or.inl (by decide)))))
  · exact Or.inr (Or.inr (Or.inr (Or.inr (Or.inr (Or.inl (by decide))))))
  · exact Or.inr (Or.inr (Or.inr (Or.inr (Or.inr (Or.inr (Or.inl (by decide)))))))
  · exact Or.inr (Or.inr (Or.inr (Or.inr (Or.inr (Or.inr (Or.inr (Or.inl (by decide))))))))
  · exact Or.inr (Or.inr (Or.inr (Or.inr (Or.inr (Or.inr (Or.inr (Or.inr (Or.inl (by decide)))))))))
  · exact Or.inr (Or.inr (Or.inr (Or.inr (Or.inr (Or.inr (Or.inr (Or.inr (Or.inr (Or.inl (by decide))))))))))
  · exact Or.inr (Or.inr (Or.inr (Or.inr (Or.inr (Or.inr (Or.inr (Or.inr (Or.inr (Or.inr (by decide))))))))))
  · exact Or.inr (Or.inl (by decide))
  · exact absurd rfl h1
theorem XrankOf (M : Mem) (x : Int32) : f_X1_rankOf M x = some (nI (rkC x), M) := by
  unfold f_X1_rankOf rkC
  repeat' split
  all_goals rfl
theorem Rrank (M : Mem) (x : Int32) : f_X10_rank M x = some (nI (rkM x), M) := by
  unfold f_X10_rank rkM
  repeat' split
  all_goals rfl
/-- signs that bind as fast as this, or faster, go into the text -/
def stl (least : Nat) : Nat × (Nat → Int32) → List Int32 → (Nat × (Nat → Int32)) × List Int32
  | P, [] => (P, [])
  | P, g :: r => if g = -11 ∨ rkM g < least then (P, g :: r) else stl least (P.1 + 1, rowU P.2 P.1 g) r
theorem stl_s (least : Nat) (P : Nat × (Nat → Int32)) (g : Int32) (r : List Int32) : stl least P (g :: r) = if g = -11 ∨ rkM g < least then (P, g :: r) else stl least (P.1 + 1, rowU P.2 P.1 g) r := Eq.trans rfl rfl
def cB : List Int32 → Nat
  | [] => 0
  | g :: r => cB r + (if g = -10 ∨ g = -11 then 0 else 1)
def cN : List Int32 → Nat
  | [] => 0
  | g :: r => cN r + (if g = -10 then 1 else 0)
def cP : List Int32 → Nat
  | [] => 0
  | g :: r => cP r + (if g = -11 then 1 else 0)
theorem cN_le : ∀ st : List Int32, cN st ≤ st.length
  | [] => Nat.le_refl _
  | g :: r => by have := cN_le r; unfold cN; rw [List.length_cons]; split <;> omega
/-- a not stands under a sign that begins something, or on top where something is due -/
def okN : Bool → List Int32 → Prop
  | _, [] => True
  | w, g :: r => if g = -10 then w = true ∧ okN true r else if g = -11 then okN true r else okN false r
theorem okN_s (w : Bool) (g : Int32) (r : List Int32) : okN w (g :: r) = if g = -10 then w = true ∧ okN true r else if g = -11 then okN true r else okN false r := Eq.trans rfl rfl
theorem okN_t {st : List Int32} (h : okN false st) : okN true st := by
  cases st with
  | nil => trivial
  | cons g r =>
    rw [okN_s] at h ⊢
    by_cases e : g = -10
    · rw [if_pos e] at h; exact nomatch h.1
    · rw [if_neg e] at h ⊢; exact h
def okC (nn m : Nat) (cd : Nat → Int32) : Prop := ∀ k, k < m → okS nn (cd k) (dpM cd k)
theorem dp_up {cd : Nat → Int32} {m : Nat} {g : Int32} : ∀ {k : Nat}, k ≤ m → dpM (rowU cd m g) k = dpM cd k
  | 0, _ => rfl
  | k + 1, h => by
    unfold dpM
    rw [rowU_n (show k ≠ m by omega), dp_up (by omega)]
theorem okC_up {nn m : Nat} {cd : Nat → Int32} {g : Int32} (h : okC nn m cd) (hg : okS nn g (dpM cd m)) : okC nn (m + 1) (rowU cd m g) := fun k hk => by
  rw [dp_up (by omega)]
  by_cases e : k = m
  · rw [e, rowU_s]; exact hg
  · rw [rowU_n e]; exact h k (by omega)
theorem dp_s {m : Nat} {cd : Nat → Int32} {g : Int32} : dpM (rowU cd m g) (m + 1) = if g < 0 then (if g = -10 then dpM cd m else dpM cd m - 1) else dpM cd m + 1 := by
  show (if rowU cd m g m < 0 then (if rowU cd m g m = -10 then dpM (rowU cd m g) m else dpM (rowU cd m g) m - 1) else dpM (rowU cd m g) m + 1) = _
  rw [rowU_s, dp_up (Nat.le_refl m)]
theorem okS_g {nn d : Nat} {g : Int32} (hg : g < 0) (h1 : g = -10 → 1 ≤ d) (h2 : ¬ g = -10 → 2 ≤ d) : okS nn g d := ⟨fun _ => ⟨h1, h2⟩, fun q => by
  have a := Int32.lt_iff_toInt_lt.mp hg
  have b := Int32.le_iff_toInt_le.mp q
  have a : g.toInt < 0 := a
  have b : (10000 : Int) ≤ g.toInt := b
  omega⟩
theorem stl_ok {least nn : Nat} : ∀ (st : List Int32) (m : Nat) (cd : Nat → Int32), (∀ g ∈ st, g ∈ gL) → okC nn m cd → dpM cd m = cB st + 1 → okC nn (stl least (m, cd) st).1.1 (stl least (m, cd) st).1.2 ∧ dpM (stl least (m, cd) st).1.2 (stl least (m, cd) st).1.1 = cB (stl least (m, cd) st).2 + 1
  | [], m, cd, _, h1, h2 => ⟨h1, h2⟩
  | g :: r, m, cd, hv, h1, h2 => by
    rw [stl_s]
    by_cases e : g = -11 ∨ rkM g < least
    · rw [if_pos e]; exact ⟨h1, h2⟩
    · rw [if_neg e]
      have e11 : ¬ g = -11 := fun q => e (Or.inl q)
      have hg : g < 0 := ch_ge g (hv g List.mem_cons_self)
      have hc : cB (g :: r) = cB r + (if g = -10 ∨ g = -11 then 0 else 1) := rfl
      have ih := stl_ok (least := least) (nn := nn) r (m + 1) (rowU cd m g) (fun x hx => hv x (List.mem_cons_of_mem _ hx))
      by_cases e10 : g = -10
      · rw [if_pos (Or.inl e10)] at hc
        exact ih (okC_up h1 (okS_g hg (fun _ => by omega) (fun q => absurd e10 q))) (by rw [dp_s, if_pos hg, if_pos e10]; omega)
      · rw [if_neg (fun q => q.elim e10 e11)] at hc
        exact ih (okC_up h1 (okS_g hg (fun q => absurd q e10) (fun _ => by omega))) (by rw [dp_s, if_pos hg, if_neg e10]; omega)
theorem stl_len {least : Nat} : ∀ (st : List Int32) (P : Nat × (Nat → Int32)), (stl least P st).1.1 + (stl least P st).2.length = P.1 + st.length
  | [], P => rfl
  | g :: r, P => by
    rw [stl_s]
    by_cases e : g = -11 ∨ rkM g < least
    · rw [if_pos e]
    · rw [if_neg e, stl_len r]
      rw [List.length_cons]; omega
theorem stl_mem {least : Nat} : ∀ (st : List Int32) (P : Nat × (Nat → Int32)), ∀ x ∈ (stl least P st).2, x ∈ st
  | [], P => fun x h => h
  | g :: r, P => by
    rw [stl_s]
    by_cases e : g = -11 ∨ rkM g < least
    · rw [if_pos e]; exact fun x h => h
    · rw [if_neg e]; exact fun x h => List.mem_cons_of_mem _ (stl_mem r _ x h)
theorem stl_stk {least : Nat} {q : Nat → Int32} {f : Int32 → Int32} : ∀ (st : List Int32) (P : Nat × (Nat → Int32)), Stk q (st.map f) → Stk q ((stl least P st).2.map f)
  | [], P, h => h
  | g :: r, P, h => by
    rw [stl_s]
    by_cases e : g = -11 ∨ rkM g < least
    · rw [if_pos e]; exact h
    · rw [if_neg e]; exact stl_stk r _ h.2
theorem stl_bin {least : Nat} (hl : least ≤ 6) : ∀ (st : List Int32) (P : Nat × (Nat → Int32)), okN false st → okN false (stl least P st).2 ∧ cN (stl least P st).2 = cN st ∧ cP (stl least P st).2 = cP st
  | [], P, h => ⟨h, rfl, rfl⟩
  | g :: r, P, h => by
    rw [stl_s]
    by_cases e : g = -11 ∨ rkM g < least
    · rw [if_pos e]; exact ⟨h, rfl, rfl⟩
    · rw [if_neg e]
      have e11 : ¬ g = -11 := fun q => e (Or.inl q)
      rw [okN_s] at h
      by_cases e10 : g = -10
      · rw [if_pos e10] at h; exact nomatch h.1
      · rw [if_neg e10, if_neg e11] at h
        have ih := stl_bin hl r (P.1 + 1, rowU P.2 P.1 g) h
        refine ⟨ih.1, ?_, ?_⟩
        · rw [ih.2.1]; show _ = cN r + (if g = -10 then 1 else 0); rw [if_neg e10]; rfl
        · rw [ih.2.2]; show _ = cP r + (if g = -11 then 1 else 0); rw [if_neg e11]; rfl
theorem rk6 : ∀ g ∈ gL, ¬ (g = -11 ∨ rkM g < 6) → g = -10 := by decide +kernel
theorem stl_not : ∀ (st : List Int32) (P : Nat × (Nat → Int32)), (∀ g ∈ st, g ∈ gL) → okN true st → okN false (stl 6 P st).2 ∧ cP (stl 6 P st).2 = cP st ∧ cB (stl 6 P st).2 = cB st
  | [], P, _, h => ⟨h, rfl, rfl⟩
  | g :: r, P, hv, h => by
    rw [stl_s]
    rw [okN_s] at h
    by_cases e : g = -11 ∨ rkM g < 6
    · rw [if_pos e]
      refine ⟨?_, rfl, rfl⟩
      rw [okN_s]
      by_cases e10 : g = -10
      · rcases e with e | e
        · rw [e10] at e; exact absurd e (by decide)
        · rw [e10, rk_10] at e; exact absurd e (by decide)
      · rw [if_neg e10] at h ⊢; exact h
    · rw [if_neg e]
      have e10 := rk6 g (hv g List.mem_cons_self) e
      rw [if_pos e10] at h
      have ih := stl_not r (P.1 + 1, rowU P.2 P.1 g) (fun x hx => hv x (List.mem_cons_of_mem _ hx)) h.2
      refine ⟨ih.1, ?_, ?_⟩
      · rw [ih.2.1]; show _ = cP r + (if g = -11 then 1 else 0); rw [if_neg (fun q => e (Or.inl q))]; rfl
      · rw [ih.2.2]; show _ = cB r + (if g = -10 ∨ g = -11 then 0 else 1); rw [if_pos (Or.inl e10)]; rfl
theorem rk0 : ∀ g ∈ gL, ¬ rkM g < 1 := by decide +kernel
theorem stl_par : ∀ (st : List Int32) (P : Nat × (Nat → Int32)), (∀ g ∈ st, g ∈ gL) → stl 0 P st = stl 1 P st ∧ ((stl 1 P st).2 = [] ∨ ∃ r, (stl 1 P st).2 = -11 :: r)
  | [], P, _ => ⟨rfl, Or.inl rfl⟩
  | g :: r, P, hv => by
    rw [stl_s, stl_s]
    by_cases e : g = -11
    · rw [if_pos (Or.inl e), if_pos (Or.inl e)]
      exact ⟨rfl, Or.inr ⟨r, by rw [e]⟩⟩
    · rw [if_neg (fun q => q.elim e (Nat.not_lt_zero _)), if_neg (fun q => q.elim e (rk0 g (hv g List.mem_cons_self)))]
      exact stl_par r _ (fun x hx => hv x (List.mem_cons_of_mem _ hx))
/-! the class' signs -/
def codeR (I : Nat → Nat → Int32) (m : Nat) (cd : Nat → Int32) : Prop := ∀ k, k < m → okG (I 81 k) ∧ cd k = gS (I 81 k)
def XSt (I I' : Nat → Nat → Int32) (R : (Nat × (Nat → Int32)) × List Int32) : Prop := I' 80 1 = nI R.1.1 ∧ codeR I' R.1.1 R.1.2 ∧ I' 80 3 = nI R.2.length ∧ (∀ j, j ≠ 1 → j ≠ 3 → j ≠ 9 → I' 80 j = I 80 j) ∧ ∀ a, a ≠ 80 → a ≠ 81 → I' a = I a
section XSigns
variable {X : Nat → Nat → Option Nat} {S : Sta}
theorem codeR.up {I : Nat → Nat → Int32} {m : Nat} {cd : Nat → Int32} {v : Int32} (h : codeR I m cd) (r : Nat → Int32) (hv : okG v) : codeR (rowS (rowS I 81 (rowU (I 81) m v)) 80 r) (m + 1) (rowU cd m (gS v)) := fun k hk => by
  rw [rowS_n (by decide), rowS_s]
  by_cases e : k = m
  · rw [e, rowU_s, rowU_s]; exact ⟨hv, rfl⟩
  · rw [rowU_n e, rowU_n e]; exact h k (by omega)
theorem XaddStep {I : Nat → Nat → Int32} (hS : LaS S) {m : Nat} (hm : m < 96) (h1 : I 80 1 = nI m) (v : Int32) : f_X1_addStep (I, X, S) 80 v = some ((), (rowS (rowS I 81 (rowU (I 81) m v)) 80 (rowU (I 80) 1 (nI (m + 1))), X, S)) := by
  rw [f_X1_addStep]
  simp only [gt_self, gd_t, lp_some, st_d, nm_d, on_none, on_some, cl_some, mI_mk, mX_mk, setI_mk, u2_row, rowS_s, rowU_s, xT0 hS, xP0_0 hS, xP0_1 hS, xP0_2 hS, xP0_3 hS, xP0_4 hS, xP0_5 hS, xP0_6 hS, xP0_7 hS, xP0_8 hS, xT73 hS, xP73_0 hS, xT74 hS, xL74 hS, xP73_1 hS, xT75 hS, xL75 hS, xP73_2 hS, xT76 hS, xL76 hS, xP73_3 hS, xT77 hS, xL77 hS, xT78 hS, xP78_0 hS, xT79 hS, xL79 hS, xT80 hS, xP80_0 hS, xP80_2 hS, xT81 hS, xL81 hS, xT82 hS, xL82 hS, xT83 hS, xL83 hS, xT84 hS, xL84 hS, xT85 hS, xL85 hS, rowS_n (show (80 : Nat) ≠ 81 by decide)]
  rw [h1, if_neg (nI_ge hm (by decide)), gd_ok (ib_nI hm (by decide)), nI_clamp (by omega), nI_1]
theorem XaddSign {I : Nat → Nat → Int32} (hS : LaS S) {m : Nat} (hm : m < 96) (h1 : I 80 3 = nI m) (v : Int32) : f_X1_addSign (I, X, S) 80 v = some ((), (rowS (rowS I 82 (rowU (I 82) m v)) 80 (rowU (I 80) 3 (nI (m + 1))), X, S)) := by
  rw [f_X1_addSign]
  simp only [gt_self, gd_t, lp_some, st_d, nm_d, on_none, on_some, cl_some, mI_mk, mX_mk, setI_mk, u2_row, rowS_s, rowU_s, xT0 hS, xP0_0 hS, xP0_1 hS, xP0_2 hS, xP0_3 hS, xP0_4 hS, xP0_5 hS, xP0_6 hS, xP0_7 hS, xP0_8 hS, xT73 hS, xP73_0 hS, xT74 hS, xL74 hS, xP73_1 hS, xT75 hS, xL75 hS, xP73_2 hS, xT76 hS, xL76 hS, xP73_3 hS, xT77 hS, xL77 hS, xT78 hS, xP78_0 hS, xT79 hS, xL79 hS, xT80 hS, xP80_0 hS, xP80_2 hS, xT81 hS, xL81 hS, xT82 hS, xL82 hS, xT83 hS, xL83 hS, xT84 hS, xL84 hS, xT85 hS, xL85 hS, rowS_n (show (80 : Nat) ≠ 82 by decide)]
  rw [h1, if_neg (nI_ge hm (by decide)), gd_ok (ib_nI hm (by decide)), nI_clamp (by omega), nI_1]
theorem XjoinL (hS : LaS S) {r : Nat} (hr1 : 1 ≤ r) (hr5 : r ≤ 5) : ∀ (st : List Int32) (m fu : Nat) (cd : Nat → Int32) (I : Nat → Nat → Int32), (∀ g ∈ st, g ∈ gL) → okN false st → st.length < fu → m + st.length ≤ 95 → I 80 1 = nI m → codeR I m cd → I 80 3 = nI st.length → Stk (I 82) (st.map chG) →
    ∃ I', f_X1_joinDownTo_0 fu (I, X, S) 80 (nI r) = some ((), (I', X, S)) ∧ XSt I I' (stl r (m, cd) st) ∧ I' 80 9 = I 80 9 := by
  intro st
  induction st with
  | nil =>
    intro m fu cd I hv hN hf hm h1 hc h3 hk
    obtain ⟨fu, rfl⟩ : ∃ q, fu = q + 1 := ⟨fu - 1, by omega⟩
    rw [f_X1_joinDownTo_0]
    simp only [gt_self, gd_t, lp_some, st_d, nm_d, on_none, on_some, cl_some, mI_mk, mX_mk, setI_mk, u2_row, rowS_s, rowU_s, xT0 hS, xP0_0 hS, xP0_1 hS, xP0_2 hS, xP0_3 hS, xP0_4 hS, xP0_5 hS, xP0_6 hS, xP0_7 hS, xP0_8 hS, xT73 hS, xP73_0 hS, xT74 hS, xL74 hS, xP73_1 hS, xT75 hS, xL75 hS, xP73_2 hS, xT76 hS, xL76 hS, xP73_3 hS, xT77 hS, xL77 hS, xT78 hS, xP78_0 hS, xT79 hS, xL79 hS, xT80 hS, xP80_0 hS, xP80_2 hS, xT81 hS, xL81 hS, xT82 hS, xL82 hS, xT83 hS, xL83 hS, xT84 hS, xL84 hS, xT85 hS, xL85 hS]
    rw [h3, if_pos (show nI ([] : List Int32).length ≤ 0 by decide)]
    exact ⟨I, rfl, ⟨h1, hc, h3, fun _ _ _ _ => rfl, fun _ _ _ => rfl⟩, rfl⟩
  | cons g st ih =>
    intro m fu cd I hv hN hf hm h1 hc h3 hk
    rw [List.length_cons] at hf hm h3
    obtain ⟨fu, rfl⟩ : ∃ q, fu = q + 1 := ⟨fu - 1, by omega⟩
    have hk0 : I 82 st.length = chG g := by have := hk.1; rwa [List.length_map] at this
    have hgv := hv g List.mem_cons_self
    rw [f_X1_joinDownTo_0]
    simp only [gt_self, gd_t, lp_some, st_d, nm_d, on_none, on_some, cl_some, mI_mk, mX_mk, setI_mk, u2_row, rowS_s, rowU_s, xT0 hS, xP0_0 hS, xP0_1 hS, xP0_2 hS, xP0_3 hS, xP0_4 hS, xP0_5 hS, xP0_6 hS, xP0_7 hS, xP0_8 hS, xT73 hS, xP73_0 hS, xT74 hS, xL74 hS, xP73_1 hS, xT75 hS, xL75 hS, xP73_2 hS, xT76 hS, xL76 hS, xP73_3 hS, xT77 hS, xL77 hS, xT78 hS, xP78_0 hS, xT79 hS, xL79 hS, xT80 hS, xP80_0 hS, xP80_2 hS, xT81 hS, xL81 hS, xT82 hS, xL82 hS, xT83 hS, xL83 hS, xT84 hS, xL84 hS, xT85 hS, xL85 hS]
    rw [h3, if_neg (show ¬ nI (st.length + 1) ≤ 0 from nI_nle (by omega) (by omega)), nI_s1, gd_ok (ib_nI (by omega) (by decide)), nI_clamp (by omega), hk0, XrankOf]
    simp only [cl_some]
    rw [stl_s]
    rw [okN_s] at hN
    have e10 : ¬ g = -10 := fun q => by rw [if_pos q] at hN; exact nomatch hN.1
    rw [if_neg e10] at hN
    by_cases e : g = -11 ∨ rkM g < r
    · rw [if_pos e, if_pos]
      · exact ⟨I, rfl, ⟨h1, hc, by rw [List.length_cons]; exact h3, fun _ _ _ _ => rfl, fun _ _ _ => rfl⟩, rfl⟩
      · by_cases e11 : g = -11
        · rw [e11, ch_11, rkC_40]; exact nI_lt (by omega) (by omega)
        · rw [(ch_rk g hgv e10 e11).1]
          exact nI_lt (e.elim (fun q => absurd q e11) (fun q => q)) (by omega)
    · have e11 : ¬ g = -11 := fun q => e (Or.inl q)
      rw [if_neg e11] at hN
      rw [if_neg e, if_neg (by rw [(ch_rk g hgv e10 e11).1]; exact nI_nlt (by omega) (by have := (ch_rk g hgv e10 e11).2.2; omega))]
      simp only [gt_self, gd_t, lp_some, st_d, nm_d, on_none, on_some, cl_some, mI_mk, mX_mk, setI_mk, u2_row, rowS_s, rowU_s, xT0 hS, xP0_0 hS, xP0_1 hS, xP0_2 hS, xP0_3 hS, xP0_4 hS, xP0_5 hS, xP0_6 hS, xP0_7 hS, xP0_8 hS, xT73 hS, xP73_0 hS, xT74 hS, xL74 hS, xP73_1 hS, xT75 hS, xL75 hS, xP73_2 hS, xT76 hS, xL76 hS, xP73_3 hS, xT77 hS, xL77 hS, xT78 hS, xP78_0 hS, xT79 hS, xL79 hS, xT80 hS, xP80_0 hS, xP80_2 hS, xT81 hS, xL81 hS, xT82 hS, xL82 hS, xT83 hS, xL83 hS, xT84 hS, xL84 hS, xT85 hS, xL85 hS, rowS_n (show (82 : Nat) ≠ 80 by decide)]
      rw [h3, nI_s1, gd_ok (ib_nI (by omega) (by decide)), nI_clamp (by omega), hk0, XaddStep (m := m) hS (by omega) (by rw [rowS_s, rowU_n (by decide)]; exact h1)]
      simp only [cl_some, rowS_s, rowS_n (show (81 : Nat) ≠ 80 by decide)]
      obtain ⟨I', e1, ⟨z1, z2, z3, z4, z5⟩, z6⟩ := ih (m + 1) fu (rowU cd m g) (rowS (rowS (rowS I 80 (rowU (I 80) 3 (nI st.length))) 81 (rowU (I 81) m (20000 + chG g))) 80 (rowU (rowU (I 80) 3 (nI st.length)) 1 (nI (m + 1)))) (fun x hx => hv x (List.mem_cons_of_mem _ hx)) hN (by omega) (by omega) (by rw [rowS_s, rowU_s]) (by
        have := codeR.up (I := rowS I 80 (rowU (I 80) 3 (nI st.length))) (m := m) (cd := cd) (v := 20000 + chG g) (fun k hk => by rw [rowS_n (by decide)]; exact hc k hk) (rowU (rowU (I 80) 3 (nI st.length)) 1 (nI (m + 1))) (ch_ok hgv e11)
        rwa [ch_gS g hgv e11, rowS_n (show (81 : Nat) ≠ 80 by decide)] at this) (by rw [rowS_s, rowU_n (by decide), rowU_s]) (by rw [rowS_n (by decide), rowS_n (by decide), rowS_n (by decide)]; exact hk.2)
      refine ⟨I', e1, ⟨z1, z2, z3, fun j j1 j3 j9 => by rw [z4 j j1 j3 j9, rowS_s, rowU_n j1, rowU_n j3], fun a a1 a2 => by rw [z5 a a1 a2, rowS_n a1, rowS_n a2, rowS_n a1]⟩, by rw [z6, rowS_s, rowU_n (by decide), rowU_n (by decide)]⟩
theorem XjoinDown (hS : LaS S) {r : Nat} (hr1 : 1 ≤ r) (hr5 : r ≤ 5) {st : List Int32} {m : Nat} {cd : Nat → Int32} {I : Nat → Nat → Int32} (hv : ∀ g ∈ st, g ∈ gL) (hN : okN false st) (hm : m + st.length ≤ 95) (h1 : I 80 1 = nI m) (hc : codeR I m cd) (h3 : I 80 3 = nI st.length) (hk : Stk (I 82) (st.map chG)) :
    ∃ I', f_X1_joinDownTo (I, X, S) 80 (nI r) = some ((), (I', X, S)) ∧ XSt I I' (stl r (m, cd) st) ∧ I' 80 9 = I 80 9 := by
  rw [f_X1_joinDownTo]
  exact XjoinL hS hr1 hr5 st m FU cd I hv hN (FU_ge (by omega)) hm h1 hc h3 hk
theorem XendP (hS : LaS S) : ∀ (st : List Int32) (m fu : Nat) (cd : Nat → Int32) (I : Nat → Nat → Int32), (∀ g ∈ st, g ∈ gL) → st.length < fu → m + st.length ≤ 95 → I 80 1 = nI m → codeR I m cd → I 80 3 = nI st.length → Stk (I 82) (st.map chG) → I 80 9 = nI (cN st) →
    ∃ I', f_X1_endPiece_5 fu (I, X, S) 80 = some ((), (I', X, S)) ∧ XSt I I' (stl 6 (m, cd) st) ∧ I' 80 9 = nI (cN (stl 6 (m, cd) st).2) := by
  intro st
  induction st with
  | nil =>
    intro m fu cd I hv hf hm h1 hc h3 hk h9
    obtain ⟨fu, rfl⟩ : ∃ q, fu = q + 1 := ⟨fu - 1, by omega⟩
    rw [f_X1_endPiece_5]
    simp only [gt_self, gd_t, lp_some, st_d, nm_d, on_none, on_some, cl_some, mI_mk, mX_mk, setI_mk, u2_row, rowS_s, rowU_s, xT0 hS, xP0_0 hS, xP0_1 hS, xP0_2 hS, xP0_3 hS, xP0_4 hS, xP0_5 hS, xP0_6 hS, xP0_7 hS, xP0_8 hS, xT73 hS, xP73_0 hS, xT74 hS, xL74 hS, xP73_1 hS, xT75 hS, xL75 hS, xP73_2 hS, xT76 hS, xL76 hS, xP73_3 hS, xT77 hS, xL77 hS, xT78 hS, xP78_0 hS, xT79 hS, xL79 hS, xT80 hS, xP80_0 hS, xP80_2 hS, xT81 hS, xL81 hS, xT82 hS, xL82 hS, xT83 hS, xL83 hS, xT84 hS, xL84 hS, xT85 hS, xL85 hS]
    rw [h3, if_pos (show nI ([] : List Int32).length ≤ 0 by decide)]
    exact ⟨I, rfl, ⟨h1, hc, h3, fun _ _ _ _ => rfl, fun _ _ _ => rfl⟩, h9⟩
  | cons g st ih =>
    intro m fu cd I hv hf hm h1 hc h3 hk h9
    rw [List.length_cons] at hf hm h3
    obtain ⟨fu, rfl⟩ : ∃ q, fu = q + 1 := ⟨fu - 1, by omega⟩
    have hk0 : I 82 st.length = chG g := by have := hk.1; rwa [List.length_map] at this
    have hgv := hv g List.mem_cons_self
    rw [f_X1_endPiece_5]
    simp only [gt_self, gd_t, lp_some, st_d, nm_d, on_none, on_some, cl_some, mI_mk, mX_mk, setI_mk, u2_row, rowS_s, rowU_s, xT0 hS, xP0_0 hS, xP0_1 hS, xP0_2 hS, xP0_3 hS, xP0_4 hS, xP0_5 hS, xP0_6 hS, xP0_7 hS, xP0_8 hS, xT73 hS, xP73_0 hS, xT74 hS, xL74 hS, xP73_1 hS, xT75 hS, xL75 hS, xP73_2 hS, xT76 hS, xL76 hS, xP73_3 hS, xT77 hS, xL77 hS, xT78 hS, xP78_0 hS, xT79 hS, xL79 hS, xT80 hS, xP80_0 hS, xP80_2 hS, xT81 hS, xL81 hS, xT82 hS, xL82 hS, xT83 hS, xL83 hS, xT84 hS, xL84 hS, xT85 hS, xL85 hS]
    rw [h3, if_neg (show ¬ nI (st.length + 1) ≤ 0 from nI_nle (by omega) (by omega)), nI_s1, gd_ok (ib_nI (by omega) (by decide)), nI_clamp (by omega), hk0]
    rw [stl_s]
    by_cases e : g = -11 ∨ rkM g < 6
    · rw [if_pos e, if_neg]
      · exact ⟨I, rfl, ⟨h1, hc, by rw [List.length_cons]; exact h3, fun _ _ _ _ => rfl, fun _ _ _ => rfl⟩, h9⟩
      · intro q
        have e10 := (ch_33 g hgv).mp q
        rcases e with e | e
        · rw [e10] at e; exact absurd e (by decide)
        · rw [e10, rk_10] at e; exact absurd e (by decide)
    · have e10 := rk6 g hgv e
      have hcN : cN (g :: st) = cN st + 1 := by show cN st + (if g = -10 then 1 else 0) = _; rw [if_pos e10]
      rw [hcN] at h9
      rw [if_neg e, if_pos ((ch_33 g hgv).mpr e10)]
      simp only [gt_self, gd_t, lp_some, st_d, nm_d, on_none, on_some, cl_some, mI_mk, mX_mk, setI_mk, u2_row, rowS_s, rowU_s, xT0 hS, xP0_0 hS, xP0_1 hS, xP0_2 hS, xP0_3 hS, xP0_4 hS, xP0_5 hS, xP0_6 hS, xP0_7 hS, xP0_8 hS, xT73 hS, xP73_0 hS, xT74 hS, xL74 hS, xP73_1 hS, xT75 hS, xL75 hS, xP73_2 hS, xT76 hS, xL76 hS, xP73_3 hS, xT77 hS, xL77 hS, xT78 hS, xP78_0 hS, xT79 hS, xL79 hS, xT80 hS, xP80_0 hS, xP80_2 hS, xT81 hS, xL81 hS, xT82 hS, xL82 hS, xT83 hS, xL83 hS, xT84 hS, xL84 hS, xT85 hS, xL85 hS, rowS_rowS, rowU_n (show (9 : Nat) ≠ 3 by decide)]
      rw [h9, nI_s1, XaddStep (m := m) hS (by omega) (by rw [rowS_s, rowU_n (by decide), rowU_n (by decide)]; exact h1)]
      simp only [cl_some, rowS_s, rowS_n (show (81 : Nat) ≠ 80 by decide)]
      obtain ⟨I', e1, ⟨z1, z2, z3, z4, z5⟩, z6⟩ := ih (m + 1) fu (rowU cd m g) (rowS (rowS (rowS I 80 (rowU (rowU (I 80) 3 (nI st.length)) 9 (nI (cN st)))) 81 (rowU (I 81) m 20033)) 80 (rowU (rowU (rowU (I 80) 3 (nI st.length)) 9 (nI (cN st))) 1 (nI (m + 1)))) (fun x hx => hv x (List.mem_cons_of_mem _ hx)) (by omega) (by omega) (by rw [rowS_s, rowU_s]) (by
        have := codeR.up (I := rowS I 80 (rowU (rowU (I 80) 3 (nI st.length)) 9 (nI (cN st)))) (m := m) (cd := cd) (v := 20033) (fun k hk => by rw [rowS_n (by decide)]; exact hc k hk) (rowU (rowU (rowU (I 80) 3 (nI st.length)) 9 (nI (cN st))) 1 (nI (m + 1))) (Or.inr (Or.inl rfl))
        rwa [show gS 20033 = g by rw [e10]; decide, rowS_n (show (81 : Nat) ≠ 80 by decide)] at this) (by rw [rowS_s, rowU_n (by decide), rowU_n (by decide), rowU_s]) (by rw [rowS_n (by decide), rowS_n (by decide), rowS_n (by decide)]; exact hk.2) (by rw [rowS_s, rowU_n (by decide), rowU_s])
      refine ⟨I', e1, ⟨z1, z2, z3, fun j j1 j3 j9 => by rw [z4 j j1 j3 j9, rowS_s, rowU_n j1, rowU_n j9, rowU_n j3], fun a a1 a2 => by rw [z5 a a1 a2, rowS_n a1, rowS_n a2, rowS_n a1]⟩, z6⟩
theorem XendPiece (hS : LaS S) {st : List Int32} {m : Nat} {cd : Nat → Int32} {I : Nat → Nat → Int32} (hv : ∀ g ∈ st, g ∈ gL) (hm : m + st.length ≤ 95) (h1 : I 80 1 = nI m) (hc : codeR I m cd) (h3 : I 80 3 = nI st.length) (hk : Stk (I 82) (st.map chG)) (h9 : I 80 9 = nI (cN st)) :
    ∃ I', f_X1_endPiece (I, X, S) 80 = some ((), (I', X, S)) ∧ I' 80 1 = nI (stl 6 (m, cd) st).1.1 ∧ codeR I' (stl 6 (m, cd) st).1.1 (stl 6 (m, cd) st).1.2 ∧ I' 80 3 = nI (stl 6 (m, cd) st).2.length ∧ I' 80 7 = 0 ∧ I' 80 9 = nI (cN (stl 6 (m, cd) st).2) ∧ (∀ j, j ≠ 1 → j ≠ 3 → j ≠ 7 → j ≠ 9 → I' 80 j = I 80 j) ∧ ∀ a, a ≠ 80 → a ≠ 81 → I' a = I a := by
  rw [f_X1_endPiece]
  simp only [gt_self, gd_t, lp_some, st_d, nm_d, on_none, on_some, cl_some, mI_mk, mX_mk, setI_mk, u2_row, rowS_s, rowU_s, xT0 hS, xP0_0 hS, xP0_1 hS, xP0_2 hS, xP0_3 hS, xP0_4 hS, xP0_5 hS, xP0_6 hS, xP0_7 hS, xP0_8 hS, xT73 hS, xP73_0 hS, xT74 hS, xL74 hS, xP73_1 hS, xT75 hS, xL75 hS, xP73_2 hS, xT76 hS, xL76 hS, xP73_3 hS, xT77 hS, xL77 hS, xT78 hS, xP78_0 hS, xT79 hS, xL79 hS, xT80 hS, xP80_0 hS, xP80_2 hS, xT81 hS, xL81 hS, xT82 hS, xL82 hS, xT83 hS, xL83 hS, xT84 hS, xL84 hS, xT85 hS, xL85 hS]
  obtain ⟨I', e1, ⟨z1, z2, z3, z4, z5⟩, z6⟩ := XendP (X := X) hS st m FU cd (rowS I 80 (rowU (I 80) 7 0)) hv (FU_ge (by omega)) hm (by rw [rowS_s, rowU_n (by decide)]; exact h1) (fun k hk => by rw [rowS_n (by decide)]; exact hc k hk) (by rw [rowS_s, rowU_n (by decide)]; exact h3) (by rw [rowS_n (by decide)]; exact hk) (by rw [rowS_s, rowU_n (by decide)]; exact h9)
  exact ⟨I', e1, z1, z2, z3, by rw [z4 7 (by decide) (by decide) (by decide), rowS_s, rowU_s], z6, fun j j1 j3 j7 j9 => by rw [z4 j j1 j3 j9, rowS_s, rowU_n j7], fun a a1 a2 => by rw [z5 a a1 a2, rowS_n a1]⟩
end XSigns
