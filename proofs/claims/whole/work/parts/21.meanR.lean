/-! THE REFERENCE's ROW: what it means -/
/-- numbers written small, as places -/
theorem il0 {N : Nat} (h : 0 < N) : ib 0 N = true := by unfold ib; rw [Bool.and_eq_true]; exact ⟨by decide, decide_eq_true h⟩
theorem il1 {N : Nat} (h : 1 < N) : ib 1 N = true := by unfold ib; rw [Bool.and_eq_true]; exact ⟨by decide, decide_eq_true h⟩
theorem il2 {N : Nat} (h : 2 < N) : ib 2 N = true := by unfold ib; rw [Bool.and_eq_true]; exact ⟨by decide, decide_eq_true h⟩
theorem il3 {N : Nat} (h : 3 < N) : ib 3 N = true := by unfold ib; rw [Bool.and_eq_true]; exact ⟨by decide, decide_eq_true h⟩
theorem il4 {N : Nat} (h : 4 < N) : ib 4 N = true := by unfold ib; rw [Bool.and_eq_true]; exact ⟨by decide, decide_eq_true h⟩
theorem il5 {N : Nat} (h : 5 < N) : ib 5 N = true := by unfold ib; rw [Bool.and_eq_true]; exact ⟨by decide, decide_eq_true h⟩
theorem il6 {N : Nat} (h : 6 < N) : ib 6 N = true := by unfold ib; rw [Bool.and_eq_true]; exact ⟨by decide, decide_eq_true h⟩
theorem il7 {N : Nat} (h : 7 < N) : ib 7 N = true := by unfold ib; rw [Bool.and_eq_true]; exact ⟨by decide, decide_eq_true h⟩
theorem tn0 : (0 : Int32).toNatClampNeg = 0 := rfl
theorem tn1 : (1 : Int32).toNatClampNeg = 1 := rfl
theorem tn2 : (2 : Int32).toNatClampNeg = 2 := rfl
theorem tn3 : (3 : Int32).toNatClampNeg = 3 := rfl
theorem tn4 : (4 : Int32).toNatClampNeg = 4 := rfl
theorem tn5 : (5 : Int32).toNatClampNeg = 5 := rfl
theorem tn6 : (6 : Int32).toNatClampNeg = 6 := rfl
theorem tn7 : (7 : Int32).toNatClampNeg = 7 := rfl
theorem ix8 (s : Nat) : (8 : Int32) + 3 * nI s = nI (8 + 3 * s) := by
  rw [show (8 : Int32) = nI 8 from rfl, show (3 : Int32) = nI 3 from rfl, pk_mul, nI_add]
theorem ix8w (s w : Nat) : (8 : Int32) + 3 * nI s + nI w = nI (8 + 3 * s + w) := by rw [ix8, nI_add]
theorem ix38 (c w : Nat) : (38 : Int32) + 4 * nI c + nI w = nI (38 + 4 * c + w) := by
  rw [show (38 : Int32) = nI 38 from rfl, show (4 : Int32) = nI 4 from rfl, pk_mul, nI_add, nI_add]
theorem ix38a (c : Nat) : (38 : Int32) + 4 * nI c = nI (38 + 4 * c) := by
  rw [show (38 : Int32) = nI 38 from rfl, show (4 : Int32) = nI 4 from rfl, pk_mul, nI_add]
theorem ix70 (t : Nat) : (70 : Int32) + 2 * nI t = nI (70 + 2 * t) := by
  rw [show (70 : Int32) = nI 70 from rfl, show (2 : Int32) = nI 2 from rfl, pk_mul, nI_add]
theorem ix98 (t k : Nat) : (98 : Int32) + 96 * nI t + nI k = nI (98 + 96 * t + k) := by
  rw [show (98 : Int32) = nI 98 from rfl, show (96 : Int32) = nI 96 from rfl, pk_mul, nI_add, nI_add]
theorem nI_m1 (n : Nat) : nI (n + 1) + (-1) = nI n := pk_m1 n
theorem nI_s1 (n : Nat) : nI (n + 1) - 1 = nI n := nI_pred n
/-! laws: their signs as the reference writes them -/
def twoM (g a b : Int32) : Int32 := if g = (-8) then a * b else if g = (-7) then a - b else if g = (-6) then a + b else if g = (-5) then (if a ≤ b then 0 else 1) else if g = (-4) then (if a = b then 1 else 0) else if g = (-3) then (if b ≤ a then 0 else 1) else if g = (-2) then (if a = 0 then 0 else (if b = 0 then 0 else 1)) else if g = (-1) then (if a = 0 then (if b = 0 then 0 else 1) else 1) else (if b = 0 then 0 else a / b)
def stepM (g : Int32) (F : Nat → Int32) (st : List Int32) : List Int32 :=
  if g < 0 then (if g = (-10) then (match st with
    | a :: r => (if a = 0 then 1 else 0) :: r
    | [] => []) else (match st with
    | b :: a :: r => twoM g a b :: r
    | _ => []))
  else (if 10000 ≤ g then F (g - 10000).toNatClampNeg else g) :: st
def evM (sg F : Nat → Int32) : Nat → List Int32
  | 0 => []
  | k + 1 => stepM (sg k) F (evM sg F k)
def dpM (sg : Nat → Int32) : Nat → Nat
  | 0 => 0
  | k + 1 => if sg k < 0 then (if sg k = (-10) then dpM sg k else dpM sg k - 1) else dpM sg k + 1
/-- a sign is in its place: nn names there are -/
def okS (nn : Nat) (g : Int32) (d : Nat) : Prop := (g < 0 → (g = (-10) → 1 ≤ d) ∧ (¬ g = (-10) → 2 ≤ d)) ∧ (10000 ≤ g → ∃ i, i < nn ∧ g = nI (10000 + i))
def okM (nn : Nat) (sg : Nat → Int32) (n : Nat) : Prop := (∀ k, k < n → okS nn (sg k) (dpM sg k)) ∧ dpM sg n = 1 ∧ n ≤ 96
def valM (sg F : Nat → Int32) (n : Nat) : Int32 := (evM sg F n).headD 0
theorem ev_len {nn : Nat} {sg F : Nat → Int32} {n : Nat} (h : okM nn sg n) : ∀ k, k ≤ n → (evM sg F k).length = dpM sg k := by
  intro k
  induction k with
  | zero => intro _; rfl
  | succ k ih =>
    intro hk
    have ih := ih (by omega)
    have ho := (h.1 k (by omega)).1
    show (stepM (sg k) F (evM sg F k)).length = if sg k < 0 then (if sg k = (-10) then dpM sg k else dpM sg k - 1) else dpM sg k + 1
    unfold stepM
    by_cases h1 : sg k < 0
    · rw [if_pos h1, if_pos h1]
      by_cases h2 : sg k = (-10)
      · rw [if_pos h2, if_pos h2]
        have := (ho h1).1 h2
        cases hq : evM sg F k with
        | nil => rw [hq] at ih; simp at ih; omega
        | cons a r => rw [hq] at ih; exact ih
      · rw [if_neg h2, if_neg h2]
        have := (ho h1).2 h2
        cases hq : evM sg F k with
        | nil => rw [hq] at ih; simp at ih; omega
        | cons a r =>
          cases r with
          | nil => rw [hq] at ih; simp at ih; omega
          | cons b r => rw [hq] at ih; simp at ih ⊢; omega
    · rw [if_neg h1, if_neg h1, List.length_cons, ih]
theorem dp_le (sg : Nat → Int32) : ∀ k, dpM sg k ≤ k := by
  intro k
  induction k with
  | zero => exact Nat.le_refl _
  | succ k ih =>
    show (if sg k < 0 then (if sg k = (-10) then dpM sg k else dpM sg k - 1) else dpM sg k + 1) ≤ k + 1
    split
    · split <;> omega
    · omega
/-- only the names that there are count -/
theorem ev_congr {nn : Nat} {sg F F' : Nat → Int32} {n : Nat} (h : okM nn sg n) (hF : ∀ i, i < nn → F i = F' i) (hnn : nn ≤ 3) : ∀ k, k ≤ n → evM sg F k = evM sg F' k := by
  intro k
  induction k with
  | zero => intro _; rfl
  | succ k ih =>
    intro hk
    show stepM (sg k) F (evM sg F k) = stepM (sg k) F' (evM sg F' k)
    rw [ih (by omega)]
    unfold stepM
    by_cases h2 : 10000 ≤ sg k
    · obtain ⟨i, hi, e⟩ := (h.1 k (by omega)).2 h2
      have e3 : (sg k - 10000).toNatClampNeg = i := by
        rw [e, show (10000 : Int32) = nI 10000 from rfl, pk_sub (by omega), nI_clamp (by omega)]; omega
      rw [e3, hF i hi]
    · simp only [if_neg h2]
theorem val_congr {nn : Nat} {sg F F' : Nat → Int32} {n : Nat} (h : okM nn sg n) (hF : ∀ i, i < nn → F i = F' i) (hnn : nn ≤ 3) : valM sg F n = valM sg F' n := by
  unfold valM
  rw [ev_congr h hF hnn n (Nat.le_refl _)]
/-- a row holds a pile: its top lies at the pile's length less one -/
def Stk (q : Nat → Int32) : List Int32 → Prop
  | [] => True
  | a :: r => q r.length = a ∧ Stk q r
theorem Stk.up {q : Nat → Int32} {j : Nat} {v : Int32} : ∀ {st : List Int32}, Stk q st → st.length ≤ j → Stk (rowU q j v) st
  | [], _, _ => trivial
  | a :: r, h, hj => ⟨by rw [rowU_n (by simp at hj; omega)]; exact h.1, Stk.up h.2 (by simp at hj; omega)⟩
theorem Stk.hd {q : Nat → Int32} {a : Int32} (h : Stk q [a]) : q 0 = a := h.1
/-! the reference's own working out of a text -/
theorem Rtwo (M : Mem) (g a b : Int32) : f_X10_two M g a b = some (twoM g a b, M) := by
  unfold f_X10_two twoM
  by_cases h1 : g = (-8)
  · simp only [if_pos h1]
  simp only [if_neg h1]
  by_cases h2 : g = (-7)
  · simp only [if_pos h2]
  simp only [if_neg h2]
  by_cases h3 : g = (-6)
  · simp only [if_pos h3]
  simp only [if_neg h3]
  by_cases h4 : g = (-5)
  · simp only [if_pos h4]; split <;> rfl
  simp only [if_neg h4]
  by_cases h5 : g = (-4)
  · simp only [if_pos h5]; split <;> rfl
  simp only [if_neg h5]
  by_cases h6 : g = (-3)
  · simp only [if_pos h6]; split <;> rfl
  simp only [if_neg h6]
  by_cases h7 : g = (-2)
  · simp only [if_pos h7]; split
    · rfl
    · split <;> rfl
  simp only [if_neg h7]
  by_cases h8 : g = (-1)
  · simp only [if_pos h8]; split
    · split <;> rfl
    · rfl
  simp only [if_neg h8]
  by_cases h9 : b = 0
  · simp only [if_pos h9]
  · simp only [if_neg h9, gz_ok h9]
theorem RworksLoop {I : Nat → Nat → Int32} {t n nn : Nat} (ht : t < 14) (hok : okM nn (fun k => I 1 (98 + 96 * t + k)) n) (hnn : nn ≤ 3) :
    ∀ (d k fu : Nat) (J : Nat → Nat → Int32), k + d = n → d < fu → (∀ a, a ≠ 14 → J a = I a) → Stk (J 14) (evM (fun k => I 1 (98 + 96 * t + k)) (I 15) k) →
    ∃ J', f_X10_worksOut_21 fu (J, YZ) 0 (nI t) (nI (dpM (fun k => I 1 (98 + 96 * t + k)) k)) (nI n) (nI k) = some (valM (fun k => I 1 (98 + 96 * t + k)) (I 15) n, (J', YZ)) ∧ ∀ a, a ≠ 14 → J' a = I a := by
  intro d
  induction d with
  | zero =>
    intro k fu J hk hf hJ hS
    obtain ⟨fu, rfl⟩ : ∃ m, fu = m + 1 := ⟨fu - 1, by omega⟩
    have hk : k = n := by omega
    subst hk
    refine ⟨J, ?_, hJ⟩
    rw [f_X10_worksOut_21]
    rw [if_pos (nI_le (Nat.le_refl _) (by have := hok.2.2; omega))]
    simp only [gt_self, gd_t, lp_some, st_d, nm_d, on_none, on_some, cl_some, mI_mk, mX_mk, setI_mk, u2_row, rowS_s, rowU_s, yT0, yP0, yT1, yL1, yP1, yT2, yL2, yP2, yT3, yL3, yP5, yT4, yL4, yP6, yT5, yL5, yP7, yT6, yL6, yP8, yT7, yL7, yP9, yT8, yL8, yP17, yT9, yL9, yP18, yT10, yL10, yP19, yT11, yL11, yP22, yT12, yL12, yP24, yT13, yL13, yP25, yT14, yL14, yP26, yT15, yL15, yP27, yT16, yL16, yP28, yT17, yL17, yP29, yT18, yL18, yP30, yT19, yL19, yP31, yT20, yL20, yP32, yT21, yL21, yP33, yT22, yL22, yP34, yT23, yL23, yP35, yT24, yL24, il0 (show 0 < 96 by decide), tn0]
    have hl := ev_len (F := I 15) hok k (Nat.le_refl _)
    rw [hok.2.1] at hl
    have hv : J 14 0 = valM (fun k => I 1 (98 + 96 * t + k)) (I 15) k := by
      unfold valM
      revert hS hl
      cases evM (fun k => I 1 (98 + 96 * t + k)) (I 15) k with
      | nil => intro _ hl; simp at hl
      | cons a r =>
        intro hS hl
        cases r with
        | nil => exact hS.1
        | cons b r => simp at hl
    rw [hv]
  | succ d ih =>
    intro k fu J hk hf hJ hS
    obtain ⟨fu, rfl⟩ : ∃ m, fu = m + 1 := ⟨fu - 1, by omega⟩
    have hn96 := hok.2.2
    have hdl := dp_le (fun k => I 1 (98 + 96 * t + k)) k
    have ho := hok.1 k (by omega)
    have hlen := ev_len (F := I 15) hok k (by omega)
    have e1 : J 1 = I 1 := hJ 1 (by decide)
    have e15 : J 15 = I 15 := hJ 15 (by decide)
    rw [f_X10_worksOut_21, if_neg (nI_ge (by omega) (by omega))]
    simp only [gt_self, gd_t, lp_some, st_d, nm_d, on_none, on_some, cl_some, mI_mk, mX_mk, setI_mk, u2_row, rowS_s, rowU_s, yT0, yP0, yT1, yL1, yP1, yT2, yL2, yP2, yT3, yL3, yP5, yT4, yL4, yP6, yT5, yL5, yP7, yT6, yL6, yP8, yT7, yL7, yP9, yT8, yL8, yP17, yT9, yL9, yP18, yT10, yL10, yP19, yT11, yL11, yP22, yT12, yL12, yP24, yT13, yL13, yP25, yT14, yL14, yP26, yT15, yL15, yP27, yT16, yL16, yP28, yT17, yL17, yP29, yT18, yL18, yP30, yT19, yL19, yP31, yT20, yL20, yP32, yT21, yL21, yP33, yT22, yL22, yP34, yT23, yL23, yP35, yT24, yL24, ix98]
    rw [gd_ok (ib_nI (by omega) (by decide)), nI_clamp (by omega), e1]
    have hev : evM (fun k => I 1 (98 + 96 * t + k)) (I 15) (k + 1) = stepM (I 1 (98 + 96 * t + k)) (I 15) (evM (fun k => I 1 (98 + 96 * t + k)) (I 15) k) := rfl
    have hdp : dpM (fun k => I 1 (98 + 96 * t + k)) (k + 1) = if I 1 (98 + 96 * t + k) < 0 then (if I 1 (98 + 96 * t + k) = (-10) then dpM (fun k => I 1 (98 + 96 * t + k)) k else dpM (fun k => I 1 (98 + 96 * t + k)) k - 1) else dpM (fun k => I 1 (98 + 96 * t + k)) k + 1 := rfl
    generalize hg : I 1 (98 + 96 * t + k) = g at ho hev hdp ⊢
    have ho : okS nn g (dpM (fun k => I 1 (98 + 96 * t + k)) k) := by
      have := hok.1 k (by omega)
      simp only [hg] at this
      exact this
    generalize hD : dpM (fun k => I 1 (98 + 96 * t + k)) k = D at ho hdp hlen hdl ⊢
    generalize hE : evM (fun k => I 1 (98 + 96 * t + k)) (I 15) k = E at hev hS hlen
    by_cases h1 : g < 0
    · rw [if_pos h1]
      rw [if_pos h1] at hdp
      by_cases h2 : g = (-10)
      · rw [if_pos h2]
        rw [if_pos h2] at hdp
        have hd1 := (ho.1 h1).1 h2
        obtain ⟨D', rfl⟩ : ∃ m, D = m + 1 := ⟨D - 1, by omega⟩
        cases E with
        | nil => simp at hlen
        | cons a r =>
          have hr : r.length = D' := by simpa using hlen
          have hev : evM (fun k => I 1 (98 + 96 * t + k)) (I 15) (k + 1) = (if a = 0 then 1 else 0) :: r := by
            rw [hev]; unfold stepM; rw [if_pos h1, if_pos h2]
          have hq : J 14 D' = a := by rw [← hr]; exact hS.1
          simp only [nI_s1]
          rw [gd_ok (ib_nI (by omega) (by decide)), nI_clamp (by omega), hq]
          have fin : ∀ v : Int32, (if a = 0 then (1 : Int32) else 0) = v → ∃ J', f_X10_worksOut_115 (f_X10_worksOut_21 fu) (J, YZ) 0 (nI t) (nI (D' + 1)) (nI n) (nI k) 14 (nI D') v = some (valM (fun k => I 1 (98 + 96 * t + k)) (I 15) n, (J', YZ)) ∧ ∀ a, a ≠ 14 → J' a = I a := by
            intro v hv
            rw [f_X10_worksOut_115]
            simp only [gt_self, gd_t, lp_some, st_d, nm_d, on_none, on_some, cl_some, mI_mk, mX_mk, setI_mk, u2_row, rowS_s, rowU_s, yT0, yP0, yT1, yL1, yP1, yT2, yL2, yP2, yT3, yL3, yP5, yT4, yL4, yP6, yT5, yL5, yP7, yT6, yL6, yP8, yT7, yL7, yP9, yT8, yL8, yP17, yT9, yL9, yP18, yT10, yL10, yP19, yT11, yL11, yP22, yT12, yL12, yP24, yT13, yL13, yP25, yT14, yL14, yP26, yT15, yL15, yP27, yT16, yL16, yP28, yT17, yL17, yP29, yT18, yL18, yP30, yT19, yL19, yP31, yT20, yL20, yP32, yT21, yL21, yP33, yT22, yL22, yP34, yT23, yL23, yP35, yT24, yL24]
            rw [gd_ok (ib_nI (by omega) (by decide)), nI_clamp (by omega), nI_1]
            have := ih (k + 1) fu (rowS J 14 (rowU (J 14) D' v)) (by omega) (by omega) (fun b hb => by rw [rowS_n hb]; exact hJ b hb) (by
              rw [rowS_s, hev, hv]
              exact ⟨by rw [hr, rowU_s], Stk.up hS.2 (by omega)⟩)
            rw [hdp] at this
            exact this
          by_cases h3 : a = 0
          · rw [if_pos h3]; exact fin 1 (if_pos h3)
          · rw [if_neg h3]; exact fin 0 (if_neg h3)
      · rw [if_neg h2]
        rw [if_neg h2] at hdp
        have hd1 := (ho.1 h1).2 h2
        obtain ⟨D', rfl⟩ : ∃ m, D = m + 2 := ⟨D - 2, by omega⟩
        match E, hlen, hev, hS with
        | [], hlen, _, _ => simp at hlen
        | [_], hlen, _, _ => simp at hlen
        | b :: a :: r, hlen, hev, hS =>
          have hr : r.length = D' := by simpa using hlen
          have hev : evM (fun k => I 1 (98 + 96 * t + k)) (I 15) (k + 1) = twoM g a b :: r := by
            rw [hev]; unfold stepM; rw [if_pos h1, if_neg h2]
          have hq1 : J 14 (D' + 1) = b := by have := hS.1; rw [List.length_cons, hr] at this; exact this
          have hq0 : J 14 D' = a := by have := hS.2.1; rw [hr] at this; exact this
          rw [show nI (D' + 2) + (-1) = nI (D' + 1) from nI_m1 (D' + 1)]
          simp only [nI_s1]
          rw [gd_ok (ib_nI (by omega) (by decide)), gd_ok (ib_nI (by omega) (by decide)), nI_clamp (by omega), nI_clamp (by omega), hq0, hq1, Rtwo]
          simp only [gt_self, gd_t, lp_some, st_d, nm_d, on_none, on_some, cl_some, mI_mk, mX_mk, setI_mk, u2_row, rowS_s, rowU_s, yT0, yP0, yT1, yL1, yP1, yT2, yL2, yP2, yT3, yL3, yP5, yT4, yL4, yP6, yT5, yL5, yP7, yT6, yL6, yP8, yT7, yL7, yP9, yT8, yL8, yP17, yT9, yL9, yP18, yT10, yL10, yP19, yT11, yL11, yP22, yT12, yL12, yP24, yT13, yL13, yP25, yT14, yL14, yP26, yT15, yL15, yP27, yT16, yL16, yP28, yT17, yL17, yP29, yT18, yL18, yP30, yT19, yL19, yP31, yT20, yL20, yP32, yT21, yL21, yP33, yT22, yL22, yP34, yT23, yL23, yP35, yT24, yL24]
          rw [gd_ok (ib_nI (by omega) (by decide)), nI_1]
          have := ih (k + 1) fu (rowS J 14 (rowU (J 14) D' (twoM g a b))) (by omega) (by omega) (fun b hb => by rw [rowS_n hb]; exact hJ b hb) (by
            rw [rowS_s, hev]
            exact ⟨by rw [hr, rowU_s], Stk.up hS.2.2 (by omega)⟩)
          rw [hdp] at this
          exact this
    · rw [if_neg h1]
      rw [if_neg h1] at hdp
      have push : ∀ v : Int32, (if 10000 ≤ g then I 15 (g - 10000).toNatClampNeg else g) = v → ∃ J', f_X10_worksOut_78 (f_X10_worksOut_21 fu) (J, YZ) 0 (nI t) (nI D) (nI n) (nI k) 14 (nI D) v = some (valM (fun k => I 1 (98 + 96 * t + k)) (I 15) n, (J', YZ)) ∧ ∀ a, a ≠ 14 → J' a = I a := by
        intro v hv
        have hev : evM (fun k => I 1 (98 + 96 * t + k)) (I 15) (k + 1) = v :: E := by
          rw [hev]; unfold stepM; rw [if_neg h1, hv]
        rw [f_X10_worksOut_78]
        simp only [gt_self, gd_t, lp_some, st_d, nm_d, on_none, on_some, cl_some, mI_mk, mX_mk, setI_mk, u2_row, rowS_s, rowU_s, yT0, yP0, yT1, yL1, yP1, yT2, yL2, yP2, yT3, yL3, yP5, yT4, yL4, yP6, yT5, yL5, yP7, yT6, yL6, yP8, yT7, yL7, yP9, yT8, yL8, yP17, yT9, yL9, yP18, yT10, yL10, yP19, yT11, yL11, yP22, yT12, yL12, yP24, yT13, yL13, yP25, yT14, yL14, yP26, yT15, yL15, yP27, yT16, yL16, yP28, yT17, yL17, yP29, yT18, yL18, yP30, yT19, yL19, yP31, yT20, yL20, yP32, yT21, yL21, yP33, yT22, yL22, yP34, yT23, yL23, yP35, yT24, yL24]
        rw [gd_ok (ib_nI (by omega) (by decide)), nI_clamp (by omega), nI_1, nI_1]
        have := ih (k + 1) fu (rowS J 14 (rowU (J 14) D v)) (by omega) (by omega) (fun b hb => by rw [rowS_n hb]; exact hJ b hb) (by
          rw [rowS_s, hev]
          exact ⟨by rw [hlen, rowU_s], Stk.up hS (by omega)⟩)
        rw [hdp] at this
        exact this
      by_cases h2 : 10000 ≤ g
      · rw [if_pos h2]
        obtain ⟨i, hi, e⟩ := ho.2 h2
        have e3 : g - 10000 = nI i := by
          rw [e, show (10000 : Int32) = nI 10000 from rfl, pk_sub (by omega), Nat.add_sub_cancel_left]
        rw [e3, gd_ok (ib_nI (by omega) (by decide)), e15]
        exact push _ (by rw [if_pos h2, e3])
      · rw [if_neg h2]
        exact push _ (if_neg h2)
