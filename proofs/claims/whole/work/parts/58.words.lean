/-! THE PARSER: the tape's words, purely -/
def isLt (x : Int32) : Bool := decide (97 ≤ x ∧ x ≤ 122)
def isDg (x : Int32) : Bool := decide (48 ≤ x ∧ x ≤ 57)
def isSp (x : Int32) : Bool := decide (x = 32)
theorem ifLt {α : Type} {x : Int32} {a b : α} : (if x < 97 then a else if 122 < x then a else b) = if isLt x = true then b else a := by
  unfold isLt
  by_cases h : x < 97
  · rw [if_pos h, if_neg (by rw [decide_eq_false (fun q => Int32.not_lt.mpr q.1 h)]; exact Bool.false_ne_true)]
  · rw [if_neg h]
    by_cases h2 : 122 < x
    · rw [if_pos h2, if_neg (by rw [decide_eq_false (fun q => Int32.not_lt.mpr q.2 h2)]; exact Bool.false_ne_true)]
    · rw [if_neg h2, if_pos (decide_eq_true ⟨Int32.not_lt.mp h, Int32.not_lt.mp h2⟩)]
theorem ifDg {α : Type} {x : Int32} {a b : α} : (if x < 48 then a else if 57 < x then a else b) = if isDg x = true then b else a := by
  unfold isDg
  by_cases h : x < 48
  · rw [if_pos h, if_neg (by rw [decide_eq_false (fun q => Int32.not_lt.mpr q.1 h)]; exact Bool.false_ne_true)]
  · rw [if_neg h]
    by_cases h2 : 57 < x
    · rw [if_pos h2, if_neg (by rw [decide_eq_false (fun q => Int32.not_lt.mpr q.2 h2)]; exact Bool.false_ne_true)]
    · rw [if_neg h2, if_pos (decide_eq_true ⟨Int32.not_lt.mp h, Int32.not_lt.mp h2⟩)]
theorem dg_lt {x : Int32} (h : isDg x = true) : isLt x = false := by
  have h := of_decide_eq_true h
  refine decide_eq_false (fun q => ?_)
  have a := Int32.le_iff_toInt_le.mp h.2
  have b := Int32.le_iff_toInt_le.mp q.1
  have a : x.toInt ≤ 57 := a
  have b : (97 : Int) ≤ x.toInt := b
  omega
def runM (f : Int32 → Bool) (B : Nat → Int32) : Nat → Nat → Nat
  | 0, p => p
  | d + 1, p => if f (B p) = true then runM f B d (p + 1) else p
theorem run_le {f : Int32 → Bool} {B : Nat → Int32} : ∀ {d p : Nat}, p ≤ runM f B d p ∧ runM f B d p ≤ p + d
  | 0, p => ⟨Nat.le_refl _, Nat.le_refl _⟩
  | d + 1, p => by
    unfold runM
    by_cases e : f (B p) = true
    · rw [if_pos e]
      have := run_le (f := f) (B := B) (d := d) (p := p + 1)
      omega
    · rw [if_neg e]; omega
theorem run_stop {f : Int32 → Bool} {B : Nat → Int32} : ∀ {d p : Nat}, runM f B d p < p + d → f (B (runM f B d p)) = false
  | 0, p, h => absurd h (Nat.lt_irrefl _)
  | d + 1, p, h => by
    unfold runM at h ⊢
    by_cases e : f (B p) = true
    · rw [if_pos e] at h ⊢
      exact run_stop (by omega)
    · rw [if_neg e]; simpa using e
theorem run_in {f : Int32 → Bool} {B : Nat → Int32} : ∀ {d p k : Nat}, p ≤ k → k < runM f B d p → f (B k) = true
  | 0, p, k, h1, h2 => absurd (Nat.lt_of_le_of_lt h1 h2) (Nat.lt_irrefl _)
  | d + 1, p, k, h1, h2 => by
    unfold runM at h2
    by_cases e : f (B p) = true
    · rw [if_pos e] at h2
      by_cases e2 : k = p
      · subst e2; exact e
      · exact run_in (by omega) h2
    · rw [if_neg e] at h2
      omega
/-- the place behind spaces; behind a word; the next one's place -/
def skM (B : Nat → Int32) (n p : Nat) : Nat := runM isSp B (n - p) p
def endM (B : Nat → Int32) (n a : Nat) : Nat := if isLt (B a) = true then runM isLt B (n - (a + 1)) (a + 1) else if isDg (B a) = true then runM isDg B (n - (a + 1)) (a + 1) else a + 1
def nxtM (B : Nat → Int32) (n a : Nat) : Nat := if n ≤ a then n else endM B n a
def tokT (B : Nat → Int32) (n : Nat) (e0 : Int32) (a : Nat) : Nat := if n ≤ a then 0 else if isLt (B a) = true then (if nI a = e0 then 4 else 1) else if isDg (B a) = true then (if nI a = e0 then 4 else if 4 < endM B n a - a then 4 else 2) else 3
def tokE (B : Nat → Int32) (n : Nat) (e0 : Int32) (a : Nat) : Int32 := if n ≤ a then e0 else if isLt (B a) = true then nI (endM B n a) else if isDg (B a) = true then nI (endM B n a) else e0
def numM (B : Nat → Int32) (a : Nat) : Nat → Int32
  | 0 => 0
  | k + 1 => 10 * numM B a k + B (a + k) - 48
def tokV (B : Nat → Int32) (n a : Nat) : Int32 := if isDg (B a) = true then numM B a (endM B n a - a) else B a
theorem sk_le {B : Nat → Int32} {n p : Nat} (h : p ≤ n) : p ≤ skM B n p ∧ skM B n p ≤ n := by
  have := run_le (f := isSp) (B := B) (d := n - p) (p := p)
  unfold skM
  omega
theorem sk_no {B : Nat → Int32} {n p : Nat} (hp : p ≤ n) (h : skM B n p < n) : ¬ B (skM B n p) = 32 := fun q => by
  have := run_stop (f := isSp) (B := B) (d := n - p) (p := p) (by unfold skM at h; omega)
  rw [show runM isSp B (n - p) p = skM B n p from rfl] at this
  rw [q] at this
  exact absurd this (by decide)
theorem end_le {B : Nat → Int32} {n a : Nat} (h : a < n) : a < endM B n a ∧ endM B n a ≤ n := by
  unfold endM
  have h1 := run_le (f := isLt) (B := B) (d := n - (a + 1)) (p := a + 1)
  have h2 := run_le (f := isDg) (B := B) (d := n - (a + 1)) (p := a + 1)
  split
  · omega
  · split <;> omega
theorem dg_of {x : Int32} (h : isDg x = true) : ∃ v, v < 10 ∧ x = nI (48 + v) := by
  have h := of_decide_eq_true h
  have a := Int32.le_iff_toInt_le.mp h.1
  have b := Int32.le_iff_toInt_le.mp h.2
  have a : (48 : Int) ≤ x.toInt := a
  have b : x.toInt ≤ 57 := b
  refine ⟨(x.toInt - 48).toNat, by omega, ?_⟩
  apply Int32.toInt_inj.mp
  rw [nI_toInt (by omega)]
  omega
theorem num_of {B : Nat → Int32} {a : Nat} : ∀ {k : Nat}, k ≤ 4 → (∀ i, i < k → isDg (B (a + i)) = true) → ∃ v, v < 10 ^ k ∧ numM B a k = nI v
  | 0, _, _ => ⟨0, by decide, rfl⟩
  | k + 1, hk, h => by
    obtain ⟨v, hv, e⟩ := num_of (k := k) (by omega) (fun i hi => h i (by omega))
    obtain ⟨u, hu, e2⟩ := dg_of (h k (by omega))
    refine ⟨10 * v + u, ?_, ?_⟩
    · rw [Nat.pow_succ]; omega
    · show 10 * numM B a k + B (a + k) - 48 = _
      rw [e, e2, show (10 : Int32) = nI 10 from rfl, show (48 : Int32) = nI 48 from rfl, pk_mul, nI_add, pk_sub (by omega)]
      congr 1
      omega
/-- a number of the tape -/
theorem tok2 {B : Nat → Int32} {n : Nat} {e0 : Int32} {a : Nat} (h : tokT B n e0 a = 2) : a < n ∧ isDg (B a) = true ∧ ¬ nI a = e0 ∧ endM B n a - a ≤ 4 ∧ ∃ v, v < 10000 ∧ tokV B n a = nI v := by
  unfold tokT at h
  by_cases h1 : n ≤ a
  · rw [if_pos h1] at h; exact absurd h (by decide)
  rw [if_neg h1] at h
  by_cases h2 : isLt (B a) = true
  · rw [if_pos h2] at h
    by_cases h3 : nI a = e0
    · rw [if_pos h3] at h; exact absurd h (by decide)
    · rw [if_neg h3] at h; exact absurd h (by decide)
  rw [if_neg h2] at h
  by_cases h3 : isDg (B a) = true
  · rw [if_pos h3] at h
    by_cases h4 : nI a = e0
    · rw [if_pos h4] at h; exact absurd h (by decide)
    rw [if_neg h4] at h
    by_cases h5 : 4 < endM B n a - a
    · rw [if_pos h5] at h; exact absurd h (by decide)
    have hd : ∀ i, i < endM B n a - a → isDg (B (a + i)) = true := by
      intro i hi
      cases i with
      | zero => exact h3
      | succ i =>
        unfold endM at hi
        rw [if_neg h2, if_pos h3] at hi
        exact run_in (d := n - (a + 1)) (p := a + 1) (by omega) (by omega)
    obtain ⟨v, hv, e⟩ := num_of (by omega) hd
    refine ⟨by omega, h3, h4, by omega, v, Nat.lt_of_lt_of_le hv (show 10 ^ (endM B n a - a) ≤ 10 ^ 4 from Nat.pow_le_pow_right (by decide) (by omega)), ?_⟩
    unfold tokV
    rw [if_pos h3]
    exact e
  · rw [if_neg h3] at h; exact absurd h (by decide)
/-! the class: words of the tape -/
section XTok
variable {I : Nat → Nat → Int32} {X : Nat → Nat → Option Nat} {S : Sta}
theorem XisLt (M : Mem) (x : Int32) : f_X9_isLetter M x = some (bI (isLt x), M) := by
  rw [f_X9_isLetter, ifLt]
  cases isLt x <;> rfl
theorem XisDg (M : Mem) (x : Int32) : f_X9_isDigit M x = some (bI (isDg x), M) := by
  rw [f_X9_isDigit, ifDg]
  cases isDg x <;> rfl
theorem XendL (hS : LaS S) {B : Nat → Int32} {n : Nat} (hn : n ≤ 96) (h1 : I 78 1 = nI n) (hB : ∀ k, k < n → I 79 k = B k) : ∀ (d p fu : Nat), p + d = n → d < fu → f_X6_endOf_16 fu (I, X, S) 78 (nI p) = some (nI (runM isLt B d p), (I, X, S)) := by
  intro d
  induction d with
  | zero =>
    intro p fu hp hf
    obtain ⟨fu, rfl⟩ : ∃ m, fu = m + 1 := ⟨fu - 1, by omega⟩
    rw [f_X6_endOf_16]
    simp only [gt_self, gd_t, lp_some, st_d, nm_d, on_none, on_some, cl_some, mI_mk, mX_mk, setI_mk, u2_row, rowS_s, rowU_s, xT0 hS, xP0_0 hS, xP0_1 hS, xP0_2 hS, xP0_3 hS, xP0_4 hS, xP0_5 hS, xP0_6 hS, xP0_7 hS, xP0_8 hS, xT73 hS, xP73_0 hS, xT74 hS, xL74 hS, xP73_1 hS, xT75 hS, xL75 hS, xP73_2 hS, xT76 hS, xL76 hS, xP73_3 hS, xT77 hS, xL77 hS, xT78 hS, xP78_0 hS, xT79 hS, xL79 hS, xT80 hS, xP80_0 hS, xP80_2 hS, xT81 hS, xL81 hS, xT82 hS, xL82 hS, xT83 hS, xL83 hS, xT84 hS, xL84 hS, xT85 hS, xL85 hS]
    rw [h1, if_pos (nI_le (show n ≤ p by omega) (by omega))]
    rfl
  | succ d ih =>
    intro p fu hp hf
    obtain ⟨fu, rfl⟩ : ∃ m, fu = m + 1 := ⟨fu - 1, by omega⟩
    have ih := ih (p + 1) fu (by omega) (by omega)
    rw [f_X6_endOf_16]
    simp only [gt_self, gd_t, lp_some, st_d, nm_d, on_none, on_some, cl_some, mI_mk, mX_mk, setI_mk, u2_row, rowS_s, rowU_s, xT0 hS, xP0_0 hS, xP0_1 hS, xP0_2 hS, xP0_3 hS, xP0_4 hS, xP0_5 hS, xP0_6 hS, xP0_7 hS, xP0_8 hS, xT73 hS, xP73_0 hS, xT74 hS, xL74 hS, xP73_1 hS, xT75 hS, xL75 hS, xP73_2 hS, xT76 hS, xL76 hS, xP73_3 hS, xT77 hS, xL77 hS, xT78 hS, xP78_0 hS, xT79 hS, xL79 hS, xT80 hS, xP80_0 hS, xP80_2 hS, xT81 hS, xL81 hS, xT82 hS, xL82 hS, xT83 hS, xL83 hS, xT84 hS, xL84 hS, xT85 hS, xL85 hS]
    rw [h1, if_neg (nI_ge (show p < n by omega) (by omega)), gd_ok (ib_nI (by omega) (by decide)), nI_clamp (by omega), hB p (by omega), XisLt]
    simp only [cl_some, ifB]
    unfold runM
    by_cases e : isLt (B p) = true
    · rw [if_pos e, if_pos e, nI_1]; exact ih
    · rw [if_neg e, if_neg e]
theorem XendD (hS : LaS S) {B : Nat → Int32} {n : Nat} (hn : n ≤ 96) (h1 : I 78 1 = nI n) (hB : ∀ k, k < n → I 79 k = B k) : ∀ (d p fu : Nat), p + d = n → d < fu → f_X6_endOf_54 fu (I, X, S) 78 (nI p) = some (nI (runM isDg B d p), (I, X, S)) := by
  intro d
  induction d with
  | zero =>
    intro p fu hp hf
    obtain ⟨fu, rfl⟩ : ∃ m, fu = m + 1 := ⟨fu - 1, by omega⟩
    rw [f_X6_endOf_54]
    simp only [gt_self, gd_t, lp_some, st_d, nm_d, on_none, on_some, cl_some, mI_mk, mX_mk, setI_mk, u2_row, rowS_s, rowU_s, xT0 hS, xP0_0 hS, xP0_1 hS, xP0_2 hS, xP0_3 hS, xP0_4 hS, xP0_5 hS, xP0_6 hS, xP0_7 hS, xP0_8 hS, xT73 hS, xP73_0 hS, xT74 hS, xL74 hS, xP73_1 hS, xT75 hS, xL75 hS, xP73_2 hS, xT76 hS, xL76 hS, xP73_3 hS, xT77 hS, xL77 hS, xT78 hS, xP78_0 hS, xT79 hS, xL79 hS, xT80 hS, xP80_0 hS, xP80_2 hS, xT81 hS, xL81 hS, xT82 hS, xL82 hS, xT83 hS, xL83 hS, xT84 hS, xL84 hS, xT85 hS, xL85 hS]
    rw [h1, if_pos (nI_le (show n ≤ p by omega) (by omega))]
    rfl
  | succ d ih =>
    intro p fu hp hf
    obtain ⟨fu, rfl⟩ : ∃ m, fu = m + 1 := ⟨fu - 1, by omega⟩
    have ih := ih (p + 1) fu (by omega) (by omega)
    rw [f_X6_endOf_54]
    simp only [gt_self, gd_t, lp_some, st_d, nm_d, on_none, on_some, cl_some, mI_mk, mX_mk, setI_mk, u2_row, rowS_s, rowU_s, xT0 hS, xP0_0 hS, xP0_1 hS, xP0_2 hS, xP0_3 hS, xP0_4 hS, xP0_5 hS, xP0_6 hS, xP0_7 hS, xP0_8 hS, xT73 hS, xP73_0 hS, xT74 hS, xL74 hS, xP73_1 hS, xT75 hS, xL75 hS, xP73_2 hS, xT76 hS, xL76 hS, xP73_3 hS, xT77 hS, xL77 hS, xT78 hS, xP78_0 hS, xT79 hS, xL79 hS, xT80 hS, xP80_0 hS, xP80_2 hS, xT81 hS, xL81 hS, xT82 hS, xL82 hS, xT83 hS, xL83 hS, xT84 hS, xL84 hS, xT85 hS, xL85 hS]
    rw [h1, if_neg (nI_ge (show p < n by omega) (by omega)), gd_ok (ib_nI (by omega) (by decide)), nI_clamp (by omega), hB p (by omega), XisDg]
    simp only [cl_some, ifB]
    unfold runM
    by_cases e : isDg (B p) = true
    · rw [if_pos e, if_pos e, nI_1]; exact ih
    · rw [if_neg e, if_neg e]
theorem XendOf (hS : LaS S) {B : Nat → Int32} {n a : Nat} (hn : n ≤ 96) (ha : a < n) (h1 : I 78 1 = nI n) (hB : ∀ k, k < n → I 79 k = B k) : f_X6_endOf (I, X, S) 78 (nI a) = some (nI (endM B n a), (I, X, S)) := by
  rw [f_X6_endOf]
  simp only [gt_self, gd_t, lp_some, st_d, nm_d, on_none, on_some, cl_some, mI_mk, mX_mk, setI_mk, u2_row, rowS_s, rowU_s, xT0 hS, xP0_0 hS, xP0_1 hS, xP0_2 hS, xP0_3 hS, xP0_4 hS, xP0_5 hS, xP0_6 hS, xP0_7 hS, xP0_8 hS, xT73 hS, xP73_0 hS, xT74 hS, xL74 hS, xP73_1 hS, xT75 hS, xL75 hS, xP73_2 hS, xT76 hS, xL76 hS, xP73_3 hS, xT77 hS, xL77 hS, xT78 hS, xP78_0 hS, xT79 hS, xL79 hS, xT80 hS, xP80_0 hS, xP80_2 hS, xT81 hS, xL81 hS, xT82 hS, xL82 hS, xT83 hS, xL83 hS, xT84 hS, xL84 hS, xT85 hS, xL85 hS]
  rw [gd_ok (ib_nI (by omega) (by decide)), nI_clamp (by omega), hB a ha, XisLt]
  simp only [cl_some, ifB, gt_self, gd_t, lp_some, st_d, nm_d, on_none, on_some, cl_some, mI_mk, mX_mk, setI_mk, u2_row, rowS_s, rowU_s, xT0 hS, xP0_0 hS, xP0_1 hS, xP0_2 hS, xP0_3 hS, xP0_4 hS, xP0_5 hS, xP0_6 hS, xP0_7 hS, xP0_8 hS, xT73 hS, xP73_0 hS, xT74 hS, xL74 hS, xP73_1 hS, xT75 hS, xL75 hS, xP73_2 hS, xT76 hS, xL76 hS, xP73_3 hS, xT77 hS, xL77 hS, xT78 hS, xP78_0 hS, xT79 hS, xL79 hS, xT80 hS, xP80_0 hS, xP80_2 hS, xT81 hS, xL81 hS, xT82 hS, xL82 hS, xT83 hS, xL83 hS, xT84 hS, xL84 hS, xT85 hS, xL85 hS, nI_1]
  unfold endM
  by_cases e : isLt (B a) = true
  · rw [if_pos e, if_pos e, XendL hS hn h1 hB (n - (a + 1)) (a + 1) FU (by omega) (FU_ge (by omega))]
  · rw [if_neg e, if_neg e, gd_ok (ib_nI (by omega) (by decide)), hB a ha, XisDg]
    simp only [cl_some, ifB]
    by_cases e2 : isDg (B a) = true
    · rw [if_pos e2, if_pos e2, XendD hS hn h1 hB (n - (a + 1)) (a + 1) FU (by omega) (FU_ge (by omega))]
    · rw [if_neg e2, if_neg e2]
theorem XnumL (hS : LaS S) {B : Nat → Int32} {n a e : Nat} (hn : n ≤ 96) (he : e ≤ n) (hB : ∀ k, k < n → I 79 k = B k) : ∀ (d p fu : Nat), p + d = e → a ≤ p → d < fu → f_X6_number_5 fu (I, X, S) 78 (nI e) (numM B a (p - a)) (nI p) = some (numM B a (e - a), (I, X, S)) := by
  intro d
  induction d with
  | zero =>
    intro p fu hp hap hf
    obtain ⟨fu, rfl⟩ : ∃ m, fu = m + 1 := ⟨fu - 1, by omega⟩
    rw [f_X6_number_5, if_pos (nI_le (show e ≤ p by omega) (by omega)), show p = e by omega]
  | succ d ih =>
    intro p fu hp hap hf
    obtain ⟨fu, rfl⟩ : ∃ m, fu = m + 1 := ⟨fu - 1, by omega⟩
    have ih := ih (p + 1) fu (by omega) (by omega) (by omega)
    rw [f_X6_number_5, if_neg (nI_ge (show p < e by omega) (by omega))]
    simp only [gt_self, gd_t, lp_some, st_d, nm_d, on_none, on_some, cl_some, mI_mk, mX_mk, setI_mk, u2_row, rowS_s, rowU_s, xT0 hS, xP0_0 hS, xP0_1 hS, xP0_2 hS, xP0_3 hS, xP0_4 hS, xP0_5 hS, xP0_6 hS, xP0_7 hS, xP0_8 hS, xT73 hS, xP73_0 hS, xT74 hS, xL74 hS, xP73_1 hS, xT75 hS, xL75 hS, xP73_2 hS, xT76 hS, xL76 hS, xP73_3 hS, xT77 hS, xL77 hS, xT78 hS, xP78_0 hS, xT79 hS, xL79 hS, xT80 hS, xP80_0 hS, xP80_2 hS, xT81 hS, xL81 hS, xT82 hS, xL82 hS, xT83 hS, xL83 hS, xT84 hS, xL84 hS, xT85 hS, xL85 hS]
    rw [gd_ok (ib_nI (by omega) (by decide)), nI_clamp (by omega), hB p (by omega), nI_1, ← ih, show p + 1 - a = (p - a) + 1 by omega]
    show _ = f_X6_number_5 fu (I, X, S) 78 (nI e) (10 * numM B a (p - a) + B (a + (p - a)) - 48) (nI (p + 1))
    rw [show a + (p - a) = p by omega]
theorem Xnumber (hS : LaS S) {B : Nat → Int32} {n a e : Nat} (hn : n ≤ 96) (hae : a ≤ e) (he : e ≤ n) (hB : ∀ k, k < n → I 79 k = B k) : f_X6_number (I, X, S) 78 (nI a) (nI e) = some (numM B a (e - a), (I, X, S)) := by
  rw [f_X6_number]
  have := XnumL (X := X) hS hn he hB (e - a) a FU (by omega) (Nat.le_refl _) (FU_ge (by omega))
  rw [Nat.sub_self] at this
  exact this
end XTok
