/-! THE PARSER: the reference's next word -/
def Tkn (B : Nat → Int32) (n : Nat) (e0 : Int32) (a : Nat) (J J' : Nat → Nat → Int32) : Prop := J' 0 12 = nI a ∧ J' 0 13 = nI (tokT B n e0 a) ∧ J' 0 11 = nI (nxtM B n a) ∧ J' 0 15 = tokE B n e0 a ∧ (tokT B n e0 a = 1 ∨ tokT B n e0 a = 2 ∨ tokT B n e0 a = 3 → J' 0 14 = tokV B n a) ∧ (∀ j, j < 11 ∨ 15 < j → J' 0 j = J 0 j) ∧ ∀ x, x ≠ 0 → J' x = J x
section RTok
theorem RisLt {J : Nat → Nat → Int32} {n k : Nat} (h1 : J 0 10 = nI n) (hn : n ≤ 96) (hk : k ≤ 96) : f_X10_isLetter (J, YZ) 0 (nI k) = some (bI (decide (k < n) && isLt (J 8 k)), (J, YZ)) := by
  rw [f_X10_isLetter]
  simp only [gt_self, gd_t, lp_some, st_d, nm_d, on_none, on_some, cl_some, mI_mk, mX_mk, setI_mk, u2_row, rowS_s, rowU_s, yT0, yP0, yT1, yL1, yP1, yT2, yL2, yP2, yT3, yL3, yP5, yT4, yL4, yP6, yT5, yL5, yP7, yT6, yL6, yP8, yT7, yL7, yP9, yT8, yL8, yP17, yT9, yL9, yP18, yT10, yL10, yP19, yT11, yL11, yP22, yT12, yL12, yP24, yT13, yL13, yP25, yT14, yL14, yP26, yT15, yL15, yP27, yT16, yL16, yP28, yT17, yL17, yP29, yT18, yL18, yP30, yT19, yL19, yP31, yT20, yL20, yP32, yT21, yL21, yP33, yT22, yL22, yP34, yT23, yL23, yP35, yT24, yL24]
  rw [h1]
  by_cases e : n ≤ k
  · rw [if_pos (nI_le e (by omega)), decide_eq_false (by omega)]; rfl
  · rw [if_neg (nI_ge (by omega) (by omega)), gd_ok (ib_nI (by omega) (by decide)), nI_clamp (by omega), gd_ok (ib_nI (by omega) (by decide)), ifLt, decide_eq_true (by omega)]
    cases isLt (J 8 k) <;> rfl
theorem RisDg {J : Nat → Nat → Int32} {n k : Nat} (h1 : J 0 10 = nI n) (hn : n ≤ 96) (hk : k ≤ 96) : f_X10_isFigure (J, YZ) 0 (nI k) = some (bI (decide (k < n) && isDg (J 8 k)), (J, YZ)) := by
  rw [f_X10_isFigure]
  simp only [gt_self, gd_t, lp_some, st_d, nm_d, on_none, on_some, cl_some, mI_mk, mX_mk, setI_mk, u2_row, rowS_s, rowU_s, yT0, yP0, yT1, yL1, yP1, yT2, yL2, yP2, yT3, yL3, yP5, yT4, yL4, yP6, yT5, yL5, yP7, yT6, yL6, yP8, yT7, yL7, yP9, yT8, yL8, yP17, yT9, yL9, yP18, yT10, yL10, yP19, yT11, yL11, yP22, yT12, yL12, yP24, yT13, yL13, yP25, yT14, yL14, yP26, yT15, yL15, yP27, yT16, yL16, yP28, yT17, yL17, yP29, yT18, yL18, yP30, yT19, yL19, yP31, yT20, yL20, yP32, yT21, yL21, yP33, yT22, yL22, yP34, yT23, yL23, yP35, yT24, yL24]
  rw [h1]
  by_cases e : n ≤ k
  · rw [if_pos (nI_le e (by omega)), decide_eq_false (by omega)]; rfl
  · rw [if_neg (nI_ge (by omega) (by omega)), gd_ok (ib_nI (by omega) (by decide)), nI_clamp (by omega), gd_ok (ib_nI (by omega) (by decide)), ifDg, decide_eq_true (by omega)]
    cases isDg (J 8 k) <;> rfl
theorem R93 {n : Nat} (hn : n ≤ 96) (x1 : Int32) {B : Nat → Int32} : ∀ (d p fu : Nat) (J : Nat → Nat → Int32), p + d = n → d < fu → J 0 10 = nI n → J 8 = B → J 0 11 = nI p →
    ∃ J', f_X10_go_93 fu (J, YZ) 0 x1 = f_X10_go_127 (J', YZ) 0 0 (if x1 = 0 then 1 else 4) ∧ J' 0 11 = nI (runM isLt B d p) ∧ (∀ j, j ≠ 11 → J' 0 j = J 0 j) ∧ ∀ a, a ≠ 0 → J' a = J a := by
  intro d
  induction d with
  | zero =>
    intro p fu J hp hf h1 hB h11
    obtain ⟨fu, rfl⟩ : ∃ m, fu = m + 1 := ⟨fu - 1, by omega⟩
    rw [f_X10_go_93]
    simp only [gt_self, gd_t, lp_some, st_d, nm_d, on_none, on_some, cl_some, mI_mk, mX_mk, setI_mk, u2_row, rowS_s, rowU_s, yT0, yP0, yT1, yL1, yP1, yT2, yL2, yP2, yT3, yL3, yP5, yT4, yL4, yP6, yT5, yL5, yP7, yT6, yL6, yP8, yT7, yL7, yP9, yT8, yL8, yP17, yT9, yL9, yP18, yT10, yL10, yP19, yT11, yL11, yP22, yT12, yL12, yP24, yT13, yL13, yP25, yT14, yL14, yP26, yT15, yL15, yP27, yT16, yL16, yP28, yT17, yL17, yP29, yT18, yL18, yP30, yT19, yL19, yP31, yT20, yL20, yP32, yT21, yL21, yP33, yT22, yL22, yP34, yT23, yL23, yP35, yT24, yL24]
    rw [h11, RisLt h1 hn (by omega), decide_eq_false (show ¬ p < n by omega)]
    simp only [cl_some, Bool.false_and]
    rw [if_pos (show bI false = 0 from rfl)]
    refine ⟨J, ?_, h11, fun _ _ => rfl, fun _ _ => rfl⟩
    by_cases e : x1 = 0
    · rw [if_pos e, if_pos e]
    · rw [if_neg e, if_neg e]
  | succ d ih =>
    intro p fu J hp hf h1 hB h11
    obtain ⟨fu, rfl⟩ : ∃ m, fu = m + 1 := ⟨fu - 1, by omega⟩
    rw [f_X10_go_93]
    simp only [gt_self, gd_t, lp_some, st_d, nm_d, on_none, on_some, cl_some, mI_mk, mX_mk, setI_mk, u2_row, rowS_s, rowU_s, yT0, yP0, yT1, yL1, yP1, yT2, yL2, yP2, yT3, yL3, yP5, yT4, yL4, yP6, yT5, yL5, yP7, yT6, yL6, yP8, yT7, yL7, yP9, yT8, yL8, yP17, yT9, yL9, yP18, yT10, yL10, yP19, yT11, yL11, yP22, yT12, yL12, yP24, yT13, yL13, yP25, yT14, yL14, yP26, yT15, yL15, yP27, yT16, yL16, yP28, yT17, yL17, yP29, yT18, yL18, yP30, yT19, yL19, yP31, yT20, yL20, yP32, yT21, yL21, yP33, yT22, yL22, yP34, yT23, yL23, yP35, yT24, yL24]
    rw [h11, RisLt h1 hn (by omega), decide_eq_true (show p < n by omega), hB]
    simp only [cl_some, Bool.true_and, ifB]
    unfold runM
    by_cases e : isLt (B p) = true
    · rw [if_pos e, if_pos e]
      simp only [gt_self, gd_t, lp_some, st_d, nm_d, on_none, on_some, cl_some, mI_mk, mX_mk, setI_mk, u2_row, rowS_s, rowU_s, yT0, yP0, yT1, yL1, yP1, yT2, yL2, yP2, yT3, yL3, yP5, yT4, yL4, yP6, yT5, yL5, yP7, yT6, yL6, yP8, yT7, yL7, yP9, yT8, yL8, yP17, yT9, yL9, yP18, yT10, yL10, yP19, yT11, yL11, yP22, yT12, yL12, yP24, yT13, yL13, yP25, yT14, yL14, yP26, yT15, yL15, yP27, yT16, yL16, yP28, yT17, yL17, yP29, yT18, yL18, yP30, yT19, yL19, yP31, yT20, yL20, yP32, yT21, yL21, yP33, yT22, yL22, yP34, yT23, yL23, yP35, yT24, yL24]
      rw [h11, nI_1]
      obtain ⟨J', e1, z1, z2, z3⟩ := ih (p + 1) fu (rowS J 0 (rowU (J 0) 11 (nI (p + 1)))) (by omega) (by omega) (by rw [rowS_s, rowU_n (by decide)]; exact h1) (by rw [rowS_n (by decide)]; exact hB) (by rw [rowS_s, rowU_s])
      exact ⟨J', e1, z1, fun j hj => by rw [z2 j hj, rowS_s, rowU_n hj], fun a ha => by rw [z3 a ha, rowS_n ha]⟩
    · rw [if_neg e, if_neg e]
      refine ⟨J, ?_, h11, fun _ _ => rfl, fun _ _ => rfl⟩
      by_cases e : x1 = 0
      · rw [if_pos e, if_pos e]
      · rw [if_neg e, if_neg e]
theorem R127 {J : Nat → Nat → Int32} {a : Nat} (ha : a < 96) (h12 : J 0 12 = nI a) (t : Int32) : f_X10_go_127 (J, YZ) 0 0 t = some ((), (rowS J 0 (rowU (rowU (rowU (J 0) 13 t) 14 (J 8 a)) 15 (J 0 11)), YZ)) := by
  rw [f_X10_go_127]
  simp only [gt_self, gd_t, lp_some, st_d, nm_d, on_none, on_some, cl_some, mI_mk, mX_mk, setI_mk, u2_row, rowS_s, rowU_s, yT0, yP0, yT1, yL1, yP1, yT2, yL2, yP2, yT3, yL3, yP5, yT4, yL4, yP6, yT5, yL5, yP7, yT6, yL6, yP8, yT7, yL7, yP9, yT8, yL8, yP17, yT9, yL9, yP18, yT10, yL10, yP19, yT11, yL11, yP22, yT12, yL12, yP24, yT13, yL13, yP25, yT14, yL14, yP26, yT15, yL15, yP27, yT16, yL16, yP28, yT17, yL17, yP29, yT18, yL18, yP30, yT19, yL19, yP31, yT20, yL20, yP32, yT21, yL21, yP33, yT22, yL22, yP34, yT23, yL23, yP35, yT24, yL24, rowS_rowS, rowS_n (show (8 : Nat) ≠ 0 by decide), rowU_n (show (12 : Nat) ≠ 13 by decide), rowU_n (show (11 : Nat) ≠ 13 by decide), rowU_n (show (11 : Nat) ≠ 14 by decide)]
  rw [h12, gd_ok (ib_nI ha (by decide)), nI_clamp (by omega)]
theorem R170 {n a : Nat} (hn : n ≤ 96) (x1 : Int32) {B : Nat → Int32} : ∀ (d p fu : Nat) (J : Nat → Nat → Int32), p + d = n → d < fu → a ≤ p → J 0 10 = nI n → J 8 = B → J 0 12 = nI a → J 0 11 = nI p → J 0 14 = numM B a (min (p - a) 4) →
    ∃ J', f_X10_go_170 fu (J, YZ) 0 x1 = some ((), (J', YZ)) ∧ J' 0 11 = nI (runM isDg B d p) ∧ J' 0 15 = nI (runM isDg B d p) ∧ J' 0 13 = (if x1 = 0 then (if runM isDg B d p - a ≤ 4 then 2 else 4) else 4) ∧ J' 0 14 = numM B a (min (runM isDg B d p - a) 4) ∧ (∀ j, j ≠ 11 → j ≠ 13 → j ≠ 14 → j ≠ 15 → J' 0 j = J 0 j) ∧ ∀ a, a ≠ 0 → J' a = J a := by
  have fin : ∀ (J : Nat → Nat → Int32) (p : Nat) (t : Int32), J 0 11 = nI p → ∃ J', f_X10_go_261 (J, YZ) 0 0 t = some ((), (J', YZ)) ∧ J' 0 11 = nI p ∧ J' 0 15 = nI p ∧ J' 0 13 = t ∧ J' 0 14 = J 0 14 ∧ (∀ j, j ≠ 11 → j ≠ 13 → j ≠ 14 → j ≠ 15 → J' 0 j = J 0 j) ∧ ∀ a, a ≠ 0 → J' a = J a := by
    intro J p t h11
    rw [f_X10_go_261]
    simp only [gt_self, gd_t, lp_some, st_d, nm_d, on_none, on_some, cl_some, mI_mk, mX_mk, setI_mk, u2_row, rowS_s, rowU_s, yT0, yP0, yT1, yL1, yP1, yT2, yL2, yP2, yT3, yL3, yP5, yT4, yL4, yP6, yT5, yL5, yP7, yT6, yL6, yP8, yT7, yL7, yP9, yT8, yL8, yP17, yT9, yL9, yP18, yT10, yL10, yP19, yT11, yL11, yP22, yT12, yL12, yP24, yT13, yL13, yP25, yT14, yL14, yP26, yT15, yL15, yP27, yT16, yL16, yP28, yT17, yL17, yP29, yT18, yL18, yP30, yT19, yL19, yP31, yT20, yL20, yP32, yT21, yL21, yP33, yT22, yL22, yP34, yT23, yL23, yP35, yT24, yL24, rowS_rowS, rowU_n (show (11 : Nat) ≠ 13 by decide)]
    exact ⟨_, rfl, by rw [rowS_s, rowU_n (by decide), rowU_n (by decide)]; exact h11, by rw [rowS_s, rowU_s]; exact h11, by rw [rowS_s, rowU_n (by decide), rowU_s], by rw [rowS_s, rowU_n (by decide), rowU_n (by decide)], fun j j1 j2 j3 j4 => by rw [rowS_s, rowU_n j4, rowU_n j2], fun a ha => rowS_n ha⟩
  have stop : ∀ (J : Nat → Nat → Int32) (p : Nat), a ≤ p → p ≤ 96 → J 0 12 = nI a → J 0 11 = nI p → J 0 14 = numM B a (min (p - a) 4) → ∃ J', (if x1 = 0 then (if nI p - nI a ≤ 4 then f_X10_go_261 (J, YZ) 0 0 2 else f_X10_go_261 (J, YZ) 0 0 4) else f_X10_go_261 (J, YZ) 0 0 4) = some ((), (J', YZ)) ∧ J' 0 11 = nI p ∧ J' 0 15 = nI p ∧ J' 0 13 = (if x1 = 0 then (if p - a ≤ 4 then 2 else 4) else 4) ∧ J' 0 14 = numM B a (min (p - a) 4) ∧ (∀ j, j ≠ 11 → j ≠ 13 → j ≠ 14 → j ≠ 15 → J' 0 j = J 0 j) ∧ ∀ a, a ≠ 0 → J' a = J a := by
    intro J p hap hp96 h12 h11 h14
    rw [pk_sub hap, ← h14]
    by_cases e : x1 = 0
    · rw [if_pos e, if_pos e]
      by_cases e2 : p - a ≤ 4
      · rw [if_pos (show nI (p - a) ≤ (4 : Int32) from nI_le (b := 4) e2 (by decide)), if_pos e2]
        exact fin J p 2 h11
      · rw [if_neg (show ¬ nI (p - a) ≤ (4 : Int32) from nI_ge (a := 4) (by omega) (by omega)), if_neg e2]
        exact fin J p 4 h11
    · rw [if_neg e, if_neg e]
      exact fin J p 4 h11
  intro d
  induction d with
  | zero =>
    intro p fu J hp hf hap h1 hB h12 h11 h14
    obtain ⟨fu, rfl⟩ : ∃ m, fu = m + 1 := ⟨fu - 1, by omega⟩
    rw [f_X10_go_170]
    simp only [gt_self, gd_t, lp_some, st_d, nm_d, on_none, on_some, cl_some, mI_mk, mX_mk, setI_mk, u2_row, rowS_s, rowU_s, yT0, yP0, yT1, yL1, yP1, yT2, yL2, yP2, yT3, yL3, yP5, yT4, yL4, yP6, yT5, yL5, yP7, yT6, yL6, yP8, yT7, yL7, yP9, yT8, yL8, yP17, yT9, yL9, yP18, yT10, yL10, yP19, yT11, yL11, yP22, yT12, yL12, yP24, yT13, yL13, yP25, yT14, yL14, yP26, yT15, yL15, yP27, yT16, yL16, yP28, yT17, yL17, yP29, yT18, yL18, yP30, yT19, yL19, yP31, yT20, yL20, yP32, yT21, yL21, yP33, yT22, yL22, yP34, yT23, yL23, yP35, yT24, yL24]
    rw [h11, RisDg h1 hn (by omega), decide_eq_false (show ¬ p < n by omega)]
    simp only [gt_self, gd_t, lp_some, st_d, nm_d, on_none, on_some, cl_some, mI_mk, mX_mk, setI_mk, u2_row, rowS_s, rowU_s, yT0, yP0, yT1, yL1, yP1, yT2, yL2, yP2, yT3, yL3, yP5, yT4, yL4, yP6, yT5, yL5, yP7, yT6, yL6, yP8, yT7, yL7, yP9, yT8, yL8, yP17, yT9, yL9, yP18, yT10, yL10, yP19, yT11, yL11, yP22, yT12, yL12, yP24, yT13, yL13, yP25, yT14, yL14, yP26, yT15, yL15, yP27, yT16, yL16, yP28, yT17, yL17, yP29, yT18, yL18, yP30, yT19, yL19, yP31, yT20, yL20, yP32, yT21, yL21, yP33, yT22, yL22, yP34, yT23, yL23, yP35, yT24, yL24, Bool.false_and]
    rw [if_pos (show bI false = 0 from rfl), h11, h12]
    exact stop J p hap (by omega) h12 h11 h14
  | succ d ih =>
    intro p fu J hp hf hap h1 hB h12 h11 h14
    obtain ⟨fu, rfl⟩ : ∃ m, fu = m + 1 := ⟨fu - 1, by omega⟩
    rw [f_X10_go_170]
    simp only [gt_self, gd_t, lp_some, st_d, nm_d, on_none, on_some, cl_some, mI_mk, mX_mk, setI_mk, u2_row, rowS_s, rowU_s, yT0, yP0, yT1, yL1, yP1, yT2, yL2, yP2, yT3, yL3, yP5, yT4, yL4, yP6, yT5, yL5, yP7, yT6, yL6, yP8, yT7, yL7, yP9, yT8, yL8, yP17, yT9, yL9, yP18, yT10, yL10, yP19, yT11, yL11, yP22, yT12, yL12, yP24, yT13, yL13, yP25, yT14, yL14, yP26, yT15, yL15, yP27, yT16, yL16, yP28, yT17, yL17, yP29, yT18, yL18, yP30, yT19, yL19, yP31, yT20, yL20, yP32, yT21, yL21, yP33, yT22, yL22, yP34, yT23, yL23, yP35, yT24, yL24]
    rw [h11, RisDg h1 hn (by omega), decide_eq_true (show p < n by omega), hB]
    simp only [cl_some, Bool.true_and, ifB]
    unfold runM
    by_cases e : isDg (B p) = true
    · rw [if_pos e]
      have go := fun v (hv : v = numM B a (min (p + 1 - a) 4)) => ih (p + 1) fu (rowS J 0 (rowU (rowU (J 0) 14 v) 11 (nI (p + 1)))) (by omega) (by omega) (by omega) (by rw [rowS_s, rowU_n (by decide), rowU_n (by decide)]; exact h1) (by rw [rowS_n (by decide)]; exact hB) (by rw [rowS_s, rowU_n (by decide), rowU_n (by decide)]; exact h12) (by rw [rowS_s, rowU_s]) (by rw [rowS_s, rowU_n (by decide), rowU_s]; exact hv)
      have go2 : ∀ v, v = numM B a (min (p + 1 - a) 4) → ∃ J', f_X10_go_222 (f_X10_go_170 fu) (J, YZ) 0 x1 0 v = some ((), (J', YZ)) ∧ J' 0 11 = nI (runM isDg B d (p + 1)) ∧ J' 0 15 = nI (runM isDg B d (p + 1)) ∧ J' 0 13 = (if x1 = 0 then (if runM isDg B d (p + 1) - a ≤ 4 then 2 else 4) else 4) ∧ J' 0 14 = numM B a (min (runM isDg B d (p + 1) - a) 4) ∧ (∀ j, j ≠ 11 → j ≠ 13 → j ≠ 14 → j ≠ 15 → J' 0 j = J 0 j) ∧ ∀ a, a ≠ 0 → J' a = J a := by
        intro v hv
        rw [f_X10_go_222]
        simp only [gt_self, gd_t, lp_some, st_d, nm_d, on_none, on_some, cl_some, mI_mk, mX_mk, setI_mk, u2_row, rowS_s, rowU_s, yT0, yP0, yT1, yL1, yP1, yT2, yL2, yP2, yT3, yL3, yP5, yT4, yL4, yP6, yT5, yL5, yP7, yT6, yL6, yP8, yT7, yL7, yP9, yT8, yL8, yP17, yT9, yL9, yP18, yT10, yL10, yP19, yT11, yL11, yP22, yT12, yL12, yP24, yT13, yL13, yP25, yT14, yL14, yP26, yT15, yL15, yP27, yT16, yL16, yP28, yT17, yL17, yP29, yT18, yL18, yP30, yT19, yL19, yP31, yT20, yL20, yP32, yT21, yL21, yP33, yT22, yL22, yP34, yT23, yL23, yP35, yT24, yL24, rowS_rowS, rowU_n (show (11 : Nat) ≠ 14 by decide)]
        rw [h11, nI_1]
        obtain ⟨J', e1, z1, z2, z3, z4, z5, z6⟩ := go v hv
        exact ⟨J', e1, z1, z2, z3, z4, fun j j1 j2 j3 j4 => by rw [z5 j j1 j2 j3 j4, rowS_s, rowU_n j1, rowU_n j3], fun a ha => by rw [z6 a ha, rowS_n ha]⟩
      rw [if_pos e]
      simp only [gt_self, gd_t, lp_some, st_d, nm_d, on_none, on_some, cl_some, mI_mk, mX_mk, setI_mk, u2_row, rowS_s, rowU_s, yT0, yP0, yT1, yL1, yP1, yT2, yL2, yP2, yT3, yL3, yP5, yT4, yL4, yP6, yT5, yL5, yP7, yT6, yL6, yP8, yT7, yL7, yP9, yT8, yL8, yP17, yT9, yL9, yP18, yT10, yL10, yP19, yT11, yL11, yP22, yT12, yL12, yP24, yT13, yL13, yP25, yT14, yL14, yP26, yT15, yL15, yP27, yT16, yL16, yP28, yT17, yL17, yP29, yT18, yL18, yP30, yT19, yL19, yP31, yT20, yL20, yP32, yT21, yL21, yP33, yT22, yL22, yP34, yT23, yL23, yP35, yT24, yL24]
      rw [h11, h12, pk_sub hap]
      by_cases e2 : 4 ≤ p - a
      · rw [if_pos (show (4 : Int32) ≤ nI (p - a) from nI_le (a := 4) e2 (by omega)), h14]
        exact go2 _ (by rw [show min (p - a) 4 = 4 by omega, show min (p + 1 - a) 4 = 4 by omega])
      · rw [if_neg (show ¬ (4 : Int32) ≤ nI (p - a) from nI_ge (b := 4) (by omega) (by decide)), gd_ok (ib_nI (by omega) (by decide)), nI_clamp (by omega), h14, hB]
        refine go2 _ ?_
        rw [show min (p - a) 4 = p - a by omega, show min (p + 1 - a) 4 = (p - a) + 1 by omega]
        show _ = 10 * numM B a (p - a) + B (a + (p - a)) - 48
        rw [show a + (p - a) = p by omega]
    · rw [if_neg e, if_neg e]
      simp only [gt_self, gd_t, lp_some, st_d, nm_d, on_none, on_some, cl_some, mI_mk, mX_mk, setI_mk, u2_row, rowS_s, rowU_s, yT0, yP0, yT1, yL1, yP1, yT2, yL2, yP2, yT3, yL3, yP5, yT4, yL4, yP6, yT5, yL5, yP7, yT6, yL6, yP8, yT7, yL7, yP9, yT8, yL8, yP17, yT9, yL9, yP18, yT10, yL10, yP19, yT11, yL11, yP22, yT12, yL12, yP24, yT13, yL13, yP25, yT14, yL14, yP26, yT15, yL15, yP27, yT16, yL16, yP28, yT17, yL17, yP29, yT18, yL18, yP30, yT19, yL19, yP31, yT20, yL20, yP32, yT21, yL21, yP33, yT22, yL22, yP34, yT23, yL23, yP35, yT24, yL24]
      rw [h11, h12]
      exact stop J p hap (by omega) h12 h11 h14
theorem R62 {J : Nat → Nat → Int32} {B : Nat → Int32} {n a : Nat} {e0 : Int32} (hn : n ≤ 96) (ha : a ≤ n) (h1 : J 0 10 = nI n) (hB : J 8 = B) (h12 : J 0 12 = nI a) (h11 : J 0 11 = nI a) (h15 : J 0 15 = e0) : ∃ J', f_X10_go_62 (J, YZ) 0 (if nI a = e0 then 1 else 0) = some ((), (J', YZ)) ∧ Tkn B n e0 a J J' := by
  have z0 : ∀ {x : Nat}, ((if nI a = e0 then (1 : Int32) else 0) = 0) = ¬ (nI a = e0) := by
    intro x
    by_cases e : nI a = e0
    · rw [if_pos e]; simp [e]
    · rw [if_neg e]; simp [e]
  rw [f_X10_go_62]
  simp only [gt_self, gd_t, lp_some, st_d, nm_d, on_none, on_some, cl_some, mI_mk, mX_mk, setI_mk, u2_row, rowS_s, rowU_s, yT0, yP0, yT1, yL1, yP1, yT2, yL2, yP2, yT3, yL3, yP5, yT4, yL4, yP6, yT5, yL5, yP7, yT6, yL6, yP8, yT7, yL7, yP9, yT8, yL8, yP17, yT9, yL9, yP18, yT10, yL10, yP19, yT11, yL11, yP22, yT12, yL12, yP24, yT13, yL13, yP25, yT14, yL14, yP26, yT15, yL15, yP27, yT16, yL16, yP28, yT17, yL17, yP29, yT18, yL18, yP30, yT19, yL19, yP31, yT20, yL20, yP32, yT21, yL21, yP33, yT22, yL22, yP34, yT23, yL23, yP35, yT24, yL24]
  rw [h12, h1]
  by_cases e : a = n
  · rw [if_pos (by rw [e])]
    refine ⟨_, rfl, ?_, ?_, ?_, ?_, ?_, fun j hj => ?_, fun x hx => rowS_n hx⟩
    · rw [rowS_s, rowU_n (by decide)]; exact h12
    · rw [rowS_s, rowU_s]; unfold tokT; rw [if_pos (by omega)]; rfl
    · rw [rowS_s, rowU_n (by decide), h11]; unfold nxtM; rw [if_pos (by omega), e]
    · rw [rowS_s, rowU_n (by decide), h15]; unfold tokE; rw [if_pos (by omega)]
    · intro q; unfold tokT at q; rw [if_pos (by omega)] at q; omega
    · rw [rowS_s, rowU_n (by omega)]
  rw [if_neg (fun q => e ((nI_eq (by omega) (by omega)).mp q)), RisLt h1 hn (by omega), decide_eq_true (show a < n by omega), hB]
  simp only [cl_some, Bool.true_and, ifB]
  have ha2 : ¬ n ≤ a := by omega
  by_cases e1 : isLt (B a) = true
  · rw [if_pos e1, show FU = 3999 + 1 from rfl, f_X10_go_93]
    simp only [gt_self, gd_t, lp_some, st_d, nm_d, on_none, on_some, cl_some, mI_mk, mX_mk, setI_mk, u2_row, rowS_s, rowU_s, yT0, yP0, yT1, yL1, yP1, yT2, yL2, yP2, yT3, yL3, yP5, yT4, yL4, yP6, yT5, yL5, yP7, yT6, yL6, yP8, yT7, yL7, yP9, yT8, yL8, yP17, yT9, yL9, yP18, yT10, yL10, yP19, yT11, yL11, yP22, yT12, yL12, yP24, yT13, yL13, yP25, yT14, yL14, yP26, yT15, yL15, yP27, yT16, yL16, yP28, yT17, yL17, yP29, yT18, yL18, yP30, yT19, yL19, yP31, yT20, yL20, yP32, yT21, yL21, yP33, yT22, yL22, yP34, yT23, yL23, yP35, yT24, yL24]
    rw [h11, RisLt h1 hn (by omega), decide_eq_true (show a < n by omega), hB]
    simp only [cl_some, Bool.true_and, ifB]
    rw [if_pos e1]
    simp only [gt_self, gd_t, lp_some, st_d, nm_d, on_none, on_some, cl_some, mI_mk, mX_mk, setI_mk, u2_row, rowS_s, rowU_s, yT0, yP0, yT1, yL1, yP1, yT2, yL2, yP2, yT3, yL3, yP5, yT4, yL4, yP6, yT5, yL5, yP7, yT6, yL6, yP8, yT7, yL7, yP9, yT8, yL8, yP17, yT9, yL9, yP18, yT10, yL10, yP19, yT11, yL11, yP22, yT12, yL12, yP24, yT13, yL13, yP25, yT14, yL14, yP26, yT15, yL15, yP27, yT16, yL16, yP28, yT17, yL17, yP29, yT18, yL18, yP30, yT19, yL19, yP31, yT20, yL20, yP32, yT21, yL21, yP33, yT22, yL22, yP34, yT23, yL23, yP35, yT24, yL24]
    rw [h11, nI_1]
    obtain ⟨J1, q1, q2, q3, q4⟩ := R93 hn (if nI a = e0 then 1 else 0) (B := B) (n - (a + 1)) (a + 1) 3999 (rowS J 0 (rowU (J 0) 11 (nI (a + 1)))) (by omega) (by omega) (by rw [rowS_s, rowU_n (by decide)]; exact h1) (by rw [rowS_n (by decide)]; exact hB) (by rw [rowS_s, rowU_s])
    have j12 : J1 0 12 = nI a := by rw [q3 12 (by decide), rowS_s, rowU_n (by decide)]; exact h12
    have hend : endM B n a = runM isLt B (n - (a + 1)) (a + 1) := by unfold endM; rw [if_pos e1]
    rw [q1, R127 (by omega) j12]
    refine ⟨_, rfl, ?_, ?_, ?_, ?_, fun _ => ?_, fun j hj => ?_, fun x hx => ?_⟩
    · rw [rowS_s, rowU_n (by decide), rowU_n (by decide), rowU_n (by decide)]; exact j12
    · rw [rowS_s, rowU_n (by decide), rowU_n (by decide), rowU_s]
      unfold tokT
      rw [if_neg ha2, if_pos e1]
      by_cases q : nI a = e0
      · rw [if_pos q, if_pos q, if_neg one_ne]; rfl
      · rw [if_neg q, if_neg q, if_pos rfl]; rfl
    · rw [rowS_s, rowU_n (by decide), rowU_n (by decide), rowU_n (by decide), q2]
      unfold nxtM
      rw [if_neg ha2, hend]
    · rw [rowS_s, rowU_s, q2]
      unfold tokE
      rw [if_neg ha2, if_pos e1, hend]
    · rw [rowS_s, rowU_n (by decide), rowU_s, q4 8 (by decide), rowS_n (by decide), hB]
      unfold tokV
      rw [if_neg (fun q => by rw [dg_lt q] at e1; exact nomatch e1)]
    · rw [rowS_s, rowU_n (by omega), rowU_n (by omega), rowU_n (by omega), q3 j (by omega), rowS_s, rowU_n (by omega)]
    · rw [rowS_n hx, q4 x hx, rowS_n hx]
  rw [if_neg e1]
  simp only [gt_self, gd_t, lp_some, st_d, nm_d, on_none, on_some, cl_some, mI_mk, mX_mk, setI_mk, u2_row, rowS_s, rowU_s, yT0, yP0, yT1, yL1, yP1, yT2, yL2, yP2, yT3, yL3, yP5, yT4, yL4, yP6, yT5, yL5, yP7, yT6, yL6, yP8, yT7, yL7, yP9, yT8, yL8, yP17, yT9, yL9, yP18, yT10, yL10, yP19, yT11, yL11, yP22, yT12, yL12, yP24, yT13, yL13, yP25, yT14, yL14, yP26, yT15, yL15, yP27, yT16, yL16, yP28, yT17, yL17, yP29, yT18, yL18, yP30, yT19, yL19, yP31, yT20, yL20, yP32, yT21, yL21, yP33, yT22, yL22, yP34, yT23, yL23, yP35, yT24, yL24]
  rw [h12, RisDg h1 hn (by omega), decide_eq_true (show a < n by omega), hB]
  simp only [cl_some, Bool.true_and, ifB]
  by_cases e2 : isDg (B a) = true
  · rw [if_pos e2]
    simp only [gt_self, gd_t, lp_some, st_d, nm_d, on_none, on_some, cl_some, mI_mk, mX_mk, setI_mk, u2_row, rowS_s, rowU_s, yT0, yP0, yT1, yL1, yP1, yT2, yL2, yP2, yT3, yL3, yP5, yT4, yL4, yP6, yT5, yL5, yP7, yT6, yL6, yP8, yT7, yL7, yP9, yT8, yL8, yP17, yT9, yL9, yP18, yT10, yL10, yP19, yT11, yL11, yP22, yT12, yL12, yP24, yT13, yL13, yP25, yT14, yL14, yP26, yT15, yL15, yP27, yT16, yL16, yP28, yT17, yL17, yP29, yT18, yL18, yP30, yT19, yL19, yP31, yT20, yL20, yP32, yT21, yL21, yP33, yT22, yL22, yP34, yT23, yL23, yP35, yT24, yL24]
    have hend : endM B n a = runM isDg B (n - a) a := by
      unfold endM
      rw [if_neg e1, if_pos e2, show n - a = (n - (a + 1)) + 1 by omega]
      show _ = if isDg (B a) = true then _ else _
      rw [if_pos e2]
    obtain ⟨J', q1, q2, q3, q4, q5, q6, q7⟩ := R170 (a := a) hn (if nI a = e0 then 1 else 0) (B := B) (n - a) a FU (rowS J 0 (rowU (J 0) 14 0)) (by omega) (FU_ge (by omega)) (Nat.le_refl _) (by rw [rowS_s, rowU_n (by decide)]; exact h1) (by rw [rowS_n (by decide)]; exact hB) (by rw [rowS_s, rowU_n (by decide)]; exact h12) (by rw [rowS_s, rowU_n (by decide)]; exact h11) (by rw [rowS_s, rowU_s, Nat.sub_self]; rfl)
    rw [← hend] at q2 q3 q4 q5
    refine ⟨J', q1, ?_, ?_, ?_, ?_, fun q => ?_, fun j hj => ?_, fun x hx => ?_⟩
    · rw [q6 12 (by decide) (by decide) (by decide) (by decide), rowS_s, rowU_n (by decide)]; exact h12
    · rw [q4]
      unfold tokT
      rw [if_neg ha2, if_neg e1, if_pos e2]
      by_cases q : nI a = e0
      · rw [if_pos q, if_pos q, if_neg one_ne]; rfl
      · rw [if_neg q, if_neg q, if_pos rfl]
        by_cases q2 : 4 < endM B n a - a
        · rw [if_pos q2, if_neg (by omega)]; rfl
        · rw [if_neg q2, if_pos (by omega)]; rfl
    · rw [q2]; unfold nxtM; rw [if_neg ha2]
    · rw [q3]; unfold tokE; rw [if_neg ha2, if_neg e1, if_pos e2]
    · rw [q5]
      unfold tokV
      rw [if_pos e2]
      have q : tokT B n e0 a = 2 := by
        rcases q with q | q | q
        · unfold tokT at q
          rw [if_neg ha2, if_neg e1, if_pos e2] at q
          by_cases z : nI a = e0
          · rw [if_pos z] at q; exact absurd q (by decide)
          · rw [if_neg z] at q
            by_cases z : 4 < endM B n a - a
            · rw [if_pos z] at q; exact absurd q (by decide)
            · rw [if_neg z] at q; exact absurd q (by decide)
        · exact q
        · unfold tokT at q
          rw [if_neg ha2, if_neg e1, if_pos e2] at q
          by_cases z : nI a = e0
          · rw [if_pos z] at q; exact absurd q (by decide)
          · rw [if_neg z] at q
            by_cases z : 4 < endM B n a - a
            · rw [if_pos z] at q; exact absurd q (by decide)
            · rw [if_neg z] at q; exact absurd q (by decide)
      rw [show min (endM B n a - a) 4 = endM B n a - a by have := (tok2 q).2.2.2.1; omega]
    · rw [q6 j (by omega) (by omega) (by omega) (by omega), rowS_s, rowU_n (by omega)]
    · rw [q7 x hx, rowS_n hx]
  · rw [if_neg e2]
    simp only [gt_self, gd_t, lp_some, st_d, nm_d, on_none, on_some, cl_some, mI_mk, mX_mk, setI_mk, u2_row, rowS_s, rowU_s, yT0, yP0, yT1, yL1, yP1, yT2, yL2, yP2, yT3, yL3, yP5, yT4, yL4, yP6, yT5, yL5, yP7, yT6, yL6, yP8, yT7, yL7, yP9, yT8, yL8, yP17, yT9, yL9, yP18, yT10, yL10, yP19, yT11, yL11, yP22, yT12, yL12, yP24, yT13, yL13, yP25, yT14, yL14, yP26, yT15, yL15, yP27, yT16, yL16, yP28, yT17, yL17, yP29, yT18, yL18, yP30, yT19, yL19, yP31, yT20, yL20, yP32, yT21, yL21, yP33, yT22, yL22, yP34, yT23, yL23, yP35, yT24, yL24, rowS_rowS, rowS_n (show (8 : Nat) ≠ 0 by decide), rowU_n (show (12 : Nat) ≠ 13 by decide), rowU_n (show (11 : Nat) ≠ 13 by decide), rowU_n (show (11 : Nat) ≠ 14 by decide)]
    rw [h12, gd_ok (ib_nI (by omega) (by decide)), nI_clamp (by omega), h11, nI_1]
    have hend : endM B n a = a + 1 := by unfold endM; rw [if_neg e1, if_neg e2]
    refine ⟨_, rfl, ?_, ?_, ?_, ?_, fun _ => ?_, fun j hj => ?_, fun x hx => ?_⟩
    · rw [rowS_s, rowU_n (by decide), rowU_n (by decide), rowU_n (by decide)]; exact h12
    · rw [rowS_s, rowU_n (by decide), rowU_n (by decide), rowU_s]; unfold tokT; rw [if_neg ha2, if_neg e1, if_neg e2]; rfl
    · rw [rowS_s, rowU_s]; unfold nxtM; rw [if_neg ha2, hend]
    · rw [rowS_s, rowU_n (by decide), rowU_n (by decide), rowU_n (by decide), h15]; unfold tokE; rw [if_neg ha2, if_neg e1, if_neg e2]
    · rw [rowS_s, rowU_n (by decide), rowU_s, hB]; unfold tokV; rw [if_neg e2]
    · rw [rowS_s, rowU_n (by omega), rowU_n (by omega), rowU_n (by omega)]
    · rw [rowS_n hx]
theorem Rgo0 {n : Nat} (hn : n ≤ 96) {B : Nat → Int32} : ∀ (d p fu : Nat) (J : Nat → Nat → Int32), p + d = n → d < fu → J 0 10 = nI n → J 8 = B → J 0 11 = nI p →
    ∃ J', f_X10_go_0 fu (J, YZ) 0 = f_X10_go_38 (J', YZ) 0 ∧ J' 0 11 = nI (runM isSp B d p) ∧ (∀ j, j ≠ 11 → J' 0 j = J 0 j) ∧ ∀ a, a ≠ 0 → J' a = J a := by
  intro d
  induction d with
  | zero =>
    intro p fu J hp hf h1 hB h11
    obtain ⟨fu, rfl⟩ : ∃ m, fu = m + 1 := ⟨fu - 1, by omega⟩
    rw [f_X10_go_0]
    simp only [gt_self, gd_t, lp_some, st_d, nm_d, on_none, on_some, cl_some, mI_mk, mX_mk, setI_mk, u2_row, rowS_s, rowU_s, yT0, yP0, yT1, yL1, yP1, yT2, yL2, yP2, yT3, yL3, yP5, yT4, yL4, yP6, yT5, yL5, yP7, yT6, yL6, yP8, yT7, yL7, yP9, yT8, yL8, yP17, yT9, yL9, yP18, yT10, yL10, yP19, yT11, yL11, yP22, yT12, yL12, yP24, yT13, yL13, yP25, yT14, yL14, yP26, yT15, yL15, yP27, yT16, yL16, yP28, yT17, yL17, yP29, yT18, yL18, yP30, yT19, yL19, yP31, yT20, yL20, yP32, yT21, yL21, yP33, yT22, yL22, yP34, yT23, yL23, yP35, yT24, yL24]
    rw [h11, h1, if_pos (nI_le (show n ≤ p by omega) (by omega))]
    exact ⟨J, rfl, h11, fun _ _ => rfl, fun _ _ => rfl⟩
  | succ d ih =>
    intro p fu J hp hf h1 hB h11
    obtain ⟨fu, rfl⟩ : ∃ m, fu = m + 1 := ⟨fu - 1, by omega⟩
    rw [f_X10_go_0]
    simp only [gt_self, gd_t, lp_some, st_d, nm_d, on_none, on_some, cl_some, mI_mk, mX_mk, setI_mk, u2_row, rowS_s, rowU_s, yT0, yP0, yT1, yL1, yP1, yT2, yL2, yP2, yT3, yL3, yP5, yT4, yL4, yP6, yT5, yL5, yP7, yT6, yL6, yP8, yT7, yL7, yP9, yT8, yL8, yP17, yT9, yL9, yP18, yT10, yL10, yP19, yT11, yL11, yP22, yT12, yL12, yP24, yT13, yL13, yP25, yT14, yL14, yP26, yT15, yL15, yP27, yT16, yL16, yP28, yT17, yL17, yP29, yT18, yL18, yP30, yT19, yL19, yP31, yT20, yL20, yP32, yT21, yL21, yP33, yT22, yL22, yP34, yT23, yL23, yP35, yT24, yL24]
    rw [h11, h1, if_neg (nI_ge (show p < n by omega) (by omega)), gd_ok (ib_nI (by omega) (by decide)), nI_clamp (by omega), hB, nI_1]
    unfold runM
    by_cases e : B p = 32
    · rw [if_pos e, if_pos (show isSp (B p) = true from decide_eq_true e)]
      obtain ⟨J', e1, z1, z2, z3⟩ := ih (p + 1) fu (rowS J 0 (rowU (J 0) 11 (nI (p + 1)))) (by omega) (by omega) (by rw [rowS_s, rowU_n (by decide)]; exact h1) (by rw [rowS_n (by decide)]; exact hB) (by rw [rowS_s, rowU_s])
      exact ⟨J', e1, z1, fun j hj => by rw [z2 j hj, rowS_s, rowU_n hj], fun a ha => by rw [z3 a ha, rowS_n ha]⟩
    · rw [if_neg e, if_neg (show ¬ isSp (B p) = true by unfold isSp; rw [decide_eq_false e]; exact Bool.false_ne_true)]
      exact ⟨J, rfl, h11, fun _ _ => rfl, fun _ _ => rfl⟩
theorem Rgo {J : Nat → Nat → Int32} {B : Nat → Int32} {n p : Nat} (hn : n ≤ 96) (hp : p ≤ n) (h1 : J 0 10 = nI n) (hB : J 8 = B) (h11 : J 0 11 = nI p) : ∃ J', f_X10_go (J, YZ) 0 = some ((), (J', YZ)) ∧ Tkn B n (J 0 15) (skM B n p) J J' := by
  rw [f_X10_go]
  obtain ⟨J1, e1, z1, z2, z3⟩ := Rgo0 hn (B := B) (n - p) p FU J (by omega) (FU_ge (by omega)) h1 hB h11
  rw [e1, f_X10_go_38]
  simp only [gt_self, gd_t, lp_some, st_d, nm_d, on_none, on_some, cl_some, mI_mk, mX_mk, setI_mk, u2_row, rowS_s, rowU_s, yT0, yP0, yT1, yL1, yP1, yT2, yL2, yP2, yT3, yL3, yP5, yT4, yL4, yP6, yT5, yL5, yP7, yT6, yL6, yP8, yT7, yL7, yP9, yT8, yL8, yP17, yT9, yL9, yP18, yT10, yL10, yP19, yT11, yL11, yP22, yT12, yL12, yP24, yT13, yL13, yP25, yT14, yL14, yP26, yT15, yL15, yP27, yT16, yL16, yP28, yT17, yL17, yP29, yT18, yL18, yP30, yT19, yL19, yP31, yT20, yL20, yP32, yT21, yL21, yP33, yT22, yL22, yP34, yT23, yL23, yP35, yT24, yL24, rowU_n (show (15 : Nat) ≠ 12 by decide)]
  rw [z1, show runM isSp B (n - p) p = skM B n p from rfl, z2 15 (by decide)]
  have := (sk_le (B := B) hp).2
  obtain ⟨J2, e2, t1, t2, t3, t4, t5, t6, t7⟩ := R62 (J := rowS J1 0 (rowU (J1 0) 12 (nI (skM B n p)))) (B := B) (n := n) (a := skM B n p) (e0 := J 0 15) hn this (by rw [rowS_s, rowU_n (by decide), z2 10 (by decide)]; exact h1) (by rw [rowS_n (by decide), z3 8 (by decide)]; exact hB) (by rw [rowS_s, rowU_s]) (by rw [rowS_s, rowU_n (by decide), z1]; rfl) (by rw [rowS_s, rowU_n (by decide), z2 15 (by decide)])
  have fin : (if nI (skM B n p) = J 0 15 then f_X10_go_62 (rowS J1 0 (rowU (J1 0) 12 (nI (skM B n p))), YZ) 0 1 else f_X10_go_62 (rowS J1 0 (rowU (J1 0) 12 (nI (skM B n p))), YZ) 0 0) = f_X10_go_62 (rowS J1 0 (rowU (J1 0) 12 (nI (skM B n p))), YZ) 0 (if nI (skM B n p) = J 0 15 then 1 else 0) := by
    by_cases e : nI (skM B n p) = J 0 15
    · rw [if_pos e, if_pos e]
    · rw [if_neg e, if_neg e]
  rw [fin, e2]
  exact ⟨J2, rfl, t1, t2, t3, t4, t5, fun j hj => by rw [t6 j hj, rowS_s, rowU_n (by omega), z2 j (by omega)], fun x hx => by rw [t7 x hx, rowS_n hx, z3 x hx]⟩
end RTok
