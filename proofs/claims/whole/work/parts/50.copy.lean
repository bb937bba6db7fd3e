/-! copy -/
section Copy
variable {I : Nat → Nat → Int32} {X : Nat → Nat → Option Nat} {S : Sta} {J : Nat → Nat → Int32} {nc ns nt : Nat}
theorem cpyL2 {l b m : Nat} (hl : l < 4) (hb : b + m ≤ 24) : ∀ (d i fu : Nat) (K : Nat → Nat → Int32), i + d = m → d < fu → 
    ∃ K', f_X10_copy_141 fu (K, YZ) 0 (nI l) (nI b) (nI m) (nI i) = some (nI m, (K', YZ)) ∧ (∀ j, i ≤ j → j < m → K' 18 (24 * l + b + j) = K 23 j) ∧ (∀ x, (x < 24 * l + b + i ∨ 24 * l + b + m ≤ x) → K' 18 x = K 18 x) ∧ ∀ a, a ≠ 18 → K' a = K a := by
  intro d
  induction d with
  | zero =>
    intro i fu K hi hf
    obtain ⟨fu, rfl⟩ : ∃ m, fu = m + 1 := ⟨fu - 1, by omega⟩
    rw [f_X10_copy_141, if_pos (nI_le (show m ≤ i by omega) (by omega))]
    exact ⟨K, rfl, fun j h1 h2 => absurd h2 (by omega), fun _ _ => rfl, fun _ _ => rfl⟩
  | succ d ih =>
    intro i fu K hi hf
    obtain ⟨fu, rfl⟩ : ∃ m, fu = m + 1 := ⟨fu - 1, by omega⟩
    rw [f_X10_copy_141, if_neg (nI_ge (show i < m by omega) (by omega)), ix24, nI_add]
    simp only [gt_self, gd_t, lp_some, st_d, nm_d, on_none, on_some, cl_some, mI_mk, mX_mk, setI_mk, u2_row, rowS_s, rowU_s, yT0, yP0, yT1, yL1, yP1, yT2, yL2, yP2, yT3, yL3, yP5, yT4, yL4, yP6, yT5, yL5, yP7, yT6, yL6, yP8, yT7, yL7, yP9, yT8, yL8, yP17, yT9, yL9, yP18, yT10, yL10, yP19, yT11, yL11, yP22, yT12, yL12, yP24, yT13, yL13, yP25, yT14, yL14, yP26, yT15, yL15, yP27, yT16, yL16, yP28, yT17, yL17, yP29, yT18, yL18, yP30, yT19, yL19, yP31, yT20, yL20, yP32, yT21, yL21, yP33, yT22, yL22, yP34, yT23, yL23, yP35, yT24, yL24]
    rw [gd_ok (ib_nI (by omega) (by decide)), gd_ok (ib_nI (by omega) (by decide)), nI_clamp (by omega), nI_clamp (by omega), nI_1]
    obtain ⟨K', e, a, b', c⟩ := ih (i + 1) fu (rowS K 18 (rowU (K 18) (24 * l + b + i) (K 23 i))) (by omega) (by omega)
    refine ⟨K', e, fun j h1 h2 => ?_, fun x hx => ?_, fun x hx => by rw [c x hx, rowS_n hx]⟩
    · by_cases q : j = i
      · rw [q, b' _ (by omega), rowS_s, rowU_s]
      · rw [a j (by omega) h2, rowS_n (by decide)]
    · rw [b' x (by omega), rowS_s, rowU_n (by omega)]
theorem cpyL1 {k a l b m : Nat} (hk : k < 4) (ha : a + m ≤ 24) : ∀ (d i fu : Nat) (K : Nat → Nat → Int32), i + d = m → d < fu → (∀ j, j < i → K 23 j = K 18 (24 * k + a + j)) →
    ∃ K', f_X10_copy_104 fu (K, YZ) 0 (nI k) (nI a) (nI l) (nI b) (nI m) (nI i) = f_X10_copy_141 FU (K', YZ) 0 (nI l) (nI b) (nI m) 0 ∧ (∀ j, j < m → K' 23 j = K 18 (24 * k + a + j)) ∧ ∀ x, x ≠ 23 → K' x = K x := by
  intro d
  induction d with
  | zero =>
    intro i fu K hi hf h
    obtain ⟨fu, rfl⟩ : ∃ m, fu = m + 1 := ⟨fu - 1, by omega⟩
    have hi : i = m := by omega
    subst hi
    rw [f_X10_copy_104, if_pos (nI_le (Nat.le_refl i) (by omega))]
    exact ⟨K, rfl, h, fun _ _ => rfl⟩
  | succ d ih =>
    intro i fu K hi hf h
    obtain ⟨fu, rfl⟩ : ∃ m, fu = m + 1 := ⟨fu - 1, by omega⟩
    rw [f_X10_copy_104, if_neg (nI_ge (show i < m by omega) (by omega)), ix24, nI_add]
    simp only [gt_self, gd_t, lp_some, st_d, nm_d, on_none, on_some, cl_some, mI_mk, mX_mk, setI_mk, u2_row, rowS_s, rowU_s, yT0, yP0, yT1, yL1, yP1, yT2, yL2, yP2, yT3, yL3, yP5, yT4, yL4, yP6, yT5, yL5, yP7, yT6, yL6, yP8, yT7, yL7, yP9, yT8, yL8, yP17, yT9, yL9, yP18, yT10, yL10, yP19, yT11, yL11, yP22, yT12, yL12, yP24, yT13, yL13, yP25, yT14, yL14, yP26, yT15, yL15, yP27, yT16, yL16, yP28, yT17, yL17, yP29, yT18, yL18, yP30, yT19, yL19, yP31, yT20, yL20, yP32, yT21, yL21, yP33, yT22, yL22, yP34, yT23, yL23, yP35, yT24, yL24]
    rw [gd_ok (ib_nI (by omega) (by decide)), gd_ok (ib_nI (by omega) (by decide)), nI_clamp (by omega), nI_clamp (by omega), nI_1]
    obtain ⟨K', e, z, o⟩ := ih (i + 1) fu (rowS K 23 (rowU (K 23) i (K 18 (24 * k + a + i)))) (by omega) (by omega) (fun j hj => by
      rw [rowS_s, rowS_n (show (18 : Nat) ≠ 23 by decide)]
      by_cases q : j = i
      · rw [q, rowU_s]
      · rw [rowU_n q]; exact h j (by omega))
    exact ⟨K', e, fun j hj => by rw [z j hj, rowS_n (by decide)], fun x hx => by rw [o x hx, rowS_n hx]⟩
theorem RcpyIf (M : Mem) (a b m : Int32) {n1 n2 : Nat} (h1 : n1 ≤ 24) (h2 : n2 ≤ 24) (y : Option (Int32 × Mem)) (x : Option (Int32 × Mem)) : (if a < 0 then x else if b < 0 then x else if m < 0 then x else if nI n1 - m < a then x else if b ≤ nI n2 - m then y else x) = if rowB a m n1 = true then (if rowB b m n2 = true then y else x) else x := by
  unfold rowB
  by_cases q1 : a < 0
  · rw [if_pos q1, if_neg (by rw [decide_eq_false (fun q => Int32.not_lt.mpr q.1 q1)]; exact Bool.false_ne_true)]
  rw [if_neg q1]
  have a0 : 0 ≤ a := Int32.not_lt.mp q1
  by_cases q2 : b < 0
  · rw [if_pos q2, if_neg (show ¬ decide (0 ≤ b ∧ 0 ≤ m ∧ b.toInt + m.toInt ≤ (n2 : Int)) = true by rw [decide_eq_false (fun q => Int32.not_lt.mpr q.1 q2)]; exact Bool.false_ne_true), ite_self]
  rw [if_neg q2]
  have b0 : 0 ≤ b := Int32.not_lt.mp q2
  by_cases q3 : m < 0
  · rw [if_pos q3, if_neg (by rw [decide_eq_false (fun q => Int32.not_lt.mpr q.2.1 q3)]; exact Bool.false_ne_true)]
  rw [if_neg q3]
  have m0 : 0 ≤ m := Int32.not_lt.mp q3
  by_cases q4 : nI n1 - m < a
  · rw [if_pos q4, if_neg (by rw [decide_eq_false (fun q => by
      have := Int32.lt_iff_toInt_lt.mp q4
      rw [sub_toInt h1 m0] at this; omega)]; exact Bool.false_ne_true)]
  rw [if_neg q4, if_pos (decide_eq_true ⟨a0, m0, by
      have := Int32.le_iff_toInt_le.mp (Int32.not_lt.mp q4)
      rw [sub_toInt h1 m0] at this; omega⟩)]
  by_cases q5 : b ≤ nI n2 - m
  · rw [if_pos q5, if_pos (decide_eq_true ⟨b0, m0, by
      have := Int32.le_iff_toInt_le.mp q5
      rw [sub_toInt h2 m0] at this; omega⟩)]
  · rw [if_neg q5, if_neg (by rw [decide_eq_false (fun q => q5 (Int32.le_iff_toInt_le.mpr (by rw [sub_toInt h2 m0]; omega)))]; exact Bool.false_ne_true)]
theorem rowB_t {a m : Int32} {n : Nat} (h : rowB a m n = true) (hn : n ≤ 24) : ∃ x y, x + y ≤ n ∧ a = nI x ∧ m = nI y := by
  obtain ⟨h1, h2, h3⟩ := of_decide_eq_true h
  have a0 : (0 : Int) ≤ a.toInt := Int32.le_iff_toInt_le.mp h1
  have m0 : (0 : Int) ≤ m.toInt := Int32.le_iff_toInt_le.mp h2
  refine ⟨a.toInt.toNat, m.toInt.toNat, by omega, ?_, ?_⟩
  · apply Int32.toInt_inj.mp; rw [nI_toInt (by omega)]; omega
  · apply Int32.toInt_inj.mp; rw [nI_toInt (by omega)]; omega
theorem op_copy (h : Sm I X S J nc ns nt) (a b c d e : Int32) : Ok2 (f_X9_copy (I, X, S) 0 a b c d e) (f_X10_copy (J, YZ) 0 a b c d e) := by
  have hS := h.rs.la
  rw [f_X9_copy, f_X10_copy, RisSh, Xin_3]
  simp only [gt_self, gd_t, lp_some, st_d, nm_d, on_none, on_some, cl_some, mI_mk, mX_mk, setI_mk, u2_row, rowS_s, rowU_s, xT0 hS, xP0_0 hS, xP0_1 hS, xP0_2 hS, xP0_3 hS, xP0_4 hS, xP0_5 hS, xP0_6 hS, xP0_7 hS, xP0_8 hS, xT73 hS, xP73_0 hS, xT74 hS, xL74 hS, xP73_1 hS, xT75 hS, xL75 hS, xP73_2 hS, xT76 hS, xL76 hS, xP73_3 hS, xT77 hS, xL77 hS, xT78 hS, xP78_0 hS, xT79 hS, xL79 hS, xT80 hS, xP80_0 hS, xP80_2 hS, xT81 hS, xL81 hS, xT82 hS, xL82 hS, xT83 hS, xL83 hS, xT84 hS, xL84 hS, xT85 hS, xL85 hS, yT0, yP0, yT1, yL1, yP1, yT2, yL2, yP2, yT3, yL3, yP5, yT4, yL4, yP6, yT5, yL5, yP7, yT6, yL6, yP8, yT7, yL7, yP9, yT8, yL8, yP17, yT9, yL9, yP18, yT10, yL10, yP19, yT11, yL11, yP22, yT12, yL12, yP24, yT13, yL13, yP25, yT14, yL14, yP26, yT15, yL15, yP27, yT16, yL16, yP28, yT17, yL17, yP29, yT18, yL18, yP30, yT19, yL19, yP31, yT20, yL20, yP32, yT21, yL21, yP33, yT22, yL22, yP34, yT23, yL23, yP35, yT24, yL24, ifB, RisSh, Xin_3]
  refine Ok2.ite h (fun e1 => Ok2.ite h (fun e2 => ?_))
  obtain ⟨k, hk, rfl⟩ := hasB_t e1 (by decide)
  obtain ⟨l, hl, rfl⟩ := hasB_t e2 (by decide)
  obtain ⟨ks, k16, n1, hn1, i1, k17, kc⟩ := h.rs.sh k hk
  obtain ⟨ls, l16, n2, hn2, i2, l17, lc⟩ := h.rs.sh l hl
  simp only [gd_ok (ib_nI hk (show 4 < 2 ^ 31 by decide)), gd_ok (ib_nI hl (show 4 < 2 ^ 31 by decide)), nI_clamp (show k < 2 ^ 31 by omega), nI_clamp (show l < 2 ^ 31 by omega), shP hS hk, shP hS hl, shT hS hk, shT hS hl, gt_self, gd_t, lp_some, st_d, nm_d, on_none, on_some, cl_some, mI_mk, mX_mk, setI_mk, u2_row, rowS_s, rowU_s, missB hS hk, missB hS hl, ifB]
  rw [k16, l16, k17, l17]
  by_cases m1 : I (86 + 2 * k) 0 = -1
  · rw [if_pos (decide_eq_true m1), if_pos (show I (86 + 2 * k) 0 < 0 by rw [m1]; decide)]; exact .mk h
  rw [if_neg (show ¬ decide (I (86 + 2 * k) 0 = -1) = true by rw [decide_eq_false m1]; exact Bool.false_ne_true), if_neg (show ¬ I (86 + 2 * k) 0 < 0 by rcases ks with q | q | q; exact absurd q m1; (rw [q]; decide); (rw [q]; decide))]
  by_cases m2 : I (86 + 2 * l) 0 = -1
  · rw [if_pos (decide_eq_true m2), if_neg (show ¬ 0 ≤ I (86 + 2 * l) 0 by rw [m2]; decide)]; exact .mk h
  rw [if_neg (show ¬ decide (I (86 + 2 * l) 0 = -1) = true by rw [decide_eq_false m2]; exact Bool.false_ne_true), if_pos (show 0 ≤ I (86 + 2 * l) 0 by rcases ls with q | q | q; exact absurd q m2; (rw [q]; decide); (rw [q]; decide))]
  by_cases m3 : I (86 + 2 * k) 0 = I (86 + 2 * l) 0
  · rw [if_pos m3, if_pos m3, RcpyIf (J, YZ) b d e hn1 hn2, XhasRow hS hk hn1 i1]
    simp only [cl_some, ifB, XhasRow hS hl hn2 i2, shT hS hl, shT hS hk, gt_self]
    refine Ok2.ite h (fun e3 => Ok2.ite h (fun e4 => ?_))
    obtain ⟨x, m, hx, rfl, rfl⟩ := rowB_t e3 hn1
    obtain ⟨y, m', hy, rfl, em⟩ := rowB_t e4 hn2
    have em : m = m' := (nI_eq (by omega) (by omega)).mp em
    subst em
    simp only [shT hS hk, shT hS hl, shPp hS hk, shPp hS hl, shTp hS hk, shTp hS hl, shLp hS hk, shLp hS hl, gt_self, gd_t, lp_some, st_d, nm_d, on_none, on_some, cl_some, mI_mk, mX_mk, setI_mk, u2_row, rowS_s, rowU_s, setR_mk]
    obtain ⟨K1, z1, w1, p1⟩ := cpyL1 (k := k) (a := x) (l := l) (b := y) (m := m) hk (by omega) m 0 FU J (by omega) (FU_ge (by omega)) (fun j hj => absurd hj (by omega))
    obtain ⟨K2, z2, w2, v2, p2⟩ := cpyL2 (l := l) (b := y) (m := m) hl (by omega) m 0 FU K1 (by omega) (FU_ge (by omega))
    rw [show (0 : Int32) = nI 0 from rfl] at z1 ⊢
    rw [z1, z2, nI_clamp (by omega), nI_clamp (by omega), nI_clamp (by omega), gd_ok (by
      rw [Bool.and_eq_true, Bool.and_eq_true, Bool.and_eq_true, Bool.and_eq_true]
      exact ⟨⟨⟨⟨decide_eq_true (nI_pos' (by omega)), decide_eq_true (nI_pos' (by omega))⟩, decide_eq_true (nI_pos' (by omega))⟩, decide_eq_true (by omega)⟩, decide_eq_true (by omega)⟩)]
    have h1 : Sm I X S K1 nc ns nt := h.same (fun _ _ => rfl) (fun q hq => p1 q (by unfold ownY at hq; omega))
    refine .mk (h1.sheet hl (fun q q1 q2 => rowS_n q2) (fun q q1 q2 q3 => p2 q q3) (fun j hj => by rw [p2 16 (by decide)]) (fun j hj => by rw [p2 17 (by decide)]) (fun j hj => v2 j (by omega)) ?_)
    unfold ShR
    rw [rowS_n (show 86 + 2 * l ≠ 87 + 2 * l by omega), rowS_s, p2 16 (by decide), p2 17 (by decide), p1 16 (by decide), p1 17 (by decide)]
    refine ⟨ls, l16, n2, hn2, i2, l17, fun j hj => ?_⟩
    unfold va_cpy
    by_cases q : y ≤ j ∧ j < y + m
    · rw [if_pos q, show (fun j => I (87 + 2 * k) j) (x + (j - y)) = _ from kc (x + (j - y)) (by omega)]
      have := w2 (j - y) (by omega) (by omega)
      rw [show 24 * l + y + (j - y) = 24 * l + j by omega, w1 (j - y) (by omega)] at this
      rw [this, show 24 * k + x + (j - y) = 24 * k + (x + (j - y)) by omega]
    · rw [if_neg q, v2 _ (by omega), p1 18 (by decide)]
      exact lc j hj
  · rw [if_neg m3, if_neg m3]; exact .mk h
end Copy
