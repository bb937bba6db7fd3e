/-! pour, copy -/
def cl99 (v : Int32) : Int32 := if 0 ≤ v then (if v ≤ 99 then v else 99) else 0
theorem cl99_small (v : Int32) : ∃ q, q ≤ 99 ∧ cl99 v = nI q := by
  unfold cl99
  by_cases h : 0 ≤ v
  · rw [if_pos h]
    by_cases h2 : v ≤ 99
    · rw [if_pos h2]; exact upto (m := 99) h h2 (by decide)
    · rw [if_neg h2]; exact ⟨99, by decide, rfl⟩
  · rw [if_neg h]; exact ⟨0, by decide, rfl⟩
theorem Rwithin99 (M : Mem) (v : Int32) : f_X10_within M v 0 99 = some (cl99 v, M) := by
  rw [f_X10_within]
  unfold cl99
  by_cases h : 0 ≤ v
  · rw [if_pos h, if_pos h]
    by_cases h2 : v ≤ 99
    · rw [if_pos h2, if_pos h2]
    · rw [if_neg h2, if_neg h2]
  · rw [if_neg h, if_neg h]
theorem Xheld99 (M : Mem) (v : Int32) : f_X9_held M v 99 = some (cl99 v, M) := by
  have h : imax 0 (imin v 99) = cl99 v := by
    unfold imax imin cl99
    by_cases h : 99 < v
    · rw [if_pos h, if_pos (show (0 : Int32) < 99 by decide), if_pos (Int32.le_of_lt (Int32.lt_trans (show (0 : Int32) < 99 by decide) h)), if_neg (Int32.not_le.mpr h)]
    · rw [if_neg h]
      by_cases h2 : 0 < v
      · rw [if_pos h2, if_pos (Int32.le_of_lt h2), if_pos (Int32.not_lt.mp h)]
      · rw [if_neg h2]
        by_cases h3 : 0 ≤ v
        · rw [if_pos h3, if_pos (Int32.not_lt.mp h)]
          exact Int32.le_antisymm h3 (Int32.not_lt.mp h2)
        · rw [if_neg h3]
  rw [f_X9_held, h]
section Sheets3
variable {I : Nat → Nat → Int32} {X : Nat → Nat → Option Nat} {S : Sta} {J : Nat → Nat → Int32} {nc ns nt : Nat}
theorem pourL {k : Nat} (hk : k < 4) : ∀ (d i f1 f2 : Nat) (I : Nat → Nat → Int32) (J : Nat → Nat → Int32) (cnt : Int32), i + d = nc → d < f1 → d < f2 → Sm I X S J nc ns nt → Ok2 (f_X9_pour_33 f1 (I, X, S) 0 (86 + 2 * k) cnt (nI i)) (f_X10_pour_26 f2 (J, YZ) 0 (nI k) cnt (nI i)) := by
  intro d
  induction d with
  | zero =>
    intro i f1 f2 I J cnt hi g1 g2 h
    obtain ⟨f1, rfl⟩ : ∃ m, f1 = m + 1 := ⟨f1 - 1, by omega⟩
    obtain ⟨f2, rfl⟩ : ∃ m, f2 = m + 1 := ⟨f2 - 1, by omega⟩
    have hS := h.rs.la
    obtain ⟨w, hw1⟩ : ∃ w, w = 1 := ⟨1, rfl⟩
    have hw : isW w := Or.inl hw1
    have hW : Wld I X S w (J 1) nc ns nt := by subst hw1; exact h.w
    have hR := hW.r
    have hG := hW.gn
    have hr := hW.gr
    have h8 := hG.2.1
    have h10 := hG.2.2.2.1
    rw [f_X9_pour_33, f_X10_pour_26]
    simp only [gt_self, gd_t, lp_some, st_d, nm_d, on_none, on_some, cl_some, mI_mk, mX_mk, setI_mk, u2_row, rowS_s, rowU_s, xT0 hS, xP0_1 hS, xP0_2 hS, xP0_3 hS, xP0_4 hS, xP0_5 hS, xP0_6 hS, xP0_7 hS, xP0_8 hS, xT73 hS, xP73_0 hS, xT74 hS, xL74 hS, xP73_1 hS, xT75 hS, xL75 hS, xP73_2 hS, xT76 hS, xL76 hS, xP73_3 hS, xT77 hS, xL77 hS, xT78 hS, xP78_0 hS, xT79 hS, xL79 hS, xT80 hS, xP80_0 hS, xP80_2 hS, xT81 hS, xL81 hS, xT82 hS, xL82 hS, xT83 hS, xL83 hS, xT84 hS, xL84 hS, xT85 hS, xL85 hS, wT hS hw, wP0 hS hw, wP2 hS hw, wP4 hS hw, wP7 hS hw, wP9 hS hw, wT1 hS hw, wL1 hS hw, wT2 hS hw, wL2 hS hw, wT3 hS hw, wL3 hS hw, wT4 hS hw, wL4 hS hw, wT5 hS hw, wL5 hS hw, yT0, yP0, yT1, yL1, yP1, yT2, yL2, yP2, yT3, yL3, yP5, yT4, yL4, yP6, yT5, yL5, yP7, yT6, yL6, yP8, yT7, yL7, yP9, yT8, yL8, yP17, yT9, yL9, yP18, yT10, yL10, yP19, yT11, yL11, yP22, yT12, yL12, yP24, yT13, yL13, yP25, yT14, yL14, yP26, yT15, yL15, yP27, yT16, yL16, yP28, yT17, yL17, yP29, yT18, yL18, yP30, yT19, yL19, yP31, yT20, yL20, yP32, yT21, yL21, yP33, yT22, yL22, yP34, yT23, yL23, yP35, yT24, yL24, xP0_0w hS hw1, Xin_1, Xin_2, Xin_3, Xin_4, Xin_5, Xin_60, Xin_99, Xin_100, Xin_999, Rin_1, Rin_2, Rin_3, Rin_4, Rin_5, Rin_60, Rin_99, Rin_100, Rin_999, Rin1_3, Rin1_8, Rin1_30, Rin1_60, Rin1_99, XhasC hS hw hR hG, XhasS hS hw hR hG, RisC hG, RisS hG, RisW, RisSh, RisSl, ifB, il1 (show 1 < 1442 by decide), tn1]
    rw [hR.1.2.1, hG.1, if_pos (nI_le (show nc ≤ i by omega) (by omega)), if_pos (nI_le (show nc ≤ i by omega) (by omega)), gd_ok (ib_nI hk (by decide)), ite_self]
    exact .mk h
  | succ d ih =>
    intro i f1 f2 I J cnt hi g1 g2 h
    obtain ⟨f1, rfl⟩ : ∃ m, f1 = m + 1 := ⟨f1 - 1, by omega⟩
    obtain ⟨f2, rfl⟩ : ∃ m, f2 = m + 1 := ⟨f2 - 1, by omega⟩
    have hS := h.rs.la
    obtain ⟨w, hw1⟩ : ∃ w, w = 1 := ⟨1, rfl⟩
    have hw : isW w := Or.inl hw1
    have hW : Wld I X S w (J 1) nc ns nt := by subst hw1; exact h.w
    have hR := hW.r
    have hG := hW.gn
    have hr := hW.gr
    have h8 := hG.2.1
    have h10 := hG.2.2.2.1
    obtain ⟨_, j16, n, hn, i1, j17, hc⟩ := h.rs.sh k hk
    rw [f_X9_pour_33, f_X10_pour_26]
    simp only [gt_self, gd_t, lp_some, st_d, nm_d, on_none, on_some, cl_some, mI_mk, mX_mk, setI_mk, u2_row, rowS_s, rowU_s, xT0 hS, xP0_1 hS, xP0_2 hS, xP0_3 hS, xP0_4 hS, xP0_5 hS, xP0_6 hS, xP0_7 hS, xP0_8 hS, xT73 hS, xP73_0 hS, xT74 hS, xL74 hS, xP73_1 hS, xT75 hS, xL75 hS, xP73_2 hS, xT76 hS, xL76 hS, xP73_3 hS, xT77 hS, xL77 hS, xT78 hS, xP78_0 hS, xT79 hS, xL79 hS, xT80 hS, xP80_0 hS, xP80_2 hS, xT81 hS, xL81 hS, xT82 hS, xL82 hS, xT83 hS, xL83 hS, xT84 hS, xL84 hS, xT85 hS, xL85 hS, wT hS hw, wP0 hS hw, wP2 hS hw, wP4 hS hw, wP7 hS hw, wP9 hS hw, wT1 hS hw, wL1 hS hw, wT2 hS hw, wL2 hS hw, wT3 hS hw, wL3 hS hw, wT4 hS hw, wL4 hS hw, wT5 hS hw, wL5 hS hw, yT0, yP0, yT1, yL1, yP1, yT2, yL2, yP2, yT3, yL3, yP5, yT4, yL4, yP6, yT5, yL5, yP7, yT6, yL6, yP8, yT7, yL7, yP9, yT8, yL8, yP17, yT9, yL9, yP18, yT10, yL10, yP19, yT11, yL11, yP22, yT12, yL12, yP24, yT13, yL13, yP25, yT14, yL14, yP26, yT15, yL15, yP27, yT16, yL16, yP28, yT17, yL17, yP29, yT18, yL18, yP30, yT19, yL19, yP31, yT20, yL20, yP32, yT21, yL21, yP33, yT22, yL22, yP34, yT23, yL23, yP35, yT24, yL24, xP0_0w hS hw1, Xin_1, Xin_2, Xin_3, Xin_4, Xin_5, Xin_60, Xin_99, Xin_100, Xin_999, Rin_1, Rin_2, Rin_3, Rin_4, Rin_5, Rin_60, Rin_99, Rin_100, Rin_999, Rin1_3, Rin1_8, Rin1_30, Rin1_60, Rin1_99, XhasC hS hw hR hG, XhasS hS hw hR hG, RisC hG, RisS hG, RisW, RisSh, RisSl, ifB, il1 (show 1 < 1442 by decide), tn1, shT hS hk, shPp hS hk, shTp hS hk, shLp hS hk]
    rw [hR.1.2.1, hG.1, if_neg (nI_ge (show i < nc by omega) (by omega)), if_neg (nI_ge (show i < nc by omega) (by omega)), gd_ok (ib_nI hk (by decide)), nI_clamp (show k < 2 ^ 31 by omega), i1, j17]
    by_cases e : n ≤ i
    · rw [if_pos (nI_le e (by omega)), if_pos (nI_le e (by omega))]; exact .mk h
    rw [if_neg (nI_ge (show i < n by omega) (by omega)), if_neg (nI_ge (show i < n by omega) (by omega)), ix24]
    simp only [gd_ok (ib_nI (show i < 8 by omega) (show 8 < 2 ^ 31 by decide)), gd_ok (ib_nI (show i < 24 by omega) (show 24 < 2 ^ 31 by decide)), gd_ok (ib_nI (show 24 * k + i < 96 by omega) (show 96 < 2 ^ 31 by decide)), nI_clamp (show i < 2 ^ 31 by omega), nI_clamp (show 24 * k + i < 2 ^ 31 by omega), wPc hS hw (show i < 8 by omega), wTc hS hw (show i < 8 by omega), gt_self, gd_t, lp_some, st_d, nm_d, on_none, on_some, cl_some, mI_mk, mX_mk, setI_mk, u2_row, rowS_s, rowU_s]
    have cc := hR.2.1 i (by omega)
    have old : I (w + 6 + i) 3 = J 1 (38 + 4 * i + 3) := cc.2.2.2
    have step : ∀ q, q ≤ 100 → Ok2 (f_X9_pour_98 (f_X9_pour_33 f1) (I, X, S) 0 (86 + 2 * k) cnt (nI i) (I (w + 6 + i) 3) (nI q)) (f_X10_pour_83 (f_X10_pour_26 f2) (J, YZ) 0 (nI k) cnt (nI i) (nI q)) := by
      intro q hq
      rw [f_X9_pour_98, f_X10_pour_83]
      simp only [gt_self, gd_t, lp_some, st_d, nm_d, on_none, on_some, cl_some, mI_mk, mX_mk, setI_mk, u2_row, rowS_s, rowU_s, xT0 hS, xP0_1 hS, xP0_2 hS, xP0_3 hS, xP0_4 hS, xP0_5 hS, xP0_6 hS, xP0_7 hS, xP0_8 hS, xT73 hS, xP73_0 hS, xT74 hS, xL74 hS, xP73_1 hS, xT75 hS, xL75 hS, xP73_2 hS, xT76 hS, xL76 hS, xP73_3 hS, xT77 hS, xL77 hS, xT78 hS, xP78_0 hS, xT79 hS, xL79 hS, xT80 hS, xP80_0 hS, xP80_2 hS, xT81 hS, xL81 hS, xT82 hS, xL82 hS, xT83 hS, xL83 hS, xT84 hS, xL84 hS, xT85 hS, xL85 hS, wT hS hw, wP0 hS hw, wP2 hS hw, wP4 hS hw, wP7 hS hw, wP9 hS hw, wT1 hS hw, wL1 hS hw, wT2 hS hw, wL2 hS hw, wT3 hS hw, wL3 hS hw, wT4 hS hw, wL4 hS hw, wT5 hS hw, wL5 hS hw, yT0, yP0, yT1, yL1, yP1, yT2, yL2, yP2, yT3, yL3, yP5, yT4, yL4, yP6, yT5, yL5, yP7, yT6, yL6, yP8, yT7, yL7, yP9, yT8, yL8, yP17, yT9, yL9, yP18, yT10, yL10, yP19, yT11, yL11, yP22, yT12, yL12, yP24, yT13, yL13, yP25, yT14, yL14, yP26, yT15, yL15, yP27, yT16, yL16, yP28, yT17, yL17, yP29, yT18, yL18, yP30, yT19, yL19, yP31, yT20, yL20, yP32, yT21, yL21, yP33, yT22, yL22, yP34, yT23, yL23, yP35, yT24, yL24, xP0_0w hS hw1, Xin_1, Xin_2, Xin_3, Xin_4, Xin_5, Xin_60, Xin_99, Xin_100, Xin_999, Rin_1, Rin_2, Rin_3, Rin_4, Rin_5, Rin_60, Rin_99, Rin_100, Rin_999, Rin1_3, Rin1_8, Rin1_30, Rin1_60, Rin1_99, XhasC hS hw hR hG, XhasS hS hw hR hG, RisC hG, RisS hG, RisW, RisSh, RisSl, ifB, show (38 : Int32) + 4 * nI i + 3 = nI (38 + 4 * i + 3) from ix38 i 3]
      rw [gd_ok (ib_nI (by omega) (by decide)), nI_clamp (by omega), Rbecomes J (by omega)]
      simp only [wPc hS hw (show i < 8 by omega), wTc hS hw (show i < 8 by omega), gt_self, gd_t, lp_some, st_d, nm_d, on_none, on_some, cl_some, mI_mk, mX_mk, setI_mk, u2_row, rowS_s, rowU_s, f_X9_pour_128, Xbit0, Xbit1, nI_1]
      have h' := h.upd (J' := rowS J 1 (rowU (J 1) (38 + 4 * i + 3) (nI q))) hw1 (rowS_s _ _ _) (hW.cset hw (u := 3) (c := i) (by omega) (by decide) (v := nI q) (fun e => absurd e (by decide)) (fun e => absurd e (by decide)) (fun e => absurd e (by decide)) (fun _ => ⟨q, hq, rfl⟩)) (fun a ha => rowS_n (by omega)) (fun a ha => rowS_n ha)
      rw [old]
      by_cases e : nI q = J 1 (38 + 4 * i + 3)
      · rw [if_pos e, if_pos e.symm]; exact ih (i + 1) f1 f2 _ _ _ (by omega) (by omega) (by omega) h'
      · rw [if_neg e, if_neg (fun q => e q.symm)]; exact ih (i + 1) f1 f2 _ _ _ (by omega) (by omega) (by omega) h'
    rw [hc i (by omega)]
    by_cases e2 : J 18 (24 * k + i) = -1000000005
    · rw [if_pos e2, if_pos e2, Rof3 (show i < 8 by omega)]
      simp only [gt_self, gd_t, lp_some, st_d, nm_d, on_none, on_some, cl_some, mI_mk, mX_mk, setI_mk, u2_row, rowS_s, rowU_s]
      obtain ⟨q, hq, eq⟩ := (hr.1 i (by omega)).2.2.2
      have := step q hq
      rw [← eq] at this
      rw [old] at this ⊢
      exact this
    · rw [if_neg e2, if_neg e2, Rwithin99, Xheld99]
      simp only [gt_self, gd_t, lp_some, st_d, nm_d, on_none, on_some, cl_some, mI_mk, mX_mk, setI_mk, u2_row, rowS_s, rowU_s]
      obtain ⟨q, hq, eq⟩ := cl99_small (J 18 (24 * k + i))
      rw [eq]
      exact step q (by omega)
theorem op_pour (h : Sm I X S J nc ns nt) (a : Int32) : Ok2 (f_X9_pour (I, X, S) 0 a) (f_X10_pour (J, YZ) 0 a) := by
  have hS := h.rs.la
  obtain ⟨w, hw1⟩ : ∃ w, w = 1 := ⟨1, rfl⟩
  have hw : isW w := Or.inl hw1
  have hW : Wld I X S w (J 1) nc ns nt := by subst hw1; exact h.w
  have hR := hW.r
  have hG := hW.gn
  have hr := hW.gr
  have h8 := hG.2.1
  have h10 := hG.2.2.2.1
  rw [f_X9_pour, f_X10_pour]
  simp only [gt_self, gd_t, lp_some, st_d, nm_d, on_none, on_some, cl_some, mI_mk, mX_mk, setI_mk, u2_row, rowS_s, rowU_s, xT0 hS, xP0_1 hS, xP0_2 hS, xP0_3 hS, xP0_4 hS, xP0_5 hS, xP0_6 hS, xP0_7 hS, xP0_8 hS, xT73 hS, xP73_0 hS, xT74 hS, xL74 hS, xP73_1 hS, xT75 hS, xL75 hS, xP73_2 hS, xT76 hS, xL76 hS, xP73_3 hS, xT77 hS, xL77 hS, xT78 hS, xP78_0 hS, xT79 hS, xL79 hS, xT80 hS, xP80_0 hS, xP80_2 hS, xT81 hS, xL81 hS, xT82 hS, xL82 hS, xT83 hS, xL83 hS, xT84 hS, xL84 hS, xT85 hS, xL85 hS, wT hS hw, wP0 hS hw, wP2 hS hw, wP4 hS hw, wP7 hS hw, wP9 hS hw, wT1 hS hw, wL1 hS hw, wT2 hS hw, wL2 hS hw, wT3 hS hw, wL3 hS hw, wT4 hS hw, wL4 hS hw, wT5 hS hw, wL5 hS hw, yT0, yP0, yT1, yL1, yP1, yT2, yL2, yP2, yT3, yL3, yP5, yT4, yL4, yP6, yT5, yL5, yP7, yT6, yL6, yP8, yT7, yL7, yP9, yT8, yL8, yP17, yT9, yL9, yP18, yT10, yL10, yP19, yT11, yL11, yP22, yT12, yL12, yP24, yT13, yL13, yP25, yT14, yL14, yP26, yT15, yL15, yP27, yT16, yL16, yP28, yT17, yL17, yP29, yT18, yL18, yP30, yT19, yL19, yP31, yT20, yL20, yP32, yT21, yL21, yP33, yT22, yL22, yP34, yT23, yL23, yP35, yT24, yL24, xP0_0w hS hw1, Xin_1, Xin_2, Xin_3, Xin_4, Xin_5, Xin_60, Xin_99, Xin_100, Xin_999, Rin_1, Rin_2, Rin_3, Rin_4, Rin_5, Rin_60, Rin_99, Rin_100, Rin_999, Rin1_3, Rin1_8, Rin1_30, Rin1_60, Rin1_99, XhasC hS hw hR hG, XhasS hS hw hR hG, RisC hG, RisS hG, RisW, RisSh, RisSl, ifB]
  refine Ok2.ite h (fun e1 => ?_)
  obtain ⟨k, hk, rfl⟩ := hasB_t e1 (by decide)
  rw [gd_ok (ib_nI hk (by decide)), gd_ok (ib_nI hk (by decide)), nI_clamp (by omega)]
  simp only [shP hS hk, shT hS hk, gt_self, gd_t, lp_some, st_d, nm_d, on_none, on_some, cl_some, mI_mk, mX_mk, setI_mk, u2_row, rowS_s, rowU_s]
  rw [missB hS hk]
  simp only [gt_self, gd_t, lp_some, st_d, nm_d, on_none, on_some, cl_some, mI_mk, mX_mk, setI_mk, u2_row, rowS_s, rowU_s, xT0 hS]
  exact missI (h.rs.sh k hk) _ _ _ _ Ok2 (fun _ => .mk h) (fun _ => pourL hk nc 0 FU FU I J 0 (by omega) (FU_ge (by omega)) (FU_ge (by omega)) h)
/-- so many from a place on: within n -/
def rowB (a m : Int32) (n : Nat) : Bool := decide (0 ≤ a ∧ 0 ≤ m ∧ a.toInt + m.toInt ≤ n)
theorem sub_toInt {n : Nat} (hn : n ≤ 24) {x : Int32} (h : 0 ≤ x) : (nI n - x).toInt = (n : Int) - x.toInt := by
  have h0 : (0 : Int) ≤ x.toInt := Int32.le_iff_toInt_le.mp h
  have h1 := Int32.toInt_lt x
  rw [Int32.toInt_sub, nI_toInt (by omega)]
  apply Int.bmod_eq_of_le <;> omega
theorem XhasRow (hS : LaS S) {k n : Nat} (hk : k < 4) (hn : n ≤ 24) (i1 : I (86 + 2 * k) 1 = nI n) (a m : Int32) : f_X2_hasRow (I, X, S) (86 + 2 * k) a m = some (bI (rowB a m n), (I, X, S)) := by
  rw [f_X2_hasRow]
  simp only [gt_self, gd_t, lp_some, st_d, nm_d, on_none, on_some, cl_some, mI_mk, mX_mk, setI_mk, u2_row, rowS_s, rowU_s, shT hS hk]
  rw [i1]
  unfold rowB
  by_cases h1 : a < 0
  · rw [if_pos h1, decide_eq_false (fun q => Int32.not_lt.mpr q.1 h1)]; rfl
  rw [if_neg h1]
  have a0 : 0 ≤ a := Int32.not_lt.mp h1
  by_cases h2 : m < 0
  · rw [if_pos h2, decide_eq_false (fun q => Int32.not_lt.mpr q.2.1 h2)]; rfl
  rw [if_neg h2]
  have m0 : 0 ≤ m := Int32.not_lt.mp h2
  have z0 : (0 : Int) ≤ m.toInt := Int32.le_iff_toInt_le.mp m0
  by_cases h3 : nI n < a
  · rw [if_pos h3, decide_eq_false (fun q => by
      have := Int32.lt_iff_toInt_lt.mp h3
      rw [nI_toInt (by omega)] at this; omega)]; rfl
  rw [if_neg h3]
  by_cases h4 : nI n - a < m
  · rw [if_pos h4, decide_eq_false (fun q => by
      have := Int32.lt_iff_toInt_lt.mp h4
      rw [sub_toInt hn a0] at this; omega)]; rfl
  · rw [if_neg h4, decide_eq_true ⟨a0, m0, by
      have := Int32.le_iff_toInt_le.mp (Int32.not_lt.mp h4)
      rw [sub_toInt hn a0] at this; omega⟩]; rfl
end Sheets3
