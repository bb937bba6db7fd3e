/-! YEARS on both sides; what is thought and put back -/
theorem ifB1' {α : Type} {v : Int32} {n : Nat} {x y : α} : (if v < 1 then x else if v ≤ nI n then y else x) = if hasB1 v n = true then y else x := by
  rw [← ifB1]
  by_cases h : v < 1
  · rw [if_pos h, if_pos h]
  · rw [if_neg h, if_neg h]
    by_cases h2 : v ≤ nI n
    · rw [if_pos h2, if_neg (Int32.not_lt.mpr h2)]
    · rw [if_neg h2, if_pos (Int32.not_le.mp h2)]
theorem imin_nI {a b : Nat} (ha : a < 2 ^ 31) (hb : b < 2 ^ 31) : imin (nI a) (nI b) = nI (min a b) := by
  unfold imin
  by_cases h : b < a
  · rw [if_pos (nI_lt h ha), Nat.min_eq_right (by omega)]
  · rw [if_neg (nI_nlt (by omega) hb), Nat.min_eq_left (by omega)]
theorem Rwithin_nI (M : Mem) {a b : Nat} (ha : a < 2 ^ 31) (hb : b < 2 ^ 31) : f_X10_within M (nI a) 0 (nI b) = some (nI (min a b), M) := by
  rw [f_X10_within, if_pos (nI_pos' ha)]
  by_cases h : a ≤ b
  · rw [if_pos (nI_le h hb), Nat.min_eq_left h]
  · rw [if_neg (nI_ge (by omega) ha), Nat.min_eq_right (by omega)]
/-- years kept: what does not change -/
theorem years_keep {N : Nat → Int32} {nc ns nt : Nat} (h : GN N nc ns nt) : ∀ k, (∀ j, keepJ j → j ≠ 3 → (yearsM nc nt (N, ns) k).1 j = N j) ∧ (yearsM nc nt (N, ns) k).1 3 = N 3 + nI k
  | 0 => ⟨fun _ _ _ => rfl, (Int32.add_zero _).symm⟩
  | k + 1 => by
    have ih := years_keep h k
    have hy := GN_years h k
    have q := year_FI (nc := nc) (nt := nt) hy.1.2.2.1 hy.1.2.2.2.1
    rw [yearsM_s]
    exact ⟨fun j h1 h2 => (q.2.2.2.1 j h1 h2).trans (ih.1 j h1 h2), by rw [q.2.2.2.2, ih.2, nI_succ, Int32.add_assoc]⟩
theorem xP0_1w {S : Sta} {I : Nat → Nat → Int32} {X : Nat → Nat → Option Nat} {w : Nat} (h : LaS S) (hw1 : w = 25) : mP (I, X, S) 0 1 = some w := by subst hw1; exact xP0_1 h
theorem xP0_2w {S : Sta} {I : Nat → Nat → Int32} {X : Nat → Nat → Option Nat} {w : Nat} (h : LaS S) (hw1 : w = 49) : mP (I, X, S) 0 2 = some w := by subst hw1; exact xP0_2 h
theorem Sm.upd2 {I I' : Nat → Nat → Int32} {X X' : Nat → Nat → Option Nat} {S : Sta} {J J' : Nat → Nat → Int32} {nc ns nt nc' ns' nt' w : Nat} {N' : Nat → Int32} (h : Sm I X S J nc ns nt) (hw1 : w = 1) (hN : J' 1 = N') (hw : Wld I' X' S w N' nc' ns' nt') (hI : ∀ a, ownX a → I' a = I a) (hX : X' 29 = X 29) (hJ : ∀ a, ownY a → J' a = J a) : Sm I' X' S J' nc' ns' nt' := by
  subst hw1; subst hN; exact ⟨hw, h.rs.same hI hX hJ⟩
section Yr
variable {I : Nat → Nat → Int32} {X : Nat → Nat → Option Nat} {S : Sta} {w : Nat} {N : Nat → Int32} {nc ns nt : Nat}
/-- the class' world after k years -/
def LV (J : Nat → Nat → Int32) (X : Nat → Nat → Option Nat) (S : Sta) (w : Nat) (N : Nat → Int32) (nc ns nt k : Nat) : Prop := RelW J X S w (yearsM nc nt (N, ns) k).1 nc (yearsM nc nt (N, ns) k).2 nt ∧ GR (yearsM nc nt (N, ns) k).1 nc (yearsM nc nt (N, ns) k).2 ∧ LkX J (yearsM nc nt (N, ns) k).1 nc nt
theorem LV_s (hS : LaS S) (hw : isW w) (hG : GN N nc ns nt) {k : Nat} (h : LV I X S w N nc ns nt k) : ∃ J, f_X8_live (I, X, S) w 73 = some ((), (J, X, S)) ∧ LV J X S w N nc ns nt (k + 1) ∧ ∀ a, a ≠ 74 → a ≠ 75 → a ≠ w → (a < w + 14 ∨ w + 24 ≤ a) → J a = I a := by
  obtain ⟨J, e, a, b, c, d⟩ := Xlive hS hw h.1 (GN_years hG k).1 h.2.1 h.2.2
  refine ⟨J, e, ?_, d⟩
  unfold LV
  rw [yearsM_s]
  exact ⟨a, b, c⟩
theorem LV_wld (h0 : Wld I X S w N nc ns nt) {J : Nat → Nat → Int32} {k y : Nat} (hy : N 3 = nI y) (hk : y + k ≤ 999) (h : LV J X S w N nc ns nt k) : Wld J X S w (yearsM nc nt (N, ns) k).1 nc (yearsM nc nt (N, ns) k).2 nt :=
  ⟨h.1, (GN_years h0.gn k).1, h.2.1, ⟨y + k, hk, by rw [(years_keep h0.gn k).2, hy, nI_add]⟩, h0.tb⟩
theorem Xyears (hS : LaS S) (hw : isW w) (hw1 : w = 1) (hG : GN N nc ns nt) {n : Nat} (hn : n ≤ 60) : ∀ (d k fu : Nat) (J : Nat → Nat → Int32), k + d = n → d < fu → LV J X S w N nc ns nt k → (∀ a, a ≠ 74 → a ≠ 75 → a ≠ 76 → a ≠ 77 → a ≠ w + 5 → a ≠ w → (a < w + 14 ∨ w + 24 ≤ a) → J a = I a) →
    ∃ J', f_X9_years_52 fu (J, X, S) 0 (nI n) (nI ns) (nI k) = some (nI ((yearsM nc nt (N, ns) n).2 - ns), (J', X, S)) ∧ LV J' X S w N nc ns nt n ∧ ∀ a, a ≠ 74 → a ≠ 75 → a ≠ 76 → a ≠ 77 → a ≠ w + 5 → a ≠ w → (a < w + 14 ∨ w + 24 ≤ a) → J' a = I a := by
  have hR : True := trivial
  intro d
  induction d with
  | zero =>
    intro k fu J hk hf h hJ
    obtain ⟨fu, rfl⟩ : ∃ m, fu = m + 1 := ⟨fu - 1, by omega⟩
    have hk : k = n := by omega
    subst hk
    have hy := GN_years hG k
    have h10 := hy.1.2.2.2.1
    rw [f_X9_years_52, if_pos (nI_le (Nat.le_refl _) (by omega))]
    simp only [gt_self, gd_t, lp_some, st_d, nm_d, on_none, on_some, cl_some, mI_mk, mX_mk, setI_mk, u2_row, rowS_s, rowU_s, xT0 hS, xP0_1 hS, xP0_2 hS, xP0_3 hS, xP0_4 hS, xP0_5 hS, xP0_6 hS, xP0_7 hS, xP0_8 hS, xT73 hS, xP73_0 hS, xT74 hS, xL74 hS, xP73_1 hS, xT75 hS, xL75 hS, xP73_2 hS, xT76 hS, xL76 hS, xP73_3 hS, xT77 hS, xL77 hS, xT78 hS, xP78_0 hS, xT79 hS, xL79 hS, xT80 hS, xP80_0 hS, xP80_2 hS, xT81 hS, xL81 hS, xT82 hS, xL82 hS, xT83 hS, xL83 hS, xT84 hS, xL84 hS, xT85 hS, xL85 hS, xP0_0w hS hw1, wT hS hw, wP0 hS hw, wP2 hS hw, wP4 hS hw, wP7 hS hw, wP9 hS hw, wT1 hS hw, wL1 hS hw, wT2 hS hw, wL2 hS hw, wT3 hS hw, wL3 hS hw, wT4 hS hw, wL4 hS hw, wT5 hS hw, wL5 hS hw]
    rw [h.1.1.2.2.1, hy.1.2.2.1, pk_sub (show ns ≤ (yearsM nc nt (N, ns) k).2 from hy.2)]
    exact ⟨J, rfl, h, hJ⟩
  | succ d ih =>
    intro k fu J hk hf h hJ
    obtain ⟨fu, rfl⟩ : ∃ m, fu = m + 1 := ⟨fu - 1, by omega⟩
    obtain ⟨K, e, h2, o⟩ := LV_s hS hw hG h
    rw [f_X9_years_52, if_neg (nI_ge (by omega) (by omega))]
    simp only [gt_self, gd_t, lp_some, st_d, nm_d, on_none, on_some, cl_some, mI_mk, mX_mk, setI_mk, u2_row, rowS_s, rowU_s, xT0 hS, xP0_1 hS, xP0_2 hS, xP0_3 hS, xP0_4 hS, xP0_5 hS, xP0_6 hS, xP0_7 hS, xP0_8 hS, xT73 hS, xP73_0 hS, xT74 hS, xL74 hS, xP73_1 hS, xT75 hS, xL75 hS, xP73_2 hS, xT76 hS, xL76 hS, xP73_3 hS, xT77 hS, xL77 hS, xT78 hS, xP78_0 hS, xT79 hS, xL79 hS, xT80 hS, xP80_0 hS, xP80_2 hS, xT81 hS, xL81 hS, xT82 hS, xL82 hS, xT83 hS, xL83 hS, xT84 hS, xL84 hS, xT85 hS, xL85 hS, xP0_0w hS hw1, wT hS hw, wP0 hS hw, wP2 hS hw, wP4 hS hw, wP7 hS hw, wP9 hS hw, wT1 hS hw, wL1 hS hw, wT2 hS hw, wL2 hS hw, wT3 hS hw, wL3 hS hw, wT4 hS hw, wL4 hS hw, wT5 hS hw, wL5 hS hw]
    rw [e]
    simp only [gt_self, gd_t, lp_some, st_d, nm_d, on_none, on_some, cl_some, mI_mk, mX_mk, setI_mk, u2_row, rowS_s, rowU_s, xT0 hS, xP0_1 hS, xP0_2 hS, xP0_3 hS, xP0_4 hS, xP0_5 hS, xP0_6 hS, xP0_7 hS, xP0_8 hS, xT73 hS, xP73_0 hS, xT74 hS, xL74 hS, xP73_1 hS, xT75 hS, xL75 hS, xP73_2 hS, xT76 hS, xL76 hS, xP73_3 hS, xT77 hS, xL77 hS, xT78 hS, xP78_0 hS, xT79 hS, xL79 hS, xT80 hS, xP80_0 hS, xP80_2 hS, xT81 hS, xL81 hS, xT82 hS, xL82 hS, xT83 hS, xL83 hS, xT84 hS, xL84 hS, xT85 hS, xL85 hS, xP0_0w hS hw1, wT hS hw, wP0 hS hw, wP2 hS hw, wP4 hS hw, wP7 hS hw, wP9 hS hw, wT1 hS hw, wL1 hS hw, wT2 hS hw, wL2 hS hw, wT3 hS hw, wL3 hS hw, wT4 hS hw, wL4 hS hw, wT5 hS hw, wL5 hS hw]
    rw [nI_1]
    exact ih (k + 1) fu K (by omega) (by omega) h2 (fun a a1 a2 a3 a4 a5 a6 a7 => (o a a1 a2 a6 a7).trans (hJ a a1 a2 a3 a4 a5 a6 a7))
end Yr
section OpC
variable {I : Nat → Nat → Int32} {X : Nat → Nat → Option Nat} {S : Sta} {J : Nat → Nat → Int32} {nc ns nt : Nat}
theorem op_years (h : Sm I X S J nc ns nt) (a : Int32) : Ok2 (f_X9_years (I, X, S) 0 a) (f_X10_years (J, YZ) 0 a) := by
  have hS := h.rs.la
  obtain ⟨w, hw1⟩ : ∃ w, w = 1 := ⟨1, rfl⟩
  have hw : isW w := Or.inl hw1
  have hW : Wld I X S w (J 1) nc ns nt := by subst hw1; exact h.w
  have hR := hW.r
  have hG := hW.gn
  have hr := hW.gr
  have h8 := hG.2.1
  have h10 := hG.2.2.2.1
  obtain ⟨y, hy, ey⟩ := hW.yr
  rw [f_X9_years, f_X10_years]
  simp only [gt_self, gd_t, lp_some, st_d, nm_d, on_none, on_some, cl_some, mI_mk, mX_mk, setI_mk, u2_row, rowS_s, rowU_s, xT0 hS, xP0_1 hS, xP0_2 hS, xP0_3 hS, xP0_4 hS, xP0_5 hS, xP0_6 hS, xP0_7 hS, xP0_8 hS, xT73 hS, xP73_0 hS, xT74 hS, xL74 hS, xP73_1 hS, xT75 hS, xL75 hS, xP73_2 hS, xT76 hS, xL76 hS, xP73_3 hS, xT77 hS, xL77 hS, xT78 hS, xP78_0 hS, xT79 hS, xL79 hS, xT80 hS, xP80_0 hS, xP80_2 hS, xT81 hS, xL81 hS, xT82 hS, xL82 hS, xT83 hS, xL83 hS, xT84 hS, xL84 hS, xT85 hS, xL85 hS, wT hS hw, wP0 hS hw, wP2 hS hw, wP4 hS hw, wP7 hS hw, wP9 hS hw, wT1 hS hw, wL1 hS hw, wT2 hS hw, wL2 hS hw, wT3 hS hw, wL3 hS hw, wT4 hS hw, wL4 hS hw, wT5 hS hw, wL5 hS hw, yT0, yP0, yT1, yL1, yP1, yT2, yL2, yP2, yT3, yL3, yP5, yT4, yL4, yP6, yT5, yL5, yP7, yT6, yL6, yP8, yT7, yL7, yP9, yT8, yL8, yP17, yT9, yL9, yP18, yT10, yL10, yP19, yT11, yL11, yP22, yT12, yL12, yP24, yT13, yL13, yP25, yT14, yL14, yP26, yT15, yL15, yP27, yT16, yL16, yP28, yT17, yL17, yP29, yT18, yL18, yP30, yT19, yL19, yP31, yT20, yL20, yP32, yT21, yL21, yP33, yT22, yL22, yP34, yT23, yL23, yP35, yT24, yL24, xP0_0w hS hw1, Xin_1, Xin_2, Xin_3, Xin_4, Xin_5, Xin_60, Xin_99, Xin_100, Xin_999, Rin_1, Rin_2, Rin_3, Rin_4, Rin_5, Rin_60, Rin_99, Rin_100, Rin_999, Rin1_3, Rin1_8, Rin1_30, Rin1_60, Rin1_99, XhasC hS hw hR hG, XhasS hS hw hR hG, RisC hG, RisS hG, RisW, RisSh, RisSl, ifB, il3 (show 3 < 1442 by decide), tn3]
  rw [show (60 : Int32) = nI 60 from rfl, ifB1']
  refine Ok2.ite h (fun e1 => ?_)
  obtain ⟨n, hn1, hn, rfl⟩ := hasB1_t e1 (by decide)
  obtain ⟨I1, x1, hL, o1⟩ := Xlook hS hw hR hG hr
  rw [x1]
  simp only [gt_self, gd_t, lp_some, st_d, nm_d, on_none, on_some, cl_some, mI_mk, mX_mk, setI_mk, u2_row, rowS_s, rowU_s, xT0 hS, xP0_1 hS, xP0_2 hS, xP0_3 hS, xP0_4 hS, xP0_5 hS, xP0_6 hS, xP0_7 hS, xP0_8 hS, xT73 hS, xP73_0 hS, xT74 hS, xL74 hS, xP73_1 hS, xT75 hS, xL75 hS, xP73_2 hS, xT76 hS, xL76 hS, xP73_3 hS, xT77 hS, xL77 hS, xT78 hS, xP78_0 hS, xT79 hS, xL79 hS, xT80 hS, xP80_0 hS, xP80_2 hS, xT81 hS, xL81 hS, xT82 hS, xL82 hS, xT83 hS, xL83 hS, xT84 hS, xL84 hS, xT85 hS, xL85 hS, wT hS hw, wP0 hS hw, wP2 hS hw, wP4 hS hw, wP7 hS hw, wP9 hS hw, wT1 hS hw, wL1 hS hw, wT2 hS hw, wL2 hS hw, wT3 hS hw, wL3 hS hw, wT4 hS hw, wL4 hS hw, wT5 hS hw, wL5 hS hw, yT0, yP0, yT1, yL1, yP1, yT2, yL2, yP2, yT3, yL3, yP5, yT4, yL4, yP6, yT5, yL5, yP7, yT6, yL6, yP8, yT7, yL7, yP9, yT8, yL8, yP17, yT9, yL9, yP18, yT10, yL10, yP19, yT11, yL11, yP22, yT12, yL12, yP24, yT13, yL13, yP25, yT14, yL14, yP26, yT15, yL15, yP27, yT16, yL16, yP28, yT17, yL17, yP29, yT18, yL18, yP30, yT19, yL19, yP31, yT20, yL20, yP32, yT21, yL21, yP33, yT22, yL22, yP34, yT23, yL23, yP35, yT24, yL24, xP0_0w hS hw1, Xin_1, Xin_2, Xin_3, Xin_4, Xin_5, Xin_60, Xin_99, Xin_100, Xin_999, Rin_1, Rin_2, Rin_3, Rin_4, Rin_5, Rin_60, Rin_99, Rin_100, Rin_999, Rin1_3, Rin1_8, Rin1_30, Rin1_60, Rin1_99, XhasC hS hw hR hG, XhasS hS hw hR hG, RisC hG, RisS hG, RisW, RisSh, RisSl, ifB]
  have y9 : (999 : Int32) - nI y = nI (999 - y) := by rw [show (999 : Int32) = nI 999 from rfl, pk_sub (by omega)]
  rw [show I w 5 = J 1 3 from hR.1.2.2.2.1, show I w 3 = J 1 2 from hR.1.2.2.1, hG.2.2.1, ey, y9, imin_nI (by omega) (by omega), Rwithin_nI _ (by omega) (by omega), Nat.min_comm]
  simp only [gt_self, gd_t, lp_some, st_d, nm_d, on_none, on_some, cl_some, mI_mk, mX_mk, setI_mk, u2_row, rowS_s, rowU_s, xT0 hS, xP0_1 hS, xP0_2 hS, xP0_3 hS, xP0_4 hS, xP0_5 hS, xP0_6 hS, xP0_7 hS, xP0_8 hS, xT73 hS, xP73_0 hS, xT74 hS, xL74 hS, xP73_1 hS, xT75 hS, xL75 hS, xP73_2 hS, xT76 hS, xL76 hS, xP73_3 hS, xT77 hS, xL77 hS, xT78 hS, xP78_0 hS, xT79 hS, xL79 hS, xT80 hS, xP80_0 hS, xP80_2 hS, xT81 hS, xL81 hS, xT82 hS, xL82 hS, xT83 hS, xL83 hS, xT84 hS, xL84 hS, xT85 hS, xL85 hS, wT hS hw, wP0 hS hw, wP2 hS hw, wP4 hS hw, wP7 hS hw, wP9 hS hw, wT1 hS hw, wL1 hS hw, wT2 hS hw, wL2 hS hw, wT3 hS hw, wL3 hS hw, wT4 hS hw, wL4 hS hw, wT5 hS hw, wL5 hS hw, yT0, yP0, yT1, yL1, yP1, yT2, yL2, yP2, yT3, yL3, yP5, yT4, yL4, yP6, yT5, yL5, yP7, yT6, yL6, yP8, yT7, yL7, yP9, yT8, yL8, yP17, yT9, yL9, yP18, yT10, yL10, yP19, yT11, yL11, yP22, yT12, yL12, yP24, yT13, yL13, yP25, yT14, yL14, yP26, yT15, yL15, yP27, yT16, yL16, yP28, yT17, yL17, yP29, yT18, yL18, yP30, yT19, yL19, yP31, yT20, yL20, yP32, yT21, yL21, yP33, yT22, yL22, yP34, yT23, yL23, yP35, yT24, yL24, xP0_0w hS hw1, Xin_1, Xin_2, Xin_3, Xin_4, Xin_5, Xin_60, Xin_99, Xin_100, Xin_999, Rin_1, Rin_2, Rin_3, Rin_4, Rin_5, Rin_60, Rin_99, Rin_100, Rin_999, Rin1_3, Rin1_8, Rin1_30, Rin1_60, Rin1_99, XhasC hS hw hR hG, XhasS hS hw hR hG, RisC hG, RisS hG, RisW, RisSh, RisSl, ifB]
  have hm : min (999 - y) n ≤ 60 ∧ y + min (999 - y) n ≤ 999 := by omega
  generalize min (999 - y) n = m at hm ⊢
  have hR1 : RelW I1 X S w (J 1) nc ns nt := hR.same h8 h10 (fun a ha => o1 a (by unfold ownW at ha; omega) (by unfold ownW at ha; omega) (by unfold ownW at ha; omega))
  obtain ⟨I2, x2, hV, o2⟩ := Xyears hS hw hw1 hG hm.1 m 0 FU I1 (by omega) (FU_ge (by omega)) ⟨hR1, hr, hL⟩ (fun _ _ _ _ _ _ _ _ => rfl)
  obtain ⟨J2, z2, j2, p2⟩ := RgoesOn (n := m) hG h.rs.no (by omega)
  rw [show (0 : Int32) = nI 0 from rfl, x2, z2]
  simp only [gt_self, gd_t, lp_some, st_d, nm_d, on_none, on_some, cl_some, mI_mk, mX_mk, setI_mk, u2_row, rowS_s, rowU_s]
  have hWf := LV_wld hW ey hm.2 hV
  exact .mk (h.upd2 hw1 j2 hWf (fun a ha => by
    unfold ownX ownW at ha
    exact (o2 a (by omega) (by omega) (by omega) (by omega) (by omega) (by omega) (by omega)).trans (o1 a (by omega) (by omega) (by omega))) rfl (fun a ha => by
    unfold ownY at ha
    exact p2 a (by omega) (by unfold scY; omega)))
/-- a number is drawn on both sides -/
theorem drawB (h : Sm I X S J nc ns nt) {w : Nat} (hw1 : w = 1) : ∃ x I' J', f_X8_draw (I, X, S) w = some (x, (I', X, S)) ∧ f_X10_draw (J, YZ) 0 = some (x, (J', YZ)) ∧ Sm I' X S J' nc ns nt ∧ ∀ m, 0 < m → m < 2 ^ 31 → ∃ k, k < m ∧ irm x (nI m) = nI k := by
  subst hw1
  have hw : isW 1 := Or.inl rfl
  refine ⟨dM (zM (J 1 0)), _, _, ?_, Rdraw J, h.upd rfl (rowS_s _ _ _) (h.w.z hw (zM (J 1 0))) (fun a ha => rowS_n (by omega)) (fun a ha => rowS_n ha), fun m h0 hm => irm_small _ h0 hm⟩
  rw [Xdraw h.rs.la hw, show I 1 6 = J 1 0 from h.w.r.1.1]
theorem dealL {n : Nat} (hn : n ≤ 8) : ∀ (d i f1 f2 nc : Nat) (I : Nat → Nat → Int32) (J : Nat → Nat → Int32), d < f1 → d < f2 → i + d ≤ n → (i + d = n ∨ nc + d = 8) → nc + d ≤ 8 → Sm I X S J nc ns nt →
    Ok2 (f_X9_deal_31 f1 (I, X, S) 0 (nI (i + d)) (nI i)) (f_X10_deal_15 f2 (J, YZ) 0 (nI n) (nI i)) := by
  intro d
  induction d with
  | zero =>
    intro i f1 f2 nc I J g1 g2 hi hd hc h
    obtain ⟨f1, rfl⟩ : ∃ m, f1 = m + 1 := ⟨f1 - 1, by omega⟩
    obtain ⟨f2, rfl⟩ : ∃ m, f2 = m + 1 := ⟨f2 - 1, by omega⟩
    have hG := h.w.gn
    show Ok2 (f_X9_deal_31 (f1 + 1) (I, X, S) 0 (nI i) (nI i)) (f_X10_deal_15 (f2 + 1) (J, YZ) 0 (nI n) (nI i))
    rw [f_X9_deal_31, if_pos (nI_le (Nat.le_refl i) (by omega)), f_X10_deal_15]
    by_cases e : n ≤ i
    · rw [if_pos (nI_le e (by omega))]
      exact .mk h
    · rw [if_neg (nI_ge (by omega) (by omega))]
      simp only [gt_self, gd_t, lp_some, st_d, nm_d, on_none, on_some, cl_some, mI_mk, mX_mk, setI_mk, u2_row, rowS_s, rowU_s, yT0, yP0, yT1, yL1, yP1, yT2, yL2, yP2, yT3, yL3, yP5, yT4, yL4, yP6, yT5, yL5, yP7, yT6, yL6, yP8, yT7, yL7, yP9, yT8, yL8, yP17, yT9, yL9, yP18, yT10, yL10, yP19, yT11, yL11, yP22, yT12, yL12, yP24, yT13, yL13, yP25, yT14, yL14, yP26, yT15, yL15, yP27, yT16, yL16, yP28, yT17, yL17, yP29, yT18, yL18, yP30, yT19, yL19, yP31, yT20, yL20, yP32, yT21, yL21, yP33, yT22, yL22, yP34, yT23, yL23, yP35, yT24, yL24, il1 (show 1 < 1442 by decide), tn1]
      rw [hG.1, if_pos (show (8 : Int32) ≤ nI nc from nI_le (a := 8) (by omega) (by omega))]
      exact .mk h
  | succ d ih =>
    intro i f1 f2 nc I J g1 g2 hi hd hc h
    obtain ⟨f1, rfl⟩ : ∃ m, f1 = m + 1 := ⟨f1 - 1, by omega⟩
    obtain ⟨f2, rfl⟩ : ∃ m, f2 = m + 1 := ⟨f2 - 1, by omega⟩
    have hS := h.rs.la
    obtain ⟨w, hw1⟩ : ∃ w, w = 1 := ⟨1, rfl⟩
    have hw : isW w := Or.inl hw1
    have hW : Wld I X S w (J 1) nc ns nt := by subst hw1; exact h.w
    have hR := hW.r
    have hG := hW.gn
    have hr := hW.gr
    have h8 := hG.2.1
    have h10 := hG.2.2.2.1
    rw [f_X9_deal_31, if_neg (nI_ge (by omega) (by omega)), f_X10_deal_15, if_neg (nI_ge (by omega) (by omega))]
    simp only [gt_self, gd_t, lp_some, st_d, nm_d, on_none, on_some, cl_some, mI_mk, mX_mk, setI_mk, u2_row, rowS_s, rowU_s, xT0 hS, xP0_1 hS, xP0_2 hS, xP0_3 hS, xP0_4 hS, xP0_5 hS, xP0_6 hS, xP0_7 hS, xP0_8 hS, xT73 hS, xP73_0 hS, xT74 hS, xL74 hS, xP73_1 hS, xT75 hS, xL75 hS, xP73_2 hS, xT76 hS, xL76 hS, xP73_3 hS, xT77 hS, xL77 hS, xT78 hS, xP78_0 hS, xT79 hS, xL79 hS, xT80 hS, xP80_0 hS, xP80_2 hS, xT81 hS, xL81 hS, xT82 hS, xL82 hS, xT83 hS, xL83 hS, xT84 hS, xL84 hS, xT85 hS, xL85 hS, wT hS hw, wP0 hS hw, wP2 hS hw, wP4 hS hw, wP7 hS hw, wP9 hS hw, wT1 hS hw, wL1 hS hw, wT2 hS hw, wL2 hS hw, wT3 hS hw, wL3 hS hw, wT4 hS hw, wL4 hS hw, wT5 hS hw, wL5 hS hw, yT0, yP0, yT1, yL1, yP1, yT2, yL2, yP2, yT3, yL3, yP5, yT4, yL4, yP6, yT5, yL5, yP7, yT6, yL6, yP8, yT7, yL7, yP9, yT8, yL8, yP17, yT9, yL9, yP18, yT10, yL10, yP19, yT11, yL11, yP22, yT12, yL12, yP24, yT13, yL13, yP25, yT14, yL14, yP26, yT15, yL15, yP27, yT16, yL16, yP28, yT17, yL17, yP29, yT18, yL18, yP30, yT19, yL19, yP31, yT20, yL20, yP32, yT21, yL21, yP33, yT22, yL22, yP34, yT23, yL23, yP35, yT24, yL24, xP0_0w hS hw1, Xin_1, Xin_2, Xin_3, Xin_4, Xin_5, Xin_60, Xin_99, Xin_100, Xin_999, Rin_1, Rin_2, Rin_3, Rin_4, Rin_5, Rin_60, Rin_99, Rin_100, Rin_999, Rin1_3, Rin1_8, Rin1_30, Rin1_60, Rin1_99, XhasC hS hw hR hG, XhasS hS hw hR hG, RisC hG, RisS hG, RisW, RisSh, RisSl, ifB, il1 (show 1 < 1442 by decide), tn1]
    rw [hG.1, if_neg (show ¬ (8 : Int32) ≤ nI nc from nI_ge (b := 8) (by omega) (by decide))]
    obtain ⟨xa, I1, J1, a1, b1, h1, ka⟩ := drawB h hw1
    rw [a1, b1]
    simp only [gt_self, gd_t, lp_some, st_d, nm_d, on_none, on_some, cl_some, mI_mk, mX_mk, setI_mk, u2_row, rowS_s, rowU_s, xT0 hS, xP0_1 hS, xP0_2 hS, xP0_3 hS, xP0_4 hS, xP0_5 hS, xP0_6 hS, xP0_7 hS, xP0_8 hS, xT73 hS, xP73_0 hS, xT74 hS, xL74 hS, xP73_1 hS, xT75 hS, xL75 hS, xP73_2 hS, xT76 hS, xL76 hS, xP73_3 hS, xT77 hS, xL77 hS, xT78 hS, xP78_0 hS, xT79 hS, xL79 hS, xT80 hS, xP80_0 hS, xP80_2 hS, xT81 hS, xL81 hS, xT82 hS, xL82 hS, xT83 hS, xL83 hS, xT84 hS, xL84 hS, xT85 hS, xL85 hS, wT hS hw, wP0 hS hw, wP2 hS hw, wP4 hS hw, wP7 hS hw, wP9 hS hw, wT1 hS hw, wL1 hS hw, wT2 hS hw, wL2 hS hw, wT3 hS hw, wL3 hS hw, wT4 hS hw, wL4 hS hw, wT5 hS hw, wL5 hS hw, yT0, yP0, yT1, yL1, yP1, yT2, yL2, yP2, yT3, yL3, yP5, yT4, yL4, yP6, yT5, yL5, yP7, yT6, yL6, yP8, yT7, yL7, yP9, yT8, yL8, yP17, yT9, yL9, yP18, yT10, yL10, yP19, yT11, yL11, yP22, yT12, yL12, yP24, yT13, yL13, yP25, yT14, yL14, yP26, yT15, yL15, yP27, yT16, yL16, yP28, yT17, yL17, yP29, yT18, yL18, yP30, yT19, yL19, yP31, yT20, yL20, yP32, yT21, yL21, yP33, yT22, yL22, yP34, yT23, yL23, yP35, yT24, yL24, xP0_0w hS hw1, Xin_1, Xin_2, Xin_3, Xin_4, Xin_5, Xin_60, Xin_99, Xin_100, Xin_999, Rin_1, Rin_2, Rin_3, Rin_4, Rin_5, Rin_60, Rin_99, Rin_100, Rin_999, Rin1_3, Rin1_8, Rin1_30, Rin1_60, Rin1_99, XhasC hS hw hR hG, XhasS hS hw hR hG, RisC hG, RisS hG, RisW, RisSh, RisSl, ifB]
    obtain ⟨xb, I2, J2, a2, b2, h2, kb⟩ := drawB h1 hw1
    rw [a2, b2]
    simp only [gt_self, gd_t, lp_some, st_d, nm_d, on_none, on_some, cl_some, mI_mk, mX_mk, setI_mk, u2_row, rowS_s, rowU_s, xT0 hS, xP0_1 hS, xP0_2 hS, xP0_3 hS, xP0_4 hS, xP0_5 hS, xP0_6 hS, xP0_7 hS, xP0_8 hS, xT73 hS, xP73_0 hS, xT74 hS, xL74 hS, xP73_1 hS, xT75 hS, xL75 hS, xP73_2 hS, xT76 hS, xL76 hS, xP73_3 hS, xT77 hS, xL77 hS, xT78 hS, xP78_0 hS, xT79 hS, xL79 hS, xT80 hS, xP80_0 hS, xP80_2 hS, xT81 hS, xL81 hS, xT82 hS, xL82 hS, xT83 hS, xL83 hS, xT84 hS, xL84 hS, xT85 hS, xL85 hS, wT hS hw, wP0 hS hw, wP2 hS hw, wP4 hS hw, wP7 hS hw, wP9 hS hw, wT1 hS hw, wL1 hS hw, wT2 hS hw, wL2 hS hw, wT3 hS hw, wL3 hS hw, wT4 hS hw, wL4 hS hw, wT5 hS hw, wL5 hS hw, yT0, yP0, yT1, yL1, yP1, yT2, yL2, yP2, yT3, yL3, yP5, yT4, yL4, yP6, yT5, yL5, yP7, yT6, yL6, yP8, yT7, yL7, yP9, yT8, yL8, yP17, yT9, yL9, yP18, yT10, yL10, yP19, yT11, yL11, yP22, yT12, yL12, yP24, yT13, yL13, yP25, yT14, yL14, yP26, yT15, yL15, yP27, yT16, yL16, yP28, yT17, yL17, yP29, yT18, yL18, yP30, yT19, yL19, yP31, yT20, yL20, yP32, yT21, yL21, yP33, yT22, yL22, yP34, yT23, yL23, yP35, yT24, yL24, xP0_0w hS hw1, Xin_1, Xin_2, Xin_3, Xin_4, Xin_5, Xin_60, Xin_99, Xin_100, Xin_999, Rin_1, Rin_2, Rin_3, Rin_4, Rin_5, Rin_60, Rin_99, Rin_100, Rin_999, Rin1_3, Rin1_8, Rin1_30, Rin1_60, Rin1_99, XhasC hS hw hR hG, XhasS hS hw hR hG, RisC hG, RisS hG, RisW, RisSh, RisSl, ifB]
    obtain ⟨xc, I3, J3, a3, b3, h3, kc⟩ := drawB h2 hw1
    rw [a3, b3]
    simp only [gt_self, gd_t, lp_some, st_d, nm_d, on_none, on_some, cl_some, mI_mk, mX_mk, setI_mk, u2_row, rowS_s, rowU_s, xT0 hS, xP0_1 hS, xP0_2 hS, xP0_3 hS, xP0_4 hS, xP0_5 hS, xP0_6 hS, xP0_7 hS, xP0_8 hS, xT73 hS, xP73_0 hS, xT74 hS, xL74 hS, xP73_1 hS, xT75 hS, xL75 hS, xP73_2 hS, xT76 hS, xL76 hS, xP73_3 hS, xT77 hS, xL77 hS, xT78 hS, xP78_0 hS, xT79 hS, xL79 hS, xT80 hS, xP80_0 hS, xP80_2 hS, xT81 hS, xL81 hS, xT82 hS, xL82 hS, xT83 hS, xL83 hS, xT84 hS, xL84 hS, xT85 hS, xL85 hS, wT hS hw, wP0 hS hw, wP2 hS hw, wP4 hS hw, wP7 hS hw, wP9 hS hw, wT1 hS hw, wL1 hS hw, wT2 hS hw, wL2 hS hw, wT3 hS hw, wL3 hS hw, wT4 hS hw, wL4 hS hw, wT5 hS hw, wL5 hS hw, yT0, yP0, yT1, yL1, yP1, yT2, yL2, yP2, yT3, yL3, yP5, yT4, yL4, yP6, yT5, yL5, yP7, yT6, yL6, yP8, yT7, yL7, yP9, yT8, yL8, yP17, yT9, yL9, yP18, yT10, yL10, yP19, yT11, yL11, yP22, yT12, yL12, yP24, yT13, yL13, yP25, yT14, yL14, yP26, yT15, yL15, yP27, yT16, yL16, yP28, yT17, yL17, yP29, yT18, yL18, yP30, yT19, yL19, yP31, yT20, yL20, yP32, yT21, yL21, yP33, yT22, yL22, yP34, yT23, yL23, yP35, yT24, yL24, xP0_0w hS hw1, Xin_1, Xin_2, Xin_3, Xin_4, Xin_5, Xin_60, Xin_99, Xin_100, Xin_999, Rin_1, Rin_2, Rin_3, Rin_4, Rin_5, Rin_60, Rin_99, Rin_100, Rin_999, Rin1_3, Rin1_8, Rin1_30, Rin1_60, Rin1_99, XhasC hS hw hR hG, XhasS hS hw hR hG, RisC hG, RisS hG, RisW, RisSh, RisSl, ifB]
    obtain ⟨xd, I4, J4, a4, b4, h4, kd⟩ := drawB h3 hw1
    rw [a4, b4]
    simp only [gt_self, gd_t, lp_some, st_d, nm_d, on_none, on_some, cl_some, mI_mk, mX_mk, setI_mk, u2_row, rowS_s, rowU_s, xT0 hS, xP0_1 hS, xP0_2 hS, xP0_3 hS, xP0_4 hS, xP0_5 hS, xP0_6 hS, xP0_7 hS, xP0_8 hS, xT73 hS, xP73_0 hS, xT74 hS, xL74 hS, xP73_1 hS, xT75 hS, xL75 hS, xP73_2 hS, xT76 hS, xL76 hS, xP73_3 hS, xT77 hS, xL77 hS, xT78 hS, xP78_0 hS, xT79 hS, xL79 hS, xT80 hS, xP80_0 hS, xP80_2 hS, xT81 hS, xL81 hS, xT82 hS, xL82 hS, xT83 hS, xL83 hS, xT84 hS, xL84 hS, xT85 hS, xL85 hS, wT hS hw, wP0 hS hw, wP2 hS hw, wP4 hS hw, wP7 hS hw, wP9 hS hw, wT1 hS hw, wL1 hS hw, wT2 hS hw, wL2 hS hw, wT3 hS hw, wL3 hS hw, wT4 hS hw, wL4 hS hw, wT5 hS hw, wL5 hS hw, yT0, yP0, yT1, yL1, yP1, yT2, yL2, yP2, yT3, yL3, yP5, yT4, yL4, yP6, yT5, yL5, yP7, yT6, yL6, yP8, yT7, yL7, yP9, yT8, yL8, yP17, yT9, yL9, yP18, yT10, yL10, yP19, yT11, yL11, yP22, yT12, yL12, yP24, yT13, yL13, yP25, yT14, yL14, yP26, yT15, yL15, yP27, yT16, yL16, yP28, yT17, yL17, yP29, yT18, yL18, yP30, yT19, yL19, yP31, yT20, yL20, yP32, yT21, yL21, yP33, yT22, yL22, yP34, yT23, yL23, yP35, yT24, yL24, xP0_0w hS hw1, Xin_1, Xin_2, Xin_3, Xin_4, Xin_5, Xin_60, Xin_99, Xin_100, Xin_999, Rin_1, Rin_2, Rin_3, Rin_4, Rin_5, Rin_60, Rin_99, Rin_100, Rin_999, Rin1_3, Rin1_8, Rin1_30, Rin1_60, Rin1_99, XhasC hS hw hR hG, XhasS hS hw hR hG, RisC hG, RisS hG, RisW, RisSh, RisSl, ifB]
    obtain ⟨k, hk, e1⟩ := ka 6 (by decide) (by decide)
    obtain ⟨wd, hwd, e2⟩ := kb 4 (by decide) (by decide)
    obtain ⟨wm, hwm, e3⟩ := kc 60 (by decide) (by decide)
    obtain ⟨fr, hfr, e4⟩ := kd 60 (by decide) (by decide)
    have e1 : irm xa 6 = nI k := e1
    have e2 : irm xb 4 = nI wd := e2
    have e3 : irm xc 60 = nI wm := e3
    have e4 : irm xd 60 = nI fr := e4
    have hW4 : Wld I4 X S w (J4 1) nc ns nt := by subst hw1; exact h4.w
    obtain ⟨I5, a5, hW5, o5⟩ := Xbuild hS hw hW4 (show nc < 8 by omega) hk hwd (show wm ≤ 99 by omega) (show fr ≤ 100 by omega)
    rw [e1, e2, e3, e4, a5, Rcomes hW4.gn (show nc < 8 by omega)]
    simp only [gt_self, gd_t, lp_some, st_d, nm_d, on_none, on_some, cl_some, mI_mk, mX_mk, setI_mk, u2_row, rowS_s, rowU_s]
    rw [nI_1]
    have ih := ih (i + 1) f1 f2 (nc + 1) I5 _ (by omega) (by omega) (by omega) (by omega) (by omega) (h4.upd hw1 (rowS_s _ _ _) hW5 (fun a ha => o5 a (by omega) (by omega)) (fun a ha => rowS_n ha))
    rw [show i + 1 + d = i + (d + 1) by omega] at ih
    exact ih
theorem op_deal (h : Sm I X S J nc ns nt) (a : Int32) : Ok2 (f_X9_deal (I, X, S) 0 a) (f_X10_deal (J, YZ) 0 a) := by
  have hS := h.rs.la
  obtain ⟨w, hw1⟩ : ∃ w, w = 1 := ⟨1, rfl⟩
  have hw : isW w := Or.inl hw1
  have hW : Wld I X S w (J 1) nc ns nt := by subst hw1; exact h.w
  have hR := hW.r
  have hG := hW.gn
  have hr := hW.gr
  have h8 := hG.2.1
  have h10 := hG.2.2.2.1
  rw [f_X9_deal, f_X10_deal]
  simp only [gt_self, gd_t, lp_some, st_d, nm_d, on_none, on_some, cl_some, mI_mk, mX_mk, setI_mk, u2_row, rowS_s, rowU_s, xT0 hS, xP0_1 hS, xP0_2 hS, xP0_3 hS, xP0_4 hS, xP0_5 hS, xP0_6 hS, xP0_7 hS, xP0_8 hS, xT73 hS, xP73_0 hS, xT74 hS, xL74 hS, xP73_1 hS, xT75 hS, xL75 hS, xP73_2 hS, xT76 hS, xL76 hS, xP73_3 hS, xT77 hS, xL77 hS, xT78 hS, xP78_0 hS, xT79 hS, xL79 hS, xT80 hS, xP80_0 hS, xP80_2 hS, xT81 hS, xL81 hS, xT82 hS, xL82 hS, xT83 hS, xL83 hS, xT84 hS, xL84 hS, xT85 hS, xL85 hS, wT hS hw, wP0 hS hw, wP2 hS hw, wP4 hS hw, wP7 hS hw, wP9 hS hw, wT1 hS hw, wL1 hS hw, wT2 hS hw, wL2 hS hw, wT3 hS hw, wL3 hS hw, wT4 hS hw, wL4 hS hw, wT5 hS hw, wL5 hS hw, yT0, yP0, yT1, yL1, yP1, yT2, yL2, yP2, yT3, yL3, yP5, yT4, yL4, yP6, yT5, yL5, yP7, yT6, yL6, yP8, yT7, yL7, yP9, yT8, yL8, yP17, yT9, yL9, yP18, yT10, yL10, yP19, yT11, yL11, yP22, yT12, yL12, yP24, yT13, yL13, yP25, yT14, yL14, yP26, yT15, yL15, yP27, yT16, yL16, yP28, yT17, yL17, yP29, yT18, yL18, yP30, yT19, yL19, yP31, yT20, yL20, yP32, yT21, yL21, yP33, yT22, yL22, yP34, yT23, yL23, yP35, yT24, yL24, xP0_0w hS hw1, Xin_1, Xin_2, Xin_3, Xin_4, Xin_5, Xin_60, Xin_99, Xin_100, Xin_999, Rin_1, Rin_2, Rin_3, Rin_4, Rin_5, Rin_60, Rin_99, Rin_100, Rin_999, Rin1_3, Rin1_8, Rin1_30, Rin1_60, Rin1_99, XhasC hS hw hR hG, XhasS hS hw hR hG, RisC hG, RisS hG, RisW, RisSh, RisSl, ifB]
  rw [show (8 : Int32) = nI 8 from rfl, ifB1']
  refine Ok2.ite h (fun e1 => ?_)
  obtain ⟨n, hn1, hn, rfl⟩ := hasB1_t e1 (by decide)
  rw [show I w 1 = J 1 1 from hR.1.2.1, hG.1, pk_sub h8, imin_nI (by omega) (by omega)]
  have := dealL hn (min n (8 - nc)) 0 FU FU nc I J (FU_ge (by omega)) (FU_ge (by omega)) (by omega) (by omega) (by omega) h
  rw [Nat.zero_add] at this
  exact this
end OpC
