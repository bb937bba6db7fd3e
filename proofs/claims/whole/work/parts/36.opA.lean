/-! CALLS, one by one: chimneys and storks -/
theorem Sm.upd {I I' : Nat → Nat → Int32} {X : Nat → Nat → Option Nat} {S : Sta} {J J' : Nat → Nat → Int32} {nc ns nt nc' ns' nt' w : Nat} {N' : Nat → Int32} (h : Sm I X S J nc ns nt) (hw1 : w = 1) (hN : J' 1 = N') (hw : Wld I' X S w N' nc' ns' nt') (hI : ∀ a, (a = 0 ∨ 25 ≤ a) → I' a = I a) (hJ : ∀ a, a ≠ 1 → J' a = J a) : Sm I' X S J' nc' ns' nt' := by
  subst hw1; subst hN; exact h.now hw hI hJ
section OpA
variable {I : Nat → Nat → Int32} {X : Nat → Nat → Option Nat} {S : Sta} {J : Nat → Nat → Int32} {nc ns nt : Nat}
theorem op_chimney (h : Sm I X S J nc ns nt) (a b c d : Int32) : Ok2 (f_X9_chimney (I, X, S) 0 a b c d) (f_X10_chimney (J, YZ) 0 a b c d) := by
  have hS := h.rs.la
  obtain ⟨w, hw1⟩ : ∃ w, w = 1 := ⟨1, rfl⟩
  have hw : isW w := Or.inl hw1
  have hW : Wld I X S w (J 1) nc ns nt := by subst hw1; exact h.w
  have hR := hW.r
  have hG := hW.gn
  have hr := hW.gr
  have h8 := hG.2.1
  have h10 := hG.2.2.2.1
  rw [f_X9_chimney, f_X10_chimney]
  simp only [gt_self, gd_t, lp_some, st_d, nm_d, on_none, on_some, cl_some, mI_mk, mX_mk, setI_mk, u2_row, rowS_s, rowU_s, xT0 hS, xP0_1 hS, xP0_2 hS, xP0_3 hS, xP0_4 hS, xP0_5 hS, xP0_6 hS, xP0_7 hS, xP0_8 hS, xT73 hS, xP73_0 hS, xT74 hS, xL74 hS, xP73_1 hS, xT75 hS, xL75 hS, xP73_2 hS, xT76 hS, xL76 hS, xP73_3 hS, xT77 hS, xL77 hS, xT78 hS, xP78_0 hS, xT79 hS, xL79 hS, xT80 hS, xP80_0 hS, xP80_2 hS, xT81 hS, xL81 hS, xT82 hS, xL82 hS, xT83 hS, xL83 hS, xT84 hS, xL84 hS, xT85 hS, xL85 hS, wT hS hw, wP0 hS hw, wP2 hS hw, wP4 hS hw, wP7 hS hw, wP9 hS hw, wT1 hS hw, wL1 hS hw, wT2 hS hw, wL2 hS hw, wT3 hS hw, wL3 hS hw, wT4 hS hw, wL4 hS hw, wT5 hS hw, wL5 hS hw, yT0, yP0, yT1, yL1, yP1, yT2, yL2, yP2, yT3, yL3, yP5, yT4, yL4, yP6, yT5, yL5, yP7, yT6, yL6, yP8, yT7, yL7, yP9, yT8, yL8, yP17, yT9, yL9, yP18, yT10, yL10, yP19, yT11, yL11, yP22, yT12, yL12, yP24, yT13, yL13, yP25, yT14, yL14, yP26, yT15, yL15, yP27, yT16, yL16, yP28, yT17, yL17, yP29, yT18, yL18, yP30, yT19, yL19, yP31, yT20, yL20, yP32, yT21, yL21, yP33, yT22, yL22, yP34, yT23, yL23, yP35, yT24, yL24, xP0_0w hS hw1, Xin_1, Xin_2, Xin_3, Xin_4, Xin_5, Xin_60, Xin_99, Xin_100, Xin_999, Rin_1, Rin_2, Rin_3, Rin_4, Rin_5, Rin_60, Rin_99, Rin_100, Rin_999, Rin1_3, Rin1_8, Rin1_30, Rin1_60, Rin1_99, XhasC hS hw hR hG, XhasS hS hw hR hG, RisC hG, RisS hG, RisW, RisSh, RisSl, ifB, il1 (show 1 < 1442 by decide), tn1]
  refine Ok2.ite h (fun e1 => Ok2.ite h (fun e2 => Ok2.ite h (fun e3 => Ok2.ite h (fun e4 => ?_))))
  obtain ⟨k, hk, rfl⟩ := hasB_t e1 (by decide)
  obtain ⟨wd, hwd, rfl⟩ := hasB_t e2 (by decide)
  obtain ⟨wm, hwm, rfl⟩ := hasB_t e3 (by decide)
  obtain ⟨fr, hfr, rfl⟩ := hasB_t e4 (by decide)
  rw [hG.1]
  by_cases h9 : nc < 8
  · obtain ⟨I', e, hW', hI'⟩ := Xbuild hS hw hW h9 hk hwd (show wm ≤ 99 by omega) (show fr ≤ 100 by omega)
    have hne : ¬ nI nc = (8 : Int32) := fun q => absurd ((nI_eq (a := nc) (b := 8) (by omega) (by decide)).mp q) (by omega)
    rw [e, if_neg hne, Rcomes hG h9]
    simp only [gt_self, gd_t, lp_some, st_d, nm_d, on_none, on_some, cl_some, mI_mk, mX_mk, setI_mk, u2_row, rowS_s, rowU_s]
    exact .mk (h.upd hw1 (rowS_s _ _ _) hW' (fun a ha => hI' a (by omega) (by omega)) (fun a ha => rowS_n ha))
  · have e9 : nc = 8 := by omega
    rw [XbuildF hS hw hW h9, if_pos (by rw [e9]; rfl)]
    simp only [gt_self, gd_t, lp_some, st_d, nm_d, on_none, on_some, cl_some, mI_mk, mX_mk, setI_mk, u2_row, rowS_s, rowU_s]
    exact .mk h
theorem op_seed (h : Sm I X S J nc ns nt) (a : Int32) : Ok2 (f_X9_seed (I, X, S) 0 a) (f_X10_seed (J, YZ) 0 a) := by
  have hS := h.rs.la
  obtain ⟨w, hw1⟩ : ∃ w, w = 1 := ⟨1, rfl⟩
  have hw : isW w := Or.inl hw1
  have hW : Wld I X S w (J 1) nc ns nt := by subst hw1; exact h.w
  have hR := hW.r
  have hG := hW.gn
  have hr := hW.gr
  have h8 := hG.2.1
  have h10 := hG.2.2.2.1
  rw [f_X9_seed, f_X10_seed]
  simp only [gt_self, gd_t, lp_some, st_d, nm_d, on_none, on_some, cl_some, mI_mk, mX_mk, setI_mk, u2_row, rowS_s, rowU_s, xT0 hS, xP0_1 hS, xP0_2 hS, xP0_3 hS, xP0_4 hS, xP0_5 hS, xP0_6 hS, xP0_7 hS, xP0_8 hS, xT73 hS, xP73_0 hS, xT74 hS, xL74 hS, xP73_1 hS, xT75 hS, xL75 hS, xP73_2 hS, xT76 hS, xL76 hS, xP73_3 hS, xT77 hS, xL77 hS, xT78 hS, xP78_0 hS, xT79 hS, xL79 hS, xT80 hS, xP80_0 hS, xP80_2 hS, xT81 hS, xL81 hS, xT82 hS, xL82 hS, xT83 hS, xL83 hS, xT84 hS, xL84 hS, xT85 hS, xL85 hS, wT hS hw, wP0 hS hw, wP2 hS hw, wP4 hS hw, wP7 hS hw, wP9 hS hw, wT1 hS hw, wL1 hS hw, wT2 hS hw, wL2 hS hw, wT3 hS hw, wL3 hS hw, wT4 hS hw, wL4 hS hw, wT5 hS hw, wL5 hS hw, yT0, yP0, yT1, yL1, yP1, yT2, yL2, yP2, yT3, yL3, yP5, yT4, yL4, yP6, yT5, yL5, yP7, yT6, yL6, yP8, yT7, yL7, yP9, yT8, yL8, yP17, yT9, yL9, yP18, yT10, yL10, yP19, yT11, yL11, yP22, yT12, yL12, yP24, yT13, yL13, yP25, yT14, yL14, yP26, yT15, yL15, yP27, yT16, yL16, yP28, yT17, yL17, yP29, yT18, yL18, yP30, yT19, yL19, yP31, yT20, yL20, yP32, yT21, yL21, yP33, yT22, yL22, yP34, yT23, yL23, yP35, yT24, yL24, xP0_0w hS hw1, Xin_1, Xin_2, Xin_3, Xin_4, Xin_5, Xin_60, Xin_99, Xin_100, Xin_999, Rin_1, Rin_2, Rin_3, Rin_4, Rin_5, Rin_60, Rin_99, Rin_100, Rin_999, Rin1_3, Rin1_8, Rin1_30, Rin1_60, Rin1_99, XhasC hS hw hR hG, XhasS hS hw hR hG, RisC hG, RisS hG, RisW, RisSh, RisSl, ifB]
  rw [show (0 : Int32) = nI 0 from rfl, Rbecomes J (by decide)]
  simp only [gt_self, gd_t, lp_some, st_d, nm_d, on_none, on_some, cl_some, mI_mk, mX_mk, setI_mk, u2_row, rowS_s, rowU_s]
  rw [hR.1.1]
  exact .mk (h.upd hw1 (rowS_s _ _ _) (hW.z hw a) (fun a ha => rowS_n (by omega)) (fun a ha => rowS_n ha))
def uB (k q : Nat) : Bool := decide (q = 0 ∨ k = q ∨ (q = 1 ∧ k = 3) ∨ (q = 2 ∧ k = 4))
theorem isOf_up (M : Mem) (n : Nat) (x y j : Int32) (h1 : ¬ 6 ≤ j) (h2 : ¬ x < 0) (h3 : ¬ 6 ≤ x) (h4 : ib x 6 = true) : f_X0_isOf_7 (n + 1) M y x j = if x = y then some (1, M) else f_X0_isOf_7 n M y (kaF.getD x.toNatClampNeg 0) (j + 1) := by
  rw [f_X0_isOf_7, if_neg h1, if_neg h2, if_neg h3, gd_ok h4]
theorem isOf_end (M : Mem) (n : Nat) (y j : Int32) (h1 : ¬ 6 ≤ j) : f_X0_isOf_7 (n + 1) M y (-1) j = some (0, M) := by
  rw [f_X0_isOf_7, if_neg h1, if_pos (by decide)]
theorem isOf_0 (M : Mem) (n : Nat) {y j : Int32} (hj : j = 0 ∨ j = 1 ∨ j = 2) : f_X0_isOf_7 (n + 2) M y 0 j = if (0 : Int32) = y then some (1, M) else some (0, M) := by
  have h1 : ¬ (6 : Int32) ≤ j := by rcases hj with rfl | rfl | rfl <;> decide
  have h2 : ¬ (6 : Int32) ≤ j + 1 := by rcases hj with rfl | rfl | rfl <;> decide
  rw [isOf_up M (n + 1) 0 y j h1 (by decide) (by decide) (by decide), show kaF.getD (0 : Int32).toNatClampNeg 0 = -1 by decide, isOf_end M n y _ h2]
theorem isOf_k0 (M : Mem) (n : Nat) {y x j : Int32} (hx : x = 1 ∨ x = 2 ∨ x = 5) (hj : j = 0 ∨ j = 1) : f_X0_isOf_7 (n + 3) M y x j = if x = y then some (1, M) else if (0 : Int32) = y then some (1, M) else some (0, M) := by
  have h1 : ¬ (6 : Int32) ≤ j := by rcases hj with rfl | rfl <;> decide
  have h2 : j + 1 = 0 ∨ j + 1 = 1 ∨ j + 1 = 2 := by rcases hj with rfl | rfl <;> decide
  have hk : kaF.getD x.toNatClampNeg 0 = 0 := by rcases hx with rfl | rfl | rfl <;> decide
  rw [isOf_up M (n + 2) x y j h1 (by rcases hx with rfl | rfl | rfl <;> decide) (by rcases hx with rfl | rfl | rfl <;> decide) (by rcases hx with rfl | rfl | rfl <;> decide), hk, isOf_0 M n h2]
theorem isOf_ok (M : Mem) (n : Nat) {k q : Nat} (hk : k < 6) (hq : q < 6) : f_X0_isOf_7 (n + 4) M (nI q) (nI k) 0 = some (bI (uB k q), M) := by
  have e6 : q = 0 ∨ q = 1 ∨ q = 2 ∨ q = 3 ∨ q = 4 ∨ q = 5 := by omega
  rcases (show k = 0 ∨ k = 1 ∨ k = 2 ∨ k = 3 ∨ k = 4 ∨ k = 5 by omega) with rfl | rfl | rfl | rfl | rfl | rfl
  · rw [show nI 0 = 0 from rfl, isOf_0 M (n + 2) (Or.inl rfl)]
    rcases e6 with rfl | rfl | rfl | rfl | rfl | rfl <;> rfl
  · rw [show nI 1 = 1 from rfl, isOf_k0 M (n + 1) (Or.inl rfl) (Or.inl rfl)]
    rcases e6 with rfl | rfl | rfl | rfl | rfl | rfl <;> rfl
  · rw [show nI 2 = 2 from rfl, isOf_k0 M (n + 1) (Or.inr (Or.inl rfl)) (Or.inl rfl)]
    rcases e6 with rfl | rfl | rfl | rfl | rfl | rfl <;> rfl
  · rw [isOf_up M (n + 3) (nI 3) (nI q) 0 (by decide) (by decide) (by decide) (by decide), show kaF.getD (nI 3).toNatClampNeg 0 = 1 by decide, isOf_k0 M n (Or.inl rfl) (Or.inr (by decide))]
    rcases e6 with rfl | rfl | rfl | rfl | rfl | rfl <;> rfl
  · rw [isOf_up M (n + 3) (nI 4) (nI q) 0 (by decide) (by decide) (by decide) (by decide), show kaF.getD (nI 4).toNatClampNeg 0 = 2 by decide, isOf_k0 M n (Or.inr (Or.inl rfl)) (Or.inr (by decide))]
    rcases e6 with rfl | rfl | rfl | rfl | rfl | rfl <;> rfl
  · rw [show nI 5 = 5 from rfl, isOf_k0 M (n + 1) (Or.inr (Or.inr rfl)) (Or.inl rfl)]
    rcases e6 with rfl | rfl | rfl | rfl | rfl | rfl <;> rfl
theorem XisOf {I : Nat → Nat → Int32} {X : Nat → Nat → Option Nat} {S : Sta} {b k q : Nat} (hT : mT (I, X, S) b = 1) (hk : k < 6) (hq : q < 6) (e : I b 0 = nI k) : f_X0_isOf (I, X, S) b (nI q) = some (bI (uB k q), (I, X, S)) := by
  rw [f_X0_isOf, gt_ok hT, mI_mk, e]
  exact isOf_ok _ _ hk hq
theorem RisUnder (M : Mem) {k q : Nat} (hk : k < 6) (hq : q < 6) : f_X10_isUnder M (nI k) (nI q) = some (bI (uB k q), M) := by
  rw [f_X10_isUnder]
  unfold f_X10_isUnder_19
  rcases (show k = 0 ∨ k = 1 ∨ k = 2 ∨ k = 3 ∨ k = 4 ∨ k = 5 by omega) with rfl | rfl | rfl | rfl | rfl | rfl <;> rcases (show q = 0 ∨ q = 1 ∨ q = 2 ∨ q = 3 ∨ q = 4 ∨ q = 5 by omega) with rfl | rfl | rfl | rfl | rfl | rfl <;> rfl
theorem op_as (h : Sm I X S J nc ns nt) (a b : Int32) : Ok2 (f_X9_as (I, X, S) 0 a b) (f_X10_as (J, YZ) 0 a b) := by
  have hS := h.rs.la
  obtain ⟨w, hw1⟩ : ∃ w, w = 1 := ⟨1, rfl⟩
  have hw : isW w := Or.inl hw1
  have hW : Wld I X S w (J 1) nc ns nt := by subst hw1; exact h.w
  have hR := hW.r
  have hG := hW.gn
  have hr := hW.gr
  have h8 := hG.2.1
  have h10 := hG.2.2.2.1
  rw [f_X9_as, f_X10_as]
  simp only [gt_self, gd_t, lp_some, st_d, nm_d, on_none, on_some, cl_some, mI_mk, mX_mk, setI_mk, u2_row, rowS_s, rowU_s, xT0 hS, xP0_1 hS, xP0_2 hS, xP0_3 hS, xP0_4 hS, xP0_5 hS, xP0_6 hS, xP0_7 hS, xP0_8 hS, xT73 hS, xP73_0 hS, xT74 hS, xL74 hS, xP73_1 hS, xT75 hS, xL75 hS, xP73_2 hS, xT76 hS, xL76 hS, xP73_3 hS, xT77 hS, xL77 hS, xT78 hS, xP78_0 hS, xT79 hS, xL79 hS, xT80 hS, xP80_0 hS, xP80_2 hS, xT81 hS, xL81 hS, xT82 hS, xL82 hS, xT83 hS, xL83 hS, xT84 hS, xL84 hS, xT85 hS, xL85 hS, wT hS hw, wP0 hS hw, wP2 hS hw, wP4 hS hw, wP7 hS hw, wP9 hS hw, wT1 hS hw, wL1 hS hw, wT2 hS hw, wL2 hS hw, wT3 hS hw, wL3 hS hw, wT4 hS hw, wL4 hS hw, wT5 hS hw, wL5 hS hw, yT0, yP0, yT1, yL1, yP1, yT2, yL2, yP2, yT3, yL3, yP5, yT4, yL4, yP6, yT5, yL5, yP7, yT6, yL6, yP8, yT7, yL7, yP9, yT8, yL8, yP17, yT9, yL9, yP18, yT10, yL10, yP19, yT11, yL11, yP22, yT12, yL12, yP24, yT13, yL13, yP25, yT14, yL14, yP26, yT15, yL15, yP27, yT16, yL16, yP28, yT17, yL17, yP29, yT18, yL18, yP30, yT19, yL19, yP31, yT20, yL20, yP32, yT21, yL21, yP33, yT22, yL22, yP34, yT23, yL23, yP35, yT24, yL24, xP0_0w hS hw1, Xin_1, Xin_2, Xin_3, Xin_4, Xin_5, Xin_60, Xin_99, Xin_100, Xin_999, Rin_1, Rin_2, Rin_3, Rin_4, Rin_5, Rin_60, Rin_99, Rin_100, Rin_999, Rin1_3, Rin1_8, Rin1_30, Rin1_60, Rin1_99, XhasC hS hw hR hG, XhasS hS hw hR hG, RisC hG, RisS hG, RisW, RisSh, RisSl, ifB]
  refine Ok2.ite h (fun e1 => Ok2.ite h (fun e2 => ?_))
  obtain ⟨c, hc, rfl⟩ := hasB_t e1 (by omega)
  obtain ⟨q, hq, rfl⟩ := hasB_t e2 (by decide)
  obtain ⟨k, hk, ek⟩ := (hr.1 c hc).1
  rw [gd_ok (ib_nI (by omega) (by decide)), nI_clamp (by omega), Rof0 (show c < 8 by omega)]
  simp only [wPc hS hw (show c < 8 by omega), wTc hS hw (show c < 8 by omega), gt_self, gd_t, lp_some, st_d, nm_d, on_none, on_some, cl_some, mI_mk, mX_mk, setI_mk, u2_row, rowS_s, rowU_s]
  rw [XisOf (wTc hS hw (show c < 8 by omega)) hk hq ((hR.2.1 c hc).1.trans ek), ek, RisUnder _ hk hq]
  simp only [ifB, gt_self, gd_t, lp_some, st_d, nm_d, on_none, on_some, cl_some, mI_mk, mX_mk, setI_mk, u2_row, rowS_s, rowU_s, wTc hS hw (show c < 8 by omega), yT0, Rof2 (show c < 8 by omega)]
  rw [(hR.2.1 c hc).2.2.1]
  exact Ok2.ite h (fun _ => .mk h)
theorem op_turns (h : Sm I X S J nc ns nt) (a b : Int32) : Ok2 (f_X9_turns (I, X, S) 0 a b) (f_X10_turns (J, YZ) 0 a b) := by
  have hS := h.rs.la
  obtain ⟨w, hw1⟩ : ∃ w, w = 1 := ⟨1, rfl⟩
  have hw : isW w := Or.inl hw1
  have hW : Wld I X S w (J 1) nc ns nt := by subst hw1; exact h.w
  have hR := hW.r
  have hG := hW.gn
  have hr := hW.gr
  have h8 := hG.2.1
  have h10 := hG.2.2.2.1
  rw [f_X9_turns, f_X10_turns]
  simp only [gt_self, gd_t, lp_some, st_d, nm_d, on_none, on_some, cl_some, mI_mk, mX_mk, setI_mk, u2_row, rowS_s, rowU_s, xT0 hS, xP0_1 hS, xP0_2 hS, xP0_3 hS, xP0_4 hS, xP0_5 hS, xP0_6 hS, xP0_7 hS, xP0_8 hS, xT73 hS, xP73_0 hS, xT74 hS, xL74 hS, xP73_1 hS, xT75 hS, xL75 hS, xP73_2 hS, xT76 hS, xL76 hS, xP73_3 hS, xT77 hS, xL77 hS, xT78 hS, xP78_0 hS, xT79 hS, xL79 hS, xT80 hS, xP80_0 hS, xP80_2 hS, xT81 hS, xL81 hS, xT82 hS, xL82 hS, xT83 hS, xL83 hS, xT84 hS, xL84 hS, xT85 hS, xL85 hS, wT hS hw, wP0 hS hw, wP2 hS hw, wP4 hS hw, wP7 hS hw, wP9 hS hw, wT1 hS hw, wL1 hS hw, wT2 hS hw, wL2 hS hw, wT3 hS hw, wL3 hS hw, wT4 hS hw, wL4 hS hw, wT5 hS hw, wL5 hS hw, yT0, yP0, yT1, yL1, yP1, yT2, yL2, yP2, yT3, yL3, yP5, yT4, yL4, yP6, yT5, yL5, yP7, yT6, yL6, yP8, yT7, yL7, yP9, yT8, yL8, yP17, yT9, yL9, yP18, yT10, yL10, yP19, yT11, yL11, yP22, yT12, yL12, yP24, yT13, yL13, yP25, yT14, yL14, yP26, yT15, yL15, yP27, yT16, yL16, yP28, yT17, yL17, yP29, yT18, yL18, yP30, yT19, yL19, yP31, yT20, yL20, yP32, yT21, yL21, yP33, yT22, yL22, yP34, yT23, yL23, yP35, yT24, yL24, xP0_0w hS hw1, Xin_1, Xin_2, Xin_3, Xin_4, Xin_5, Xin_60, Xin_99, Xin_100, Xin_999, Rin_1, Rin_2, Rin_3, Rin_4, Rin_5, Rin_60, Rin_99, Rin_100, Rin_999, Rin1_3, Rin1_8, Rin1_30, Rin1_60, Rin1_99, XhasC hS hw hR hG, XhasS hS hw hR hG, RisC hG, RisS hG, RisW, RisSh, RisSl, ifB]
  refine Ok2.ite h (fun e1 => Ok2.ite h (fun e2 => ?_))
  obtain ⟨c, hc, rfl⟩ := hasB_t e1 (by omega)
  obtain ⟨q, hq, rfl⟩ := hasB_t e2 (by decide)
  rw [gd_ok (ib_nI (by omega) (by decide)), nI_clamp (by omega), ix38a, Rbecomes J (by omega)]
  simp only [wPc hS hw (show c < 8 by omega), wTc hS hw (show c < 8 by omega), gt_self, gd_t, lp_some, st_d, nm_d, on_none, on_some, cl_some, mI_mk, mX_mk, setI_mk, u2_row, rowS_s, rowU_s]
  rw [(hR.2.1 c hc).1]
  exact .mk (h.upd hw1 (rowS_s _ _ _) (hW.cset hw (u := 0) hc (by decide) (fun _ => ⟨q, hq, rfl⟩) (fun e => absurd e (by decide)) (fun e => absurd e (by decide)) (fun e => absurd e (by decide))) (fun a ha => rowS_n (by omega)) (fun a ha => rowS_n ha))
theorem op_rule (h : Sm I X S J nc ns nt) (a b : Int32) : Ok2 (f_X9_rule (I, X, S) 0 a b) (f_X10_rule (J, YZ) 0 a b) := by
  have hS := h.rs.la
  obtain ⟨w, hw1⟩ : ∃ w, w = 1 := ⟨1, rfl⟩
  have hw : isW w := Or.inl hw1
  have hW : Wld I X S w (J 1) nc ns nt := by subst hw1; exact h.w
  have hR := hW.r
  have hG := hW.gn
  have hr := hW.gr
  have h8 := hG.2.1
  have h10 := hG.2.2.2.1
  have fin : ∀ u, u < 3 → ∀ v m1 m2 b1, f_X9_within (I, X, S) v m1 = some (bI b1, (I, X, S)) → f_X10_in (J, YZ) v 0 m2 = some (bI b1, (J, YZ)) → Ok2 (f_X9_rule_21 (I, X, S) 0 (nI u) v v m1) (f_X10_rule_23 (J, YZ) 0 (nI u) v v 0 m2) := by
    intro u hu v m1 m2 b1 q1 q2
    rw [f_X9_rule_21, f_X10_rule_23, q1, q2]
    simp only [gt_self, gd_t, lp_some, st_d, nm_d, on_none, on_some, cl_some, mI_mk, mX_mk, setI_mk, u2_row, rowS_s, rowU_s, xT0 hS, xP0_1 hS, xP0_2 hS, xP0_3 hS, xP0_4 hS, xP0_5 hS, xP0_6 hS, xP0_7 hS, xP0_8 hS, xT73 hS, xP73_0 hS, xT74 hS, xL74 hS, xP73_1 hS, xT75 hS, xL75 hS, xP73_2 hS, xT76 hS, xL76 hS, xP73_3 hS, xT77 hS, xL77 hS, xT78 hS, xP78_0 hS, xT79 hS, xL79 hS, xT80 hS, xP80_0 hS, xP80_2 hS, xT81 hS, xL81 hS, xT82 hS, xL82 hS, xT83 hS, xL83 hS, xT84 hS, xL84 hS, xT85 hS, xL85 hS, wT hS hw, wP0 hS hw, wP2 hS hw, wP4 hS hw, wP7 hS hw, wP9 hS hw, wT1 hS hw, wL1 hS hw, wT2 hS hw, wL2 hS hw, wT3 hS hw, wL3 hS hw, wT4 hS hw, wL4 hS hw, wT5 hS hw, wL5 hS hw, yT0, yP0, yT1, yL1, yP1, yT2, yL2, yP2, yT3, yL3, yP5, yT4, yL4, yP6, yT5, yL5, yP7, yT6, yL6, yP8, yT7, yL7, yP9, yT8, yL8, yP17, yT9, yL9, yP18, yT10, yL10, yP19, yT11, yL11, yP22, yT12, yL12, yP24, yT13, yL13, yP25, yT14, yL14, yP26, yT15, yL15, yP27, yT16, yL16, yP28, yT17, yL17, yP29, yT18, yL18, yP30, yT19, yL19, yP31, yT20, yL20, yP32, yT21, yL21, yP33, yT22, yL22, yP34, yT23, yL23, yP35, yT24, yL24, xP0_0w hS hw1, Xin_1, Xin_2, Xin_3, Xin_4, Xin_5, Xin_60, Xin_99, Xin_100, Xin_999, Rin_1, Rin_2, Rin_3, Rin_4, Rin_5, Rin_60, Rin_99, Rin_100, Rin_999, Rin1_3, Rin1_8, Rin1_30, Rin1_60, Rin1_99, XhasC hS hw hR hG, XhasS hS hw hR hG, RisC hG, RisS hG, RisW, RisSh, RisSl, ifB]
    refine Ok2.ite h (fun e1 => ?_)
    rw [gd_ok (ib_nI (by omega) (by decide)), gd_ok (ib_nI (by omega) (by decide)), nI_clamp (by omega), show (4 : Int32) + nI u = nI (4 + u) from nI_add 4 u, Rbecomes J (by omega)]
    simp only [gt_self, gd_t, lp_some, st_d, nm_d, on_none, on_some, cl_some, mI_mk, mX_mk, setI_mk, u2_row, rowS_s, rowU_s]
    have e : I (w + 3) u = J 1 (4 + u) := by
      have g := hR.1
      rcases (show u = 0 ∨ u = 1 ∨ u = 2 by omega) with rfl | rfl | rfl
      · exact g.2.2.2.2.1
      · exact g.2.2.2.2.2.1
      · exact g.2.2.2.2.2.2.1
    rw [e]
    exact .mk (h.upd hw1 (rowS_s _ _ _) (hW.rule hw hu v) (fun a ha => rowS_n (by omega)) (fun a ha => rowS_n ha))
  rw [f_X9_rule, f_X10_rule]
  simp only [gt_self, gd_t, lp_some, st_d, nm_d, on_none, on_some, cl_some, mI_mk, mX_mk, setI_mk, u2_row, rowS_s, rowU_s, xT0 hS, xP0_1 hS, xP0_2 hS, xP0_3 hS, xP0_4 hS, xP0_5 hS, xP0_6 hS, xP0_7 hS, xP0_8 hS, xT73 hS, xP73_0 hS, xT74 hS, xL74 hS, xP73_1 hS, xT75 hS, xL75 hS, xP73_2 hS, xT76 hS, xL76 hS, xP73_3 hS, xT77 hS, xL77 hS, xT78 hS, xP78_0 hS, xT79 hS, xL79 hS, xT80 hS, xP80_0 hS, xP80_2 hS, xT81 hS, xL81 hS, xT82 hS, xL82 hS, xT83 hS, xL83 hS, xT84 hS, xL84 hS, xT85 hS, xL85 hS, wT hS hw, wP0 hS hw, wP2 hS hw, wP4 hS hw, wP7 hS hw, wP9 hS hw, wT1 hS hw, wL1 hS hw, wT2 hS hw, wL2 hS hw, wT3 hS hw, wL3 hS hw, wT4 hS hw, wL4 hS hw, wT5 hS hw, wL5 hS hw, yT0, yP0, yT1, yL1, yP1, yT2, yL2, yP2, yT3, yL3, yP5, yT4, yL4, yP6, yT5, yL5, yP7, yT6, yL6, yP8, yT7, yL7, yP9, yT8, yL8, yP17, yT9, yL9, yP18, yT10, yL10, yP19, yT11, yL11, yP22, yT12, yL12, yP24, yT13, yL13, yP25, yT14, yL14, yP26, yT15, yL15, yP27, yT16, yL16, yP28, yT17, yL17, yP29, yT18, yL18, yP30, yT19, yL19, yP31, yT20, yL20, yP32, yT21, yL21, yP33, yT22, yL22, yP34, yT23, yL23, yP35, yT24, yL24, xP0_0w hS hw1, Xin_1, Xin_2, Xin_3, Xin_4, Xin_5, Xin_60, Xin_99, Xin_100, Xin_999, Rin_1, Rin_2, Rin_3, Rin_4, Rin_5, Rin_60, Rin_99, Rin_100, Rin_999, Rin1_3, Rin1_8, Rin1_30, Rin1_60, Rin1_99, XhasC hS hw hR hG, XhasS hS hw hR hG, RisC hG, RisS hG, RisW, RisSh, RisSl, ifB]
  refine Ok2.ite h (fun e1 => ?_)
  obtain ⟨u, hu, rfl⟩ := hasB_t e1 (by decide)
  by_cases e : nI u = 0
  · rw [if_pos e, if_pos e]; exact fin u hu b _ _ _ (Xin_999 _ _) (Rin_999 _ _)
  · rw [if_neg e, if_neg e]; exact fin u hu b _ _ _ (Xin_100 _ _) (Rin_100 _ _)
theorem op_set (h : Sm I X S J nc ns nt) (a b c : Int32) : Ok2 (f_X9_set (I, X, S) 0 a b c) (f_X10_set (J, YZ) 0 a b c) := by
  have hS := h.rs.la
  obtain ⟨w, hw1⟩ : ∃ w, w = 1 := ⟨1, rfl⟩
  have hw : isW w := Or.inl hw1
  have hW : Wld I X S w (J 1) nc ns nt := by subst hw1; exact h.w
  have hR := hW.r
  have hG := hW.gn
  have hr := hW.gr
  have h8 := hG.2.1
  have h10 := hG.2.2.2.1
  have fin : ∀ k, k < nc → ∀ u, 1 ≤ u → u ≤ 3 → ∀ m1 m2 n1, (n1 = if u = 1 then 4 else 100) → f_X9_within (I, X, S) c m1 = some (bI (hasB c n1), (I, X, S)) → f_X10_in (J, YZ) c 0 m2 = some (bI (hasB c n1), (J, YZ)) → Ok2 (f_X9_set_33 (I, X, S) 0 (nI k) (nI u) c c m1) (f_X10_set_30 (J, YZ) 0 (nI k) (nI u) c c 0 m2) := by
    intro k hk u hu1 hu3 m1 m2 n1 hn q1 q2
    rw [f_X9_set_33, f_X10_set_30, q1, q2]
    simp only [gt_self, gd_t, lp_some, st_d, nm_d, on_none, on_some, cl_some, mI_mk, mX_mk, setI_mk, u2_row, rowS_s, rowU_s, xT0 hS, xP0_1 hS, xP0_2 hS, xP0_3 hS, xP0_4 hS, xP0_5 hS, xP0_6 hS, xP0_7 hS, xP0_8 hS, xT73 hS, xP73_0 hS, xT74 hS, xL74 hS, xP73_1 hS, xT75 hS, xL75 hS, xP73_2 hS, xT76 hS, xL76 hS, xP73_3 hS, xT77 hS, xL77 hS, xT78 hS, xP78_0 hS, xT79 hS, xL79 hS, xT80 hS, xP80_0 hS, xP80_2 hS, xT81 hS, xL81 hS, xT82 hS, xL82 hS, xT83 hS, xL83 hS, xT84 hS, xL84 hS, xT85 hS, xL85 hS, wT hS hw, wP0 hS hw, wP2 hS hw, wP4 hS hw, wP7 hS hw, wP9 hS hw, wT1 hS hw, wL1 hS hw, wT2 hS hw, wL2 hS hw, wT3 hS hw, wL3 hS hw, wT4 hS hw, wL4 hS hw, wT5 hS hw, wL5 hS hw, yT0, yP0, yT1, yL1, yP1, yT2, yL2, yP2, yT3, yL3, yP5, yT4, yL4, yP6, yT5, yL5, yP7, yT6, yL6, yP8, yT7, yL7, yP9, yT8, yL8, yP17, yT9, yL9, yP18, yT10, yL10, yP19, yT11, yL11, yP22, yT12, yL12, yP24, yT13, yL13, yP25, yT14, yL14, yP26, yT15, yL15, yP27, yT16, yL16, yP28, yT17, yL17, yP29, yT18, yL18, yP30, yT19, yL19, yP31, yT20, yL20, yP32, yT21, yL21, yP33, yT22, yL22, yP34, yT23, yL23, yP35, yT24, yL24, xP0_0w hS hw1, Xin_1, Xin_2, Xin_3, Xin_4, Xin_5, Xin_60, Xin_99, Xin_100, Xin_999, Rin_1, Rin_2, Rin_3, Rin_4, Rin_5, Rin_60, Rin_99, Rin_100, Rin_999, Rin1_3, Rin1_8, Rin1_30, Rin1_60, Rin1_99, XhasC hS hw hR hG, XhasS hS hw hR hG, RisC hG, RisS hG, RisW, RisSh, RisSl, ifB]
    refine Ok2.ite h (fun e1 => ?_)
    have hn1 : n1 < 2 ^ 31 := by rw [hn]; split <;> decide
    obtain ⟨v, hv, rfl⟩ := hasB_t e1 hn1
    rw [gd_ok (ib_nI (by omega) (by decide)), nI_clamp (by omega), ix38, Rbecomes J (by omega)]
    simp only [wPc hS hw (show k < 8 by omega), wTc hS hw (show k < 8 by omega), gt_self, gd_t, lp_some, st_d, nm_d, on_none, on_some, cl_some, mI_mk, mX_mk, setI_mk, u2_row, rowS_s, rowU_s]
    have cc := hR.2.1 k hk
    have hw' := fun hx h1 h2 h3 => hW.cset hw (u := u) hk (by omega) (v := nI v) hx h1 h2 h3
    rcases (show u = 1 ∨ u = 2 ∨ u = 3 by omega) with rfl | rfl | rfl
    · rw [if_pos rfl] at hn
      subst hn
      rw [if_pos (show nI 1 = 1 by decide), cc.2.1]
      exact .mk (h.upd hw1 (rowS_s _ _ _) (hw' (fun e => absurd e (by decide)) (fun _ => ⟨v, hv, rfl⟩) (fun e => absurd e (by decide)) (fun e => absurd e (by decide))) (fun a ha => rowS_n (by omega)) (fun a ha => rowS_n ha))
    · rw [if_neg (by decide)] at hn
      subst hn
      rw [if_neg (show ¬ nI 2 = 1 by decide), if_pos (show nI 2 = 2 by decide), cc.2.2.1]
      exact .mk (h.upd hw1 (rowS_s _ _ _) (hw' (fun e => absurd e (by decide)) (fun e => absurd e (by decide)) (fun _ => ⟨v, by omega, rfl⟩) (fun e => absurd e (by decide))) (fun a ha => rowS_n (by omega)) (fun a ha => rowS_n ha))
    · rw [if_neg (by decide)] at hn
      subst hn
      rw [if_neg (show ¬ nI 3 = 1 by decide), if_neg (show ¬ nI 3 = 2 by decide), cc.2.2.2]
      exact .mk (h.upd hw1 (rowS_s _ _ _) (hw' (fun e => absurd e (by decide)) (fun e => absurd e (by decide)) (fun e => absurd e (by decide)) (fun _ => ⟨v, by omega, rfl⟩)) (fun a ha => rowS_n (by omega)) (fun a ha => rowS_n ha))
  rw [f_X9_set, f_X10_set]
  simp only [gt_self, gd_t, lp_some, st_d, nm_d, on_none, on_some, cl_some, mI_mk, mX_mk, setI_mk, u2_row, rowS_s, rowU_s, xT0 hS, xP0_1 hS, xP0_2 hS, xP0_3 hS, xP0_4 hS, xP0_5 hS, xP0_6 hS, xP0_7 hS, xP0_8 hS, xT73 hS, xP73_0 hS, xT74 hS, xL74 hS, xP73_1 hS, xT75 hS, xL75 hS, xP73_2 hS, xT76 hS, xL76 hS, xP73_3 hS, xT77 hS, xL77 hS, xT78 hS, xP78_0 hS, xT79 hS, xL79 hS, xT80 hS, xP80_0 hS, xP80_2 hS, xT81 hS, xL81 hS, xT82 hS, xL82 hS, xT83 hS, xL83 hS, xT84 hS, xL84 hS, xT85 hS, xL85 hS, wT hS hw, wP0 hS hw, wP2 hS hw, wP4 hS hw, wP7 hS hw, wP9 hS hw, wT1 hS hw, wL1 hS hw, wT2 hS hw, wL2 hS hw, wT3 hS hw, wL3 hS hw, wT4 hS hw, wL4 hS hw, wT5 hS hw, wL5 hS hw, yT0, yP0, yT1, yL1, yP1, yT2, yL2, yP2, yT3, yL3, yP5, yT4, yL4, yP6, yT5, yL5, yP7, yT6, yL6, yP8, yT7, yL7, yP9, yT8, yL8, yP17, yT9, yL9, yP18, yT10, yL10, yP19, yT11, yL11, yP22, yT12, yL12, yP24, yT13, yL13, yP25, yT14, yL14, yP26, yT15, yL15, yP27, yT16, yL16, yP28, yT17, yL17, yP29, yT18, yL18, yP30, yT19, yL19, yP31, yT20, yL20, yP32, yT21, yL21, yP33, yT22, yL22, yP34, yT23, yL23, yP35, yT24, yL24, xP0_0w hS hw1, Xin_1, Xin_2, Xin_3, Xin_4, Xin_5, Xin_60, Xin_99, Xin_100, Xin_999, Rin_1, Rin_2, Rin_3, Rin_4, Rin_5, Rin_60, Rin_99, Rin_100, Rin_999, Rin1_3, Rin1_8, Rin1_30, Rin1_60, Rin1_99, XhasC hS hw hR hG, XhasS hS hw hR hG, RisC hG, RisS hG, RisW, RisSh, RisSl, ifB]
  refine Ok2.ite h (fun e1 => ?_)
  obtain ⟨k, hk, rfl⟩ := hasB_t e1 (by omega)
  rw [show (3 : Int32) = nI 3 from rfl, ifB1]
  refine Ok2.ite h (fun e2 => ?_)
  obtain ⟨u, hu1, hu3, rfl⟩ := hasB1_t e2 (by decide)
  by_cases e : nI u = 1
  · have e' : u = 1 := (nI_eq (a := u) (b := 1) (by omega) (by decide)).mp e
    rw [if_pos e, if_pos e]; exact fin k hk u hu1 hu3 _ _ _ (by rw [if_pos e']) (Xin_3 _ _) (Rin_3 _ _)
  · have e' : ¬ u = 1 := fun q => e (by rw [q]; rfl)
    rw [if_neg e, if_neg e]; exact fin k hk u hu1 hu3 _ _ _ (by rw [if_neg e']) (Xin_99 _ _) (Rin_99 _ _)
theorem op_away (h : Sm I X S J nc ns nt) (a b : Int32) : Ok2 (f_X9_away (I, X, S) 0 a b) (f_X10_away (J, YZ) 0 a b) := by
  have hS := h.rs.la
  obtain ⟨w, hw1⟩ : ∃ w, w = 1 := ⟨1, rfl⟩
  have hw : isW w := Or.inl hw1
  have hW : Wld I X S w (J 1) nc ns nt := by subst hw1; exact h.w
  have hR := hW.r
  have hG := hW.gn
  have hr := hW.gr
  have h8 := hG.2.1
  have h10 := hG.2.2.2.1
  rw [f_X9_away, f_X10_away]
  simp only [gt_self, gd_t, lp_some, st_d, nm_d, on_none, on_some, cl_some, mI_mk, mX_mk, setI_mk, u2_row, rowS_s, rowU_s, xT0 hS, xP0_1 hS, xP0_2 hS, xP0_3 hS, xP0_4 hS, xP0_5 hS, xP0_6 hS, xP0_7 hS, xP0_8 hS, xT73 hS, xP73_0 hS, xT74 hS, xL74 hS, xP73_1 hS, xT75 hS, xL75 hS, xP73_2 hS, xT76 hS, xL76 hS, xP73_3 hS, xT77 hS, xL77 hS, xT78 hS, xP78_0 hS, xT79 hS, xL79 hS, xT80 hS, xP80_0 hS, xP80_2 hS, xT81 hS, xL81 hS, xT82 hS, xL82 hS, xT83 hS, xL83 hS, xT84 hS, xL84 hS, xT85 hS, xL85 hS, wT hS hw, wP0 hS hw, wP2 hS hw, wP4 hS hw, wP7 hS hw, wP9 hS hw, wT1 hS hw, wL1 hS hw, wT2 hS hw, wL2 hS hw, wT3 hS hw, wL3 hS hw, wT4 hS hw, wL4 hS hw, wT5 hS hw, wL5 hS hw, yT0, yP0, yT1, yL1, yP1, yT2, yL2, yP2, yT3, yL3, yP5, yT4, yL4, yP6, yT5, yL5, yP7, yT6, yL6, yP8, yT7, yL7, yP9, yT8, yL8, yP17, yT9, yL9, yP18, yT10, yL10, yP19, yT11, yL11, yP22, yT12, yL12, yP24, yT13, yL13, yP25, yT14, yL14, yP26, yT15, yL15, yP27, yT16, yL16, yP28, yT17, yL17, yP29, yT18, yL18, yP30, yT19, yL19, yP31, yT20, yL20, yP32, yT21, yL21, yP33, yT22, yL22, yP34, yT23, yL23, yP35, yT24, yL24, xP0_0w hS hw1, Xin_1, Xin_2, Xin_3, Xin_4, Xin_5, Xin_60, Xin_99, Xin_100, Xin_999, Rin_1, Rin_2, Rin_3, Rin_4, Rin_5, Rin_60, Rin_99, Rin_100, Rin_999, Rin1_3, Rin1_8, Rin1_30, Rin1_60, Rin1_99, XhasC hS hw hR hG, XhasS hS hw hR hG, RisC hG, RisS hG, RisW, RisSh, RisSl, ifB]
  refine Ok2.ite h (fun e1 => Ok2.ite h (fun e2 => ?_))
  obtain ⟨s, hs, rfl⟩ := hasB_t e1 (by omega)
  obtain ⟨v, hv, rfl⟩ := hasB_t e2 (by decide)
  rw [gd_ok (ib_nI (by omega) (by decide)), nI_clamp (by omega), ix8_2, Rbecomes J (by omega)]
  simp only [wPs hS hw (show s < 10 by omega), wTs hS hw (show s < 10 by omega), gt_self, gd_t, lp_some, st_d, nm_d, on_none, on_some, cl_some, mI_mk, mX_mk, setI_mk, u2_row, rowS_s, rowU_s]
  rw [(hR.2.2.1 s hs).2.2]
  have hb : f_X9_bit (I, X, S) (J 1 (8 + 3 * s + 2)) = some (J 1 (8 + 3 * s + 2), (I, X, S)) := by
    rcases (hr.2 s hs).2.2 with q | q <;> rw [q]
    · exact Xbit0 _
    · exact Xbit1 _
  rw [hb]
  simp only [gt_self, gd_t, lp_some, st_d, nm_d, on_none, on_some, cl_some, mI_mk, mX_mk, setI_mk, u2_row, rowS_s, rowU_s, f_X9_away_52, wTs hS hw (show s < 10 by omega)]
  have e : v = 0 ∨ v = 1 := by omega
  rcases e with rfl | rfl
  · rw [if_neg (by decide), gd_ok (show isB 0 = true by rfl)]
    exact .mk (h.upd hw1 (rowS_s _ _ _) (hW.away hw hs (Or.inl rfl)) (fun a ha => rowS_n (by omega)) (fun a ha => rowS_n ha))
  · rw [if_pos (by decide), gd_ok (show isB 1 = true by rfl)]
    exact .mk (h.upd hw1 (rowS_s _ _ _) (hW.away hw hs (Or.inr rfl)) (fun a ha => rowS_n (by omega)) (fun a ha => rowS_n ha))
theorem op_stork (h : Sm I X S J nc ns nt) (a b : Int32) : Ok2 (f_X9_stork (I, X, S) 0 a b) (f_X10_stork (J, YZ) 0 a b) := by
  have hS := h.rs.la
  obtain ⟨w, hw1⟩ : ∃ w, w = 1 := ⟨1, rfl⟩
  have hw : isW w := Or.inl hw1
  have hW : Wld I X S w (J 1) nc ns nt := by subst hw1; exact h.w
  have hR := hW.r
  have hG := hW.gn
  have hr := hW.gr
  have h8 := hG.2.1
  have h10 := hG.2.2.2.1
  have fin : ∀ k, 1 ≤ k → k ≤ 99 → ∀ hmr, homeR b hmr → f_X10_stork_56 = f_X10_stork_56 → Ok2 (f_X9_stork_31 (I, X, S) 0 (nI k) b) (if nI ns = 10 then some (-1000000003, (J, YZ)) else f_X10_stork_56 (J, YZ) 0 (nI k) hmr) := by
    intro k h1 h2 hmr hh _
    rw [f_X9_stork_31]
    simp only [gt_self, gd_t, lp_some, st_d, nm_d, on_none, on_some, cl_some, mI_mk, mX_mk, setI_mk, u2_row, rowS_s, rowU_s, xT0 hS, xP0_1 hS, xP0_2 hS, xP0_3 hS, xP0_4 hS, xP0_5 hS, xP0_6 hS, xP0_7 hS, xP0_8 hS, xT73 hS, xP73_0 hS, xT74 hS, xL74 hS, xP73_1 hS, xT75 hS, xL75 hS, xP73_2 hS, xT76 hS, xL76 hS, xP73_3 hS, xT77 hS, xL77 hS, xT78 hS, xP78_0 hS, xT79 hS, xL79 hS, xT80 hS, xP80_0 hS, xP80_2 hS, xT81 hS, xL81 hS, xT82 hS, xL82 hS, xT83 hS, xL83 hS, xT84 hS, xL84 hS, xT85 hS, xL85 hS, wT hS hw, wP0 hS hw, wP2 hS hw, wP4 hS hw, wP7 hS hw, wP9 hS hw, wT1 hS hw, wL1 hS hw, wT2 hS hw, wL2 hS hw, wT3 hS hw, wL3 hS hw, wT4 hS hw, wL4 hS hw, wT5 hS hw, wL5 hS hw, yT0, yP0, yT1, yL1, yP1, yT2, yL2, yP2, yT3, yL3, yP5, yT4, yL4, yP6, yT5, yL5, yP7, yT6, yL6, yP8, yT7, yL7, yP9, yT8, yL8, yP17, yT9, yL9, yP18, yT10, yL10, yP19, yT11, yL11, yP22, yT12, yL12, yP24, yT13, yL13, yP25, yT14, yL14, yP26, yT15, yL15, yP27, yT16, yL16, yP28, yT17, yL17, yP29, yT18, yL18, yP30, yT19, yL19, yP31, yT20, yL20, yP32, yT21, yL21, yP33, yT22, yL22, yP34, yT23, yL23, yP35, yT24, yL24, xP0_0w hS hw1, Xin_1, Xin_2, Xin_3, Xin_4, Xin_5, Xin_60, Xin_99, Xin_100, Xin_999, Rin_1, Rin_2, Rin_3, Rin_4, Rin_5, Rin_60, Rin_99, Rin_100, Rin_999, Rin1_3, Rin1_8, Rin1_30, Rin1_60, Rin1_99, XhasC hS hw hR hG, XhasS hS hw hR hG, RisC hG, RisS hG, RisW, RisSh, RisSl, ifB]
    by_cases h9 : ns < 10
    · obtain ⟨I', e, hR', hI'⟩ := Xhatch hS hw hR hG.2.2.1 h8 h9 (nI k) b hmr hh
      have hne : ¬ nI ns = (10 : Int32) := fun q => absurd ((nI_eq (a := ns) (b := 10) (by omega) (by decide)).mp q) (by omega)
      rw [e, if_neg hne, f_X10_stork_56]
      simp only [gt_self, gd_t, lp_some, st_d, nm_d, on_none, on_some, cl_some, mI_mk, mX_mk, setI_mk, u2_row, rowS_s, rowU_s, yT0, yP0, yT1, yL1, yP1, yT2, yL2, yP2, yT3, yL3, yP5, yT4, yL4, yP6, yT5, yL5, yP7, yT6, yL6, yP8, yT7, yL7, yP9, yT8, yL8, yP17, yT9, yL9, yP18, yT10, yL10, yP19, yT11, yL11, yP22, yT12, yL12, yP24, yT13, yL13, yP25, yT14, yL14, yP26, yT15, yL15, yP27, yT16, yL16, yP28, yT17, yL17, yP29, yT18, yL18, yP30, yT19, yL19, yP31, yT20, yL20, yP32, yT21, yL21, yP33, yT22, yL22, yP34, yT23, yL23, yP35, yT24, yL24]
      rw [Rhatches rfl hG.2.2.1 h9]
      simp only [gt_self, gd_t, lp_some, st_d, nm_d, on_none, on_some, cl_some, mI_mk, mX_mk, setI_mk, u2_row, rowS_s, rowU_s]
      have hh2 : hmr = -1 ∨ ∃ c, c < 8 ∧ hmr = nI c := by
        rcases hh with ⟨_, q⟩ | ⟨c, hc, _, q⟩
        · exact Or.inl q
        · exact Or.inr ⟨c, hc, q⟩
      exact .mk (h.upd hw1 (rowS_s _ _ _) (hW.hatch h9 h2 hh2 hR') (fun a ha => hI' a (by omega) (by omega)) (fun a ha => rowS_n ha))
    · have e9 : ns = 10 := by omega
      rw [XhatchF hS hw hW h9, if_pos (by rw [e9]; rfl)]
      simp only [gt_self, gd_t, lp_some, st_d, nm_d, on_none, on_some, cl_some, mI_mk, mX_mk, setI_mk, u2_row, rowS_s, rowU_s]
      exact .mk h
  rw [f_X9_stork, f_X10_stork]
  simp only [gt_self, gd_t, lp_some, st_d, nm_d, on_none, on_some, cl_some, mI_mk, mX_mk, setI_mk, u2_row, rowS_s, rowU_s, xT0 hS, xP0_1 hS, xP0_2 hS, xP0_3 hS, xP0_4 hS, xP0_5 hS, xP0_6 hS, xP0_7 hS, xP0_8 hS, xT73 hS, xP73_0 hS, xT74 hS, xL74 hS, xP73_1 hS, xT75 hS, xL75 hS, xP73_2 hS, xT76 hS, xL76 hS, xP73_3 hS, xT77 hS, xL77 hS, xT78 hS, xP78_0 hS, xT79 hS, xL79 hS, xT80 hS, xP80_0 hS, xP80_2 hS, xT81 hS, xL81 hS, xT82 hS, xL82 hS, xT83 hS, xL83 hS, xT84 hS, xL84 hS, xT85 hS, xL85 hS, wT hS hw, wP0 hS hw, wP2 hS hw, wP4 hS hw, wP7 hS hw, wP9 hS hw, wT1 hS hw, wL1 hS hw, wT2 hS hw, wL2 hS hw, wT3 hS hw, wL3 hS hw, wT4 hS hw, wL4 hS hw, wT5 hS hw, wL5 hS hw, yT0, yP0, yT1, yL1, yP1, yT2, yL2, yP2, yT3, yL3, yP5, yT4, yL4, yP6, yT5, yL5, yP7, yT6, yL6, yP8, yT7, yL7, yP9, yT8, yL8, yP17, yT9, yL9, yP18, yT10, yL10, yP19, yT11, yL11, yP22, yT12, yL12, yP24, yT13, yL13, yP25, yT14, yL14, yP26, yT15, yL15, yP27, yT16, yL16, yP28, yT17, yL17, yP29, yT18, yL18, yP30, yT19, yL19, yP31, yT20, yL20, yP32, yT21, yL21, yP33, yT22, yL22, yP34, yT23, yL23, yP35, yT24, yL24, xP0_0w hS hw1, Xin_1, Xin_2, Xin_3, Xin_4, Xin_5, Xin_60, Xin_99, Xin_100, Xin_999, Rin_1, Rin_2, Rin_3, Rin_4, Rin_5, Rin_60, Rin_99, Rin_100, Rin_999, Rin1_3, Rin1_8, Rin1_30, Rin1_60, Rin1_99, XhasC hS hw hR hG, XhasS hS hw hR hG, RisC hG, RisS hG, RisW, RisSh, RisSl, ifB, f_X10_stork_27, il2 (show 2 < 1442 by decide), tn2]
  rw [show (99 : Int32) = nI 99 from rfl, ifB1, hG.2.2.1]
  refine Ok2.ite h (fun e1 => ?_)
  obtain ⟨k, hk1, hk2, rfl⟩ := hasB1_t e1 (by decide)
  by_cases e : b = -1000000005
  · simp only [if_pos e]
    exact fin k hk1 hk2 (-1) (Or.inl ⟨e, rfl⟩) rfl
  · simp only [if_neg e]
    refine Ok2.ite h (fun e2 => ?_)
    obtain ⟨c, hc, rfl⟩ := hasB_t e2 (by omega)
    exact fin k hk1 hk2 (nI c) (Or.inr ⟨c, by omega, rfl, rfl⟩) rfl
theorem op_likes (h : Sm I X S J nc ns nt) (a b : Int32) : Ok2 (f_X9_likes (I, X, S) 0 a b) (f_X10_likes (J, YZ) 0 a b) := by
  have hS := h.rs.la
  obtain ⟨w, hw1⟩ : ∃ w, w = 1 := ⟨1, rfl⟩
  have hw : isW w := Or.inl hw1
  have hW : Wld I X S w (J 1) nc ns nt := by subst hw1; exact h.w
  have hR := hW.r
  have hG := hW.gn
  have hr := hW.gr
  have h8 := hG.2.1
  have h10 := hG.2.2.2.1
  rw [f_X9_likes, f_X10_likes]
  simp only [gt_self, gd_t, lp_some, st_d, nm_d, on_none, on_some, cl_some, mI_mk, mX_mk, setI_mk, u2_row, rowS_s, rowU_s, xT0 hS, xP0_1 hS, xP0_2 hS, xP0_3 hS, xP0_4 hS, xP0_5 hS, xP0_6 hS, xP0_7 hS, xP0_8 hS, xT73 hS, xP73_0 hS, xT74 hS, xL74 hS, xP73_1 hS, xT75 hS, xL75 hS, xP73_2 hS, xT76 hS, xL76 hS, xP73_3 hS, xT77 hS, xL77 hS, xT78 hS, xP78_0 hS, xT79 hS, xL79 hS, xT80 hS, xP80_0 hS, xP80_2 hS, xT81 hS, xL81 hS, xT82 hS, xL82 hS, xT83 hS, xL83 hS, xT84 hS, xL84 hS, xT85 hS, xL85 hS, wT hS hw, wP0 hS hw, wP2 hS hw, wP4 hS hw, wP7 hS hw, wP9 hS hw, wT1 hS hw, wL1 hS hw, wT2 hS hw, wL2 hS hw, wT3 hS hw, wL3 hS hw, wT4 hS hw, wL4 hS hw, wT5 hS hw, wL5 hS hw, yT0, yP0, yT1, yL1, yP1, yT2, yL2, yP2, yT3, yL3, yP5, yT4, yL4, yP6, yT5, yL5, yP7, yT6, yL6, yP8, yT7, yL7, yP9, yT8, yL8, yP17, yT9, yL9, yP18, yT10, yL10, yP19, yT11, yL11, yP22, yT12, yL12, yP24, yT13, yL13, yP25, yT14, yL14, yP26, yT15, yL15, yP27, yT16, yL16, yP28, yT17, yL17, yP29, yT18, yL18, yP30, yT19, yL19, yP31, yT20, yL20, yP32, yT21, yL21, yP33, yT22, yL22, yP34, yT23, yL23, yP35, yT24, yL24, xP0_0w hS hw1, Xin_1, Xin_2, Xin_3, Xin_4, Xin_5, Xin_60, Xin_99, Xin_100, Xin_999, Rin_1, Rin_2, Rin_3, Rin_4, Rin_5, Rin_60, Rin_99, Rin_100, Rin_999, Rin1_3, Rin1_8, Rin1_30, Rin1_60, Rin1_99, XhasC hS hw hR hG, XhasS hS hw hR hG, RisC hG, RisS hG, RisW, RisSh, RisSl, ifB]
  refine Ok2.ite h (fun e1 => Ok2.ite h (fun e2 => ?_))
  obtain ⟨s, hs, rfl⟩ := hasB_t e1 (by omega)
  obtain ⟨c, hc, rfl⟩ := hasB_t e2 (by omega)
  rw [gd_ok (ib_nI (by omega) (by decide)), nI_clamp (by omega)]
  simp only [wPs hS hw (show s < 10 by omega), wTs hS hw (show s < 10 by omega), gt_self, gd_t, lp_some, st_d, nm_d, on_none, on_some, cl_some, mI_mk, mX_mk, setI_mk, u2_row, rowS_s, rowU_s, f_X9_likes_51, Xbit0, Xbit1, wT hS hw]
  obtain ⟨K, eK, hK⟩ := RlikesOf hG (show s < 10 by omega) (show c < 8 by omega)
  rw [eK]
  simp only [gt_self, gd_t, lp_some, st_d, nm_d, on_none, on_some, cl_some, mI_mk, mX_mk, setI_mk, u2_row, rowS_s, rowU_s]
  have fin : ∀ (hv : Int32) (hh : hv = 0 ∨ hv = 1), homeM (J 1) s c = hv → Ok2 (cl (f_X8_liking (I, X, S) w (nI c) hv) fun r5 M4 => some (r5, M4)) (some (likesM (J 1) nt c (homeM (J 1) s c), (K, YZ))) := by
    intro hv hh he
    obtain ⟨I', e, hI'⟩ := Xliking hS hw hR hG hr hc hh
    rw [e, he]
    simp only [gt_self, gd_t, lp_some, st_d, nm_d, on_none, on_some, cl_some, mI_mk, mX_mk, setI_mk, u2_row, rowS_s, rowU_s]
    exact .mk (h.same (fun a ha => hI' a (by unfold ownX ownW at ha; omega)) (fun a ha => hK a (by unfold ownY at ha; omega) (by unfold ownY at ha; omega)))
  have hi := home_iff (hR.2.2.1 s hs).2.1 (show c < 8 by omega)
  by_cases e : I (w + 14 + s) 1 = nI c
  · rw [if_pos e]
    exact fin 1 (Or.inr rfl) (if_pos (hi.mp e))
  · rw [if_neg e]
    exact fin 0 (Or.inl rfl) (if_neg (fun q => e (hi.mpr q)))
end OpA
