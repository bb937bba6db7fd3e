/-! WHAT IS ONLY THOUGHT: brings, behind, driven, frogs -/
theorem RthLoop : ∀ (d k fu : Nat) (K : Nat → Nat → Int32), k + d = 70 → d < fu → (∀ j, j < k → K 7 j = K 1 j) →
    ∃ J', f_X10_thinks_2 fu (K, YZ) 0 (nI k) = some ((), (J', YZ)) ∧ (∀ j, j < 70 → J' 7 j = K 1 j) ∧ ∀ a, a ≠ 7 → J' a = K a := by
  intro d
  induction d with
  | zero =>
    intro k fu K hk hf h
    obtain ⟨fu, rfl⟩ : ∃ m, fu = m + 1 := ⟨fu - 1, by omega⟩
    have hk : k = 70 := by omega
    subst hk
    rw [f_X10_thinks_2, if_pos (show (70 : Int32) ≤ nI 70 by decide)]
    exact ⟨K, rfl, h, fun _ _ => rfl⟩
  | succ d ih =>
    intro k fu K hk hf h
    obtain ⟨fu, rfl⟩ : ∃ m, fu = m + 1 := ⟨fu - 1, by omega⟩
    rw [f_X10_thinks_2, if_neg (show ¬ (70 : Int32) ≤ nI k from nI_ge (b := 70) (by omega) (by decide))]
    simp only [gt_self, gd_t, lp_some, st_d, nm_d, on_none, on_some, cl_some, mI_mk, mX_mk, setI_mk, u2_row, rowS_s, rowU_s, yT0, yP0, yT1, yL1, yP1, yT2, yL2, yP2, yT3, yL3, yP5, yT4, yL4, yP6, yT5, yL5, yP7, yT6, yL6, yP8, yT7, yL7, yP9, yT8, yL8, yP17, yT9, yL9, yP18, yT10, yL10, yP19, yT11, yL11, yP22, yT12, yL12, yP24, yT13, yL13, yP25, yT14, yL14, yP26, yT15, yL15, yP27, yT16, yL16, yP28, yT17, yL17, yP29, yT18, yL18, yP30, yT19, yL19, yP31, yT20, yL20, yP32, yT21, yL21, yP33, yT22, yL22, yP34, yT23, yL23, yP35, yT24, yL24, gd_ok (ib_nI (show k < 70 by omega) (show 70 < 2 ^ 31 by decide)), gd_ok (ib_nI (show k < 1442 by omega) (show 1442 < 2 ^ 31 by decide)), nI_clamp (show k < 2 ^ 31 by omega)]
    rw [nI_1]
    obtain ⟨J', e, a, b⟩ := ih (k + 1) fu (rowS K 7 (rowU (K 7) k (K 1 k))) (by omega) (by omega) (fun j hj => by
      rw [rowS_s, rowS_n (show (1 : Nat) ≠ 7 by decide)]
      by_cases e : j = k
      · rw [e, rowU_s]
      · rw [rowU_n e]; exact h j (by omega))
    exact ⟨J', e, fun j hj => (a j hj).trans (by rw [rowS_n (show (1 : Nat) ≠ 7 by decide)]), fun x hx => (b x hx).trans (rowS_n hx)⟩
theorem Rthinks (K : Nat → Nat → Int32) : ∃ J', f_X10_thinks (K, YZ) 0 = some ((), (J', YZ)) ∧ (∀ j, j < 70 → J' 7 j = K 1 j) ∧ ∀ a, a ≠ 7 → J' a = K a := by
  rw [f_X10_thinks]
  exact RthLoop 70 0 FU K (by omega) (FU_ge (by omega)) (fun j hj => absurd hj (by omega))
theorem RpbLoop {N : Nat → Int32} : ∀ (d k fu : Nat) (K : Nat → Nat → Int32), k + d = 70 → d < fu → (∀ j, j < 70 → K 7 j = N j) → (∀ j, j < k ∨ 70 ≤ j → K 1 j = N j) →
    ∃ J', f_X10_putsBack_2 fu (K, YZ) 0 (nI k) = some ((), (J', YZ)) ∧ J' 1 = N ∧ ∀ a, a ≠ 1 → J' a = K a := by
  intro d
  induction d with
  | zero =>
    intro k fu K hk hf h7 h
    obtain ⟨fu, rfl⟩ : ∃ m, fu = m + 1 := ⟨fu - 1, by omega⟩
    have hk : k = 70 := by omega
    subst hk
    rw [f_X10_putsBack_2, if_pos (show (70 : Int32) ≤ nI 70 by decide)]
    exact ⟨K, rfl, funext (fun j => h j (by omega)), fun _ _ => rfl⟩
  | succ d ih =>
    intro k fu K hk hf h7 h
    obtain ⟨fu, rfl⟩ : ∃ m, fu = m + 1 := ⟨fu - 1, by omega⟩
    rw [f_X10_putsBack_2, if_neg (show ¬ (70 : Int32) ≤ nI k from nI_ge (b := 70) (by omega) (by decide))]
    simp only [gt_self, gd_t, lp_some, st_d, nm_d, on_none, on_some, cl_some, mI_mk, mX_mk, setI_mk, u2_row, rowS_s, rowU_s, yT0, yP0, yT1, yL1, yP1, yT2, yL2, yP2, yT3, yL3, yP5, yT4, yL4, yP6, yT5, yL5, yP7, yT6, yL6, yP8, yT7, yL7, yP9, yT8, yL8, yP17, yT9, yL9, yP18, yT10, yL10, yP19, yT11, yL11, yP22, yT12, yL12, yP24, yT13, yL13, yP25, yT14, yL14, yP26, yT15, yL15, yP27, yT16, yL16, yP28, yT17, yL17, yP29, yT18, yL18, yP30, yT19, yL19, yP31, yT20, yL20, yP32, yT21, yL21, yP33, yT22, yL22, yP34, yT23, yL23, yP35, yT24, yL24, gd_ok (ib_nI (show k < 70 by omega) (show 70 < 2 ^ 31 by decide)), gd_ok (ib_nI (show k < 1442 by omega) (show 1442 < 2 ^ 31 by decide)), nI_clamp (show k < 2 ^ 31 by omega)]
    rw [nI_1]
    obtain ⟨J', e, a, b⟩ := ih (k + 1) fu (rowS K 1 (rowU (K 1) k (K 7 k))) (by omega) (by omega) (fun j hj => by rw [rowS_n (by decide)]; exact h7 j hj) (fun j hj => by
      rw [rowS_s]
      by_cases e : j = k
      · rw [e, rowU_s]; exact h7 k (by omega)
      · rw [rowU_n e]; exact h j (by omega))
    exact ⟨J', e, a, fun x hx => (b x hx).trans (rowS_n hx)⟩
theorem RputsBack {N : Nat → Int32} (K : Nat → Nat → Int32) (h7 : ∀ j, j < 70 → K 7 j = N j) (h : ∀ j, 70 ≤ j → K 1 j = N j) : ∃ J', f_X10_putsBack (K, YZ) 0 = some ((), (J', YZ)) ∧ J' 1 = N ∧ ∀ a, a ≠ 1 → J' a = K a := by
  rw [f_X10_putsBack]
  exact RpbLoop 70 0 FU K (by omega) (FU_ge (by omega)) h7 (fun j hj => h j (by omega))
theorem nests_congr {N N' : Nat → Int32} (he : ∀ j, 38 ≤ j → N' j = N j) (g : Nat → Option Nat) (w : Nat) : ∀ c, nestsM N' g w c = nestsM N g w c
  | 0 => rfl
  | c + 1 => by rw [nestsM_s, nestsM_s, nests_congr he g w c, he _ (by omega)]
theorem cnt_congr {N N' : Nat → Int32} (he : ∀ j, 70 ≤ j → N' j = N j) (key : Nat) : ∀ t, cntM N' key t = cntM N key t
  | 0 => rfl
  | t + 1 => by unfold cntM kyN; rw [cnt_congr he key t, he _ (by omega)]
theorem seats_congr {N N' : Nat → Int32} (he : ∀ j, 38 ≤ j → N' j = N j) (nc nt : Nat) (g : Nat → Option Nat) : seatsM N' nc nt g = seatsM N nc nt g := by
  funext w
  unfold seatsM seatM
  rw [nests_congr he, cnt_congr (fun j hj => he j (by omega))]
  have e : ∀ t, sgN N' t = sgN N t := fun t => by funext k; unfold sgN; exact he _ (by omega)
  have e2 : ∀ t, cdN N' t = cdN N t := fun t => by unfold cdN; rw [he _ (by omega)]
  cases cntM N 1 nt with
  | none => rfl
  | some t => simp only [e, e2]
section OpD
variable {I : Nat → Nat → Int32} {X : Nat → Nat → Option Nat} {S : Sta} {J : Nat → Nat → Int32} {nc ns nt : Nat}
theorem op_brings (h : Sm I X S J nc ns nt) (a : Int32) : Ok2 (f_X9_brings (I, X, S) 0 a) (f_X10_brings (J, YZ) 0 a) := by
  have hS := h.rs.la
  obtain ⟨w, hw1⟩ : ∃ w, w = 1 := ⟨1, rfl⟩
  have hw : isW w := Or.inl hw1
  have hW : Wld I X S w (J 1) nc ns nt := by subst hw1; exact h.w
  have hR := hW.r
  have hG := hW.gn
  have hr := hW.gr
  have h8 := hG.2.1
  have h10 := hG.2.2.2.1
  rw [f_X9_brings, f_X10_brings]
  simp only [gt_self, gd_t, lp_some, st_d, nm_d, on_none, on_some, cl_some, mI_mk, mX_mk, setI_mk, u2_row, rowS_s, rowU_s, xT0 hS, xP0_1 hS, xP0_2 hS, xP0_3 hS, xP0_4 hS, xP0_5 hS, xP0_6 hS, xP0_7 hS, xP0_8 hS, xT73 hS, xP73_0 hS, xT74 hS, xL74 hS, xP73_1 hS, xT75 hS, xL75 hS, xP73_2 hS, xT76 hS, xL76 hS, xP73_3 hS, xT77 hS, xL77 hS, xT78 hS, xP78_0 hS, xT79 hS, xL79 hS, xT80 hS, xP80_0 hS, xP80_2 hS, xT81 hS, xL81 hS, xT82 hS, xL82 hS, xT83 hS, xL83 hS, xT84 hS, xL84 hS, xT85 hS, xL85 hS, wT hS hw, wP0 hS hw, wP2 hS hw, wP4 hS hw, wP7 hS hw, wP9 hS hw, wT1 hS hw, wL1 hS hw, wT2 hS hw, wL2 hS hw, wT3 hS hw, wL3 hS hw, wT4 hS hw, wL4 hS hw, wT5 hS hw, wL5 hS hw, yT0, yP0, yT1, yL1, yP1, yT2, yL2, yP2, yT3, yL3, yP5, yT4, yL4, yP6, yT5, yL5, yP7, yT6, yL6, yP8, yT7, yL7, yP9, yT8, yL8, yP17, yT9, yL9, yP18, yT10, yL10, yP19, yT11, yL11, yP22, yT12, yL12, yP24, yT13, yL13, yP25, yT14, yL14, yP26, yT15, yL15, yP27, yT16, yL16, yP28, yT17, yL17, yP29, yT18, yL18, yP30, yT19, yL19, yP31, yT20, yL20, yP32, yT21, yL21, yP33, yT22, yL22, yP34, yT23, yL23, yP35, yT24, yL24, xP0_0w hS hw1, Xin_1, Xin_2, Xin_3, Xin_4, Xin_5, Xin_60, Xin_99, Xin_100, Xin_999, Rin_1, Rin_2, Rin_3, Rin_4, Rin_5, Rin_60, Rin_99, Rin_100, Rin_999, Rin1_3, Rin1_8, Rin1_30, Rin1_60, Rin1_99, XhasC hS hw hR hG, XhasS hS hw hR hG, RisC hG, RisS hG, RisW, RisSh, RisSl, ifB]
  refine Ok2.ite h (fun e1 => ?_)
  obtain ⟨c, hc, rfl⟩ := hasB_t e1 (by omega)
  rw [gd_ok (ib_nI (by omega) (by decide)), nI_clamp (by omega)]
  simp only [wPc hS hw (show c < 8 by omega), wTc hS hw (show c < 8 by omega), gt_self, gd_t, lp_some, st_d, nm_d, on_none, on_some, cl_some, mI_mk, mX_mk, setI_mk, u2_row, rowS_s, rowU_s, xT0 hS, xP0_1 hS, xP0_2 hS, xP0_3 hS, xP0_4 hS, xP0_5 hS, xP0_6 hS, xP0_7 hS, xP0_8 hS, xT73 hS, xP73_0 hS, xT74 hS, xL74 hS, xP73_1 hS, xT75 hS, xL75 hS, xP73_2 hS, xT76 hS, xL76 hS, xP73_3 hS, xT77 hS, xL77 hS, xT78 hS, xP78_0 hS, xT79 hS, xL79 hS, xT80 hS, xP80_0 hS, xP80_2 hS, xT81 hS, xL81 hS, xT82 hS, xL82 hS, xT83 hS, xL83 hS, xT84 hS, xL84 hS, xT85 hS, xL85 hS, wT hS hw, wP0 hS hw, wP2 hS hw, wP4 hS hw, wP7 hS hw, wP9 hS hw, wT1 hS hw, wL1 hS hw, wT2 hS hw, wL2 hS hw, wT3 hS hw, wL3 hS hw, wT4 hS hw, wL4 hS hw, wT5 hS hw, wL5 hS hw, yT0, yP0, yT1, yL1, yP1, yT2, yL2, yP2, yT3, yL3, yP5, yT4, yL4, yP6, yT5, yL5, yP7, yT6, yL6, yP8, yT7, yL7, yP9, yT8, yL8, yP17, yT9, yL9, yP18, yT10, yL10, yP19, yT11, yL11, yP22, yT12, yL12, yP24, yT13, yL13, yP25, yT14, yL14, yP26, yT15, yL15, yP27, yT16, yL16, yP28, yT17, yL17, yP29, yT18, yL18, yP30, yT19, yL19, yP31, yT20, yL20, yP32, yT21, yL21, yP33, yT22, yL22, yP34, yT23, yL23, yP35, yT24, yL24, xP0_0w hS hw1, Xin_1, Xin_2, Xin_3, Xin_4, Xin_5, Xin_60, Xin_99, Xin_100, Xin_999, Rin_1, Rin_2, Rin_3, Rin_4, Rin_5, Rin_60, Rin_99, Rin_100, Rin_999, Rin1_3, Rin1_8, Rin1_30, Rin1_60, Rin1_99, XhasC hS hw hR hG, XhasS hS hw hR hG, RisC hG, RisS hG, RisW, RisSh, RisSl, ifB]
  obtain ⟨wd, hwd, ewd⟩ := (hr.1 c hc).2.1
  obtain ⟨I', J', x1, x2, h', j1, hsp, hsy, hL⟩ := setBoth h
  have hW' : Wld I' X S w (J' 1) nc ns nt := by subst hw1; exact h'.w
  have hR' := hW'.r
  have hG' := hW'.gn
  rw [← j1] at hsp hsy
  rw [x1, x2]
  simp only [gt_self, gd_t, lp_some, st_d, nm_d, on_none, on_some, cl_some, mI_mk, mX_mk, setI_mk, u2_row, rowS_s, rowU_s, xT0 hS, xP0_1 hS, xP0_2 hS, xP0_3 hS, xP0_4 hS, xP0_5 hS, xP0_6 hS, xP0_7 hS, xP0_8 hS, xT73 hS, xP73_0 hS, xT74 hS, xL74 hS, xP73_1 hS, xT75 hS, xL75 hS, xP73_2 hS, xT76 hS, xL76 hS, xP73_3 hS, xT77 hS, xL77 hS, xT78 hS, xP78_0 hS, xT79 hS, xL79 hS, xT80 hS, xP80_0 hS, xP80_2 hS, xT81 hS, xL81 hS, xT82 hS, xL82 hS, xT83 hS, xL83 hS, xT84 hS, xL84 hS, xT85 hS, xL85 hS, wT hS hw, wP0 hS hw, wP2 hS hw, wP4 hS hw, wP7 hS hw, wP9 hS hw, wT1 hS hw, wL1 hS hw, wT2 hS hw, wL2 hS hw, wT3 hS hw, wL3 hS hw, wT4 hS hw, wL4 hS hw, wT5 hS hw, wL5 hS hw, yT0, yP0, yT1, yL1, yP1, yT2, yL2, yP2, yT3, yL3, yP5, yT4, yL4, yP6, yT5, yL5, yP7, yT6, yL6, yP8, yT7, yL7, yP9, yT8, yL8, yP17, yT9, yL9, yP18, yT10, yL10, yP19, yT11, yL11, yP22, yT12, yL12, yP24, yT13, yL13, yP25, yT14, yL14, yP26, yT15, yL15, yP27, yT16, yL16, yP28, yT17, yL17, yP29, yT18, yL18, yP30, yT19, yL19, yP31, yT20, yL20, yP32, yT21, yL21, yP33, yT22, yL22, yP34, yT23, yL23, yP35, yT24, yL24, xP0_0w hS hw1, Xin_1, Xin_2, Xin_3, Xin_4, Xin_5, Xin_60, Xin_99, Xin_100, Xin_999, Rin_1, Rin_2, Rin_3, Rin_4, Rin_5, Rin_60, Rin_99, Rin_100, Rin_999, Rin1_3, Rin1_8, Rin1_30, Rin1_60, Rin1_99, XhasC hS hw hR hG, XhasS hS hw hR hG, RisC hG, RisS hG, RisW, RisSh, RisSl, ifB]
  rw [(hR.2.1 c hc).2.1, ewd, Rof1 (show c < 8 by omega), j1, ewd]
  simp only [gt_self, gd_t, lp_some, st_d, nm_d, on_none, on_some, cl_some, mI_mk, mX_mk, setI_mk, u2_row, rowS_s, rowU_s, xT0 hS, xP0_1 hS, xP0_2 hS, xP0_3 hS, xP0_4 hS, xP0_5 hS, xP0_6 hS, xP0_7 hS, xP0_8 hS, xT73 hS, xP73_0 hS, xT74 hS, xL74 hS, xP73_1 hS, xT75 hS, xL75 hS, xP73_2 hS, xT76 hS, xL76 hS, xP73_3 hS, xT77 hS, xL77 hS, xT78 hS, xP78_0 hS, xT79 hS, xL79 hS, xT80 hS, xP80_0 hS, xP80_2 hS, xT81 hS, xL81 hS, xT82 hS, xL82 hS, xT83 hS, xL83 hS, xT84 hS, xL84 hS, xT85 hS, xL85 hS, wT hS hw, wP0 hS hw, wP2 hS hw, wP4 hS hw, wP7 hS hw, wP9 hS hw, wT1 hS hw, wL1 hS hw, wT2 hS hw, wL2 hS hw, wT3 hS hw, wL3 hS hw, wT4 hS hw, wL4 hS hw, wT5 hS hw, wL5 hS hw, yT0, yP0, yT1, yL1, yP1, yT2, yL2, yP2, yT3, yL3, yP5, yT4, yL4, yP6, yT5, yL5, yP7, yT6, yL6, yP8, yT7, yL7, yP9, yT8, yL8, yP17, yT9, yL9, yP18, yT10, yL10, yP19, yT11, yL11, yP22, yT12, yL12, yP24, yT13, yL13, yP25, yT14, yL14, yP26, yT15, yL15, yP27, yT16, yL16, yP28, yT17, yL17, yP29, yT18, yL18, yP30, yT19, yL19, yP31, yT20, yL20, yP32, yT21, yL21, yP33, yT22, yL22, yP34, yT23, yL23, yP35, yT24, yL24, xP0_0w hS hw1, Xin_1, Xin_2, Xin_3, Xin_4, Xin_5, Xin_60, Xin_99, Xin_100, Xin_999, Rin_1, Rin_2, Rin_3, Rin_4, Rin_5, Rin_60, Rin_99, Rin_100, Rin_999, Rin1_3, Rin1_8, Rin1_30, Rin1_60, Rin1_99, XhasC hS hw hR hG, XhasS hS hw hR hG, RisC hG, RisS hG, RisW, RisSh, RisSl, ifB]
  obtain ⟨I2, y1, o1⟩ := Xseats hS hw hR' hG' wd hsp.2 (nests_hgl h10)
  obtain ⟨J2, y2, o2⟩ := RseatsOf (w := wd) hG' hsy.1 (nests_hgl h10)
  rw [y1, y2]
  simp only [gt_self, gd_t, lp_some, st_d, nm_d, on_none, on_some, cl_some, mI_mk, mX_mk, setI_mk, u2_row, rowS_s, rowU_s, xT0 hS, xP0_1 hS, xP0_2 hS, xP0_3 hS, xP0_4 hS, xP0_5 hS, xP0_6 hS, xP0_7 hS, xP0_8 hS, xT73 hS, xP73_0 hS, xT74 hS, xL74 hS, xP73_1 hS, xT75 hS, xL75 hS, xP73_2 hS, xT76 hS, xL76 hS, xP73_3 hS, xT77 hS, xL77 hS, xT78 hS, xP78_0 hS, xT79 hS, xL79 hS, xT80 hS, xP80_0 hS, xP80_2 hS, xT81 hS, xL81 hS, xT82 hS, xL82 hS, xT83 hS, xL83 hS, xT84 hS, xL84 hS, xT85 hS, xL85 hS, wT hS hw, wP0 hS hw, wP2 hS hw, wP4 hS hw, wP7 hS hw, wP9 hS hw, wT1 hS hw, wL1 hS hw, wT2 hS hw, wL2 hS hw, wT3 hS hw, wL3 hS hw, wT4 hS hw, wL4 hS hw, wT5 hS hw, wL5 hS hw, yT0, yP0, yT1, yL1, yP1, yT2, yL2, yP2, yT3, yL3, yP5, yT4, yL4, yP6, yT5, yL5, yP7, yT6, yL6, yP8, yT7, yL7, yP9, yT8, yL8, yP17, yT9, yL9, yP18, yT10, yL10, yP19, yT11, yL11, yP22, yT12, yL12, yP24, yT13, yL13, yP25, yT14, yL14, yP26, yT15, yL15, yP27, yT16, yL16, yP28, yT17, yL17, yP29, yT18, yL18, yP30, yT19, yL19, yP31, yT20, yL20, yP32, yT21, yL21, yP33, yT22, yL22, yP34, yT23, yL23, yP35, yT24, yL24, xP0_0w hS hw1, Xin_1, Xin_2, Xin_3, Xin_4, Xin_5, Xin_60, Xin_99, Xin_100, Xin_999, Rin_1, Rin_2, Rin_3, Rin_4, Rin_5, Rin_60, Rin_99, Rin_100, Rin_999, Rin1_3, Rin1_8, Rin1_30, Rin1_60, Rin1_99, XhasC hS hw hR hG, XhasS hS hw hR hG, RisC hG, RisS hG, RisW, RisSh, RisSl, ifB]
  have h2 : Sm I2 X S J2 nc ns nt := h'.same (fun a ha => o1 a (by unfold ownX ownW at ha; omega)) (fun a ha => o2 a (by unfold ownY at ha; omega) (by unfold ownY at ha; omega))
  have j21 : J2 1 = J 1 := by rw [o2 1 (by decide) (by decide)]; exact j1
  have hR2 : RelW I2 X S w (J 1) nc ns nt := by rw [← j21]; subst hw1; exact h2.w.r
  have hL2 : LkX I2 (J 1) nc nt := hL.same (o1 76 (by omega)) (o1 77 (by omega))
  generalize hsh : (fun x : Nat => decide (x = c)) = sh
  have hs2 : ∀ x, x < 8 → (nI x = nI c ↔ sh x = true) := fun x hx => by
    rw [← hsh]
    exact ⟨fun q => decide_eq_true ((nI_eq (by omega) (by omega)).mp q), fun q => by rw [of_decide_eq_true q]⟩
  obtain ⟨I3, y3, sp3, o3⟩ := Xsettle hS hw hR2 hG hr hL2 hs2
  rw [y3]
  simp only [gt_self, gd_t, lp_some, st_d, nm_d, on_none, on_some, cl_some, mI_mk, mX_mk, setI_mk, u2_row, rowS_s, rowU_s, xT0 hS, xP0_1 hS, xP0_2 hS, xP0_3 hS, xP0_4 hS, xP0_5 hS, xP0_6 hS, xP0_7 hS, xP0_8 hS, xT73 hS, xP73_0 hS, xT74 hS, xL74 hS, xP73_1 hS, xT75 hS, xL75 hS, xP73_2 hS, xT76 hS, xL76 hS, xP73_3 hS, xT77 hS, xL77 hS, xT78 hS, xP78_0 hS, xT79 hS, xL79 hS, xT80 hS, xP80_0 hS, xP80_2 hS, xT81 hS, xL81 hS, xT82 hS, xL82 hS, xT83 hS, xL83 hS, xT84 hS, xL84 hS, xT85 hS, xL85 hS, wT hS hw, wP0 hS hw, wP2 hS hw, wP4 hS hw, wP7 hS hw, wP9 hS hw, wT1 hS hw, wL1 hS hw, wT2 hS hw, wL2 hS hw, wT3 hS hw, wL3 hS hw, wT4 hS hw, wL4 hS hw, wT5 hS hw, wL5 hS hw, yT0, yP0, yT1, yL1, yP1, yT2, yL2, yP2, yT3, yL3, yP5, yT4, yL4, yP6, yT5, yL5, yP7, yT6, yL6, yP8, yT7, yL7, yP9, yT8, yL8, yP17, yT9, yL9, yP18, yT10, yL10, yP19, yT11, yL11, yP22, yT12, yL12, yP24, yT13, yL13, yP25, yT14, yL14, yP26, yT15, yL15, yP27, yT16, yL16, yP28, yT17, yL17, yP29, yT18, yL18, yP30, yT19, yL19, yP31, yT20, yL20, yP32, yT21, yL21, yP33, yT22, yL22, yP34, yT23, yL23, yP35, yT24, yL24, xP0_0w hS hw1, Xin_1, Xin_2, Xin_3, Xin_4, Xin_5, Xin_60, Xin_99, Xin_100, Xin_999, Rin_1, Rin_2, Rin_3, Rin_4, Rin_5, Rin_60, Rin_99, Rin_100, Rin_999, Rin1_3, Rin1_8, Rin1_30, Rin1_60, Rin1_99, XhasC hS hw hR hG, XhasS hS hw hR hG, RisC hG, RisS hG, RisW, RisSh, RisSl, ifB]
  have hR3 : RelW I3 X S w (J 1) nc ns nt := hR2.same h8 h10 (fun a ha => o3 a (by unfold ownW at ha; omega) (by unfold ownW at ha; omega))
  obtain ⟨I4, y4, o4⟩ := Xseats hS hw hR3 hG wd sp3.2 (nests_hgl h10)
  rw [y4]
  simp only [gt_self, gd_t, lp_some, st_d, nm_d, on_none, on_some, cl_some, mI_mk, mX_mk, setI_mk, u2_row, rowS_s, rowU_s, xT0 hS, xP0_1 hS, xP0_2 hS, xP0_3 hS, xP0_4 hS, xP0_5 hS, xP0_6 hS, xP0_7 hS, xP0_8 hS, xT73 hS, xP73_0 hS, xT74 hS, xL74 hS, xP73_1 hS, xT75 hS, xL75 hS, xP73_2 hS, xT76 hS, xL76 hS, xP73_3 hS, xT77 hS, xL77 hS, xT78 hS, xP78_0 hS, xT79 hS, xL79 hS, xT80 hS, xP80_0 hS, xP80_2 hS, xT81 hS, xL81 hS, xT82 hS, xL82 hS, xT83 hS, xL83 hS, xT84 hS, xL84 hS, xT85 hS, xL85 hS, wT hS hw, wP0 hS hw, wP2 hS hw, wP4 hS hw, wP7 hS hw, wP9 hS hw, wT1 hS hw, wL1 hS hw, wT2 hS hw, wL2 hS hw, wT3 hS hw, wL3 hS hw, wT4 hS hw, wL4 hS hw, wT5 hS hw, wL5 hS hw, yT0, yP0, yT1, yL1, yP1, yT2, yL2, yP2, yT3, yL3, yP5, yT4, yL4, yP6, yT5, yL5, yP7, yT6, yL6, yP8, yT7, yL7, yP9, yT8, yL8, yP17, yT9, yL9, yP18, yT10, yL10, yP19, yT11, yL11, yP22, yT12, yL12, yP24, yT13, yL13, yP25, yT14, yL14, yP26, yT15, yL15, yP27, yT16, yL16, yP28, yT17, yL17, yP29, yT18, yL18, yP30, yT19, yL19, yP31, yT20, yL20, yP32, yT21, yL21, yP33, yT22, yL22, yP34, yT23, yL23, yP35, yT24, yL24, xP0_0w hS hw1, Xin_1, Xin_2, Xin_3, Xin_4, Xin_5, Xin_60, Xin_99, Xin_100, Xin_999, Rin_1, Rin_2, Rin_3, Rin_4, Rin_5, Rin_60, Rin_99, Rin_100, Rin_999, Rin1_3, Rin1_8, Rin1_30, Rin1_60, Rin1_99, XhasC hS hw hR hG, XhasS hS hw hR hG, RisC hG, RisS hG, RisW, RisSh, RisSl, ifB]
  generalize hK : rowS J2 0 (rowU (J2 0) 4 (nI c)) = K
  have k1 : K 1 = J 1 := by rw [← hK, rowS_n (by decide)]; exact j21
  have k0 : K 0 4 = nI c := by rw [← hK, rowS_s, rowU_s]
  obtain ⟨J3, z3, sy3, p3⟩ := Rspring (I := K) (sh := sh) (by rw [k1]; exact hG) (fun x hx => by rw [k0]; exact hs2 x hx)
  rw [z3]
  simp only [gt_self, gd_t, lp_some, st_d, nm_d, on_none, on_some, cl_some, mI_mk, mX_mk, setI_mk, u2_row, rowS_s, rowU_s, xT0 hS, xP0_1 hS, xP0_2 hS, xP0_3 hS, xP0_4 hS, xP0_5 hS, xP0_6 hS, xP0_7 hS, xP0_8 hS, xT73 hS, xP73_0 hS, xT74 hS, xL74 hS, xP73_1 hS, xT75 hS, xL75 hS, xP73_2 hS, xT76 hS, xL76 hS, xP73_3 hS, xT77 hS, xL77 hS, xT78 hS, xP78_0 hS, xT79 hS, xL79 hS, xT80 hS, xP80_0 hS, xP80_2 hS, xT81 hS, xL81 hS, xT82 hS, xL82 hS, xT83 hS, xL83 hS, xT84 hS, xL84 hS, xT85 hS, xL85 hS, wT hS hw, wP0 hS hw, wP2 hS hw, wP4 hS hw, wP7 hS hw, wP9 hS hw, wT1 hS hw, wL1 hS hw, wT2 hS hw, wL2 hS hw, wT3 hS hw, wL3 hS hw, wT4 hS hw, wL4 hS hw, wT5 hS hw, wL5 hS hw, yT0, yP0, yT1, yL1, yP1, yT2, yL2, yP2, yT3, yL3, yP5, yT4, yL4, yP6, yT5, yL5, yP7, yT6, yL6, yP8, yT7, yL7, yP9, yT8, yL8, yP17, yT9, yL9, yP18, yT10, yL10, yP19, yT11, yL11, yP22, yT12, yL12, yP24, yT13, yL13, yP25, yT14, yL14, yP26, yT15, yL15, yP27, yT16, yL16, yP28, yT17, yL17, yP29, yT18, yL18, yP30, yT19, yL19, yP31, yT20, yL20, yP32, yT21, yL21, yP33, yT22, yL22, yP34, yT23, yL23, yP35, yT24, yL24, xP0_0w hS hw1, Xin_1, Xin_2, Xin_3, Xin_4, Xin_5, Xin_60, Xin_99, Xin_100, Xin_999, Rin_1, Rin_2, Rin_3, Rin_4, Rin_5, Rin_60, Rin_99, Rin_100, Rin_999, Rin1_3, Rin1_8, Rin1_30, Rin1_60, Rin1_99, XhasC hS hw hR hG, XhasS hS hw hR hG, RisC hG, RisS hG, RisW, RisSh, RisSl, ifB]
  rw [k1] at sy3
  have j31 : J3 1 = J 1 := (p3 1 (by unfold scY; omega)).trans k1
  have j30 : rowU (J3 0) 4 (-1) = J2 0 := by
    rw [p3 0 (by unfold scY; omega), ← hK, rowS_s]
    funext j
    by_cases e : j = 4
    · rw [e, rowU_s]; exact h2.rs.no.symm
    · rw [rowU_n e, rowU_n e]
  rw [j30]
  generalize hK4 : rowS J3 0 (J2 0) = K4
  have k41 : K4 1 = J 1 := by rw [← hK4, rowS_n (by decide)]; exact j31
  have k44 : K4 4 = J3 4 := by rw [← hK4, rowS_n (by decide)]
  rw [Rof1 (show c < 8 by omega), k41, ewd]
  simp only [gt_self, gd_t, lp_some, st_d, nm_d, on_none, on_some, cl_some, mI_mk, mX_mk, setI_mk, u2_row, rowS_s, rowU_s, xT0 hS, xP0_1 hS, xP0_2 hS, xP0_3 hS, xP0_4 hS, xP0_5 hS, xP0_6 hS, xP0_7 hS, xP0_8 hS, xT73 hS, xP73_0 hS, xT74 hS, xL74 hS, xP73_1 hS, xT75 hS, xL75 hS, xP73_2 hS, xT76 hS, xL76 hS, xP73_3 hS, xT77 hS, xL77 hS, xT78 hS, xP78_0 hS, xT79 hS, xL79 hS, xT80 hS, xP80_0 hS, xP80_2 hS, xT81 hS, xL81 hS, xT82 hS, xL82 hS, xT83 hS, xL83 hS, xT84 hS, xL84 hS, xT85 hS, xL85 hS, wT hS hw, wP0 hS hw, wP2 hS hw, wP4 hS hw, wP7 hS hw, wP9 hS hw, wT1 hS hw, wL1 hS hw, wT2 hS hw, wL2 hS hw, wT3 hS hw, wL3 hS hw, wT4 hS hw, wL4 hS hw, wT5 hS hw, wL5 hS hw, yT0, yP0, yT1, yL1, yP1, yT2, yL2, yP2, yT3, yL3, yP5, yT4, yL4, yP6, yT5, yL5, yP7, yT6, yL6, yP8, yT7, yL7, yP9, yT8, yL8, yP17, yT9, yL9, yP18, yT10, yL10, yP19, yT11, yL11, yP22, yT12, yL12, yP24, yT13, yL13, yP25, yT14, yL14, yP26, yT15, yL15, yP27, yT16, yL16, yP28, yT17, yL17, yP29, yT18, yL18, yP30, yT19, yL19, yP31, yT20, yL20, yP32, yT21, yL21, yP33, yT22, yL22, yP34, yT23, yL23, yP35, yT24, yL24, xP0_0w hS hw1, Xin_1, Xin_2, Xin_3, Xin_4, Xin_5, Xin_60, Xin_99, Xin_100, Xin_999, Rin_1, Rin_2, Rin_3, Rin_4, Rin_5, Rin_60, Rin_99, Rin_100, Rin_999, Rin1_3, Rin1_8, Rin1_30, Rin1_60, Rin1_99, XhasC hS hw hR hG, XhasS hS hw hR hG, RisC hG, RisS hG, RisW, RisSh, RisSl, ifB]
  obtain ⟨J5, z5, p5⟩ := RseatsOf (I := K4) (w := wd) (guest := (springM (J 1) nc ns nt sh).2.1) (by rw [k41]; exact hG) (fun x hx => by rw [k44]; exact sy3.1 x hx) (nests_hgl h10)
  rw [z5, k41]
  simp only [gt_self, gd_t, lp_some, st_d, nm_d, on_none, on_some, cl_some, mI_mk, mX_mk, setI_mk, u2_row, rowS_s, rowU_s, xT0 hS, xP0_1 hS, xP0_2 hS, xP0_3 hS, xP0_4 hS, xP0_5 hS, xP0_6 hS, xP0_7 hS, xP0_8 hS, xT73 hS, xP73_0 hS, xT74 hS, xL74 hS, xP73_1 hS, xT75 hS, xL75 hS, xP73_2 hS, xT76 hS, xL76 hS, xP73_3 hS, xT77 hS, xL77 hS, xT78 hS, xP78_0 hS, xT79 hS, xL79 hS, xT80 hS, xP80_0 hS, xP80_2 hS, xT81 hS, xL81 hS, xT82 hS, xL82 hS, xT83 hS, xL83 hS, xT84 hS, xL84 hS, xT85 hS, xL85 hS, wT hS hw, wP0 hS hw, wP2 hS hw, wP4 hS hw, wP7 hS hw, wP9 hS hw, wT1 hS hw, wL1 hS hw, wT2 hS hw, wL2 hS hw, wT3 hS hw, wL3 hS hw, wT4 hS hw, wL4 hS hw, wT5 hS hw, wL5 hS hw, yT0, yP0, yT1, yL1, yP1, yT2, yL2, yP2, yT3, yL3, yP5, yT4, yL4, yP6, yT5, yL5, yP7, yT6, yL6, yP8, yT7, yL7, yP9, yT8, yL8, yP17, yT9, yL9, yP18, yT10, yL10, yP19, yT11, yL11, yP22, yT12, yL12, yP24, yT13, yL13, yP25, yT14, yL14, yP26, yT15, yL15, yP27, yT16, yL16, yP28, yT17, yL17, yP29, yT18, yL18, yP30, yT19, yL19, yP31, yT20, yL20, yP32, yT21, yL21, yP33, yT22, yL22, yP34, yT23, yL23, yP35, yT24, yL24, xP0_0w hS hw1, Xin_1, Xin_2, Xin_3, Xin_4, Xin_5, Xin_60, Xin_99, Xin_100, Xin_999, Rin_1, Rin_2, Rin_3, Rin_4, Rin_5, Rin_60, Rin_99, Rin_100, Rin_999, Rin1_3, Rin1_8, Rin1_30, Rin1_60, Rin1_99, XhasC hS hw hR hG, XhasS hS hw hR hG, RisC hG, RisS hG, RisW, RisSh, RisSl, ifB]
  refine .mk (h2.same (fun a ha => by unfold ownX ownW at ha; exact (o4 a (by omega)).trans (o3 a (by omega) (by omega))) (fun a ha => ?_))
  unfold ownY at ha
  rw [p5 a (by omega) (by omega), ← hK4]
  by_cases e : a = 0
  · rw [e, rowS_s]
  · rw [rowS_n e, p3 a (by unfold scY; omega), ← hK, rowS_n e]
/-- the world now is thought: both sides -/
theorem thinkB (h : Sm I X S J nc ns nt) {w v : Nat} (hw1 : w = 1) (hv49 : v = 49) : ∃ I1 X1 J1, f_X8_take (I, X, S) v w = some ((), (I1, X1, S)) ∧ f_X10_thinks (J, YZ) 0 = some ((), (J1, YZ)) ∧ Sm I1 X1 S J1 nc ns nt ∧ J1 1 = J 1 ∧ (∀ j, j < 70 → J1 7 j = J 1 j) ∧ Wld I1 X1 S v (J 1) nc ns nt := by
  have hw : isW w := Or.inl hw1
  have hv : isW v := Or.inr (Or.inr hv49)
  have hW : Wld I X S w (J 1) nc ns nt := by subst hw1; exact h.w
  obtain ⟨I1, X1, e, hV, y, o⟩ := Xtake h.rs.la hv hw (by omega) hW
  obtain ⟨J1, e2, a, b⟩ := Rthinks J
  refine ⟨I1, X1, J1, e, e2, ?_, b 1 (by decide), a, hV⟩
  have hW1 : Wld I1 X1 S w (J 1) nc ns nt := hW.same (fun x hx => by unfold ownW at hx; exact o x (by omega) (by omega) (by omega)) (y _ (by omega)) rfl
  exact h.upd2 hw1 (b 1 (by decide)) hW1 (fun x hx => by unfold ownX ownW at hx; exact o x (by omega) (by omega) (by omega)) (y 29 (by omega)) (fun x hx => b x (by unfold ownY at hx; omega))
theorem Xbeh {w : Nat} (hS : LaS S) (hv : isW w) (hv49 : w = 49) {N : Nat → Int32} (hG : GN N nc ns nt) {n : Nat} (hn : n ≤ 60) (what : Int32) : ∀ (d k fu : Nat) (K : Nat → Nat → Int32), k + d = n → d < fu → LV K X S w N nc ns nt k → (∀ a, a ≠ 74 → a ≠ 75 → a ≠ 76 → a ≠ 77 → (a < w ∨ w + 24 ≤ a) → K a = I a) →
    ∃ K1, f_X9_behind_44 fu (K, X, S) 0 (nI n) what (nI k) = f_X9_behind_44 1 (K1, X, S) 0 (nI n) what (nI n) ∧ LV K1 X S w N nc ns nt n ∧ ∀ a, a ≠ 74 → a ≠ 75 → a ≠ 76 → a ≠ 77 → (a < w ∨ w + 24 ≤ a) → K1 a = I a := by
  intro d
  induction d with
  | zero =>
    intro k fu K hk hf h hK
    obtain ⟨fu, rfl⟩ : ∃ m, fu = m + 1 := ⟨fu - 1, by omega⟩
    have hk : k = n := by omega
    subst hk
    refine ⟨K, ?_, h, hK⟩
    rw [f_X9_behind_44, if_pos (nI_le (Nat.le_refl k) (by omega)), f_X9_behind_44, if_pos (nI_le (Nat.le_refl k) (by omega))]
  | succ d ih =>
    intro k fu K hk hf h hK
    obtain ⟨fu, rfl⟩ : ∃ m, fu = m + 1 := ⟨fu - 1, by omega⟩
    obtain ⟨K2, e, h2, o⟩ := LV_s hS hv hG h
    rw [f_X9_behind_44, if_neg (nI_ge (by omega) (by omega))]
    simp only [gt_self, gd_t, lp_some, st_d, nm_d, on_none, on_some, cl_some, mI_mk, mX_mk, setI_mk, u2_row, rowS_s, rowU_s, xT0 hS, xP0_0 hS, xP0_1 hS, xP0_3 hS, xP0_4 hS, xP0_5 hS, xP0_6 hS, xP0_7 hS, xP0_8 hS, xT73 hS, xP73_0 hS, xT74 hS, xL74 hS, xP73_1 hS, xT75 hS, xL75 hS, xP73_2 hS, xT76 hS, xL76 hS, xP73_3 hS, xT77 hS, xL77 hS, xT78 hS, xP78_0 hS, xT79 hS, xL79 hS, xT80 hS, xP80_0 hS, xP80_2 hS, xT81 hS, xL81 hS, xT82 hS, xL82 hS, xT83 hS, xL83 hS, xT84 hS, xL84 hS, xT85 hS, xL85 hS, xP0_2w hS hv49, wT hS hv, wP0 hS hv, wP2 hS hv, wP4 hS hv, wP7 hS hv, wP9 hS hv, wT1 hS hv, wL1 hS hv, wT2 hS hv, wL2 hS hv, wT3 hS hv, wL3 hS hv, wT4 hS hv, wL4 hS hv, wT5 hS hv, wL5 hS hv]
    rw [e]
    simp only [gt_self, gd_t, lp_some, st_d, nm_d, on_none, on_some, cl_some, mI_mk, mX_mk, setI_mk, u2_row, rowS_s, rowU_s, xT0 hS, xP0_0 hS, xP0_1 hS, xP0_3 hS, xP0_4 hS, xP0_5 hS, xP0_6 hS, xP0_7 hS, xP0_8 hS, xT73 hS, xP73_0 hS, xT74 hS, xL74 hS, xP73_1 hS, xT75 hS, xL75 hS, xP73_2 hS, xT76 hS, xL76 hS, xP73_3 hS, xT77 hS, xL77 hS, xT78 hS, xP78_0 hS, xT79 hS, xL79 hS, xT80 hS, xP80_0 hS, xP80_2 hS, xT81 hS, xL81 hS, xT82 hS, xL82 hS, xT83 hS, xL83 hS, xT84 hS, xL84 hS, xT85 hS, xL85 hS, xP0_2w hS hv49, wT hS hv, wP0 hS hv, wP2 hS hv, wP4 hS hv, wP7 hS hv, wP9 hS hv, wT1 hS hv, wL1 hS hv, wT2 hS hv, wL2 hS hv, wT3 hS hv, wL3 hS hv, wT4 hS hv, wL4 hS hv, wT5 hS hv, wL5 hS hv]
    rw [nI_1]
    exact ih (k + 1) fu K2 (by omega) (by omega) h2 (fun a a1 a2 a3 a4 a5 => (o a a1 a2 (by omega) (by omega)).trans (hK a a1 a2 a3 a4 a5))
end OpD
