/-! behind, driven, frogs -/
section OpE
variable {I : Nat → Nat → Int32} {X : Nat → Nat → Option Nat} {S : Sta} {J : Nat → Nat → Int32} {nc ns nt : Nat}
/-- the reference puts back what it kept -/
theorem pbB (h : Sm I X S J nc ns nt) {I' : Nat → Nat → Int32} {K : Nat → Nat → Int32} (h7 : ∀ j, j < 70 → K 7 j = J 1 j) (h1 : ∀ j, 70 ≤ j → K 1 j = J 1 j) (hK : ∀ a, ownY a → K a = J a) (hI : ∀ a, ownW 1 a ∨ ownX a → I' a = I a) : ∃ J', f_X10_putsBack (K, YZ) 0 = some ((), (J', YZ)) ∧ Sm I' X S J' nc ns nt ∧ J' 1 = J 1 ∧ ∀ a, a ≠ 1 → J' a = K a := by
  obtain ⟨J', e, a, b⟩ := RputsBack K h7 h1
  refine ⟨J', e, h.same hI (fun x hx => ?_), a, b⟩
  rcases hx with rfl | hx
  · exact a
  · rw [b x (by unfold ownY at hx; omega)]; exact hK x hx
theorem op_behind (h : Sm I X S J nc ns nt) (a b : Int32) : Ok2 (f_X9_behind (I, X, S) 0 a b) (f_X10_behind (J, YZ) 0 a b) := by
  have hS := h.rs.la
  obtain ⟨w, hw1⟩ : ∃ w, w = 1 := ⟨1, rfl⟩
  have hw : isW w := Or.inl hw1
  have hW : Wld I X S w (J 1) nc ns nt := by subst hw1; exact h.w
  have hR := hW.r
  have hG := hW.gn
  have hr := hW.gr
  have h8 := hG.2.1
  have h10 := hG.2.2.2.1
  obtain ⟨v, hv49⟩ : ∃ v, v = 49 := ⟨49, rfl⟩
  have hv : isW v := Or.inr (Or.inr hv49)
  rw [f_X9_behind, f_X10_behind]
  simp only [gt_self, gd_t, lp_some, st_d, nm_d, on_none, on_some, cl_some, mI_mk, mX_mk, setI_mk, u2_row, rowS_s, rowU_s, xT0 hS, xP0_1 hS, xP0_3 hS, xP0_4 hS, xP0_5 hS, xP0_6 hS, xP0_7 hS, xP0_8 hS, xT73 hS, xP73_0 hS, xT74 hS, xL74 hS, xP73_1 hS, xT75 hS, xL75 hS, xP73_2 hS, xT76 hS, xL76 hS, xP73_3 hS, xT77 hS, xL77 hS, xT78 hS, xP78_0 hS, xT79 hS, xL79 hS, xT80 hS, xP80_0 hS, xP80_2 hS, xT81 hS, xL81 hS, xT82 hS, xL82 hS, xT83 hS, xL83 hS, xT84 hS, xL84 hS, xT85 hS, xL85 hS, wT hS hw, wP0 hS hw, wP2 hS hw, wP4 hS hw, wP7 hS hw, wP9 hS hw, wT1 hS hw, wL1 hS hw, wT2 hS hw, wL2 hS hw, wT3 hS hw, wL3 hS hw, wT4 hS hw, wL4 hS hw, wT5 hS hw, wL5 hS hw, yT0, yP0, yT1, yL1, yP1, yT2, yL2, yP2, yT3, yL3, yP5, yT4, yL4, yP6, yT5, yL5, yP7, yT6, yL6, yP8, yT7, yL7, yP9, yT8, yL8, yP17, yT9, yL9, yP18, yT10, yL10, yP19, yT11, yL11, yP22, yT12, yL12, yP24, yT13, yL13, yP25, yT14, yL14, yP26, yT15, yL15, yP27, yT16, yL16, yP28, yT17, yL17, yP29, yT18, yL18, yP30, yT19, yL19, yP31, yT20, yL20, yP32, yT21, yL21, yP33, yT22, yL22, yP34, yT23, yL23, yP35, yT24, yL24, xP0_0w hS hw1, Xin_1, Xin_2, Xin_3, Xin_4, Xin_5, Xin_60, Xin_99, Xin_100, Xin_999, Rin_1, Rin_2, Rin_3, Rin_4, Rin_5, Rin_60, Rin_99, Rin_100, Rin_999, Rin1_3, Rin1_8, Rin1_30, Rin1_60, Rin1_99, XhasC hS hw hR hG, XhasS hS hw hR hG, RisC hG, RisS hG, RisW, RisSh, RisSl, ifB, xP0_2w hS hv49, wT hS hv, wP0 hS hv, wP2 hS hv, wP4 hS hv, wP7 hS hv, wP9 hS hv, wT1 hS hv, wL1 hS hv, wT2 hS hv, wL2 hS hv, wT3 hS hv, wL3 hS hv, wT4 hS hv, wL4 hS hv, wT5 hS hv, wL5 hS hv]
  refine Ok2.ite h (fun e1 => Ok2.ite h (fun e2 => ?_))
  obtain ⟨n, hn, rfl⟩ := hasB_t e1 (by decide)
  obtain ⟨u, hu, rfl⟩ := hasB_t e2 (by decide)
  obtain ⟨I1, X1, J1, x1, z1, h1, j11, j17, hV⟩ := thinkB h hw1 hv49
  rw [x1, z1]
  simp only [gt_self, gd_t, lp_some, st_d, nm_d, on_none, on_some, cl_some, mI_mk, mX_mk, setI_mk, u2_row, rowS_s, rowU_s, xT0 hS, xP0_1 hS, xP0_3 hS, xP0_4 hS, xP0_5 hS, xP0_6 hS, xP0_7 hS, xP0_8 hS, xT73 hS, xP73_0 hS, xT74 hS, xL74 hS, xP73_1 hS, xT75 hS, xL75 hS, xP73_2 hS, xT76 hS, xL76 hS, xP73_3 hS, xT77 hS, xL77 hS, xT78 hS, xP78_0 hS, xT79 hS, xL79 hS, xT80 hS, xP80_0 hS, xP80_2 hS, xT81 hS, xL81 hS, xT82 hS, xL82 hS, xT83 hS, xL83 hS, xT84 hS, xL84 hS, xT85 hS, xL85 hS, wT hS hw, wP0 hS hw, wP2 hS hw, wP4 hS hw, wP7 hS hw, wP9 hS hw, wT1 hS hw, wL1 hS hw, wT2 hS hw, wL2 hS hw, wT3 hS hw, wL3 hS hw, wT4 hS hw, wL4 hS hw, wT5 hS hw, wL5 hS hw, yT0, yP0, yT1, yL1, yP1, yT2, yL2, yP2, yT3, yL3, yP5, yT4, yL4, yP6, yT5, yL5, yP7, yT6, yL6, yP8, yT7, yL7, yP9, yT8, yL8, yP17, yT9, yL9, yP18, yT10, yL10, yP19, yT11, yL11, yP22, yT12, yL12, yP24, yT13, yL13, yP25, yT14, yL14, yP26, yT15, yL15, yP27, yT16, yL16, yP28, yT17, yL17, yP29, yT18, yL18, yP30, yT19, yL19, yP31, yT20, yL20, yP32, yT21, yL21, yP33, yT22, yL22, yP34, yT23, yL23, yP35, yT24, yL24, xP0_0w hS hw1, Xin_1, Xin_2, Xin_3, Xin_4, Xin_5, Xin_60, Xin_99, Xin_100, Xin_999, Rin_1, Rin_2, Rin_3, Rin_4, Rin_5, Rin_60, Rin_99, Rin_100, Rin_999, Rin1_3, Rin1_8, Rin1_30, Rin1_60, Rin1_99, XhasC hS hw hR hG, XhasS hS hw hR hG, RisC hG, RisS hG, RisW, RisSh, RisSl, ifB, xP0_2w hS hv49, wT hS hv, wP0 hS hv, wP2 hS hv, wP4 hS hv, wP7 hS hv, wP9 hS hv, wT1 hS hv, wL1 hS hv, wT2 hS hv, wL2 hS hv, wT3 hS hv, wL3 hS hv, wT4 hS hv, wL4 hS hv, wT5 hS hv, wL5 hS hv]
  obtain ⟨I2, x2, hL, o2⟩ := Xlook hS hv hV.r hG hr
  rw [x2]
  simp only [gt_self, gd_t, lp_some, st_d, nm_d, on_none, on_some, cl_some, mI_mk, mX_mk, setI_mk, u2_row, rowS_s, rowU_s, xT0 hS, xP0_1 hS, xP0_3 hS, xP0_4 hS, xP0_5 hS, xP0_6 hS, xP0_7 hS, xP0_8 hS, xT73 hS, xP73_0 hS, xT74 hS, xL74 hS, xP73_1 hS, xT75 hS, xL75 hS, xP73_2 hS, xT76 hS, xL76 hS, xP73_3 hS, xT77 hS, xL77 hS, xT78 hS, xP78_0 hS, xT79 hS, xL79 hS, xT80 hS, xP80_0 hS, xP80_2 hS, xT81 hS, xL81 hS, xT82 hS, xL82 hS, xT83 hS, xL83 hS, xT84 hS, xL84 hS, xT85 hS, xL85 hS, wT hS hw, wP0 hS hw, wP2 hS hw, wP4 hS hw, wP7 hS hw, wP9 hS hw, wT1 hS hw, wL1 hS hw, wT2 hS hw, wL2 hS hw, wT3 hS hw, wL3 hS hw, wT4 hS hw, wL4 hS hw, wT5 hS hw, wL5 hS hw, yT0, yP0, yT1, yL1, yP1, yT2, yL2, yP2, yT3, yL3, yP5, yT4, yL4, yP6, yT5, yL5, yP7, yT6, yL6, yP8, yT7, yL7, yP9, yT8, yL8, yP17, yT9, yL9, yP18, yT10, yL10, yP19, yT11, yL11, yP22, yT12, yL12, yP24, yT13, yL13, yP25, yT14, yL14, yP26, yT15, yL15, yP27, yT16, yL16, yP28, yT17, yL17, yP29, yT18, yL18, yP30, yT19, yL19, yP31, yT20, yL20, yP32, yT21, yL21, yP33, yT22, yL22, yP34, yT23, yL23, yP35, yT24, yL24, xP0_0w hS hw1, Xin_1, Xin_2, Xin_3, Xin_4, Xin_5, Xin_60, Xin_99, Xin_100, Xin_999, Rin_1, Rin_2, Rin_3, Rin_4, Rin_5, Rin_60, Rin_99, Rin_100, Rin_999, Rin1_3, Rin1_8, Rin1_30, Rin1_60, Rin1_99, XhasC hS hw hR hG, XhasS hS hw hR hG, RisC hG, RisS hG, RisW, RisSh, RisSl, ifB, xP0_2w hS hv49, wT hS hv, wP0 hS hv, wP2 hS hv, wP4 hS hv, wP7 hS hv, wP9 hS hv, wT1 hS hv, wL1 hS hv, wT2 hS hv, wL2 hS hv, wT3 hS hv, wL3 hS hv, wT4 hS hv, wL4 hS hv, wT5 hS hv, wL5 hS hv]
  have hR2 : RelW I2 X1 S v (J 1) nc ns nt := hV.r.same h8 h10 (fun x hx => by unfold ownW at hx; exact o2 x (by omega) (by omega) (by omega))
  obtain ⟨I3, x3, hLV, o3⟩ := Xbeh hS hv hv49 hG (n := n) (by omega) (nI u) n 0 FU I2 (by omega) (FU_ge (by omega)) ⟨hR2, hr, hL⟩ (fun _ _ _ _ _ _ => rfl)
  rw [show (0 : Int32) = nI 0 from rfl, x3]
  obtain ⟨J2, z2, j21, p2⟩ := RgoesOn (I := J1) (nc := nc) (ns := ns) (nt := nt) (n := n) (by rw [j11]; exact hG) h1.rs.no (by omega)
  rw [j11] at z2 j21
  rw [z2]
  have hy := GN_years hG n
  have hk := years_keep hG n
  simp only [gt_self, gd_t, lp_some, st_d, nm_d, on_none, on_some, cl_some, mI_mk, mX_mk, setI_mk, u2_row, rowS_s, rowU_s, xT0 hS, xP0_1 hS, xP0_3 hS, xP0_4 hS, xP0_5 hS, xP0_6 hS, xP0_7 hS, xP0_8 hS, xT73 hS, xP73_0 hS, xT74 hS, xL74 hS, xP73_1 hS, xT75 hS, xL75 hS, xP73_2 hS, xT76 hS, xL76 hS, xP73_3 hS, xT77 hS, xL77 hS, xT78 hS, xP78_0 hS, xT79 hS, xL79 hS, xT80 hS, xP80_0 hS, xP80_2 hS, xT81 hS, xL81 hS, xT82 hS, xL82 hS, xT83 hS, xL83 hS, xT84 hS, xL84 hS, xT85 hS, xL85 hS, wT hS hw, wP0 hS hw, wP2 hS hw, wP4 hS hw, wP7 hS hw, wP9 hS hw, wT1 hS hw, wL1 hS hw, wT2 hS hw, wL2 hS hw, wT3 hS hw, wL3 hS hw, wT4 hS hw, wL4 hS hw, wT5 hS hw, wL5 hS hw, yT0, yP0, yT1, yL1, yP1, yT2, yL2, yP2, yT3, yL3, yP5, yT4, yL4, yP6, yT5, yL5, yP7, yT6, yL6, yP8, yT7, yL7, yP9, yT8, yL8, yP17, yT9, yL9, yP18, yT10, yL10, yP19, yT11, yL11, yP22, yT12, yL12, yP24, yT13, yL13, yP25, yT14, yL14, yP26, yT15, yL15, yP27, yT16, yL16, yP28, yT17, yL17, yP29, yT18, yL18, yP30, yT19, yL19, yP31, yT20, yL20, yP32, yT21, yL21, yP33, yT22, yL22, yP34, yT23, yL23, yP35, yT24, yL24, xP0_0w hS hw1, Xin_1, Xin_2, Xin_3, Xin_4, Xin_5, Xin_60, Xin_99, Xin_100, Xin_999, Rin_1, Rin_2, Rin_3, Rin_4, Rin_5, Rin_60, Rin_99, Rin_100, Rin_999, Rin1_3, Rin1_8, Rin1_30, Rin1_60, Rin1_99, XhasC hS hw hR hG, XhasS hS hw hR hG, RisC hG, RisS hG, RisW, RisSh, RisSl, ifB, xP0_2w hS hv49, wT hS hv, wP0 hS hv, wP2 hS hv, wP4 hS hv, wP7 hS hv, wP9 hS hv, wT1 hS hv, wL1 hS hv, wT2 hS hv, wL2 hS hv, wT3 hS hv, wL3 hS hv, wT4 hS hv, wL4 hS hv, wT5 hS hv, wL5 hS hv]
  generalize hN : (yearsM nc nt (J 1, ns) n).1 = Nn at hy hk j21
  generalize hM : (yearsM nc nt (J 1, ns) n).2 = nn at hy
  unfold LV at hLV
  rw [hN, hM] at hLV
  obtain ⟨J3, z3, sy3, p3⟩ := RelectedNow (I := J2) (nc := nc) (ns := nn) (nt := nt) (by rw [j21]; exact hy.1) (sh_no (by unfold spNo; rw [p2 0 (by decide) (by unfold scY; omega)]; exact h1.rs.no))
  rw [j21] at z3 sy3
  have j31 : J3 1 = Nn := (p3 1 (by unfold scY; omega)).trans j21
  rw [z3, f_X9_behind_44, if_pos (nI_le (Nat.le_refl n) (by omega))]
  simp only [gt_self, gd_t, lp_some, st_d, nm_d, on_none, on_some, cl_some, mI_mk, mX_mk, setI_mk, u2_row, rowS_s, rowU_s, xT0 hS, xP0_1 hS, xP0_3 hS, xP0_4 hS, xP0_5 hS, xP0_6 hS, xP0_7 hS, xP0_8 hS, xT73 hS, xP73_0 hS, xT74 hS, xL74 hS, xP73_1 hS, xT75 hS, xL75 hS, xP73_2 hS, xT76 hS, xL76 hS, xP73_3 hS, xT77 hS, xL77 hS, xT78 hS, xP78_0 hS, xT79 hS, xL79 hS, xT80 hS, xP80_0 hS, xP80_2 hS, xT81 hS, xL81 hS, xT82 hS, xL82 hS, xT83 hS, xL83 hS, xT84 hS, xL84 hS, xT85 hS, xL85 hS, wT hS hw, wP0 hS hw, wP2 hS hw, wP4 hS hw, wP7 hS hw, wP9 hS hw, wT1 hS hw, wL1 hS hw, wT2 hS hw, wL2 hS hw, wT3 hS hw, wL3 hS hw, wT4 hS hw, wL4 hS hw, wT5 hS hw, wL5 hS hw, yT0, yP0, yT1, yL1, yP1, yT2, yL2, yP2, yT3, yL3, yP5, yT4, yL4, yP6, yT5, yL5, yP7, yT6, yL6, yP8, yT7, yL7, yP9, yT8, yL8, yP17, yT9, yL9, yP18, yT10, yL10, yP19, yT11, yL11, yP22, yT12, yL12, yP24, yT13, yL13, yP25, yT14, yL14, yP26, yT15, yL15, yP27, yT16, yL16, yP28, yT17, yL17, yP29, yT18, yL18, yP30, yT19, yL19, yP31, yT20, yL20, yP32, yT21, yL21, yP33, yT22, yL22, yP34, yT23, yL23, yP35, yT24, yL24, xP0_0w hS hw1, Xin_1, Xin_2, Xin_3, Xin_4, Xin_5, Xin_60, Xin_99, Xin_100, Xin_999, Rin_1, Rin_2, Rin_3, Rin_4, Rin_5, Rin_60, Rin_99, Rin_100, Rin_999, Rin1_3, Rin1_8, Rin1_30, Rin1_60, Rin1_99, XhasC hS hw hR hG, XhasS hS hw hR hG, RisC hG, RisS hG, RisW, RisSh, RisSl, ifB, xP0_2w hS hv49, wT hS hv, wP0 hS hv, wP2 hS hv, wP4 hS hv, wP7 hS hv, wP9 hS hv, wT1 hS hv, wL1 hS hv, wT2 hS hv, wL2 hS hv, wT3 hS hv, wL3 hS hv, wT4 hS hv, wL4 hS hv, wT5 hS hv, wL5 hS hv]
  obtain ⟨I4, x4, sp4, o4⟩ := Xsettle hS hv hLV.1 hy.1 hLV.2.1 hLV.2.2 shX_no
  rw [x4]
  simp only [gt_self, gd_t, lp_some, st_d, nm_d, on_none, on_some, cl_some, mI_mk, mX_mk, setI_mk, u2_row, rowS_s, rowU_s, xT0 hS, xP0_1 hS, xP0_3 hS, xP0_4 hS, xP0_5 hS, xP0_6 hS, xP0_7 hS, xP0_8 hS, xT73 hS, xP73_0 hS, xT74 hS, xL74 hS, xP73_1 hS, xT75 hS, xL75 hS, xP73_2 hS, xT76 hS, xL76 hS, xP73_3 hS, xT77 hS, xL77 hS, xT78 hS, xP78_0 hS, xT79 hS, xL79 hS, xT80 hS, xP80_0 hS, xP80_2 hS, xT81 hS, xL81 hS, xT82 hS, xL82 hS, xT83 hS, xL83 hS, xT84 hS, xL84 hS, xT85 hS, xL85 hS, wT hS hw, wP0 hS hw, wP2 hS hw, wP4 hS hw, wP7 hS hw, wP9 hS hw, wT1 hS hw, wL1 hS hw, wT2 hS hw, wL2 hS hw, wT3 hS hw, wL3 hS hw, wT4 hS hw, wL4 hS hw, wT5 hS hw, wL5 hS hw, yT0, yP0, yT1, yL1, yP1, yT2, yL2, yP2, yT3, yL3, yP5, yT4, yL4, yP6, yT5, yL5, yP7, yT6, yL6, yP8, yT7, yL7, yP9, yT8, yL8, yP17, yT9, yL9, yP18, yT10, yL10, yP19, yT11, yL11, yP22, yT12, yL12, yP24, yT13, yL13, yP25, yT14, yL14, yP26, yT15, yL15, yP27, yT16, yL16, yP28, yT17, yL17, yP29, yT18, yL18, yP30, yT19, yL19, yP31, yT20, yL20, yP32, yT21, yL21, yP33, yT22, yL22, yP34, yT23, yL23, yP35, yT24, yL24, xP0_0w hS hw1, Xin_1, Xin_2, Xin_3, Xin_4, Xin_5, Xin_60, Xin_99, Xin_100, Xin_999, Rin_1, Rin_2, Rin_3, Rin_4, Rin_5, Rin_60, Rin_99, Rin_100, Rin_999, Rin1_3, Rin1_8, Rin1_30, Rin1_60, Rin1_99, XhasC hS hw hR hG, XhasS hS hw hR hG, RisC hG, RisS hG, RisW, RisSh, RisSl, ifB, xP0_2w hS hv49, wT hS hv, wP0 hS hv, wP2 hS hv, wP4 hS hv, wP7 hS hv, wP9 hS hv, wT1 hS hv, wL1 hS hv, wT2 hS hv, wL2 hS hv, wT3 hS hv, wL3 hS hv, wT4 hS hv, wL4 hS hv, wT5 hS hv, wL5 hS hv]
  have n10 := hy.1.2.2.2.1
  have hR4 : RelW I4 X1 S v Nn nc nn nt := hLV.1.same h8 n10 (fun x hx => by unfold ownW at hx; exact o4 x (by omega) (by omega))
  have g7 : ∀ j, j < 70 → J3 7 j = J1 1 j := fun j hj => by rw [p3 7 (by unfold scY; omega), p2 7 (by decide) (by unfold scY; omega), j11]; exact j17 j hj
  have g1 : ∀ j, 70 ≤ j → J3 1 j = J1 1 j := fun j hj => by rw [j31, j11]; exact hk.1 j (by unfold keepJ; omega) (by omega)
  have gK : ∀ a, ownY a → J3 a = J1 a := fun a ha => by unfold ownY at ha; rw [p3 a (by unfold scY; omega), p2 a (by omega) (by unfold scY; omega)]
  have gI : ∀ a, ownW 1 a ∨ ownX a → I4 a = I1 a := fun a ha => by
    unfold ownX ownW at ha
    exact (o4 a (by omega) (by omega)).trans ((o3 a (by omega) (by omega) (by omega) (by omega) (by omega)).trans (o2 a (by omega) (by omega) (by omega)))
  have fin : ∀ (K : Nat → Nat → Int32) (I5 : Nat → Nat → Int32) (r : Int32), (∀ a, a ≠ 14 → a ≠ 15 → K a = J3 a) → (∀ a, a ≠ v + 5 → I5 a = I4 a) → Ok2 (some (r, (I5, X1, S))) (f_X10_behind_82 (K, YZ) 0 r) := by
    intro K I5 r hK hI
    have hK1 : K 1 = J3 1 := hK 1 (by decide) (by decide)
    have hK7 : K 7 = J3 7 := hK 7 (by decide) (by decide)
    obtain ⟨J6, e6, h6, _, _⟩ := pbB h1 (I' := I5) (K := K) (by rw [hK7]; exact g7) (by rw [hK1]; exact g1) (fun a ha => (hK a (by unfold ownY at ha; omega) (by unfold ownY at ha; omega)).trans (gK a ha)) (fun a ha => (hI a (by unfold ownX ownW at ha; omega)).trans (gI a ha))
    rw [f_X10_behind_82, yT0, gt_self, e6, cl_some]
    exact .mk h6
  rcases (show u = 0 ∨ u = 1 ∨ u = 2 by omega) with rfl | rfl | rfl
  · rw [if_pos (show nI 0 = 0 from rfl), if_pos (show nI 0 = nI 0 from rfl)]
    obtain ⟨I5, x5, o5⟩ := Xwinner hS hv hR4 hy.1 sp4.2 (nests_hgl n10)
    rw [x5]
    exact fin J3 I5 _ (fun _ _ _ => rfl) o5
  · rw [if_neg (show ¬ nI 1 = 0 by decide), if_pos (show nI 1 = 1 by decide), if_neg (show ¬ nI 1 = nI 0 by decide), if_pos (show nI 1 = 1 by decide), Xhere hS hv hR4 hLV.2.1 hy.1.2.2.1 n10, RhereMany j31 hy.1.2.2.1 n10]
    simp only [cl_some]
    exact fin J3 I4 _ (fun _ _ _ => rfl) (fun _ _ => rfl)
  · rw [if_neg (show ¬ nI 2 = 0 by decide), if_neg (show ¬ nI 2 = 1 by decide), if_neg (show ¬ nI 2 = nI 0 by decide), if_neg (show ¬ nI 2 = 1 by decide)]
    obtain ⟨I5, x5, o5⟩ := XallSeats hS hv hR4 hy.1 sp4.2 (nests_hgl n10)
    rw [x5]
    have st : ∀ (K : Nat → Nat → Int32) (wd : Nat), (∀ a, a ≠ 14 → a ≠ 15 → K a = J3 a) → ∃ K2, f_X10_seatsOf (K, YZ) 0 (nI wd) = some (seatsM Nn nc nt (springM Nn nc nn nt noSh).2.1 wd, (K2, YZ)) ∧ ∀ a, a ≠ 14 → a ≠ 15 → K2 a = J3 a := by
      intro K wd hK
      have k1 : K 1 = Nn := (hK 1 (by decide) (by decide)).trans j31
      obtain ⟨K2, e, p⟩ := RseatsOf (I := K) (nc := nc) (ns := nn) (nt := nt) (w := wd) (guest := (springM Nn nc nn nt noSh).2.1) (by rw [k1]; exact hy.1) (fun x hx => by rw [hK 4 (by decide) (by decide)]; exact sy3.1 x hx) (nests_hgl n10)
      rw [k1] at e
      exact ⟨K2, e, fun a a1 a2 => (p a a1 a2).trans (hK a a1 a2)⟩
    obtain ⟨K1, s1, q1⟩ := st J3 0 (fun _ _ _ => rfl)
    obtain ⟨K2, s2, q2⟩ := st K1 1 q1
    obtain ⟨K3, s3, q3⟩ := st K2 2 q2
    obtain ⟨K4, s4, q4⟩ := st K3 3 q3
    rw [s1]
    simp only [cl_some, yT0, gt_self]
    rw [show (1 : Int32) = nI 1 from rfl, s2]
    simp only [cl_some, yT0, gt_self]
    rw [show (2 : Int32) = nI 2 from rfl, s3]
    simp only [cl_some, yT0, gt_self]
    rw [show (3 : Int32) = nI 3 from rfl, s4]
    simp only [cl_some, yT0, gt_self]
    exact fin K4 I5 _ q4 o5
/-- one stork away: the winner that is thought -/
theorem drvL {w v : Nat} (hw1 : w = 1) (hv49 : v = 49) {wd : Nat} (hwd : wd < 4) : ∀ (d s f1 f2 : Nat) (I : Nat → Nat → Int32) (J : Nat → Nat → Int32), s + d = ns → d < f1 → d + 1 < f2 → Sm I X S J nc ns nt → RelW I X S v (J 1) nc ns nt → LkX I (J 1) nc nt → (∀ j, j < 70 → J 7 j = J 1 j) →
    Ok2 (f_X9_driven_35 f1 (I, X, S) 0 (nI wd) (nI s)) (f_X10_driven_19 f2 (J, YZ) 0 (nI wd) (-1000000005) (nI s)) := by
  have hv : isW v := Or.inr (Or.inr hv49)
  intro d
  induction d with
  | zero =>
    intro s f1 f2 I J hs g1 g2 h hR hL h7
    obtain ⟨f1, rfl⟩ : ∃ m, f1 = m + 1 := ⟨f1 - 1, by omega⟩
    obtain ⟨f2, rfl⟩ : ∃ m, f2 = m + 1 := ⟨f2 - 1, by omega⟩
    have hS := h.rs.la
    have hG := h.w.gn
    have h10 := hG.2.2.2.1
    have hs : s = ns := by omega
    subst hs
    rw [f_X9_driven_35, f_X10_driven_19]
    simp only [gt_self, gd_t, lp_some, st_d, nm_d, on_none, on_some, cl_some, mI_mk, mX_mk, setI_mk, u2_row, rowS_s, rowU_s, xT0 hS, xP0_0 hS, xP0_1 hS, xP0_3 hS, xP0_4 hS, xP0_5 hS, xP0_6 hS, xP0_7 hS, xP0_8 hS, xT73 hS, xP73_0 hS, xT74 hS, xL74 hS, xP73_1 hS, xT75 hS, xL75 hS, xP73_2 hS, xT76 hS, xL76 hS, xP73_3 hS, xT77 hS, xL77 hS, xT78 hS, xP78_0 hS, xT79 hS, xL79 hS, xT80 hS, xP80_0 hS, xP80_2 hS, xT81 hS, xL81 hS, xT82 hS, xL82 hS, xT83 hS, xL83 hS, xT84 hS, xL84 hS, xT85 hS, xL85 hS, xP0_2w hS hv49, wT hS hv, wP0 hS hv, wP2 hS hv, wP4 hS hv, wP7 hS hv, wP9 hS hv, wT1 hS hv, wL1 hS hv, wT2 hS hv, wL2 hS hv, wT3 hS hv, wL3 hS hv, wT4 hS hv, wL4 hS hv, wT5 hS hv, wL5 hS hv]
    simp only [gt_self, gd_t, lp_some, st_d, nm_d, on_none, on_some, cl_some, mI_mk, mX_mk, setI_mk, u2_row, rowS_s, rowU_s, yT0, yP0, yT1, yL1, yP1, yT2, yL2, yP2, yT3, yL3, yP5, yT4, yL4, yP6, yT5, yL5, yP7, yT6, yL6, yP8, yT7, yL7, yP9, yT8, yL8, yP17, yT9, yL9, yP18, yT10, yL10, yP19, yT11, yL11, yP22, yT12, yL12, yP24, yT13, yL13, yP25, yT14, yL14, yP26, yT15, yL15, yP27, yT16, yL16, yP28, yT17, yL17, yP29, yT18, yL18, yP30, yT19, yL19, yP31, yT20, yL20, yP32, yT21, yL21, yP33, yT22, yL22, yP34, yT23, yL23, yP35, yT24, yL24, il2 (show 2 < 1442 by decide), tn2]
    rw [hR.1.2.2.1, hG.2.2.1, if_pos (nI_le (Nat.le_refl s) (by omega)), if_pos (nI_le (Nat.le_refl s) (by omega))]
    exact .mk h
  | succ d ih =>
    intro s f1 f2 I J hs g1 g2 h hR hL h7
    obtain ⟨f1, rfl⟩ : ∃ m, f1 = m + 1 := ⟨f1 - 1, by omega⟩
    obtain ⟨f2, rfl⟩ : ∃ m, f2 = m + 1 := ⟨f2 - 1, by omega⟩
    have hS := h.rs.la
    have hG := h.w.gn
    have hr := h.w.gr
    have h8 := hG.2.1
    have h10 := hG.2.2.2.1
    rw [f_X9_driven_35, f_X10_driven_19]
    simp only [gt_self, gd_t, lp_some, st_d, nm_d, on_none, on_some, cl_some, mI_mk, mX_mk, setI_mk, u2_row, rowS_s, rowU_s, xT0 hS, xP0_0 hS, xP0_1 hS, xP0_3 hS, xP0_4 hS, xP0_5 hS, xP0_6 hS, xP0_7 hS, xP0_8 hS, xT73 hS, xP73_0 hS, xT74 hS, xL74 hS, xP73_1 hS, xT75 hS, xL75 hS, xP73_2 hS, xT76 hS, xL76 hS, xP73_3 hS, xT77 hS, xL77 hS, xT78 hS, xP78_0 hS, xT79 hS, xL79 hS, xT80 hS, xP80_0 hS, xP80_2 hS, xT81 hS, xL81 hS, xT82 hS, xL82 hS, xT83 hS, xL83 hS, xT84 hS, xL84 hS, xT85 hS, xL85 hS, xP0_2w hS hv49, wT hS hv, wP0 hS hv, wP2 hS hv, wP4 hS hv, wP7 hS hv, wP9 hS hv, wT1 hS hv, wL1 hS hv, wT2 hS hv, wL2 hS hv, wT3 hS hv, wL3 hS hv, wT4 hS hv, wL4 hS hv, wT5 hS hv, wL5 hS hv]
    simp only [gt_self, gd_t, lp_some, st_d, nm_d, on_none, on_some, cl_some, mI_mk, mX_mk, setI_mk, u2_row, rowS_s, rowU_s, yT0, yP0, yT1, yL1, yP1, yT2, yL2, yP2, yT3, yL3, yP5, yT4, yL4, yP6, yT5, yL5, yP7, yT6, yL6, yP8, yT7, yL7, yP9, yT8, yL8, yP17, yT9, yL9, yP18, yT10, yL10, yP19, yT11, yL11, yP22, yT12, yL12, yP24, yT13, yL13, yP25, yT14, yL14, yP26, yT15, yL15, yP27, yT16, yL16, yP28, yT17, yL17, yP29, yT18, yL18, yP30, yT19, yL19, yP31, yT20, yL20, yP32, yT21, yL21, yP33, yT22, yL22, yP34, yT23, yL23, yP35, yT24, yL24, il2 (show 2 < 1442 by decide), tn2]
    rw [hR.1.2.2.1, hG.2.2.1, if_neg (nI_ge (show s < ns by omega) (by omega)), if_neg (nI_ge (show s < ns by omega) (by omega)), gd_ok (ib_nI (by omega) (by decide)), nI_clamp (by omega), ix8_2, gd_ok (ib_nI (by omega) (by decide)), nI_clamp (by omega)]
    simp only [wPs hS hv (show s < 10 by omega), wTs hS hv (show s < 10 by omega), gt_self, gd_t, lp_some, st_d, nm_d, on_none, on_some, cl_some, mI_mk, mX_mk, setI_mk, u2_row, rowS_s, rowU_s, xT0 hS, xP0_0 hS, xP0_1 hS, xP0_3 hS, xP0_4 hS, xP0_5 hS, xP0_6 hS, xP0_7 hS, xP0_8 hS, xT73 hS, xP73_0 hS, xT74 hS, xL74 hS, xP73_1 hS, xT75 hS, xL75 hS, xP73_2 hS, xT76 hS, xL76 hS, xP73_3 hS, xT77 hS, xL77 hS, xT78 hS, xP78_0 hS, xT79 hS, xL79 hS, xT80 hS, xP80_0 hS, xP80_2 hS, xT81 hS, xL81 hS, xT82 hS, xL82 hS, xT83 hS, xL83 hS, xT84 hS, xL84 hS, xT85 hS, xL85 hS, xP0_2w hS hv49, wT hS hv, wP0 hS hv, wP2 hS hv, wP4 hS hv, wP7 hS hv, wP9 hS hv, wT1 hS hv, wL1 hS hv, wT2 hS hv, wL2 hS hv, wT3 hS hv, wL3 hS hv, wT4 hS hv, wL4 hS hv, wT5 hS hv, wL5 hS hv, if_true]
    generalize hN : rowU (J 1) (8 + 3 * s + 2) 1 = N1
    have n38 : ∀ j, 38 ≤ j → N1 j = J 1 j := fun j hj => by rw [← hN, rowU_n (by omega)]
    have hR1 : RelW (rowS I (v + 14 + s) (rowU (I (v + 14 + s)) 2 1)) X S v N1 nc ns nt := by rw [← hN]; exact hR.away h8 h10 hv (by omega) 1
    have hr1 : GR N1 nc ns := by rw [← hN]; exact GR_away hr h10 (by omega) (Or.inr rfl)
    have hG1 : GN N1 nc ns nt := GN_of hG (by rw [← hN, rowU_n (by omega)]; exact hG.1) h8 (by rw [← hN, rowU_n (by omega)]; exact hG.2.2.1) h10 (by rw [← hN, rowU_n (by omega)]; exact hG.2.2.2.2.1) (fun j hj => n38 j (by omega))
    have hL1 : LkX (rowS I (v + 14 + s) (rowU (I (v + 14 + s)) 2 1)) N1 nc nt := (hL.same (rowS_n (by omega)) (rowS_n (by omega))).congr n38
    obtain ⟨I2, x2, sp2, o2⟩ := Xsettle hS hv hR1 hG1 hr1 hL1 shX_no
    obtain ⟨J2, z2, sy2, p2⟩ := RelectedNow (I := rowS J 1 N1) (nc := nc) (ns := ns) (nt := nt) (by rw [rowS_s]; exact hG1) (sh_no (by unfold spNo; rw [rowS_n (by decide)]; exact h.rs.no))
    rw [rowS_s] at z2 sy2
    rw [x2, z2]
    simp only [cl_some]
    have i2 : I2 (v + 14 + s) = rowU (I (v + 14 + s)) 2 1 := by rw [o2 _ (by omega) (by omega), rowS_s]
    have ss := hR.2.2.1 s (by omega)
    have hb : isB (I (v + 14 + s) 2) = true := by
      rw [ss.2.2]
      rcases (hr.2 s (by omega)).2.2 with q | q <;> rw [q] <;> rfl
    simp only [gt_self, gd_t, lp_some, st_d, nm_d, on_none, on_some, cl_some, mI_mk, mX_mk, setI_mk, u2_row, rowS_s, rowU_s, xT0 hS, xP0_0 hS, xP0_1 hS, xP0_3 hS, xP0_4 hS, xP0_5 hS, xP0_6 hS, xP0_7 hS, xP0_8 hS, xT73 hS, xP73_0 hS, xT74 hS, xL74 hS, xP73_1 hS, xT75 hS, xL75 hS, xP73_2 hS, xT76 hS, xL76 hS, xP73_3 hS, xT77 hS, xL77 hS, xT78 hS, xP78_0 hS, xT79 hS, xL79 hS, xT80 hS, xP80_0 hS, xP80_2 hS, xT81 hS, xL81 hS, xT82 hS, xL82 hS, xT83 hS, xL83 hS, xT84 hS, xL84 hS, xT85 hS, xL85 hS, xP0_2w hS hv49, wT hS hv, wP0 hS hv, wP2 hS hv, wP4 hS hv, wP7 hS hv, wP9 hS hv, wT1 hS hv, wL1 hS hv, wT2 hS hv, wL2 hS hv, wT3 hS hv, wL3 hS hv, wT4 hS hv, wL4 hS hv, wT5 hS hv, wL5 hS hv, wTs hS hv (show s < 10 by omega), hb, i2]
    have ib : rowU (rowU (I (v + 14 + s)) 2 1) 2 (I (v + 14 + s) 2) = I (v + 14 + s) := by
      funext j
      by_cases e : j = 2
      · rw [e, rowU_s]
      · rw [rowU_n e, rowU_n e]
    rw [ib]
    generalize hI3 : rowS I2 (v + 14 + s) (I (v + 14 + s)) = I3
    have o3 : ∀ a, a ≠ 74 → a ≠ 75 → I3 a = I a := fun a a1 a2 => by
      rw [← hI3]
      by_cases e : a = v + 14 + s
      · rw [e, rowS_s]
      · rw [rowS_n e, o2 a a1 a2, rowS_n e]
    have hR3 : RelW I3 X S v (J 1) nc ns nt := hR.same h8 h10 (fun a ha => by unfold ownW at ha; exact o3 a (by omega) (by omega))
    have sp3 : spX I3 (springM N1 nc ns nt noSh) := by
      unfold spX
      rw [← hI3, rowS_n (by omega), rowS_n (by omega)]
      exact sp2
    obtain ⟨I4, x4, o4⟩ := Xwinner hS hv hR3 hG sp3.2 (nests_hgl h10)
    rw [x4]
    simp only [cl_some]
    unfold electM
    rw [seats_congr n38]
    have hq := win_le (seatsM (J 1) nc nt (springM N1 nc ns nt noSh).2.1) 3
    generalize (winM (seatsM (J 1) nc nt (springM N1 nc ns nt noSh).2.1) 3).1 = q at hq ⊢
    have gI : ∀ a, a ≠ 74 → a ≠ 75 → a ≠ v + 5 → I4 a = I a := fun a a1 a2 a3 => (o4 a a3).trans (o3 a a1 a2)
    obtain ⟨J5, z5, h5, j5, p5⟩ := pbB h (I' := I4) (K := J2) (fun j hj => by rw [p2 7 (by unfold scY; omega), rowS_n (by decide)]; exact h7 j hj) (fun j hj => by rw [p2 1 (by unfold scY; omega), rowS_s]; exact n38 j (by omega)) (fun a ha => by unfold ownY at ha; rw [p2 a (by unfold scY; omega), rowS_n (by omega)]) (fun a ha => by unfold ownX ownW at ha; exact gI a (by omega) (by omega) (by omega))
    unfold f_X10_driven_63
    simp only [yT0, gt_self]
    rw [z5]
    simp only [cl_some]
    rw [nI_1]
    by_cases e : nI q = nI wd
    · rw [if_pos e, if_pos e]
      obtain ⟨f2, rfl⟩ : ∃ m, f2 = m + 1 := ⟨f2 - 1, by omega⟩
      rw [f_X10_driven_19]
      simp only [gt_self, gd_t, lp_some, st_d, nm_d, on_none, on_some, cl_some, mI_mk, mX_mk, setI_mk, u2_row, rowS_s, rowU_s, yT0, yP0, yT1, yL1, yP1, yT2, yL2, yP2, yT3, yL3, yP5, yT4, yL4, yP6, yT5, yL5, yP7, yT6, yL6, yP8, yT7, yL7, yP9, yT8, yL8, yP17, yT9, yL9, yP18, yT10, yL10, yP19, yT11, yL11, yP22, yT12, yL12, yP24, yT13, yL13, yP25, yT14, yL14, yP26, yT15, yL15, yP27, yT16, yL16, yP28, yT17, yL17, yP29, yT18, yL18, yP30, yT19, yL19, yP31, yT20, yL20, yP32, yT21, yL21, yP33, yT22, yL22, yP34, yT23, yL23, yP35, yT24, yL24, il2 (show 2 < 1442 by decide), tn2]
      rw [j5, hG.2.2.1, if_neg (show ¬ nI s = -1000000005 from encC_pos (o := some s) rfl (by omega))]
      have : (if nI ns ≤ nI (s + 1) then some (nI s, ((J5, YZ) : Mem)) else some (nI s, (J5, YZ))) = some (nI s, (J5, YZ)) := by split <;> rfl
      rw [this]
      exact .mk h5
    · rw [if_neg e, if_neg e]
      exact ih (s + 1) f1 f2 I4 J5 (by omega) (by omega) (by omega) h5 (by rw [j5]; exact hR.same h8 h10 (fun a ha => by unfold ownW at ha; exact gI a (by omega) (by omega) (by omega))) (by rw [j5]; exact hL.same (gI 76 (by decide) (by decide) (by omega)) (gI 77 (by decide) (by decide) (by omega))) (fun j hj => by rw [j5, p5 7 (by decide), p2 7 (by unfold scY; omega), rowS_n (by decide)]; exact h7 j hj)
theorem op_driven (h : Sm I X S J nc ns nt) (a : Int32) : Ok2 (f_X9_driven (I, X, S) 0 a) (f_X10_driven (J, YZ) 0 a) := by
  have hS := h.rs.la
  obtain ⟨w, hw1⟩ : ∃ w, w = 1 := ⟨1, rfl⟩
  have hw : isW w := Or.inl hw1
  have hW : Wld I X S w (J 1) nc ns nt := by subst hw1; exact h.w
  have hR := hW.r
  have hG := hW.gn
  have hr := hW.gr
  have h8 := hG.2.1
  have h10 := hG.2.2.2.1
  obtain ⟨v, hv49⟩ : ∃ v, v = 49 := ⟨49, rfl⟩
  have hv : isW v := Or.inr (Or.inr hv49)
  rw [f_X9_driven, f_X10_driven]
  simp only [gt_self, gd_t, lp_some, st_d, nm_d, on_none, on_some, cl_some, mI_mk, mX_mk, setI_mk, u2_row, rowS_s, rowU_s, xT0 hS, xP0_1 hS, xP0_3 hS, xP0_4 hS, xP0_5 hS, xP0_6 hS, xP0_7 hS, xP0_8 hS, xT73 hS, xP73_0 hS, xT74 hS, xL74 hS, xP73_1 hS, xT75 hS, xL75 hS, xP73_2 hS, xT76 hS, xL76 hS, xP73_3 hS, xT77 hS, xL77 hS, xT78 hS, xP78_0 hS, xT79 hS, xL79 hS, xT80 hS, xP80_0 hS, xP80_2 hS, xT81 hS, xL81 hS, xT82 hS, xL82 hS, xT83 hS, xL83 hS, xT84 hS, xL84 hS, xT85 hS, xL85 hS, wT hS hw, wP0 hS hw, wP2 hS hw, wP4 hS hw, wP7 hS hw, wP9 hS hw, wT1 hS hw, wL1 hS hw, wT2 hS hw, wL2 hS hw, wT3 hS hw, wL3 hS hw, wT4 hS hw, wL4 hS hw, wT5 hS hw, wL5 hS hw, yT0, yP0, yT1, yL1, yP1, yT2, yL2, yP2, yT3, yL3, yP5, yT4, yL4, yP6, yT5, yL5, yP7, yT6, yL6, yP8, yT7, yL7, yP9, yT8, yL8, yP17, yT9, yL9, yP18, yT10, yL10, yP19, yT11, yL11, yP22, yT12, yL12, yP24, yT13, yL13, yP25, yT14, yL14, yP26, yT15, yL15, yP27, yT16, yL16, yP28, yT17, yL17, yP29, yT18, yL18, yP30, yT19, yL19, yP31, yT20, yL20, yP32, yT21, yL21, yP33, yT22, yL22, yP34, yT23, yL23, yP35, yT24, yL24, xP0_0w hS hw1, Xin_1, Xin_2, Xin_3, Xin_4, Xin_5, Xin_60, Xin_99, Xin_100, Xin_999, Rin_1, Rin_2, Rin_3, Rin_4, Rin_5, Rin_60, Rin_99, Rin_100, Rin_999, Rin1_3, Rin1_8, Rin1_30, Rin1_60, Rin1_99, XhasC hS hw hR hG, XhasS hS hw hR hG, RisC hG, RisS hG, RisW, RisSh, RisSl, ifB, xP0_2w hS hv49, wT hS hv, wP0 hS hv, wP2 hS hv, wP4 hS hv, wP7 hS hv, wP9 hS hv, wT1 hS hv, wL1 hS hv, wT2 hS hv, wL2 hS hv, wT3 hS hv, wL3 hS hv, wT4 hS hv, wL4 hS hv, wT5 hS hv, wL5 hS hv]
  refine Ok2.ite h (fun e1 => ?_)
  obtain ⟨wd, hwd, rfl⟩ := hasB_t e1 (by decide)
  obtain ⟨I1, X1, J1, x1, z1, h1, j11, j17, hV⟩ := thinkB h hw1 hv49
  rw [x1, z1]
  simp only [gt_self, gd_t, lp_some, st_d, nm_d, on_none, on_some, cl_some, mI_mk, mX_mk, setI_mk, u2_row, rowS_s, rowU_s, xT0 hS, xP0_1 hS, xP0_3 hS, xP0_4 hS, xP0_5 hS, xP0_6 hS, xP0_7 hS, xP0_8 hS, xT73 hS, xP73_0 hS, xT74 hS, xL74 hS, xP73_1 hS, xT75 hS, xL75 hS, xP73_2 hS, xT76 hS, xL76 hS, xP73_3 hS, xT77 hS, xL77 hS, xT78 hS, xP78_0 hS, xT79 hS, xL79 hS, xT80 hS, xP80_0 hS, xP80_2 hS, xT81 hS, xL81 hS, xT82 hS, xL82 hS, xT83 hS, xL83 hS, xT84 hS, xL84 hS, xT85 hS, xL85 hS, wT hS hw, wP0 hS hw, wP2 hS hw, wP4 hS hw, wP7 hS hw, wP9 hS hw, wT1 hS hw, wL1 hS hw, wT2 hS hw, wL2 hS hw, wT3 hS hw, wL3 hS hw, wT4 hS hw, wL4 hS hw, wT5 hS hw, wL5 hS hw, yT0, yP0, yT1, yL1, yP1, yT2, yL2, yP2, yT3, yL3, yP5, yT4, yL4, yP6, yT5, yL5, yP7, yT6, yL6, yP8, yT7, yL7, yP9, yT8, yL8, yP17, yT9, yL9, yP18, yT10, yL10, yP19, yT11, yL11, yP22, yT12, yL12, yP24, yT13, yL13, yP25, yT14, yL14, yP26, yT15, yL15, yP27, yT16, yL16, yP28, yT17, yL17, yP29, yT18, yL18, yP30, yT19, yL19, yP31, yT20, yL20, yP32, yT21, yL21, yP33, yT22, yL22, yP34, yT23, yL23, yP35, yT24, yL24, xP0_0w hS hw1, Xin_1, Xin_2, Xin_3, Xin_4, Xin_5, Xin_60, Xin_99, Xin_100, Xin_999, Rin_1, Rin_2, Rin_3, Rin_4, Rin_5, Rin_60, Rin_99, Rin_100, Rin_999, Rin1_3, Rin1_8, Rin1_30, Rin1_60, Rin1_99, XhasC hS hw hR hG, XhasS hS hw hR hG, RisC hG, RisS hG, RisW, RisSh, RisSl, ifB, xP0_2w hS hv49, wT hS hv, wP0 hS hv, wP2 hS hv, wP4 hS hv, wP7 hS hv, wP9 hS hv, wT1 hS hv, wL1 hS hv, wT2 hS hv, wL2 hS hv, wT3 hS hv, wL3 hS hv, wT4 hS hv, wL4 hS hv, wT5 hS hv, wL5 hS hv]
  obtain ⟨I2, x2, hL, o2⟩ := Xlook hS hv hV.r hG hr
  rw [x2]
  simp only [gt_self, gd_t, lp_some, st_d, nm_d, on_none, on_some, cl_some, mI_mk, mX_mk, setI_mk, u2_row, rowS_s, rowU_s, xT0 hS, xP0_1 hS, xP0_3 hS, xP0_4 hS, xP0_5 hS, xP0_6 hS, xP0_7 hS, xP0_8 hS, xT73 hS, xP73_0 hS, xT74 hS, xL74 hS, xP73_1 hS, xT75 hS, xL75 hS, xP73_2 hS, xT76 hS, xL76 hS, xP73_3 hS, xT77 hS, xL77 hS, xT78 hS, xP78_0 hS, xT79 hS, xL79 hS, xT80 hS, xP80_0 hS, xP80_2 hS, xT81 hS, xL81 hS, xT82 hS, xL82 hS, xT83 hS, xL83 hS, xT84 hS, xL84 hS, xT85 hS, xL85 hS, wT hS hw, wP0 hS hw, wP2 hS hw, wP4 hS hw, wP7 hS hw, wP9 hS hw, wT1 hS hw, wL1 hS hw, wT2 hS hw, wL2 hS hw, wT3 hS hw, wL3 hS hw, wT4 hS hw, wL4 hS hw, wT5 hS hw, wL5 hS hw, yT0, yP0, yT1, yL1, yP1, yT2, yL2, yP2, yT3, yL3, yP5, yT4, yL4, yP6, yT5, yL5, yP7, yT6, yL6, yP8, yT7, yL7, yP9, yT8, yL8, yP17, yT9, yL9, yP18, yT10, yL10, yP19, yT11, yL11, yP22, yT12, yL12, yP24, yT13, yL13, yP25, yT14, yL14, yP26, yT15, yL15, yP27, yT16, yL16, yP28, yT17, yL17, yP29, yT18, yL18, yP30, yT19, yL19, yP31, yT20, yL20, yP32, yT21, yL21, yP33, yT22, yL22, yP34, yT23, yL23, yP35, yT24, yL24, xP0_0w hS hw1, Xin_1, Xin_2, Xin_3, Xin_4, Xin_5, Xin_60, Xin_99, Xin_100, Xin_999, Rin_1, Rin_2, Rin_3, Rin_4, Rin_5, Rin_60, Rin_99, Rin_100, Rin_999, Rin1_3, Rin1_8, Rin1_30, Rin1_60, Rin1_99, XhasC hS hw hR hG, XhasS hS hw hR hG, RisC hG, RisS hG, RisW, RisSh, RisSl, ifB, xP0_2w hS hv49, wT hS hv, wP0 hS hv, wP2 hS hv, wP4 hS hv, wP7 hS hv, wP9 hS hv, wT1 hS hv, wL1 hS hv, wT2 hS hv, wL2 hS hv, wT3 hS hv, wL3 hS hv, wT4 hS hv, wL4 hS hv, wT5 hS hv, wL5 hS hv]
  have hR2 : RelW I2 X1 S v (J 1) nc ns nt := hV.r.same h8 h10 (fun x hx => by unfold ownW at hx; exact o2 x (by omega) (by omega) (by omega))
  have h2 : Sm I2 X1 S J1 nc ns nt := h1.same (fun x hx => by unfold ownX ownW at hx; exact o2 x (by omega) (by omega) (by omega)) (fun _ _ => rfl)
  exact drvL hw1 hv49 hwd ns 0 FU FU I2 J1 (by omega) (FU_ge (by omega)) (FU_ge (by omega)) h2 (by rw [j11]; exact hR2) (by rw [j11]; exact hL) (fun j hj => by rw [j11]; exact j17 j hj)
end OpE
