/-! ask, item, rest, textTold -/
section Slots
variable {I : Nat → Nat → Int32} {X : Nat → Nat → Option Nat} {S : Sta} {J : Nat → Nat → Int32} {nc ns nt : Nat}
theorem irm_m1 (x : Int32) : irm x (-1) = 0 := by
  unfold irm
  have e : x / (-1) = -x := by
    apply Int32.toInt_inj.mp
    rw [Int32.toInt_div, show (-1 : Int32).toInt = -1 from by decide, Int.tdiv_neg, Int.tdiv_one, Int32.toInt_neg]
  rw [e, Int32.neg_mul, Int32.mul_neg, Int32.neg_neg, Int32.mul_one, Int32.sub_self]
theorem op_ask (h : Sm I X S J nc ns nt) (a b : Int32) : Ok2 (f_X9_ask (I, X, S) 0 a b) (f_X10_ask (J, YZ) 0 a b) := by
  have hS := h.rs.la
  rw [f_X9_ask, f_X10_ask, RisSl, Xin_4]
  simp only [gt_self, gd_t, lp_some, st_d, nm_d, on_none, on_some, cl_some, mI_mk, mX_mk, setI_mk, u2_row, rowS_s, rowU_s, xT0 hS, xP0_0 hS, xP0_1 hS, xP0_2 hS, xP0_3 hS, xP0_4 hS, xP0_5 hS, xP0_6 hS, xP0_7 hS, xP0_8 hS, xT73 hS, xP73_0 hS, xT74 hS, xL74 hS, xP73_1 hS, xT75 hS, xL75 hS, xP73_2 hS, xT76 hS, xL76 hS, xP73_3 hS, xT77 hS, xL77 hS, xT78 hS, xP78_0 hS, xT79 hS, xL79 hS, xT80 hS, xP80_0 hS, xP80_2 hS, xT81 hS, xL81 hS, xT82 hS, xL82 hS, xT83 hS, xL83 hS, xT84 hS, xL84 hS, xT85 hS, xL85 hS, yT0, yP0, yT1, yL1, yP1, yT2, yL2, yP2, yT3, yL3, yP5, yT4, yL4, yP6, yT5, yL5, yP7, yT6, yL6, yP8, yT7, yL7, yP9, yT8, yL8, yP17, yT9, yL9, yP18, yT10, yL10, yP19, yT11, yL11, yP22, yT12, yL12, yP24, yT13, yL13, yP25, yT14, yL14, yP26, yT15, yL15, yP27, yT16, yL16, yP28, yT17, yL17, yP29, yT18, yL18, yP30, yT19, yL19, yP31, yT20, yL20, yP32, yT21, yL21, yP33, yT22, yL22, yP34, yT23, yL23, yP35, yT24, yL24, ifB, Xin_5, Rin_5]
  refine Ok2.ite h (fun e1 => Ok2.ite h (fun e2 => ?_))
  obtain ⟨k, hk, rfl⟩ := hasB_t e1 (by decide)
  obtain ⟨q, hq, rfl⟩ := hasB_t e2 (by decide)
  obtain ⟨j19, _, t1, _, _⟩ := h.rs.sl k hk
  simp only [gd_ok (ib_nI hk (show 5 < 2 ^ 31 by decide)), nI_clamp (show k < 2 ^ 31 by omega), slP hS hk, slT hS hk, slPc hS hk, slTc hS hk, gt_self, gd_t, lp_some, st_d, nm_d, on_none, on_some, cl_some, mI_mk, mX_mk, setI_mk, u2_row, rowS_s, rowU_s]
  rw [j19]
  by_cases e0 : I (94 + 4 * k) 0 = 0
  · rw [if_pos e0, if_pos e0]; exact .mk h
  rw [if_neg e0, if_neg e0]
  by_cases e3 : I (94 + 4 * k) 0 = 1
  · obtain ⟨⟨g, hg, j20, i95⟩, j21⟩ := t1 e3
    rw [if_pos e3, if_pos e3, XisOf (slTc hS hk) hg hq i95, j20, RisUnder _ hg hq]
    simp only [cl_some, ifB, slTc hS hk, slT hS hk, gt_self, slPc hS hk, lp_some, yT0, yP32, yT21, yL21, mI_mk, gd_ok (ib_nI hk (show 5 < 2 ^ 31 by decide)), nI_clamp (show k < 2 ^ 31 by omega)]
    rw [Xworth (slTc hS hk), j21]
    exact Ok2.ite h (fun _ => .mk h)
  · rw [if_neg e3, if_neg e3]; exact .mk h
theorem op_item (h : Sm I X S J nc ns nt) (a b : Int32) : Ok2 (f_X9_item (I, X, S) 0 a b) (f_X10_item (J, YZ) 0 a b) := by
  have hS := h.rs.la
  rw [f_X9_item, f_X10_item, RisSl, Xin_4]
  simp only [gt_self, gd_t, lp_some, st_d, nm_d, on_none, on_some, cl_some, mI_mk, mX_mk, setI_mk, u2_row, rowS_s, rowU_s, xT0 hS, xP0_0 hS, xP0_1 hS, xP0_2 hS, xP0_3 hS, xP0_4 hS, xP0_5 hS, xP0_6 hS, xP0_7 hS, xP0_8 hS, xT73 hS, xP73_0 hS, xT74 hS, xL74 hS, xP73_1 hS, xT75 hS, xL75 hS, xP73_2 hS, xT76 hS, xL76 hS, xP73_3 hS, xT77 hS, xL77 hS, xT78 hS, xP78_0 hS, xT79 hS, xL79 hS, xT80 hS, xP80_0 hS, xP80_2 hS, xT81 hS, xL81 hS, xT82 hS, xL82 hS, xT83 hS, xL83 hS, xT84 hS, xL84 hS, xT85 hS, xL85 hS, yT0, yP0, yT1, yL1, yP1, yT2, yL2, yP2, yT3, yL3, yP5, yT4, yL4, yP6, yT5, yL5, yP7, yT6, yL6, yP8, yT7, yL7, yP9, yT8, yL8, yP17, yT9, yL9, yP18, yT10, yL10, yP19, yT11, yL11, yP22, yT12, yL12, yP24, yT13, yL13, yP25, yT14, yL14, yP26, yT15, yL15, yP27, yT16, yL16, yP28, yT17, yL17, yP29, yT18, yL18, yP30, yT19, yL19, yP31, yT20, yL20, yP32, yT21, yL21, yP33, yT22, yL22, yP34, yT23, yL23, yP35, yT24, yL24, ifB]
  refine Ok2.ite h (fun e1 => ?_)
  obtain ⟨k, hk, rfl⟩ := hasB_t e1 (by decide)
  obtain ⟨j19, _, _, t2, _⟩ := h.rs.sl k hk
  simp only [gd_ok (ib_nI hk (show 5 < 2 ^ 31 by decide)), nI_clamp (show k < 2 ^ 31 by omega), slP hS hk, slT hS hk, slPs hS hk, slTs hS hk, gt_self, gd_t, lp_some, st_d, nm_d, on_none, on_some, cl_some, mI_mk, mX_mk, setI_mk, u2_row, rowS_s, rowU_s]
  rw [j19]
  by_cases e0 : I (94 + 4 * k) 0 = 0
  · rw [if_pos e0, if_pos e0]; exact .mk h
  rw [if_neg e0, if_neg e0]
  by_cases e3 : I (94 + 4 * k) 0 = 2
  · obtain ⟨n, hn, i96, j20, hc⟩ := t2 e3
    rw [if_pos e3, if_pos e3, j20, Rinm1 _ _ (by omega), f_X2_has]
    simp only [slTs hS hk, gt_self, mI_mk]
    rw [i96, hasLoop]
    simp only [cl_some, ifB, slT hS hk, gt_self, slPs hS hk, lp_some, slTs hS hk, slPp hS hk, slTp hS hk, slLp hS hk, yT0, yP33, yT22, yL22, mI_mk]
    refine Ok2.ite h (fun e4 => ?_)
    obtain ⟨i, hi, rfl⟩ := hasB_t e4 (by omega)
    rw [ix24, gd_ok (ib_nI (by omega) (by decide)), gd_ok (ib_nI (by omega) (by decide)), nI_clamp (by omega), nI_clamp (by omega), hc i (by omega)]
    by_cases e5 : J 22 (24 * k + i) = -1000000005
    · rw [if_pos e5, if_pos e5]; exact .mk h
    · rw [if_neg e5, if_neg e5]; exact .mk h
  · rw [if_neg e3, if_neg e3]; exact .mk h
theorem op_rest (h : Sm I X S J nc ns nt) (a b : Int32) : Ok2 (f_X9_rest (I, X, S) 0 a b) (f_X10_rest (J, YZ) 0 a b) := by
  have hS := h.rs.la
  rw [f_X9_rest, f_X10_rest, RisSl, Xin_4]
  simp only [gt_self, gd_t, lp_some, st_d, nm_d, on_none, on_some, cl_some, mI_mk, mX_mk, setI_mk, u2_row, rowS_s, rowU_s, xT0 hS, xP0_0 hS, xP0_1 hS, xP0_2 hS, xP0_3 hS, xP0_4 hS, xP0_5 hS, xP0_6 hS, xP0_7 hS, xP0_8 hS, xT73 hS, xP73_0 hS, xT74 hS, xL74 hS, xP73_1 hS, xT75 hS, xL75 hS, xP73_2 hS, xT76 hS, xL76 hS, xP73_3 hS, xT77 hS, xL77 hS, xT78 hS, xP78_0 hS, xT79 hS, xL79 hS, xT80 hS, xP80_0 hS, xP80_2 hS, xT81 hS, xL81 hS, xT82 hS, xL82 hS, xT83 hS, xL83 hS, xT84 hS, xL84 hS, xT85 hS, xL85 hS, yT0, yP0, yT1, yL1, yP1, yT2, yL2, yP2, yT3, yL3, yP5, yT4, yL4, yP6, yT5, yL5, yP7, yT6, yL6, yP8, yT7, yL7, yP9, yT8, yL8, yP17, yT9, yL9, yP18, yT10, yL10, yP19, yT11, yL11, yP22, yT12, yL12, yP24, yT13, yL13, yP25, yT14, yL14, yP26, yT15, yL15, yP27, yT16, yL16, yP28, yT17, yL17, yP29, yT18, yL18, yP30, yT19, yL19, yP31, yT20, yL20, yP32, yT21, yL21, yP33, yT22, yL22, yP34, yT23, yL23, yP35, yT24, yL24, ifB]
  refine Ok2.ite h (fun e1 => ?_)
  obtain ⟨k, hk, rfl⟩ := hasB_t e1 (by decide)
  obtain ⟨j19, _, _, _, t3⟩ := h.rs.sl k hk
  simp only [gd_ok (ib_nI hk (show 5 < 2 ^ 31 by decide)), nI_clamp (show k < 2 ^ 31 by omega), slP hS hk, slT hS hk, gt_self, gd_t, lp_some, st_d, nm_d, on_none, on_some, cl_some, mI_mk, mX_mk, setI_mk, u2_row, rowS_s, rowU_s]
  rw [j19]
  by_cases e0 : I (94 + 4 * k) 0 = 0
  · rw [if_pos e0, if_pos e0]; exact .mk h
  rw [if_neg e0, if_neg e0]
  by_cases e3 : I (94 + 4 * k) 0 = 3
  · rw [if_pos e3, if_pos e3, t3 e3]
    by_cases e4 : b = 0
    · rw [if_pos e4, if_pos e4]; exact .mk h
    rw [if_neg e4, if_neg e4, gz_ok e4, gz_ok e4]
    by_cases e5 : b = -1
    · rw [if_pos e5, e5, irm_m1]; exact .mk h
    · rw [if_neg e5]; exact .mk h
  · rw [if_neg e3, if_neg e3]; exact .mk h
end Slots
