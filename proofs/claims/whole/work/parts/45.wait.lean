/-! check; what waits -/
section OpI
variable {I : Nat → Nat → Int32} {X : Nat → Nat → Option Nat} {S : Sta} {J : Nat → Nat → Int32} {nc ns nt : Nat}
theorem ImR.same {I I' : Nat → Nat → Int32} {X X' : Nat → Nat → Option Nat} {S : Sta} {J J' : Nat → Nat → Int32} (h : ImR I X S J) (hI : ∀ a, ownW 25 a → I' a = I a) (hX : X' 29 = X 29) (h0 : I' 0 10 = I 0 10) (h3 : J' 0 3 = J 0 3) (h2 : J' 2 = J 2) : ImR I' X' S J' := by
  unfold ImR
  rw [h0, h3]
  refine ⟨h.1, ?_⟩
  rcases h.2 with q | ⟨q, a, b, c, hw⟩
  · exact Or.inl q
  · exact Or.inr ⟨q, a, b, c, hw.same hI hX h2⟩
theorem op_check (h : Sm I X S J nc ns nt) (x : Int32) : Ok2 (f_X9_check (I, X, S) 0 x) (f_X10_check (J, YZ) 0 x) := by
  have hS := h.rs.la
  obtain ⟨u, hu25⟩ : ∃ u, u = 25 := ⟨25, rfl⟩
  have hu : isW u := Or.inr (Or.inl hu25)
  obtain ⟨v, hv49⟩ : ∃ v, v = 49 := ⟨49, rfl⟩
  have hv : isW v := Or.inr (Or.inr hv49)
  obtain ⟨tl, t1, t2, t3, t4⟩ := h.rs.wt
  rw [f_X9_check, f_X10_check]
  simp only [gt_self, gd_t, lp_some, st_d, nm_d, on_none, on_some, cl_some, mI_mk, mX_mk, setI_mk, u2_row, rowS_s, rowU_s, xT0 hS, xP0_0 hS, xP0_3 hS, xP0_4 hS, xP0_5 hS, xP0_6 hS, xP0_7 hS, xP0_8 hS, xT73 hS, xP73_0 hS, xT74 hS, xL74 hS, xP73_1 hS, xT75 hS, xL75 hS, xP73_2 hS, xT76 hS, xL76 hS, xP73_3 hS, xT77 hS, xL77 hS, xT78 hS, xP78_0 hS, xT79 hS, xL79 hS, xT80 hS, xP80_0 hS, xP80_2 hS, xT81 hS, xL81 hS, xT82 hS, xL82 hS, xT83 hS, xL83 hS, xT84 hS, xL84 hS, xT85 hS, xL85 hS, xP0_1w hS hu25, xP0_2w hS hv49, wT hS hv, wP0 hS hv, wP2 hS hv, wP4 hS hv, wP7 hS hv, wP9 hS hv, wT1 hS hv, wL1 hS hv, wT2 hS hv, wL2 hS hv, wT3 hS hv, wL3 hS hv, wT4 hS hv, wL4 hS hv, wT5 hS hv, wL5 hS hv, wT hS hu, wP0 hS hu, wP2 hS hu, wP4 hS hu, wP7 hS hu, wP9 hS hu, wT1 hS hu, wL1 hS hu, wT2 hS hu, wL2 hS hu, wT3 hS hu, wL3 hS hu, wT4 hS hu, wL4 hS hu, wT5 hS hu, wL5 hS hu, yT0, yP0, yT1, yL1, yP1, yT2, yL2, yP2, yT3, yL3, yP5, yT4, yL4, yP6, yT5, yL5, yP7, yT6, yL6, yP8, yT7, yL7, yP9, yT8, yL8, yP17, yT9, yL9, yP18, yT10, yL10, yP19, yT11, yL11, yP22, yT12, yL12, yP24, yT13, yL13, yP25, yT14, yL14, yP26, yT15, yL15, yP27, yT16, yL16, yP28, yT17, yL17, yP29, yT18, yL18, yP30, yT19, yL19, yP31, yT20, yL20, yP32, yT21, yL21, yP33, yT22, yL22, yP34, yT23, yL23, yP35, yT24, yL24, Rin1_30, ifB]
  rw [show (30 : Int32) = nI 30 from rfl, ifB1']
  generalize hI2 : rowS I 0 (rowU (I 0) 9 0) = I2
  generalize hJ2 : rowS J 0 (rowU (J 0) 36 0) = J2
  have i2 : ∀ a, a ≠ 0 → I2 a = I a := fun a ha => by rw [← hI2, rowS_n ha]
  have j2 : ∀ a, a ≠ 0 → J2 a = J a := fun a ha => by rw [← hJ2, rowS_n ha]
  have h2 : Sm I2 X S J2 nc ns nt := by
    refine ⟨h.w.same (fun a ha => i2 a (by unfold ownW at ha; omega)) rfl (j2 1 (by decide)), h.rs.new (fun a ha => i2 a (by omega)) (fun a ha _ _ => j2 a ha) (by rw [← hJ2, rowS_s, rowU_n (by decide)]) (by rw [← hJ2, rowS_s, rowU_n (by decide)]) (h.rs.im.same (fun a ha => i2 a (by unfold ownW at ha; omega)) rfl (by rw [← hI2, rowS_s, rowU_n (by decide)]) (by rw [← hJ2, rowS_s, rowU_n (by decide)]) (j2 2 (by decide))) ⟨0, by decide, by rw [← hI2, rowS_s, rowU_s]; rfl, by rw [← hJ2, rowS_s, rowU_s]; rfl, fun k hk => absurd hk (by omega)⟩⟩
  refine Ok2.ite h2 (fun e1 => ?_)
  obtain ⟨n, hn1, hn, rfl⟩ := hasB1_t e1 (by decide)
  rw [show rowU (I 0) 9 0 10 = I2 0 10 by rw [← hI2, rowS_s], show rowU (J 0) 36 0 3 = J2 0 3 by rw [← hJ2, rowS_s], h2.rs.im.1]
  rcases h2.rs.im.2 with e0 | ⟨e0, a, b, c, hV⟩
  · rw [if_pos e0, if_pos e0]; exact .mk h2
  · have ne : ¬ J2 0 3 = 0 := by rw [e0]; decide
    rw [if_neg ne, if_neg ne]
    have hV : Wld I2 X S u (J2 2) a b c := by subst hu25; exact hV
    obtain ⟨I3, X3, x3, hV3, y3, o3⟩ := Xtake hS hv hu (by omega) hV
    rw [x3]
    simp only [gt_self, gd_t, lp_some, st_d, nm_d, on_none, on_some, cl_some, mI_mk, mX_mk, setI_mk, u2_row, rowS_s, rowU_s, xT0 hS, xP0_0 hS, xP0_3 hS, xP0_4 hS, xP0_5 hS, xP0_6 hS, xP0_7 hS, xP0_8 hS, xT73 hS, xP73_0 hS, xT74 hS, xL74 hS, xP73_1 hS, xT75 hS, xL75 hS, xP73_2 hS, xT76 hS, xL76 hS, xP73_3 hS, xT77 hS, xL77 hS, xT78 hS, xP78_0 hS, xT79 hS, xL79 hS, xT80 hS, xP80_0 hS, xP80_2 hS, xT81 hS, xL81 hS, xT82 hS, xL82 hS, xT83 hS, xL83 hS, xT84 hS, xL84 hS, xT85 hS, xL85 hS, xP0_1w hS hu25, xP0_2w hS hv49, wT hS hv, wP0 hS hv, wP2 hS hv, wP4 hS hv, wP7 hS hv, wP9 hS hv, wT1 hS hv, wL1 hS hv, wT2 hS hv, wL2 hS hv, wT3 hS hv, wL3 hS hv, wT4 hS hv, wL4 hS hv, wT5 hS hv, wL5 hS hv, wT hS hu, wP0 hS hu, wP2 hS hu, wP4 hS hu, wP7 hS hu, wP9 hS hu, wT1 hS hu, wL1 hS hu, wT2 hS hu, wL2 hS hu, wT3 hS hu, wL3 hS hu, wT4 hS hu, wL4 hS hu, wT5 hS hu, wL5 hS hu, yT0, yP0, yT1, yL1, yP1, yT2, yL2, yP2, yT3, yL3, yP5, yT4, yL4, yP6, yT5, yL5, yP7, yT6, yL6, yP8, yT7, yL7, yP9, yT8, yL8, yP17, yT9, yL9, yP18, yT10, yL10, yP19, yT11, yL11, yP22, yT12, yL12, yP24, yT13, yL13, yP25, yT14, yL14, yP26, yT15, yL15, yP27, yT16, yL16, yP28, yT17, yL17, yP29, yT18, yL18, yP30, yT19, yL19, yP31, yT20, yL20, yP32, yT21, yL21, yP33, yT22, yL22, yP34, yT23, yL23, yP35, yT24, yL24, Rin1_30, ifB, i2 u (show u ≠ 0 by omega)]
    obtain ⟨J3, z3, a1, a2, a3⟩ := Rcopy (p := 1) (q := 3) (by decide) (by decide) (by decide) J2
    rw [z3]
    simp only [gt_self, gd_t, lp_some, st_d, nm_d, on_none, on_some, cl_some, mI_mk, mX_mk, setI_mk, u2_row, rowS_s, rowU_s, xT0 hS, xP0_0 hS, xP0_3 hS, xP0_4 hS, xP0_5 hS, xP0_6 hS, xP0_7 hS, xP0_8 hS, xT73 hS, xP73_0 hS, xT74 hS, xL74 hS, xP73_1 hS, xT75 hS, xL75 hS, xP73_2 hS, xT76 hS, xL76 hS, xP73_3 hS, xT77 hS, xL77 hS, xT78 hS, xP78_0 hS, xT79 hS, xL79 hS, xT80 hS, xP80_0 hS, xP80_2 hS, xT81 hS, xL81 hS, xT82 hS, xL82 hS, xT83 hS, xL83 hS, xT84 hS, xL84 hS, xT85 hS, xL85 hS, xP0_1w hS hu25, xP0_2w hS hv49, wT hS hv, wP0 hS hv, wP2 hS hv, wP4 hS hv, wP7 hS hv, wP9 hS hv, wT1 hS hv, wL1 hS hv, wT2 hS hv, wL2 hS hv, wT3 hS hv, wL3 hS hv, wT4 hS hv, wL4 hS hv, wT5 hS hv, wL5 hS hv, wT hS hu, wP0 hS hu, wP2 hS hu, wP4 hS hu, wP7 hS hu, wP9 hS hu, wT1 hS hu, wL1 hS hu, wT2 hS hu, wL2 hS hu, wT3 hS hu, wL3 hS hu, wT4 hS hu, wL4 hS hu, wT5 hS hu, wL5 hS hu, yT0, yP0, yT1, yL1, yP1, yT2, yL2, yP2, yT3, yL3, yP5, yT4, yL4, yP6, yT5, yL5, yP7, yT6, yL6, yP8, yT7, yL7, yP9, yT8, yL8, yP17, yT9, yL9, yP18, yT10, yL10, yP19, yT11, yL11, yP22, yT12, yL12, yP24, yT13, yL13, yP25, yT14, yL14, yP26, yT15, yL15, yP27, yT16, yL16, yP28, yT17, yL17, yP29, yT18, yL18, yP30, yT19, yL19, yP31, yT20, yL20, yP32, yT21, yL21, yP33, yT22, yL22, yP34, yT23, yL23, yP35, yT24, yL24, Rin1_30, ifB]
    obtain ⟨J4, z4, b1, b2, b3⟩ := Rcopy (p := 2) (q := 1) (by decide) (by decide) (by decide) J3
    rw [z4]
    simp only [gt_self, gd_t, lp_some, st_d, nm_d, on_none, on_some, cl_some, mI_mk, mX_mk, setI_mk, u2_row, rowS_s, rowU_s, xT0 hS, xP0_0 hS, xP0_3 hS, xP0_4 hS, xP0_5 hS, xP0_6 hS, xP0_7 hS, xP0_8 hS, xT73 hS, xP73_0 hS, xT74 hS, xL74 hS, xP73_1 hS, xT75 hS, xL75 hS, xP73_2 hS, xT76 hS, xL76 hS, xP73_3 hS, xT77 hS, xL77 hS, xT78 hS, xP78_0 hS, xT79 hS, xL79 hS, xT80 hS, xP80_0 hS, xP80_2 hS, xT81 hS, xL81 hS, xT82 hS, xL82 hS, xT83 hS, xL83 hS, xT84 hS, xL84 hS, xT85 hS, xL85 hS, xP0_1w hS hu25, xP0_2w hS hv49, wT hS hv, wP0 hS hv, wP2 hS hv, wP4 hS hv, wP7 hS hv, wP9 hS hv, wT1 hS hv, wL1 hS hv, wT2 hS hv, wL2 hS hv, wT3 hS hv, wL3 hS hv, wT4 hS hv, wL4 hS hv, wT5 hS hv, wL5 hS hv, wT hS hu, wP0 hS hu, wP2 hS hu, wP4 hS hu, wP7 hS hu, wP9 hS hu, wT1 hS hu, wL1 hS hu, wT2 hS hu, wL2 hS hu, wT3 hS hu, wL3 hS hu, wT4 hS hu, wL4 hS hu, wT5 hS hu, wL5 hS hu, yT0, yP0, yT1, yL1, yP1, yT2, yL2, yP2, yT3, yL3, yP5, yT4, yL4, yP6, yT5, yL5, yP7, yT6, yL6, yP8, yT7, yL7, yP9, yT8, yL8, yP17, yT9, yL9, yP18, yT10, yL10, yP19, yT11, yL11, yP22, yT12, yL12, yP24, yT13, yL13, yP25, yT14, yL14, yP26, yT15, yL15, yP27, yT16, yL16, yP28, yT17, yL17, yP29, yT18, yL18, yP30, yT19, yL19, yP31, yT20, yL20, yP32, yT21, yL21, yP33, yT22, yL22, yP34, yT23, yL23, yP35, yT24, yL24, Rin1_30, ifB, il3 (show 3 < 1442 by decide), tn3]
    obtain ⟨y, hy, ey⟩ := hV.yr
    have j32 : J3 2 = J2 2 := a3 2 (by decide)
    have e4 : ∀ j, j < 1442 → J4 1 j = J2 2 j := fun j hj => by rw [b1 j hj, j32]
    have hV4 : Wld I3 X3 S v (J4 1) a b c := hV3.congr e4
    obtain ⟨I4, x4, hL, o4⟩ := Xlook hS hv hV4.r hV4.gn hV4.gr
    rw [x4]
    simp only [gt_self, gd_t, lp_some, st_d, nm_d, on_none, on_some, cl_some, mI_mk, mX_mk, setI_mk, u2_row, rowS_s, rowU_s, xT0 hS, xP0_0 hS, xP0_3 hS, xP0_4 hS, xP0_5 hS, xP0_6 hS, xP0_7 hS, xP0_8 hS, xT73 hS, xP73_0 hS, xT74 hS, xL74 hS, xP73_1 hS, xT75 hS, xL75 hS, xP73_2 hS, xT76 hS, xL76 hS, xP73_3 hS, xT77 hS, xL77 hS, xT78 hS, xP78_0 hS, xT79 hS, xL79 hS, xT80 hS, xP80_0 hS, xP80_2 hS, xT81 hS, xL81 hS, xT82 hS, xL82 hS, xT83 hS, xL83 hS, xT84 hS, xL84 hS, xT85 hS, xL85 hS, xP0_1w hS hu25, xP0_2w hS hv49, wT hS hv, wP0 hS hv, wP2 hS hv, wP4 hS hv, wP7 hS hv, wP9 hS hv, wT1 hS hv, wL1 hS hv, wT2 hS hv, wL2 hS hv, wT3 hS hv, wL3 hS hv, wT4 hS hv, wL4 hS hv, wT5 hS hv, wL5 hS hv, wT hS hu, wP0 hS hu, wP2 hS hu, wP4 hS hu, wP7 hS hu, wP9 hS hu, wT1 hS hu, wL1 hS hu, wT2 hS hu, wL2 hS hu, wT3 hS hu, wL3 hS hu, wT4 hS hu, wL4 hS hu, wT5 hS hu, wL5 hS hu, yT0, yP0, yT1, yL1, yP1, yT2, yL2, yP2, yT3, yL3, yP5, yT4, yL4, yP6, yT5, yL5, yP7, yT6, yL6, yP8, yT7, yL7, yP9, yT8, yL8, yP17, yT9, yL9, yP18, yT10, yL10, yP19, yT11, yL11, yP22, yT12, yL12, yP24, yT13, yL13, yP25, yT14, yL14, yP26, yT15, yL15, yP27, yT16, yL16, yP28, yT17, yL17, yP29, yT18, yL18, yP30, yT19, yL19, yP31, yT20, yL20, yP32, yT21, yL21, yP33, yT22, yL22, yP34, yT23, yL23, yP35, yT24, yL24, Rin1_30, ifB]
    have y9 : (999 : Int32) - nI y = nI (999 - y) := by rw [show (999 : Int32) = nI 999 from rfl, pk_sub (by omega)]
    have iy : I u 5 = nI y := by rw [← i2 u (by omega)]; exact hV.r.1.2.2.2.1.trans ey
    rw [iy, e4 3 (by decide), ey, y9, imin_nI (by omega) (by omega), Rwithin_nI _ (by omega) (by omega), Nat.min_comm]
    simp only [cl_some]
    rw [t2, t3, two_i]
    have hm : min (999 - y) n ≤ 30 := by omega
    generalize min (999 - y) n = m at hm ⊢
    have h8 := hV4.gn.2.1
    have h10 := hV4.gn.2.2.2.1
    have hR4 : RelW I4 X3 S v (J4 1) a b c := hV4.r.same h8 h10 (fun x hx => by unfold ownW at hx; exact o4 x (by omega) (by omega) (by omega))
    have hI3 : ∀ x, ownW 1 x ∨ ownX x → I3 x = I2 x := fun x hx => by unfold ownX ownW at hx; exact o3 x (by omega) (by omega) (by omega)
    have h3 : Sm I3 X3 S J2 nc ns nt := ⟨h2.w.same (fun x hx => hI3 x (Or.inl hx)) (y3 5 (by omega)) rfl, h2.rs.same (fun x hx => hI3 x (Or.inr hx)) (y3 29 (by omega)) (fun _ _ => rfl)⟩
    have := chkL h3 hv49 (N := J4 1) (tl := tl) (m := m) (wt := I 85) hV4.gn (fun j hj => by rw [b2 j hj, a3 1 (by decide)]) t1 hm m 0 FU FU I4 J4 (by omega) (FU_ge (by omega)) (FU_ge (by omega)) (by omega) ⟨hR4, hV4.gr, hL⟩ (by rw [o4 85 (by decide) (by decide) (by omega), o3 85 (by omega) (by omega) (by omega)]; exact i2 85 (by decide)) (fun x hx => o4 x (by unfold ownX ownW at hx; omega) (by unfold ownX ownW at hx; omega) (by unfold ownX ownW at hx; omega)) rfl (fun k hk => by rw [b3 24 (by decide), a3 24 (by decide), j2 24 (by decide)]; exact (t4 k hk).symm) (fun j hj => by rw [b3 3 (by decide)]; exact a1 j hj) (fun x hx => by unfold ownY at hx; rw [b3 x (by omega), a3 x (by omega)])
    exact this
theorem TpR.same {I I' J J' : Nat → Nat → Int32} (h : TpR I J) (h1 : I' 78 1 = I 78 1) (h2 : I' 79 = I 79) (h3 : J' 0 10 = J 0 10) (h4 : J' 8 = J 8) : TpR I' J' := by unfold TpR; rw [h1, h2, h3, h4]; exact h
theorem WtR.same {I I' J J' : Nat → Nat → Int32} (h : WtR I J) (h1 : I' 0 9 = I 0 9) (h2 : I' 85 = I 85) (h3 : J' 0 36 = J 0 36) (h4 : J' 24 = J 24) : WtR I' J' := by unfold WtR; rw [h1, h2, h3, h4]; exact h
theorem ShR.same {I I' J J' : Nat → Nat → Int32} {k : Nat} (h : ShR I J k) (h1 : I' (86 + 2 * k) = I (86 + 2 * k)) (h2 : I' (87 + 2 * k) = I (87 + 2 * k)) (h3 : ∀ a, 16 ≤ a → a ≤ 18 → J' a = J a) : ShR I' J' k := by unfold ShR; rw [h1, h2, h3 16 (by decide) (by decide), h3 17 (by decide) (by decide), h3 18 (by decide) (by decide)]; exact h
theorem SlR.same {I I' J J' : Nat → Nat → Int32} {k : Nat} (h : SlR I J k) (h1 : ∀ a, 94 + 4 * k ≤ a → a < 98 + 4 * k → I' a = I a) (h3 : ∀ a, 19 ≤ a → a ≤ 22 → J' a = J a) : SlR I' J' k := by
  unfold SlR
  rw [h1 (94 + 4 * k) (by omega) (by omega), h1 (95 + 4 * k) (by omega) (by omega), h1 (96 + 4 * k) (by omega) (by omega), h1 (97 + 4 * k) (by omega) (by omega), h3 19 (by decide) (by decide), h3 20 (by decide) (by decide), h3 21 (by decide) (by decide), h3 22 (by decide) (by decide)]
  exact h
theorem op_tell (h : Sm I X S J nc ns nt) (x : Int32) : Ok2 (f_X9_tell (I, X, S) 0 x) (f_X10_tell (J, YZ) 0 x) := by
  have hS := h.rs.la
  obtain ⟨tl, t1, t2, t3, t4⟩ := h.rs.wt
  rw [f_X9_tell, f_X10_tell]
  simp only [gt_self, gd_t, lp_some, st_d, nm_d, on_none, on_some, cl_some, mI_mk, mX_mk, setI_mk, u2_row, rowS_s, rowU_s, xT0 hS, xP0_0 hS, xP0_1 hS, xP0_2 hS, xP0_3 hS, xP0_4 hS, xP0_5 hS, xP0_6 hS, xP0_7 hS, xP0_8 hS, xT73 hS, xP73_0 hS, xT74 hS, xL74 hS, xP73_1 hS, xT75 hS, xL75 hS, xP73_2 hS, xT76 hS, xL76 hS, xP73_3 hS, xT77 hS, xL77 hS, xT78 hS, xP78_0 hS, xT79 hS, xL79 hS, xT80 hS, xP80_0 hS, xP80_2 hS, xT81 hS, xL81 hS, xT82 hS, xL82 hS, xT83 hS, xL83 hS, xT84 hS, xL84 hS, xT85 hS, xL85 hS, yT0, yP0, yT1, yL1, yP1, yT2, yL2, yP2, yT3, yL3, yP5, yT4, yL4, yP6, yT5, yL5, yP7, yT6, yL6, yP8, yT7, yL7, yP9, yT8, yL8, yP17, yT9, yL9, yP18, yT10, yL10, yP19, yT11, yL11, yP22, yT12, yL12, yP24, yT13, yL13, yP25, yT14, yL14, yP26, yT15, yL15, yP27, yT16, yL16, yP28, yT17, yL17, yP29, yT18, yL18, yP30, yT19, yL19, yP31, yT20, yL20, yP32, yT21, yL21, yP33, yT22, yL22, yP34, yT23, yL23, yP35, yT24, yL24]
  rw [t2, t3]
  by_cases e : tl = 60
  · rw [if_neg (show ¬ nI tl < (60 : Int32) by rw [e]; decide), if_pos (by rw [e]; rfl)]
    exact .mk h
  · rw [if_pos (show nI tl < (60 : Int32) from nI_lt (b := 60) (by omega) (by decide)), if_neg (show ¬ nI tl = (60 : Int32) from fun q => e ((nI_eq (a := tl) (b := 60) (by omega) (by decide)).mp q)), gd_ok (ib_nI (by omega) (by decide)), gd_ok (ib_nI (by omega) (by decide)), nI_clamp (by omega)]
    rw [rowS_n (show (0 : Nat) ≠ 85 by decide), rowS_n (show (0 : Nat) ≠ 24 by decide), t2, t3, nI_1]
    generalize hI2 : rowS (rowS I 85 (rowU (I 85) tl x)) 0 (rowU (I 0) 9 (nI (tl + 1))) = I2
    generalize hJ2 : rowS (rowS J 24 (rowU (J 24) tl x)) 0 (rowU (J 0) 36 (nI (tl + 1))) = J2
    have i2 : ∀ a, a ≠ 0 → a ≠ 85 → I2 a = I a := fun a ha hb => by rw [← hI2, rowS_n ha, rowS_n hb]
    have j2 : ∀ a, a ≠ 0 → a ≠ 24 → J2 a = J a := fun a ha hb => by rw [← hJ2, rowS_n ha, rowS_n hb]
    have i0 : I2 0 = rowU (I 0) 9 (nI (tl + 1)) := by rw [← hI2, rowS_s]
    have j0 : J2 0 = rowU (J 0) 36 (nI (tl + 1)) := by rw [← hJ2, rowS_s]
    have i85 : I2 85 = rowU (I 85) tl x := by rw [← hI2, rowS_n (by decide), rowS_s]
    have j24 : J2 24 = rowU (J 24) tl x := by rw [← hJ2, rowS_n (by decide), rowS_s]
    refine .mk (nc := nc) (ns := ns) (nt := nt) ⟨h.w.same (fun a ha => by unfold ownW at ha; exact i2 a (by omega) (by omega)) rfl (j2 1 (by decide) (by decide)), hS, h.rs.im.same (fun a ha => by unfold ownW at ha; exact i2 a (by omega) (by omega)) rfl (by rw [i0, rowU_n (by decide)]) (by rw [j0, rowU_n (by decide)]) (j2 2 (by decide) (by decide)), ?_, by rw [j2 9 (by decide) (by decide)]; exact h.rs.k9, by rw [j2 10 (by decide) (by decide)]; exact h.rs.k10, h.rs.tp.same (by rw [i2 78 (by decide) (by decide)]) (i2 79 (by decide) (by decide)) (by rw [j0, rowU_n (by decide)]) (j2 8 (by decide) (by decide)), ⟨tl + 1, by omega, by rw [i0, rowU_s], by rw [j0, rowU_s], fun k hk => ?_⟩, fun k hk => (h.rs.sh k hk).same (i2 _ (by omega) (by omega)) (i2 _ (by omega) (by omega)) (fun a h1 h2 => j2 a (by omega) (by omega)), fun k hk => (h.rs.sl k hk).same (fun a h1 h2 => i2 a (by omega) (by omega)) (fun a h1 h2 => j2 a (by omega) (by omega))⟩
    · unfold spNo; rw [j0, rowU_n (by decide)]; exact h.rs.no
    · rw [i85, j24]
      by_cases e : k = tl
      · rw [e, rowU_s, rowU_s]
      · rw [rowU_n e, rowU_n e]; exact t4 k (by omega)
end OpI
