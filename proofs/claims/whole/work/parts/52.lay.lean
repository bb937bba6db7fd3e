/-! lay -/
section Lay
variable {I : Nat → Nat → Int32} {X : Nat → Nat → Option Nat} {S : Sta} {J : Nat → Nat → Int32} {nc ns nt : Nat}
theorem Sm.slot {I' J' : Nat → Nat → Int32} {k : Nat} (h : Sm I X S J nc ns nt) (hk : k < 5) (hI : ∀ a, (a < 94 + 4 * k ∨ 98 + 4 * k ≤ a) → I' a = I a) (hJ : ∀ a, (a < 19 ∨ 22 < a) → J' a = J a) (hq : ∀ a, 19 ≤ a → a ≤ 21 → ∀ j, j ≠ k → J' a j = J a j) (h22 : ∀ j, j < 24 * k ∨ 24 * k + 24 ≤ j → J' 22 j = J 22 j) (hs : SlR I' J' k) : Sm I' X S J' nc ns nt := by
  refine ⟨h.w.same (fun x hx => by unfold ownW at hx; exact hI x (by omega)) rfl (hJ 1 (by omega)), h.rs.la, h.rs.im.same (fun x hx => by unfold ownW at hx; exact hI x (by omega)) rfl (by rw [hI 0 (by omega)]) (by rw [hJ 0 (by omega)]) (hJ 2 (by omega)), ?_, by rw [hJ 9 (by omega)]; exact h.rs.k9, by rw [hJ 10 (by omega)]; exact h.rs.k10, h.rs.tp.same (by rw [hI 78 (by omega)]) (hI 79 (by omega)) (by rw [hJ 0 (by omega)]) (hJ 8 (by omega)), h.rs.wt.same (by rw [hI 0 (by omega)]) (hI 85 (by omega)) (by rw [hJ 0 (by omega)]) (hJ 24 (by omega)), fun j hj => (h.rs.sh j hj).same (hI _ (by omega)) (hI _ (by omega)) (fun x h1 h2 => hJ x (by omega)), fun j hj => ?_⟩
  · unfold spNo; rw [hJ 0 (by omega)]; exact h.rs.no
  · by_cases e : j = k
    · rw [e]; exact hs
    · obtain ⟨a1, a2, a3, a4, a5⟩ := h.rs.sl j hj
      unfold SlR
      rw [hI (94 + 4 * j) (by omega), hI (95 + 4 * j) (by omega), hI (96 + 4 * j) (by omega), hI (97 + 4 * j) (by omega), hq 19 (by omega) (by omega) j e, hq 20 (by omega) (by omega) j e, hq 21 (by omega) (by omega) j e]
      refine ⟨a1, a2, a3, fun q => ?_, a5⟩
      obtain ⟨n, b1, b2, b3, b4⟩ := a4 q
      exact ⟨n, b1, b2, b3, fun x hx => by rw [h22 _ (by omega)]; exact b4 x hx⟩
theorem layL {k s : Nat} (hk : k < 4) (hs : s < 5) (x4 : Int32) : ∀ (d i fu : Nat) (K : Nat → Nat → Int32), i + d = 24 → d < fu → (∀ j, j < i → K 22 (24 * s + j) = K 18 (24 * k + j)) →
    ∃ K', f_X10_lay_134 fu (K, YZ) 0 (nI s) 2 (nI k) x4 (nI i) = some (x4, (K', YZ)) ∧ (∀ j, j < 24 → K' 22 (24 * s + j) = K 18 (24 * k + j)) ∧ (∀ j, j < 24 * s ∨ 24 * s + 24 ≤ j → K' 22 j = K 22 j) ∧ ∀ a, a ≠ 22 → K' a = K a := by
  intro d
  induction d with
  | zero =>
    intro i fu K hi hf h
    obtain ⟨fu, rfl⟩ : ∃ m, fu = m + 1 := ⟨fu - 1, by omega⟩
    have hi : i = 24 := by omega
    subst hi
    rw [f_X10_lay_134, if_pos (show (24 : Int32) ≤ nI 24 by decide)]
    exact ⟨K, rfl, h, fun _ _ => rfl, fun _ _ => rfl⟩
  | succ d ih =>
    intro i fu K hi hf h
    obtain ⟨fu, rfl⟩ : ∃ m, fu = m + 1 := ⟨fu - 1, by omega⟩
    rw [f_X10_lay_134, if_neg (show ¬ (24 : Int32) ≤ nI i from nI_ge (b := 24) (by omega) (by decide)), if_pos rfl, ix24, ix24]
    simp only [gt_self, gd_t, lp_some, st_d, nm_d, on_none, on_some, cl_some, mI_mk, mX_mk, setI_mk, u2_row, rowS_s, rowU_s, yT0, yP0, yT1, yL1, yP1, yT2, yL2, yP2, yT3, yL3, yP5, yT4, yL4, yP6, yT5, yL5, yP7, yT6, yL6, yP8, yT7, yL7, yP9, yT8, yL8, yP17, yT9, yL9, yP18, yT10, yL10, yP19, yT11, yL11, yP22, yT12, yL12, yP24, yT13, yL13, yP25, yT14, yL14, yP26, yT15, yL15, yP27, yT16, yL16, yP28, yT17, yL17, yP29, yT18, yL18, yP30, yT19, yL19, yP31, yT20, yL20, yP32, yT21, yL21, yP33, yT22, yL22, yP34, yT23, yL23, yP35, yT24, yL24]
    simp only [gd_ok (ib_nI (show 24 * k + i < 96 by omega) (show 96 < 2 ^ 31 by decide)), gd_ok (ib_nI (show 24 * s + i < 120 by omega) (show 120 < 2 ^ 31 by decide)), nI_clamp (show 24 * k + i < 2 ^ 31 by omega), nI_clamp (show 24 * s + i < 2 ^ 31 by omega), nI_1]
    obtain ⟨K', e, a, b, c⟩ := ih (i + 1) fu (rowS K 22 (rowU (K 22) (24 * s + i) (K 18 (24 * k + i)))) (by omega) (by omega) (fun j hj => by
      rw [rowS_s, rowS_n (show (18 : Nat) ≠ 22 by decide)]
      by_cases e : j = i
      · rw [e, rowU_s]
      · rw [rowU_n (by omega)]; exact h j (by omega))
    exact ⟨K', e, fun j hj => by rw [a j hj, rowS_n (by decide)], fun j hj => by rw [b j hj, rowS_s, rowU_n (by omega)], fun x hx => by rw [c x hx, rowS_n hx]⟩
theorem X71n (hS : LaS S) {s : Nat} (hs : s < 5) {t c : Int32} (h1 : ¬ t = 1) (h2 : ¬ t = 2) : f_X9_lay_71 (I, X, S) 0 (nI s) t c = some (I (94 + 4 * s) 0, (rowS I (94 + 4 * s) (rowU (rowU (I (94 + 4 * s)) 0 t) 3 c), X, S)) := by
  rw [f_X9_lay_71]
  simp only [gt_self, gd_t, lp_some, st_d, nm_d, on_none, on_some, cl_some, mI_mk, mX_mk, setI_mk, u2_row, rowS_s, rowU_s, xT0 hS, xP0_0 hS, xP0_1 hS, xP0_2 hS, xP0_3 hS, xP0_4 hS, xP0_5 hS, xP0_6 hS, xP0_7 hS, xP0_8 hS, xT73 hS, xP73_0 hS, xT74 hS, xL74 hS, xP73_1 hS, xT75 hS, xL75 hS, xP73_2 hS, xT76 hS, xL76 hS, xP73_3 hS, xT77 hS, xL77 hS, xT78 hS, xP78_0 hS, xT79 hS, xL79 hS, xT80 hS, xP80_0 hS, xP80_2 hS, xT81 hS, xL81 hS, xT82 hS, xL82 hS, xT83 hS, xL83 hS, xT84 hS, xL84 hS, xT85 hS, xL85 hS, gd_ok (ib_nI hs (show 5 < 2 ^ 31 by decide)), nI_clamp (show s < 2 ^ 31 by omega), slP hS hs, slT hS hs, if_neg h1, if_neg h2, rowS_rowS]
theorem R110 {s : Nat} (hs : s < 5) {t c x4 v : Int32} (h1 : ¬ t = 1) (h2 : ¬ t = 2) : f_X10_lay_110 (J, YZ) 0 (nI s) t c x4 20 (nI s) v = some (x4, (rowS (rowS J 20 (rowU (J 20) s v)) 21 (rowU (J 21) s 0), YZ)) := by
  rw [f_X10_lay_110]
  simp only [gt_self, gd_t, lp_some, st_d, nm_d, on_none, on_some, cl_some, mI_mk, mX_mk, setI_mk, u2_row, rowS_s, rowU_s, yT0, yP0, yT1, yL1, yP1, yT2, yL2, yP2, yT3, yL3, yP5, yT4, yL4, yP6, yT5, yL5, yP7, yT6, yL6, yP8, yT7, yL7, yP9, yT8, yL8, yP17, yT9, yL9, yP18, yT10, yL10, yP19, yT11, yL11, yP22, yT12, yL12, yP24, yT13, yL13, yP25, yT14, yL14, yP26, yT15, yL15, yP27, yT16, yL16, yP28, yT17, yL17, yP29, yT18, yL18, yP30, yT19, yL19, yP31, yT20, yL20, yP32, yT21, yL21, yP33, yT22, yL22, yP34, yT23, yL23, yP35, yT24, yL24, f_X10_lay_130, gd_ok (ib_nI hs (show 5 < 2 ^ 31 by decide)), nI_clamp (show s < 2 ^ 31 by omega), if_neg h1, rowS_n (show (21 : Nat) ≠ 20 by decide)]
  rw [show FU = 3999 + 1 from rfl, f_X10_lay_134, if_neg (by decide), if_neg h2]
theorem R61n {s : Nat} (hs : s < 5) {t c : Int32} (h1 : ¬ t = 1) (h2 : ¬ t = 2) : f_X10_lay_61 (J, YZ) 0 (nI s) t c = some (J 19 s, (rowS (rowS (rowS J 19 (rowU (J 19) s t)) 20 (rowU (J 20) s c)) 21 (rowU (J 21) s 0), YZ)) := by
  rw [f_X10_lay_61]
  simp only [gt_self, gd_t, lp_some, st_d, nm_d, on_none, on_some, cl_some, mI_mk, mX_mk, setI_mk, u2_row, rowS_s, rowU_s, yT0, yP0, yT1, yL1, yP1, yT2, yL2, yP2, yT3, yL3, yP5, yT4, yL4, yP6, yT5, yL5, yP7, yT6, yL6, yP8, yT7, yL7, yP9, yT8, yL8, yP17, yT9, yL9, yP18, yT10, yL10, yP19, yT11, yL11, yP22, yT12, yL12, yP24, yT13, yL13, yP25, yT14, yL14, yP26, yT15, yL15, yP27, yT16, yL16, yP28, yT17, yL17, yP29, yT18, yL18, yP30, yT19, yL19, yP31, yT20, yL20, yP32, yT21, yL21, yP33, yT22, yL22, yP34, yT23, yL23, yP35, yT24, yL24, gd_ok (ib_nI hs (show 5 < 2 ^ 31 by decide)), nI_clamp (show s < 2 ^ 31 by omega), if_neg h1, if_neg h2]
  rw [R110 hs h1 h2, rowS_n (show (20 : Nat) ≠ 19 by decide), rowS_n (show (21 : Nat) ≠ 19 by decide)]
theorem lay03 (h : Sm I X S J nc ns nt) {s u : Nat} (hs : s < 5) (hu : u = 0 ∨ u = 3) (c : Int32) : Ok2 (f_X9_lay_71 (I, X, S) 0 (nI s) (nI u) c) (f_X10_lay_61 (J, YZ) 0 (nI s) (nI u) c) := by
  have h1 : ¬ nI u = 1 := by rcases hu with rfl | rfl <;> decide
  have h2 : ¬ nI u = 2 := by rcases hu with rfl | rfl <;> decide
  rw [X71n h.rs.la hs h1 h2, R61n hs h1 h2, (h.rs.sl s hs).1]
  refine .mk (h.slot hs (fun a ha => rowS_n (by omega)) (fun a ha => by rw [rowS_n (by omega), rowS_n (by omega), rowS_n (by omega)]) (fun a g1 g2 j hj => ?_) (fun j hj => by rw [rowS_n (by decide), rowS_n (by decide), rowS_n (by decide)]) ?_)
  · rcases (show a = 19 ∨ a = 20 ∨ a = 21 by omega) with rfl | rfl | rfl
    · rw [rowS_n (by decide), rowS_n (by decide), rowS_s, rowU_n hj]
    · rw [rowS_n (by decide), rowS_s, rowU_n hj]
    · rw [rowS_s, rowU_n hj]
  · have e0 : rowS I (94 + 4 * s) (rowU (rowU (I (94 + 4 * s)) 0 (nI u)) 3 c) (94 + 4 * s) 0 = nI u := by rw [rowS_s, rowU_n (by decide), rowU_s]
    unfold SlR
    rw [e0]
    refine ⟨by rw [rowS_n (by decide), rowS_n (by decide), rowS_s, rowU_s], ⟨u, by omega, rfl⟩, fun q => absurd q h1, fun q => absurd q h2, fun _ => by rw [rowS_s, rowU_s, rowS_n (by decide), rowS_s, rowU_s]⟩
theorem lay1 (h : Sm I X S J nc ns nt) {s c : Nat} (hs : s < 5) (hc : c < nc) : Ok2 (f_X9_lay_71 (I, X, S) 0 (nI s) 1 (nI c)) (f_X10_lay_61 (J, YZ) 0 (nI s) 1 (nI c)) := by
  have hS := h.rs.la
  obtain ⟨w, hw1⟩ : ∃ w, w = 1 := ⟨1, rfl⟩
  have hw : isW w := Or.inl hw1
  have hW : Wld I X S w (J 1) nc ns nt := by subst hw1; exact h.w
  have hR := hW.r
  have hG := hW.gn
  have hr := hW.gr
  have h8 := hG.2.1
  have h10 := hG.2.2.2.1
  have cc := hR.2.1 c hc
  rw [f_X9_lay_71, f_X10_lay_61]
  simp only [gt_self, gd_t, lp_some, st_d, nm_d, on_none, on_some, cl_some, mI_mk, mX_mk, setI_mk, u2_row, rowS_s, rowU_s, xT0 hS, xP0_1 hS, xP0_2 hS, xP0_3 hS, xP0_4 hS, xP0_5 hS, xP0_6 hS, xP0_7 hS, xP0_8 hS, xT73 hS, xP73_0 hS, xT74 hS, xL74 hS, xP73_1 hS, xT75 hS, xL75 hS, xP73_2 hS, xT76 hS, xL76 hS, xP73_3 hS, xT77 hS, xL77 hS, xT78 hS, xP78_0 hS, xT79 hS, xL79 hS, xT80 hS, xP80_0 hS, xP80_2 hS, xT81 hS, xL81 hS, xT82 hS, xL82 hS, xT83 hS, xL83 hS, xT84 hS, xL84 hS, xT85 hS, xL85 hS, wT hS hw, wP0 hS hw, wP2 hS hw, wP4 hS hw, wP7 hS hw, wP9 hS hw, wT1 hS hw, wL1 hS hw, wT2 hS hw, wL2 hS hw, wT3 hS hw, wL3 hS hw, wT4 hS hw, wL4 hS hw, wT5 hS hw, wL5 hS hw, yT0, yP0, yT1, yL1, yP1, yT2, yL2, yP2, yT3, yL3, yP5, yT4, yL4, yP6, yT5, yL5, yP7, yT6, yL6, yP8, yT7, yL7, yP9, yT8, yL8, yP17, yT9, yL9, yP18, yT10, yL10, yP19, yT11, yL11, yP22, yT12, yL12, yP24, yT13, yL13, yP25, yT14, yL14, yP26, yT15, yL15, yP27, yT16, yL16, yP28, yT17, yL17, yP29, yT18, yL18, yP30, yT19, yL19, yP31, yT20, yL20, yP32, yT21, yL21, yP33, yT22, yL22, yP34, yT23, yL23, yP35, yT24, yL24, xP0_0w hS hw1, Xin_1, Xin_2, Xin_3, Xin_4, Xin_5, Xin_60, Xin_99, Xin_100, Xin_999, Rin_1, Rin_2, Rin_3, Rin_4, Rin_5, Rin_60, Rin_99, Rin_100, Rin_999, Rin1_3, Rin1_8, Rin1_30, Rin1_60, Rin1_99, XhasC hS hw hR hG, XhasS hS hw hR hG, RisC hG, RisS hG, RisW, RisSh, RisSl, ifB, gd_ok (ib_nI hs (show 5 < 2 ^ 31 by decide)), nI_clamp (show s < 2 ^ 31 by omega), slP hS hs, slT hS hs, slPc hS hs, slTc hS hs, gd_ok (ib_nI (show c < 8 by omega) (show 8 < 2 ^ 31 by decide)), nI_clamp (show c < 2 ^ 31 by omega), wPc hS hw (show c < 8 by omega), wTc hS hw (show c < 8 by omega), if_true, Rof0 (show c < 8 by omega), f_X10_lay_110, Rworth (show c < 8 by omega), f_X10_lay_130, f_X0_take, f_X0_become, rowS_rowS]
  rw [show FU = 3999 + 1 from rfl, f_X10_lay_134, if_neg (by decide), if_neg (by decide), (h.rs.sl s hs).1]
  rw [rowS_n (show w + 6 + c ≠ 94 + 4 * s by omega), cc.1, cc.2.1, cc.2.2.1, cc.2.2.2]
  rw [rowS_n (show (1 : Nat) ≠ 20 by decide), rowS_n (show (1 : Nat) ≠ 19 by decide), rowS_n (show (20 : Nat) ≠ 19 by decide), rowS_n (show (21 : Nat) ≠ 20 by decide), rowS_n (show (21 : Nat) ≠ 19 by decide), rowS_n (show 95 + 4 * s ≠ 94 + 4 * s by omega)]
  obtain ⟨g, hg, eg⟩ := (hr.1 c hc).1
  refine .mk (h.slot hs (fun a ha => by rw [rowS_n (by omega), rowS_n (by omega)]) (fun a ha => by rw [rowS_n (by omega), rowS_n (by omega), rowS_n (by omega)]) (fun a g1 g2 j hj => ?_) (fun j hj => by rw [rowS_n (by decide), rowS_n (by decide), rowS_n (by decide)]) ?_)
  · rcases (show a = 19 ∨ a = 20 ∨ a = 21 by omega) with rfl | rfl | rfl
    · rw [rowS_n (by decide), rowS_n (by decide), rowS_s, rowU_n hj]
    · rw [rowS_n (by decide), rowS_s, rowU_n hj]
    · rw [rowS_s, rowU_n hj]
  · unfold SlR
    rw [rowS_n (show 94 + 4 * s ≠ 95 + 4 * s by omega), rowS_s, rowU_s, rowS_s, rowS_s]
    refine ⟨by rw [rowS_n (by decide), rowS_n (by decide), rowS_s, rowU_s], ⟨1, by decide, rfl⟩, fun _ => ⟨⟨g, hg, ?_, ?_⟩, ?_⟩, fun q => absurd q (by decide), fun q => absurd q (by decide)⟩
    · rw [rowS_n (by decide), rowS_s, rowU_s]; exact eg
    · rw [rowU_n (by decide), rowU_n (by decide), rowU_n (by decide), rowU_s]; exact eg
    · rw [rowU_s, rowU_s, rowU_n (show (2 : Nat) ≠ 3 by decide), rowU_s, rowU_n (show (0 : Nat) ≠ 3 by decide), rowU_n (show (0 : Nat) ≠ 2 by decide), rowU_n (show (0 : Nat) ≠ 1 by decide), rowU_s]
theorem lay2 (h : Sm I X S J nc ns nt) {s k : Nat} (hs : s < 5) (hk : k < 4) : Ok2 (f_X9_lay_71 (I, X, S) 0 (nI s) 2 (nI k)) (f_X10_lay_61 (J, YZ) 0 (nI s) 2 (nI k)) := by
  have hS := h.rs.la
  obtain ⟨w, hw1⟩ : ∃ w, w = 1 := ⟨1, rfl⟩
  have hw : isW w := Or.inl hw1
  have hW : Wld I X S w (J 1) nc ns nt := by subst hw1; exact h.w
  have hR := hW.r
  have hG := hW.gn
  have hr := hW.gr
  have h8 := hG.2.1
  have h10 := hG.2.2.2.1
  obtain ⟨_, j16, n, hn, i1, j17, hc⟩ := h.rs.sh k hk
  rw [f_X9_lay_71, f_X10_lay_61]
  simp only [gt_self, gd_t, lp_some, st_d, nm_d, on_none, on_some, cl_some, mI_mk, mX_mk, setI_mk, u2_row, rowS_s, rowU_s, xT0 hS, xP0_1 hS, xP0_2 hS, xP0_3 hS, xP0_4 hS, xP0_5 hS, xP0_6 hS, xP0_7 hS, xP0_8 hS, xT73 hS, xP73_0 hS, xT74 hS, xL74 hS, xP73_1 hS, xT75 hS, xL75 hS, xP73_2 hS, xT76 hS, xL76 hS, xP73_3 hS, xT77 hS, xL77 hS, xT78 hS, xP78_0 hS, xT79 hS, xL79 hS, xT80 hS, xP80_0 hS, xP80_2 hS, xT81 hS, xL81 hS, xT82 hS, xL82 hS, xT83 hS, xL83 hS, xT84 hS, xL84 hS, xT85 hS, xL85 hS, wT hS hw, wP0 hS hw, wP2 hS hw, wP4 hS hw, wP7 hS hw, wP9 hS hw, wT1 hS hw, wL1 hS hw, wT2 hS hw, wL2 hS hw, wT3 hS hw, wL3 hS hw, wT4 hS hw, wL4 hS hw, wT5 hS hw, wL5 hS hw, yT0, yP0, yT1, yL1, yP1, yT2, yL2, yP2, yT3, yL3, yP5, yT4, yL4, yP6, yT5, yL5, yP7, yT6, yL6, yP8, yT7, yL7, yP9, yT8, yL8, yP17, yT9, yL9, yP18, yT10, yL10, yP19, yT11, yL11, yP22, yT12, yL12, yP24, yT13, yL13, yP25, yT14, yL14, yP26, yT15, yL15, yP27, yT16, yL16, yP28, yT17, yL17, yP29, yT18, yL18, yP30, yT19, yL19, yP31, yT20, yL20, yP32, yT21, yL21, yP33, yT22, yL22, yP34, yT23, yL23, yP35, yT24, yL24, xP0_0w hS hw1, Xin_1, Xin_2, Xin_3, Xin_4, Xin_5, Xin_60, Xin_99, Xin_100, Xin_999, Rin_1, Rin_2, Rin_3, Rin_4, Rin_5, Rin_60, Rin_99, Rin_100, Rin_999, Rin1_3, Rin1_8, Rin1_30, Rin1_60, Rin1_99, XhasC hS hw hR hG, XhasS hS hw hR hG, RisC hG, RisS hG, RisW, RisSh, RisSl, ifB, gd_ok (ib_nI hs (show 5 < 2 ^ 31 by decide)), nI_clamp (show s < 2 ^ 31 by omega), slP hS hs, slT hS hs, slPs hS hs, slTs hS hs, slPp hS hs, slTp hS hs, slLp hS hs, gd_ok (ib_nI hk (show 4 < 2 ^ 31 by decide)), nI_clamp (show k < 2 ^ 31 by omega), shP hS hk, shT hS hk, shPp hS hk, shTp hS hk, shLp hS hk, if_neg (show ¬ (2 : Int32) = 1 by decide), if_true, f_X10_lay_110, f_X10_lay_130, f_X2_take, setR_mk, rowS_rowS]
  rw [gd_ok (by decide), rowS_n (show (17 : Nat) ≠ 19 by decide), j17, rowS_n (show (20 : Nat) ≠ 19 by decide), rowS_n (show (21 : Nat) ≠ 20 by decide), rowS_n (show (21 : Nat) ≠ 19 by decide)]
  obtain ⟨K, z, w1, v1, o1⟩ := layL hk hs (J 19 s) 24 0 FU (rowS (rowS (rowS J 19 (rowU (J 19) s 2)) 20 (rowU (J 20) s (nI n))) 21 (rowU (J 21) s 0)) (by omega) (FU_ge (by omega)) (fun j hj => absurd hj (by omega))
  rw [show nI 0 = (0 : Int32) from rfl] at z
  rw [z, (h.rs.sl s hs).1]
  rw [cl_some]
  generalize hA : rowS (rowS I (94 + 4 * s) (rowU (I (94 + 4 * s)) 0 2)) (96 + 4 * s) _ = A
  have aO : ∀ a, a ≠ 94 + 4 * s → a ≠ 96 + 4 * s → A a = I a := fun a h1 h2 => by rw [← hA, rowS_n h2, rowS_n h1]
  have a96 : A (96 + 4 * s) 1 = nI n := by rw [← hA, rowS_s, rowU_s, rowS_n (by omega), rowS_n (by omega)]; exact i1
  have a94 : A (94 + 4 * s) 0 = 2 := by rw [← hA, rowS_n (by omega), rowS_s, rowU_s]
  refine .mk (h.slot hs (fun a ha => by rw [rowS_n (by omega)]; exact aO a (by omega) (by omega)) (fun a ha => by rw [o1 a (by omega), rowS_n (by omega), rowS_n (by omega), rowS_n (by omega)]) (fun a g1 g2 j hj => ?_) (fun j hj => by rw [v1 j hj, rowS_n (by decide), rowS_n (by decide), rowS_n (by decide)]) ?_)
  · rw [o1 a (by omega)]
    rcases (show a = 19 ∨ a = 20 ∨ a = 21 by omega) with rfl | rfl | rfl
    · rw [rowS_n (by decide), rowS_n (by decide), rowS_s, rowU_n hj]
    · rw [rowS_n (by decide), rowS_s, rowU_n hj]
    · rw [rowS_s, rowU_n hj]
  · unfold SlR
    rw [rowS_n (show 94 + 4 * s ≠ 97 + 4 * s by omega), a94]
    refine ⟨by rw [o1 19 (by decide), rowS_n (by decide), rowS_n (by decide), rowS_s, rowU_s], ⟨2, by decide, rfl⟩, fun q => absurd q (by decide), fun _ => ⟨n, hn, by rw [rowS_n (by omega)]; exact a96, by rw [o1 20 (by decide), rowS_n (by decide), rowS_s, rowU_s], fun j hj => ?_⟩, fun q => absurd q (by decide)⟩
    rw [w1 j hj, rowS_n (show (18 : Nat) ≠ 21 by decide), rowS_n (show (18 : Nat) ≠ 20 by decide), rowS_n (show (18 : Nat) ≠ 19 by decide), rowS_s, ← hc j hj]
    unfold va_cpy
    rw [if_pos ⟨by rw [tn0]; omega, by rw [tn0, show (24 : Int32).toNatClampNeg = 24 from rfl]; omega⟩, aO _ (by omega) (by omega), tn0, Nat.zero_add, Nat.sub_zero]
end Lay
