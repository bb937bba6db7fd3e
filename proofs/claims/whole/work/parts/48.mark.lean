/-! mark, reads, pour, copy -/
theorem missB {I : Nat → Nat → Int32} {X : Nat → Nat → Option Nat} {S : Sta} (hS : LaS S) {k : Nat} (hk : k < 4) : f_X2_isMissing (I, X, S) (86 + 2 * k) = some (bI (decide (I (86 + 2 * k) 0 = -1)), (I, X, S)) := by
  rw [f_X2_isMissing]
  simp only [gt_self, gd_t, lp_some, st_d, nm_d, on_none, on_some, cl_some, mI_mk, mX_mk, setI_mk, u2_row, rowS_s, rowU_s, shT hS hk]
  by_cases e : I (86 + 2 * k) 0 = -1
  · rw [if_pos e, decide_eq_true e]; rfl
  · rw [if_neg e, decide_eq_false e]; rfl
section Sheets2
variable {I : Nat → Nat → Int32} {X : Nat → Nat → Option Nat} {S : Sta} {J : Nat → Nat → Int32} {nc ns nt : Nat}
/-- missing or not, on both sides -/
theorem missI {k : Nat} (hs : ShR I J k) {α : Type} (x y x' y' : α) (P : α → α → Prop) (hm : I (86 + 2 * k) 0 = -1 → P y y') (hn : (I (86 + 2 * k) 0 = 0 ∨ I (86 + 2 * k) 0 = 1) → P x x') : P (if bI (decide (I (86 + 2 * k) 0 = -1)) = 0 then x else y) (if 0 ≤ J 16 k then x' else y') := by
  rw [ifB, hs.2.1]
  rcases hs.1 with e | e | e
  · rw [if_pos (decide_eq_true e), e, if_neg (by decide)]; exact hm e
  · rw [if_neg (by rw [e]; decide), e, if_pos (by decide)]; exact hn (Or.inl e)
  · rw [if_neg (by rw [e]; decide), e, if_pos (by decide)]; exact hn (Or.inr e)
theorem readsL (h : Sm I X S J nc ns nt) {k n : Nat} (hk : k < 4) (hn : n ≤ 24) (i1 : I (86 + 2 * k) 1 = nI n) (j17 : J 17 k = nI n) (hc : ∀ j, j < 24 → I (87 + 2 * k) j = J 18 (24 * k + j)) {nest : Nat → Option Nat} (hX : ∀ s, s < 10 → I 74 s = encC (nest s)) (hJ : ∀ s, s < 10 → J 5 s = encR (nest s)) (hl : ∀ s c, nest s = some c → c < 8) : ∀ (d i f1 f2 : Nat), i + d = n → d < f1 → d < f2 → Ok2 (f_X9_reads_34 f1 (I, X, S) 0 (86 + 2 * k) (nI i)) (f_X10_reads_28 f2 (J, YZ) 0 (nI k) (nI i)) := by
  have hS := h.rs.la
  obtain ⟨w, hw1⟩ : ∃ w, w = 1 := ⟨1, rfl⟩
  have hw : isW w := Or.inl hw1
  have hW : Wld I X S w (J 1) nc ns nt := by subst hw1; exact h.w
  have hR := hW.r
  have hG := hW.gn
  have hr := hW.gr
  have h8 := hG.2.1
  have h10 := hG.2.2.2.1
  intro d
  induction d with
  | zero =>
    intro i f1 f2 hi g1 g2
    obtain ⟨f1, rfl⟩ : ∃ m, f1 = m + 1 := ⟨f1 - 1, by omega⟩
    obtain ⟨f2, rfl⟩ : ∃ m, f2 = m + 1 := ⟨f2 - 1, by omega⟩
    rw [f_X9_reads_34, f_X10_reads_28]
    simp only [gt_self, gd_t, lp_some, st_d, nm_d, on_none, on_some, cl_some, mI_mk, mX_mk, setI_mk, u2_row, rowS_s, rowU_s, shT hS hk, yT0, yP0, yT1, yL1, yP1, yT2, yL2, yP2, yT3, yL3, yP5, yT4, yL4, yP6, yT5, yL5, yP7, yT6, yL6, yP8, yT7, yL7, yP9, yT8, yL8, yP17, yT9, yL9, yP18, yT10, yL10, yP19, yT11, yL11, yP22, yT12, yL12, yP24, yT13, yL13, yP25, yT14, yL14, yP26, yT15, yL15, yP27, yT16, yL16, yP28, yT17, yL17, yP29, yT18, yL18, yP30, yT19, yL19, yP31, yT20, yL20, yP32, yT21, yL21, yP33, yT22, yL22, yP34, yT23, yL23, yP35, yT24, yL24]
    rw [gd_ok (ib_nI hk (by decide)), nI_clamp (show k < 2 ^ 31 by omega), i1, j17, if_pos (nI_le (show n ≤ i by omega) (by omega)), if_pos (nI_le (show n ≤ i by omega) (by omega))]
    exact .mk h
  | succ d ih =>
    intro i f1 f2 hi g1 g2
    obtain ⟨f1, rfl⟩ : ∃ m, f1 = m + 1 := ⟨f1 - 1, by omega⟩
    obtain ⟨f2, rfl⟩ : ∃ m, f2 = m + 1 := ⟨f2 - 1, by omega⟩
    have ih := ih (i + 1) f1 f2 (by omega) (by omega) (by omega)
    rw [f_X9_reads_34, f_X10_reads_28]
    simp only [gt_self, gd_t, lp_some, st_d, nm_d, on_none, on_some, cl_some, mI_mk, mX_mk, setI_mk, u2_row, rowS_s, rowU_s, shT hS hk, shPp hS hk, shTp hS hk, shLp hS hk, yT0, yP0, yT1, yL1, yP1, yT2, yL2, yP2, yT3, yL3, yP5, yT4, yL4, yP6, yT5, yL5, yP7, yT6, yL6, yP8, yT7, yL7, yP9, yT8, yL8, yP17, yT9, yL9, yP18, yT10, yL10, yP19, yT11, yL11, yP22, yT12, yL12, yP24, yT13, yL13, yP25, yT14, yL14, yP26, yT15, yL15, yP27, yT16, yL16, yP28, yT17, yL17, yP29, yT18, yL18, yP30, yT19, yL19, yP31, yT20, yL20, yP32, yT21, yL21, yP33, yT22, yL22, yP34, yT23, yL23, yP35, yT24, yL24]
    rw [gd_ok (ib_nI hk (by decide)), nI_clamp (show k < 2 ^ 31 by omega), i1, j17, if_neg (nI_ge (show i < n by omega) (by omega)), if_neg (nI_ge (show i < n by omega) (by omega)), ix24]
    simp only [gd_ok (ib_nI (show i < 24 by omega) (show 24 < 2 ^ 31 by decide)), gd_ok (ib_nI (show 24 * k + i < 96 by omega) (show 96 < 2 ^ 31 by decide)), nI_clamp (show i < 2 ^ 31 by omega), nI_clamp (show 24 * k + i < 2 ^ 31 by omega)]
    rw [hc i (by omega), nI_1]
    by_cases e : J 18 (24 * k + i) = -1000000005
    · rw [if_pos e, if_pos e]; exact ih
    · rw [if_neg e, if_neg e, f_X9_nestIs]
      simp only [gt_self, gd_t, lp_some, st_d, nm_d, on_none, on_some, cl_some, mI_mk, mX_mk, setI_mk, u2_row, rowS_s, rowU_s, xT0 hS, xP0_1 hS, xP0_2 hS, xP0_3 hS, xP0_4 hS, xP0_5 hS, xP0_6 hS, xP0_7 hS, xP0_8 hS, xT73 hS, xP73_0 hS, xT74 hS, xL74 hS, xP73_1 hS, xT75 hS, xL75 hS, xP73_2 hS, xT76 hS, xL76 hS, xP73_3 hS, xT77 hS, xL77 hS, xT78 hS, xP78_0 hS, xT79 hS, xL79 hS, xT80 hS, xP80_0 hS, xP80_2 hS, xT81 hS, xL81 hS, xT82 hS, xL82 hS, xT83 hS, xL83 hS, xT84 hS, xL84 hS, xT85 hS, xL85 hS, wT hS hw, wP0 hS hw, wP2 hS hw, wP4 hS hw, wP7 hS hw, wP9 hS hw, wT1 hS hw, wL1 hS hw, wT2 hS hw, wL2 hS hw, wT3 hS hw, wL3 hS hw, wT4 hS hw, wL4 hS hw, wT5 hS hw, wL5 hS hw, yT0, yP0, yT1, yL1, yP1, yT2, yL2, yP2, yT3, yL3, yP5, yT4, yL4, yP6, yT5, yL5, yP7, yT6, yL6, yP8, yT7, yL7, yP9, yT8, yL8, yP17, yT9, yL9, yP18, yT10, yL10, yP19, yT11, yL11, yP22, yT12, yL12, yP24, yT13, yL13, yP25, yT14, yL14, yP26, yT15, yL15, yP27, yT16, yL16, yP28, yT17, yL17, yP29, yT18, yL18, yP30, yT19, yL19, yP31, yT20, yL20, yP32, yT21, yL21, yP33, yT22, yL22, yP34, yT23, yL23, yP35, yT24, yL24, xP0_0w hS hw1, Xin_1, Xin_2, Xin_3, Xin_4, Xin_5, Xin_60, Xin_99, Xin_100, Xin_999, Rin_1, Rin_2, Rin_3, Rin_4, Rin_5, Rin_60, Rin_99, Rin_100, Rin_999, Rin1_3, Rin1_8, Rin1_30, Rin1_60, Rin1_99, XhasC hS hw hR hG, XhasS hS hw hR hG, RisC hG, RisS hG, RisW, RisSh, RisSl, ifB]
      by_cases e2 : hasB (nI i) ns = true
      · rw [if_pos e2, if_pos e2]
        have hi : i < ns := by
          rw [hasB_iff (by omega) (by omega)] at e2; exact of_decide_eq_true e2
        rw [gd_ok (ib_nI (by omega) (by decide)), gd_ok (ib_nI (by omega) (by decide)), nI_clamp (by omega), hX i (by omega), hJ i (by omega)]
        have key : ∀ v, f_X9_nestIs_35 (I, X, S) v (encR (nest i)) = some (bI (decide (v = encR (nest i))), (I, X, S)) := by
          intro v
          rw [f_X9_nestIs_35]
          by_cases e : v = encR (nest i)
          · rw [if_pos e, decide_eq_true e]; rfl
          · rw [if_neg e, decide_eq_false e]; rfl
        have e3 : (if encC (nest i) = -1000000005 then f_X9_nestIs_35 (I, X, S) (J 18 (24 * k + i)) (-1) else f_X9_nestIs_35 (I, X, S) (J 18 (24 * k + i)) (encC (nest i))) = f_X9_nestIs_35 (I, X, S) (J 18 (24 * k + i)) (encR (nest i)) := by
          cases hq : nest i with
          | none => rw [if_pos (encC_no rfl)]; rfl
          | some c => rw [if_neg (encC_pos rfl (by have := hl i c hq; omega))]; rfl
        rw [e3, key]
        simp only [cl_some, ifB]
        by_cases e4 : J 18 (24 * k + i) = encR (nest i)
        · rw [if_pos (decide_eq_true e4), if_pos e4]; exact ih
        · rw [if_neg (by rw [decide_eq_false e4]; exact Bool.false_ne_true), if_neg e4]; exact .mk h
      · rw [if_neg e2, if_neg e2]
        simp only [cl_some, if_true]
        exact .mk h
theorem op_reads (h : Sm I X S J nc ns nt) (a : Int32) : Ok2 (f_X9_reads (I, X, S) 0 a) (f_X10_reads (J, YZ) 0 a) := by
  have hS := h.rs.la
  obtain ⟨w, hw1⟩ : ∃ w, w = 1 := ⟨1, rfl⟩
  have hw : isW w := Or.inl hw1
  have hW : Wld I X S w (J 1) nc ns nt := by subst hw1; exact h.w
  have hR := hW.r
  have hG := hW.gn
  have hr := hW.gr
  have h8 := hG.2.1
  have h10 := hG.2.2.2.1
  rw [f_X9_reads, f_X10_reads]
  simp only [gt_self, gd_t, lp_some, st_d, nm_d, on_none, on_some, cl_some, mI_mk, mX_mk, setI_mk, u2_row, rowS_s, rowU_s, xT0 hS, xP0_1 hS, xP0_2 hS, xP0_3 hS, xP0_4 hS, xP0_5 hS, xP0_6 hS, xP0_7 hS, xP0_8 hS, xT73 hS, xP73_0 hS, xT74 hS, xL74 hS, xP73_1 hS, xT75 hS, xL75 hS, xP73_2 hS, xT76 hS, xL76 hS, xP73_3 hS, xT77 hS, xL77 hS, xT78 hS, xP78_0 hS, xT79 hS, xL79 hS, xT80 hS, xP80_0 hS, xP80_2 hS, xT81 hS, xL81 hS, xT82 hS, xL82 hS, xT83 hS, xL83 hS, xT84 hS, xL84 hS, xT85 hS, xL85 hS, wT hS hw, wP0 hS hw, wP2 hS hw, wP4 hS hw, wP7 hS hw, wP9 hS hw, wT1 hS hw, wL1 hS hw, wT2 hS hw, wL2 hS hw, wT3 hS hw, wL3 hS hw, wT4 hS hw, wL4 hS hw, wT5 hS hw, wL5 hS hw, yT0, yP0, yT1, yL1, yP1, yT2, yL2, yP2, yT3, yL3, yP5, yT4, yL4, yP6, yT5, yL5, yP7, yT6, yL6, yP8, yT7, yL7, yP9, yT8, yL8, yP17, yT9, yL9, yP18, yT10, yL10, yP19, yT11, yL11, yP22, yT12, yL12, yP24, yT13, yL13, yP25, yT14, yL14, yP26, yT15, yL15, yP27, yT16, yL16, yP28, yT17, yL17, yP29, yT18, yL18, yP30, yT19, yL19, yP31, yT20, yL20, yP32, yT21, yL21, yP33, yT22, yL22, yP34, yT23, yL23, yP35, yT24, yL24, xP0_0w hS hw1, Xin_1, Xin_2, Xin_3, Xin_4, Xin_5, Xin_60, Xin_99, Xin_100, Xin_999, Rin_1, Rin_2, Rin_3, Rin_4, Rin_5, Rin_60, Rin_99, Rin_100, Rin_999, Rin1_3, Rin1_8, Rin1_30, Rin1_60, Rin1_99, XhasC hS hw hR hG, XhasS hS hw hR hG, RisC hG, RisS hG, RisW, RisSh, RisSl, ifB]
  refine Ok2.ite h (fun e1 => ?_)
  obtain ⟨k, hk, rfl⟩ := hasB_t e1 (by decide)
  rw [gd_ok (ib_nI hk (by decide)), gd_ok (ib_nI hk (by decide)), nI_clamp (by omega)]
  simp only [shP hS hk, shT hS hk, gt_self, gd_t, lp_some, st_d, nm_d, on_none, on_some, cl_some, mI_mk, mX_mk, setI_mk, u2_row, rowS_s, rowU_s]
  rw [missB hS hk]
  simp only [gt_self, gd_t, lp_some, st_d, nm_d, on_none, on_some, cl_some, mI_mk, mX_mk, setI_mk, u2_row, rowS_s, rowU_s, xT0 hS]
  refine missI (h.rs.sh k hk) _ _ _ _ Ok2 (fun _ => .mk h) (fun _ => ?_)
  obtain ⟨I', J', x1, x2, h', j1, hsp, hsy, hL⟩ := setBoth h
  obtain ⟨_, _, n, hn, i1, j17, hc⟩ := h'.rs.sh k hk
  rw [x1, x2]
  simp only [cl_some]
  exact readsL h' hk hn i1 j17 hc hsp.1 hsy.2.1 (nests_nl h8) n 0 FU FU (by omega) (FU_ge (by omega)) (FU_ge (by omega))
theorem op_mark (h : Sm I X S J nc ns nt) (a b c : Int32) : Ok2 (f_X9_mark (I, X, S) 0 a b c) (f_X10_mark (J, YZ) 0 a b c) := by
  have hS := h.rs.la
  rw [f_X9_mark, f_X10_mark, RisSh, Xin_3]
  simp only [gt_self, gd_t, lp_some, st_d, nm_d, on_none, on_some, cl_some, mI_mk, mX_mk, setI_mk, u2_row, rowS_s, rowU_s, xT0 hS, xP0_0 hS, xP0_1 hS, xP0_2 hS, xP0_3 hS, xP0_4 hS, xP0_5 hS, xP0_6 hS, xP0_7 hS, xP0_8 hS, xT73 hS, xP73_0 hS, xT74 hS, xL74 hS, xP73_1 hS, xT75 hS, xL75 hS, xP73_2 hS, xT76 hS, xL76 hS, xP73_3 hS, xT77 hS, xL77 hS, xT78 hS, xP78_0 hS, xT79 hS, xL79 hS, xT80 hS, xP80_0 hS, xP80_2 hS, xT81 hS, xL81 hS, xT82 hS, xL82 hS, xT83 hS, xL83 hS, xT84 hS, xL84 hS, xT85 hS, xL85 hS, yT0, yP0, yT1, yL1, yP1, yT2, yL2, yP2, yT3, yL3, yP5, yT4, yL4, yP6, yT5, yL5, yP7, yT6, yL6, yP8, yT7, yL7, yP9, yT8, yL8, yP17, yT9, yL9, yP18, yT10, yL10, yP19, yT11, yL11, yP22, yT12, yL12, yP24, yT13, yL13, yP25, yT14, yL14, yP26, yT15, yL15, yP27, yT16, yL16, yP28, yT17, yL17, yP29, yT18, yL18, yP30, yT19, yL19, yP31, yT20, yL20, yP32, yT21, yL21, yP33, yT22, yL22, yP34, yT23, yL23, yP35, yT24, yL24, ifB]
  refine Ok2.ite h (fun e1 => ?_)
  obtain ⟨k, hk, rfl⟩ := hasB_t e1 (by decide)
  have hsh := h.rs.sh k hk
  rw [gd_ok (ib_nI hk (by decide)), gd_ok (ib_nI hk (by decide)), nI_clamp (by omega)]
  simp only [shP hS hk, shT hS hk, gt_self, gd_t, lp_some, st_d, nm_d, on_none, on_some, cl_some, mI_mk, mX_mk, setI_mk, u2_row, rowS_s, rowU_s]
  rw [missB hS hk]
  simp only [gt_self, gd_t, lp_some, st_d, nm_d, on_none, on_some, cl_some, mI_mk, mX_mk, setI_mk, u2_row, rowS_s, rowU_s]
  refine missI hsh _ _ _ _ Ok2 (fun _ => .mk h) (fun hsort => ?_)
  obtain ⟨_, j16, n, hn, i1, j17, hc⟩ := hsh
  rw [gd_ok (ib_nI hk (by decide)), j17, Rinm1 _ _ (by omega), f_X2_has]
  simp only [gt_self, gd_t, lp_some, st_d, nm_d, on_none, on_some, cl_some, mI_mk, mX_mk, setI_mk, u2_row, rowS_s, rowU_s, shT hS hk]
  rw [i1, hasLoop]
  simp only [cl_some, ifB, yT0, gt_self, yP27, lp_some, yT16, yL16, mI_mk, shT hS hk]
  refine Ok2.ite h (fun e2 => ?_)
  obtain ⟨i, hi, rfl⟩ := hasB_t e2 (by omega)
  rw [gd_ok (ib_nI hk (by decide)), j16]
  have fin : ∀ v, Ok2 (some (1, (rowS I (87 + 2 * k) (rowU (I (87 + 2 * k)) i v), X, S))) (some (1, (rowS J 18 (rowU (J 18) (24 * k + i) v), YZ))) := by
    intro v
    refine .mk (h.sheet hk (fun x h1 h2 => rowS_n h2) (fun x h1 h2 h3 => rowS_n h3) (fun j hj => by rw [rowS_n (by decide)]) (fun j hj => by rw [rowS_n (by decide)]) (fun j hj => by rw [rowS_s, rowU_n (by omega)]) ?_)
    unfold ShR
    rw [rowS_n (show 86 + 2 * k ≠ 87 + 2 * k by omega), rowS_n (show (16 : Nat) ≠ 18 by decide), rowS_n (show (17 : Nat) ≠ 18 by decide), rowS_s, rowS_s]
    refine ⟨Or.inr hsort, j16, n, hn, i1, j17, fun j hj => ?_⟩
    by_cases e : j = i
    · rw [e, rowU_s, rowU_s]
    · rw [rowU_n e, rowU_n (by omega)]; exact hc j hj
  have R92 : ∀ v, f_X10_mark_92 (J, YZ) 0 (nI k) (nI i) v = some (1, (rowS J 18 (rowU (J 18) (24 * k + i) (if J 16 k = 0 then s16 v else v)), YZ)) := by
    intro v
    rw [f_X10_mark_92]
    simp only [gt_self, gd_t, lp_some, st_d, nm_d, on_none, on_some, cl_some, mI_mk, mX_mk, setI_mk, u2_row, rowS_s, rowU_s, yT0, yP0, yT1, yL1, yP1, yT2, yL2, yP2, yT3, yL3, yP5, yT4, yL4, yP6, yT5, yL5, yP7, yT6, yL6, yP8, yT7, yL7, yP9, yT8, yL8, yP17, yT9, yL9, yP18, yT10, yL10, yP19, yT11, yL11, yP22, yT12, yL12, yP24, yT13, yL13, yP25, yT14, yL14, yP26, yT15, yL15, yP27, yT16, yL16, yP28, yT17, yL17, yP29, yT18, yL18, yP30, yT19, yL19, yP31, yT20, yL20, yP32, yT21, yL21, yP33, yT22, yL22, yP34, yT23, yL23, yP35, yT24, yL24, ix24, f_X10_mark_117]
    rw [gd_ok (ib_nI hk (by decide)), nI_clamp (show k < 2 ^ 31 by omega)]
    simp only [gd_ok (ib_nI (show 24 * k + i < 96 by omega) (show 96 < 2 ^ 31 by decide)), nI_clamp (show 24 * k + i < 2 ^ 31 by omega)]
    by_cases e : J 16 k = 0
    · rw [if_pos e, if_pos e]
    · rw [if_neg e, if_neg e]
  have X94 : ∀ v, f_X9_mark_94 (I, X, S) (nI i) v (86 + 2 * k) = some (1, (rowS I (87 + 2 * k) (rowU (I (87 + 2 * k)) i v), X, S)) := by
    intro v
    rw [f_X9_mark_94]
    simp only [gt_self, gd_t, lp_some, st_d, nm_d, on_none, on_some, cl_some, mI_mk, mX_mk, setI_mk, u2_row, rowS_s, rowU_s, shT hS hk, shPp hS hk, shTp hS hk, shLp hS hk]
    rw [gd_ok (ib_nI (by omega) (by decide)), nI_clamp (by omega)]
  rcases hsort with e0 | e0
  · rw [if_pos e0, if_pos e0]
    by_cases e3 : c = -1000000005
    · rw [if_pos e3, if_pos e3]; exact .mk h
    · rw [if_neg e3, if_neg e3]
      have hj : J 16 k = 0 := j16.trans e0
      simp only [shPp hS hk, shTp hS hk, shLp hS hk, gt_self, gd_t, lp_some, st_d, nm_d, on_none, on_some, cl_some, mI_mk, mX_mk, setI_mk, u2_row, rowS_s, rowU_s]
      rw [gd_ok (ib_nI (by omega) (by decide)), nI_clamp (by omega), f_X10_mark_60]
      simp only [gt_self, gd_t, lp_some, st_d, nm_d, on_none, on_some, cl_some, mI_mk, mX_mk, setI_mk, u2_row, rowS_s, rowU_s, yT0, yP0, yT1, yL1, yP1, yT2, yL2, yP2, yT3, yL3, yP5, yT4, yL4, yP6, yT5, yL5, yP7, yT6, yL6, yP8, yT7, yL7, yP9, yT8, yL8, yP17, yT9, yL9, yP18, yT10, yL10, yP19, yT11, yL11, yP22, yT12, yL12, yP24, yT13, yL13, yP25, yT14, yL14, yP26, yT15, yL15, yP27, yT16, yL16, yP28, yT17, yL17, yP29, yT18, yL18, yP30, yT19, yL19, yP31, yT20, yL20, yP32, yT21, yL21, yP33, yT22, yL22, yP34, yT23, yL23, yP35, yT24, yL24]
      rw [gd_ok (ib_nI hk (by decide)), nI_clamp (by omega), if_neg (by rw [hj]; decide), R92, if_pos hj]
      exact fin (s16 c)
  · have hj : J 16 k = 1 := j16.trans e0
    have ne : ¬ I (86 + 2 * k) 0 = 0 := by rw [e0]; decide
    have nj : ¬ J 16 k = 0 := by rw [hj]; decide
    rw [if_neg ne, if_neg ne, f_X10_mark_60]
    simp only [gt_self, gd_t, lp_some, st_d, nm_d, on_none, on_some, cl_some, mI_mk, mX_mk, setI_mk, u2_row, rowS_s, rowU_s, yT0, yP0, yT1, yL1, yP1, yT2, yL2, yP2, yT3, yL3, yP5, yT4, yL4, yP6, yT5, yL5, yP7, yT6, yL6, yP8, yT7, yL7, yP9, yT8, yL8, yP17, yT9, yL9, yP18, yT10, yL10, yP19, yT11, yL11, yP22, yT12, yL12, yP24, yT13, yL13, yP25, yT14, yL14, yP26, yT15, yL15, yP27, yT16, yL16, yP28, yT17, yL17, yP29, yT18, yL18, yP30, yT19, yL19, yP31, yT20, yL20, yP32, yT21, yL21, yP33, yT22, yL22, yP34, yT23, yL23, yP35, yT24, yL24]
    rw [gd_ok (ib_nI hk (by decide)), nI_clamp (by omega), if_pos hj, R92, if_neg nj, X94, f_X10_in]
    by_cases e3 : c = -1000000005
    · rw [if_pos e3, if_pos e3]; exact fin c
    · rw [if_neg e3, if_neg e3]
      by_cases e4 : c < -99999
      · rw [if_pos e4, if_pos e4]; simp only [cl_some, if_true]; exact .mk h
      · rw [if_neg e4, if_neg e4]
        by_cases e5 : c ≤ 99999
        · rw [if_pos e5, if_neg (Int32.not_lt.mpr e5)]
          simp only [cl_some]
          rw [if_neg one_ne, R92, if_neg nj]; exact fin c
        · rw [if_neg e5, if_pos (Int32.not_le.mp e5)]
          simp only [cl_some, if_true]; exact .mk h
end Sheets2
