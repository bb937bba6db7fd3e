/-! check -/
section OpH
variable {I : Nat → Nat → Int32} {X : Nat → Nat → Option Nat} {S : Sta} {J : Nat → Nat → Int32} {nc ns nt : Nat}
theorem Xwaits (hS : LaS S) {tl n : Nat} (ht : tl ≤ 60) (hn : n < 100) (r : Int32) : f_X9_waitsAt (I, X, S) 0 (nI n) (nI tl) r = some (bI (decide (n < tl ∧ I 85 n = r)), (I, X, S)) := by
  rw [f_X9_waitsAt]
  by_cases e : n < tl
  · rw [if_neg (nI_ge e (by omega)), if_neg (show ¬ (60 : Int32) ≤ nI n from nI_ge (b := 60) (by omega) (by decide))]
    simp only [gt_self, gd_t, lp_some, st_d, nm_d, on_none, on_some, cl_some, mI_mk, mX_mk, setI_mk, u2_row, rowS_s, rowU_s, xT0 hS, xP0_0 hS, xP0_1 hS, xP0_2 hS, xP0_3 hS, xP0_4 hS, xP0_5 hS, xP0_6 hS, xP0_7 hS, xP0_8 hS, xT73 hS, xP73_0 hS, xT74 hS, xL74 hS, xP73_1 hS, xT75 hS, xL75 hS, xP73_2 hS, xT76 hS, xL76 hS, xP73_3 hS, xT77 hS, xL77 hS, xT78 hS, xP78_0 hS, xT79 hS, xL79 hS, xT80 hS, xP80_0 hS, xP80_2 hS, xT81 hS, xL81 hS, xT82 hS, xL82 hS, xT83 hS, xL83 hS, xT84 hS, xL84 hS, xT85 hS, xL85 hS]
    rw [gd_ok (ib_nI (by omega) (by decide)), nI_clamp (by omega)]
    by_cases e2 : I 85 n = r
    · rw [if_pos e2, decide_eq_true ⟨e, e2⟩]; rfl
    · rw [if_neg e2, decide_eq_false (fun q => e2 q.2)]; rfl
  · rw [if_pos (nI_le (by omega) (by omega)), decide_eq_false (fun q => e q.1)]; rfl
theorem two_i (i : Nat) : (2 : Int32) * nI i = nI (2 * i) := pk_mul 2 i
theorem chkL (h : Sm I X S J nc ns nt) {v : Nat} (hv49 : v = 49) {N : Nat → Int32} {a b c : Nat} (hG : GN N a b c) (hNJ : ∀ j, 1442 ≤ j → N j = J 1 j) {tl m : Nat} (htl : tl ≤ 60) (hm : m ≤ 30) {wt : Nat → Int32} : ∀ (d i f1 f2 : Nat) (L K : Nat → Nat → Int32), i + d = m → d < f1 → d + 1 < f2 → 2 * i ≤ tl →
    LV L X S v N a b c i → L 85 = wt → (∀ x, ownW 1 x ∨ ownX x → L x = I x) →
    K 1 = (yearsM a c (N, b) i).1 → (∀ k, k < tl → K 24 k = wt k) → (∀ j, j < 1442 → K 3 j = J 1 j) → (∀ x, ownY x → K x = J x) →
    Ok2 (f_X9_check_76 f1 (L, X, S) 0 (nI tl) (nI m) (nI i)) (f_X10_check_80 f2 (K, YZ) 0 (nI tl) (nI (2 * m)) (nI (2 * i)) (nI i)) := by
  have hv : isW v := Or.inr (Or.inr hv49)
  have hS := h.rs.la
  have end1 : ∀ (L K : Nat → Nat → Int32), (∀ x, ownW 1 x ∨ ownX x → L x = I x) → (∀ j, 1442 ≤ j → K 1 j = J 1 j) → (∀ j, j < 1442 → K 3 j = J 1 j) → (∀ x, ownY x → K x = J x) → ∀ (rt rd rx r : Int32), (if rx = rt then (if rx = rd then (0 : Int32) else 1 + rx) else 1 + rx) = r → Ok2 (some (r, (L, X, S))) (f_X10_check_180 (K, YZ) 0 rt rd rx) := by
    intro L K hL h1 h3 hK rt rd rx r hr
    obtain ⟨J1, e2, a1, a2, a3⟩ := Rcopy (p := 3) (q := 1) (by decide) (by decide) (by decide) K
    rw [f_X10_check_180]
    simp only [gt_self, gd_t, lp_some, st_d, nm_d, on_none, on_some, cl_some, mI_mk, mX_mk, setI_mk, u2_row, rowS_s, rowU_s, yT0, yP0, yT1, yL1, yP1, yT2, yL2, yP2, yT3, yL3, yP5, yT4, yL4, yP6, yT5, yL5, yP7, yT6, yL6, yP8, yT7, yL7, yP9, yT8, yL8, yP17, yT9, yL9, yP18, yT10, yL10, yP19, yT11, yL11, yP22, yT12, yL12, yP24, yT13, yL13, yP25, yT14, yL14, yP26, yT15, yL15, yP27, yT16, yL16, yP28, yT17, yL17, yP29, yT18, yL18, yP30, yT19, yL19, yP31, yT20, yL20, yP32, yT21, yL21, yP33, yT22, yL22, yP34, yT23, yL23, yP35, yT24, yL24]
    rw [e2]
    simp only [cl_some]
    have hs : Sm L X S J1 nc ns nt := h.same hL (fun x hx => by
      rcases hx with rfl | hx
      · funext j
        by_cases e : j < 1442
        · rw [a1 j e]; exact h3 j e
        · rw [a2 j (by omega)]; exact h1 j (by omega)
      · rw [a3 x (by unfold ownY at hx; omega)]; exact hK x hx)
    rw [← hr]
    by_cases q1 : rx = rt
    · rw [if_pos q1, if_pos q1]
      by_cases q2 : rx = rd
      · rw [if_pos q2, if_pos q2]; exact .mk hs
      · rw [if_neg q2, if_neg q2]; exact .mk hs
    · rw [if_neg q1, if_neg q1]; exact .mk hs
  have kp : ∀ i j, 1442 ≤ j → (yearsM a c (N, b) i).1 j = J 1 j := fun i j hj => by rw [(years_keep hG i).1 j (by unfold keepJ; omega) (by omega)]; exact hNJ j hj
  intro d
  induction d with
  | zero =>
    intro i f1 f2 L K hi g1 g2 h2 hV hw hL k1 k24 k3 kO
    obtain ⟨f1, rfl⟩ : ∃ m, f1 = m + 1 := ⟨f1 - 1, by omega⟩
    obtain ⟨f2, rfl⟩ : ∃ m, f2 = m + 1 := ⟨f2 - 1, by omega⟩
    have hi : i = m := by omega
    subst hi
    rw [f_X9_check_76, f_X10_check_80, two_i, if_pos (nI_le (Nat.le_refl i) (by omega)), if_pos (nI_le (Nat.le_refl (2 * i)) (by omega))]
    by_cases e : tl = 2 * i
    · rw [if_pos (nI_le (show tl ≤ 2 * i by omega) (by omega))]
      exact end1 L K hL (fun j hj => by rw [k1]; exact kp i j hj) k3 kO _ _ _ _ (by rw [if_pos (by rw [e]), if_pos rfl])
    · rw [if_neg (nI_ge (show 2 * i < tl by omega) (by omega))]
      exact end1 L K hL (fun j hj => by rw [k1]; exact kp i j hj) k3 kO _ _ _ _ (by rw [if_neg (fun q => e ((nI_eq (by omega) (by omega)).mp q).symm)])
  | succ d ih =>
    intro i f1 f2 L K hi g1 g2 h2 hV hw hL k1 k24 k3 kO
    obtain ⟨f1, rfl⟩ : ∃ m, f1 = m + 1 := ⟨f1 - 1, by omega⟩
    obtain ⟨f2, rfl⟩ : ∃ m, f2 = m + 2 := ⟨f2 - 2, by omega⟩
    rw [f_X9_check_76, f_X10_check_80, two_i i, if_neg (nI_ge (show i < m by omega) (by omega)), if_neg (nI_ge (show 2 * i < 2 * m by omega) (by omega)), if_pos rfl]
    simp only [gt_self, gd_t, lp_some, st_d, nm_d, on_none, on_some, cl_some, mI_mk, mX_mk, setI_mk, u2_row, rowS_s, rowU_s, xT0 hS, xP0_0 hS, xP0_1 hS, xP0_3 hS, xP0_4 hS, xP0_5 hS, xP0_6 hS, xP0_7 hS, xP0_8 hS, xT73 hS, xP73_0 hS, xT74 hS, xL74 hS, xP73_1 hS, xT75 hS, xL75 hS, xP73_2 hS, xT76 hS, xL76 hS, xP73_3 hS, xT77 hS, xL77 hS, xT78 hS, xP78_0 hS, xT79 hS, xL79 hS, xT80 hS, xP80_0 hS, xP80_2 hS, xT81 hS, xL81 hS, xT82 hS, xL82 hS, xT83 hS, xL83 hS, xT84 hS, xL84 hS, xT85 hS, xL85 hS, xP0_2w hS hv49, wT hS hv, wP0 hS hv, wP2 hS hv, wP4 hS hv, wP7 hS hv, wP9 hS hv, wT1 hS hv, wL1 hS hv, wT2 hS hv, wL2 hS hv, wT3 hS hv, wL3 hS hv, wT4 hS hv, wL4 hS hv, wT5 hS hv, wL5 hS hv]
    simp only [gt_self, gd_t, lp_some, st_d, nm_d, on_none, on_some, cl_some, mI_mk, mX_mk, setI_mk, u2_row, rowS_s, rowU_s, yT0, yP0, yT1, yL1, yP1, yT2, yL2, yP2, yT3, yL3, yP5, yT4, yL4, yP6, yT5, yL5, yP7, yT6, yL6, yP8, yT7, yL7, yP9, yT8, yL8, yP17, yT9, yL9, yP18, yT10, yL10, yP19, yT11, yL11, yP22, yT12, yL12, yP24, yT13, yL13, yP25, yT14, yL14, yP26, yT15, yL15, yP27, yT16, yL16, yP28, yT17, yL17, yP29, yT18, yL18, yP30, yT19, yL19, yP31, yT20, yL20, yP32, yT21, yL21, yP33, yT22, yL22, yP34, yT23, yL23, yP35, yT24, yL24]
    obtain ⟨L1, x1, hV1, o1⟩ := LV_s hS hv hG hV
    rw [x1]
    simp only [gt_self, gd_t, lp_some, st_d, nm_d, on_none, on_some, cl_some, mI_mk, mX_mk, setI_mk, u2_row, rowS_s, rowU_s, xT0 hS, xP0_0 hS, xP0_1 hS, xP0_3 hS, xP0_4 hS, xP0_5 hS, xP0_6 hS, xP0_7 hS, xP0_8 hS, xT73 hS, xP73_0 hS, xT74 hS, xL74 hS, xP73_1 hS, xT75 hS, xL75 hS, xP73_2 hS, xT76 hS, xL76 hS, xP73_3 hS, xT77 hS, xL77 hS, xT78 hS, xP78_0 hS, xT79 hS, xL79 hS, xT80 hS, xP80_0 hS, xP80_2 hS, xT81 hS, xL81 hS, xT82 hS, xL82 hS, xT83 hS, xL83 hS, xT84 hS, xL84 hS, xT85 hS, xL85 hS, xP0_2w hS hv49, wT hS hv, wP0 hS hv, wP2 hS hv, wP4 hS hv, wP7 hS hv, wP9 hS hv, wT1 hS hv, wL1 hS hv, wT2 hS hv, wL2 hS hv, wT3 hS hv, wL3 hS hv, wT4 hS hv, wL4 hS hv, wT5 hS hv, wL5 hS hv]
    have hy := GN_years hG i
    have hy1 := GN_years hG (i + 1)
    have n10 := hy1.1.2.2.2.1
    obtain ⟨K1, z1, q1, p1⟩ := Ryear (I := K) (nc := a) (ns := (yearsM a c (N, b) i).2) (nt := c) (by rw [k1]; exact hy.1) (by unfold spNo; rw [kO 0 (Or.inl rfl)]; exact h.rs.no)
    rw [k1, ← yearsM_s] at q1
    rw [z1]
    simp only [gt_self, gd_t, lp_some, st_d, nm_d, on_none, on_some, cl_some, mI_mk, mX_mk, setI_mk, u2_row, rowS_s, rowU_s, yT0, yP0, yT1, yL1, yP1, yT2, yL2, yP2, yT3, yL3, yP5, yT4, yL4, yP6, yT5, yL5, yP7, yT6, yL6, yP8, yT7, yL7, yP9, yT8, yL8, yP17, yT9, yL9, yP18, yT10, yL10, yP19, yT11, yL11, yP22, yT12, yL12, yP24, yT13, yL13, yP25, yT14, yL14, yP26, yT15, yL15, yP27, yT16, yL16, yP28, yT17, yL17, yP29, yT18, yL18, yP30, yT19, yL19, yP31, yT20, yL20, yP32, yT21, yL21, yP33, yT22, yL22, yP34, yT23, yL23, yP35, yT24, yL24]
    unfold LV at hV1
    obtain ⟨L2, x2, sp2, o2⟩ := Xsettle hS hv hV1.1 hy1.1 hV1.2.1 hV1.2.2 shX_no
    rw [x2]
    simp only [gt_self, gd_t, lp_some, st_d, nm_d, on_none, on_some, cl_some, mI_mk, mX_mk, setI_mk, u2_row, rowS_s, rowU_s, xT0 hS, xP0_0 hS, xP0_1 hS, xP0_3 hS, xP0_4 hS, xP0_5 hS, xP0_6 hS, xP0_7 hS, xP0_8 hS, xT73 hS, xP73_0 hS, xT74 hS, xL74 hS, xP73_1 hS, xT75 hS, xL75 hS, xP73_2 hS, xT76 hS, xL76 hS, xP73_3 hS, xT77 hS, xL77 hS, xT78 hS, xP78_0 hS, xT79 hS, xL79 hS, xT80 hS, xP80_0 hS, xP80_2 hS, xT81 hS, xL81 hS, xT82 hS, xL82 hS, xT83 hS, xL83 hS, xT84 hS, xL84 hS, xT85 hS, xL85 hS, xP0_2w hS hv49, wT hS hv, wP0 hS hv, wP2 hS hv, wP4 hS hv, wP7 hS hv, wP9 hS hv, wT1 hS hv, wL1 hS hv, wT2 hS hv, wL2 hS hv, wT3 hS hv, wL3 hS hv, wT4 hS hv, wL4 hS hv, wT5 hS hv, wL5 hS hv]
    have hR2 : RelW L2 X S v (yearsM a c (N, b) (i + 1)).1 a (yearsM a c (N, b) (i + 1)).2 c := hV1.1.same hG.2.1 n10 (fun x hx => by unfold ownW at hx; exact o2 x (by omega) (by omega))
    obtain ⟨L3, x3, o3⟩ := Xwinner hS hv hR2 hy1.1 sp2.2 (nests_hgl n10)
    have hR3 : RelW L3 X S v (yearsM a c (N, b) (i + 1)).1 a (yearsM a c (N, b) (i + 1)).2 c := hR2.same hG.2.1 n10 (fun x hx => by unfold ownW at hx; exact o3 x (by omega))
    rw [x3]
    simp only [gt_self, gd_t, lp_some, st_d, nm_d, on_none, on_some, cl_some, mI_mk, mX_mk, setI_mk, u2_row, rowS_s, rowU_s, xT0 hS, xP0_0 hS, xP0_1 hS, xP0_3 hS, xP0_4 hS, xP0_5 hS, xP0_6 hS, xP0_7 hS, xP0_8 hS, xT73 hS, xP73_0 hS, xT74 hS, xL74 hS, xP73_1 hS, xT75 hS, xL75 hS, xP73_2 hS, xT76 hS, xL76 hS, xP73_3 hS, xT77 hS, xL77 hS, xT78 hS, xP78_0 hS, xT79 hS, xL79 hS, xT80 hS, xP80_0 hS, xP80_2 hS, xT81 hS, xL81 hS, xT82 hS, xL82 hS, xT83 hS, xL83 hS, xT84 hS, xL84 hS, xT85 hS, xL85 hS, xP0_2w hS hv49, wT hS hv, wP0 hS hv, wP2 hS hv, wP4 hS hv, wP7 hS hv, wP9 hS hv, wT1 hS hv, wL1 hS hv, wT2 hS hv, wL2 hS hv, wT3 hS hv, wL3 hS hv, wT4 hS hv, wL4 hS hv, wT5 hS hv, wL5 hS hv]
    have oL : ∀ x, x ≠ 74 → x ≠ 75 → x ≠ v → (x < v ∨ v + 24 ≤ x) → L3 x = L x := fun x a1 a2 a3 a4 => (o3 x (by omega)).trans ((o2 x a1 a2).trans (o1 x a1 a2 a3 (by omega)))
    have l85 : L3 85 = wt := by rw [oL 85 (by decide) (by decide) (by omega) (by omega)]; exact hw
    have hL3 : ∀ x, ownW 1 x ∨ ownX x → L3 x = I x := fun x hx => by
      have q := hL x hx
      unfold ownX ownW at hx
      exact (oL x (by omega) (by omega) (by omega) (by omega)).trans q
    have hV3 : LV L3 X S v N a b c (i + 1) := ⟨hR3, hV1.2.1, hV1.2.2.same ((o3 76 (by omega)).trans (o2 76 (by decide) (by decide))) ((o3 77 (by omega)).trans (o2 77 (by decide) (by decide)))⟩
    have m24 : ∀ k, k < tl → K1 24 k = wt k := fun k hk => by rw [p1 24 (by decide) (by unfold scY; omega)]; exact k24 k hk
    have m3 : ∀ j, j < 1442 → K1 3 j = J 1 j := fun j hj => by rw [p1 3 (by decide) (by unfold scY; omega)]; exact k3 j hj
    have mO : ∀ x, ownY x → K1 x = J x := fun x hx => by
      have q := kO x hx
      unfold ownY at hx
      rw [p1 x (by omega) (by unfold scY; omega)]; exact q
    rw [Xwaits hS htl (by omega), l85]
    simp only [gt_self, gd_t, lp_some, st_d, nm_d, on_none, on_some, cl_some, mI_mk, mX_mk, setI_mk, u2_row, rowS_s, rowU_s, xT0 hS, xP0_0 hS, xP0_1 hS, xP0_3 hS, xP0_4 hS, xP0_5 hS, xP0_6 hS, xP0_7 hS, xP0_8 hS, xT73 hS, xP73_0 hS, xT74 hS, xL74 hS, xP73_1 hS, xT75 hS, xL75 hS, xP73_2 hS, xT76 hS, xL76 hS, xP73_3 hS, xT77 hS, xL77 hS, xT78 hS, xP78_0 hS, xT79 hS, xL79 hS, xT80 hS, xP80_0 hS, xP80_2 hS, xT81 hS, xL81 hS, xT82 hS, xL82 hS, xT83 hS, xL83 hS, xT84 hS, xL84 hS, xT85 hS, xL85 hS, xP0_2w hS hv49, wT hS hv, wP0 hS hv, wP2 hS hv, wP4 hS hv, wP7 hS hv, wP9 hS hv, wT1 hS hv, wL1 hS hv, wT2 hS hv, wL2 hS hv, wT3 hS hv, wL3 hS hv, wT4 hS hv, wL4 hS hv, wT5 hS hv, wL5 hS hv, ifB]
    have fail1 : ∀ (K : Nat → Nat → Int32), K 1 = (yearsM a c (N, b) (i + 1)).1 → (∀ j, j < 1442 → K 3 j = J 1 j) → (∀ x, ownY x → K x = J x) → Ok2 (some (1 + nI (2 * i), (L3, X, S))) (f_X10_check_130 (f_X10_check_80 (f2 + 1)) (K, YZ) 0 (nI tl) (nI (2 * m)) (nI i) (nI (2 * i)) 0) := by
      intro K q1 q3 qO
      rw [f_X10_check_130, two_i, nI_z, nI_1, nI_1, if_neg (fun q => absurd ((nI_eq (by omega) (by omega)).mp q) (by omega)), nI_z, f_X10_check_80, two_i]
      have w : Ok2 (some (1 + nI (2 * i), (L3, X, S))) (f_X10_check_180 (K, YZ) 0 (nI tl) (nI (2 * m)) (nI (2 * i))) := end1 L3 K hL3 (fun j hj => by rw [q1]; exact kp _ j hj) q3 qO _ _ _ _ (by
        by_cases e1 : nI (2 * i) = nI tl
        · rw [if_pos e1, if_neg (fun q => absurd ((nI_eq (by omega) (by omega)).mp q) (by omega))]
        · rw [if_neg e1])
      by_cases e : 2 * m ≤ 2 * (i + 1)
      · rw [if_pos (nI_le e (by omega))]; exact w
      · rw [if_neg (nI_ge (by omega) (by omega)), if_neg (fun q => absurd ((nI_eq (by omega) (by omega)).mp q) (by omega))]; exact w
    by_cases e1 : 2 * i < tl
    · rw [if_neg (show ¬ nI tl ≤ nI (2 * i) from nI_ge e1 (by omega)), gd_ok (ib_nI (by omega) (by decide)), nI_clamp (by omega)]
      obtain ⟨K2, z2, sy2, p2⟩ := RelectedNow (I := K1) (nc := a) (ns := (yearsM a c (N, b) (i + 1)).2) (nt := c) (by rw [q1]; exact hy1.1) (sh_no (by unfold spNo; rw [mO 0 (Or.inl rfl)]; exact h.rs.no))
      rw [q1] at z2
      rw [z2]
      simp only [cl_some]
      have k21 : K2 1 = (yearsM a c (N, b) (i + 1)).1 := (p2 1 (by unfold scY; omega)).trans q1
      have r3 : ∀ j, j < 1442 → K2 3 j = J 1 j := fun j hj => by rw [p2 3 (by unfold scY; omega)]; exact m3 j hj
      have rO : ∀ x, ownY x → K2 x = J x := fun x hx => by
        have q := mO x hx
        unfold ownY at hx
        rw [p2 x (by unfold scY; omega)]; exact q
      rw [m24 _ e1]
      unfold electM
      by_cases e2 : wt (2 * i) = nI (winM (seatsM (yearsM a c (N, b) (i + 1)).1 a c (springM (yearsM a c (N, b) (i + 1)).1 a (yearsM a c (N, b) (i + 1)).2 c noSh).2.1) 3).1
      · rw [if_pos e2, decide_eq_true ⟨e1, e2⟩, if_pos rfl]
        rw [Xhere hS hv hR3 hV1.2.1 hy1.1.2.2.1 n10]
        simp only [gt_self, gd_t, lp_some, st_d, nm_d, on_none, on_some, cl_some, mI_mk, mX_mk, setI_mk, u2_row, rowS_s, rowU_s, xT0 hS, xP0_0 hS, xP0_1 hS, xP0_3 hS, xP0_4 hS, xP0_5 hS, xP0_6 hS, xP0_7 hS, xP0_8 hS, xT73 hS, xP73_0 hS, xT74 hS, xL74 hS, xP73_1 hS, xT75 hS, xL75 hS, xP73_2 hS, xT76 hS, xL76 hS, xP73_3 hS, xT77 hS, xL77 hS, xT78 hS, xP78_0 hS, xT79 hS, xL79 hS, xT80 hS, xP80_0 hS, xP80_2 hS, xT81 hS, xL81 hS, xT82 hS, xL82 hS, xT83 hS, xL83 hS, xT84 hS, xL84 hS, xT85 hS, xL85 hS, xP0_2w hS hv49, wT hS hv, wP0 hS hv, wP2 hS hv, wP4 hS hv, wP7 hS hv, wP9 hS hv, wT1 hS hv, wL1 hS hv, wT2 hS hv, wL2 hS hv, wT3 hS hv, wL3 hS hv, wT4 hS hv, wL4 hS hv, wT5 hS hv, wL5 hS hv]
        rw [nI_1, Xwaits hS htl (by omega), l85]
        simp only [gt_self, gd_t, lp_some, st_d, nm_d, on_none, on_some, cl_some, mI_mk, mX_mk, setI_mk, u2_row, rowS_s, rowU_s, xT0 hS, xP0_0 hS, xP0_1 hS, xP0_3 hS, xP0_4 hS, xP0_5 hS, xP0_6 hS, xP0_7 hS, xP0_8 hS, xT73 hS, xP73_0 hS, xT74 hS, xL74 hS, xP73_1 hS, xT75 hS, xL75 hS, xP73_2 hS, xT76 hS, xL76 hS, xP73_3 hS, xT77 hS, xL77 hS, xT78 hS, xP78_0 hS, xT79 hS, xL79 hS, xT80 hS, xP80_0 hS, xP80_2 hS, xT81 hS, xL81 hS, xT82 hS, xL82 hS, xT83 hS, xL83 hS, xT84 hS, xL84 hS, xT85 hS, xL85 hS, xP0_2w hS hv49, wT hS hv, wP0 hS hv, wP2 hS hv, wP4 hS hv, wP7 hS hv, wP9 hS hv, wT1 hS hv, wL1 hS hv, wT2 hS hv, wL2 hS hv, wT3 hS hv, wL3 hS hv, wT4 hS hv, wL4 hS hv, wT5 hS hv, wL5 hS hv, ifB]
        have fail2 : ∀ (K : Nat → Nat → Int32), K 1 = (yearsM a c (N, b) (i + 1)).1 → (∀ j, j < 1442 → K 3 j = J 1 j) → (∀ x, ownY x → K x = J x) → Ok2 (some (2 + nI (2 * i), (L3, X, S))) (f_X10_check_80 (f2 + 1) (K, YZ) 0 (nI tl) (nI (2 * m)) (nI (2 * i + 1)) (nI (i + 1))) := by
          intro K q1 q3 qO
          rw [f_X10_check_80, two_i]
          have w : Ok2 (some (2 + nI (2 * i), (L3, X, S))) (f_X10_check_180 (K, YZ) 0 (nI tl) (nI (2 * m)) (nI (2 * i + 1))) := end1 L3 K hL3 (fun j hj => by rw [q1]; exact kp _ j hj) q3 qO _ _ _ _ (by
            have e9 : (1 : Int32) + nI (2 * i + 1) = 2 + nI (2 * i) := by rw [show (1 : Int32) = nI 1 from rfl, show (2 : Int32) = nI 2 from rfl, nI_add, nI_add]; congr 1; omega
            rw [e9]
            by_cases e1 : nI (2 * i + 1) = nI tl
            · rw [if_pos e1, if_neg (fun q => absurd ((nI_eq (by omega) (by omega)).mp q) (by omega))]
            · rw [if_neg e1])
          by_cases e : 2 * m ≤ 2 * (i + 1)
          · rw [if_pos (nI_le e (by omega))]; exact w
          · rw [if_neg (nI_ge (by omega) (by omega)), if_neg (fun q => absurd ((nI_eq (by omega) (by omega)).mp q) (by omega))]; exact w
        rw [f_X10_check_130, two_i, nI_1, nI_1, if_pos rfl]
        by_cases e3 : 2 * i + 1 < tl
        · rw [if_neg (show ¬ nI tl ≤ nI (2 * i + 1) from nI_ge e3 (by omega))]
          simp only [gt_self, gd_t, lp_some, st_d, nm_d, on_none, on_some, cl_some, mI_mk, mX_mk, setI_mk, u2_row, rowS_s, rowU_s, yT0, yP0, yT1, yL1, yP1, yT2, yL2, yP2, yT3, yL3, yP5, yT4, yL4, yP6, yT5, yL5, yP7, yT6, yL6, yP8, yT7, yL7, yP9, yT8, yL8, yP17, yT9, yL9, yP18, yT10, yL10, yP19, yT11, yL11, yP22, yT12, yL12, yP24, yT13, yL13, yP25, yT14, yL14, yP26, yT15, yL15, yP27, yT16, yL16, yP28, yT17, yL17, yP29, yT18, yL18, yP30, yT19, yL19, yP31, yT20, yL20, yP32, yT21, yL21, yP33, yT22, yL22, yP34, yT23, yL23, yP35, yT24, yL24]
          rw [gd_ok (ib_nI (by omega) (by decide)), nI_clamp (by omega), RhereMany k21 hy1.1.2.2.1 n10, p2 24 (by unfold scY; omega), m24 _ e3]
          simp only [cl_some]
          by_cases e4 : wt (2 * i + 1) = nI (hereM (yearsM a c (N, b) (i + 1)).1 (yearsM a c (N, b) (i + 1)).2)
          · rw [if_pos e4, decide_eq_true ⟨e3, e4⟩, if_pos rfl, nI_1]
            have := ih (i + 1) f1 (f2 + 1) L3 K2 (by omega) (by omega) (by omega) (by omega) hV3 l85 hL3 k21 (fun k hk => by rw [p2 24 (by unfold scY; omega)]; exact m24 k hk) r3 rO
            rw [show 2 * (i + 1) = 2 * i + 1 + 1 by omega] at this
            exact this
          · rw [if_neg e4, decide_eq_false (fun q => e4 q.2), if_neg Bool.false_ne_true, nI_z]
            exact fail2 K2 k21 r3 rO
        · rw [if_pos (show nI tl ≤ nI (2 * i + 1) from nI_le (by omega) (by omega)), decide_eq_false (fun q => e3 q.1), if_neg Bool.false_ne_true, nI_z]
          exact fail2 K2 k21 r3 rO
      · rw [if_neg e2, decide_eq_false (fun q => e2 q.2), if_neg Bool.false_ne_true]
        exact fail1 K2 k21 r3 rO
    · rw [if_pos (show nI tl ≤ nI (2 * i) from nI_le (by omega) (by omega)), decide_eq_false (fun q => e1 q.1), if_neg Bool.false_ne_true]
      exact fail1 K1 q1 m3 mO
end OpH
