/-! SHEETS -/
theorem Sm.sheet {I I' : Nat → Nat → Int32} {X : Nat → Nat → Option Nat} {S : Sta} {J J' : Nat → Nat → Int32} {nc ns nt k : Nat} (h : Sm I X S J nc ns nt) (hk : k < 4) (hI : ∀ a, a ≠ 86 + 2 * k → a ≠ 87 + 2 * k → I' a = I a) (hJ : ∀ a, a ≠ 16 → a ≠ 17 → a ≠ 18 → J' a = J a) (h16 : ∀ j, j ≠ k → J' 16 j = J 16 j) (h17 : ∀ j, j ≠ k → J' 17 j = J 17 j) (h18 : ∀ j, j < 24 * k ∨ 24 * k + 24 ≤ j → J' 18 j = J 18 j) (hs : ShR I' J' k) : Sm I' X S J' nc ns nt := by
  refine ⟨h.w.same (fun x hx => by unfold ownW at hx; exact hI x (by omega) (by omega)) rfl (hJ 1 (by decide) (by decide) (by decide)), h.rs.la, h.rs.im.same (fun x hx => by unfold ownW at hx; exact hI x (by omega) (by omega)) rfl (by rw [hI 0 (by omega) (by omega)]) (by rw [hJ 0 (by decide) (by decide) (by decide)]) (hJ 2 (by decide) (by decide) (by decide)), ?_, by rw [hJ 9 (by decide) (by decide) (by decide)]; exact h.rs.k9, by rw [hJ 10 (by decide) (by decide) (by decide)]; exact h.rs.k10, h.rs.tp.same (by rw [hI 78 (by omega) (by omega)]) (hI 79 (by omega) (by omega)) (by rw [hJ 0 (by decide) (by decide) (by decide)]) (hJ 8 (by decide) (by decide) (by decide)), h.rs.wt.same (by rw [hI 0 (by omega) (by omega)]) (hI 85 (by omega) (by omega)) (by rw [hJ 0 (by decide) (by decide) (by decide)]) (hJ 24 (by decide) (by decide) (by decide)), fun j hj => ?_, fun j hj => (h.rs.sl j hj).same (fun x h1 h2 => hI x (by omega) (by omega)) (fun x h1 h2 => hJ x (by omega) (by omega) (by omega))⟩
  · unfold spNo; rw [hJ 0 (by decide) (by decide) (by decide)]; exact h.rs.no
  · by_cases e : j = k
    · rw [e]; exact hs
    · have q := h.rs.sh j hj
      unfold ShR at q ⊢
      rw [hI (86 + 2 * j) (by omega) (by omega), hI (87 + 2 * j) (by omega) (by omega), h16 j e, h17 j e]
      refine ⟨q.1, q.2.1, ?_⟩
      obtain ⟨n, a, b, c, d⟩ := q.2.2
      exact ⟨n, a, b, c, fun x hx => by rw [h18 _ (by omega)]; exact d x hx⟩
theorem three {x : Int32} (h1 : ¬ x < -1) (h2 : x ≤ 1) : x = -1 ∨ x = 0 ∨ x = 1 := by
  have a := Int32.le_iff_toInt_le.mp (Int32.not_lt.mp h1)
  have b := Int32.le_iff_toInt_le.mp h2
  have a : (-1 : Int) ≤ x.toInt := a
  have b : x.toInt ≤ (1 : Int) := b
  rcases (show x.toInt = -1 ∨ x.toInt = 0 ∨ x.toInt = 1 by omega) with e | e | e
  · exact Or.inl (Int32.toInt_inj.mp e)
  · exact Or.inr (Or.inl (Int32.toInt_inj.mp e))
  · exact Or.inr (Or.inr (Int32.toInt_inj.mp e))
theorem upto {x : Int32} {m : Nat} (h1 : 0 ≤ x) (h2 : x ≤ nI m) (hm : m < 2 ^ 31) : ∃ n, n ≤ m ∧ x = nI n := by
  have a : (0 : Int) ≤ x.toInt := Int32.le_iff_toInt_le.mp h1
  have b := Int32.le_iff_toInt_le.mp h2
  rw [nI_toInt hm] at b
  refine ⟨x.toInt.toNat, by omega, ?_⟩
  apply Int32.toInt_inj.mp
  rw [nI_toInt (by omega)]
  omega
theorem ix24 (k j : Nat) : (24 : Int32) * nI k + nI j = nI (24 * k + j) := by rw [show (24 : Int32) = nI 24 from rfl, pk_mul, nI_add]
section Sheets
variable {I : Nat → Nat → Int32} {X : Nat → Nat → Option Nat} {S : Sta} {J : Nat → Nat → Int32} {nc ns nt : Nat}
theorem Xbecome (hS : LaS S) {k : Nat} (hk : k < 4) (a b : Int32) : ∃ I', f_X2_become (I, X, S) (86 + 2 * k) a b = some ((), (I', X, S)) ∧ I' (86 + 2 * k) 0 = a ∧ I' (86 + 2 * k) 1 = b ∧ (∀ j, j < 24 → I' (87 + 2 * k) j = 0) ∧ ∀ x, x ≠ 86 + 2 * k → x ≠ 87 + 2 * k → I' x = I x := by
  rw [f_X2_become]
  simp only [gt_self, gd_t, lp_some, st_d, nm_d, on_none, on_some, cl_some, mI_mk, mX_mk, setI_mk, u2_row, rowS_s, rowU_s, shT hS hk, shPp hS hk]
  obtain ⟨I', e, z, o⟩ := Xfill (I := rowS (rowS I (86 + 2 * k) (rowU (I (86 + 2 * k)) 0 a)) (86 + 2 * k) (rowU (rowU (I (86 + 2 * k)) 0 a) 1 b)) (X := X) (q := 87 + 2 * k) (n := 24) (shTp (I := I) (X := X) hS hk) (shLp (I := I) (X := X) hS hk) (by decide) 0
  rw [e]
  refine ⟨I', rfl, ?_, ?_, z, fun x h1 h2 => by rw [o x h2, rowS_n h1, rowS_n h1]⟩
  · rw [o _ (by omega), rowS_s, rowU_n (by decide), rowU_s]
  · rw [o _ (by omega), rowS_s, rowU_s]
theorem RclrL {k : Nat} (hk : k < 4) : ∀ (d i fu : Nat) (K : Nat → Nat → Int32), i + d = 24 → d < fu → (∀ j, j < i → K 18 (24 * k + j) = 0) →
    ∃ K', f_X10_sheet_66 fu (K, YZ) 0 (nI k) (nI i) = some (K 17 k, (K', YZ)) ∧ (∀ j, j < 24 → K' 18 (24 * k + j) = 0) ∧ (∀ j, j < 24 * k ∨ 24 * k + 24 ≤ j → K' 18 j = K 18 j) ∧ ∀ a, a ≠ 18 → K' a = K a := by
  intro d
  induction d with
  | zero =>
    intro i fu K hi hf h
    obtain ⟨fu, rfl⟩ : ∃ m, fu = m + 1 := ⟨fu - 1, by omega⟩
    have hi : i = 24 := by omega
    subst hi
    rw [f_X10_sheet_66, if_pos (show (24 : Int32) ≤ nI 24 by decide)]
    simp only [gt_self, gd_t, lp_some, st_d, nm_d, on_none, on_some, cl_some, mI_mk, mX_mk, setI_mk, u2_row, rowS_s, rowU_s, yT0, yP0, yT1, yL1, yP1, yT2, yL2, yP2, yT3, yL3, yP5, yT4, yL4, yP6, yT5, yL5, yP7, yT6, yL6, yP8, yT7, yL7, yP9, yT8, yL8, yP17, yT9, yL9, yP18, yT10, yL10, yP19, yT11, yL11, yP22, yT12, yL12, yP24, yT13, yL13, yP25, yT14, yL14, yP26, yT15, yL15, yP27, yT16, yL16, yP28, yT17, yL17, yP29, yT18, yL18, yP30, yT19, yL19, yP31, yT20, yL20, yP32, yT21, yL21, yP33, yT22, yL22, yP34, yT23, yL23, yP35, yT24, yL24]
    rw [gd_ok (ib_nI (by omega) (by decide)), nI_clamp (by omega)]
    exact ⟨K, rfl, h, fun _ _ => rfl, fun _ _ => rfl⟩
  | succ d ih =>
    intro i fu K hi hf h
    obtain ⟨fu, rfl⟩ : ∃ m, fu = m + 1 := ⟨fu - 1, by omega⟩
    rw [f_X10_sheet_66, if_neg (show ¬ (24 : Int32) ≤ nI i from nI_ge (b := 24) (by omega) (by decide)), ix24]
    simp only [gt_self, gd_t, lp_some, st_d, nm_d, on_none, on_some, cl_some, mI_mk, mX_mk, setI_mk, u2_row, rowS_s, rowU_s, yT0, yP0, yT1, yL1, yP1, yT2, yL2, yP2, yT3, yL3, yP5, yT4, yL4, yP6, yT5, yL5, yP7, yT6, yL6, yP8, yT7, yL7, yP9, yT8, yL8, yP17, yT9, yL9, yP18, yT10, yL10, yP19, yT11, yL11, yP22, yT12, yL12, yP24, yT13, yL13, yP25, yT14, yL14, yP26, yT15, yL15, yP27, yT16, yL16, yP28, yT17, yL17, yP29, yT18, yL18, yP30, yT19, yL19, yP31, yT20, yL20, yP32, yT21, yL21, yP33, yT22, yL22, yP34, yT23, yL23, yP35, yT24, yL24]
    rw [gd_ok (ib_nI (by omega) (by decide)), nI_clamp (by omega), nI_1]
    obtain ⟨K', e, a, b, c⟩ := ih (i + 1) fu (rowS K 18 (rowU (K 18) (24 * k + i) 0)) (by omega) (by omega) (fun j hj => by
      rw [rowS_s]
      by_cases e : j = i
      · rw [e, rowU_s]
      · rw [rowU_n (by omega)]; exact h j (by omega))
    rw [rowS_n (show (17 : Nat) ≠ 18 by decide)] at e
    exact ⟨K', e, a, fun j hj => by rw [b j hj, rowS_s, rowU_n (by omega)], fun x hx => by rw [c x hx, rowS_n hx]⟩
theorem Rsheet41 {k : Nat} (hk : k < 4) (a b : Int32) : ∃ J', f_X10_sheet_41 (J, YZ) 0 (nI k) a b = some (if 0 ≤ a then b else 0, (J', YZ)) ∧ J' 16 = rowU (J 16) k a ∧ J' 17 = rowU (J 17) k (if 0 ≤ a then b else 0) ∧ (∀ j, j < 24 → J' 18 (24 * k + j) = 0) ∧ (∀ j, j < 24 * k ∨ 24 * k + 24 ≤ j → J' 18 j = J 18 j) ∧ ∀ x, x ≠ 16 → x ≠ 17 → x ≠ 18 → J' x = J x := by
  have st : ∀ v, ∃ J', f_X10_sheet_62 (rowS J 16 (rowU (J 16) k a), YZ) 0 (nI k) 17 (nI k) v = some (v, (J', YZ)) ∧ J' 16 = rowU (J 16) k a ∧ J' 17 = rowU (J 17) k v ∧ (∀ j, j < 24 → J' 18 (24 * k + j) = 0) ∧ (∀ j, j < 24 * k ∨ 24 * k + 24 ≤ j → J' 18 j = J 18 j) ∧ ∀ x, x ≠ 16 → x ≠ 17 → x ≠ 18 → J' x = J x := by
    intro v
    rw [f_X10_sheet_62]
    simp only [gt_self, gd_t, lp_some, st_d, nm_d, on_none, on_some, cl_some, mI_mk, mX_mk, setI_mk, u2_row, rowS_s, rowU_s, yT0, yP0, yT1, yL1, yP1, yT2, yL2, yP2, yT3, yL3, yP5, yT4, yL4, yP6, yT5, yL5, yP7, yT6, yL6, yP8, yT7, yL7, yP9, yT8, yL8, yP17, yT9, yL9, yP18, yT10, yL10, yP19, yT11, yL11, yP22, yT12, yL12, yP24, yT13, yL13, yP25, yT14, yL14, yP26, yT15, yL15, yP27, yT16, yL16, yP28, yT17, yL17, yP29, yT18, yL18, yP30, yT19, yL19, yP31, yT20, yL20, yP32, yT21, yL21, yP33, yT22, yL22, yP34, yT23, yL23, yP35, yT24, yL24]
    rw [gd_ok (ib_nI (by omega) (by decide)), nI_clamp (by omega), rowS_n (show (17 : Nat) ≠ 16 by decide)]
    obtain ⟨K', e, z, y, o⟩ := RclrL hk 24 0 FU (rowS (rowS J 16 (rowU (J 16) k a)) 17 (rowU (J 17) k v)) (by omega) (FU_ge (by omega)) (fun j hj => absurd hj (by omega))
    rw [rowS_s, rowU_s] at e
    rw [show (0 : Int32) = nI 0 from rfl, e]
    exact ⟨K', rfl, by rw [o 16 (by decide), rowS_n (by decide), rowS_s], by rw [o 17 (by decide), rowS_s], z, fun j hj => by rw [y j hj, rowS_n (by decide), rowS_n (by decide)], fun x h1 h2 h3 => by rw [o x h3, rowS_n h2, rowS_n h1]⟩
  rw [f_X10_sheet_41]
  simp only [gt_self, gd_t, lp_some, st_d, nm_d, on_none, on_some, cl_some, mI_mk, mX_mk, setI_mk, u2_row, rowS_s, rowU_s, yT0, yP0, yT1, yL1, yP1, yT2, yL2, yP2, yT3, yL3, yP5, yT4, yL4, yP6, yT5, yL5, yP7, yT6, yL6, yP8, yT7, yL7, yP9, yT8, yL8, yP17, yT9, yL9, yP18, yT10, yL10, yP19, yT11, yL11, yP22, yT12, yL12, yP24, yT13, yL13, yP25, yT14, yL14, yP26, yT15, yL15, yP27, yT16, yL16, yP28, yT17, yL17, yP29, yT18, yL18, yP30, yT19, yL19, yP31, yT20, yL20, yP32, yT21, yL21, yP33, yT22, yL22, yP34, yT23, yL23, yP35, yT24, yL24]
  rw [gd_ok (ib_nI (by omega) (by decide)), nI_clamp (by omega)]
  by_cases e : 0 ≤ a
  · simp only [if_pos e]; exact st b
  · simp only [if_neg e]; exact st 0
theorem op_sheet (h : Sm I X S J nc ns nt) (a b c : Int32) : Ok2 (f_X9_sheet (I, X, S) 0 a b c) (f_X10_sheet (J, YZ) 0 a b c) := by
  have hS := h.rs.la
  rw [f_X9_sheet, f_X10_sheet, RisSh, Xin_3]
  simp only [gt_self, gd_t, lp_some, st_d, nm_d, on_none, on_some, cl_some, mI_mk, mX_mk, setI_mk, u2_row, rowS_s, rowU_s, xT0 hS, xP0_0 hS, xP0_1 hS, xP0_2 hS, xP0_3 hS, xP0_4 hS, xP0_5 hS, xP0_6 hS, xP0_7 hS, xP0_8 hS, xT73 hS, xP73_0 hS, xT74 hS, xL74 hS, xP73_1 hS, xT75 hS, xL75 hS, xP73_2 hS, xT76 hS, xL76 hS, xP73_3 hS, xT77 hS, xL77 hS, xT78 hS, xP78_0 hS, xT79 hS, xL79 hS, xT80 hS, xP80_0 hS, xP80_2 hS, xT81 hS, xL81 hS, xT82 hS, xL82 hS, xT83 hS, xL83 hS, xT84 hS, xL84 hS, xT85 hS, xL85 hS, ifB]
  refine Ok2.ite h (fun e1 => ?_)
  obtain ⟨k, hk, rfl⟩ := hasB_t e1 (by decide)
  rw [f_X10_in, gd_ok (ib_nI hk (by decide)), gd_ok (ib_nI hk (by decide)), nI_clamp (by omega)]
  simp only [shP hS hk, shT hS hk, gt_self, gd_t, lp_some, st_d, nm_d, on_none, on_some, cl_some, mI_mk, mX_mk, setI_mk, u2_row, rowS_s, rowU_s]
  have fin : ∀ (s : Int32) (n : Nat) (v : Int32), (s = -1 ∨ s = 0 ∨ s = 1) → n ≤ 24 → (if 0 ≤ s then v else 0) = nI n → Ok2 (cl (f_X2_become (I, X, S) (86 + 2 * k) s (nI n)) fun _ M11 => some (nI n, M11)) (f_X10_sheet_41 (J, YZ) 0 (nI k) s v) := by
    intro s n v hs hn hv
    obtain ⟨I', x1, i0, i1, iz, io⟩ := Xbecome (I := I) (X := X) hS hk s (nI n)
    obtain ⟨J', z1, j16, j17, jz, jy, jo⟩ := Rsheet41 (J := J) hk s v
    rw [hv] at z1 j17
    rw [x1, z1]
    simp only [cl_some]
    exact .mk (h.sheet hk io jo (fun j hj => by rw [j16, rowU_n hj]) (fun j hj => by rw [j17, rowU_n hj]) jy ⟨by rw [i0]; exact hs, by rw [j16, rowU_s, i0], n, hn, i1, by rw [j17, rowU_s], fun j hj => by rw [iz j hj, jz j hj]⟩)
  by_cases q1 : b < -1
  · rw [if_pos q1, if_pos q1]; simp only [cl_some, if_true]; exact .mk h
  rw [if_neg q1, if_neg q1]
  by_cases q2 : b ≤ 1
  · rw [if_pos q2, if_neg (Int32.not_lt.mpr q2)]
    simp only [cl_some]
    rw [if_neg one_ne]
    have hb := three q1 q2
    by_cases q3 : b = -1
    · subst q3
      rw [if_pos rfl, if_pos (show (-1 : Int32) < 0 by decide), f_X10_sheet_29, if_pos (show (-1 : Int32) < 0 by decide)]
      exact fin (-1) 0 c hb (by decide) (if_neg (by decide))
    · have hb2 : b = 0 ∨ b = 1 := by rcases hb with e | e | e; exact absurd e q3; exact Or.inl e; exact Or.inr e
      have hn : ¬ b < 0 := by rcases hb2 with rfl | rfl <;> decide
      have hp : 0 ≤ b := Int32.not_lt.mp hn
      rw [if_neg q3, if_neg hn, f_X10_sheet_29, if_neg hn]
      by_cases q4 : c ≤ 24
      · rw [if_pos q4, if_pos q4]
        by_cases q5 : 0 ≤ c
        · rw [if_pos q5, if_pos q5]
          obtain ⟨n, hn, rfl⟩ := upto (m := 24) q5 q4 (by decide)
          exact fin b n (nI n) hb hn (if_pos hp)
        · rw [if_neg q5, if_neg q5]; exact .mk h
      · rw [if_neg q4, if_neg q4]; exact .mk h
  · rw [if_neg q2, if_pos (Int32.not_le.mp q2)]
    simp only [cl_some, if_true]; exact .mk h
end Sheets
