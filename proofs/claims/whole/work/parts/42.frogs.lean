/-! frogs -/
theorem likes_c {N N' : Nat → Int32} {nt c : Nat} (he : ∀ j, 70 ≤ j → N' j = N j) (hc : ∀ u, u < 4 → N' (38 + 4 * c + u) = N (38 + 4 * c + u)) (h : Int32) : likesM N' nt c h = likesM N nt c h := by
  have e2 : ∀ t, cdN N' t = cdN N t := fun t => by unfold cdN; rw [he _ (by omega)]
  have e3 : ∀ t, sgN N' t = sgN N t := fun t => by funext k; exact he _ (by omega)
  have c0 := hc 0 (by decide)
  rw [Nat.add_zero] at c0
  unfold likesM plainM
  rw [cnt_congr he, c0, hc 2 (by decide), hc 3 (by decide)]
  cases cntM N 0 nt with
  | none => rfl
  | some t => simp only [e2, e3]
theorem rowU_rowU (r : Nat → Int32) (j : Nat) (a b : Int32) : rowU (rowU r j a) j b = rowU r j b := by
  funext x
  by_cases e : x = j
  · rw [e, rowU_s, rowU_s]
  · rw [rowU_n e, rowU_n e, rowU_n e]
theorem rowU_id (r : Nat → Int32) (j : Nat) : rowU r j (r j) = r := by
  funext x
  by_cases e : x = j
  · rw [e, rowU_s]
  · rw [rowU_n e]
section OpF
variable {I : Nat → Nat → Int32} {X : Nat → Nat → Option Nat} {S : Sta} {J : Nat → Nat → Int32} {nc ns nt : Nat}
theorem frgL (h : Sm I X S J nc ns nt) {v : Nat} (hv49 : v = 49) {c wd q : Nat} (hc : c < nc) (hwd : wd < 4) (hq : q ≤ 100) : ∀ (d m f1 f2 : Nat) (L K : Nat → Nat → Int32), q + m + d = 100 → d < f1 → d + 1 < f2 →
    (∃ y, Wld L X S v (rowU (J 1) (38 + 4 * c + 3) y) nc ns nt) → (∀ x, x < nc → x ≠ c → L 76 x = likesM (J 1) nt x 0 ∧ L 77 x = likesM (J 1) nt x 1) → (∀ a, ownW 1 a ∨ ownX a → L a = I a) →
    K 1 = rowU (J 1) (38 + 4 * c + 3) (nI (q + m)) → (∀ j, j < 70 → K 7 j = J 1 j) → (∀ a, ownY a → K a = J a) →
    Ok2 (f_X9_frogs_63 f1 (L, X, S) 0 (nI c) (nI wd) (v + 6 + c) (nI q) (nI m)) (f_X10_frogs_28 f2 (K, YZ) 0 (nI c) (nI wd) (-1000000005) (nI m)) := by
  have hv : isW v := Or.inr (Or.inr hv49)
  have hS := h.rs.la
  have hG := h.w.gn
  have h8 := hG.2.1
  have h10 := hG.2.2.2.1
  have ex : ∀ (L K : Nat → Nat → Int32) (r : Int32), (∀ a, ownW 1 a ∨ ownX a → L a = I a) → (∀ j, 70 ≤ j → K 1 j = J 1 j) → (∀ j, j < 70 → K 7 j = J 1 j) → (∀ a, ownY a → K a = J a) → Ok2 (some (r, (L, X, S))) (f_X10_frogs_84 (K, YZ) 0 r) := by
    intro L K r hL h1 h7 hK
    obtain ⟨J6, e6, h6, _, _⟩ := pbB h (I' := L) (K := K) h7 h1 hK hL
    rw [f_X10_frogs_84, yT0, gt_self, e6, cl_some]
    exact .mk h6
  intro d
  induction d with
  | zero =>
    intro m f1 f2 L K hm g1 g2 hV hL hI k1 k7 kO
    obtain ⟨f1, rfl⟩ : ∃ m, f1 = m + 1 := ⟨f1 - 1, by omega⟩
    obtain ⟨f2, rfl⟩ : ∃ m, f2 = m + 1 := ⟨f2 - 1, by omega⟩
    rw [f_X9_frogs_63, f_X10_frogs_28, nI_add, if_pos (show (99 : Int32) < nI (q + m) from nI_lt (a := 99) (by omega) (by omega)), Rof3 (show c < 8 by omega), k1]
    simp only [gt_self, gd_t, lp_some, st_d, nm_d, on_none, on_some, cl_some, mI_mk, mX_mk, setI_mk, u2_row, rowS_s, rowU_s, yT0, yP0, yT1, yL1, yP1, yT2, yL2, yP2, yT3, yL3, yP5, yT4, yL4, yP6, yT5, yL5, yP7, yT6, yL6, yP8, yT7, yL7, yP9, yT8, yL8, yP17, yT9, yL9, yP18, yT10, yL10, yP19, yT11, yL11, yP22, yT12, yL12, yP24, yT13, yL13, yP25, yT14, yL14, yP26, yT15, yL15, yP27, yT16, yL16, yP28, yT17, yL17, yP29, yT18, yL18, yP30, yT19, yL19, yP31, yT20, yL20, yP32, yT21, yL21, yP33, yT22, yL22, yP34, yT23, yL23, yP35, yT24, yL24]
    rw [if_pos (show (99 : Int32) < nI (q + m) from nI_lt (a := 99) (by omega) (by omega))]
    exact ex L K _ hI (fun j hj => by rw [k1, rowU_n (by omega)]) k7 kO
  | succ d ih =>
    intro m f1 f2 L K hm g1 g2 hV hL hI k1 k7 kO
    obtain ⟨f1, rfl⟩ : ∃ m, f1 = m + 1 := ⟨f1 - 1, by omega⟩
    obtain ⟨f2, rfl⟩ : ∃ m, f2 = m + 1 := ⟨f2 - 1, by omega⟩
    obtain ⟨y, hV⟩ := hV
    rw [f_X9_frogs_63, f_X10_frogs_28, nI_add, if_neg (show ¬ (99 : Int32) < nI (q + m) from nI_nlt (a := 99) (by omega) (by decide)), Rof3 (show c < 8 by omega), k1]
    simp only [gt_self, gd_t, lp_some, st_d, nm_d, on_none, on_some, cl_some, mI_mk, mX_mk, setI_mk, u2_row, rowS_s, rowU_s, yT0, yP0, yT1, yL1, yP1, yT2, yL2, yP2, yT3, yL3, yP5, yT4, yL4, yP6, yT5, yL5, yP7, yT6, yL6, yP8, yT7, yL7, yP9, yT8, yL8, yP17, yT9, yL9, yP18, yT10, yL10, yP19, yT11, yL11, yP22, yT12, yL12, yP24, yT13, yL13, yP25, yT14, yL14, yP26, yT15, yL15, yP27, yT16, yL16, yP28, yT17, yL17, yP29, yT18, yL18, yP30, yT19, yL19, yP31, yT20, yL20, yP32, yT21, yL21, yP33, yT22, yL22, yP34, yT23, yL23, yP35, yT24, yL24]
    rw [if_neg (show ¬ (99 : Int32) < nI (q + m) from nI_nlt (a := 99) (by omega) (by decide))]
    simp only [gt_self, gd_t, lp_some, st_d, nm_d, on_none, on_some, cl_some, mI_mk, mX_mk, setI_mk, u2_row, rowS_s, rowU_s, xT0 hS, xP0_0 hS, xP0_1 hS, xP0_3 hS, xP0_4 hS, xP0_5 hS, xP0_6 hS, xP0_7 hS, xP0_8 hS, xT73 hS, xP73_0 hS, xT74 hS, xL74 hS, xP73_1 hS, xT75 hS, xL75 hS, xP73_2 hS, xT76 hS, xL76 hS, xP73_3 hS, xT77 hS, xL77 hS, xT78 hS, xP78_0 hS, xT79 hS, xL79 hS, xT80 hS, xP80_0 hS, xP80_2 hS, xT81 hS, xL81 hS, xT82 hS, xL82 hS, xT83 hS, xL83 hS, xT84 hS, xL84 hS, xT85 hS, xL85 hS, xP0_2w hS hv49, wT hS hv, wP0 hS hv, wP2 hS hv, wP4 hS hv, wP7 hS hv, wP9 hS hv, wT1 hS hv, wL1 hS hv, wT2 hS hv, wL2 hS hv, wT3 hS hv, wL3 hS hv, wT4 hS hv, wL4 hS hv, wT5 hS hv, wL5 hS hv, wTc hS hv (show c < 8 by omega), if_true]
    have hV1 := hV.cset hv (u := 3) hc (by decide) (v := nI (q + m)) (fun e => absurd e (by decide)) (fun e => absurd e (by decide)) (fun e => absurd e (by decide)) (fun _ => ⟨q + m, by omega, rfl⟩)
    rw [rowU_rowU] at hV1
    generalize hN : rowU (J 1) (38 + 4 * c + 3) (nI (q + m)) = Nm at hV1 k1
    have n70 : ∀ j, 70 ≤ j → Nm j = J 1 j := fun j hj => by rw [← hN, rowU_n (by omega)]
    generalize hL1 : rowS L (v + 6 + c) (rowU (L (v + 6 + c)) 3 (nI (q + m))) = L1 at hV1
    have o1 : ∀ a, a ≠ v + 6 + c → L1 a = L a := fun a ha => by rw [← hL1, rowS_n ha]
    obtain ⟨L2, x2, a6, a7, o2⟩ := XlookAt hS hv hV1.r hV1.gn hV1.gr hc
    rw [x2]
    simp only [gt_self, gd_t, lp_some, st_d, nm_d, on_none, on_some, cl_some, mI_mk, mX_mk, setI_mk, u2_row, rowS_s, rowU_s, xT0 hS, xP0_0 hS, xP0_1 hS, xP0_3 hS, xP0_4 hS, xP0_5 hS, xP0_6 hS, xP0_7 hS, xP0_8 hS, xT73 hS, xP73_0 hS, xT74 hS, xL74 hS, xP73_1 hS, xT75 hS, xL75 hS, xP73_2 hS, xT76 hS, xL76 hS, xP73_3 hS, xT77 hS, xL77 hS, xT78 hS, xP78_0 hS, xT79 hS, xL79 hS, xT80 hS, xP80_0 hS, xP80_2 hS, xT81 hS, xL81 hS, xT82 hS, xL82 hS, xT83 hS, xL83 hS, xT84 hS, xL84 hS, xT85 hS, xL85 hS, xP0_2w hS hv49, wT hS hv, wP0 hS hv, wP2 hS hv, wP4 hS hv, wP7 hS hv, wP9 hS hv, wT1 hS hv, wL1 hS hv, wT2 hS hv, wL2 hS hv, wT3 hS hv, wL3 hS hv, wT4 hS hv, wL4 hS hv, wT5 hS hv, wL5 hS hv]
    have hk2 : LkX L2 Nm nc nt := fun x hx => by
      rw [a6, a7]
      by_cases e : x = c
      · rw [e, rowU_s, rowU_s]; exact ⟨rfl, rfl⟩
      · rw [rowU_n e, rowU_n e, o1 76 (by omega), o1 77 (by omega), likes_c n70 (fun u hu => by rw [← hN, rowU_n (by omega)]), likes_c n70 (fun u hu => by rw [← hN, rowU_n (by omega)])]
        exact hL x hx e
    have hV2 : Wld L2 X S v Nm nc ns nt := hV1.same (fun a ha => o2 a (by unfold ownW at ha; omega) (by unfold ownW at ha; omega) (by unfold ownW at ha; omega)) rfl rfl
    obtain ⟨L3, x3, sp3, o3⟩ := Xsettle hS hv hV2.r hV2.gn hV2.gr hk2 shX_no
    rw [x3]
    simp only [gt_self, gd_t, lp_some, st_d, nm_d, on_none, on_some, cl_some, mI_mk, mX_mk, setI_mk, u2_row, rowS_s, rowU_s, xT0 hS, xP0_0 hS, xP0_1 hS, xP0_3 hS, xP0_4 hS, xP0_5 hS, xP0_6 hS, xP0_7 hS, xP0_8 hS, xT73 hS, xP73_0 hS, xT74 hS, xL74 hS, xP73_1 hS, xT75 hS, xL75 hS, xP73_2 hS, xT76 hS, xL76 hS, xP73_3 hS, xT77 hS, xL77 hS, xT78 hS, xP78_0 hS, xT79 hS, xL79 hS, xT80 hS, xP80_0 hS, xP80_2 hS, xT81 hS, xL81 hS, xT82 hS, xL82 hS, xT83 hS, xL83 hS, xT84 hS, xL84 hS, xT85 hS, xL85 hS, xP0_2w hS hv49, wT hS hv, wP0 hS hv, wP2 hS hv, wP4 hS hv, wP7 hS hv, wP9 hS hv, wT1 hS hv, wL1 hS hv, wT2 hS hv, wL2 hS hv, wT3 hS hv, wL3 hS hv, wT4 hS hv, wL4 hS hv, wT5 hS hv, wL5 hS hv]
    have hV3 : Wld L3 X S v Nm nc ns nt := hV2.same (fun a ha => o3 a (by unfold ownW at ha; omega) (by unfold ownW at ha; omega)) rfl rfl
    obtain ⟨L4, x4, o4⟩ := Xwinner hS hv hV3.r hV3.gn sp3.2 (nests_hgl h10)
    rw [x4]
    simp only [gt_self, gd_t, lp_some, st_d, nm_d, on_none, on_some, cl_some, mI_mk, mX_mk, setI_mk, u2_row, rowS_s, rowU_s, xT0 hS, xP0_0 hS, xP0_1 hS, xP0_3 hS, xP0_4 hS, xP0_5 hS, xP0_6 hS, xP0_7 hS, xP0_8 hS, xT73 hS, xP73_0 hS, xT74 hS, xL74 hS, xP73_1 hS, xT75 hS, xL75 hS, xP73_2 hS, xT76 hS, xL76 hS, xP73_3 hS, xT77 hS, xL77 hS, xT78 hS, xP78_0 hS, xT79 hS, xL79 hS, xT80 hS, xP80_0 hS, xP80_2 hS, xT81 hS, xL81 hS, xT82 hS, xL82 hS, xT83 hS, xL83 hS, xT84 hS, xL84 hS, xT85 hS, xL85 hS, xP0_2w hS hv49, wT hS hv, wP0 hS hv, wP2 hS hv, wP4 hS hv, wP7 hS hv, wP9 hS hv, wT1 hS hv, wL1 hS hv, wT2 hS hv, wL2 hS hv, wT3 hS hv, wL3 hS hv, wT4 hS hv, wL4 hS hv, wT5 hS hv, wL5 hS hv]
    have hV4 : Wld L4 X S v Nm nc ns nt := hV3.same (fun a ha => o4 a (by unfold ownW at ha; omega)) rfl rfl
    have oX : ∀ a, a ≠ v + 6 + c → a ≠ 74 → a ≠ 75 → a ≠ 76 → a ≠ 77 → a ≠ v + 5 → L4 a = L a := fun a b0 b1 b2 b3 b4 b5 => (o4 a b5).trans ((o3 a b1 b2).trans ((o2 a b3 b4 b5).trans (o1 a b0)))
    obtain ⟨K2, z2, sy2, p2⟩ := RelectedNow (I := K) (nc := nc) (ns := ns) (nt := nt) (by rw [k1]; exact hV1.gn) (sh_no (by unfold spNo; rw [kO 0 (Or.inl rfl)]; exact h.rs.no))
    rw [k1] at z2 sy2
    have k21 : K2 1 = Nm := (p2 1 (by unfold scY; omega)).trans k1
    rw [z2]
    simp only [cl_some]
    unfold electM
    have hqw := win_le (seatsM Nm nc nt (springM Nm nc ns nt noSh).2.1) 3
    generalize (winM (seatsM Nm nc nt (springM Nm nc ns nt noSh).2.1) 3).1 = g at hqw ⊢
    have step : ∀ f s0, f_X10_frogs_60 f (K2, YZ) 0 (nI c) (nI wd) (nI m) s0 = f (rowS K2 1 (rowU Nm (38 + 4 * c + 3) (nI (q + (m + 1)))), YZ) 0 (nI c) (nI wd) s0 (nI (m + 1)) := by
      intro f s0
      rw [f_X10_frogs_60]
      simp only [gt_self, gd_t, lp_some, st_d, nm_d, on_none, on_some, cl_some, mI_mk, mX_mk, setI_mk, u2_row, rowS_s, rowU_s, yT0, yP0, yT1, yL1, yP1, yT2, yL2, yP2, yT3, yL3, yP5, yT4, yL4, yP6, yT5, yL5, yP7, yT6, yL6, yP8, yT7, yL7, yP9, yT8, yL8, yP17, yT9, yL9, yP18, yT10, yL10, yP19, yT11, yL11, yP22, yT12, yL12, yP24, yT13, yL13, yP25, yT14, yL14, yP26, yT15, yL15, yP27, yT16, yL16, yP28, yT17, yL17, yP29, yT18, yL18, yP30, yT19, yL19, yP31, yT20, yL20, yP32, yT21, yL21, yP33, yT22, yL22, yP34, yT23, yL23, yP35, yT24, yL24, ix38a, show nI (38 + 4 * c) + 3 = nI (38 + 4 * c + 3) from nI_add _ 3]
      rw [gd_ok (ib_nI (by omega) (by decide)), gd_ok (ib_nI (by omega) (by decide)), nI_clamp (by omega), k21, nI_1, ← hN, rowU_s, nI_1, hN]
      rfl
    have nx : rowU Nm (38 + 4 * c + 3) (nI (q + (m + 1))) = rowU (J 1) (38 + 4 * c + 3) (nI (q + (m + 1))) := by rw [← hN, rowU_rowU]
    have oI : ∀ a, ownW 1 a ∨ ownX a → L4 a = I a := fun a ha => by
      have q := hI a ha
      unfold ownX ownW at ha
      exact (oX a (by omega) (by omega) (by omega) (by omega) (by omega) (by omega)).trans q
    have K7 : ∀ j, j < 70 → rowS K2 1 (rowU (J 1) (38 + 4 * c + 3) (nI (q + (m + 1)))) 7 j = J 1 j := fun j hj => by rw [rowS_n (by decide), p2 7 (by unfold scY; omega)]; exact k7 j hj
    have KO : ∀ a, ownY a → rowS K2 1 (rowU (J 1) (38 + 4 * c + 3) (nI (q + (m + 1)))) a = J a := fun a ha => by
      have q := kO a ha
      unfold ownY at ha
      rw [rowS_n (by omega), p2 a (by unfold scY; omega)]; exact q
    rw [step, step, nx]
    by_cases e : nI g = nI wd
    · rw [if_pos e, if_pos e]
      obtain ⟨f2, rfl⟩ : ∃ m, f2 = m + 1 := ⟨f2 - 1, by omega⟩
      rw [f_X10_frogs_28, Rof3 (show c < 8 by omega)]
      simp only [gt_self, gd_t, lp_some, st_d, nm_d, on_none, on_some, cl_some, mI_mk, mX_mk, setI_mk, u2_row, rowS_s, rowU_s, yT0, yP0, yT1, yL1, yP1, yT2, yL2, yP2, yT3, yL3, yP5, yT4, yL4, yP6, yT5, yL5, yP7, yT6, yL6, yP8, yT7, yL7, yP9, yT8, yL8, yP17, yT9, yL9, yP18, yT10, yL10, yP19, yT11, yL11, yP22, yT12, yL12, yP24, yT13, yL13, yP25, yT14, yL14, yP26, yT15, yL15, yP27, yT16, yL16, yP28, yT17, yL17, yP29, yT18, yL18, yP30, yT19, yL19, yP31, yT20, yL20, yP32, yT21, yL21, yP33, yT22, yL22, yP34, yT23, yL23, yP35, yT24, yL24]
      rw [if_neg (show ¬ nI m = -1000000005 from encC_pos (o := some m) rfl (by omega))]
      have : ∀ (P : Prop) [Decidable P] (x : Option (Int32 × Mem)), (if P then x else x) = x := fun P _ x => by split <;> rfl
      rw [this]
      exact ex L4 _ _ oI (fun j hj => by rw [rowS_s, rowU_n (by omega)]) K7 KO
    · rw [if_neg e, if_neg e, nI_1]
      exact ih (m + 1) f1 f2 L4 _ (by omega) (by omega) (by omega) ⟨nI (q + m), by rw [hN]; exact hV4⟩ (fun x hx hne => by
        have := hk2 x hx
        rw [likes_c n70 (fun u hu => by rw [← hN, rowU_n (by omega)]), likes_c n70 (fun u hu => by rw [← hN, rowU_n (by omega)])] at this
        rw [o4 76 (by omega), o4 77 (by omega), o3 76 (by decide) (by decide), o3 77 (by decide) (by decide)]
        exact this) oI (rowS_s _ _ _) K7 KO
theorem op_frogs (h : Sm I X S J nc ns nt) (a b : Int32) : Ok2 (f_X9_frogs (I, X, S) 0 a b) (f_X10_frogs (J, YZ) 0 a b) := by
  have hS := h.rs.la
  obtain ⟨w, hw1⟩ : ∃ w, w = 1 := ⟨1, rfl⟩
  have hw : isW w := Or.inl hw1
  have hW : Wld I X S w (J 1) nc ns nt := by subst hw1; exact h.w
  have hR := hW.r
  have hG := hW.gn
  have hr := hW.gr
  have h8 := hG.2.1
  have h10 := hG.2.2.2.1
  obtain ⟨v, hv49⟩ : ∃ v, v = 49 := ⟨49, rfl⟩
  have hv : isW v := Or.inr (Or.inr hv49)
  rw [f_X9_frogs, f_X10_frogs]
  simp only [gt_self, gd_t, lp_some, st_d, nm_d, on_none, on_some, cl_some, mI_mk, mX_mk, setI_mk, u2_row, rowS_s, rowU_s, xT0 hS, xP0_1 hS, xP0_3 hS, xP0_4 hS, xP0_5 hS, xP0_6 hS, xP0_7 hS, xP0_8 hS, xT73 hS, xP73_0 hS, xT74 hS, xL74 hS, xP73_1 hS, xT75 hS, xL75 hS, xP73_2 hS, xT76 hS, xL76 hS, xP73_3 hS, xT77 hS, xL77 hS, xT78 hS, xP78_0 hS, xT79 hS, xL79 hS, xT80 hS, xP80_0 hS, xP80_2 hS, xT81 hS, xL81 hS, xT82 hS, xL82 hS, xT83 hS, xL83 hS, xT84 hS, xL84 hS, xT85 hS, xL85 hS, wT hS hw, wP0 hS hw, wP2 hS hw, wP4 hS hw, wP7 hS hw, wP9 hS hw, wT1 hS hw, wL1 hS hw, wT2 hS hw, wL2 hS hw, wT3 hS hw, wL3 hS hw, wT4 hS hw, wL4 hS hw, wT5 hS hw, wL5 hS hw, yT0, yP0, yT1, yL1, yP1, yT2, yL2, yP2, yT3, yL3, yP5, yT4, yL4, yP6, yT5, yL5, yP7, yT6, yL6, yP8, yT7, yL7, yP9, yT8, yL8, yP17, yT9, yL9, yP18, yT10, yL10, yP19, yT11, yL11, yP22, yT12, yL12, yP24, yT13, yL13, yP25, yT14, yL14, yP26, yT15, yL15, yP27, yT16, yL16, yP28, yT17, yL17, yP29, yT18, yL18, yP30, yT19, yL19, yP31, yT20, yL20, yP32, yT21, yL21, yP33, yT22, yL22, yP34, yT23, yL23, yP35, yT24, yL24, xP0_0w hS hw1, Xin_1, Xin_2, Xin_3, Xin_4, Xin_5, Xin_60, Xin_99, Xin_100, Xin_999, Rin_1, Rin_2, Rin_3, Rin_4, Rin_5, Rin_60, Rin_99, Rin_100, Rin_999, Rin1_3, Rin1_8, Rin1_30, Rin1_60, Rin1_99, XhasC hS hw hR hG, XhasS hS hw hR hG, RisC hG, RisS hG, RisW, RisSh, RisSl, ifB, xP0_2w hS hv49, wT hS hv, wP0 hS hv, wP2 hS hv, wP4 hS hv, wP7 hS hv, wP9 hS hv, wT1 hS hv, wL1 hS hv, wT2 hS hv, wL2 hS hv, wT3 hS hv, wL3 hS hv, wT4 hS hv, wL4 hS hv, wT5 hS hv, wL5 hS hv]
  refine Ok2.ite h (fun e1 => Ok2.ite h (fun e2 => ?_))
  obtain ⟨c, hc, rfl⟩ := hasB_t e1 (by omega)
  obtain ⟨wd, hwd, rfl⟩ := hasB_t e2 (by decide)
  obtain ⟨q, hq, eq⟩ := (hr.1 c hc).2.2.2
  obtain ⟨I1, X1, J1, x1, z1, h1, j11, j17, hV⟩ := thinkB h hw1 hv49
  rw [x1, z1]
  simp only [gt_self, gd_t, lp_some, st_d, nm_d, on_none, on_some, cl_some, mI_mk, mX_mk, setI_mk, u2_row, rowS_s, rowU_s, xT0 hS, xP0_1 hS, xP0_3 hS, xP0_4 hS, xP0_5 hS, xP0_6 hS, xP0_7 hS, xP0_8 hS, xT73 hS, xP73_0 hS, xT74 hS, xL74 hS, xP73_1 hS, xT75 hS, xL75 hS, xP73_2 hS, xT76 hS, xL76 hS, xP73_3 hS, xT77 hS, xL77 hS, xT78 hS, xP78_0 hS, xT79 hS, xL79 hS, xT80 hS, xP80_0 hS, xP80_2 hS, xT81 hS, xL81 hS, xT82 hS, xL82 hS, xT83 hS, xL83 hS, xT84 hS, xL84 hS, xT85 hS, xL85 hS, wT hS hw, wP0 hS hw, wP2 hS hw, wP4 hS hw, wP7 hS hw, wP9 hS hw, wT1 hS hw, wL1 hS hw, wT2 hS hw, wL2 hS hw, wT3 hS hw, wL3 hS hw, wT4 hS hw, wL4 hS hw, wT5 hS hw, wL5 hS hw, yT0, yP0, yT1, yL1, yP1, yT2, yL2, yP2, yT3, yL3, yP5, yT4, yL4, yP6, yT5, yL5, yP7, yT6, yL6, yP8, yT7, yL7, yP9, yT8, yL8, yP17, yT9, yL9, yP18, yT10, yL10, yP19, yT11, yL11, yP22, yT12, yL12, yP24, yT13, yL13, yP25, yT14, yL14, yP26, yT15, yL15, yP27, yT16, yL16, yP28, yT17, yL17, yP29, yT18, yL18, yP30, yT19, yL19, yP31, yT20, yL20, yP32, yT21, yL21, yP33, yT22, yL22, yP34, yT23, yL23, yP35, yT24, yL24, xP0_0w hS hw1, Xin_1, Xin_2, Xin_3, Xin_4, Xin_5, Xin_60, Xin_99, Xin_100, Xin_999, Rin_1, Rin_2, Rin_3, Rin_4, Rin_5, Rin_60, Rin_99, Rin_100, Rin_999, Rin1_3, Rin1_8, Rin1_30, Rin1_60, Rin1_99, XhasC hS hw hR hG, XhasS hS hw hR hG, RisC hG, RisS hG, RisW, RisSh, RisSl, ifB, xP0_2w hS hv49, wT hS hv, wP0 hS hv, wP2 hS hv, wP4 hS hv, wP7 hS hv, wP9 hS hv, wT1 hS hv, wL1 hS hv, wT2 hS hv, wL2 hS hv, wT3 hS hv, wL3 hS hv, wT4 hS hv, wL4 hS hv, wT5 hS hv, wL5 hS hv]
  obtain ⟨I2, x2, hL, o2⟩ := Xlook hS hv hV.r hG hr
  rw [x2]
  simp only [gt_self, gd_t, lp_some, st_d, nm_d, on_none, on_some, cl_some, mI_mk, mX_mk, setI_mk, u2_row, rowS_s, rowU_s, xT0 hS, xP0_1 hS, xP0_3 hS, xP0_4 hS, xP0_5 hS, xP0_6 hS, xP0_7 hS, xP0_8 hS, xT73 hS, xP73_0 hS, xT74 hS, xL74 hS, xP73_1 hS, xT75 hS, xL75 hS, xP73_2 hS, xT76 hS, xL76 hS, xP73_3 hS, xT77 hS, xL77 hS, xT78 hS, xP78_0 hS, xT79 hS, xL79 hS, xT80 hS, xP80_0 hS, xP80_2 hS, xT81 hS, xL81 hS, xT82 hS, xL82 hS, xT83 hS, xL83 hS, xT84 hS, xL84 hS, xT85 hS, xL85 hS, wT hS hw, wP0 hS hw, wP2 hS hw, wP4 hS hw, wP7 hS hw, wP9 hS hw, wT1 hS hw, wL1 hS hw, wT2 hS hw, wL2 hS hw, wT3 hS hw, wL3 hS hw, wT4 hS hw, wL4 hS hw, wT5 hS hw, wL5 hS hw, yT0, yP0, yT1, yL1, yP1, yT2, yL2, yP2, yT3, yL3, yP5, yT4, yL4, yP6, yT5, yL5, yP7, yT6, yL6, yP8, yT7, yL7, yP9, yT8, yL8, yP17, yT9, yL9, yP18, yT10, yL10, yP19, yT11, yL11, yP22, yT12, yL12, yP24, yT13, yL13, yP25, yT14, yL14, yP26, yT15, yL15, yP27, yT16, yL16, yP28, yT17, yL17, yP29, yT18, yL18, yP30, yT19, yL19, yP31, yT20, yL20, yP32, yT21, yL21, yP33, yT22, yL22, yP34, yT23, yL23, yP35, yT24, yL24, xP0_0w hS hw1, Xin_1, Xin_2, Xin_3, Xin_4, Xin_5, Xin_60, Xin_99, Xin_100, Xin_999, Rin_1, Rin_2, Rin_3, Rin_4, Rin_5, Rin_60, Rin_99, Rin_100, Rin_999, Rin1_3, Rin1_8, Rin1_30, Rin1_60, Rin1_99, XhasC hS hw hR hG, XhasS hS hw hR hG, RisC hG, RisS hG, RisW, RisSh, RisSl, ifB, xP0_2w hS hv49, wT hS hv, wP0 hS hv, wP2 hS hv, wP4 hS hv, wP7 hS hv, wP9 hS hv, wT1 hS hv, wL1 hS hv, wT2 hS hv, wL2 hS hv, wT3 hS hv, wL3 hS hv, wT4 hS hv, wL4 hS hv, wT5 hS hv, wL5 hS hv]
  have hV2 : Wld I2 X1 S v (J 1) nc ns nt := hV.same (fun x hx => by unfold ownW at hx; exact o2 x (by omega) (by omega) (by omega)) rfl rfl
  have hI2 : ∀ x, ownW 1 x ∨ ownX x → I2 x = I1 x := fun x hx => by unfold ownX ownW at hx; exact o2 x (by omega) (by omega) (by omega)
  rw [gd_ok (ib_nI (by omega) (by decide)), nI_clamp (by omega)]
  simp only [wPc hS hv (show c < 8 by omega), wTc hS hv (show c < 8 by omega), gt_self, gd_t, lp_some, st_d, nm_d, on_none, on_some, cl_some, mI_mk, mX_mk, setI_mk, u2_row, rowS_s, rowU_s, xT0 hS, xP0_1 hS, xP0_3 hS, xP0_4 hS, xP0_5 hS, xP0_6 hS, xP0_7 hS, xP0_8 hS, xT73 hS, xP73_0 hS, xT74 hS, xL74 hS, xP73_1 hS, xT75 hS, xL75 hS, xP73_2 hS, xT76 hS, xL76 hS, xP73_3 hS, xT77 hS, xL77 hS, xT78 hS, xP78_0 hS, xT79 hS, xL79 hS, xT80 hS, xP80_0 hS, xP80_2 hS, xT81 hS, xL81 hS, xT82 hS, xL82 hS, xT83 hS, xL83 hS, xT84 hS, xL84 hS, xT85 hS, xL85 hS, wT hS hw, wP0 hS hw, wP2 hS hw, wP4 hS hw, wP7 hS hw, wP9 hS hw, wT1 hS hw, wL1 hS hw, wT2 hS hw, wL2 hS hw, wT3 hS hw, wL3 hS hw, wT4 hS hw, wL4 hS hw, wT5 hS hw, wL5 hS hw, yT0, yP0, yT1, yL1, yP1, yT2, yL2, yP2, yT3, yL3, yP5, yT4, yL4, yP6, yT5, yL5, yP7, yT6, yL6, yP8, yT7, yL7, yP9, yT8, yL8, yP17, yT9, yL9, yP18, yT10, yL10, yP19, yT11, yL11, yP22, yT12, yL12, yP24, yT13, yL13, yP25, yT14, yL14, yP26, yT15, yL15, yP27, yT16, yL16, yP28, yT17, yL17, yP29, yT18, yL18, yP30, yT19, yL19, yP31, yT20, yL20, yP32, yT21, yL21, yP33, yT22, yL22, yP34, yT23, yL23, yP35, yT24, yL24, xP0_0w hS hw1, Xin_1, Xin_2, Xin_3, Xin_4, Xin_5, Xin_60, Xin_99, Xin_100, Xin_999, Rin_1, Rin_2, Rin_3, Rin_4, Rin_5, Rin_60, Rin_99, Rin_100, Rin_999, Rin1_3, Rin1_8, Rin1_30, Rin1_60, Rin1_99, XhasC hS hw hR hG, XhasS hS hw hR hG, RisC hG, RisS hG, RisW, RisSh, RisSl, ifB, xP0_2w hS hv49, wT hS hv, wP0 hS hv, wP2 hS hv, wP4 hS hv, wP7 hS hv, wP9 hS hv, wT1 hS hv, wL1 hS hv, wT2 hS hv, wL2 hS hv, wT3 hS hv, wL3 hS hv, wT4 hS hv, wL4 hS hv, wT5 hS hv, wL5 hS hv]
  rw [(hV2.r.2.1 c hc).2.2.2, eq, show (0 : Int32) = nI 0 from rfl]
  exact frgL h1 hv49 hc hwd hq (100 - q) 0 FU FU I2 J1 (by omega) (FU_ge (by omega)) (FU_ge (by omega)) ⟨J 1 (38 + 4 * c + 3), by rw [j11, rowU_id]; exact hV2⟩ (fun x hx _ => by rw [j11]; exact hL x hx) hI2 (by rw [j11, show nI (q + 0) = J 1 (38 + 4 * c + 3) from eq.symm, rowU_id]) (fun j hj => by rw [j11]; exact j17 j hj) (fun _ _ => rfl)
end OpF
