/-! A WORLD TAKEN from another -/
theorem setR_mk (I : Nat → Nat → Int32) (z) (k : Nat) (f : Nat → Int32) : setR (I, z) k f = (rowS I k f, z) := by
  have e : (fun a b => if a = k then f b else I a b) = rowS I k f := by
    funext a b
    unfold rowS
    by_cases h : a = k
    · rw [if_pos h, if_pos h]
    · rw [if_neg h, if_neg h]
  show ((fun a b => if a = k then f b else I a b), z) = _
  rw [e]
theorem setX_mk (I : Nat → Nat → Int32) (X : Nat → Nat → Option Nat) (z) (k j v : Nat) : setX (I, X, z) k j v = (I, u2 X k j (some v), z) := Eq.trans rfl rfl
theorem u2X_s (X : Nat → Nat → Option Nat) (k j : Nat) (v : Option Nat) : u2 X k j v k j = v := if_pos ⟨rfl, rfl⟩
theorem u2X_n {X : Nat → Nat → Option Nat} {k j a : Nat} {v : Option Nat} (h : a ≠ k) : u2 X k j v a = X a := by
  funext b; exact if_neg (fun q => h q.1)
theorem u2X_o {X : Nat → Nat → Option Nat} {k j b : Nat} {v : Option Nat} (h : b ≠ j) : u2 X k j v k b = X k b := if_neg (fun q => h q.2)
section Tk
variable {I : Nat → Nat → Int32} {X : Nat → Nat → Option Nat} {S : Sta} {w v : Nat} {N : Nat → Int32} {nc ns nt : Nat}
theorem tkT (hS : LaS S) (hw : isW w) (hv : isW v) (hn : w ≠ v) (h : Wld I X S v N nc ns nt) : ∀ (d i fu : Nat) (J : Nat → Nat → Int32) (Y : Nat → Nat → Option Nat), i + d = nt → d < fu → J w 8 = N 7 → (∀ a, 114 ≤ a → J a = I a) → (∀ a, a ≠ w + 4 → Y a = X a) → (∀ k, k < i → Y (w + 4) k = X (v + 4) k) →
    ∃ Y', f_X8_take_122 fu (J, Y, S) w v (nI i) = some ((), (J, Y', S)) ∧ (∀ a, a ≠ w + 4 → Y' a = X a) ∧ ∀ k, k < nt → Y' (w + 4) k = X (v + 4) k := by
  have hlt := hw.lt
  have hl2 := hv.lt
  have h14 := h.gn.2.2.2.2.2.1
  intro d
  induction d with
  | zero =>
    intro i fu J Y hi hf h8 hJ hY hK
    obtain ⟨fu, rfl⟩ : ∃ m, fu = m + 1 := ⟨fu - 1, by omega⟩
    rw [f_X8_take_122]
    simp only [gt_self, gd_t, lp_some, st_d, nm_d, on_none, on_some, cl_some, mI_mk, mX_mk, setI_mk, u2_row, rowS_s, rowU_s, xT0 hS, xP0_0 hS, xP0_1 hS, xP0_2 hS, xP0_3 hS, xP0_4 hS, xP0_5 hS, xP0_6 hS, xP0_7 hS, xP0_8 hS, xT73 hS, xP73_0 hS, xT74 hS, xL74 hS, xP73_1 hS, xT75 hS, xL75 hS, xP73_2 hS, xT76 hS, xL76 hS, xP73_3 hS, xT77 hS, xL77 hS, xT78 hS, xP78_0 hS, xT79 hS, xL79 hS, xT80 hS, xP80_0 hS, xP80_2 hS, xT81 hS, xL81 hS, xT82 hS, xL82 hS, xT83 hS, xL83 hS, xT84 hS, xL84 hS, xT85 hS, xL85 hS, wT hS hw, wP0 hS hw, wP2 hS hw, wP4 hS hw, wP7 hS hw, wP9 hS hw, wT1 hS hw, wL1 hS hw, wT2 hS hw, wL2 hS hw, wT3 hS hw, wL3 hS hw, wT4 hS hw, wL4 hS hw, wT5 hS hw, wL5 hS hw]
    rw [h8, h.gn.2.2.2.2.1, if_pos (nI_le (show nt ≤ i by omega) (by omega))]
    exact ⟨Y, rfl, hY, fun k hk => hK k (by omega)⟩
  | succ d ih =>
    intro i fu J Y hi hf h8 hJ hY hK
    obtain ⟨fu, rfl⟩ : ∃ m, fu = m + 1 := ⟨fu - 1, by omega⟩
    obtain ⟨b, hb, hTx⟩ := h.r.2.2.2 i (by omega)
    rw [f_X8_take_122]
    simp only [gt_self, gd_t, lp_some, st_d, nm_d, on_none, on_some, cl_some, mI_mk, mX_mk, setI_mk, u2_row, rowS_s, rowU_s, xT0 hS, xP0_0 hS, xP0_1 hS, xP0_2 hS, xP0_3 hS, xP0_4 hS, xP0_5 hS, xP0_6 hS, xP0_7 hS, xP0_8 hS, xT73 hS, xP73_0 hS, xT74 hS, xL74 hS, xP73_1 hS, xT75 hS, xL75 hS, xP73_2 hS, xT76 hS, xL76 hS, xP73_3 hS, xT77 hS, xL77 hS, xT78 hS, xP78_0 hS, xT79 hS, xL79 hS, xT80 hS, xP80_0 hS, xP80_2 hS, xT81 hS, xL81 hS, xT82 hS, xL82 hS, xT83 hS, xL83 hS, xT84 hS, xL84 hS, xT85 hS, xL85 hS, wT hS hw, wP0 hS hw, wP2 hS hw, wP4 hS hw, wP7 hS hw, wP9 hS hw, wT1 hS hw, wL1 hS hw, wT2 hS hw, wL2 hS hw, wT3 hS hw, wL3 hS hw, wT4 hS hw, wL4 hS hw, wT5 hS hw, wL5 hS hw, wT hS hv, wP0 hS hv, wP2 hS hv, wP4 hS hv, wP7 hS hv, wP9 hS hv, wT1 hS hv, wL1 hS hv, wT2 hS hv, wL2 hS hv, wT3 hS hv, wL3 hS hv, wT4 hS hv, wL4 hS hv, wT5 hS hv, wL5 hS hv]
    have e1 : Y (v + 4) i = some b := by rw [hY (v + 4) (by omega)]; exact hb
    rw [h8, h.gn.2.2.2.2.1, if_neg (nI_ge (by omega) (by omega))]
    simp only [gd_ok (ib_nI (show i < 14 by omega) (show 14 < 2 ^ 31 by decide)), nI_clamp (show i < 2 ^ 31 by omega), e1, gt_self, gd_t, lp_some, st_d, nm_d, on_none, on_some, cl_some, mI_mk, mX_mk, setI_mk, u2_row, rowS_s, rowU_s, mT_S, hTx.2.1, setX_mk]
    rw [nI_1]
    refine ih (i + 1) fu J _ (by omega) (by omega) h8 hJ (fun a ha => by rw [u2X_n ha]; exact hY a ha) (fun k hk => ?_)
    by_cases e : k = i
    · rw [e, u2X_s]; exact hb.symm
    · rw [u2X_o e]; exact hK k (by omega)
theorem tkS (hS : LaS S) (hw : isW w) (hv : isW v) (hn : w ≠ v) (h : Wld I X S v N nc ns nt) : ∀ (d i fu : Nat) (J : Nat → Nat → Int32), i + d = ns → d < fu → J w 1 = N 1 → J w 3 = N 2 → RelC J w N nc → RelS J w N i → (∀ a, a ≠ w → (a < w + 6 ∨ w + 24 ≤ a) → J a = I a) →
    ∃ J' Y', f_X8_take_49 fu (J, X, S) w v (nI i) = some ((), (J', Y', S)) ∧ RelW J' Y' S w N nc ns nt ∧ (∀ a, a ≠ w + 4 → Y' a = X a) ∧ (∀ k, k < nt → Y' (w + 4) k = X (v + 4) k) ∧ ∀ a, a ≠ w → a ≠ w + 3 → (a < w + 6 ∨ w + 24 ≤ a) → J' a = I a := by
  have hlt := hw.lt
  have hl2 := hv.lt
  have h10 := h.gn.2.2.2.1
  have h8 := h.gn.2.1
  have hdis : v + 24 ≤ w ∨ w + 24 ≤ v := by unfold isW at hw hv; omega
  intro d
  induction d with
  | zero =>
    intro i fu J hi hf e1 e3 hC hSs hJ
    obtain ⟨fu, rfl⟩ : ∃ m, fu = m + 1 := ⟨fu - 1, by omega⟩
    have hi : i = ns := by omega
    subst hi
    rw [f_X8_take_49]
    simp only [gt_self, gd_t, lp_some, st_d, nm_d, on_none, on_some, cl_some, mI_mk, mX_mk, setI_mk, u2_row, rowS_s, rowU_s, xT0 hS, xP0_0 hS, xP0_1 hS, xP0_2 hS, xP0_3 hS, xP0_4 hS, xP0_5 hS, xP0_6 hS, xP0_7 hS, xP0_8 hS, xT73 hS, xP73_0 hS, xT74 hS, xL74 hS, xP73_1 hS, xT75 hS, xL75 hS, xP73_2 hS, xT76 hS, xL76 hS, xP73_3 hS, xT77 hS, xL77 hS, xT78 hS, xP78_0 hS, xT79 hS, xL79 hS, xT80 hS, xP80_0 hS, xP80_2 hS, xT81 hS, xL81 hS, xT82 hS, xL82 hS, xT83 hS, xL83 hS, xT84 hS, xL84 hS, xT85 hS, xL85 hS, wT hS hw, wP0 hS hw, wP2 hS hw, wP4 hS hw, wP7 hS hw, wP9 hS hw, wT1 hS hw, wL1 hS hw, wT2 hS hw, wL2 hS hw, wT3 hS hw, wL3 hS hw, wT4 hS hw, wL4 hS hw, wT5 hS hw, wL5 hS hw, wT hS hv, wP0 hS hv, wP2 hS hv, wP4 hS hv, wP7 hS hv, wP9 hS hv, wT1 hS hv, wL1 hS hv, wT2 hS hv, wL2 hS hv, wT3 hS hv, wL3 hS hv, wT4 hS hv, wL4 hS hv, wT5 hS hv, wL5 hS hv]
    rw [e3, h.gn.2.2.1, if_pos (nI_le (Nat.le_refl _) (by omega))]
    simp only [gt_self, gd_t, lp_some, st_d, nm_d, on_none, on_some, cl_some, mI_mk, mX_mk, setI_mk, u2_row, rowS_s, rowU_s, xT0 hS, xP0_0 hS, xP0_1 hS, xP0_2 hS, xP0_3 hS, xP0_4 hS, xP0_5 hS, xP0_6 hS, xP0_7 hS, xP0_8 hS, xT73 hS, xP73_0 hS, xT74 hS, xL74 hS, xP73_1 hS, xT75 hS, xL75 hS, xP73_2 hS, xT76 hS, xL76 hS, xP73_3 hS, xT77 hS, xL77 hS, xT78 hS, xP78_0 hS, xT79 hS, xL79 hS, xT80 hS, xP80_0 hS, xP80_2 hS, xT81 hS, xL81 hS, xT82 hS, xL82 hS, xT83 hS, xL83 hS, xT84 hS, xL84 hS, xT85 hS, xL85 hS, wT hS hw, wP0 hS hw, wP2 hS hw, wP4 hS hw, wP7 hS hw, wP9 hS hw, wT1 hS hw, wL1 hS hw, wT2 hS hw, wL2 hS hw, wT3 hS hw, wL3 hS hw, wT4 hS hw, wL4 hS hw, wT5 hS hw, wL5 hS hw, wT hS hv, wP0 hS hv, wP2 hS hv, wP4 hS hv, wP7 hS hv, wP9 hS hv, wT1 hS hv, wL1 hS hv, wT2 hS hv, wL2 hS hv, wT3 hS hv, wL3 hS hv, wT4 hS hv, wL4 hS hv, wT5 hS hv, wL5 hS hv, setR_mk, rowS_rowS]
    rw [gd_ok (by decide)]
    simp only [gt_self, gd_t, lp_some, st_d, nm_d, on_none, on_some, cl_some, mI_mk, mX_mk, setI_mk, u2_row, rowS_s, rowU_s, xT0 hS, xP0_0 hS, xP0_1 hS, xP0_2 hS, xP0_3 hS, xP0_4 hS, xP0_5 hS, xP0_6 hS, xP0_7 hS, xP0_8 hS, xT73 hS, xP73_0 hS, xT74 hS, xL74 hS, xP73_1 hS, xT75 hS, xL75 hS, xP73_2 hS, xT76 hS, xL76 hS, xP73_3 hS, xT77 hS, xL77 hS, xT78 hS, xP78_0 hS, xT79 hS, xL79 hS, xT80 hS, xP80_0 hS, xP80_2 hS, xT81 hS, xL81 hS, xT82 hS, xL82 hS, xT83 hS, xL83 hS, xT84 hS, xL84 hS, xT85 hS, xL85 hS, wT hS hw, wP0 hS hw, wP2 hS hw, wP4 hS hw, wP7 hS hw, wP9 hS hw, wT1 hS hw, wL1 hS hw, wT2 hS hw, wL2 hS hw, wT3 hS hw, wL3 hS hw, wT4 hS hw, wL4 hS hw, wT5 hS hw, wL5 hS hw, wT hS hv, wP0 hS hv, wP2 hS hv, wP4 hS hv, wP7 hS hv, wP9 hS hv, wT1 hS hv, wL1 hS hv, wT2 hS hv, wL2 hS hv, wT3 hS hv, wL3 hS hv, wT4 hS hv, wL4 hS hv, wT5 hS hv, wL5 hS hv, setR_mk, rowS_rowS, rowS_n (show w ≠ w + 3 by omega), rowS_n (show v ≠ w + 3 by omega), rowS_n (show v ≠ w by omega)]
    have jv : J v = I v := hJ v (by omega) (by omega)
    have jv3 : J (v + 3) = I (v + 3) := hJ (v + 3) (by omega) (by omega)
    have g := h.r.1
    generalize hK : rowS (rowS J (w + 3) (va_cpy (fun j => J (v + 3) j) (fun j => J (w + 3) j) (0 : Int32).toNatClampNeg (0 : Int32).toNatClampNeg (nI 3).toNatClampNeg)) w (rowU (rowU (rowU (J w) 5 (J v 5)) 6 (J v 6)) 8 (J v 8)) = K
    have kw : K w = rowU (rowU (rowU (J w) 5 (J v 5)) 6 (J v 6)) 8 (J v 8) := by rw [← hK, rowS_s]
    have k3 : ∀ u, u < 3 → K (w + 3) u = I (v + 3) u := fun u hu => by
      rw [← hK, rowS_n (by omega), rowS_s]
      unfold va_cpy
      rw [if_pos ⟨by rw [tn0]; omega, by rw [tn0, nI_clamp (by decide)]; omega⟩, jv3, tn0]
      congr 1
      omega
    have ko : ∀ a, a ≠ w → a ≠ w + 3 → K a = J a := fun a h1 h2 => by rw [← hK, rowS_n h1, rowS_n h2]
    have kw8 : K w 8 = N 7 := by rw [kw, rowU_s, jv]; exact g.2.2.2.2.2.2.2
    obtain ⟨Y', eY, y1, y2⟩ := tkT hS hw hv hn h nt 0 FU K X (by omega) (FU_ge (by have := h.gn.2.2.2.2.2.1; omega)) kw8 (fun a ha => by rw [ko a (by omega) (by omega)]; exact hJ a (by omega) (by omega)) (fun _ _ => rfl) (fun k hk => absurd hk (by omega))
    refine ⟨K, Y', eY, ⟨?_, fun k hk => ?_, fun k hk => ?_, fun t ht => ?_⟩, y1, y2, fun a h1 h2 h3 => by rw [ko a h1 h2]; exact hJ a h1 h3⟩
    · refine ⟨?_, ?_, ?_, ?_, ?_, ?_, ?_, kw8⟩
      · rw [kw, rowU_n (by decide), rowU_s, jv]; exact g.1
      · rw [kw, rowU_n (by decide), rowU_n (by decide), rowU_n (by decide)]; exact e1
      · rw [kw, rowU_n (by decide), rowU_n (by decide), rowU_n (by decide)]; exact e3
      · rw [kw, rowU_n (by decide), rowU_n (by decide), rowU_s, jv]; exact g.2.2.2.1
      · rw [k3 0 (by decide)]; exact g.2.2.2.2.1
      · rw [k3 1 (by decide)]; exact g.2.2.2.2.2.1
      · rw [k3 2 (by decide)]; exact g.2.2.2.2.2.2.1
    · rw [ko _ (by omega) (by omega)]; exact hC k hk
    · rw [ko _ (by omega) (by omega)]; exact hSs k hk
    · obtain ⟨b, hb, hTx⟩ := h.r.2.2.2 t ht
      exact ⟨b, by rw [y2 t ht]; exact hb, hTx.same (fun a ha => by rw [ko a (by omega) (by omega)]; exact hJ a (by omega) (by omega))⟩
  | succ d ih =>
    intro i fu J hi hf e1 e3 hC hSs hJ
    obtain ⟨fu, rfl⟩ : ∃ m, fu = m + 1 := ⟨fu - 1, by omega⟩
    rw [f_X8_take_49]
    simp only [gt_self, gd_t, lp_some, st_d, nm_d, on_none, on_some, cl_some, mI_mk, mX_mk, setI_mk, u2_row, rowS_s, rowU_s, xT0 hS, xP0_0 hS, xP0_1 hS, xP0_2 hS, xP0_3 hS, xP0_4 hS, xP0_5 hS, xP0_6 hS, xP0_7 hS, xP0_8 hS, xT73 hS, xP73_0 hS, xT74 hS, xL74 hS, xP73_1 hS, xT75 hS, xL75 hS, xP73_2 hS, xT76 hS, xL76 hS, xP73_3 hS, xT77 hS, xL77 hS, xT78 hS, xP78_0 hS, xT79 hS, xL79 hS, xT80 hS, xP80_0 hS, xP80_2 hS, xT81 hS, xL81 hS, xT82 hS, xL82 hS, xT83 hS, xL83 hS, xT84 hS, xL84 hS, xT85 hS, xL85 hS, wT hS hw, wP0 hS hw, wP2 hS hw, wP4 hS hw, wP7 hS hw, wP9 hS hw, wT1 hS hw, wL1 hS hw, wT2 hS hw, wL2 hS hw, wT3 hS hw, wL3 hS hw, wT4 hS hw, wL4 hS hw, wT5 hS hw, wL5 hS hw, wT hS hv, wP0 hS hv, wP2 hS hv, wP4 hS hv, wP7 hS hv, wP9 hS hv, wT1 hS hv, wL1 hS hv, wT2 hS hv, wL2 hS hv, wT3 hS hv, wL3 hS hv, wT4 hS hv, wL4 hS hv, wT5 hS hv, wL5 hS hv]
    rw [e3, h.gn.2.2.1, if_neg (nI_ge (by omega) (by omega))]
    simp only [gd_ok (ib_nI (show i < 10 by omega) (show 10 < 2 ^ 31 by decide)), nI_clamp (show i < 2 ^ 31 by omega), wPs hS hw (show i < 10 by omega), wTs hS hw (show i < 10 by omega), wPs hS hv (show i < 10 by omega), wTs hS hv (show i < 10 by omega), gt_self, gd_t, lp_some, st_d, nm_d, on_none, on_some, cl_some, mI_mk, mX_mk, setI_mk, u2_row, rowS_s, rowU_s, xT0 hS, xP0_0 hS, xP0_1 hS, xP0_2 hS, xP0_3 hS, xP0_4 hS, xP0_5 hS, xP0_6 hS, xP0_7 hS, xP0_8 hS, xT73 hS, xP73_0 hS, xT74 hS, xL74 hS, xP73_1 hS, xT75 hS, xL75 hS, xP73_2 hS, xT76 hS, xL76 hS, xP73_3 hS, xT77 hS, xL77 hS, xT78 hS, xP78_0 hS, xT79 hS, xL79 hS, xT80 hS, xP80_0 hS, xP80_2 hS, xT81 hS, xL81 hS, xT82 hS, xL82 hS, xT83 hS, xL83 hS, xT84 hS, xL84 hS, xT85 hS, xL85 hS, wT hS hw, wP0 hS hw, wP2 hS hw, wP4 hS hw, wP7 hS hw, wP9 hS hw, wT1 hS hw, wL1 hS hw, wT2 hS hw, wL2 hS hw, wT3 hS hw, wL3 hS hw, wT4 hS hw, wL4 hS hw, wT5 hS hw, wL5 hS hw, wT hS hv, wP0 hS hv, wP2 hS hv, wP4 hS hv, wP7 hS hv, wP9 hS hv, wT1 hS hv, wL1 hS hv, wT2 hS hv, wL2 hS hv, wT3 hS hv, wL3 hS hv, wT4 hS hv, wL4 hS hv, wT5 hS hv, wL5 hS hv, f_X5_take, f_X5_become]
    have jv : J (v + 14 + i) = I (v + 14 + i) := hJ _ (by omega) (by omega)
    have ss := h.r.2.2.1 i (by omega)
    have hb : isB (J (v + 14 + i) 2) = true := by
      rw [jv, ss.2.2]
      rcases (h.gr.2 i (by omega)).2.2 with q | q <;> rw [q] <;> rfl
    rw [gd_ok hb]
    simp only [gt_self, gd_t, lp_some, st_d, nm_d, on_none, on_some, cl_some, mI_mk, mX_mk, setI_mk, u2_row, rowS_s, rowU_s, rowS_rowS, rowS_n (show v + 14 + i ≠ w + 14 + i by omega)]
    rw [nI_1]
    refine ih (i + 1) fu _ (by omega) (by omega) (by rw [rowS_n (by omega)]; exact e1) (by rw [rowS_n (by omega)]; exact e3) (fun k hk => by rw [rowS_n (by omega)]; exact hC k hk) (fun k hk => ?_) (fun a h1 h2 => by rw [rowS_n (by omega)]; exact hJ a h1 h2)
    by_cases e : k = i
    · subst e
      rw [rowS_s, jv]
      rw [rowU_s, rowU_n (show (1 : Nat) ≠ 2 by decide), rowU_s, rowU_n (show (0 : Nat) ≠ 2 by decide), rowU_n (show (0 : Nat) ≠ 1 by decide), rowU_s]
      exact ss
    · rw [rowS_n (by omega)]; exact hSs k (by omega)
theorem tkC (hS : LaS S) (hw : isW w) (hv : isW v) (hn : w ≠ v) (h : Wld I X S v N nc ns nt) : ∀ (d i fu : Nat) (J : Nat → Nat → Int32), i + d = nc → d < fu → J w 1 = N 1 → RelC J w N i → (∀ a, a ≠ w → (a < w + 6 ∨ w + 14 ≤ a) → J a = I a) →
    ∃ J' Y', f_X8_take_10 fu (J, X, S) w v (nI i) = some ((), (J', Y', S)) ∧ RelW J' Y' S w N nc ns nt ∧ (∀ a, a ≠ w + 4 → Y' a = X a) ∧ (∀ k, k < nt → Y' (w + 4) k = X (v + 4) k) ∧ ∀ a, a ≠ w → a ≠ w + 3 → (a < w + 6 ∨ w + 24 ≤ a) → J' a = I a := by
  have hlt := hw.lt
  have hl2 := hv.lt
  have h10 := h.gn.2.2.2.1
  have h8 := h.gn.2.1
  have hdis : v + 24 ≤ w ∨ w + 24 ≤ v := by unfold isW at hw hv; omega
  intro d
  induction d with
  | zero =>
    intro i fu J hi hf e1 hC hJ
    obtain ⟨fu, rfl⟩ : ∃ m, fu = m + 1 := ⟨fu - 1, by omega⟩
    have hi : i = nc := by omega
    subst hi
    rw [f_X8_take_10]
    simp only [gt_self, gd_t, lp_some, st_d, nm_d, on_none, on_some, cl_some, mI_mk, mX_mk, setI_mk, u2_row, rowS_s, rowU_s, xT0 hS, xP0_0 hS, xP0_1 hS, xP0_2 hS, xP0_3 hS, xP0_4 hS, xP0_5 hS, xP0_6 hS, xP0_7 hS, xP0_8 hS, xT73 hS, xP73_0 hS, xT74 hS, xL74 hS, xP73_1 hS, xT75 hS, xL75 hS, xP73_2 hS, xT76 hS, xL76 hS, xP73_3 hS, xT77 hS, xL77 hS, xT78 hS, xP78_0 hS, xT79 hS, xL79 hS, xT80 hS, xP80_0 hS, xP80_2 hS, xT81 hS, xL81 hS, xT82 hS, xL82 hS, xT83 hS, xL83 hS, xT84 hS, xL84 hS, xT85 hS, xL85 hS, wT hS hw, wP0 hS hw, wP2 hS hw, wP4 hS hw, wP7 hS hw, wP9 hS hw, wT1 hS hw, wL1 hS hw, wT2 hS hw, wL2 hS hw, wT3 hS hw, wL3 hS hw, wT4 hS hw, wL4 hS hw, wT5 hS hw, wL5 hS hw, wT hS hv, wP0 hS hv, wP2 hS hv, wP4 hS hv, wP7 hS hv, wP9 hS hv, wT1 hS hv, wL1 hS hv, wT2 hS hv, wL2 hS hv, wT3 hS hv, wL3 hS hv, wT4 hS hv, wL4 hS hv, wT5 hS hv, wL5 hS hv]
    rw [e1, h.gn.1, if_pos (nI_le (Nat.le_refl _) (by omega))]
    have jv : J v 3 = N 2 := by rw [hJ v (by omega) (by omega)]; exact h.r.1.2.2.1
    rw [jv]
    refine tkS hS hw hv hn h ns 0 FU _ (by omega) (FU_ge (by omega)) (by rw [rowS_s, rowU_n (by decide)]; exact e1) (by rw [rowS_s, rowU_s]) (fun k hk => by rw [rowS_n (by omega)]; exact hC k hk) (fun k hk => absurd hk (by omega)) (fun a h1 h2 => by rw [rowS_n h1]; exact hJ a h1 (by omega))
  | succ d ih =>
    intro i fu J hi hf e1 hC hJ
    obtain ⟨fu, rfl⟩ : ∃ m, fu = m + 1 := ⟨fu - 1, by omega⟩
    rw [f_X8_take_10]
    simp only [gt_self, gd_t, lp_some, st_d, nm_d, on_none, on_some, cl_some, mI_mk, mX_mk, setI_mk, u2_row, rowS_s, rowU_s, xT0 hS, xP0_0 hS, xP0_1 hS, xP0_2 hS, xP0_3 hS, xP0_4 hS, xP0_5 hS, xP0_6 hS, xP0_7 hS, xP0_8 hS, xT73 hS, xP73_0 hS, xT74 hS, xL74 hS, xP73_1 hS, xT75 hS, xL75 hS, xP73_2 hS, xT76 hS, xL76 hS, xP73_3 hS, xT77 hS, xL77 hS, xT78 hS, xP78_0 hS, xT79 hS, xL79 hS, xT80 hS, xP80_0 hS, xP80_2 hS, xT81 hS, xL81 hS, xT82 hS, xL82 hS, xT83 hS, xL83 hS, xT84 hS, xL84 hS, xT85 hS, xL85 hS, wT hS hw, wP0 hS hw, wP2 hS hw, wP4 hS hw, wP7 hS hw, wP9 hS hw, wT1 hS hw, wL1 hS hw, wT2 hS hw, wL2 hS hw, wT3 hS hw, wL3 hS hw, wT4 hS hw, wL4 hS hw, wT5 hS hw, wL5 hS hw, wT hS hv, wP0 hS hv, wP2 hS hv, wP4 hS hv, wP7 hS hv, wP9 hS hv, wT1 hS hv, wL1 hS hv, wT2 hS hv, wL2 hS hv, wT3 hS hv, wL3 hS hv, wT4 hS hv, wL4 hS hv, wT5 hS hv, wL5 hS hv]
    rw [e1, h.gn.1, if_neg (nI_ge (by omega) (by omega))]
    simp only [gd_ok (ib_nI (show i < 8 by omega) (show 8 < 2 ^ 31 by decide)), nI_clamp (show i < 2 ^ 31 by omega), wPc hS hw (show i < 8 by omega), wTc hS hw (show i < 8 by omega), wPc hS hv (show i < 8 by omega), wTc hS hv (show i < 8 by omega), gt_self, gd_t, lp_some, st_d, nm_d, on_none, on_some, cl_some, mI_mk, mX_mk, setI_mk, u2_row, rowS_s, rowU_s, xT0 hS, xP0_0 hS, xP0_1 hS, xP0_2 hS, xP0_3 hS, xP0_4 hS, xP0_5 hS, xP0_6 hS, xP0_7 hS, xP0_8 hS, xT73 hS, xP73_0 hS, xT74 hS, xL74 hS, xP73_1 hS, xT75 hS, xL75 hS, xP73_2 hS, xT76 hS, xL76 hS, xP73_3 hS, xT77 hS, xL77 hS, xT78 hS, xP78_0 hS, xT79 hS, xL79 hS, xT80 hS, xP80_0 hS, xP80_2 hS, xT81 hS, xL81 hS, xT82 hS, xL82 hS, xT83 hS, xL83 hS, xT84 hS, xL84 hS, xT85 hS, xL85 hS, wT hS hw, wP0 hS hw, wP2 hS hw, wP4 hS hw, wP7 hS hw, wP9 hS hw, wT1 hS hw, wL1 hS hw, wT2 hS hw, wL2 hS hw, wT3 hS hw, wL3 hS hw, wT4 hS hw, wL4 hS hw, wT5 hS hw, wL5 hS hw, wT hS hv, wP0 hS hv, wP2 hS hv, wP4 hS hv, wP7 hS hv, wP9 hS hv, wT1 hS hv, wL1 hS hv, wT2 hS hv, wL2 hS hv, wT3 hS hv, wL3 hS hv, wT4 hS hv, wL4 hS hv, wT5 hS hv, wL5 hS hv, f_X0_take, f_X0_become, rowS_rowS, rowS_n (show v + 6 + i ≠ w + 6 + i by omega)]
    have jv : J (v + 6 + i) = I (v + 6 + i) := hJ _ (by omega) (by omega)
    have cc := h.r.2.1 i (by omega)
    rw [nI_1]
    refine ih (i + 1) fu _ (by omega) (by omega) (by rw [rowS_n (by omega)]; exact e1) (fun k hk => ?_) (fun a h1 h2 => by rw [rowS_n (by omega)]; exact hJ a h1 h2)
    by_cases e : k = i
    · subst e
      rw [rowS_s, jv]
      rw [rowU_s, rowU_n (show (2 : Nat) ≠ 3 by decide), rowU_s, rowU_n (show (1 : Nat) ≠ 3 by decide), rowU_n (show (1 : Nat) ≠ 2 by decide), rowU_s, rowU_n (show (0 : Nat) ≠ 3 by decide), rowU_n (show (0 : Nat) ≠ 2 by decide), rowU_n (show (0 : Nat) ≠ 1 by decide), rowU_s]
      exact cc
    · rw [rowS_n (by omega)]; exact hC k (by omega)
/-- all that a world keeps, taken -/
theorem Xtake (hS : LaS S) (hw : isW w) (hv : isW v) (hn : w ≠ v) (h : Wld I X S v N nc ns nt) :
    ∃ J' Y', f_X8_take (I, X, S) w v = some ((), (J', Y', S)) ∧ Wld J' Y' S w N nc ns nt ∧ (∀ a, a ≠ w + 4 → Y' a = X a) ∧ ∀ a, a ≠ w → a ≠ w + 3 → (a < w + 6 ∨ w + 24 ≤ a) → J' a = I a := by
  rw [f_X8_take]
  simp only [gt_self, gd_t, lp_some, st_d, nm_d, on_none, on_some, cl_some, mI_mk, mX_mk, setI_mk, u2_row, rowS_s, rowU_s, xT0 hS, xP0_0 hS, xP0_1 hS, xP0_2 hS, xP0_3 hS, xP0_4 hS, xP0_5 hS, xP0_6 hS, xP0_7 hS, xP0_8 hS, xT73 hS, xP73_0 hS, xT74 hS, xL74 hS, xP73_1 hS, xT75 hS, xL75 hS, xP73_2 hS, xT76 hS, xL76 hS, xP73_3 hS, xT77 hS, xL77 hS, xT78 hS, xP78_0 hS, xT79 hS, xL79 hS, xT80 hS, xP80_0 hS, xP80_2 hS, xT81 hS, xL81 hS, xT82 hS, xL82 hS, xT83 hS, xL83 hS, xT84 hS, xL84 hS, xT85 hS, xL85 hS, wT hS hw, wP0 hS hw, wP2 hS hw, wP4 hS hw, wP7 hS hw, wP9 hS hw, wT1 hS hw, wL1 hS hw, wT2 hS hw, wL2 hS hw, wT3 hS hw, wL3 hS hw, wT4 hS hw, wL4 hS hw, wT5 hS hw, wL5 hS hw, wT hS hv, wP0 hS hv, wP2 hS hv, wP4 hS hv, wP7 hS hv, wP9 hS hv, wT1 hS hv, wL1 hS hv, wT2 hS hv, wL2 hS hv, wT3 hS hv, wL3 hS hv, wT4 hS hv, wL4 hS hv, wT5 hS hv, wL5 hS hv]
  rw [show I v 1 = N 1 from h.r.1.2.1]
  obtain ⟨J', Y', e, hR, y1, y2, o⟩ := tkC hS hw hv hn h nc 0 FU (rowS I w (rowU (I w) 1 (N 1))) (by omega) (FU_ge (by have := h.gn.2.1; omega)) (by rw [rowS_s, rowU_s]) (fun k hk => absurd hk (by omega)) (fun a h1 _ => rowS_n h1)
  exact ⟨J', Y', e, ⟨hR, h.gn, h.gr, h.yr, fun t ht b hb => h.tb t ht b (by rw [← y2 t ht]; exact hb)⟩, y1, o⟩
end Tk
