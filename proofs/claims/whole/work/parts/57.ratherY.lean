/-! rather: the reference; both -/
section RathY
variable {J : Nat → Nat → Int32} {nc ns nt : Nat} {T : (Nat → Option Nat) × (Nat → Option Nat)}
theorem R48 (h10 : ns ≤ 10) (h8 : nc ≤ 8) {s c : Nat} (hs : s < ns) (hc : c < nc) (hT2 : ∀ c g, T.2 c = some g → g < ns) (h4 : ∀ c, c < 8 → J 4 c = encR (T.2 c)) : f_X10_wouldRather_48 (J, YZ) 0 (nI s) (nI c) = some (bI (gtsM (J 1) T.2 s c), (J, YZ)) := by
  rw [f_X10_wouldRather_48]
  simp only [gt_self, gd_t, lp_some, st_d, nm_d, on_none, on_some, cl_some, mI_mk, mX_mk, setI_mk, u2_row, rowS_s, rowU_s, yT0, yP0, yT1, yL1, yP1, yT2, yL2, yP2, yT3, yL3, yP5, yT4, yL4, yP6, yT5, yL5, yP7, yT6, yL6, yP8, yT7, yL7, yP9, yT8, yL8, yP17, yT9, yL9, yP18, yT10, yL10, yP19, yT11, yL11, yP22, yT12, yL12, yP24, yT13, yL13, yP25, yT14, yL14, yP26, yT15, yL15, yP27, yT16, yL16, yP28, yT17, yL17, yP29, yT18, yL18, yP30, yT19, yL19, yP31, yT20, yL20, yP32, yT21, yL21, yP33, yT22, yL22, yP34, yT23, yL23, yP35, yT24, yL24, gd_ok (ib_nI (show c < 8 by omega) (show 8 < 2 ^ 31 by decide)), nI_clamp (show c < 2 ^ 31 by omega)]
  rw [h4 c (by omega)]
  cases hg : T.2 c with
  | none => rw [if_pos (encR_neg rfl), show gtsM (J 1) T.2 s c = true by unfold gtsM; rw [hg]]; rfl
  | some g =>
    have hgl := hT2 c g hg
    rw [if_neg (encR_s rfl (by omega)), show encR (some g) = nI g from rfl, Rstrong (by omega), show gtsM (J 1) T.2 s c = decide (J 1 (8 + 3 * g) < J 1 (8 + 3 * s) ∨ (J 1 (8 + 3 * s) = J 1 (8 + 3 * g) ∧ s < g)) by unfold gtsM; rw [hg]]
    simp only [gt_self, gd_t, lp_some, st_d, nm_d, on_none, on_some, cl_some, mI_mk, mX_mk, setI_mk, u2_row, rowS_s, rowU_s, yT0, yP0, yT1, yL1, yP1, yT2, yL2, yP2, yT3, yL3, yP5, yT4, yL4, yP6, yT5, yL5, yP7, yT6, yL6, yP8, yT7, yL7, yP9, yT8, yL8, yP17, yT9, yL9, yP18, yT10, yL10, yP19, yT11, yL11, yP22, yT12, yL12, yP24, yT13, yL13, yP25, yT14, yL14, yP26, yT15, yL15, yP27, yT16, yL16, yP28, yT17, yL17, yP29, yT18, yL18, yP30, yT19, yL19, yP31, yT20, yL20, yP32, yT21, yL21, yP33, yT22, yL22, yP34, yT23, yL23, yP35, yT24, yL24]
    rw [Rstrong (by omega)]
    simp only [gt_self, gd_t, lp_some, st_d, nm_d, on_none, on_some, cl_some, mI_mk, mX_mk, setI_mk, u2_row, rowS_s, rowU_s, yT0, yP0, yT1, yL1, yP1, yT2, yL2, yP2, yT3, yL3, yP5, yT4, yL4, yP6, yT5, yL5, yP7, yT6, yL6, yP8, yT7, yL7, yP9, yT8, yL8, yP17, yT9, yL9, yP18, yT10, yL10, yP19, yT11, yL11, yP22, yT12, yL12, yP24, yT13, yL13, yP25, yT14, yL14, yP26, yT15, yL15, yP27, yT16, yL16, yP28, yT17, yL17, yP29, yT18, yL18, yP30, yT19, yL19, yP31, yT20, yL20, yP32, yT21, yL21, yP33, yT22, yL22, yP34, yT23, yL23, yP35, yT24, yL24]
    rw [Rstrong (by omega)]
    simp only [gt_self, gd_t, lp_some, st_d, nm_d, on_none, on_some, cl_some, mI_mk, mX_mk, setI_mk, u2_row, rowS_s, rowU_s, yT0, yP0, yT1, yL1, yP1, yT2, yL2, yP2, yT3, yL3, yP5, yT4, yL4, yP6, yT5, yL5, yP7, yT6, yL6, yP8, yT7, yL7, yP9, yT8, yL8, yP17, yT9, yL9, yP18, yT10, yL10, yP19, yT11, yL11, yP22, yT12, yL12, yP24, yT13, yL13, yP25, yT14, yL14, yP26, yT15, yL15, yP27, yT16, yL16, yP28, yT17, yL17, yP29, yT18, yL18, yP30, yT19, yL19, yP31, yT20, yL20, yP32, yT21, yL21, yP33, yT22, yL22, yP34, yT23, yL23, yP35, yT24, yL24]
    rw [Rstrong (by omega)]
    simp only [gt_self, gd_t, lp_some, st_d, nm_d, on_none, on_some, cl_some, mI_mk, mX_mk, setI_mk, u2_row, rowS_s, rowU_s, yT0, yP0, yT1, yL1, yP1, yT2, yL2, yP2, yT3, yL3, yP5, yT4, yL4, yP6, yT5, yL5, yP7, yT6, yL6, yP8, yT7, yL7, yP9, yT8, yL8, yP17, yT9, yL9, yP18, yT10, yL10, yP19, yT11, yL11, yP22, yT12, yL12, yP24, yT13, yL13, yP25, yT14, yL14, yP26, yT15, yL15, yP27, yT16, yL16, yP28, yT17, yL17, yP29, yT18, yL18, yP30, yT19, yL19, yP31, yT20, yL20, yP32, yT21, yL21, yP33, yT22, yL22, yP34, yT23, yL23, yP35, yT24, yL24]
    by_cases e : J 1 (8 + 3 * g) < J 1 (8 + 3 * s)
    · rw [if_pos e, decide_eq_true (Or.inl e)]; rfl
    · rw [if_neg e]
      by_cases e2 : J 1 (8 + 3 * s) = J 1 (8 + 3 * g)
      · rw [if_pos e2]
        by_cases e3 : g ≤ s
        · rw [if_pos (nI_le e3 (by omega)), decide_eq_false (fun q => q.elim e (fun q => by omega))]; rfl
        · rw [if_neg (nI_ge (by omega) (by omega)), decide_eq_true (Or.inr ⟨e2, by omega⟩)]; rfl
      · rw [if_neg e2, decide_eq_false (fun q => q.elim e (fun q => e2 q.1))]; rfl
theorem RwouldRather (hG : GN (J 1) nc ns nt) {s c : Nat} (hs : s < ns) (hc : c < nc) (hT1 : ∀ s q, T.1 s = some q → q < nc) (hT2 : ∀ c g, T.2 c = some g → g < ns) (h5 : ∀ s, s < ns → J 5 s = encR (T.1 s)) (h4 : ∀ c, c < 8 → J 4 c = encR (T.2 c)) : ∃ J', f_X10_wouldRather (J, YZ) 0 (nI s) (nI c) = some (bI (raM (J 1) nt T s c), (J', YZ)) ∧ ∀ a, a ≠ 14 → a ≠ 15 → J' a = J a := by
  have h8 := hG.2.1
  have h10 := hG.2.2.2.1
  rw [f_X10_wouldRather]
  simp only [gt_self, gd_t, lp_some, st_d, nm_d, on_none, on_some, cl_some, mI_mk, mX_mk, setI_mk, u2_row, rowS_s, rowU_s, yT0, yP0, yT1, yL1, yP1, yT2, yL2, yP2, yT3, yL3, yP5, yT4, yL4, yP6, yT5, yL5, yP7, yT6, yL6, yP8, yT7, yL7, yP9, yT8, yL8, yP17, yT9, yL9, yP18, yT10, yL10, yP19, yT11, yL11, yP22, yT12, yL12, yP24, yT13, yL13, yP25, yT14, yL14, yP26, yT15, yL15, yP27, yT16, yL16, yP28, yT17, yL17, yP29, yT18, yL18, yP30, yT19, yL19, yP31, yT20, yL20, yP32, yT21, yL21, yP33, yT22, yL22, yP34, yT23, yL23, yP35, yT24, yL24, gd_ok (ib_nI (show s < 10 by omega) (show 10 < 2 ^ 31 by decide)), nI_clamp (show s < 2 ^ 31 by omega)]
  obtain ⟨K, eK, hK⟩ := RlikesOf hG (show s < 10 by omega) (show c < 8 by omega)
  rw [eK, show likesM (J 1) nt c (homeM (J 1) s c) = LN (J 1) nt s c from rfl]
  have k1 : K 1 = J 1 := hK 1 (by decide) (by decide)
  have k4 : K 4 = J 4 := hK 4 (by decide) (by decide)
  simp only [gt_self, gd_t, lp_some, st_d, nm_d, on_none, on_some, cl_some, mI_mk, mX_mk, setI_mk, u2_row, rowS_s, rowU_s, yT0, yP0, yT1, yL1, yP1, yT2, yL2, yP2, yT3, yL3, yP5, yT4, yL4, yP6, yT5, yL5, yP7, yT6, yL6, yP8, yT7, yL7, yP9, yT8, yL8, yP17, yT9, yL9, yP18, yT10, yL10, yP19, yT11, yL11, yP22, yT12, yL12, yP24, yT13, yL13, yP25, yT14, yL14, yP26, yT15, yL15, yP27, yT16, yL16, yP28, yT17, yL17, yP29, yT18, yL18, yP30, yT19, yL19, yP31, yT20, yL20, yP32, yT21, yL21, yP33, yT22, yL22, yP34, yT23, yL23, yP35, yT24, yL24, il4 (show 4 < 1442 by decide), tn4]
  rw [h5 s hs, k1, show raM (J 1) nt T s c = (btM (T.1 s) (LN (J 1) nt s) c && gtsM (J 1) T.2 s c && decide (J 1 4 ≤ LN (J 1) nt s c)) from rfl]
  have nc0 : ∀ q, T.1 s = some q → q = c → btM (T.1 s) (LN (J 1) nt s) c = false := by
    intro q hq e
    subst e
    rw [hq]
    exact decide_eq_false (fun q => Int32.lt_irrefl q)
  by_cases e1 : encR (T.1 s) = nI c
  · rw [if_pos e1]
    cases hq : T.1 s with
    | none => rw [hq] at e1; exact absurd e1.symm (fun e => nI_pos (n := c) (by omega) (by rw [e]; decide))
    | some q =>
      rw [hq] at e1
      have hql := hT1 s q hq
      have := nc0 q hq ((nI_eq (by omega) (by omega)).mp e1)
      rw [← hq, this]
      exact ⟨K, rfl, hK⟩
  · rw [if_neg e1]
    by_cases e2 : LN (J 1) nt s c < J 1 4
    · rw [if_pos e2, decide_eq_false (Int32.not_le.mpr e2), Bool.and_false]
      exact ⟨K, rfl, hK⟩
    · rw [if_neg e2, decide_eq_true (Int32.not_lt.mp e2), Bool.and_true]
      have s48 : ∀ L : Nat → Nat → Int32, (∀ a, a ≠ 14 → a ≠ 15 → L a = J a) → f_X10_wouldRather_48 (L, YZ) 0 (nI s) (nI c) = some (bI (gtsM (J 1) T.2 s c), (L, YZ)) := fun L hL => by
        rw [R48 h10 h8 hs hc hT2 (by rw [hL 4 (by decide) (by decide)]; exact h4), hL 1 (by decide) (by decide)]
      cases hq : T.1 s with
      | none =>
        rw [if_pos (encR_neg rfl), s48 K hK]
        exact ⟨K, rfl, hK⟩
      | some q =>
        have hql := hT1 s q hq
        rw [if_neg (encR_s rfl (by omega)), show encR (some q) = nI q from rfl]
        obtain ⟨K2, eK2, hK2⟩ := RlikesOf (I := K) (by rw [k1]; exact hG) (show s < 10 by omega) (show q < 8 by omega)
        rw [eK2, k1, show likesM (J 1) nt q (homeM (J 1) s q) = LN (J 1) nt s q from rfl]
        simp only [gt_self, gd_t, lp_some, st_d, nm_d, on_none, on_some, cl_some, mI_mk, mX_mk, setI_mk, u2_row, rowS_s, rowU_s, yT0, yP0, yT1, yL1, yP1, yT2, yL2, yP2, yT3, yL3, yP5, yT4, yL4, yP6, yT5, yL5, yP7, yT6, yL6, yP8, yT7, yL7, yP9, yT8, yL8, yP17, yT9, yL9, yP18, yT10, yL10, yP19, yT11, yL11, yP22, yT12, yL12, yP24, yT13, yL13, yP25, yT14, yL14, yP26, yT15, yL15, yP27, yT16, yL16, yP28, yT17, yL17, yP29, yT18, yL18, yP30, yT19, yL19, yP31, yT20, yL20, yP32, yT21, yL21, yP33, yT22, yL22, yP34, yT23, yL23, yP35, yT24, yL24]
        have e3 : btM (some q) (LN (J 1) nt s) c = decide (LN (J 1) nt s q < LN (J 1) nt s c) := rfl
        have hK3 : ∀ a, a ≠ 14 → a ≠ 15 → K2 a = J a := fun a a1 a2 => (hK2 a a1 a2).trans (hK a a1 a2)
        rw [e3]
        by_cases e4 : LN (J 1) nt s q < LN (J 1) nt s c
        · rw [if_pos e4, s48 K2 hK3, decide_eq_true e4]
          exact ⟨K2, rfl, hK3⟩
        · rw [if_neg e4, decide_eq_false e4]
          exact ⟨K2, rfl, hK3⟩
theorem Rrather41 (hG : GN (J 1) nc ns nt) {s : Nat} (hs : s < ns) (hT1 : ∀ s q, T.1 s = some q → q < nc) (hT2 : ∀ c g, T.2 c = some g → g < ns) (h5 : ∀ s, s < ns → J 5 s = encR (T.1 s)) (h4 : ∀ c, c < 8 → J 4 c = encR (T.2 c)) (K : Mem → Nat → Int32 → Option (Int32 × Mem)) : ∀ (d c fu : Nat) (L : Nat → Nat → Int32), c + d = nc → d < fu → (∀ a, a ≠ 14 → a ≠ 15 → L a = J a) →
    ∃ L', f_X10_rather_41 K fu (L, YZ) 0 (nI s) (nI c) = (match (if awayN (J 1) s = true then none else fsM (raM (J 1) nt T s) d c) with
      | none => K (L', YZ) 0 (nI (s + 1))
      | some q => some (10 * nI s + nI q, (L', YZ))) ∧ ∀ a, a ≠ 14 → a ≠ 15 → L' a = J a := by
  have h8 := hG.2.1
  have h10 := hG.2.2.2.1
  intro d
  induction d with
  | zero =>
    intro c fu L hc hf hL
    obtain ⟨fu, rfl⟩ : ∃ m, fu = m + 1 := ⟨fu - 1, by omega⟩
    rw [f_X10_rather_41]
    simp only [gt_self, gd_t, lp_some, st_d, nm_d, on_none, on_some, cl_some, mI_mk, mX_mk, setI_mk, u2_row, rowS_s, rowU_s, yT0, yP0, yT1, yL1, yP1, yT2, yL2, yP2, yT3, yL3, yP5, yT4, yL4, yP6, yT5, yL5, yP7, yT6, yL6, yP8, yT7, yL7, yP9, yT8, yL8, yP17, yT9, yL9, yP18, yT10, yL10, yP19, yT11, yL11, yP22, yT12, yL12, yP24, yT13, yL13, yP25, yT14, yL14, yP26, yT15, yL15, yP27, yT16, yL16, yP28, yT17, yL17, yP29, yT18, yL18, yP30, yT19, yL19, yP31, yT20, yL20, yP32, yT21, yL21, yP33, yT22, yL22, yP34, yT23, yL23, yP35, yT24, yL24, il1 (show 1 < 1442 by decide), tn1]
    rw [hL 1 (by decide) (by decide), hG.1, if_pos (nI_le (show nc ≤ c by omega) (by omega)), nI_1]
    refine ⟨L, ?_, hL⟩
    by_cases e : awayN (J 1) s = true
    · rw [if_pos e]
    · rw [if_neg e]; rfl
  | succ d ih =>
    intro c fu L hc hf hL
    obtain ⟨fu, rfl⟩ : ∃ m, fu = m + 1 := ⟨fu - 1, by omega⟩
    have l1 : L 1 = J 1 := hL 1 (by decide) (by decide)
    rw [f_X10_rather_41]
    simp only [gt_self, gd_t, lp_some, st_d, nm_d, on_none, on_some, cl_some, mI_mk, mX_mk, setI_mk, u2_row, rowS_s, rowU_s, yT0, yP0, yT1, yL1, yP1, yT2, yL2, yP2, yT3, yL3, yP5, yT4, yL4, yP6, yT5, yL5, yP7, yT6, yL6, yP8, yT7, yL7, yP9, yT8, yL8, yP17, yT9, yL9, yP18, yT10, yL10, yP19, yT11, yL11, yP22, yT12, yL12, yP24, yT13, yL13, yP25, yT14, yL14, yP26, yT15, yL15, yP27, yT16, yL16, yP28, yT17, yL17, yP29, yT18, yL18, yP30, yT19, yL19, yP31, yT20, yL20, yP32, yT21, yL21, yP33, yT22, yL22, yP34, yT23, yL23, yP35, yT24, yL24, il1 (show 1 < 1442 by decide), tn1]
    rw [l1, hG.1, if_neg (nI_ge (show c < nc by omega) (by omega)), RisAway (by omega), l1]
    simp only [cl_some, ifB]
    by_cases e : awayN (J 1) s = true
    · rw [if_pos e, if_pos e, nI_1]
      exact ⟨L, rfl, hL⟩
    · rw [if_neg e, if_neg e]
      simp only [gt_self, gd_t, lp_some, st_d, nm_d, on_none, on_some, cl_some, mI_mk, mX_mk, setI_mk, u2_row, rowS_s, rowU_s, yT0, yP0, yT1, yL1, yP1, yT2, yL2, yP2, yT3, yL3, yP5, yT4, yL4, yP6, yT5, yL5, yP7, yT6, yL6, yP8, yT7, yL7, yP9, yT8, yL8, yP17, yT9, yL9, yP18, yT10, yL10, yP19, yT11, yL11, yP22, yT12, yL12, yP24, yT13, yL13, yP25, yT14, yL14, yP26, yT15, yL15, yP27, yT16, yL16, yP28, yT17, yL17, yP29, yT18, yL18, yP30, yT19, yL19, yP31, yT20, yL20, yP32, yT21, yL21, yP33, yT22, yL22, yP34, yT23, yL23, yP35, yT24, yL24]
      obtain ⟨L2, e2, hL2⟩ := RwouldRather (J := L) (by rw [l1]; exact hG) hs (show c < nc by omega) hT1 hT2 (by rw [hL 5 (by decide) (by decide)]; exact h5) (by rw [hL 4 (by decide) (by decide)]; exact h4)
      rw [e2, l1]
      simp only [cl_some, ifB]
      have hL3 : ∀ a, a ≠ 14 → a ≠ 15 → L2 a = J a := fun a a1 a2 => (hL2 a a1 a2).trans (hL a a1 a2)
      show ∃ L', _ = (match (if raM (J 1) nt T s c = true then some c else fsM (raM (J 1) nt T s) d (c + 1)) with
        | none => K (L', YZ) 0 (nI (s + 1))
        | some q => some (10 * nI s + nI q, (L', YZ))) ∧ _
      by_cases e3 : raM (J 1) nt T s c = true
      · rw [if_pos e3, if_pos e3]
        exact ⟨L2, rfl, hL3⟩
      · rw [if_neg e3, if_neg e3, nI_1]
        have ih := ih (c + 1) fu L2 (by omega) (by omega) hL3
        rw [if_neg e] at ih
        exact ih
theorem Rrather29 (hG : GN (J 1) nc ns nt) (hT1 : ∀ s q, T.1 s = some q → q < nc) (hT2 : ∀ c g, T.2 c = some g → g < ns) (h5 : ∀ s, s < ns → J 5 s = encR (T.1 s)) (h4 : ∀ c, c < 8 → J 4 c = encR (T.2 c)) : ∀ (d s fu : Nat) (L : Nat → Nat → Int32), s + d = ns → d < fu → (∀ a, a ≠ 14 → a ≠ 15 → L a = J a) →
    ∃ L', f_X10_rather_29 fu (L, YZ) 0 (nI s) = some (rlM (awayN (J 1)) nc (raM (J 1) nt T) d s, (L', YZ)) ∧ ∀ a, a ≠ 14 → a ≠ 15 → L' a = J a := by
  have h8 := hG.2.1
  have h10 := hG.2.2.2.1
  intro d
  induction d with
  | zero =>
    intro s fu L hs hf hL
    obtain ⟨fu, rfl⟩ : ∃ m, fu = m + 1 := ⟨fu - 1, by omega⟩
    rw [f_X10_rather_29]
    simp only [gt_self, gd_t, lp_some, st_d, nm_d, on_none, on_some, cl_some, mI_mk, mX_mk, setI_mk, u2_row, rowS_s, rowU_s, yT0, yP0, yT1, yL1, yP1, yT2, yL2, yP2, yT3, yL3, yP5, yT4, yL4, yP6, yT5, yL5, yP7, yT6, yL6, yP8, yT7, yL7, yP9, yT8, yL8, yP17, yT9, yL9, yP18, yT10, yL10, yP19, yT11, yL11, yP22, yT12, yL12, yP24, yT13, yL13, yP25, yT14, yL14, yP26, yT15, yL15, yP27, yT16, yL16, yP28, yT17, yL17, yP29, yT18, yL18, yP30, yT19, yL19, yP31, yT20, yL20, yP32, yT21, yL21, yP33, yT22, yL22, yP34, yT23, yL23, yP35, yT24, yL24, il2 (show 2 < 1442 by decide), tn2]
    rw [hL 1 (by decide) (by decide), hG.2.2.1, if_pos (nI_le (show ns ≤ s by omega) (by omega))]
    exact ⟨L, rfl, hL⟩
  | succ d ih =>
    intro s fu L hs hf hL
    obtain ⟨fu, rfl⟩ : ∃ m, fu = m + 1 := ⟨fu - 1, by omega⟩
    rw [f_X10_rather_29]
    simp only [gt_self, gd_t, lp_some, st_d, nm_d, on_none, on_some, cl_some, mI_mk, mX_mk, setI_mk, u2_row, rowS_s, rowU_s, yT0, yP0, yT1, yL1, yP1, yT2, yL2, yP2, yT3, yL3, yP5, yT4, yL4, yP6, yT5, yL5, yP7, yT6, yL6, yP8, yT7, yL7, yP9, yT8, yL8, yP17, yT9, yL9, yP18, yT10, yL10, yP19, yT11, yL11, yP22, yT12, yL12, yP24, yT13, yL13, yP25, yT14, yL14, yP26, yT15, yL15, yP27, yT16, yL16, yP28, yT17, yL17, yP29, yT18, yL18, yP30, yT19, yL19, yP31, yT20, yL20, yP32, yT21, yL21, yP33, yT22, yL22, yP34, yT23, yL23, yP35, yT24, yL24, il2 (show 2 < 1442 by decide), tn2]
    rw [hL 1 (by decide) (by decide), hG.2.2.1, if_neg (nI_ge (show s < ns by omega) (by omega))]
    obtain ⟨L2, e2, hL2⟩ := Rrather41 hG (show s < ns by omega) hT1 hT2 h5 h4 (f_X10_rather_29 fu) nc 0 FU L (by omega) (FU_ge (by omega)) hL
    rw [show (0 : Int32) = nI 0 from rfl, e2]
    have fin : rlM (awayN (J 1)) nc (raM (J 1) nt T) (d + 1) s = match (if awayN (J 1) s = true then none else fsM (raM (J 1) nt T s) nc 0) with
      | none => rlM (awayN (J 1)) nc (raM (J 1) nt T) d (s + 1)
      | some c => 10 * nI s + nI c := Eq.trans rfl rfl
    rw [fin]
    cases (if awayN (J 1) s = true then none else fsM (raM (J 1) nt T s) nc 0) with
    | none => exact ih (s + 1) fu L2 (by omega) (by omega) hL2
    | some q => exact ⟨L2, rfl, hL2⟩
end RathY
section RathO
variable {I : Nat → Nat → Int32} {X : Nat → Nat → Option Nat} {S : Sta} {J : Nat → Nat → Int32} {nc ns nt : Nat}
theorem XnestsTold {w : Nat} {N : Nat → Int32} (hS : LaS S) (hw : isW w) (hR : RelW I X S w N nc ns nt) (hG : GN N nc ns nt) (hr : GR N nc ns) {k n : Nat} (hk : k < 4) (hn : n ≤ 24) {cell : Nat → Int32} (hs : I (86 + 2 * k) 1 = nI n) (hc : ∀ j, j < 24 → I (87 + 2 * k) j = cell j) : ∃ I', f_X4_nestsTold (I, X, S) 73 w (86 + 2 * k) = some ((), (I', X, S)) ∧ (∀ s, s < 10 → I' 74 s = encC ((tdM N nc n cell ns).1 s)) ∧ (∀ c, c < 8 → I' 75 c = encC ((tdM N nc n cell ns).2 c)) ∧ ∀ a, a ≠ 74 → a ≠ 75 → I' a = I a := by
  have h8 := hG.2.1
  have h10 := hG.2.2.2.1
  have hlt := hw.lt
  rw [f_X4_nestsTold]
  simp only [gt_self, gd_t, lp_some, st_d, nm_d, on_none, on_some, cl_some, mI_mk, mX_mk, setI_mk, u2_row, rowS_s, rowU_s, xT0 hS, xP0_0 hS, xP0_1 hS, xP0_2 hS, xP0_3 hS, xP0_4 hS, xP0_5 hS, xP0_6 hS, xP0_7 hS, xP0_8 hS, xT73 hS, xP73_0 hS, xT74 hS, xL74 hS, xP73_1 hS, xT75 hS, xL75 hS, xP73_2 hS, xT76 hS, xL76 hS, xP73_3 hS, xT77 hS, xL77 hS, xT78 hS, xP78_0 hS, xT79 hS, xL79 hS, xT80 hS, xP80_0 hS, xP80_2 hS, xT81 hS, xL81 hS, xT82 hS, xL82 hS, xT83 hS, xL83 hS, xT84 hS, xL84 hS, xT85 hS, xL85 hS, wT hS hw, wP0 hS hw, wP2 hS hw, wP4 hS hw, wP7 hS hw, wP9 hS hw, wT1 hS hw, wL1 hS hw, wT2 hS hw, wL2 hS hw, wT3 hS hw, wL3 hS hw, wT4 hS hw, wL4 hS hw, wT5 hS hw, wL5 hS hw]
  obtain ⟨J1, e1, r1, o1⟩ := Xfill (I := I) (X := X) (S := S) (q := 74) (n := 10) (xT74 (I := I) (X := X) hS) (xL74 (I := I) (X := X) hS) (by decide) (-1000000005)
  rw [e1]
  simp only [gt_self, gd_t, lp_some, st_d, nm_d, on_none, on_some, cl_some, mI_mk, mX_mk, setI_mk, u2_row, rowS_s, rowU_s, xT0 hS, xP0_0 hS, xP0_1 hS, xP0_2 hS, xP0_3 hS, xP0_4 hS, xP0_5 hS, xP0_6 hS, xP0_7 hS, xP0_8 hS, xT73 hS, xP73_0 hS, xT74 hS, xL74 hS, xP73_1 hS, xT75 hS, xL75 hS, xP73_2 hS, xT76 hS, xL76 hS, xP73_3 hS, xT77 hS, xL77 hS, xT78 hS, xP78_0 hS, xT79 hS, xL79 hS, xT80 hS, xP80_0 hS, xP80_2 hS, xT81 hS, xL81 hS, xT82 hS, xL82 hS, xT83 hS, xL83 hS, xT84 hS, xL84 hS, xT85 hS, xL85 hS, wT hS hw, wP0 hS hw, wP2 hS hw, wP4 hS hw, wP7 hS hw, wP9 hS hw, wT1 hS hw, wL1 hS hw, wT2 hS hw, wL2 hS hw, wT3 hS hw, wL3 hS hw, wT4 hS hw, wL4 hS hw, wT5 hS hw, wL5 hS hw]
  obtain ⟨J2, e2, r2, o2⟩ := Xfill (I := J1) (X := X) (S := S) (q := 75) (n := 8) (xT75 (I := I) (X := X) hS) (xL75 (I := I) (X := X) hS) (by decide) (-1000000005)
  rw [e2]
  simp only [gt_self, gd_t, lp_some, st_d, nm_d, on_none, on_some, cl_some, mI_mk, mX_mk, setI_mk, u2_row, rowS_s, rowU_s, xT0 hS, xP0_0 hS, xP0_1 hS, xP0_2 hS, xP0_3 hS, xP0_4 hS, xP0_5 hS, xP0_6 hS, xP0_7 hS, xP0_8 hS, xT73 hS, xP73_0 hS, xT74 hS, xL74 hS, xP73_1 hS, xT75 hS, xL75 hS, xP73_2 hS, xT76 hS, xL76 hS, xP73_3 hS, xT77 hS, xL77 hS, xT78 hS, xP78_0 hS, xT79 hS, xL79 hS, xT80 hS, xP80_0 hS, xP80_2 hS, xT81 hS, xL81 hS, xT82 hS, xL82 hS, xT83 hS, xL83 hS, xT84 hS, xL84 hS, xT85 hS, xL85 hS, wT hS hw, wP0 hS hw, wP2 hS hw, wP4 hS hw, wP7 hS hw, wP9 hS hw, wT1 hS hw, wL1 hS hw, wT2 hS hw, wL2 hS hw, wT3 hS hw, wL3 hS hw, wT4 hS hw, wL4 hS hw, wT5 hS hw, wL5 hS hw]
  have o : ∀ a, a ≠ 74 → a ≠ 75 → J2 a = I a := fun a a1 a2 => (o2 a a2).trans (o1 a a1)
  obtain ⟨L, e3, z1, z2, z3⟩ := XtoldL (L := J2) hS hw hG hr hk hn (cell := cell) ns 0 FU (by omega) (FU_ge (by omega)) (hR.same h8 h10 (fun a ha => by unfold ownW at ha; rw [o a (by omega) (by omega)])) (by rw [o _ (by omega) (by omega)]; exact hs) (fun j hj => by rw [o _ (by omega) (by omega)]; exact hc j hj) (fun s hs => by rw [o2 74 (by decide)]; exact r1 s hs) (fun c hc => r2 c hc)
  rw [show (0 : Int32) = nI 0 from rfl, e3]
  exact ⟨L, rfl, z1, z2, fun a a1 a2 => (z3 a a1 a2).trans (o a a1 a2)⟩
theorem op_rather (h : Sm I X S J nc ns nt) (a : Int32) : Ok2 (f_X9_rather (I, X, S) 0 a) (f_X10_rather (J, YZ) 0 a) := by
  have hS := h.rs.la
  obtain ⟨w, hw1⟩ : ∃ w, w = 1 := ⟨1, rfl⟩
  have hw : isW w := Or.inl hw1
  have hW : Wld I X S w (J 1) nc ns nt := by subst hw1; exact h.w
  have hR := hW.r
  have hG := hW.gn
  have hr := hW.gr
  have h8 := hG.2.1
  have h10 := hG.2.2.2.1
  have hlt := hw.lt
  rw [f_X9_rather, f_X10_rather]
  simp only [gt_self, gd_t, lp_some, st_d, nm_d, on_none, on_some, cl_some, mI_mk, mX_mk, setI_mk, u2_row, rowS_s, rowU_s, xT0 hS, xP0_1 hS, xP0_2 hS, xP0_3 hS, xP0_4 hS, xP0_5 hS, xP0_6 hS, xP0_7 hS, xP0_8 hS, xT73 hS, xP73_0 hS, xT74 hS, xL74 hS, xP73_1 hS, xT75 hS, xL75 hS, xP73_2 hS, xT76 hS, xL76 hS, xP73_3 hS, xT77 hS, xL77 hS, xT78 hS, xP78_0 hS, xT79 hS, xL79 hS, xT80 hS, xP80_0 hS, xP80_2 hS, xT81 hS, xL81 hS, xT82 hS, xL82 hS, xT83 hS, xL83 hS, xT84 hS, xL84 hS, xT85 hS, xL85 hS, wT hS hw, wP0 hS hw, wP2 hS hw, wP4 hS hw, wP7 hS hw, wP9 hS hw, wT1 hS hw, wL1 hS hw, wT2 hS hw, wL2 hS hw, wT3 hS hw, wL3 hS hw, wT4 hS hw, wL4 hS hw, wT5 hS hw, wL5 hS hw, yT0, yP0, yT1, yL1, yP1, yT2, yL2, yP2, yT3, yL3, yP5, yT4, yL4, yP6, yT5, yL5, yP7, yT6, yL6, yP8, yT7, yL7, yP9, yT8, yL8, yP17, yT9, yL9, yP18, yT10, yL10, yP19, yT11, yL11, yP22, yT12, yL12, yP24, yT13, yL13, yP25, yT14, yL14, yP26, yT15, yL15, yP27, yT16, yL16, yP28, yT17, yL17, yP29, yT18, yL18, yP30, yT19, yL19, yP31, yT20, yL20, yP32, yT21, yL21, yP33, yT22, yL22, yP34, yT23, yL23, yP35, yT24, yL24, xP0_0w hS hw1, Xin_1, Xin_2, Xin_3, Xin_4, Xin_5, Xin_60, Xin_99, Xin_100, Xin_999, Rin_1, Rin_2, Rin_3, Rin_4, Rin_5, Rin_60, Rin_99, Rin_100, Rin_999, Rin1_3, Rin1_8, Rin1_30, Rin1_60, Rin1_99, XhasC hS hw hR hG, XhasS hS hw hR hG, RisC hG, RisS hG, RisW, RisSh, RisSl, ifB]
  refine Ok2.ite h (fun e1 => ?_)
  obtain ⟨k, hk, rfl⟩ := hasB_t e1 (by decide)
  rw [gd_ok (ib_nI hk (by decide)), gd_ok (ib_nI hk (by decide)), nI_clamp (by omega)]
  simp only [shP hS hk, shT hS hk, gt_self, gd_t, lp_some, st_d, nm_d, on_none, on_some, cl_some, mI_mk, mX_mk, setI_mk, u2_row, rowS_s, rowU_s]
  rw [missB hS hk]
  simp only [gt_self, gd_t, lp_some, st_d, nm_d, on_none, on_some, cl_some, mI_mk, mX_mk, setI_mk, u2_row, rowS_s, rowU_s, xT0 hS]
  refine missI (h.rs.sh k hk) _ _ _ _ Ok2 (fun _ => .mk h) (fun _ => ?_)
  obtain ⟨_, _, n, hn, i1, j17, hc⟩ := h.rs.sh k hk
  simp only [gt_self, gd_t, lp_some, st_d, nm_d, on_none, on_some, cl_some, mI_mk, mX_mk, setI_mk, u2_row, rowS_s, rowU_s, xT0 hS, xP0_1 hS, xP0_2 hS, xP0_3 hS, xP0_4 hS, xP0_5 hS, xP0_6 hS, xP0_7 hS, xP0_8 hS, xT73 hS, xP73_0 hS, xT74 hS, xL74 hS, xP73_1 hS, xT75 hS, xL75 hS, xP73_2 hS, xT76 hS, xL76 hS, xP73_3 hS, xT77 hS, xL77 hS, xT78 hS, xP78_0 hS, xT79 hS, xL79 hS, xT80 hS, xP80_0 hS, xP80_2 hS, xT81 hS, xL81 hS, xT82 hS, xL82 hS, xT83 hS, xL83 hS, xT84 hS, xL84 hS, xT85 hS, xL85 hS, wT hS hw, wP0 hS hw, wP2 hS hw, wP4 hS hw, wP7 hS hw, wP9 hS hw, wT1 hS hw, wL1 hS hw, wT2 hS hw, wL2 hS hw, wT3 hS hw, wL3 hS hw, wT4 hS hw, wL4 hS hw, wT5 hS hw, wL5 hS hw, yT0, yP0, yT1, yL1, yP1, yT2, yL2, yP2, yT3, yL3, yP5, yT4, yL4, yP6, yT5, yL5, yP7, yT6, yL6, yP8, yT7, yL7, yP9, yT8, yL8, yP17, yT9, yL9, yP18, yT10, yL10, yP19, yT11, yL11, yP22, yT12, yL12, yP24, yT13, yL13, yP25, yT14, yL14, yP26, yT15, yL15, yP27, yT16, yL16, yP28, yT17, yL17, yP29, yT18, yL18, yP30, yT19, yL19, yP31, yT20, yL20, yP32, yT21, yL21, yP33, yT22, yL22, yP34, yT23, yL23, yP35, yT24, yL24, xP0_0w hS hw1, Xin_1, Xin_2, Xin_3, Xin_4, Xin_5, Xin_60, Xin_99, Xin_100, Xin_999, Rin_1, Rin_2, Rin_3, Rin_4, Rin_5, Rin_60, Rin_99, Rin_100, Rin_999, Rin1_3, Rin1_8, Rin1_30, Rin1_60, Rin1_99, XhasC hS hw hR hG, XhasS hS hw hR hG, RisC hG, RisS hG, RisW, RisSh, RisSl, ifB]
  obtain ⟨I1, e2, hL, o1⟩ := Xlook hS hw hR hG hr
  rw [e2]
  simp only [gt_self, gd_t, lp_some, st_d, nm_d, on_none, on_some, cl_some, mI_mk, mX_mk, setI_mk, u2_row, rowS_s, rowU_s, xT0 hS, xP0_1 hS, xP0_2 hS, xP0_3 hS, xP0_4 hS, xP0_5 hS, xP0_6 hS, xP0_7 hS, xP0_8 hS, xT73 hS, xP73_0 hS, xT74 hS, xL74 hS, xP73_1 hS, xT75 hS, xL75 hS, xP73_2 hS, xT76 hS, xL76 hS, xP73_3 hS, xT77 hS, xL77 hS, xT78 hS, xP78_0 hS, xT79 hS, xL79 hS, xT80 hS, xP80_0 hS, xP80_2 hS, xT81 hS, xL81 hS, xT82 hS, xL82 hS, xT83 hS, xL83 hS, xT84 hS, xL84 hS, xT85 hS, xL85 hS, wT hS hw, wP0 hS hw, wP2 hS hw, wP4 hS hw, wP7 hS hw, wP9 hS hw, wT1 hS hw, wL1 hS hw, wT2 hS hw, wL2 hS hw, wT3 hS hw, wL3 hS hw, wT4 hS hw, wL4 hS hw, wT5 hS hw, wL5 hS hw, yT0, yP0, yT1, yL1, yP1, yT2, yL2, yP2, yT3, yL3, yP5, yT4, yL4, yP6, yT5, yL5, yP7, yT6, yL6, yP8, yT7, yL7, yP9, yT8, yL8, yP17, yT9, yL9, yP18, yT10, yL10, yP19, yT11, yL11, yP22, yT12, yL12, yP24, yT13, yL13, yP25, yT14, yL14, yP26, yT15, yL15, yP27, yT16, yL16, yP28, yT17, yL17, yP29, yT18, yL18, yP30, yT19, yL19, yP31, yT20, yL20, yP32, yT21, yL21, yP33, yT22, yL22, yP34, yT23, yL23, yP35, yT24, yL24, xP0_0w hS hw1, Xin_1, Xin_2, Xin_3, Xin_4, Xin_5, Xin_60, Xin_99, Xin_100, Xin_999, Rin_1, Rin_2, Rin_3, Rin_4, Rin_5, Rin_60, Rin_99, Rin_100, Rin_999, Rin1_3, Rin1_8, Rin1_30, Rin1_60, Rin1_99, XhasC hS hw hR hG, XhasS hS hw hR hG, RisC hG, RisS hG, RisW, RisSh, RisSl, ifB, gd_ok (ib_nI hk (show 4 < 2 ^ 31 by decide)), nI_clamp (show k < 2 ^ 31 by omega), shP hS hk, shT hS hk]
  have oo : ∀ a, a ≠ 76 → a ≠ 77 → a ≠ 6 → I1 a = I a := fun a a1 a2 a3 => o1 a a1 a2 (by omega)
  have hR1 : RelW I1 X S w (J 1) nc ns nt := hR.same h8 h10 (fun a ha => o1 a (by unfold ownW at ha; omega) (by unfold ownW at ha; omega) (by unfold ownW at ha; omega))
  obtain ⟨I2, e3, z74, z75, o2⟩ := XnestsTold hS hw hR1 hG hr hk hn (cell := fun j => J 18 (24 * k + j)) (by rw [oo _ (by omega) (by omega) (by omega)]; exact i1) (fun j hj => by rw [oo _ (by omega) (by omega) (by omega)]; exact hc j hj)
  rw [e3]
  obtain ⟨J1, e4, y5, y4, q1⟩ := RnestsBy hG hk hn (cell := fun j => J 18 (24 * k + j)) j17 (fun j hj => rfl)
  rw [e4]
  simp only [cl_some]
  have td := td_ok (J 1) (n := n) h8 (fun j => J 18 (24 * k + j)) ns
  have hR2 : RelW I2 X S w (J 1) nc ns nt := hR1.same h8 h10 (fun a ha => o2 a (by unfold ownW at ha; omega) (by unfold ownW at ha; omega))
  have hL2 : LkX I2 (J 1) nc nt := hL.same (o2 76 (by decide) (by decide)) (o2 77 (by decide) (by decide))
  have j11 : J1 1 = J 1 := q1 1 (by decide) (by decide)
  rw [show (0 : Int32) = nI 0 from rfl, XratherL hS hw1 hw hR2 hG hr hL2 (T := tdM (J 1) nc n (fun j => J 18 (24 * k + j)) ns) (fun s q hq => (td.1 s q hq).1) td.2 z74 z75 ns 0 FU (by omega) (FU_ge (by omega))]
  obtain ⟨J2, e5, q2⟩ := Rrather29 (J := J1) (nc := nc) (ns := ns) (nt := nt) (by rw [j11]; exact hG) (T := tdM (J 1) nc n (fun j => J 18 (24 * k + j)) ns) (fun s q hq => (td.1 s q hq).1) td.2 y5 y4 ns 0 FU J1 (by omega) (FU_ge (by omega)) (fun _ _ _ => rfl)
  rw [e5, j11]
  exact .mk (h.same (fun a ha => by
    rw [o2 a (by unfold ownX ownW at ha; omega) (by unfold ownX ownW at ha; omega), oo a (by unfold ownX ownW at ha; omega) (by unfold ownX ownW at ha; omega) (by unfold ownX ownW at ha; omega)]) (fun a ha => by
    rw [q2 a (by unfold ownY at ha; omega) (by unfold ownY at ha; omega), q1 a (by unfold ownY at ha; omega) (by unfold ownY at ha; omega)]))
end RathO
