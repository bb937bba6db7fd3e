/-! rather: nests as a sheet tells them, in the reference -/
section RathR
variable {J : Nat → Nat → Int32} {nc ns nt : Nat}
theorem R89_0 (K : Mem → Nat → Int32 → Int32 → Option (Unit × Mem)) {k i : Nat} (hi : i < 10) (c : Int32) : f_X10_nestsBy_89 K (J, YZ) 0 (nI k) (nI i) c 0 = K (rowS J 5 (rowU (J 5) i (-1)), YZ) 0 (nI k) (nI (i + 1)) := by
  rw [f_X10_nestsBy_89]
  simp only [gt_self, gd_t, lp_some, st_d, nm_d, on_none, on_some, cl_some, mI_mk, mX_mk, setI_mk, u2_row, rowS_s, rowU_s, yT0, yP0, yT1, yL1, yP1, yT2, yL2, yP2, yT3, yL3, yP5, yT4, yL4, yP6, yT5, yL5, yP7, yT6, yL6, yP8, yT7, yL7, yP9, yT8, yL8, yP17, yT9, yL9, yP18, yT10, yL10, yP19, yT11, yL11, yP22, yT12, yL12, yP24, yT13, yL13, yP25, yT14, yL14, yP26, yT15, yL15, yP27, yT16, yL16, yP28, yT17, yL17, yP29, yT18, yL18, yP30, yT19, yL19, yP31, yT20, yL20, yP32, yT21, yL21, yP33, yT22, yL22, yP34, yT23, yL23, yP35, yT24, yL24, f_X10_nestsBy_106, if_true, gd_ok (ib_nI hi (show 10 < 2 ^ 31 by decide)), nI_clamp (show i < 2 ^ 31 by omega), nI_1]
theorem R89_1 (K : Mem → Nat → Int32 → Int32 → Option (Unit × Mem)) {k i c : Nat} (hi : i < 10) (hc : c < 8) : f_X10_nestsBy_89 K (J, YZ) 0 (nI k) (nI i) (nI c) 1 = K (rowS (rowS J 5 (rowU (J 5) i (nI c))) 4 (rowU (J 4) c (nI i)), YZ) 0 (nI k) (nI (i + 1)) := by
  rw [f_X10_nestsBy_89]
  simp only [gt_self, gd_t, lp_some, st_d, nm_d, on_none, on_some, cl_some, mI_mk, mX_mk, setI_mk, u2_row, rowS_s, rowU_s, yT0, yP0, yT1, yL1, yP1, yT2, yL2, yP2, yT3, yL3, yP5, yT4, yL4, yP6, yT5, yL5, yP7, yT6, yL6, yP8, yT7, yL7, yP9, yT8, yL8, yP17, yT9, yL9, yP18, yT10, yL10, yP19, yT11, yL11, yP22, yT12, yL12, yP24, yT13, yL13, yP25, yT14, yL14, yP26, yT15, yL15, yP27, yT16, yL16, yP28, yT17, yL17, yP29, yT18, yL18, yP30, yT19, yL19, yP31, yT20, yL20, yP32, yT21, yL21, yP33, yT22, yL22, yP34, yT23, yL23, yP35, yT24, yL24, f_X10_nestsBy_106, if_neg one_ne, gd_ok (ib_nI hi (show 10 < 2 ^ 31 by decide)), nI_clamp (show i < 2 ^ 31 by omega), gd_ok (ib_nI hc (show 8 < 2 ^ 31 by decide)), nI_clamp (show c < 2 ^ 31 by omega), nI_1, rowS_n (show (4 : Nat) ≠ 5 by decide)]
theorem RtoldL {N : Nat → Int32} (hG : GN N nc ns nt) {k n : Nat} (hk : k < 4) (hn : n ≤ 24) {cell : Nat → Int32} : ∀ (d i fu : Nat) (K : Nat → Nat → Int32), i + d = ns → d < fu → K 1 = N → K 17 k = nI n → (∀ j, j < 24 → K 18 (24 * k + j) = cell j) → (∀ s, s < i → K 5 s = encR ((tdM N nc n cell i).1 s)) → (∀ c, c < 8 → K 4 c = encR ((tdM N nc n cell i).2 c)) →
    ∃ K', f_X10_nestsBy_23 fu (K, YZ) 0 (nI k) (nI i) = some ((), (K', YZ)) ∧ (∀ s, s < ns → K' 5 s = encR ((tdM N nc n cell ns).1 s)) ∧ (∀ c, c < 8 → K' 4 c = encR ((tdM N nc n cell ns).2 c)) ∧ ∀ a, a ≠ 4 → a ≠ 5 → K' a = K a := by
  have h8 := hG.2.1
  have h10 := hG.2.2.2.1
  intro d
  induction d with
  | zero =>
    intro i fu K hi hf k1 k17 k18 k5 k4
    obtain ⟨fu, rfl⟩ : ∃ m, fu = m + 1 := ⟨fu - 1, by omega⟩
    have hi : i = ns := by omega
    subst hi
    rw [f_X10_nestsBy_23]
    simp only [gt_self, gd_t, lp_some, st_d, nm_d, on_none, on_some, cl_some, mI_mk, mX_mk, setI_mk, u2_row, rowS_s, rowU_s, yT0, yP0, yT1, yL1, yP1, yT2, yL2, yP2, yT3, yL3, yP5, yT4, yL4, yP6, yT5, yL5, yP7, yT6, yL6, yP8, yT7, yL7, yP9, yT8, yL8, yP17, yT9, yL9, yP18, yT10, yL10, yP19, yT11, yL11, yP22, yT12, yL12, yP24, yT13, yL13, yP25, yT14, yL14, yP26, yT15, yL15, yP27, yT16, yL16, yP28, yT17, yL17, yP29, yT18, yL18, yP30, yT19, yL19, yP31, yT20, yL20, yP32, yT21, yL21, yP33, yT22, yL22, yP34, yT23, yL23, yP35, yT24, yL24, il2 (show 2 < 1442 by decide), tn2]
    rw [k1, hG.2.2.1, if_pos (nI_le (Nat.le_refl i) (by omega))]
    exact ⟨K, rfl, k5, k4, fun _ _ _ => rfl⟩
  | succ d ih =>
    intro i fu K hi hf k1 k17 k18 k5 k4
    obtain ⟨fu, rfl⟩ : ∃ m, fu = m + 1 := ⟨fu - 1, by omega⟩
    rw [f_X10_nestsBy_23]
    simp only [gt_self, gd_t, lp_some, st_d, nm_d, on_none, on_some, cl_some, mI_mk, mX_mk, setI_mk, u2_row, rowS_s, rowU_s, yT0, yP0, yT1, yL1, yP1, yT2, yL2, yP2, yT3, yL3, yP5, yT4, yL4, yP6, yT5, yL5, yP7, yT6, yL6, yP8, yT7, yL7, yP9, yT8, yL8, yP17, yT9, yL9, yP18, yT10, yL10, yP19, yT11, yL11, yP22, yT12, yL12, yP24, yT13, yL13, yP25, yT14, yL14, yP26, yT15, yL15, yP27, yT16, yL16, yP28, yT17, yL17, yP29, yT18, yL18, yP30, yT19, yL19, yP31, yT20, yL20, yP32, yT21, yL21, yP33, yT22, yL22, yP34, yT23, yL23, yP35, yT24, yL24, il2 (show 2 < 1442 by decide), tn2, ix24]
    rw [k1, hG.2.2.1, if_neg (nI_ge (show i < ns by omega) (by omega)), gd_ok (ib_nI hk (by decide)), nI_clamp (show k < 2 ^ 31 by omega), k17]
    have no : ((tdM N nc n cell (i + 1)) = tdM N nc n cell i) → ∀ c, ∃ K', f_X10_nestsBy_89 (f_X10_nestsBy_23 fu) (K, YZ) 0 (nI k) (nI i) c 0 = some ((), (K', YZ)) ∧ (∀ s, s < ns → K' 5 s = encR ((tdM N nc n cell ns).1 s)) ∧ (∀ c, c < 8 → K' 4 c = encR ((tdM N nc n cell ns).2 c)) ∧ ∀ a, a ≠ 4 → a ≠ 5 → K' a = K a := by
      intro e c
      rw [R89_0 _ (by omega)]
      obtain ⟨K', e1, z1, z2, z3⟩ := ih (i + 1) fu (rowS K 5 (rowU (K 5) i (-1))) (by omega) (by omega) (by rw [rowS_n (by decide)]; exact k1) (by rw [rowS_n (by decide)]; exact k17) (fun j hj => by rw [rowS_n (by decide)]; exact k18 j hj) (fun s hs => by
        rw [rowS_s, e]
        by_cases q : s = i
        · rw [q, rowU_s]
          cases hq : (tdM N nc n cell i).1 i with
          | none => rfl
          | some c => have := (td_ok N (n := n) h8 cell i).1 i c hq; omega
        · rw [rowU_n q]; exact k5 s (by omega)) (fun c hc => by rw [rowS_n (by decide), e]; exact k4 c hc)
      exact ⟨K', e1, z1, z2, fun a a1 a2 => by rw [z3 a a1 a2, rowS_n a2]⟩
    by_cases e : n ≤ i
    · rw [if_pos (nI_le e (by omega)), f_X10_nestsBy_58]
      simp only [gt_self, gd_t, lp_some, st_d, nm_d, on_none, on_some, cl_some, mI_mk, mX_mk, setI_mk, u2_row, rowS_s, rowU_s, yT0, yP0, yT1, yL1, yP1, yT2, yL2, yP2, yT3, yL3, yP5, yT4, yL4, yP6, yT5, yL5, yP7, yT6, yL6, yP8, yT7, yL7, yP9, yT8, yL8, yP17, yT9, yL9, yP18, yT10, yL10, yP19, yT11, yL11, yP22, yT12, yL12, yP24, yT13, yL13, yP25, yT14, yL14, yP26, yT15, yL15, yP27, yT16, yL16, yP28, yT17, yL17, yP29, yT18, yL18, yP30, yT19, yL19, yP31, yT20, yL20, yP32, yT21, yL21, yP33, yT22, yL22, yP34, yT23, yL23, yP35, yT24, yL24]
      rw [RisC (by rw [k1]; exact hG), show hasB (-1) nc = false from decide_eq_false (fun q => absurd q.1 (by decide))]
      simp only [cl_some]
      rw [if_pos (show bI false = 0 from rfl)]
      exact no (by rw [tdM_s, if_neg (fun q => by omega)]) _
    rw [if_neg (nI_ge (show i < n by omega) (by omega)), gd_ok (ib_nI (show 24 * k + i < 96 by omega) (by decide)), nI_clamp (show 24 * k + i < 2 ^ 31 by omega), k18 i (by omega), f_X10_nestsBy_58]
    simp only [gt_self, gd_t, lp_some, st_d, nm_d, on_none, on_some, cl_some, mI_mk, mX_mk, setI_mk, u2_row, rowS_s, rowU_s, yT0, yP0, yT1, yL1, yP1, yT2, yL2, yP2, yT3, yL3, yP5, yT4, yL4, yP6, yT5, yL5, yP7, yT6, yL6, yP8, yT7, yL7, yP9, yT8, yL8, yP17, yT9, yL9, yP18, yT10, yL10, yP19, yT11, yL11, yP22, yT12, yL12, yP24, yT13, yL13, yP25, yT14, yL14, yP26, yT15, yL15, yP27, yT16, yL16, yP28, yT17, yL17, yP29, yT18, yL18, yP30, yT19, yL19, yP31, yT20, yL20, yP32, yT21, yL21, yP33, yT22, yL22, yP34, yT23, yL23, yP35, yT24, yL24]
    rw [RisC (by rw [k1]; exact hG)]
    simp only [cl_some, ifB]
    by_cases e2 : hasB (cell i) nc = true
    · rw [if_pos e2]
      obtain ⟨c, hcc, ec⟩ := hasB_t e2 (by omega)
      simp only [gt_self, gd_t, lp_some, st_d, nm_d, on_none, on_some, cl_some, mI_mk, mX_mk, setI_mk, u2_row, rowS_s, rowU_s, yT0, yP0, yT1, yL1, yP1, yT2, yL2, yP2, yT3, yL3, yP5, yT4, yL4, yP6, yT5, yL5, yP7, yT6, yL6, yP8, yT7, yL7, yP9, yT8, yL8, yP17, yT9, yL9, yP18, yT10, yL10, yP19, yT11, yL11, yP22, yT12, yL12, yP24, yT13, yL13, yP25, yT14, yL14, yP26, yT15, yL15, yP27, yT16, yL16, yP28, yT17, yL17, yP29, yT18, yL18, yP30, yT19, yL19, yP31, yT20, yL20, yP32, yT21, yL21, yP33, yT22, yL22, yP34, yT23, yL23, yP35, yT24, yL24]
      rw [RisAway (by omega), k1]
      simp only [cl_some]
      cases ha : awayN N i with
      | true =>
        rw [show bI true = 1 from rfl, if_neg one_ne]
        exact no (by rw [tdM_s, if_neg (fun q => by rw [ha] at q; exact nomatch q.2.2.1)]) _
      | false =>
        rw [show bI false = 0 from rfl, if_pos rfl]
        simp only [gt_self, gd_t, lp_some, st_d, nm_d, on_none, on_some, cl_some, mI_mk, mX_mk, setI_mk, u2_row, rowS_s, rowU_s, yT0, yP0, yT1, yL1, yP1, yT2, yL2, yP2, yT3, yL3, yP5, yT4, yL4, yP6, yT5, yL5, yP7, yT6, yL6, yP8, yT7, yL7, yP9, yT8, yL8, yP17, yT9, yL9, yP18, yT10, yL10, yP19, yT11, yL11, yP22, yT12, yL12, yP24, yT13, yL13, yP25, yT14, yL14, yP26, yT15, yL15, yP27, yT16, yL16, yP28, yT17, yL17, yP29, yT18, yL18, yP30, yT19, yL19, yP31, yT20, yL20, yP32, yT21, yL21, yP33, yT22, yL22, yP34, yT23, yL23, yP35, yT24, yL24]
        rw [ec] at e2 ⊢
        rw [gd_ok (ib_nI (by omega) (by decide)), nI_clamp (by omega), k4 c (by omega)]
        cases hg : (tdM N nc n cell i).2 c with
        | some g =>
          rw [if_pos (encR_pos rfl (by have := (td_ok N (n := n) h8 cell i).2 c g hg; omega))]
          exact no (by rw [tdM_s, if_neg (fun q => by rw [ec, nI_clamp (by omega), hg] at q; exact nomatch q.2.2.2)]) _
        | none =>
          rw [if_neg (encR_n rfl), R89_1 _ (by omega) (by omega)]
          have td : tdM N nc n cell (i + 1) = (fun s => if s = i then some c else (tdM N nc n cell i).1 s, fun x => if x = c then some i else (tdM N nc n cell i).2 x) := by
            rw [tdM_s, ec, nI_clamp (by omega), if_pos ⟨by omega, e2, ha, hg⟩]
          obtain ⟨K', e1, z1, z2, z3⟩ := ih (i + 1) fu (rowS (rowS K 5 (rowU (K 5) i (nI c))) 4 (rowU (K 4) c (nI i))) (by omega) (by omega) (by rw [rowS_n (by decide), rowS_n (by decide)]; exact k1) (by rw [rowS_n (by decide), rowS_n (by decide)]; exact k17) (fun j hj => by rw [rowS_n (by decide), rowS_n (by decide)]; exact k18 j hj) (fun s hs => by
            rw [rowS_n (by decide), rowS_s, td]
            dsimp only
            by_cases q : s = i
            · rw [q, rowU_s, if_pos rfl]; rfl
            · rw [rowU_n q, if_neg q]; exact k5 s (by omega)) (fun x hx => by
            rw [rowS_s, td]
            dsimp only
            by_cases q : x = c
            · rw [q, rowU_s, if_pos rfl]; rfl
            · rw [rowU_n q, if_neg q]; exact k4 x hx)
          exact ⟨K', e1, z1, z2, fun a a1 a2 => by rw [z3 a a1 a2, rowS_n a1, rowS_n a2]⟩
    · rw [if_neg e2]
      exact no (by rw [tdM_s, if_neg (fun q => e2 q.2.1)]) _
theorem Rby0 {k : Nat} : ∀ (d i fu : Nat) (K : Nat → Nat → Int32), i + d = 8 → d < fu → (∀ c, c < i → K 4 c = -1) →
    ∃ K', f_X10_nestsBy_2 fu (K, YZ) 0 (nI k) (nI i) = f_X10_nestsBy_23 FU (K', YZ) 0 (nI k) 0 ∧ (∀ c, c < 8 → K' 4 c = -1) ∧ ∀ a, a ≠ 4 → K' a = K a := by
  intro d
  induction d with
  | zero =>
    intro i fu K hi hf h
    obtain ⟨fu, rfl⟩ : ∃ m, fu = m + 1 := ⟨fu - 1, by omega⟩
    have hi : i = 8 := by omega
    subst hi
    rw [f_X10_nestsBy_2, if_pos (show (8 : Int32) ≤ nI 8 by decide)]
    exact ⟨K, rfl, h, fun _ _ => rfl⟩
  | succ d ih =>
    intro i fu K hi hf h
    obtain ⟨fu, rfl⟩ : ∃ m, fu = m + 1 := ⟨fu - 1, by omega⟩
    rw [f_X10_nestsBy_2, if_neg (show ¬ (8 : Int32) ≤ nI i from nI_ge (b := 8) (by omega) (by decide))]
    simp only [gt_self, gd_t, lp_some, st_d, nm_d, on_none, on_some, cl_some, mI_mk, mX_mk, setI_mk, u2_row, rowS_s, rowU_s, yT0, yP0, yT1, yL1, yP1, yT2, yL2, yP2, yT3, yL3, yP5, yT4, yL4, yP6, yT5, yL5, yP7, yT6, yL6, yP8, yT7, yL7, yP9, yT8, yL8, yP17, yT9, yL9, yP18, yT10, yL10, yP19, yT11, yL11, yP22, yT12, yL12, yP24, yT13, yL13, yP25, yT14, yL14, yP26, yT15, yL15, yP27, yT16, yL16, yP28, yT17, yL17, yP29, yT18, yL18, yP30, yT19, yL19, yP31, yT20, yL20, yP32, yT21, yL21, yP33, yT22, yL22, yP34, yT23, yL23, yP35, yT24, yL24]
    rw [gd_ok (ib_nI (by omega) (by decide)), nI_clamp (by omega), nI_1]
    obtain ⟨K', e, z, o⟩ := ih (i + 1) fu (rowS K 4 (rowU (K 4) i (-1))) (by omega) (by omega) (fun c hc => by
      rw [rowS_s]
      by_cases q : c = i
      · rw [q, rowU_s]
      · rw [rowU_n q]; exact h c (by omega))
    exact ⟨K', e, z, fun a ha => by rw [o a ha, rowS_n ha]⟩
theorem RnestsBy (hG : GN (J 1) nc ns nt) {k n : Nat} (hk : k < 4) (hn : n ≤ 24) {cell : Nat → Int32} (j17 : J 17 k = nI n) (hc : ∀ j, j < 24 → J 18 (24 * k + j) = cell j) : ∃ K', f_X10_nestsBy (J, YZ) 0 (nI k) = some ((), (K', YZ)) ∧ (∀ s, s < ns → K' 5 s = encR ((tdM (J 1) nc n cell ns).1 s)) ∧ (∀ c, c < 8 → K' 4 c = encR ((tdM (J 1) nc n cell ns).2 c)) ∧ ∀ a, a ≠ 4 → a ≠ 5 → K' a = J a := by
  rw [f_X10_nestsBy]
  obtain ⟨K1, e1, z1, o1⟩ := Rby0 (k := k) 8 0 FU J (by omega) (FU_ge (by omega)) (fun c hc => absurd hc (by omega))
  obtain ⟨K2, e2, z2, z3, o2⟩ := RtoldL hG hk hn (cell := cell) ns 0 FU K1 (by omega) (FU_ge (by have := hG.2.2.2.1; omega)) (o1 1 (by decide)) (by rw [o1 17 (by decide)]; exact j17) (fun j hj => by rw [o1 18 (by decide)]; exact hc j hj) (fun s hs => absurd hs (by omega)) (fun c hc => z1 c hc)
  rw [show (0 : Int32) = nI 0 from rfl] at e1 ⊢
  rw [e1, e2]
  exact ⟨K2, rfl, z2, z3, fun a a1 a2 => (o2 a a1 a2).trans (o1 a a1)⟩
end RathR
