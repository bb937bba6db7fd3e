/-! THE REFERENCE: years -/
theorem fatesM_s (nest : Nat → Option Nat) (Q : (Nat → Int32) × Nat) (s : Nat) : fatesM nest Q (s + 1) = fareM nest s (fatesM nest Q s) := Eq.trans rfl rfl
theorem yearsM_s (nc nt : Nat) (Q : (Nat → Int32) × Nat) (k : Nat) : yearsM nc nt Q (k + 1) = yearM (yearsM nc nt Q k).1 nc (yearsM nc nt Q k).2 nt := Eq.trans rfl rfl
/-- what a year leaves as it is -/
def keepJ (j : Nat) : Prop := j = 1 ∨ j = 3 ∨ j = 4 ∨ j = 5 ∨ j = 6 ∨ j = 7 ∨ 38 ≤ j
def FI (N0 : Nat → Int32) (q0 : Nat) (Q : (Nat → Int32) × Nat) : Prop := Q.1 2 = nI Q.2 ∧ Q.2 ≤ 10 ∧ q0 ≤ Q.2 ∧ ∀ j, keepJ j → Q.1 j = N0 j
theorem keep_ne {j s w : Nat} (h : keepJ j) (hs : s < 10) (hw : w < 3) : j ≠ 8 + 3 * s + w := by unfold keepJ at h; omega
theorem keep_ne0 {j : Nat} (h : keepJ j) : j ≠ 0 := by unfold keepJ at h; omega
theorem keep_ne2 {j : Nat} (h : keepJ j) : j ≠ 2 := by unfold keepJ at h; omega
theorem keep_n8 {j s : Nat} (h : keepJ j) (hs : s < 10) : j ≠ 8 + 3 * s := by unfold keepJ at h; omega
theorem fare_FI {N0 : Nat → Int32} {q0 s : Nat} {nest : Nat → Option Nat} {Q : (Nat → Int32) × Nat} (h : FI N0 q0 Q) (hs : s < 10) : FI N0 q0 (fareM nest s Q) := by
  obtain ⟨h2, h10, hq, hk⟩ := h
  unfold fareM
  by_cases ha : awayN Q.1 s = true
  · rw [if_pos ha]; exact ⟨h2, h10, hq, hk⟩
  rw [if_neg ha]
  dsimp only
  cases hn : nest s with
  | none =>
    refine ⟨?_, h10, hq, fun j hj => ?_⟩
    · show rowU (rowU Q.1 0 _) (8 + 3 * s + 2) _ 2 = nI Q.2
      rw [rowU_n (by omega), rowU_n (by decide)]; exact h2
    · show rowU (rowU Q.1 0 _) (8 + 3 * s + 2) _ j = N0 j
      rw [rowU_n (keep_ne hj hs (by decide)), rowU_n (keep_ne0 hj)]; exact hk j hj
  | some c =>
    have base : FI N0 q0 (rowU Q.1 0 (zM (Q.1 0)), Q.2) := ⟨(rowU_n (r := Q.1) (j := 0) (b := 2) (v := zM (Q.1 0)) (by decide)).trans h2, h10, hq, fun j hj => (rowU_n (r := Q.1) (v := zM (Q.1 0)) (keep_ne0 hj)).trans (hk j hj)⟩
    dsimp only
    by_cases h1 : Q.1 5 ≤ irm (dM (zM (Q.1 0))) 100
    · rw [if_pos h1]; exact base
    rw [if_neg h1]
    by_cases h3 : 10 ≤ Q.2
    · rw [if_pos h3]; exact base
    rw [if_neg h3]
    refine ⟨?_, by show Q.2 + 1 ≤ 10; omega, by show q0 ≤ Q.2 + 1; omega, fun j hj => ?_⟩
    · simp [rowU]
    · show rowU (rowU (rowU (rowU (rowU (rowU Q.1 0 _) 0 _) (8 + 3 * Q.2) _) (8 + 3 * Q.2 + 1) _) (8 + 3 * Q.2 + 2) _) 2 _ j = N0 j
      rw [rowU_n (keep_ne2 hj), rowU_n (keep_ne hj (show Q.2 < 10 by omega) (by decide)), rowU_n (keep_ne hj (show Q.2 < 10 by omega) (by decide)), rowU_n (keep_n8 hj (show Q.2 < 10 by omega)), rowU_n (keep_ne0 hj), rowU_n (keep_ne0 hj)]
      exact hk j hj
theorem fates_FI {N0 : Nat → Int32} {q0 : Nat} {nest : Nat → Option Nat} {Q : (Nat → Int32) × Nat} (h : FI N0 q0 Q) : ∀ s, s ≤ 10 → FI N0 q0 (fatesM nest Q s)
  | 0, _ => h
  | s + 1, hs => by rw [fatesM_s]; exact fare_FI (fates_FI h s (by omega)) (by omega)
theorem RyearLoop {I : Nat → Nat → Int32} {N : Nat → Int32} {ns : Nat} {nest : Nat → Option Nat} (h2 : N 2 = nI ns) (h10 : ns ≤ 10) (hn : ∀ s, s < 10 → I 5 s = encR (nest s)) (hnl : ∀ s c, nest s = some c → c < 8) :
    ∀ (d s fu : Nat) (J : Nat → Nat → Int32), s + d = ns → d < fu → J 1 = (fatesM nest (N, ns) s).1 → (∀ a, a ≠ 1 → J a = I a) →
    ∃ J', f_X10_year_15 fu (J, YZ) 0 (nI ns) (nI ((fatesM nest (N, ns) s).2 - ns)) (nI s) = some (nI ((fatesM nest (N, ns) ns).2 - ns), (J', YZ)) ∧ J' 1 = rowU (fatesM nest (N, ns) ns).1 3 ((fatesM nest (N, ns) ns).1 3 + 1) ∧ ∀ a, a ≠ 1 → J' a = I a := by
  intro d
  induction d with
  | zero =>
    intro s fu J hs hf h1 hJ
    obtain ⟨fu, rfl⟩ : ∃ m, fu = m + 1 := ⟨fu - 1, by omega⟩
    have hs : s = ns := by omega
    subst hs
    rw [f_X10_year_15, if_pos (nI_le (Nat.le_refl _) (by omega))]
    simp only [gt_self, gd_t, lp_some, st_d, nm_d, on_none, on_some, cl_some, mI_mk, mX_mk, setI_mk, u2_row, rowS_s, rowU_s, yT0, yP0, yT1, yL1, yP1, yT2, yL2, yP2, yT3, yL3, yP5, yT4, yL4, yP6, yT5, yL5, yP7, yT6, yL6, yP8, yT7, yL7, yP9, yT8, yL8, yP17, yT9, yL9, yP18, yT10, yL10, yP19, yT11, yL11, yP22, yT12, yL12, yP24, yT13, yL13, yP25, yT14, yL14, yP26, yT15, yL15, yP27, yT16, yL16, yP28, yT17, yL17, yP29, yT18, yL18, yP30, yT19, yL19, yP31, yT20, yL20, yP32, yT21, yL21, yP33, yT22, yL22, yP34, yT23, yL23, yP35, yT24, yL24, il3 (show 3 < 1442 by decide), tn3]
    refine ⟨_, rfl, ?_, fun a ha => ?_⟩
    · rw [rowS_s, h1]
    · rw [rowS_n ha]; exact hJ a ha
  | succ d ih =>
    intro s fu J hs hf h1 hJ
    obtain ⟨fu, rfl⟩ : ∃ m, fu = m + 1 := ⟨fu - 1, by omega⟩
    have hF : FI N ns (fatesM nest (N, ns) s) := fates_FI ⟨h2, h10, Nat.le_refl _, fun _ _ => rfl⟩ s (by omega)
    have ih := fun J' => ih (s + 1) fu J' (by omega) (by omega)
    rw [fatesM_s] at ih
    rw [f_X10_year_15, if_neg (nI_ge (by omega) (by omega))]
    simp only [gt_self, gd_t, lp_some, st_d, nm_d, on_none, on_some, cl_some, mI_mk, mX_mk, setI_mk, u2_row, rowS_s, rowU_s, yT0, yP0, yT1, yL1, yP1, yT2, yL2, yP2, yT3, yL3, yP5, yT4, yL4, yP6, yT5, yL5, yP7, yT6, yL6, yP8, yT7, yL7, yP9, yT8, yL8, yP17, yT9, yL9, yP18, yT10, yL10, yP19, yT11, yL11, yP22, yT12, yL12, yP24, yT13, yL13, yP25, yT14, yL14, yP26, yT15, yL15, yP27, yT16, yL16, yP28, yT17, yL17, yP29, yT18, yL18, yP30, yT19, yL19, yP31, yT20, yL20, yP32, yT21, yL21, yP33, yT22, yL22, yP34, yT23, yL23, yP35, yT24, yL24]
    rw [RisAway (by omega), h1]
    simp only [gt_self, gd_t, lp_some, st_d, nm_d, on_none, on_some, cl_some, mI_mk, mX_mk, setI_mk, u2_row, rowS_s, rowU_s, yT0, yP0, yT1, yL1, yP1, yT2, yL2, yP2, yT3, yL3, yP5, yT4, yL4, yP6, yT5, yL5, yP7, yT6, yL6, yP8, yT7, yL7, yP9, yT8, yL8, yP17, yT9, yL9, yP18, yT10, yL10, yP19, yT11, yL11, yP22, yT12, yL12, yP24, yT13, yL13, yP25, yT14, yL14, yP26, yT15, yL15, yP27, yT16, yL16, yP28, yT17, yL17, yP29, yT18, yL18, yP30, yT19, yL19, yP31, yT20, yL20, yP32, yT21, yL21, yP33, yT22, yL22, yP34, yT23, yL23, yP35, yT24, yL24]
    generalize fatesM nest (N, ns) s = Q at hF ih h1 ⊢
    obtain ⟨q2, q10, qn, qk⟩ := hF
    have e5 : J 5 = I 5 := hJ 5 (by decide)
    cases ha : awayN Q.1 s with
    | true =>
      rw [if_neg (by decide), nI_1]
      have hfar : fareM nest s Q = Q := by unfold fareM; rw [if_pos ha]
      rw [hfar] at ih
      exact ih J h1 hJ
    | false =>
      rw [if_pos (by decide), Rdraw, h1]
      simp only [gt_self, gd_t, lp_some, st_d, nm_d, on_none, on_some, cl_some, mI_mk, mX_mk, setI_mk, u2_row, rowS_s, rowU_s, yT0, yP0, yT1, yL1, yP1, yT2, yL2, yP2, yT3, yL3, yP5, yT4, yL4, yP6, yT5, yL5, yP7, yT6, yL6, yP8, yT7, yL7, yP9, yT8, yL8, yP17, yT9, yL9, yP18, yT10, yL10, yP19, yT11, yL11, yP22, yT12, yL12, yP24, yT13, yL13, yP25, yT14, yL14, yP26, yT15, yL15, yP27, yT16, yL16, yP28, yT17, yL17, yP29, yT18, yL18, yP30, yT19, yL19, yP31, yT20, yL20, yP32, yT21, yL21, yP33, yT22, yL22, yP34, yT23, yL23, yP35, yT24, yL24]
      rw [gd_ok (ib_nI (by omega) (by decide)), nI_clamp (by omega), rowS_n (show (5 : Nat) ≠ 1 by decide), e5, hn s (by omega)]
      simp only [il5 (show 5 < 1442 by decide), il6 (show 6 < 1442 by decide), il2 (show 2 < 1442 by decide), tn5, tn6, tn2, gd_t, rowU_n (show (5 : Nat) ≠ 0 by decide), rowU_n (show (6 : Nat) ≠ 0 by decide), rowU_n (show (2 : Nat) ≠ 0 by decide), ix8_2, nI_1]
      cases hnn : nest s with
      | none =>
        rw [if_neg (encR_n rfl)]
        have fin : ∀ v : Int32, (if Q.1 6 ≤ irm (dM (zM (Q.1 0))) 100 then (0 : Int32) else 1) = v → ∃ J', f_X10_year_78 (f_X10_year_15 fu) (rowS J 1 (rowU Q.1 0 (zM (Q.1 0))), YZ) 0 (nI ns) (nI (Q.2 - ns)) (nI s) 1 (nI (8 + 3 * s + 2)) v = some (nI ((fatesM nest (N, ns) ns).2 - ns), (J', YZ)) ∧ J' 1 = rowU (fatesM nest (N, ns) ns).1 3 ((fatesM nest (N, ns) ns).1 3 + 1) ∧ ∀ a, a ≠ 1 → J' a = I a := by
          intro v hv
          have hfar : fareM nest s Q = (rowU (rowU Q.1 0 (zM (Q.1 0))) (8 + 3 * s + 2) v, Q.2) := by
            unfold fareM
            rw [if_neg (by rw [ha]; exact Bool.false_ne_true)]
            simp only [hnn, hv]
          rw [hfar] at ih
          rw [f_X10_year_78]
          simp only [gt_self, gd_t, lp_some, st_d, nm_d, on_none, on_some, cl_some, mI_mk, mX_mk, setI_mk, u2_row, rowS_s, rowU_s, yT0, yP0, yT1, yL1, yP1, yT2, yL2, yP2, yT3, yL3, yP5, yT4, yL4, yP6, yT5, yL5, yP7, yT6, yL6, yP8, yT7, yL7, yP9, yT8, yL8, yP17, yT9, yL9, yP18, yT10, yL10, yP19, yT11, yL11, yP22, yT12, yL12, yP24, yT13, yL13, yP25, yT14, yL14, yP26, yT15, yL15, yP27, yT16, yL16, yP28, yT17, yL17, yP29, yT18, yL18, yP30, yT19, yL19, yP31, yT20, yL20, yP32, yT21, yL21, yP33, yT22, yL22, yP34, yT23, yL23, yP35, yT24, yL24]
          rw [gd_ok (ib_nI (by omega) (by decide)), nI_clamp (by omega), nI_1, rowS_rowS]
          exact ih _ (by rw [rowS_s]) (fun a h => by rw [rowS_n h]; exact hJ a h)
        by_cases hl : Q.1 6 ≤ irm (dM (zM (Q.1 0))) 100
        · rw [if_pos hl]; exact fin 0 (if_pos hl)
        · rw [if_neg hl]; exact fin 1 (if_neg hl)
      | some c =>
        have hc8 := hnl s c hnn
        rw [if_pos (encR_pos rfl (by omega))]
        by_cases hl : Q.1 5 ≤ irm (dM (zM (Q.1 0))) 100
        · rw [if_pos hl]
          have hfar : fareM nest s Q = (rowU Q.1 0 (zM (Q.1 0)), Q.2) := by
            unfold fareM
            rw [if_neg (by rw [ha]; exact Bool.false_ne_true)]
            simp only [hnn, if_pos hl]
          rw [hfar] at ih
          exact ih _ (by rw [rowS_s]) (fun a h => by rw [rowS_n h]; exact hJ a h)
        · rw [if_neg hl, q2]
          by_cases ht : 10 ≤ Q.2
          · rw [if_pos (show (10 : Int32) ≤ nI Q.2 from nI_le (a := 10) ht (by omega))]
            have hfar : fareM nest s Q = (rowU Q.1 0 (zM (Q.1 0)), Q.2) := by
              unfold fareM
              rw [if_neg (by rw [ha]; exact Bool.false_ne_true)]
              simp only [hnn, if_neg hl, if_pos ht]
            rw [hfar] at ih
            exact ih _ (by rw [rowS_s]) (fun a h => by rw [rowS_n h]; exact hJ a h)
          · rw [if_neg (show ¬ (10 : Int32) ≤ nI Q.2 from nI_ge (a := Q.2) (b := 10) (by omega) (by decide)), Rdraw]
            simp only [gt_self, gd_t, lp_some, st_d, nm_d, on_none, on_some, cl_some, mI_mk, mX_mk, setI_mk, u2_row, rowS_s, rowU_s, yT0, yP0, yT1, yL1, yP1, yT2, yL2, yP2, yT3, yL3, yP5, yT4, yL4, yP6, yT5, yL5, yP7, yT6, yL6, yP8, yT7, yL7, yP9, yT8, yL8, yP17, yT9, yL9, yP18, yT10, yL10, yP19, yT11, yL11, yP22, yT12, yL12, yP24, yT13, yL13, yP25, yT14, yL14, yP26, yT15, yL15, yP27, yT16, yL16, yP28, yT17, yL17, yP29, yT18, yL18, yP30, yT19, yL19, yP31, yT20, yL20, yP32, yT21, yL21, yP33, yT22, yL22, yP34, yT23, yL23, yP35, yT24, yL24]
            rw [gd_ok (ib_nI (by omega) (by decide)), rowS_rowS, rowS_n (show (5 : Nat) ≠ 1 by decide), e5, hn s (by omega), hnn]
            rw [Rhatches (N := rowU (rowU Q.1 0 (zM (Q.1 0))) 0 (zM (zM (Q.1 0)))) (by rw [rowS_s]) (q := Q.2) (by rw [rowU_n (by decide), rowU_n (by decide)]; exact q2) (by omega)]
            simp only [gt_self, gd_t, lp_some, st_d, nm_d, on_none, on_some, cl_some, mI_mk, mX_mk, setI_mk, u2_row, rowS_s, rowU_s, yT0, yP0, yT1, yL1, yP1, yT2, yL2, yP2, yT3, yL3, yP5, yT4, yL4, yP6, yT5, yL5, yP7, yT6, yL6, yP8, yT7, yL7, yP9, yT8, yL8, yP17, yT9, yL9, yP18, yT10, yL10, yP19, yT11, yL11, yP22, yT12, yL12, yP24, yT13, yL13, yP25, yT14, yL14, yP26, yT15, yL15, yP27, yT16, yL16, yP28, yT17, yL17, yP29, yT18, yL18, yP30, yT19, yL19, yP31, yT20, yL20, yP32, yT21, yL21, yP33, yT22, yL22, yP34, yT23, yL23, yP35, yT24, yL24]
            rw [rowS_rowS]
            have hfar : fareM nest s Q = (hatchM (rowU (rowU Q.1 0 (zM (Q.1 0))) 0 (zM (zM (Q.1 0)))) Q.2 (1 + irm (dM (zM (zM (Q.1 0)))) 20) (nI c), Q.2 + 1) := by
              unfold fareM
              rw [if_neg (by rw [ha]; exact Bool.false_ne_true)]
              simp only [hnn, if_neg hl, if_neg ht]
              rfl
            rw [hfar] at ih
            have ih := ih (rowS J 1 (hatchM (rowU (rowU Q.1 0 (zM (Q.1 0))) 0 (zM (zM (Q.1 0)))) Q.2 (1 + irm (dM (zM (zM (Q.1 0)))) 20) (nI c))) (by rw [rowS_s]) (fun a h => by rw [rowS_n h]; exact hJ a h)
            dsimp only at ih
            rw [show Q.2 + 1 - ns = Q.2 - ns + 1 by omega] at ih
            exact ih
def spNo (I : Nat → Nat → Int32) : Prop := I 0 4 = -1
theorem sh_no {I : Nat → Nat → Int32} (h : spNo I) : ∀ c, c < 8 → (nI c = I 0 4 ↔ noSh c = true) := by
  intro c hc
  rw [show I 0 4 = -1 from h]
  refine ⟨fun e => ?_, fun e => nomatch e⟩
  exact absurd (show ¬ nI c < 0 from nI_pos (by omega)) (by rw [e]; decide)
theorem Ryear {I : Nat → Nat → Int32} {nc ns nt : Nat} (hG : GN (I 1) nc ns nt) (hno : spNo I) :
    ∃ J, f_X10_year (I, YZ) 0 = some (nI ((yearM (I 1) nc ns nt).2 - ns), (J, YZ)) ∧ J 1 = (yearM (I 1) nc ns nt).1 ∧ ∀ a, a ≠ 1 → ¬ scY a → J a = I a := by
  obtain ⟨J, e, hS, hJ⟩ := Rspring hG (sh_no hno)
  have h10 := hG.2.2.2.1
  have h8 := hG.2.1
  have e1 : J 1 = I 1 := hJ 1 (by simp [scY])
  rw [f_X10_year]
  simp only [gt_self, gd_t, lp_some, st_d, nm_d, on_none, on_some, cl_some, mI_mk, mX_mk, setI_mk, u2_row, rowS_s, rowU_s, yT0, yP0, yT1, yL1, yP1, yT2, yL2, yP2, yT3, yL3, yP5, yT4, yL4, yP6, yT5, yL5, yP7, yT6, yL6, yP8, yT7, yL7, yP9, yT8, yL8, yP17, yT9, yL9, yP18, yT10, yL10, yP19, yT11, yL11, yP22, yT12, yL12, yP24, yT13, yL13, yP25, yT14, yL14, yP26, yT15, yL15, yP27, yT16, yL16, yP28, yT17, yL17, yP29, yT18, yL18, yP30, yT19, yL19, yP31, yT20, yL20, yP32, yT21, yL21, yP33, yT22, yL22, yP34, yT23, yL23, yP35, yT24, yL24]
  rw [e]
  simp only [gt_self, gd_t, lp_some, st_d, nm_d, on_none, on_some, cl_some, mI_mk, mX_mk, setI_mk, u2_row, rowS_s, rowU_s, yT0, yP0, yT1, yL1, yP1, yT2, yL2, yP2, yT3, yL3, yP5, yT4, yL4, yP6, yT5, yL5, yP7, yT6, yL6, yP8, yT7, yL7, yP9, yT8, yL8, yP17, yT9, yL9, yP18, yT10, yL10, yP19, yT11, yL11, yP22, yT12, yL12, yP24, yT13, yL13, yP25, yT14, yL14, yP26, yT15, yL15, yP27, yT16, yL16, yP28, yT17, yL17, yP29, yT18, yL18, yP30, yT19, yL19, yP31, yT20, yL20, yP32, yT21, yL21, yP33, yT22, yL22, yP34, yT23, yL23, yP35, yT24, yL24, il2 (show 2 < 1442 by decide), tn2, e1, hG.2.2.1]
  obtain ⟨K, eK, k1, k2⟩ := RyearLoop (I := J) (N := I 1) hG.2.2.1 h10 hS.2.1 (fun s c h => by have := okSpring.2.1 s c h; omega) ns 0 FU J (by omega) (FU_ge (by omega)) e1 (fun _ _ => rfl)
  have eK : f_X10_year_15 FU (J, YZ) 0 (nI ns) (nI (ns - ns)) (nI 0) = _ := eK
  rw [Nat.sub_self] at eK
  refine ⟨K, eK, ?_, fun a ha hb => (k2 a ha).trans (hJ a hb)⟩
  rw [k1]; rfl
/-- a year leaves a row good -/
theorem GT_congr {N N' : Nat → Int32} {nt : Nat} (h : GT N nt) (he : ∀ j, 70 ≤ j → N' j = N j) : GT N' nt := by
  intro t ht
  obtain ⟨a, b, c⟩ := h t ht
  have e1 : N' (70 + 2 * t) = N (70 + 2 * t) := he _ (by omega)
  have e2 : kyN N' t = kyN N t := by unfold kyN; rw [e1]
  have e3 : cdN N' t = cdN N t := by unfold cdN; rw [e1]
  have e4 : sgN N' t = sgN N t := by funext k; exact he _ (by omega)
  rw [e2, e3, e4, e1]
  exact ⟨a, b, c⟩
theorem year_FI {N : Nat → Int32} {nc ns nt : Nat} (h2 : N 2 = nI ns) (h10 : ns ≤ 10) : (yearM N nc ns nt).1 2 = nI (yearM N nc ns nt).2 ∧ (yearM N nc ns nt).2 ≤ 10 ∧ ns ≤ (yearM N nc ns nt).2 ∧ (∀ j, keepJ j → j ≠ 3 → (yearM N nc ns nt).1 j = N j) ∧ (yearM N nc ns nt).1 3 = N 3 + 1 := by
  have hF : FI N ns (fatesM (springM N nc ns nt noSh).2.2 (N, ns) ns) := fates_FI ⟨h2, h10, Nat.le_refl _, fun _ _ => rfl⟩ ns h10
  unfold yearM
  dsimp only
  refine ⟨by rw [rowU_n (by decide)]; exact hF.1, hF.2.1, hF.2.2.1, fun j hj h3 => by rw [rowU_n h3]; exact hF.2.2.2 j hj, ?_⟩
  rw [rowU_s, hF.2.2.2 3 (by simp [keepJ])]
theorem GN_year {N : Nat → Int32} {nc ns nt : Nat} (h : GN N nc ns nt) : GN (yearM N nc ns nt).1 nc (yearM N nc ns nt).2 nt := by
  obtain ⟨a, b, c, d, e, f, g⟩ := h
  obtain ⟨y1, y2, y3, y4, y5⟩ := year_FI (nc := nc) (nt := nt) c d
  exact ⟨(y4 1 (by simp [keepJ]) (by decide)).trans a, b, y1, y2, (y4 7 (by simp [keepJ]) (by decide)).trans e, f, GT_congr g (fun j hj => y4 j (by unfold keepJ; omega) (by omega))⟩
theorem GN_years {N : Nat → Int32} {nc ns nt : Nat} (h : GN N nc ns nt) : ∀ k, GN (yearsM nc nt (N, ns) k).1 nc (yearsM nc nt (N, ns) k).2 nt ∧ ns ≤ (yearsM nc nt (N, ns) k).2
  | 0 => ⟨h, Nat.le_refl _⟩
  | k + 1 => by
    have ih := GN_years h k
    rw [yearsM_s]
    exact ⟨GN_year ih.1, Nat.le_trans ih.2 (year_FI ih.1.2.2.1 ih.1.2.2.2.1).2.2.1⟩
theorem RgoesLoop {I : Nat → Nat → Int32} {nc ns nt n : Nat} (hG : GN (I 1) nc ns nt) (hno : spNo I) (hn : n ≤ 100) :
    ∀ (d k fu : Nat) (J : Nat → Nat → Int32), k + d = n → d < fu → J 1 = (yearsM nc nt (I 1, ns) k).1 → (∀ a, a ≠ 1 → ¬ scY a → J a = I a) →
    ∃ J', f_X10_goesOn_4 fu (J, YZ) 0 (nI n) (nI ((yearsM nc nt (I 1, ns) k).2 - ns)) (nI k) = some (nI ((yearsM nc nt (I 1, ns) n).2 - ns), (J', YZ)) ∧ J' 1 = (yearsM nc nt (I 1, ns) n).1 ∧ ∀ a, a ≠ 1 → ¬ scY a → J' a = I a := by
  intro d
  induction d with
  | zero =>
    intro k fu J hk hf h1 hJ
    obtain ⟨fu, rfl⟩ : ∃ m, fu = m + 1 := ⟨fu - 1, by omega⟩
    have hk : k = n := by omega
    subst hk
    rw [f_X10_goesOn_4, if_pos (nI_le (Nat.le_refl _) (by omega))]
    exact ⟨J, rfl, h1, hJ⟩
  | succ d ih =>
    intro k fu J hk hf h1 hJ
    obtain ⟨fu, rfl⟩ : ∃ m, fu = m + 1 := ⟨fu - 1, by omega⟩
    have hy := GN_years hG k
    rw [f_X10_goesOn_4, if_neg (nI_ge (by omega) (by omega))]
    simp only [gt_self, gd_t, lp_some, st_d, nm_d, on_none, on_some, cl_some, mI_mk, mX_mk, setI_mk, u2_row, rowS_s, rowU_s, yT0, yP0, yT1, yL1, yP1, yT2, yL2, yP2, yT3, yL3, yP5, yT4, yL4, yP6, yT5, yL5, yP7, yT6, yL6, yP8, yT7, yL7, yP9, yT8, yL8, yP17, yT9, yL9, yP18, yT10, yL10, yP19, yT11, yL11, yP22, yT12, yL12, yP24, yT13, yL13, yP25, yT14, yL14, yP26, yT15, yL15, yP27, yT16, yL16, yP28, yT17, yL17, yP29, yT18, yL18, yP30, yT19, yL19, yP31, yT20, yL20, yP32, yT21, yL21, yP33, yT22, yL22, yP34, yT23, yL23, yP35, yT24, yL24]
    obtain ⟨K, eK, k1, k2⟩ := Ryear (I := J) (nc := nc) (ns := (yearsM nc nt (I 1, ns) k).2) (nt := nt) (by rw [h1]; exact hy.1) (by unfold spNo; rw [hJ 0 (by decide) (by simp [scY])]; exact hno)
    rw [eK]
    simp only [gt_self, gd_t, lp_some, st_d, nm_d, on_none, on_some, cl_some, mI_mk, mX_mk, setI_mk, u2_row, rowS_s, rowU_s, yT0, yP0, yT1, yL1, yP1, yT2, yL2, yP2, yT3, yL3, yP5, yT4, yL4, yP6, yT5, yL5, yP7, yT6, yL6, yP8, yT7, yL7, yP9, yT8, yL8, yP17, yT9, yL9, yP18, yT10, yL10, yP19, yT11, yL11, yP22, yT12, yL12, yP24, yT13, yL13, yP25, yT14, yL14, yP26, yT15, yL15, yP27, yT16, yL16, yP28, yT17, yL17, yP29, yT18, yL18, yP30, yT19, yL19, yP31, yT20, yL20, yP32, yT21, yL21, yP33, yT22, yL22, yP34, yT23, yL23, yP35, yT24, yL24]
    rw [h1] at k1
    rw [h1]
    have ih := ih (k + 1) fu K (by omega) (by omega) (by rw [yearsM_s]; exact k1) (fun a ha hb => (k2 a ha hb).trans (hJ a ha hb))
    have hy3 := (year_FI (nc := nc) (nt := nt) hy.1.2.2.1 hy.1.2.2.2.1).2.2.1
    rw [yearsM_s] at ih
    simp only [nI_add, nI_1]
    rw [show (yearsM nc nt (I 1, ns) k).2 - ns + ((yearM (yearsM nc nt (I 1, ns) k).1 nc (yearsM nc nt (I 1, ns) k).2 nt).2 - (yearsM nc nt (I 1, ns) k).2) = (yearM (yearsM nc nt (I 1, ns) k).1 nc (yearsM nc nt (I 1, ns) k).2 nt).2 - ns by have := hy.2; omega]
    exact ih
theorem RgoesOn {I : Nat → Nat → Int32} {nc ns nt n : Nat} (hG : GN (I 1) nc ns nt) (hno : spNo I) (hn : n ≤ 100) :
    ∃ J', f_X10_goesOn (I, YZ) 0 (nI n) = some (nI ((yearsM nc nt (I 1, ns) n).2 - ns), (J', YZ)) ∧ J' 1 = (yearsM nc nt (I 1, ns) n).1 ∧ ∀ a, a ≠ 1 → ¬ scY a → J' a = I a := by
  rw [f_X10_goesOn]
  have := RgoesLoop hG hno hn n 0 FU I (by omega) (FU_ge (by omega)) rfl (fun _ _ _ => rfl)
  rw [show (yearsM nc nt (I 1, ns) 0).2 - ns = 0 from Nat.sub_self _] at this
  exact this
