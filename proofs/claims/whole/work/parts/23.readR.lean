/-! THE REFERENCE computes it: what reads, likes, springs, seats -/
def GN (N : Nat → Int32) (nc ns nt : Nat) : Prop := N 1 = nI nc ∧ nc ≤ 8 ∧ N 2 = nI ns ∧ ns ≤ 10 ∧ N 7 = nI nt ∧ nt ≤ 14 ∧ GT N nt
theorem addm1 (x : Int32) : x + (-1) = x - 1 := (Int32.sub_eq_add_neg x 1).symm
theorem ix8_1 (s : Nat) : (8 : Int32) + 3 * nI s + 1 = nI (8 + 3 * s + 1) := ix8w s 1
theorem ix8_2 (s : Nat) : (8 : Int32) + 3 * nI s + 2 = nI (8 + 3 * s + 2) := ix8w s 2
theorem Rof {I : Nat → Nat → Int32} {c : Nat} (w : Nat) (hc : c < 8) (hw : w < 4) : f_X10_of (I, YZ) 0 (nI c) (nI w) = some (I 1 (38 + 4 * c + w), (I, YZ)) := by
  rw [f_X10_of]
  simp only [gt_self, gd_t, lp_some, st_d, nm_d, on_none, on_some, cl_some, mI_mk, mX_mk, setI_mk, u2_row, rowS_s, rowU_s, yT0, yP0, yT1, yL1, yP1, yT2, yL2, yP2, yT3, yL3, yP5, yT4, yL4, yP6, yT5, yL5, yP7, yT6, yL6, yP8, yT7, yL7, yP9, yT8, yL8, yP17, yT9, yL9, yP18, yT10, yL10, yP19, yT11, yL11, yP22, yT12, yL12, yP24, yT13, yL13, yP25, yT14, yL14, yP26, yT15, yL15, yP27, yT16, yL16, yP28, yT17, yL17, yP29, yT18, yL18, yP30, yT19, yL19, yP31, yT20, yL20, yP32, yT21, yL21, yP33, yT22, yL22, yP34, yT23, yL23, yP35, yT24, yL24, ix38]
  rw [gd_ok (ib_nI (by omega) (by decide)), nI_clamp (by omega)]
theorem Rof0 {I : Nat → Nat → Int32} {c : Nat} (hc : c < 8) : f_X10_of (I, YZ) 0 (nI c) 0 = some (I 1 (38 + 4 * c), (I, YZ)) := Rof 0 hc (by decide)
theorem Rof1 {I : Nat → Nat → Int32} {c : Nat} (hc : c < 8) : f_X10_of (I, YZ) 0 (nI c) 1 = some (I 1 (38 + 4 * c + 1), (I, YZ)) := Rof 1 hc (by decide)
theorem Rof2 {I : Nat → Nat → Int32} {c : Nat} (hc : c < 8) : f_X10_of (I, YZ) 0 (nI c) 2 = some (I 1 (38 + 4 * c + 2), (I, YZ)) := Rof 2 hc (by decide)
theorem Rof3 {I : Nat → Nat → Int32} {c : Nat} (hc : c < 8) : f_X10_of (I, YZ) 0 (nI c) 3 = some (I 1 (38 + 4 * c + 3), (I, YZ)) := Rof 3 hc (by decide)
theorem Rstrong {I : Nat → Nat → Int32} {s : Nat} (hs : s < 10) : f_X10_strong (I, YZ) 0 (nI s) = some (I 1 (8 + 3 * s), (I, YZ)) := by
  rw [f_X10_strong]
  simp only [gt_self, gd_t, lp_some, st_d, nm_d, on_none, on_some, cl_some, mI_mk, mX_mk, setI_mk, u2_row, rowS_s, rowU_s, yT0, yP0, yT1, yL1, yP1, yT2, yL2, yP2, yT3, yL3, yP5, yT4, yL4, yP6, yT5, yL5, yP7, yT6, yL6, yP8, yT7, yL7, yP9, yT8, yL8, yP17, yT9, yL9, yP18, yT10, yL10, yP19, yT11, yL11, yP22, yT12, yL12, yP24, yT13, yL13, yP25, yT14, yL14, yP26, yT15, yL15, yP27, yT16, yL16, yP28, yT17, yL17, yP29, yT18, yL18, yP30, yT19, yL19, yP31, yT20, yL20, yP32, yT21, yL21, yP33, yT22, yL22, yP34, yT23, yL23, yP35, yT24, yL24, ix8]
  rw [gd_ok (ib_nI (by omega) (by decide)), nI_clamp (by omega)]
theorem RisAway {I : Nat → Nat → Int32} {s : Nat} (hs : s < 10) : f_X10_isAway (I, YZ) 0 (nI s) = some (bI (awayN (I 1) s), (I, YZ)) := by
  rw [f_X10_isAway]
  simp only [gt_self, gd_t, lp_some, st_d, nm_d, on_none, on_some, cl_some, mI_mk, mX_mk, setI_mk, u2_row, rowS_s, rowU_s, yT0, yP0, yT1, yL1, yP1, yT2, yL2, yP2, yT3, yL3, yP5, yT4, yL4, yP6, yT5, yL5, yP7, yT6, yL6, yP8, yT7, yL7, yP9, yT8, yL8, yP17, yT9, yL9, yP18, yT10, yL10, yP19, yT11, yL11, yP22, yT12, yL12, yP24, yT13, yL13, yP25, yT14, yL14, yP26, yT15, yL15, yP27, yT16, yL16, yP28, yT17, yL17, yP29, yT18, yL18, yP30, yT19, yL19, yP31, yT20, yL20, yP32, yT21, yL21, yP33, yT22, yL22, yP34, yT23, yL23, yP35, yT24, yL24, ix8_2]
  rw [gd_ok (ib_nI (by omega) (by decide)), nI_clamp (by omega)]
  unfold bI awayN
  by_cases h : I 1 (8 + 3 * s + 2) = 1
  · rw [if_pos h, if_pos (decide_eq_true h)]
  · rw [if_neg h, if_neg (by rw [decide_eq_true_eq]; exact h)]
theorem Rwithin (M : Mem) (v : Int32) : f_X10_within M v 0 999 = some (clampM v, M) := by
  unfold f_X10_within clampM
  by_cases h : 0 ≤ v
  · rw [if_pos h, if_pos h]
    by_cases h2 : v ≤ 999
    · rw [if_pos h2, if_pos h2]
    · rw [if_neg h2, if_neg h2]
  · rw [if_neg h, if_neg h]
theorem RcntLoop {I : Nat → Nat → Int32} {N : Nat → Int32} (hN : I 1 = N) {nt key : Nat} (hG : GT N nt) (ht : nt ≤ 14) (hk : key < 3) : ∀ (t fu : Nat), t ≤ nt → t < fu → f_X10_counts_10 fu (I, YZ) 0 (nI key) (nI t - 1) = some (encR (cntM N key t), (I, YZ)) := by
  intro t
  induction t with
  | zero =>
    intro fu _ hf
    obtain ⟨fu, rfl⟩ : ∃ m, fu = m + 1 := ⟨fu - 1, by omega⟩
    rw [f_X10_counts_10, if_pos (by decide)]
    rfl
  | succ t ih =>
    intro fu h1 hf
    obtain ⟨fu, rfl⟩ : ∃ m, fu = m + 1 := ⟨fu - 1, by omega⟩
    rw [f_X10_counts_10, nI_s1, if_neg (nI_pos (by omega))]
    simp only [gt_self, gd_t, lp_some, st_d, nm_d, on_none, on_some, cl_some, mI_mk, mX_mk, setI_mk, u2_row, rowS_s, rowU_s, yT0, yP0, yT1, yL1, yP1, yT2, yL2, yP2, yT3, yL3, yP5, yT4, yL4, yP6, yT5, yL5, yP7, yT6, yL6, yP8, yT7, yL7, yP9, yT8, yL8, yP17, yT9, yL9, yP18, yT10, yL10, yP19, yT11, yL11, yP22, yT12, yL12, yP24, yT13, yL13, yP25, yT14, yL14, yP26, yT15, yL15, yP27, yT16, yL16, yP28, yT17, yL17, yP29, yT18, yL18, yP30, yT19, yL19, yP31, yT20, yL20, yP32, yT21, yL21, yP33, yT22, yL22, yP34, yT23, yL23, yP35, yT24, yL24, ix70]
    rw [gd_ok (ib_nI (by omega) (by decide)), nI_clamp (by omega), hN]
    have hg := (hG t (by omega)).2.1
    have hc : cdN N t < 1000 := Nat.mod_lt _ (by decide)
    have hky := (hG t (by omega)).1
    have e : N (70 + 2 * t) / 1000 = nI (kyN N t) := by
      rw [hg, show (1000 : Int32) = nI 1000 from rfl, pk_div (by omega) (by decide) (by decide)]
      rw [show (1000 * kyN N t + cdN N t) / 1000 = kyN N t by omega]
    rw [e, addm1]
    unfold cntM
    by_cases h : kyN N t = key
    · rw [if_pos (by rw [h]), if_pos h]; rfl
    · rw [if_neg (fun q => h ((nI_eq (by omega) (by omega)).mp q)), if_neg h]
      exact ih fu (by omega) (by omega)
theorem Rcounts {I : Nat → Nat → Int32} {nc ns nt key : Nat} (hG : GN (I 1) nc ns nt) (hk : key < 3) : f_X10_counts (I, YZ) 0 (nI key) = some (encR (cntM (I 1) key nt), (I, YZ)) := by
  rw [f_X10_counts]
  simp only [gt_self, gd_t, lp_some, st_d, nm_d, on_none, on_some, cl_some, mI_mk, mX_mk, setI_mk, u2_row, rowS_s, rowU_s, yT0, yP0, yT1, yL1, yP1, yT2, yL2, yP2, yT3, yL3, yP5, yT4, yL4, yP6, yT5, yL5, yP7, yT6, yL6, yP8, yT7, yL7, yP9, yT8, yL8, yP17, yT9, yL9, yP18, yT10, yL10, yP19, yT11, yL11, yP22, yT12, yL12, yP24, yT13, yL13, yP25, yT14, yL14, yP26, yT15, yL15, yP27, yT16, yL16, yP28, yT17, yL17, yP29, yT18, yL18, yP30, yT19, yL19, yP31, yT20, yL20, yP32, yT21, yL21, yP33, yT22, yL22, yP34, yT23, yL23, yP35, yT24, yL24, il7 (show 7 < 1442 by decide), tn7]
  rw [hG.2.2.2.2.1]
  exact RcntLoop rfl hG.2.2.2.2.2.2 hG.2.2.2.2.2.1 hk nt FU (Nat.le_refl _) (FU_ge (by have := hG.2.2.2.2.2.1; omega))
theorem encR_pos {o : Option Nat} {t : Nat} (h : o = some t) (ht : t < 2 ^ 31) : 0 ≤ encR o := by subst h; exact nI_pos' ht
theorem encR_neg {o : Option Nat} (h : o = none) : encR o < 0 := by subst h; decide
theorem encR_n {o : Option Nat} (h : o = none) : ¬ 0 ≤ encR o := by subst h; decide
theorem encR_s {o : Option Nat} {t : Nat} (h : o = some t) (ht : t < 2 ^ 31) : ¬ encR o < 0 := by subst h; exact nI_pos ht
theorem Rworks {I : Nat → Nat → Int32} {N : Nat → Int32} (hN : I 1 = N) {nt t : Nat} (hG : GT N nt) (hnt : nt ≤ 14) (ht : t < nt) : ∃ J, f_X10_worksOut (I, YZ) 0 (nI t) = some (valM (sgN N t) (I 15) (cdN N t), (J, YZ)) ∧ ∀ a, a ≠ 14 → J a = I a := by
  subst hN
  obtain ⟨hk, hg, hok⟩ := hG t ht
  have hc : cdN (I 1) t < 1000 := Nat.mod_lt _ (by decide)
  rw [f_X10_worksOut]
  simp only [gt_self, gd_t, lp_some, st_d, nm_d, on_none, on_some, cl_some, mI_mk, mX_mk, setI_mk, u2_row, rowS_s, rowU_s, yT0, yP0, yT1, yL1, yP1, yT2, yL2, yP2, yT3, yL3, yP5, yT4, yL4, yP6, yT5, yL5, yP7, yT6, yL6, yP8, yT7, yL7, yP9, yT8, yL8, yP17, yT9, yL9, yP18, yT10, yL10, yP19, yT11, yL11, yP22, yT12, yL12, yP24, yT13, yL13, yP25, yT14, yL14, yP26, yT15, yL15, yP27, yT16, yL16, yP28, yT17, yL17, yP29, yT18, yL18, yP30, yT19, yL19, yP31, yT20, yL20, yP32, yT21, yL21, yP33, yT22, yL22, yP34, yT23, yL23, yP35, yT24, yL24, ix70]
  rw [gd_ok (ib_nI (by omega) (by decide)), nI_clamp (by omega), hg]
  have e : irm (nI (1000 * kyN (I 1) t + cdN (I 1) t)) 1000 = nI (cdN (I 1) t) := by
    unfold irm
    rw [show (1000 : Int32) = nI 1000 from rfl, pk_rem (by omega) (by decide) (by decide)]
    rw [show (1000 * kyN (I 1) t + cdN (I 1) t) % 1000 = cdN (I 1) t by omega]
  rw [e]
  have hnn : nnK (kyN (I 1) t) ≤ 3 := by unfold nnK; split <;> decide
  exact RworksLoop (by omega) hok hnn (cdN (I 1) t) 0 FU I (by omega) (FU_ge (by have := hok.2.2; omega)) (fun _ _ => rfl) trivial
theorem Rlikes93 {I : Nat → Nat → Int32} {c : Nat} (hc : c < 8) (h v : Int32) : f_X10_likesOf_93 (I, YZ) 0 (nI c) h v = some (kindM (I 1 (38 + 4 * c)) (I 1 (38 + 4 * c + 2)) (I 1 (38 + 4 * c + 3)) h (clampM v), (I, YZ)) := by
  rw [f_X10_likesOf_93, Rwithin]
  simp only [gt_self, gd_t, lp_some, st_d, nm_d, on_none, on_some, cl_some, mI_mk, mX_mk, setI_mk, u2_row, rowS_s, rowU_s, yT0, yP0, yT1, yL1, yP1, yT2, yL2, yP2, yT3, yL3, yP5, yT4, yL4, yP6, yT5, yL5, yP7, yT6, yL6, yP8, yT7, yL7, yP9, yT8, yL8, yP17, yT9, yL9, yP18, yT10, yL10, yP19, yT11, yL11, yP22, yT12, yL12, yP24, yT13, yL13, yP25, yT14, yL14, yP26, yT15, yL15, yP27, yT16, yL16, yP28, yT17, yL17, yP29, yT18, yL18, yP30, yT19, yL19, yP31, yT20, yL20, yP32, yT21, yL21, yP33, yT22, yL22, yP34, yT23, yL23, yP35, yT24, yL24, Rof0 hc, Rof2 hc, Rof3 hc]
  unfold kindM
  by_cases h1 : I 1 (38 + 4 * c) = 1
  · simp only [if_pos h1]
  simp only [if_neg h1]
  by_cases h2 : I 1 (38 + 4 * c) = 2
  · simp only [if_pos h2]
  simp only [if_neg h2]
  by_cases h3 : I 1 (38 + 4 * c) = 3
  · simp only [if_pos h3]
  simp only [if_neg h3]
  by_cases h4 : I 1 (38 + 4 * c) = 4
  · simp only [if_pos h4]
  simp only [if_neg h4]
  by_cases h5 : I 1 (38 + 4 * c) = 5
  · simp only [if_pos h5]
  simp only [if_neg h5]
theorem Rlikes22 {I : Nat → Nat → Int32} {nc ns nt c : Nat} (hG : GN (I 1) nc ns nt) (hc : c < 8) (h : Int32) : ∃ J, f_X10_likesOf_22 (I, YZ) 0 (nI c) h = some (likesM (I 1) nt c h, (J, YZ)) ∧ ∀ a, a ≠ 14 → a ≠ 15 → J a = I a := by
  rw [f_X10_likesOf_22]
  have hct := Rcounts (key := 0) hG (by decide)
  rw [show nI 0 = (0 : Int32) from rfl] at hct
  simp only [gt_self, gd_t, lp_some, st_d, nm_d, on_none, on_some, cl_some, mI_mk, mX_mk, setI_mk, u2_row, rowS_s, rowU_s, yT0, yP0, yT1, yL1, yP1, yT2, yL2, yP2, yT3, yL3, yP5, yT4, yL4, yP6, yT5, yL5, yP7, yT6, yL6, yP8, yT7, yL7, yP9, yT8, yL8, yP17, yT9, yL9, yP18, yT10, yL10, yP19, yT11, yL11, yP22, yT12, yL12, yP24, yT13, yL13, yP25, yT14, yL14, yP26, yT15, yL15, yP27, yT16, yL16, yP28, yT17, yL17, yP29, yT18, yL18, yP30, yT19, yL19, yP31, yT20, yL20, yP32, yT21, yL21, yP33, yT22, yL22, yP34, yT23, yL23, yP35, yT24, yL24]
  rw [hct]
  simp only [gt_self, gd_t, lp_some, st_d, nm_d, on_none, on_some, cl_some, mI_mk, mX_mk, setI_mk, u2_row, rowS_s, rowU_s, yT0, yP0, yT1, yL1, yP1, yT2, yL2, yP2, yT3, yL3, yP5, yT4, yL4, yP6, yT5, yL5, yP7, yT6, yL6, yP8, yT7, yL7, yP9, yT8, yL8, yP17, yT9, yL9, yP18, yT10, yL10, yP19, yT11, yL11, yP22, yT12, yL12, yP24, yT13, yL13, yP25, yT14, yL14, yP26, yT15, yL15, yP27, yT16, yL16, yP28, yT17, yL17, yP29, yT18, yL18, yP30, yT19, yL19, yP31, yT20, yL20, yP32, yT21, yL21, yP33, yT22, yL22, yP34, yT23, yL23, yP35, yT24, yL24, Rof2 hc, Rof3 hc, il0 (show 0 < 4 by decide), il1 (show 1 < 4 by decide), il2 (show 2 < 4 by decide), tn0, tn1, tn2, rowS_rowS, rowS_n (show (1 : Nat) ≠ 15 by decide)]
  generalize hK : rowS I 15 (rowU (rowU (rowU (I 15) 0 (I 1 (38 + 4 * c + 2))) 1 (I 1 (38 + 4 * c + 3))) 2 h) = K
  have hK1 : K 1 = I 1 := by rw [← hK, rowS_n (by decide)]
  have hKo : ∀ a, a ≠ 15 → K a = I a := fun a ha => by rw [← hK, rowS_n ha]
  unfold likesM plainM
  cases hq : cntM (I 1) 0 nt with
  | none =>
    rw [if_neg (encR_n rfl)]
    simp only [Rof2 hc, Rof3 hc, gt_self, gd_t, lp_some, st_d, nm_d, on_none, on_some, cl_some, mI_mk, mX_mk, setI_mk, u2_row, rowS_s, rowU_s, yT0, yP0, yT1, yL1, yP1, yT2, yL2, yP2, yT3, yL3, yP5, yT4, yL4, yP6, yT5, yL5, yP7, yT6, yL6, yP8, yT7, yL7, yP9, yT8, yL8, yP17, yT9, yL9, yP18, yT10, yL10, yP19, yT11, yL11, yP22, yT12, yL12, yP24, yT13, yL13, yP25, yT14, yL14, yP26, yT15, yL15, yP27, yT16, yL16, yP28, yT17, yL17, yP29, yT18, yL18, yP30, yT19, yL19, yP31, yT20, yL20, yP32, yT21, yL21, yP33, yT22, yL22, yP34, yT23, yL23, yP35, yT24, yL24, Rlikes93 hc, hK1]
    exact ⟨K, rfl, fun a _ h2 => hKo a h2⟩
  | some t =>
    have ht := cnt_lt hq
    have hok := (hG.2.2.2.2.2.2 t ht.1).2.2
    obtain ⟨J, e, hJ⟩ := Rworks hK1 hG.2.2.2.2.2.2 hG.2.2.2.2.2.1 ht.1
    have h14 := hG.2.2.2.2.2.1
    rw [if_pos (encR_pos rfl (by omega))]
    rw [show encR (some t) = nI t from rfl, e]
    have hv : valM (sgN (I 1) t) (K 15) (cdN (I 1) t) = valM (sgN (I 1) t) (factsM (I 1 (38 + 4 * c + 2)) (I 1 (38 + 4 * c + 3)) h) (cdN (I 1) t) := by
      refine val_congr hok (fun i hi => ?_) (by rw [ht.2]; decide)
      rw [ht.2] at hi
      rw [← hK, rowS_s]
      have hi : i < 3 := hi
      match i, hi with
      | 0, _ => rw [rowU_n (by decide), rowU_n (by decide), rowU_s]; rfl
      | 1, _ => rw [rowU_n (by decide), rowU_s]; rfl
      | 2, _ => rw [rowU_s]; rfl
    simp only [gt_self, gd_t, lp_some, st_d, nm_d, on_none, on_some, cl_some, mI_mk, mX_mk, setI_mk, u2_row, rowS_s, rowU_s, yT0, yP0, yT1, yL1, yP1, yT2, yL2, yP2, yT3, yL3, yP5, yT4, yL4, yP6, yT5, yL5, yP7, yT6, yL6, yP8, yT7, yL7, yP9, yT8, yL8, yP17, yT9, yL9, yP18, yT10, yL10, yP19, yT11, yL11, yP22, yT12, yL12, yP24, yT13, yL13, yP25, yT14, yL14, yP26, yT15, yL15, yP27, yT16, yL16, yP28, yT17, yL17, yP29, yT18, yL18, yP30, yT19, yL19, yP31, yT20, yL20, yP32, yT21, yL21, yP33, yT22, yL22, yP34, yT23, yL23, yP35, yT24, yL24, Rlikes93 hc, hv]
    have hJ1 : J 1 = I 1 := (hJ 1 (by decide)).trans hK1
    rw [hJ1]
    exact ⟨J, rfl, fun a h1 h2 => (hJ a h1).trans (hKo a h2)⟩
theorem RlikesOf {I : Nat → Nat → Int32} {nc ns nt s c : Nat} (hG : GN (I 1) nc ns nt) (hs : s < 10) (hc : c < 8) : ∃ J, f_X10_likesOf (I, YZ) 0 (nI s) (nI c) = some (likesM (I 1) nt c (homeM (I 1) s c), (J, YZ)) ∧ ∀ a, a ≠ 14 → a ≠ 15 → J a = I a := by
  rw [f_X10_likesOf]
  simp only [gt_self, gd_t, lp_some, st_d, nm_d, on_none, on_some, cl_some, mI_mk, mX_mk, setI_mk, u2_row, rowS_s, rowU_s, yT0, yP0, yT1, yL1, yP1, yT2, yL2, yP2, yT3, yL3, yP5, yT4, yL4, yP6, yT5, yL5, yP7, yT6, yL6, yP8, yT7, yL7, yP9, yT8, yL8, yP17, yT9, yL9, yP18, yT10, yL10, yP19, yT11, yL11, yP22, yT12, yL12, yP24, yT13, yL13, yP25, yT14, yL14, yP26, yT15, yL15, yP27, yT16, yL16, yP28, yT17, yL17, yP29, yT18, yL18, yP30, yT19, yL19, yP31, yT20, yL20, yP32, yT21, yL21, yP33, yT22, yL22, yP34, yT23, yL23, yP35, yT24, yL24, ix8_1]
  rw [gd_ok (ib_nI (by omega) (by decide)), nI_clamp (by omega)]
  unfold homeM
  by_cases h : I 1 (8 + 3 * s + 1) = nI c
  · rw [if_pos h, if_pos h]; exact Rlikes22 hG hc 1
  · rw [if_neg h, if_neg h]; exact Rlikes22 hG hc 0
theorem bI_0 {b : Bool} (h : b = false) : bI b = 0 := by subst h; rfl
theorem bI_1 {b : Bool} (h : b = true) : bI b = 1 := by subst h; rfl
theorem bI_t {b : Bool} : bI b = 0 ↔ b = false := by cases b <;> simp [bI]
theorem one_ne : ¬ (1 : Int32) = 0 := by decide
theorem RnextLoop {I : Nat → Nat → Int32} {N : Nat → Int32} (hN : I 1 = N) {ns : Nat} {g : Nat → Bool} (h2 : N 2 = nI ns) (hns : ns ≤ 10) (hg : ∀ s, s < 10 → I 6 s = bI (g s)) : ∀ (d i fu : Nat), i + d = ns → d < fu → f_X10_nextStork_4 fu (I, YZ) 0 (encR (strM (fun s => N (8 + 3 * s)) (freeM (awayN N) g) i)) (nI i) = some (encR (strM (fun s => N (8 + 3 * s)) (freeM (awayN N) g) ns), (I, YZ)) := by
  intro d
  induction d with
  | zero =>
    intro i fu hi hf
    obtain ⟨fu, rfl⟩ : ∃ m, fu = m + 1 := ⟨fu - 1, by omega⟩
    have hi : i = ns := by omega
    subst hi
    rw [f_X10_nextStork_4]
    simp only [gt_self, gd_t, lp_some, st_d, nm_d, on_none, on_some, cl_some, mI_mk, mX_mk, setI_mk, u2_row, rowS_s, rowU_s, yT0, yP0, yT1, yL1, yP1, yT2, yL2, yP2, yT3, yL3, yP5, yT4, yL4, yP6, yT5, yL5, yP7, yT6, yL6, yP8, yT7, yL7, yP9, yT8, yL8, yP17, yT9, yL9, yP18, yT10, yL10, yP19, yT11, yL11, yP22, yT12, yL12, yP24, yT13, yL13, yP25, yT14, yL14, yP26, yT15, yL15, yP27, yT16, yL16, yP28, yT17, yL17, yP29, yT18, yL18, yP30, yT19, yL19, yP31, yT20, yL20, yP32, yT21, yL21, yP33, yT22, yL22, yP34, yT23, yL23, yP35, yT24, yL24, il2 (show 2 < 1442 by decide), tn2]
    rw [hN, h2, if_pos (nI_le (Nat.le_refl _) (by omega))]
  | succ d ih =>
    intro i fu hi hf
    obtain ⟨fu, rfl⟩ : ∃ m, fu = m + 1 := ⟨fu - 1, by omega⟩
    have hb : ∀ b, strM (fun s => N (8 + 3 * s)) (freeM (awayN N) g) i = some b → b < 10 := fun b hb => by have := (str_lt hb).1; omega
    have ih := ih (i + 1) fu (by omega) (by omega)
    rw [f_X10_nextStork_4]
    simp only [gt_self, gd_t, lp_some, st_d, nm_d, on_none, on_some, cl_some, mI_mk, mX_mk, setI_mk, u2_row, rowS_s, rowU_s, yT0, yP0, yT1, yL1, yP1, yT2, yL2, yP2, yT3, yL3, yP5, yT4, yL4, yP6, yT5, yL5, yP7, yT6, yL6, yP8, yT7, yL7, yP9, yT8, yL8, yP17, yT9, yL9, yP18, yT10, yL10, yP19, yT11, yL11, yP22, yT12, yL12, yP24, yT13, yL13, yP25, yT14, yL14, yP26, yT15, yL15, yP27, yT16, yL16, yP28, yT17, yL17, yP29, yT18, yL18, yP30, yT19, yL19, yP31, yT20, yL20, yP32, yT21, yL21, yP33, yT22, yL22, yP34, yT23, yL23, yP35, yT24, yL24, il2 (show 2 < 1442 by decide), tn2]
    rw [hN, h2, if_neg (nI_ge (by omega) (by omega)), gd_ok (ib_nI (by omega) (by decide)), nI_clamp (by omega), hg i (by omega)]
    simp only [gt_self, gd_t, lp_some, st_d, nm_d, on_none, on_some, cl_some, mI_mk, mX_mk, setI_mk, u2_row, rowS_s, rowU_s, yT0, yP0, yT1, yL1, yP1, yT2, yL2, yP2, yT3, yL3, yP5, yT4, yL4, yP6, yT5, yL5, yP7, yT6, yL6, yP8, yT7, yL7, yP9, yT8, yL8, yP17, yT9, yL9, yP18, yT10, yL10, yP19, yT11, yL11, yP22, yT12, yL12, yP24, yT13, yL13, yP25, yT14, yL14, yP26, yT15, yL15, yP27, yT16, yL16, yP28, yT17, yL17, yP29, yT18, yL18, yP30, yT19, yL19, yP31, yT20, yL20, yP32, yT21, yL21, yP33, yT22, yL22, yP34, yT23, yL23, yP35, yT24, yL24, RisAway (show i < 10 by omega), hN]
    rw [strM_s] at ih
    rw [nI_1]
    cases hgi : g i with
    | true =>
      rw [if_neg (by decide)]
      rw [if_neg (by simp [freeM, hgi])] at ih
      exact ih
    | false =>
      rw [if_pos (by decide)]
      cases hai : awayN N i with
      | true =>
        rw [if_neg (by decide)]
        rw [if_neg (by simp [freeM, hai])] at ih
        exact ih
      | false =>
        rw [if_pos (by decide)]
        rw [if_pos (by simp [freeM, hgi, hai])] at ih
        cases hq : strM (fun s => N (8 + 3 * s)) (freeM (awayN N) g) i with
        | none =>
          rw [hq] at ih
          dsimp only at ih
          rw [if_pos (encR_neg rfl)]
          exact ih
        | some b =>
          rw [hq] at ih
          dsimp only at ih
          have hb := hb b hq
          rw [if_neg (encR_s rfl (by omega)), show encR (some b) = nI b from rfl]
          simp only [Rstrong (show i < 10 by omega), Rstrong hb, gt_self, gd_t, lp_some, st_d, nm_d, on_none, on_some, cl_some, mI_mk, mX_mk, setI_mk, u2_row, rowS_s, rowU_s, yT0, yP0, yT1, yL1, yP1, yT2, yL2, yP2, yT3, yL3, yP5, yT4, yL4, yP6, yT5, yL5, yP7, yT6, yL6, yP8, yT7, yL7, yP9, yT8, yL8, yP17, yT9, yL9, yP18, yT10, yL10, yP19, yT11, yL11, yP22, yT12, yL12, yP24, yT13, yL13, yP25, yT14, yL14, yP26, yT15, yL15, yP27, yT16, yL16, yP28, yT17, yL17, yP29, yT18, yL18, yP30, yT19, yL19, yP31, yT20, yL20, yP32, yT21, yL21, yP33, yT22, yL22, yP34, yT23, yL23, yP35, yT24, yL24, hN]
          by_cases h : N (8 + 3 * i) ≤ N (8 + 3 * b)
          · rw [if_pos h]
            rw [if_neg (Int32.not_lt.mpr h)] at ih
            exact ih
          · rw [if_neg h]
            rw [if_pos (Int32.not_le.mp h)] at ih
            exact ih
theorem RnextStork {I : Nat → Nat → Int32} {N : Nat → Int32} (hN : I 1 = N) {ns : Nat} {g : Nat → Bool} (h2 : N 2 = nI ns) (hns : ns ≤ 10) (hg : ∀ s, s < 10 → I 6 s = bI (g s)) : f_X10_nextStork (I, YZ) 0 = some (encR (strM (fun s => N (8 + 3 * s)) (freeM (awayN N) g) ns), (I, YZ)) := by
  rw [f_X10_nextStork]
  exact RnextLoop hN h2 hns hg ns 0 FU (by omega) (FU_ge (by omega))
