/-! THE REFERENCE: seats, election, years -/
theorem nI_z (n : Nat) : nI n + 0 = nI n := Int32.add_zero _
theorem nI_a2 (n : Nat) : nI n + 2 = nI (n + 2) := nI_add n 2
theorem nestsM_s (N : Nat → Int32) (guest : Nat → Option Nat) (w c : Nat) : nestsM N guest w (c + 1) = nestsM N guest w c + (if N (38 + 4 * c + 1) = nI w ∧ (guest c).isSome = true then 1 else 0) := Eq.trans rfl rfl
theorem hereM_s (N : Nat → Int32) (s : Nat) : hereM N (s + 1) = hereM N s + (if awayN N s = true then 0 else 1) := Eq.trans rfl rfl
theorem RnestsLoop {I : Nat → Nat → Int32} {N : Nat → Int32} (hN : I 1 = N) {nc w : Nat} {guest : Nat → Option Nat} (h1 : N 1 = nI nc) (h8 : nc ≤ 8) (hg : ∀ c, c < 8 → I 4 c = encR (guest c)) (hgl : ∀ c b, guest c = some b → b < 10) :
    ∀ (d c fu : Nat), c + d = nc → d < fu → f_X10_nestsIn_4 fu (I, YZ) 0 (nI w) (nI (nestsM N guest w c)) (nI c) = some (nI (nestsM N guest w nc), (I, YZ)) := by
  intro d
  induction d with
  | zero =>
    intro c fu hc hf
    obtain ⟨fu, rfl⟩ : ∃ m, fu = m + 1 := ⟨fu - 1, by omega⟩
    have hc : c = nc := by omega
    subst hc
    rw [f_X10_nestsIn_4]
    simp only [gt_self, gd_t, lp_some, st_d, nm_d, on_none, on_some, cl_some, mI_mk, mX_mk, setI_mk, u2_row, rowS_s, rowU_s, yT0, yP0, yT1, yL1, yP1, yT2, yL2, yP2, yT3, yL3, yP5, yT4, yL4, yP6, yT5, yL5, yP7, yT6, yL6, yP8, yT7, yL7, yP9, yT8, yL8, yP17, yT9, yL9, yP18, yT10, yL10, yP19, yT11, yL11, yP22, yT12, yL12, yP24, yT13, yL13, yP25, yT14, yL14, yP26, yT15, yL15, yP27, yT16, yL16, yP28, yT17, yL17, yP29, yT18, yL18, yP30, yT19, yL19, yP31, yT20, yL20, yP32, yT21, yL21, yP33, yT22, yL22, yP34, yT23, yL23, yP35, yT24, yL24, il1 (show 1 < 1442 by decide), tn1]
    rw [hN, h1, if_pos (nI_le (Nat.le_refl _) (by omega))]
  | succ d ih =>
    intro c fu hc hf
    obtain ⟨fu, rfl⟩ : ∃ m, fu = m + 1 := ⟨fu - 1, by omega⟩
    have ih := ih (c + 1) fu (by omega) (by omega)
    rw [f_X10_nestsIn_4]
    simp only [gt_self, gd_t, lp_some, st_d, nm_d, on_none, on_some, cl_some, mI_mk, mX_mk, setI_mk, u2_row, rowS_s, rowU_s, yT0, yP0, yT1, yL1, yP1, yT2, yL2, yP2, yT3, yL3, yP5, yT4, yL4, yP6, yT5, yL5, yP7, yT6, yL6, yP8, yT7, yL7, yP9, yT8, yL8, yP17, yT9, yL9, yP18, yT10, yL10, yP19, yT11, yL11, yP22, yT12, yL12, yP24, yT13, yL13, yP25, yT14, yL14, yP26, yT15, yL15, yP27, yT16, yL16, yP28, yT17, yL17, yP29, yT18, yL18, yP30, yT19, yL19, yP31, yT20, yL20, yP32, yT21, yL21, yP33, yT22, yL22, yP34, yT23, yL23, yP35, yT24, yL24, il1 (show 1 < 1442 by decide), tn1]
    rw [hN, h1, if_neg (nI_ge (by omega) (by omega))]
    simp only [Rof1 (show c < 8 by omega), gt_self, gd_t, lp_some, st_d, nm_d, on_none, on_some, cl_some, mI_mk, mX_mk, setI_mk, u2_row, rowS_s, rowU_s, yT0, yP0, yT1, yL1, yP1, yT2, yL2, yP2, yT3, yL3, yP5, yT4, yL4, yP6, yT5, yL5, yP7, yT6, yL6, yP8, yT7, yL7, yP9, yT8, yL8, yP17, yT9, yL9, yP18, yT10, yL10, yP19, yT11, yL11, yP22, yT12, yL12, yP24, yT13, yL13, yP25, yT14, yL14, yP26, yT15, yL15, yP27, yT16, yL16, yP28, yT17, yL17, yP29, yT18, yL18, yP30, yT19, yL19, yP31, yT20, yL20, yP32, yT21, yL21, yP33, yT22, yL22, yP34, yT23, yL23, yP35, yT24, yL24, hN]
    rw [nestsM_s] at ih
    by_cases hw : N (38 + 4 * c + 1) = nI w
    · rw [if_pos hw, gd_ok (ib_nI (by omega) (by decide)), nI_clamp (by omega), hg c (by omega)]
      cases hq : guest c with
      | none =>
        rw [if_pos (encR_neg rfl), nI_z, nI_1]
        rw [if_neg (by simp [hq]), Nat.add_zero] at ih
        exact ih
      | some b =>
        rw [if_neg (encR_s rfl (by have := hgl c b hq; omega))]
        simp only [nI_1]
        rw [if_pos ⟨hw, by simp [hq]⟩] at ih
        exact ih
    · rw [if_neg hw, nI_z, nI_1]
      rw [if_neg (fun q => hw q.1), Nat.add_zero] at ih
      exact ih
theorem RnestsIn {I : Nat → Nat → Int32} {N : Nat → Int32} (hN : I 1 = N) {nc w : Nat} {guest : Nat → Option Nat} (h1 : N 1 = nI nc) (h8 : nc ≤ 8) (hg : ∀ c, c < 8 → I 4 c = encR (guest c)) (hgl : ∀ c b, guest c = some b → b < 10) : f_X10_nestsIn (I, YZ) 0 (nI w) = some (nI (nestsM N guest w nc), (I, YZ)) := by
  rw [f_X10_nestsIn]
  exact RnestsLoop hN h1 h8 hg hgl nc 0 FU (by omega) (FU_ge (by omega))
theorem RseatsOf {I : Nat → Nat → Int32} {nc ns nt w : Nat} {guest : Nat → Option Nat} (hG : GN (I 1) nc ns nt) (hg : ∀ c, c < 8 → I 4 c = encR (guest c)) (hgl : ∀ c b, guest c = some b → b < 10) : ∃ J, f_X10_seatsOf (I, YZ) 0 (nI w) = some (seatsM (I 1) nc nt guest w, (J, YZ)) ∧ ∀ a, a ≠ 14 → a ≠ 15 → J a = I a := by
  have hct := Rcounts (key := 1) hG (by decide)
  rw [show nI 1 = (1 : Int32) from rfl] at hct
  rw [f_X10_seatsOf, RnestsIn rfl hG.1 hG.2.1 hg hgl]
  simp only [gt_self, gd_t, lp_some, st_d, nm_d, on_none, on_some, cl_some, mI_mk, mX_mk, setI_mk, u2_row, rowS_s, rowU_s, yT0, yP0, yT1, yL1, yP1, yT2, yL2, yP2, yT3, yL3, yP5, yT4, yL4, yP6, yT5, yL5, yP7, yT6, yL6, yP8, yT7, yL7, yP9, yT8, yL8, yP17, yT9, yL9, yP18, yT10, yL10, yP19, yT11, yL11, yP22, yT12, yL12, yP24, yT13, yL13, yP25, yT14, yL14, yP26, yT15, yL15, yP27, yT16, yL16, yP28, yT17, yL17, yP29, yT18, yL18, yP30, yT19, yL19, yP31, yT20, yL20, yP32, yT21, yL21, yP33, yT22, yL22, yP34, yT23, yL23, yP35, yT24, yL24]
  rw [hct]
  simp only [gt_self, gd_t, lp_some, st_d, nm_d, on_none, on_some, cl_some, mI_mk, mX_mk, setI_mk, u2_row, rowS_s, rowU_s, yT0, yP0, yT1, yL1, yP1, yT2, yL2, yP2, yT3, yL3, yP5, yT4, yL4, yP6, yT5, yL5, yP7, yT6, yL6, yP8, yT7, yL7, yP9, yT8, yL8, yP17, yT9, yL9, yP18, yT10, yL10, yP19, yT11, yL11, yP22, yT12, yL12, yP24, yT13, yL13, yP25, yT14, yL14, yP26, yT15, yL15, yP27, yT16, yL16, yP28, yT17, yL17, yP29, yT18, yL18, yP30, yT19, yL19, yP31, yT20, yL20, yP32, yT21, yL21, yP33, yT22, yL22, yP34, yT23, yL23, yP35, yT24, yL24, il0 (show 0 < 4 by decide), il1 (show 1 < 4 by decide), tn0, tn1, rowS_rowS]
  generalize hK : rowS I 15 (rowU (rowU (I 15) 0 (nI (nestsM (I 1) guest w nc))) 1 (nI w)) = K
  have hK1 : K 1 = I 1 := by rw [← hK, rowS_n (by decide)]
  have hKo : ∀ a, a ≠ 15 → K a = I a := fun a ha => by rw [← hK, rowS_n ha]
  unfold seatsM seatM
  cases hq : cntM (I 1) 1 nt with
  | none =>
    rw [if_neg (encR_n rfl)]
    exact ⟨K, rfl, fun a _ h2 => hKo a h2⟩
  | some t =>
    have ht := cnt_lt hq
    have hok := (hG.2.2.2.2.2.2 t ht.1).2.2
    obtain ⟨J, e, hJ⟩ := Rworks hK1 hG.2.2.2.2.2.2 hG.2.2.2.2.2.1 ht.1
    have h14 := hG.2.2.2.2.2.1
    rw [if_pos (encR_pos rfl (by omega)), show encR (some t) = nI t from rfl, e]
    have hv : valM (sgN (I 1) t) (K 15) (cdN (I 1) t) = valM (sgN (I 1) t) (factsM (nI (nestsM (I 1) guest w nc)) (nI w) 0) (cdN (I 1) t) := by
      refine val_congr hok (fun i hi => ?_) (by rw [ht.2]; decide)
      rw [ht.2] at hi
      have hi : i < 2 := hi
      rw [← hK, rowS_s]
      match i, hi with
      | 0, _ => rw [rowU_n (by decide), rowU_s]; rfl
      | 1, _ => rw [rowU_s]; rfl
    simp only [gt_self, gd_t, lp_some, st_d, nm_d, on_none, on_some, cl_some, mI_mk, mX_mk, setI_mk, u2_row, rowS_s, rowU_s, yT0, yP0, yT1, yL1, yP1, yT2, yL2, yP2, yT3, yL3, yP5, yT4, yL4, yP6, yT5, yL5, yP7, yT6, yL6, yP8, yT7, yL7, yP9, yT8, yL8, yP17, yT9, yL9, yP18, yT10, yL10, yP19, yT11, yL11, yP22, yT12, yL12, yP24, yT13, yL13, yP25, yT14, yL14, yP26, yT15, yL15, yP27, yT16, yL16, yP28, yT17, yL17, yP29, yT18, yL18, yP30, yT19, yL19, yP31, yT20, yL20, yP32, yT21, yL21, yP33, yT22, yL22, yP34, yT23, yL23, yP35, yT24, yL24, Rwithin, hv]
    exact ⟨J, rfl, fun a h1 h2 => (hJ a h1).trans (hKo a h2)⟩
theorem winM_s (S : Nat → Int32) (w : Nat) : winM S (w + 1) = if S (w + 1) ≤ (winM S w).2 then winM S w else (w + 1, S (w + 1)) := Eq.trans rfl rfl
theorem RelectLoop {I : Nat → Nat → Int32} {nc ns nt : Nat} {guest : Nat → Option Nat} (hG : GN (I 1) nc ns nt) (hg : ∀ c, c < 8 → I 4 c = encR (guest c)) (hgl : ∀ c b, guest c = some b → b < 10) :
    ∀ (d w fu : Nat) (J : Nat → Nat → Int32), w + d = 3 → d < fu → (∀ a, a ≠ 14 → a ≠ 15 → J a = I a) → ∃ J', f_X10_electedNow_14 (fu + 1) (J, YZ) 0 (nI (winM (seatsM (I 1) nc nt guest) w).1) (winM (seatsM (I 1) nc nt guest) w).2 (nI (w + 1)) = some (nI (winM (seatsM (I 1) nc nt guest) 3).1, (J', YZ)) ∧ ∀ a, a ≠ 14 → a ≠ 15 → J' a = I a := by
  intro d
  induction d with
  | zero =>
    intro w fu J hw hf hJ
    have hw : w = 3 := by omega
    subst hw
    refine ⟨J, ?_, hJ⟩
    rw [f_X10_electedNow_14, if_pos (show (4 : Int32) ≤ nI (3 + 1) from nI_le (a := 4) (Nat.le_refl _) (by decide))]
  | succ d ih =>
    intro w fu J hw hf hJ
    obtain ⟨fu, rfl⟩ : ∃ m, fu = m + 1 := ⟨fu - 1, by omega⟩
    have e1 := hJ 1 (by decide) (by decide)
    have e4 := hJ 4 (by decide) (by decide)
    rw [f_X10_electedNow_14, if_neg (show ¬ (4 : Int32) ≤ nI (w + 1) from nI_ge (a := w + 1) (b := 4) (by omega) (by decide))]
    obtain ⟨K, eK, hK⟩ := RseatsOf (I := J) (w := w + 1) (guest := guest) (by rw [e1]; exact hG) (by rw [e4]; exact hg) hgl
    simp only [gt_self, gd_t, lp_some, st_d, nm_d, on_none, on_some, cl_some, mI_mk, mX_mk, setI_mk, u2_row, rowS_s, rowU_s, yT0, yP0, yT1, yL1, yP1, yT2, yL2, yP2, yT3, yL3, yP5, yT4, yL4, yP6, yT5, yL5, yP7, yT6, yL6, yP8, yT7, yL7, yP9, yT8, yL8, yP17, yT9, yL9, yP18, yT10, yL10, yP19, yT11, yL11, yP22, yT12, yL12, yP24, yT13, yL13, yP25, yT14, yL14, yP26, yT15, yL15, yP27, yT16, yL16, yP28, yT17, yL17, yP29, yT18, yL18, yP30, yT19, yL19, yP31, yT20, yL20, yP32, yT21, yL21, yP33, yT22, yL22, yP34, yT23, yL23, yP35, yT24, yL24]
    rw [eK]
    have hKo : ∀ a, a ≠ 14 → a ≠ 15 → K a = I a := fun a h1 h2 => (hK a h1 h2).trans (hJ a h1 h2)
    simp only [gt_self, gd_t, lp_some, st_d, nm_d, on_none, on_some, cl_some, mI_mk, mX_mk, setI_mk, u2_row, rowS_s, rowU_s, yT0, yP0, yT1, yL1, yP1, yT2, yL2, yP2, yT3, yL3, yP5, yT4, yL4, yP6, yT5, yL5, yP7, yT6, yL6, yP8, yT7, yL7, yP9, yT8, yL8, yP17, yT9, yL9, yP18, yT10, yL10, yP19, yT11, yL11, yP22, yT12, yL12, yP24, yT13, yL13, yP25, yT14, yL14, yP26, yT15, yL15, yP27, yT16, yL16, yP28, yT17, yL17, yP29, yT18, yL18, yP30, yT19, yL19, yP31, yT20, yL20, yP32, yT21, yL21, yP33, yT22, yL22, yP34, yT23, yL23, yP35, yT24, yL24, e1]
    have ih := ih (w + 1) fu K (by omega) (by omega) hKo
    rw [winM_s] at ih
    by_cases h : seatsM (I 1) nc nt guest (w + 1) ≤ (winM (seatsM (I 1) nc nt guest) w).2
    · rw [if_pos h, f_X10_electedNow_37, if_pos h, nI_1]
      rw [if_pos h] at ih
      exact ih
    · rw [if_neg h, f_X10_electedNow_37, if_neg h, nI_1]
      rw [if_neg h] at ih
      exact ih
theorem RelectedNow {I : Nat → Nat → Int32} {nc ns nt : Nat} {sh : Nat → Bool} (hG : GN (I 1) nc ns nt) (hsh : ∀ c, c < 8 → (nI c = I 0 4 ↔ sh c = true)) :
    ∃ J, f_X10_electedNow (I, YZ) 0 = some (nI (electM (I 1) nc ns nt sh), (J, YZ)) ∧ spY J (springM (I 1) nc ns nt sh) ∧ ∀ a, ¬ scY a → J a = I a := by
  obtain ⟨J, e, hS, hJ⟩ := Rspring hG hsh
  have h10 := hG.2.2.2.1
  have hgl : ∀ c b, (springM (I 1) nc ns nt sh).2.1 c = some b → b < 10 := fun c b h => by have := okSpring.2.2 c b h; omega
  have e1 : J 1 = I 1 := hJ 1 (by simp [scY])
  rw [f_X10_electedNow]
  simp only [gt_self, gd_t, lp_some, st_d, nm_d, on_none, on_some, cl_some, mI_mk, mX_mk, setI_mk, u2_row, rowS_s, rowU_s, yT0, yP0, yT1, yL1, yP1, yT2, yL2, yP2, yT3, yL3, yP5, yT4, yL4, yP6, yT5, yL5, yP7, yT6, yL6, yP8, yT7, yL7, yP9, yT8, yL8, yP17, yT9, yL9, yP18, yT10, yL10, yP19, yT11, yL11, yP22, yT12, yL12, yP24, yT13, yL13, yP25, yT14, yL14, yP26, yT15, yL15, yP27, yT16, yL16, yP28, yT17, yL17, yP29, yT18, yL18, yP30, yT19, yL19, yP31, yT20, yL20, yP32, yT21, yL21, yP33, yT22, yL22, yP34, yT23, yL23, yP35, yT24, yL24]
  rw [e]
  obtain ⟨K, eK, hK⟩ := RseatsOf (I := J) (w := 0) (by rw [e1]; exact hG) hS.1 hgl
  have eK : f_X10_seatsOf (J, YZ) 0 0 = _ := eK
  simp only [gt_self, gd_t, lp_some, st_d, nm_d, on_none, on_some, cl_some, mI_mk, mX_mk, setI_mk, u2_row, rowS_s, rowU_s, yT0, yP0, yT1, yL1, yP1, yT2, yL2, yP2, yT3, yL3, yP5, yT4, yL4, yP6, yT5, yL5, yP7, yT6, yL6, yP8, yT7, yL7, yP9, yT8, yL8, yP17, yT9, yL9, yP18, yT10, yL10, yP19, yT11, yL11, yP22, yT12, yL12, yP24, yT13, yL13, yP25, yT14, yL14, yP26, yT15, yL15, yP27, yT16, yL16, yP28, yT17, yL17, yP29, yT18, yL18, yP30, yT19, yL19, yP31, yT20, yL20, yP32, yT21, yL21, yP33, yT22, yL22, yP34, yT23, yL23, yP35, yT24, yL24]
  rw [eK]
  simp only [gt_self, gd_t, lp_some, st_d, nm_d, on_none, on_some, cl_some, mI_mk, mX_mk, setI_mk, u2_row, rowS_s, rowU_s, yT0, yP0, yT1, yL1, yP1, yT2, yL2, yP2, yT3, yL3, yP5, yT4, yL4, yP6, yT5, yL5, yP7, yT6, yL6, yP8, yT7, yL7, yP9, yT8, yL8, yP17, yT9, yL9, yP18, yT10, yL10, yP19, yT11, yL11, yP22, yT12, yL12, yP24, yT13, yL13, yP25, yT14, yL14, yP26, yT15, yL15, yP27, yT16, yL16, yP28, yT17, yL17, yP29, yT18, yL18, yP30, yT19, yL19, yP31, yT20, yL20, yP32, yT21, yL21, yP33, yT22, yL22, yP34, yT23, yL23, yP35, yT24, yL24, e1]
  obtain ⟨L, eL, hL⟩ := RelectLoop (I := J) (by rw [e1]; exact hG) hS.1 hgl 3 0 (FU - 1) K (by omega) (by decide) hK
  rw [e1] at eL
  refine ⟨L, ?_, ?_, ?_⟩
  · exact eL
  · exact ⟨by rw [hL 4 (by decide) (by decide)]; exact hS.1, by rw [hL 5 (by decide) (by decide)]; exact hS.2.1, by rw [hL 6 (by decide) (by decide)]; exact hS.2.2⟩
  · intro a ha
    rw [hL a (fun q => ha (by simp [scY, q])) (fun q => ha (by simp [scY, q]))]
    exact hJ a ha
theorem RhereLoop {I : Nat → Nat → Int32} {N : Nat → Int32} (hN : I 1 = N) {ns : Nat} (h2 : N 2 = nI ns) (h10 : ns ≤ 10) : ∀ (d s fu : Nat), s + d = ns → d < fu → f_X10_hereMany_4 fu (I, YZ) 0 (nI (hereM N s)) (nI s) = some (nI (hereM N ns), (I, YZ)) := by
  intro d
  induction d with
  | zero =>
    intro s fu hs hf
    obtain ⟨fu, rfl⟩ : ∃ m, fu = m + 1 := ⟨fu - 1, by omega⟩
    have hs : s = ns := by omega
    subst hs
    rw [f_X10_hereMany_4]
    simp only [gt_self, gd_t, lp_some, st_d, nm_d, on_none, on_some, cl_some, mI_mk, mX_mk, setI_mk, u2_row, rowS_s, rowU_s, yT0, yP0, yT1, yL1, yP1, yT2, yL2, yP2, yT3, yL3, yP5, yT4, yL4, yP6, yT5, yL5, yP7, yT6, yL6, yP8, yT7, yL7, yP9, yT8, yL8, yP17, yT9, yL9, yP18, yT10, yL10, yP19, yT11, yL11, yP22, yT12, yL12, yP24, yT13, yL13, yP25, yT14, yL14, yP26, yT15, yL15, yP27, yT16, yL16, yP28, yT17, yL17, yP29, yT18, yL18, yP30, yT19, yL19, yP31, yT20, yL20, yP32, yT21, yL21, yP33, yT22, yL22, yP34, yT23, yL23, yP35, yT24, yL24, il2 (show 2 < 1442 by decide), tn2]
    rw [hN, h2, if_pos (nI_le (Nat.le_refl _) (by omega))]
  | succ d ih =>
    intro s fu hs hf
    obtain ⟨fu, rfl⟩ : ∃ m, fu = m + 1 := ⟨fu - 1, by omega⟩
    have ih := ih (s + 1) fu (by omega) (by omega)
    rw [f_X10_hereMany_4]
    simp only [gt_self, gd_t, lp_some, st_d, nm_d, on_none, on_some, cl_some, mI_mk, mX_mk, setI_mk, u2_row, rowS_s, rowU_s, yT0, yP0, yT1, yL1, yP1, yT2, yL2, yP2, yT3, yL3, yP5, yT4, yL4, yP6, yT5, yL5, yP7, yT6, yL6, yP8, yT7, yL7, yP9, yT8, yL8, yP17, yT9, yL9, yP18, yT10, yL10, yP19, yT11, yL11, yP22, yT12, yL12, yP24, yT13, yL13, yP25, yT14, yL14, yP26, yT15, yL15, yP27, yT16, yL16, yP28, yT17, yL17, yP29, yT18, yL18, yP30, yT19, yL19, yP31, yT20, yL20, yP32, yT21, yL21, yP33, yT22, yL22, yP34, yT23, yL23, yP35, yT24, yL24, il2 (show 2 < 1442 by decide), tn2]
    rw [hN, h2, if_neg (nI_ge (by omega) (by omega)), RisAway (by omega), hN]
    simp only [gt_self, gd_t, lp_some, st_d, nm_d, on_none, on_some, cl_some, mI_mk, mX_mk, setI_mk, u2_row, rowS_s, rowU_s, yT0, yP0, yT1, yL1, yP1, yT2, yL2, yP2, yT3, yL3, yP5, yT4, yL4, yP6, yT5, yL5, yP7, yT6, yL6, yP8, yT7, yL7, yP9, yT8, yL8, yP17, yT9, yL9, yP18, yT10, yL10, yP19, yT11, yL11, yP22, yT12, yL12, yP24, yT13, yL13, yP25, yT14, yL14, yP26, yT15, yL15, yP27, yT16, yL16, yP28, yT17, yL17, yP29, yT18, yL18, yP30, yT19, yL19, yP31, yT20, yL20, yP32, yT21, yL21, yP33, yT22, yL22, yP34, yT23, yL23, yP35, yT24, yL24]
    rw [hereM_s] at ih
    cases h : awayN N s with
    | true =>
      rw [h, if_pos rfl] at ih
      rw [if_neg (by decide)]
      simp only [nI_z, nI_1]
      exact ih
    | false =>
      rw [h, if_neg Bool.false_ne_true] at ih
      rw [if_pos (by decide)]
      simp only [nI_1]
      exact ih
theorem RhereMany {I : Nat → Nat → Int32} {N : Nat → Int32} (hN : I 1 = N) {ns : Nat} (h2 : N 2 = nI ns) (h10 : ns ≤ 10) : f_X10_hereMany (I, YZ) 0 = some (nI (hereM N ns), (I, YZ)) := by
  rw [f_X10_hereMany]
  exact RhereLoop hN h2 h10 ns 0 FU (by omega) (FU_ge (by omega))
theorem Rdraw (I : Nat → Nat → Int32) : f_X10_draw (I, YZ) 0 = some (dM (zM (I 1 0)), (rowS I 1 (rowU (I 1) 0 (zM (I 1 0))), YZ)) := by
  rw [f_X10_draw]
  simp only [gt_self, gd_t, lp_some, st_d, nm_d, on_none, on_some, cl_some, mI_mk, mX_mk, setI_mk, u2_row, rowS_s, rowU_s, yT0, yP0, yT1, yL1, yP1, yT2, yL2, yP2, yT3, yL3, yP5, yT4, yL4, yP6, yT5, yL5, yP7, yT6, yL6, yP8, yT7, yL7, yP9, yT8, yL8, yP17, yT9, yL9, yP18, yT10, yL10, yP19, yT11, yL11, yP22, yT12, yL12, yP24, yT13, yL13, yP25, yT14, yL14, yP26, yT15, yL15, yP27, yT16, yL16, yP28, yT17, yL17, yP29, yT18, yL18, yP30, yT19, yL19, yP31, yT20, yL20, yP32, yT21, yL21, yP33, yT22, yL22, yP34, yT23, yL23, yP35, yT24, yL24, il0 (show 0 < 1442 by decide), tn0]
  rfl
def hatchM (N : Nat → Int32) (q : Nat) (s h : Int32) : Nat → Int32 := rowU (rowU (rowU (rowU N (8 + 3 * q) s) (8 + 3 * q + 1) h) (8 + 3 * q + 2) 0) 2 (nI (q + 1))
theorem Rhatches {I : Nat → Nat → Int32} {N : Nat → Int32} (hN : I 1 = N) {q : Nat} (h2 : N 2 = nI q) (hq : q < 10) (s h : Int32) : f_X10_hatches (I, YZ) 0 s h = some (nI q, (rowS I 1 (hatchM N q s h), YZ)) := by
  rw [f_X10_hatches]
  simp only [gt_self, gd_t, lp_some, st_d, nm_d, on_none, on_some, cl_some, mI_mk, mX_mk, setI_mk, u2_row, rowS_s, rowU_s, yT0, yP0, yT1, yL1, yP1, yT2, yL2, yP2, yT3, yL3, yP5, yT4, yL4, yP6, yT5, yL5, yP7, yT6, yL6, yP8, yT7, yL7, yP9, yT8, yL8, yP17, yT9, yL9, yP18, yT10, yL10, yP19, yT11, yL11, yP22, yT12, yL12, yP24, yT13, yL13, yP25, yT14, yL14, yP26, yT15, yL15, yP27, yT16, yL16, yP28, yT17, yL17, yP29, yT18, yL18, yP30, yT19, yL19, yP31, yT20, yL20, yP32, yT21, yL21, yP33, yT22, yL22, yP34, yT23, yL23, yP35, yT24, yL24, il2 (show 2 < 1442 by decide), tn2]
  rw [hN, h2]
  simp only [ix8, nI_1, nI_a2]
  rw [gd_ok (ib_nI (by omega) (by decide)), gd_ok (ib_nI (by omega) (by decide)), gd_ok (ib_nI (by omega) (by decide)), nI_clamp (by omega), nI_clamp (by omega), nI_clamp (by omega)]
  simp only [rowS_rowS, rowS_s]
  rw [rowU_n (show 2 ≠ 8 + 3 * q + 2 by omega), rowU_n (show 2 ≠ 8 + 3 * q + 1 by omega), rowU_n (show 2 ≠ 8 + 3 * q by omega), h2]
  simp only [nI_1, nI_s1]
  rfl
