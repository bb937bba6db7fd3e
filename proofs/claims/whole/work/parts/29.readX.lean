/-! A WORLD OF THE CLASS against a row -/
def GR (N : Nat → Int32) (nc ns : Nat) : Prop := (∀ c, c < nc → (∃ k, k < 6 ∧ N (38 + 4 * c) = nI k) ∧ (∃ k, k < 4 ∧ N (38 + 4 * c + 1) = nI k) ∧ (∃ k, k ≤ 99 ∧ N (38 + 4 * c + 2) = nI k) ∧ ∃ k, k ≤ 100 ∧ N (38 + 4 * c + 3) = nI k) ∧
  ∀ s, s < ns → (∃ k, k ≤ 99 ∧ N (8 + 3 * s) = nI k) ∧ (N (8 + 3 * s + 1) = -1 ∨ ∃ c, c < 8 ∧ N (8 + 3 * s + 1) = nI c) ∧ (N (8 + 3 * s + 2) = 0 ∨ N (8 + 3 * s + 2) = 1)
def homeR (a b : Int32) : Prop := (a = -1000000005 ∧ b = -1) ∨ ∃ c, c < 8 ∧ a = nI c ∧ b = nI c
def RelG (I : Nat → Nat → Int32) (w : Nat) (N : Nat → Int32) : Prop := I w 6 = N 0 ∧ I w 1 = N 1 ∧ I w 3 = N 2 ∧ I w 5 = N 3 ∧ I (w + 3) 0 = N 4 ∧ I (w + 3) 1 = N 5 ∧ I (w + 3) 2 = N 6 ∧ I w 8 = N 7
def RelC (I : Nat → Nat → Int32) (w : Nat) (N : Nat → Int32) (nc : Nat) : Prop := ∀ c, c < nc → I (w + 6 + c) 0 = N (38 + 4 * c) ∧ I (w + 6 + c) 1 = N (38 + 4 * c + 1) ∧ I (w + 6 + c) 2 = N (38 + 4 * c + 2) ∧ I (w + 6 + c) 3 = N (38 + 4 * c + 3)
def RelS (I : Nat → Nat → Int32) (w : Nat) (N : Nat → Int32) (ns : Nat) : Prop := ∀ s, s < ns → I (w + 14 + s) 0 = N (8 + 3 * s) ∧ homeR (I (w + 14 + s) 1) (N (8 + 3 * s + 1)) ∧ I (w + 14 + s) 2 = N (8 + 3 * s + 2)
def RelT (I : Nat → Nat → Int32) (X : Nat → Nat → Option Nat) (S : Sta) (w : Nat) (N : Nat → Int32) (nt : Nat) : Prop := ∀ t, t < nt → ∃ b, X (w + 4) t = some b ∧ TxO I S b (kyN N t) (cdN N t) (N (70 + 2 * t + 1)) (sgN N t)
/-- the world at w is the row N -/
def RelW (I : Nat → Nat → Int32) (X : Nat → Nat → Option Nat) (S : Sta) (w : Nat) (N : Nat → Int32) (nc ns nt : Nat) : Prop := RelG I w N ∧ RelC I w N nc ∧ RelS I w N ns ∧ RelT I X S w N nt
/-- other rows don't matter: w's own, its rules, chimneys, storks, and the texts -/
def ownW (w a : Nat) : Prop := a = w ∨ a = w + 3 ∨ (w + 6 ≤ a ∧ a < w + 24) ∨ 114 ≤ a
theorem TxO.same {I J : Nat → Nat → Int32} {S : Sta} {b key n : Nat} {pc : Int32} {sg : Nat → Int32} (h : TxO I S b key n pc sg) (hJ : ∀ a, 114 ≤ a → J a = I a) : TxO J S b key n pc sg := by
  obtain ⟨hb, hbT, hb0, hb1, a, haP, ha, haT, haL, hst⟩ := h
  exact ⟨hb, hbT, by rw [hJ b hb]; exact hb0, by rw [hJ b hb]; exact hb1, a, haP, ha, haT, haL, fun k hk => by rw [hJ a ha]; exact hst k hk⟩
theorem RelW.same {I J : Nat → Nat → Int32} {X : Nat → Nat → Option Nat} {S : Sta} {w : Nat} {N : Nat → Int32} {nc ns nt : Nat} (h : RelW I X S w N nc ns nt) (h8 : nc ≤ 8) (h10 : ns ≤ 10) (hJ : ∀ a, ownW w a → J a = I a) : RelW J X S w N nc ns nt := by
  obtain ⟨g, c, s, t⟩ := h
  have e0 : J w = I w := hJ w (Or.inl rfl)
  have e3 : J (w + 3) = I (w + 3) := hJ _ (Or.inr (Or.inl rfl))
  refine ⟨?_, fun k hk => ?_, fun k hk => ?_, fun k hk => ?_⟩
  · unfold RelG; rw [e0, e3]; exact g
  · rw [hJ (w + 6 + k) (Or.inr (Or.inr (Or.inl ⟨by omega, by omega⟩)))]; exact c k hk
  · rw [hJ (w + 14 + k) (Or.inr (Or.inr (Or.inl ⟨by omega, by omega⟩)))]; exact s k hk
  · obtain ⟨b, hb, ht⟩ := t k hk
    exact ⟨b, hb, ht.same (fun a ha => hJ a (Or.inr (Or.inr (Or.inr ha))))⟩
theorem encC_pos {o : Option Nat} {t : Nat} (h : o = some t) (ht : t < 2 ^ 31) : ¬ encC o = -1000000005 := by
  subst h
  intro e
  exact absurd (show ¬ nI t < 0 from nI_pos ht) (by rw [show nI t = -1000000005 from e]; decide)
theorem encC_no {o : Option Nat} (h : o = none) : encC o = -1000000005 := by subst h; rfl
section XRead
variable {I : Nat → Nat → Int32} {X : Nat → Nat → Option Nat} {S : Sta} {w : Nat} {N : Nat → Int32} {nc ns nt : Nat}
theorem XcntLoop (hS : LaS S) (hw : isW w) (hT : RelT I X S w N nt) (hG : GT N nt) (ht : nt ≤ 14) {key : Nat} (hk : key < 3) : ∀ (t fu : Nat), t ≤ nt → t < fu → f_X8_counts_7 fu (I, X, S) w (nI key) (nI t - 1) = some (encC (cntM N key t), (I, X, S)) := by
  intro t
  induction t with
  | zero =>
    intro fu _ hf
    obtain ⟨fu, rfl⟩ : ∃ m, fu = m + 1 := ⟨fu - 1, by omega⟩
    rw [f_X8_counts_7, if_pos (by decide)]
    rfl
  | succ t ih =>
    intro fu h1 hf
    obtain ⟨fu, rfl⟩ : ∃ m, fu = m + 1 := ⟨fu - 1, by omega⟩
    obtain ⟨b, hb, hTx⟩ := hT t (by omega)
    have hky := (hG t (by omega)).1
    rw [f_X8_counts_7, nI_s1, if_neg (nI_pos (by omega))]
    simp only [gt_self, gd_t, lp_some, st_d, nm_d, on_none, on_some, cl_some, mI_mk, mX_mk, setI_mk, u2_row, rowS_s, rowU_s, xT0 hS, xP0_0 hS, xP0_1 hS, xP0_2 hS, xP0_3 hS, xP0_4 hS, xP0_5 hS, xP0_6 hS, xP0_7 hS, xP0_8 hS, xT73 hS, xP73_0 hS, xT74 hS, xL74 hS, xP73_1 hS, xT75 hS, xL75 hS, xP73_2 hS, xT76 hS, xL76 hS, xP73_3 hS, xT77 hS, xL77 hS, xT78 hS, xP78_0 hS, xT79 hS, xL79 hS, xT80 hS, xP80_0 hS, xP80_2 hS, xT81 hS, xL81 hS, xT82 hS, xL82 hS, xT83 hS, xL83 hS, xT84 hS, xL84 hS, xT85 hS, xL85 hS, wT hS hw, wP0 hS hw, wP2 hS hw, wP4 hS hw, wP7 hS hw, wP9 hS hw, wT1 hS hw, wL1 hS hw, wT2 hS hw, wL2 hS hw, wT3 hS hw, wL3 hS hw, wT4 hS hw, wL4 hS hw, wT5 hS hw, wL5 hS hw]
    rw [gd_ok (ib_nI (by omega) (by decide)), gd_ok (ib_nI (by omega) (by decide)), nI_clamp (by omega), hb]
    simp only [mT_S, hTx.2.1, gt_self, gd_t, lp_some, st_d, nm_d, on_none, on_some, cl_some, mI_mk, mX_mk, setI_mk, u2_row, rowS_s, rowU_s, hTx.2.2.1]
    rw [addm1]
    have ih := ih fu (by omega) (by omega)
    unfold cntM
    by_cases h : kyN N t = key
    · rw [if_pos (by rw [h]), if_pos h]; rfl
    · rw [if_neg (fun q => h ((nI_eq (by omega) (by omega)).mp q)), if_neg h]
      exact ih
theorem Xcounts (hS : LaS S) (hw : isW w) (hR : RelW I X S w N nc ns nt) (hG : GN N nc ns nt) {key : Nat} (hk : key < 3) : f_X8_counts (I, X, S) w (nI key) = some (encC (cntM N key nt), (I, X, S)) := by
  rw [f_X8_counts]
  simp only [gt_self, gd_t, lp_some, st_d, nm_d, on_none, on_some, cl_some, mI_mk, mX_mk, setI_mk, u2_row, rowS_s, rowU_s, xT0 hS, xP0_0 hS, xP0_1 hS, xP0_2 hS, xP0_3 hS, xP0_4 hS, xP0_5 hS, xP0_6 hS, xP0_7 hS, xP0_8 hS, xT73 hS, xP73_0 hS, xT74 hS, xL74 hS, xP73_1 hS, xT75 hS, xL75 hS, xP73_2 hS, xT76 hS, xL76 hS, xP73_3 hS, xT77 hS, xL77 hS, xT78 hS, xP78_0 hS, xT79 hS, xL79 hS, xT80 hS, xP80_0 hS, xP80_2 hS, xT81 hS, xL81 hS, xT82 hS, xL82 hS, xT83 hS, xL83 hS, xT84 hS, xL84 hS, xT85 hS, xL85 hS, wT hS hw, wP0 hS hw, wP2 hS hw, wP4 hS hw, wP7 hS hw, wP9 hS hw, wT1 hS hw, wL1 hS hw, wT2 hS hw, wL2 hS hw, wT3 hS hw, wL3 hS hw, wT4 hS hw, wL4 hS hw, wT5 hS hw, wL5 hS hw]
  rw [hR.1.2.2.2.2.2.2.2, hG.2.2.2.2.1]
  exact XcntLoop hS hw hR.2.2.2 hG.2.2.2.2.2.2 hG.2.2.2.2.2.1 hk nt FU (Nat.le_refl _) (FU_ge (by have := hG.2.2.2.2.2.1; omega))
theorem Xcounting_n (hS : LaS S) (hw : isW w) (hR : RelW I X S w N nc ns nt) (hG : GN N nc ns nt) {key : Nat} (hk : key < 3) (hq : cntM N key nt = none) : f_X8_counting (I, X, S) w (nI key) = some (none, (I, X, S)) := by
  rw [f_X8_counting]
  simp only [gt_self, gd_t, lp_some, st_d, nm_d, on_none, on_some, cl_some, mI_mk, mX_mk, setI_mk, u2_row, rowS_s, rowU_s, xT0 hS, xP0_0 hS, xP0_1 hS, xP0_2 hS, xP0_3 hS, xP0_4 hS, xP0_5 hS, xP0_6 hS, xP0_7 hS, xP0_8 hS, xT73 hS, xP73_0 hS, xT74 hS, xL74 hS, xP73_1 hS, xT75 hS, xL75 hS, xP73_2 hS, xT76 hS, xL76 hS, xP73_3 hS, xT77 hS, xL77 hS, xT78 hS, xP78_0 hS, xT79 hS, xL79 hS, xT80 hS, xP80_0 hS, xP80_2 hS, xT81 hS, xL81 hS, xT82 hS, xL82 hS, xT83 hS, xL83 hS, xT84 hS, xL84 hS, xT85 hS, xL85 hS, wT hS hw, wP0 hS hw, wP2 hS hw, wP4 hS hw, wP7 hS hw, wP9 hS hw, wT1 hS hw, wL1 hS hw, wT2 hS hw, wL2 hS hw, wT3 hS hw, wL3 hS hw, wT4 hS hw, wL4 hS hw, wT5 hS hw, wL5 hS hw]
  rw [Xcounts hS hw hR hG hk, hq]
  simp only [gt_self, gd_t, lp_some, st_d, nm_d, on_none, on_some, cl_some, mI_mk, mX_mk, setI_mk, u2_row, rowS_s, rowU_s, xT0 hS, xP0_0 hS, xP0_1 hS, xP0_2 hS, xP0_3 hS, xP0_4 hS, xP0_5 hS, xP0_6 hS, xP0_7 hS, xP0_8 hS, xT73 hS, xP73_0 hS, xT74 hS, xL74 hS, xP73_1 hS, xT75 hS, xL75 hS, xP73_2 hS, xT76 hS, xL76 hS, xP73_3 hS, xT77 hS, xL77 hS, xT78 hS, xP78_0 hS, xT79 hS, xL79 hS, xT80 hS, xP80_0 hS, xP80_2 hS, xT81 hS, xL81 hS, xT82 hS, xL82 hS, xT83 hS, xL83 hS, xT84 hS, xL84 hS, xT85 hS, xL85 hS, wT hS hw, wP0 hS hw, wP2 hS hw, wP4 hS hw, wP7 hS hw, wP9 hS hw, wT1 hS hw, wL1 hS hw, wT2 hS hw, wL2 hS hw, wT3 hS hw, wL3 hS hw, wT4 hS hw, wL4 hS hw, wT5 hS hw, wL5 hS hw]
  rw [if_pos (encC_no rfl)]
theorem Xcounting_s (hS : LaS S) (hw : isW w) (hR : RelW I X S w N nc ns nt) (hG : GN N nc ns nt) {key t : Nat} (hk : key < 3) (hq : cntM N key nt = some t) : ∃ b, f_X8_counting (I, X, S) w (nI key) = some (some b, (I, X, S)) ∧ TxO I S b key (cdN N t) (N (70 + 2 * t + 1)) (sgN N t) := by
  have ht := cnt_lt hq
  have h14 := hG.2.2.2.2.2.1
  obtain ⟨b, hb, hTx⟩ := hR.2.2.2 t ht.1
  refine ⟨b, ?_, by rw [← ht.2]; exact hTx⟩
  rw [f_X8_counting]
  simp only [gt_self, gd_t, lp_some, st_d, nm_d, on_none, on_some, cl_some, mI_mk, mX_mk, setI_mk, u2_row, rowS_s, rowU_s, xT0 hS, xP0_0 hS, xP0_1 hS, xP0_2 hS, xP0_3 hS, xP0_4 hS, xP0_5 hS, xP0_6 hS, xP0_7 hS, xP0_8 hS, xT73 hS, xP73_0 hS, xT74 hS, xL74 hS, xP73_1 hS, xT75 hS, xL75 hS, xP73_2 hS, xT76 hS, xL76 hS, xP73_3 hS, xT77 hS, xL77 hS, xT78 hS, xP78_0 hS, xT79 hS, xL79 hS, xT80 hS, xP80_0 hS, xP80_2 hS, xT81 hS, xL81 hS, xT82 hS, xL82 hS, xT83 hS, xL83 hS, xT84 hS, xL84 hS, xT85 hS, xL85 hS, wT hS hw, wP0 hS hw, wP2 hS hw, wP4 hS hw, wP7 hS hw, wP9 hS hw, wT1 hS hw, wL1 hS hw, wT2 hS hw, wL2 hS hw, wT3 hS hw, wL3 hS hw, wT4 hS hw, wL4 hS hw, wT5 hS hw, wL5 hS hw]
  rw [Xcounts hS hw hR hG hk, hq]
  simp only [gt_self, gd_t, lp_some, st_d, nm_d, on_none, on_some, cl_some, mI_mk, mX_mk, setI_mk, u2_row, rowS_s, rowU_s, xT0 hS, xP0_0 hS, xP0_1 hS, xP0_2 hS, xP0_3 hS, xP0_4 hS, xP0_5 hS, xP0_6 hS, xP0_7 hS, xP0_8 hS, xT73 hS, xP73_0 hS, xT74 hS, xL74 hS, xP73_1 hS, xT75 hS, xL75 hS, xP73_2 hS, xT76 hS, xL76 hS, xP73_3 hS, xT77 hS, xL77 hS, xT78 hS, xP78_0 hS, xT79 hS, xL79 hS, xT80 hS, xP80_0 hS, xP80_2 hS, xT81 hS, xL81 hS, xT82 hS, xL82 hS, xT83 hS, xL83 hS, xT84 hS, xL84 hS, xT85 hS, xL85 hS, wT hS hw, wP0 hS hw, wP2 hS hw, wP4 hS hw, wP7 hS hw, wP9 hS hw, wT1 hS hw, wL1 hS hw, wT2 hS hw, wL2 hS hw, wT3 hS hw, wL3 hS hw, wT4 hS hw, wL4 hS hw, wT5 hS hw, wL5 hS hw]
  rw [if_neg (encC_pos rfl (by omega)), show encC (some t) = nI t from rfl, gd_ok (ib_nI (by omega) (by decide)), nI_clamp (by omega), hb]
  simp only [gt_self, gd_t, lp_some, st_d, nm_d, on_none, on_some, cl_some, mI_mk, mX_mk, setI_mk, u2_row, rowS_s, rowU_s]
theorem Xheld (M : Mem) (v : Int32) : f_X9_held M v 999 = some (clampM v, M) := by
  have h : imax 0 (imin v 999) = clampM v := by
    unfold imax imin clampM
    by_cases h : 999 < v
    · rw [if_pos h, if_pos (show (0 : Int32) < 999 by decide), if_pos (Int32.le_of_lt (Int32.lt_trans (show (0 : Int32) < 999 by decide) h)), if_neg (Int32.not_le.mpr h)]
    · rw [if_neg h]
      by_cases h2 : 0 < v
      · rw [if_pos h2, if_pos (Int32.le_of_lt h2), if_pos (Int32.not_lt.mp h)]
      · rw [if_neg h2]
        by_cases h3 : 0 ≤ v
        · rw [if_pos h3, if_pos (Int32.not_lt.mp h)]
          exact Int32.le_antisymm h3 (Int32.not_lt.mp h2)
        · rw [if_neg h3]
  rw [f_X9_held, h]
theorem clamp_small {n : Nat} (h : n ≤ 999) : clampM (nI n) = nI n := by
  unfold clampM
  rw [if_pos (nI_pos' (by omega)), if_pos (show nI n ≤ (999 : Int32) from nI_le (b := 999) h (by decide))]
/-- without a law: warm, frogs and home stay within bounds -/
theorem plain_small (hr : GR N nc ns) {c : Nat} (hc : c < nc) {h : Int32} (hh : h = 0 ∨ h = 1) : clampM (N (38 + 4 * c + 2) + N (38 + 4 * c + 3) + 20 * h) = N (38 + 4 * c + 2) + N (38 + 4 * c + 3) + 20 * h := by
  obtain ⟨-, -, ⟨a, ha, ea⟩, b, hb, eb⟩ := hr.1 c hc
  rw [ea, eb]
  have : ∃ k, k ≤ 1 ∧ h = nI k := by
    rcases hh with e | e
    · exact ⟨0, by omega, e⟩
    · exact ⟨1, by omega, e⟩
  obtain ⟨k, hk, e⟩ := this
  rw [e, show (20 : Int32) = nI 20 from rfl, pk_mul, nI_add, nI_add]
  exact clamp_small (by omega)
theorem XlikedFrom (hS : LaS S) (hw : isW w) (hR : RelW I X S w N nc ns nt) (h8 : nc ≤ 8) {c : Nat} (hc : c < nc) (p h : Int32) : f_X0_likedFrom (I, X, S) (w + 6 + c) p h = some (kindM (N (38 + 4 * c)) (N (38 + 4 * c + 2)) (N (38 + 4 * c + 3)) h p, (I, X, S)) := by
  obtain ⟨c0, c1, c2, c3⟩ := hR.2.1 c hc
  rw [f_X0_likedFrom]
  simp only [gt_self, gd_t, lp_some, st_d, nm_d, on_none, on_some, cl_some, mI_mk, mX_mk, setI_mk, u2_row, rowS_s, rowU_s, xT0 hS, xP0_0 hS, xP0_1 hS, xP0_2 hS, xP0_3 hS, xP0_4 hS, xP0_5 hS, xP0_6 hS, xP0_7 hS, xP0_8 hS, xT73 hS, xP73_0 hS, xT74 hS, xL74 hS, xP73_1 hS, xT75 hS, xL75 hS, xP73_2 hS, xT76 hS, xL76 hS, xP73_3 hS, xT77 hS, xL77 hS, xT78 hS, xP78_0 hS, xT79 hS, xL79 hS, xT80 hS, xP80_0 hS, xP80_2 hS, xT81 hS, xL81 hS, xT82 hS, xL82 hS, xT83 hS, xL83 hS, xT84 hS, xL84 hS, xT85 hS, xL85 hS, wT hS hw, wP0 hS hw, wP2 hS hw, wP4 hS hw, wP7 hS hw, wP9 hS hw, wT1 hS hw, wL1 hS hw, wT2 hS hw, wL2 hS hw, wT3 hS hw, wL3 hS hw, wT4 hS hw, wL4 hS hw, wT5 hS hw, wL5 hS hw, wTc hS hw (show c < 8 by omega), c0, c2, c3]
  unfold kindM
  by_cases h1 : N (38 + 4 * c) = 1
  · simp only [if_pos h1]
  simp only [if_neg h1]
  by_cases h2 : N (38 + 4 * c) = 2
  · simp only [if_pos h2]
  simp only [if_neg h2]
  by_cases h3 : N (38 + 4 * c) = 3
  · simp only [if_pos h3]
  simp only [if_neg h3]
  by_cases h4 : N (38 + 4 * c) = 4
  · simp only [if_pos h4]
  simp only [if_neg h4]
  by_cases h5 : N (38 + 4 * c) = 5
  · simp only [if_pos h5]
  simp only [if_neg h5]
theorem pile_T (hS : LaS S) (hw : isW w) : S.2.1 (w + 5) = 20 := wT5 (I := fun _ _ => 0) (X := fun _ _ => none) hS hw
theorem pile_L (hS : LaS S) (hw : isW w) : S.2.2.1 (w + 5) = 96 := wL5 (I := fun _ _ => 0) (X := fun _ _ => none) hS hw
theorem Xliking (hS : LaS S) (hw : isW w) (hR : RelW I X S w N nc ns nt) (hG : GN N nc ns nt) (hr : GR N nc ns) {c : Nat} (hc : c < nc) {h : Int32} (hh : h = 0 ∨ h = 1) : ∃ J, f_X8_liking (I, X, S) w (nI c) h = some (likesM N nt c h, (J, X, S)) ∧ ∀ a, a ≠ w + 5 → J a = I a := by
  have h8 := hG.2.1
  have hlt := hw.lt
  rw [f_X8_liking]
  simp only [gt_self, gd_t, lp_some, st_d, nm_d, on_none, on_some, cl_some, mI_mk, mX_mk, setI_mk, u2_row, rowS_s, rowU_s, xT0 hS, xP0_0 hS, xP0_1 hS, xP0_2 hS, xP0_3 hS, xP0_4 hS, xP0_5 hS, xP0_6 hS, xP0_7 hS, xP0_8 hS, xT73 hS, xP73_0 hS, xT74 hS, xL74 hS, xP73_1 hS, xT75 hS, xL75 hS, xP73_2 hS, xT76 hS, xL76 hS, xP73_3 hS, xT77 hS, xL77 hS, xT78 hS, xP78_0 hS, xT79 hS, xL79 hS, xT80 hS, xP80_0 hS, xP80_2 hS, xT81 hS, xL81 hS, xT82 hS, xL82 hS, xT83 hS, xL83 hS, xT84 hS, xL84 hS, xT85 hS, xL85 hS, wT hS hw, wP0 hS hw, wP2 hS hw, wP4 hS hw, wP7 hS hw, wP9 hS hw, wT1 hS hw, wL1 hS hw, wT2 hS hw, wL2 hS hw, wT3 hS hw, wL3 hS hw, wT4 hS hw, wL4 hS hw, wT5 hS hw, wL5 hS hw]
  rw [gd_ok (ib_nI (by omega) (by decide)), nI_clamp (by omega)]
  simp only [wPc hS hw (show c < 8 by omega), gt_self, gd_t, lp_some, st_d, nm_d, on_none, on_some, cl_some, mI_mk, mX_mk, setI_mk, u2_row, rowS_s, rowU_s]
  obtain ⟨c0, c1, c2, c3⟩ := hR.2.1 c hc
  unfold likesM plainM
  cases hq : cntM N 0 nt with
  | none =>
    have e := Xcounting_n hS hw hR hG (key := 0) (by decide) hq
    have e : f_X8_counting (I, X, S) w 0 = _ := e
    rw [e]
    simp only [gt_self, gd_t, lp_some, st_d, nm_d, on_none, on_some, cl_some, mI_mk, mX_mk, setI_mk, u2_row, rowS_s, rowU_s, xT0 hS, xP0_0 hS, xP0_1 hS, xP0_2 hS, xP0_3 hS, xP0_4 hS, xP0_5 hS, xP0_6 hS, xP0_7 hS, xP0_8 hS, xT73 hS, xP73_0 hS, xT74 hS, xL74 hS, xP73_1 hS, xT75 hS, xL75 hS, xP73_2 hS, xT76 hS, xL76 hS, xP73_3 hS, xT77 hS, xL77 hS, xT78 hS, xP78_0 hS, xT79 hS, xL79 hS, xT80 hS, xP80_0 hS, xP80_2 hS, xT81 hS, xL81 hS, xT82 hS, xL82 hS, xT83 hS, xL83 hS, xT84 hS, xL84 hS, xT85 hS, xL85 hS, wT hS hw, wP0 hS hw, wP2 hS hw, wP4 hS hw, wP7 hS hw, wP9 hS hw, wT1 hS hw, wL1 hS hw, wT2 hS hw, wL2 hS hw, wT3 hS hw, wL3 hS hw, wT4 hS hw, wL4 hS hw, wT5 hS hw, wL5 hS hw, wTc hS hw (show c < 8 by omega), c2, c3]
    rw [f_X8_liking_61]
    simp only [gt_self, gd_t, lp_some, st_d, nm_d, on_none, on_some, cl_some, mI_mk, mX_mk, setI_mk, u2_row, rowS_s, rowU_s, xT0 hS, xP0_0 hS, xP0_1 hS, xP0_2 hS, xP0_3 hS, xP0_4 hS, xP0_5 hS, xP0_6 hS, xP0_7 hS, xP0_8 hS, xT73 hS, xP73_0 hS, xT74 hS, xL74 hS, xP73_1 hS, xT75 hS, xL75 hS, xP73_2 hS, xT76 hS, xL76 hS, xP73_3 hS, xT77 hS, xL77 hS, xT78 hS, xP78_0 hS, xT79 hS, xL79 hS, xT80 hS, xP80_0 hS, xP80_2 hS, xT81 hS, xL81 hS, xT82 hS, xL82 hS, xT83 hS, xL83 hS, xT84 hS, xL84 hS, xT85 hS, xL85 hS, wT hS hw, wP0 hS hw, wP2 hS hw, wP4 hS hw, wP7 hS hw, wP9 hS hw, wT1 hS hw, wL1 hS hw, wT2 hS hw, wL2 hS hw, wT3 hS hw, wL3 hS hw, wT4 hS hw, wL4 hS hw, wT5 hS hw, wL5 hS hw, wTc hS hw (show c < 8 by omega), XlikedFrom hS hw hR h8 hc, plain_small hr hc hh]
    exact ⟨I, rfl, fun _ _ => rfl⟩
  | some t =>
    obtain ⟨b, e, hTx⟩ := Xcounting_s hS hw hR hG (key := 0) (by decide) hq
    have e : f_X8_counting (I, X, S) w 0 = _ := e
    have ht := cnt_lt hq
    have hok := (hG.2.2.2.2.2.2 t ht.1).2.2
    rw [ht.2] at hok
    rw [e]
    simp only [gt_self, gd_t, lp_some, st_d, nm_d, on_none, on_some, cl_some, mI_mk, mX_mk, setI_mk, u2_row, rowS_s, rowU_s, xT0 hS, xP0_0 hS, xP0_1 hS, xP0_2 hS, xP0_3 hS, xP0_4 hS, xP0_5 hS, xP0_6 hS, xP0_7 hS, xP0_8 hS, xT73 hS, xP73_0 hS, xT74 hS, xL74 hS, xP73_1 hS, xT75 hS, xL75 hS, xP73_2 hS, xT76 hS, xL76 hS, xP73_3 hS, xT77 hS, xL77 hS, xT78 hS, xP78_0 hS, xT79 hS, xL79 hS, xT80 hS, xP80_0 hS, xP80_2 hS, xT81 hS, xL81 hS, xT82 hS, xL82 hS, xT83 hS, xL83 hS, xT84 hS, xL84 hS, xT85 hS, xL85 hS, wT hS hw, wP0 hS hw, wP2 hS hw, wP4 hS hw, wP7 hS hw, wP9 hS hw, wT1 hS hw, wL1 hS hw, wT2 hS hw, wL2 hS hw, wT3 hS hw, wL3 hS hw, wT4 hS hw, wL4 hS hw, wT5 hS hw, wL5 hS hw, wTc hS hw (show c < 8 by omega), c2, c3]
    simp only [mT_S, hTx.2.1, gt_self, gd_t, lp_some, st_d, nm_d, on_none, on_some, cl_some, mI_mk, mX_mk, setI_mk, u2_row, rowS_s, rowU_s]
    obtain ⟨J, eJ, hJ⟩ := Xvalue (X := X) (N (38 + 4 * c + 2)) (N (38 + 4 * c + 3)) h hTx hok (by decide) (show w + 5 < 114 by omega) (pile_T hS hw) (pile_L hS hw)
    rw [eJ]
    simp only [gt_self, gd_t, lp_some, st_d, nm_d, on_none, on_some, cl_some, mI_mk, mX_mk, setI_mk, u2_row, rowS_s, rowU_s]
    rw [Xheld]
    simp only [gt_self, gd_t, lp_some, st_d, nm_d, on_none, on_some, cl_some, mI_mk, mX_mk, setI_mk, u2_row, rowS_s, rowU_s]
    have hR2 : RelW J X S w N nc ns nt := hR.same h8 hG.2.2.2.1 (fun a ha => hJ a (by unfold ownW at ha; omega))
    rw [f_X8_liking_61]
    simp only [gt_self, gd_t, lp_some, st_d, nm_d, on_none, on_some, cl_some, mI_mk, mX_mk, setI_mk, u2_row, rowS_s, rowU_s, xT0 hS, xP0_0 hS, xP0_1 hS, xP0_2 hS, xP0_3 hS, xP0_4 hS, xP0_5 hS, xP0_6 hS, xP0_7 hS, xP0_8 hS, xT73 hS, xP73_0 hS, xT74 hS, xL74 hS, xP73_1 hS, xT75 hS, xL75 hS, xP73_2 hS, xT76 hS, xL76 hS, xP73_3 hS, xT77 hS, xL77 hS, xT78 hS, xP78_0 hS, xT79 hS, xL79 hS, xT80 hS, xP80_0 hS, xP80_2 hS, xT81 hS, xL81 hS, xT82 hS, xL82 hS, xT83 hS, xL83 hS, xT84 hS, xL84 hS, xT85 hS, xL85 hS, wT hS hw, wP0 hS hw, wP2 hS hw, wP4 hS hw, wP7 hS hw, wP9 hS hw, wT1 hS hw, wL1 hS hw, wT2 hS hw, wL2 hS hw, wT3 hS hw, wL3 hS hw, wT4 hS hw, wL4 hS hw, wT5 hS hw, wL5 hS hw, wTc hS hw (show c < 8 by omega), XlikedFrom hS hw hR2 h8 hc]
    exact ⟨J, rfl, hJ⟩
end XRead
