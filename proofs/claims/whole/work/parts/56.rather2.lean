/-! rather: who would rather -/
def gtsM (N : Nat → Int32) (guest : Nat → Option Nat) (s c : Nat) : Bool := match guest c with
  | none => true
  | some g => decide (N (8 + 3 * g) < N (8 + 3 * s) ∨ (N (8 + 3 * s) = N (8 + 3 * g) ∧ s < g))
def btM (nest : Option Nat) (L : Nat → Int32) (c : Nat) : Bool := match nest with
  | none => true
  | some q => decide (L q < L c)
def raM (N : Nat → Int32) (nt : Nat) (T : (Nat → Option Nat) × (Nat → Option Nat)) (s c : Nat) : Bool := btM (T.1 s) (LN N nt s) c && gtsM N T.2 s c && decide (N 4 ≤ LN N nt s c)
def fsM (f : Nat → Bool) : Nat → Nat → Option Nat
  | 0, _ => none
  | d + 1, c => if f c = true then some c else fsM f d (c + 1)
theorem fs_lt {f : Nat → Bool} : ∀ {d c q : Nat}, fsM f d c = some q → c ≤ q ∧ q < c + d
  | 0, _, _, h => by simp [fsM] at h
  | d + 1, c, q, h => by
    unfold fsM at h
    by_cases e : f c = true
    · rw [if_pos e] at h
      have := Option.some.inj h
      omega
    · rw [if_neg e] at h
      have := fs_lt h
      omega
section Rath2
variable {I : Nat → Nat → Int32} {X : Nat → Nat → Option Nat} {S : Sta} {w : Nat} {N : Nat → Int32} {J : Nat → Nat → Int32} {nc ns nt : Nat} {T : (Nat → Option Nat) × (Nat → Option Nat)}
theorem XbetterL (hS : LaS S) (hw : isW w) (hR : RelW I X S w N nc ns nt) (hG : GN N nc ns nt) (hL : LkX I N nc nt) {s : Nat} (hs : s < ns) (hT1 : ∀ q, T.1 s = some q → q < nc) (hT2 : ∀ c g, T.2 c = some g → g < ns) (h75 : ∀ c, c < 8 → I 75 c = encC (T.2 c)) : ∀ (d c fu : Nat), c + d = nc → d < fu → f_X4_betterFor_10 fu (I, X, S) 73 w (nI s) (encC (T.1 s)) (nI c) = some (encC (fsM (raM N nt T s) d c), (I, X, S)) := by
  have h8 := hG.2.1
  have h10 := hG.2.2.2.1
  intro d
  induction d with
  | zero =>
    intro c fu hc hf
    obtain ⟨fu, rfl⟩ : ∃ m, fu = m + 1 := ⟨fu - 1, by omega⟩
    rw [f_X4_betterFor_10]
    simp only [gt_self, gd_t, lp_some, st_d, nm_d, on_none, on_some, cl_some, mI_mk, mX_mk, setI_mk, u2_row, rowS_s, rowU_s, xT0 hS, xP0_0 hS, xP0_1 hS, xP0_2 hS, xP0_3 hS, xP0_4 hS, xP0_5 hS, xP0_6 hS, xP0_7 hS, xP0_8 hS, xT73 hS, xP73_0 hS, xT74 hS, xL74 hS, xP73_1 hS, xT75 hS, xL75 hS, xP73_2 hS, xT76 hS, xL76 hS, xP73_3 hS, xT77 hS, xL77 hS, xT78 hS, xP78_0 hS, xT79 hS, xL79 hS, xT80 hS, xP80_0 hS, xP80_2 hS, xT81 hS, xL81 hS, xT82 hS, xL82 hS, xT83 hS, xL83 hS, xT84 hS, xL84 hS, xT85 hS, xL85 hS, wT hS hw, wP0 hS hw, wP2 hS hw, wP4 hS hw, wP7 hS hw, wP9 hS hw, wT1 hS hw, wL1 hS hw, wT2 hS hw, wL2 hS hw, wT3 hS hw, wL3 hS hw, wT4 hS hw, wL4 hS hw, wT5 hS hw, wL5 hS hw]
    rw [hR.1.2.1, hG.1, if_pos (nI_le (show nc ≤ c by omega) (by omega))]
    rfl
  | succ d ih =>
    intro c fu hc hf
    obtain ⟨fu, rfl⟩ : ∃ m, fu = m + 1 := ⟨fu - 1, by omega⟩
    have ih := ih (c + 1) fu (by omega) (by omega)
    rw [f_X4_betterFor_10]
    simp only [gt_self, gd_t, lp_some, st_d, nm_d, on_none, on_some, cl_some, mI_mk, mX_mk, setI_mk, u2_row, rowS_s, rowU_s, xT0 hS, xP0_0 hS, xP0_1 hS, xP0_2 hS, xP0_3 hS, xP0_4 hS, xP0_5 hS, xP0_6 hS, xP0_7 hS, xP0_8 hS, xT73 hS, xP73_0 hS, xT74 hS, xL74 hS, xP73_1 hS, xT75 hS, xL75 hS, xP73_2 hS, xT76 hS, xL76 hS, xP73_3 hS, xT77 hS, xL77 hS, xT78 hS, xP78_0 hS, xT79 hS, xL79 hS, xT80 hS, xP80_0 hS, xP80_2 hS, xT81 hS, xL81 hS, xT82 hS, xL82 hS, xT83 hS, xL83 hS, xT84 hS, xL84 hS, xT85 hS, xL85 hS, wT hS hw, wP0 hS hw, wP2 hS hw, wP4 hS hw, wP7 hS hw, wP9 hS hw, wT1 hS hw, wL1 hS hw, wT2 hS hw, wL2 hS hw, wT3 hS hw, wL3 hS hw, wT4 hS hw, wL4 hS hw, wT5 hS hw, wL5 hS hw]
    rw [hR.1.2.1, hG.1, if_neg (nI_ge (show c < nc by omega) (by omega))]
    have s82 : ∀ b g, f_X4_betterFor_82 (f_X4_betterFor_10 fu) (I, X, S) 73 w (nI s) (encC (T.1 s)) (nI c) (bI b) (bI g) = if (b && g && decide (N 4 ≤ LN N nt s c)) = true then some (nI c, (I, X, S)) else some (encC (fsM (raM N nt T s) d (c + 1)), (I, X, S)) := by
      intro b g
      rw [f_X4_betterFor_82, ifB, ifB, nI_1, ih]
      cases b with
      | false => rfl
      | true =>
        cases g with
        | false => rfl
        | true =>
          rw [if_pos rfl, if_pos rfl]
          simp only [gt_self, gd_t, lp_some, st_d, nm_d, on_none, on_some, cl_some, mI_mk, mX_mk, setI_mk, u2_row, rowS_s, rowU_s, xT0 hS, xP0_0 hS, xP0_1 hS, xP0_2 hS, xP0_3 hS, xP0_4 hS, xP0_5 hS, xP0_6 hS, xP0_7 hS, xP0_8 hS, xT73 hS, xP73_0 hS, xT74 hS, xL74 hS, xP73_1 hS, xT75 hS, xL75 hS, xP73_2 hS, xT76 hS, xL76 hS, xP73_3 hS, xT77 hS, xL77 hS, xT78 hS, xP78_0 hS, xT79 hS, xL79 hS, xT80 hS, xP80_0 hS, xP80_2 hS, xT81 hS, xL81 hS, xT82 hS, xL82 hS, xT83 hS, xL83 hS, xT84 hS, xL84 hS, xT85 hS, xL85 hS, wT hS hw, wP0 hS hw, wP2 hS hw, wP4 hS hw, wP7 hS hw, wP9 hS hw, wT1 hS hw, wL1 hS hw, wT2 hS hw, wL2 hS hw, wT3 hS hw, wL3 hS hw, wT4 hS hw, wL4 hS hw, wT5 hS hw, wL5 hS hw]
          rw [Xwants hS hw hR hG hL hs (show c < nc by omega)]
          simp only [cl_some, ifB, Bool.true_and]
          rw [ih]
    have s48 : ∀ b, f_X4_betterFor_48 (f_X4_betterFor_10 fu) (I, X, S) 73 w (nI s) (encC (T.1 s)) (nI c) (bI b) = if (b && gtsM N T.2 s c && decide (N 4 ≤ LN N nt s c)) = true then some (nI c, (I, X, S)) else some (encC (fsM (raM N nt T s) d (c + 1)), (I, X, S)) := by
      intro b
      rw [f_X4_betterFor_48]
      simp only [gt_self, gd_t, lp_some, st_d, nm_d, on_none, on_some, cl_some, mI_mk, mX_mk, setI_mk, u2_row, rowS_s, rowU_s, xT0 hS, xP0_0 hS, xP0_1 hS, xP0_2 hS, xP0_3 hS, xP0_4 hS, xP0_5 hS, xP0_6 hS, xP0_7 hS, xP0_8 hS, xT73 hS, xP73_0 hS, xT74 hS, xL74 hS, xP73_1 hS, xT75 hS, xL75 hS, xP73_2 hS, xT76 hS, xL76 hS, xP73_3 hS, xT77 hS, xL77 hS, xT78 hS, xP78_0 hS, xT79 hS, xL79 hS, xT80 hS, xP80_0 hS, xP80_2 hS, xT81 hS, xL81 hS, xT82 hS, xL82 hS, xT83 hS, xL83 hS, xT84 hS, xL84 hS, xT85 hS, xL85 hS, wT hS hw, wP0 hS hw, wP2 hS hw, wP4 hS hw, wP7 hS hw, wP9 hS hw, wT1 hS hw, wL1 hS hw, wT2 hS hw, wL2 hS hw, wT3 hS hw, wL3 hS hw, wT4 hS hw, wL4 hS hw, wT5 hS hw, wL5 hS hw, gd_ok (ib_nI (show c < 8 by omega) (show 8 < 2 ^ 31 by decide)), nI_clamp (show c < 2 ^ 31 by omega)]
      rw [h75 c (by omega)]
      cases hg : T.2 c with
      | none =>
        rw [if_pos (encC_no rfl), show (1 : Int32) = bI true from rfl, s82, show gtsM N T.2 s c = true by unfold gtsM; rw [hg]]
      | some g =>
        have hgl := hT2 c g hg
        rw [if_neg (encC_pos rfl (by omega)), show encC (some g) = nI g from rfl, XkeepsFirst hS hw hR h10 hs hgl]
        simp only [cl_some, ifB]
        have e : gtsM N T.2 s c = decide (N (8 + 3 * g) < N (8 + 3 * s) ∨ (N (8 + 3 * s) = N (8 + 3 * g) ∧ s < g)) := by unfold gtsM; rw [hg]
        rw [← e]
        cases gtsM N T.2 s c with
        | true => rw [if_pos rfl, show (1 : Int32) = bI true from rfl, s82]
        | false => rw [if_neg Bool.false_ne_true, show (0 : Int32) = bI false from rfl, s82]
    have fin : (if raM N nt T s c = true then some (nI c, ((I, X, S) : Mem)) else some (encC (fsM (raM N nt T s) d (c + 1)), (I, X, S))) = some (encC (fsM (raM N nt T s) (d + 1) c), (I, X, S)) := by
      show _ = some (encC (if raM N nt T s c = true then some c else fsM (raM N nt T s) d (c + 1)), (I, X, S))
      by_cases e : raM N nt T s c = true
      · rw [if_pos e, if_pos e]; rfl
      · rw [if_neg e, if_neg e]
    rw [← fin, show raM N nt T s c = (btM (T.1 s) (LN N nt s) c && gtsM N T.2 s c && decide (N 4 ≤ LN N nt s c)) from rfl]
    cases hq : T.1 s with
    | none =>
      rw [hq] at s48
      rw [if_pos (encC_no rfl), show (1 : Int32) = bI true from rfl, s48]
      rfl
    | some q =>
      have hql := hT1 q hq
      rw [hq, show encC (some q) = nI q from rfl] at s48
      rw [if_neg (encC_pos rfl (by omega)), Xliked hS hw hR hG hL hs (show c < nc by omega)]
      simp only [gt_self, gd_t, lp_some, st_d, nm_d, on_none, on_some, cl_some, mI_mk, mX_mk, setI_mk, u2_row, rowS_s, rowU_s, xT0 hS, xP0_0 hS, xP0_1 hS, xP0_2 hS, xP0_3 hS, xP0_4 hS, xP0_5 hS, xP0_6 hS, xP0_7 hS, xP0_8 hS, xT73 hS, xP73_0 hS, xT74 hS, xL74 hS, xP73_1 hS, xT75 hS, xL75 hS, xP73_2 hS, xT76 hS, xL76 hS, xP73_3 hS, xT77 hS, xL77 hS, xT78 hS, xP78_0 hS, xT79 hS, xL79 hS, xT80 hS, xP80_0 hS, xP80_2 hS, xT81 hS, xL81 hS, xT82 hS, xL82 hS, xT83 hS, xL83 hS, xT84 hS, xL84 hS, xT85 hS, xL85 hS, wT hS hw, wP0 hS hw, wP2 hS hw, wP4 hS hw, wP7 hS hw, wP9 hS hw, wT1 hS hw, wL1 hS hw, wT2 hS hw, wL2 hS hw, wT3 hS hw, wL3 hS hw, wT4 hS hw, wL4 hS hw, wT5 hS hw, wL5 hS hw]
      rw [show encC (some q) = nI q from rfl, Xliked hS hw hR hG hL hs hql]
      simp only [cl_some]
      have e1 : btM (some q) (LN N nt s) c = decide (LN N nt s q < LN N nt s c) := rfl
      by_cases e : LN N nt s c ≤ LN N nt s q
      · rw [if_pos e, show (0 : Int32) = bI false from rfl, s48, e1, decide_eq_false (Int32.not_lt.mpr e)]
      · rw [if_neg e, show (1 : Int32) = bI true from rfl, s48, e1, decide_eq_true (Int32.not_le.mp e)]
theorem XbetterFor (hS : LaS S) (hw : isW w) (hR : RelW I X S w N nc ns nt) (hG : GN N nc ns nt) (hL : LkX I N nc nt) {s : Nat} (hs : s < ns) (hT1 : ∀ q, T.1 s = some q → q < nc) (hT2 : ∀ c g, T.2 c = some g → g < ns) (h74 : ∀ s, s < 10 → I 74 s = encC (T.1 s)) (h75 : ∀ c, c < 8 → I 75 c = encC (T.2 c)) : f_X4_betterFor (I, X, S) 73 w (nI s) = some (encC (fsM (raM N nt T s) nc 0), (I, X, S)) := by
  have h10 := hG.2.2.2.1
  rw [f_X4_betterFor]
  simp only [gt_self, gd_t, lp_some, st_d, nm_d, on_none, on_some, cl_some, mI_mk, mX_mk, setI_mk, u2_row, rowS_s, rowU_s, xT0 hS, xP0_0 hS, xP0_1 hS, xP0_2 hS, xP0_3 hS, xP0_4 hS, xP0_5 hS, xP0_6 hS, xP0_7 hS, xP0_8 hS, xT73 hS, xP73_0 hS, xT74 hS, xL74 hS, xP73_1 hS, xT75 hS, xL75 hS, xP73_2 hS, xT76 hS, xL76 hS, xP73_3 hS, xT77 hS, xL77 hS, xT78 hS, xP78_0 hS, xT79 hS, xL79 hS, xT80 hS, xP80_0 hS, xP80_2 hS, xT81 hS, xL81 hS, xT82 hS, xL82 hS, xT83 hS, xL83 hS, xT84 hS, xL84 hS, xT85 hS, xL85 hS, wT hS hw, wP0 hS hw, wP2 hS hw, wP4 hS hw, wP7 hS hw, wP9 hS hw, wT1 hS hw, wL1 hS hw, wT2 hS hw, wL2 hS hw, wT3 hS hw, wL3 hS hw, wT4 hS hw, wL4 hS hw, wT5 hS hw, wL5 hS hw, gd_ok (ib_nI (show s < 10 by omega) (show 10 < 2 ^ 31 by decide)), nI_clamp (show s < 2 ^ 31 by omega)]
  rw [h74 s (by omega)]
  exact XbetterL hS hw hR hG hL hs hT1 hT2 h75 nc 0 FU (by omega) (FU_ge (by have := hG.2.1; omega))
def rlM (aw : Nat → Bool) (nc : Nat) (g : Nat → Nat → Bool) : Nat → Nat → Int32
  | 0, _ => -1000000005
  | d + 1, s => match (if aw s = true then none else fsM (g s) nc 0) with
    | none => rlM aw nc g d (s + 1)
    | some c => 10 * nI s + nI c
theorem XratherL (hS : LaS S) (hw1 : w = 1) (hw : isW w) (hR : RelW I X S w N nc ns nt) (hG : GN N nc ns nt) (hr : GR N nc ns) (hL : LkX I N nc nt) (hT1 : ∀ s q, T.1 s = some q → q < nc) (hT2 : ∀ c g, T.2 c = some g → g < ns) (h74 : ∀ s, s < 10 → I 74 s = encC (T.1 s)) (h75 : ∀ c, c < 8 → I 75 c = encC (T.2 c)) : ∀ (d s fu : Nat), s + d = ns → d < fu → f_X9_rather_56 fu (I, X, S) 0 (nI s) = some (rlM (awayN N) nc (raM N nt T) d s, (I, X, S)) := by
  have h8 := hG.2.1
  have h10 := hG.2.2.2.1
  intro d
  induction d with
  | zero =>
    intro s fu hs hf
    obtain ⟨fu, rfl⟩ : ∃ m, fu = m + 1 := ⟨fu - 1, by omega⟩
    rw [f_X9_rather_56]
    simp only [gt_self, gd_t, lp_some, st_d, nm_d, on_none, on_some, cl_some, mI_mk, mX_mk, setI_mk, u2_row, rowS_s, rowU_s, xT0 hS, xP0_1 hS, xP0_2 hS, xP0_3 hS, xP0_4 hS, xP0_5 hS, xP0_6 hS, xP0_7 hS, xP0_8 hS, xT73 hS, xP73_0 hS, xT74 hS, xL74 hS, xP73_1 hS, xT75 hS, xL75 hS, xP73_2 hS, xT76 hS, xL76 hS, xP73_3 hS, xT77 hS, xL77 hS, xT78 hS, xP78_0 hS, xT79 hS, xL79 hS, xT80 hS, xP80_0 hS, xP80_2 hS, xT81 hS, xL81 hS, xT82 hS, xL82 hS, xT83 hS, xL83 hS, xT84 hS, xL84 hS, xT85 hS, xL85 hS, xP0_0w hS hw1, wT hS hw, wP0 hS hw, wP2 hS hw, wP4 hS hw, wP7 hS hw, wP9 hS hw, wT1 hS hw, wL1 hS hw, wT2 hS hw, wL2 hS hw, wT3 hS hw, wL3 hS hw, wT4 hS hw, wL4 hS hw, wT5 hS hw, wL5 hS hw]
    rw [hR.1.2.2.1, hG.2.2.1, if_pos (nI_le (show ns ≤ s by omega) (by omega))]
    rfl
  | succ d ih =>
    intro s fu hs hf
    obtain ⟨fu, rfl⟩ : ∃ m, fu = m + 1 := ⟨fu - 1, by omega⟩
    have ih := ih (s + 1) fu (by omega) (by omega)
    have hsn : s < ns := by omega
    rw [f_X9_rather_56]
    simp only [gt_self, gd_t, lp_some, st_d, nm_d, on_none, on_some, cl_some, mI_mk, mX_mk, setI_mk, u2_row, rowS_s, rowU_s, xT0 hS, xP0_1 hS, xP0_2 hS, xP0_3 hS, xP0_4 hS, xP0_5 hS, xP0_6 hS, xP0_7 hS, xP0_8 hS, xT73 hS, xP73_0 hS, xT74 hS, xL74 hS, xP73_1 hS, xT75 hS, xL75 hS, xP73_2 hS, xT76 hS, xL76 hS, xP73_3 hS, xT77 hS, xL77 hS, xT78 hS, xP78_0 hS, xT79 hS, xL79 hS, xT80 hS, xP80_0 hS, xP80_2 hS, xT81 hS, xL81 hS, xT82 hS, xL82 hS, xT83 hS, xL83 hS, xT84 hS, xL84 hS, xT85 hS, xL85 hS, xP0_0w hS hw1, wT hS hw, wP0 hS hw, wP2 hS hw, wP4 hS hw, wP7 hS hw, wP9 hS hw, wT1 hS hw, wL1 hS hw, wT2 hS hw, wL2 hS hw, wT3 hS hw, wL3 hS hw, wT4 hS hw, wL4 hS hw, wT5 hS hw, wL5 hS hw]
    rw [hR.1.2.2.1, hG.2.2.1, if_neg (nI_ge (show s < ns by omega) (by omega))]
    simp only [gd_ok (ib_nI (show s < 10 by omega) (show 10 < 2 ^ 31 by decide)), nI_clamp (show s < 2 ^ 31 by omega), wPs hS hw (show s < 10 by omega), wTs hS hw (show s < 10 by omega), gt_self, gd_t, lp_some, st_d, nm_d, on_none, on_some, cl_some, mI_mk, mX_mk, setI_mk, u2_row, rowS_s, rowU_s, xT0 hS, xP0_1 hS, xP0_2 hS, xP0_3 hS, xP0_4 hS, xP0_5 hS, xP0_6 hS, xP0_7 hS, xP0_8 hS, xT73 hS, xP73_0 hS, xT74 hS, xL74 hS, xP73_1 hS, xT75 hS, xL75 hS, xP73_2 hS, xT76 hS, xL76 hS, xP73_3 hS, xT77 hS, xL77 hS, xT78 hS, xP78_0 hS, xT79 hS, xL79 hS, xT80 hS, xP80_0 hS, xP80_2 hS, xT81 hS, xL81 hS, xT82 hS, xL82 hS, xT83 hS, xL83 hS, xT84 hS, xL84 hS, xT85 hS, xL85 hS, xP0_0w hS hw1, wT hS hw, wP0 hS hw, wP2 hS hw, wP4 hS hw, wP7 hS hw, wP9 hS hw, wT1 hS hw, wL1 hS hw, wT2 hS hw, wL2 hS hw, wT3 hS hw, wL3 hS hw, wT4 hS hw, wL4 hS hw, wT5 hS hw, wL5 hS hw]
    rw [(hR.2.2.1 s (by omega)).2.2]
    have s99 : ∀ o : Option Nat, (∀ q, o = some q → q < nc) → f_X9_rather_99 (f_X9_rather_56 fu) (I, X, S) 0 (nI s) (encC o) = some (match o with
      | none => rlM (awayN N) nc (raM N nt T) d (s + 1)
      | some c => 10 * nI s + nI c, (I, X, S)) := by
      intro o ho
      rw [f_X9_rather_99, nI_1, ih]
      cases o with
      | none => rw [if_pos (encC_no rfl)]
      | some q => rw [if_neg (encC_pos rfl (by have := ho q rfl; omega))]; rfl
    have fin : rlM (awayN N) nc (raM N nt T) (d + 1) s = match (if awayN N s = true then none else fsM (raM N nt T s) nc 0) with
      | none => rlM (awayN N) nc (raM N nt T) d (s + 1)
      | some c => 10 * nI s + nI c := Eq.trans rfl rfl
    rw [fin]
    have ha : awayN N s = decide (N (8 + 3 * s + 2) = 1) := rfl
    rcases (hr.2 s (by omega)).2.2 with q | q
    · rw [q] at ha
      have ha : awayN N s = false := by rw [ha]; rfl
      rw [if_pos q, XbetterFor hS hw hR hG hL hsn (hT1 s) hT2 h74 h75]
      simp only [cl_some]
      rw [s99 _ (fun q hq => by have := (fs_lt hq).2; omega), ha, if_neg Bool.false_ne_true]
    · rw [q] at ha
      have ha : awayN N s = true := by rw [ha]; rfl
      rw [if_neg (show ¬ N (8 + 3 * s + 2) = 0 by rw [q]; decide), show (-1000000005 : Int32) = encC none from rfl, s99 none (fun q hq => nomatch hq), ha, if_pos rfl]
end Rath2
