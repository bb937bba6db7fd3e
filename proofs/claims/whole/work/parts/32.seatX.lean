/-! THE CLASS: seats, who is elected, who is here -/
theorem Xbit0 (M : Mem) : f_X9_bit M 0 = some (0, M) := by rw [f_X9_bit, if_pos rfl]
theorem Xbit1 (M : Mem) : f_X9_bit M 1 = some (1, M) := by rw [f_X9_bit, if_neg (by decide)]
section XSeats
variable {I : Nat → Nat → Int32} {X : Nat → Nat → Option Nat} {S : Sta} {w : Nat} {N : Nat → Int32} {nc ns nt : Nat}
theorem XnestsLoop (hS : LaS S) (hw : isW w) (hR : RelW I X S w N nc ns nt) (hG : GN N nc ns nt) {guest : Nat → Option Nat} (wd : Nat) (hg : ∀ c, c < 8 → I 75 c = encC (guest c)) (hgl : ∀ c b, guest c = some b → b < 10) :
    ∀ (d c fu : Nat), c + d = nc → d < fu → f_X4_nestsIn_5 fu (I, X, S) 73 w (nI wd) (nI (nestsM N guest wd c)) (nI c) = some (nI (nestsM N guest wd nc), (I, X, S)) := by
  have h8 := hG.2.1
  intro d
  induction d with
  | zero =>
    intro c fu hc hf
    obtain ⟨fu, rfl⟩ : ∃ m, fu = m + 1 := ⟨fu - 1, by omega⟩
    have hc : c = nc := by omega
    subst hc
    rw [f_X4_nestsIn_5]
    simp only [gt_self, gd_t, lp_some, st_d, nm_d, on_none, on_some, cl_some, mI_mk, mX_mk, setI_mk, u2_row, rowS_s, rowU_s, xT0 hS, xP0_0 hS, xP0_1 hS, xP0_2 hS, xP0_3 hS, xP0_4 hS, xP0_5 hS, xP0_6 hS, xP0_7 hS, xP0_8 hS, xT73 hS, xP73_0 hS, xT74 hS, xL74 hS, xP73_1 hS, xT75 hS, xL75 hS, xP73_2 hS, xT76 hS, xL76 hS, xP73_3 hS, xT77 hS, xL77 hS, xT78 hS, xP78_0 hS, xT79 hS, xL79 hS, xT80 hS, xP80_0 hS, xP80_2 hS, xT81 hS, xL81 hS, xT82 hS, xL82 hS, xT83 hS, xL83 hS, xT84 hS, xL84 hS, xT85 hS, xL85 hS, wT hS hw, wP0 hS hw, wP2 hS hw, wP4 hS hw, wP7 hS hw, wP9 hS hw, wT1 hS hw, wL1 hS hw, wT2 hS hw, wL2 hS hw, wT3 hS hw, wL3 hS hw, wT4 hS hw, wL4 hS hw, wT5 hS hw, wL5 hS hw]
    rw [hR.1.2.1, hG.1, if_pos (nI_le (Nat.le_refl _) (by omega))]
  | succ d ih =>
    intro c fu hc hf
    obtain ⟨fu, rfl⟩ : ∃ m, fu = m + 1 := ⟨fu - 1, by omega⟩
    have ih := ih (c + 1) fu (by omega) (by omega)
    rw [nestsM_s] at ih
    rw [f_X4_nestsIn_5]
    simp only [gt_self, gd_t, lp_some, st_d, nm_d, on_none, on_some, cl_some, mI_mk, mX_mk, setI_mk, u2_row, rowS_s, rowU_s, xT0 hS, xP0_0 hS, xP0_1 hS, xP0_2 hS, xP0_3 hS, xP0_4 hS, xP0_5 hS, xP0_6 hS, xP0_7 hS, xP0_8 hS, xT73 hS, xP73_0 hS, xT74 hS, xL74 hS, xP73_1 hS, xT75 hS, xL75 hS, xP73_2 hS, xT76 hS, xL76 hS, xP73_3 hS, xT77 hS, xL77 hS, xT78 hS, xP78_0 hS, xT79 hS, xL79 hS, xT80 hS, xP80_0 hS, xP80_2 hS, xT81 hS, xL81 hS, xT82 hS, xL82 hS, xT83 hS, xL83 hS, xT84 hS, xL84 hS, xT85 hS, xL85 hS, wT hS hw, wP0 hS hw, wP2 hS hw, wP4 hS hw, wP7 hS hw, wP9 hS hw, wT1 hS hw, wL1 hS hw, wT2 hS hw, wL2 hS hw, wT3 hS hw, wL3 hS hw, wT4 hS hw, wL4 hS hw, wT5 hS hw, wL5 hS hw]
    rw [hR.1.2.1, hG.1, if_neg (nI_ge (by omega) (by omega)), gd_ok (ib_nI (by omega) (by decide)), gd_ok (ib_nI (by omega) (by decide)), nI_clamp (by omega), hg c (by omega)]
    simp only [wPc hS hw (show c < 8 by omega), wTc hS hw (show c < 8 by omega), gt_self, gd_t, lp_some, st_d, nm_d, on_none, on_some, cl_some, mI_mk, mX_mk, setI_mk, u2_row, rowS_s, rowU_s, xT0 hS, xP0_0 hS, xP0_1 hS, xP0_2 hS, xP0_3 hS, xP0_4 hS, xP0_5 hS, xP0_6 hS, xP0_7 hS, xP0_8 hS, xT73 hS, xP73_0 hS, xT74 hS, xL74 hS, xP73_1 hS, xT75 hS, xL75 hS, xP73_2 hS, xT76 hS, xL76 hS, xP73_3 hS, xT77 hS, xL77 hS, xT78 hS, xP78_0 hS, xT79 hS, xL79 hS, xT80 hS, xP80_0 hS, xP80_2 hS, xT81 hS, xL81 hS, xT82 hS, xL82 hS, xT83 hS, xL83 hS, xT84 hS, xL84 hS, xT85 hS, xL85 hS, wT hS hw, wP0 hS hw, wP2 hS hw, wP4 hS hw, wP7 hS hw, wP9 hS hw, wT1 hS hw, wL1 hS hw, wT2 hS hw, wL2 hS hw, wT3 hS hw, wL3 hS hw, wT4 hS hw, wL4 hS hw, wT5 hS hw, wL5 hS hw, f_X4_nestsIn_46, Xbit0, Xbit1]
    rw [(hR.2.1 c (by omega)).2.1]
    cases hq : guest c with
    | none =>
      rw [if_pos (encC_no rfl)]
      rw [if_neg (by simp [hq]), Nat.add_zero] at ih
      simp only [nI_z, nI_1]
      exact ih
    | some b =>
      rw [if_neg (encC_pos rfl (by have := hgl c b hq; omega))]
      by_cases hwd : N (38 + 4 * c + 1) = nI wd
      · rw [if_pos hwd]
        rw [if_pos ⟨hwd, by simp [hq]⟩] at ih
        simp only [nI_1]
        exact ih
      · rw [if_neg hwd]
        rw [if_neg (fun q => hwd q.1), Nat.add_zero] at ih
        simp only [nI_z, nI_1]
        exact ih
theorem XnestsIn (hS : LaS S) (hw : isW w) (hR : RelW I X S w N nc ns nt) (hG : GN N nc ns nt) {guest : Nat → Option Nat} (wd : Nat) (hg : ∀ c, c < 8 → I 75 c = encC (guest c)) (hgl : ∀ c b, guest c = some b → b < 10) : f_X4_nestsIn (I, X, S) 73 w (nI wd) = some (nI (nestsM N guest wd nc), (I, X, S)) := by
  rw [f_X4_nestsIn]
  exact XnestsLoop hS hw hR hG wd hg hgl nc 0 FU (by omega) (FU_ge (by have := hG.2.1; omega))
theorem Xseats (hS : LaS S) (hw : isW w) (hR : RelW I X S w N nc ns nt) (hG : GN N nc ns nt) {guest : Nat → Option Nat} (wd : Nat) (hg : ∀ c, c < 8 → I 75 c = encC (guest c)) (hgl : ∀ c b, guest c = some b → b < 10) : ∃ J, f_X4_seats (I, X, S) 73 w (nI wd) = some (seatsM N nc nt guest wd, (J, X, S)) ∧ ∀ a, a ≠ w + 5 → J a = I a := by
  have hlt := hw.lt
  rw [f_X4_seats]
  simp only [gt_self, gd_t, lp_some, st_d, nm_d, on_none, on_some, cl_some, mI_mk, mX_mk, setI_mk, u2_row, rowS_s, rowU_s, xT0 hS, xP0_0 hS, xP0_1 hS, xP0_2 hS, xP0_3 hS, xP0_4 hS, xP0_5 hS, xP0_6 hS, xP0_7 hS, xP0_8 hS, xT73 hS, xP73_0 hS, xT74 hS, xL74 hS, xP73_1 hS, xT75 hS, xL75 hS, xP73_2 hS, xT76 hS, xL76 hS, xP73_3 hS, xT77 hS, xL77 hS, xT78 hS, xP78_0 hS, xT79 hS, xL79 hS, xT80 hS, xP80_0 hS, xP80_2 hS, xT81 hS, xL81 hS, xT82 hS, xL82 hS, xT83 hS, xL83 hS, xT84 hS, xL84 hS, xT85 hS, xL85 hS, wT hS hw, wP0 hS hw, wP2 hS hw, wP4 hS hw, wP7 hS hw, wP9 hS hw, wT1 hS hw, wL1 hS hw, wT2 hS hw, wL2 hS hw, wT3 hS hw, wL3 hS hw, wT4 hS hw, wL4 hS hw, wT5 hS hw, wL5 hS hw]
  rw [XnestsIn hS hw hR hG wd hg hgl]
  simp only [gt_self, gd_t, lp_some, st_d, nm_d, on_none, on_some, cl_some, mI_mk, mX_mk, setI_mk, u2_row, rowS_s, rowU_s, xT0 hS, xP0_0 hS, xP0_1 hS, xP0_2 hS, xP0_3 hS, xP0_4 hS, xP0_5 hS, xP0_6 hS, xP0_7 hS, xP0_8 hS, xT73 hS, xP73_0 hS, xT74 hS, xL74 hS, xP73_1 hS, xT75 hS, xL75 hS, xP73_2 hS, xT76 hS, xL76 hS, xP73_3 hS, xT77 hS, xL77 hS, xT78 hS, xP78_0 hS, xT79 hS, xL79 hS, xT80 hS, xP80_0 hS, xP80_2 hS, xT81 hS, xL81 hS, xT82 hS, xL82 hS, xT83 hS, xL83 hS, xT84 hS, xL84 hS, xT85 hS, xL85 hS, wT hS hw, wP0 hS hw, wP2 hS hw, wP4 hS hw, wP7 hS hw, wP9 hS hw, wT1 hS hw, wL1 hS hw, wT2 hS hw, wL2 hS hw, wT3 hS hw, wL3 hS hw, wT4 hS hw, wL4 hS hw, wT5 hS hw, wL5 hS hw]
  rw [f_X8_seatsFor]
  simp only [gt_self, gd_t, lp_some, st_d, nm_d, on_none, on_some, cl_some, mI_mk, mX_mk, setI_mk, u2_row, rowS_s, rowU_s, xT0 hS, xP0_0 hS, xP0_1 hS, xP0_2 hS, xP0_3 hS, xP0_4 hS, xP0_5 hS, xP0_6 hS, xP0_7 hS, xP0_8 hS, xT73 hS, xP73_0 hS, xT74 hS, xL74 hS, xP73_1 hS, xT75 hS, xL75 hS, xP73_2 hS, xT76 hS, xL76 hS, xP73_3 hS, xT77 hS, xL77 hS, xT78 hS, xP78_0 hS, xT79 hS, xL79 hS, xT80 hS, xP80_0 hS, xP80_2 hS, xT81 hS, xL81 hS, xT82 hS, xL82 hS, xT83 hS, xL83 hS, xT84 hS, xL84 hS, xT85 hS, xL85 hS, wT hS hw, wP0 hS hw, wP2 hS hw, wP4 hS hw, wP7 hS hw, wP9 hS hw, wT1 hS hw, wL1 hS hw, wT2 hS hw, wL2 hS hw, wT3 hS hw, wL3 hS hw, wT4 hS hw, wL4 hS hw, wT5 hS hw, wL5 hS hw]
  unfold seatsM seatM
  cases hq : cntM N 1 nt with
  | none =>
    have e := Xcounting_n hS hw hR hG (key := 1) (by decide) hq
    have e : f_X8_counting (I, X, S) w 1 = _ := e
    rw [e]
    simp only [gt_self, gd_t, lp_some, st_d, nm_d, on_none, on_some, cl_some, mI_mk, mX_mk, setI_mk, u2_row, rowS_s, rowU_s, xT0 hS, xP0_0 hS, xP0_1 hS, xP0_2 hS, xP0_3 hS, xP0_4 hS, xP0_5 hS, xP0_6 hS, xP0_7 hS, xP0_8 hS, xT73 hS, xP73_0 hS, xT74 hS, xL74 hS, xP73_1 hS, xT75 hS, xL75 hS, xP73_2 hS, xT76 hS, xL76 hS, xP73_3 hS, xT77 hS, xL77 hS, xT78 hS, xP78_0 hS, xT79 hS, xL79 hS, xT80 hS, xP80_0 hS, xP80_2 hS, xT81 hS, xL81 hS, xT82 hS, xL82 hS, xT83 hS, xL83 hS, xT84 hS, xL84 hS, xT85 hS, xL85 hS, wT hS hw, wP0 hS hw, wP2 hS hw, wP4 hS hw, wP7 hS hw, wP9 hS hw, wT1 hS hw, wL1 hS hw, wT2 hS hw, wL2 hS hw, wT3 hS hw, wL3 hS hw, wT4 hS hw, wL4 hS hw, wT5 hS hw, wL5 hS hw]
    exact ⟨I, rfl, fun _ _ => rfl⟩
  | some t =>
    obtain ⟨b, e, hTx⟩ := Xcounting_s hS hw hR hG (key := 1) (by decide) hq
    have e : f_X8_counting (I, X, S) w 1 = _ := e
    have ht := cnt_lt hq
    have hok := (hG.2.2.2.2.2.2 t ht.1).2.2
    rw [ht.2] at hok
    rw [e]
    simp only [gt_self, gd_t, lp_some, st_d, nm_d, on_none, on_some, cl_some, mI_mk, mX_mk, setI_mk, u2_row, rowS_s, rowU_s, xT0 hS, xP0_0 hS, xP0_1 hS, xP0_2 hS, xP0_3 hS, xP0_4 hS, xP0_5 hS, xP0_6 hS, xP0_7 hS, xP0_8 hS, xT73 hS, xP73_0 hS, xT74 hS, xL74 hS, xP73_1 hS, xT75 hS, xL75 hS, xP73_2 hS, xT76 hS, xL76 hS, xP73_3 hS, xT77 hS, xL77 hS, xT78 hS, xP78_0 hS, xT79 hS, xL79 hS, xT80 hS, xP80_0 hS, xP80_2 hS, xT81 hS, xL81 hS, xT82 hS, xL82 hS, xT83 hS, xL83 hS, xT84 hS, xL84 hS, xT85 hS, xL85 hS, wT hS hw, wP0 hS hw, wP2 hS hw, wP4 hS hw, wP7 hS hw, wP9 hS hw, wT1 hS hw, wL1 hS hw, wT2 hS hw, wL2 hS hw, wT3 hS hw, wL3 hS hw, wT4 hS hw, wL4 hS hw, wT5 hS hw, wL5 hS hw]
    simp only [mT_S, hTx.2.1, gt_self, gd_t, lp_some, st_d, nm_d, on_none, on_some, cl_some, mI_mk, mX_mk, setI_mk, u2_row, rowS_s, rowU_s]
    obtain ⟨J, eJ, hJ⟩ := Xvalue (X := X) (nI (nestsM N guest wd nc)) (nI wd) 0 hTx hok (by decide) (show w + 5 < 114 by omega) (pile_T hS hw) (pile_L hS hw)
    rw [eJ]
    simp only [gt_self, gd_t, lp_some, st_d, nm_d, on_none, on_some, cl_some, mI_mk, mX_mk, setI_mk, u2_row, rowS_s, rowU_s]
    rw [Xheld]
    simp only [gt_self, gd_t, lp_some, st_d, nm_d, on_none, on_some, cl_some, mI_mk, mX_mk, setI_mk, u2_row, rowS_s, rowU_s]
    exact ⟨J, rfl, hJ⟩
theorem XwinLoop (hS : LaS S) (hw : isW w) (hR : RelW I X S w N nc ns nt) (hG : GN N nc ns nt) {guest : Nat → Option Nat} (hg : ∀ c, c < 8 → I 75 c = encC (guest c)) (hgl : ∀ c b, guest c = some b → b < 10) :
    ∀ (d u fu : Nat) (J : Nat → Nat → Int32), u + d = 3 → d < fu → (∀ a, a ≠ w + 5 → J a = I a) → ∃ J', f_X4_winner_12 (fu + 1) (J, X, S) 73 w (nI (winM (seatsM N nc nt guest) u).1) (winM (seatsM N nc nt guest) u).2 (nI (u + 1)) = some (nI (winM (seatsM N nc nt guest) 3).1, (J', X, S)) ∧ ∀ a, a ≠ w + 5 → J' a = I a := by
  have hlt := hw.lt
  intro d
  induction d with
  | zero =>
    intro u fu J hu hf hJ
    have hu : u = 3 := by omega
    subst hu
    refine ⟨J, ?_, hJ⟩
    rw [f_X4_winner_12, if_pos (show (4 : Int32) ≤ nI (3 + 1) from nI_le (a := 4) (Nat.le_refl _) (by decide))]
  | succ d ih =>
    intro u fu J hu hf hJ
    obtain ⟨fu, rfl⟩ : ∃ m, fu = m + 1 := ⟨fu - 1, by omega⟩
    have hRJ : RelW J X S w N nc ns nt := hR.same hG.2.1 hG.2.2.2.1 (fun a ha => hJ a (by unfold ownW at ha; omega))
    rw [f_X4_winner_12, if_neg (show ¬ (4 : Int32) ≤ nI (u + 1) from nI_ge (a := u + 1) (b := 4) (by omega) (by decide))]
    obtain ⟨K, eK, hK⟩ := Xseats hS hw hRJ hG (u + 1) (by rw [hJ 75 (by omega)]; exact hg) hgl
    simp only [gt_self, gd_t, lp_some, st_d, nm_d, on_none, on_some, cl_some, mI_mk, mX_mk, setI_mk, u2_row, rowS_s, rowU_s, xT0 hS, xP0_0 hS, xP0_1 hS, xP0_2 hS, xP0_3 hS, xP0_4 hS, xP0_5 hS, xP0_6 hS, xP0_7 hS, xP0_8 hS, xT73 hS, xP73_0 hS, xT74 hS, xL74 hS, xP73_1 hS, xT75 hS, xL75 hS, xP73_2 hS, xT76 hS, xL76 hS, xP73_3 hS, xT77 hS, xL77 hS, xT78 hS, xP78_0 hS, xT79 hS, xL79 hS, xT80 hS, xP80_0 hS, xP80_2 hS, xT81 hS, xL81 hS, xT82 hS, xL82 hS, xT83 hS, xL83 hS, xT84 hS, xL84 hS, xT85 hS, xL85 hS, wT hS hw, wP0 hS hw, wP2 hS hw, wP4 hS hw, wP7 hS hw, wP9 hS hw, wT1 hS hw, wL1 hS hw, wT2 hS hw, wL2 hS hw, wT3 hS hw, wL3 hS hw, wT4 hS hw, wL4 hS hw, wT5 hS hw, wL5 hS hw]
    rw [eK]
    have hKo : ∀ a, a ≠ w + 5 → K a = I a := fun a h1 => (hK a h1).trans (hJ a h1)
    simp only [gt_self, gd_t, lp_some, st_d, nm_d, on_none, on_some, cl_some, mI_mk, mX_mk, setI_mk, u2_row, rowS_s, rowU_s, xT0 hS, xP0_0 hS, xP0_1 hS, xP0_2 hS, xP0_3 hS, xP0_4 hS, xP0_5 hS, xP0_6 hS, xP0_7 hS, xP0_8 hS, xT73 hS, xP73_0 hS, xT74 hS, xL74 hS, xP73_1 hS, xT75 hS, xL75 hS, xP73_2 hS, xT76 hS, xL76 hS, xP73_3 hS, xT77 hS, xL77 hS, xT78 hS, xP78_0 hS, xT79 hS, xL79 hS, xT80 hS, xP80_0 hS, xP80_2 hS, xT81 hS, xL81 hS, xT82 hS, xL82 hS, xT83 hS, xL83 hS, xT84 hS, xL84 hS, xT85 hS, xL85 hS, wT hS hw, wP0 hS hw, wP2 hS hw, wP4 hS hw, wP7 hS hw, wP9 hS hw, wT1 hS hw, wL1 hS hw, wT2 hS hw, wL2 hS hw, wT3 hS hw, wL3 hS hw, wT4 hS hw, wL4 hS hw, wT5 hS hw, wL5 hS hw]
    have ih := ih (u + 1) fu K (by omega) (by omega) hKo
    rw [winM_s] at ih
    by_cases h : seatsM N nc nt guest (u + 1) ≤ (winM (seatsM N nc nt guest) u).2
    · rw [if_pos h, nI_1]
      rw [if_pos h] at ih
      exact ih
    · rw [if_neg h, nI_1]
      rw [if_neg h] at ih
      exact ih
theorem Xwinner (hS : LaS S) (hw : isW w) (hR : RelW I X S w N nc ns nt) (hG : GN N nc ns nt) {guest : Nat → Option Nat} (hg : ∀ c, c < 8 → I 75 c = encC (guest c)) (hgl : ∀ c b, guest c = some b → b < 10) : ∃ J', f_X4_winner (I, X, S) 73 w = some (nI (winM (seatsM N nc nt guest) 3).1, (J', X, S)) ∧ ∀ a, a ≠ w + 5 → J' a = I a := by
  rw [f_X4_winner]
  obtain ⟨K, eK, hK⟩ := Xseats hS hw hR hG 0 hg hgl
  have eK : f_X4_seats (I, X, S) 73 w 0 = _ := eK
  simp only [gt_self, gd_t, lp_some, st_d, nm_d, on_none, on_some, cl_some, mI_mk, mX_mk, setI_mk, u2_row, rowS_s, rowU_s, xT0 hS, xP0_0 hS, xP0_1 hS, xP0_2 hS, xP0_3 hS, xP0_4 hS, xP0_5 hS, xP0_6 hS, xP0_7 hS, xP0_8 hS, xT73 hS, xP73_0 hS, xT74 hS, xL74 hS, xP73_1 hS, xT75 hS, xL75 hS, xP73_2 hS, xT76 hS, xL76 hS, xP73_3 hS, xT77 hS, xL77 hS, xT78 hS, xP78_0 hS, xT79 hS, xL79 hS, xT80 hS, xP80_0 hS, xP80_2 hS, xT81 hS, xL81 hS, xT82 hS, xL82 hS, xT83 hS, xL83 hS, xT84 hS, xL84 hS, xT85 hS, xL85 hS, wT hS hw, wP0 hS hw, wP2 hS hw, wP4 hS hw, wP7 hS hw, wP9 hS hw, wT1 hS hw, wL1 hS hw, wT2 hS hw, wL2 hS hw, wT3 hS hw, wL3 hS hw, wT4 hS hw, wL4 hS hw, wT5 hS hw, wL5 hS hw]
  rw [eK]
  simp only [gt_self, gd_t, lp_some, st_d, nm_d, on_none, on_some, cl_some, mI_mk, mX_mk, setI_mk, u2_row, rowS_s, rowU_s, xT0 hS, xP0_0 hS, xP0_1 hS, xP0_2 hS, xP0_3 hS, xP0_4 hS, xP0_5 hS, xP0_6 hS, xP0_7 hS, xP0_8 hS, xT73 hS, xP73_0 hS, xT74 hS, xL74 hS, xP73_1 hS, xT75 hS, xL75 hS, xP73_2 hS, xT76 hS, xL76 hS, xP73_3 hS, xT77 hS, xL77 hS, xT78 hS, xP78_0 hS, xT79 hS, xL79 hS, xT80 hS, xP80_0 hS, xP80_2 hS, xT81 hS, xL81 hS, xT82 hS, xL82 hS, xT83 hS, xL83 hS, xT84 hS, xL84 hS, xT85 hS, xL85 hS, wT hS hw, wP0 hS hw, wP2 hS hw, wP4 hS hw, wP7 hS hw, wP9 hS hw, wT1 hS hw, wL1 hS hw, wT2 hS hw, wL2 hS hw, wT3 hS hw, wL3 hS hw, wT4 hS hw, wL4 hS hw, wT5 hS hw, wL5 hS hw]
  exact XwinLoop hS hw hR hG hg hgl 3 0 (FU - 1) K (by omega) (by decide) hK
/-- all seats together -/
def allM (Sx : Nat → Int32) : Int32 := Sx 0 + Sx 1 + Sx 2 + Sx 3
theorem XallSeats (hS : LaS S) (hw : isW w) (hR : RelW I X S w N nc ns nt) (hG : GN N nc ns nt) {guest : Nat → Option Nat} (hg : ∀ c, c < 8 → I 75 c = encC (guest c)) (hgl : ∀ c b, guest c = some b → b < 10) : ∃ J', f_X4_allSeats (I, X, S) 73 w = some (allM (seatsM N nc nt guest), (J', X, S)) ∧ ∀ a, a ≠ w + 5 → J' a = I a := by
  have hlt := hw.lt
  rw [f_X4_allSeats]
  obtain ⟨fu, hfu⟩ : ∃ m, FU = m + 5 := ⟨3995, rfl⟩
  rw [hfu]
  have stp : ∀ (u fu : Nat) (J : Nat → Nat → Int32) (z : Int32), u < 4 → (∀ a, a ≠ w + 5 → J a = I a) → ∃ K, f_X4_allSeats_4 (fu + 1) (J, X, S) 73 w z (nI u) = f_X4_allSeats_4 fu (K, X, S) 73 w (z + seatsM N nc nt guest u) (nI (u + 1)) ∧ ∀ a, a ≠ w + 5 → K a = I a := by
    intro u fu J z hu hJ
    have hRJ : RelW J X S w N nc ns nt := hR.same hG.2.1 hG.2.2.2.1 (fun a ha => hJ a (by unfold ownW at ha; omega))
    rw [f_X4_allSeats_4, if_neg (show ¬ (4 : Int32) ≤ nI u from nI_ge (a := u) (b := 4) hu (by decide))]
    obtain ⟨K, eK, hK⟩ := Xseats hS hw hRJ hG u (by rw [hJ 75 (by omega)]; exact hg) hgl
    simp only [gt_self, gd_t, lp_some, st_d, nm_d, on_none, on_some, cl_some, mI_mk, mX_mk, setI_mk, u2_row, rowS_s, rowU_s, xT0 hS, xP0_0 hS, xP0_1 hS, xP0_2 hS, xP0_3 hS, xP0_4 hS, xP0_5 hS, xP0_6 hS, xP0_7 hS, xP0_8 hS, xT73 hS, xP73_0 hS, xT74 hS, xL74 hS, xP73_1 hS, xT75 hS, xL75 hS, xP73_2 hS, xT76 hS, xL76 hS, xP73_3 hS, xT77 hS, xL77 hS, xT78 hS, xP78_0 hS, xT79 hS, xL79 hS, xT80 hS, xP80_0 hS, xP80_2 hS, xT81 hS, xL81 hS, xT82 hS, xL82 hS, xT83 hS, xL83 hS, xT84 hS, xL84 hS, xT85 hS, xL85 hS, wT hS hw, wP0 hS hw, wP2 hS hw, wP4 hS hw, wP7 hS hw, wP9 hS hw, wT1 hS hw, wL1 hS hw, wT2 hS hw, wL2 hS hw, wT3 hS hw, wL3 hS hw, wT4 hS hw, wL4 hS hw, wT5 hS hw, wL5 hS hw]
    rw [eK]
    simp only [gt_self, gd_t, lp_some, st_d, nm_d, on_none, on_some, cl_some, mI_mk, mX_mk, setI_mk, u2_row, rowS_s, rowU_s, xT0 hS, xP0_0 hS, xP0_1 hS, xP0_2 hS, xP0_3 hS, xP0_4 hS, xP0_5 hS, xP0_6 hS, xP0_7 hS, xP0_8 hS, xT73 hS, xP73_0 hS, xT74 hS, xL74 hS, xP73_1 hS, xT75 hS, xL75 hS, xP73_2 hS, xT76 hS, xL76 hS, xP73_3 hS, xT77 hS, xL77 hS, xT78 hS, xP78_0 hS, xT79 hS, xL79 hS, xT80 hS, xP80_0 hS, xP80_2 hS, xT81 hS, xL81 hS, xT82 hS, xL82 hS, xT83 hS, xL83 hS, xT84 hS, xL84 hS, xT85 hS, xL85 hS, wT hS hw, wP0 hS hw, wP2 hS hw, wP4 hS hw, wP7 hS hw, wP9 hS hw, wT1 hS hw, wL1 hS hw, wT2 hS hw, wL2 hS hw, wT3 hS hw, wL3 hS hw, wT4 hS hw, wL4 hS hw, wT5 hS hw, wL5 hS hw]
    rw [nI_1]
    exact ⟨K, rfl, fun a h1 => (hK a h1).trans (hJ a h1)⟩
  obtain ⟨K0, e0, o0⟩ := stp 0 (fu + 4) I 0 (by decide) (fun _ _ => rfl)
  have e0 : f_X4_allSeats_4 (fu + 5) (I, X, S) 73 w 0 0 = _ := e0
  rw [e0]
  obtain ⟨K1, e1, o1⟩ := stp 1 (fu + 3) K0 (0 + seatsM N nc nt guest 0) (by decide) o0
  rw [e1]
  obtain ⟨K2, e2, o2⟩ := stp 2 (fu + 2) K1 (0 + seatsM N nc nt guest 0 + seatsM N nc nt guest 1) (by decide) o1
  rw [e2]
  obtain ⟨K3, e3, o3⟩ := stp 3 (fu + 1) K2 (0 + seatsM N nc nt guest 0 + seatsM N nc nt guest 1 + seatsM N nc nt guest 2) (by decide) o2
  rw [e3, f_X4_allSeats_4, if_pos (show (4 : Int32) ≤ nI (3 + 1) from nI_le (a := 4) (Nat.le_refl _) (by decide)), Int32.zero_add]
  exact ⟨K3, rfl, o3⟩
theorem XallNests (hS : LaS S) (hw : isW w) (hR : RelW I X S w N nc ns nt) (hG : GN N nc ns nt) {guest : Nat → Option Nat} (hg : ∀ c, c < 8 → I 75 c = encC (guest c)) (hgl : ∀ c b, guest c = some b → b < 10) : f_X4_allNests (I, X, S) 73 w = some (allM (fun u => nI (nestsM N guest u nc)), (I, X, S)) := by
  rw [f_X4_allNests]
  obtain ⟨fu, hfu⟩ : ∃ m, FU = m + 5 := ⟨3995, rfl⟩
  rw [hfu]
  have stp : ∀ (u fu : Nat) (z : Int32), u < 4 → f_X4_allNests_4 (fu + 1) (I, X, S) 73 w z (nI u) = f_X4_allNests_4 fu (I, X, S) 73 w (z + nI (nestsM N guest u nc)) (nI (u + 1)) := by
    intro u fu z hu
    rw [f_X4_allNests_4, if_neg (show ¬ (4 : Int32) ≤ nI u from nI_ge (a := u) (b := 4) hu (by decide))]
    simp only [gt_self, gd_t, lp_some, st_d, nm_d, on_none, on_some, cl_some, mI_mk, mX_mk, setI_mk, u2_row, rowS_s, rowU_s, xT0 hS, xP0_0 hS, xP0_1 hS, xP0_2 hS, xP0_3 hS, xP0_4 hS, xP0_5 hS, xP0_6 hS, xP0_7 hS, xP0_8 hS, xT73 hS, xP73_0 hS, xT74 hS, xL74 hS, xP73_1 hS, xT75 hS, xL75 hS, xP73_2 hS, xT76 hS, xL76 hS, xP73_3 hS, xT77 hS, xL77 hS, xT78 hS, xP78_0 hS, xT79 hS, xL79 hS, xT80 hS, xP80_0 hS, xP80_2 hS, xT81 hS, xL81 hS, xT82 hS, xL82 hS, xT83 hS, xL83 hS, xT84 hS, xL84 hS, xT85 hS, xL85 hS, wT hS hw, wP0 hS hw, wP2 hS hw, wP4 hS hw, wP7 hS hw, wP9 hS hw, wT1 hS hw, wL1 hS hw, wT2 hS hw, wL2 hS hw, wT3 hS hw, wL3 hS hw, wT4 hS hw, wL4 hS hw, wT5 hS hw, wL5 hS hw]
    rw [XnestsIn hS hw hR hG u hg hgl]
    simp only [gt_self, gd_t, lp_some, st_d, nm_d, on_none, on_some, cl_some, mI_mk, mX_mk, setI_mk, u2_row, rowS_s, rowU_s, xT0 hS, xP0_0 hS, xP0_1 hS, xP0_2 hS, xP0_3 hS, xP0_4 hS, xP0_5 hS, xP0_6 hS, xP0_7 hS, xP0_8 hS, xT73 hS, xP73_0 hS, xT74 hS, xL74 hS, xP73_1 hS, xT75 hS, xL75 hS, xP73_2 hS, xT76 hS, xL76 hS, xP73_3 hS, xT77 hS, xL77 hS, xT78 hS, xP78_0 hS, xT79 hS, xL79 hS, xT80 hS, xP80_0 hS, xP80_2 hS, xT81 hS, xL81 hS, xT82 hS, xL82 hS, xT83 hS, xL83 hS, xT84 hS, xL84 hS, xT85 hS, xL85 hS, wT hS hw, wP0 hS hw, wP2 hS hw, wP4 hS hw, wP7 hS hw, wP9 hS hw, wT1 hS hw, wL1 hS hw, wT2 hS hw, wL2 hS hw, wT3 hS hw, wL3 hS hw, wT4 hS hw, wL4 hS hw, wT5 hS hw, wL5 hS hw]
    rw [nI_1]
  have e0 : f_X4_allNests_4 (fu + 5) (I, X, S) 73 w 0 0 = _ := stp 0 (fu + 4) 0 (by decide)
  rw [e0, stp 1 (fu + 3) _ (by decide), stp 2 (fu + 2) _ (by decide), stp 3 (fu + 1) _ (by decide), f_X4_allNests_4, if_pos (show (4 : Int32) ≤ nI (3 + 1) from nI_le (a := 4) (Nat.le_refl _) (by decide)), Int32.zero_add]
  rfl
theorem XhereLoop (hS : LaS S) (hw : isW w) (hR : RelW I X S w N nc ns nt) (hr : GR N nc ns) (h2 : N 2 = nI ns) (h10 : ns ≤ 10) : ∀ (d s fu : Nat), s + d = ns → d < fu → f_X8_here_4 fu (I, X, S) w (nI (hereM N s)) (nI s) = some (nI (hereM N ns), (I, X, S)) := by
  intro d
  induction d with
  | zero =>
    intro s fu hs hf
    obtain ⟨fu, rfl⟩ : ∃ m, fu = m + 1 := ⟨fu - 1, by omega⟩
    have hs : s = ns := by omega
    subst hs
    rw [f_X8_here_4]
    simp only [gt_self, gd_t, lp_some, st_d, nm_d, on_none, on_some, cl_some, mI_mk, mX_mk, setI_mk, u2_row, rowS_s, rowU_s, xT0 hS, xP0_0 hS, xP0_1 hS, xP0_2 hS, xP0_3 hS, xP0_4 hS, xP0_5 hS, xP0_6 hS, xP0_7 hS, xP0_8 hS, xT73 hS, xP73_0 hS, xT74 hS, xL74 hS, xP73_1 hS, xT75 hS, xL75 hS, xP73_2 hS, xT76 hS, xL76 hS, xP73_3 hS, xT77 hS, xL77 hS, xT78 hS, xP78_0 hS, xT79 hS, xL79 hS, xT80 hS, xP80_0 hS, xP80_2 hS, xT81 hS, xL81 hS, xT82 hS, xL82 hS, xT83 hS, xL83 hS, xT84 hS, xL84 hS, xT85 hS, xL85 hS, wT hS hw, wP0 hS hw, wP2 hS hw, wP4 hS hw, wP7 hS hw, wP9 hS hw, wT1 hS hw, wL1 hS hw, wT2 hS hw, wL2 hS hw, wT3 hS hw, wL3 hS hw, wT4 hS hw, wL4 hS hw, wT5 hS hw, wL5 hS hw]
    rw [hR.1.2.2.1, h2, if_pos (nI_le (Nat.le_refl _) (by omega))]
  | succ d ih =>
    intro s fu hs hf
    obtain ⟨fu, rfl⟩ : ∃ m, fu = m + 1 := ⟨fu - 1, by omega⟩
    have ih := ih (s + 1) fu (by omega) (by omega)
    rw [hereM_s] at ih
    rw [f_X8_here_4]
    simp only [gt_self, gd_t, lp_some, st_d, nm_d, on_none, on_some, cl_some, mI_mk, mX_mk, setI_mk, u2_row, rowS_s, rowU_s, xT0 hS, xP0_0 hS, xP0_1 hS, xP0_2 hS, xP0_3 hS, xP0_4 hS, xP0_5 hS, xP0_6 hS, xP0_7 hS, xP0_8 hS, xT73 hS, xP73_0 hS, xT74 hS, xL74 hS, xP73_1 hS, xT75 hS, xL75 hS, xP73_2 hS, xT76 hS, xL76 hS, xP73_3 hS, xT77 hS, xL77 hS, xT78 hS, xP78_0 hS, xT79 hS, xL79 hS, xT80 hS, xP80_0 hS, xP80_2 hS, xT81 hS, xL81 hS, xT82 hS, xL82 hS, xT83 hS, xL83 hS, xT84 hS, xL84 hS, xT85 hS, xL85 hS, wT hS hw, wP0 hS hw, wP2 hS hw, wP4 hS hw, wP7 hS hw, wP9 hS hw, wT1 hS hw, wL1 hS hw, wT2 hS hw, wL2 hS hw, wT3 hS hw, wL3 hS hw, wT4 hS hw, wL4 hS hw, wT5 hS hw, wL5 hS hw]
    rw [hR.1.2.2.1, h2, if_neg (nI_ge (by omega) (by omega)), gd_ok (ib_nI (by omega) (by decide)), nI_clamp (by omega)]
    simp only [wPs hS hw (show s < 10 by omega), wTs hS hw (show s < 10 by omega), gt_self, gd_t, lp_some, st_d, nm_d, on_none, on_some, cl_some, mI_mk, mX_mk, setI_mk, u2_row, rowS_s, rowU_s, xT0 hS, xP0_0 hS, xP0_1 hS, xP0_2 hS, xP0_3 hS, xP0_4 hS, xP0_5 hS, xP0_6 hS, xP0_7 hS, xP0_8 hS, xT73 hS, xP73_0 hS, xT74 hS, xL74 hS, xP73_1 hS, xT75 hS, xL75 hS, xP73_2 hS, xT76 hS, xL76 hS, xP73_3 hS, xT77 hS, xL77 hS, xT78 hS, xP78_0 hS, xT79 hS, xL79 hS, xT80 hS, xP80_0 hS, xP80_2 hS, xT81 hS, xL81 hS, xT82 hS, xL82 hS, xT83 hS, xL83 hS, xT84 hS, xL84 hS, xT85 hS, xL85 hS, wT hS hw, wP0 hS hw, wP2 hS hw, wP4 hS hw, wP7 hS hw, wP9 hS hw, wT1 hS hw, wL1 hS hw, wT2 hS hw, wL2 hS hw, wT3 hS hw, wL3 hS hw, wT4 hS hw, wL4 hS hw, wT5 hS hw, wL5 hS hw, f_X8_here_30, Xbit0, Xbit1]
    rw [(hR.2.2.1 s (by omega)).2.2]
    have ha : awayN N s = decide (N (8 + 3 * s + 2) = 1) := rfl
    rcases (hr.2 s (by omega)).2.2 with h0 | h1
    · rw [h0] at ha ⊢
      have ha : awayN N s = false := by rw [ha]; rfl
      rw [ha, if_neg Bool.false_ne_true] at ih
      rw [if_pos rfl]
      simp only [nI_1]
      exact ih
    · rw [h1] at ha ⊢
      have ha : awayN N s = true := by rw [ha]; rfl
      rw [ha, if_pos rfl, Nat.add_zero] at ih
      rw [if_neg (by decide)]
      simp only [nI_z, nI_1]
      exact ih
theorem Xhere (hS : LaS S) (hw : isW w) (hR : RelW I X S w N nc ns nt) (hr : GR N nc ns) (h2 : N 2 = nI ns) (h10 : ns ≤ 10) : f_X8_here (I, X, S) w = some (nI (hereM N ns), (I, X, S)) := by
  rw [f_X8_here]
  exact XhereLoop hS hw hR hr h2 h10 ns 0 FU (by omega) (FU_ge (by omega))
end XSeats
