/-! THE CLASS' spring settled; seats, who is elected -/
theorem XfillLoop {I : Nat → Nat → Int32} {X : Nat → Nat → Option Nat} {S : Sta} {q n : Nat} (hT : S.2.1 q = 20) (hL : S.2.2.1 q = n) (hn : n ≤ 96) (v : Int32) : ∀ (d i fu : Nat) (J : Nat → Nat → Int32), i + d = n → d < fu → (∀ k, k < i → J q k = v) → (∀ a, a ≠ q → J a = I a) →
    ∃ J', f_J7_fill_53178_5 fu (J, X, S) q v (nI i) (nI n) = some ((), (J', X, S)) ∧ (∀ k, k < n → J' q k = v) ∧ ∀ a, a ≠ q → J' a = I a := by
  intro d
  induction d with
  | zero =>
    intro i fu J hi hf h1 hJ
    obtain ⟨fu, rfl⟩ : ∃ m, fu = m + 1 := ⟨fu - 1, by omega⟩
    have hi : i = n := by omega
    subst hi
    rw [f_J7_fill_53178_5, if_pos (nI_le (Nat.le_refl _) (by omega))]
    exact ⟨J, rfl, h1, hJ⟩
  | succ d ih =>
    intro i fu J hi hf h1 hJ
    obtain ⟨fu, rfl⟩ : ∃ m, fu = m + 1 := ⟨fu - 1, by omega⟩
    rw [f_J7_fill_53178_5, if_neg (nI_ge (by omega) (by omega))]
    simp only [mT_S, mL_S, hT, hL, gt_self, gd_t, lp_some, st_d, nm_d, on_none, on_some, cl_some, mI_mk, mX_mk, setI_mk, u2_row, rowS_s, rowU_s]
    rw [gd_ok (ib_nI (by omega) (by omega)), nI_clamp (by omega), nI_1]
    refine ih (i + 1) fu _ (by omega) (by omega) (fun k hk => ?_) (fun a ha => by rw [rowS_n ha]; exact hJ a ha)
    rw [rowS_s]
    by_cases e : k = i
    · subst e; rw [rowU_s]
    · rw [rowU_n e]; exact h1 k (by omega)
theorem Xfill {I : Nat → Nat → Int32} {X : Nat → Nat → Option Nat} {S : Sta} {q n : Nat} (hT : S.2.1 q = 20) (hL : S.2.2.1 q = n) (hn : n ≤ 96) (v : Int32) : ∃ J', f_J7_fill_53178 (I, X, S) q v = some ((), (J', X, S)) ∧ (∀ k, k < n → J' q k = v) ∧ ∀ a, a ≠ q → J' a = I a := by
  rw [f_J7_fill_53178]
  simp only [mT_S, mL_S, hT, hL, gt_self, gd_t, lp_some, st_d, nm_d, on_none, on_some, cl_some, mI_mk, mX_mk, setI_mk, u2_row, rowS_s, rowU_s]
  exact XfillLoop hT hL hn v n 0 FU I (by omega) (FU_ge (by omega)) (fun k hk => absurd hk (by omega)) (fun _ _ => rfl)
section XSettle
variable {I : Nat → Nat → Int32} {X : Nat → Nat → Option Nat} {S : Sta} {w : Nat} {N : Nat → Int32} {nc ns nt : Nat}
theorem XbestLoop (hS : LaS S) (hw : isW w) (hR : RelW I X S w N nc ns nt) (hG : GN N nc ns nt) (hL : LkX I N nc nt) {s : Nat} (hs : s < ns) {guest : Nat → Option Nat} {sh : Nat → Bool} {shut : Int32} (hg : ∀ c, c < 8 → I 75 c = encC (guest c)) (hgl : ∀ c b, guest c = some b → b < 10) (hsh : ∀ c, c < 8 → (nI c = shut ↔ sh c = true)) :
    ∀ (d c fu : Nat), c + d = nc → d < fu → f_X4_bestLeft_7 fu (I, X, S) 73 w (nI s) shut (encC (chM (LN N nt s) (N 4) (fun c => (guest c).isNone && !sh c) c)) (nI c) = some (encC (chM (LN N nt s) (N 4) (fun c => (guest c).isNone && !sh c) nc), (I, X, S)) := by
  have h8 := hG.2.1
  have h10 := hG.2.2.2.1
  intro d
  induction d with
  | zero =>
    intro c fu hc hf
    obtain ⟨fu, rfl⟩ : ∃ m, fu = m + 1 := ⟨fu - 1, by omega⟩
    have hc : c = nc := by omega
    subst hc
    rw [f_X4_bestLeft_7]
    simp only [gt_self, gd_t, lp_some, st_d, nm_d, on_none, on_some, cl_some, mI_mk, mX_mk, setI_mk, u2_row, rowS_s, rowU_s, xT0 hS, xP0_0 hS, xP0_1 hS, xP0_2 hS, xP0_3 hS, xP0_4 hS, xP0_5 hS, xP0_6 hS, xP0_7 hS, xP0_8 hS, xT73 hS, xP73_0 hS, xT74 hS, xL74 hS, xP73_1 hS, xT75 hS, xL75 hS, xP73_2 hS, xT76 hS, xL76 hS, xP73_3 hS, xT77 hS, xL77 hS, xT78 hS, xP78_0 hS, xT79 hS, xL79 hS, xT80 hS, xP80_0 hS, xP80_2 hS, xT81 hS, xL81 hS, xT82 hS, xL82 hS, xT83 hS, xL83 hS, xT84 hS, xL84 hS, xT85 hS, xL85 hS, wT hS hw, wP0 hS hw, wP2 hS hw, wP4 hS hw, wP7 hS hw, wP9 hS hw, wT1 hS hw, wL1 hS hw, wT2 hS hw, wL2 hS hw, wT3 hS hw, wL3 hS hw, wT4 hS hw, wL4 hS hw, wT5 hS hw, wL5 hS hw]
    rw [hR.1.2.1, hG.1, if_pos (nI_le (Nat.le_refl _) (by omega))]
  | succ d ih =>
    intro c fu hc hf
    obtain ⟨fu, rfl⟩ : ∃ m, fu = m + 1 := ⟨fu - 1, by omega⟩
    have ih := ih (c + 1) fu (by omega) (by omega)
    rw [f_X4_bestLeft_7]
    simp only [gt_self, gd_t, lp_some, st_d, nm_d, on_none, on_some, cl_some, mI_mk, mX_mk, setI_mk, u2_row, rowS_s, rowU_s, xT0 hS, xP0_0 hS, xP0_1 hS, xP0_2 hS, xP0_3 hS, xP0_4 hS, xP0_5 hS, xP0_6 hS, xP0_7 hS, xP0_8 hS, xT73 hS, xP73_0 hS, xT74 hS, xL74 hS, xP73_1 hS, xT75 hS, xL75 hS, xP73_2 hS, xT76 hS, xL76 hS, xP73_3 hS, xT77 hS, xL77 hS, xT78 hS, xP78_0 hS, xT79 hS, xL79 hS, xT80 hS, xP80_0 hS, xP80_2 hS, xT81 hS, xL81 hS, xT82 hS, xL82 hS, xT83 hS, xL83 hS, xT84 hS, xL84 hS, xT85 hS, xL85 hS, wT hS hw, wP0 hS hw, wP2 hS hw, wP4 hS hw, wP7 hS hw, wP9 hS hw, wT1 hS hw, wL1 hS hw, wT2 hS hw, wL2 hS hw, wT3 hS hw, wL3 hS hw, wT4 hS hw, wL4 hS hw, wT5 hS hw, wL5 hS hw]
    rw [hR.1.2.1, hG.1, if_neg (nI_ge (by omega) (by omega)), gd_ok (ib_nI (by omega) (by decide)), nI_clamp (by omega), hg c (by omega)]
    have h50 : ∀ z : Int32, f_X4_bestLeft_50 (f_X4_bestLeft_7 fu) (I, X, S) 73 w (nI s) shut (encC (chM (LN N nt s) (N 4) (fun c => (guest c).isNone && !sh c) c)) (nI c) z = if z = 0 then f_X4_bestLeft_7 fu (I, X, S) 73 w (nI s) shut (encC (chM (LN N nt s) (N 4) (fun c => (guest c).isNone && !sh c) c)) (nI (c + 1)) else (match chM (LN N nt s) (N 4) (fun c => (guest c).isNone && !sh c) c with
        | none => f_X4_bestLeft_7 fu (I, X, S) 73 w (nI s) shut (nI c) (nI (c + 1))
        | some b => if LN N nt s b < LN N nt s c then f_X4_bestLeft_7 fu (I, X, S) 73 w (nI s) shut (nI c) (nI (c + 1)) else f_X4_bestLeft_7 fu (I, X, S) 73 w (nI s) shut (nI b) (nI (c + 1))) := by
      intro z
      rw [f_X4_bestLeft_50, nI_1]
      by_cases hz : z = 0
      · rw [if_pos hz, if_pos hz]
      · rw [if_neg hz, if_neg hz]
        cases hq : chM (LN N nt s) (N 4) (fun c => (guest c).isNone && !sh c) c with
        | none => rw [if_pos (encC_no rfl)]
        | some b =>
          have hb := (ch_lt hq).1
          rw [if_neg (encC_pos rfl (by omega)), show encC (some b) = nI b from rfl]
          simp only [gt_self, gd_t, lp_some, st_d, nm_d, on_none, on_some, cl_some, mI_mk, mX_mk, setI_mk, u2_row, rowS_s, rowU_s, xT0 hS, xP0_0 hS, xP0_1 hS, xP0_2 hS, xP0_3 hS, xP0_4 hS, xP0_5 hS, xP0_6 hS, xP0_7 hS, xP0_8 hS, xT73 hS, xP73_0 hS, xT74 hS, xL74 hS, xP73_1 hS, xT75 hS, xL75 hS, xP73_2 hS, xT76 hS, xL76 hS, xP73_3 hS, xT77 hS, xL77 hS, xT78 hS, xP78_0 hS, xT79 hS, xL79 hS, xT80 hS, xP80_0 hS, xP80_2 hS, xT81 hS, xL81 hS, xT82 hS, xL82 hS, xT83 hS, xL83 hS, xT84 hS, xL84 hS, xT85 hS, xL85 hS, wT hS hw, wP0 hS hw, wP2 hS hw, wP4 hS hw, wP7 hS hw, wP9 hS hw, wT1 hS hw, wL1 hS hw, wT2 hS hw, wL2 hS hw, wT3 hS hw, wL3 hS hw, wT4 hS hw, wL4 hS hw, wT5 hS hw, wL5 hS hw]
          rw [Xliked hS hw hR hG hL hs (show c < nc by omega)]
          simp only [gt_self, gd_t, lp_some, st_d, nm_d, on_none, on_some, cl_some, mI_mk, mX_mk, setI_mk, u2_row, rowS_s, rowU_s, xT0 hS, xP0_0 hS, xP0_1 hS, xP0_2 hS, xP0_3 hS, xP0_4 hS, xP0_5 hS, xP0_6 hS, xP0_7 hS, xP0_8 hS, xT73 hS, xP73_0 hS, xT74 hS, xL74 hS, xP73_1 hS, xT75 hS, xL75 hS, xP73_2 hS, xT76 hS, xL76 hS, xP73_3 hS, xT77 hS, xL77 hS, xT78 hS, xP78_0 hS, xT79 hS, xL79 hS, xT80 hS, xP80_0 hS, xP80_2 hS, xT81 hS, xL81 hS, xT82 hS, xL82 hS, xT83 hS, xL83 hS, xT84 hS, xL84 hS, xT85 hS, xL85 hS, wT hS hw, wP0 hS hw, wP2 hS hw, wP4 hS hw, wP7 hS hw, wP9 hS hw, wT1 hS hw, wL1 hS hw, wT2 hS hw, wL2 hS hw, wT3 hS hw, wL3 hS hw, wT4 hS hw, wL4 hS hw, wT5 hS hw, wL5 hS hw]
          rw [Xliked hS hw hR hG hL hs (show b < nc by omega)]
          simp only [gt_self, gd_t, lp_some, st_d, nm_d, on_none, on_some, cl_some, mI_mk, mX_mk, setI_mk, u2_row, rowS_s, rowU_s, xT0 hS, xP0_0 hS, xP0_1 hS, xP0_2 hS, xP0_3 hS, xP0_4 hS, xP0_5 hS, xP0_6 hS, xP0_7 hS, xP0_8 hS, xT73 hS, xP73_0 hS, xT74 hS, xL74 hS, xP73_1 hS, xT75 hS, xL75 hS, xP73_2 hS, xT76 hS, xL76 hS, xP73_3 hS, xT77 hS, xL77 hS, xT78 hS, xP78_0 hS, xT79 hS, xL79 hS, xT80 hS, xP80_0 hS, xP80_2 hS, xT81 hS, xL81 hS, xT82 hS, xL82 hS, xT83 hS, xL83 hS, xT84 hS, xL84 hS, xT85 hS, xL85 hS, wT hS hw, wP0 hS hw, wP2 hS hw, wP4 hS hw, wP7 hS hw, wP9 hS hw, wT1 hS hw, wL1 hS hw, wT2 hS hw, wL2 hS hw, wT3 hS hw, wL3 hS hw, wT4 hS hw, wL4 hS hw, wT5 hS hw, wL5 hS hw]
          by_cases hlt : LN N nt s b < LN N nt s c
          · rw [if_neg (Int32.not_le.mpr hlt), if_pos hlt]
          · rw [if_pos (Int32.not_lt.mp hlt), if_neg hlt]
    simp only [Xwants hS hw hR hG hL hs (show c < nc by omega), gt_self, gd_t, lp_some, st_d, nm_d, on_none, on_some, cl_some, mI_mk, mX_mk, setI_mk, u2_row, rowS_s, rowU_s, xT0 hS, xP0_0 hS, xP0_1 hS, xP0_2 hS, xP0_3 hS, xP0_4 hS, xP0_5 hS, xP0_6 hS, xP0_7 hS, xP0_8 hS, xT73 hS, xP73_0 hS, xT74 hS, xL74 hS, xP73_1 hS, xT75 hS, xL75 hS, xP73_2 hS, xT76 hS, xL76 hS, xP73_3 hS, xT77 hS, xL77 hS, xT78 hS, xP78_0 hS, xT79 hS, xL79 hS, xT80 hS, xP80_0 hS, xP80_2 hS, xT81 hS, xL81 hS, xT82 hS, xL82 hS, xT83 hS, xL83 hS, xT84 hS, xL84 hS, xT85 hS, xL85 hS, wT hS hw, wP0 hS hw, wP2 hS hw, wP4 hS hw, wP7 hS hw, wP9 hS hw, wT1 hS hw, wL1 hS hw, wT2 hS hw, wL2 hS hw, wT3 hS hw, wL3 hS hw, wT4 hS hw, wL4 hS hw, wT5 hS hw, wL5 hS hw]
    simp only [h50]
    rw [chM_s] at ih
    by_cases hshc : nI c = shut
    · rw [if_pos hshc, if_true]
      rw [if_neg (by simp [(hsh c (by omega)).mp hshc])] at ih
      exact ih
    · have hsf : sh c = false := by
        cases hq : sh c with
        | false => rfl
        | true => exact absurd ((hsh c (by omega)).mpr hq) hshc
      rw [if_neg hshc]
      cases hgc : guest c with
      | some b =>
        rw [if_neg (encC_pos rfl (by have := hgl c b hgc; omega)), if_true]
        rw [if_neg (by simp [hgc])] at ih
        exact ih
      | none =>
        rw [if_pos (encC_no rfl)]
        by_cases hp : N 4 ≤ LN N nt s c
        · rw [if_neg (show ¬ bI (decide (N 4 ≤ LN N nt s c)) = 0 by rw [decide_eq_true hp]; decide), if_neg (by decide)]
          rw [if_pos ⟨by simp [hgc, hsf], hp⟩] at ih
          cases hq : chM (LN N nt s) (N 4) (fun c => (guest c).isNone && !sh c) c with
          | none => rw [hq] at ih; exact ih
          | some b =>
            rw [hq] at ih
            dsimp only at ih ⊢
            by_cases hlt : LN N nt s b < LN N nt s c
            · rw [if_pos hlt] at ih ⊢; exact ih
            · rw [if_neg hlt] at ih ⊢; exact ih
        · rw [if_pos (show bI (decide (N 4 ≤ LN N nt s c)) = 0 by rw [decide_eq_false hp]; rfl), if_true]
          rw [if_neg (fun q => hp q.2)] at ih
          exact ih
theorem XsetLoop (hS : LaS S) (hw : isW w) (hR : RelW I X S w N nc ns nt) (hG : GN N nc ns nt) (hr : GR N nc ns) (hL : LkX I N nc nt) {sh : Nat → Bool} {shut : Int32} (hsh : ∀ c, c < 8 → (nI c = shut ↔ sh c = true)) :
    ∀ (k turn fu : Nat) (P : SP) (x : Int32) (J : Nat → Nat → Int32), turn + k = ns → k < fu → okSP nc ns P → spX J P → (∀ i, i < 10 → bt x i = P.1 i) → (∀ a, a ≠ 74 → a ≠ 75 → J a = I a) →
    ∃ J', f_X4_settle_23 fu (J, X, S) 73 w shut x (nI turn) = some ((), (J', X, S)) ∧ spX J' (sprM (fun s => N (8 + 3 * s)) (awayN N) (LN N nt) (N 4) sh ns nc k P) ∧ ∀ a, a ≠ 74 → a ≠ 75 → J' a = I a := by
  have h8 := hG.2.1
  have h10 := hG.2.2.2.1
  have hlt := hw.lt
  intro k
  induction k with
  | zero =>
    intro turn fu P x J ht hf hok hP hx hJ
    obtain ⟨fu, rfl⟩ : ∃ m, fu = m + 1 := ⟨fu - 1, by omega⟩
    have ht : turn = ns := by omega
    subst ht
    rw [f_X4_settle_23]
    simp only [gt_self, gd_t, lp_some, st_d, nm_d, on_none, on_some, cl_some, mI_mk, mX_mk, setI_mk, u2_row, rowS_s, rowU_s, xT0 hS, xP0_0 hS, xP0_1 hS, xP0_2 hS, xP0_3 hS, xP0_4 hS, xP0_5 hS, xP0_6 hS, xP0_7 hS, xP0_8 hS, xT73 hS, xP73_0 hS, xT74 hS, xL74 hS, xP73_1 hS, xT75 hS, xL75 hS, xP73_2 hS, xT76 hS, xL76 hS, xP73_3 hS, xT77 hS, xL77 hS, xT78 hS, xP78_0 hS, xT79 hS, xL79 hS, xT80 hS, xP80_0 hS, xP80_2 hS, xT81 hS, xL81 hS, xT82 hS, xL82 hS, xT83 hS, xL83 hS, xT84 hS, xL84 hS, xT85 hS, xL85 hS, wT hS hw, wP0 hS hw, wP2 hS hw, wP4 hS hw, wP7 hS hw, wP9 hS hw, wT1 hS hw, wL1 hS hw, wT2 hS hw, wL2 hS hw, wT3 hS hw, wL3 hS hw, wT4 hS hw, wL4 hS hw, wT5 hS hw, wL5 hS hw]
    rw [hJ w (by omega) (by omega), hR.1.2.2.1, hG.2.2.1, if_pos (nI_le (Nat.le_refl _) (by omega))]
    exact ⟨J, rfl, hP, hJ⟩
  | succ k ih =>
    intro turn fu P x J ht hf hok hP hx hJ
    obtain ⟨fu, rfl⟩ : ∃ m, fu = m + 1 := ⟨fu - 1, by omega⟩
    have hRJ : RelW J X S w N nc ns nt := hR.same h8 h10 (fun a ha => hJ a (by unfold ownW at ha; omega) (by unfold ownW at ha; omega))
    have hLJ : LkX J N nc nt := hL.same (hJ 76 (by decide) (by decide)) (hJ 77 (by decide) (by decide))
    rw [f_X4_settle_23]
    simp only [gt_self, gd_t, lp_some, st_d, nm_d, on_none, on_some, cl_some, mI_mk, mX_mk, setI_mk, u2_row, rowS_s, rowU_s, xT0 hS, xP0_0 hS, xP0_1 hS, xP0_2 hS, xP0_3 hS, xP0_4 hS, xP0_5 hS, xP0_6 hS, xP0_7 hS, xP0_8 hS, xT73 hS, xP73_0 hS, xT74 hS, xL74 hS, xP73_1 hS, xT75 hS, xL75 hS, xP73_2 hS, xT76 hS, xL76 hS, xP73_3 hS, xT77 hS, xL77 hS, xT78 hS, xP78_0 hS, xT79 hS, xL79 hS, xT80 hS, xP80_0 hS, xP80_2 hS, xT81 hS, xL81 hS, xT82 hS, xL82 hS, xT83 hS, xL83 hS, xT84 hS, xL84 hS, xT85 hS, xL85 hS, wT hS hw, wP0 hS hw, wP2 hS hw, wP4 hS hw, wP7 hS hw, wP9 hS hw, wT1 hS hw, wL1 hS hw, wT2 hS hw, wL2 hS hw, wT3 hS hw, wL3 hS hw, wT4 hS hw, wL4 hS hw, wT5 hS hw, wL5 hS hw]
    rw [hJ w (by omega) (by omega), hR.1.2.2.1, hG.2.2.1, if_neg (nI_ge (by omega) (by omega)), Xstrongest hS hw hRJ hr hG.2.2.1 h10 hx]
    simp only [gt_self, gd_t, lp_some, st_d, nm_d, on_none, on_some, cl_some, mI_mk, mX_mk, setI_mk, u2_row, rowS_s, rowU_s, xT0 hS, xP0_0 hS, xP0_1 hS, xP0_2 hS, xP0_3 hS, xP0_4 hS, xP0_5 hS, xP0_6 hS, xP0_7 hS, xP0_8 hS, xT73 hS, xP73_0 hS, xT74 hS, xL74 hS, xP73_1 hS, xT75 hS, xL75 hS, xP73_2 hS, xT76 hS, xL76 hS, xP73_3 hS, xT77 hS, xL77 hS, xT78 hS, xP78_0 hS, xT79 hS, xL79 hS, xT80 hS, xP80_0 hS, xP80_2 hS, xT81 hS, xL81 hS, xT82 hS, xL82 hS, xT83 hS, xL83 hS, xT84 hS, xL84 hS, xT85 hS, xL85 hS, wT hS hw, wP0 hS hw, wP2 hS hw, wP4 hS hw, wP7 hS hw, wP9 hS hw, wT1 hS hw, wL1 hS hw, wT2 hS hw, wL2 hS hw, wT3 hS hw, wL3 hS hw, wT4 hS hw, wL4 hS hw, wT5 hS hw, wL5 hS hw]
    unfold sprM
    cases hq : strM (fun s => N (8 + 3 * s)) (freeM (awayN N) P.1) ns with
    | none =>
      rw [if_pos (encC_no rfl)]
      exact ⟨J, rfl, hP, hJ⟩
    | some s =>
      obtain ⟨hs, hfr⟩ := str_lt hq
      have hg0 : P.1 s = false := by
        cases hq2 : P.1 s with
        | false => rfl
        | true => simp [freeM, hq2] at hfr
      rw [if_neg (encC_pos rfl (by omega)), show encC (some s) = nI s from rfl, nI_1]
      have hbest : f_X4_bestLeft (J, X, S) 73 w (nI s) shut = some (encC (chM (LN N nt s) (N 4) (fun c => (P.2.1 c).isNone && !sh c) nc), (J, X, S)) := by
        rw [f_X4_bestLeft]
        exact XbestLoop hS hw hRJ hG hLJ hs hP.2 (fun c b hb => by have := hok.2.2 c b hb; omega) hsh nc 0 FU (by omega) (FU_ge (by omega))
      rw [hbest]
      simp only [gt_self, gd_t, lp_some, st_d, nm_d, on_none, on_some, cl_some, mI_mk, mX_mk, setI_mk, u2_row, rowS_s, rowU_s, xT0 hS, xP0_0 hS, xP0_1 hS, xP0_2 hS, xP0_3 hS, xP0_4 hS, xP0_5 hS, xP0_6 hS, xP0_7 hS, xP0_8 hS, xT73 hS, xP73_0 hS, xT74 hS, xL74 hS, xP73_1 hS, xT75 hS, xL75 hS, xP73_2 hS, xT76 hS, xL76 hS, xP73_3 hS, xT77 hS, xL77 hS, xT78 hS, xP78_0 hS, xT79 hS, xL79 hS, xT80 hS, xP80_0 hS, xP80_2 hS, xT81 hS, xL81 hS, xT82 hS, xL82 hS, xT83 hS, xL83 hS, xT84 hS, xL84 hS, xT85 hS, xL85 hS, wT hS hw, wP0 hS hw, wP2 hS hw, wP4 hS hw, wP7 hS hw, wP9 hS hw, wT1 hS hw, wL1 hS hw, wT2 hS hw, wL2 hS hw, wT3 hS hw, wL3 hS hw, wT4 hS hw, wL4 hS hw, wT5 hS hw, wL5 hS hw]
      have hstep : stepSp (LN N nt) (N 4) sh nc P s = match chM (LN N nt s) (N 4) (fun c => (P.2.1 c).isNone && !sh c) nc with
        | none => (va_up P.1 s true, P.2.1, va_up P.2.2 s none)
        | some c => (va_up P.1 s true, va_up P.2.1 c (some s), va_up P.2.2 s (some c)) := rfl
      have hok1 := okSP_step (L := LN N nt) (pride := N 4) (sh := sh) hok hs
      have hx1 : ∀ i, i < 10 → bt (x ||| ((1 : Int32) <<< (nI s &&& 31))) i = (stepSp (LN N nt) (N 4) sh nc P s).1 i := by
        intro i hi
        rw [bit_set x (by omega) (by omega), hx i hi]
        have : (stepSp (LN N nt) (N 4) sh nc P s).1 = va_up P.1 s true := by unfold stepSp; split <;> rfl
        rw [this]
        show _ = if i = s then true else P.1 i
        by_cases e : i = s
        · subst e; simp
        · simp [e]
      have ih := fun J' => ih (turn + 1) fu (stepSp (LN N nt) (N 4) sh nc P s) (x ||| ((1 : Int32) <<< (nI s &&& 31))) J' (by omega) (by omega) hok1
      generalize hS1 : stepSp (LN N nt) (N 4) sh nc P s = P1 at ih hstep hx1 ⊢
      cases hc : chM (LN N nt s) (N 4) (fun c => (P.2.1 c).isNone && !sh c) nc with
      | none =>
        rw [hc] at hstep
        dsimp only at hstep
        rw [if_pos (encC_no rfl)]
        refine ih J ?_ hx1 hJ
        rw [hstep]
        refine ⟨fun j hj => ?_, hP.2⟩
        show J 74 j = encC (if j = s then none else P.2.2 j)
        by_cases e : j = s
        · subst e; rw [if_pos rfl, hP.1 j hj, hok.1 j hg0]
        · rw [if_neg e]; exact hP.1 j hj
      | some c =>
        rw [hc] at hstep
        dsimp only at hstep
        have hc8 := (ch_lt hc).1
        rw [if_neg (encC_pos rfl (by omega)), show encC (some c) = nI c from rfl, f_X4_move]
        simp only [gt_self, gd_t, lp_some, st_d, nm_d, on_none, on_some, cl_some, mI_mk, mX_mk, setI_mk, u2_row, rowS_s, rowU_s, xT0 hS, xP0_0 hS, xP0_1 hS, xP0_2 hS, xP0_3 hS, xP0_4 hS, xP0_5 hS, xP0_6 hS, xP0_7 hS, xP0_8 hS, xT73 hS, xP73_0 hS, xT74 hS, xL74 hS, xP73_1 hS, xT75 hS, xL75 hS, xP73_2 hS, xT76 hS, xL76 hS, xP73_3 hS, xT77 hS, xL77 hS, xT78 hS, xP78_0 hS, xT79 hS, xL79 hS, xT80 hS, xP80_0 hS, xP80_2 hS, xT81 hS, xL81 hS, xT82 hS, xL82 hS, xT83 hS, xL83 hS, xT84 hS, xL84 hS, xT85 hS, xL85 hS, wT hS hw, wP0 hS hw, wP2 hS hw, wP4 hS hw, wP7 hS hw, wP9 hS hw, wT1 hS hw, wL1 hS hw, wT2 hS hw, wL2 hS hw, wT3 hS hw, wL3 hS hw, wT4 hS hw, wL4 hS hw, wT5 hS hw, wL5 hS hw]
        rw [gd_ok (ib_nI (by omega) (by decide)), gd_ok (ib_nI (by omega) (by decide)), nI_clamp (by omega), nI_clamp (by omega), rowS_n (show (75 : Nat) ≠ 74 by decide)]
        simp only [gt_self, gd_t, lp_some, st_d, nm_d, on_none, on_some, cl_some, mI_mk, mX_mk, setI_mk, u2_row, rowS_s, rowU_s]
        refine ih _ ?_ hx1 (fun a h1 h2 => by rw [rowS_n h2, rowS_n h1]; exact hJ a h1 h2)
        rw [hstep]
        refine ⟨fun j hj => ?_, fun c2 hc2 => ?_⟩
        · rw [rowS_n (by decide), rowS_s]
          show rowU (J 74) s (nI c) j = encC (if j = s then some c else P.2.2 j)
          by_cases e : j = s
          · subst e; rw [rowU_s, if_pos rfl]; rfl
          · rw [rowU_n e, if_neg e]; exact hP.1 j hj
        · rw [rowS_s]
          show rowU (J 75) c (nI s) c2 = encC (if c2 = c then some s else P.2.1 c2)
          by_cases e : c2 = c
          · subst e; rw [rowU_s, if_pos rfl]; rfl
          · rw [rowU_n e, if_neg e]; exact hP.2 c2 hc2
theorem Xsettle (hS : LaS S) (hw : isW w) (hR : RelW I X S w N nc ns nt) (hG : GN N nc ns nt) (hr : GR N nc ns) (hL : LkX I N nc nt) {sh : Nat → Bool} {shut : Int32} (hsh : ∀ c, c < 8 → (nI c = shut ↔ sh c = true)) :
    ∃ J', f_X4_settle (I, X, S) 73 w shut = some ((), (J', X, S)) ∧ spX J' (springM N nc ns nt sh) ∧ ∀ a, a ≠ 74 → a ≠ 75 → J' a = I a := by
  have hlt := hw.lt
  rw [f_X4_settle]
  simp only [gt_self, gd_t, lp_some, st_d, nm_d, on_none, on_some, cl_some, mI_mk, mX_mk, setI_mk, u2_row, rowS_s, rowU_s, xT0 hS, xP0_0 hS, xP0_1 hS, xP0_2 hS, xP0_3 hS, xP0_4 hS, xP0_5 hS, xP0_6 hS, xP0_7 hS, xP0_8 hS, xT73 hS, xP73_0 hS, xT74 hS, xL74 hS, xP73_1 hS, xT75 hS, xL75 hS, xP73_2 hS, xT76 hS, xL76 hS, xP73_3 hS, xT77 hS, xL77 hS, xT78 hS, xP78_0 hS, xT79 hS, xL79 hS, xT80 hS, xP80_0 hS, xP80_2 hS, xT81 hS, xL81 hS, xT82 hS, xL82 hS, xT83 hS, xL83 hS, xT84 hS, xL84 hS, xT85 hS, xL85 hS, wT hS hw, wP0 hS hw, wP2 hS hw, wP4 hS hw, wP7 hS hw, wP9 hS hw, wT1 hS hw, wL1 hS hw, wT2 hS hw, wL2 hS hw, wT3 hS hw, wL3 hS hw, wT4 hS hw, wL4 hS hw, wT5 hS hw, wL5 hS hw]
  obtain ⟨J1, e1, r1, o1⟩ := Xfill (I := I) (X := X) (S := S) (q := 74) (n := 10) (xT74 (I := I) (X := X) hS) (xL74 (I := I) (X := X) hS) (by decide) (-1000000005)
  rw [e1]
  simp only [gt_self, gd_t, lp_some, st_d, nm_d, on_none, on_some, cl_some, mI_mk, mX_mk, setI_mk, u2_row, rowS_s, rowU_s, xT0 hS, xP0_0 hS, xP0_1 hS, xP0_2 hS, xP0_3 hS, xP0_4 hS, xP0_5 hS, xP0_6 hS, xP0_7 hS, xP0_8 hS, xT73 hS, xP73_0 hS, xT74 hS, xL74 hS, xP73_1 hS, xT75 hS, xL75 hS, xP73_2 hS, xT76 hS, xL76 hS, xP73_3 hS, xT77 hS, xL77 hS, xT78 hS, xP78_0 hS, xT79 hS, xL79 hS, xT80 hS, xP80_0 hS, xP80_2 hS, xT81 hS, xL81 hS, xT82 hS, xL82 hS, xT83 hS, xL83 hS, xT84 hS, xL84 hS, xT85 hS, xL85 hS, wT hS hw, wP0 hS hw, wP2 hS hw, wP4 hS hw, wP7 hS hw, wP9 hS hw, wT1 hS hw, wL1 hS hw, wT2 hS hw, wL2 hS hw, wT3 hS hw, wL3 hS hw, wT4 hS hw, wL4 hS hw, wT5 hS hw, wL5 hS hw]
  obtain ⟨J2, e2, r2, o2⟩ := Xfill (I := J1) (X := X) (S := S) (q := 75) (n := 8) (xT75 (I := I) (X := X) hS) (xL75 (I := I) (X := X) hS) (by decide) (-1000000005)
  rw [e2]
  simp only [gt_self, gd_t, lp_some, st_d, nm_d, on_none, on_some, cl_some, mI_mk, mX_mk, setI_mk, u2_row, rowS_s, rowU_s, xT0 hS, xP0_0 hS, xP0_1 hS, xP0_2 hS, xP0_3 hS, xP0_4 hS, xP0_5 hS, xP0_6 hS, xP0_7 hS, xP0_8 hS, xT73 hS, xP73_0 hS, xT74 hS, xL74 hS, xP73_1 hS, xT75 hS, xL75 hS, xP73_2 hS, xT76 hS, xL76 hS, xP73_3 hS, xT77 hS, xL77 hS, xT78 hS, xP78_0 hS, xT79 hS, xL79 hS, xT80 hS, xP80_0 hS, xP80_2 hS, xT81 hS, xL81 hS, xT82 hS, xL82 hS, xT83 hS, xL83 hS, xT84 hS, xL84 hS, xT85 hS, xL85 hS, wT hS hw, wP0 hS hw, wP2 hS hw, wP4 hS hw, wP7 hS hw, wP9 hS hw, wT1 hS hw, wL1 hS hw, wT2 hS hw, wL2 hS hw, wT3 hS hw, wL3 hS hw, wT4 hS hw, wL4 hS hw, wT5 hS hw, wL5 hS hw]
  have ho : ∀ a, a ≠ 74 → a ≠ 75 → J2 a = I a := fun a h1 h2 => (o2 a h2).trans (o1 a h1)
  have := XsetLoop hS hw hR hG hr hL hsh ns 0 FU sp0 0 J2 (by omega) (FU_ge (by have := hG.2.2.2.1; omega)) okSP_0 ⟨fun s hs => by rw [o2 74 (by decide)]; exact r1 s hs, fun c hc => r2 c hc⟩ (fun i hi => b_0 i) ho
  exact this
/-- nobody is shut out -/
theorem shX_no : ∀ c, c < 8 → (nI c = (-1000000005 : Int32) ↔ noSh c = true) := by
  intro c hc
  refine ⟨fun e => ?_, fun e => nomatch e⟩
  exact absurd (show ¬ nI c < 0 from nI_pos (by omega)) (by rw [e]; decide)
end XSettle
