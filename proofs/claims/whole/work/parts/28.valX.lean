/-! THE CLASS: laws worked out -/
def gS (s : Int32) : Int32 := if s < 20000 then s else if s = 20033 then -10 else if s = 20124 then -1 else if s = 20038 then -2 else if s = 20060 then -3 else if s = 20061 then -4 else if s = 20062 then -5 else if s = 20043 then -6 else if s = 20045 then -7 else if s = 20042 then -8 else -9
def okG (s : Int32) : Prop := (0 ≤ s ∧ s < 20000) ∨ s = 20033 ∨ s = 20124 ∨ s = 20038 ∨ s = 20060 ∨ s = 20061 ∨ s = 20062 ∨ s = 20043 ∨ s = 20045 ∨ s = 20042 ∨ s = 20047
theorem gS_124 : gS 20124 = -1 := by decide
theorem Xj_124 (M : Mem) (a b : Int32) : f_X7_joined M (20124 - 20000) a b = some (twoM (-1) a b, M) := by
  rw [show (20124 : Int32) - 20000 = 124 by decide]
  unfold f_X7_joined twoM
  rw [if_neg (show ¬ (124 : Int32) = 38 by decide), if_neg (show ¬ (124 : Int32) = 42 by decide), if_neg (show ¬ (124 : Int32) = 43 by decide), if_neg (show ¬ (124 : Int32) = 45 by decide), if_neg (show ¬ (124 : Int32) = 60 by decide), if_neg (show ¬ (124 : Int32) = 61 by decide), if_neg (show ¬ (124 : Int32) = 62 by decide), if_pos (show (124 : Int32) = 124 by decide), if_neg (show ¬ (-1 : Int32) = -8 by decide), if_neg (show ¬ (-1 : Int32) = -7 by decide), if_neg (show ¬ (-1 : Int32) = -6 by decide), if_neg (show ¬ (-1 : Int32) = -5 by decide), if_neg (show ¬ (-1 : Int32) = -4 by decide), if_neg (show ¬ (-1 : Int32) = -3 by decide), if_neg (show ¬ (-1 : Int32) = -2 by decide), if_pos (show (-1 : Int32) = -1 by decide)]
  by_cases h1 : a = 0
  · by_cases h2 : b = 0
    · simp only [h1, h2, if_true]
    · simp only [h1, h2, if_true, if_false]
  · by_cases h2 : b = 0
    · simp only [h1, h2, if_true, if_false]
    · simp only [h1, h2, if_false]
theorem gS_38 : gS 20038 = -2 := by decide
theorem Xj_38 (M : Mem) (a b : Int32) : f_X7_joined M (20038 - 20000) a b = some (twoM (-2) a b, M) := by
  rw [show (20038 : Int32) - 20000 = 38 by decide]
  unfold f_X7_joined twoM
  rw [if_pos (show (38 : Int32) = 38 by decide), if_neg (show ¬ (-2 : Int32) = -8 by decide), if_neg (show ¬ (-2 : Int32) = -7 by decide), if_neg (show ¬ (-2 : Int32) = -6 by decide), if_neg (show ¬ (-2 : Int32) = -5 by decide), if_neg (show ¬ (-2 : Int32) = -4 by decide), if_neg (show ¬ (-2 : Int32) = -3 by decide), if_pos (show (-2 : Int32) = -2 by decide)]
  by_cases h1 : a = 0
  · by_cases h2 : b = 0
    · simp only [h1, h2, if_true]
    · simp only [h1, h2, if_true, if_false]
  · by_cases h2 : b = 0
    · simp only [h1, h2, if_true, if_false]
    · simp only [h1, h2, if_false]
theorem gS_60 : gS 20060 = -3 := by decide
theorem Xj_60 (M : Mem) (a b : Int32) : f_X7_joined M (20060 - 20000) a b = some (twoM (-3) a b, M) := by
  rw [show (20060 : Int32) - 20000 = 60 by decide]
  unfold f_X7_joined twoM
  rw [if_neg (show ¬ (60 : Int32) = 38 by decide), if_neg (show ¬ (60 : Int32) = 42 by decide), if_neg (show ¬ (60 : Int32) = 43 by decide), if_neg (show ¬ (60 : Int32) = 45 by decide), if_pos (show (60 : Int32) = 60 by decide), if_neg (show ¬ (-3 : Int32) = -8 by decide), if_neg (show ¬ (-3 : Int32) = -7 by decide), if_neg (show ¬ (-3 : Int32) = -6 by decide), if_neg (show ¬ (-3 : Int32) = -5 by decide), if_neg (show ¬ (-3 : Int32) = -4 by decide), if_pos (show (-3 : Int32) = -3 by decide)]
  split <;> rfl
theorem gS_61 : gS 20061 = -4 := by decide
theorem Xj_61 (M : Mem) (a b : Int32) : f_X7_joined M (20061 - 20000) a b = some (twoM (-4) a b, M) := by
  rw [show (20061 : Int32) - 20000 = 61 by decide]
  unfold f_X7_joined twoM
  rw [if_neg (show ¬ (61 : Int32) = 38 by decide), if_neg (show ¬ (61 : Int32) = 42 by decide), if_neg (show ¬ (61 : Int32) = 43 by decide), if_neg (show ¬ (61 : Int32) = 45 by decide), if_neg (show ¬ (61 : Int32) = 60 by decide), if_pos (show (61 : Int32) = 61 by decide), if_neg (show ¬ (-4 : Int32) = -8 by decide), if_neg (show ¬ (-4 : Int32) = -7 by decide), if_neg (show ¬ (-4 : Int32) = -6 by decide), if_neg (show ¬ (-4 : Int32) = -5 by decide), if_pos (show (-4 : Int32) = -4 by decide)]
  split <;> rfl
theorem gS_62 : gS 20062 = -5 := by decide
theorem Xj_62 (M : Mem) (a b : Int32) : f_X7_joined M (20062 - 20000) a b = some (twoM (-5) a b, M) := by
  rw [show (20062 : Int32) - 20000 = 62 by decide]
  unfold f_X7_joined twoM
  rw [if_neg (show ¬ (62 : Int32) = 38 by decide), if_neg (show ¬ (62 : Int32) = 42 by decide), if_neg (show ¬ (62 : Int32) = 43 by decide), if_neg (show ¬ (62 : Int32) = 45 by decide), if_neg (show ¬ (62 : Int32) = 60 by decide), if_neg (show ¬ (62 : Int32) = 61 by decide), if_pos (show (62 : Int32) = 62 by decide), if_neg (show ¬ (-5 : Int32) = -8 by decide), if_neg (show ¬ (-5 : Int32) = -7 by decide), if_neg (show ¬ (-5 : Int32) = -6 by decide), if_pos (show (-5 : Int32) = -5 by decide)]
  split <;> rfl
theorem gS_43 : gS 20043 = -6 := by decide
theorem Xj_43 (M : Mem) (a b : Int32) : f_X7_joined M (20043 - 20000) a b = some (twoM (-6) a b, M) := by
  rw [show (20043 : Int32) - 20000 = 43 by decide]
  unfold f_X7_joined twoM
  rw [if_neg (show ¬ (43 : Int32) = 38 by decide), if_neg (show ¬ (43 : Int32) = 42 by decide), if_pos (show (43 : Int32) = 43 by decide), if_neg (show ¬ (-6 : Int32) = -8 by decide), if_neg (show ¬ (-6 : Int32) = -7 by decide), if_pos (show (-6 : Int32) = -6 by decide)]
theorem gS_45 : gS 20045 = -7 := by decide
theorem Xj_45 (M : Mem) (a b : Int32) : f_X7_joined M (20045 - 20000) a b = some (twoM (-7) a b, M) := by
  rw [show (20045 : Int32) - 20000 = 45 by decide]
  unfold f_X7_joined twoM
  rw [if_neg (show ¬ (45 : Int32) = 38 by decide), if_neg (show ¬ (45 : Int32) = 42 by decide), if_neg (show ¬ (45 : Int32) = 43 by decide), if_pos (show (45 : Int32) = 45 by decide), if_neg (show ¬ (-7 : Int32) = -8 by decide), if_pos (show (-7 : Int32) = -7 by decide)]
theorem gS_42 : gS 20042 = -8 := by decide
theorem Xj_42 (M : Mem) (a b : Int32) : f_X7_joined M (20042 - 20000) a b = some (twoM (-8) a b, M) := by
  rw [show (20042 : Int32) - 20000 = 42 by decide]
  unfold f_X7_joined twoM
  rw [if_neg (show ¬ (42 : Int32) = 38 by decide), if_pos (show (42 : Int32) = 42 by decide), if_pos (show (-8 : Int32) = -8 by decide)]
theorem gS_47 : gS 20047 = -9 := by decide
theorem Xj_47 (M : Mem) (a b : Int32) : f_X7_joined M (20047 - 20000) a b = some (twoM (-9) a b, M) := by
  rw [show (20047 : Int32) - 20000 = 47 by decide]
  unfold f_X7_joined twoM
  rw [if_neg (show ¬ (47 : Int32) = 38 by decide), if_neg (show ¬ (47 : Int32) = 42 by decide), if_neg (show ¬ (47 : Int32) = 43 by decide), if_neg (show ¬ (47 : Int32) = 45 by decide), if_neg (show ¬ (47 : Int32) = 60 by decide), if_neg (show ¬ (47 : Int32) = 61 by decide), if_neg (show ¬ (47 : Int32) = 62 by decide), if_neg (show ¬ (47 : Int32) = 124 by decide), if_neg (show ¬ (-9 : Int32) = -8 by decide), if_neg (show ¬ (-9 : Int32) = -7 by decide), if_neg (show ¬ (-9 : Int32) = -6 by decide), if_neg (show ¬ (-9 : Int32) = -5 by decide), if_neg (show ¬ (-9 : Int32) = -4 by decide), if_neg (show ¬ (-9 : Int32) = -3 by decide), if_neg (show ¬ (-9 : Int32) = -2 by decide), if_neg (show ¬ (-9 : Int32) = -1 by decide)]
  by_cases h : b = 0
  · simp only [if_pos h]
  · simp only [if_neg h, gz_ok h]
theorem gS_neg {s : Int32} (h : okG s) (h2 : ¬ s < 20000) : gS s < 0 := by
  rcases h with h | h | h | h | h | h | h | h | h | h | h
  · exact absurd h.2 h2
  · subst h; decide
  · subst h; decide
  · subst h; decide
  · subst h; decide
  · subst h; decide
  · subst h; decide
  · subst h; decide
  · subst h; decide
  · subst h; decide
  · subst h; decide
theorem gS_ten {s : Int32} (h : okG s) (h2 : ¬ s < 20000) : gS s = -10 ↔ s = 20033 := by
  rcases h with h | h | h | h | h | h | h | h | h | h | h
  · exact absurd h.2 h2
  · subst h; decide
  · subst h; decide
  · subst h; decide
  · subst h; decide
  · subst h; decide
  · subst h; decide
  · subst h; decide
  · subst h; decide
  · subst h; decide
  · subst h; decide
theorem gS_pos {s : Int32} (h2 : s < 20000) : gS s = s := if_pos h2
theorem Xjoined {s : Int32} (h : okG s) (h2 : ¬ s < 20000) (h3 : ¬ s = 20033) (M : Mem) (a b : Int32) : f_X7_joined M (s - 20000) a b = some (twoM (gS s) a b, M) := by
  rcases h with h | h | h | h | h | h | h | h | h | h | h
  · exact absurd h.2 h2
  · exact absurd h h3
  · subst h; rw [gS_124]; exact Xj_124 M a b
  · subst h; rw [gS_38]; exact Xj_38 M a b
  · subst h; rw [gS_60]; exact Xj_60 M a b
  · subst h; rw [gS_61]; exact Xj_61 M a b
  · subst h; rw [gS_62]; exact Xj_62 M a b
  · subst h; rw [gS_43]; exact Xj_43 M a b
  · subst h; rw [gS_45]; exact Xj_45 M a b
  · subst h; rw [gS_42]; exact Xj_42 M a b
  · subst h; rw [gS_47]; exact Xj_47 M a b
theorem Xnamed (M : Mem) (a b c : Int32) {i : Nat} (hi : i < 3) : f_X7_named M (nI (10000 + i)) a b c = some (factsM a b c i, M) := by
  match i, hi with
  | 0, _ => rw [f_X7_named, if_pos (by decide)]; rfl
  | 1, _ => rw [f_X7_named, if_neg (by decide), if_pos (by decide)]; rfl
  | 2, _ => rw [f_X7_named, if_neg (by decide), if_neg (by decide)]; rfl
/-- a text's object: its key, its steps -/
def TxO (I : Nat → Nat → Int32) (S : Sta) (b key n : Nat) (pc : Int32) (sg : Nat → Int32) : Prop := 114 ≤ b ∧ S.2.1 b = 8 ∧ I b 0 = nI key ∧ I b 1 = pc ∧ ∃ a, S.1 b 2 = some a ∧ 114 ≤ a ∧ S.2.1 a = 20 ∧ S.2.2.1 a = n ∧ ∀ k, k < n → okG (I a k) ∧ sg k = gS (I a k)
theorem mT_S (I : Nat → Nat → Int32) (X : Nat → Nat → Option Nat) (S : Sta) (k : Nat) : mT (I, X, S) k = S.2.1 k := Eq.trans rfl rfl
theorem mP_S (I : Nat → Nat → Int32) (X : Nat → Nat → Option Nat) (S : Sta) (k j : Nat) : mP (I, X, S) k j = S.1 k j := Eq.trans rfl rfl
theorem mL_S (I : Nat → Nat → Int32) (X : Nat → Nat → Option Nat) (S : Sta) (k : Nat) : mL (I, X, S) k = S.2.2.1 k := Eq.trans rfl rfl
theorem XvalueLoop {I : Nat → Nat → Int32} {X : Nat → Nat → Option Nat} {S : Sta} {b key n nn q : Nat} {pc f1 f2 f3 : Int32} {sg : Nat → Int32} (hT : TxO I S b key n pc sg) (hok : okM nn sg n) (hnn : nn ≤ 3) (hq : q < 114) (hqT : S.2.1 q = 20) (hqL : S.2.2.1 q = 96) :
    ∀ (d k fu : Nat) (J : Nat → Nat → Int32), k + d = n → d < fu → (∀ a, a ≠ q → J a = I a) → Stk (J q) (evM sg (factsM f1 f2 f3) k) →
    ∃ J', f_X7_value_6 fu (J, X, S) b f1 f2 f3 q (nI (dpM sg k)) (nI k) = some (valM sg (factsM f1 f2 f3) n, (J', X, S)) ∧ ∀ a, a ≠ q → J' a = I a := by
  obtain ⟨hb, hbT, hb0, hb1, a, haP, ha, haT, haL, hst⟩ := hT
  have hn96 := hok.2.2
  intro d
  induction d with
  | zero =>
    intro k fu J hk hf hJ hS
    obtain ⟨fu, rfl⟩ : ∃ m, fu = m + 1 := ⟨fu - 1, by omega⟩
    have hk : k = n := by omega
    subst hk
    refine ⟨J, ?_, hJ⟩
    rw [f_X7_value_6]
    simp only [mT_S, mP_S, mL_S, hbT, haP, haT, haL, hqT, hqL, gt_self, gd_t, lp_some, st_d, nm_d, on_none, on_some, cl_some, mI_mk, mX_mk, setI_mk, u2_row, rowS_s, rowU_s]
    rw [if_pos (nI_le (Nat.le_refl _) (by omega)), hok.2.1, if_pos (show (1 : Int32) ≤ nI 1 from nI_le (a := 1) (Nat.le_refl _) (by decide)), gd_ok (il0 (by decide)), tn0]
    have hl := ev_len (F := factsM f1 f2 f3) hok k (Nat.le_refl _)
    rw [hok.2.1] at hl
    have hv : J q 0 = valM sg (factsM f1 f2 f3) k := by
      unfold valM
      revert hS hl
      cases evM sg (factsM f1 f2 f3) k with
      | nil => intro _ hl; simp at hl
      | cons a r =>
        intro hS hl
        cases r with
        | nil => exact hS.1
        | cons b r => simp at hl
    rw [hv]
  | succ d ih =>
    intro k fu J hk hf hJ hS
    obtain ⟨fu, rfl⟩ : ∃ m, fu = m + 1 := ⟨fu - 1, by omega⟩
    have hdl := dp_le sg k
    have ho := hok.1 k (by omega)
    have hlen := ev_len (F := factsM f1 f2 f3) hok k (by omega)
    have hna : a ≠ q := by omega
    obtain ⟨hg, hs⟩ := hst k (by omega)
    have ih := fun J' => ih (k + 1) fu J' (by omega) (by omega)
    rw [f_X7_value_6]
    simp only [mT_S, mP_S, mL_S, hbT, haP, haT, haL, hqT, hqL, gt_self, gd_t, lp_some, st_d, nm_d, on_none, on_some, cl_some, mI_mk, mX_mk, setI_mk, u2_row, rowS_s, rowU_s]
    rw [if_neg (nI_ge (by omega) (by omega)), gd_ok (ib_nI (by omega) (by omega)), nI_clamp (by omega), hJ a hna]
    have hev : evM sg (factsM f1 f2 f3) (k + 1) = stepM (sg k) (factsM f1 f2 f3) (evM sg (factsM f1 f2 f3) k) := rfl
    have hdp : dpM sg (k + 1) = if sg k < 0 then (if sg k = (-10) then dpM sg k else dpM sg k - 1) else dpM sg k + 1 := rfl
    rw [hev, hdp] at ih
    generalize hD : dpM sg k = D at ho ih hlen hdl ⊢
    generalize hE : evM sg (factsM f1 f2 f3) k = E at ih hS hlen
    rw [hs] at ih ho
    generalize hx : I a k = x at hg ih ho ⊢
    by_cases h1 : x < 20000
    · have hpos : ¬ gS x < 0 := by
        rcases hg with h | h | h | h | h | h | h | h | h | h | h
        · rw [gS_pos h1]; exact Int32.not_lt.mpr h.1
        all_goals (subst h; exact absurd h1 (by decide))
      rw [if_neg (Int32.not_le.mpr h1), if_pos (nI_lt (by omega) (by decide))]
      rw [if_neg hpos] at ih
      have push : ∀ v : Int32, (if 10000 ≤ gS x then factsM f1 f2 f3 (gS x - 10000).toNatClampNeg else gS x) = v → ∃ J', f_X7_value_68 (f_X7_value_6 fu) (J, X, S) b f1 f2 f3 q (nI D) (nI k) q (nI D) v = some (valM sg (factsM f1 f2 f3) n, (J', X, S)) ∧ ∀ a, a ≠ q → J' a = I a := by
        intro v hv
        have hst : stepM (gS x) (factsM f1 f2 f3) E = v :: E := by unfold stepM; rw [if_neg hpos, hv]
        rw [hst] at ih
        rw [f_X7_value_68]
        simp only [mT_S, mL_S, hqT, hqL, gt_self, gd_t, lp_some, st_d, nm_d, on_none, on_some, cl_some, mI_mk, mX_mk, setI_mk, u2_row, rowS_s, rowU_s]
        rw [gd_ok (ib_nI (by omega) (by decide)), nI_clamp (by omega)]
        simp only [nI_1]
        exact ih _ (fun c hc => by rw [rowS_n hc]; exact hJ c hc) (by rw [rowS_s]; exact ⟨by rw [hlen, rowU_s], Stk.up hS (by omega)⟩)
      rw [gS_pos h1] at push ho
      by_cases h2 : 10000 ≤ x
      · rw [if_pos h2]
        obtain ⟨i, hi, e⟩ := ho.2 h2
        rw [e, Xnamed _ _ _ _ (by omega)]
        simp only [gt_self, gd_t, lp_some, st_d, nm_d, on_none, on_some, cl_some, mI_mk, mX_mk, setI_mk, u2_row, rowS_s, rowU_s]
        refine push _ ?_
        rw [if_pos h2, e, show (10000 : Int32) = nI 10000 from rfl, pk_sub (by omega), Nat.add_sub_cancel_left, nI_clamp (by omega)]
      · rw [if_neg h2]
        exact push _ (if_neg h2)
    · have hneg := gS_neg hg h1
      rw [if_pos (Int32.not_lt.mp h1)]
      rw [if_pos hneg] at ih
      by_cases h2 : x = 20033
      · have h10 := (gS_ten hg h1).mpr h2
        rw [if_pos h2]
        rw [if_pos h10] at ih
        have hd1 := (ho.1 hneg).1 h10
        obtain ⟨D', rfl⟩ : ∃ m, D = m + 1 := ⟨D - 1, by omega⟩
        rw [if_pos (show (1 : Int32) ≤ nI (D' + 1) from nI_le (a := 1) (by omega) (by omega))]
        cases E with
        | nil => simp at hlen
        | cons c r =>
          have hr : r.length = D' := by simpa using hlen
          have hq0 : J q D' = c := by rw [← hr]; exact hS.1
          simp only [nI_s1]
          rw [gd_ok (ib_nI (by omega) (by decide)), nI_clamp (by omega), hq0]
          have hst : stepM (gS x) (factsM f1 f2 f3) (c :: r) = (if c = 0 then 1 else 0) :: r := by unfold stepM; rw [if_pos hneg, if_pos h10]
          rw [hst] at ih
          have fin : ∀ z v : Int32, (if z = 0 then (0 : Int32) else 1) = v → (if c = 0 then (1 : Int32) else 0) = v → ∃ J', f_X7_value_112 (f_X7_value_6 fu) (J, X, S) b f1 f2 f3 q (nI (D' + 1)) (nI k) q (nI D') z = some (valM sg (factsM f1 f2 f3) n, (J', X, S)) ∧ ∀ a, a ≠ q → J' a = I a := by
            intro z v hz hv
            rw [hv] at ih
            have hbit : f_X9_bit (J, X, S) z = some (v, (J, X, S)) := by
              rw [f_X9_bit, ← hz]
              split <;> rfl
            rw [f_X7_value_112, hbit]
            simp only [mT_S, mL_S, hqT, hqL, gt_self, gd_t, lp_some, st_d, nm_d, on_none, on_some, cl_some, mI_mk, mX_mk, setI_mk, u2_row, rowS_s, rowU_s]
            rw [gd_ok (ib_nI (by omega) (by decide)), nI_clamp (by omega)]
            simp only [nI_1]
            exact ih _ (fun c hc => by rw [rowS_n hc]; exact hJ c hc) (by rw [rowS_s]; exact ⟨by rw [hr, rowU_s], Stk.up hS.2 (by omega)⟩)
          by_cases h3 : c = 0
          · rw [if_pos h3]; exact fin 1 1 (by decide) (if_pos h3)
          · rw [if_neg h3]; exact fin 0 0 (by decide) (if_neg h3)
      · have h10 : ¬ gS x = -10 := fun e => h2 ((gS_ten hg h1).mp e)
        rw [if_neg h2]
        rw [if_neg h10] at ih
        have hd1 := (ho.1 hneg).2 h10
        obtain ⟨D', rfl⟩ : ∃ m, D = m + 2 := ⟨D - 2, by omega⟩
        rw [if_pos (show (2 : Int32) ≤ nI (D' + 2) from nI_le (a := 2) (by omega) (by omega))]
        match E, hlen, ih, hS with
        | [], hlen, _, _ => simp at hlen
        | [_], hlen, _, _ => simp at hlen
        | e2 :: e1 :: r, hlen, ih, hS =>
          have hr : r.length = D' := by simpa using hlen
          have hq1 : J q (D' + 1) = e2 := by have := hS.1; rw [List.length_cons, hr] at this; exact this
          have hq0 : J q D' = e1 := by have := hS.2.1; rw [hr] at this; exact this
          rw [show nI (D' + 2) + (-1) = nI (D' + 1) from nI_m1 (D' + 1)]
          simp only [nI_s1]
          rw [gd_ok (ib_nI (by omega) (by decide)), gd_ok (ib_nI (by omega) (by decide)), nI_clamp (by omega), nI_clamp (by omega), hq0, hq1, Xjoined hg h1 h2]
          simp only [mT_S, mL_S, hqT, hqL, gt_self, gd_t, lp_some, st_d, nm_d, on_none, on_some, cl_some, mI_mk, mX_mk, setI_mk, u2_row, rowS_s, rowU_s]
          rw [gd_ok (ib_nI (by omega) (by decide))]
          simp only [nI_1]
          have hst : stepM (gS x) (factsM f1 f2 f3) (e2 :: e1 :: r) = twoM (gS x) e1 e2 :: r := by unfold stepM; rw [if_pos hneg, if_neg h10]
          rw [hst] at ih
          exact ih _ (fun c hc => by rw [rowS_n hc]; exact hJ c hc) (by rw [rowS_s]; exact ⟨by rw [hr, rowU_s], Stk.up hS.2.2 (by omega)⟩)
theorem Xvalue {I : Nat → Nat → Int32} {X : Nat → Nat → Option Nat} {S : Sta} {b key n nn q : Nat} {pc : Int32} (f1 f2 f3 : Int32) {sg : Nat → Int32} (hT : TxO I S b key n pc sg) (hok : okM nn sg n) (hnn : nn ≤ 3) (hq : q < 114) (hqT : S.2.1 q = 20) (hqL : S.2.2.1 q = 96) :
    ∃ J', f_X7_value (I, X, S) b f1 f2 f3 q = some (valM sg (factsM f1 f2 f3) n, (J', X, S)) ∧ ∀ a, a ≠ q → J' a = I a := by
  rw [f_X7_value]
  exact XvalueLoop hT hok hnn hq hqT hqL n 0 FU I (by omega) (FU_ge (by have := hok.2.2; omega)) (fun _ _ => rfl) trivial
