/-! THE PARSER: the key, and both whole -/
def eqM (B : Nat → Int32) (a w : Nat) : Nat → Nat → Bool
  | 0, _ => true
  | d + 1, k => decide (B (a + k) = wcM w k) && eqM B a w d (k + 1)
def kwM (B : Nat → Int32) (a e w : Nat) : Bool := decide (e - a = 4) && eqM B a w 4 0
def keyM (B : Nat → Int32) (a e : Nat) : Option Nat := if kwM B a e 0 = true then some 0 else if kwM B a e 1 = true then some 1 else if kwM B a e 2 = true then some 2 else none
theorem key_of {B : Nat → Int32} {a e key : Nat} (h : keyM B a e = some key) : key < 3 ∧ e - a = 4 := by
  unfold keyM at h
  have k4 : ∀ w, kwM B a e w = true → e - a = 4 := fun w q => by
    unfold kwM at q
    rw [Bool.and_eq_true] at q
    exact of_decide_eq_true q.1
  by_cases e0 : kwM B a e 0 = true
  · rw [if_pos e0] at h; cases h; exact ⟨by decide, k4 0 e0⟩
  rw [if_neg e0] at h
  by_cases e1 : kwM B a e 1 = true
  · rw [if_pos e1] at h; cases h; exact ⟨by decide, k4 1 e1⟩
  rw [if_neg e1] at h
  by_cases e2 : kwM B a e 2 = true
  · rw [if_pos e2] at h; cases h; exact ⟨by decide, k4 2 e2⟩
  · rw [if_neg e2] at h; exact nomatch h
theorem wc_lt : ∀ w, w < 3 → isLt (wcM w 0) = true := by decide +kernel
theorem key_lt {B : Nat → Int32} {a e : Nat} (h : ¬ isLt (B a) = true) : keyM B a e = none := by
  have hn : ∀ w, w < 3 → ¬ kwM B a e w = true := fun w hw q => by
    unfold kwM eqM at q
    rw [Bool.and_eq_true, Bool.and_eq_true] at q
    have := of_decide_eq_true q.2.1
    rw [Nat.add_zero] at this
    exact h (by rw [this]; exact wc_lt w hw)
  unfold keyM
  rw [if_neg (hn 0 (by decide)), if_neg (hn 1 (by decide)), if_neg (hn 2 (by decide))]
section XKey
variable {I : Nat → Nat → Int32} {X : Nat → Nat → Option Nat} {S : Sta} {B : Nat → Int32} {n a e : Nat}
theorem XisWL (hS : LaS S) (hn : n ≤ 96) (hB : ∀ k, k < n → I 79 k = B k) {w : Nat} (hw : w < 3) (ha : a + 4 ≤ n) : ∀ (d k fu : Nat), k + d = 4 → d < fu → f_X6_isWord_15 fu (I, X, S) 78 (nI a) w (nI k) = some (bI (eqM B a w d k), (I, X, S)) := by
  have h4 : sLen.getD w 0 = 4 := (str_ch w hw 0 (by decide)).2.2.2
  intro d
  induction d with
  | zero =>
    intro k fu hk hf
    obtain ⟨fu, rfl⟩ : ∃ q, fu = q + 1 := ⟨fu - 1, by omega⟩
    rw [f_X6_isWord_15, gd_ok (decide_eq_true (show w < 6 by omega)), Xstrlen _ (by omega), h4]
    simp only [cl_some]
    rw [if_pos (nI_le (show 4 ≤ k by omega) (by omega))]
    rfl
  | succ d ih =>
    intro k fu hk hf
    obtain ⟨fu, rfl⟩ : ∃ q, fu = q + 1 := ⟨fu - 1, by omega⟩
    rw [f_X6_isWord_15, gd_ok (decide_eq_true (show w < 6 by omega)), Xstrlen _ (by omega), h4]
    simp only [cl_some]
    rw [if_neg (nI_ge (show k < 4 by omega) (by decide))]
    simp only [gt_self, gd_t, lp_some, st_d, nm_d, on_none, on_some, cl_some, mI_mk, mX_mk, setI_mk, u2_row, rowS_s, rowU_s, xT0 hS, xP0_0 hS, xP0_1 hS, xP0_2 hS, xP0_3 hS, xP0_4 hS, xP0_5 hS, xP0_6 hS, xP0_7 hS, xP0_8 hS, xT73 hS, xP73_0 hS, xT74 hS, xL74 hS, xP73_1 hS, xT75 hS, xL75 hS, xP73_2 hS, xT76 hS, xL76 hS, xP73_3 hS, xT77 hS, xL77 hS, xT78 hS, xP78_0 hS, xT79 hS, xL79 hS, xT80 hS, xP80_0 hS, xP80_2 hS, xT81 hS, xL81 hS, xT82 hS, xL82 hS, xT83 hS, xL83 hS, xT84 hS, xL84 hS, xT85 hS, xL85 hS, gd_ok (decide_eq_true (show w < 6 by omega))]
    rw [nI_add, gd_ok (ib_nI (by omega) (by decide)), nI_clamp (by omega), hB (a + k) (by omega), XcharAt _ hw (by omega)]
    simp only [cl_some]
    rw [nI_1, ih (k + 1) fu (by omega) (by omega)]
    show _ = some (bI (decide (B (a + k) = wcM w k) && eqM B a w d (k + 1)), (I, X, S))
    by_cases z : B (a + k) = wcM w k
    · rw [if_pos z, decide_eq_true z, Bool.true_and]
    · rw [if_neg z, decide_eq_false z, Bool.false_and]; rfl
theorem XisWord (hS : LaS S) (hn : n ≤ 96) (hB : ∀ k, k < n → I 79 k = B k) (hae : a ≤ e) (he : e ≤ n) {w : Nat} (hw : w < 3) : f_X6_isWord (I, X, S) 78 (nI a) (nI e) w = some (bI (kwM B a e w), (I, X, S)) := by
  have h4 : sLen.getD w 0 = 4 := (str_ch w hw 0 (by decide)).2.2.2
  rw [f_X6_isWord, gd_ok (decide_eq_true (show w < 6 by omega)), Xstrlen _ (by omega), h4]
  simp only [cl_some]
  rw [pk_sub hae]
  unfold kwM
  by_cases z : e - a = 4
  · rw [if_pos (show nI (e - a) = nI 4 by rw [z]), decide_eq_true z, Bool.true_and]
    exact XisWL hS hn hB hw (by omega) 4 0 FU (by omega) (FU_ge (by omega))
  · rw [if_neg (fun q => z ((nI_eq (by omega) (by decide)).mp q)), decide_eq_false z, Bool.false_and]; rfl
theorem XkeyAt (hS : LaS S) (hn : n ≤ 96) (hB : ∀ k, k < n → I 79 k = B k) (hae : a ≤ e) (he : e ≤ n) : f_X1_keyAt (I, X, S) 78 (nI a) (nI e) = some (encC (keyM B a e), (I, X, S)) := by
  rw [f_X1_keyAt]
  simp only [gt_self, gd_t, lp_some, st_d, nm_d, on_none, on_some, cl_some, mI_mk, mX_mk, setI_mk, u2_row, rowS_s, rowU_s, xT0 hS, xP0_0 hS, xP0_1 hS, xP0_2 hS, xP0_3 hS, xP0_4 hS, xP0_5 hS, xP0_6 hS, xP0_7 hS, xP0_8 hS, xT73 hS, xP73_0 hS, xT74 hS, xL74 hS, xP73_1 hS, xT75 hS, xL75 hS, xP73_2 hS, xT76 hS, xL76 hS, xP73_3 hS, xT77 hS, xL77 hS, xT78 hS, xP78_0 hS, xT79 hS, xL79 hS, xT80 hS, xP80_0 hS, xP80_2 hS, xT81 hS, xL81 hS, xT82 hS, xL82 hS, xT83 hS, xL83 hS, xT84 hS, xL84 hS, xT85 hS, xL85 hS]
  rw [XisWord hS hn hB hae he (w := 0) (by decide)]
  simp only [gt_self, gd_t, lp_some, st_d, nm_d, on_none, on_some, cl_some, mI_mk, mX_mk, setI_mk, u2_row, rowS_s, rowU_s, xT0 hS, xP0_0 hS, xP0_1 hS, xP0_2 hS, xP0_3 hS, xP0_4 hS, xP0_5 hS, xP0_6 hS, xP0_7 hS, xP0_8 hS, xT73 hS, xP73_0 hS, xT74 hS, xL74 hS, xP73_1 hS, xT75 hS, xL75 hS, xP73_2 hS, xT76 hS, xL76 hS, xP73_3 hS, xT77 hS, xL77 hS, xT78 hS, xP78_0 hS, xT79 hS, xL79 hS, xT80 hS, xP80_0 hS, xP80_2 hS, xT81 hS, xL81 hS, xT82 hS, xL82 hS, xT83 hS, xL83 hS, xT84 hS, xL84 hS, xT85 hS, xL85 hS, ifB]
  unfold keyM
  by_cases e0 : kwM B a e 0 = true
  · rw [if_pos e0, if_pos e0]; rfl
  rw [if_neg e0, if_neg e0, XisWord hS hn hB hae he (w := 1) (by decide)]
  simp only [gt_self, gd_t, lp_some, st_d, nm_d, on_none, on_some, cl_some, mI_mk, mX_mk, setI_mk, u2_row, rowS_s, rowU_s, xT0 hS, xP0_0 hS, xP0_1 hS, xP0_2 hS, xP0_3 hS, xP0_4 hS, xP0_5 hS, xP0_6 hS, xP0_7 hS, xP0_8 hS, xT73 hS, xP73_0 hS, xT74 hS, xL74 hS, xP73_1 hS, xT75 hS, xL75 hS, xP73_2 hS, xT76 hS, xL76 hS, xP73_3 hS, xT77 hS, xL77 hS, xT78 hS, xP78_0 hS, xT79 hS, xL79 hS, xT80 hS, xP80_0 hS, xP80_2 hS, xT81 hS, xL81 hS, xT82 hS, xL82 hS, xT83 hS, xL83 hS, xT84 hS, xL84 hS, xT85 hS, xL85 hS, ifB]
  by_cases e1 : kwM B a e 1 = true
  · rw [if_pos e1, if_pos e1]; rfl
  rw [if_neg e1, if_neg e1, XisWord hS hn hB hae he (w := 2) (by decide)]
  simp only [gt_self, gd_t, lp_some, st_d, nm_d, on_none, on_some, cl_some, mI_mk, mX_mk, setI_mk, u2_row, rowS_s, rowU_s, xT0 hS, xP0_0 hS, xP0_1 hS, xP0_2 hS, xP0_3 hS, xP0_4 hS, xP0_5 hS, xP0_6 hS, xP0_7 hS, xP0_8 hS, xT73 hS, xP73_0 hS, xT74 hS, xL74 hS, xP73_1 hS, xT75 hS, xL75 hS, xP73_2 hS, xT76 hS, xL76 hS, xP73_3 hS, xT77 hS, xL77 hS, xT78 hS, xP78_0 hS, xT79 hS, xL79 hS, xT80 hS, xP80_0 hS, xP80_2 hS, xT81 hS, xL81 hS, xT82 hS, xL82 hS, xT83 hS, xL83 hS, xT84 hS, xL84 hS, xT85 hS, xL85 hS, ifB]
  by_cases e2 : kwM B a e 2 = true
  · rw [if_pos e2, if_pos e2]; rfl
  · rw [if_neg e2, if_neg e2]; rfl
/-- the first word, by the class -/
theorem XgoKey (hS : LaS S) (hn : n ≤ 96) (ha : a < n) (hB : ∀ k, k < n → I 79 k = B k) (h4 : I 80 4 = -1000000005) (h6 : I 80 6 = -1) : ∃ I', f_X1_goesOn (I, X, S) 80 78 (nI a) (nI (endM B n a)) = some (bI (keyM B a (endM B n a)).isSome, (I', X, S)) ∧ (∀ j, j ≠ 4 → j ≠ 6 → I' 80 j = I 80 j) ∧ I' 80 4 = encC (keyM B a (endM B n a)) ∧ ((keyM B a (endM B n a)).isSome = true → I' 80 6 = nI (endM B n a)) ∧ ∀ x, x ≠ 80 → I' x = I x := by
  have he := end_le (B := B) ha
  have w56 : ∀ (r : Nat → Int32), r 4 = -1000000005 → f_X1_goesOn_56 (rowS I 80 r, X, S) 80 78 (nI a) (nI (endM B n a)) (B a) = some (bI (keyM B a (endM B n a)).isSome, (rowS I 80 (rowU r 4 (encC (keyM B a (endM B n a)))), X, S)) := by
    intro r hr
    rw [f_X1_goesOn_56]
    simp only [gt_self, gd_t, lp_some, st_d, nm_d, on_none, on_some, cl_some, mI_mk, mX_mk, setI_mk, u2_row, rowS_s, rowU_s, xT0 hS, xP0_0 hS, xP0_1 hS, xP0_2 hS, xP0_3 hS, xP0_4 hS, xP0_5 hS, xP0_6 hS, xP0_7 hS, xP0_8 hS, xT73 hS, xP73_0 hS, xT74 hS, xL74 hS, xP73_1 hS, xT75 hS, xL75 hS, xP73_2 hS, xT76 hS, xL76 hS, xP73_3 hS, xT77 hS, xL77 hS, xT78 hS, xP78_0 hS, xT79 hS, xL79 hS, xT80 hS, xP80_0 hS, xP80_2 hS, xT81 hS, xL81 hS, xT82 hS, xL82 hS, xT83 hS, xL83 hS, xT84 hS, xL84 hS, xT85 hS, xL85 hS, rowS_rowS]
    rw [hr, if_pos rfl, XkeyAt (I := rowS I 80 r) (X := X) hS hn (B := B) (fun k hk => by rw [rowS_n (by decide)]; exact hB k hk) (by omega) he.2]
    simp only [gt_self, gd_t, lp_some, st_d, nm_d, on_none, on_some, cl_some, mI_mk, mX_mk, setI_mk, u2_row, rowS_s, rowU_s, xT0 hS, xP0_0 hS, xP0_1 hS, xP0_2 hS, xP0_3 hS, xP0_4 hS, xP0_5 hS, xP0_6 hS, xP0_7 hS, xP0_8 hS, xT73 hS, xP73_0 hS, xT74 hS, xL74 hS, xP73_1 hS, xT75 hS, xL75 hS, xP73_2 hS, xT76 hS, xL76 hS, xP73_3 hS, xT77 hS, xL77 hS, xT78 hS, xP78_0 hS, xT79 hS, xL79 hS, xT80 hS, xP80_0 hS, xP80_2 hS, xT81 hS, xL81 hS, xT82 hS, xL82 hS, xT83 hS, xL83 hS, xT84 hS, xL84 hS, xT85 hS, xL85 hS, rowS_rowS]
    cases hq : keyM B a (endM B n a) with
    | none => rw [if_pos (encC_no rfl)]; rfl
    | some w => rw [if_neg (encC_pos rfl (by have := (key_of hq).1; omega))]; rfl
  rw [f_X1_goesOn]
  simp only [gt_self, gd_t, lp_some, st_d, nm_d, on_none, on_some, cl_some, mI_mk, mX_mk, setI_mk, u2_row, rowS_s, rowU_s, xT0 hS, xP0_0 hS, xP0_1 hS, xP0_2 hS, xP0_3 hS, xP0_4 hS, xP0_5 hS, xP0_6 hS, xP0_7 hS, xP0_8 hS, xT73 hS, xP73_0 hS, xT74 hS, xL74 hS, xP73_1 hS, xT75 hS, xL75 hS, xP73_2 hS, xT76 hS, xL76 hS, xP73_3 hS, xT77 hS, xL77 hS, xT78 hS, xP78_0 hS, xT79 hS, xL79 hS, xT80 hS, xP80_0 hS, xP80_2 hS, xT81 hS, xL81 hS, xT82 hS, xL82 hS, xT83 hS, xL83 hS, xT84 hS, xL84 hS, xT85 hS, xL85 hS]
  rw [gd_ok (ib_nI (by omega) (by decide)), nI_clamp (by omega), hB a ha, XisLt]
  simp only [cl_some, ifB]
  have word : ∃ I', f_X1_goesOn_29 (I, X, S) 80 78 (nI a) (nI (endM B n a)) (B a) 1 = some (bI (keyM B a (endM B n a)).isSome, (I', X, S)) ∧ (∀ j, j ≠ 4 → j ≠ 6 → I' 80 j = I 80 j) ∧ I' 80 4 = encC (keyM B a (endM B n a)) ∧ ((keyM B a (endM B n a)).isSome = true → I' 80 6 = nI (endM B n a)) ∧ ∀ x, x ≠ 80 → I' x = I x := by
    rw [f_X1_goesOn_29, if_neg one_ne]
    simp only [gt_self, gd_t, lp_some, st_d, nm_d, on_none, on_some, cl_some, mI_mk, mX_mk, setI_mk, u2_row, rowS_s, rowU_s, xT0 hS, xP0_0 hS, xP0_1 hS, xP0_2 hS, xP0_3 hS, xP0_4 hS, xP0_5 hS, xP0_6 hS, xP0_7 hS, xP0_8 hS, xT73 hS, xP73_0 hS, xT74 hS, xL74 hS, xP73_1 hS, xT75 hS, xL75 hS, xP73_2 hS, xT76 hS, xL76 hS, xP73_3 hS, xT77 hS, xL77 hS, xT78 hS, xP78_0 hS, xT79 hS, xL79 hS, xT80 hS, xP80_0 hS, xP80_2 hS, xT81 hS, xL81 hS, xT82 hS, xL82 hS, xT83 hS, xL83 hS, xT84 hS, xL84 hS, xT85 hS, xL85 hS]
    rw [h6, if_neg (show ¬ nI a = -1 from fun q => nI_pos (n := a) (by omega) (by rw [q]; decide)), f_X1_goesOn_46, if_neg one_ne]
    simp only [gt_self, gd_t, lp_some, st_d, nm_d, on_none, on_some, cl_some, mI_mk, mX_mk, setI_mk, u2_row, rowS_s, rowU_s, xT0 hS, xP0_0 hS, xP0_1 hS, xP0_2 hS, xP0_3 hS, xP0_4 hS, xP0_5 hS, xP0_6 hS, xP0_7 hS, xP0_8 hS, xT73 hS, xP73_0 hS, xT74 hS, xL74 hS, xP73_1 hS, xT75 hS, xL75 hS, xP73_2 hS, xT76 hS, xL76 hS, xP73_3 hS, xT77 hS, xL77 hS, xT78 hS, xP78_0 hS, xT79 hS, xL79 hS, xT80 hS, xP80_0 hS, xP80_2 hS, xT81 hS, xL81 hS, xT82 hS, xL82 hS, xT83 hS, xL83 hS, xT84 hS, xL84 hS, xT85 hS, xL85 hS]
    rw [w56 _ (by rw [rowU_n (by decide)]; exact h4)]
    exact ⟨_, rfl, fun j j1 j2 => by rw [rowS_s, rowU_n j1, rowU_n j2], by rw [rowS_s, rowU_s], fun _ => by rw [rowS_s, rowU_n (by decide), rowU_s], fun x hx => rowS_n hx⟩
  by_cases l : isLt (B a) = true
  · rw [if_pos l]; exact word
  · rw [if_neg l, XisDg]
    simp only [cl_some, ifB]
    by_cases d : isDg (B a) = true
    · rw [if_pos d]; exact word
    · rw [if_neg d, f_X1_goesOn_29, if_pos rfl, f_X1_goesOn_46, if_pos rfl]
      have := w56 (I 80) h4
      rw [rowS_id] at this
      rw [this, key_lt l]
      exact ⟨_, rfl, fun j j1 j2 => by rw [rowS_s, rowU_n j1], by rw [rowS_s, rowU_s], (fun q => nomatch q), fun x hx => rowS_n hx⟩
end XKey
section RKey
variable {J : Nat → Nat → Int32} {B : Nat → Int32} {n a e : Nat}
theorem key_rows : (∀ w, w < 3 → ∀ k, k < 4 → Y0.1 9 (4 * w + k) = wcM w k) ∧ ∀ w, w < 4 → Y0.1 10 w = nI (4 * w) := by decide +kernel
theorem R55 {w : Nat} (hw : w < 3) (h8 : J 8 = B) (h9 : J 9 = Y0.1 9) (h10 : J 10 = Y0.1 10) (h12 : J 0 12 = nI a) (K : Mem → Nat → Int32 → Option (Int32 × Mem)) : ∀ (d k fu : Nat) (b : Bool), k + d = 4 → d < fu → (b = true → a + 4 ≤ 96) → f_X10_takesKey_55 K fu (J, YZ) 0 (nI w) (nI 4) (bI b) (nI k) = f_X10_takesKey_106 K (J, YZ) 0 (nI w) (bI (b && eqM B a w d k)) := by
  intro d
  induction d with
  | zero =>
    intro k fu b hk hf hb
    obtain ⟨fu, rfl⟩ : ∃ q, fu = q + 1 := ⟨fu - 1, by omega⟩
    rw [f_X10_takesKey_55, if_pos (nI_le (show 4 ≤ k by omega) (by omega))]
    show _ = f_X10_takesKey_106 K (J, YZ) 0 (nI w) (bI (b && true))
    rw [Bool.and_true]
  | succ d ih =>
    intro k fu b hk hf hb
    obtain ⟨fu, rfl⟩ : ∃ q, fu = q + 1 := ⟨fu - 1, by omega⟩
    rw [f_X10_takesKey_55, if_neg (nI_ge (show k < 4 by omega) (by decide)), ifB]
    cases b with
    | false => rw [if_neg Bool.false_ne_true, Bool.false_and]
    | true =>
      have ha := hb rfl
      rw [if_pos rfl, Bool.true_and]
      simp only [gt_self, gd_t, lp_some, st_d, nm_d, on_none, on_some, cl_some, mI_mk, mX_mk, setI_mk, u2_row, rowS_s, rowU_s, yT0, yP0, yT1, yL1, yP1, yT2, yL2, yP2, yT3, yL3, yP5, yT4, yL4, yP6, yT5, yL5, yP7, yT6, yL6, yP8, yT7, yL7, yP9, yT8, yL8, yP17, yT9, yL9, yP18, yT10, yL10, yP19, yT11, yL11, yP22, yT12, yL12, yP24, yT13, yL13, yP25, yT14, yL14, yP26, yT15, yL15, yP27, yT16, yL16, yP28, yT17, yL17, yP29, yT18, yL18, yP30, yT19, yL19, yP31, yT20, yL20, yP32, yT21, yL21, yP33, yT22, yL22, yP34, yT23, yL23, yP35, yT24, yL24]
      rw [h12, nI_add, gd_ok (ib_nI (by omega) (by decide)), gd_ok (ib_nI (by omega) (by decide)), nI_clamp (show w < 2 ^ 31 by omega), nI_clamp (show a + k < 2 ^ 31 by omega), h10, key_rows.2 w (by omega), nI_add, gd_ok (ib_nI (by omega) (by decide)), nI_clamp (by omega), h9, key_rows.1 w hw k (by omega), h8, nI_1]
      have i1 := ih (k + 1) fu true (by omega) (by omega) hb
      have i0 := ih (k + 1) fu false (by omega) (by omega) (fun q => nomatch q)
      show _ = f_X10_takesKey_106 K (J, YZ) 0 (nI w) (bI (decide (B (a + k) = wcM w k) && eqM B a w d (k + 1)))
      by_cases z : B (a + k) = wcM w k
      · rw [if_pos z, decide_eq_true z, Bool.true_and]
        rw [Bool.true_and] at i1
        exact i1
      · rw [if_neg z, decide_eq_false z]
        exact i0
theorem RkeyL (h8 : J 8 = B) (h9 : J 9 = Y0.1 9) (h10 : J 10 = Y0.1 10) (h12 : J 0 12 = nI a) (h11 : J 0 11 = nI e) (hae : a ≤ e) (he : e ≤ 96) {w fu : Nat} (hw : w < 3) : f_X10_takesKey_12 (fu + 1) (J, YZ) 0 (nI w) = f_X10_takesKey_106 (f_X10_takesKey_12 fu) (J, YZ) 0 (nI w) (bI (kwM B a e w)) := by
  rw [f_X10_takesKey_12, if_neg (show ¬ (3 : Int32) ≤ nI w from nI_ge (b := 3) hw (by decide))]
  simp only [gt_self, gd_t, lp_some, st_d, nm_d, on_none, on_some, cl_some, mI_mk, mX_mk, setI_mk, u2_row, rowS_s, rowU_s, yT0, yP0, yT1, yL1, yP1, yT2, yL2, yP2, yT3, yL3, yP5, yT4, yL4, yP6, yT5, yL5, yP7, yT6, yL6, yP8, yT7, yL7, yP9, yT8, yL8, yP17, yT9, yL9, yP18, yT10, yL10, yP19, yT11, yL11, yP22, yT12, yL12, yP24, yT13, yL13, yP25, yT14, yL14, yP26, yT15, yL15, yP27, yT16, yL16, yP28, yT17, yL17, yP29, yT18, yL18, yP30, yT19, yL19, yP31, yT20, yL20, yP32, yT21, yL21, yP33, yT22, yL22, yP34, yT23, yL23, yP35, yT24, yL24, nI_1]
  rw [gd_ok (ib_nI (show w + 1 < 4 by omega) (by decide)), gd_ok (ib_nI (show w < 4 by omega) (by decide)), nI_clamp (show w + 1 < 2 ^ 31 by omega), nI_clamp (show w < 2 ^ 31 by omega), h10, key_rows.2 w (by omega), key_rows.2 (w + 1) (by omega), pk_sub (by omega), h11, h12, pk_sub hae, show 4 * (w + 1) - 4 * w = 4 by omega]
  unfold kwM
  have r := R55 hw h8 h9 h10 h12 (f_X10_takesKey_12 fu) 4 0 FU
  by_cases z : e - a = 4
  · rw [if_pos (show nI 4 = nI (e - a) by rw [z]), decide_eq_true z]
    exact r true (by omega) (FU_ge (by omega)) (fun _ => by omega)
  · rw [if_neg (show ¬ nI 4 = nI (e - a) from fun q => z ((nI_eq (by decide) (by omega)).mp q).symm), decide_eq_false z]
    have := r false (by omega) (FU_ge (by omega)) (fun q => nomatch q)
    rw [Bool.false_and] at this
    exact this
theorem RtakesKey (h8 : J 8 = B) (h9 : J 9 = Y0.1 9) (h10 : J 10 = Y0.1 10) (h12 : J 0 12 = nI a) (h11 : J 0 11 = nI e) (hae : a ≤ e) (he : e ≤ 96) (h13 : J 0 13 = 1) : f_X10_takesKey (J, YZ) 0 = match keyM B a e with
    | none => some (0, (J, YZ))
    | some w => cl (f_X10_go (rowS J 0 (rowU (J 0) 16 (nI w)), YZ) 0) (fun _ M => some (1, M)) := by
  have r := fun (fu w : Nat) (hw : w < 3) => RkeyL (B := B) (fu := fu) (w := w) h8 h9 h10 h12 h11 hae he hw
  have f106 : ∀ (K : Mem → Nat → Int32 → Option (Int32 × Mem)) (w : Nat) (b : Bool), f_X10_takesKey_106 K (J, YZ) 0 (nI w) (bI b) = if b = true then cl (f_X10_go (rowS J 0 (rowU (J 0) 16 (nI w)), YZ) 0) (fun _ M => some (1, M)) else K (J, YZ) 0 (nI (w + 1)) := by
    intro K w b
    rw [f_X10_takesKey_106, ifB, nI_1]
    simp only [gt_self, gd_t, lp_some, st_d, nm_d, on_none, on_some, cl_some, mI_mk, mX_mk, setI_mk, u2_row, rowS_s, rowU_s, yT0, yP0, yT1, yL1, yP1, yT2, yL2, yP2, yT3, yL3, yP5, yT4, yL4, yP6, yT5, yL5, yP7, yT6, yL6, yP8, yT7, yL7, yP9, yT8, yL8, yP17, yT9, yL9, yP18, yT10, yL10, yP19, yT11, yL11, yP22, yT12, yL12, yP24, yT13, yL13, yP25, yT14, yL14, yP26, yT15, yL15, yP27, yT16, yL16, yP28, yT17, yL17, yP29, yT18, yL18, yP30, yT19, yL19, yP31, yT20, yL20, yP32, yT21, yL21, yP33, yT22, yL22, yP34, yT23, yL23, yP35, yT24, yL24]
  rw [f_X10_takesKey]
  simp only [gt_self, gd_t, lp_some, st_d, nm_d, on_none, on_some, cl_some, mI_mk, mX_mk, setI_mk, u2_row, rowS_s, rowU_s, yT0, yP0, yT1, yL1, yP1, yT2, yL2, yP2, yT3, yL3, yP5, yT4, yL4, yP6, yT5, yL5, yP7, yT6, yL6, yP8, yT7, yL7, yP9, yT8, yL8, yP17, yT9, yL9, yP18, yT10, yL10, yP19, yT11, yL11, yP22, yT12, yL12, yP24, yT13, yL13, yP25, yT14, yL14, yP26, yT15, yL15, yP27, yT16, yL16, yP28, yT17, yL17, yP29, yT18, yL18, yP30, yT19, yL19, yP31, yT20, yL20, yP32, yT21, yL21, yP33, yT22, yL22, yP34, yT23, yL23, yP35, yT24, yL24]
  rw [h13, if_pos rfl, show FU = 3996 + 1 + 1 + 1 + 1 from rfl]
  have e0 := r (3996 + 1 + 1 + 1) 0 (by decide)
  rw [show nI 0 = (0 : Int32) from rfl] at e0
  rw [e0, show (0 : Int32) = nI 0 from rfl, f106]
  unfold keyM
  by_cases z : kwM B a e 0 = true
  · rw [if_pos z, if_pos z]
  rw [if_neg z, if_neg z, r _ 1 (by decide), f106]
  by_cases z : kwM B a e 1 = true
  · rw [if_pos z, if_pos z]
  rw [if_neg z, if_neg z, r _ 2 (by decide), f106]
  by_cases z : kwM B a e 2 = true
  · rw [if_pos z, if_pos z]
  rw [if_neg z, if_neg z, f_X10_takesKey_12, if_pos (show (3 : Int32) ≤ nI (2 + 1) by decide)]
  rfl
end RKey
