/-! THE PARSER: both from the beginning -/
section FaultBoth
variable {I : Nat → Nat → Int32} {X : Nat → Nat → Option Nat} {S : Sta} {J : Nat → Nat → Int32} {n : Nat}
def beginR (r : Nat → Int32) : Nat → Int32 := rowU (rowU (rowU (rowU (rowU (rowU (rowU (rowU (rowU r 1 0) 3 0) 4 (-1000000005)) 5 0) 6 (-1)) 7 1) 8 0) 9 0) 10 0
theorem Xbegin (hS : LaS S) : f_X1_begin (I, X, S) 80 = some ((), (rowS I 80 (beginR (I 80)), X, S)) := by
  rw [f_X1_begin]
  simp only [gt_self, gd_t, lp_some, st_d, nm_d, on_none, on_some, cl_some, mI_mk, mX_mk, setI_mk, u2_row, rowS_s, rowU_s, xT0 hS, xP0_0 hS, xP0_1 hS, xP0_2 hS, xP0_3 hS, xP0_4 hS, xP0_5 hS, xP0_6 hS, xP0_7 hS, xP0_8 hS, xT73 hS, xP73_0 hS, xT74 hS, xL74 hS, xP73_1 hS, xT75 hS, xL75 hS, xP73_2 hS, xT76 hS, xL76 hS, xP73_3 hS, xT77 hS, xL77 hS, xT78 hS, xP78_0 hS, xT79 hS, xL79 hS, xT80 hS, xP80_0 hS, xP80_2 hS, xT81 hS, xL81 hS, xT82 hS, xL82 hS, xT83 hS, xL83 hS, xT84 hS, xL84 hS, xT85 hS, xL85 hS, rowS_rowS]
  rfl
theorem faultBoth (hS : LaS S) (hn : n ≤ 96) (hI : I 78 1 = nI n) (hB : ∀ k, k < n → I 79 k = J 8 k) (h10 : J 0 10 = nI n) (k9 : J 9 = Y0.1 9) (k10 : J 10 = Y0.1 10) : ∃ f b I' J', f_X1_fault (I, X, S) 80 78 = some (f, (I', X, S)) ∧ f_X10_text (J, YZ) 0 = f_X10_text_33 (J', YZ) 0 b ∧ FX I I' ∧ FY J J' ∧ ((b = 0 ∧ ∃ q, q ≤ 96 ∧ f = nI q ∧ J' 0 12 = nI q) ∨ (b = 1 ∧ f = -1 ∧ ∃ key, key < 3 ∧ FinR I' J' key)) := by
  rw [f_X1_fault, f_X10_text]
  simp only [gt_self, gd_t, lp_some, st_d, nm_d, on_none, on_some, cl_some, mI_mk, mX_mk, setI_mk, u2_row, rowS_s, rowU_s, xT0 hS, xP0_0 hS, xP0_1 hS, xP0_2 hS, xP0_3 hS, xP0_4 hS, xP0_5 hS, xP0_6 hS, xP0_7 hS, xP0_8 hS, xT73 hS, xP73_0 hS, xT74 hS, xL74 hS, xP73_1 hS, xT75 hS, xL75 hS, xP73_2 hS, xT76 hS, xL76 hS, xP73_3 hS, xT77 hS, xL77 hS, xT78 hS, xP78_0 hS, xT79 hS, xL79 hS, xT80 hS, xP80_0 hS, xP80_2 hS, xT81 hS, xL81 hS, xT82 hS, xL82 hS, xT83 hS, xL83 hS, xT84 hS, xL84 hS, xT85 hS, xL85 hS, yT0, yP0, yT1, yL1, yP1, yT2, yL2, yP2, yT3, yL3, yP5, yT4, yL4, yP6, yT5, yL5, yP7, yT6, yL6, yP8, yT7, yL7, yP9, yT8, yL8, yP17, yT9, yL9, yP18, yT10, yL10, yP19, yT11, yL11, yP22, yT12, yL12, yP24, yT13, yL13, yP25, yT14, yL14, yP26, yT15, yL15, yP27, yT16, yL16, yP28, yT17, yL17, yP29, yT18, yL18, yP30, yT19, yL19, yP31, yT20, yL20, yP32, yT21, yL21, yP33, yT22, yL22, yP34, yT23, yL23, yP35, yT24, yL24]
  rw [Xbegin hS]
  simp only [gt_self, gd_t, lp_some, st_d, nm_d, on_none, on_some, cl_some, mI_mk, mX_mk, setI_mk, u2_row, rowS_s, rowU_s, xT0 hS, xP0_0 hS, xP0_1 hS, xP0_2 hS, xP0_3 hS, xP0_4 hS, xP0_5 hS, xP0_6 hS, xP0_7 hS, xP0_8 hS, xT73 hS, xP73_0 hS, xT74 hS, xL74 hS, xP73_1 hS, xT75 hS, xL75 hS, xP73_2 hS, xT76 hS, xL76 hS, xP73_3 hS, xT77 hS, xL77 hS, xT78 hS, xP78_0 hS, xT79 hS, xL79 hS, xT80 hS, xP80_0 hS, xP80_2 hS, xT81 hS, xL81 hS, xT82 hS, xL82 hS, xT83 hS, xL83 hS, xT84 hS, xL84 hS, xT85 hS, xL85 hS, yT0, yP0, yT1, yL1, yP1, yT2, yL2, yP2, yT3, yL3, yP5, yT4, yL4, yP6, yT5, yL5, yP7, yT6, yL6, yP8, yT7, yL7, yP9, yT8, yL8, yP17, yT9, yL9, yP18, yT10, yL10, yP19, yT11, yL11, yP22, yT12, yL12, yP24, yT13, yL13, yP25, yT14, yL14, yP26, yT15, yL15, yP27, yT16, yL16, yP28, yT17, yL17, yP29, yT18, yL18, yP30, yT19, yL19, yP31, yT20, yL20, yP32, yT21, yL21, yP33, yT22, yL22, yP34, yT23, yL23, yP35, yT24, yL24, rowS_rowS]
  have fx0 : FX I (rowS I 80 (beginR (I 80))) := fun x a _ _ => rowS_n a
  generalize hIb : rowS I 80 (beginR (I 80)) = Ib at fx0 ⊢
  have ib2 : ∀ j, Ib 80 j = beginR (I 80) j := fun j => by rw [← hIb, rowS_s]
  have hI1 : Ib 78 1 = nI n := by rw [fx0 78 (by decide) (by decide) (by decide)]; exact hI
  have hB1 : ∀ k, k < n → Ib 79 k = J 8 k := fun k q => by rw [fx0 79 (by decide) (by decide) (by decide)]; exact hB k q
  obtain ⟨J1, e1, t12, t13, t11, t15, t14, tr, tx⟩ := Rgo (J := rowS J 0 (rowU (rowU (J 0) 11 0) 15 (-1))) (B := J 8) (n := n) (p := 0) hn (Nat.zero_le n) (by rw [rowS_s, rowU_n (by decide), rowU_n (by decide)]; exact h10) (by rw [rowS_n (by decide)]) (by rw [rowS_s, rowU_n (by decide), rowU_s]; rfl)
  rw [rowS_s, rowU_s] at t13 t15 t14
  rw [e1]
  simp only [yT0, yP0, yT1, yL1, yP1, yT2, yL2, yP2, yT3, yL3, yP5, yT4, yL4, yP6, yT5, yL5, yP7, yT6, yL6, yP8, yT7, yL7, yP9, yT8, yL8, yP17, yT9, yL9, yP18, yT10, yL10, yP19, yT11, yL11, yP22, yT12, yL12, yP24, yT13, yL13, yP25, yT14, yL14, yP26, yT15, yL15, yP27, yT16, yL16, yP28, yT17, yL17, yP29, yT18, yL18, yP30, yT19, yL19, yP31, yT20, yL20, yP32, yT21, yL21, yP33, yT22, yL22, yP34, yT23, yL23, yP35, yT24, yL24, cl_some, gt_self]
  have fy1 : FY J J1 := ⟨fun x a _ _ _ => by rw [tx x a, rowS_n a], fun j hj => by rw [tr j (by omega), rowS_s, rowU_n (by omega), rowU_n (by omega)]⟩
  have j8 : J1 8 = J 8 := fy1.1 8 (by decide) (by decide) (by decide) (by decide)
  obtain ⟨f', hf', e'⟩ := XskipL (X := X) (S := S) (B := J 8) hS hn hI1 hB1 (n - 0) 0 FU (by omega) (FU_ge (by omega))
  rw [show runM isSp (J 8) (n - 0) 0 = skM (J 8) n 0 from rfl] at hf' e'
  have hsk := (sk_le (B := J 8) (Nat.zero_le n)).2
  have hne := sk_no (B := J 8) (n := n) (p := 0) (Nat.zero_le n)
  have e' : f_X1_fault_6 FU (Ib, X, S) 80 78 0 = f_X1_fault_6 f' (Ib, X, S) 80 78 (nI (skM (J 8) n 0)) := e'
  rw [e']
  generalize skM (J 8) n 0 = a at *
  obtain ⟨f', rfl⟩ : ∃ q, f' = q + 1 := ⟨f' - 1, by omega⟩
  have lose : f_X10_takesKey (J1, YZ) 0 = some (0, (J1, YZ)) → ∀ {Ix : Nat → Nat → Int32} {P : Option (Int32 × Mem)}, FX I Ix → P = some (nI a, (Ix, X, S)) → ∃ f b I' J', P = some (f, (I', X, S)) ∧ (cl (f_X10_takesKey (J1, YZ) 0) (fun r12 M11 => if r12 = 0 then f_X10_text_33 M11 0 0 else gt (mT M11 0) 11 (cl (f_X10_takesE M11 0) (fun r16 M15 => if r16 = 0 then f_X10_text_33 M15 0 0 else f_X10_text_33 M15 0 1)))) = f_X10_text_33 (J', YZ) 0 b ∧ FX I I' ∧ FY J J' ∧ ((b = 0 ∧ ∃ q, q ≤ 96 ∧ f = nI q ∧ J' 0 12 = nI q) ∨ (b = 1 ∧ f = -1 ∧ ∃ key, key < 3 ∧ FinR I' J' key)) := by
    intro ek Ix P q1 q2
    refine ⟨nI a, 0, Ix, J1, q2, ?_, q1, fy1, Or.inl ⟨rfl, a, by omega, rfl, t12⟩⟩
    rw [ek]
    simp only [cl_some]
    rw [if_pos trivial]
  by_cases ea : n ≤ a
  · have ht0 : tokT (J 8) n (-1) a = 0 := by unfold tokT; rw [if_pos ea]
    rw [ht0] at t13
    refine lose ?_ fx0 ?_
    · rw [f_X10_takesKey]
      simp only [gt_self, gd_t, lp_some, st_d, nm_d, on_none, on_some, cl_some, mI_mk, mX_mk, setI_mk, u2_row, rowS_s, rowU_s, yT0, yP0, yT1, yL1, yP1, yT2, yL2, yP2, yT3, yL3, yP5, yT4, yL4, yP6, yT5, yL5, yP7, yT6, yL6, yP8, yT7, yL7, yP9, yT8, yL8, yP17, yT9, yL9, yP18, yT10, yL10, yP19, yT11, yL11, yP22, yT12, yL12, yP24, yT13, yL13, yP25, yT14, yL14, yP26, yT15, yL15, yP27, yT16, yL16, yP28, yT17, yL17, yP29, yT18, yL18, yP30, yT19, yL19, yP31, yT20, yL20, yP32, yT21, yL21, yP33, yT22, yL22, yP34, yT23, yL23, yP35, yT24, yL24]
      rw [t13, if_neg (show ¬ nI 0 = 1 by decide)]
    · rw [f_X1_fault_6]
      simp only [gt_self, gd_t, lp_some, st_d, nm_d, on_none, on_some, cl_some, mI_mk, mX_mk, setI_mk, u2_row, rowS_s, rowU_s, xT0 hS, xP0_0 hS, xP0_1 hS, xP0_2 hS, xP0_3 hS, xP0_4 hS, xP0_5 hS, xP0_6 hS, xP0_7 hS, xP0_8 hS, xT73 hS, xP73_0 hS, xT74 hS, xL74 hS, xP73_1 hS, xT75 hS, xL75 hS, xP73_2 hS, xT76 hS, xL76 hS, xP73_3 hS, xT77 hS, xL77 hS, xT78 hS, xP78_0 hS, xT79 hS, xL79 hS, xT80 hS, xP80_0 hS, xP80_2 hS, xT81 hS, xL81 hS, xT82 hS, xL82 hS, xT83 hS, xL83 hS, xT84 hS, xL84 hS, xT85 hS, xL85 hS]
      rw [hI1, if_pos (nI_le ea (by omega)), (ib2 7).trans (show beginR (I 80) 7 = 1 from rfl), if_neg one_ne, f_X1_fault_74]
      simp only [gt_self, gd_t, lp_some, st_d, nm_d, on_none, on_some, cl_some, mI_mk, mX_mk, setI_mk, u2_row, rowS_s, rowU_s, xT0 hS, xP0_0 hS, xP0_1 hS, xP0_2 hS, xP0_3 hS, xP0_4 hS, xP0_5 hS, xP0_6 hS, xP0_7 hS, xP0_8 hS, xT73 hS, xP73_0 hS, xT74 hS, xL74 hS, xP73_1 hS, xT75 hS, xL75 hS, xP73_2 hS, xT76 hS, xL76 hS, xP73_3 hS, xT77 hS, xL77 hS, xT78 hS, xP78_0 hS, xT79 hS, xL79 hS, xT80 hS, xP80_0 hS, xP80_2 hS, xT81 hS, xL81 hS, xT82 hS, xL82 hS, xT83 hS, xL83 hS, xT84 hS, xL84 hS, xT85 hS, xL85 hS]
      rw [hI1, show a = n by omega]
  have ha : a < n := by omega
  have he := end_le (B := J 8) ha
  have nx : nxtM (J 8) n a = endM (J 8) n a := by unfold nxtM; rw [if_neg ea]
  rw [nx] at t11
  obtain ⟨I1, g1, g2, g3, g4, g5⟩ := XgoKey (I := Ib) (X := X) (S := S) (B := J 8) hS hn ha hB1 (by rw [ib2]; rfl) (by rw [ib2]; rfl)
  have fx1 : FX I I1 := fx0.tr (fun x a _ _ => g5 x a)
  have cls : f_X1_fault_6 (f' + 1) (Ib, X, S) 80 78 (nI a) = if (keyM (J 8) a (endM (J 8) n a)).isSome = true then f_X1_fault_6 f' (I1, X, S) 80 78 (nI (endM (J 8) n a)) else some (nI a, (I1, X, S)) := by
    rw [f_X1_fault_6]
    simp only [gt_self, gd_t, lp_some, st_d, nm_d, on_none, on_some, cl_some, mI_mk, mX_mk, setI_mk, u2_row, rowS_s, rowU_s, xT0 hS, xP0_0 hS, xP0_1 hS, xP0_2 hS, xP0_3 hS, xP0_4 hS, xP0_5 hS, xP0_6 hS, xP0_7 hS, xP0_8 hS, xT73 hS, xP73_0 hS, xT74 hS, xL74 hS, xP73_1 hS, xT75 hS, xL75 hS, xP73_2 hS, xT76 hS, xL76 hS, xP73_3 hS, xT77 hS, xL77 hS, xT78 hS, xP78_0 hS, xT79 hS, xL79 hS, xT80 hS, xP80_0 hS, xP80_2 hS, xT81 hS, xL81 hS, xT82 hS, xL82 hS, xT83 hS, xL83 hS, xT84 hS, xL84 hS, xT85 hS, xL85 hS]
    rw [hI1, if_neg (nI_ge ha (by omega)), gd_ok (ib_nI (by omega) (by decide)), nI_clamp (by omega), hB1 a ha, if_neg (hne ha), XendOf hS hn ha hI1 hB1]
    simp only [gt_self, gd_t, lp_some, st_d, nm_d, on_none, on_some, cl_some, mI_mk, mX_mk, setI_mk, u2_row, rowS_s, rowU_s, xT0 hS, xP0_0 hS, xP0_1 hS, xP0_2 hS, xP0_3 hS, xP0_4 hS, xP0_5 hS, xP0_6 hS, xP0_7 hS, xP0_8 hS, xT73 hS, xP73_0 hS, xT74 hS, xL74 hS, xP73_1 hS, xT75 hS, xL75 hS, xP73_2 hS, xT76 hS, xL76 hS, xP73_3 hS, xT77 hS, xL77 hS, xT78 hS, xP78_0 hS, xT79 hS, xL79 hS, xT80 hS, xP80_0 hS, xP80_2 hS, xT81 hS, xL81 hS, xT82 hS, xL82 hS, xT83 hS, xL83 hS, xT84 hS, xL84 hS, xT85 hS, xL85 hS]
    rw [g1]
    simp only [cl_some, ifB]
    have hmx : imax (nI a + 1) (nI (endM (J 8) n a)) = nI (endM (J 8) n a) := by
      rw [nI_1]
      unfold imax
      by_cases z : a + 1 < endM (J 8) n a
      · rw [if_pos (nI_lt z (by omega))]
      · rw [if_neg (nI_nlt (by omega) (by omega)), show a + 1 = endM (J 8) n a by omega]
    rw [hmx]
  rw [cls]
  have nm1 : ¬ nI a = -1 := fun q => nI_pos (n := a) (by omega) (by rw [q]; decide)
  by_cases l : isLt (J 8 a) = true
  · have ht1 : tokT (J 8) n (-1) a = 1 := by unfold tokT; rw [if_neg ea, if_pos l, if_neg nm1]
    have hE : tokE (J 8) n (-1) a = nI (endM (J 8) n a) := by unfold tokE; rw [if_neg ea, if_pos l]
    rw [ht1] at t13
    have tk := RtakesKey (J := J1) (B := J 8) j8 (by rw [fy1.1 9 (by decide) (by decide) (by decide) (by decide)]; exact k9) (by rw [fy1.1 10 (by decide) (by decide) (by decide) (by decide)]; exact k10) t12 t11 (by omega) (by omega) t13
    cases hk : keyM (J 8) a (endM (J 8) n a) with
    | none =>
      rw [hk] at tk
      rw [show (none : Option Nat).isSome = false from rfl, if_neg Bool.false_ne_true]
      exact lose tk fx1 rfl
    | some key =>
      obtain ⟨hk3, h4⟩ := key_of hk
      rw [hk] at tk g3 g4
      rw [tk, show (some key).isSome = true from rfl, if_pos rfl]
      obtain ⟨J2, e2, s12, s13, s11, s15, s14, sr, sx⟩ := Rgo (J := rowS J1 0 (rowU (J1 0) 16 (nI key))) (B := J 8) (n := n) (p := endM (J 8) n a) hn he.2 (by rw [rowS_s, rowU_n (by decide), fy1.2 10 (by decide)]; exact h10) (by rw [rowS_n (by decide)]; exact j8) (by rw [rowS_s, rowU_n (by decide)]; exact t11)
      rw [rowS_s, rowU_n (show (15 : Nat) ≠ 16 by decide), t15, hE] at s13 s15 s14
      dsimp only
      rw [e2]
      simp only [cl_some]
      rw [if_neg one_ne]
      simp only [gt_self, gd_t, lp_some, st_d, nm_d, on_none, on_some, cl_some, mI_mk, mX_mk, setI_mk, u2_row, rowS_s, rowU_s, yT0, yP0, yT1, yL1, yP1, yT2, yL2, yP2, yT3, yL3, yP5, yT4, yL4, yP6, yT5, yL5, yP7, yT6, yL6, yP8, yT7, yL7, yP9, yT8, yL8, yP17, yT9, yL9, yP18, yT10, yL10, yP19, yT11, yL11, yP22, yT12, yL12, yP24, yT13, yL13, yP25, yT14, yL14, yP26, yT15, yL15, yP27, yT16, yL16, yP28, yT17, yL17, yP29, yT18, yL18, yP30, yT19, yL19, yP31, yT20, yL20, yP32, yT21, yL21, yP33, yT22, yL22, yP34, yT23, yL23, yP35, yT24, yL24]
      rw [f_X10_takesE]
      simp only [gt_self, gd_t, lp_some, st_d, nm_d, on_none, on_some, cl_some, mI_mk, mX_mk, setI_mk, u2_row, rowS_s, rowU_s, yT0, yP0, yT1, yL1, yP1, yT2, yL2, yP2, yT3, yL3, yP5, yT4, yL4, yP6, yT5, yL5, yP7, yT6, yL6, yP8, yT7, yL7, yP9, yT8, yL8, yP17, yT9, yL9, yP18, yT10, yL10, yP19, yT11, yL11, yP22, yT12, yL12, yP24, yT13, yL13, yP25, yT14, yL14, yP26, yT15, yL15, yP27, yT16, yL16, yP28, yT17, yL17, yP29, yT18, yL18, yP30, yT19, yL19, yP31, yT20, yL20, yP32, yT21, yL21, yP33, yT22, yL22, yP34, yT23, yL23, yP35, yT24, yL24, rowS_rowS, tn0, il0 (show 0 < 10 by decide), rowS_n (show (13 : Nat) ≠ 0 by decide)]
      have hJ3 : ∀ x, x ≠ 0 → x ≠ 13 → rowS (rowS J2 0 (rowU (rowU (rowU (J2 0) 20 0) 21 0) 23 0)) 13 (rowU (J2 13) 0 0) x = J2 x := fun x a b => by rw [rowS_n b, rowS_n a]
      have hJ0 : ∀ j, j ≠ 20 → j ≠ 21 → j ≠ 23 → rowS (rowS J2 0 (rowU (rowU (rowU (J2 0) 20 0) 21 0) 23 0)) 13 (rowU (J2 13) 0 0) 0 j = J2 0 j := fun j a b c => by rw [rowS_n (by decide), rowS_s, rowU_n c, rowU_n b, rowU_n a]
      have hJa : rowS (rowS J2 0 (rowU (rowU (rowU (J2 0) 20 0) 21 0) 23 0)) 13 (rowU (J2 13) 0 0) 0 20 = 0 ∧ rowS (rowS J2 0 (rowU (rowU (rowU (J2 0) 20 0) 21 0) 23 0)) 13 (rowU (J2 13) 0 0) 0 21 = 0 ∧ rowS (rowS J2 0 (rowU (rowU (rowU (J2 0) 20 0) 21 0) 23 0)) 13 (rowU (J2 13) 0 0) 0 23 = 0 ∧ rowS (rowS J2 0 (rowU (rowU (rowU (J2 0) 20 0) 21 0) 23 0)) 13 (rowU (J2 13) 0 0) 13 0 = 0 := by
        refine ⟨?_, ?_, ?_, ?_⟩
        · rw [rowS_n (by decide), rowS_s, rowU_n (by decide), rowU_n (by decide), rowU_s]
        · rw [rowS_n (by decide), rowS_s, rowU_n (by decide), rowU_s]
        · rw [rowS_n (by decide), rowS_s, rowU_s]
        · rw [rowS_s, rowU_s]
      generalize rowS (rowS J2 0 (rowU (rowU (rowU (J2 0) 20 0) 21 0) 23 0)) 13 (rowU (J2 13) 0 0) = J3 at hJ3 hJ0 hJa ⊢
      obtain ⟨a1, a2, a3, a4⟩ := hJa
      have fy3 : FY J J3 := ⟨fun x x0 x11 x12 x13 => by rw [hJ3 x x0 x13, sx x x0, rowS_n x0]; exact fy1.1 x x0 x11 x12 x13, fun j hj => by rw [hJ0 j (by omega) (by omega) (by omega), sr j (by omega), rowS_s, rowU_n (by omega)]; exact fy1.2 j hj⟩
      have hXR : XR I1 key (nI (endM (J 8) n a)) ((0, J3 11), [], 0, 0, 0, true) := by
        have hg : ∀ j, j ≠ 4 → j ≠ 6 → I1 80 j = beginR (I 80) j := fun j a b => (g2 j a b).trans (ib2 j)
        refine ⟨?_, fun k hk => absurd hk (Nat.not_lt_zero k), ?_, trivial, g3, ?_, g4 rfl, ?_, ?_, ?_, ?_⟩
        · rw [hg 1 (by decide) (by decide)]; rfl
        · rw [hg 3 (by decide) (by decide)]; rfl
        · rw [hg 5 (by decide) (by decide)]; rfl
        · rw [hg 7 (by decide) (by decide)]; rfl
        · rw [hg 8 (by decide) (by decide)]; rfl
        · rw [hg 9 (by decide) (by decide)]; rfl
        · rw [hg 10 (by decide) (by decide)]; rfl
      have hYR : YR J3 key ((0, J3 11), [], 0, 0, 0, true) := by
        refine ⟨a1, rfl, a3, trivial, ?_, a2, fun i hi => ?_⟩
        · rw [hJ0 16 (by decide) (by decide) (by decide), sr 16 (by decide), rowS_s, rowU_s]
        · have hi : i = 0 := Nat.le_zero.mp hi
          rw [hi, a4, b_0]; rfl
      have hTF : TkF (J 8) n (nI (endM (J 8) n a)) (skM (J 8) n (endM (J 8) n a)) J3 := by
        refine ⟨?_, ?_, ?_, ?_, fun q => ?_⟩
        · rw [hJ0 12 (by decide) (by decide) (by decide)]; exact s12
        · rw [hJ0 13 (by decide) (by decide) (by decide)]; exact s13
        · rw [hJ0 11 (by decide) (by decide) (by decide)]; exact s11
        · rw [hJ0 15 (by decide) (by decide) (by decide)]; exact s15
        · rw [hJ0 14 (by decide) (by decide) (by decide)]; exact s14 q
      have hPV : PV (nnK key) (endM (J 8) n a) ((0, J3 11), [], 0, 0, 0, true) := ⟨fun g hg => absurd hg List.not_mem_nil, trivial, rfl, Nat.zero_le _, fun k hk => absurd hk (Nat.not_lt_zero k), rfl, by show 0 + 0 + 4 ≤ _; omega⟩
      obtain ⟨f, b, I', J', r1, r2, r3, r4, r5⟩ := lockL (X := X) (S := S) (I0 := I) (J0 := J) (B := J 8) (n := n) hS hn hk3 hI hB h10 rfl (n - endM (J 8) n a) (endM (J 8) n a) f' FU I1 J3 (nI (endM (J 8) n a)) _ (Nat.le_refl _) he.2 (by omega) (FU_ge (by omega)) fx1 fy3 hXR hYR hTF hPV
      have r2 : f_X10_takesE_28 FU (J3, YZ) 0 (nI 0) (nI 0) 1 = some (b, (J', YZ)) := r2
      rw [r1]
      refine ⟨f, b, I', J', rfl, ?_, r3, r4, r5⟩
      have r2 : f_X10_takesE_28 FU (J3, YZ) 0 0 0 1 = some (b, (J', YZ)) := r2
      rw [r2]
      simp only [cl_some]
      rcases r5 with ⟨q, _⟩ | ⟨q, _⟩
      · rw [q, if_pos rfl]
      · rw [q, if_neg one_ne]
  · have ht1 : ¬ nI (tokT (J 8) n (-1) a) = 1 := by
      unfold tokT
      rw [if_neg ea, if_neg l]
      by_cases d : isDg (J 8 a) = true
      · rw [if_pos d, if_neg nm1]
        split <;> decide
      · rw [if_neg d]; decide
    rw [key_lt l, show (none : Option Nat).isSome = false from rfl, if_neg Bool.false_ne_true]
    refine lose ?_ fx1 rfl
    rw [f_X10_takesKey]
    simp only [gt_self, gd_t, lp_some, st_d, nm_d, on_none, on_some, cl_some, mI_mk, mX_mk, setI_mk, u2_row, rowS_s, rowU_s, yT0, yP0, yT1, yL1, yP1, yT2, yL2, yP2, yT3, yL3, yP5, yT4, yL4, yP6, yT5, yL5, yP7, yT6, yL6, yP8, yT7, yL7, yP9, yT8, yL8, yP17, yT9, yL9, yP18, yT10, yL10, yP19, yT11, yL11, yP22, yT12, yL12, yP24, yT13, yL13, yP25, yT14, yL14, yP26, yT15, yL15, yP27, yT16, yL16, yP28, yT17, yL17, yP29, yT18, yL18, yP30, yT19, yL19, yP31, yT20, yL20, yP32, yT21, yL21, yP33, yT22, yL22, yP34, yT23, yL23, yP35, yT24, yL24]
    rw [t13, if_neg ht1]
end FaultBoth
