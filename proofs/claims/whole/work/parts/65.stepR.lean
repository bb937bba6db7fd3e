/-! THE PARSER: the reference takes a word -/
def YR (J : Nat → Nat → Int32) (key : Nat) (s : PS) : Prop := J 0 20 = nI s.1.1 ∧ J 11 = s.1.2 ∧ J 0 23 = nI s.2.1.length ∧ Stk (J 12) s.2.1 ∧ J 0 16 = nI key ∧ J 0 21 = s.2.2.2.2.1 ∧ ∀ i, i ≤ s.2.2.1 → J 13 i = bI (bt s.2.2.2.1 i)
def FY (J J' : Nat → Nat → Int32) : Prop := (∀ x, x ≠ 0 → x ≠ 11 → x ≠ 12 → x ≠ 13 → J' x = J x) ∧ ∀ j, (j < 11 ∨ 24 ≤ j) → J' 0 j = J 0 j
theorem FY.tr {I J K : Nat → Nat → Int32} (h : FY I J) (q : FY J K) : FY I K := ⟨fun x a b c d => (q.1 x a b c d).trans (h.1 x a b c d), fun j hj => (q.2 j hj).trans (h.2 j hj)⟩
def TkF (B : Nat → Int32) (n : Nat) (e0 : Int32) (a : Nat) (J' : Nat → Nat → Int32) : Prop := J' 0 12 = nI a ∧ J' 0 13 = nI (tokT B n e0 a) ∧ J' 0 11 = nI (nxtM B n a) ∧ J' 0 15 = tokE B n e0 a ∧ (tokT B n e0 a = 1 ∨ tokT B n e0 a = 2 ∨ tokT B n e0 a = 3 → J' 0 14 = tokV B n a)
def YOut (K : Mem → Nat → Int32 → Int32 → Int32 → Option (Int32 × Mem)) (J : Nat → Nat → Int32) (key : Nat) (B : Nat → Int32) (n : Nat) (e1 : Int32) (p1 : Nat) (o : Option PS) (r : Option (Int32 × Mem)) : Prop := match o with
  | none => r = some (0, (J, YZ))
  | some s' => ∃ J', r = K (J', YZ) 0 (nI s'.2.2.1) (nI (cN s'.2.1)) (bI s'.2.2.2.2.2) ∧ YR J' key s' ∧ TkF B n e1 (skM B n p1) J' ∧ FY J J'
theorem bt_bitI {o i : Nat} (ho : o < 32) (hi : i < 32) : bt (bitI o) i = decide (i = o) := by
  unfold bitI
  rw [b_shl o ho 1 hi]
  by_cases h : o ≤ i
  · rw [b_1 (i - o) (by omega), decide_eq_true h, Bool.true_and]
    by_cases e : i = o
    · rw [decide_eq_true e, decide_eq_true (by omega)]
    · rw [decide_eq_false e, decide_eq_false (by omega)]
  · rw [decide_eq_false h, decide_eq_false (by omega), Bool.false_and]
theorem bt_clr (x : Int32) {o i : Nat} (ho : o < 32) (hi : i < 32) : bt (x &&& (bitI o ^^^ (-1))) i = (bt x i && !decide (i = o)) := by
  rw [b_and, b_xor, bt_bitI ho hi, b_m1 i hi]
  cases decide (i = o) <;> simp
section YStep
variable {J : Nat → Nat → Int32} {key p p1 n : Nat} {B : Nat → Int32} {s : PS}
theorem Rgo2 (hn : n ≤ 96) (hp : p1 ≤ n) (h1 : J 0 10 = nI n) (hB : J 8 = B) (h11 : J 0 11 = nI p1) (hY : YR J key s) : ∃ J', f_X10_go (J, YZ) 0 = some ((), (J', YZ)) ∧ YR J' key s ∧ TkF B n (J 0 15) (skM B n p1) J' ∧ FY J J' := by
  obtain ⟨J', e, t1, t2, t3, t4, t5, t6, t7⟩ := Rgo hn hp h1 hB h11
  obtain ⟨y1, y2, y3, y4, y5, y6, y7⟩ := hY
  refine ⟨J', e, ⟨?_, ?_, ?_, ?_, ?_, ?_, fun i hi => ?_⟩, ⟨t1, t2, t3, t4, t5⟩, fun x a _ _ _ => t7 x a, fun j hj => t6 j (by omega)⟩
  · rw [t6 20 (by decide)]; exact y1
  · rw [t7 11 (by decide)]; exact y2
  · rw [t6 23 (by decide)]; exact y3
  · rw [t7 12 (by decide)]; exact y4
  · rw [t6 16 (by decide)]; exact y5
  · rw [t6 21 (by decide)]; exact y6
  · rw [t7 13 (by decide)]; exact y7 i hi
theorem R172 {K : Mem → Nat → Int32 → Int32 → Int32 → Option (Int32 × Mem)} (hY : YR J key s) (hl : s.2.1.length ≤ 96) (x1 x3 : Int32) : f_X10_takesE_172 K (J, YZ) 0 x1 x3 = K (J, YZ) 0 x1 (nI (cN s.2.1)) x3 := by
  rw [f_X10_takesE_172]
  simp only [gt_self, gd_t, lp_some, st_d, nm_d, on_none, on_some, cl_some, mI_mk, mX_mk, setI_mk, u2_row, rowS_s, rowU_s, yT0, yP0, yT1, yL1, yP1, yT2, yL2, yP2, yT3, yL3, yP5, yT4, yL4, yP6, yT5, yL5, yP7, yT6, yL6, yP8, yT7, yL7, yP9, yT8, yL8, yP17, yT9, yL9, yP18, yT10, yL10, yP19, yT11, yL11, yP22, yT12, yL12, yP24, yT13, yL13, yP25, yT14, yL14, yP26, yT15, yL15, yP27, yT16, yL16, yP28, yT17, yL17, yP29, yT18, yL18, yP30, yT19, yL19, yP31, yT20, yL20, yP32, yT21, yL21, yP33, yT22, yL22, yP34, yT23, yL23, yP35, yT24, yL24]
  rw [RnotsOpen hl hY.2.2.1 hY.2.2.2.1]
  simp only [cl_some]
theorem R87 (hn : n ≤ 96) (hp1 : p1 ≤ n) (h1 : J 0 10 = nI n) (hB : J 8 = B) (h11 : J 0 11 = nI p1) (hY : YR J key s) {nn : Nat} (hv : PV nn p s) (hp : p ≤ 96) (u : Int32) : ∃ J', f_X10_takesPart_87 (J, YZ) 0 11 (J 0 20) u = some (1, (J', YZ)) ∧ YR J' key (pieceP u s) ∧ TkF B n (J 0 15) (skM B n p1) J' ∧ FY J J' := by
  obtain ⟨⟨m, cd⟩, st, op, cmp, pc, w⟩ := s
  obtain ⟨y1, y2, y3, y4, y5, y6, y7⟩ := hY
  obtain ⟨v1, v2, v3, v4, v5, v6, v7⟩ := hv
  dsimp only at *
  rw [f_X10_takesPart_87]
  simp only [gt_self, gd_t, lp_some, st_d, nm_d, on_none, on_some, cl_some, mI_mk, mX_mk, setI_mk, u2_row, rowS_s, rowU_s, yT0, yP0, yT1, yL1, yP1, yT2, yL2, yP2, yT3, yL3, yP5, yT4, yL4, yP6, yT5, yL5, yP7, yT6, yL6, yP8, yT7, yL7, yP9, yT8, yL8, yP17, yT9, yL9, yP18, yT10, yL10, yP19, yT11, yL11, yP22, yT12, yL12, yP24, yT13, yL13, yP25, yT14, yL14, yP26, yT15, yL15, yP27, yT16, yL16, yP28, yT17, yL17, yP29, yT18, yL18, yP30, yT19, yL19, yP31, yT20, yL20, yP32, yT21, yL21, yP33, yT22, yL22, yP34, yT23, yL23, yP35, yT24, yL24, rowS_n (show (0 : Nat) ≠ 11 by decide), rowS_rowS, rowU_n (show (21 : Nat) ≠ 20 by decide)]
  rw [y1, gd_ok (ib_nI (by omega) (by decide)), nI_clamp (by omega), nI_1, y6, y2]
  obtain ⟨J1, e1, z1, z2, z3, z4, z5⟩ := Rsettle (least := 6) (by decide) (st := st) (m := m + 1) (J := rowS (rowS J 11 (rowU cd m u)) 0 (rowU (rowU (J 0) 20 (nI (m + 1))) 21 (pc + 1))) v1 (by omega) (by rw [rowS_s, rowU_n (by decide), rowU_s]) (by rw [rowS_s, rowU_n (by decide), rowU_n (by decide)]; exact y3) (by rw [rowS_n (by decide), rowS_n (by decide)]; exact y4)
  have e1 : f_X10_settle (rowS (rowS J 11 (rowU cd m u)) 0 (rowU (rowU (J 0) 20 (nI (m + 1))) 21 (pc + 1)), YZ) 0 6 = some ((), (J1, YZ)) := e1
  rw [e1]
  rw [rowS_n (show (11 : Nat) ≠ 0 by decide), rowS_s] at z1 z2 z3
  have hr : ∀ j, j ≠ 20 → j ≠ 23 → j ≠ 21 → J1 0 j = J 0 j := fun j j1 j2 j3 => by rw [z4 j j1 j2, rowS_s, rowU_n j3, rowU_n j1]
  have hx : ∀ x, x ≠ 0 → x ≠ 11 → J1 x = J x := fun x x1 x2 => by rw [z5 x x1 x2, rowS_n x1, rowS_n x2]
  simp only [gt_self, gd_t, lp_some, st_d, nm_d, on_none, on_some, cl_some, mI_mk, mX_mk, setI_mk, u2_row, rowS_s, rowU_s, yT0, yP0, yT1, yL1, yP1, yT2, yL2, yP2, yT3, yL3, yP5, yT4, yL4, yP6, yT5, yL5, yP7, yT6, yL6, yP8, yT7, yL7, yP9, yT8, yL8, yP17, yT9, yL9, yP18, yT10, yL10, yP19, yT11, yL11, yP22, yT12, yL12, yP24, yT13, yL13, yP25, yT14, yL14, yP26, yT15, yL15, yP27, yT16, yL16, yP28, yT17, yL17, yP29, yT18, yL18, yP30, yT19, yL19, yP31, yT20, yL20, yP32, yT21, yL21, yP33, yT22, yL22, yP34, yT23, yL23, yP35, yT24, yL24]
  have hY1 : YR J1 key (pieceP u ((m, cd), st, op, cmp, pc, w)) := by
    refine ⟨z1, z2, z3, ?_, ?_, ?_, fun i hi => ?_⟩
    · rw [hx 12 (by decide) (by decide)]
      have := stl_stk (least := 6) (q := J 12) (f := id) st (m + 1, rowU cd m u) (by rw [List.map_id]; exact y4)
      rw [List.map_id] at this
      exact this
    · rw [hr 16 (by decide) (by decide) (by decide)]; exact y5
    · rw [z4 21 (by decide) (by decide), rowS_s, rowU_s]; rfl
    · rw [hx 13 (by decide) (by decide)]; exact y7 i hi
  obtain ⟨J2, e2, q1, q2, q3⟩ := Rgo2 (B := B) hn hp1 (by rw [hr 10 (by decide) (by decide) (by decide)]; exact h1) (by rw [hx 8 (by decide) (by decide)]; exact hB) (by rw [hr 11 (by decide) (by decide) (by decide)]; exact h11) hY1
  rw [e2, hr 15 (by decide) (by decide) (by decide)] at *
  simp only [cl_some]
  exact ⟨J2, rfl, q1, q2, FY.tr ⟨fun x a b _ _ => hx x a b, fun j hj => hr j (by omega) (by omega) (by omega)⟩ q3⟩
theorem Rpart (hn : n ≤ 96) (hp1 : p1 ≤ n) (h1 : J 0 10 = nI n) (hB : J 8 = B) (h11 : J 0 11 = nI p1) (hY : YR J key s) (hk : key < 3) (hv : PV (nnK key) p s) (hp : p ≤ 96) {t a : Nat} {v : Int32} (ht : J 0 13 = nI t) (ht4 : t ≤ 4) (h12 : J 0 12 = nI a) (hap : a ≤ p1) (h14 : t = 1 ∨ t = 2 ∨ t = 3 → J 0 14 = v) (hw : s.2.2.2.2.2 = true) (h3 : t = 3 → v ≠ 33 ∨ 8 ≤ cN s.2.1) (h3b : t = 3 → v ≠ 40 ∨ 8 ≤ s.2.2.1) (K : Mem → Nat → Int32 → Int32 → Int32 → Option (Int32 × Mem)) : YOut K J key B n (J 0 15) p1 (stepP key t v (p1 - a) s) (f_X10_takesE_158 K (J, YZ) 0 (nI s.2.2.1)) := by
  have hlen : (pieceP 0 s).2.1.length ≤ 96 ∧ ∀ u, (pieceP u s).2.1.length ≤ 96 := by
    have : ∀ u, (pieceP u s).2.1.length ≤ 96 := fun u => by
      have hl := stl_len (least := 6) s.2.1 (s.1.1 + 1, rowU s.1.2 s.1.1 u)
      have := hv.2.2.2.2.2.2
      show (stl 6 (s.1.1 + 1, rowU s.1.2 s.1.1 u) s.2.1).2.length ≤ 96
      dsimp only at hl
      omega
    exact ⟨this 0, this⟩
  rw [f_X10_takesE_158]
  simp only [gt_self, gd_t, lp_some, st_d, nm_d, on_none, on_some, cl_some, mI_mk, mX_mk, setI_mk, u2_row, rowS_s, rowU_s, yT0, yP0, yT1, yL1, yP1, yT2, yL2, yP2, yT3, yL3, yP5, yT4, yL4, yP6, yT5, yL5, yP7, yT6, yL6, yP8, yT7, yL7, yP9, yT8, yL8, yP17, yT9, yL9, yP18, yT10, yL10, yP19, yT11, yL11, yP22, yT12, yL12, yP24, yT13, yL13, yP25, yT14, yL14, yP26, yT15, yL15, yP27, yT16, yL16, yP28, yT17, yL17, yP29, yT18, yL18, yP30, yT19, yL19, yP31, yT20, yL20, yP32, yT21, yL21, yP33, yT22, yL22, yP34, yT23, yL23, yP35, yT24, yL24]
  unfold stepP
  rw [if_pos hw, if_neg (fun q => (h3 q.1).elim (fun z => z q.2.1) (fun z => by omega)), if_neg (fun q => (h3b q.1).elim (fun z => z q.2.1) (fun z => by omega))]
  have some1 : ∀ u, (f_X10_takesPart (J, YZ) 0 = f_X10_takesPart_87 (J, YZ) 0 11 (J 0 20) u) → YOut K J key B n (J 0 15) p1 (some (pieceP u s)) (cl (f_X10_takesPart (J, YZ) 0) (fun r2 M1 => if r2 = 0 then some (0, M1) else f_X10_takesE_172 K M1 0 (nI s.2.2.1) 0)) := by
    intro u hu
    obtain ⟨J', e1, q1, q2, q3⟩ := R87 hn hp1 h1 hB h11 hY hv hp u
    rw [hu, e1]
    simp only [cl_some]
    rw [if_neg one_ne, R172 q1 (hlen.2 u)]
    exact ⟨J', rfl, q1, q2, q3⟩
  by_cases c3 : t = 2
  · rw [if_pos c3]
    refine some1 v ?_
    have e14 := h14 (Or.inr (Or.inl c3))
    rw [c3] at ht
    rw [f_X10_takesPart]
    simp only [gt_self, gd_t, lp_some, st_d, nm_d, on_none, on_some, cl_some, mI_mk, mX_mk, setI_mk, u2_row, rowS_s, rowU_s, yT0, yP0, yT1, yL1, yP1, yT2, yL2, yP2, yT3, yL3, yP5, yT4, yL4, yP6, yT5, yL5, yP7, yT6, yL6, yP8, yT7, yL7, yP9, yT8, yL8, yP17, yT9, yL9, yP18, yT10, yL10, yP19, yT11, yL11, yP22, yT12, yL12, yP24, yT13, yL13, yP25, yT14, yL14, yP26, yT15, yL15, yP27, yT16, yL16, yP28, yT17, yL17, yP29, yT18, yL18, yP30, yT19, yL19, yP31, yT20, yL20, yP32, yT21, yL21, yP33, yT22, yL22, yP34, yT23, yL23, yP35, yT24, yL24]
    rw [ht, if_neg (show ¬ nI 2 = 1 by decide), f_X10_takesPart_37]
    simp only [gt_self, gd_t, lp_some, st_d, nm_d, on_none, on_some, cl_some, mI_mk, mX_mk, setI_mk, u2_row, rowS_s, rowU_s, yT0, yP0, yT1, yL1, yP1, yT2, yL2, yP2, yT3, yL3, yP5, yT4, yL4, yP6, yT5, yL5, yP7, yT6, yL6, yP8, yT7, yL7, yP9, yT8, yL8, yP17, yT9, yL9, yP18, yT10, yL10, yP19, yT11, yL11, yP22, yT12, yL12, yP24, yT13, yL13, yP25, yT14, yL14, yP26, yT15, yL15, yP27, yT16, yL16, yP28, yT17, yL17, yP29, yT18, yL18, yP30, yT19, yL19, yP31, yT20, yL20, yP32, yT21, yL21, yP33, yT22, yL22, yP34, yT23, yL23, yP35, yT24, yL24]
    rw [ht, if_pos (show nI 2 = 2 by decide), f_X10_takesPart_52]
    simp only [gt_self, gd_t, lp_some, st_d, nm_d, on_none, on_some, cl_some, mI_mk, mX_mk, setI_mk, u2_row, rowS_s, rowU_s, yT0, yP0, yT1, yL1, yP1, yT2, yL2, yP2, yT3, yL3, yP5, yT4, yL4, yP6, yT5, yL5, yP7, yT6, yL6, yP8, yT7, yL7, yP9, yT8, yL8, yP17, yT9, yL9, yP18, yT10, yL10, yP19, yT11, yL11, yP22, yT12, yL12, yP24, yT13, yL13, yP25, yT14, yL14, yP26, yT15, yL15, yP27, yT16, yL16, yP28, yT17, yL17, yP29, yT18, yL18, yP30, yT19, yL19, yP31, yT20, yL20, yP32, yT21, yL21, yP33, yT22, yL22, yP34, yT23, yL23, yP35, yT24, yL24]
    rw [ht, if_pos (show nI 2 = 2 by decide), e14]
  · rw [if_neg c3]
    have n2 : ¬ nI t = 2 := fun q => c3 ((nI_eq (b := 2) (by omega) (by decide)).mp q)
    have part0 : f_X10_takesPart_37 (J, YZ) 0 0 = some (0, (J, YZ)) := by
      rw [f_X10_takesPart_37]
      simp only [gt_self, gd_t, lp_some, st_d, nm_d, on_none, on_some, cl_some, mI_mk, mX_mk, setI_mk, u2_row, rowS_s, rowU_s, yT0, yP0, yT1, yL1, yP1, yT2, yL2, yP2, yT3, yL3, yP5, yT4, yL4, yP6, yT5, yL5, yP7, yT6, yL6, yP8, yT7, yL7, yP9, yT8, yL8, yP17, yT9, yL9, yP18, yT10, yL10, yP19, yT11, yL11, yP22, yT12, yL12, yP24, yT13, yL13, yP25, yT14, yL14, yP26, yT15, yL15, yP27, yT16, yL16, yP28, yT17, yL17, yP29, yT18, yL18, yP30, yT19, yL19, yP31, yT20, yL20, yP32, yT21, yL21, yP33, yT22, yL22, yP34, yT23, yL23, yP35, yT24, yL24]
      rw [ht, if_neg n2, if_pos trivial]
    have fin0 : f_X10_takesPart (J, YZ) 0 = some (0, (J, YZ)) → YOut K J key B n (J 0 15) p1 none (cl (f_X10_takesPart (J, YZ) 0) (fun r2 M1 => if r2 = 0 then some (0, M1) else f_X10_takesE_172 K M1 0 (nI s.2.2.1) 0)) := by
      intro e
      rw [e]
      simp only [cl_some]
      rw [if_pos trivial]
      exact rfl
    by_cases c1 : t = 1
    · have e14 := h14 (Or.inl c1)
      have hb : f_X10_takesPart (J, YZ) 0 = if p1 - a = 1 then (if nmM key v < 0 then f_X10_takesPart_37 (J, YZ) 0 0 else f_X10_takesPart_37 (J, YZ) 0 1) else f_X10_takesPart_37 (J, YZ) 0 0 := by
        rw [f_X10_takesPart]
        simp only [gt_self, gd_t, lp_some, st_d, nm_d, on_none, on_some, cl_some, mI_mk, mX_mk, setI_mk, u2_row, rowS_s, rowU_s, yT0, yP0, yT1, yL1, yP1, yT2, yL2, yP2, yT3, yL3, yP5, yT4, yL4, yP6, yT5, yL5, yP7, yT6, yL6, yP8, yT7, yL7, yP9, yT8, yL8, yP17, yT9, yL9, yP18, yT10, yL10, yP19, yT11, yL11, yP22, yT12, yL12, yP24, yT13, yL13, yP25, yT14, yL14, yP26, yT15, yL15, yP27, yT16, yL16, yP28, yT17, yL17, yP29, yT18, yL18, yP30, yT19, yL19, yP31, yT20, yL20, yP32, yT21, yL21, yP33, yT22, yL22, yP34, yT23, yL23, yP35, yT24, yL24]
        rw [ht, if_pos (show nI t = 1 by rw [c1]; rfl), h11, h12, pk_sub hap, e14, RnameOf hk hY.2.2.2.2.1]
        simp only [cl_some]
        by_cases z : p1 - a = 1
        · rw [if_pos z, if_pos (show nI (p1 - a) = 1 by rw [z]; rfl)]
        · rw [if_neg z, if_neg (show ¬ nI (p1 - a) = 1 from fun q => z ((nI_eq (b := 1) (by omega) (by decide)).mp q))]
      by_cases z : p1 - a = 1
      · rw [if_pos z] at hb
        by_cases z2 : nmM key v < 0
        · rw [if_pos z2] at hb
          rw [if_neg (fun q => q.2.2 z2)]
          exact fin0 (hb.trans part0)
        · rw [if_neg z2] at hb
          rw [if_pos ⟨c1, z, z2⟩]
          refine some1 _ (hb.trans ?_)
          rw [f_X10_takesPart_37]
          simp only [gt_self, gd_t, lp_some, st_d, nm_d, on_none, on_some, cl_some, mI_mk, mX_mk, setI_mk, u2_row, rowS_s, rowU_s, yT0, yP0, yT1, yL1, yP1, yT2, yL2, yP2, yT3, yL3, yP5, yT4, yL4, yP6, yT5, yL5, yP7, yT6, yL6, yP8, yT7, yL7, yP9, yT8, yL8, yP17, yT9, yL9, yP18, yT10, yL10, yP19, yT11, yL11, yP22, yT12, yL12, yP24, yT13, yL13, yP25, yT14, yL14, yP26, yT15, yL15, yP27, yT16, yL16, yP28, yT17, yL17, yP29, yT18, yL18, yP30, yT19, yL19, yP31, yT20, yL20, yP32, yT21, yL21, yP33, yT22, yL22, yP34, yT23, yL23, yP35, yT24, yL24]
          rw [ht, if_neg n2, if_neg one_ne, f_X10_takesPart_52]
          simp only [gt_self, gd_t, lp_some, st_d, nm_d, on_none, on_some, cl_some, mI_mk, mX_mk, setI_mk, u2_row, rowS_s, rowU_s, yT0, yP0, yT1, yL1, yP1, yT2, yL2, yP2, yT3, yL3, yP5, yT4, yL4, yP6, yT5, yL5, yP7, yT6, yL6, yP8, yT7, yL7, yP9, yT8, yL8, yP17, yT9, yL9, yP18, yT10, yL10, yP19, yT11, yL11, yP22, yT12, yL12, yP24, yT13, yL13, yP25, yT14, yL14, yP26, yT15, yL15, yP27, yT16, yL16, yP28, yT17, yL17, yP29, yT18, yL18, yP30, yT19, yL19, yP31, yT20, yL20, yP32, yT21, yL21, yP33, yT22, yL22, yP34, yT23, yL23, yP35, yT24, yL24]
          rw [ht, if_neg n2, e14, RnameOf hk hY.2.2.2.2.1]
          simp only [cl_some]
      · rw [if_neg z] at hb
        rw [if_neg (fun q => z q.2.1)]
        exact fin0 (hb.trans part0)
    · rw [if_neg (fun q => c1 q.1)]
      refine fin0 ?_
      rw [f_X10_takesPart]
      simp only [gt_self, gd_t, lp_some, st_d, nm_d, on_none, on_some, cl_some, mI_mk, mX_mk, setI_mk, u2_row, rowS_s, rowU_s, yT0, yP0, yT1, yL1, yP1, yT2, yL2, yP2, yT3, yL3, yP5, yT4, yL4, yP6, yT5, yL5, yP7, yT6, yL6, yP8, yT7, yL7, yP9, yT8, yL8, yP17, yT9, yL9, yP18, yT10, yL10, yP19, yT11, yL11, yP22, yT12, yL12, yP24, yT13, yL13, yP25, yT14, yL14, yP26, yT15, yL15, yP27, yT16, yL16, yP28, yT17, yL17, yP29, yT18, yL18, yP30, yT19, yL19, yP31, yT20, yL20, yP32, yT21, yL21, yP33, yT22, yL22, yP34, yT23, yL23, yP35, yT24, yL24]
      rw [ht, if_neg (show ¬ nI t = 1 from fun q => c1 ((nI_eq (b := 1) (by omega) (by decide)).mp q)), part0]
end YStep
