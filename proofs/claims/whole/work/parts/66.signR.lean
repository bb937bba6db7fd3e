/-! THE PARSER: the reference takes a sign -/
section YStep2
variable {J : Nat → Nat → Int32} {key p p1 n : Nat} {B : Nat → Int32} {s : PS}
theorem Stk.pushI {q : Nat → Int32} {st : List Int32} {g : Int32} (h : Stk q st) : Stk (rowU q st.length g) (g :: st) := ⟨rowU_s _ _ _, Stk.up h (Nat.le_refl _)⟩
theorem stl_stkI {least : Nat} {q : Nat → Int32} {st : List Int32} {P : Nat × (Nat → Int32)} (h : Stk q st) : Stk q (stl least P st).2 := by
  have := stl_stk (least := least) (q := q) (f := id) st P (by rw [List.map_id]; exact h)
  rwa [List.map_id] at this
/-- a not or a bracket begins -/
theorem Rnot (hn : n ≤ 96) (hp1 : p1 ≤ n) (h1 : J 0 10 = nI n) (hB : J 8 = B) (h11 : J 0 11 = nI p1) (hY : YR J key s) {nn : Nat} (hv : PV nn p s) (hp : p ≤ 96) (hw : s.2.2.2.2.2 = true) : ∃ J', f_X10_go (rowS (rowS J 12 (rowU (J 12) s.2.1.length (-10))) 0 (rowU (J 0) 23 (nI (s.2.1.length + 1))), YZ) 0 = some ((), (J', YZ)) ∧ YR J' key (notP s) ∧ TkF B n (J 0 15) (skM B n p1) J' ∧ FY J J' := by
  obtain ⟨⟨m, cd⟩, st, op, cmp, pc, w⟩ := s
  obtain ⟨y1, y2, y3, y4, y5, y6, y7⟩ := hY
  dsimp only at *
  obtain ⟨J', e, q1, q2, q3⟩ := Rgo2 (B := B) (key := key) (s := notP ((m, cd), st, op, cmp, pc, w)) (J := rowS (rowS J 12 (rowU (J 12) st.length (-10))) 0 (rowU (J 0) 23 (nI (st.length + 1)))) hn hp1 (by rw [rowS_s, rowU_n (by decide)]; exact h1) (by rw [rowS_n (by decide), rowS_n (by decide)]; exact hB) (by rw [rowS_s, rowU_n (by decide)]; exact h11) ⟨by rw [rowS_s, rowU_n (by decide)]; exact y1, by rw [rowS_n (by decide), rowS_n (by decide)]; exact y2, by rw [rowS_s, rowU_s]; rfl, by rw [rowS_n (by decide), rowS_s]; exact y4.pushI, by rw [rowS_s, rowU_n (by decide)]; exact y5, by rw [rowS_s, rowU_n (by decide)]; exact y6, fun i hi => by rw [rowS_n (by decide), rowS_n (by decide)]; exact y7 i hi⟩
  rw [rowS_s, rowU_n (show (15 : Nat) ≠ 23 by decide)] at q2
  exact ⟨J', e, q1, q2, FY.tr ⟨fun x a _ c _ => by rw [rowS_n a, rowS_n c], fun j hj => by rw [rowS_s, rowU_n (by omega)]⟩ q3⟩
theorem Ropen (hn : n ≤ 96) (hp1 : p1 ≤ n) (h1 : J 0 10 = nI n) (hB : J 8 = B) (h11 : J 0 11 = nI p1) (hY : YR J key s) {nn : Nat} (hv : PV nn p s) (hp : p ≤ 96) (hw : s.2.2.2.2.2 = true) : ∃ J', f_X10_go (rowS (rowS (rowS J 12 (rowU (J 12) s.2.1.length (-11))) 0 (rowU (J 0) 23 (nI (s.2.1.length + 1)))) 13 (rowU (J 13) (s.2.2.1 + 1) 0), YZ) 0 = some ((), (J', YZ)) ∧ YR J' key (openP s) ∧ TkF B n (J 0 15) (skM B n p1) J' ∧ FY J J' := by
  obtain ⟨⟨m, cd⟩, st, op, cmp, pc, w⟩ := s
  obtain ⟨y1, y2, y3, y4, y5, y6, y7⟩ := hY
  have h4 := hv.2.2.2.1
  dsimp only at *
  obtain ⟨J', e, q1, q2, q3⟩ := Rgo2 (B := B) (key := key) (s := openP ((m, cd), st, op, cmp, pc, w)) (J := rowS (rowS (rowS J 12 (rowU (J 12) st.length (-11))) 0 (rowU (J 0) 23 (nI (st.length + 1)))) 13 (rowU (J 13) (op + 1) 0)) hn hp1 (by rw [rowS_n (by decide), rowS_s, rowU_n (by decide)]; exact h1) (by rw [rowS_n (by decide), rowS_n (by decide), rowS_n (by decide)]; exact hB) (by rw [rowS_n (by decide), rowS_s, rowU_n (by decide)]; exact h11) ⟨by rw [rowS_n (by decide), rowS_s, rowU_n (by decide)]; exact y1, by rw [rowS_n (by decide), rowS_n (by decide), rowS_n (by decide)]; exact y2, by rw [rowS_n (by decide), rowS_s, rowU_s]; rfl, by rw [rowS_n (by decide), rowS_n (by decide), rowS_s]; exact y4.pushI, by rw [rowS_n (by decide), rowS_s, rowU_n (by decide)]; exact y5, by rw [rowS_n (by decide), rowS_s, rowU_n (by decide)]; exact y6, fun i hi => by
    have hi : i ≤ op + 1 := hi
    rw [rowS_s]
    show _ = bI (bt (cmp &&& (bitI (op + 1) ^^^ (-1))) i)
    rw [bt_clr cmp (by omega) (by omega)]
    by_cases z : i = op + 1
    · rw [z, rowU_s, decide_eq_true rfl, Bool.not_true, Bool.and_false]; rfl
    · rw [rowU_n z, decide_eq_false z, Bool.not_false, Bool.and_true]; exact y7 i (by omega)⟩
  rw [rowS_n (show (0 : Nat) ≠ 13 by decide), rowS_s, rowU_n (show (15 : Nat) ≠ 23 by decide)] at q2
  exact ⟨J', e, q1, q2, FY.tr ⟨fun x a _ c d => by rw [rowS_n d, rowS_n a, rowS_n c], fun j hj => by rw [rowS_n (by decide), rowS_s, rowU_n (by omega)]⟩ q3⟩
theorem Rclose (hn : n ≤ 96) (hp1 : p1 ≤ n) (h1 : J 0 10 = nI n) (hB : J 8 = B) (h11 : J 0 11 = nI p1) (hY : YR J key s) {nn : Nat} (hv : PV nn p s) (hp : p ≤ 96) (hw : s.2.2.2.2.2 = false) (h0 : 0 < s.2.2.1) (K : Mem → Nat → Int32 → Int32 → Int32 → Option (Int32 × Mem)) : ∃ J', cl (f_X10_settle (J, YZ) 0 0) (fun _ M2 => gt (mT M2 0) 11 (st (setI M2 0 23 ((mI M2 0 23) - 1)) (fun M6 => cl (f_X10_settle M6 0 6) (fun _ M9 => gt (mT M9 0) 11 (cl (f_X10_notsOpen M9 0) (fun r13 M12 => gt (mT M12 0) 11 (cl (f_X10_go M12 0) (fun _ M16 => K M16 0 (nI s.2.2.1 + (-1)) r13 0)))))))) = K (J', YZ) 0 (nI (closeP s).2.2.1) (nI (cN (closeP s).2.1)) 0 ∧ YR J' key (closeP s) ∧ TkF B n (J 0 15) (skM B n p1) J' ∧ FY J J' := by
  obtain ⟨⟨m, cd⟩, st, op, cmp, pc, w⟩ := s
  obtain ⟨y1, y2, y3, y4, y5, y6, y7⟩ := hY
  obtain ⟨v1, v2, v3, v4, v5, v6, v7⟩ := hv
  dsimp only at *
  subst hw
  obtain ⟨J1, e1, z1, z2, z3, z4, z5⟩ := Rsettle (least := 0) (by decide) (st := st) (m := m) (J := J) v1 (by omega) y1 y3 y4
  rw [y2] at z1 z2 z3
  have hp0 := stl_par st (m, cd) v1
  rw [hp0.1] at z1 z2 z3
  have hb := stl_bin (least := 1) (by decide) st (m, cd) v2
  have hl := stl_len (least := 1) st (m, cd)
  have hm := stl_mem (least := 1) st (m, cd)
  have hk := stl_stkI (least := 1) (P := (m, cd)) y4
  have e1 : f_X10_settle (J, YZ) 0 0 = some ((), (J1, YZ)) := e1
  rw [e1]
  have hcl : closeP ((m, cd), st, op, cmp, pc, false) = ((stl 6 (stl 1 (m, cd) st).1 (stl 1 (m, cd) st).2.tail).1, (stl 6 (stl 1 (m, cd) st).1 (stl 1 (m, cd) st).2.tail).2, op - 1, cmp, pc, false) := rfl
  rw [hcl]
  rcases hp0.2 with q | ⟨r, q⟩
  · rw [q] at hb; have := hb.2.2; rw [show cP [] = 0 from rfl] at this; omega
  rw [q] at hb hl hm hk z3
  rw [q]
  generalize hR : (stl 1 (m, cd) st).1 = R at hl z1 z2 ⊢
  obtain ⟨m1, cd1⟩ := R
  dsimp only at hl z1 z2
  rw [List.length_cons] at hl z3
  have hr : ∀ g ∈ r, g ∈ gL := fun g hg => v1 g (hm g (List.mem_cons_of_mem _ hg))
  simp only [gt_self, gd_t, lp_some, st_d, nm_d, on_none, on_some, cl_some, mI_mk, mX_mk, setI_mk, u2_row, rowS_s, rowU_s, yT0, yP0, yT1, yL1, yP1, yT2, yL2, yP2, yT3, yL3, yP5, yT4, yL4, yP6, yT5, yL5, yP7, yT6, yL6, yP8, yT7, yL7, yP9, yT8, yL8, yP17, yT9, yL9, yP18, yT10, yL10, yP19, yT11, yL11, yP22, yT12, yL12, yP24, yT13, yL13, yP25, yT14, yL14, yP26, yT15, yL15, yP27, yT16, yL16, yP28, yT17, yL17, yP29, yT18, yL18, yP30, yT19, yL19, yP31, yT20, yL20, yP32, yT21, yL21, yP33, yT22, yL22, yP34, yT23, yL23, yP35, yT24, yL24]
  rw [z3, nI_s1]
  have x1 : ∀ x, x ≠ 0 → x ≠ 11 → J1 x = J x := z5
  obtain ⟨J2, e2, w1, w2, w3, w4, w5⟩ := Rsettle (least := 6) (by decide) (st := r) (m := m1) (J := rowS J1 0 (rowU (J1 0) 23 (nI r.length))) hr (by omega) (by rw [rowS_s, rowU_n (by decide)]; exact z1) (by rw [rowS_s, rowU_s]) (by rw [rowS_n (by decide), x1 12 (by decide) (by decide)]; exact hk.2)
  rw [rowS_n (show (11 : Nat) ≠ 0 by decide), z2] at w1 w2 w3
  have e2 : f_X10_settle (rowS J1 0 (rowU (J1 0) 23 (nI r.length)), YZ) 0 6 = some ((), (J2, YZ)) := e2
  rw [e2]
  simp only [gt_self, gd_t, lp_some, st_d, nm_d, on_none, on_some, cl_some, mI_mk, mX_mk, setI_mk, u2_row, rowS_s, rowU_s, yT0, yP0, yT1, yL1, yP1, yT2, yL2, yP2, yT3, yL3, yP5, yT4, yL4, yP6, yT5, yL5, yP7, yT6, yL6, yP8, yT7, yL7, yP9, yT8, yL8, yP17, yT9, yL9, yP18, yT10, yL10, yP19, yT11, yL11, yP22, yT12, yL12, yP24, yT13, yL13, yP25, yT14, yL14, yP26, yT15, yL15, yP27, yT16, yL16, yP28, yT17, yL17, yP29, yT18, yL18, yP30, yT19, yL19, yP31, yT20, yL20, yP32, yT21, yL21, yP33, yT22, yL22, yP34, yT23, yL23, yP35, yT24, yL24, List.tail_cons]
  have hl2 := stl_len (least := 6) r (m1, cd1)
  dsimp only at hl2
  have hx : ∀ x, x ≠ 0 → x ≠ 11 → J2 x = J x := fun x a b => by rw [w5 x a b, rowS_n a, x1 x a b]
  have hj : ∀ j, j ≠ 20 → j ≠ 23 → J2 0 j = J 0 j := fun j a b => by rw [w4 j a b, rowS_s, rowU_n b, z4 j a b]
  have hk2 : Stk (J2 12) (stl 6 (m1, cd1) r).2 := by rw [hx 12 (by decide) (by decide)]; exact stl_stkI hk.2
  rw [RnotsOpen (by omega) w3 hk2]
  simp only [gt_self, gd_t, lp_some, st_d, nm_d, on_none, on_some, cl_some, mI_mk, mX_mk, setI_mk, u2_row, rowS_s, rowU_s, yT0, yP0, yT1, yL1, yP1, yT2, yL2, yP2, yT3, yL3, yP5, yT4, yL4, yP6, yT5, yL5, yP7, yT6, yL6, yP8, yT7, yL7, yP9, yT8, yL8, yP17, yT9, yL9, yP18, yT10, yL10, yP19, yT11, yL11, yP22, yT12, yL12, yP24, yT13, yL13, yP25, yT14, yL14, yP26, yT15, yL15, yP27, yT16, yL16, yP28, yT17, yL17, yP29, yT18, yL18, yP30, yT19, yL19, yP31, yT20, yL20, yP32, yT21, yL21, yP33, yT22, yL22, yP34, yT23, yL23, yP35, yT24, yL24]
  obtain ⟨J3, e3, q1, q2, q3⟩ := Rgo2 (B := B) (J := J2) (key := key) (s := ((stl 6 (m1, cd1) r).1, (stl 6 (m1, cd1) r).2, op - 1, cmp, pc, false)) hn hp1 (by rw [hj 10 (by decide) (by decide)]; exact h1) (by rw [hx 8 (by decide) (by decide)]; exact hB) (by rw [hj 11 (by decide) (by decide)]; exact h11) ⟨w1, w2, w3, hk2, by rw [hj 16 (by decide) (by decide)]; exact y5, by rw [hj 21 (by decide) (by decide)]; exact y6, fun i hi => by
    have hi : i ≤ op - 1 := hi
    rw [hx 13 (by decide) (by decide)]; exact y7 i (by omega)⟩
  rw [hj 15 (by decide) (by decide)] at q2
  rw [e3]
  simp only [cl_some]
  obtain ⟨op, rfl⟩ : ∃ o, op = o + 1 := ⟨op - 1, by omega⟩
  rw [nI_m1]
  exact ⟨J3, rfl, q1, q2, FY.tr ⟨fun x a b _ _ => hx x a b, fun j h => hj j (by omega) (by omega)⟩ q3⟩
theorem R305 (hn : n ≤ 96) (hp1 : p1 ≤ n) (h1 : J 0 10 = nI n) (hB : J 8 = B) (h11 : J 0 11 = nI p1) (hY : YR J key s) {nn : Nat} (hv : PV nn p s) (hp : p ≤ 96) (hw : s.2.2.2.2.2 = false) {g : Int32} (g1 : g ∈ gL) (g2 : g ≠ -10) (g3 : g ≠ -11) (b : Bool) (hb : ∀ i, i ≤ s.2.2.1 → rowU (J 13) s.2.2.1 (bI b) i = bI (bt (cmpP g s) i)) (K : Mem → Nat → Int32 → Int32 → Int32 → Option (Int32 × Mem)) : ∃ J', f_X10_takesE_305 K (J, YZ) 0 (nI s.2.2.1) (nI (cN s.2.1)) g 13 (nI s.2.2.1) (bI b) = K (J', YZ) 0 (nI s.2.2.1) (nI (cN (joinP g s).2.1)) 1 ∧ YR J' key (joinP g s) ∧ TkF B n (J 0 15) (skM B n p1) J' ∧ FY J J' := by
  obtain ⟨⟨m, cd⟩, st, op, cmp, pc, w⟩ := s
  obtain ⟨y1, y2, y3, y4, y5, y6, y7⟩ := hY
  obtain ⟨v1, v2, v3, v4, v5, v6, v7⟩ := hv
  have hrk := ch_rk g g1 g2 g3
  have hjP : joinP g ((m, cd), st, op, cmp, pc, w) = ((stl (rkM g) (m, cd) st).1, g :: (stl (rkM g) (m, cd) st).2, op, cmpP g ((m, cd), st, op, cmp, pc, w), pc, true) := rfl
  rw [hjP]
  generalize hcm : cmpP g ((m, cd), st, op, cmp, pc, w) = cm at hb ⊢
  dsimp only at *
  subst hw
  rw [f_X10_takesE_305]
  simp only [gt_self, gd_t, lp_some, st_d, nm_d, on_none, on_some, cl_some, mI_mk, mX_mk, setI_mk, u2_row, rowS_s, rowU_s, yT0, yP0, yT1, yL1, yP1, yT2, yL2, yP2, yT3, yL3, yP5, yT4, yL4, yP6, yT5, yL5, yP7, yT6, yL6, yP8, yT7, yL7, yP9, yT8, yL8, yP17, yT9, yL9, yP18, yT10, yL10, yP19, yT11, yL11, yP22, yT12, yL12, yP24, yT13, yL13, yP25, yT14, yL14, yP26, yT15, yL15, yP27, yT16, yL16, yP28, yT17, yL17, yP29, yT18, yL18, yP30, yT19, yL19, yP31, yT20, yL20, yP32, yT21, yL21, yP33, yT22, yL22, yP34, yT23, yL23, yP35, yT24, yL24]
  rw [gd_ok (ib_nI (by omega) (by decide)), nI_clamp (by omega), gd_ok (isB_bI _), Rrank]
  simp only [gt_self, gd_t, lp_some, st_d, nm_d, on_none, on_some, cl_some, mI_mk, mX_mk, setI_mk, u2_row, rowS_s, rowU_s, yT0, yP0, yT1, yL1, yP1, yT2, yL2, yP2, yT3, yL3, yP5, yT4, yL4, yP6, yT5, yL5, yP7, yT6, yL6, yP8, yT7, yL7, yP9, yT8, yL8, yP17, yT9, yL9, yP18, yT10, yL10, yP19, yT11, yL11, yP22, yT12, yL12, yP24, yT13, yL13, yP25, yT14, yL14, yP26, yT15, yL15, yP27, yT16, yL16, yP28, yT17, yL17, yP29, yT18, yL18, yP30, yT19, yL19, yP31, yT20, yL20, yP32, yT21, yL21, yP33, yT22, yL22, yP34, yT23, yL23, yP35, yT24, yL24]
  have hbn := stl_bin (least := rkM g) (by omega) st (m, cd) v2
  have hl := stl_len (least := rkM g) st (m, cd)
  have hk := stl_stkI (least := rkM g) (P := (m, cd)) y4
  obtain ⟨J1, e1, z1, z2, z3, z4, z5⟩ := Rsettle (least := rkM g) (by omega) (st := st) (m := m) (J := rowS J 13 (rowU (J 13) op (bI b))) v1 (by omega) (by rw [rowS_n (by decide)]; exact y1) (by rw [rowS_n (by decide)]; exact y3) (by rw [rowS_n (by decide)]; exact y4)
  rw [rowS_n (show (11 : Nat) ≠ 13 by decide), y2] at z1 z2 z3
  rw [e1]
  generalize hR : stl (rkM g) (m, cd) st = R at hl hk hbn z1 z2 z3 ⊢
  obtain ⟨⟨m1, cd1⟩, st1⟩ := R
  dsimp only at hl hk hbn z1 z2 z3 ⊢
  simp only [gt_self, gd_t, lp_some, st_d, nm_d, on_none, on_some, cl_some, mI_mk, mX_mk, setI_mk, u2_row, rowS_s, rowU_s, yT0, yP0, yT1, yL1, yP1, yT2, yL2, yP2, yT3, yL3, yP5, yT4, yL4, yP6, yT5, yL5, yP7, yT6, yL6, yP8, yT7, yL7, yP9, yT8, yL8, yP17, yT9, yL9, yP18, yT10, yL10, yP19, yT11, yL11, yP22, yT12, yL12, yP24, yT13, yL13, yP25, yT14, yL14, yP26, yT15, yL15, yP27, yT16, yL16, yP28, yT17, yL17, yP29, yT18, yL18, yP30, yT19, yL19, yP31, yT20, yL20, yP32, yT21, yL21, yP33, yT22, yL22, yP34, yT23, yL23, yP35, yT24, yL24, rowS_n (show (0 : Nat) ≠ 12 by decide)]
  rw [z3, gd_ok (ib_nI (by omega) (by decide)), nI_clamp (by omega), nI_1]
  have hx : ∀ x, x ≠ 0 → x ≠ 11 → x ≠ 13 → J1 x = J x := fun x a b c => by rw [z5 x a b, rowS_n c]
  have hj : ∀ j, j ≠ 20 → j ≠ 23 → J1 0 j = J 0 j := fun j a b => by rw [z4 j a b, rowS_n (by decide)]
  obtain ⟨J3, e3, q1, q2, q3⟩ := Rgo2 (B := B) (J := rowS (rowS J1 12 (rowU (J1 12) st1.length g)) 0 (rowU (J1 0) 23 (nI (st1.length + 1)))) (key := key) (s := ((m1, cd1), g :: st1, op, cm, pc, true)) hn hp1 (by rw [rowS_s, rowU_n (by decide), hj 10 (by decide) (by decide)]; exact h1) (by rw [rowS_n (by decide), rowS_n (by decide), hx 8 (by decide) (by decide) (by decide)]; exact hB) (by rw [rowS_s, rowU_n (by decide), hj 11 (by decide) (by decide)]; exact h11) ⟨by rw [rowS_s, rowU_n (by decide)]; exact z1, by rw [rowS_n (by decide), rowS_n (by decide)]; exact z2, by rw [rowS_s, rowU_s]; rfl, by rw [rowS_n (by decide), rowS_s, hx 12 (by decide) (by decide) (by decide)]; exact hk.pushI, by rw [rowS_s, rowU_n (by decide), hj 16 (by decide) (by decide)]; exact y5, by rw [rowS_s, rowU_n (by decide), hj 21 (by decide) (by decide)]; exact y6, fun i hi => by
    rw [rowS_n (by decide), rowS_n (by decide), z5 13 (by decide) (by decide), rowS_s]; exact hb i hi⟩
  rw [rowS_s, rowU_n (show (15 : Nat) ≠ 23 by decide), hj 15 (by decide) (by decide)] at q2
  rw [e3]
  simp only [cl_some]
  refine ⟨J3, ?_, q1, q2, FY.tr ⟨fun x a b c d => by rw [rowS_n a, rowS_n c, hx x a b d], fun j h => by rw [rowS_s, rowU_n (by omega), hj j (by omega) (by omega)]⟩ q3⟩
  rw [show cN (g :: st1) = cN st by
    show cN st1 + (if g = -10 then 1 else 0) = _
    rw [if_neg g2, hbn.2.1]; rfl]
theorem Rjoin (hn : n ≤ 96) (hp1 : p1 ≤ n) (h1 : J 0 10 = nI n) (hB : J 8 = B) (h11 : J 0 11 = nI p1) (hY : YR J key s) {nn : Nat} (hv : PV nn p s) (hp : p ≤ 96) (hw : s.2.2.2.2.2 = false) {t : Nat} {v : Int32} (ht : J 0 13 = nI t) (ht4 : t ≤ 4) (h14 : t = 3 → J 0 14 = v) (K : Mem → Nat → Int32 → Int32 → Int32 → Option (Int32 × Mem)) : YOut K J key B n (J 0 15) p1 (if t = 3 ∧ ¬ sgM v = 0 ∧ ¬ (rkM (sgM v) = 3 ∧ bt s.2.2.2.1 s.2.2.1 = true) then some (joinP (sgM v) s) else none) (f_X10_takesE_237 K (J, YZ) 0 (nI s.2.2.1) (nI (cN s.2.1))) := by
  have hop := hv.2.2.2.1
  have y7 := hY.2.2.2.2.2.2
  have hsg : f_X10_signHere (J, YZ) 0 = some (if t = 3 then sgM v else 0, (J, YZ)) := by
    rw [f_X10_signHere]
    simp only [gt_self, gd_t, lp_some, st_d, nm_d, on_none, on_some, cl_some, mI_mk, mX_mk, setI_mk, u2_row, rowS_s, rowU_s, yT0, yP0, yT1, yL1, yP1, yT2, yL2, yP2, yT3, yL3, yP5, yT4, yL4, yP6, yT5, yL5, yP7, yT6, yL6, yP8, yT7, yL7, yP9, yT8, yL8, yP17, yT9, yL9, yP18, yT10, yL10, yP19, yT11, yL11, yP22, yT12, yL12, yP24, yT13, yL13, yP25, yT14, yL14, yP26, yT15, yL15, yP27, yT16, yL16, yP28, yT17, yL17, yP29, yT18, yL18, yP30, yT19, yL19, yP31, yT20, yL20, yP32, yT21, yL21, yP33, yT22, yL22, yP34, yT23, yL23, yP35, yT24, yL24]
    rw [ht]
    by_cases e : t = 3
    · rw [if_pos (show nI t = 3 by rw [e]; rfl), if_pos e, h14 e]
      unfold sgM
      repeat' split
      all_goals rfl
    · rw [if_neg (show ¬ nI t = 3 from fun q => e ((nI_eq (b := 3) (by omega) (by decide)).mp q)), if_neg e]
  rw [f_X10_takesE_237]
  simp only [gt_self, gd_t, lp_some, st_d, nm_d, on_none, on_some, cl_some, mI_mk, mX_mk, setI_mk, u2_row, rowS_s, rowU_s, yT0, yP0, yT1, yL1, yP1, yT2, yL2, yP2, yT3, yL3, yP5, yT4, yL4, yP6, yT5, yL5, yP7, yT6, yL6, yP8, yT7, yL7, yP9, yT8, yL8, yP17, yT9, yL9, yP18, yT10, yL10, yP19, yT11, yL11, yP22, yT12, yL12, yP24, yT13, yL13, yP25, yT14, yL14, yP26, yT15, yL15, yP27, yT16, yL16, yP28, yT17, yL17, yP29, yT18, yL18, yP30, yT19, yL19, yP31, yT20, yL20, yP32, yT21, yL21, yP33, yT22, yL22, yP34, yT23, yL23, yP35, yT24, yL24]
  rw [hsg]
  simp only [cl_some]
  by_cases e : t = 3
  · rw [if_pos e]
    rcases sg_ok v with ⟨s1, s2⟩ | ⟨g1, g2, g3, g4, g5, g6⟩
    · rw [if_pos s1, if_neg (fun q => q.2.1 s1)]; exact rfl
    · rw [if_neg g4, Rrank]
      simp only [gt_self, gd_t, lp_some, st_d, nm_d, on_none, on_some, cl_some, mI_mk, mX_mk, setI_mk, u2_row, rowS_s, rowU_s, yT0, yP0, yT1, yL1, yP1, yT2, yL2, yP2, yT3, yL3, yP5, yT4, yL4, yP6, yT5, yL5, yP7, yT6, yL6, yP8, yT7, yL7, yP9, yT8, yL8, yP17, yT9, yL9, yP18, yT10, yL10, yP19, yT11, yL11, yP22, yT12, yL12, yP24, yT13, yL13, yP25, yT14, yL14, yP26, yT15, yL15, yP27, yT16, yL16, yP28, yT17, yL17, yP29, yT18, yL18, yP30, yT19, yL19, yP31, yT20, yL20, yP32, yT21, yL21, yP33, yT22, yL22, yP34, yT23, yL23, yP35, yT24, yL24]
      have hrk := ch_rk _ g1 g2 g3
      have n3 : ¬ rkM (sgM v) = 3 → ¬ nI (rkM (sgM v)) = 3 := fun e3 q => e3 ((nI_eq (b := 3) (by omega) (by decide)).mp q)
      have p3 : rkM (sgM v) = 3 → nI (rkM (sgM v)) = 3 := fun e3 => by rw [e3]; rfl
      have c268 : ∃ J', f_X10_takesE_268 K (J, YZ) 0 (nI s.2.2.1) (nI (cN s.2.1)) (sgM v) = K (J', YZ) 0 (nI s.2.2.1) (nI (cN (joinP (sgM v) s).2.1)) 1 ∧ YR J' key (joinP (sgM v) s) ∧ TkF B n (J 0 15) (skM B n p1) J' ∧ FY J J' := by
        have fin := fun b hb => R305 (B := B) hn hp1 h1 hB h11 hY hv hp hw g1 g2 g3 b hb K
        rw [f_X10_takesE_268]
        simp only [gt_self, gd_t, lp_some, st_d, nm_d, on_none, on_some, cl_some, mI_mk, mX_mk, setI_mk, u2_row, rowS_s, rowU_s, yT0, yP0, yT1, yL1, yP1, yT2, yL2, yP2, yT3, yL3, yP5, yT4, yL4, yP6, yT5, yL5, yP7, yT6, yL6, yP8, yT7, yL7, yP9, yT8, yL8, yP17, yT9, yL9, yP18, yT10, yL10, yP19, yT11, yL11, yP22, yT12, yL12, yP24, yT13, yL13, yP25, yT14, yL14, yP26, yT15, yL15, yP27, yT16, yL16, yP28, yT17, yL17, yP29, yT18, yL18, yP30, yT19, yL19, yP31, yT20, yL20, yP32, yT21, yL21, yP33, yT22, yL22, yP34, yT23, yL23, yP35, yT24, yL24]
        rw [Rrank]
        simp only [cl_some]
        by_cases e3 : rkM (sgM v) = 3
        · rw [if_pos (p3 e3), show (1 : Int32) = bI true from rfl]
          refine fin true (fun i hi => ?_)
          unfold cmpP
          rw [if_pos e3, show bitI s.2.2.1 = (1 : Int32) <<< (nI s.2.2.1 &&& 31) from rfl, bit_set _ (by omega) (by omega)]
          by_cases z : i = s.2.2.1
          · rw [z, rowU_s, decide_eq_true rfl, Bool.or_true]
          · rw [rowU_n z, decide_eq_false z, Bool.or_false]; exact y7 i hi
        · rw [if_neg (n3 e3), Rrank]
          simp only [gt_self, gd_t, lp_some, st_d, nm_d, on_none, on_some, cl_some, mI_mk, mX_mk, setI_mk, u2_row, rowS_s, rowU_s, yT0, yP0, yT1, yL1, yP1, yT2, yL2, yP2, yT3, yL3, yP5, yT4, yL4, yP6, yT5, yL5, yP7, yT6, yL6, yP8, yT7, yL7, yP9, yT8, yL8, yP17, yT9, yL9, yP18, yT10, yL10, yP19, yT11, yL11, yP22, yT12, yL12, yP24, yT13, yL13, yP25, yT14, yL14, yP26, yT15, yL15, yP27, yT16, yL16, yP28, yT17, yL17, yP29, yT18, yL18, yP30, yT19, yL19, yP31, yT20, yL20, yP32, yT21, yL21, yP33, yT22, yL22, yP34, yT23, yL23, yP35, yT24, yL24]
          by_cases e4 : rkM (sgM v) < 3
          · rw [if_pos (show nI (rkM (sgM v)) ≤ (3 : Int32) from nI_le (b := 3) (by omega) (by decide)), show (0 : Int32) = bI false from rfl]
            refine fin false (fun i hi => ?_)
            unfold cmpP
            rw [if_neg e3, if_pos e4, bt_clr _ (by omega) (by omega)]
            by_cases z : i = s.2.2.1
            · rw [z, rowU_s, decide_eq_true rfl, Bool.not_true, Bool.and_false]
            · rw [rowU_n z, decide_eq_false z, Bool.not_false, Bool.and_true]; exact y7 i hi
          · rw [if_neg (show ¬ nI (rkM (sgM v)) ≤ (3 : Int32) from nI_ge (a := 3) (by omega) (by omega))]
            rw [gd_ok (ib_nI (by omega) (by decide)), nI_clamp (by omega), y7 _ (Nat.le_refl _)]
            have hf : ∀ i, i ≤ s.2.2.1 → rowU (J 13) s.2.2.1 (bI (bt s.2.2.2.1 s.2.2.1)) i = bI (bt (cmpP (sgM v) s) i) := fun i hi => by
              unfold cmpP
              rw [if_neg e3, if_neg e4]
              by_cases z : i = s.2.2.1
              · rw [z, rowU_s]
              · rw [rowU_n z]; exact y7 i hi
            have := fin _ hf
            cases hbt : bt s.2.2.2.1 s.2.2.1 with
            | true => rw [hbt] at this; rw [if_neg (show ¬ bI true = 0 from one_ne)]; exact this
            | false => rw [hbt] at this; rw [if_pos (show bI false = 0 from rfl)]; exact this
      by_cases e3 : rkM (sgM v) = 3
      · rw [if_pos (p3 e3), gd_ok (ib_nI (by omega) (by decide)), nI_clamp (by omega), y7 _ (Nat.le_refl _)]
        cases hbt : bt s.2.2.2.1 s.2.2.1 with
        | true =>
          rw [if_neg (show ¬ bI true = 0 from one_ne), if_neg (fun q => q.2.2 ⟨e3, rfl⟩)]
          exact rfl
        | false =>
          rw [if_pos (show bI false = 0 from rfl), if_pos ⟨e, g4, fun q => nomatch q.2⟩]
          exact c268
      · rw [if_neg (n3 e3), if_pos ⟨e, g4, fun q => e3 q.1⟩]
        exact c268
  · rw [if_neg e, if_neg (fun q => e q.1), if_pos rfl]
    exact rfl
theorem R39 (hn : n ≤ 96) (hp1 : p1 ≤ n) (h1 : J 0 10 = nI n) (hB : J 8 = B) (h11 : J 0 11 = nI p1) (hY : YR J key s) (hk : key < 3) (hv : PV (nnK key) p s) (hp : p ≤ 96) {t a : Nat} {v : Int32} (ht : J 0 13 = nI t) (ht4 : t ≤ 4) (h12 : J 0 12 = nI a) (hap : a ≤ p1) (h14 : t = 1 ∨ t = 2 ∨ t = 3 → J 0 14 = v) (K : Mem → Nat → Int32 → Int32 → Int32 → Option (Int32 × Mem)) : YOut K J key B n (J 0 15) p1 (stepP key t v (p1 - a) s) (f_X10_takesE_39 K (J, YZ) 0 (nI s.2.2.1) (nI (cN s.2.1)) (bI s.2.2.2.2.2)) := by
  have hop := hv.2.2.2.1
  have hln := hv.2.2.2.2.2.2
  have hcN := cN_le s.2.1
  have ht3 : t = 3 → nI t = 3 := fun e => by rw [e]; rfl
  have nt3 : ¬ t = 3 → ¬ nI t = 3 := fun e q => e ((nI_eq (b := 3) (by omega) (by decide)).mp q)
  rw [f_X10_takesE_39]
  cases hw : s.2.2.2.2.2 with
  | false =>
    rw [if_pos (show bI false = 0 from rfl)]
    simp only [gt_self, gd_t, lp_some, st_d, nm_d, on_none, on_some, cl_some, mI_mk, mX_mk, setI_mk, u2_row, rowS_s, rowU_s, yT0, yP0, yT1, yL1, yP1, yT2, yL2, yP2, yT3, yL3, yP5, yT4, yL4, yP6, yT5, yL5, yP7, yT6, yL6, yP8, yT7, yL7, yP9, yT8, yL8, yP17, yT9, yL9, yP18, yT10, yL10, yP19, yT11, yL11, yP22, yT12, yL12, yP24, yT13, yL13, yP25, yT14, yL14, yP26, yT15, yL15, yP27, yT16, yL16, yP28, yT17, yL17, yP29, yT18, yL18, yP30, yT19, yL19, yP31, yT20, yL20, yP32, yT21, yL21, yP33, yT22, yL22, yP34, yT23, yL23, yP35, yT24, yL24]
    rw [ht]
    have hj := Rjoin (B := B) hn hp1 h1 hB h11 hY hv hp hw ht ht4 (fun e => h14 (Or.inr (Or.inr e))) K
    unfold stepP
    rw [if_neg (by rw [hw]; exact Bool.false_ne_true)]
    by_cases e : t = 3
    · rw [if_pos (ht3 e), h14 (Or.inr (Or.inr e))]
      by_cases e2 : v = 41
      · rw [if_pos e2]
        by_cases e3 : 0 < s.2.2.1
        · rw [if_neg (show ¬ nI s.2.2.1 ≤ 0 from nI_nle e3 (by omega)), if_pos ⟨e, e2, e3⟩]
          obtain ⟨J', q1, q2, q3, q4⟩ := Rclose (B := B) hn hp1 h1 hB h11 hY hv hp hw e3 K
          simp only [gt_self, st_d, setI_mk, u2_row, mI_mk, yT0] at q1
          exact ⟨J', q1, q2, q3, q4⟩
        · rw [if_pos (show nI s.2.2.1 ≤ (0 : Int32) from nI_le (b := 0) (by omega) (by decide)), if_neg (fun q => e3 q.2.2)]
          exact hj
      · rw [if_neg e2, if_neg (fun q => e2 q.2.1)]
        exact hj
    · rw [if_neg (nt3 e), if_neg (fun q => e q.1)]
      exact hj
  | true =>
    rw [if_neg (show ¬ bI true = 0 from one_ne)]
    simp only [gt_self, gd_t, lp_some, st_d, nm_d, on_none, on_some, cl_some, mI_mk, mX_mk, setI_mk, u2_row, rowS_s, rowU_s, yT0, yP0, yT1, yL1, yP1, yT2, yL2, yP2, yT3, yL3, yP5, yT4, yL4, yP6, yT5, yL5, yP7, yT6, yL6, yP8, yT7, yL7, yP9, yT8, yL8, yP17, yT9, yL9, yP18, yT10, yL10, yP19, yT11, yL11, yP22, yT12, yL12, yP24, yT13, yL13, yP25, yT14, yL14, yP26, yT15, yL15, yP27, yT16, yL16, yP28, yT17, yL17, yP29, yT18, yL18, yP30, yT19, yL19, yP31, yT20, yL20, yP32, yT21, yL21, yP33, yT22, yL22, yP34, yT23, yL23, yP35, yT24, yL24]
    rw [ht]
    have hpt := fun h3 h3b => Rpart (B := B) hn hp1 h1 hB h11 hY hk hv hp ht ht4 h12 hap h14 hw h3 h3b K
    have c97 : (t = 3 → v ≠ 33 ∨ 8 ≤ cN s.2.1) → YOut K J key B n (J 0 15) p1 (stepP key t v (p1 - a) s) (f_X10_takesE_97 K (J, YZ) 0 (nI s.2.2.1) (bI true)) := by
      intro h3
      rw [f_X10_takesE_97]
      simp only [gt_self, gd_t, lp_some, st_d, nm_d, on_none, on_some, cl_some, mI_mk, mX_mk, setI_mk, u2_row, rowS_s, rowU_s, yT0, yP0, yT1, yL1, yP1, yT2, yL2, yP2, yT3, yL3, yP5, yT4, yL4, yP6, yT5, yL5, yP7, yT6, yL6, yP8, yT7, yL7, yP9, yT8, yL8, yP17, yT9, yL9, yP18, yT10, yL10, yP19, yT11, yL11, yP22, yT12, yL12, yP24, yT13, yL13, yP25, yT14, yL14, yP26, yT15, yL15, yP27, yT16, yL16, yP28, yT17, yL17, yP29, yT18, yL18, yP30, yT19, yL19, yP31, yT20, yL20, yP32, yT21, yL21, yP33, yT22, yL22, yP34, yT23, yL23, yP35, yT24, yL24]
      rw [ht]
      by_cases e : t = 3
      · rw [if_pos (ht3 e), h14 (Or.inr (Or.inr e))]
        by_cases e2 : v = 40
        · rw [if_pos e2]
          by_cases e3 : s.2.2.1 < 8
          · rw [if_neg (show ¬ (8 : Int32) ≤ nI s.2.2.1 from nI_ge (b := 8) e3 (by decide))]
            unfold stepP
            rw [if_pos hw, if_neg (fun q => absurd (e2.symm.trans q.2.1) (by decide)), if_pos ⟨e, e2, e3⟩]
            simp only [gt_self, gd_t, lp_some, st_d, nm_d, on_none, on_some, cl_some, mI_mk, mX_mk, setI_mk, u2_row, rowS_s, rowU_s, yT0, yP0, yT1, yL1, yP1, yT2, yL2, yP2, yT3, yL3, yP5, yT4, yL4, yP6, yT5, yL5, yP7, yT6, yL6, yP8, yT7, yL7, yP9, yT8, yL8, yP17, yT9, yL9, yP18, yT10, yL10, yP19, yT11, yL11, yP22, yT12, yL12, yP24, yT13, yL13, yP25, yT14, yL14, yP26, yT15, yL15, yP27, yT16, yL16, yP28, yT17, yL17, yP29, yT18, yL18, yP30, yT19, yL19, yP31, yT20, yL20, yP32, yT21, yL21, yP33, yT22, yL22, yP34, yT23, yL23, yP35, yT24, yL24, rowS_n (show (0 : Nat) ≠ 12 by decide)]
            rw [hY.2.2.1, gd_ok (ib_nI (by omega) (by decide)), nI_clamp (by omega), nI_1, nI_1, gd_ok (ib_nI (by omega) (by decide)), nI_clamp (by omega), rowS_n (show (13 : Nat) ≠ 0 by decide), rowS_n (show (13 : Nat) ≠ 12 by decide)]
            obtain ⟨J', q1, q2, q3, q4⟩ := Ropen (B := B) hn hp1 h1 hB h11 hY hv hp hw
            rw [q1]
            simp only [cl_some]
            rw [R172 q2 (by show (-11 :: s.2.1).length ≤ 96; rw [List.length_cons]; omega)]
            exact ⟨J', rfl, q2, q3, q4⟩
          · rw [if_pos (show (8 : Int32) ≤ nI s.2.2.1 from nI_le (a := 8) (by omega) (by omega))]
            exact hpt h3 (fun _ => Or.inr (by omega))
        · rw [if_neg e2]
          exact hpt h3 (fun _ => Or.inl e2)
      · rw [if_neg (nt3 e)]
        exact hpt h3 (fun q => absurd q e)
    by_cases e : t = 3
    · rw [if_pos (ht3 e), h14 (Or.inr (Or.inr e))]
      by_cases e2 : v = 33
      · rw [if_pos e2]
        by_cases e3 : cN s.2.1 < 8
        · rw [if_neg (show ¬ (8 : Int32) ≤ nI (cN s.2.1) from nI_ge (b := 8) e3 (by decide))]
          unfold stepP
          rw [if_pos hw, if_pos ⟨e, e2, e3⟩]
          simp only [gt_self, gd_t, lp_some, st_d, nm_d, on_none, on_some, cl_some, mI_mk, mX_mk, setI_mk, u2_row, rowS_s, rowU_s, yT0, yP0, yT1, yL1, yP1, yT2, yL2, yP2, yT3, yL3, yP5, yT4, yL4, yP6, yT5, yL5, yP7, yT6, yL6, yP8, yT7, yL7, yP9, yT8, yL8, yP17, yT9, yL9, yP18, yT10, yL10, yP19, yT11, yL11, yP22, yT12, yL12, yP24, yT13, yL13, yP25, yT14, yL14, yP26, yT15, yL15, yP27, yT16, yL16, yP28, yT17, yL17, yP29, yT18, yL18, yP30, yT19, yL19, yP31, yT20, yL20, yP32, yT21, yL21, yP33, yT22, yL22, yP34, yT23, yL23, yP35, yT24, yL24, rowS_n (show (0 : Nat) ≠ 12 by decide)]
          rw [hY.2.2.1, gd_ok (ib_nI (by omega) (by decide)), nI_clamp (by omega), nI_1]
          obtain ⟨J', q1, q2, q3, q4⟩ := Rnot (B := B) hn hp1 h1 hB h11 hY hv hp hw
          rw [q1]
          simp only [cl_some]
          rw [R172 q2 (by show (-10 :: s.2.1).length ≤ 96; rw [List.length_cons]; omega)]
          exact ⟨J', rfl, q2, q3, q4⟩
        · rw [if_pos (show (8 : Int32) ≤ nI (cN s.2.1) from nI_le (a := 8) (by omega) (by omega))]
          exact c97 (fun _ => Or.inr (by omega))
      · rw [if_neg e2]
        exact c97 (fun _ => Or.inl e2)
    · rw [if_neg (nt3 e)]
      exact c97 (fun q => absurd q e)
end YStep2
