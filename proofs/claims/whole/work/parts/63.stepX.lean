/-! THE PARSER: the class' step -/
def XR (I : Nat → Nat → Int32) (key : Nat) (e0 : Int32) (s : PS) : Prop := I 80 1 = nI s.1.1 ∧ codeR I s.1.1 s.1.2 ∧ I 80 3 = nI s.2.1.length ∧ Stk (I 82) (s.2.1.map chG) ∧ I 80 4 = nI key ∧ I 80 5 = s.2.2.2.2.1 ∧ I 80 6 = e0 ∧ I 80 7 = bI s.2.2.2.2.2 ∧ I 80 8 = nI s.2.2.1 ∧ I 80 9 = nI (cN s.2.1) ∧ I 80 10 = s.2.2.2.1
def FX (I I' : Nat → Nat → Int32) : Prop := ∀ x, x ≠ 80 → x ≠ 81 → x ≠ 82 → I' x = I x
theorem FX.tr {I J K : Nat → Nat → Int32} (h : FX I J) (q : FX J K) : FX I K := fun x a b c => (q x a b c).trans (h x a b c)
def XOut (X : Nat → Nat → Option Nat) (S : Sta) (I : Nat → Nat → Int32) (key : Nat) (e1 : Int32) (o : Option PS) (r : Option (Int32 × Mem)) : Prop := match o with
  | none => ∃ I', r = some (0, (I', X, S)) ∧ FX I I'
  | some s' => ∃ I', r = some (1, (I', X, S)) ∧ XR I' key e1 s' ∧ FX I I'
theorem bit1 (x : Int32) {i : Nat} (hi : i < 32) : (ushr x (nI i) &&& 1) = bI (bt x i) := by
  apply b_ext
  intro j hj
  unfold ushr
  rw [b_and, b_ushr i hi, b_1 j hj]
  have hb : ∀ (b : Bool) (j : Nat), j < 32 → bt (bI b) j = (b && decide (j = 0)) := by decide +kernel
  rw [hb _ j hj]
  by_cases e : j = 0
  · subst e; rfl
  · rw [decide_eq_false e, Bool.and_false, Bool.and_false]
theorem imax0 (k : Nat) (hk : k < 2 ^ 31) : imax 0 (nI k) = nI k := by
  unfold imax
  by_cases e : k = 0
  · subst e; decide
  · rw [if_pos (show (0 : Int32) < nI k from nI_lt (a := 0) (by omega) hk)]
section XStep
variable {I : Nat → Nat → Int32} {X : Nat → Nat → Option Nat} {S : Sta} {key p : Nat} {e0 : Int32} {s : PS}
theorem XisPiece (hS : LaS S) {nn : Nat} (h : XR I key e0 s) (hv : PV nn p s) (hp : p ≤ 96) {u : Int32} (hu : okG u) (hg : gS u = u) : ∃ I', f_X1_isPiece (I, X, S) 80 u = some (1, (I', X, S)) ∧ XR I' key e0 (pieceP u s) ∧ FX I I' := by
  obtain ⟨⟨m, cd⟩, st, op, cmp, pc, w⟩ := s
  obtain ⟨h1, h2, h3, h4, h5, h6, h7, h8, h9, h10, h11⟩ := h
  obtain ⟨v1, v2, v3, v4, v5, v6, v7⟩ := hv
  dsimp only at *
  rw [f_X1_isPiece]
  simp only [gt_self, gd_t, lp_some, st_d, nm_d, on_none, on_some, cl_some, mI_mk, mX_mk, setI_mk, u2_row, rowS_s, rowU_s, xT0 hS, xP0_0 hS, xP0_1 hS, xP0_2 hS, xP0_3 hS, xP0_4 hS, xP0_5 hS, xP0_6 hS, xP0_7 hS, xP0_8 hS, xT73 hS, xP73_0 hS, xT74 hS, xL74 hS, xP73_1 hS, xT75 hS, xL75 hS, xP73_2 hS, xT76 hS, xL76 hS, xP73_3 hS, xT77 hS, xL77 hS, xT78 hS, xP78_0 hS, xT79 hS, xL79 hS, xT80 hS, xP80_0 hS, xP80_2 hS, xT81 hS, xL81 hS, xT82 hS, xL82 hS, xT83 hS, xL83 hS, xT84 hS, xL84 hS, xT85 hS, xL85 hS]
  rw [h6, XaddStep (m := m) hS (by omega) (by rw [rowS_s, rowU_n (by decide)]; exact h1)]
  simp only [gt_self, gd_t, lp_some, st_d, nm_d, on_none, on_some, cl_some, mI_mk, mX_mk, setI_mk, u2_row, rowS_s, rowU_s, xT0 hS, xP0_0 hS, xP0_1 hS, xP0_2 hS, xP0_3 hS, xP0_4 hS, xP0_5 hS, xP0_6 hS, xP0_7 hS, xP0_8 hS, xT73 hS, xP73_0 hS, xT74 hS, xL74 hS, xP73_1 hS, xT75 hS, xL75 hS, xP73_2 hS, xT76 hS, xL76 hS, xP73_3 hS, xT77 hS, xL77 hS, xT78 hS, xP78_0 hS, xT79 hS, xL79 hS, xT80 hS, xP80_0 hS, xP80_2 hS, xT81 hS, xL81 hS, xT82 hS, xL82 hS, xT83 hS, xL83 hS, xT84 hS, xL84 hS, xT85 hS, xL85 hS, rowS_n (show (81 : Nat) ≠ 80 by decide)]
  obtain ⟨I', q1, z1, z2, z3, z4, z5, z6, z7⟩ := XendPiece (X := X) (S := S) (m := m + 1) (cd := rowU cd m u) (st := st) (I := rowS (rowS (rowS I 80 (rowU (I 80) 5 (pc + 1))) 81 (rowU (I 81) m u)) 80 (rowU (rowU (I 80) 5 (pc + 1)) 1 (nI (m + 1)))) hS v1 (by omega) (by rw [rowS_s, rowU_s]) (by
    have := codeR.up (I := rowS I 80 (rowU (I 80) 5 (pc + 1))) (m := m) (cd := cd) (v := u) (fun k hk => by rw [rowS_n (by decide)]; exact h2 k hk) (rowU (rowU (I 80) 5 (pc + 1)) 1 (nI (m + 1))) hu
    rwa [hg, rowS_n (show (81 : Nat) ≠ 80 by decide)] at this) (by rw [rowS_s, rowU_n (by decide), rowU_n (by decide)]; exact h3) (by rw [rowS_n (by decide), rowS_n (by decide), rowS_n (by decide)]; exact h4) (by rw [rowS_s, rowU_n (by decide), rowU_n (by decide)]; exact h10)
  rw [q1]
  simp only [cl_some]
  have hr : ∀ j, j ≠ 1 → j ≠ 3 → j ≠ 7 → j ≠ 9 → j ≠ 5 → I' 80 j = I 80 j := fun j j1 j3 j7 j9 j5 => by rw [z6 j j1 j3 j7 j9, rowS_s, rowU_n j1, rowU_n j5]
  refine ⟨I', rfl, ⟨z1, z2, z3, ?_, ?_, ?_, ?_, z4, ?_, z5, ?_⟩, fun x x1 x2 x3 => by rw [z7 x x1 x2, rowS_n x1, rowS_n x2, rowS_n x1]⟩
  · rw [z7 82 (by decide) (by decide), rowS_n (by decide), rowS_n (by decide), rowS_n (by decide)]; exact stl_stk _ _ h4
  · rw [hr 4 (by decide) (by decide) (by decide) (by decide) (by decide)]; exact h5
  · rw [z6 5 (by decide) (by decide) (by decide) (by decide), rowS_s, rowU_n (by decide), rowU_s]; rfl
  · rw [hr 6 (by decide) (by decide) (by decide) (by decide) (by decide)]; exact h7
  · rw [hr 8 (by decide) (by decide) (by decide) (by decide) (by decide)]; exact h9
  · rw [hr 10 (by decide) (by decide) (by decide) (by decide) (by decide)]; exact h11
theorem Xcloses (hS : LaS S) {nn : Nat} (h : XR I key e0 s) (hv : PV nn p s) (hp : p ≤ 96) (hw : s.2.2.2.2.2 = false) : XOut X S I key e0 (if 0 < s.2.2.1 then some (closeP s) else none) (f_X1_closes (I, X, S) 80) := by
  obtain ⟨⟨m, cd⟩, st, op, cmp, pc, w⟩ := s
  obtain ⟨h1, h2, h3, h4, h5, h6, h7, h8, h9, h10, h11⟩ := h
  obtain ⟨v1, v2, v3, v4, v5, v6, v7⟩ := hv
  dsimp only at *
  subst hw
  rw [f_X1_closes]
  simp only [gt_self, gd_t, lp_some, st_d, nm_d, on_none, on_some, cl_some, mI_mk, mX_mk, setI_mk, u2_row, rowS_s, rowU_s, xT0 hS, xP0_0 hS, xP0_1 hS, xP0_2 hS, xP0_3 hS, xP0_4 hS, xP0_5 hS, xP0_6 hS, xP0_7 hS, xP0_8 hS, xT73 hS, xP73_0 hS, xT74 hS, xL74 hS, xP73_1 hS, xT75 hS, xL75 hS, xP73_2 hS, xT76 hS, xL76 hS, xP73_3 hS, xT77 hS, xL77 hS, xT78 hS, xP78_0 hS, xT79 hS, xL79 hS, xT80 hS, xP80_0 hS, xP80_2 hS, xT81 hS, xL81 hS, xT82 hS, xL82 hS, xT83 hS, xL83 hS, xT84 hS, xL84 hS, xT85 hS, xL85 hS]
  rw [h9]
  by_cases e : 0 < op
  · rw [if_pos e, if_pos (show (0 : Int32) < nI op from nI_lt (a := 0) e (by omega))]
    obtain ⟨I1, q1, ⟨z1, z2, z3, z4, z5⟩, z6⟩ := XjoinDown (X := X) (S := S) (r := 1) hS (by decide) (by decide) v1 v2 (by omega) h1 h2 h3 h4
    have q1 : f_X1_joinDownTo (I, X, S) 80 1 = some ((), (I1, X, S)) := q1
    rw [q1]
    have hb := stl_bin (least := 1) (by decide) st (m, cd) v2
    have hl := stl_len (least := 1) st (m, cd)
    have hm := stl_mem (least := 1) st (m, cd)
    have hk := stl_stk (least := 1) (q := I 82) (f := chG) st (m, cd) h4
    have hcl : closeP ((m, cd), st, op, cmp, pc, false) = ((stl 6 (stl 1 (m, cd) st).1 (stl 1 (m, cd) st).2.tail).1, (stl 6 (stl 1 (m, cd) st).1 (stl 1 (m, cd) st).2.tail).2, op - 1, cmp, pc, false) := rfl
    show ∃ I', _ = some (1, (I', X, S)) ∧ XR I' key e0 (closeP ((m, cd), st, op, cmp, pc, false)) ∧ FX I I'
    rw [hcl]
    rcases (stl_par st (m, cd) v1).2 with q | ⟨r, q⟩
    · rw [q] at hb; have := hb.2.2; rw [show cP [] = 0 from rfl] at this; omega
    · rw [q] at hb hl hm hk z3
      rw [q]
      generalize hR : (stl 1 (m, cd) st).1 = R at hl z1 z2 ⊢
      obtain ⟨m1, cd1⟩ := R
      dsimp only at hl z1 z2
      rw [List.length_cons] at hl z3
      have hr : ∀ g ∈ r, g ∈ gL := fun g hg => v1 g (hm g (List.mem_cons_of_mem _ hg))
      have hcN : cN r = cN st := by
        rw [← hb.2.1]; show _ = cN r + (if (-11 : Int32) = -10 then 1 else 0); rw [if_neg (by decide)]; rfl
      have i8 : I1 80 8 = nI op := (z4 8 (by decide) (by decide) (by decide)).trans h9
      simp only [gt_self, gd_t, lp_some, st_d, nm_d, on_none, on_some, cl_some, mI_mk, mX_mk, setI_mk, u2_row, rowS_s, rowU_s, xT0 hS, xP0_0 hS, xP0_1 hS, xP0_2 hS, xP0_3 hS, xP0_4 hS, xP0_5 hS, xP0_6 hS, xP0_7 hS, xP0_8 hS, xT73 hS, xP73_0 hS, xT74 hS, xL74 hS, xP73_1 hS, xT75 hS, xL75 hS, xP73_2 hS, xT76 hS, xL76 hS, xP73_3 hS, xT77 hS, xL77 hS, xT78 hS, xP78_0 hS, xT79 hS, xL79 hS, xT80 hS, xP80_0 hS, xP80_2 hS, xT81 hS, xL81 hS, xT82 hS, xL82 hS, xT83 hS, xL83 hS, xT84 hS, xL84 hS, xT85 hS, xL85 hS, rowS_rowS, rowU_n (show (8 : Nat) ≠ 3 by decide)]
      obtain ⟨op, rfl⟩ : ∃ o, op = o + 1 := ⟨op - 1, by omega⟩
      rw [z3, nI_s1, imax0 _ (by omega), i8, nI_s1]
      obtain ⟨I', q2, y1, y2, y3, y4, y5, y6, y7⟩ := XendPiece (X := X) (S := S) (m := m1) (cd := cd1) (st := r) (I := rowS I1 80 (rowU (rowU (I1 80) 3 (nI r.length)) 8 (nI op))) hS hr (by omega) (by rw [rowS_s, rowU_n (by decide), rowU_n (by decide)]; exact z1) (fun k hk => by rw [rowS_n (by decide)]; exact z2 k hk) (by rw [rowS_s, rowU_n (by decide), rowU_s]) (by rw [rowS_n (by decide), z5 82 (by decide) (by decide)]; exact hk.2) (by rw [rowS_s, rowU_n (by decide), rowU_n (by decide), z6, h10, hcN])
      rw [q2]
      simp only [cl_some, List.tail_cons]
      have hr2 : ∀ j, j ≠ 1 → j ≠ 3 → j ≠ 7 → j ≠ 9 → j ≠ 8 → I' 80 j = I 80 j := fun j j1 j3 j7 j9 j8 => by rw [y6 j j1 j3 j7 j9, rowS_s, rowU_n j8, rowU_n j3, z4 j j1 j3 j9]
      refine ⟨I', rfl, ⟨y1, y2, y3, ?_, ?_, ?_, ?_, y4, ?_, y5, ?_⟩, fun x x1 x2 x3 => by rw [y7 x x1 x2, rowS_n x1, z5 x x1 x2]⟩
      · rw [y7 82 (by decide) (by decide), rowS_n (by decide), z5 82 (by decide) (by decide)]; exact stl_stk _ _ hk.2
      · rw [hr2 4 (by decide) (by decide) (by decide) (by decide) (by decide)]; exact h5
      · rw [hr2 5 (by decide) (by decide) (by decide) (by decide) (by decide)]; exact h6
      · rw [hr2 6 (by decide) (by decide) (by decide) (by decide) (by decide)]; exact h7
      · rw [y6 8 (by decide) (by decide) (by decide) (by decide), rowS_s, rowU_s]; rfl
      · rw [hr2 10 (by decide) (by decide) (by decide) (by decide) (by decide)]; exact h11
  · rw [if_neg e, if_neg (show ¬ (0 : Int32) < nI op from nI_nlt (b := op) (a := 0) (by omega) (by decide))]
    exact ⟨I, rfl, fun _ _ _ _ => rfl⟩
theorem Xjoins76 (hS : LaS S) {nn : Nat} (h : XR I key e0 s) (hv : PV nn p s) (hp : p ≤ 96) (hw : s.2.2.2.2.2 = false) {b : Int32} (hb : sgM b ∈ gL) (h10 : sgM b ≠ -10) (h11' : sgM b ≠ -11) (hch : chG (sgM b) = b) (c : Int32) (hc : I 80 10 = s.2.2.2.1) : ∃ I', f_X1_joins_76 (rowS I 80 (rowU (I 80) 10 c), X, S) 80 b (nI (rkM (sgM b))) = some (1, (I', X, S)) ∧ XR I' key e0 ((stl (rkM (sgM b)) s.1 s.2.1).1, sgM b :: (stl (rkM (sgM b)) s.1 s.2.1).2, s.2.2.1, c, s.2.2.2.2.1, true) ∧ FX I I' := by
  obtain ⟨⟨m, cd⟩, st, op, cmp, pc, w⟩ := s
  obtain ⟨h1, h2, h3, h4, h5, h6, h7, h8, h9, ha, h11⟩ := h
  obtain ⟨v1, v2, v3, v4, v5, v6, v7⟩ := hv
  dsimp only at *
  subst hw
  have hrk := ch_rk _ hb h10 h11'
  rw [f_X1_joins_76]
  simp only [gt_self, gd_t, lp_some, st_d, nm_d, on_none, on_some, cl_some, mI_mk, mX_mk, setI_mk, u2_row, rowS_s, rowU_s, xT0 hS, xP0_0 hS, xP0_1 hS, xP0_2 hS, xP0_3 hS, xP0_4 hS, xP0_5 hS, xP0_6 hS, xP0_7 hS, xP0_8 hS, xT73 hS, xP73_0 hS, xT74 hS, xL74 hS, xP73_1 hS, xT75 hS, xL75 hS, xP73_2 hS, xT76 hS, xL76 hS, xP73_3 hS, xT77 hS, xL77 hS, xT78 hS, xP78_0 hS, xT79 hS, xL79 hS, xT80 hS, xP80_0 hS, xP80_2 hS, xT81 hS, xL81 hS, xT82 hS, xL82 hS, xT83 hS, xL83 hS, xT84 hS, xL84 hS, xT85 hS, xL85 hS]
  obtain ⟨I1, q1, ⟨z1, z2, z3, z4, z5⟩, z6⟩ := XjoinDown (X := X) (S := S) (r := rkM (sgM b)) (m := m) (cd := cd) (I := rowS I 80 (rowU (I 80) 10 c)) hS hrk.2.1 hrk.2.2 v1 v2 (by omega) (by rw [rowS_s, rowU_n (by decide)]; exact h1) (fun k hk => by rw [rowS_n (by decide)]; exact h2 k hk) (by rw [rowS_s, rowU_n (by decide)]; exact h3) (by rw [rowS_n (by decide)]; exact h4)
  rw [q1]
  have hbn := stl_bin (least := rkM (sgM b)) (by omega) st (m, cd) v2
  have hl := stl_len (least := rkM (sgM b)) st (m, cd)
  have hk := stl_stk (least := rkM (sgM b)) (q := I 82) (f := chG) st (m, cd) h4
  generalize hR : stl (rkM (sgM b)) (m, cd) st = R at hl z1 z2 z3 hk hbn ⊢
  obtain ⟨⟨m1, cd1⟩, st1⟩ := R
  dsimp only at hl z1 z2 z3 hk hbn ⊢
  simp only [gt_self, gd_t, lp_some, st_d, nm_d, on_none, on_some, cl_some, mI_mk, mX_mk, setI_mk, u2_row, rowS_s, rowU_s, xT0 hS, xP0_0 hS, xP0_1 hS, xP0_2 hS, xP0_3 hS, xP0_4 hS, xP0_5 hS, xP0_6 hS, xP0_7 hS, xP0_8 hS, xT73 hS, xP73_0 hS, xT74 hS, xL74 hS, xP73_1 hS, xT75 hS, xL75 hS, xP73_2 hS, xT76 hS, xL76 hS, xP73_3 hS, xT77 hS, xL77 hS, xT78 hS, xP78_0 hS, xT79 hS, xL79 hS, xT80 hS, xP80_0 hS, xP80_2 hS, xT81 hS, xL81 hS, xT82 hS, xL82 hS, xT83 hS, xL83 hS, xT84 hS, xL84 hS, xT85 hS, xL85 hS]
  rw [XaddSign (m := st1.length) hS (by omega) z3]
  simp only [gt_self, gd_t, lp_some, st_d, nm_d, on_none, on_some, cl_some, mI_mk, mX_mk, setI_mk, u2_row, rowS_s, rowU_s, xT0 hS, xP0_0 hS, xP0_1 hS, xP0_2 hS, xP0_3 hS, xP0_4 hS, xP0_5 hS, xP0_6 hS, xP0_7 hS, xP0_8 hS, xT73 hS, xP73_0 hS, xT74 hS, xL74 hS, xP73_1 hS, xT75 hS, xL75 hS, xP73_2 hS, xT76 hS, xL76 hS, xP73_3 hS, xT77 hS, xL77 hS, xT78 hS, xP78_0 hS, xT79 hS, xL79 hS, xT80 hS, xP80_0 hS, xP80_2 hS, xT81 hS, xL81 hS, xT82 hS, xL82 hS, xT83 hS, xL83 hS, xT84 hS, xL84 hS, xT85 hS, xL85 hS, rowS_rowS, rowS_n (show (80 : Nat) ≠ 82 by decide)]
  have i82 : I1 82 = I 82 := by rw [z5 82 (by decide) (by decide), rowS_n (by decide)]
  have hr : ∀ j, j ≠ 1 → j ≠ 3 → j ≠ 7 → j ≠ 9 → j ≠ 10 → rowU (rowU (I1 80) 3 (nI (st1.length + 1))) 7 1 j = I 80 j := fun j j1 j3 j7 j9 j10 => by rw [rowU_n j7, rowU_n j3, z4 j j1 j3 j9, rowS_s, rowU_n j10]
  refine ⟨_, rfl, ⟨?_, fun k hk => ?_, ?_, ?_, ?_, ?_, ?_, ?_, ?_, ?_, ?_⟩, fun x x1 x2 x3 => by rw [rowS_n x1, rowS_n x3, z5 x x1 x2, rowS_n x1]⟩
  · rw [rowS_s, rowU_n (by decide), rowU_n (by decide)]; exact z1
  · rw [rowS_n (by decide), rowS_n (by decide)]; exact z2 k hk
  · rw [rowS_s, rowU_n (by decide), rowU_s]; rfl
  · rw [rowS_n (by decide), rowS_s, i82]
    show Stk _ (chG (sgM b) :: st1.map chG)
    exact ⟨by rw [List.length_map, rowU_s, hch], Stk.up hk (by rw [List.length_map]; omega)⟩
  · rw [rowS_s, hr 4 (by decide) (by decide) (by decide) (by decide) (by decide)]; exact h5
  · rw [rowS_s, hr 5 (by decide) (by decide) (by decide) (by decide) (by decide)]; exact h6
  · rw [rowS_s, hr 6 (by decide) (by decide) (by decide) (by decide) (by decide)]; exact h7
  · rw [rowS_s, rowU_s]; rfl
  · rw [rowS_s, hr 8 (by decide) (by decide) (by decide) (by decide) (by decide)]; exact h9
  · rw [rowS_s, rowU_n (by decide), rowU_n (by decide), z6, rowS_s, rowU_n (by decide), ha, ← hbn.2.1]
    show _ = nI (cN st1 + (if sgM b = -10 then 1 else 0))
    rw [if_neg h10]; rfl
  · rw [rowS_s, rowU_n (by decide), rowU_n (by decide), z4 10 (by decide) (by decide) (by decide), rowS_s, rowU_s]
theorem Xjoins (hS : LaS S) {nn : Nat} (h : XR I key e0 s) (hv : PV nn p s) (hp : p ≤ 96) (hw : s.2.2.2.2.2 = false) (b : Int32) : XOut X S I key e0 (if ¬ sgM b = 0 ∧ ¬ (rkM (sgM b) = 3 ∧ bt s.2.2.2.1 s.2.2.1 = true) then some (joinP (sgM b) s) else none) (f_X1_joins (I, X, S) 80 b) := by
  rw [f_X1_joins, XrankOf]
  simp only [gt_self, gd_t, lp_some, st_d, nm_d, on_none, on_some, cl_some, mI_mk, mX_mk, setI_mk, u2_row, rowS_s, rowU_s, xT0 hS, xP0_0 hS, xP0_1 hS, xP0_2 hS, xP0_3 hS, xP0_4 hS, xP0_5 hS, xP0_6 hS, xP0_7 hS, xP0_8 hS, xT73 hS, xP73_0 hS, xT74 hS, xL74 hS, xP73_1 hS, xT75 hS, xL75 hS, xP73_2 hS, xT76 hS, xL76 hS, xP73_3 hS, xT77 hS, xL77 hS, xT78 hS, xP78_0 hS, xT79 hS, xL79 hS, xT80 hS, xP80_0 hS, xP80_2 hS, xT81 hS, xL81 hS, xT82 hS, xL82 hS, xT83 hS, xL83 hS, xT84 hS, xL84 hS, xT85 hS, xL85 hS]
  rcases sg_ok b with ⟨q1, q2⟩ | ⟨g1, g2, g3, g4, g5, g6⟩
  · rw [if_neg (fun q => q.1 q1), q2, if_pos (show nI 0 = 0 from rfl)]
    exact ⟨I, rfl, fun _ _ _ _ => rfl⟩
  · have hrk := ch_rk _ g1 g2 g3
    have n3 : ¬ rkM (sgM b) = 3 → ¬ nI (rkM (sgM b)) = 3 := fun e3 q => e3 ((nI_eq (b := 3) (by omega) (by decide)).mp q)
    have h4 := hv.2.2.2.1
    have h8 : I 80 8 = nI s.2.2.1 := h.2.2.2.2.2.2.2.2.1
    have h10 : I 80 10 = s.2.2.2.1 := h.2.2.2.2.2.2.2.2.2.2
    rw [g6, if_neg (nI_ne0 (by omega) (by omega))]
    have idr : (I, X, S) = ((rowS I 80 (rowU (I 80) 10 (I 80 10)), X, S) : Mem) := by
      rw [show rowU (I 80) 10 (I 80 10) = I 80 from funext (fun j => by
        by_cases e : j = 10
        · subst e; rw [rowU_s]
        · rw [rowU_n e]), rowS_id]
    have j31 : ∃ I', f_X1_joins_31 (I, X, S) 80 b (nI (rkM (sgM b))) = some (1, (I', X, S)) ∧ XR I' key e0 (joinP (sgM b) s) ∧ FX I I' := by
      have key76 := fun c => Xjoins76 (X := X) (S := S) hS h hv hp hw g1 g2 g3 g5 c h10
      rw [f_X1_joins_31]
      simp only [gt_self, gd_t, lp_some, st_d, nm_d, on_none, on_some, cl_some, mI_mk, mX_mk, setI_mk, u2_row, rowS_s, rowU_s, xT0 hS, xP0_0 hS, xP0_1 hS, xP0_2 hS, xP0_3 hS, xP0_4 hS, xP0_5 hS, xP0_6 hS, xP0_7 hS, xP0_8 hS, xT73 hS, xP73_0 hS, xT74 hS, xL74 hS, xP73_1 hS, xT75 hS, xL75 hS, xP73_2 hS, xT76 hS, xL76 hS, xP73_3 hS, xT77 hS, xL77 hS, xT78 hS, xP78_0 hS, xT79 hS, xL79 hS, xT80 hS, xP80_0 hS, xP80_2 hS, xT81 hS, xL81 hS, xT82 hS, xL82 hS, xT83 hS, xL83 hS, xT84 hS, xL84 hS, xT85 hS, xL85 hS]
      unfold joinP cmpP
      by_cases e3 : rkM (sgM b) = 3
      · rw [if_pos e3, if_pos (show nI (rkM (sgM b)) = 3 by rw [e3]; rfl), h8, h10]
        exact key76 _
      · rw [if_neg e3, if_neg (n3 e3)]
        by_cases e4 : rkM (sgM b) < 3
        · rw [if_pos e4, if_neg (show ¬ (3 : Int32) ≤ nI (rkM (sgM b)) from nI_ge (b := 3) e4 (by decide)), h8, h10]
          exact key76 _
        · rw [if_neg e4, if_pos (show (3 : Int32) ≤ nI (rkM (sgM b)) from nI_le (a := 3) (by omega) (by omega)), idr, h10]
          exact key76 _
    by_cases e3 : rkM (sgM b) = 3
    · rw [if_pos (show nI (rkM (sgM b)) = 3 by rw [e3]; rfl), h8, h10, bit1 _ (by omega)]
      cases hbt : bt s.2.2.2.1 s.2.2.1 with
      | true =>
        rw [if_pos (show bI true = 1 from rfl), if_neg (fun q => q.2 ⟨e3, rfl⟩)]
        exact ⟨I, rfl, fun _ _ _ _ => rfl⟩
      | false =>
        rw [if_neg (show ¬ bI false = 1 by decide), if_pos ⟨g4, fun q => nomatch q.2⟩]
        exact j31
    · rw [if_neg (n3 e3), if_pos ⟨g4, fun q => e3 q.1⟩]
      exact j31
theorem Xpush (hS : LaS S) {nn : Nat} (h : XR I key e0 s) (hv : PV nn p s) (hp : p ≤ 96) {c : Int32} {g : Int32} (hg : chG g = c) {op2 : Nat} {cmp2 : Int32} {r : Nat → Int32} (hr : ∀ j, j ≠ 8 → j ≠ 9 → j ≠ 10 → r j = I 80 j) (r8 : r 8 = nI op2) (r9 : r 9 = nI (cN (g :: s.2.1))) (r10 : r 10 = cmp2) (hw : s.2.2.2.2.2 = true) : ∃ I', f_X1_addSign (rowS I 80 r, X, S) 80 c = some ((), (I', X, S)) ∧ XR I' key e0 (s.1, g :: s.2.1, op2, cmp2, s.2.2.2.2.1, true) ∧ FX I I' := by
  obtain ⟨⟨m, cd⟩, st, op, cmp, pc, w⟩ := s
  obtain ⟨h1, h2, h3, h4, h5, h6, h7, h8, h9, ha, h11⟩ := h
  obtain ⟨v1, v2, v3, v4, v5, v6, v7⟩ := hv
  dsimp only at *
  subst hw
  rw [XaddSign (m := st.length) hS (by omega) (by rw [rowS_s, hr 3 (by decide) (by decide) (by decide)]; exact h3)]
  refine ⟨_, rfl, ⟨?_, fun k hk => ?_, ?_, ?_, ?_, ?_, ?_, ?_, ?_, ?_, ?_⟩, fun x x1 x2 x3 => by rw [rowS_n x1, rowS_n x3, rowS_n x1]⟩
  · rw [rowS_s, rowS_s, rowU_n (by decide), hr 1 (by decide) (by decide) (by decide)]; exact h1
  · rw [rowS_n (by decide), rowS_n (by decide), rowS_n (by decide)]; exact h2 k hk
  · rw [rowS_s, rowU_s]; rfl
  · rw [rowS_n (by decide), rowS_s, rowS_n (by decide)]
    show Stk _ (chG g :: st.map chG)
    exact ⟨by rw [List.length_map, rowU_s, hg], Stk.up h4 (by rw [List.length_map]; omega)⟩
  · rw [rowS_s, rowS_s, rowU_n (by decide), hr 4 (by decide) (by decide) (by decide)]; exact h5
  · rw [rowS_s, rowS_s, rowU_n (by decide), hr 5 (by decide) (by decide) (by decide)]; exact h6
  · rw [rowS_s, rowS_s, rowU_n (by decide), hr 6 (by decide) (by decide) (by decide)]; exact h7
  · rw [rowS_s, rowS_s, rowU_n (by decide), hr 7 (by decide) (by decide) (by decide)]; exact h8
  · rw [rowS_s, rowS_s, rowU_n (by decide)]; exact r8
  · rw [rowS_s, rowS_s, rowU_n (by decide)]; exact r9
  · rw [rowS_s, rowS_s, rowU_n (by decide)]; exact r10
theorem Xopens (hS : LaS S) {nn : Nat} (h : XR I key e0 s) (hv : PV nn p s) (hp : p ≤ 96) (hw : s.2.2.2.2.2 = true) : XOut X S I key e0 (if s.2.2.1 < 8 then some (openP s) else none) (f_X1_opens (I, X, S) 80) := by
  have h8 : I 80 8 = nI s.2.2.1 := h.2.2.2.2.2.2.2.2.1
  have h9 : I 80 9 = nI (cN s.2.1) := h.2.2.2.2.2.2.2.2.2.1
  have h10 : I 80 10 = s.2.2.2.1 := h.2.2.2.2.2.2.2.2.2.2
  have h4 := hv.2.2.2.1
  rw [f_X1_opens]
  simp only [gt_self, gd_t, lp_some, st_d, nm_d, on_none, on_some, cl_some, mI_mk, mX_mk, setI_mk, u2_row, rowS_s, rowU_s, xT0 hS, xP0_0 hS, xP0_1 hS, xP0_2 hS, xP0_3 hS, xP0_4 hS, xP0_5 hS, xP0_6 hS, xP0_7 hS, xP0_8 hS, xT73 hS, xP73_0 hS, xT74 hS, xL74 hS, xP73_1 hS, xT75 hS, xL75 hS, xP73_2 hS, xT76 hS, xL76 hS, xP73_3 hS, xT77 hS, xL77 hS, xT78 hS, xP78_0 hS, xT79 hS, xL79 hS, xT80 hS, xP80_0 hS, xP80_2 hS, xT81 hS, xL81 hS, xT82 hS, xL82 hS, xT83 hS, xL83 hS, xT84 hS, xL84 hS, xT85 hS, xL85 hS, rowS_rowS, rowU_n (show (10 : Nat) ≠ 8 by decide)]
  rw [h8]
  by_cases e : s.2.2.1 < 8
  · rw [if_pos e, if_pos (show nI s.2.2.1 < (8 : Int32) from nI_lt (b := 8) e (by decide)), nI_1, h10]
    obtain ⟨I', q1, q2, q3⟩ := Xpush (X := X) (S := S) hS h hv hp (g := -11) (c := 40) (by decide +kernel) (op2 := s.2.2.1 + 1) (cmp2 := s.2.2.2.1 &&& (bitI (s.2.2.1 + 1) ^^^ (-1))) (r := rowU (rowU (I 80) 8 (nI (s.2.2.1 + 1))) 10 (s.2.2.2.1 &&& (((1 : Int32) <<< (nI (s.2.2.1 + 1) &&& 31)) ^^^ (-1)))) (fun j j8 j9 j10 => by rw [rowU_n j10, rowU_n j8]) (by rw [rowU_n (by decide), rowU_s]) (by
      rw [rowU_n (by decide), rowU_n (by decide), h9]
      show _ = nI (cN s.2.1 + (if (-11 : Int32) = -10 then 1 else 0))
      rw [if_neg (by decide)]; rfl) (by rw [rowU_s]; rfl) hw
    rw [q1]
    exact ⟨I', rfl, q2, q3⟩
  · rw [if_neg e, if_neg (show ¬ nI s.2.2.1 < (8 : Int32) from nI_nlt (b := 8) (by omega) (by omega))]
    exact ⟨I, rfl, fun _ _ _ _ => rfl⟩
theorem Xnegates (hS : LaS S) {nn : Nat} (h : XR I key e0 s) (hv : PV nn p s) (hp : p ≤ 96) (hw : s.2.2.2.2.2 = true) : XOut X S I key e0 (if cN s.2.1 < 8 then some (notP s) else none) (f_X1_negates (I, X, S) 80) := by
  have h8 : I 80 8 = nI s.2.2.1 := h.2.2.2.2.2.2.2.2.1
  have h9 : I 80 9 = nI (cN s.2.1) := h.2.2.2.2.2.2.2.2.2.1
  have h10 : I 80 10 = s.2.2.2.1 := h.2.2.2.2.2.2.2.2.2.2
  have hcl := cN_le s.2.1
  have h7 := hv.2.2.2.2.2.2
  rw [f_X1_negates]
  simp only [gt_self, gd_t, lp_some, st_d, nm_d, on_none, on_some, cl_some, mI_mk, mX_mk, setI_mk, u2_row, rowS_s, rowU_s, xT0 hS, xP0_0 hS, xP0_1 hS, xP0_2 hS, xP0_3 hS, xP0_4 hS, xP0_5 hS, xP0_6 hS, xP0_7 hS, xP0_8 hS, xT73 hS, xP73_0 hS, xT74 hS, xL74 hS, xP73_1 hS, xT75 hS, xL75 hS, xP73_2 hS, xT76 hS, xL76 hS, xP73_3 hS, xT77 hS, xL77 hS, xT78 hS, xP78_0 hS, xT79 hS, xL79 hS, xT80 hS, xP80_0 hS, xP80_2 hS, xT81 hS, xL81 hS, xT82 hS, xL82 hS, xT83 hS, xL83 hS, xT84 hS, xL84 hS, xT85 hS, xL85 hS]
  rw [h9]
  by_cases e : cN s.2.1 < 8
  · rw [if_pos e, if_pos (show nI (cN s.2.1) < (8 : Int32) from nI_lt (b := 8) e (by decide)), nI_1]
    obtain ⟨I', q1, q2, q3⟩ := Xpush (X := X) (S := S) hS h hv hp (g := -10) (c := 33) (by decide +kernel) (op2 := s.2.2.1) (cmp2 := s.2.2.2.1) (r := rowU (I 80) 9 (nI (cN s.2.1 + 1))) (fun j j8 j9 j10 => by rw [rowU_n j9]) (by rw [rowU_n (by decide)]; exact h8) (by
      rw [rowU_s]
      show _ = nI (cN s.2.1 + (if (-10 : Int32) = -10 then 1 else 0))
      rw [if_pos rfl]) (by rw [rowU_n (by decide)]; exact h10) hw
    rw [q1]
    exact ⟨I', rfl, q2, q3⟩
  · rw [if_neg e, if_neg (show ¬ nI (cN s.2.1) < (8 : Int32) from nI_nlt (b := 8) (by omega) (by omega))]
    exact ⟨I, rfl, fun _ _ _ _ => rfl⟩
end XStep
