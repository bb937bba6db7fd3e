/-! THE PARSER: the class takes a word -/
section XGo
variable {I : Nat → Nat → Int32} {X : Nat → Nat → Option Nat} {S : Sta} {key p : Nat} {e0 e1 : Int32} {s : PS}
theorem XOut.gd {o : Option PS} {r : Option (Int32 × Mem)} (h : XOut X S I key e1 o r) : XOut X S I key e1 o (cl r (fun r M => gd (isB r) (some (r, M)))) := by
  cases o with
  | none => obtain ⟨I', e, h⟩ := h; exact ⟨I', by rw [e, cl_some, gd_ok (show isB 0 = true from rfl)], h⟩
  | some s' => obtain ⟨I', e, h⟩ := h; exact ⟨I', by rw [e, cl_some, gd_ok (show isB 1 = true from rfl)], h⟩
theorem XOut.if {o : Option PS} {r : Option (Int32 × Mem)} (h : XOut X S I key e1 o r) : XOut X S I key e1 o (cl r (fun r M => if r = 0 then some (0, M) else some (1, M))) := by
  cases o with
  | none => obtain ⟨I', e, h⟩ := h; exact ⟨I', by rw [e, cl_some, if_pos rfl], h⟩
  | some s' => obtain ⟨I', e, h⟩ := h; exact ⟨I', by rw [e, cl_some, if_neg one_ne], h⟩
theorem XOut.fx {I1 : Nat → Nat → Int32} {o : Option PS} {r : Option (Int32 × Mem)} (hf : FX I I1) (h : XOut X S I1 key e1 o r) : XOut X S I key e1 o r := by
  cases o with
  | none => obtain ⟨I', e, h⟩ := h; exact ⟨I', e, hf.tr h⟩
  | some s' => obtain ⟨I', e, h1, h⟩ := h; exact ⟨I', e, h1, hf.tr h⟩
theorem XOut.no {r : Option (Int32 × Mem)} (h : r = some (0, (I, X, S))) : XOut X S I key e1 none r := ⟨I, h, fun _ _ _ _ => rfl⟩
theorem Xnames (hS : LaS S) (hk : key < 3) (h4 : I 80 4 = nI key) : f_X1_names (I, X, S) 80 = some (3 + key, (I, X, S)) := by
  rw [f_X1_names]
  simp only [gt_self, gd_t, lp_some, st_d, nm_d, on_none, on_some, cl_some, mI_mk, mX_mk, setI_mk, u2_row, rowS_s, rowU_s, xT0 hS, xP0_0 hS, xP0_1 hS, xP0_2 hS, xP0_3 hS, xP0_4 hS, xP0_5 hS, xP0_6 hS, xP0_7 hS, xP0_8 hS, xT73 hS, xP73_0 hS, xT74 hS, xL74 hS, xP73_1 hS, xT75 hS, xL75 hS, xP73_2 hS, xT76 hS, xL76 hS, xP73_3 hS, xT77 hS, xL77 hS, xT78 hS, xP78_0 hS, xT79 hS, xL79 hS, xT80 hS, xP80_0 hS, xP80_2 hS, xT81 hS, xL81 hS, xT82 hS, xL82 hS, xT83 hS, xL83 hS, xT84 hS, xL84 hS, xT85 hS, xL85 hS]
  rw [h4]
  rcases (show key = 0 ∨ key = 1 ∨ key = 2 by omega) with rfl | rfl | rfl
  · rw [if_pos (show nI 0 = 0 by decide)]
  · rw [if_neg (show ¬ nI 1 = 0 by decide), if_pos (show nI 1 = 1 by decide)]
  · rw [if_neg (show ¬ nI 2 = 0 by decide), if_neg (show ¬ nI 2 = 1 by decide)]
theorem okG_small {u : Int32} {x : Nat} (hx : x < 20000) (e : u = nI x) : okG u ∧ gS u = u := by
  subst e
  have h : nI x < 20000 := nI_lt (b := 20000) hx (by decide)
  refine ⟨Or.inl ⟨nI_pos' (by omega), h⟩, ?_⟩
  unfold gS
  rw [if_pos h]
theorem nI_neNO {k : Nat} (hk : k < 2 ^ 31) : ¬ nI k = -1000000005 := fun e => nI_pos hk (by rw [e]; decide)
theorem Xgo56 (hS : LaS S) {B : Nat → Int32} {n a : Nat} (hn : n ≤ 96) (ha : a < n) (hB : ∀ k, k < n → I 79 k = B k) (h : XR I key e1 s) (hk : key < 3) (hv : PV (nnK key) p s) (hp : p ≤ 96) {t : Nat} {v : Int32} (hLt : isLt (B a) = true → t = 1 ∧ v = B a) (hDg : isDg (B a) = true → (t = 2 ∧ v = numM B a (endM B n a - a) ∧ endM B n a - a ≤ 4 ∧ ∃ x, x < 10000 ∧ v = nI x) ∨ (t = 4 ∧ 4 < endM B n a - a)) (hSg : isLt (B a) = false → isDg (B a) = false → t = 3 ∧ v = B a) : XOut X S I key e1 (stepP key t v (endM B n a - a) s) (f_X1_goesOn_56 (I, X, S) 80 78 (nI a) (nI (endM B n a)) (B a)) := by
  have he := end_le (B := B) ha
  have h5 : I 80 4 = nI key := h.2.2.2.2.1
  have h8 : I 80 7 = bI s.2.2.2.2.2 := h.2.2.2.2.2.2.2.1
  rw [f_X1_goesOn_56]
  simp only [gt_self, gd_t, lp_some, st_d, nm_d, on_none, on_some, cl_some, mI_mk, mX_mk, setI_mk, u2_row, rowS_s, rowU_s, xT0 hS, xP0_0 hS, xP0_1 hS, xP0_2 hS, xP0_3 hS, xP0_4 hS, xP0_5 hS, xP0_6 hS, xP0_7 hS, xP0_8 hS, xT73 hS, xP73_0 hS, xT74 hS, xL74 hS, xP73_1 hS, xT75 hS, xL75 hS, xP73_2 hS, xT76 hS, xL76 hS, xP73_3 hS, xT77 hS, xL77 hS, xT78 hS, xP78_0 hS, xT79 hS, xL79 hS, xT80 hS, xP80_0 hS, xP80_2 hS, xT81 hS, xL81 hS, xT82 hS, xL82 hS, xT83 hS, xL83 hS, xT84 hS, xL84 hS, xT85 hS, xL85 hS]
  rw [h5, if_neg (nI_neNO (by omega)), h8, pk_sub (by omega)]
  unfold stepP
  cases hw : s.2.2.2.2.2 with
  | false =>
    rw [if_pos (show bI false = 0 from rfl), if_neg Bool.false_ne_true]
    have hc := Xcloses (X := X) (S := S) hS h hv hp hw
    have hj := Xjoins (X := X) (S := S) hS h hv hp hw (B a)
    by_cases e : B a = 41
    · rw [if_pos e]
      obtain ⟨t3, v3⟩ := hSg (by rw [e]; decide) (by rw [e]; decide)
      rw [e] at v3
      refine XOut.gd ?_
      by_cases e2 : 0 < s.2.2.1
      · rw [if_pos e2] at hc
        rw [if_pos ⟨t3, v3, e2⟩]; exact hc
      · rw [if_neg e2] at hc
        rw [if_neg (fun q => e2 q.2.2), if_neg (fun q => q.2.1 (by rw [v3]; decide))]; exact hc
    · rw [if_neg e]
      refine XOut.gd ?_
      by_cases l : isLt (B a) = true
      · rw [if_neg (fun q => q.1 (sg_lt (Or.inl l)))] at hj
        have := (hLt l).1
        rw [if_neg (fun q => by omega), if_neg (fun q => by omega)]; exact hj
      · by_cases d : isDg (B a) = true
        · rw [if_neg (fun q => q.1 (sg_lt (Or.inr d)))] at hj
          have ht : t ≠ 3 := by rcases hDg d with q | q <;> omega
          rw [if_neg (fun q => ht q.1), if_neg (fun q => ht q.1)]; exact hj
        · obtain ⟨t3, v3⟩ := hSg (by simpa using l) (by simpa using d)
          rw [if_neg (fun q => e (by rw [← v3]; exact q.2.1)), v3]
          by_cases c : ¬ sgM (B a) = 0 ∧ ¬ (rkM (sgM (B a)) = 3 ∧ bt s.2.2.2.1 s.2.2.1 = true)
          · rw [if_pos c] at hj; rw [if_pos ⟨t3, c⟩]; exact hj
          · rw [if_neg c] at hj; rw [if_neg (fun q => c q.2)]; exact hj
  | true =>
    rw [if_neg (show ¬ bI true = 0 from one_ne), if_pos rfl, XisDg]
    simp only [cl_some, ifB]
    by_cases d : isDg (B a) = true
    · rw [if_pos d]
      rcases hDg d with ⟨t2, v2, h4, x, hx, ex⟩ | ⟨t4, h4⟩
      · rw [if_neg (show ¬ (4 : Int32) < nI (endM B n a - a) from nI_nlt (b := endM B n a - a) (a := 4) h4 (by decide)), if_neg (fun q => by omega), if_neg (fun q => by omega), if_pos t2]
        simp only [gt_self, gd_t, lp_some, st_d, nm_d, on_none, on_some, cl_some, mI_mk, mX_mk, setI_mk, u2_row, rowS_s, rowU_s, xT0 hS, xP0_0 hS, xP0_1 hS, xP0_2 hS, xP0_3 hS, xP0_4 hS, xP0_5 hS, xP0_6 hS, xP0_7 hS, xP0_8 hS, xT73 hS, xP73_0 hS, xT74 hS, xL74 hS, xP73_1 hS, xT75 hS, xL75 hS, xP73_2 hS, xT76 hS, xL76 hS, xP73_3 hS, xT77 hS, xL77 hS, xT78 hS, xP78_0 hS, xT79 hS, xL79 hS, xT80 hS, xP80_0 hS, xP80_2 hS, xT81 hS, xL81 hS, xT82 hS, xL82 hS, xT83 hS, xL83 hS, xT84 hS, xL84 hS, xT85 hS, xL85 hS]
        rw [Xnumber hS hn (by omega) he.2 hB, ← v2]
        simp only [gt_self, gd_t, lp_some, st_d, nm_d, on_none, on_some, cl_some, mI_mk, mX_mk, setI_mk, u2_row, rowS_s, rowU_s, xT0 hS, xP0_0 hS, xP0_1 hS, xP0_2 hS, xP0_3 hS, xP0_4 hS, xP0_5 hS, xP0_6 hS, xP0_7 hS, xP0_8 hS, xT73 hS, xP73_0 hS, xT74 hS, xL74 hS, xP73_1 hS, xT75 hS, xL75 hS, xP73_2 hS, xT76 hS, xL76 hS, xP73_3 hS, xT77 hS, xL77 hS, xT78 hS, xP78_0 hS, xT79 hS, xL79 hS, xT80 hS, xP80_0 hS, xP80_2 hS, xT81 hS, xL81 hS, xT82 hS, xL82 hS, xT83 hS, xL83 hS, xT84 hS, xL84 hS, xT85 hS, xL85 hS]
        obtain ⟨g1, g2⟩ := okG_small (by omega) ex
        obtain ⟨I', q1, q2, q3⟩ := XisPiece (X := X) (S := S) hS h hv hp g1 g2
        rw [q1]
        exact XOut.if (o := some _) ⟨I', rfl, q2, q3⟩
      · rw [if_pos (show (4 : Int32) < nI (endM B n a - a) from nI_lt (a := 4) h4 (by omega)), if_neg (fun q => by omega), if_neg (fun q => by omega), if_neg (by omega), if_neg (fun q => by omega)]
        exact XOut.no rfl
    · rw [if_neg d, XisLt]
      simp only [cl_some, ifB]
      by_cases l : isLt (B a) = true
      · rw [if_pos l]
        obtain ⟨t1, v1⟩ := hLt l
        simp only [gt_self, gd_t, lp_some, st_d, nm_d, on_none, on_some, cl_some, mI_mk, mX_mk, setI_mk, u2_row, rowS_s, rowU_s, xT0 hS, xP0_0 hS, xP0_1 hS, xP0_2 hS, xP0_3 hS, xP0_4 hS, xP0_5 hS, xP0_6 hS, xP0_7 hS, xP0_8 hS, xT73 hS, xP73_0 hS, xT74 hS, xL74 hS, xP73_1 hS, xT75 hS, xL75 hS, xP73_2 hS, xT76 hS, xL76 hS, xP73_3 hS, xT77 hS, xL77 hS, xT78 hS, xP78_0 hS, xT79 hS, xL79 hS, xT80 hS, xP80_0 hS, xP80_2 hS, xT81 hS, xL81 hS, xT82 hS, xL82 hS, xT83 hS, xL83 hS, xT84 hS, xL84 hS, xT85 hS, xL85 hS]
        rw [Xnames hS hk h5]
        simp only [gt_self, gd_t, lp_some, st_d, nm_d, on_none, on_some, cl_some, mI_mk, mX_mk, setI_mk, u2_row, rowS_s, rowU_s, xT0 hS, xP0_0 hS, xP0_1 hS, xP0_2 hS, xP0_3 hS, xP0_4 hS, xP0_5 hS, xP0_6 hS, xP0_7 hS, xP0_8 hS, xT73 hS, xP73_0 hS, xT74 hS, xL74 hS, xP73_1 hS, xT75 hS, xL75 hS, xP73_2 hS, xT76 hS, xL76 hS, xP73_3 hS, xT77 hS, xL77 hS, xT78 hS, xP78_0 hS, xT79 hS, xL79 hS, xT80 hS, xP80_0 hS, xP80_2 hS, xT81 hS, xL81 hS, xT82 hS, xL82 hS, xT83 hS, xL83 hS, xT84 hS, xL84 hS, xT85 hS, xL85 hS]
        rw [gd_ok (decide_eq_true (show 3 + key < 6 by omega)), Xidx _ hk l, if_neg (fun q => by omega), if_neg (fun q => by omega), if_neg (by omega), v1]
        simp only [gt_self, gd_t, lp_some, st_d, nm_d, on_none, on_some, cl_some, mI_mk, mX_mk, setI_mk, u2_row, rowS_s, rowU_s, xT0 hS, xP0_0 hS, xP0_1 hS, xP0_2 hS, xP0_3 hS, xP0_4 hS, xP0_5 hS, xP0_6 hS, xP0_7 hS, xP0_8 hS, xT73 hS, xP73_0 hS, xT74 hS, xL74 hS, xP73_1 hS, xT75 hS, xL75 hS, xP73_2 hS, xT76 hS, xL76 hS, xP73_3 hS, xT77 hS, xL77 hS, xT78 hS, xP78_0 hS, xT79 hS, xL79 hS, xT80 hS, xP80_0 hS, xP80_2 hS, xT81 hS, xL81 hS, xT82 hS, xL82 hS, xT83 hS, xL83 hS, xT84 hS, xL84 hS, xT85 hS, xL85 hS]
        by_cases e : endM B n a - a = 1
        · rw [if_pos (show nI (endM B n a - a) = 1 by rw [e]; rfl)]
          by_cases e2 : nmM key (B a) < 0
          · rw [if_pos e2, if_neg (fun q => q.2.2 e2)]
            exact XOut.no rfl
          · rw [if_neg e2, if_pos ⟨t1, e, e2⟩]
            obtain ⟨i, hi, ei⟩ := nm_of hk e2
            have h3 : nnK key ≤ 3 := by unfold nnK; split <;> omega
            obtain ⟨g1, g2⟩ := okG_small (u := 10000 + nmM key (B a)) (x := 10000 + i) (by omega) (by rw [ei]; exact nI_add 10000 i)
            obtain ⟨I', q1, q2, q3⟩ := XisPiece (X := X) (S := S) hS h hv hp g1 g2
            rw [q1]
            exact XOut.if (o := some _) ⟨I', rfl, q2, q3⟩
        · rw [if_neg (show ¬ nI (endM B n a - a) = 1 from fun q => e ((nI_eq (b := 1) (by omega) (by decide)).mp q)), if_neg (fun q => e q.2.1)]
          exact XOut.no rfl
      · rw [if_neg l]
        obtain ⟨t3, v3⟩ := hSg (by simpa using l) (by simpa using d)
        rw [v3]
        have ho := Xopens (X := X) (S := S) hS h hv hp hw
        have hg := Xnegates (X := X) (S := S) hS h hv hp hw
        have rest : ∀ {α : Type} (x y z : α), (if t = 2 then x else if t = 1 ∧ endM B n a - a = 1 ∧ ¬ nmM key (B a) < 0 then y else z) = z := fun x y z => by rw [if_neg (by omega), if_neg (fun q => by omega)]
        rw [rest]
        by_cases e : B a = 40
        · rw [if_pos e, if_neg (fun q => absurd (e.symm.trans q.2.1) (by decide))]
          simp only [gt_self, gd_t, lp_some, st_d, nm_d, on_none, on_some, cl_some, mI_mk, mX_mk, setI_mk, u2_row, rowS_s, rowU_s, xT0 hS, xP0_0 hS, xP0_1 hS, xP0_2 hS, xP0_3 hS, xP0_4 hS, xP0_5 hS, xP0_6 hS, xP0_7 hS, xP0_8 hS, xT73 hS, xP73_0 hS, xT74 hS, xL74 hS, xP73_1 hS, xT75 hS, xL75 hS, xP73_2 hS, xT76 hS, xL76 hS, xP73_3 hS, xT77 hS, xL77 hS, xT78 hS, xP78_0 hS, xT79 hS, xL79 hS, xT80 hS, xP80_0 hS, xP80_2 hS, xT81 hS, xL81 hS, xT82 hS, xL82 hS, xT83 hS, xL83 hS, xT84 hS, xL84 hS, xT85 hS, xL85 hS]
          refine XOut.gd ?_
          by_cases e2 : s.2.2.1 < 8
          · rw [if_pos e2] at ho; rw [if_pos ⟨t3, e, e2⟩]; exact ho
          · rw [if_neg e2] at ho; rw [if_neg (fun q => e2 q.2.2)]; exact ho
        · rw [if_neg e]
          by_cases e3 : B a = 33
          · rw [if_pos e3]
            simp only [gt_self, gd_t, lp_some, st_d, nm_d, on_none, on_some, cl_some, mI_mk, mX_mk, setI_mk, u2_row, rowS_s, rowU_s, xT0 hS, xP0_0 hS, xP0_1 hS, xP0_2 hS, xP0_3 hS, xP0_4 hS, xP0_5 hS, xP0_6 hS, xP0_7 hS, xP0_8 hS, xT73 hS, xP73_0 hS, xT74 hS, xL74 hS, xP73_1 hS, xT75 hS, xL75 hS, xP73_2 hS, xT76 hS, xL76 hS, xP73_3 hS, xT77 hS, xL77 hS, xT78 hS, xP78_0 hS, xT79 hS, xL79 hS, xT80 hS, xP80_0 hS, xP80_2 hS, xT81 hS, xL81 hS, xT82 hS, xL82 hS, xT83 hS, xL83 hS, xT84 hS, xL84 hS, xT85 hS, xL85 hS]
            refine XOut.if ?_
            by_cases e2 : cN s.2.1 < 8
            · rw [if_pos e2] at hg; rw [if_pos ⟨t3, e3, e2⟩]; exact hg
            · rw [if_neg e2] at hg; rw [if_neg (fun q => e2 q.2.2), if_neg (fun q => e q.2.1)]; exact hg
          · rw [if_neg e3, if_neg (fun q => e3 q.2.1), if_neg (fun q => e q.2.1)]
            exact XOut.no rfl
theorem XgoesOn (hS : LaS S) {B : Nat → Int32} {n a : Nat} (hn : n ≤ 96) (ha : a < n) (hB : ∀ k, k < n → I 79 k = B k) (h : XR I key e0 s) (hk : key < 3) (hv : PV (nnK key) p s) (hp : p ≤ 96) : XOut X S I key (tokE B n e0 a) (stepP key (tokT B n e0 a) (tokV B n a) (endM B n a - a) s) (f_X1_goesOn (I, X, S) 80 78 (nI a) (nI (endM B n a))) := by
  have h6 : I 80 6 = e0 := h.2.2.2.2.2.2.1
  have na : ¬ n ≤ a := by omega
  have close : ∀ len, stepP key 4 (tokV B n a) len s = none := fun len => by
    unfold stepP
    by_cases w : s.2.2.2.2.2 = true
    · rw [if_pos w, if_neg (fun q => by omega), if_neg (fun q => by omega), if_neg (by omega), if_neg (fun q => by omega)]
    · rw [if_neg w, if_neg (fun q => by omega), if_neg (fun q => by omega)]
  rw [f_X1_goesOn]
  simp only [gt_self, gd_t, lp_some, st_d, nm_d, on_none, on_some, cl_some, mI_mk, mX_mk, setI_mk, u2_row, rowS_s, rowU_s, xT0 hS, xP0_0 hS, xP0_1 hS, xP0_2 hS, xP0_3 hS, xP0_4 hS, xP0_5 hS, xP0_6 hS, xP0_7 hS, xP0_8 hS, xT73 hS, xP73_0 hS, xT74 hS, xL74 hS, xP73_1 hS, xT75 hS, xL75 hS, xP73_2 hS, xT76 hS, xL76 hS, xP73_3 hS, xT77 hS, xL77 hS, xT78 hS, xP78_0 hS, xT79 hS, xL79 hS, xT80 hS, xP80_0 hS, xP80_2 hS, xT81 hS, xL81 hS, xT82 hS, xL82 hS, xT83 hS, xL83 hS, xT84 hS, xL84 hS, xT85 hS, xL85 hS]
  rw [gd_ok (ib_nI (by omega) (by decide)), nI_clamp (by omega), hB a ha, XisLt]
  simp only [cl_some, ifB]
  have word : (isLt (B a) = true ∨ isDg (B a) = true) → XOut X S I key (tokE B n e0 a) (stepP key (tokT B n e0 a) (tokV B n a) (endM B n a - a) s) (f_X1_goesOn_29 (I, X, S) 80 78 (nI a) (nI (endM B n a)) (B a) 1) := by
    intro hwd
    rw [f_X1_goesOn_29, if_neg one_ne]
    simp only [gt_self, gd_t, lp_some, st_d, nm_d, on_none, on_some, cl_some, mI_mk, mX_mk, setI_mk, u2_row, rowS_s, rowU_s, xT0 hS, xP0_0 hS, xP0_1 hS, xP0_2 hS, xP0_3 hS, xP0_4 hS, xP0_5 hS, xP0_6 hS, xP0_7 hS, xP0_8 hS, xT73 hS, xP73_0 hS, xT74 hS, xL74 hS, xP73_1 hS, xT75 hS, xL75 hS, xP73_2 hS, xT76 hS, xL76 hS, xP73_3 hS, xT77 hS, xL77 hS, xT78 hS, xP78_0 hS, xT79 hS, xL79 hS, xT80 hS, xP80_0 hS, xP80_2 hS, xT81 hS, xL81 hS, xT82 hS, xL82 hS, xT83 hS, xL83 hS, xT84 hS, xL84 hS, xT85 hS, xL85 hS]
    rw [h6]
    have hE : tokE B n e0 a = nI (endM B n a) := by
      unfold tokE
      rw [if_neg na]
      by_cases l : isLt (B a) = true
      · rw [if_pos l]
      · rw [if_neg l, if_pos (hwd.elim (fun q => absurd q l) (fun q => q))]
    by_cases e : nI a = e0
    · rw [if_pos e]
      have hT : tokT B n e0 a = 4 := by
        unfold tokT
        rw [if_neg na]
        by_cases l : isLt (B a) = true
        · rw [if_pos l, if_pos e]
        · rw [if_neg l, if_pos (hwd.elim (fun q => absurd q l) (fun q => q)), if_pos e]
      rw [hT, close]
      exact XOut.no rfl
    · rw [if_neg e, f_X1_goesOn_46, if_neg one_ne]
      simp only [gt_self, gd_t, lp_some, st_d, nm_d, on_none, on_some, cl_some, mI_mk, mX_mk, setI_mk, u2_row, rowS_s, rowU_s, xT0 hS, xP0_0 hS, xP0_1 hS, xP0_2 hS, xP0_3 hS, xP0_4 hS, xP0_5 hS, xP0_6 hS, xP0_7 hS, xP0_8 hS, xT73 hS, xP73_0 hS, xT74 hS, xL74 hS, xP73_1 hS, xT75 hS, xL75 hS, xP73_2 hS, xT76 hS, xL76 hS, xP73_3 hS, xT77 hS, xL77 hS, xT78 hS, xP78_0 hS, xT79 hS, xL79 hS, xT80 hS, xP80_0 hS, xP80_2 hS, xT81 hS, xL81 hS, xT82 hS, xL82 hS, xT83 hS, xL83 hS, xT84 hS, xL84 hS, xT85 hS, xL85 hS]
      rw [hE]
      have hfx : FX I (rowS I 80 (rowU (I 80) 6 (nI (endM B n a)))) := fun x x1 _ _ => rowS_n x1
      obtain ⟨h1, h2, h3, h4, h5, h6, h7, h8, h9, h10, h11⟩ := h
      refine XOut.fx hfx (Xgo56 hS hn ha (fun k hk => by rw [rowS_n (by decide)]; exact hB k hk) (s := s) (p := p) ⟨by rw [rowS_s, rowU_n (by decide)]; exact h1, fun k hk => by rw [rowS_n (by decide)]; exact h2 k hk, by rw [rowS_s, rowU_n (by decide)]; exact h3, by rw [rowS_n (by decide)]; exact h4, by rw [rowS_s, rowU_n (by decide)]; exact h5, by rw [rowS_s, rowU_n (by decide)]; exact h6, by rw [rowS_s, rowU_s], by rw [rowS_s, rowU_n (by decide)]; exact h8, by rw [rowS_s, rowU_n (by decide)]; exact h9, by rw [rowS_s, rowU_n (by decide)]; exact h10, by rw [rowS_s, rowU_n (by decide)]; exact h11⟩ hk hv hp (fun l => ?_) (fun d => ?_) (fun l d => ?_))
      · unfold tokT tokV
        rw [if_neg na, if_pos l, if_neg e, if_neg (fun q => by rw [dg_lt q] at l; exact nomatch l)]
        exact ⟨rfl, rfl⟩
      · have l : ¬ isLt (B a) = true := by rw [dg_lt d]; exact Bool.false_ne_true
        by_cases z : 4 < endM B n a - a
        · right
          refine ⟨?_, z⟩
          unfold tokT
          rw [if_neg na, if_neg l, if_pos d, if_neg e, if_pos z]
        · left
          have hT : tokT B n e0 a = 2 := by
            unfold tokT
            rw [if_neg na, if_neg l, if_pos d, if_neg e, if_neg z]
          obtain ⟨_, _, _, q4, q5⟩ := tok2 hT
          refine ⟨hT, ?_, q4, q5⟩
          unfold tokV
          rw [if_pos d]
      · rcases hwd with q | q
        · rw [l] at q; exact nomatch q
        · rw [d] at q; exact nomatch q
  by_cases l : isLt (B a) = true
  · rw [if_pos l]; exact word (Or.inl l)
  · rw [if_neg l, XisDg]
    simp only [cl_some, ifB]
    by_cases d : isDg (B a) = true
    · rw [if_pos d]; exact word (Or.inr d)
    · rw [if_neg d, f_X1_goesOn_29, if_pos rfl, f_X1_goesOn_46, if_pos rfl]
      have hE : tokE B n e0 a = e0 := by unfold tokE; rw [if_neg na, if_neg l, if_neg d]
      rw [hE]
      refine Xgo56 hS hn ha hB h hk hv hp (fun q => absurd q l) (fun q => absurd q d) (fun _ _ => ?_)
      unfold tokT tokV
      rw [if_neg na, if_neg l, if_neg d, if_neg d]
      exact ⟨rfl, rfl⟩
end XGo
