/-! THE TAPE -/
def byB (x : Int32) (n : Nat) : Int32 := (ushr x (nI n)) &&& 255
theorem and255 (x : Int32) : ∃ b, b < 256 ∧ x &&& 255 = nI b := by
  refine ⟨(x &&& 255).toBitVec.toNat, ?_, ?_⟩
  · rw [Int32.toBitVec_and, BitVec.toNat_and]
    exact Nat.lt_of_le_of_lt Nat.and_le_right (by decide)
  · apply Int32.toBitVec_inj.mp
    apply BitVec.eq_of_toNat_eq
    have : (x &&& 255).toBitVec.toNat < 256 := by
      rw [Int32.toBitVec_and, BitVec.toNat_and]
      exact Nat.lt_of_le_of_lt Nat.and_le_right (by decide)
    rw [pk_tn (by omega)]
theorem by_s (x : Int32) {n : Nat} (hn : n ≤ 24) : (x >>> (nI n &&& 31)) &&& 255 = byB x n := by
  apply b_ext
  intro i hi
  unfold byB ushr
  rw [b_and, b_and, b_255, b_ushr n (by omega), b_sshr n (by omega) x hi]
  by_cases h : i < 8
  · rw [if_pos (show n + i < 32 by omega)]
  · rw [decide_eq_false h, Bool.and_false, Bool.and_false]
def AG (r q : Nat → Int32) (n : Nat) : Prop := ∀ k, k < n → r k = q k ∧ ∃ b, b < 256 ∧ q k = nI b
theorem AG.s {r q : Nat → Int32} {n : Nat} (h : AG r q n) (x : Int32) (m : Nat) : AG (rowU r n (byB x m)) (rowU q n (byB x m)) (n + 1) := by
  intro k hk
  by_cases e : k = n
  · rw [e, rowU_s, rowU_s]; exact ⟨rfl, and255 _⟩
  · rw [rowU_n e, rowU_n e]; exact h k (by omega)
def put4 (r : Nat → Int32) (n : Nat) (x : Int32) : Nat → Int32 := rowU (rowU (rowU (rowU r n (byB x 24)) (n + 1) (byB x 16)) (n + 2) (byB x 8)) (n + 3) (byB x 0)
theorem AG.put {r q : Nat → Int32} {n : Nat} (h : AG r q n) (x : Int32) : AG (put4 r n x) (put4 q n x) (n + 4) := (((h.s x 24).s x 16).s x 8).s x 0
section Tape
variable {I : Nat → Nat → Int32} {X : Nat → Nat → Option Nat} {S : Sta} {J : Nat → Nat → Int32} {nc ns nt : Nat}
theorem XputS (hS : LaS S) {n : Nat} (h1 : I 78 1 = nI n) (hn : n < 96) (fu : Nat) (x : Int32) (s : Nat) (hs : s < 100) (y : Int32) (hy : nI s + (-8) = y) : f_X6_put_3 (fu + 1) (I, X, S) 78 x (nI s) = f_X6_put_3 fu (rowS (rowS I 79 (rowU (I 79) n (byB x s))) 78 (rowU (I 78) 1 (nI (n + 1))), X, S) 78 x y := by
  rw [f_X6_put_3, if_neg (nI_pos (by omega))]
  simp only [gt_self, gd_t, lp_some, st_d, nm_d, on_none, on_some, cl_some, mI_mk, mX_mk, setI_mk, u2_row, rowS_s, rowU_s, xT0 hS, xP0_0 hS, xP0_1 hS, xP0_2 hS, xP0_3 hS, xP0_4 hS, xP0_5 hS, xP0_6 hS, xP0_7 hS, xP0_8 hS, xT73 hS, xP73_0 hS, xT74 hS, xL74 hS, xP73_1 hS, xT75 hS, xL75 hS, xP73_2 hS, xT76 hS, xL76 hS, xP73_3 hS, xT77 hS, xL77 hS, xT78 hS, xP78_0 hS, xT79 hS, xL79 hS, xT80 hS, xP80_0 hS, xP80_2 hS, xT81 hS, xL81 hS, xT82 hS, xL82 hS, xT83 hS, xL83 hS, xT84 hS, xL84 hS, xT85 hS, xL85 hS]
  rw [h1, if_neg (show ¬ (96 : Int32) ≤ nI n from nI_ge (b := 96) hn (by decide)), gd_ok (ib_nI hn (by decide)), nI_clamp (by omega), rowS_n (show (78 : Nat) ≠ 79 by decide), h1, nI_1, hy]
  rfl
theorem Xput (hS : LaS S) {n : Nat} (h1 : I 78 1 = nI n) (hn : n + 4 ≤ 96) (x : Int32) : ∃ I', f_X6_put (I, X, S) 78 x = some ((), (I', X, S)) ∧ I' 79 = put4 (I 79) n x ∧ I' 78 1 = nI (n + 4) ∧ ∀ a, a ≠ 78 → a ≠ 79 → I' a = I a := by
  rw [f_X6_put, show FU = 3995 + 1 + 1 + 1 + 1 + 1 from rfl, show (24 : Int32) = nI 24 from rfl]
  rw [XputS hS h1 (by omega) _ x 24 (by decide) (nI 16) (by decide)]
  rw [XputS (n := n + 1) hS (by rw [rowS_s, rowU_s]) (by omega) _ x 16 (by decide) (nI 8) (by decide)]
  rw [XputS (n := n + 2) hS (by rw [rowS_s, rowU_s]) (by omega) _ x 8 (by decide) (nI 0) (by decide)]
  rw [XputS (n := n + 3) hS (by rw [rowS_s, rowU_s]) (by omega) _ x 0 (by decide) (-8) (by decide)]
  rw [f_X6_put_3, if_pos (show (-8 : Int32) < 0 by decide)]
  refine ⟨_, rfl, ?_, by rw [rowS_s, rowU_s], fun a h1 h2 => by rw [rowS_n h1, rowS_n h2, rowS_n h1, rowS_n h2, rowS_n h1, rowS_n h2, rowS_n h1, rowS_n h2]⟩
  simp only [rowS_s, rowS_n (show (79 : Nat) ≠ 78 by decide)]
  rfl
theorem sh12 : ∀ k, k < 12 → (24 : Int32) - 8 * irm (nI k) 4 = nI (24 - 8 * (k % 4)) := by decide +kernel
theorem RfeedS {n k : Nat} (h1 : J 0 10 = nI n) (hn : n + 12 ≤ 96) (hk : k < 12) (K : Mem → Nat → Int32 → Int32 → Int32 → Int32 → Option (Int32 × Mem)) (a b c x : Int32) : f_X10_feed_47 K (J, YZ) 0 a b c (nI k) x = K (rowS J 8 (rowU (J 8) (n + k) (byB x (24 - 8 * (k % 4)))), YZ) 0 a b c (nI (k + 1)) := by
  rw [f_X10_feed_47, sh12 k hk, by_s x (by omega)]
  simp only [gt_self, gd_t, lp_some, st_d, nm_d, on_none, on_some, cl_some, mI_mk, mX_mk, setI_mk, u2_row, rowS_s, rowU_s, yT0, yP0, yT1, yL1, yP1, yT2, yL2, yP2, yT3, yL3, yP5, yT4, yL4, yP6, yT5, yL5, yP7, yT6, yL6, yP8, yT7, yL7, yP9, yT8, yL8, yP17, yT9, yL9, yP18, yT10, yL10, yP19, yT11, yL11, yP22, yT12, yL12, yP24, yT13, yL13, yP25, yT14, yL14, yP26, yT15, yL15, yP27, yT16, yL16, yP28, yT17, yL17, yP29, yT18, yL18, yP30, yT19, yL19, yP31, yT20, yL20, yP32, yT21, yL21, yP33, yT22, yL22, yP34, yT23, yL23, yP35, yT24, yL24]
  rw [h1, nI_add, gd_ok (ib_nI (by omega) (by decide)), nI_clamp (by omega), nI_1]
theorem Rfeed {n : Nat} (h1 : J 0 10 = nI n) (hn : n + 12 ≤ 96) (a b c : Int32) : ∃ J', f_X10_feed (J, YZ) 0 a b c = some (nI (n + 12), (J', YZ)) ∧ J' 8 = put4 (put4 (put4 (J 8) n a) (n + 4) b) (n + 4 + 4) c ∧ J' 0 = rowU (J 0) 10 (nI (n + 12)) ∧ ∀ x, x ≠ 0 → x ≠ 8 → J' x = J x := by
  rw [f_X10_feed]
  simp only [gt_self, gd_t, lp_some, st_d, nm_d, on_none, on_some, cl_some, mI_mk, mX_mk, setI_mk, u2_row, rowS_s, rowU_s, yT0, yP0, yT1, yL1, yP1, yT2, yL2, yP2, yT3, yL3, yP5, yT4, yL4, yP6, yT5, yL5, yP7, yT6, yL6, yP8, yT7, yL7, yP9, yT8, yL8, yP17, yT9, yL9, yP18, yT10, yL10, yP19, yT11, yL11, yP22, yT12, yL12, yP24, yT13, yL13, yP25, yT14, yL14, yP26, yT15, yL15, yP27, yT16, yL16, yP28, yT17, yL17, yP29, yT18, yL18, yP30, yT19, yL19, yP31, yT20, yL20, yP32, yT21, yL21, yP33, yT22, yL22, yP34, yT23, yL23, yP35, yT24, yL24]
  rw [h1, show nI n + 12 = nI (n + 12) from nI_add n 12, if_pos (show nI (n + 12) ≤ (96 : Int32) from nI_le (b := 96) hn (by decide)), show FU = 3987 + 1 + 1 + 1 + 1 + 1 + 1 + 1 + 1 + 1 + 1 + 1 + 1 + 1 from rfl, show (0 : Int32) = nI 0 from rfl]
  have st : ∀ (f k : Nat) (J1 : Nat → Nat → Int32) (x : Int32), J1 0 10 = nI n → k < 12 → (x = if k < 4 then a else if k < 8 then b else c) → f_X10_feed_18 (f + 1) (J1, YZ) 0 a b c (nI k) = f_X10_feed_18 f (rowS J1 8 (rowU (J1 8) (n + k) (byB x (24 - 8 * (k % 4)))), YZ) 0 a b c (nI (k + 1)) := by
    intro f k J1 x hJ hk hx
    rw [f_X10_feed_18, if_neg (show ¬ (12 : Int32) ≤ nI k from nI_ge (b := 12) hk (by decide)), RfeedS hJ hn hk, RfeedS hJ hn hk, RfeedS hJ hn hk]
    by_cases e : k < 4
    · rw [if_pos e] at hx
      rw [if_neg (show ¬ (4 : Int32) ≤ nI k from nI_ge (b := 4) e (by decide)), hx]
    · rw [if_neg e] at hx
      rw [if_pos (show (4 : Int32) ≤ nI k from nI_le (a := 4) (by omega) (by omega))]
      by_cases e2 : k < 8
      · rw [if_pos e2] at hx
        rw [if_neg (show ¬ (8 : Int32) ≤ nI k from nI_ge (b := 8) e2 (by decide)), hx]
      · rw [if_neg e2] at hx
        rw [if_pos (show (8 : Int32) ≤ nI k from nI_le (a := 8) (by omega) (by omega)), hx]
  rw [st _ 0 _ a h1 (by decide) rfl]
  rw [st _ 1 _ a (by rw [rowS_n (by decide)]; exact h1) (by decide) rfl, rowS_s, rowS_rowS]
  rw [st _ 2 _ a (by rw [rowS_n (by decide)]; exact h1) (by decide) rfl, rowS_s, rowS_rowS]
  rw [st _ 3 _ a (by rw [rowS_n (by decide)]; exact h1) (by decide) rfl, rowS_s, rowS_rowS]
  rw [st _ 4 _ b (by rw [rowS_n (by decide)]; exact h1) (by decide) rfl, rowS_s, rowS_rowS]
  rw [st _ 5 _ b (by rw [rowS_n (by decide)]; exact h1) (by decide) rfl, rowS_s, rowS_rowS]
  rw [st _ 6 _ b (by rw [rowS_n (by decide)]; exact h1) (by decide) rfl, rowS_s, rowS_rowS]
  rw [st _ 7 _ b (by rw [rowS_n (by decide)]; exact h1) (by decide) rfl, rowS_s, rowS_rowS]
  rw [st _ 8 _ c (by rw [rowS_n (by decide)]; exact h1) (by decide) rfl, rowS_s, rowS_rowS]
  rw [st _ 9 _ c (by rw [rowS_n (by decide)]; exact h1) (by decide) rfl, rowS_s, rowS_rowS]
  rw [st _ 10 _ c (by rw [rowS_n (by decide)]; exact h1) (by decide) rfl, rowS_s, rowS_rowS]
  rw [st _ 11 _ c (by rw [rowS_n (by decide)]; exact h1) (by decide) rfl, rowS_s, rowS_rowS]
  rw [f_X10_feed_18, if_pos (show (12 : Int32) ≤ nI (11 + 1) by decide)]
  simp only [gt_self, gd_t, lp_some, st_d, nm_d, on_none, on_some, cl_some, mI_mk, mX_mk, setI_mk, u2_row, rowS_s, rowU_s, yT0, yP0, yT1, yL1, yP1, yT2, yL2, yP2, yT3, yL3, yP5, yT4, yL4, yP6, yT5, yL5, yP7, yT6, yL6, yP8, yT7, yL7, yP9, yT8, yL8, yP17, yT9, yL9, yP18, yT10, yL10, yP19, yT11, yL11, yP22, yT12, yL12, yP24, yT13, yL13, yP25, yT14, yL14, yP26, yT15, yL15, yP27, yT16, yL16, yP28, yT17, yL17, yP29, yT18, yL18, yP30, yT19, yL19, yP31, yT20, yL20, yP32, yT21, yL21, yP33, yT22, yL22, yP34, yT23, yL23, yP35, yT24, yL24]
  rw [rowS_n (show (0 : Nat) ≠ 8 by decide), h1, show nI n + 12 = nI (n + 12) from nI_add n 12]
  refine ⟨_, rfl, ?_, by rw [rowS_s], fun x h0 h8 => by rw [rowS_n h0, rowS_n h8]⟩
  rw [rowS_n (by decide), rowS_s]
  rfl
theorem op_feed (h : Sm I X S J nc ns nt) (a b c : Int32) : Ok2 (f_X9_feed (I, X, S) 0 a b c) (f_X10_feed (J, YZ) 0 a b c) := by
  have hS := h.rs.la
  obtain ⟨n, t1, t2, t3, t4⟩ := h.rs.tp
  rw [f_X9_feed]
  simp only [gt_self, gd_t, lp_some, st_d, nm_d, on_none, on_some, cl_some, mI_mk, mX_mk, setI_mk, u2_row, rowS_s, rowU_s, xT0 hS, xP0_0 hS, xP0_1 hS, xP0_2 hS, xP0_3 hS, xP0_4 hS, xP0_5 hS, xP0_6 hS, xP0_7 hS, xP0_8 hS, xT73 hS, xP73_0 hS, xT74 hS, xL74 hS, xP73_1 hS, xT75 hS, xL75 hS, xP73_2 hS, xT76 hS, xL76 hS, xP73_3 hS, xT77 hS, xL77 hS, xT78 hS, xP78_0 hS, xT79 hS, xL79 hS, xT80 hS, xP80_0 hS, xP80_2 hS, xT81 hS, xL81 hS, xT82 hS, xL82 hS, xT83 hS, xL83 hS, xT84 hS, xL84 hS, xT85 hS, xL85 hS]
  rw [t2, show nI n + 12 = nI (n + 12) from nI_add n 12]
  by_cases e : n + 12 ≤ 96
  · rw [if_pos (show nI (n + 12) ≤ (96 : Int32) from nI_le (b := 96) e (by decide))]
    obtain ⟨I1, x1, a1, b1, o1⟩ := Xput (X := X) hS t2 (by omega) a
    rw [x1]
    simp only [gt_self, gd_t, lp_some, st_d, nm_d, on_none, on_some, cl_some, mI_mk, mX_mk, setI_mk, u2_row, rowS_s, rowU_s, xT0 hS, xP0_0 hS, xP0_1 hS, xP0_2 hS, xP0_3 hS, xP0_4 hS, xP0_5 hS, xP0_6 hS, xP0_7 hS, xP0_8 hS, xT73 hS, xP73_0 hS, xT74 hS, xL74 hS, xP73_1 hS, xT75 hS, xL75 hS, xP73_2 hS, xT76 hS, xL76 hS, xP73_3 hS, xT77 hS, xL77 hS, xT78 hS, xP78_0 hS, xT79 hS, xL79 hS, xT80 hS, xP80_0 hS, xP80_2 hS, xT81 hS, xL81 hS, xT82 hS, xL82 hS, xT83 hS, xL83 hS, xT84 hS, xL84 hS, xT85 hS, xL85 hS]
    obtain ⟨I2, x2, a2, b2, o2⟩ := Xput (X := X) hS b1 (by omega) b
    rw [x2]
    simp only [gt_self, gd_t, lp_some, st_d, nm_d, on_none, on_some, cl_some, mI_mk, mX_mk, setI_mk, u2_row, rowS_s, rowU_s, xT0 hS, xP0_0 hS, xP0_1 hS, xP0_2 hS, xP0_3 hS, xP0_4 hS, xP0_5 hS, xP0_6 hS, xP0_7 hS, xP0_8 hS, xT73 hS, xP73_0 hS, xT74 hS, xL74 hS, xP73_1 hS, xT75 hS, xL75 hS, xP73_2 hS, xT76 hS, xL76 hS, xP73_3 hS, xT77 hS, xL77 hS, xT78 hS, xP78_0 hS, xT79 hS, xL79 hS, xT80 hS, xP80_0 hS, xP80_2 hS, xT81 hS, xL81 hS, xT82 hS, xL82 hS, xT83 hS, xL83 hS, xT84 hS, xL84 hS, xT85 hS, xL85 hS]
    obtain ⟨I3, x3, a3, b3, o3⟩ := Xput (X := X) hS b2 (by omega) c
    rw [x3]
    simp only [gt_self, gd_t, lp_some, st_d, nm_d, on_none, on_some, cl_some, mI_mk, mX_mk, setI_mk, u2_row, rowS_s, rowU_s, xT0 hS, xP0_0 hS, xP0_1 hS, xP0_2 hS, xP0_3 hS, xP0_4 hS, xP0_5 hS, xP0_6 hS, xP0_7 hS, xP0_8 hS, xT73 hS, xP73_0 hS, xT74 hS, xL74 hS, xP73_1 hS, xT75 hS, xL75 hS, xP73_2 hS, xT76 hS, xL76 hS, xP73_3 hS, xT77 hS, xL77 hS, xT78 hS, xP78_0 hS, xT79 hS, xL79 hS, xT80 hS, xP80_0 hS, xP80_2 hS, xT81 hS, xL81 hS, xT82 hS, xL82 hS, xT83 hS, xL83 hS, xT84 hS, xL84 hS, xT85 hS, xL85 hS]
    obtain ⟨J1, z1, j8, j0, jo⟩ := Rfeed t3 e a b c
    rw [z1, b3]
    have oI : ∀ x, x ≠ 78 → x ≠ 79 → I3 x = I x := fun x h1 h2 => (o3 x h1 h2).trans ((o2 x h1 h2).trans (o1 x h1 h2))
    have hA : AG (I3 79) (J1 8) (n + 4 + 4 + 4) := by
      rw [a3, a2, a1, j8]
      exact ((AG.put (show AG (I 79) (J 8) n from t4) a).put b).put c
    refine .mk (nc := nc) (ns := ns) (nt := nt) ⟨h.w.same (fun x hx => by unfold ownW at hx; exact oI x (by omega) (by omega)) rfl (jo 1 (by decide) (by decide)), hS, h.rs.im.same (fun x hx => by unfold ownW at hx; exact oI x (by omega) (by omega)) rfl (by rw [oI 0 (by decide) (by decide)]) (by rw [j0, rowU_n (by decide)]) (jo 2 (by decide) (by decide)), ?_, by rw [jo 9 (by decide) (by decide)]; exact h.rs.k9, by rw [jo 10 (by decide) (by decide)]; exact h.rs.k10, ⟨n + 12, e, b3, by rw [j0, rowU_s], hA⟩, h.rs.wt.same (by rw [oI 0 (by decide) (by decide)]) (oI 85 (by decide) (by decide)) (by rw [j0, rowU_n (by decide)]) (jo 24 (by decide) (by decide)), fun k hk => (h.rs.sh k hk).same (oI _ (by omega) (by omega)) (oI _ (by omega) (by omega)) (fun x h1 h2 => jo x (by omega) (by omega)), fun k hk => (h.rs.sl k hk).same (fun x h1 h2 => oI x (by omega) (by omega)) (fun x h1 h2 => jo x (by omega) (by omega))⟩
    unfold spNo; rw [j0, rowU_n (by decide)]; exact h.rs.no
  · rw [if_neg (show ¬ nI (n + 12) ≤ (96 : Int32) from nI_ge (a := 96) (by omega) (by omega)), f_X10_feed]
    simp only [gt_self, gd_t, lp_some, st_d, nm_d, on_none, on_some, cl_some, mI_mk, mX_mk, setI_mk, u2_row, rowS_s, rowU_s, yT0, yP0, yT1, yL1, yP1, yT2, yL2, yP2, yT3, yL3, yP5, yT4, yL4, yP6, yT5, yL5, yP7, yT6, yL6, yP8, yT7, yL7, yP9, yT8, yL8, yP17, yT9, yL9, yP18, yT10, yL10, yP19, yT11, yL11, yP22, yT12, yL12, yP24, yT13, yL13, yP25, yT14, yL14, yP26, yT15, yL15, yP27, yT16, yL16, yP28, yT17, yL17, yP29, yT18, yL18, yP30, yT19, yL19, yP31, yT20, yL20, yP32, yT21, yL21, yP33, yT22, yL22, yP34, yT23, yL23, yP35, yT24, yL24]
    rw [t3, show nI n + 12 = nI (n + 12) from nI_add n 12, if_neg (show ¬ nI (n + 12) ≤ (96 : Int32) from nI_ge (a := 96) (by omega) (by omega))]
    exact .mk h
theorem op_trim (h : Sm I X S J nc ns nt) (a : Int32) : Ok2 (f_X9_trim (I, X, S) 0 a) (f_X10_trim (J, YZ) 0 a) := by
  have hS := h.rs.la
  obtain ⟨n, t1, t2, t3, t4⟩ := h.rs.tp
  rw [f_X9_trim, f_X10_trim]
  simp only [gt_self, gd_t, lp_some, st_d, nm_d, on_none, on_some, cl_some, mI_mk, mX_mk, setI_mk, u2_row, rowS_s, rowU_s, xT0 hS, xP0_0 hS, xP0_1 hS, xP0_2 hS, xP0_3 hS, xP0_4 hS, xP0_5 hS, xP0_6 hS, xP0_7 hS, xP0_8 hS, xT73 hS, xP73_0 hS, xT74 hS, xL74 hS, xP73_1 hS, xT75 hS, xL75 hS, xP73_2 hS, xT76 hS, xL76 hS, xP73_3 hS, xT77 hS, xL77 hS, xT78 hS, xP78_0 hS, xT79 hS, xL79 hS, xT80 hS, xP80_0 hS, xP80_2 hS, xT81 hS, xL81 hS, xT82 hS, xL82 hS, xT83 hS, xL83 hS, xT84 hS, xL84 hS, xT85 hS, xL85 hS, yT0, yP0, yT1, yL1, yP1, yT2, yL2, yP2, yT3, yL3, yP5, yT4, yL4, yP6, yT5, yL5, yP7, yT6, yL6, yP8, yT7, yL7, yP9, yT8, yL8, yP17, yT9, yL9, yP18, yT10, yL10, yP19, yT11, yL11, yP22, yT12, yL12, yP24, yT13, yL13, yP25, yT14, yL14, yP26, yT15, yL15, yP27, yT16, yL16, yP28, yT17, yL17, yP29, yT18, yL18, yP30, yT19, yL19, yP31, yT20, yL20, yP32, yT21, yL21, yP33, yT22, yL22, yP34, yT23, yL23, yP35, yT24, yL24]
  rw [t2, t3, Xin0 _ _ (by omega), Rin0 _ _ (by omega)]
  simp only [gt_self, gd_t, lp_some, st_d, nm_d, on_none, on_some, cl_some, mI_mk, mX_mk, setI_mk, u2_row, rowS_s, rowU_s, xT0 hS, xP0_0 hS, xP0_1 hS, xP0_2 hS, xP0_3 hS, xP0_4 hS, xP0_5 hS, xP0_6 hS, xP0_7 hS, xP0_8 hS, xT73 hS, xP73_0 hS, xT74 hS, xL74 hS, xP73_1 hS, xT75 hS, xL75 hS, xP73_2 hS, xT76 hS, xL76 hS, xP73_3 hS, xT77 hS, xL77 hS, xT78 hS, xP78_0 hS, xT79 hS, xL79 hS, xT80 hS, xP80_0 hS, xP80_2 hS, xT81 hS, xL81 hS, xT82 hS, xL82 hS, xT83 hS, xL83 hS, xT84 hS, xL84 hS, xT85 hS, xL85 hS, yT0, yP0, yT1, yL1, yP1, yT2, yL2, yP2, yT3, yL3, yP5, yT4, yL4, yP6, yT5, yL5, yP7, yT6, yL6, yP8, yT7, yL7, yP9, yT8, yL8, yP17, yT9, yL9, yP18, yT10, yL10, yP19, yT11, yL11, yP22, yT12, yL12, yP24, yT13, yL13, yP25, yT14, yL14, yP26, yT15, yL15, yP27, yT16, yL16, yP28, yT17, yL17, yP29, yT18, yL18, yP30, yT19, yL19, yP31, yT20, yL20, yP32, yT21, yL21, yP33, yT22, yL22, yP34, yT23, yL23, yP35, yT24, yL24, ifB]
  refine Ok2.ite h (fun e1 => ?_)
  obtain ⟨m, hm, rfl⟩ := hasB_t e1 (by omega)
  refine .mk (nc := nc) (ns := ns) (nt := nt) ⟨h.w.same (fun x hx => by unfold ownW at hx; exact rowS_n (by omega)) rfl (rowS_n (by decide)), hS, h.rs.im.same (fun x hx => by unfold ownW at hx; exact rowS_n (by omega)) rfl (by rw [rowS_n (by decide)]) (by rw [rowS_s, rowU_n (by decide)]) (rowS_n (by decide)), ?_, by rw [rowS_n (by decide)]; exact h.rs.k9, by rw [rowS_n (by decide)]; exact h.rs.k10, ⟨m, by omega, by rw [rowS_s, rowU_s], by rw [rowS_s, rowU_s], fun k hk => by rw [rowS_n (by decide), rowS_n (by decide)]; exact t4 k (by omega)⟩, h.rs.wt.same (by rw [rowS_n (by decide)]) (rowS_n (by decide)) (by rw [rowS_s, rowU_n (by decide)]) (rowS_n (by decide)), fun k hk => (h.rs.sh k hk).same (rowS_n (by omega)) (rowS_n (by omega)) (fun x h1 h2 => rowS_n (by omega)), fun k hk => (h.rs.sl k hk).same (fun x h1 h2 => rowS_n (by omega)) (fun x h1 h2 => rowS_n (by omega))⟩
  unfold spNo; rw [rowS_s, rowU_n (by decide)]; exact h.rs.no
end Tape
