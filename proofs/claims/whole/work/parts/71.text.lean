/-! text -/
section OpText
variable {I : Nat → Nat → Int32} {X : Nat → Nat → Option Nat} {S : Sta} {J : Nat → Nat → Int32} {nc ns nt : Nat}
theorem Rtext117 {m t : Nat} (hm : m ≤ 92) (ht : t < 14) : ∀ (d k fu : Nat) (J : Nat → Nat → Int32), k + d = m → d < fu → J 0 20 = nI m →
    ∃ J', f_X10_text_117 fu (J, YZ) 0 (nI t) (nI k) = some (nI t, (J', YZ)) ∧ (∀ i, k ≤ i → i < m → J' 1 (98 + 96 * t + i) = J 11 i) ∧ (∀ j, j ≠ 7 → (j < 98 + 96 * t + k ∨ 98 + 96 * t + 96 ≤ j) → J' 1 j = J 1 j) ∧ J' 1 7 = J 1 7 + 1 ∧ ∀ x, x ≠ 1 → J' x = J x := by
  intro d
  induction d with
  | zero =>
    intro k fu J hk hf h20
    obtain ⟨fu, rfl⟩ : ∃ q, fu = q + 1 := ⟨fu - 1, by omega⟩
    rw [f_X10_text_117]
    simp only [gt_self, gd_t, lp_some, st_d, nm_d, on_none, on_some, cl_some, mI_mk, mX_mk, setI_mk, u2_row, rowS_s, rowU_s, yT0, yP0, yT1, yL1, yP1, yT2, yL2, yP2, yT3, yL3, yP5, yT4, yL4, yP6, yT5, yL5, yP7, yT6, yL6, yP8, yT7, yL7, yP9, yT8, yL8, yP17, yT9, yL9, yP18, yT10, yL10, yP19, yT11, yL11, yP22, yT12, yL12, yP24, yT13, yL13, yP25, yT14, yL14, yP26, yT15, yL15, yP27, yT16, yL16, yP28, yT17, yL17, yP29, yT18, yL18, yP30, yT19, yL19, yP31, yT20, yL20, yP32, yT21, yL21, yP33, yT22, yL22, yP34, yT23, yL23, yP35, yT24, yL24, tn7, il7 (show 7 < 1442 by decide)]
    rw [h20, if_pos (nI_le (show m ≤ k by omega) (by omega))]
    exact ⟨_, rfl, fun i h1 h2 => absurd h2 (by omega), fun j hj _ => by rw [rowS_s, rowU_n hj], by rw [rowS_s, rowU_s], fun x hx => rowS_n hx⟩
  | succ d ih =>
    intro k fu J hk hf h20
    obtain ⟨fu, rfl⟩ : ∃ q, fu = q + 1 := ⟨fu - 1, by omega⟩
    rw [f_X10_text_117]
    simp only [gt_self, gd_t, lp_some, st_d, nm_d, on_none, on_some, cl_some, mI_mk, mX_mk, setI_mk, u2_row, rowS_s, rowU_s, yT0, yP0, yT1, yL1, yP1, yT2, yL2, yP2, yT3, yL3, yP5, yT4, yL4, yP6, yT5, yL5, yP7, yT6, yL6, yP8, yT7, yL7, yP9, yT8, yL8, yP17, yT9, yL9, yP18, yT10, yL10, yP19, yT11, yL11, yP22, yT12, yL12, yP24, yT13, yL13, yP25, yT14, yL14, yP26, yT15, yL15, yP27, yT16, yL16, yP28, yT17, yL17, yP29, yT18, yL18, yP30, yT19, yL19, yP31, yT20, yL20, yP32, yT21, yL21, yP33, yT22, yL22, yP34, yT23, yL23, yP35, yT24, yL24]
    rw [h20, if_neg (nI_ge (show k < m by omega) (by omega)), ix98, gd_ok (ib_nI (by omega) (by decide)), gd_ok (ib_nI (by omega) (by decide)), nI_clamp (by omega), nI_clamp (by omega), nI_1]
    obtain ⟨J', e, z1, z2, z3, z4⟩ := ih (k + 1) fu (rowS J 1 (rowU (J 1) (98 + 96 * t + k) (J 11 k))) (by omega) (by omega) (by rw [rowS_n (by decide)]; exact h20)
    refine ⟨J', e, fun i h1 h2 => ?_, fun j hj h => ?_, ?_, fun x hx => by rw [z4 x hx, rowS_n hx]⟩
    · by_cases q : i = k
      · rw [q, z2 _ (by omega) (Or.inl (by omega)), rowS_s, rowU_s]
      · rw [z1 i (by omega) h2, rowS_n (by decide)]
    · rw [z2 j hj (by omega), rowS_s, rowU_n (by omega)]
    · rw [z3, rowS_s, rowU_n (by omega)]
theorem op_text (h : Sm I X S J nc ns nt) : Ok2 (f_X9_text (I, X, S) 0) (f_X10_text (J, YZ) 0) := by
  have hS := h.rs.la
  obtain ⟨n, hn, t2, t3, t4⟩ := h.rs.tp
  obtain ⟨f, b, I1, J1, e1, e2, fx, fy, r⟩ := faultBoth (I := I) (X := X) (S := S) (J := J) (n := n) hS hn t2 (fun k hk => (t4 k hk).1) t3 h.rs.k9 h.rs.k10
  have h1 := h.tape0 fx fy
  rw [e2, f_X9_text, f_X10_text_33]
  simp only [gt_self, gd_t, lp_some, st_d, nm_d, on_none, on_some, cl_some, mI_mk, mX_mk, setI_mk, u2_row, rowS_s, rowU_s, xT0 hS, xP0_0 hS, xP0_1 hS, xP0_2 hS, xP0_3 hS, xP0_4 hS, xP0_5 hS, xP0_6 hS, xP0_7 hS, xP0_8 hS, xT73 hS, xP73_0 hS, xT74 hS, xL74 hS, xP73_1 hS, xT75 hS, xL75 hS, xP73_2 hS, xT76 hS, xL76 hS, xP73_3 hS, xT77 hS, xL77 hS, xT78 hS, xP78_0 hS, xT79 hS, xL79 hS, xT80 hS, xP80_0 hS, xP80_2 hS, xT81 hS, xL81 hS, xT82 hS, xL82 hS, xT83 hS, xL83 hS, xT84 hS, xL84 hS, xT85 hS, xL85 hS, yT0, yP0, yT1, yL1, yP1, yT2, yL2, yP2, yT3, yL3, yP5, yT4, yL4, yP6, yT5, yL5, yP7, yT6, yL6, yP8, yT7, yL7, yP9, yT8, yL8, yP17, yT9, yL9, yP18, yT10, yL10, yP19, yT11, yL11, yP22, yT12, yL12, yP24, yT13, yL13, yP25, yT14, yL14, yP26, yT15, yL15, yP27, yT16, yL16, yP28, yT17, yL17, yP29, yT18, yL18, yP30, yT19, yL19, yP31, yT20, yL20, yP32, yT21, yL21, yP33, yT22, yL22, yP34, yT23, yL23, yP35, yT24, yL24]
  rw [e1]
  simp only [cl_some, yT0, yP0, yT1, yL1, yP1, yT2, yL2, yP2, yT3, yL3, yP5, yT4, yL4, yP6, yT5, yL5, yP7, yT6, yL6, yP8, yT7, yL7, yP9, yT8, yL8, yP17, yT9, yL9, yP18, yT10, yL10, yP19, yT11, yL11, yP22, yT12, yL12, yP24, yT13, yL13, yP25, yT14, yL14, yP26, yT15, yL15, yP27, yT16, yL16, yP28, yT17, yL17, yP29, yT18, yL18, yP30, yT19, yL19, yP31, yT20, yL20, yP32, yT21, yL21, yP33, yT22, yL22, yP34, yT23, yL23, yP35, yT24, yL24]
  rw [gd_ok (decide_eq_true (show mN (I, X, S) ≤ mN (I1, X, S) from Nat.le_refl _))]
  simp only [gt_self, gd_t, lp_some, st_d, nm_d, on_none, on_some, cl_some, mI_mk, mX_mk, setI_mk, u2_row, rowS_s, rowU_s, xT0 hS, xP0_0 hS, xP0_1 hS, xP0_2 hS, xP0_3 hS, xP0_4 hS, xP0_5 hS, xP0_6 hS, xP0_7 hS, xP0_8 hS, xT73 hS, xP73_0 hS, xT74 hS, xL74 hS, xP73_1 hS, xT75 hS, xL75 hS, xP73_2 hS, xT76 hS, xL76 hS, xP73_3 hS, xT77 hS, xL77 hS, xT78 hS, xP78_0 hS, xT79 hS, xL79 hS, xT80 hS, xP80_0 hS, xP80_2 hS, xT81 hS, xL81 hS, xT82 hS, xL82 hS, xT83 hS, xL83 hS, xT84 hS, xL84 hS, xT85 hS, xL85 hS, yT0, yP0, yT1, yL1, yP1, yT2, yL2, yP2, yT3, yL3, yP5, yT4, yL4, yP6, yT5, yL5, yP7, yT6, yL6, yP8, yT7, yL7, yP9, yT8, yL8, yP17, yT9, yL9, yP18, yT10, yL10, yP19, yT11, yL11, yP22, yT12, yL12, yP24, yT13, yL13, yP25, yT14, yL14, yP26, yT15, yL15, yP27, yT16, yL16, yP28, yT17, yL17, yP29, yT18, yL18, yP30, yT19, yL19, yP31, yT20, yL20, yP32, yT21, yL21, yP33, yT22, yL22, yP34, yT23, yL23, yP35, yT24, yL24, il7 (show 7 < 1442 by decide), tn7]
  have hI2 : ∀ x, x ≠ 78 → rowS I1 78 (rowU (I1 78) 1 0) x = I1 x := fun x hx => rowS_n hx
  have hJ2 : ∀ x, x ≠ 0 → rowS J1 0 (rowU (J1 0) 10 0) x = J1 x := fun x hx => rowS_n hx
  have hJ20 : ∀ j, j ≠ 10 → rowS J1 0 (rowU (J1 0) 10 0) 0 j = J1 0 j := fun j hj => by rw [rowS_s, rowU_n hj]
  have hJ12 : rowU (J1 0) 10 0 12 = J1 0 12 := rowU_n (by decide)
  have hJ16 : rowU (J1 0) 10 0 16 = J1 0 16 := rowU_n (by decide)
  rw [hJ12]
  generalize rowS I1 78 (rowU (I1 78) 1 0) = I2 at h1 hI2 ⊢
  generalize hq : rowS J1 0 (rowU (J1 0) 10 0) = J2 at h1 hJ2 hJ20 ⊢
  rcases r with ⟨rfl, q, hq96, rfl, j12⟩ | ⟨rfl, rfl, key, hk3, m, cd, pc, hm, x1, x2, x4, x5, y20, y11, y16, y21, hok⟩
  · rw [if_neg (nI_pos (by omega)), if_pos rfl, j12]
    exact .mk h1
  rw [if_pos (show (-1 : Int32) < 0 by decide), if_neg one_ne]
  have hw1 : isW 1 := Or.inl rfl
  have hR := h1.w.r
  have hG := h1.w.gn
  have h14 := hG.2.2.2.2.2.1
  have w7 := wP7 (I := I2) (X := X) hS hw1
  have w4 := wT4 (I := I2) (X := X) hS hw1
  simp only [wT hS hw1, w7, w4, lp_some, gt_self]
  rw [hR.1.2.2.2.2.2.2.2, hG.2.2.2.2.1]
  by_cases e14 : nt = 14
  · rw [e14, if_neg (show ¬ nI 14 < (14 : Int32) by decide), if_pos (show nI 14 = (14 : Int32) by decide)]
    exact .mk h1
  have hnt : nt < 14 := by omega
  rw [if_pos (show nI nt < (14 : Int32) from nI_lt (b := 14) hnt (by decide)), if_neg (show ¬ nI nt = (14 : Int32) from fun q => e14 ((nI_eq (b := 14) (by omega) (by decide)).mp q))]
  have i80 : ∀ j, I2 80 j = I1 80 j := fun j => by rw [hI2 80 (by decide)]
  obtain ⟨I3, X3, S3, r1, g, r3, r4, r5, r6, r7, r8, r9, r10, r11⟩ := Xread (I := I2) (X := X) (S := S) hS hm (by rw [i80]; exact x1)
  have h114 := hS.2
  have hS3 := hS.grow g
  rw [r1]
  simp only [cl_some]
  rw [gd_ok (decide_eq_true (show mN (I, X, S) ≤ mN (I3, X3, S3) from g.1))]
  have t8 : mT (I3, X3, S3) S.2.2.2 = 8 := r5
  have w4' := wT4 (I := I3) (X := X3) hS3 hw1
  have l4' := wL4 (I := I3) (X := X3) hS3 hw1
  rw [w4', gt_self, t8, gt_self, l4', gd_ok (ib_nI hnt (by decide)), nI_clamp (by omega)]
  simp only [setX_mk, gt_self, gd_t, lp_some, st_d, nm_d, on_none, on_some, cl_some, mI_mk, mX_mk, setI_mk, u2_row, rowS_s, rowU_s, xT0 hS3, xP0_0 hS3, wT hS3 hw1]
  have hN0 : ∀ a, a < S.2.2.2 → I3 a = I2 a := fun a ha => (r4 a ha).1
  rw [hN0 1 (by omega), hR.1.2.2.2.2.2.2.2, hG.2.2.2.2.1, nI_1, nI_s1]
  have y16' : rowU (J1 0) 10 0 16 = nI key := (rowU_n (by decide)).trans y16
  have y20' : rowU (J1 0) 10 0 20 = nI m := (rowU_n (by decide)).trans y20
  rw [y16', y20', ix70, nI_1, gd_ok (ib_nI (by omega) (by decide)), gd_ok (ib_nI (by omega) (by decide)), nI_clamp (by omega), nI_clamp (by omega), show (1000 : Int32) = nI 1000 from rfl, pk_mul, nI_add, rowS_n (show (0 : Nat) ≠ 1 by decide), rowS_rowS, hJ20 21 (by decide), y21]
  obtain ⟨J4, s1, s2, s3, s4, s5⟩ := Rtext117 (m := m) (t := nt) hm hnt m 0 FU (rowS J2 1 (rowU (rowU (J2 1) (70 + 2 * nt) (nI (1000 * key + m))) (70 + 2 * nt + 1) pc)) (by omega) (FU_ge (by omega)) (by rw [rowS_n (by decide), hJ20 20 (by decide)]; exact y20)
  have s1 : f_X10_text_117 FU (rowS J2 1 (rowU (rowU (J2 1) (70 + 2 * nt) (nI (1000 * key + m))) (70 + 2 * nt + 1) pc), YZ) 0 (nI nt) 0 = some (nI nt, (J4, YZ)) := s1
  rw [s1]
  have hJ4 : ∀ x, x ≠ 1 → J4 x = J2 x := fun x hx => by rw [s5 x hx, rowS_n hx]
  have hr1 : ∀ j, j ≠ 7 → (j < 98 + 96 * nt ∨ 98 + 96 * nt + 96 ≤ j) → J4 1 j = rowU (rowU (J2 1) (70 + 2 * nt) (nI (1000 * key + m))) (70 + 2 * nt + 1) pc j := fun j hj h => by rw [s3 j hj h, rowS_s]
  have p70 : J4 1 (70 + 2 * nt) = nI (1000 * key + m) := by rw [hr1 _ (by omega) (by omega), rowU_n (by omega), rowU_s]
  have p71 : J4 1 (70 + 2 * nt + 1) = pc := by rw [hr1 _ (by omega) (by omega), rowU_s]
  have hI4 : ∀ x, x ≠ 1 → x < S.2.2.2 → rowS I3 1 (rowU (I3 1) 8 (nI (nt + 1))) x = I2 x := fun x hx h => by rw [rowS_n hx, hN0 x h]
  have hI4' : ∀ x, x ≠ 1 → rowS I3 1 (rowU (I3 1) 8 (nI (nt + 1))) x = I3 x := fun x hx => rowS_n hx
  have hX4 : ∀ k t, ¬ (k = 5 ∧ t = nt) → u2 X3 5 nt (some S.2.2.2) k t = X3 k t := fun k t h => if_neg h
  have hgro : Wld I3 X3 S3 1 (J2 1) nc ns nt := h1.w.grow hS hw1 g (fun a ha _ => hN0 a ha) (fun t ht => by rw [(r4 (1 + 4) (by omega)).2])
  rw [← hN0 1 (by omega)]
  refine .mk (nc := nc) (ns := ns) (nt := nt + 1) ⟨?_, hS3, ?_, ?_, ?_, ?_, ?_, ?_, fun k hk => ?_, fun k hk => ?_⟩
  · refine hgro.ext1 hnt (fun j hj j7 j70 j71 h => ?_) ?_ hk3 hm p70 (cd := cd) (fun k hk => ?_) hok (fun a _ ha => hI4' a ha) (fun j hj => ?_) ?_ (fun t ht => hX4 5 t (fun q => by omega)) (b := S.2.2.2) (if_pos ⟨rfl, rfl⟩) ⟨h114, r5, ?_, ?_, S.2.2.2 + 1, r8, by omega, r9, r10, fun k hk => ?_⟩ (by omega) (fun a ha => ?_)
    · rw [hr1 j j7 h, rowU_n j71, rowU_n j70]
    · rw [s4, rowS_s, rowU_n (by omega), rowU_n (by omega), hG.2.2.2.2.1, nI_1]
    · rw [s2 k (by omega) hk, rowS_n (by decide), hJ2 11 (by decide), y11]
    · rw [rowS_s, rowU_n hj]
    · rw [rowS_s, rowU_s]
    · rw [hI4' _ (by omega), r6, i80]; exact x4
    · rw [hI4' _ (by omega), r7, i80, p71]; exact x5
    · rw [hI4' _ (by omega), r11 k hk, hI2 81 (by decide)]; exact x2 k hk
    · rw [r8] at ha; cases ha; omega
  · unfold ImR
    rw [hI4 0 (by decide) (by omega), hJ4 0 (by decide), hJ4 2 (by decide)]
    refine ⟨h1.rs.im.1, ?_⟩
    rcases h1.rs.im.2 with q | ⟨q, a, b, c, hw⟩
    · exact Or.inl q
    · exact Or.inr ⟨q, a, b, c, hw.grow hS (Or.inr (Or.inl rfl)) g (fun x hx ho => hI4 x (by unfold ownW at ho; omega) hx) (fun t ht => by rw [hX4 _ _ (fun q => by omega), (r4 (25 + 4) (by omega)).2])⟩
  · unfold spNo; rw [hJ4 0 (by decide)]; exact h1.rs.no
  · rw [hJ4 9 (by decide)]; exact h1.rs.k9
  · rw [hJ4 10 (by decide)]; exact h1.rs.k10
  · exact h1.rs.tp.same (by rw [hI4 78 (by decide) (by omega)]) (hI4 79 (by decide) (by omega)) (by rw [hJ4 0 (by decide)]) (hJ4 8 (by decide))
  · exact h1.rs.wt.same (by rw [hI4 0 (by decide) (by omega)]) (hI4 85 (by decide) (by omega)) (by rw [hJ4 0 (by decide)]) (hJ4 24 (by decide))
  · exact (h1.rs.sh k hk).same (hI4 _ (by omega) (by omega)) (hI4 _ (by omega) (by omega)) (fun x h1 h2 => hJ4 x (by omega))
  · exact (h1.rs.sl k hk).same (fun x h1 h2 => hI4 x (by omega) (by omega)) (fun x h1 h2 => hJ4 x (by omega))
end OpText
