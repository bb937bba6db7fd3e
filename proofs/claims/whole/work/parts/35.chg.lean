/-! A WORLD CHANGED: a chimney's number, a new one, a stork's, a rule, the number drawn from -/
theorem GN_of {N N' : Nat → Int32} {nc ns nt nc' ns' : Nat} (h : GN N nc ns nt) (h1 : N' 1 = nI nc') (hc : nc' ≤ 8) (h2 : N' 2 = nI ns') (hs : ns' ≤ 10) (h7 : N' 7 = nI nt) (he : ∀ j, 70 ≤ j → N' j = N j) : GN N' nc' ns' nt := ⟨h1, hc, h2, hs, h7, h.2.2.2.2.2.1, GT_congr h.2.2.2.2.2.2 he⟩
section WUp
variable {I : Nat → Nat → Int32} {X : Nat → Nat → Option Nat} {S : Sta} {w : Nat} {N : Nat → Int32} {nc ns nt : Nat}
theorem Wld.cset (h : Wld I X S w N nc ns nt) (hw : isW w) {c u : Nat} (hc : c < nc) (hu : u < 4) {v : Int32} (h0 : u = 0 → ∃ k, k < 6 ∧ v = nI k) (h1 : u = 1 → ∃ k, k < 4 ∧ v = nI k) (h2 : u = 2 → ∃ k, k ≤ 99 ∧ v = nI k) (h3 : u = 3 → ∃ k, k ≤ 100 ∧ v = nI k) : Wld (rowS I (w + 6 + c) (rowU (I (w + 6 + c)) u v)) X S w (rowU N (38 + 4 * c + u) v) nc ns nt := by
  obtain ⟨⟨g, cc, st, t⟩, gn, gr, yr, tb⟩ := h
  have hlt := hw.lt
  have h8 := gn.2.1
  have h10 := gn.2.2.2.1
  refine ⟨⟨?_, fun k hk => ?_, fun k hk => ?_, ?_⟩, ?_, ⟨fun k hk => ?_, fun k hk => ?_⟩, ?_, tb⟩
  · unfold RelG
    rw [rowS_n (by omega), rowS_n (by omega), rowU_n (by omega), rowU_n (by omega), rowU_n (by omega), rowU_n (by omega), rowU_n (by omega), rowU_n (by omega), rowU_n (by omega), rowU_n (by omega)]
    exact g
  · by_cases e : k = c
    · subst e
      rw [rowS_s]
      have q : ∀ m, m < 4 → I (w + 6 + k) m = N (38 + 4 * k + m) := fun m hm => by
        have := cc k hk
        rcases (show m = 0 ∨ m = 1 ∨ m = 2 ∨ m = 3 by omega) with rfl | rfl | rfl | rfl
        · exact this.1
        · exact this.2.1
        · exact this.2.2.1
        · exact this.2.2.2
      have q2 : ∀ m, m < 4 → rowU (I (w + 6 + k)) u v m = rowU N (38 + 4 * k + u) v (38 + 4 * k + m) := fun m hm => by
        by_cases e : m = u
        · subst e; rw [rowU_s, rowU_s]
        · rw [rowU_n e, rowU_n (by omega)]; exact q m hm
      exact ⟨q2 0 (by decide), q2 1 (by decide), q2 2 (by decide), q2 3 (by decide)⟩
    · rw [rowS_n (by omega), rowU_n (by omega), rowU_n (by omega), rowU_n (by omega), rowU_n (by omega)]
      exact cc k hk
  · rw [rowS_n (by omega), rowU_n (by omega), rowU_n (by omega), rowU_n (by omega)]; exact st k hk
  · exact t.congr (fun j hj => rowU_n (by omega)) (fun a ha => rowS_n (by omega))
  · exact GN_of gn (by rw [rowU_n (by omega)]; exact gn.1) h8 (by rw [rowU_n (by omega)]; exact gn.2.2.1) h10 (by rw [rowU_n (by omega)]; exact gn.2.2.2.2.1) (fun j hj => rowU_n (by omega))
  · by_cases e : k = c
    · subst e
      have q := gr.1 k hk
      refine ⟨?_, ?_, ?_, ?_⟩
      · by_cases e : u = 0
        · subst e; rw [Nat.add_zero, rowU_s]; exact h0 rfl
        · rw [rowU_n (by omega)]; exact q.1
      · by_cases e : u = 1
        · subst e; rw [rowU_s]; exact h1 rfl
        · rw [rowU_n (by omega)]; exact q.2.1
      · by_cases e : u = 2
        · subst e; rw [rowU_s]; exact h2 rfl
        · rw [rowU_n (by omega)]; exact q.2.2.1
      · by_cases e : u = 3
        · subst e; rw [rowU_s]; exact h3 rfl
        · rw [rowU_n (by omega)]; exact q.2.2.2
    · rw [rowU_n (by omega), rowU_n (by omega), rowU_n (by omega), rowU_n (by omega)]; exact gr.1 k hk
  · rw [rowU_n (by omega), rowU_n (by omega), rowU_n (by omega)]; exact gr.2 k hk
  · rw [rowU_n (by omega)]; exact yr
/-- a chimney more -/
def buildM (N : Nat → Int32) (nc : Nat) (k wd wm fr : Int32) : Nat → Int32 := rowU (rowU (rowU (rowU (rowU N (38 + 4 * nc) k) (38 + 4 * nc + 1) wd) (38 + 4 * nc + 2) wm) (38 + 4 * nc + 3) fr) 1 (nI (nc + 1))
theorem build_n {j : Nat} {k wd wm fr : Int32} (h1 : j ≠ 1) (h : j < 38 + 4 * nc ∨ 38 + 4 * nc + 4 ≤ j) : buildM N nc k wd wm fr j = N j := by
  unfold buildM; rw [rowU_n h1, rowU_n (by omega), rowU_n (by omega), rowU_n (by omega), rowU_n (by omega)]
theorem Xbuild (hS : LaS S) (hw : isW w) (h : Wld I X S w N nc ns nt) (h8 : nc < 8) {k wd wm fr : Nat} (hk : k < 6) (hwd : wd < 4) (hwm : wm ≤ 99) (hfr : fr ≤ 100) : ∃ J, f_X8_build (I, X, S) w (nI k) (nI wd) (nI wm) (nI fr) = some (nI nc, (J, X, S)) ∧ Wld J X S w (buildM N nc (nI k) (nI wd) (nI wm) (nI fr)) (nc + 1) ns nt ∧ ∀ a, a ≠ w → (a < w + 6 ∨ w + 14 ≤ a) → J a = I a := by
  obtain ⟨⟨g, cc, st, t⟩, gn, gr, yr, tb⟩ := h
  have hlt := hw.lt
  have h10 := gn.2.2.2.1
  rw [f_X8_build]
  simp only [gt_self, gd_t, lp_some, st_d, nm_d, on_none, on_some, cl_some, mI_mk, mX_mk, setI_mk, u2_row, rowS_s, rowU_s, xT0 hS, xP0_0 hS, xP0_1 hS, xP0_2 hS, xP0_3 hS, xP0_4 hS, xP0_5 hS, xP0_6 hS, xP0_7 hS, xP0_8 hS, xT73 hS, xP73_0 hS, xT74 hS, xL74 hS, xP73_1 hS, xT75 hS, xL75 hS, xP73_2 hS, xT76 hS, xL76 hS, xP73_3 hS, xT77 hS, xL77 hS, xT78 hS, xP78_0 hS, xT79 hS, xL79 hS, xT80 hS, xP80_0 hS, xP80_2 hS, xT81 hS, xL81 hS, xT82 hS, xL82 hS, xT83 hS, xL83 hS, xT84 hS, xL84 hS, xT85 hS, xL85 hS, wT hS hw, wP0 hS hw, wP2 hS hw, wP4 hS hw, wP7 hS hw, wP9 hS hw, wT1 hS hw, wL1 hS hw, wT2 hS hw, wL2 hS hw, wT3 hS hw, wL3 hS hw, wT4 hS hw, wL4 hS hw, wT5 hS hw, wL5 hS hw]
  rw [g.2.1, gn.1, if_pos (show nI nc < (8 : Int32) from nI_lt (b := 8) h8 (by decide)), gd_ok (ib_nI (by omega) (by decide)), nI_clamp (by omega)]
  simp only [wPc hS hw h8, wTc hS hw h8, gt_self, gd_t, lp_some, st_d, nm_d, on_none, on_some, cl_some, mI_mk, mX_mk, setI_mk, u2_row, rowS_s, rowU_s, xT0 hS, xP0_0 hS, xP0_1 hS, xP0_2 hS, xP0_3 hS, xP0_4 hS, xP0_5 hS, xP0_6 hS, xP0_7 hS, xP0_8 hS, xT73 hS, xP73_0 hS, xT74 hS, xL74 hS, xP73_1 hS, xT75 hS, xL75 hS, xP73_2 hS, xT76 hS, xL76 hS, xP73_3 hS, xT77 hS, xL77 hS, xT78 hS, xP78_0 hS, xT79 hS, xL79 hS, xT80 hS, xP80_0 hS, xP80_2 hS, xT81 hS, xL81 hS, xT82 hS, xL82 hS, xT83 hS, xL83 hS, xT84 hS, xL84 hS, xT85 hS, xL85 hS, wT hS hw, wP0 hS hw, wP2 hS hw, wP4 hS hw, wP7 hS hw, wP9 hS hw, wT1 hS hw, wL1 hS hw, wT2 hS hw, wL2 hS hw, wT3 hS hw, wL3 hS hw, wT4 hS hw, wL4 hS hw, wT5 hS hw, wL5 hS hw, f_X0_become, rowS_rowS, rowS_n (show w ≠ w + 6 + nc by omega)]
  rw [g.2.1, gn.1, nI_1, nI_s1]
  refine ⟨_, rfl, ⟨⟨?_, fun m hm => ?_, fun m hm => ?_, ?_⟩, ?_, ⟨fun m hm => ?_, fun m hm => ?_⟩, ?_, tb⟩, fun a h1 h3 => ?_⟩
  · obtain ⟨a0, a1, a2, a3, a4, a5, a6, a7⟩ := g
    unfold RelG
    have q : ∀ j, j ≠ 1 → j < 38 → buildM N nc (nI k) (nI wd) (nI wm) (nI fr) j = N j := fun j h1 h2 => build_n h1 (by omega)
    rw [q 0 (by decide) (by decide), q 2 (by decide) (by decide), q 3 (by decide) (by decide), q 4 (by decide) (by decide), q 5 (by decide) (by decide), q 6 (by decide) (by decide), q 7 (by decide) (by decide), show buildM N nc (nI k) (nI wd) (nI wm) (nI fr) 1 = nI (nc + 1) from rowU_s _ _ _]
    simp only [rowS_s, rowS_n (show w + 3 ≠ w by omega), rowS_n (show w + 3 ≠ w + 6 + nc by omega), rowU_s, rowU_n (show (6 : Nat) ≠ 1 by decide), rowU_n (show (3 : Nat) ≠ 1 by decide), rowU_n (show (5 : Nat) ≠ 1 by decide), rowU_n (show (8 : Nat) ≠ 1 by decide)]
    exact ⟨a0, trivial, a2, a3, a4, a5, a6, a7⟩
  · by_cases e : m = nc
    · subst e
      unfold buildM
      rw [rowS_n (by omega), rowS_s]
      refine ⟨?_, ?_, ?_, ?_⟩
      · rw [rowU_n (by decide), rowU_n (by decide), rowU_n (by decide), rowU_s, rowU_n (by omega), rowU_n (by omega), rowU_n (by omega), rowU_n (by omega), rowU_s]
      · rw [rowU_n (by decide), rowU_n (by decide), rowU_s, rowU_n (by omega), rowU_n (by omega), rowU_n (by omega), rowU_s]
      · rw [rowU_n (by decide), rowU_s, rowU_n (by omega), rowU_n (by omega), rowU_s]
      · rw [rowU_s, rowU_n (by omega), rowU_s]
    · rw [rowS_n (by omega), rowS_n (by omega), build_n (by omega) (by omega), build_n (by omega) (by omega), build_n (by omega) (by omega), build_n (by omega) (by omega)]
      exact cc m (by omega)
  · rw [rowS_n (by omega), rowS_n (by omega), build_n (by omega) (by omega), build_n (by omega) (by omega), build_n (by omega) (by omega)]
    exact st m hm
  · exact t.congr (fun j hj => build_n (by omega) (by omega)) (fun a ha => by rw [rowS_n (by omega), rowS_n (by omega)])
  · exact GN_of gn (rowU_s _ _ _) (by omega) (by rw [build_n (by decide) (by omega)]; exact gn.2.2.1) h10 (by rw [build_n (by decide) (by omega)]; exact gn.2.2.2.2.1) (fun j hj => build_n (by omega) (by omega))
  · by_cases e : m = nc
    · subst e
      unfold buildM
      refine ⟨⟨k, hk, ?_⟩, ⟨wd, hwd, ?_⟩, ⟨wm, hwm, ?_⟩, ⟨fr, hfr, ?_⟩⟩
      · rw [rowU_n (by omega), rowU_n (by omega), rowU_n (by omega), rowU_n (by omega), rowU_s]
      · rw [rowU_n (by omega), rowU_n (by omega), rowU_n (by omega), rowU_s]
      · rw [rowU_n (by omega), rowU_n (by omega), rowU_s]
      · rw [rowU_n (by omega), rowU_s]
    · rw [build_n (by omega) (by omega), build_n (by omega) (by omega), build_n (by omega) (by omega), build_n (by omega) (by omega)]
      exact gr.1 m (by omega)
  · rw [build_n (by omega) (by omega), build_n (by omega) (by omega), build_n (by omega) (by omega)]; exact gr.2 m hm
  · rw [build_n (by decide) (by omega)]; exact yr
  · rw [rowS_n h1, rowS_n (by omega)]
theorem XbuildF (hS : LaS S) (hw : isW w) (h : Wld I X S w N nc ns nt) (h8 : ¬ nc < 8) (a b c d : Int32) : f_X8_build (I, X, S) w a b c d = some (-1000000003, (I, X, S)) := by
  have h9 := h.gn.2.1
  have e : nc = 8 := by omega
  subst e
  rw [f_X8_build]
  simp only [gt_self, gd_t, lp_some, st_d, nm_d, on_none, on_some, cl_some, mI_mk, mX_mk, setI_mk, u2_row, rowS_s, rowU_s, xT0 hS, xP0_0 hS, xP0_1 hS, xP0_2 hS, xP0_3 hS, xP0_4 hS, xP0_5 hS, xP0_6 hS, xP0_7 hS, xP0_8 hS, xT73 hS, xP73_0 hS, xT74 hS, xL74 hS, xP73_1 hS, xT75 hS, xL75 hS, xP73_2 hS, xT76 hS, xL76 hS, xP73_3 hS, xT77 hS, xL77 hS, xT78 hS, xP78_0 hS, xT79 hS, xL79 hS, xT80 hS, xP80_0 hS, xP80_2 hS, xT81 hS, xL81 hS, xT82 hS, xL82 hS, xT83 hS, xL83 hS, xT84 hS, xL84 hS, xT85 hS, xL85 hS, wT hS hw, wP0 hS hw, wP2 hS hw, wP4 hS hw, wP7 hS hw, wP9 hS hw, wT1 hS hw, wL1 hS hw, wT2 hS hw, wL2 hS hw, wT3 hS hw, wL3 hS hw, wT4 hS hw, wL4 hS hw, wT5 hS hw, wL5 hS hw]
  rw [h.r.1.2.1, h.gn.1, if_neg (by decide)]
theorem XhatchF (hS : LaS S) (hw : isW w) (h : Wld I X S w N nc ns nt) (h8 : ¬ ns < 10) (a b : Int32) : f_X8_hatch (I, X, S) w a b = some (-1000000003, (I, X, S)) := by
  have h9 := h.gn.2.2.2.1
  have e : ns = 10 := by omega
  subst e
  rw [f_X8_hatch]
  simp only [gt_self, gd_t, lp_some, st_d, nm_d, on_none, on_some, cl_some, mI_mk, mX_mk, setI_mk, u2_row, rowS_s, rowU_s, xT0 hS, xP0_0 hS, xP0_1 hS, xP0_2 hS, xP0_3 hS, xP0_4 hS, xP0_5 hS, xP0_6 hS, xP0_7 hS, xP0_8 hS, xT73 hS, xP73_0 hS, xT74 hS, xL74 hS, xP73_1 hS, xT75 hS, xL75 hS, xP73_2 hS, xT76 hS, xL76 hS, xP73_3 hS, xT77 hS, xL77 hS, xT78 hS, xP78_0 hS, xT79 hS, xL79 hS, xT80 hS, xP80_0 hS, xP80_2 hS, xT81 hS, xL81 hS, xT82 hS, xL82 hS, xT83 hS, xL83 hS, xT84 hS, xL84 hS, xT85 hS, xL85 hS, wT hS hw, wP0 hS hw, wP2 hS hw, wP4 hS hw, wP7 hS hw, wP9 hS hw, wT1 hS hw, wL1 hS hw, wT2 hS hw, wL2 hS hw, wT3 hS hw, wL3 hS hw, wT4 hS hw, wL4 hS hw, wT5 hS hw, wL5 hS hw]
  rw [h.r.1.2.2.1, h.gn.2.2.1, if_neg (by decide)]
theorem Wld.hatch (h : Wld I X S w N nc ns nt) {I' : Nat → Nat → Int32} (h10 : ns < 10) {s : Nat} (hs : s ≤ 99) {hm : Int32} (hh : hm = -1 ∨ ∃ c, c < 8 ∧ hm = nI c) (hR : RelW I' X S w (hatchM N ns (nI s) hm) nc (ns + 1) nt) : Wld I' X S w (hatchM N ns (nI s) hm) nc (ns + 1) nt := by
  obtain ⟨_, gn, gr, yr, tb⟩ := h
  have h8 := gn.2.1
  have q : ∀ j, j ≠ 2 → j < 8 + 3 * ns ∨ 8 + 3 * ns + 3 ≤ j → hatchM N ns (nI s) hm j = N j := fun j h1 h2 => by unfold hatchM; rw [rowU_n h1, rowU_n (by omega), rowU_n (by omega), rowU_n (by omega)]
  refine ⟨hR, GN_of gn (by rw [q _ (by decide) (by omega)]; exact gn.1) h8 (rowU_s _ _ _) (by omega) (by rw [q _ (by decide) (by omega)]; exact gn.2.2.2.2.1) (fun j hj => q j (by omega) (by omega)), ⟨fun k hk => ?_, fun k hk => ?_⟩, by rw [q _ (by decide) (by omega)]; exact yr, tb⟩
  · rw [q _ (by omega) (by omega), q _ (by omega) (by omega), q _ (by omega) (by omega), q _ (by omega) (by omega)]; exact gr.1 k hk
  · by_cases e : k = ns
    · subst e
      unfold hatchM
      refine ⟨⟨s, hs, ?_⟩, ?_, Or.inl ?_⟩
      · rw [rowU_n (by omega), rowU_n (by omega), rowU_n (by omega), rowU_s]
      · rw [rowU_n (by omega), rowU_n (by omega), rowU_s]; exact hh
      · rw [rowU_n (by omega), rowU_s]
    · rw [q _ (by omega) (by omega), q _ (by omega) (by omega), q _ (by omega) (by omega)]; exact gr.2 k (by omega)
theorem Wld.away (h : Wld I X S w N nc ns nt) (hw : isW w) {s : Nat} (hs : s < ns) {v : Int32} (hv : v = 0 ∨ v = 1) : Wld (rowS I (w + 14 + s) (rowU (I (w + 14 + s)) 2 v)) X S w (rowU N (8 + 3 * s + 2) v) nc ns nt := by
  have gn := h.gn
  have h10 := gn.2.2.2.1
  exact ⟨h.r.away gn.2.1 h10 hw hs v, GN_of gn (by rw [rowU_n (by omega)]; exact gn.1) gn.2.1 (by rw [rowU_n (by omega)]; exact gn.2.2.1) h10 (by rw [rowU_n (by omega)]; exact gn.2.2.2.2.1) (fun j hj => rowU_n (by omega)), GR_away h.gr h10 hs hv, by rw [rowU_n (by omega)]; exact h.yr, h.tb⟩
theorem Wld.z (h : Wld I X S w N nc ns nt) (hw : isW w) (z : Int32) : Wld (rowS I w (rowU (I w) 6 z)) X S w (rowU N 0 z) nc ns nt := by
  have gn := h.gn
  exact ⟨h.r.z gn.2.1 gn.2.2.2.1 hw z, GN_of gn (by rw [rowU_n (by omega)]; exact gn.1) gn.2.1 (by rw [rowU_n (by omega)]; exact gn.2.2.1) gn.2.2.2.1 (by rw [rowU_n (by omega)]; exact gn.2.2.2.2.1) (fun j hj => rowU_n (by omega)), GR_z h.gr z, by rw [rowU_n (by omega)]; exact h.yr, h.tb⟩
theorem Wld.rule (h : Wld I X S w N nc ns nt) (hw : isW w) {u : Nat} (hu : u < 3) (v : Int32) : Wld (rowS I (w + 3) (rowU (I (w + 3)) u v)) X S w (rowU N (4 + u) v) nc ns nt := by
  obtain ⟨⟨g, cc, st, t⟩, gn, gr, yr, tb⟩ := h
  have hlt := hw.lt
  have h8 := gn.2.1
  have h10 := gn.2.2.2.1
  refine ⟨⟨?_, fun k hk => ?_, fun k hk => ?_, ?_⟩, ?_, ⟨fun k hk => ?_, fun k hk => ?_⟩, ?_, tb⟩
  · obtain ⟨a0, a1, a2, a3, a4, a5, a6, a7⟩ := g
    have q2 : ∀ m, I (w + 3) m = N (4 + m) → rowU (I (w + 3)) u v m = rowU N (4 + u) v (4 + m) := fun m hm => by
      by_cases e : m = u
      · subst e; rw [rowU_s, rowU_s]
      · rw [rowU_n e, rowU_n (by omega)]; exact hm
    unfold RelG
    rw [rowS_n (by omega), rowS_s, rowU_n (show 0 ≠ 4 + u by omega), rowU_n (show 1 ≠ 4 + u by omega), rowU_n (show 2 ≠ 4 + u by omega), rowU_n (show 3 ≠ 4 + u by omega), rowU_n (show 7 ≠ 4 + u by omega)]
    exact ⟨a0, a1, a2, a3, q2 0 a4, q2 1 a5, q2 2 a6, a7⟩
  · rw [rowS_n (by omega), rowU_n (by omega), rowU_n (by omega), rowU_n (by omega), rowU_n (by omega)]; exact cc k hk
  · rw [rowS_n (by omega), rowU_n (by omega), rowU_n (by omega), rowU_n (by omega)]; exact st k hk
  · exact t.congr (fun j hj => rowU_n (by omega)) (fun a ha => rowS_n (by omega))
  · exact GN_of gn (by rw [rowU_n (by omega)]; exact gn.1) h8 (by rw [rowU_n (by omega)]; exact gn.2.2.1) h10 (by rw [rowU_n (by omega)]; exact gn.2.2.2.2.1) (fun j hj => rowU_n (by omega))
  · rw [rowU_n (by omega), rowU_n (by omega), rowU_n (by omega), rowU_n (by omega)]; exact gr.1 k hk
  · rw [rowU_n (by omega), rowU_n (by omega), rowU_n (by omega)]; exact gr.2 k hk
  · rw [rowU_n (by omega)]; exact yr
/-- a chimney comes, in the reference -/
theorem Rcomes {J : Nat → Nat → Int32} (hG : GN (J 1) nc ns nt) (h8 : nc < 8) (a b c d : Int32) : f_X10_comes (J, YZ) 0 a b c d = some (nI nc, (rowS J 1 (buildM (J 1) nc a b c d), YZ)) := by
  rw [f_X10_comes]
  simp only [gt_self, gd_t, lp_some, st_d, nm_d, on_none, on_some, cl_some, mI_mk, mX_mk, setI_mk, u2_row, rowS_s, rowU_s, yT0, yP0, yT1, yL1, yP1, yT2, yL2, yP2, yT3, yL3, yP5, yT4, yL4, yP6, yT5, yL5, yP7, yT6, yL6, yP8, yT7, yL7, yP9, yT8, yL8, yP17, yT9, yL9, yP18, yT10, yL10, yP19, yT11, yL11, yP22, yT12, yL12, yP24, yT13, yL13, yP25, yT14, yL14, yP26, yT15, yL15, yP27, yT16, yL16, yP28, yT17, yL17, yP29, yT18, yL18, yP30, yT19, yL19, yP31, yT20, yL20, yP32, yT21, yL21, yP33, yT22, yL22, yP34, yT23, yL23, yP35, yT24, yL24, il1 (show 1 < 1442 by decide), tn1, rowS_rowS]
  rw [hG.1]
  simp only [ix38a, nI_1, show ∀ c : Nat, nI (38 + 4 * c) + 1 = nI (38 + 4 * c + 1) from fun c => nI_add _ 1, show ∀ c : Nat, nI (38 + 4 * c) + 2 = nI (38 + 4 * c + 2) from fun c => nI_add _ 2, show ∀ c : Nat, nI (38 + 4 * c) + 3 = nI (38 + 4 * c + 3) from fun c => nI_add _ 3]
  rw [gd_ok (ib_nI (by omega) (by decide)), gd_ok (ib_nI (by omega) (by decide)), gd_ok (ib_nI (by omega) (by decide)), gd_ok (ib_nI (by omega) (by decide)), nI_clamp (by omega), nI_clamp (by omega), nI_clamp (by omega), nI_clamp (by omega)]
  rw [rowU_n (show 1 ≠ 38 + 4 * nc + 3 by omega), rowU_n (show 1 ≠ 38 + 4 * nc + 2 by omega), rowU_n (show 1 ≠ 38 + 4 * nc + 1 by omega), rowU_n (show 1 ≠ 38 + 4 * nc by omega), hG.1, nI_1, nI_s1]
  rfl
theorem Rbecomes (J : Nat → Nat → Int32) {j : Nat} (hj : j < 1442) (v : Int32) : f_X10_becomes (J, YZ) 0 (nI j) v = some (J 1 j, (rowS J 1 (rowU (J 1) j v), YZ)) := by
  rw [f_X10_becomes]
  simp only [gt_self, gd_t, lp_some, st_d, nm_d, on_none, on_some, cl_some, mI_mk, mX_mk, setI_mk, u2_row, rowS_s, rowU_s, yT0, yP0, yT1, yL1, yP1, yT2, yL2, yP2, yT3, yL3, yP5, yT4, yL4, yP6, yT5, yL5, yP7, yT6, yL6, yP8, yT7, yL7, yP9, yT8, yL8, yP17, yT9, yL9, yP18, yT10, yL10, yP19, yT11, yL11, yP22, yT12, yL12, yP24, yT13, yL13, yP25, yT14, yL14, yP26, yT15, yL15, yP27, yT16, yL16, yP28, yT17, yL17, yP29, yT18, yL18, yP30, yT19, yL19, yP31, yT20, yL20, yP32, yT21, yL21, yP33, yT22, yL22, yP34, yT23, yL23, yP35, yT24, yL24]
  rw [gd_ok (ib_nI hj (by decide)), gd_ok (ib_nI hj (by decide)), nI_clamp (by omega)]
end WUp
theorem Sm.now {I I' : Nat → Nat → Int32} {X : Nat → Nat → Option Nat} {S : Sta} {J J' : Nat → Nat → Int32} {nc ns nt nc' ns' nt' : Nat} (h : Sm I X S J nc ns nt) (hw : Wld I' X S 1 (J' 1) nc' ns' nt') (hI : ∀ a, (a = 0 ∨ 25 ≤ a) → I' a = I a) (hJ : ∀ a, a ≠ 1 → J' a = J a) : Sm I' X S J' nc' ns' nt' :=
  ⟨hw, h.rs.same (fun a ha => hI a (by unfold ownX ownW at ha; omega)) rfl (fun a ha => hJ a (by unfold ownY at ha; omega))⟩
theorem Ok2.ite {b : Bool} {x x' : Option (Int32 × Mem)} {r : Int32} {I : Nat → Nat → Int32} {X : Nat → Nat → Option Nat} {S : Sta} {J : Nat → Nat → Int32} {nc ns nt : Nat} (h : Sm I X S J nc ns nt) (ht : b = true → Ok2 x x') : Ok2 (if b = true then x else some (r, (I, X, S))) (if b = true then x' else some (r, (J, YZ))) := by
  by_cases e : b = true
  · rw [if_pos e, if_pos e]; exact ht e
  · rw [if_neg e, if_neg e]; exact .mk h
