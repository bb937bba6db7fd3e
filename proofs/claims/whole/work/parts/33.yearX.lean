/-! THE CLASS: years -/
theorem likes_congr {N N' : Nat → Int32} {nt : Nat} (he : ∀ j, 38 ≤ j → N' j = N j) (c : Nat) (h : Int32) : likesM N' nt c h = likesM N nt c h := by
  have e1 : ∀ t, kyN N' t = kyN N t := fun t => by unfold kyN; rw [he _ (by omega)]
  have e2 : ∀ t, cdN N' t = cdN N t := fun t => by unfold cdN; rw [he _ (by omega)]
  have e3 : ∀ t, sgN N' t = sgN N t := fun t => by funext k; exact he _ (by omega)
  have e4 : ∀ n, cntM N' 0 n = cntM N 0 n := by
    intro n
    induction n with
    | zero => rfl
    | succ n ih => unfold cntM; rw [e1, ih]
  unfold likesM plainM
  rw [e4, he _ (by omega), he _ (by omega), he _ (by omega)]
  cases cntM N 0 nt with
  | none => rfl
  | some t => simp only [e2, e3]
theorem LkX.congr {I : Nat → Nat → Int32} {N N' : Nat → Int32} {nc nt : Nat} (h : LkX I N nc nt) (he : ∀ j, 38 ≤ j → N' j = N j) : LkX I N' nc nt := fun c hc => by rw [likes_congr he, likes_congr he]; exact h c hc
/-- a draw's rest is small -/
theorem irm_small (z : Int32) {m : Nat} (h0 : 0 < m) (hm : m < 2 ^ 31) : ∃ k, k < m ∧ irm (dM z) (nI m) = nI k := by
  have h1 : (ushr z 8).toBitVec.toNat = z.toBitVec.toNat / 2 ^ 8 := pk_ushr z 8 8 (by decide)
  have h2 : z.toBitVec.toNat < 2 ^ 32 := z.toBitVec.isLt
  have h3 : ushr z 8 = nI (z.toBitVec.toNat / 2 ^ 8) := by
    apply Int32.toBitVec_inj.mp
    apply BitVec.eq_of_toNat_eq
    rw [h1, pk_tn (by omega)]
  refine ⟨(z.toBitVec.toNat / 2 ^ 8) % m, Nat.mod_lt _ h0, ?_⟩
  unfold irm dM
  rw [h3, pk_rem (by omega) h0 hm]
theorem GR_keep {N N' : Nat → Int32} {nc ns : Nat} (h : GR N nc ns) (he : ∀ j, 38 ≤ j → N' j = N j) (hs : ∀ s, s < ns → ∀ u, u < 3 → N' (8 + 3 * s + u) = N (8 + 3 * s + u)) : GR N' nc ns := by
  refine ⟨fun c hc => ?_, fun s hs' => ?_⟩
  · rw [he _ (by omega), he _ (by omega), he _ (by omega), he _ (by omega)]; exact h.1 c hc
  · have e0 := hs s hs' 0 (by decide)
    have e1 := hs s hs' 1 (by decide)
    have e2 := hs s hs' 2 (by decide)
    rw [Nat.add_zero] at e0
    rw [e0, e1, e2]; exact h.2 s hs'
section XYear
variable {I : Nat → Nat → Int32} {X : Nat → Nat → Option Nat} {S : Sta} {w : Nat} {N : Nat → Int32} {nc ns nt : Nat}
theorem Xdraw (hS : LaS S) (hw : isW w) : f_X8_draw (I, X, S) w = some (dM (zM (I w 6)), (rowS I w (rowU (I w) 6 (zM (I w 6))), X, S)) := by
  rw [f_X8_draw]
  simp only [gt_self, gd_t, lp_some, st_d, nm_d, on_none, on_some, cl_some, mI_mk, mX_mk, setI_mk, u2_row, rowS_s, rowU_s, xT0 hS, xP0_0 hS, xP0_1 hS, xP0_2 hS, xP0_3 hS, xP0_4 hS, xP0_5 hS, xP0_6 hS, xP0_7 hS, xP0_8 hS, xT73 hS, xP73_0 hS, xT74 hS, xL74 hS, xP73_1 hS, xT75 hS, xL75 hS, xP73_2 hS, xT76 hS, xL76 hS, xP73_3 hS, xT77 hS, xL77 hS, xT78 hS, xP78_0 hS, xT79 hS, xL79 hS, xT80 hS, xP80_0 hS, xP80_2 hS, xT81 hS, xL81 hS, xT82 hS, xL82 hS, xT83 hS, xL83 hS, xT84 hS, xL84 hS, xT85 hS, xL85 hS, wT hS hw, wP0 hS hw, wP2 hS hw, wP4 hS hw, wP7 hS hw, wP9 hS hw, wT1 hS hw, wL1 hS hw, wT2 hS hw, wL2 hS hw, wT3 hS hw, wL3 hS hw, wT4 hS hw, wL4 hS hw, wT5 hS hw, wL5 hS hw]
  rfl
/-- a row's z changes -/
theorem RelW.z (hR : RelW I X S w N nc ns nt) (h8 : nc ≤ 8) (h10 : ns ≤ 10) (hw : isW w) (z : Int32) : RelW (rowS I w (rowU (I w) 6 z)) X S w (rowU N 0 z) nc ns nt := by
  obtain ⟨g, c, s, t⟩ := hR
  have hlt := hw.lt
  refine ⟨?_, fun k hk => ?_, fun k hk => ?_, fun k hk => ?_⟩
  · obtain ⟨a0, a1, a2, a3, a4, a5, a6, a7⟩ := g
    unfold RelG
    simp only [rowS_s, rowS_n (show w + 3 ≠ w by omega), rowU_s, rowU_n (show (1 : Nat) ≠ 6 by decide), rowU_n (show (3 : Nat) ≠ 6 by decide), rowU_n (show (5 : Nat) ≠ 6 by decide), rowU_n (show (8 : Nat) ≠ 6 by decide), rowU_n (show (1 : Nat) ≠ 0 by decide), rowU_n (show (2 : Nat) ≠ 0 by decide), rowU_n (show (3 : Nat) ≠ 0 by decide), rowU_n (show (4 : Nat) ≠ 0 by decide), rowU_n (show (5 : Nat) ≠ 0 by decide), rowU_n (show (6 : Nat) ≠ 0 by decide), rowU_n (show (7 : Nat) ≠ 0 by decide)]
    exact ⟨trivial, a1, a2, a3, a4, a5, a6, a7⟩
  · rw [rowS_n (show w + 6 + k ≠ w by omega), rowU_n (by omega), rowU_n (by omega), rowU_n (by omega), rowU_n (by omega)]; exact c k hk
  · rw [rowS_n (show w + 14 + k ≠ w by omega), rowU_n (by omega), rowU_n (by omega), rowU_n (by omega)]; exact s k hk
  · obtain ⟨b, hb, ht⟩ := t k hk
    have e : ∀ j, 1 ≤ j → rowU N 0 z j = N j := fun j hj => rowU_n (by omega)
    refine ⟨b, hb, ?_⟩
    have e1 : kyN (rowU N 0 z) k = kyN N k := by unfold kyN; rw [e _ (by omega)]
    have e2 : cdN (rowU N 0 z) k = cdN N k := by unfold cdN; rw [e _ (by omega)]
    have e3 : sgN (rowU N 0 z) k = sgN N k := by funext i; exact e _ (by omega)
    rw [e1, e2, e3, e _ (by omega)]
    exact ht.same (fun a ha => rowS_n (by omega))
theorem RelT.congr {N' : Nat → Int32} {J : Nat → Nat → Int32} (h : RelT I X S w N nt) (he : ∀ j, 70 ≤ j → N' j = N j) (hJ : ∀ a, 114 ≤ a → J a = I a) : RelT J X S w N' nt := by
  intro k hk
  obtain ⟨b, hb, ht⟩ := h k hk
  refine ⟨b, hb, ?_⟩
  have e1 : kyN N' k = kyN N k := by unfold kyN; rw [he _ (by omega)]
  have e2 : cdN N' k = cdN N k := by unfold cdN; rw [he _ (by omega)]
  have e3 : sgN N' k = sgN N k := by funext i; exact he _ (by omega)
  rw [e1, e2, e3, he _ (by omega)]
  exact ht.same hJ
/-- one stork more -/
theorem Xhatch (hS : LaS S) (hw : isW w) (hR : RelW I X S w N nc ns nt) (h2 : N 2 = nI ns) (h8 : nc ≤ 8) (h10 : ns < 10) (st hm hmr : Int32) (hh : homeR hm hmr) : ∃ J, f_X8_hatch (I, X, S) w st hm = some (nI ns, (J, X, S)) ∧ RelW J X S w (hatchM N ns st hmr) nc (ns + 1) nt ∧ ∀ a, a ≠ w → (a < w + 14 ∨ w + 24 ≤ a) → J a = I a := by
  obtain ⟨g, c, s, t⟩ := hR
  have hlt := hw.lt
  rw [f_X8_hatch]
  simp only [gt_self, gd_t, lp_some, st_d, nm_d, on_none, on_some, cl_some, mI_mk, mX_mk, setI_mk, u2_row, rowS_s, rowU_s, xT0 hS, xP0_0 hS, xP0_1 hS, xP0_2 hS, xP0_3 hS, xP0_4 hS, xP0_5 hS, xP0_6 hS, xP0_7 hS, xP0_8 hS, xT73 hS, xP73_0 hS, xT74 hS, xL74 hS, xP73_1 hS, xT75 hS, xL75 hS, xP73_2 hS, xT76 hS, xL76 hS, xP73_3 hS, xT77 hS, xL77 hS, xT78 hS, xP78_0 hS, xT79 hS, xL79 hS, xT80 hS, xP80_0 hS, xP80_2 hS, xT81 hS, xL81 hS, xT82 hS, xL82 hS, xT83 hS, xL83 hS, xT84 hS, xL84 hS, xT85 hS, xL85 hS, wT hS hw, wP0 hS hw, wP2 hS hw, wP4 hS hw, wP7 hS hw, wP9 hS hw, wT1 hS hw, wL1 hS hw, wT2 hS hw, wL2 hS hw, wT3 hS hw, wL3 hS hw, wT4 hS hw, wL4 hS hw, wT5 hS hw, wL5 hS hw]
  rw [g.2.2.1, h2, if_pos (show nI ns < (10 : Int32) from nI_lt (b := 10) h10 (by decide)), gd_ok (ib_nI (by omega) (by decide)), nI_clamp (by omega)]
  simp only [wPs hS hw h10, wTs hS hw h10, gt_self, gd_t, lp_some, st_d, nm_d, on_none, on_some, cl_some, mI_mk, mX_mk, setI_mk, u2_row, rowS_s, rowU_s, xT0 hS, xP0_0 hS, xP0_1 hS, xP0_2 hS, xP0_3 hS, xP0_4 hS, xP0_5 hS, xP0_6 hS, xP0_7 hS, xP0_8 hS, xT73 hS, xP73_0 hS, xT74 hS, xL74 hS, xP73_1 hS, xT75 hS, xL75 hS, xP73_2 hS, xT76 hS, xL76 hS, xP73_3 hS, xT77 hS, xL77 hS, xT78 hS, xP78_0 hS, xT79 hS, xL79 hS, xT80 hS, xP80_0 hS, xP80_2 hS, xT81 hS, xL81 hS, xT82 hS, xL82 hS, xT83 hS, xL83 hS, xT84 hS, xL84 hS, xT85 hS, xL85 hS, wT hS hw, wP0 hS hw, wP2 hS hw, wP4 hS hw, wP7 hS hw, wP9 hS hw, wT1 hS hw, wL1 hS hw, wT2 hS hw, wL2 hS hw, wT3 hS hw, wL3 hS hw, wT4 hS hw, wL4 hS hw, wT5 hS hw, wL5 hS hw, f_X5_become]
  rw [gd_ok (show isB 0 = true by rfl)]
  simp only [gt_self, gd_t, lp_some, st_d, nm_d, on_none, on_some, cl_some, mI_mk, mX_mk, setI_mk, u2_row, rowS_s, rowU_s, xT0 hS, xP0_0 hS, xP0_1 hS, xP0_2 hS, xP0_3 hS, xP0_4 hS, xP0_5 hS, xP0_6 hS, xP0_7 hS, xP0_8 hS, xT73 hS, xP73_0 hS, xT74 hS, xL74 hS, xP73_1 hS, xT75 hS, xL75 hS, xP73_2 hS, xT76 hS, xL76 hS, xP73_3 hS, xT77 hS, xL77 hS, xT78 hS, xP78_0 hS, xT79 hS, xL79 hS, xT80 hS, xP80_0 hS, xP80_2 hS, xT81 hS, xL81 hS, xT82 hS, xL82 hS, xT83 hS, xL83 hS, xT84 hS, xL84 hS, xT85 hS, xL85 hS, wT hS hw, wP0 hS hw, wP2 hS hw, wP4 hS hw, wP7 hS hw, wP9 hS hw, wT1 hS hw, wL1 hS hw, wT2 hS hw, wL2 hS hw, wT3 hS hw, wL3 hS hw, wT4 hS hw, wL4 hS hw, wT5 hS hw, wL5 hS hw, rowS_rowS, rowS_n (show w ≠ w + 14 + ns by omega)]
  rw [g.2.2.1, h2, nI_1, nI_s1]
  refine ⟨_, rfl, ⟨?_, fun k hk => ?_, fun k hk => ?_, ?_⟩, fun a h1 h3 => ?_⟩
  · obtain ⟨a0, a1, a2, a3, a4, a5, a6, a7⟩ := g
    unfold RelG hatchM
    have q : ∀ j, j ≠ 2 → j < 8 → rowU (rowU (rowU (rowU N (8 + 3 * ns) st) (8 + 3 * ns + 1) hmr) (8 + 3 * ns + 2) 0) 2 (nI (ns + 1)) j = N j := fun j h1 h2 => by rw [rowU_n h1, rowU_n (by omega), rowU_n (by omega), rowU_n (by omega)]
    rw [q 0 (by decide) (by decide), q 1 (by decide) (by decide), q 3 (by decide) (by decide), q 4 (by decide) (by decide), q 5 (by decide) (by decide), q 6 (by decide) (by decide), q 7 (by decide) (by decide), rowU_s]
    simp only [rowS_s, rowS_n (show w + 3 ≠ w by omega), rowS_n (show w + 3 ≠ w + 14 + ns by omega), rowS_n (show w ≠ w + 14 + ns by omega), rowU_s, rowU_n (show (6 : Nat) ≠ 3 by decide), rowU_n (show (1 : Nat) ≠ 3 by decide), rowU_n (show (5 : Nat) ≠ 3 by decide), rowU_n (show (8 : Nat) ≠ 3 by decide)]
    exact ⟨a0, a1, trivial, a3, a4, a5, a6, a7⟩
  · have q : ∀ j, 38 ≤ j → hatchM N ns st hmr j = N j := fun j hj => by unfold hatchM; rw [rowU_n (by omega), rowU_n (by omega), rowU_n (by omega), rowU_n (by omega)]
    rw [q _ (by omega), q _ (by omega), q _ (by omega), q _ (by omega), rowS_n (by omega), rowS_n (by omega)]
    exact c k hk
  · by_cases e : k = ns
    · subst e
      unfold hatchM
      rw [rowS_n (by omega), rowS_s]
      refine ⟨?_, ?_, ?_⟩
      · rw [rowU_n (by decide), rowU_n (by decide), rowU_s, rowU_n (by omega), rowU_n (by omega), rowU_n (by omega), rowU_s]
      · rw [rowU_n (by decide), rowU_s, rowU_n (by omega), rowU_n (by omega), rowU_s]; exact hh
      · rw [rowU_s, rowU_n (by omega), rowU_s]
    · have q : ∀ u, u < 3 → hatchM N ns st hmr (8 + 3 * k + u) = N (8 + 3 * k + u) := fun u hu => by unfold hatchM; rw [rowU_n (by omega), rowU_n (by omega), rowU_n (by omega), rowU_n (by omega)]
      have q0 := q 0 (by decide)
      rw [Nat.add_zero] at q0
      rw [q0, q 1 (by decide), q 2 (by decide), rowS_n (by omega), rowS_n (by omega)]
      exact s k (by omega)
  · exact t.congr (fun j hj => by unfold hatchM; rw [rowU_n (by omega), rowU_n (by omega), rowU_n (by omega), rowU_n (by omega)]) (fun a ha => by rw [rowS_n (by omega), rowS_n (by omega)])
  · rw [rowS_n h1, rowS_n (by omega)]
theorem GR_hatch (hr : GR N nc ns) (h10 : ns < 10) {z : Int32} {c : Nat} (hc : c < 8) : GR (hatchM N ns (1 + irm (dM z) 20) (nI c)) nc (ns + 1) := by
  refine ⟨fun k hk => ?_, fun k hk => ?_⟩
  · have q : ∀ j, 38 ≤ j → hatchM N ns (1 + irm (dM z) 20) (nI c) j = N j := fun j hj => by unfold hatchM; rw [rowU_n (by omega), rowU_n (by omega), rowU_n (by omega), rowU_n (by omega)]
    rw [q _ (by omega), q _ (by omega), q _ (by omega), q _ (by omega)]
    exact hr.1 k hk
  · by_cases e : k = ns
    · subst e
      unfold hatchM
      refine ⟨?_, ?_, ?_⟩
      · obtain ⟨i, hi, ei⟩ := irm_small z (m := 20) (by decide) (by decide)
        refine ⟨1 + i, by omega, ?_⟩
        rw [rowU_n (by omega), rowU_n (by omega), rowU_n (by omega), rowU_s, show irm (dM z) 20 = nI i from ei, show (1 : Int32) = nI 1 from rfl, nI_add]
      · right
        refine ⟨c, hc, ?_⟩
        rw [rowU_n (by omega), rowU_n (by omega), rowU_s]
      · left
        rw [rowU_n (by omega), rowU_s]
    · have q : ∀ u, u < 3 → hatchM N ns (1 + irm (dM z) 20) (nI c) (8 + 3 * k + u) = N (8 + 3 * k + u) := fun u hu => by unfold hatchM; rw [rowU_n (by omega), rowU_n (by omega), rowU_n (by omega), rowU_n (by omega)]
      have q0 := q 0 (by decide)
      rw [Nat.add_zero] at q0
      rw [q0, q 1 (by decide), q 2 (by decide)]
      exact hr.2 k (by omega)
/-- a stork is away, or not -/
theorem RelW.away (hR : RelW I X S w N nc ns nt) (h8 : nc ≤ 8) (h10 : ns ≤ 10) (hw : isW w) {s : Nat} (hs : s < ns) (v : Int32) : RelW (rowS I (w + 14 + s) (rowU (I (w + 14 + s)) 2 v)) X S w (rowU N (8 + 3 * s + 2) v) nc ns nt := by
  obtain ⟨g, c, st, t⟩ := hR
  have hlt := hw.lt
  refine ⟨?_, fun k hk => ?_, fun k hk => ?_, ?_⟩
  · unfold RelG
    rw [rowS_n (by omega), rowS_n (by omega), rowU_n (by omega), rowU_n (by omega), rowU_n (by omega), rowU_n (by omega), rowU_n (by omega), rowU_n (by omega), rowU_n (by omega), rowU_n (by omega)]
    exact g
  · rw [rowS_n (by omega), rowU_n (by omega), rowU_n (by omega), rowU_n (by omega), rowU_n (by omega)]; exact c k hk
  · by_cases e : k = s
    · subst e
      rw [rowS_s, rowU_n (show (0 : Nat) ≠ 2 by decide), rowU_n (show (1 : Nat) ≠ 2 by decide), rowU_s, rowU_n (show 8 + 3 * k ≠ 8 + 3 * k + 2 by omega), rowU_n (show 8 + 3 * k + 1 ≠ 8 + 3 * k + 2 by omega), rowU_s]
      exact ⟨(st k hk).1, (st k hk).2.1, rfl⟩
    · rw [rowS_n (by omega), rowU_n (by omega), rowU_n (by omega), rowU_n (by omega)]; exact st k hk
  · exact t.congr (fun j hj => rowU_n (by omega)) (fun a ha => rowS_n (by omega))
theorem GR_z (hr : GR N nc ns) (z : Int32) : GR (rowU N 0 z) nc ns := GR_keep hr (fun j hj => rowU_n (by omega)) (fun s hs u hu => rowU_n (by omega))
theorem GR_away (hr : GR N nc ns) (h10 : ns ≤ 10) {s : Nat} (hs : s < ns) {v : Int32} (hv : v = 0 ∨ v = 1) : GR (rowU N (8 + 3 * s + 2) v) nc ns := by
  refine ⟨fun k hk => ?_, fun k hk => ?_⟩
  · rw [rowU_n (by omega), rowU_n (by omega), rowU_n (by omega), rowU_n (by omega)]; exact hr.1 k hk
  · by_cases e : k = s
    · subst e
      rw [rowU_n (by omega), rowU_n (by omega), rowU_s]
      exact ⟨(hr.2 k hk).1, (hr.2 k hk).2.1, hv⟩
    · rw [rowU_n (by omega), rowU_n (by omega), rowU_n (by omega)]; exact hr.2 k hk
theorem fareM_none {nest : Nat → Option Nat} {s : Nat} {Q : (Nat → Int32) × Nat} (ha : awayN Q.1 s = false) (hn : nest s = none) : fareM nest s Q = (rowU (rowU Q.1 0 (zM (Q.1 0))) (8 + 3 * s + 2) (if Q.1 6 ≤ irm (dM (zM (Q.1 0))) 100 then 0 else 1), Q.2) := by
  unfold fareM; rw [if_neg (by rw [ha]; exact Bool.false_ne_true), hn]
theorem fareM_no {nest : Nat → Option Nat} {s c : Nat} {Q : (Nat → Int32) × Nat} (ha : awayN Q.1 s = false) (hn : nest s = some c) (hl : Q.1 5 ≤ irm (dM (zM (Q.1 0))) 100 ∨ 10 ≤ Q.2) : fareM nest s Q = (rowU Q.1 0 (zM (Q.1 0)), Q.2) := by
  unfold fareM; rw [if_neg (by rw [ha]; exact Bool.false_ne_true), hn]
  dsimp only
  by_cases h : Q.1 5 ≤ irm (dM (zM (Q.1 0))) 100
  · rw [if_pos h]
  · rw [if_neg h]
    rcases hl with hl | hl
    · exact absurd hl h
    · rw [if_pos hl]
theorem fareM_yes {nest : Nat → Option Nat} {s c : Nat} {Q : (Nat → Int32) × Nat} (ha : awayN Q.1 s = false) (hn : nest s = some c) (hl : ¬ Q.1 5 ≤ irm (dM (zM (Q.1 0))) 100) (ht : ¬ 10 ≤ Q.2) : fareM nest s Q = (hatchM (rowU (rowU Q.1 0 (zM (Q.1 0))) 0 (zM (zM (Q.1 0)))) Q.2 (1 + irm (dM (zM (zM (Q.1 0)))) 20) (nI c), Q.2 + 1) := by
  unfold fareM hatchM; rw [if_neg (by rw [ha]; exact Bool.false_ne_true), hn]
  dsimp only
  rw [if_neg hl, if_neg ht]
theorem XfareN {Q : (Nat → Int32) × Nat} (hS : LaS S) (hw : isW w) (hR : RelW I X S w Q.1 nc Q.2 nt) (hr : GR Q.1 nc Q.2) (h2 : Q.1 2 = nI Q.2) (h8 : nc ≤ 8) (h10 : Q.2 ≤ 10) {nest : Nat → Option Nat} {s : Nat} (hs : s < Q.2) (ha : awayN Q.1 s = false) (hnn : nest s = none) :
    ∃ J, f_X8_fare (I, X, S) w (nI s) (encC (nest s)) = some ((), (J, X, S)) ∧ RelW J X S w (fareM nest s Q).1 nc (fareM nest s Q).2 nt ∧ GR (fareM nest s Q).1 nc (fareM nest s Q).2 ∧ ∀ a, a ≠ w → (a < w + 14 ∨ w + 24 ≤ a) → J a = I a := by
  have hlt := hw.lt
  have hz : I w 6 = Q.1 0 := hR.1.1
  have hR1 := hR.z h8 h10 hw (zM (Q.1 0))
  have hr1 := GR_z hr (zM (Q.1 0))
  have ho1 : ∀ a, a ≠ w → (a < w + 14 ∨ w + 24 ≤ a) → rowS I w (rowU (I w) 6 (zM (Q.1 0))) a = I a := fun a h1 _ => rowS_n h1
  rw [fareM_none ha hnn, f_X8_fare]
  simp only [gt_self, gd_t, lp_some, st_d, nm_d, on_none, on_some, cl_some, mI_mk, mX_mk, setI_mk, u2_row, rowS_s, rowU_s, xT0 hS, xP0_0 hS, xP0_1 hS, xP0_2 hS, xP0_3 hS, xP0_4 hS, xP0_5 hS, xP0_6 hS, xP0_7 hS, xP0_8 hS, xT73 hS, xP73_0 hS, xT74 hS, xL74 hS, xP73_1 hS, xT75 hS, xL75 hS, xP73_2 hS, xT76 hS, xL76 hS, xP73_3 hS, xT77 hS, xL77 hS, xT78 hS, xP78_0 hS, xT79 hS, xL79 hS, xT80 hS, xP80_0 hS, xP80_2 hS, xT81 hS, xL81 hS, xT82 hS, xL82 hS, xT83 hS, xL83 hS, xT84 hS, xL84 hS, xT85 hS, xL85 hS, wT hS hw, wP0 hS hw, wP2 hS hw, wP4 hS hw, wP7 hS hw, wP9 hS hw, wT1 hS hw, wL1 hS hw, wT2 hS hw, wL2 hS hw, wT3 hS hw, wL3 hS hw, wT4 hS hw, wL4 hS hw, wT5 hS hw, wL5 hS hw]
  rw [Xdraw hS hw, hz]
  simp only [gt_self, gd_t, lp_some, st_d, nm_d, on_none, on_some, cl_some, mI_mk, mX_mk, setI_mk, u2_row, rowS_s, rowU_s, xT0 hS, xP0_0 hS, xP0_1 hS, xP0_2 hS, xP0_3 hS, xP0_4 hS, xP0_5 hS, xP0_6 hS, xP0_7 hS, xP0_8 hS, xT73 hS, xP73_0 hS, xT74 hS, xL74 hS, xP73_1 hS, xT75 hS, xL75 hS, xP73_2 hS, xT76 hS, xL76 hS, xP73_3 hS, xT77 hS, xL77 hS, xT78 hS, xP78_0 hS, xT79 hS, xL79 hS, xT80 hS, xP80_0 hS, xP80_2 hS, xT81 hS, xL81 hS, xT82 hS, xL82 hS, xT83 hS, xL83 hS, xT84 hS, xL84 hS, xT85 hS, xL85 hS, wT hS hw, wP0 hS hw, wP2 hS hw, wP4 hS hw, wP7 hS hw, wP9 hS hw, wT1 hS hw, wL1 hS hw, wT2 hS hw, wL2 hS hw, wT3 hS hw, wL3 hS hw, wT4 hS hw, wL4 hS hw, wT5 hS hw, wL5 hS hw]
  generalize hI1 : rowS I w (rowU (I w) 6 (zM (Q.1 0))) = I1 at hR1 ho1 ⊢
  have e6 : I1 (w + 3) 2 = Q.1 6 := hR1.1.2.2.2.2.2.2.1.trans (rowU_n (by decide))
  rw [hnn, if_pos (encC_no rfl)]
  simp only [gt_self, gd_t, lp_some, st_d, nm_d, on_none, on_some, cl_some, mI_mk, mX_mk, setI_mk, u2_row, rowS_s, rowU_s, xT0 hS, xP0_0 hS, xP0_1 hS, xP0_2 hS, xP0_3 hS, xP0_4 hS, xP0_5 hS, xP0_6 hS, xP0_7 hS, xP0_8 hS, xT73 hS, xP73_0 hS, xT74 hS, xL74 hS, xP73_1 hS, xT75 hS, xL75 hS, xP73_2 hS, xT76 hS, xL76 hS, xP73_3 hS, xT77 hS, xL77 hS, xT78 hS, xP78_0 hS, xT79 hS, xL79 hS, xT80 hS, xP80_0 hS, xP80_2 hS, xT81 hS, xL81 hS, xT82 hS, xL82 hS, xT83 hS, xL83 hS, xT84 hS, xL84 hS, xT85 hS, xL85 hS, wT hS hw, wP0 hS hw, wP2 hS hw, wP4 hS hw, wP7 hS hw, wP9 hS hw, wT1 hS hw, wL1 hS hw, wT2 hS hw, wL2 hS hw, wT3 hS hw, wL3 hS hw, wT4 hS hw, wL4 hS hw, wT5 hS hw, wL5 hS hw, il2 (show 2 < 3 by decide), tn2]
  rw [gd_ok (ib_nI (by omega) (by decide)), nI_clamp (by omega)]
  simp only [wPs hS hw (show s < 10 by omega), wTs hS hw (show s < 10 by omega), gt_self, gd_t, lp_some, st_d, nm_d, on_none, on_some, cl_some, mI_mk, mX_mk, setI_mk, u2_row, rowS_s, rowU_s, xT0 hS, xP0_0 hS, xP0_1 hS, xP0_2 hS, xP0_3 hS, xP0_4 hS, xP0_5 hS, xP0_6 hS, xP0_7 hS, xP0_8 hS, xT73 hS, xP73_0 hS, xT74 hS, xL74 hS, xP73_1 hS, xT75 hS, xL75 hS, xP73_2 hS, xT76 hS, xL76 hS, xP73_3 hS, xT77 hS, xL77 hS, xT78 hS, xP78_0 hS, xT79 hS, xL79 hS, xT80 hS, xP80_0 hS, xP80_2 hS, xT81 hS, xL81 hS, xT82 hS, xL82 hS, xT83 hS, xL83 hS, xT84 hS, xL84 hS, xT85 hS, xL85 hS, wT hS hw, wP0 hS hw, wP2 hS hw, wP4 hS hw, wP7 hS hw, wP9 hS hw, wT1 hS hw, wL1 hS hw, wT2 hS hw, wL2 hS hw, wT3 hS hw, wL3 hS hw, wT4 hS hw, wL4 hS hw, wT5 hS hw, wL5 hS hw, f_X8_fare_35]
  rw [e6]
  by_cases hl : Q.1 6 ≤ irm (dM (zM (Q.1 0))) 100
  · rw [if_pos hl, if_pos hl, gd_ok (show isB 0 = true by rfl)]
    exact ⟨_, rfl, hR1.away h8 h10 hw hs 0, GR_away hr1 h10 hs (Or.inl rfl), fun a h1 h3 => by rw [rowS_n (by omega)]; exact ho1 a h1 h3⟩
  · rw [if_neg hl, if_neg hl, gd_ok (show isB 1 = true by rfl)]
    exact ⟨_, rfl, hR1.away h8 h10 hw hs 1, GR_away hr1 h10 hs (Or.inr rfl), fun a h1 h3 => by rw [rowS_n (by omega)]; exact ho1 a h1 h3⟩
theorem XfareS {Q : (Nat → Int32) × Nat} (hS : LaS S) (hw : isW w) (hR : RelW I X S w Q.1 nc Q.2 nt) (hr : GR Q.1 nc Q.2) (h2 : Q.1 2 = nI Q.2) (h8 : nc ≤ 8) (h10 : Q.2 ≤ 10) {nest : Nat → Option Nat} {s c : Nat} (ha : awayN Q.1 s = false) (hnn : nest s = some c) (hc : c < nc) :
    ∃ J, f_X8_fare (I, X, S) w (nI s) (encC (nest s)) = some ((), (J, X, S)) ∧ RelW J X S w (fareM nest s Q).1 nc (fareM nest s Q).2 nt ∧ GR (fareM nest s Q).1 nc (fareM nest s Q).2 ∧ ∀ a, a ≠ w → (a < w + 14 ∨ w + 24 ≤ a) → J a = I a := by
  have hlt := hw.lt
  have hz : I w 6 = Q.1 0 := hR.1.1
  have hR1 := hR.z h8 h10 hw (zM (Q.1 0))
  have hr1 := GR_z hr (zM (Q.1 0))
  have ho1 : ∀ a, a ≠ w → (a < w + 14 ∨ w + 24 ≤ a) → rowS I w (rowU (I w) 6 (zM (Q.1 0))) a = I a := fun a h1 _ => rowS_n h1
  generalize hF : fareM nest s Q = F
  rw [f_X8_fare]
  simp only [gt_self, gd_t, lp_some, st_d, nm_d, on_none, on_some, cl_some, mI_mk, mX_mk, setI_mk, u2_row, rowS_s, rowU_s, xT0 hS, xP0_0 hS, xP0_1 hS, xP0_2 hS, xP0_3 hS, xP0_4 hS, xP0_5 hS, xP0_6 hS, xP0_7 hS, xP0_8 hS, xT73 hS, xP73_0 hS, xT74 hS, xL74 hS, xP73_1 hS, xT75 hS, xL75 hS, xP73_2 hS, xT76 hS, xL76 hS, xP73_3 hS, xT77 hS, xL77 hS, xT78 hS, xP78_0 hS, xT79 hS, xL79 hS, xT80 hS, xP80_0 hS, xP80_2 hS, xT81 hS, xL81 hS, xT82 hS, xL82 hS, xT83 hS, xL83 hS, xT84 hS, xL84 hS, xT85 hS, xL85 hS, wT hS hw, wP0 hS hw, wP2 hS hw, wP4 hS hw, wP7 hS hw, wP9 hS hw, wT1 hS hw, wL1 hS hw, wT2 hS hw, wL2 hS hw, wT3 hS hw, wL3 hS hw, wT4 hS hw, wL4 hS hw, wT5 hS hw, wL5 hS hw]
  rw [Xdraw hS hw, hz]
  simp only [cl_some]
  generalize hI1 : rowS I w (rowU (I w) 6 (zM (Q.1 0))) = I1 at hR1 ho1 ⊢
  have e5 : I1 (w + 3) 1 = Q.1 5 := hR1.1.2.2.2.2.2.1.trans (rowU_n (by decide))
  have e2 : I1 w 3 = nI Q.2 := (hR1.1.2.2.1.trans (rowU_n (by decide))).trans h2
  have e0 : I1 w 6 = zM (Q.1 0) := hR1.1.1.trans (rowU_s _ _ _)
  have hR2 := hR1.z h8 h10 hw (zM (zM (Q.1 0)))
  have hr2 := GR_z hr1 (zM (zM (Q.1 0)))
  rw [hnn, if_neg (encC_pos rfl (by omega)), show encC (some c) = nI c from rfl]
  simp only [gt_self, gd_t, lp_some, st_d, nm_d, on_none, on_some, cl_some, mI_mk, mX_mk, setI_mk, u2_row, rowS_s, rowU_s, xT0 hS, xP0_0 hS, xP0_1 hS, xP0_2 hS, xP0_3 hS, xP0_4 hS, xP0_5 hS, xP0_6 hS, xP0_7 hS, xP0_8 hS, xT73 hS, xP73_0 hS, xT74 hS, xL74 hS, xP73_1 hS, xT75 hS, xL75 hS, xP73_2 hS, xT76 hS, xL76 hS, xP73_3 hS, xT77 hS, xL77 hS, xT78 hS, xP78_0 hS, xT79 hS, xL79 hS, xT80 hS, xP80_0 hS, xP80_2 hS, xT81 hS, xL81 hS, xT82 hS, xL82 hS, xT83 hS, xL83 hS, xT84 hS, xL84 hS, xT85 hS, xL85 hS, wT hS hw, wP0 hS hw, wP2 hS hw, wP4 hS hw, wP7 hS hw, wP9 hS hw, wT1 hS hw, wL1 hS hw, wT2 hS hw, wL2 hS hw, wT3 hS hw, wL3 hS hw, wT4 hS hw, wL4 hS hw, wT5 hS hw, wL5 hS hw, il1 (show 1 < 3 by decide), tn1]
  rw [e5]
  by_cases hl : Q.1 5 ≤ irm (dM (zM (Q.1 0))) 100
  · rw [if_pos hl]
    rw [fareM_no ha hnn (Or.inl hl)] at hF
    subst hF
    exact ⟨I1, rfl, hR1, hr1, ho1⟩
  rw [if_neg hl, e2]
  by_cases ht : 10 ≤ Q.2
  · rw [if_pos (show (10 : Int32) ≤ nI Q.2 from nI_le (a := 10) ht (by omega))]
    rw [fareM_no ha hnn (Or.inr ht)] at hF
    subst hF
    exact ⟨I1, rfl, hR1, hr1, ho1⟩
  rw [if_neg (show ¬ (10 : Int32) ≤ nI Q.2 from nI_ge (a := Q.2) (b := 10) (by omega) (by decide)), Xdraw hS hw, e0]
  simp only [cl_some, gt_self, gd_t, lp_some, st_d, nm_d, on_none, on_some, cl_some, mI_mk, mX_mk, setI_mk, u2_row, rowS_s, rowU_s, xT0 hS, xP0_0 hS, xP0_1 hS, xP0_2 hS, xP0_3 hS, xP0_4 hS, xP0_5 hS, xP0_6 hS, xP0_7 hS, xP0_8 hS, xT73 hS, xP73_0 hS, xT74 hS, xL74 hS, xP73_1 hS, xT75 hS, xL75 hS, xP73_2 hS, xT76 hS, xL76 hS, xP73_3 hS, xT77 hS, xL77 hS, xT78 hS, xP78_0 hS, xT79 hS, xL79 hS, xT80 hS, xP80_0 hS, xP80_2 hS, xT81 hS, xL81 hS, xT82 hS, xL82 hS, xT83 hS, xL83 hS, xT84 hS, xL84 hS, xT85 hS, xL85 hS, wT hS hw, wP0 hS hw, wP2 hS hw, wP4 hS hw, wP7 hS hw, wP9 hS hw, wT1 hS hw, wL1 hS hw, wT2 hS hw, wL2 hS hw, wT3 hS hw, wL3 hS hw, wT4 hS hw, wL4 hS hw, wT5 hS hw, wL5 hS hw]
  rw [fareM_yes ha hnn hl ht] at hF
  subst hF
  obtain ⟨J, eJ, hJ, oJ⟩ := Xhatch hS hw hR2 (by rw [rowU_n (by decide), rowU_n (by decide)]; exact h2) h8 (show Q.2 < 10 by omega) (1 + irm (dM (zM (zM (Q.1 0)))) 20) (nI c) (nI c) (Or.inr ⟨c, by omega, rfl, rfl⟩)
  rw [eJ]
  exact ⟨J, rfl, hJ, GR_hatch hr2 (by omega) (by omega), fun a h1 h3 => by rw [oJ a h1 h3, rowS_n h1]; exact ho1 a h1 h3⟩
theorem Xfare {Q : (Nat → Int32) × Nat} (hS : LaS S) (hw : isW w) (hR : RelW I X S w Q.1 nc Q.2 nt) (hr : GR Q.1 nc Q.2) (h2 : Q.1 2 = nI Q.2) (h8 : nc ≤ 8) (h10 : Q.2 ≤ 10) {nest : Nat → Option Nat} {s : Nat} (hs : s < Q.2) (ha : awayN Q.1 s = false) (hn : ∀ c, nest s = some c → c < nc) :
    ∃ J, f_X8_fare (I, X, S) w (nI s) (encC (nest s)) = some ((), (J, X, S)) ∧ RelW J X S w (fareM nest s Q).1 nc (fareM nest s Q).2 nt ∧ GR (fareM nest s Q).1 nc (fareM nest s Q).2 ∧ ∀ a, a ≠ w → (a < w + 14 ∨ w + 24 ≤ a) → J a = I a := by
  cases hnn : nest s with
  | none => rw [← hnn]; exact XfareN hS hw hR hr h2 h8 h10 hs ha hnn
  | some c => rw [← hnn]; exact XfareS hS hw hR hr h2 h8 h10 ha hnn (hn c hnn)
theorem XliveLoop (hS : LaS S) (hw : isW w) (h2 : N 2 = nI ns) (h8 : nc ≤ 8) (h10 : ns ≤ 10) {nest : Nat → Option Nat} (hn : ∀ s, s < 10 → I 74 s = encC (nest s)) (hnl : ∀ s c, nest s = some c → c < nc) :
    ∀ (d s fu : Nat) (J : Nat → Nat → Int32), s + d = ns → d < fu → RelW J X S w (fatesM nest (N, ns) s).1 nc (fatesM nest (N, ns) s).2 nt → GR (fatesM nest (N, ns) s).1 nc (fatesM nest (N, ns) s).2 → (∀ a, a ≠ w → (a < w + 14 ∨ w + 24 ≤ a) → J a = I a) →
    ∃ J', f_X8_live_14 fu (J, X, S) w 73 (nI ns) (nI s) = some ((), (J', X, S)) ∧ RelW J' X S w (rowU (fatesM nest (N, ns) ns).1 3 ((fatesM nest (N, ns) ns).1 3 + 1)) nc (fatesM nest (N, ns) ns).2 nt ∧ GR (rowU (fatesM nest (N, ns) ns).1 3 ((fatesM nest (N, ns) ns).1 3 + 1)) nc (fatesM nest (N, ns) ns).2 ∧ ∀ a, a ≠ w → (a < w + 14 ∨ w + 24 ≤ a) → J' a = I a := by
  have hlt := hw.lt
  intro d
  induction d with
  | zero =>
    intro s fu J hs hf hR hr hJ
    obtain ⟨fu, rfl⟩ : ∃ m, fu = m + 1 := ⟨fu - 1, by omega⟩
    have hs : s = ns := by omega
    subst hs
    have hF : FI N s (fatesM nest (N, s) s) := fates_FI ⟨h2, h10, Nat.le_refl _, fun _ _ => rfl⟩ s (by omega)
    rw [f_X8_live_14, if_pos (nI_le (Nat.le_refl _) (by omega))]
    simp only [gt_self, gd_t, lp_some, st_d, nm_d, on_none, on_some, cl_some, mI_mk, mX_mk, setI_mk, u2_row, rowS_s, rowU_s, xT0 hS, xP0_0 hS, xP0_1 hS, xP0_2 hS, xP0_3 hS, xP0_4 hS, xP0_5 hS, xP0_6 hS, xP0_7 hS, xP0_8 hS, xT73 hS, xP73_0 hS, xT74 hS, xL74 hS, xP73_1 hS, xT75 hS, xL75 hS, xP73_2 hS, xT76 hS, xL76 hS, xP73_3 hS, xT77 hS, xL77 hS, xT78 hS, xP78_0 hS, xT79 hS, xL79 hS, xT80 hS, xP80_0 hS, xP80_2 hS, xT81 hS, xL81 hS, xT82 hS, xL82 hS, xT83 hS, xL83 hS, xT84 hS, xL84 hS, xT85 hS, xL85 hS, wT hS hw, wP0 hS hw, wP2 hS hw, wP4 hS hw, wP7 hS hw, wP9 hS hw, wT1 hS hw, wL1 hS hw, wT2 hS hw, wL2 hS hw, wT3 hS hw, wL3 hS hw, wT4 hS hw, wL4 hS hw, wT5 hS hw, wL5 hS hw]
    rw [hR.1.2.2.2.1]
    generalize fatesM nest (N, s) s = Q at hR hr hF ⊢
    obtain ⟨g, c, st, t⟩ := hR
    refine ⟨_, rfl, ⟨?_, fun k hk => ?_, fun k hk => ?_, ?_⟩, ?_, fun a h1 h3 => by rw [rowS_n h1]; exact hJ a h1 h3⟩
    · obtain ⟨a0, a1, a2, a3, a4, a5, a6, a7⟩ := g
      unfold RelG
      simp only [rowS_s, rowS_n (show w + 3 ≠ w by omega), rowU_s, rowU_n (show (1 : Nat) ≠ 5 by decide), rowU_n (show (3 : Nat) ≠ 5 by decide), rowU_n (show (6 : Nat) ≠ 5 by decide), rowU_n (show (8 : Nat) ≠ 5 by decide), rowU_n (show (0 : Nat) ≠ 3 by decide), rowU_n (show (1 : Nat) ≠ 3 by decide), rowU_n (show (2 : Nat) ≠ 3 by decide), rowU_n (show (4 : Nat) ≠ 3 by decide), rowU_n (show (5 : Nat) ≠ 3 by decide), rowU_n (show (6 : Nat) ≠ 3 by decide), rowU_n (show (7 : Nat) ≠ 3 by decide)]
      exact ⟨a0, a1, a2, trivial, a4, a5, a6, a7⟩
    · rw [rowS_n (show w + 6 + k ≠ w by omega), rowU_n (by omega), rowU_n (by omega), rowU_n (by omega), rowU_n (by omega)]; exact c k hk
    · rw [rowS_n (show w + 14 + k ≠ w by omega), rowU_n (by omega), rowU_n (by omega), rowU_n (by omega)]; exact st k hk
    · exact t.congr (fun j hj => rowU_n (by omega)) (fun a ha => rowS_n (by omega))
    · exact GR_keep hr (fun j hj => rowU_n (by omega)) (fun s hs u hu => rowU_n (by omega))
  | succ d ih =>
    intro s fu J hs hf hR hr hJ
    obtain ⟨fu, rfl⟩ : ∃ m, fu = m + 1 := ⟨fu - 1, by omega⟩
    have hF : FI N ns (fatesM nest (N, ns) s) := fates_FI ⟨h2, h10, Nat.le_refl _, fun _ _ => rfl⟩ s (by omega)
    have ih := fun J' => ih (s + 1) fu J' (by omega) (by omega)
    rw [fatesM_s] at ih
    rw [f_X8_live_14, if_neg (nI_ge (by omega) (by omega))]
    simp only [gt_self, gd_t, lp_some, st_d, nm_d, on_none, on_some, cl_some, mI_mk, mX_mk, setI_mk, u2_row, rowS_s, rowU_s, xT0 hS, xP0_0 hS, xP0_1 hS, xP0_2 hS, xP0_3 hS, xP0_4 hS, xP0_5 hS, xP0_6 hS, xP0_7 hS, xP0_8 hS, xT73 hS, xP73_0 hS, xT74 hS, xL74 hS, xP73_1 hS, xT75 hS, xL75 hS, xP73_2 hS, xT76 hS, xL76 hS, xP73_3 hS, xT77 hS, xL77 hS, xT78 hS, xP78_0 hS, xT79 hS, xL79 hS, xT80 hS, xP80_0 hS, xP80_2 hS, xT81 hS, xL81 hS, xT82 hS, xL82 hS, xT83 hS, xL83 hS, xT84 hS, xL84 hS, xT85 hS, xL85 hS, wT hS hw, wP0 hS hw, wP2 hS hw, wP4 hS hw, wP7 hS hw, wP9 hS hw, wT1 hS hw, wL1 hS hw, wT2 hS hw, wL2 hS hw, wT3 hS hw, wL3 hS hw, wT4 hS hw, wL4 hS hw, wT5 hS hw, wL5 hS hw]
    rw [gd_ok (ib_nI (by omega) (by decide)), nI_clamp (by omega)]
    simp only [wPs hS hw (show s < 10 by omega), wTs hS hw (show s < 10 by omega), gt_self, gd_t, lp_some, st_d, nm_d, on_none, on_some, cl_some, mI_mk, mX_mk, setI_mk, u2_row, rowS_s, rowU_s, xT0 hS, xP0_0 hS, xP0_1 hS, xP0_2 hS, xP0_3 hS, xP0_4 hS, xP0_5 hS, xP0_6 hS, xP0_7 hS, xP0_8 hS, xT73 hS, xP73_0 hS, xT74 hS, xL74 hS, xP73_1 hS, xT75 hS, xL75 hS, xP73_2 hS, xT76 hS, xL76 hS, xP73_3 hS, xT77 hS, xL77 hS, xT78 hS, xP78_0 hS, xT79 hS, xL79 hS, xT80 hS, xP80_0 hS, xP80_2 hS, xT81 hS, xL81 hS, xT82 hS, xL82 hS, xT83 hS, xL83 hS, xT84 hS, xL84 hS, xT85 hS, xL85 hS, wT hS hw, wP0 hS hw, wP2 hS hw, wP4 hS hw, wP7 hS hw, wP9 hS hw, wT1 hS hw, wL1 hS hw, wT2 hS hw, wL2 hS hw, wT3 hS hw, wL3 hS hw, wT4 hS hw, wL4 hS hw, wT5 hS hw, wL5 hS hw]
    generalize fatesM nest (N, ns) s = Q at hR hr hF ih ⊢
    obtain ⟨q2, q10, qn, qk⟩ := hF
    have ha : awayN Q.1 s = decide (Q.1 (8 + 3 * s + 2) = 1) := rfl
    rw [(hR.2.2.1 s (by omega)).2.2]
    rcases (hr.2 s (by omega)).2.2 with h0 | h1
    · rw [h0] at ha ⊢
      have ha : awayN Q.1 s = false := by rw [ha]; rfl
      rw [if_pos rfl, gd_ok (ib_nI (by omega) (by decide)), hJ 74 (by omega) (by omega), hn s (by omega)]
      obtain ⟨K, eK, hK, rK, oK⟩ := Xfare hS hw hR hr q2 h8 q10 (show s < Q.2 by omega) ha (hnl s)
      rw [eK]
      simp only [gt_self, gd_t, lp_some, st_d, nm_d, on_none, on_some, cl_some, mI_mk, mX_mk, setI_mk, u2_row, rowS_s, rowU_s, xT0 hS, xP0_0 hS, xP0_1 hS, xP0_2 hS, xP0_3 hS, xP0_4 hS, xP0_5 hS, xP0_6 hS, xP0_7 hS, xP0_8 hS, xT73 hS, xP73_0 hS, xT74 hS, xL74 hS, xP73_1 hS, xT75 hS, xL75 hS, xP73_2 hS, xT76 hS, xL76 hS, xP73_3 hS, xT77 hS, xL77 hS, xT78 hS, xP78_0 hS, xT79 hS, xL79 hS, xT80 hS, xP80_0 hS, xP80_2 hS, xT81 hS, xL81 hS, xT82 hS, xL82 hS, xT83 hS, xL83 hS, xT84 hS, xL84 hS, xT85 hS, xL85 hS, wT hS hw, wP0 hS hw, wP2 hS hw, wP4 hS hw, wP7 hS hw, wP9 hS hw, wT1 hS hw, wL1 hS hw, wT2 hS hw, wL2 hS hw, wT3 hS hw, wL3 hS hw, wT4 hS hw, wL4 hS hw, wT5 hS hw, wL5 hS hw]
      rw [nI_1]
      exact ih K hK rK (fun a h1 h3 => (oK a h1 h3).trans (hJ a h1 h3))
    · rw [h1] at ha ⊢
      have ha : awayN Q.1 s = true := by rw [ha]; rfl
      rw [if_neg (by decide), nI_1]
      have hfar : fareM nest s Q = Q := by unfold fareM; rw [if_pos ha]
      rw [hfar] at ih
      exact ih J hR hr hJ
/-- a year on a world that the spring has looked at -/
theorem Xlive (hS : LaS S) (hw : isW w) (hR : RelW I X S w N nc ns nt) (hG : GN N nc ns nt) (hr : GR N nc ns) (hL : LkX I N nc nt) :
    ∃ J, f_X8_live (I, X, S) w 73 = some ((), (J, X, S)) ∧ RelW J X S w (yearM N nc ns nt).1 nc (yearM N nc ns nt).2 nt ∧ GR (yearM N nc ns nt).1 nc (yearM N nc ns nt).2 ∧ LkX J (yearM N nc ns nt).1 nc nt ∧ ∀ a, a ≠ 74 → a ≠ 75 → a ≠ w → (a < w + 14 ∨ w + 24 ≤ a) → J a = I a := by
  have hlt := hw.lt
  have h8 := hG.2.1
  have h10 := hG.2.2.2.1
  rw [f_X8_live]
  simp only [gt_self, gd_t, lp_some, st_d, nm_d, on_none, on_some, cl_some, mI_mk, mX_mk, setI_mk, u2_row, rowS_s, rowU_s, xT0 hS, xP0_0 hS, xP0_1 hS, xP0_2 hS, xP0_3 hS, xP0_4 hS, xP0_5 hS, xP0_6 hS, xP0_7 hS, xP0_8 hS, xT73 hS, xP73_0 hS, xT74 hS, xL74 hS, xP73_1 hS, xT75 hS, xL75 hS, xP73_2 hS, xT76 hS, xL76 hS, xP73_3 hS, xT77 hS, xL77 hS, xT78 hS, xP78_0 hS, xT79 hS, xL79 hS, xT80 hS, xP80_0 hS, xP80_2 hS, xT81 hS, xL81 hS, xT82 hS, xL82 hS, xT83 hS, xL83 hS, xT84 hS, xL84 hS, xT85 hS, xL85 hS, wT hS hw, wP0 hS hw, wP2 hS hw, wP4 hS hw, wP7 hS hw, wP9 hS hw, wT1 hS hw, wL1 hS hw, wT2 hS hw, wL2 hS hw, wT3 hS hw, wL3 hS hw, wT4 hS hw, wL4 hS hw, wT5 hS hw, wL5 hS hw]
  obtain ⟨J, eJ, sJ, oJ⟩ := Xsettle hS hw hR hG hr hL shX_no
  rw [eJ]
  simp only [gt_self, gd_t, lp_some, st_d, nm_d, on_none, on_some, cl_some, mI_mk, mX_mk, setI_mk, u2_row, rowS_s, rowU_s, xT0 hS, xP0_0 hS, xP0_1 hS, xP0_2 hS, xP0_3 hS, xP0_4 hS, xP0_5 hS, xP0_6 hS, xP0_7 hS, xP0_8 hS, xT73 hS, xP73_0 hS, xT74 hS, xL74 hS, xP73_1 hS, xT75 hS, xL75 hS, xP73_2 hS, xT76 hS, xL76 hS, xP73_3 hS, xT77 hS, xL77 hS, xT78 hS, xP78_0 hS, xT79 hS, xL79 hS, xT80 hS, xP80_0 hS, xP80_2 hS, xT81 hS, xL81 hS, xT82 hS, xL82 hS, xT83 hS, xL83 hS, xT84 hS, xL84 hS, xT85 hS, xL85 hS, wT hS hw, wP0 hS hw, wP2 hS hw, wP4 hS hw, wP7 hS hw, wP9 hS hw, wT1 hS hw, wL1 hS hw, wT2 hS hw, wL2 hS hw, wT3 hS hw, wL3 hS hw, wT4 hS hw, wL4 hS hw, wT5 hS hw, wL5 hS hw]
  have hRJ : RelW J X S w N nc ns nt := hR.same h8 h10 (fun a ha => oJ a (by unfold ownW at ha; omega) (by unfold ownW at ha; omega))
  rw [hRJ.1.2.2.1, hG.2.2.1]
  obtain ⟨K, eK, hK, rK, oK⟩ := XliveLoop (I := J) (nest := (springM N nc ns nt noSh).2.2) hS hw hG.2.2.1 h8 h10 sJ.1 (fun s c h => okSpring.2.1 s c h) ns 0 FU J (by omega) (FU_ge (by omega)) hRJ hr (fun _ _ _ => rfl)
  have hy := year_FI (nc := nc) (nt := nt) hG.2.2.1 h10
  refine ⟨K, eK, hK, rK, ?_, fun a h1 h2 h3 h4 => (oK a h3 h4).trans (oJ a h1 h2)⟩
  refine LkX.congr (LkX.same hL ((oK 76 (by omega) (by omega)).trans (oJ 76 (by decide) (by decide))) ((oK 77 (by omega) (by omega)).trans (oJ 77 (by decide) (by decide)))) (fun j hj => hy.2.2.2.1 j (by unfold keepJ; omega) (by omega))
end XYear
