/-! A LAW joins a world; new objects -/
section Grow
variable {I I' : Nat → Nat → Int32} {X X' : Nat → Nat → Option Nat} {S S' : Sta} {w : Nat} {N N' : Nat → Int32} {nc ns nt : Nat}
/-- below the places that there were, all is as it was -/
def Gro (S S' : Sta) : Prop := S.2.2.2 ≤ S'.2.2.2 ∧ ∀ a, a < S.2.2.2 → (∀ j, S'.1 a j = S.1 a j) ∧ S'.2.1 a = S.2.1 a ∧ S'.2.2.1 a = S.2.2.1 a
theorem LaS.grow (h : LaS S) (g : Gro S S') : LaS S' := ⟨fun k hk => by
  obtain ⟨g1, g2, g3⟩ := g.2 k (by have := h.2; omega)
  exact ⟨g2.trans (h.1 k hk).1, g3.trans (h.1 k hk).2.1, fun j => (g1 j).trans ((h.1 k hk).2.2 j)⟩, by have := h.2; have := g.1; omega⟩
theorem Wld.grow (h : Wld I X S w N nc ns nt) (hS : LaS S) (hw : isW w) (g : Gro S S') (hI : ∀ a, a < S.2.2.2 → ownW w a → I' a = I a) (hX : ∀ t, t < nt → X' (w + 4) t = X (w + 4) t) : Wld I' X' S' w N nc ns nt := by
  have hlt := hw.lt
  have h114 := hS.2
  obtain ⟨⟨q, c, st, t⟩, gn, gr, yr, tb⟩ := h
  have h8 := gn.2.1
  have h10 := gn.2.2.2.1
  have own : ∀ a, a < 114 → ownW w a → I' a = I a := fun a ha hb => hI a (by omega) hb
  refine ⟨⟨?_, fun k hk => ?_, fun k hk => ?_, fun k hk => ?_⟩, gn, gr, yr, fun k hk b hb => ?_⟩
  · unfold RelG
    rw [own w (by omega) (Or.inl rfl), own (w + 3) (by omega) (Or.inr (Or.inl rfl))]
    exact q
  · rw [own (w + 6 + k) (by omega) (Or.inr (Or.inr (Or.inl ⟨by omega, by omega⟩)))]; exact c k hk
  · rw [own (w + 14 + k) (by omega) (Or.inr (Or.inr (Or.inl ⟨by omega, by omega⟩)))]; exact st k hk
  · obtain ⟨b, hb, hTx⟩ := t k hk
    obtain ⟨b1, b2⟩ := tb k hk b hb
    obtain ⟨x1, x2, x3, x4, a, x5, x6, x7, x8, x9⟩ := hTx
    obtain ⟨g1, g2, g3⟩ := g.2 b b1
    have ha := b2 a x5
    obtain ⟨a1, a2, a3⟩ := g.2 a ha
    refine ⟨b, (hX k hk).trans hb, x1, g2.trans x2, ?_, ?_, a, (g1 2).trans x5, x6, a2.trans x7, a3.trans x8, fun j hj => ?_⟩
    · rw [hI b b1 (Or.inr (Or.inr (Or.inr x1)))]; exact x3
    · rw [hI b b1 (Or.inr (Or.inr (Or.inr x1)))]; exact x4
    · rw [hI a ha (Or.inr (Or.inr (Or.inr x6)))]; exact x9 j hj
  · rw [hX k hk] at hb
    obtain ⟨b1, b2⟩ := tb k hk b hb
    have := g.1
    exact ⟨by omega, fun a ha => by rw [(g.2 b b1).1] at ha; have := b2 a ha; omega⟩
theorem Wld.ext1 (h : Wld I X S 1 N nc ns nt) (hnt : nt < 14) (hN : ∀ j, j < 1442 → j ≠ 7 → j ≠ 70 + 2 * nt → j ≠ 70 + 2 * nt + 1 → (j < 98 + 96 * nt ∨ 98 + 96 * nt + 96 ≤ j) → N' j = N j) (h7 : N' 7 = nI (nt + 1)) {key m : Nat} {cd : Nat → Int32} (hk3 : key < 3) (hm : m ≤ 92) (h70 : N' (70 + 2 * nt) = nI (1000 * key + m)) (hcd : ∀ k, k < m → N' (98 + 96 * nt + k) = cd k) (hok : okM (nnK key) cd m) (hI : ∀ a, ownW 1 a → a ≠ 1 → I' a = I a) (hI1 : ∀ j, j ≠ 8 → I' 1 j = I 1 j) (h18 : I' 1 8 = nI (nt + 1)) (hX : ∀ t, t < nt → X' 5 t = X 5 t) {b : Nat} (hXn : X' 5 nt = some b) (hT : TxO I' S b key m (N' (70 + 2 * nt + 1)) cd) (hb : b < S.2.2.2) (hba : ∀ a, S.1 b 2 = some a → a < S.2.2.2) : Wld I' X' S 1 N' nc ns (nt + 1) := by
  obtain ⟨⟨q, c, st, t⟩, gn, gr, yr, tb⟩ := h
  have h8 := gn.2.1
  have h10 := gn.2.2.2.1
  have hG := gn.2.2.2.2.2.2
  have he : ∀ j, j < 70 → j ≠ 7 → N' j = N j := fun j hj h7 => hN j (by omega) h7 (by omega) (by omega) (by omega)
  have e70 : ∀ t, t < nt → N' (70 + 2 * t) = N (70 + 2 * t) ∧ N' (70 + 2 * t + 1) = N (70 + 2 * t + 1) := fun t ht => ⟨hN _ (by omega) (by omega) (by omega) (by omega) (by omega), hN _ (by omega) (by omega) (by omega) (by omega) (by omega)⟩
  have ek : ∀ t, t < nt → kyN N' t = kyN N t := fun t ht => by unfold kyN; rw [(e70 t ht).1]
  have ec : ∀ t, t < nt → cdN N' t = cdN N t := fun t ht => by unfold cdN; rw [(e70 t ht).1]
  have es : ∀ t, t < nt → ∀ k, k < cdN N t → sgN N' t k = sgN N t k := fun t ht k hk => by
    have := (hG t ht).2.2.2.2
    unfold sgN
    exact hN _ (by omega) (by omega) (by omega) (by omega) (Or.inl (by omega))
  have kn : kyN N' nt = key := by unfold kyN; rw [h70, nI_clamp (by omega)]; omega
  have cn : cdN N' nt = m := by unfold cdN; rw [h70, nI_clamp (by omega)]; omega
  have own : ∀ a, ownW 1 a → a ≠ 1 → I' a = I a := hI
  refine ⟨⟨?_, fun k hk => ?_, fun k hk => ?_, fun k hk => ?_⟩, ⟨?_, h8, ?_, h10, h7, by omega, fun k hk => ?_⟩, ⟨fun k hk => ?_, fun k hk => ?_⟩, ?_, fun k hk x hx => ?_⟩
  · unfold RelG at q ⊢
    rw [hI1 6 (by decide), hI1 1 (by decide), hI1 3 (by decide), hI1 5 (by decide), h18, h7, own (1 + 3) (Or.inr (Or.inl rfl)) (by decide), he 0 (by decide) (by decide), he 1 (by decide) (by decide), he 2 (by decide) (by decide), he 3 (by decide) (by decide), he 4 (by decide) (by decide), he 5 (by decide) (by decide), he 6 (by decide) (by decide)]
    exact ⟨q.1, q.2.1, q.2.2.1, q.2.2.2.1, q.2.2.2.2.1, q.2.2.2.2.2.1, q.2.2.2.2.2.2.1, rfl⟩
  · rw [own (1 + 6 + k) (Or.inr (Or.inr (Or.inl ⟨by omega, by omega⟩))) (by omega), he _ (by omega) (by omega), he _ (by omega) (by omega), he _ (by omega) (by omega), he _ (by omega) (by omega)]; exact c k hk
  · rw [own (1 + 14 + k) (Or.inr (Or.inr (Or.inl ⟨by omega, by omega⟩))) (by omega), he _ (by omega) (by omega), he _ (by omega) (by omega), he _ (by omega) (by omega)]; exact st k hk
  · by_cases e : k = nt
    · subst e
      refine ⟨b, hXn, ?_⟩
      rw [kn, cn]
      obtain ⟨x1, x2, x3, x4, a, x5, x6, x7, x8, x9⟩ := hT
      exact ⟨x1, x2, x3, x4, a, x5, x6, x7, x8, fun j hj => ⟨(x9 j hj).1, (hcd j hj).trans (x9 j hj).2⟩⟩
    · have hk : k < nt := by omega
      obtain ⟨x, hx, hTx⟩ := t k hk
      refine ⟨x, (hX k hk).trans hx, ?_⟩
      rw [ek k hk, ec k hk, (e70 k hk).2]
      obtain ⟨x1, x2, x3, x4, a, x5, x6, x7, x8, x9⟩ := hTx
      exact ⟨x1, x2, by rw [own x (Or.inr (Or.inr (Or.inr x1))) (by omega)]; exact x3, by rw [own x (Or.inr (Or.inr (Or.inr x1))) (by omega)]; exact x4, a, x5, x6, x7, x8, fun j hj => by rw [own a (Or.inr (Or.inr (Or.inr x6))) (by omega)]; exact ⟨(x9 j hj).1, (es k hk j hj).trans (x9 j hj).2⟩⟩
  · rw [he _ (by decide) (by decide)]; exact gn.1
  · rw [he _ (by decide) (by decide)]; exact gn.2.2.1
  · by_cases e : k = nt
    · subst e
      rw [kn, cn, h70]
      exact ⟨hk3, rfl, okM_congr hok hcd⟩
    · have hk : k < nt := by omega
      have q := hG k hk
      rw [ek k hk, ec k hk, (e70 k hk).1]
      exact ⟨q.1, q.2.1, okM_congr q.2.2 (es k hk)⟩
  · rw [he _ (by omega) (by omega), he _ (by omega) (by omega), he _ (by omega) (by omega), he _ (by omega) (by omega)]; exact gr.1 k hk
  · rw [he _ (by omega) (by omega), he _ (by omega) (by omega), he _ (by omega) (by omega)]; exact gr.2 k hk
  · rw [he _ (by decide) (by decide)]; exact yr
  · by_cases e : k = nt
    · subst e
      have hx : X' 5 k = some x := hx
      rw [hXn] at hx
      cases hx
      exact ⟨hb, hba⟩
    · have hx : X' 5 k = some x := hx
      rw [hX k (by omega)] at hx
      exact tb k (by omega) x hx
end Grow
/-! what the tape, and the reader, leave -/
theorem Sm.tape0 {I I' : Nat → Nat → Int32} {X : Nat → Nat → Option Nat} {S : Sta} {J J' : Nat → Nat → Int32} {nc ns nt : Nat} (h : Sm I X S J nc ns nt) (fx : FX I I') (fy : FY J J') : Sm (rowS I' 78 (rowU (I' 78) 1 0)) X S (rowS J' 0 (rowU (J' 0) 10 0)) nc ns nt := by
  have hI : ∀ x, x ≠ 78 → x ≠ 80 → x ≠ 81 → x ≠ 82 → rowS I' 78 (rowU (I' 78) 1 0) x = I x := fun x a b c d => by rw [rowS_n a]; exact fx x b c d
  have hJ : ∀ x, x ≠ 0 → x ≠ 11 → x ≠ 12 → x ≠ 13 → rowS J' 0 (rowU (J' 0) 10 0) x = J x := fun x a b c d => by rw [rowS_n a]; exact fy.1 x a b c d
  have hJ0 : ∀ j, (j < 10 ∨ 24 ≤ j) → rowS J' 0 (rowU (J' 0) 10 0) 0 j = J 0 j := fun j hj => by rw [rowS_s, rowU_n (by omega)]; exact fy.2 j (by omega)
  refine ⟨h.w.same (fun x hx => by unfold ownW at hx; exact hI x (by omega) (by omega) (by omega) (by omega)) rfl (hJ 1 (by decide) (by decide) (by decide) (by decide)), h.rs.la, h.rs.im.same (fun x hx => by unfold ownW at hx; exact hI x (by omega) (by omega) (by omega) (by omega)) rfl (by rw [hI 0 (by decide) (by decide) (by decide) (by decide)]) (hJ0 3 (by decide)) (hJ 2 (by decide) (by decide) (by decide) (by decide)), ?_, by rw [hJ 9 (by decide) (by decide) (by decide) (by decide)]; exact h.rs.k9, by rw [hJ 10 (by decide) (by decide) (by decide) (by decide)]; exact h.rs.k10, ⟨0, by decide, by rw [rowS_s, rowU_s]; rfl, by rw [rowS_s, rowU_s]; rfl, fun k hk => absurd hk (Nat.not_lt_zero k)⟩, h.rs.wt.same (by rw [hI 0 (by decide) (by decide) (by decide) (by decide)]) (hI 85 (by decide) (by decide) (by decide) (by decide)) (hJ0 36 (by decide)) (hJ 24 (by decide) (by decide) (by decide) (by decide)), fun k hk => (h.rs.sh k hk).same (hI _ (by omega) (by omega) (by omega) (by omega)) (hI _ (by omega) (by omega) (by omega) (by omega)) (fun x h1 h2 => hJ x (by omega) (by omega) (by omega) (by omega)), fun k hk => (h.rs.sl k hk).same (fun x h1 h2 => hI x (by omega) (by omega) (by omega) (by omega)) (fun x h1 h2 => hJ x (by omega) (by omega) (by omega) (by omega))⟩
  unfold spNo
  rw [hJ0 4 (by decide)]
  exact h.rs.no
/-! new objects -/
theorem nw_d {α : Type} {M : Mem} {t len : Nat} {f : Mem → Nat → Option α} : nw M t len f = f (newO M t len) (mN M) := Eq.trans rfl rfl
theorem mI_new {M : Mem} {t len a : Nat} (h : a < mN M) : mI (newO M t len) a = mI M a := funext (fun j => if_neg (show ¬ a = M.2.2.2.2.2 by have : mN M = M.2.2.2.2.2 := rfl; omega))
theorem mX_new {M : Mem} {t len a : Nat} (h : a < mN M) : mX (newO M t len) a = mX M a := funext (fun j => if_neg (show ¬ a = M.2.2.2.2.2 by have : mN M = M.2.2.2.2.2 := rfl; omega))
theorem mP_new {M : Mem} {t len a : Nat} (h : a < mN M) : mP (newO M t len) a = mP M a := funext (fun j => if_neg (show ¬ a = M.2.2.2.2.2 by have : mN M = M.2.2.2.2.2 := rfl; omega))
theorem mT_new {M : Mem} {t len a : Nat} (h : a < mN M) : mT (newO M t len) a = mT M a := if_neg (show ¬ a = M.2.2.2.2.2 by have : mN M = M.2.2.2.2.2 := rfl; omega)
theorem mL_new {M : Mem} {t len a : Nat} (h : a < mN M) : mL (newO M t len) a = mL M a := if_neg (show ¬ a = M.2.2.2.2.2 by have : mN M = M.2.2.2.2.2 := rfl; omega)
theorem mT_new0 {M : Mem} {t len : Nat} : mT (newO M t len) (mN M) = t := if_pos rfl
theorem mL_new0 {M : Mem} {t len : Nat} : mL (newO M t len) (mN M) = len := if_pos rfl
theorem mN_new {M : Mem} {t len : Nat} : mN (newO M t len) = mN M + 1 := Eq.trans rfl rfl
theorem XcopyOf {M : Mem} {a m : Nat} (ha : a < mN M) (hT : mT M a = 20) (hL : mL M a = 96) (hm : m ≤ 92) : ∃ M', f_J7_copyOf_59c91 M a (nI m) = some (mN M, M') ∧ mN M' = mN M + 1 ∧ mT M' (mN M) = 20 ∧ mL M' (mN M) = m ∧ (∀ k, k < m → mI M' (mN M) k = mI M a k) ∧ ∀ x, x < mN M → mI M' x = mI M x ∧ mX M' x = mX M x ∧ mP M' x = mP M x ∧ mT M' x = mT M x ∧ mL M' x = mL M x := by
  rw [f_J7_copyOf_59c91, gt_ok hT, hL, if_neg (fun q => by have := (nI_eq (a := m) (b := 96) (by omega) (by decide)).mp q; omega), gd_ok (by rw [Bool.and_eq_true, decide_eq_true_eq, decide_eq_true_eq, nI_clamp (by omega)]; exact ⟨nI_pos' (by omega), by omega⟩), nw_d, nI_clamp (by omega), mL_new ha, hL, mL_new0]
  have e1 : imin (nI 96) (nI m) = nI m := by unfold imin; rw [if_pos (nI_lt (by omega) (by decide))]
  rw [e1, nI_clamp (by omega), tn0, gd_ok (by
    rw [Bool.and_eq_true, Bool.and_eq_true, Bool.and_eq_true, Bool.and_eq_true, decide_eq_true_eq, decide_eq_true_eq, decide_eq_true_eq, decide_eq_true_eq]
    exact ⟨⟨⟨⟨by decide, by decide⟩, nI_pos' (by omega)⟩, by omega⟩, by omega⟩), st_d]
  refine ⟨_, rfl, ?_, ?_, ?_, fun k hk => ?_, fun x hx => ⟨?_, ?_, ?_, ?_, ?_⟩⟩
  · exact mN_new
  · exact mT_new0
  · exact mL_new0
  · show (if mN M = mN M then va_cpy (fun j => mI (newO M 20 m) a j) (fun j => mI (newO M 20 m) (mN M) j) 0 0 m k else _) = _
    rw [if_pos rfl, pk_cpy_in (by omega) (by omega), mI_new ha, Nat.zero_add, Nat.sub_zero]
  · funext j
    show (if x = mN M then _ else mI (newO M 20 m) x j) = _
    rw [if_neg (by omega), mI_new hx]
  · exact mX_new hx
  · exact mP_new hx
  · exact mT_new hx
  · exact mL_new hx
theorem Xread {I : Nat → Nat → Int32} {X : Nat → Nat → Option Nat} {S : Sta} (hS : LaS S) {m : Nat} (hm : m ≤ 92) (h1 : I 80 1 = nI m) : ∃ I' X' S', f_X1_read (I, X, S) 80 = some (S.2.2.2, (I', X', S')) ∧ Gro S S' ∧ S'.2.2.2 = S.2.2.2 + 2 ∧ (∀ x, x < S.2.2.2 → I' x = I x ∧ X' x = X x) ∧ S'.2.1 S.2.2.2 = 8 ∧ I' S.2.2.2 0 = I 80 4 ∧ I' S.2.2.2 1 = I 80 5 ∧ S'.1 S.2.2.2 2 = some (S.2.2.2 + 1) ∧ S'.2.1 (S.2.2.2 + 1) = 20 ∧ S'.2.2.1 (S.2.2.2 + 1) = m ∧ ∀ k, k < m → I' (S.2.2.2 + 1) k = I 81 k := by
  have h114 := hS.2
  have hN : mN (I, X, S) = S.2.2.2 := rfl
  rw [f_X1_read, gt_ok (xT80 hS), nw_d, hN]
  have k80 : 80 < mN (I, X, S) := by rw [hN]; omega
  have k81 : 81 < mN (I, X, S) := by rw [hN]; omega
  rw [mP_new k80, xP80_0 hS, lp_some, mT_new k81, gt_ok (xT81 hS), mI_new k80, mI_mk, h1]
  obtain ⟨M2, e2, n2, t2, l2, c2, o2⟩ := XcopyOf (M := newO (I, X, S) 8 0) (a := 81) (m := m) (by rw [mN_new]; omega) (by rw [mT_new k81]; exact xT81 hS) (by rw [mL_new k81]; exact xL81 hS) hm
  rw [mN_new, hN] at e2 n2 t2 l2 c2 o2
  have o8 := o2 S.2.2.2 (by omega)
  rw [e2]
  simp only [cl_some]
  rw [gd_ok (decide_eq_true (by rw [n2]; omega)), gt_ok (by rw [o8.2.2.2.1]; exact mT_new0), gt_ok t2, f_X7_init, gt_ok (by rw [o8.2.2.2.1]; exact mT_new0)]
  simp only [st_d, mT_setI]
  rw [gt_ok t2]
  simp only [cl_some]
  rw [gd_ok (decide_eq_true (show S.2.2.2 ≤ mN (setP (setI (setI M2 S.2.2.2 0 (I 80 4)) S.2.2.2 1 (I 80 5)) S.2.2.2 2 (S.2.2.2 + 1)) from by show S.2.2.2 ≤ mN M2; rw [n2]; omega))]
  have ox : ∀ x, x < S.2.2.2 → mI M2 x = I x ∧ mX M2 x = X x ∧ mP M2 x = S.1 x ∧ mT M2 x = S.2.1 x ∧ mL M2 x = S.2.2.1 x := fun x hx => by
    obtain ⟨a1, a2, a3, a4, a5⟩ := o2 x (by omega)
    have hx' : x < mN (I, X, S) := hx
    exact ⟨a1.trans (mI_new hx'), a2.trans (mX_new hx'), a3.trans (mP_new hx'), a4.trans (mT_new hx'), a5.trans (mL_new hx')⟩
  refine ⟨mI (setI (setI M2 S.2.2.2 0 (I 80 4)) S.2.2.2 1 (I 80 5)), mX M2, (setP (setI (setI M2 S.2.2.2 0 (I 80 4)) S.2.2.2 1 (I 80 5)) S.2.2.2 2 (S.2.2.2 + 1)).2.2, rfl, ⟨by show S.2.2.2 ≤ mN M2; rw [n2]; omega, fun a ha => ⟨fun j => ?_, (ox a ha).2.2.2.1, (ox a ha).2.2.2.2⟩⟩, n2, fun x hx => ⟨?_, (ox x hx).2.1⟩, ?_, ?_, ?_, ?_, t2, l2, fun k hk => ?_⟩
  · show (if a = S.2.2.2 ∧ j = 2 then some (S.2.2.2 + 1) else mP M2 a j) = _
    rw [if_neg (fun q => by omega), (ox a ha).2.2.1]
  · rw [mI_setI, mI_setI, u2_row, rowS_n (by omega), u2_row, rowS_n (by omega)]; exact (ox x hx).1
  · show mT M2 S.2.2.2 = 8
    rw [o8.2.2.2.1]; exact mT_new0
  · rw [mI_setI, mI_setI, u2_row, rowS_s, rowU_n (by decide), u2_row, rowS_s, rowU_s]
  · rw [mI_setI, mI_setI, u2_row, rowS_s, rowU_s]
  · show (if S.2.2.2 = S.2.2.2 ∧ 2 = 2 then some (S.2.2.2 + 1) else _) = _
    rw [if_pos ⟨rfl, rfl⟩]
  · rw [mI_setI, mI_setI, u2_row, rowS_n (by omega), u2_row, rowS_n (by omega), c2 k hk, mI_new k81, mI_mk]
