/-! THE REFERENCE's spring, seats, election, years -/
def mostV (L : Nat → Int32) (o : Option Nat) : Int32 := match o with
  | none => 0
  | some b => L b
theorem RchoiceLoop {I : Nat → Nat → Int32} {nc ns nt s : Nat} {guest : Nat → Option Nat} {sh : Nat → Bool} (hG : GN (I 1) nc ns nt) (hs : s < 10) (hg : ∀ c, c < 8 → I 4 c = encR (guest c)) (hgl : ∀ c b, guest c = some b → b < 10) (hsh : ∀ c, c < 8 → (nI c = I 0 4 ↔ sh c = true)) :
    ∀ (d c fu : Nat) (J : Nat → Nat → Int32), c + d = nc → d < fu → (∀ a, a ≠ 14 → a ≠ 15 → J a = I a) →
    ∃ J', f_X10_choiceOf_7 fu (J, YZ) 0 (nI s) (encR (chM (LN (I 1) nt s) (I 1 4) (fun c => (guest c).isNone && !sh c) c)) (mostV (LN (I 1) nt s) (chM (LN (I 1) nt s) (I 1 4) (fun c => (guest c).isNone && !sh c) c)) (nI c) = some (encR (chM (LN (I 1) nt s) (I 1 4) (fun c => (guest c).isNone && !sh c) nc), (J', YZ)) ∧ ∀ a, a ≠ 14 → a ≠ 15 → J' a = I a := by
  have h8 := hG.2.1
  intro d
  induction d with
  | zero =>
    intro c fu J hc hf hJ
    obtain ⟨fu, rfl⟩ : ∃ m, fu = m + 1 := ⟨fu - 1, by omega⟩
    have hc : c = nc := by omega
    subst hc
    refine ⟨J, ?_, hJ⟩
    rw [f_X10_choiceOf_7]
    simp only [gt_self, gd_t, lp_some, st_d, nm_d, on_none, on_some, cl_some, mI_mk, mX_mk, setI_mk, u2_row, rowS_s, rowU_s, yT0, yP0, yT1, yL1, yP1, yT2, yL2, yP2, yT3, yL3, yP5, yT4, yL4, yP6, yT5, yL5, yP7, yT6, yL6, yP8, yT7, yL7, yP9, yT8, yL8, yP17, yT9, yL9, yP18, yT10, yL10, yP19, yT11, yL11, yP22, yT12, yL12, yP24, yT13, yL13, yP25, yT14, yL14, yP26, yT15, yL15, yP27, yT16, yL16, yP28, yT17, yL17, yP29, yT18, yL18, yP30, yT19, yL19, yP31, yT20, yL20, yP32, yT21, yL21, yP33, yT22, yL22, yP34, yT23, yL23, yP35, yT24, yL24, il1 (show 1 < 1442 by decide), tn1]
    rw [hJ 1 (by decide) (by decide), hG.1, if_pos (nI_le (Nat.le_refl _) (by omega))]
  | succ d ih =>
    intro c fu J hc hf hJ
    obtain ⟨fu, rfl⟩ : ∃ m, fu = m + 1 := ⟨fu - 1, by omega⟩
    have ih := fun J' hJ' => ih (c + 1) fu J' (by omega) (by omega) hJ'
    have e1 := hJ 1 (by decide) (by decide)
    have e4 := hJ 4 (by decide) (by decide)
    have e0 := hJ 0 (by decide) (by decide)
    have hb : ∀ b, chM (LN (I 1) nt s) (I 1 4) (fun c => (guest c).isNone && !sh c) c = some b → b < 8 := fun b hb => by have := (ch_lt hb).1; omega
    rw [f_X10_choiceOf_7]
    simp only [gt_self, gd_t, lp_some, st_d, nm_d, on_none, on_some, cl_some, mI_mk, mX_mk, setI_mk, u2_row, rowS_s, rowU_s, yT0, yP0, yT1, yL1, yP1, yT2, yL2, yP2, yT3, yL3, yP5, yT4, yL4, yP6, yT5, yL5, yP7, yT6, yL6, yP8, yT7, yL7, yP9, yT8, yL8, yP17, yT9, yL9, yP18, yT10, yL10, yP19, yT11, yL11, yP22, yT12, yL12, yP24, yT13, yL13, yP25, yT14, yL14, yP26, yT15, yL15, yP27, yT16, yL16, yP28, yT17, yL17, yP29, yT18, yL18, yP30, yT19, yL19, yP31, yT20, yL20, yP32, yT21, yL21, yP33, yT22, yL22, yP34, yT23, yL23, yP35, yT24, yL24, il1 (show 1 < 1442 by decide), tn1]
    rw [e1, hG.1, if_neg (nI_ge (by omega) (by omega)), gd_ok (ib_nI (by omega) (by decide)), nI_clamp (by omega), e4, hg c (by omega), e0, nI_1]
    rw [chM_s] at ih
    cases hgc : guest c with
    | some b =>
      rw [if_pos (encR_pos rfl (by have := hgl c b hgc; omega))]
      rw [if_neg (by simp [hgc])] at ih
      exact ih J hJ
    | none =>
      rw [if_neg (encR_n rfl)]
      cases hsc : sh c with
      | true =>
        rw [if_pos ((hsh c (by omega)).mpr hsc)]
        rw [if_neg (by simp [hsc])] at ih
        exact ih J hJ
      | false =>
        rw [if_neg (fun q => by rw [(hsh c (by omega)).mp q] at hsc; exact nomatch hsc)]
        obtain ⟨K, eK, hK⟩ := RlikesOf (I := J) (by rw [e1]; exact hG) hs (show c < 8 by omega)
        rw [eK]
        have hK1 : K 1 = I 1 := (hK 1 (by decide) (by decide)).trans e1
        have hKo : ∀ a, a ≠ 14 → a ≠ 15 → K a = I a := fun a h1 h2 => (hK a h1 h2).trans (hJ a h1 h2)
        simp only [gt_self, gd_t, lp_some, st_d, nm_d, on_none, on_some, cl_some, mI_mk, mX_mk, setI_mk, u2_row, rowS_s, rowU_s, yT0, yP0, yT1, yL1, yP1, yT2, yL2, yP2, yT3, yL3, yP5, yT4, yL4, yP6, yT5, yL5, yP7, yT6, yL6, yP8, yT7, yL7, yP9, yT8, yL8, yP17, yT9, yL9, yP18, yT10, yL10, yP19, yT11, yL11, yP22, yT12, yL12, yP24, yT13, yL13, yP25, yT14, yL14, yP26, yT15, yL15, yP27, yT16, yL16, yP28, yT17, yL17, yP29, yT18, yL18, yP30, yT19, yL19, yP31, yT20, yL20, yP32, yT21, yL21, yP33, yT22, yL22, yP34, yT23, yL23, yP35, yT24, yL24, il4 (show 4 < 1442 by decide), tn4, hK1, e1]
        have hL : likesM (I 1) nt c (homeM (I 1) s c) = LN (I 1) nt s c := rfl
        rw [hL]
        have ih := ih K hKo
        by_cases hp : LN (I 1) nt s c < I 1 4
        · rw [if_pos hp]
          rw [if_neg (fun q => Int32.not_le.mpr hp q.2)] at ih
          exact ih
        · rw [if_neg hp]
          rw [if_pos ⟨by simp [hgc, hsc], Int32.not_lt.mp hp⟩] at ih
          cases hq : chM (LN (I 1) nt s) (I 1 4) (fun c => (guest c).isNone && !sh c) c with
          | none =>
            rw [hq] at ih
            dsimp only at ih
            rw [if_pos (encR_neg rfl)]
            exact ih
          | some b =>
            rw [hq] at ih
            dsimp only at ih
            rw [if_neg (encR_s rfl (by have := hb b hq; omega))]
            by_cases h : LN (I 1) nt s c ≤ LN (I 1) nt s b
            · rw [if_pos (show LN (I 1) nt s c ≤ mostV (LN (I 1) nt s) (some b) from h)]
              rw [if_neg (Int32.not_lt.mpr h)] at ih
              exact ih
            · rw [if_neg (show ¬ LN (I 1) nt s c ≤ mostV (LN (I 1) nt s) (some b) from h)]
              rw [if_pos (Int32.not_le.mp h)] at ih
              exact ih
theorem RchoiceOf {I : Nat → Nat → Int32} {nc ns nt s : Nat} {guest : Nat → Option Nat} {sh : Nat → Bool} (hG : GN (I 1) nc ns nt) (hs : s < 10) (hg : ∀ c, c < 8 → I 4 c = encR (guest c)) (hgl : ∀ c b, guest c = some b → b < 10) (hsh : ∀ c, c < 8 → (nI c = I 0 4 ↔ sh c = true)) :
    ∃ J', f_X10_choiceOf (I, YZ) 0 (nI s) = some (encR (chM (LN (I 1) nt s) (I 1 4) (fun c => (guest c).isNone && !sh c) nc), (J', YZ)) ∧ ∀ a, a ≠ 14 → a ≠ 15 → J' a = I a := by
  rw [f_X10_choiceOf]
  exact RchoiceLoop hG hs hg hgl hsh nc 0 FU I (by omega) (FU_ge (by have := hG.2.1; omega)) (fun _ _ _ => rfl)
/-- the spring's rows in the reference's memory -/
def spY (I : Nat → Nat → Int32) (S : SP) : Prop := (∀ c, c < 8 → I 4 c = encR (S.2.1 c)) ∧ (∀ s, s < 10 → I 5 s = encR (S.2.2 s)) ∧ ∀ s, s < 10 → I 6 s = bI (S.1 s)
def scY (a : Nat) : Prop := a = 4 ∨ a = 5 ∨ a = 6 ∨ a = 14 ∨ a = 15
theorem RsprLoop {I : Nat → Nat → Int32} {nc ns nt : Nat} {sh : Nat → Bool} (hG : GN (I 1) nc ns nt) (hsh : ∀ c, c < 8 → (nI c = I 0 4 ↔ sh c = true)) :
    ∀ (k fu : Nat) (S : SP) (J : Nat → Nat → Int32), cntF (freeM (awayN (I 1)) S.1) ns ≤ k → k < fu → okSP nc ns S → spY J S → (∀ a, ¬ scY a → J a = I a) →
    ∃ J', f_X10_spring_54 fu (J, YZ) 0 (encR (strM (fun s => I 1 (8 + 3 * s)) (freeM (awayN (I 1)) S.1) ns)) = some ((), (J', YZ)) ∧ spY J' (sprM (fun s => I 1 (8 + 3 * s)) (awayN (I 1)) (LN (I 1) nt) (I 1 4) sh ns nc k S) ∧ ∀ a, ¬ scY a → J' a = I a := by
  have h10 := hG.2.2.2.1
  have h8 := hG.2.1
  intro k
  induction k with
  | zero =>
    intro fu S J hk hf hok hS hJ
    obtain ⟨fu, rfl⟩ : ∃ m, fu = m + 1 := ⟨fu - 1, by omega⟩
    refine ⟨J, ?_, hS, hJ⟩
    rw [str_no (cntF_0 (by omega)), f_X10_spring_54, if_pos (by decide)]
  | succ k ih =>
    intro fu S J hk hf hok hS hJ
    obtain ⟨fu, rfl⟩ : ∃ m, fu = m + 1 := ⟨fu - 1, by omega⟩
    rw [f_X10_spring_54]
    unfold sprM
    cases hq : strM (fun s => I 1 (8 + 3 * s)) (freeM (awayN (I 1)) S.1) ns with
    | none =>
      rw [if_pos (encR_neg rfl)]
      exact ⟨J, rfl, hS, hJ⟩
    | some s =>
      obtain ⟨hs, hfr⟩ := str_lt hq
      have hs10 : s < 10 := by omega
      rw [if_neg (encR_s rfl (by omega)), show encR (some s) = nI s from rfl]
      simp only [gt_self, gd_t, lp_some, st_d, nm_d, on_none, on_some, cl_some, mI_mk, mX_mk, setI_mk, u2_row, rowS_s, rowU_s, yT0, yP0, yT1, yL1, yP1, yT2, yL2, yP2, yT3, yL3, yP5, yT4, yL4, yP6, yT5, yL5, yP7, yT6, yL6, yP8, yT7, yL7, yP9, yT8, yL8, yP17, yT9, yL9, yP18, yT10, yL10, yP19, yT11, yL11, yP22, yT12, yL12, yP24, yT13, yL13, yP25, yT14, yL14, yP26, yT15, yL15, yP27, yT16, yL16, yP28, yT17, yL17, yP29, yT18, yL18, yP30, yT19, yL19, yP31, yT20, yL20, yP32, yT21, yL21, yP33, yT22, yL22, yP34, yT23, yL23, yP35, yT24, yL24]
      rw [gd_ok (ib_nI (by omega) (by decide)), nI_clamp (by omega)]
      have e1 : J 1 = I 1 := hJ 1 (by simp [scY])
      have e0 : J 0 = I 0 := hJ 0 (by simp [scY])
      obtain ⟨K, eK, hK⟩ := RchoiceOf (I := rowS J 6 (rowU (J 6) s 1)) (nc := nc) (ns := ns) (nt := nt) (s := s) (guest := S.2.1) (sh := sh) (by rw [rowS_n (by decide), e1]; exact hG) hs10 (fun c hc => by rw [rowS_n (by decide)]; exact hS.1 c hc) (fun c b hb => by have := hok.2.2 c b hb; omega) (by rw [rowS_n (by decide), e0]; exact hsh)
      rw [eK]
      have hK1 : rowS J 6 (rowU (J 6) s 1) 1 = I 1 := by rw [rowS_n (by decide), e1]
      have hK4 : K 4 = J 4 := by rw [hK 4 (by decide) (by decide), rowS_n (by decide)]
      have hK5 : K 5 = J 5 := by rw [hK 5 (by decide) (by decide), rowS_n (by decide)]
      have hK6 : K 6 = rowU (J 6) s 1 := by rw [hK 6 (by decide) (by decide), rowS_s]
      have hKo : ∀ a, ¬ scY a → K a = I a := fun a ha => by
        rw [hK a (fun q => ha (by simp [scY, q])) (fun q => ha (by simp [scY, q])), rowS_n (fun q => ha (by simp [scY, q]))]
        exact hJ a ha
      rw [hK1]
      simp only [gt_self, gd_t, lp_some, st_d, nm_d, on_none, on_some, cl_some, mI_mk, mX_mk, setI_mk, u2_row, rowS_s, rowU_s, yT0, yP0, yT1, yL1, yP1, yT2, yL2, yP2, yT3, yL3, yP5, yT4, yL4, yP6, yT5, yL5, yP7, yT6, yL6, yP8, yT7, yL7, yP9, yT8, yL8, yP17, yT9, yL9, yP18, yT10, yL10, yP19, yT11, yL11, yP22, yT12, yL12, yP24, yT13, yL13, yP25, yT14, yL14, yP26, yT15, yL15, yP27, yT16, yL16, yP28, yT17, yL17, yP29, yT18, yL18, yP30, yT19, yL19, yP31, yT20, yL20, yP32, yT21, yL21, yP33, yT22, yL22, yP34, yT23, yL23, yP35, yT24, yL24]
      rw [gd_ok (ib_nI (by omega) (by decide)), gd_ok (ib_nI (by omega) (by decide))]
      have hstep : stepSp (LN (I 1) nt) (I 1 4) sh nc S s = match chM (LN (I 1) nt s) (I 1 4) (fun c => (S.2.1 c).isNone && !sh c) nc with
        | none => (va_up S.1 s true, S.2.1, va_up S.2.2 s none)
        | some c => (va_up S.1 s true, va_up S.2.1 c (some s), va_up S.2.2 s (some c)) := rfl
      have hok1 := okSP_step (L := LN (I 1) nt) (pride := I 1 4) (sh := sh) hok hs
      have hcnt : cntF (freeM (awayN (I 1)) (stepSp (LN (I 1) nt) (I 1 4) sh nc S s).1) ns ≤ k := by
        rw [step_free]
        have hfr' := hfr
        have := cntF_up (f := freeM (awayN (I 1)) S.1) (g := freeM (awayN (I 1)) (va_up S.1 s true)) (s := s) (by simp [freeM, va_up]) (fun i hi => by simp [freeM, va_up, hi]) hs hfr'
        omega
      have ih := fun J' => ih fu (stepSp (LN (I 1) nt) (I 1 4) sh nc S s) J' hcnt (by omega) hok1
      generalize hS1 : stepSp (LN (I 1) nt) (I 1 4) sh nc S s = S1 at ih hstep ⊢
      have fin : ∀ J2 : Nat → Nat → Int32, spY J2 S1 → (∀ a, ¬ scY a → J2 a = I a) → ∃ J', f_X10_spring_97 (f_X10_spring_54 fu) (J2, YZ) 0 = some ((), (J', YZ)) ∧ spY J' (sprM (fun s => I 1 (8 + 3 * s)) (awayN (I 1)) (LN (I 1) nt) (I 1 4) sh ns nc k S1) ∧ ∀ a, ¬ scY a → J' a = I a := by
        intro J2 h1 h2
        rw [f_X10_spring_97]
        simp only [gt_self, gd_t, lp_some, st_d, nm_d, on_none, on_some, cl_some, mI_mk, mX_mk, setI_mk, u2_row, rowS_s, rowU_s, yT0, yP0, yT1, yL1, yP1, yT2, yL2, yP2, yT3, yL3, yP5, yT4, yL4, yP6, yT5, yL5, yP7, yT6, yL6, yP8, yT7, yL7, yP9, yT8, yL8, yP17, yT9, yL9, yP18, yT10, yL10, yP19, yT11, yL11, yP22, yT12, yL12, yP24, yT13, yL13, yP25, yT14, yL14, yP26, yT15, yL15, yP27, yT16, yL16, yP28, yT17, yL17, yP29, yT18, yL18, yP30, yT19, yL19, yP31, yT20, yL20, yP32, yT21, yL21, yP33, yT22, yL22, yP34, yT23, yL23, yP35, yT24, yL24]
        have e21 : J2 1 = I 1 := h2 1 (by simp [scY])
        rw [RnextStork (I := J2) (N := I 1) e21 hG.2.2.1 h10 h1.2.2]
        simp only [gt_self, gd_t, lp_some, st_d, nm_d, on_none, on_some, cl_some, mI_mk, mX_mk, setI_mk, u2_row, rowS_s, rowU_s, yT0, yP0, yT1, yL1, yP1, yT2, yL2, yP2, yT3, yL3, yP5, yT4, yL4, yP6, yT5, yL5, yP7, yT6, yL6, yP8, yT7, yL7, yP9, yT8, yL8, yP17, yT9, yL9, yP18, yT10, yL10, yP19, yT11, yL11, yP22, yT12, yL12, yP24, yT13, yL13, yP25, yT14, yL14, yP26, yT15, yL15, yP27, yT16, yL16, yP28, yT17, yL17, yP29, yT18, yL18, yP30, yT19, yL19, yP31, yT20, yL20, yP32, yT21, yL21, yP33, yT22, yL22, yP34, yT23, yL23, yP35, yT24, yL24]
        exact ih J2 h1 h2
      cases hc : chM (LN (I 1) nt s) (I 1 4) (fun c => (S.2.1 c).isNone && !sh c) nc with
      | none =>
        rw [hc] at hstep
        dsimp only at hstep
        rw [if_pos (encR_neg rfl)]
        refine fin _ ?_ ?_
        rotate_left
        · intro a ha
          rw [rowS_n (fun q => ha (by simp [scY, q]))]; exact hKo a ha
        rw [hstep]
        refine ⟨fun c hcc => ?_, fun j hj => ?_, fun j hj => ?_⟩
        · rw [rowS_n (by decide), hK4]; exact hS.1 c hcc
        · rw [rowS_s, hK5]
          show rowU (J 5) s (encR none) j = encR (if j = s then none else S.2.2 j)
          by_cases e : j = s
          · subst e; rw [rowU_s, if_pos rfl]
          · rw [rowU_n e, if_neg e]; exact hS.2.1 j hj
        · rw [rowS_n (by decide), hK6]
          show rowU (J 6) s 1 j = bI (if j = s then true else S.1 j)
          by_cases e : j = s
          · subst e; rw [rowU_s, if_pos rfl]; rfl
          · rw [rowU_n e, if_neg e]; exact hS.2.2 j hj
      | some c =>
        rw [hc] at hstep
        dsimp only at hstep
        have hc8 := (ch_lt hc).1
        rw [if_neg (encR_s rfl (by omega)), gd_ok (ib_nI (by omega) (by decide)), show encR (some c) = nI c from rfl, gd_ok (ib_nI (by omega) (by decide)), nI_clamp (by omega)]
        rw [rowS_n (show (4 : Nat) ≠ 5 by decide)]
        refine fin _ ?_ ?_
        rotate_left
        · intro a ha
          rw [rowS_n (fun q => ha (by simp [scY, q])), rowS_n (fun q => ha (by simp [scY, q]))]; exact hKo a ha
        rw [hstep]
        refine ⟨fun c2 hcc => ?_, fun j hj => ?_, fun j hj => ?_⟩
        · rw [rowS_s, hK4]
          show rowU (J 4) c (nI s) c2 = encR (if c2 = c then some s else S.2.1 c2)
          by_cases e : c2 = c
          · subst e; rw [rowU_s, if_pos rfl]; rfl
          · rw [rowU_n e, if_neg e]; exact hS.1 c2 hcc
        · rw [rowS_n (by decide), rowS_s, hK5]
          show rowU (J 5) s (nI c) j = encR (if j = s then some c else S.2.2 j)
          by_cases e : j = s
          · subst e; rw [rowU_s, if_pos rfl]; rfl
          · rw [rowU_n e, if_neg e]; exact hS.2.1 j hj
        · rw [rowS_n (by decide), rowS_n (by decide), hK6]
          show rowU (J 6) s 1 j = bI (if j = s then true else S.1 j)
          by_cases e : j = s
          · subst e; rw [rowU_s, if_pos rfl]; rfl
          · rw [rowU_n e, if_neg e]; exact hS.2.2 j hj
theorem RsprInit2 : ∀ (d i fu : Nat) (J : Nat → Nat → Int32), i + d = 10 → d < fu → (∀ s, s < i → J 5 s = -1 ∧ J 6 s = 0) → ∃ J2 : Nat → Nat → Int32, f_X10_spring_23 fu (J, YZ) 0 (nI i) = cl (f_X10_nextStork (J2, YZ) 0) (fun r M1 => f_X10_spring_54 FU M1 0 r) ∧ (∀ s, s < 10 → J2 5 s = -1 ∧ J2 6 s = 0) ∧ ∀ a, a ≠ 5 → a ≠ 6 → J2 a = J a := by
  intro d
  induction d with
  | zero =>
    intro i fu J hi hf h1
    obtain ⟨fu, rfl⟩ : ∃ m, fu = m + 1 := ⟨fu - 1, by omega⟩
    have hi : i = 10 := by omega
    subst hi
    rw [f_X10_spring_23, if_pos (show (10 : Int32) ≤ nI 10 from nI_le (a := 10) (Nat.le_refl _) (by decide))]
    simp only [gt_self, gd_t, lp_some, st_d, nm_d, on_none, on_some, cl_some, mI_mk, mX_mk, setI_mk, u2_row, rowS_s, rowU_s, yT0, yP0, yT1, yL1, yP1, yT2, yL2, yP2, yT3, yL3, yP5, yT4, yL4, yP6, yT5, yL5, yP7, yT6, yL6, yP8, yT7, yL7, yP9, yT8, yL8, yP17, yT9, yL9, yP18, yT10, yL10, yP19, yT11, yL11, yP22, yT12, yL12, yP24, yT13, yL13, yP25, yT14, yL14, yP26, yT15, yL15, yP27, yT16, yL16, yP28, yT17, yL17, yP29, yT18, yL18, yP30, yT19, yL19, yP31, yT20, yL20, yP32, yT21, yL21, yP33, yT22, yL22, yP34, yT23, yL23, yP35, yT24, yL24]
    exact ⟨J, rfl, fun s hs => h1 s hs, fun _ _ _ => rfl⟩
  | succ d ih =>
    intro i fu J hi hf h1
    obtain ⟨fu, rfl⟩ : ∃ m, fu = m + 1 := ⟨fu - 1, by omega⟩
    rw [f_X10_spring_23, if_neg (show ¬ (10 : Int32) ≤ nI i from nI_ge (a := i) (b := 10) (by omega) (by decide))]
    simp only [gt_self, gd_t, lp_some, st_d, nm_d, on_none, on_some, cl_some, mI_mk, mX_mk, setI_mk, u2_row, rowS_s, rowU_s, yT0, yP0, yT1, yL1, yP1, yT2, yL2, yP2, yT3, yL3, yP5, yT4, yL4, yP6, yT5, yL5, yP7, yT6, yL6, yP8, yT7, yL7, yP9, yT8, yL8, yP17, yT9, yL9, yP18, yT10, yL10, yP19, yT11, yL11, yP22, yT12, yL12, yP24, yT13, yL13, yP25, yT14, yL14, yP26, yT15, yL15, yP27, yT16, yL16, yP28, yT17, yL17, yP29, yT18, yL18, yP30, yT19, yL19, yP31, yT20, yL20, yP32, yT21, yL21, yP33, yT22, yL22, yP34, yT23, yL23, yP35, yT24, yL24]
    rw [gd_ok (ib_nI (by omega) (by decide)), gd_ok (ib_nI (by omega) (by decide)), nI_clamp (by omega), nI_1, rowS_n (show (6 : Nat) ≠ 5 by decide)]
    obtain ⟨J2, e, h2, ho⟩ := ih (i + 1) fu (rowS (rowS J 5 (rowU (J 5) i (-1))) 6 (rowU (J 6) i 0)) (by omega) (by omega) (fun s hs => by
      rw [rowS_n (show (5 : Nat) ≠ 6 by decide), rowS_s, rowS_s]
      by_cases e : s = i
      · subst e; rw [rowU_s, rowU_s]; exact ⟨rfl, rfl⟩
      · rw [rowU_n e, rowU_n e]; exact h1 s (by omega))
    exact ⟨J2, e, h2, fun a ha hb => by rw [ho a ha hb, rowS_n hb, rowS_n ha]⟩
theorem RsprInit1 : ∀ (d i fu : Nat) (J : Nat → Nat → Int32), i + d = 8 → d < fu → (∀ s, s < i → J 4 s = -1) → ∃ J2 : Nat → Nat → Int32, f_X10_spring_2 fu (J, YZ) 0 (nI i) = f_X10_spring_23 FU (J2, YZ) 0 0 ∧ (∀ s, s < 8 → J2 4 s = -1) ∧ ∀ a, a ≠ 4 → J2 a = J a := by
  intro d
  induction d with
  | zero =>
    intro i fu J hi hf h1
    obtain ⟨fu, rfl⟩ : ∃ m, fu = m + 1 := ⟨fu - 1, by omega⟩
    have hi : i = 8 := by omega
    subst hi
    rw [f_X10_spring_2, if_pos (show (8 : Int32) ≤ nI 8 from nI_le (a := 8) (Nat.le_refl _) (by decide))]
    exact ⟨J, rfl, fun s hs => h1 s hs, fun _ _ => rfl⟩
  | succ d ih =>
    intro i fu J hi hf h1
    obtain ⟨fu, rfl⟩ : ∃ m, fu = m + 1 := ⟨fu - 1, by omega⟩
    rw [f_X10_spring_2, if_neg (show ¬ (8 : Int32) ≤ nI i from nI_ge (a := i) (b := 8) (by omega) (by decide))]
    simp only [gt_self, gd_t, lp_some, st_d, nm_d, on_none, on_some, cl_some, mI_mk, mX_mk, setI_mk, u2_row, rowS_s, rowU_s, yT0, yP0, yT1, yL1, yP1, yT2, yL2, yP2, yT3, yL3, yP5, yT4, yL4, yP6, yT5, yL5, yP7, yT6, yL6, yP8, yT7, yL7, yP9, yT8, yL8, yP17, yT9, yL9, yP18, yT10, yL10, yP19, yT11, yL11, yP22, yT12, yL12, yP24, yT13, yL13, yP25, yT14, yL14, yP26, yT15, yL15, yP27, yT16, yL16, yP28, yT17, yL17, yP29, yT18, yL18, yP30, yT19, yL19, yP31, yT20, yL20, yP32, yT21, yL21, yP33, yT22, yL22, yP34, yT23, yL23, yP35, yT24, yL24]
    rw [gd_ok (ib_nI (by omega) (by decide)), nI_clamp (by omega), nI_1]
    obtain ⟨J2, e, h2, ho⟩ := ih (i + 1) fu (rowS J 4 (rowU (J 4) i (-1))) (by omega) (by omega) (fun s hs => by
      rw [rowS_s]
      by_cases e : s = i
      · subst e; rw [rowU_s]
      · rw [rowU_n e]; exact h1 s (by omega))
    exact ⟨J2, e, h2, fun a ha => by rw [ho a ha, rowS_n ha]⟩
theorem Rspring {I : Nat → Nat → Int32} {nc ns nt : Nat} {sh : Nat → Bool} (hG : GN (I 1) nc ns nt) (hsh : ∀ c, c < 8 → (nI c = I 0 4 ↔ sh c = true)) :
    ∃ J, f_X10_spring (I, YZ) 0 = some ((), (J, YZ)) ∧ spY J (springM (I 1) nc ns nt sh) ∧ ∀ a, ¬ scY a → J a = I a := by
  have h10 := hG.2.2.2.1
  obtain ⟨J1, e1, r1, o1⟩ := RsprInit1 8 0 FU I (by omega) (FU_ge (by omega)) (fun s hs => absurd hs (by omega))
  obtain ⟨J2, e2, r2, o2⟩ := RsprInit2 10 0 FU J1 (by omega) (FU_ge (by omega)) (fun s hs => absurd hs (by omega))
  have ho : ∀ a, ¬ scY a → J2 a = I a := fun a ha => by
    rw [o2 a (fun q => ha (by simp [scY, q])) (fun q => ha (by simp [scY, q])), o1 a (fun q => ha (by simp [scY, q]))]
  have hr : spY J2 sp0 := ⟨fun c hc => by rw [o2 4 (by decide) (by decide)]; exact r1 c hc, fun s hs => (r2 s hs).1, fun s hs => (r2 s hs).2⟩
  rw [f_X10_spring]
  have e1 : f_X10_spring_2 FU (I, YZ) 0 0 = f_X10_spring_23 FU (J1, YZ) 0 0 := e1
  have e2 : f_X10_spring_23 FU (J1, YZ) 0 0 = _ := e2
  rw [e1, e2, RnextStork (I := J2) (N := I 1) (ho 1 (by simp [scY])) hG.2.2.1 h10 hr.2.2]
  simp only [gt_self, gd_t, lp_some, st_d, nm_d, on_none, on_some, cl_some, mI_mk, mX_mk, setI_mk, u2_row, rowS_s, rowU_s, yT0, yP0, yT1, yL1, yP1, yT2, yL2, yP2, yT3, yL3, yP5, yT4, yL4, yP6, yT5, yL5, yP7, yT6, yL6, yP8, yT7, yL7, yP9, yT8, yL8, yP17, yT9, yL9, yP18, yT10, yL10, yP19, yT11, yL11, yP22, yT12, yL12, yP24, yT13, yL13, yP25, yT14, yL14, yP26, yT15, yL15, yP27, yT16, yL16, yP28, yT17, yL17, yP29, yT18, yL18, yP30, yT19, yL19, yP31, yT20, yL20, yP32, yT21, yL21, yP33, yT22, yL22, yP34, yT23, yL23, yP35, yT24, yL24]
  exact RsprLoop hG hsh ns FU sp0 J2 (cntF_le _ _) (FU_ge (by omega)) okSP_0 hr ho
