/-! THE PARSER: names, words, a step -/
theorem str_len : ∀ w, w < 6 → nI (sLen.getD w 0) >>> ((0 : Int32) &&& 31) = nI (sLen.getD w 0) := by decide +kernel
theorem Xstrlen (M : Mem) {w : Nat} (hw : w < 6) : f_J0_length_8abf5 M w = some (nI (sLen.getD w 0), M) := by
  rw [f_J0_length_8abf5, f_J0_coder_7d493, if_neg one_ne]
  simp only [gd_ok (decide_eq_true hw), cl_some]
  rw [str_len w hw]
theorem Xlatin (M : Mem) {w : Nat} (hw : w < 6) : f_J0_isLatin1_aae02 M w = some (1, M) := by
  rw [f_J0_isLatin1_aae02, if_neg one_ne]
  simp only [gd_ok (decide_eq_true hw), if_true]
def wcM (w k : Nat) : Int32 := (sByt.getD w []).getD k 0
theorem str_ch : ∀ w, w < 3 → ∀ k, k < 4 → isC (c16 ((wcM w k) &&& 255)) = true ∧ c16 ((wcM w k) &&& 255) = wcM w k ∧ isC (wcM w k) = true ∧ sLen.getD w 0 = 4 := by decide +kernel
theorem XcharAt (M : Mem) {w k : Nat} (hw : w < 3) (hk : k < 4) : f_J0_charAt_5068e M w (nI k) = some (wcM w k, M) := by
  obtain ⟨c1, c2, c3, c4⟩ := str_ch w hw k hk
  rw [f_J0_charAt_5068e, Xlatin M (by omega)]
  simp only [gd_ok (decide_eq_true (show w < 6 by omega)), cl_some]
  rw [if_neg one_ne, f_J1_charAt_3b067, f_J0_checkIndex_df160, f_J3_checkIndex_8e157, c4, if_neg (nI_pos (by omega)), if_pos (nI_lt hk (by decide))]
  simp only [gd_ok (decide_eq_true (show w < 6 by omega)), cl_some, gd_ok (ib_nI hk (show 4 < 2 ^ 31 by decide)), nI_clamp (show k < 2 ^ 31 by omega)]
  rw [show (sByt.getD w []).getD k 0 = wcM w k from rfl, gd_ok c1, c2]
  simp only [cl_some, gd_ok c3]
def icM (l : List Int32) (b : Int32) : Nat → Nat → Int32
  | 0, _ => -1
  | d + 1, k => if l.getD k 0 = b then nI k else icM l b d (k + 1)
theorem XicL (M : Mem) {w n : Nat} (hw : w < 6) (hn : sLen.getD w 0 = n) (h4 : n ≤ 4) (b : Int32) : ∀ (d k fu : Nat), k + d = n → d < fu → f_J1_indexOfChar_4cfef_7 fu M w (nI n) b (nI k) = some (icM (sByt.getD w []) b d k, M) := by
  intro d
  induction d with
  | zero =>
    intro k fu hk hf
    obtain ⟨fu, rfl⟩ : ∃ q, fu = q + 1 := ⟨fu - 1, by omega⟩
    rw [f_J1_indexOfChar_4cfef_7, if_pos (nI_le (show n ≤ k by omega) (by omega))]
    rfl
  | succ d ih =>
    intro k fu hk hf
    obtain ⟨fu, rfl⟩ : ∃ q, fu = q + 1 := ⟨fu - 1, by omega⟩
    rw [f_J1_indexOfChar_4cfef_7, if_neg (nI_ge (show k < n by omega) (by omega)), gd_ok (decide_eq_true hw), hn, gd_ok (ib_nI (by omega) (by omega)), nI_clamp (by omega), nI_1, ih (k + 1) fu (by omega) (by omega)]
    show _ = some (if (sByt.getD w []).getD k 0 = b then nI k else icM (sByt.getD w []) b d (k + 1), M)
    by_cases e : (sByt.getD w []).getD k 0 = b
    · rw [if_pos e, if_pos e]
    · rw [if_neg e, if_neg e]
theorem c16_b : ∀ v, v < 123 → c16 (nI v) = nI v ∧ s8 (nI v) = nI v ∧ ¬ nI v < 0 ∧ ¬ 255 < nI v := by decide +kernel
def nmM (key : Nat) (x : Int32) : Int32 := if key = 0 then (if x = 119 then 0 else if x = 102 then 1 else if x = 104 then 2 else -1) else if key = 1 then (if x = 110 then 0 else if x = 119 then 1 else -1) else (if x = 121 then 0 else if x = 115 then 1 else -1)
theorem ic_0 (b : Int32) : icM (sByt.getD 3 []) b 3 0 = nmM 0 b := by
  show (if (119 : Int32) = b then nI 0 else if (102 : Int32) = b then nI 1 else if (104 : Int32) = b then nI 2 else -1) = (if b = 119 then 0 else if b = 102 then 1 else if b = 104 then 2 else -1)
  simp only [eq_comm (b := b)]
  rfl
theorem ic_1 (b : Int32) : icM (sByt.getD 4 []) b 2 0 = nmM 1 b := by
  show (if (110 : Int32) = b then nI 0 else if (119 : Int32) = b then nI 1 else -1) = (if b = 110 then 0 else if b = 119 then 1 else -1)
  simp only [eq_comm (b := b)]
  rfl
theorem ic_2 (b : Int32) : icM (sByt.getD 5 []) b 2 0 = nmM 2 b := by
  show (if (121 : Int32) = b then nI 0 else if (115 : Int32) = b then nI 1 else -1) = (if b = 121 then 0 else if b = 115 then 1 else -1)
  simp only [eq_comm (b := b)]
  rfl
theorem lt_of {x : Int32} (h : isLt x = true) : ∃ v, 97 ≤ v ∧ v < 123 ∧ x = nI v := by
  have h := of_decide_eq_true h
  have a := Int32.le_iff_toInt_le.mp h.1
  have b := Int32.le_iff_toInt_le.mp h.2
  have a : (97 : Int) ≤ x.toInt := a
  have b : x.toInt ≤ 122 := b
  refine ⟨x.toInt.toNat, by omega, by omega, ?_⟩
  apply Int32.toInt_inj.mp
  rw [nI_toInt (by omega)]
  omega
theorem str_3 : sLen.getD 3 0 = 3 ∧ sLen.getD 4 0 = 2 ∧ sLen.getD 5 0 = 2 := by decide +kernel
theorem XidxA (M : Mem) {w n : Nat} (hw : w < 6) (hn : sLen.getD w 0 = n) (h1 : 1 ≤ n) (h4 : n ≤ 4) {b : Int32} (hb : isLt b = true) : f_J0_indexOf_0f7a4 M w (c16 b) = some (icM (sByt.getD w []) b n 0, M) := by
  obtain ⟨v, _, hv, rfl⟩ := lt_of hb
  obtain ⟨c1, c2, c3, c4⟩ := c16_b v hv
  rw [c1, f_J0_indexOf_0f7a4, f_J0_indexOf_7cf53, Xlatin M hw]
  simp only [gd_ok (decide_eq_true hw), cl_some]
  rw [if_neg one_ne, Xstrlen M hw]
  simp only [cl_some]
  rw [f_J1_indexOf_4cfef, f_J1_canEncode_9a6ad, if_neg c3, if_neg c4]
  simp only [gd_ok (decide_eq_true hw), cl_some]
  have e0 : imax (0 : Int32) 0 = nI 0 := by decide
  have e1 : imin (nI n) (nI n) = nI n := by unfold imin; rw [if_neg (fun q => Int32.lt_irrefl q)]
  rw [if_neg one_ne, hn, e0, e1, if_pos (nI_lt (by omega) (by omega)), f_J1_indexOfChar_4cfef, c2, XicL M hw hn h4 (nI v) n 0 FU (by omega) (FU_ge (by omega))]
  rfl
theorem Xidx (M : Mem) {key : Nat} (hk : key < 3) {b : Int32} (hb : isLt b = true) : f_J0_indexOf_0f7a4 M (3 + key) (c16 b) = some (nmM key b, M) := by
  rcases (show key = 0 ∨ key = 1 ∨ key = 2 by omega) with rfl | rfl | rfl
  · rw [XidxA M (by decide) str_3.1 (by decide) (by decide) hb, ic_0]
  · rw [XidxA M (by decide) str_3.2.1 (by decide) (by decide) hb, ic_1]
  · rw [XidxA M (by decide) str_3.2.2 (by decide) (by decide) hb, ic_2]
theorem RnameOf {J : Nat → Nat → Int32} {key : Nat} (hk : key < 3) (h16 : J 0 16 = nI key) (x : Int32) : f_X10_nameOf (J, YZ) 0 x = some (nmM key x, (J, YZ)) := by
  rw [f_X10_nameOf]
  simp only [gt_self, gd_t, lp_some, st_d, nm_d, on_none, on_some, cl_some, mI_mk, mX_mk, setI_mk, u2_row, rowS_s, rowU_s, yT0, yP0, yT1, yL1, yP1, yT2, yL2, yP2, yT3, yL3, yP5, yT4, yL4, yP6, yT5, yL5, yP7, yT6, yL6, yP8, yT7, yL7, yP9, yT8, yL8, yP17, yT9, yL9, yP18, yT10, yL10, yP19, yT11, yL11, yP22, yT12, yL12, yP24, yT13, yL13, yP25, yT14, yL14, yP26, yT15, yL15, yP27, yT16, yL16, yP28, yT17, yL17, yP29, yT18, yL18, yP30, yT19, yL19, yP31, yT20, yL20, yP32, yT21, yL21, yP33, yT22, yL22, yP34, yT23, yL23, yP35, yT24, yL24]
  rw [h16]
  unfold nmM
  rcases (show key = 0 ∨ key = 1 ∨ key = 2 by omega) with rfl | rfl | rfl
  · rw [if_pos (show nI 0 = 0 by decide), if_pos (show (0 : Nat) = 0 from rfl)]
    repeat' split
    all_goals rfl
  · rw [if_neg (show ¬ nI 1 = 0 by decide), if_pos (show nI 1 = 1 by decide), if_neg (show ¬ (1 : Nat) = 0 by decide), if_pos (show (1 : Nat) = 1 from rfl)]
    repeat' split
    all_goals rfl
  · rw [if_neg (show ¬ nI 2 = 0 by decide), if_neg (show ¬ nI 2 = 1 by decide), if_neg (show ¬ (2 : Nat) = 0 by decide), if_neg (show ¬ (2 : Nat) = 1 by decide)]
    repeat' split
    all_goals rfl
theorem nm_of {key : Nat} (hk : key < 3) {x : Int32} (h : ¬ nmM key x < 0) : ∃ i, i < nnK key ∧ nmM key x = nI i := by
  unfold nmM at h ⊢
  rcases (show key = 0 ∨ key = 1 ∨ key = 2 by omega) with rfl | rfl | rfl
  · rw [if_pos (show (0 : Nat) = 0 from rfl)] at h ⊢
    by_cases e1 : x = 119
    · rw [if_pos e1]; exact ⟨0, by decide, rfl⟩
    rw [if_neg e1] at h ⊢
    by_cases e1 : x = 102
    · rw [if_pos e1]; exact ⟨1, by decide, rfl⟩
    rw [if_neg e1] at h ⊢
    by_cases e1 : x = 104
    · rw [if_pos e1]; exact ⟨2, by decide, rfl⟩
    rw [if_neg e1] at h
    exact absurd (by decide) h
  · rw [if_neg (show ¬ (1 : Nat) = 0 by decide), if_pos (show (1 : Nat) = 1 from rfl)] at h ⊢
    by_cases e1 : x = 110
    · rw [if_pos e1]; exact ⟨0, by decide, rfl⟩
    rw [if_neg e1] at h ⊢
    by_cases e1 : x = 119
    · rw [if_pos e1]; exact ⟨1, by decide, rfl⟩
    rw [if_neg e1] at h
    exact absurd (by decide) h
  · rw [if_neg (show ¬ (2 : Nat) = 0 by decide), if_neg (show ¬ (2 : Nat) = 1 by decide)] at h ⊢
    by_cases e1 : x = 121
    · rw [if_pos e1]; exact ⟨0, by decide, rfl⟩
    rw [if_neg e1] at h ⊢
    by_cases e1 : x = 115
    · rw [if_pos e1]; exact ⟨1, by decide, rfl⟩
    rw [if_neg e1] at h
    exact absurd (by decide) h
def sgM (v : Int32) : Int32 := if v = 38 then -2 else if v = 42 then -8 else if v = 43 then -6 else if v = 45 then -7 else if v = 47 then -9 else if v = 60 then -3 else if v = 61 then -4 else if v = 62 then -5 else if v = 124 then -1 else 0
theorem sg_ok (v : Int32) : (sgM v = 0 ∧ rkC v = 0) ∨ (sgM v ∈ gL ∧ sgM v ≠ -10 ∧ sgM v ≠ -11 ∧ sgM v ≠ 0 ∧ chG (sgM v) = v ∧ rkC v = rkM (sgM v)) := by
  by_cases e : v = 38
  · subst e; exact Or.inr (by decide +kernel)
  by_cases e2 : v = 42
  · subst e2; exact Or.inr (by decide +kernel)
  by_cases e3 : v = 43
  · subst e3; exact Or.inr (by decide +kernel)
  by_cases e4 : v = 45
  · subst e4; exact Or.inr (by decide +kernel)
  by_cases e5 : v = 47
  · subst e5; exact Or.inr (by decide +kernel)
  by_cases e6 : v = 60
  · subst e6; exact Or.inr (by decide +kernel)
  by_cases e7 : v = 61
  · subst e7; exact Or.inr (by decide +kernel)
  by_cases e8 : v = 62
  · subst e8; exact Or.inr (by decide +kernel)
  by_cases e9 : v = 124
  · subst e9; exact Or.inr (by decide +kernel)
  left
  unfold sgM rkC
  rw [if_neg e, if_neg e2, if_neg e3, if_neg e4, if_neg e5, if_neg e6, if_neg e7, if_neg e8, if_neg e9, if_neg e, if_neg e2, if_neg e3, if_neg e4, if_neg e5, if_neg e6, if_neg e7, if_neg e8, if_neg e9]
  exact ⟨rfl, rfl⟩
theorem sg_lt {v : Int32} (h : isLt v = true ∨ isDg v = true) : sgM v = 0 := by
  rcases sg_ok v with q | q
  · exact q.1
  · exfalso
    have hv : ∀ g ∈ gL, g ≠ -10 → g ≠ -11 → isLt (chG g) = false ∧ isDg (chG g) = false := by decide +kernel
    have := hv _ q.1 q.2.1 q.2.2.1
    rw [q.2.2.2.2.1] at this
    rcases h with h | h
    · rw [h] at this; exact nomatch this.1
    · rw [h] at this; exact nomatch this.2
/-- a text as far as it is read: its steps, the signs that wait, how many brackets are open, a bit for each depth, how many pieces, whether something is due -/
abbrev PS : Type := (Nat × (Nat → Int32)) × List Int32 × Nat × Int32 × Int32 × Bool
def bitI (op : Nat) : Int32 := (1 : Int32) <<< (nI op &&& 31)
def pieceP (u : Int32) (s : PS) : PS := ((stl 6 (s.1.1 + 1, rowU s.1.2 s.1.1 u) s.2.1).1, (stl 6 (s.1.1 + 1, rowU s.1.2 s.1.1 u) s.2.1).2, s.2.2.1, s.2.2.2.1, s.2.2.2.2.1 + 1, false)
def notP (s : PS) : PS := (s.1, -10 :: s.2.1, s.2.2.1, s.2.2.2.1, s.2.2.2.2.1, true)
def openP (s : PS) : PS := (s.1, -11 :: s.2.1, s.2.2.1 + 1, s.2.2.2.1 &&& (bitI (s.2.2.1 + 1) ^^^ (-1)), s.2.2.2.2.1, true)
def closeP (s : PS) : PS := ((stl 6 (stl 1 s.1 s.2.1).1 (stl 1 s.1 s.2.1).2.tail).1, (stl 6 (stl 1 s.1 s.2.1).1 (stl 1 s.1 s.2.1).2.tail).2, s.2.2.1 - 1, s.2.2.2.1, s.2.2.2.2.1, false)
def cmpP (g : Int32) (s : PS) : Int32 := if rkM g = 3 then s.2.2.2.1 ||| bitI s.2.2.1 else if rkM g < 3 then s.2.2.2.1 &&& (bitI s.2.2.1 ^^^ (-1)) else s.2.2.2.1
def joinP (g : Int32) (s : PS) : PS := ((stl (rkM g) s.1 s.2.1).1, g :: (stl (rkM g) s.1 s.2.1).2, s.2.2.1, cmpP g s, s.2.2.2.2.1, true)
def stepP (key t : Nat) (v : Int32) (len : Nat) (s : PS) : Option PS :=
  if s.2.2.2.2.2 = true then
    (if t = 3 ∧ v = 33 ∧ cN s.2.1 < 8 then some (notP s) else if t = 3 ∧ v = 40 ∧ s.2.2.1 < 8 then some (openP s) else if t = 2 then some (pieceP v s) else if t = 1 ∧ len = 1 ∧ ¬ nmM key v < 0 then some (pieceP (10000 + nmM key v) s) else none)
  else (if t = 3 ∧ v = 41 ∧ 0 < s.2.2.1 then some (closeP s) else if t = 3 ∧ ¬ sgM v = 0 ∧ ¬ (rkM (sgM v) = 3 ∧ bt s.2.2.2.1 s.2.2.1 = true) then some (joinP (sgM v) s) else none)
def PV (nn p : Nat) (s : PS) : Prop := (∀ g ∈ s.2.1, g ∈ gL) ∧ okN s.2.2.2.2.2 s.2.1 ∧ cP s.2.1 = s.2.2.1 ∧ s.2.2.1 ≤ 8 ∧ okC nn s.1.1 s.1.2 ∧ dpM s.1.2 s.1.1 = cB s.2.1 + (if s.2.2.2.2.2 = true then 0 else 1) ∧ s.1.1 + s.2.1.length + 4 ≤ p
theorem piece_ok {nn p p' : Nat} {s : PS} {u : Int32} (h : PV nn p s) (hw : s.2.2.2.2.2 = true) (hp : p < p') (hu : ¬ u < 0 ∧ (10000 ≤ u → ∃ i, i < nn ∧ u = nI (10000 + i))) : PV nn p' (pieceP u s) := by
  obtain ⟨⟨m, cd⟩, st, op, cmp, pc, w⟩ := s
  obtain ⟨h1, h2, h3, h4, h5, h6, h7⟩ := h
  dsimp only at hw h1 h2 h3 h4 h5 h6 h7
  subst hw
  rw [if_pos rfl] at h6
  have hN := stl_not st (m + 1, rowU cd m u) h1 h2
  have hc := okC_up h5 (show okS nn u (dpM cd m) from ⟨fun q => absurd q hu.1, hu.2⟩)
  have hd : dpM (rowU cd m u) (m + 1) = cB st + 1 := by rw [dp_s, if_neg hu.1]; omega
  have hk := stl_ok (least := 6) st (m + 1) (rowU cd m u) h1 hc hd
  have hl := stl_len (least := 6) st (m + 1, rowU cd m u)
  refine ⟨fun g hg => h1 g (stl_mem _ _ g hg), hN.1, hN.2.1.trans h3, h4, hk.1, hk.2, ?_⟩
  show (stl 6 (m + 1, rowU cd m u) st).1.1 + (stl 6 (m + 1, rowU cd m u) st).2.length + 4 ≤ p'
  dsimp only at hl
  omega
theorem step_ok {key p p' t len : Nat} {v : Int32} {s s' : PS} (hk : key < 3) (h : PV (nnK key) p s) (hp : p < p') (hv : t = 2 → ∃ u, u < 10000 ∧ v = nI u) (e : stepP key t v len s = some s') : PV (nnK key) p' s' := by
  unfold stepP at e
  by_cases w : s.2.2.2.2.2 = true
  · rw [if_pos w] at e
    by_cases c1 : t = 3 ∧ v = 33 ∧ cN s.2.1 < 8
    · rw [if_pos c1] at e
      cases e
      obtain ⟨⟨m, cd⟩, st, op, cmp, pc, w'⟩ := s
      obtain ⟨h1, h2, h3, h4, h5, h6, h7⟩ := h
      dsimp only at w h1 h2 h3 h4 h5 h6 h7 c1
      subst w
      refine ⟨fun g hg => ?_, ?_, ?_, h4, h5, ?_, ?_⟩
      · rcases List.mem_cons.mp hg with rfl | hg
        · decide +kernel
        · exact h1 g hg
      · show okN true (-10 :: st)
        rw [okN_s, if_pos rfl]; exact ⟨rfl, h2⟩
      · show cP st + (if (-10 : Int32) = -11 then 1 else 0) = op
        rw [if_neg (by decide)]; exact h3
      · show dpM cd m = (cB st + (if (-10 : Int32) = -10 ∨ (-10 : Int32) = -11 then 0 else 1)) + (if true = true then 0 else 1)
        rw [if_pos (Or.inl rfl)]; exact h6
      · show m + (-10 :: st).length + 4 ≤ p'
        rw [List.length_cons]; omega
    rw [if_neg c1] at e
    by_cases c2 : t = 3 ∧ v = 40 ∧ s.2.2.1 < 8
    · rw [if_pos c2] at e
      cases e
      obtain ⟨⟨m, cd⟩, st, op, cmp, pc, w'⟩ := s
      obtain ⟨h1, h2, h3, h4, h5, h6, h7⟩ := h
      dsimp only at w h1 h2 h3 h4 h5 h6 h7 c2
      subst w
      refine ⟨fun g hg => ?_, ?_, ?_, ?_, h5, ?_, ?_⟩
      · rcases List.mem_cons.mp hg with rfl | hg
        · decide +kernel
        · exact h1 g hg
      · show okN true (-11 :: st)
        rw [okN_s, if_neg (by decide), if_pos rfl]; exact h2
      · show cP st + (if (-11 : Int32) = -11 then 1 else 0) = op + 1
        rw [if_pos rfl, h3]
      · show op + 1 ≤ 8
        omega
      · show dpM cd m = (cB st + (if (-11 : Int32) = -10 ∨ (-11 : Int32) = -11 then 0 else 1)) + (if true = true then 0 else 1)
        rw [if_pos (Or.inr rfl)]; exact h6
      · show m + (-11 :: st).length + 4 ≤ p'
        rw [List.length_cons]; omega
    rw [if_neg c2] at e
    by_cases c3 : t = 2
    · rw [if_pos c3] at e
      cases e
      obtain ⟨u, hu, rfl⟩ := hv c3
      refine piece_ok h w hp ⟨nI_pos (by omega), fun q => absurd q ?_⟩
      exact nI_ge (b := 10000) hu (by decide)
    rw [if_neg c3] at e
    by_cases c4 : t = 1 ∧ len = 1 ∧ ¬ nmM key v < 0
    · rw [if_pos c4] at e
      cases e
      obtain ⟨i, hi, e2⟩ := nm_of hk c4.2.2
      have h3 : nnK key ≤ 3 := by unfold nnK; split <;> omega
      refine piece_ok h w hp ?_
      rw [e2, show (10000 : Int32) = nI 10000 from rfl, nI_add]
      exact ⟨nI_pos (by omega), fun _ => ⟨i, hi, rfl⟩⟩
    · rw [if_neg c4] at e; exact nomatch e
  · rw [if_neg w] at e
    by_cases c1 : t = 3 ∧ v = 41 ∧ 0 < s.2.2.1
    · rw [if_pos c1] at e
      cases e
      obtain ⟨⟨m, cd⟩, st, op, cmp, pc, w'⟩ := s
      obtain ⟨h1, h2, h3, h4, h5, h6, h7⟩ := h
      dsimp only at w h1 h2 h3 h4 h5 h6 h7 c1
      have w : w' = false := by simpa using w
      subst w
      rw [if_neg Bool.false_ne_true] at h6
      have hb := stl_bin (least := 1) (by decide) st (m, cd) h2
      have hk1 := stl_ok (least := 1) st m cd h1 h5 h6
      have hl := stl_len (least := 1) st (m, cd)
      have hm := stl_mem (least := 1) st (m, cd)
      unfold closeP
      dsimp only
      rcases (stl_par st (m, cd) h1).2 with q | ⟨r, q⟩
      · rw [q] at hb; have := hb.2.2; rw [show cP [] = 0 from rfl] at this; omega
      · rw [q] at hb hk1 hl hm
        rw [q]
        have hbN := hb.1
        rw [okN_s, if_neg (by decide), if_pos rfl] at hbN
        have hr : ∀ g ∈ r, g ∈ gL := fun g hg => h1 g (hm g (List.mem_cons_of_mem _ hg))
        have hN := stl_not r (stl 1 (m, cd) st).1 hr hbN
        have hcB : cB (-11 :: r) = cB r := by show cB r + (if (-11 : Int32) = -10 ∨ (-11 : Int32) = -11 then 0 else 1) = _; rw [if_pos (Or.inr rfl)]; rfl
        have hcP : cP (-11 :: r) = cP r + 1 := by show cP r + (if (-11 : Int32) = -11 then 1 else 0) = _; rw [if_pos rfl]
        rw [hcB] at hk1
        rw [List.length_cons] at hl
        have hk2 := stl_ok (least := 6) r (stl 1 (m, cd) st).1.1 (stl 1 (m, cd) st).1.2 hr hk1.1 hk1.2
        have hl2 := stl_len (least := 6) r (stl 1 (m, cd) st).1
        refine ⟨fun g hg => hr g (stl_mem _ _ g hg), hN.1, ?_, ?_, hk2.1, hk2.2, ?_⟩
        · show cP (stl 6 (stl 1 (m, cd) st).1 r).2 = op - 1
          rw [hN.2.1]; have := hb.2.2; omega
        · show op - 1 ≤ 8
          omega
        · show (stl 6 (stl 1 (m, cd) st).1 r).1.1 + (stl 6 (stl 1 (m, cd) st).1 r).2.length + 4 ≤ p'
          dsimp only at hl
          omega
    rw [if_neg c1] at e
    by_cases c2 : t = 3 ∧ ¬ sgM v = 0 ∧ ¬ (rkM (sgM v) = 3 ∧ bt s.2.2.2.1 s.2.2.1 = true)
    · rw [if_pos c2] at e
      cases e
      rcases sg_ok v with q | ⟨g1, g2, g3, g4, g5, g6⟩
      · exact absurd q.1 c2.2.1
      obtain ⟨⟨m, cd⟩, st, op, cmp, pc, w'⟩ := s
      obtain ⟨h1, h2, h3, h4, h5, h6, h7⟩ := h
      dsimp only at w h1 h2 h3 h4 h5 h6 h7
      have w : w' = false := by simpa using w
      subst w
      rw [if_neg Bool.false_ne_true] at h6
      have hb := stl_bin (least := rkM (sgM v)) (by have := (ch_rk _ g1 g2 g3).2.2; omega) st (m, cd) h2
      have hk1 := stl_ok (least := rkM (sgM v)) st m cd h1 h5 h6
      have hl := stl_len (least := rkM (sgM v)) st (m, cd)
      unfold joinP
      dsimp only
      refine ⟨fun g hg => ?_, ?_, ?_, h4, hk1.1, ?_, ?_⟩
      · rcases List.mem_cons.mp hg with rfl | hg
        · exact g1
        · exact h1 g (stl_mem _ _ g hg)
      · show okN true (sgM v :: _)
        rw [okN_s, if_neg g2, if_neg g3]; exact hb.1
      · show cP (stl (rkM (sgM v)) (m, cd) st).2 + (if sgM v = -11 then 1 else 0) = op
        rw [if_neg g3, hb.2.2]; exact h3
      · show dpM _ _ = (cB (stl (rkM (sgM v)) (m, cd) st).2 + (if sgM v = -10 ∨ sgM v = -11 then 0 else 1)) + (if true = true then 0 else 1)
        rw [if_neg (fun q => q.elim g2 g3), if_pos rfl]; exact hk1.2
      · show (stl (rkM (sgM v)) (m, cd) st).1.1 + (sgM v :: (stl (rkM (sgM v)) (m, cd) st).2).length + 4 ≤ p'
        rw [List.length_cons]
        dsimp only at hl
        omega
    · rw [if_neg c2] at e; exact nomatch e
