/-! ===== Int32 by its bits: bt x i ===== -/
def bt (x : Int32) (i : Nat) : Bool := x.toBitVec.getLsbD i
theorem b_ext {x y : Int32} (h : ∀ i, i < 32 → bt x i = bt y i) : x = y := Int32.toBitVec_inj.mp (BitVec.eq_of_getLsbD_eq (fun i hi => h i hi))
theorem b_or (x y : Int32) (i : Nat) : bt (x ||| y) i = (bt x i || bt y i) := by unfold bt; rw [Int32.toBitVec_or, BitVec.getLsbD_or]
theorem b_and (x y : Int32) (i : Nat) : bt (x &&& y) i = (bt x i && bt y i) := by unfold bt; rw [Int32.toBitVec_and, BitVec.getLsbD_and]
theorem b_xor (x y : Int32) (i : Nat) : bt (x ^^^ y) i = (bt x i ^^ bt y i) := by unfold bt; rw [Int32.toBitVec_xor, BitVec.getLsbD_xor]
theorem b_big {x : Int32} {i : Nat} (h : 32 ≤ i) : bt x i = false := BitVec.getLsbD_of_ge _ _ h
theorem b_255 (i : Nat) : bt 255 i = decide (i < 8) := by
  rcases Nat.lt_or_ge i 32 with h | h
  · exact (by decide +kernel : ∀ i, i < 32 → bt 255 i = decide (i < 8)) i h
  · rw [b_big h, decide_eq_false (by omega)]
theorem b_65535 (i : Nat) : bt 65535 i = decide (i < 16) := by
  rcases Nat.lt_or_ge i 32 with h | h
  · exact (by decide +kernel : ∀ i, i < 32 → bt 65535 i = decide (i < 16)) i h
  · rw [b_big h, decide_eq_false (by omega)]
theorem b_m1 : ∀ i, i < 32 → bt (-1) i = true := by decide +kernel
theorem b_0 (i : Nat) : bt 0 i = false := BitVec.getLsbD_zero
theorem s_l : ∀ n, n < 32 → ((nI n &&& 31).toBitVec.smod 32).toNat = n := by decide +kernel
theorem s_u : ∀ n, n < 32 → (((nI n).toUInt32 &&& Int32.toUInt32 31).toBitVec % 32).toNat = n := by decide +kernel
theorem b_shl (n : Nat) (hn : n < 32) (x : Int32) {i : Nat} (hi : i < 32) : bt (x <<< (nI n &&& 31)) i = (decide (n ≤ i) && bt x (i - n)) := by
  unfold bt
  rw [Int32.toBitVec_shiftLeft]
  show (x.toBitVec <<< ((nI n &&& 31).toBitVec.smod 32).toNat).getLsbD i = _
  rw [s_l n hn, BitVec.getLsbD_shiftLeft]
  rcases Nat.lt_or_ge i n with h | h
  · simp [h, Nat.not_le.mpr h]
  · simp [hi, h, Nat.not_lt.mpr h]
theorem b_ushr (n : Nat) (hn : n < 32) (x : Int32) (i : Nat) : bt ((x.toUInt32 >>> ((nI n).toUInt32 &&& Int32.toUInt32 31)).toInt32) i = bt x (n + i) := by
  show (x.toUInt32 >>> ((nI n).toUInt32 &&& Int32.toUInt32 31)).toBitVec.getLsbD i = x.toUInt32.toBitVec.getLsbD (n + i)
  rw [UInt32.toBitVec_shiftRight]
  show (x.toUInt32.toBitVec >>> (((nI n).toUInt32 &&& Int32.toUInt32 31).toBitVec % 32).toNat).getLsbD i = _
  rw [s_u n hn, BitVec.getLsbD_ushiftRight]
theorem b_sshr (n : Nat) (hn : n < 32) (x : Int32) {i : Nat} (hi : i < 32) : bt (x >>> (nI n &&& 31)) i = if n + i < 32 then bt x (n + i) else bt x 31 := by
  unfold bt
  rw [Int32.toBitVec_shiftRight]
  show (x.toBitVec.sshiftRight ((nI n &&& 31).toBitVec.smod 32).toNat).getLsbD i = _
  rw [s_l n hn, BitVec.getLsbD_sshiftRight, BitVec.msb_eq_getLsbD_last]
  simp [hi]
theorem b_shl8 (x : Int32) {i : Nat} (hi : i < 32) : bt (x <<< ((8 : Int32) &&& 31)) i = (decide (8 ≤ i) && bt x (i - 8)) := b_shl 8 (by omega) x hi
theorem b_shl16 (x : Int32) {i : Nat} (hi : i < 32) : bt (x <<< ((16 : Int32) &&& 31)) i = (decide (16 ≤ i) && bt x (i - 16)) := b_shl 16 (by omega) x hi
theorem b_shl24 (x : Int32) {i : Nat} (hi : i < 32) : bt (x <<< ((24 : Int32) &&& 31)) i = (decide (24 ≤ i) && bt x (i - 24)) := b_shl 24 (by omega) x hi
theorem b_sshr8 (x : Int32) {i : Nat} (hi : i < 32) : bt (x >>> ((8 : Int32) &&& 31)) i = if 8 + i < 32 then bt x (8 + i) else bt x 31 := b_sshr 8 (by omega) x hi
theorem b_1 : ∀ j, j < 32 → bt 1 j = decide (j = 0) := by decide +kernel
theorem bit_0 (x : Int32) {i : Nat} (hi : i < 32) : (ushr x (nI i) &&& 1) = 0 ↔ bt x i = false := by
  unfold ushr
  constructor
  · intro h
    have : bt ((x.toUInt32 >>> ((nI i).toUInt32 &&& Int32.toUInt32 31)).toInt32 &&& 1) 0 = bt 0 0 := congrArg (fun z => bt z 0) h
    rw [b_and, b_ushr i hi, b_0, b_1 0 (by decide)] at this
    simpa using this
  · intro h
    refine b_ext (fun j hj => ?_)
    rw [b_and, b_ushr i hi, b_0, b_1 j hj]
    by_cases e : j = 0
    · subst e; simp [h]
    · simp [e]
theorem bit_set (x : Int32) {s i : Nat} (hs : s < 32) (hi : i < 32) : bt (x ||| ((1 : Int32) <<< (nI s &&& 31))) i = (bt x i || decide (i = s)) := by
  rw [b_or, b_shl s hs 1 hi]
  by_cases h : s ≤ i
  · rw [b_1 (i - s) (by omega)]
    by_cases e : i = s
    · subst e; simp
    · simp [h, e, show ¬ (i - s = 0) by omega]
  · simp [h, show ¬ i = s by omega]
/-! THE CLASS' spring -/
def spX (I : Nat → Nat → Int32) (S : SP) : Prop := (∀ s, s < 10 → I 74 s = encC (S.2.2 s)) ∧ ∀ c, c < 8 → I 75 c = encC (S.2.1 c)
def LkX (I : Nat → Nat → Int32) (N : Nat → Int32) (nc nt : Nat) : Prop := ∀ c, c < nc → I 76 c = likesM N nt c 0 ∧ I 77 c = likesM N nt c 1
theorem LkX.same {I J : Nat → Nat → Int32} {N : Nat → Int32} {nc nt : Nat} (h : LkX I N nc nt) (h6 : J 76 = I 76) (h7 : J 77 = I 77) : LkX J N nc nt := fun c hc => by rw [h6, h7]; exact h c hc
section XSpring
variable {I : Nat → Nat → Int32} {X : Nat → Nat → Option Nat} {S : Sta} {w : Nat} {N : Nat → Int32} {nc ns nt : Nat}
theorem XlookAt (hS : LaS S) (hw : isW w) (hR : RelW I X S w N nc ns nt) (hG : GN N nc ns nt) (hr : GR N nc ns) {c : Nat} (hc : c < nc) : ∃ J, f_X4_lookAt (I, X, S) 73 w (nI c) = some ((), (J, X, S)) ∧ J 76 = rowU (I 76) c (likesM N nt c 0) ∧ J 77 = rowU (I 77) c (likesM N nt c 1) ∧ ∀ a, a ≠ 76 → a ≠ 77 → a ≠ w + 5 → J a = I a := by
  have h8 := hG.2.1
  have hlt := hw.lt
  rw [f_X4_lookAt]
  obtain ⟨J, eJ, hJ⟩ := Xliking hS hw hR hG hr hc (h := 0) (Or.inl rfl)
  simp only [gt_self, gd_t, lp_some, st_d, nm_d, on_none, on_some, cl_some, mI_mk, mX_mk, setI_mk, u2_row, rowS_s, rowU_s, xT0 hS, xP0_0 hS, xP0_1 hS, xP0_2 hS, xP0_3 hS, xP0_4 hS, xP0_5 hS, xP0_6 hS, xP0_7 hS, xP0_8 hS, xT73 hS, xP73_0 hS, xT74 hS, xL74 hS, xP73_1 hS, xT75 hS, xL75 hS, xP73_2 hS, xT76 hS, xL76 hS, xP73_3 hS, xT77 hS, xL77 hS, xT78 hS, xP78_0 hS, xT79 hS, xL79 hS, xT80 hS, xP80_0 hS, xP80_2 hS, xT81 hS, xL81 hS, xT82 hS, xL82 hS, xT83 hS, xL83 hS, xT84 hS, xL84 hS, xT85 hS, xL85 hS, wT hS hw, wP0 hS hw, wP2 hS hw, wP4 hS hw, wP7 hS hw, wP9 hS hw, wT1 hS hw, wL1 hS hw, wT2 hS hw, wL2 hS hw, wT3 hS hw, wL3 hS hw, wT4 hS hw, wL4 hS hw, wT5 hS hw, wL5 hS hw]
  rw [eJ]
  simp only [gt_self, gd_t, lp_some, st_d, nm_d, on_none, on_some, cl_some, mI_mk, mX_mk, setI_mk, u2_row, rowS_s, rowU_s, xT0 hS, xP0_0 hS, xP0_1 hS, xP0_2 hS, xP0_3 hS, xP0_4 hS, xP0_5 hS, xP0_6 hS, xP0_7 hS, xP0_8 hS, xT73 hS, xP73_0 hS, xT74 hS, xL74 hS, xP73_1 hS, xT75 hS, xL75 hS, xP73_2 hS, xT76 hS, xL76 hS, xP73_3 hS, xT77 hS, xL77 hS, xT78 hS, xP78_0 hS, xT79 hS, xL79 hS, xT80 hS, xP80_0 hS, xP80_2 hS, xT81 hS, xL81 hS, xT82 hS, xL82 hS, xT83 hS, xL83 hS, xT84 hS, xL84 hS, xT85 hS, xL85 hS, wT hS hw, wP0 hS hw, wP2 hS hw, wP4 hS hw, wP7 hS hw, wP9 hS hw, wT1 hS hw, wL1 hS hw, wT2 hS hw, wL2 hS hw, wT3 hS hw, wL3 hS hw, wT4 hS hw, wL4 hS hw, wT5 hS hw, wL5 hS hw]
  rw [gd_ok (ib_nI (by omega) (by decide)), nI_clamp (by omega)]
  have hR2 : RelW (rowS J 76 (rowU (J 76) c (likesM N nt c 0))) X S w N nc ns nt := hR.same h8 hG.2.2.2.1 (fun a ha => by
    rw [rowS_n (by unfold ownW at ha; omega)]
    exact hJ a (by unfold ownW at ha; omega))
  obtain ⟨K, eK, hK⟩ := Xliking hS hw hR2 hG hr hc (h := 1) (Or.inr rfl)
  rw [eK]
  simp only [gt_self, gd_t, lp_some, st_d, nm_d, on_none, on_some, cl_some, mI_mk, mX_mk, setI_mk, u2_row, rowS_s, rowU_s, xT0 hS, xP0_0 hS, xP0_1 hS, xP0_2 hS, xP0_3 hS, xP0_4 hS, xP0_5 hS, xP0_6 hS, xP0_7 hS, xP0_8 hS, xT73 hS, xP73_0 hS, xT74 hS, xL74 hS, xP73_1 hS, xT75 hS, xL75 hS, xP73_2 hS, xT76 hS, xL76 hS, xP73_3 hS, xT77 hS, xL77 hS, xT78 hS, xP78_0 hS, xT79 hS, xL79 hS, xT80 hS, xP80_0 hS, xP80_2 hS, xT81 hS, xL81 hS, xT82 hS, xL82 hS, xT83 hS, xL83 hS, xT84 hS, xL84 hS, xT85 hS, xL85 hS, wT hS hw, wP0 hS hw, wP2 hS hw, wP4 hS hw, wP7 hS hw, wP9 hS hw, wT1 hS hw, wL1 hS hw, wT2 hS hw, wL2 hS hw, wT3 hS hw, wL3 hS hw, wT4 hS hw, wL4 hS hw, wT5 hS hw, wL5 hS hw]
  rw [gd_ok (ib_nI (by omega) (by decide))]
  refine ⟨_, rfl, ?_, ?_, fun a h1 h2 h3 => ?_⟩
  · rw [rowS_n (by decide), hK 76 (by omega), rowS_s, hJ 76 (by omega)]
  · rw [rowS_s, hK 77 (by omega), rowS_n (by decide), hJ 77 (by omega)]
  · rw [rowS_n h2, hK a h3, rowS_n h1, hJ a h3]
theorem XlookLoop (hS : LaS S) (hw : isW w) (hR : RelW I X S w N nc ns nt) (hG : GN N nc ns nt) (hr : GR N nc ns) : ∀ (d c fu : Nat) (J : Nat → Nat → Int32), c + d = nc → d < fu → (∀ k, k < c → J 76 k = likesM N nt k 0 ∧ J 77 k = likesM N nt k 1) → (∀ a, a ≠ 76 → a ≠ 77 → a ≠ w + 5 → J a = I a) →
    ∃ J', f_X4_look_2 fu (J, X, S) 73 w (nI c) = some ((), (J', X, S)) ∧ LkX J' N nc nt ∧ ∀ a, a ≠ 76 → a ≠ 77 → a ≠ w + 5 → J' a = I a := by
  have h8 := hG.2.1
  have hlt := hw.lt
  intro d
  induction d with
  | zero =>
    intro c fu J hc hf hL hJ
    obtain ⟨fu, rfl⟩ : ∃ m, fu = m + 1 := ⟨fu - 1, by omega⟩
    have hc : c = nc := by omega
    subst hc
    rw [f_X4_look_2]
    simp only [gt_self, gd_t, lp_some, st_d, nm_d, on_none, on_some, cl_some, mI_mk, mX_mk, setI_mk, u2_row, rowS_s, rowU_s, xT0 hS, xP0_0 hS, xP0_1 hS, xP0_2 hS, xP0_3 hS, xP0_4 hS, xP0_5 hS, xP0_6 hS, xP0_7 hS, xP0_8 hS, xT73 hS, xP73_0 hS, xT74 hS, xL74 hS, xP73_1 hS, xT75 hS, xL75 hS, xP73_2 hS, xT76 hS, xL76 hS, xP73_3 hS, xT77 hS, xL77 hS, xT78 hS, xP78_0 hS, xT79 hS, xL79 hS, xT80 hS, xP80_0 hS, xP80_2 hS, xT81 hS, xL81 hS, xT82 hS, xL82 hS, xT83 hS, xL83 hS, xT84 hS, xL84 hS, xT85 hS, xL85 hS, wT hS hw, wP0 hS hw, wP2 hS hw, wP4 hS hw, wP7 hS hw, wP9 hS hw, wT1 hS hw, wL1 hS hw, wT2 hS hw, wL2 hS hw, wT3 hS hw, wL3 hS hw, wT4 hS hw, wL4 hS hw, wT5 hS hw, wL5 hS hw]
    rw [hJ w (by omega) (by omega) (by omega), hR.1.2.1, hG.1, if_pos (nI_le (Nat.le_refl _) (by omega))]
    exact ⟨J, rfl, hL, hJ⟩
  | succ d ih =>
    intro c fu J hc hf hL hJ
    obtain ⟨fu, rfl⟩ : ∃ m, fu = m + 1 := ⟨fu - 1, by omega⟩
    rw [f_X4_look_2]
    simp only [gt_self, gd_t, lp_some, st_d, nm_d, on_none, on_some, cl_some, mI_mk, mX_mk, setI_mk, u2_row, rowS_s, rowU_s, xT0 hS, xP0_0 hS, xP0_1 hS, xP0_2 hS, xP0_3 hS, xP0_4 hS, xP0_5 hS, xP0_6 hS, xP0_7 hS, xP0_8 hS, xT73 hS, xP73_0 hS, xT74 hS, xL74 hS, xP73_1 hS, xT75 hS, xL75 hS, xP73_2 hS, xT76 hS, xL76 hS, xP73_3 hS, xT77 hS, xL77 hS, xT78 hS, xP78_0 hS, xT79 hS, xL79 hS, xT80 hS, xP80_0 hS, xP80_2 hS, xT81 hS, xL81 hS, xT82 hS, xL82 hS, xT83 hS, xL83 hS, xT84 hS, xL84 hS, xT85 hS, xL85 hS, wT hS hw, wP0 hS hw, wP2 hS hw, wP4 hS hw, wP7 hS hw, wP9 hS hw, wT1 hS hw, wL1 hS hw, wT2 hS hw, wL2 hS hw, wT3 hS hw, wL3 hS hw, wT4 hS hw, wL4 hS hw, wT5 hS hw, wL5 hS hw]
    rw [hJ w (by omega) (by omega) (by omega), hR.1.2.1, hG.1, if_neg (nI_ge (by omega) (by omega))]
    have hR2 : RelW J X S w N nc ns nt := hR.same h8 hG.2.2.2.1 (fun a ha => hJ a (by unfold ownW at ha; omega) (by unfold ownW at ha; omega) (by unfold ownW at ha; omega))
    obtain ⟨K, eK, k6, k7, ko⟩ := XlookAt hS hw hR2 hG hr (show c < nc by omega)
    rw [eK]
    simp only [gt_self, gd_t, lp_some, st_d, nm_d, on_none, on_some, cl_some, mI_mk, mX_mk, setI_mk, u2_row, rowS_s, rowU_s, xT0 hS, xP0_0 hS, xP0_1 hS, xP0_2 hS, xP0_3 hS, xP0_4 hS, xP0_5 hS, xP0_6 hS, xP0_7 hS, xP0_8 hS, xT73 hS, xP73_0 hS, xT74 hS, xL74 hS, xP73_1 hS, xT75 hS, xL75 hS, xP73_2 hS, xT76 hS, xL76 hS, xP73_3 hS, xT77 hS, xL77 hS, xT78 hS, xP78_0 hS, xT79 hS, xL79 hS, xT80 hS, xP80_0 hS, xP80_2 hS, xT81 hS, xL81 hS, xT82 hS, xL82 hS, xT83 hS, xL83 hS, xT84 hS, xL84 hS, xT85 hS, xL85 hS, wT hS hw, wP0 hS hw, wP2 hS hw, wP4 hS hw, wP7 hS hw, wP9 hS hw, wT1 hS hw, wL1 hS hw, wT2 hS hw, wL2 hS hw, wT3 hS hw, wL3 hS hw, wT4 hS hw, wL4 hS hw, wT5 hS hw, wL5 hS hw]
    rw [nI_1]
    refine ih (c + 1) fu K (by omega) (by omega) (fun k hk => ?_) (fun a h1 h2 h3 => (ko a h1 h2 h3).trans (hJ a h1 h2 h3))
    rw [k6, k7]
    by_cases e : k = c
    · subst e; rw [rowU_s, rowU_s]; exact ⟨rfl, rfl⟩
    · rw [rowU_n e, rowU_n e]; exact hL k (by omega)
theorem Xlook (hS : LaS S) (hw : isW w) (hR : RelW I X S w N nc ns nt) (hG : GN N nc ns nt) (hr : GR N nc ns) : ∃ J', f_X4_look (I, X, S) 73 w = some ((), (J', X, S)) ∧ LkX J' N nc nt ∧ ∀ a, a ≠ 76 → a ≠ 77 → a ≠ w + 5 → J' a = I a := by
  rw [f_X4_look]
  exact XlookLoop hS hw hR hG hr nc 0 FU I (by omega) (FU_ge (by have := hG.2.1; omega)) (fun k hk => absurd hk (by omega)) (fun _ _ _ _ => rfl)
theorem home_iff {a b : Int32} (h : homeR a b) {c : Nat} (hc : c < 8) : a = nI c ↔ b = nI c := by
  rcases h with ⟨h1, h2⟩ | ⟨k, hk, h1, h2⟩
  · constructor
    · intro e; exact absurd (show ¬ nI c < 0 from nI_pos (by omega)) (by rw [← e, h1]; decide)
    · intro e; exact absurd (show ¬ nI c < 0 from nI_pos (by omega)) (by rw [← e, h2]; decide)
  · rw [h1, h2]
theorem Xliked (hS : LaS S) (hw : isW w) (hR : RelW I X S w N nc ns nt) (hG : GN N nc ns nt) (hL : LkX I N nc nt) {s c : Nat} (hs : s < ns) (hc : c < nc) : f_X4_liked (I, X, S) 73 w (nI s) (nI c) = some (LN N nt s c, (I, X, S)) := by
  have h8 := hG.2.1
  have h10 := hG.2.2.2.1
  rw [f_X4_liked]
  simp only [gt_self, gd_t, lp_some, st_d, nm_d, on_none, on_some, cl_some, mI_mk, mX_mk, setI_mk, u2_row, rowS_s, rowU_s, xT0 hS, xP0_0 hS, xP0_1 hS, xP0_2 hS, xP0_3 hS, xP0_4 hS, xP0_5 hS, xP0_6 hS, xP0_7 hS, xP0_8 hS, xT73 hS, xP73_0 hS, xT74 hS, xL74 hS, xP73_1 hS, xT75 hS, xL75 hS, xP73_2 hS, xT76 hS, xL76 hS, xP73_3 hS, xT77 hS, xL77 hS, xT78 hS, xP78_0 hS, xT79 hS, xL79 hS, xT80 hS, xP80_0 hS, xP80_2 hS, xT81 hS, xL81 hS, xT82 hS, xL82 hS, xT83 hS, xL83 hS, xT84 hS, xL84 hS, xT85 hS, xL85 hS, wT hS hw, wP0 hS hw, wP2 hS hw, wP4 hS hw, wP7 hS hw, wP9 hS hw, wT1 hS hw, wL1 hS hw, wT2 hS hw, wL2 hS hw, wT3 hS hw, wL3 hS hw, wT4 hS hw, wL4 hS hw, wT5 hS hw, wL5 hS hw]
  rw [gd_ok (ib_nI (by omega) (by decide)), nI_clamp (by omega)]
  simp only [wPs hS hw (show s < 10 by omega), wTs hS hw (show s < 10 by omega), gt_self, gd_t, lp_some, st_d, nm_d, on_none, on_some, cl_some, mI_mk, mX_mk, setI_mk, u2_row, rowS_s, rowU_s, xT0 hS, xP0_0 hS, xP0_1 hS, xP0_2 hS, xP0_3 hS, xP0_4 hS, xP0_5 hS, xP0_6 hS, xP0_7 hS, xP0_8 hS, xT73 hS, xP73_0 hS, xT74 hS, xL74 hS, xP73_1 hS, xT75 hS, xL75 hS, xP73_2 hS, xT76 hS, xL76 hS, xP73_3 hS, xT77 hS, xL77 hS, xT78 hS, xP78_0 hS, xT79 hS, xL79 hS, xT80 hS, xP80_0 hS, xP80_2 hS, xT81 hS, xL81 hS, xT82 hS, xL82 hS, xT83 hS, xL83 hS, xT84 hS, xL84 hS, xT85 hS, xL85 hS, wT hS hw, wP0 hS hw, wP2 hS hw, wP4 hS hw, wP7 hS hw, wP9 hS hw, wT1 hS hw, wL1 hS hw, wT2 hS hw, wL2 hS hw, wT3 hS hw, wL3 hS hw, wT4 hS hw, wL4 hS hw, wT5 hS hw, wL5 hS hw]
  have hh := home_iff (hR.2.2.1 s hs).2.1 (show c < 8 by omega)
  unfold LN homeM
  by_cases h : I (w + 14 + s) 1 = nI c
  · rw [if_pos h, if_pos (hh.mp h), gd_ok (ib_nI (by omega) (by decide)), nI_clamp (by omega), (hL c hc).2]
  · rw [if_neg h, if_neg (fun q => h (hh.mpr q)), gd_ok (ib_nI (by omega) (by decide)), nI_clamp (by omega), (hL c hc).1]
theorem Xwants (hS : LaS S) (hw : isW w) (hR : RelW I X S w N nc ns nt) (hG : GN N nc ns nt) (hL : LkX I N nc nt) {s c : Nat} (hs : s < ns) (hc : c < nc) : f_X4_wants (I, X, S) 73 w (nI s) (nI c) = some (bI (decide (N 4 ≤ LN N nt s c)), (I, X, S)) := by
  rw [f_X4_wants]
  simp only [gt_self, gd_t, lp_some, st_d, nm_d, on_none, on_some, cl_some, mI_mk, mX_mk, setI_mk, u2_row, rowS_s, rowU_s, xT0 hS, xP0_0 hS, xP0_1 hS, xP0_2 hS, xP0_3 hS, xP0_4 hS, xP0_5 hS, xP0_6 hS, xP0_7 hS, xP0_8 hS, xT73 hS, xP73_0 hS, xT74 hS, xL74 hS, xP73_1 hS, xT75 hS, xL75 hS, xP73_2 hS, xT76 hS, xL76 hS, xP73_3 hS, xT77 hS, xL77 hS, xT78 hS, xP78_0 hS, xT79 hS, xL79 hS, xT80 hS, xP80_0 hS, xP80_2 hS, xT81 hS, xL81 hS, xT82 hS, xL82 hS, xT83 hS, xL83 hS, xT84 hS, xL84 hS, xT85 hS, xL85 hS, wT hS hw, wP0 hS hw, wP2 hS hw, wP4 hS hw, wP7 hS hw, wP9 hS hw, wT1 hS hw, wL1 hS hw, wT2 hS hw, wL2 hS hw, wT3 hS hw, wL3 hS hw, wT4 hS hw, wL4 hS hw, wT5 hS hw, wL5 hS hw]
  rw [Xliked hS hw hR hG hL hs hc]
  simp only [gt_self, gd_t, lp_some, st_d, nm_d, on_none, on_some, cl_some, mI_mk, mX_mk, setI_mk, u2_row, rowS_s, rowU_s, xT0 hS, xP0_0 hS, xP0_1 hS, xP0_2 hS, xP0_3 hS, xP0_4 hS, xP0_5 hS, xP0_6 hS, xP0_7 hS, xP0_8 hS, xT73 hS, xP73_0 hS, xT74 hS, xL74 hS, xP73_1 hS, xT75 hS, xL75 hS, xP73_2 hS, xT76 hS, xL76 hS, xP73_3 hS, xT77 hS, xL77 hS, xT78 hS, xP78_0 hS, xT79 hS, xL79 hS, xT80 hS, xP80_0 hS, xP80_2 hS, xT81 hS, xL81 hS, xT82 hS, xL82 hS, xT83 hS, xL83 hS, xT84 hS, xL84 hS, xT85 hS, xL85 hS, wT hS hw, wP0 hS hw, wP2 hS hw, wP4 hS hw, wP7 hS hw, wP9 hS hw, wT1 hS hw, wL1 hS hw, wT2 hS hw, wL2 hS hw, wT3 hS hw, wL3 hS hw, wT4 hS hw, wL4 hS hw, wT5 hS hw, wL5 hS hw, il0 (show 0 < 3 by decide), tn0]
  rw [hR.1.2.2.2.2.1]
  by_cases h : LN N nt s c < N 4
  · rw [if_pos h, decide_eq_false (Int32.not_le.mpr h)]; rfl
  · rw [if_neg h, decide_eq_true (Int32.not_lt.mp h)]; rfl
theorem XkeepsFirst (hS : LaS S) (hw : isW w) (hR : RelW I X S w N nc ns nt) (h10 : ns ≤ 10) {i b : Nat} (hi : i < ns) (hb : b < ns) : f_X8_keepsFirst (I, X, S) w (nI i) (nI b) = some (bI (decide (N (8 + 3 * b) < N (8 + 3 * i) ∨ (N (8 + 3 * i) = N (8 + 3 * b) ∧ i < b))), (I, X, S)) := by
  rw [f_X8_keepsFirst]
  simp only [gt_self, gd_t, lp_some, st_d, nm_d, on_none, on_some, cl_some, mI_mk, mX_mk, setI_mk, u2_row, rowS_s, rowU_s, xT0 hS, xP0_0 hS, xP0_1 hS, xP0_2 hS, xP0_3 hS, xP0_4 hS, xP0_5 hS, xP0_6 hS, xP0_7 hS, xP0_8 hS, xT73 hS, xP73_0 hS, xT74 hS, xL74 hS, xP73_1 hS, xT75 hS, xL75 hS, xP73_2 hS, xT76 hS, xL76 hS, xP73_3 hS, xT77 hS, xL77 hS, xT78 hS, xP78_0 hS, xT79 hS, xL79 hS, xT80 hS, xP80_0 hS, xP80_2 hS, xT81 hS, xL81 hS, xT82 hS, xL82 hS, xT83 hS, xL83 hS, xT84 hS, xL84 hS, xT85 hS, xL85 hS, wT hS hw, wP0 hS hw, wP2 hS hw, wP4 hS hw, wP7 hS hw, wP9 hS hw, wT1 hS hw, wL1 hS hw, wT2 hS hw, wL2 hS hw, wT3 hS hw, wL3 hS hw, wT4 hS hw, wL4 hS hw, wT5 hS hw, wL5 hS hw]
  rw [gd_ok (ib_nI (by omega) (by decide)), nI_clamp (by omega)]
  simp only [wPs hS hw (show i < 10 by omega), wTs hS hw (show i < 10 by omega), gt_self, gd_t, lp_some, st_d, nm_d, on_none, on_some, cl_some, mI_mk, mX_mk, setI_mk, u2_row, rowS_s, rowU_s, xT0 hS, xP0_0 hS, xP0_1 hS, xP0_2 hS, xP0_3 hS, xP0_4 hS, xP0_5 hS, xP0_6 hS, xP0_7 hS, xP0_8 hS, xT73 hS, xP73_0 hS, xT74 hS, xL74 hS, xP73_1 hS, xT75 hS, xL75 hS, xP73_2 hS, xT76 hS, xL76 hS, xP73_3 hS, xT77 hS, xL77 hS, xT78 hS, xP78_0 hS, xT79 hS, xL79 hS, xT80 hS, xP80_0 hS, xP80_2 hS, xT81 hS, xL81 hS, xT82 hS, xL82 hS, xT83 hS, xL83 hS, xT84 hS, xL84 hS, xT85 hS, xL85 hS, wT hS hw, wP0 hS hw, wP2 hS hw, wP4 hS hw, wP7 hS hw, wP9 hS hw, wT1 hS hw, wL1 hS hw, wT2 hS hw, wL2 hS hw, wT3 hS hw, wL3 hS hw, wT4 hS hw, wL4 hS hw, wT5 hS hw, wL5 hS hw]
  rw [gd_ok (ib_nI (by omega) (by decide)), nI_clamp (by omega)]
  simp only [wPs hS hw (show b < 10 by omega), wTs hS hw (show b < 10 by omega), gt_self, gd_t, lp_some, st_d, nm_d, on_none, on_some, cl_some, mI_mk, mX_mk, setI_mk, u2_row, rowS_s, rowU_s, xT0 hS, xP0_0 hS, xP0_1 hS, xP0_2 hS, xP0_3 hS, xP0_4 hS, xP0_5 hS, xP0_6 hS, xP0_7 hS, xP0_8 hS, xT73 hS, xP73_0 hS, xT74 hS, xL74 hS, xP73_1 hS, xT75 hS, xL75 hS, xP73_2 hS, xT76 hS, xL76 hS, xP73_3 hS, xT77 hS, xL77 hS, xT78 hS, xP78_0 hS, xT79 hS, xL79 hS, xT80 hS, xP80_0 hS, xP80_2 hS, xT81 hS, xL81 hS, xT82 hS, xL82 hS, xT83 hS, xL83 hS, xT84 hS, xL84 hS, xT85 hS, xL85 hS, wT hS hw, wP0 hS hw, wP2 hS hw, wP4 hS hw, wP7 hS hw, wP9 hS hw, wT1 hS hw, wL1 hS hw, wT2 hS hw, wL2 hS hw, wT3 hS hw, wL3 hS hw, wT4 hS hw, wL4 hS hw, wT5 hS hw, wL5 hS hw]
  rw [gd_ok (ib_nI (by omega) (by decide)), gd_ok (ib_nI (by omega) (by decide)), (hR.2.2.1 i hi).1, (hR.2.2.1 b hb).1]
  by_cases h : N (8 + 3 * i) = N (8 + 3 * b)
  · rw [if_pos h]
    by_cases h2 : i < b
    · rw [if_neg (nI_ge h2 (by omega)), decide_eq_true (Or.inr ⟨h, h2⟩)]; rfl
    · rw [if_pos (nI_le (by omega) (by omega)), decide_eq_false (fun q => by
        rcases q with q | q
        · rw [h] at q; exact absurd q Int32.lt_irrefl
        · exact h2 q.2)]; rfl
  · rw [if_neg h]
    by_cases h2 : N (8 + 3 * i) ≤ N (8 + 3 * b)
    · rw [if_pos h2, decide_eq_false (fun q => by
        rcases q with q | q
        · exact absurd h2 (Int32.not_le.mpr q)
        · exact h q.1)]; rfl
    · rw [if_neg h2, decide_eq_true (Or.inl (Int32.not_le.mp h2))]; rfl
theorem XstrLoop (hS : LaS S) (hw : isW w) (hR : RelW I X S w N nc ns nt) (hr : GR N nc ns) (h2 : N 2 = nI ns) (h10 : ns ≤ 10) {g : Nat → Bool} {x : Int32} (hg : ∀ i, i < 10 → bt x i = g i) : ∀ (d i fu : Nat), i + d = ns → d < fu → f_X4_strongest_6 fu (I, X, S) w x (encC (strM (fun s => N (8 + 3 * s)) (freeM (awayN N) g) i)) (nI i) = some (encC (strM (fun s => N (8 + 3 * s)) (freeM (awayN N) g) ns), (I, X, S)) := by
  intro d
  induction d with
  | zero =>
    intro i fu hi hf
    obtain ⟨fu, rfl⟩ : ∃ m, fu = m + 1 := ⟨fu - 1, by omega⟩
    have hi : i = ns := by omega
    subst hi
    rw [f_X4_strongest_6]
    simp only [gt_self, gd_t, lp_some, st_d, nm_d, on_none, on_some, cl_some, mI_mk, mX_mk, setI_mk, u2_row, rowS_s, rowU_s, xT0 hS, xP0_0 hS, xP0_1 hS, xP0_2 hS, xP0_3 hS, xP0_4 hS, xP0_5 hS, xP0_6 hS, xP0_7 hS, xP0_8 hS, xT73 hS, xP73_0 hS, xT74 hS, xL74 hS, xP73_1 hS, xT75 hS, xL75 hS, xP73_2 hS, xT76 hS, xL76 hS, xP73_3 hS, xT77 hS, xL77 hS, xT78 hS, xP78_0 hS, xT79 hS, xL79 hS, xT80 hS, xP80_0 hS, xP80_2 hS, xT81 hS, xL81 hS, xT82 hS, xL82 hS, xT83 hS, xL83 hS, xT84 hS, xL84 hS, xT85 hS, xL85 hS, wT hS hw, wP0 hS hw, wP2 hS hw, wP4 hS hw, wP7 hS hw, wP9 hS hw, wT1 hS hw, wL1 hS hw, wT2 hS hw, wL2 hS hw, wT3 hS hw, wL3 hS hw, wT4 hS hw, wL4 hS hw, wT5 hS hw, wL5 hS hw]
    rw [hR.1.2.2.1, h2, if_pos (nI_le (Nat.le_refl _) (by omega))]
  | succ d ih =>
    intro i fu hi hf
    obtain ⟨fu, rfl⟩ : ∃ m, fu = m + 1 := ⟨fu - 1, by omega⟩
    have ih := ih (i + 1) fu (by omega) (by omega)
    rw [f_X4_strongest_6]
    simp only [gt_self, gd_t, lp_some, st_d, nm_d, on_none, on_some, cl_some, mI_mk, mX_mk, setI_mk, u2_row, rowS_s, rowU_s, xT0 hS, xP0_0 hS, xP0_1 hS, xP0_2 hS, xP0_3 hS, xP0_4 hS, xP0_5 hS, xP0_6 hS, xP0_7 hS, xP0_8 hS, xT73 hS, xP73_0 hS, xT74 hS, xL74 hS, xP73_1 hS, xT75 hS, xL75 hS, xP73_2 hS, xT76 hS, xL76 hS, xP73_3 hS, xT77 hS, xL77 hS, xT78 hS, xP78_0 hS, xT79 hS, xL79 hS, xT80 hS, xP80_0 hS, xP80_2 hS, xT81 hS, xL81 hS, xT82 hS, xL82 hS, xT83 hS, xL83 hS, xT84 hS, xL84 hS, xT85 hS, xL85 hS, wT hS hw, wP0 hS hw, wP2 hS hw, wP4 hS hw, wP7 hS hw, wP9 hS hw, wT1 hS hw, wL1 hS hw, wT2 hS hw, wL2 hS hw, wT3 hS hw, wL3 hS hw, wT4 hS hw, wL4 hS hw, wT5 hS hw, wL5 hS hw]
    rw [hR.1.2.2.1, h2, if_neg (nI_ge (by omega) (by omega)), gd_ok (ib_nI (by omega) (by decide)), nI_clamp (by omega)]
    simp only [wPs hS hw (show i < 10 by omega), wTs hS hw (show i < 10 by omega), gt_self, gd_t, lp_some, st_d, nm_d, on_none, on_some, cl_some, mI_mk, mX_mk, setI_mk, u2_row, rowS_s, rowU_s, xT0 hS, xP0_0 hS, xP0_1 hS, xP0_2 hS, xP0_3 hS, xP0_4 hS, xP0_5 hS, xP0_6 hS, xP0_7 hS, xP0_8 hS, xT73 hS, xP73_0 hS, xT74 hS, xL74 hS, xP73_1 hS, xT75 hS, xL75 hS, xP73_2 hS, xT76 hS, xL76 hS, xP73_3 hS, xT77 hS, xL77 hS, xT78 hS, xP78_0 hS, xT79 hS, xL79 hS, xT80 hS, xP80_0 hS, xP80_2 hS, xT81 hS, xL81 hS, xT82 hS, xL82 hS, xT83 hS, xL83 hS, xT84 hS, xL84 hS, xT85 hS, xL85 hS, wT hS hw, wP0 hS hw, wP2 hS hw, wP4 hS hw, wP7 hS hw, wP9 hS hw, wT1 hS hw, wL1 hS hw, wT2 hS hw, wL2 hS hw, wT3 hS hw, wL3 hS hw, wT4 hS hw, wL4 hS hw, wT5 hS hw, wL5 hS hw]
    rw [(hR.2.2.1 i (by omega)).2.2]
    rw [strM_s] at ih
    have h42 : ∀ z : Int32, f_X4_strongest_42 (f_X4_strongest_6 fu) (I, X, S) w x (encC (strM (fun s => N (8 + 3 * s)) (freeM (awayN N) g) i)) (nI i) z = if z = 0 then f_X4_strongest_6 fu (I, X, S) w x (encC (strM (fun s => N (8 + 3 * s)) (freeM (awayN N) g) i)) (nI (i + 1)) else (match strM (fun s => N (8 + 3 * s)) (freeM (awayN N) g) i with
        | none => f_X4_strongest_6 fu (I, X, S) w x (nI i) (nI (i + 1))
        | some b => if N (8 + 3 * b) < N (8 + 3 * i) then f_X4_strongest_6 fu (I, X, S) w x (nI i) (nI (i + 1)) else f_X4_strongest_6 fu (I, X, S) w x (nI b) (nI (i + 1))) := by
      intro z
      rw [f_X4_strongest_42, nI_1]
      by_cases hz : z = 0
      · rw [if_pos hz, if_pos hz]
      · rw [if_neg hz, if_neg hz]
        cases hq : strM (fun s => N (8 + 3 * s)) (freeM (awayN N) g) i with
        | none => rw [if_pos (encC_no rfl)]
        | some b =>
          have hb := (str_lt hq).1
          rw [if_neg (encC_pos rfl (by omega)), show encC (some b) = nI b from rfl]
          simp only [gt_self, gd_t, lp_some, st_d, nm_d, on_none, on_some, cl_some, mI_mk, mX_mk, setI_mk, u2_row, rowS_s, rowU_s, xT0 hS, xP0_0 hS, xP0_1 hS, xP0_2 hS, xP0_3 hS, xP0_4 hS, xP0_5 hS, xP0_6 hS, xP0_7 hS, xP0_8 hS, xT73 hS, xP73_0 hS, xT74 hS, xL74 hS, xP73_1 hS, xT75 hS, xL75 hS, xP73_2 hS, xT76 hS, xL76 hS, xP73_3 hS, xT77 hS, xL77 hS, xT78 hS, xP78_0 hS, xT79 hS, xL79 hS, xT80 hS, xP80_0 hS, xP80_2 hS, xT81 hS, xL81 hS, xT82 hS, xL82 hS, xT83 hS, xL83 hS, xT84 hS, xL84 hS, xT85 hS, xL85 hS, wT hS hw, wP0 hS hw, wP2 hS hw, wP4 hS hw, wP7 hS hw, wP9 hS hw, wT1 hS hw, wL1 hS hw, wT2 hS hw, wL2 hS hw, wT3 hS hw, wL3 hS hw, wT4 hS hw, wL4 hS hw, wT5 hS hw, wL5 hS hw]
          rw [XkeepsFirst hS hw hR h10 (show i < ns by omega) (show b < ns by omega)]
          simp only [gt_self, gd_t, lp_some, st_d, nm_d, on_none, on_some, cl_some, mI_mk, mX_mk, setI_mk, u2_row, rowS_s, rowU_s, xT0 hS, xP0_0 hS, xP0_1 hS, xP0_2 hS, xP0_3 hS, xP0_4 hS, xP0_5 hS, xP0_6 hS, xP0_7 hS, xP0_8 hS, xT73 hS, xP73_0 hS, xT74 hS, xL74 hS, xP73_1 hS, xT75 hS, xL75 hS, xP73_2 hS, xT76 hS, xL76 hS, xP73_3 hS, xT77 hS, xL77 hS, xT78 hS, xP78_0 hS, xT79 hS, xL79 hS, xT80 hS, xP80_0 hS, xP80_2 hS, xT81 hS, xL81 hS, xT82 hS, xL82 hS, xT83 hS, xL83 hS, xT84 hS, xL84 hS, xT85 hS, xL85 hS, wT hS hw, wP0 hS hw, wP2 hS hw, wP4 hS hw, wP7 hS hw, wP9 hS hw, wT1 hS hw, wL1 hS hw, wT2 hS hw, wL2 hS hw, wT3 hS hw, wL3 hS hw, wT4 hS hw, wL4 hS hw, wT5 hS hw, wL5 hS hw]
          by_cases hlt : N (8 + 3 * b) < N (8 + 3 * i)
          · rw [decide_eq_true (Or.inl hlt), if_neg (by decide), if_pos hlt]
          · rw [decide_eq_false (fun q => by
              rcases q with q | q
              · exact hlt q
              · omega), if_pos (by decide), if_neg hlt]
    rw [h42, h42]
    have ha : awayN N i = decide (N (8 + 3 * i + 2) = 1) := rfl
    rcases (hr.2 i (by omega)).2.2 with h0 | h1
    · rw [h0] at ha ⊢
      rw [if_pos rfl]
      have ha : awayN N i = false := by rw [ha]; rfl
      by_cases hb : (ushr x (nI i) &&& 1) = 0
      · have hgi : g i = false := by rw [← hg i (by omega)]; exact (bit_0 x (by omega)).mp hb
        rw [if_pos hb, if_neg (by decide)]
        rw [if_pos (by simp [freeM, ha, hgi])] at ih
        cases hq : strM (fun s => N (8 + 3 * s)) (freeM (awayN N) g) i with
        | none => rw [hq] at ih; exact ih
        | some b =>
          rw [hq] at ih
          dsimp only at ih ⊢
          by_cases hlt : N (8 + 3 * b) < N (8 + 3 * i)
          · rw [if_pos hlt] at ih ⊢; exact ih
          · rw [if_neg hlt] at ih ⊢; exact ih
      · have hgi : g i = true := by
          rw [← hg i (by omega)]
          cases hq : bt x i with
          | true => rfl
          | false => exact absurd ((bit_0 x (by omega)).mpr hq) hb
        rw [if_neg hb, if_pos rfl]
        rw [if_neg (by simp [freeM, hgi])] at ih
        exact ih
    · rw [h1] at ha ⊢
      rw [if_neg (by decide), if_pos rfl]
      have ha : awayN N i = true := by rw [ha]; rfl
      rw [if_neg (by simp [freeM, ha])] at ih
      exact ih
theorem Xstrongest (hS : LaS S) (hw : isW w) (hR : RelW I X S w N nc ns nt) (hr : GR N nc ns) (h2 : N 2 = nI ns) (h10 : ns ≤ 10) {g : Nat → Bool} {x : Int32} (hg : ∀ i, i < 10 → bt x i = g i) : f_X4_strongest (I, X, S) 73 w x = some (encC (strM (fun s => N (8 + 3 * s)) (freeM (awayN N) g) ns), (I, X, S)) := by
  rw [f_X4_strongest]
  exact XstrLoop hS hw hR hr h2 h10 hg ns 0 FU (by omega) (FU_ge (by omega))
end XSpring
