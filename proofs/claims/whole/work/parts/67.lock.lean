/-! THE PARSER: both sides in step -/
def FinR (I J : Nat → Nat → Int32) (key : Nat) : Prop := ∃ m cd pc, m ≤ 92 ∧ I 80 1 = nI m ∧ codeR I m cd ∧ I 80 4 = nI key ∧ I 80 5 = pc ∧ J 0 20 = nI m ∧ J 11 = cd ∧ J 0 16 = nI key ∧ J 0 21 = pc ∧ okM (nnK key) cd m
def POut (I0 : Nat → Nat → Int32) (X : Nat → Nat → Option Nat) (S : Sta) (J0 : Nat → Nat → Int32) (P Q : Option (Int32 × Mem)) : Prop := ∃ f b I' J', P = some (f, (I', X, S)) ∧ Q = some (b, (J', YZ)) ∧ FX I0 I' ∧ FY J0 J' ∧ ((b = 0 ∧ ∃ q, q ≤ 96 ∧ f = nI q ∧ J' 0 12 = nI q) ∨ (b = 1 ∧ f = -1 ∧ ∃ key, key < 3 ∧ FinR I' J' key))
theorem tok_le (B : Nat → Int32) (n : Nat) (e0 : Int32) (a : Nat) : tokT B n e0 a ≤ 4 := by
  unfold tokT
  repeat' split
  all_goals decide
section Lock
variable {X : Nat → Nat → Option Nat} {S : Sta} {I0 J0 : Nat → Nat → Int32} {B : Nat → Int32} {n key : Nat}
theorem XskipL (hS : LaS S) {I : Nat → Nat → Int32} (hn : n ≤ 96) (hI : I 78 1 = nI n) (hB : ∀ k, k < n → I 79 k = B k) : ∀ (d p fu : Nat), p + d = n → d < fu → ∃ f', n - runM isSp B d p < f' ∧ f_X1_fault_6 fu (I, X, S) 80 78 (nI p) = f_X1_fault_6 f' (I, X, S) 80 78 (nI (runM isSp B d p)) := by
  intro d
  induction d with
  | zero => intro p fu hp hf; exact ⟨fu, by show n - p < fu; omega, rfl⟩
  | succ d ih =>
    intro p fu hp hf
    unfold runM
    by_cases e : isSp (B p) = true
    · rw [if_pos e]
      obtain ⟨fu, rfl⟩ : ∃ q, fu = q + 1 := ⟨fu - 1, by omega⟩
      obtain ⟨f', h1, h2⟩ := ih (p + 1) fu (by omega) (by omega)
      refine ⟨f', h1, ?_⟩
      rw [← h2, f_X1_fault_6]
      simp only [gt_self, gd_t, lp_some, st_d, nm_d, on_none, on_some, cl_some, mI_mk, mX_mk, setI_mk, u2_row, rowS_s, rowU_s, xT0 hS, xP0_0 hS, xP0_1 hS, xP0_2 hS, xP0_3 hS, xP0_4 hS, xP0_5 hS, xP0_6 hS, xP0_7 hS, xP0_8 hS, xT73 hS, xP73_0 hS, xT74 hS, xL74 hS, xP73_1 hS, xT75 hS, xL75 hS, xP73_2 hS, xT76 hS, xL76 hS, xP73_3 hS, xT77 hS, xL77 hS, xT78 hS, xP78_0 hS, xT79 hS, xL79 hS, xT80 hS, xP80_0 hS, xP80_2 hS, xT81 hS, xL81 hS, xT82 hS, xL82 hS, xT83 hS, xL83 hS, xT84 hS, xL84 hS, xT85 hS, xL85 hS]
      rw [hI, if_neg (nI_ge (show p < n by omega) (by omega)), gd_ok (ib_nI (by omega) (by decide)), nI_clamp (by omega), hB p (by omega), if_pos (of_decide_eq_true e), nI_1]
    · rw [if_neg e]; exact ⟨fu, by omega, rfl⟩
theorem endBoth (hS : LaS S) (hn : n ≤ 96) (hk : key < 3) {I J : Nat → Nat → Int32} {e0 : Int32} {s : PS} {a f1 f2 : Nat} (ha : a = n) (hI : I 78 1 = nI n) (j10 : J 0 10 = nI n) (j8 : J 8 = B) (fx : FX I0 I) (fy : FY J0 J) (hX : XR I key e0 s) (hY : YR J key s) (hT : TkF B n e0 a J) (hv : PV (nnK key) n s) : POut I0 X S J0 (f_X1_fault_6 (f1 + 1) (I, X, S) 80 78 (nI a)) (f_X10_takesE_28 (f2 + 1) (J, YZ) 0 (nI s.2.2.1) (nI (cN s.2.1)) (bI s.2.2.2.2.2)) := by
  have h7 : I 80 7 = bI s.2.2.2.2.2 := hX.2.2.2.2.2.2.2.1
  have h8 : I 80 8 = nI s.2.2.1 := hX.2.2.2.2.2.2.2.2.1
  have ht0 : tokT B n e0 a = 0 := by unfold tokT; rw [if_pos (by omega)]
  obtain ⟨t12, t13, t11, t15, t14⟩ := hT
  rw [ht0] at t13
  have nx : nxtM B n a = n := by unfold nxtM; rw [if_pos (by omega)]
  rw [nx] at t11
  have hop := hv.2.2.2.1
  rw [f_X1_fault_6, f_X10_takesE_28]
  simp only [gt_self, gd_t, lp_some, st_d, nm_d, on_none, on_some, cl_some, mI_mk, mX_mk, setI_mk, u2_row, rowS_s, rowU_s, xT0 hS, xP0_0 hS, xP0_1 hS, xP0_2 hS, xP0_3 hS, xP0_4 hS, xP0_5 hS, xP0_6 hS, xP0_7 hS, xP0_8 hS, xT73 hS, xP73_0 hS, xT74 hS, xL74 hS, xP73_1 hS, xT75 hS, xL75 hS, xP73_2 hS, xT76 hS, xL76 hS, xP73_3 hS, xT77 hS, xL77 hS, xT78 hS, xP78_0 hS, xT79 hS, xL79 hS, xT80 hS, xP80_0 hS, xP80_2 hS, xT81 hS, xL81 hS, xT82 hS, xL82 hS, xT83 hS, xL83 hS, xT84 hS, xL84 hS, xT85 hS, xL85 hS, yT0, yP0, yT1, yL1, yP1, yT2, yL2, yP2, yT3, yL3, yP5, yT4, yL4, yP6, yT5, yL5, yP7, yT6, yL6, yP8, yT7, yL7, yP9, yT8, yL8, yP17, yT9, yL9, yP18, yT10, yL10, yP19, yT11, yL11, yP22, yT12, yL12, yP24, yT13, yL13, yP25, yT14, yL14, yP26, yT15, yL15, yP27, yT16, yL16, yP28, yT17, yL17, yP29, yT18, yL18, yP30, yT19, yL19, yP31, yT20, yL20, yP32, yT21, yL21, yP33, yT22, yL22, yP34, yT23, yL23, yP35, yT24, yL24]
  rw [hI, if_pos (by rw [ha]; exact nI_le (Nat.le_refl n) (by omega)), h7, h8, f_X1_fault_74]
  simp only [gt_self, gd_t, lp_some, st_d, nm_d, on_none, on_some, cl_some, mI_mk, mX_mk, setI_mk, u2_row, rowS_s, rowU_s, xT0 hS, xP0_0 hS, xP0_1 hS, xP0_2 hS, xP0_3 hS, xP0_4 hS, xP0_5 hS, xP0_6 hS, xP0_7 hS, xP0_8 hS, xT73 hS, xP73_0 hS, xT74 hS, xL74 hS, xP73_1 hS, xT75 hS, xL75 hS, xP73_2 hS, xT76 hS, xL76 hS, xP73_3 hS, xT77 hS, xL77 hS, xT78 hS, xP78_0 hS, xT79 hS, xL79 hS, xT80 hS, xP80_0 hS, xP80_2 hS, xT81 hS, xL81 hS, xT82 hS, xL82 hS, xT83 hS, xL83 hS, xT84 hS, xL84 hS, xT85 hS, xL85 hS]
  rw [hI, t13]
  have lose : ∀ J', FY J0 J' → J' 0 12 = J 0 12 → ∀ Q, Q = some ((0 : Int32), ((J', YZ) : Mem)) → POut I0 X S J0 (some (nI n, (I, X, S))) Q := fun J' q1 q2 Q q3 => ⟨nI n, 0, I, J', rfl, q3, fx, q1, Or.inl ⟨rfl, n, hn, rfl, by rw [q2, t12, ha]⟩⟩
  cases hw : s.2.2.2.2.2 with
  | true =>
    rw [if_neg (show ¬ bI true = 0 from one_ne), if_neg (show ¬ bI true = 0 from one_ne)]
    have h39 := R39 (B := B) (p1 := n) hn (Nat.le_refl n) j10 j8 t11 hY hk hv hn (t := 0) (v := 0) (a := a) t13 (by decide) t12 (by omega) (fun q => by omega) (f_X10_takesE_28 f2)
    rw [hw] at h39
    unfold stepP at h39
    rw [if_pos hw, if_neg (fun q => by omega), if_neg (fun q => by omega), if_neg (by decide), if_neg (fun q => by omega)] at h39
    exact lose J fy rfl _ h39
  | false =>
    rw [if_pos (show bI false = 0 from rfl), if_pos (show bI false = 0 from rfl), if_pos (show nI 0 = 0 from rfl)]
    obtain ⟨⟨m, cd⟩, st, op, cmp, pc, w⟩ := s
    obtain ⟨y1, y2, y3, y4, y5, y6, y7⟩ := hY
    obtain ⟨x1, x2, x3, x4, x5, x6, x7, x8, x9, x10, x11⟩ := hX
    obtain ⟨v1, v2, v3, v4, v5, v6, v7⟩ := hv
    dsimp only at *
    subst hw
    rw [if_neg Bool.false_ne_true] at v6
    obtain ⟨J1, e1, z1, z2, z3, z4, z5⟩ := Rsettle (least := 0) (by decide) (st := st) (m := m) (J := J) v1 (by omega) y1 y3 y4
    have e1 : f_X10_settle (J, YZ) 0 0 = some ((), (J1, YZ)) := e1
    rw [e1]
    simp only [cl_some]
    have hp0 := stl_par st (m, cd) v1
    rw [y2, hp0.1] at z1 z2
    have fy1 : FY J0 J1 := fy.tr ⟨fun x a b _ _ => z5 x a b, fun j hj => z4 j (by omega) (by omega)⟩
    by_cases e : op = 0
    · rw [if_pos (show nI op ≤ 0 by rw [e]; decide), if_pos (show nI op = 0 by rw [e]; rfl)]
      obtain ⟨I1, q1, ⟨w1, w2, w3, w4, w5⟩, w6⟩ := XjoinDown (X := X) (S := S) (r := 1) hS (by decide) (by decide) v1 v2 (by omega) x1 x2 x3 x4
      have q1 : f_X1_joinDownTo (I, X, S) 80 1 = some ((), (I1, X, S)) := q1
      rw [q1]
      simp only [cl_some]
      have hb := stl_bin (least := 1) (by decide) st (m, cd) v2
      have hk1 := stl_ok (least := 1) st m cd v1 v5 v6
      have hl := stl_len (least := 1) st (m, cd)
      have hnil : (stl 1 (m, cd) st).2 = [] := by
        rcases hp0.2 with q | ⟨r, q⟩
        · exact q
        · have := hb.2.2
          rw [q] at this
          have : cP r + (if (-11 : Int32) = -11 then 1 else 0) = cP st := this
          rw [if_pos rfl] at this
          omega
      rw [hnil] at hk1
      have fx1 : FX I0 I1 := fx.tr (fun x a b _ => w5 x a b)
      dsimp only at hl
      refine ⟨-1, 1, I1, J1, rfl, rfl, fx1, fy1, Or.inr ⟨rfl, rfl, key, hk, (stl 1 (m, cd) st).1.1, (stl 1 (m, cd) st).1.2, pc, by omega, w1, w2, ?_, ?_, z1, z2, ?_, ?_, hk1.1, hk1.2, by omega⟩⟩
      · rw [w4 4 (by decide) (by decide) (by decide)]; exact x5
      · rw [w4 5 (by decide) (by decide) (by decide)]; exact x6
      · rw [z4 16 (by decide) (by decide)]; exact y5
      · rw [z4 21 (by decide) (by decide)]; exact y6
    · rw [if_neg (show ¬ nI op ≤ 0 from nI_nle (by omega) (by omega)), if_neg (nI_ne0 (by omega) (by omega))]
      exact lose J1 fy1 (z4 12 (by decide) (by decide)) _ rfl
theorem lockL (hS : LaS S) (hn : n ≤ 96) (hk : key < 3) (hI : I0 78 1 = nI n) (hB : ∀ k, k < n → I0 79 k = B k) (hJ10 : J0 0 10 = nI n) (hJ8 : J0 8 = B) : ∀ (d p f1 f2 : Nat) (I J : Nat → Nat → Int32) (e0 : Int32) (s : PS), n - p ≤ d → p ≤ n → n - p < f1 → n - p < f2 → FX I0 I → FY J0 J → XR I key e0 s → YR J key s → TkF B n e0 (skM B n p) J → PV (nnK key) p s →
    POut I0 X S J0 (f_X1_fault_6 f1 (I, X, S) 80 78 (nI p)) (f_X10_takesE_28 f2 (J, YZ) 0 (nI s.2.2.1) (nI (cN s.2.1)) (bI s.2.2.2.2.2)) := by
  intro d
  induction d with
  | zero =>
    intro p f1 f2 I J e0 s hd hp h1 h2 fx fy hX hY hT hv
    have hsk := sk_le (B := B) hp
    have hI1 : I 78 1 = nI n := by rw [fx 78 (by decide) (by decide) (by decide)]; exact hI
    have j10 : J 0 10 = nI n := by rw [fy.2 10 (by decide)]; exact hJ10
    have j8 : J 8 = B := by rw [fy.1 8 (by decide) (by decide) (by decide) (by decide)]; exact hJ8
    obtain ⟨f1, rfl⟩ : ∃ q, f1 = q + 1 := ⟨f1 - 1, by omega⟩
    obtain ⟨f2, rfl⟩ : ∃ q, f2 = q + 1 := ⟨f2 - 1, by omega⟩
    have ep : skM B n p = p := by omega
    rw [ep] at hT
    have en : p = n := by omega
    rw [en] at hv
    exact endBoth hS hn hk en hI1 j10 j8 fx fy hX hY hT hv
  | succ d ih =>
    intro p f1 f2 I J e0 s hd hp h1 h2 fx fy hX hY hT hv
    have hsk := sk_le (B := B) hp
    have hI1 : I 78 1 = nI n := by rw [fx 78 (by decide) (by decide) (by decide)]; exact hI
    have hB1 : ∀ k, k < n → I 79 k = B k := fun k q => by rw [fx 79 (by decide) (by decide) (by decide)]; exact hB k q
    have j10 : J 0 10 = nI n := by rw [fy.2 10 (by decide)]; exact hJ10
    have j8 : J 8 = B := by rw [fy.1 8 (by decide) (by decide) (by decide) (by decide)]; exact hJ8
    obtain ⟨f', hf', e'⟩ := XskipL (X := X) hS hn hI1 hB1 (n - p) p f1 (by omega) h1
    rw [show runM isSp B (n - p) p = skM B n p from rfl] at hf' e'
    rw [e']
    obtain ⟨f', rfl⟩ : ∃ q, f' = q + 1 := ⟨f' - 1, by omega⟩
    obtain ⟨f2, rfl⟩ : ∃ q, f2 = q + 1 := ⟨f2 - 1, by omega⟩
    have hne := sk_no (B := B) (n := n) (p := p) hp
    generalize skM B n p = a at hf' hT hsk hne ⊢
    by_cases ea : n ≤ a
    · exact endBoth hS hn hk (by omega) hI1 j10 j8 fx fy hX hY hT ⟨hv.1, hv.2.1, hv.2.2.1, hv.2.2.2.1, hv.2.2.2.2.1, hv.2.2.2.2.2.1, by have := hv.2.2.2.2.2.2; omega⟩
    have ha : a < n := by omega
    have he := end_le (B := B) ha
    obtain ⟨t12, t13, t11, t15, t14⟩ := hT
    have nx : nxtM B n a = endM B n a := by unfold nxtM; rw [if_neg ea]
    rw [nx] at t11
    have ht4 := tok_le B n e0 a
    have hv' : PV (nnK key) a s := ⟨hv.1, hv.2.1, hv.2.2.1, hv.2.2.2.1, hv.2.2.2.2.1, hv.2.2.2.2.2.1, by have := hv.2.2.2.2.2.2; omega⟩
    have gx := XgoesOn (X := X) (S := S) hS hn ha hB1 hX hk hv' (by omega)
    have gy := R39 (B := B) (p1 := endM B n a) hn he.2 j10 j8 t11 hY hk hv' (by omega) t13 ht4 t12 (by omega) t14 (f_X10_takesE_28 f2)
    rw [t15] at gy
    have r28 : f_X10_takesE_28 (f2 + 1) (J, YZ) 0 (nI s.2.2.1) (nI (cN s.2.1)) (bI s.2.2.2.2.2) = f_X10_takesE_39 (f_X10_takesE_28 f2) (J, YZ) 0 (nI s.2.2.1) (nI (cN s.2.1)) (bI s.2.2.2.2.2) := by
      rw [f_X10_takesE_28]
      simp only [gt_self, gd_t, lp_some, st_d, nm_d, on_none, on_some, cl_some, mI_mk, mX_mk, setI_mk, u2_row, rowS_s, rowU_s, yT0, yP0, yT1, yL1, yP1, yT2, yL2, yP2, yT3, yL3, yP5, yT4, yL4, yP6, yT5, yL5, yP7, yT6, yL6, yP8, yT7, yL7, yP9, yT8, yL8, yP17, yT9, yL9, yP18, yT10, yL10, yP19, yT11, yL11, yP22, yT12, yL12, yP24, yT13, yL13, yP25, yT14, yL14, yP26, yT15, yL15, yP27, yT16, yL16, yP28, yT17, yL17, yP29, yT18, yL18, yP30, yT19, yL19, yP31, yT20, yL20, yP32, yT21, yL21, yP33, yT22, yL22, yP34, yT23, yL23, yP35, yT24, yL24]
      rw [t13]
      have n0 : ¬ nI (tokT B n e0 a) = 0 := by
        refine nI_ne0 ?_ (by omega)
        unfold tokT
        rw [if_neg ea]
        repeat' split
        all_goals decide
      rw [if_neg n0]
      by_cases z : bI s.2.2.2.2.2 = 0
      · rw [if_pos z]
      · rw [if_neg z]
    rw [r28, f_X1_fault_6]
    simp only [gt_self, gd_t, lp_some, st_d, nm_d, on_none, on_some, cl_some, mI_mk, mX_mk, setI_mk, u2_row, rowS_s, rowU_s, xT0 hS, xP0_0 hS, xP0_1 hS, xP0_2 hS, xP0_3 hS, xP0_4 hS, xP0_5 hS, xP0_6 hS, xP0_7 hS, xP0_8 hS, xT73 hS, xP73_0 hS, xT74 hS, xL74 hS, xP73_1 hS, xT75 hS, xL75 hS, xP73_2 hS, xT76 hS, xL76 hS, xP73_3 hS, xT77 hS, xL77 hS, xT78 hS, xP78_0 hS, xT79 hS, xL79 hS, xT80 hS, xP80_0 hS, xP80_2 hS, xT81 hS, xL81 hS, xT82 hS, xL82 hS, xT83 hS, xL83 hS, xT84 hS, xL84 hS, xT85 hS, xL85 hS]
    rw [hI1, if_neg (nI_ge ha (by omega)), gd_ok (ib_nI (by omega) (by decide)), nI_clamp (by omega), hB1 a ha, if_neg (hne ha), XendOf hS hn ha hI1 hB1]
    simp only [gt_self, gd_t, lp_some, st_d, nm_d, on_none, on_some, cl_some, mI_mk, mX_mk, setI_mk, u2_row, rowS_s, rowU_s, xT0 hS, xP0_0 hS, xP0_1 hS, xP0_2 hS, xP0_3 hS, xP0_4 hS, xP0_5 hS, xP0_6 hS, xP0_7 hS, xP0_8 hS, xT73 hS, xP73_0 hS, xT74 hS, xL74 hS, xP73_1 hS, xT75 hS, xL75 hS, xP73_2 hS, xT76 hS, xL76 hS, xP73_3 hS, xT77 hS, xL77 hS, xT78 hS, xP78_0 hS, xT79 hS, xL79 hS, xT80 hS, xP80_0 hS, xP80_2 hS, xT81 hS, xL81 hS, xT82 hS, xL82 hS, xT83 hS, xL83 hS, xT84 hS, xL84 hS, xT85 hS, xL85 hS]
    have hmx : imax (nI a + 1) (nI (endM B n a)) = nI (endM B n a) := by
      rw [nI_1]
      unfold imax
      by_cases z : a + 1 < endM B n a
      · rw [if_pos (nI_lt z (by omega))]
      · rw [if_neg (nI_nlt (by omega) (by omega)), show a + 1 = endM B n a by omega]
    rw [hmx]
    cases ho : stepP key (tokT B n e0 a) (tokV B n a) (endM B n a - a) s with
    | none =>
      rw [ho] at gx gy
      obtain ⟨I1, q1, q2⟩ := gx
      rw [q1]
      simp only [cl_some]
      rw [if_pos trivial]
      exact ⟨nI a, 0, I1, J, rfl, gy, fx.tr q2, fy, Or.inl ⟨rfl, a, by omega, rfl, t12⟩⟩
    | some s' =>
      rw [ho] at gx gy
      obtain ⟨I1, q1, q2, q3⟩ := gx
      obtain ⟨J1, w1, w2, w3, w4⟩ := gy
      rw [q1, w1]
      simp only [cl_some]
      rw [if_neg one_ne]
      exact ih (endM B n a) f' f2 I1 J1 (tokE B n e0 a) s' (by omega) he.2 (by omega) (by omega) (fx.tr q3) (fy.tr w4) q2 w2 w3 (step_ok hk hv' he.1 (fun q => (tok2 q).2.2.2.2) ho)
end Lock
