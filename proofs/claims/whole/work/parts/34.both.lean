/-! BOTH SIDES TOGETHER: what holds between two calls -/
def hasB (v : Int32) (n : Nat) : Bool := decide (0 ≤ v ∧ v < nI n)
theorem hasB_t {v : Int32} {n : Nat} (h : hasB v n = true) (hn : n < 2 ^ 31) : ∃ k, k < n ∧ v = nI k := by
  have h := of_decide_eq_true h
  have h1 := Int32.le_iff_toInt_le.mp h.1
  have h2 := Int32.lt_iff_toInt_lt.mp h.2
  rw [nI_toInt hn] at h2
  have h1 : (0 : Int) ≤ v.toInt := h1
  refine ⟨v.toInt.toNat, by omega, ?_⟩
  apply Int32.toInt_inj.mp
  rw [nI_toInt (by omega)]
  omega
theorem hasB_nI {k n : Nat} (hk : k < n) (hn : n < 2 ^ 31) : hasB (nI k) n = true := decide_eq_true ⟨nI_pos' (by omega), nI_lt hk hn⟩
theorem hasB_iff {k n : Nat} (hk : k < 2 ^ 31) (hn : n < 2 ^ 31) : hasB (nI k) n = decide (k < n) := by
  by_cases h : k < n
  · rw [hasB_nI h hn, decide_eq_true h]
  · rw [decide_eq_false h]
    exact decide_eq_false (fun q => nI_nlt (a := k) (b := n) (by omega) hk q.2)
theorem ifB {α : Type} {b : Bool} {x y : α} : (if bI b = 0 then x else y) = if b = true then y else x := by cases b <;> rfl
theorem isB_bI (b : Bool) : isB (bI b) = true := by cases b <;> rfl
/-- v lies from 0 to m -/
theorem Rin0 (M : Mem) (v : Int32) {m : Nat} (hm : m < 2 ^ 30) : f_X10_in M v 0 (nI m) = some (bI (hasB v (m + 1)), M) := by
  rw [f_X10_in]
  unfold hasB
  by_cases h : v < 0
  · rw [if_pos h, decide_eq_false (fun q => by have := Int32.lt_iff_toInt_lt.mp h; have := Int32.le_iff_toInt_le.mp q.1; omega)]; rfl
  · rw [if_neg h]
    have h0 : (0 : Int32) ≤ v := Int32.not_lt.mp h
    by_cases h2 : nI m < v
    · rw [if_pos h2, decide_eq_false (fun q => by
        have q2 := Int32.lt_iff_toInt_lt.mp q.2
        have h3 := Int32.lt_iff_toInt_lt.mp h2
        rw [nI_toInt (by omega)] at q2 h3; omega)]; rfl
    · rw [if_neg h2, decide_eq_true ⟨h0, by
        have h3 := Int32.le_iff_toInt_le.mp (Int32.not_lt.mp h2)
        apply Int32.lt_iff_toInt_lt.mpr
        rw [nI_toInt (by omega)] at h3 ⊢; omega⟩]; rfl
theorem Rinm1 (M : Mem) (v : Int32) {n : Nat} (hn : n < 2 ^ 30) : f_X10_in M v 0 (nI n - 1) = some (bI (hasB v n), M) := by
  cases n with
  | zero =>
    rw [f_X10_in]
    unfold hasB
    by_cases h : v < 0
    · rw [if_pos h, decide_eq_false (fun q => by have := Int32.lt_iff_toInt_lt.mp h; have := Int32.le_iff_toInt_le.mp q.1; omega)]; rfl
    · rw [if_neg h, if_pos, decide_eq_false (fun q => h q.2)]
      · rfl
      · apply Int32.lt_iff_toInt_lt.mpr
        have h3 := Int32.le_iff_toInt_le.mp (Int32.not_lt.mp h)
        rw [show (nI 0 - 1 : Int32).toInt = -1 from by decide]
        have h3 : (0 : Int) ≤ v.toInt := h3
        omega
  | succ n => rw [nI_s1]; exact Rin0 M v (by omega)
theorem Xin0 (M : Mem) (v : Int32) {m : Nat} (hm : m < 2 ^ 30) : f_X9_within M v (nI m) = some (bI (hasB v (m + 1)), M) := by
  rw [← Rin0 M v hm, f_X9_within, f_X10_in]
theorem Rin_1 (M : Mem) (v : Int32) : f_X10_in M v 0 1 = some (bI (hasB v 2), M) := Rin0 M v (m := 1) (by decide)
theorem Rin_2 (M : Mem) (v : Int32) : f_X10_in M v 0 2 = some (bI (hasB v 3), M) := Rin0 M v (m := 2) (by decide)
theorem Rin_3 (M : Mem) (v : Int32) : f_X10_in M v 0 3 = some (bI (hasB v 4), M) := Rin0 M v (m := 3) (by decide)
theorem Rin_4 (M : Mem) (v : Int32) : f_X10_in M v 0 4 = some (bI (hasB v 5), M) := Rin0 M v (m := 4) (by decide)
theorem Rin_5 (M : Mem) (v : Int32) : f_X10_in M v 0 5 = some (bI (hasB v 6), M) := Rin0 M v (m := 5) (by decide)
theorem Rin_60 (M : Mem) (v : Int32) : f_X10_in M v 0 60 = some (bI (hasB v 61), M) := Rin0 M v (m := 60) (by decide)
theorem Rin_99 (M : Mem) (v : Int32) : f_X10_in M v 0 99 = some (bI (hasB v 100), M) := Rin0 M v (m := 99) (by decide)
theorem Rin_100 (M : Mem) (v : Int32) : f_X10_in M v 0 100 = some (bI (hasB v 101), M) := Rin0 M v (m := 100) (by decide)
theorem Rin_999 (M : Mem) (v : Int32) : f_X10_in M v 0 999 = some (bI (hasB v 1000), M) := Rin0 M v (m := 999) (by decide)
theorem Xin_1 (M : Mem) (v : Int32) : f_X9_within M v 1 = some (bI (hasB v 2), M) := Xin0 M v (m := 1) (by decide)
theorem Xin_2 (M : Mem) (v : Int32) : f_X9_within M v 2 = some (bI (hasB v 3), M) := Xin0 M v (m := 2) (by decide)
theorem Xin_3 (M : Mem) (v : Int32) : f_X9_within M v 3 = some (bI (hasB v 4), M) := Xin0 M v (m := 3) (by decide)
theorem Xin_4 (M : Mem) (v : Int32) : f_X9_within M v 4 = some (bI (hasB v 5), M) := Xin0 M v (m := 4) (by decide)
theorem Xin_5 (M : Mem) (v : Int32) : f_X9_within M v 5 = some (bI (hasB v 6), M) := Xin0 M v (m := 5) (by decide)
theorem Xin_60 (M : Mem) (v : Int32) : f_X9_within M v 60 = some (bI (hasB v 61), M) := Xin0 M v (m := 60) (by decide)
theorem Xin_99 (M : Mem) (v : Int32) : f_X9_within M v 99 = some (bI (hasB v 100), M) := Xin0 M v (m := 99) (by decide)
theorem Xin_100 (M : Mem) (v : Int32) : f_X9_within M v 100 = some (bI (hasB v 101), M) := Xin0 M v (m := 100) (by decide)
theorem Xin_999 (M : Mem) (v : Int32) : f_X9_within M v 999 = some (bI (hasB v 1000), M) := Xin0 M v (m := 999) (by decide)
/-- v lies from 1 to m, in both writings -/
def hasB1 (v : Int32) (n : Nat) : Bool := decide (1 ≤ v ∧ v ≤ nI n)
theorem hasB1_t {v : Int32} {n : Nat} (h : hasB1 v n = true) (hn : n < 2 ^ 31) : ∃ k, 1 ≤ k ∧ k ≤ n ∧ v = nI k := by
  have h := of_decide_eq_true h
  have h1 := Int32.le_iff_toInt_le.mp h.1
  have h2 := Int32.le_iff_toInt_le.mp h.2
  rw [nI_toInt hn] at h2
  have h1 : (1 : Int) ≤ v.toInt := h1
  refine ⟨v.toInt.toNat, by omega, by omega, ?_⟩
  apply Int32.toInt_inj.mp
  rw [nI_toInt (by omega)]
  omega
theorem Rin1 (M : Mem) (v : Int32) (n : Nat) : f_X10_in M v 1 (nI n) = some (bI (hasB1 v n), M) := by
  rw [f_X10_in]
  unfold hasB1
  by_cases h : v < 1
  · rw [if_pos h, decide_eq_false (fun q => Int32.not_lt.mpr q.1 h)]; rfl
  · rw [if_neg h]
    by_cases h2 : nI n < v
    · rw [if_pos h2, decide_eq_false (fun q => Int32.not_lt.mpr q.2 h2)]; rfl
    · rw [if_neg h2, decide_eq_true ⟨Int32.not_lt.mp h, Int32.not_lt.mp h2⟩]; rfl
theorem Rin1_3 (M : Mem) (v : Int32) : f_X10_in M v 1 3 = some (bI (hasB1 v 3), M) := Rin1 M v 3
theorem Rin1_8 (M : Mem) (v : Int32) : f_X10_in M v 1 8 = some (bI (hasB1 v 8), M) := Rin1 M v 8
theorem Rin1_30 (M : Mem) (v : Int32) : f_X10_in M v 1 30 = some (bI (hasB1 v 30), M) := Rin1 M v 30
theorem Rin1_60 (M : Mem) (v : Int32) : f_X10_in M v 1 60 = some (bI (hasB1 v 60), M) := Rin1 M v 60
theorem Rin1_99 (M : Mem) (v : Int32) : f_X10_in M v 1 99 = some (bI (hasB1 v 99), M) := Rin1 M v 99
theorem ifB1 {α : Type} {v : Int32} {n : Nat} {x y : α} : (if v < 1 then x else if nI n < v then x else y) = if hasB1 v n = true then y else x := by
  unfold hasB1
  by_cases h : v < 1
  · rw [if_pos h, if_neg (by rw [decide_eq_false (fun q => Int32.not_lt.mpr q.1 h)]; exact Bool.false_ne_true)]
  · rw [if_neg h]
    by_cases h2 : nI n < v
    · rw [if_pos h2, if_neg (by rw [decide_eq_false (fun q => Int32.not_lt.mpr q.2 h2)]; exact Bool.false_ne_true)]
    · rw [if_neg h2, if_pos (decide_eq_true ⟨Int32.not_lt.mp h, Int32.not_lt.mp h2⟩)]
/-! what a kind is under, what a chimney is worth -/
def worthM (k warm frogs : Int32) : Int32 := if k = 1 then warm + frogs else if k = 2 then 99 - warm else if k = 3 then 2 * (warm + frogs) else if k = 4 then 92 - warm else if k = 5 then 2 else warm
/-! a world and its row -/
def Wld (I : Nat → Nat → Int32) (X : Nat → Nat → Option Nat) (S : Sta) (w : Nat) (N : Nat → Int32) (nc ns nt : Nat) : Prop := RelW I X S w N nc ns nt ∧ GN N nc ns nt ∧ GR N nc ns ∧ (∃ y, y ≤ 999 ∧ N 3 = nI y) ∧ ∀ t, t < nt → ∀ b, X (w + 4) t = some b → b < S.2.2.2 ∧ ∀ a, S.1 b 2 = some a → a < S.2.2.2
section WldF
variable {I : Nat → Nat → Int32} {X : Nat → Nat → Option Nat} {S : Sta} {w : Nat} {N : Nat → Int32} {nc ns nt : Nat}
theorem Wld.r (h : Wld I X S w N nc ns nt) : RelW I X S w N nc ns nt := h.1
theorem Wld.gn (h : Wld I X S w N nc ns nt) : GN N nc ns nt := h.2.1
theorem Wld.gr (h : Wld I X S w N nc ns nt) : GR N nc ns := h.2.2.1
theorem Wld.yr (h : Wld I X S w N nc ns nt) : ∃ y, y ≤ 999 ∧ N 3 = nI y := h.2.2.2.1
theorem Wld.tb (h : Wld I X S w N nc ns nt) : ∀ t, t < nt → ∀ b, X (w + 4) t = some b → b < S.2.2.2 ∧ ∀ a, S.1 b 2 = some a → a < S.2.2.2 := h.2.2.2.2
end WldF
theorem Wld.same {I I' : Nat → Nat → Int32} {X X' : Nat → Nat → Option Nat} {S : Sta} {w : Nat} {N N' : Nat → Int32} {nc ns nt : Nat} (h : Wld I X S w N nc ns nt) (hI : ∀ a, ownW w a → I' a = I a) (hX : X' (w + 4) = X (w + 4)) (hN : N' = N) : Wld I' X' S w N' nc ns nt := by
  subst hN
  have q := h.r.same h.gn.2.1 h.gn.2.2.2.1 hI
  refine ⟨⟨q.1, q.2.1, q.2.2.1, fun t ht => by rw [hX]; exact q.2.2.2 t ht⟩, h.gn, h.gr, h.yr, fun t ht b hb => h.tb t ht b (by rw [← hX]; exact hb)⟩
def ShR (I J : Nat → Nat → Int32) (k : Nat) : Prop := (I (86 + 2 * k) 0 = -1 ∨ I (86 + 2 * k) 0 = 0 ∨ I (86 + 2 * k) 0 = 1) ∧ J 16 k = I (86 + 2 * k) 0 ∧ ∃ n, n ≤ 24 ∧ I (86 + 2 * k) 1 = nI n ∧ J 17 k = nI n ∧ ∀ j, j < 24 → I (87 + 2 * k) j = J 18 (24 * k + j)
def SlR (I J : Nat → Nat → Int32) (k : Nat) : Prop := J 19 k = I (94 + 4 * k) 0 ∧ (∃ t, t < 4 ∧ I (94 + 4 * k) 0 = nI t) ∧
  (I (94 + 4 * k) 0 = 1 → (∃ q, q < 6 ∧ J 20 k = nI q ∧ I (95 + 4 * k) 0 = nI q) ∧ J 21 k = worthM (I (95 + 4 * k) 0) (I (95 + 4 * k) 2) (I (95 + 4 * k) 3)) ∧
  (I (94 + 4 * k) 0 = 2 → ∃ n, n ≤ 24 ∧ I (96 + 4 * k) 1 = nI n ∧ J 20 k = nI n ∧ ∀ j, j < 24 → I (97 + 4 * k) j = J 22 (24 * k + j)) ∧
  (I (94 + 4 * k) 0 = 3 → I (94 + 4 * k) 3 = J 20 k)
def TpR (I J : Nat → Nat → Int32) : Prop := ∃ n, n ≤ 96 ∧ I 78 1 = nI n ∧ J 0 10 = nI n ∧ ∀ k, k < n → I 79 k = J 8 k ∧ ∃ b, b < 256 ∧ J 8 k = nI b
def WtR (I J : Nat → Nat → Int32) : Prop := ∃ n, n ≤ 60 ∧ I 0 9 = nI n ∧ J 0 36 = nI n ∧ ∀ k, k < n → I 85 k = J 24 k
def ImR (I : Nat → Nat → Int32) (X : Nat → Nat → Option Nat) (S : Sta) (J : Nat → Nat → Int32) : Prop := I 0 10 = J 0 3 ∧ (J 0 3 = 0 ∨ (J 0 3 = 1 ∧ ∃ a b c, Wld I X S 25 (J 2) a b c))
/-- all but the world that is now -/
def Rst (I : Nat → Nat → Int32) (X : Nat → Nat → Option Nat) (S : Sta) (J : Nat → Nat → Int32) : Prop := LaS S ∧ ImR I X S J ∧ spNo J ∧ J 9 = Y0.1 9 ∧ J 10 = Y0.1 10 ∧ TpR I J ∧ WtR I J ∧ (∀ k, k < 4 → ShR I J k) ∧ ∀ k, k < 5 → SlR I J k
theorem Rst.la {I : Nat → Nat → Int32} {X : Nat → Nat → Option Nat} {S : Sta} {J : Nat → Nat → Int32} (h : Rst I X S J) : LaS S := h.1
theorem Rst.im {I : Nat → Nat → Int32} {X : Nat → Nat → Option Nat} {S : Sta} {J : Nat → Nat → Int32} (h : Rst I X S J) : ImR I X S J := h.2.1
theorem Rst.no {I : Nat → Nat → Int32} {X : Nat → Nat → Option Nat} {S : Sta} {J : Nat → Nat → Int32} (h : Rst I X S J) : spNo J := h.2.2.1
theorem Rst.k9 {I : Nat → Nat → Int32} {X : Nat → Nat → Option Nat} {S : Sta} {J : Nat → Nat → Int32} (h : Rst I X S J) : J 9 = Y0.1 9 := h.2.2.2.1
theorem Rst.k10 {I : Nat → Nat → Int32} {X : Nat → Nat → Option Nat} {S : Sta} {J : Nat → Nat → Int32} (h : Rst I X S J) : J 10 = Y0.1 10 := h.2.2.2.2.1
theorem Rst.tp {I : Nat → Nat → Int32} {X : Nat → Nat → Option Nat} {S : Sta} {J : Nat → Nat → Int32} (h : Rst I X S J) : TpR I J := h.2.2.2.2.2.1
theorem Rst.wt {I : Nat → Nat → Int32} {X : Nat → Nat → Option Nat} {S : Sta} {J : Nat → Nat → Int32} (h : Rst I X S J) : WtR I J := h.2.2.2.2.2.2.1
theorem Rst.sh {I : Nat → Nat → Int32} {X : Nat → Nat → Option Nat} {S : Sta} {J : Nat → Nat → Int32} (h : Rst I X S J) : ∀ k, k < 4 → ShR I J k := h.2.2.2.2.2.2.2.1
theorem Rst.sl {I : Nat → Nat → Int32} {X : Nat → Nat → Option Nat} {S : Sta} {J : Nat → Nat → Int32} (h : Rst I X S J) : ∀ k, k < 5 → SlR I J k := h.2.2.2.2.2.2.2.2
def ownX (a : Nat) : Prop := a = 0 ∨ ownW 25 a ∨ a = 78 ∨ a = 79 ∨ 85 ≤ a
def ownY (a : Nat) : Prop := a = 0 ∨ a = 2 ∨ (8 ≤ a ∧ a ≤ 10) ∨ (16 ≤ a ∧ a ≤ 22) ∨ a = 24
theorem Rst.same {I I' : Nat → Nat → Int32} {X X' : Nat → Nat → Option Nat} {S : Sta} {J J' : Nat → Nat → Int32} (h : Rst I X S J) (hI : ∀ a, ownX a → I' a = I a) (hX : X' 29 = X 29) (hJ : ∀ a, ownY a → J' a = J a) : Rst I' X' S J' := by
  have i0 := hI 0 (Or.inl rfl)
  have i78 := hI 78 (by unfold ownX; omega)
  have i79 := hI 79 (by unfold ownX; omega)
  have ib : ∀ a, 85 ≤ a → I' a = I a := fun a ha => hI a (by unfold ownX; omega)
  have j0 := hJ 0 (Or.inl rfl)
  have j2 := hJ 2 (by unfold ownY; omega)
  have jb : ∀ a, 8 ≤ a → a ≤ 10 → J' a = J a := fun a h1 h2 => hJ a (by unfold ownY; omega)
  have jc : ∀ a, 16 ≤ a → a ≤ 22 → J' a = J a := fun a h1 h2 => hJ a (by unfold ownY; omega)
  have j24 := hJ 24 (by unfold ownY; omega)
  refine ⟨h.la, ?_, ?_, by rw [jb 9 (by decide) (by decide)]; exact h.k9, by rw [jb 10 (by decide) (by decide)]; exact h.k10, ?_, ?_, fun k hk => ?_, fun k hk => ?_⟩
  · unfold ImR
    rw [i0, j0]
    refine ⟨h.im.1, ?_⟩
    rcases h.im.2 with q | ⟨q, a, b, c, hw⟩
    · exact Or.inl q
    · exact Or.inr ⟨q, a, b, c, hw.same (fun x hx => hI x (by unfold ownX; exact Or.inr (Or.inl hx))) hX j2⟩
  · unfold spNo; rw [j0]; exact h.no
  · unfold TpR; rw [i78, i79, j0, jb 8 (by decide) (by decide)]; exact h.tp
  · unfold WtR; rw [i0, j0, ib 85 (by decide), j24]; exact h.wt
  · unfold ShR; rw [ib _ (by omega), ib _ (by omega), jc 16 (by decide) (by decide), jc 17 (by decide) (by decide), jc 18 (by decide) (by decide)]; exact h.sh k hk
  · unfold SlR; rw [ib _ (by omega), ib _ (by omega), ib _ (by omega), ib _ (by omega), jc 19 (by decide) (by decide), jc 20 (by decide) (by decide), jc 21 (by decide) (by decide), jc 22 (by decide) (by decide)]; exact h.sl k hk
/-- the class' memory and the reference's agree -/
def Sm (I : Nat → Nat → Int32) (X : Nat → Nat → Option Nat) (S : Sta) (J : Nat → Nat → Int32) (nc ns nt : Nat) : Prop := Wld I X S 1 (J 1) nc ns nt ∧ Rst I X S J
theorem Sm.w {I : Nat → Nat → Int32} {X : Nat → Nat → Option Nat} {S : Sta} {J : Nat → Nat → Int32} {nc ns nt : Nat} (h : Sm I X S J nc ns nt) : Wld I X S 1 (J 1) nc ns nt := h.1
theorem Sm.rs {I : Nat → Nat → Int32} {X : Nat → Nat → Option Nat} {S : Sta} {J : Nat → Nat → Int32} {nc ns nt : Nat} (h : Sm I X S J nc ns nt) : Rst I X S J := h.2
theorem Sm.same {I I' : Nat → Nat → Int32} {X : Nat → Nat → Option Nat} {S : Sta} {J J' : Nat → Nat → Int32} {nc ns nt : Nat} (h : Sm I X S J nc ns nt) (hI : ∀ a, ownW 1 a ∨ ownX a → I' a = I a) (hJ : ∀ a, a = 1 ∨ ownY a → J' a = J a) : Sm I' X S J' nc ns nt :=
  ⟨h.w.same (fun a ha => hI a (Or.inl ha)) rfl (hJ 1 (Or.inl rfl)), h.rs.same (fun a ha => hI a (Or.inr ha)) rfl (fun a ha => hJ a (Or.inr ha))⟩
/-- both answer the same, and agree again -/
def Ok2 (A B : Option (Int32 × Mem)) : Prop := ∃ r I X S J nc ns nt, A = some (r, (I, X, S)) ∧ B = some (r, (J, YZ)) ∧ Sm I X S J nc ns nt
theorem Ok2.mk {r : Int32} {I : Nat → Nat → Int32} {X : Nat → Nat → Option Nat} {S : Sta} {J : Nat → Nat → Int32} {nc ns nt : Nat} (h : Sm I X S J nc ns nt) : Ok2 (some (r, (I, X, S))) (some (r, (J, YZ))) := ⟨r, I, X, S, J, nc, ns, nt, rfl, rfl, h⟩
theorem xP0_0w {S : Sta} {I : Nat → Nat → Int32} {X : Nat → Nat → Option Nat} {w : Nat} (h : LaS S) (hw1 : w = 1) : mP (I, X, S) 0 0 = some w := by subst hw1; exact xP0_0 h
section Has
variable {I : Nat → Nat → Int32} {X : Nat → Nat → Option Nat} {S : Sta} {w : Nat} {N : Nat → Int32} {nc ns nt : Nat}
theorem hasLoop (v : Int32) {n : Nat} (M : Mem) : (if v < 0 then some ((0 : Int32), M) else if nI n ≤ v then some (0, M) else some (1, M)) = some (bI (hasB v n), M) := by
  unfold hasB
  by_cases h : v < 0
  · rw [if_pos h, decide_eq_false (fun q => Int32.not_lt.mpr q.1 h)]; rfl
  · rw [if_neg h]
    by_cases h2 : nI n ≤ v
    · rw [if_pos h2, decide_eq_false (fun q => Int32.not_lt.mpr h2 q.2)]; rfl
    · rw [if_neg h2, decide_eq_true ⟨Int32.not_lt.mp h, Int32.not_le.mp h2⟩]; rfl
theorem XhasC (hS : LaS S) (hw : isW w) (hR : RelW I X S w N nc ns nt) (hG : GN N nc ns nt) (v : Int32) : f_X8_hasChimney (I, X, S) w v = some (bI (hasB v nc), (I, X, S)) := by
  rw [f_X8_hasChimney]
  simp only [gt_self, gd_t, lp_some, st_d, nm_d, on_none, on_some, cl_some, mI_mk, mX_mk, setI_mk, u2_row, rowS_s, rowU_s, xT0 hS, xP0_0 hS, xP0_1 hS, xP0_2 hS, xP0_3 hS, xP0_4 hS, xP0_5 hS, xP0_6 hS, xP0_7 hS, xP0_8 hS, xT73 hS, xP73_0 hS, xT74 hS, xL74 hS, xP73_1 hS, xT75 hS, xL75 hS, xP73_2 hS, xT76 hS, xL76 hS, xP73_3 hS, xT77 hS, xL77 hS, xT78 hS, xP78_0 hS, xT79 hS, xL79 hS, xT80 hS, xP80_0 hS, xP80_2 hS, xT81 hS, xL81 hS, xT82 hS, xL82 hS, xT83 hS, xL83 hS, xT84 hS, xL84 hS, xT85 hS, xL85 hS, wT hS hw, wP0 hS hw, wP2 hS hw, wP4 hS hw, wP7 hS hw, wP9 hS hw, wT1 hS hw, wL1 hS hw, wT2 hS hw, wL2 hS hw, wT3 hS hw, wL3 hS hw, wT4 hS hw, wL4 hS hw, wT5 hS hw, wL5 hS hw]
  rw [hR.1.2.1, hG.1]
  exact hasLoop v _
theorem XhasS (hS : LaS S) (hw : isW w) (hR : RelW I X S w N nc ns nt) (hG : GN N nc ns nt) (v : Int32) : f_X8_hasStork (I, X, S) w v = some (bI (hasB v ns), (I, X, S)) := by
  rw [f_X8_hasStork]
  simp only [gt_self, gd_t, lp_some, st_d, nm_d, on_none, on_some, cl_some, mI_mk, mX_mk, setI_mk, u2_row, rowS_s, rowU_s, xT0 hS, xP0_0 hS, xP0_1 hS, xP0_2 hS, xP0_3 hS, xP0_4 hS, xP0_5 hS, xP0_6 hS, xP0_7 hS, xP0_8 hS, xT73 hS, xP73_0 hS, xT74 hS, xL74 hS, xP73_1 hS, xT75 hS, xL75 hS, xP73_2 hS, xT76 hS, xL76 hS, xP73_3 hS, xT77 hS, xL77 hS, xT78 hS, xP78_0 hS, xT79 hS, xL79 hS, xT80 hS, xP80_0 hS, xP80_2 hS, xT81 hS, xL81 hS, xT82 hS, xL82 hS, xT83 hS, xL83 hS, xT84 hS, xL84 hS, xT85 hS, xL85 hS, wT hS hw, wP0 hS hw, wP2 hS hw, wP4 hS hw, wP7 hS hw, wP9 hS hw, wT1 hS hw, wL1 hS hw, wT2 hS hw, wL2 hS hw, wT3 hS hw, wL3 hS hw, wT4 hS hw, wL4 hS hw, wT5 hS hw, wL5 hS hw]
  rw [hR.1.2.2.1, hG.2.2.1]
  exact hasLoop v _
theorem RisC {J : Nat → Nat → Int32} (hG : GN (J 1) nc ns nt) (v : Int32) : f_X10_isChimney (J, YZ) 0 v = some (bI (hasB v nc), (J, YZ)) := by
  rw [f_X10_isChimney]
  simp only [gt_self, gd_t, lp_some, st_d, nm_d, on_none, on_some, cl_some, mI_mk, mX_mk, setI_mk, u2_row, rowS_s, rowU_s, yT0, yP0, yT1, yL1, yP1, yT2, yL2, yP2, yT3, yL3, yP5, yT4, yL4, yP6, yT5, yL5, yP7, yT6, yL6, yP8, yT7, yL7, yP9, yT8, yL8, yP17, yT9, yL9, yP18, yT10, yL10, yP19, yT11, yL11, yP22, yT12, yL12, yP24, yT13, yL13, yP25, yT14, yL14, yP26, yT15, yL15, yP27, yT16, yL16, yP28, yT17, yL17, yP29, yT18, yL18, yP30, yT19, yL19, yP31, yT20, yL20, yP32, yT21, yL21, yP33, yT22, yL22, yP34, yT23, yL23, yP35, yT24, yL24, il1 (show 1 < 1442 by decide), tn1]
  rw [hG.1, Rinm1 _ _ (by have := hG.2.1; omega)]
  simp only [gt_self, gd_t, lp_some, st_d, nm_d, on_none, on_some, cl_some, mI_mk, mX_mk, setI_mk, u2_row, rowS_s, rowU_s]
  rw [gd_ok (isB_bI _)]
theorem RisS {J : Nat → Nat → Int32} (hG : GN (J 1) nc ns nt) (v : Int32) : f_X10_isStork (J, YZ) 0 v = some (bI (hasB v ns), (J, YZ)) := by
  rw [f_X10_isStork]
  simp only [gt_self, gd_t, lp_some, st_d, nm_d, on_none, on_some, cl_some, mI_mk, mX_mk, setI_mk, u2_row, rowS_s, rowU_s, yT0, yP0, yT1, yL1, yP1, yT2, yL2, yP2, yT3, yL3, yP5, yT4, yL4, yP6, yT5, yL5, yP7, yT6, yL6, yP8, yT7, yL7, yP9, yT8, yL8, yP17, yT9, yL9, yP18, yT10, yL10, yP19, yT11, yL11, yP22, yT12, yL12, yP24, yT13, yL13, yP25, yT14, yL14, yP26, yT15, yL15, yP27, yT16, yL16, yP28, yT17, yL17, yP29, yT18, yL18, yP30, yT19, yL19, yP31, yT20, yL20, yP32, yT21, yL21, yP33, yT22, yL22, yP34, yT23, yL23, yP35, yT24, yL24, il2 (show 2 < 1442 by decide), tn2]
  rw [hG.2.2.1, Rinm1 _ _ (by have := hG.2.2.2.1; omega)]
  simp only [gt_self, gd_t, lp_some, st_d, nm_d, on_none, on_some, cl_some, mI_mk, mX_mk, setI_mk, u2_row, rowS_s, rowU_s]
  rw [gd_ok (isB_bI _)]
theorem RisW (M : Mem) (v : Int32) : f_X10_isWard M v = some (bI (hasB v 4), M) := by
  rw [f_X10_isWard, Rin_3]
  simp only [gt_self, gd_t, lp_some, st_d, nm_d, on_none, on_some, cl_some, mI_mk, mX_mk, setI_mk, u2_row, rowS_s, rowU_s]
  rw [gd_ok (isB_bI _)]
theorem RisSh (M : Mem) (v : Int32) : f_X10_isSheet M v = some (bI (hasB v 4), M) := by
  rw [f_X10_isSheet, Rin_3]
  simp only [gt_self, gd_t, lp_some, st_d, nm_d, on_none, on_some, cl_some, mI_mk, mX_mk, setI_mk, u2_row, rowS_s, rowU_s]
  rw [gd_ok (isB_bI _)]
theorem RisSl (M : Mem) (v : Int32) : f_X10_isSlot M v = some (bI (hasB v 5), M) := by
  rw [f_X10_isSlot, Rin_4]
  simp only [gt_self, gd_t, lp_some, st_d, nm_d, on_none, on_some, cl_some, mI_mk, mX_mk, setI_mk, u2_row, rowS_s, rowU_s]
  rw [gd_ok (isB_bI _)]
theorem Rtold0 (M : Mem) (o : Option Nat) (h : ∀ t, o = some t → t < 2 ^ 31) : f_X10_told0 M (encR o) = some (encC o, M) := by
  rw [f_X10_told0]
  cases o with
  | none => rw [if_neg (encR_n rfl)]; rfl
  | some t => rw [if_pos (encR_pos rfl (h t rfl))]; rfl
end Has
