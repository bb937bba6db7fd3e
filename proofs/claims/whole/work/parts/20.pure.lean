/-! PURE: the combinators computed -/
theorem gt_ok {α : Type} {t t0 : Nat} {x : Option α} (h : t = t0) : gt t t0 x = x := if_pos h
theorem gt_self {α : Type} {t : Nat} {x : Option α} : gt t t x = x := if_pos rfl
theorem gd_t {α : Type} {x : Option α} : gd true x = x := Eq.trans rfl rfl
theorem gd_ok {α : Type} {b : Bool} {x : Option α} (h : b = true) : gd b x = x := by subst h; rfl
theorem gz_ok {α : Type} {y : Int32} {x : Option α} (h : ¬ y = 0) : gz y x = x := if_neg h
theorem lp_some {α : Type} {a : Nat} {f : Nat → Option α} : lp (some a) f = f a := Eq.trans rfl rfl
theorem st_d {α : Type} {M : Mem} {f : Mem → Option α} : st M f = f M := Eq.trans rfl rfl
theorem nm_d {α : Type} {x : Option Nat} {f : Option Nat → Option α} : nm x f = f x := Eq.trans rfl rfl
theorem on_none {α : Type} {a : Option α} {f : Nat → Option α} : on none a f = a := Eq.trans rfl rfl
theorem on_some {α : Type} {a : Option α} {f : Nat → Option α} {b : Nat} : on (some b) a f = f b := Eq.trans rfl rfl
theorem cl_some {α β : Type} {r : β} {M : Mem} {f : β → Mem → Option α} : cl (some (r, M)) f = f r M := Eq.trans rfl rfl
/-! the memory computed; a memory is (I, X, S) -/
abbrev Sta : Type := (Nat → Nat → Option Nat) × (Nat → Nat) × (Nat → Nat) × Nat
theorem mI_mk (I : Nat → Nat → Int32) (z) : mI (I, z) = I := Eq.trans rfl rfl
theorem mX_mk (I : Nat → Nat → Int32) (X) (z) : mX (I, X, z) = X := Eq.trans rfl rfl
theorem mI_setI (M : Mem) (k j : Nat) (v : Int32) : mI (setI M k j v) = u2 (mI M) k j v := Eq.trans rfl rfl
theorem mT_setI (M : Mem) (k j : Nat) (v : Int32) : mT (setI M k j v) = mT M := Eq.trans rfl rfl
theorem mP_setI (M : Mem) (k j : Nat) (v : Int32) : mP (setI M k j v) = mP M := Eq.trans rfl rfl
theorem mX_setI (M : Mem) (k j : Nat) (v : Int32) : mX (setI M k j v) = mX M := Eq.trans rfl rfl
theorem mL_setI (M : Mem) (k j : Nat) (v : Int32) : mL (setI M k j v) = mL M := Eq.trans rfl rfl
theorem mN_setI (M : Mem) (k j : Nat) (v : Int32) : mN (setI M k j v) = mN M := Eq.trans rfl rfl
theorem setI_mk (I : Nat → Nat → Int32) (z) (k j : Nat) (v : Int32) : setI (I, z) k j v = (u2 I k j v, z) := Eq.trans rfl rfl
def rowU (r : Nat → Int32) (j : Nat) (v : Int32) : Nat → Int32 := fun b => if b = j then v else r b
def rowS (I : Nat → Nat → Int32) (k : Nat) (r : Nat → Int32) : Nat → Nat → Int32 := fun a => if a = k then r else I a
theorem u2_row (I : Nat → Nat → Int32) (k j : Nat) (v : Int32) : u2 I k j v = rowS I k (rowU (I k) j v) := by
  funext a b
  unfold u2 rowS rowU
  by_cases h : a = k
  · subst h
    by_cases h2 : b = j <;> simp [h2]
  · simp [h]
theorem rowS_s (I : Nat → Nat → Int32) (k : Nat) (r : Nat → Int32) : rowS I k r k = r := if_pos rfl
theorem rowS_n {I : Nat → Nat → Int32} {k a : Nat} {r : Nat → Int32} (h : a ≠ k) : rowS I k r a = I a := if_neg h
theorem rowS_rowS (I : Nat → Nat → Int32) (k : Nat) (r q : Nat → Int32) : rowS (rowS I k r) k q = rowS I k q := by
  funext a
  unfold rowS
  by_cases h : a = k <;> simp [h]
theorem rowS_id (I : Nat → Nat → Int32) (k : Nat) : rowS I k (I k) = I := by
  funext a
  unfold rowS
  by_cases h : a = k
  · subst h; simp
  · simp [h]
theorem rowU_s (r : Nat → Int32) (j : Nat) (v : Int32) : rowU r j v j = v := if_pos rfl
theorem rowU_n {r : Nat → Int32} {j b : Nat} {v : Int32} (h : b ≠ j) : rowU r j v b = r b := if_neg h
theorem ib_nI {n N : Nat} (h : n < N) (hN : N < 2 ^ 31) : ib (nI n) N = true := by
  unfold ib
  rw [Bool.and_eq_true, decide_eq_true_eq, decide_eq_true_eq]
  exact ⟨nI_pos' (by omega), by rw [nI_clamp (by omega)]; exact h⟩
theorem nI_lit (n : Nat) : (OfNat.ofNat n : Int32) = nI n := rfl
theorem FU_ge {n : Nat} (h : n ≤ 3999) : n < FU := by unfold FU; omega
/-! THE REFERENCE's memory: all but its numbers is laid once -/
def Me : Mem := (fun _ _ => 0, fun _ _ => none, fun _ _ => none, fun _ => 0, fun _ => 0, 0)
def Yi : Mem := newO Me 11 0
def Y0 : Mem := ((f_X10_init Yi 0).getD ((), Yi)).2
theorem y0_some : f_X10_init Yi 0 = some ((), Y0) := by
  have h : (f_X10_init Yi 0).isSome = true := by decide +kernel
  unfold Y0
  cases hq : f_X10_init Yi 0 with
  | none => rw [hq] at h; exact nomatch h
  | some q => rfl
def YZ : (Nat → Nat → Option Nat) × Sta := Y0.2
theorem yT0 (I : Nat → Nat → Int32) : mT (I, YZ) 0 = 11 := (by decide +kernel : YZ.2.2.1 0 = 11)
theorem yN (I : Nat → Nat → Int32) : mN (I, YZ) = 25 := (by decide +kernel : YZ.2.2.2.2 = 25)
theorem yP0 (I : Nat → Nat → Int32) : mP (I, YZ) 0 0 = some 1 := (by decide +kernel : YZ.2.1 0 0 = some 1)
theorem yT1 (I : Nat → Nat → Int32) : mT (I, YZ) 1 = 20 := (by decide +kernel : YZ.2.2.1 1 = 20)
theorem yL1 (I : Nat → Nat → Int32) : mL (I, YZ) 1 = 1442 := (by decide +kernel : YZ.2.2.2.1 1 = 1442)
theorem yP1 (I : Nat → Nat → Int32) : mP (I, YZ) 0 1 = some 2 := (by decide +kernel : YZ.2.1 0 1 = some 2)
theorem yT2 (I : Nat → Nat → Int32) : mT (I, YZ) 2 = 20 := (by decide +kernel : YZ.2.2.1 2 = 20)
theorem yL2 (I : Nat → Nat → Int32) : mL (I, YZ) 2 = 1442 := (by decide +kernel : YZ.2.2.2.1 2 = 1442)
theorem yP2 (I : Nat → Nat → Int32) : mP (I, YZ) 0 2 = some 3 := (by decide +kernel : YZ.2.1 0 2 = some 3)
theorem yT3 (I : Nat → Nat → Int32) : mT (I, YZ) 3 = 20 := (by decide +kernel : YZ.2.2.1 3 = 20)
theorem yL3 (I : Nat → Nat → Int32) : mL (I, YZ) 3 = 1442 := (by decide +kernel : YZ.2.2.2.1 3 = 1442)
theorem yP5 (I : Nat → Nat → Int32) : mP (I, YZ) 0 5 = some 4 := (by decide +kernel : YZ.2.1 0 5 = some 4)
theorem yT4 (I : Nat → Nat → Int32) : mT (I, YZ) 4 = 20 := (by decide +kernel : YZ.2.2.1 4 = 20)
theorem yL4 (I : Nat → Nat → Int32) : mL (I, YZ) 4 = 8 := (by decide +kernel : YZ.2.2.2.1 4 = 8)
theorem yP6 (I : Nat → Nat → Int32) : mP (I, YZ) 0 6 = some 5 := (by decide +kernel : YZ.2.1 0 6 = some 5)
theorem yT5 (I : Nat → Nat → Int32) : mT (I, YZ) 5 = 20 := (by decide +kernel : YZ.2.2.1 5 = 20)
theorem yL5 (I : Nat → Nat → Int32) : mL (I, YZ) 5 = 10 := (by decide +kernel : YZ.2.2.2.1 5 = 10)
theorem yP7 (I : Nat → Nat → Int32) : mP (I, YZ) 0 7 = some 6 := (by decide +kernel : YZ.2.1 0 7 = some 6)
theorem yT6 (I : Nat → Nat → Int32) : mT (I, YZ) 6 = 21 := (by decide +kernel : YZ.2.2.1 6 = 21)
theorem yL6 (I : Nat → Nat → Int32) : mL (I, YZ) 6 = 10 := (by decide +kernel : YZ.2.2.2.1 6 = 10)
theorem yP8 (I : Nat → Nat → Int32) : mP (I, YZ) 0 8 = some 7 := (by decide +kernel : YZ.2.1 0 8 = some 7)
theorem yT7 (I : Nat → Nat → Int32) : mT (I, YZ) 7 = 20 := (by decide +kernel : YZ.2.2.1 7 = 20)
theorem yL7 (I : Nat → Nat → Int32) : mL (I, YZ) 7 = 70 := (by decide +kernel : YZ.2.2.2.1 7 = 70)
theorem yP9 (I : Nat → Nat → Int32) : mP (I, YZ) 0 9 = some 8 := (by decide +kernel : YZ.2.1 0 9 = some 8)
theorem yT8 (I : Nat → Nat → Int32) : mT (I, YZ) 8 = 20 := (by decide +kernel : YZ.2.2.1 8 = 20)
theorem yL8 (I : Nat → Nat → Int32) : mL (I, YZ) 8 = 96 := (by decide +kernel : YZ.2.2.2.1 8 = 96)
theorem yP17 (I : Nat → Nat → Int32) : mP (I, YZ) 0 17 = some 9 := (by decide +kernel : YZ.2.1 0 17 = some 9)
theorem yT9 (I : Nat → Nat → Int32) : mT (I, YZ) 9 = 22 := (by decide +kernel : YZ.2.2.1 9 = 22)
theorem yL9 (I : Nat → Nat → Int32) : mL (I, YZ) 9 = 12 := (by decide +kernel : YZ.2.2.2.1 9 = 12)
theorem yP18 (I : Nat → Nat → Int32) : mP (I, YZ) 0 18 = some 10 := (by decide +kernel : YZ.2.1 0 18 = some 10)
theorem yT10 (I : Nat → Nat → Int32) : mT (I, YZ) 10 = 20 := (by decide +kernel : YZ.2.2.1 10 = 20)
theorem yL10 (I : Nat → Nat → Int32) : mL (I, YZ) 10 = 4 := (by decide +kernel : YZ.2.2.2.1 10 = 4)
theorem yP19 (I : Nat → Nat → Int32) : mP (I, YZ) 0 19 = some 11 := (by decide +kernel : YZ.2.1 0 19 = some 11)
theorem yT11 (I : Nat → Nat → Int32) : mT (I, YZ) 11 = 20 := (by decide +kernel : YZ.2.2.1 11 = 20)
theorem yL11 (I : Nat → Nat → Int32) : mL (I, YZ) 11 = 96 := (by decide +kernel : YZ.2.2.2.1 11 = 96)
theorem yP22 (I : Nat → Nat → Int32) : mP (I, YZ) 0 22 = some 12 := (by decide +kernel : YZ.2.1 0 22 = some 12)
theorem yT12 (I : Nat → Nat → Int32) : mT (I, YZ) 12 = 20 := (by decide +kernel : YZ.2.2.1 12 = 20)
theorem yL12 (I : Nat → Nat → Int32) : mL (I, YZ) 12 = 96 := (by decide +kernel : YZ.2.2.2.1 12 = 96)
theorem yP24 (I : Nat → Nat → Int32) : mP (I, YZ) 0 24 = some 13 := (by decide +kernel : YZ.2.1 0 24 = some 13)
theorem yT13 (I : Nat → Nat → Int32) : mT (I, YZ) 13 = 21 := (by decide +kernel : YZ.2.2.1 13 = 21)
theorem yL13 (I : Nat → Nat → Int32) : mL (I, YZ) 13 = 10 := (by decide +kernel : YZ.2.2.2.1 13 = 10)
theorem yP25 (I : Nat → Nat → Int32) : mP (I, YZ) 0 25 = some 14 := (by decide +kernel : YZ.2.1 0 25 = some 14)
theorem yT14 (I : Nat → Nat → Int32) : mT (I, YZ) 14 = 20 := (by decide +kernel : YZ.2.2.1 14 = 20)
theorem yL14 (I : Nat → Nat → Int32) : mL (I, YZ) 14 = 96 := (by decide +kernel : YZ.2.2.2.1 14 = 96)
theorem yP26 (I : Nat → Nat → Int32) : mP (I, YZ) 0 26 = some 15 := (by decide +kernel : YZ.2.1 0 26 = some 15)
theorem yT15 (I : Nat → Nat → Int32) : mT (I, YZ) 15 = 20 := (by decide +kernel : YZ.2.2.1 15 = 20)
theorem yL15 (I : Nat → Nat → Int32) : mL (I, YZ) 15 = 4 := (by decide +kernel : YZ.2.2.2.1 15 = 4)
theorem yP27 (I : Nat → Nat → Int32) : mP (I, YZ) 0 27 = some 16 := (by decide +kernel : YZ.2.1 0 27 = some 16)
theorem yT16 (I : Nat → Nat → Int32) : mT (I, YZ) 16 = 20 := (by decide +kernel : YZ.2.2.1 16 = 20)
theorem yL16 (I : Nat → Nat → Int32) : mL (I, YZ) 16 = 4 := (by decide +kernel : YZ.2.2.2.1 16 = 4)
theorem yP28 (I : Nat → Nat → Int32) : mP (I, YZ) 0 28 = some 17 := (by decide +kernel : YZ.2.1 0 28 = some 17)
theorem yT17 (I : Nat → Nat → Int32) : mT (I, YZ) 17 = 20 := (by decide +kernel : YZ.2.2.1 17 = 20)
theorem yL17 (I : Nat → Nat → Int32) : mL (I, YZ) 17 = 4 := (by decide +kernel : YZ.2.2.2.1 17 = 4)
theorem yP29 (I : Nat → Nat → Int32) : mP (I, YZ) 0 29 = some 18 := (by decide +kernel : YZ.2.1 0 29 = some 18)
theorem yT18 (I : Nat → Nat → Int32) : mT (I, YZ) 18 = 20 := (by decide +kernel : YZ.2.2.1 18 = 20)
theorem yL18 (I : Nat → Nat → Int32) : mL (I, YZ) 18 = 96 := (by decide +kernel : YZ.2.2.2.1 18 = 96)
theorem yP30 (I : Nat → Nat → Int32) : mP (I, YZ) 0 30 = some 19 := (by decide +kernel : YZ.2.1 0 30 = some 19)
theorem yT19 (I : Nat → Nat → Int32) : mT (I, YZ) 19 = 20 := (by decide +kernel : YZ.2.2.1 19 = 20)
theorem yL19 (I : Nat → Nat → Int32) : mL (I, YZ) 19 = 5 := (by decide +kernel : YZ.2.2.2.1 19 = 5)
theorem yP31 (I : Nat → Nat → Int32) : mP (I, YZ) 0 31 = some 20 := (by decide +kernel : YZ.2.1 0 31 = some 20)
theorem yT20 (I : Nat → Nat → Int32) : mT (I, YZ) 20 = 20 := (by decide +kernel : YZ.2.2.1 20 = 20)
theorem yL20 (I : Nat → Nat → Int32) : mL (I, YZ) 20 = 5 := (by decide +kernel : YZ.2.2.2.1 20 = 5)
theorem yP32 (I : Nat → Nat → Int32) : mP (I, YZ) 0 32 = some 21 := (by decide +kernel : YZ.2.1 0 32 = some 21)
theorem yT21 (I : Nat → Nat → Int32) : mT (I, YZ) 21 = 20 := (by decide +kernel : YZ.2.2.1 21 = 20)
theorem yL21 (I : Nat → Nat → Int32) : mL (I, YZ) 21 = 5 := (by decide +kernel : YZ.2.2.2.1 21 = 5)
theorem yP33 (I : Nat → Nat → Int32) : mP (I, YZ) 0 33 = some 22 := (by decide +kernel : YZ.2.1 0 33 = some 22)
theorem yT22 (I : Nat → Nat → Int32) : mT (I, YZ) 22 = 20 := (by decide +kernel : YZ.2.2.1 22 = 20)
theorem yL22 (I : Nat → Nat → Int32) : mL (I, YZ) 22 = 120 := (by decide +kernel : YZ.2.2.2.1 22 = 120)
theorem yP34 (I : Nat → Nat → Int32) : mP (I, YZ) 0 34 = some 23 := (by decide +kernel : YZ.2.1 0 34 = some 23)
theorem yT23 (I : Nat → Nat → Int32) : mT (I, YZ) 23 = 20 := (by decide +kernel : YZ.2.2.1 23 = 20)
theorem yL23 (I : Nat → Nat → Int32) : mL (I, YZ) 23 = 24 := (by decide +kernel : YZ.2.2.2.1 23 = 24)
theorem yP35 (I : Nat → Nat → Int32) : mP (I, YZ) 0 35 = some 24 := (by decide +kernel : YZ.2.1 0 35 = some 24)
theorem yT24 (I : Nat → Nat → Int32) : mT (I, YZ) 24 = 20 := (by decide +kernel : YZ.2.2.1 24 = 20)
theorem yL24 (I : Nat → Nat → Int32) : mL (I, YZ) 24 = 60 := (by decide +kernel : YZ.2.2.2.1 24 = 60)
/-! THE CLASS' memory at its beginning -/
def Xi : Mem := newO Me 10 0
def X0 : Mem := ((f_X9_init Xi 0).getD ((), Xi)).2
theorem x0_some : f_X9_init Xi 0 = some ((), X0) := by
  have h : (f_X9_init Xi 0).isSome = true := by decide +kernel
  unfold X0
  cases hq : f_X9_init Xi 0 with
  | none => rw [hq] at h; exact nomatch h
  | some q => rfl
theorem x0_n : mN X0 = 114 := by decide +kernel
