/-! THE MEMORY: ids in place of addresses; a type, a length, numbers and pointers for each id; texts' places (mX) apart from what is laid once (mP) -/
abbrev Mem : Type := (Nat → Nat → Int32) × (Nat → Nat → Option Nat) × (Nat → Nat → Option Nat) × (Nat → Nat) × (Nat → Nat) × Nat
def mI (M : Mem) : Nat → Nat → Int32 := M.1
def mX (M : Mem) : Nat → Nat → Option Nat := M.2.1
def mP (M : Mem) : Nat → Nat → Option Nat := M.2.2.1
def mT (M : Mem) : Nat → Nat := M.2.2.2.1
def mL (M : Mem) : Nat → Nat := M.2.2.2.2.1
def mN (M : Mem) : Nat := M.2.2.2.2.2
def u2 {α : Type} (f : Nat → Nat → α) (k j : Nat) (v : α) : Nat → Nat → α := fun a b => if a = k ∧ b = j then v else f a b
def setI (M : Mem) (k j : Nat) (v : Int32) : Mem := (u2 M.1 k j v, M.2)
def setX (M : Mem) (k j v : Nat) : Mem := (M.1, u2 M.2.1 k j (some v), M.2.2)
def setP (M : Mem) (k j v : Nat) : Mem := (M.1, M.2.1, u2 M.2.2.1 k j (some v), M.2.2.2)
def setR (M : Mem) (k : Nat) (f : Nat → Int32) : Mem := (fun a b => if a = k then f b else M.1 a b, M.2)
def newO (M : Mem) (t len : Nat) : Mem := (fun a b => if a = M.2.2.2.2.2 then 0 else M.1 a b, fun a b => if a = M.2.2.2.2.2 then none else M.2.1 a b, fun a b => if a = M.2.2.2.2.2 then none else M.2.2.1 a b, fun a => if a = M.2.2.2.2.2 then t else M.2.2.2.1 a, fun a => if a = M.2.2.2.2.2 then len else M.2.2.2.2.1 a, M.2.2.2.2.2 + 1)
/-- which fields of a class are numbers -/
def fkT : List (List Bool) := [[true, true, true, true], [false, true, false, true, true, true, true, true, true, true, true], [true, true, false], [true, false, false, true], [false, false, false, false], [true, true, true], [false, true], [true, true, false], [false, true, false, true, false, true, true, false, true, false], [false, false, false, false, false, false, false, false, false, true, true], [false, false, false, true, true, false, false, false, false, false, true, true, true, true, true, true, true, false, false, false, true, true, false, true, false, false, false, false, false, false, false, false, false, false, false, false, true]]
def isI (c j : Nat) : Bool := (fkT.getD c []).getD j true
def nF (c : Nat) : Nat := (fkT.getD c []).length
def sFld (ad : Nat → Nat) (M : Mem) (c k : Nat) : List Value := (List.range (nF c)).map (fun j => if isI c j = true then Value.int (mI M k j) else va_rf ((mP M k j).map ad))
def sArr (ad : Nat → Nat) (M : Mem) (k : Nat) : (Nat → Int32) ⊕ (Nat → Int64) ⊕ (Nat → UInt32) ⊕ (Nat → UInt64) ⊕ (Nat → Option Nat) := if mT M k < 23 then .inl (fun j => mI M k j) else .inr (.inr (.inr (.inr (fun j => if mT M k = 25 then (mX M k j).map ad else (mP M k j).map ad))))
def sCell (cy : Nat → ClassId) (ad : Nat → Nat) (M : Mem) (k : Nat) : va_E := if mT M k < 20 then .inr (mT M k - 1, sFld ad M (mT M k - 1) k) else .inl (cy (mT M k - 20), mL M k, sArr ad M k)
def sWr (cy : Nat → ClassId) (ad : Nat → Nat) (M : Mem) : va_W := (List.range (mN M)).map (fun k => (ad k, sCell cy ad M k))
theorem wr_len {cy : Nat → ClassId} {ad : Nat → Nat} {M : Mem} : (sWr cy ad M).length = mN M := by simp [sWr]
theorem wr_at {cy : Nat → ClassId} {ad : Nat → Nat} {M : Mem} {k : Nat} (hk : k < mN M) : (sWr cy ad M)[k]? = some (ad k, sCell cy ad M k) := by
  simp [sWr, hk]
theorem wr_set {cy : Nat → ClassId} {ad : Nat → Nat} {M M' : Mem} {k : Nat} {e : va_E} (hk : k < mN M) (hn : mN M' = mN M) (he : sCell cy ad M' k = e) (ho : ∀ j, j ≠ k → sCell cy ad M' j = sCell cy ad M j) : (sWr cy ad M).set k (ad k, e) = sWr cy ad M' := by
  apply List.ext_getElem?
  intro i
  by_cases hi : i < mN M
  · rw [wr_at (M := M') (by omega)]
    by_cases h : i = k
    · subst h
      rw [List.getElem?_set_self (by rw [wr_len]; exact hi), he]
    · rw [List.getElem?_set_ne (Ne.symm h), wr_at hi, ho i h]
  · rw [List.getElem?_eq_none (by rw [List.length_set, wr_len]; omega), List.getElem?_eq_none (by rw [wr_len]; omega)]
theorem cell_congr {cy : Nat → ClassId} {ad ad' : Nat → Nat} {M M' : Mem} {a : Nat} (hT : mT M' a = mT M a) (hL : mL M' a = mL M a) (hI : ∀ j, mI M' a j = mI M a j) (hP : ∀ j, (mP M' a j).map ad' = (mP M a j).map ad) (hX : ∀ j, (mX M' a j).map ad' = (mX M a j).map ad) : sCell cy ad' M' a = sCell cy ad M a := by
  unfold sCell sFld sArr
  simp only [hT, hL, hI, hP, hX]
theorem cell_o {cy : Nat → ClassId} {ad : Nat → Nat} {M : Mem} {k c : Nat} (h : mT M k = c + 1) (hc : c < 19) : sCell cy ad M k = .inr (c, sFld ad M c k) := by
  unfold sCell
  rw [h, if_pos (by omega), Nat.add_sub_cancel]
theorem cell_i {cy : Nat → ClassId} {ad : Nat → Nat} {M : Mem} {k t : Nat} (h : mT M k = t + 20) (ht : t < 3) : sCell cy ad M k = .inl (cy t, mL M k, .inl (fun j => mI M k j)) := by
  unfold sCell sArr
  rw [h, if_neg (by omega), Nat.add_sub_cancel, if_pos (by omega)]
theorem cell_p {cy : Nat → ClassId} {ad : Nat → Nat} {M : Mem} {k t : Nat} (h : mT M k = t + 20) (ht : 3 ≤ t) (h5 : t ≠ 5) : sCell cy ad M k = .inl (cy t, mL M k, .inr (.inr (.inr (.inr (fun j => (mP M k j).map ad))))) := by
  unfold sCell sArr
  rw [h, if_neg (by omega), Nat.add_sub_cancel, if_neg (by omega)]
  simp only [if_neg (show ¬ t + 20 = 25 by omega)]
theorem cell_x {cy : Nat → ClassId} {ad : Nat → Nat} {M : Mem} {k : Nat} (h : mT M k = 25) : sCell cy ad M k = .inl (cy 5, mL M k, .inr (.inr (.inr (.inr (fun j => (mX M k j).map ad))))) := by
  unfold sCell sArr
  rw [h, if_neg (by omega), if_neg (by omega)]
  simp only [if_true]
theorem fld_at {ad : Nat → Nat} {M : Mem} {c k j : Nat} (hj : j < nF c) : (sFld ad M c k)[j]? = some (if isI c j = true then Value.int (mI M k j) else va_rf ((mP M k j).map ad)) := by
  simp [sFld, hj]
theorem fld_len {ad : Nat → Nat} {M : Mem} {c k : Nat} : (sFld ad M c k).length = nF c := by simp [sFld]
theorem fld_setI {ad : Nat → Nat} {M : Mem} {c k j : Nat} {v : Int32} (hj : j < nF c) (hI : isI c j = true) : (sFld ad M c k).set j (.int v) = sFld ad (setI M k j v) c k := by
  apply List.ext_getElem?
  intro i
  by_cases hi : i < nF c
  · rw [fld_at hi]
    by_cases h : i = j
    · subst h
      rw [List.getElem?_set_self (by rw [fld_len]; exact hi), if_pos hI]
      simp [mI, setI, u2]
    · rw [List.getElem?_set_ne (Ne.symm h), fld_at hi]
      simp [mI, mP, setI, u2, h]
  · rw [List.getElem?_eq_none (by rw [List.length_set, fld_len]; omega), List.getElem?_eq_none (by rw [fld_len]; omega)]
theorem fld_setP {ad : Nat → Nat} {M : Mem} {c k j b : Nat} (hj : j < nF c) (hI : isI c j = false) : (sFld ad M c k).set j (.ref (ad b)) = sFld ad (setP M k j b) c k := by
  apply List.ext_getElem?
  intro i
  by_cases hi : i < nF c
  · rw [fld_at hi]
    by_cases h : i = j
    · subst h
      rw [List.getElem?_set_self (by rw [fld_len]; exact hi), if_neg (by rw [hI]; exact Bool.false_ne_true)]
      simp [mP, setP, u2, va_rf]
    · rw [List.getElem?_set_ne (Ne.symm h), fld_at hi]
      simp [mI, mP, setP, u2, h]
  · rw [List.getElem?_eq_none (by rw [List.length_set, fld_len]; omega), List.getElem?_eq_none (by rw [fld_len]; omega)]
/-! what holds of a memory by its making -/
def Wf (M : Mem) : Prop := (∀ k, mT M k ≠ 0 → k < mN M) ∧ (∀ k j a, mP M k j = some a → a < mN M) ∧ ∀ k j a, mX M k j = some a → a < mN M
theorem wf_setI {M : Mem} {k j : Nat} {v : Int32} (h : Wf M) : Wf (setI M k j v) := h
theorem wf_setR {M : Mem} {k : Nat} {f : Nat → Int32} (h : Wf M) : Wf (setR M k f) := h
theorem wf_setX {M : Mem} {k j b : Nat} (h : Wf M) (hb : b < mN M) : Wf (setX M k j b) := by
  refine ⟨h.1, h.2.1, fun k' j' a h' => ?_⟩
  have h' : u2 M.2.1 k j (some b) k' j' = some a := h'
  unfold u2 at h'
  split at h'
  · cases h'; exact hb
  · exact h.2.2 k' j' a h'
theorem wf_setP {M : Mem} {k j b : Nat} (h : Wf M) (hb : b < mN M) : Wf (setP M k j b) := by
  refine ⟨h.1, fun k' j' a h' => ?_, h.2.2⟩
  have h' : u2 M.2.2.1 k j (some b) k' j' = some a := h'
  unfold u2 at h'
  split at h'
  · cases h'; exact hb
  · exact h.2.1 k' j' a h'
/-! what is known beside the memory: classes and array classes, nest words, statics, texts -/
abbrev Gd : Type := (Nat → ClassId) × (Nat → Nat → Nat) × (Nat → ClassId) × Nat × (Nat → Nat) × (Nat → Nat) × Option Nat
def sTy (cy : Nat → ClassId) : List (ClassId × FieldType) := [(cy 0, .int), (cy 1, .boolean), (cy 2, .char), (cy 3, .object RX0), (cy 4, .object RX5), (cy 5, .object RX7), (cy 6, .object RX2), (cy 7, .object RX3)]
def sByt : List (List Int32) := [[108, 105, 107, 101], [115, 101, 97, 116], [102, 105, 110, 101], [119, 102, 104], [110, 119], [121, 115]]
def sLen : List Nat := [4, 4, 4, 3, 2, 2]
def kaF : List Int32 := [-1, 0, 0, 1, 2, 0]
def Ev (G : Gd) (A : Nat → Prop) (U : State) (H : Heap) : Prop :=
  va_Z "StorkVote" "KIND_ABOVE" "[I" (.ref G.2.2.2.1) A U H ∧ va_T .int G.2.2.2.1 6 (fun j => .int (kaF.getD j 0)) A U H ∧ vk_S 6 sLen sByt G.2.2.2.2.1 G.2.2.2.2.2.1 A U H ∧
  va_Z "java/lang/String" "COMPACT_STRINGS" "Z" (.int 1) A U H ∧ va_Z "jdk/internal/util/Preconditions" "SIOOBE_FORMATTER" "Ljava/util/function/BiFunction;" (va_rf G.2.2.2.2.2.2) A U H
def Et (G : Gd) (U : State) : Prop :=
  va_AO RX0 U ∧ va_AO RX5 U ∧ va_AO RX7 U ∧ va_AO RX2 U ∧ va_AO RX3 U ∧ vk_R RX1 127 "like" (G.2.2.2.2.1 0) U ∧ vk_R RX1 133 "seat" (G.2.2.2.2.1 1) U ∧ vk_R RX1 135 "fine" (G.2.2.2.2.1 2) U ∧ vk_R RX1 137 "wfh" (G.2.2.2.2.1 3) U ∧ vk_R RX1 139 "nw" (G.2.2.2.2.1 4) U ∧ vk_R RX1 141 "ys" (G.2.2.2.2.1 5) U
def Kn (G : Gd) (A : Nat → Prop) (U : State) : Prop := va_K (G.1, G.2.1) vwCl (sTy G.2.2.1) U ∧ (∀ w ∈ NST, va_Nw w U) ∧ Et G U ∧ Ev G A U U.heap
theorem Ev.to {G : Gd} {A : Nat → Prop} {s U : State} {H H1 : Heap} (h : Ev G A s H) (hW : s.vm.Alike U.vm) (hq : ∀ a : Nat, a < H.size → ¬ A a → H1[a]? = H[a]?) : Ev G A U H1 :=
  ⟨(h.1.moved hW).kept hq, (h.2.1.moved hW).kept hq, (h.2.2.1.moved hW).kept hq, (h.2.2.2.1.moved hW).kept hq, (h.2.2.2.2.moved hW).kept hq⟩
theorem Et.to {G : Gd} {s U : State} (h : Et G s) (hW : s.WarmedH U.vm) : Et G U := by
  obtain ⟨a1, a2, a3, a4, a5, r1, r2, r3, r4, r5, r6⟩ := h
  exact ⟨a1.moved hW.alike, a2.moved hW.alike, a3.moved hW.alike, a4.moved hW.alike, a5.moved hW.alike, r1.warm hW, r2.warm hW, r3.warm hW, r4.warm hW, r5.warm hW, r6.warm hW⟩
theorem Kn.to {G : Gd} {A : Nat → Prop} {s U : State} (h : Kn G A s) (hW : s.WarmedH U.vm) (hq : ∀ a : Nat, a < s.heap.size → ¬ A a → U.heap[a]? = s.heap[a]?) : Kn G A U :=
  ⟨va_K.moved hW.alike h.1, nst_moved hW h.2.1, h.2.2.1.to hW, h.2.2.2.to hW.alike hq⟩
theorem Kn.calling {G : Gd} {A : Nat → Prop} {U : State} (h : Kn G A U) (g : JFrame) (mk : MethodId) (a : Array Value) : Kn G A (U.calling g mk a) :=
  h.to (U := U.calling g mk a) (State.WarmedH.refl U) (fun _ _ _ => rfl)
def Wd (G : Gd) (A : Nat → Prop) (ad : Nat → Nat) (H0 : Heap) (M : Mem) (H : Heap) (locs : List Loc) : Prop := va_P (G.1, G.2.1) vwCl (sWr G.2.2.1 ad M) H ∧ va_D A (sWr G.2.2.1 ad M) ∧ Wf M ∧ va_S A H0 H locs
/-- where a method's body is: the machine, its code, its class, the words, what is known -/
def Cx (G : Gd) (A : Nat → Prop) (p : Program) (s : State) (m : MethodId) (args : Array Value) (meth : Method) (c : Code) (own : String) (cc : ByteArray) (nL : Nat) (rt : Option FieldType) : Prop :=
  p.tables.exec = Jvm.exec ∧ c.code = cc ∧ c.maxLocals = nL ∧ s.vm.findClass own = some m.cls ∧ (∀ w ∈ TBW, w.before args s = true) ∧ Kn G A s ∧ meth.sig.returnType = rt ∧ meth.locks = false ∧ ∀ q, s.heap.size ≤ q → A q
/-- a class: its place, its fields, their words -/
def CF (ci : Nat) (Cn : String) (T : u_T) (N : Nat) (ty : Nat → FieldType) : Prop := vwCl[ci]? = some (Cn, T, N) ∧ nF ci = N ∧ ci < 19 ∧ (∀ w ∈ u_ws Cn T N, w ∈ TBW) ∧ (∀ k, k < N → parseFieldDescriptor (T k).2.2.1 = some (ty k)) ∧ ∀ a, a < N → ∀ b, b < N → a ≠ b → (T a).2.1 ≠ (T b).2.1
def FLk (own : String) (i : Nat) (r n d : String) : Prop := Cond.fieldLink own i r n d ∈ TBW ∨ ∃ h, Cond.fieldLinkNest own i r n d h ∈ NST
def MLk (own : String) (i : Nat) (y : MethodName) : Prop := Cond.methodLink own i y ∈ TBW ∨ ∃ h, Cond.methodLinkNest own i y h ∈ NST
def ib (i : Int32) (n : Nat) : Bool := decide (0 ≤ i) && decide (i.toNatClampNeg < n)
theorem ib_in {i : Int32} {n : Nat} (h : ib i n = true) : vp_in i n := by
  unfold ib at h
  rw [Bool.and_eq_true, decide_eq_true_eq, decide_eq_true_eq] at h
  intro hh
  rcases hh with hh | hh
  · exact absurd h.1 (Int32.not_le.mpr hh)
  · omega
def isB (v : Int32) : Bool := v == 0 || v == 1
theorem isB_or {v : Int32} (h : isB v = true) : v = 0 ∨ v = 1 := by
  unfold isB at h
  rw [Bool.or_eq_true, beq_iff_eq, beq_iff_eq] at h
  exact h
theorem isB_nar {v : Int32} (h : isB v = true) : narrow .boolean (.int v) = .int v := by
  rcases isB_or h with rfl | rfl <;> rfl
theorem isB_fit {v : Int32} (h : isB v = true) : fits .boolean (.int v) = true := by
  rcases isB_or h with rfl | rfl <;> rfl
theorem cf0 : CF 0 RX0 TX0 4 tyX0 := ⟨rfl, by decide +kernel, by decide, inX0, tyX0_ok, nmX0⟩
theorem cf1 : CF 1 RX1 TX1 11 tyX1 := ⟨rfl, by decide +kernel, by decide, inX1, tyX1_ok, nmX1⟩
theorem cf2 : CF 2 RX2 TX2 3 tyX2 := ⟨rfl, by decide +kernel, by decide, inX2, tyX2_ok, nmX2⟩
theorem cf3 : CF 3 RX3 TX3 4 tyX3 := ⟨rfl, by decide +kernel, by decide, inX3, tyX3_ok, nmX3⟩
theorem cf4 : CF 4 RX4 TX4 4 tyX4 := ⟨rfl, by decide +kernel, by decide, inX4, tyX4_ok, nmX4⟩
theorem cf5 : CF 5 RX5 TX5 3 tyX5 := ⟨rfl, by decide +kernel, by decide, inX5, tyX5_ok, nmX5⟩
theorem cf6 : CF 6 RX6 TX6 2 tyX6 := ⟨rfl, by decide +kernel, by decide, inX6, tyX6_ok, nmX6⟩
theorem cf7 : CF 7 RX7 TX7 3 tyX7 := ⟨rfl, by decide +kernel, by decide, inX7, tyX7_ok, nmX7⟩
theorem cf8 : CF 8 RX8 TX8 10 tyX8 := ⟨rfl, by decide +kernel, by decide, inX8, tyX8_ok, nmX8⟩
theorem cf9 : CF 9 RX9 TX9 11 tyX9 := ⟨rfl, by decide +kernel, by decide, inX9, tyX9_ok, nmX9⟩
theorem cf10 : CF 10 RX10 TX10 37 tyX10 := ⟨rfl, by decide +kernel, by decide, inX10, tyX10_ok, nmX10⟩
