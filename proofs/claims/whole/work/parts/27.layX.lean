/-! THE CLASS' memory: what is laid once. A world lies at 1, 25, 49; the spring at 73 .. 77, the tape 78, 79, the reader 80 .. 82, the sheets' and slots' rows 83, 84, what waits 85, sheets 86 .. 93, slots 94 .. 113, texts from 114 on -/
def XS : Sta := X0.2.2
def LaS (S : Sta) : Prop := (∀ k, k < 114 → S.2.1 k = XS.2.1 k ∧ S.2.2.1 k = XS.2.2.1 k ∧ ∀ j, S.1 k j = XS.1 k j) ∧ 114 ≤ S.2.2.2
theorem LaS.T {S : Sta} (h : LaS S) {I : Nat → Nat → Int32} {X : Nat → Nat → Option Nat} {k t : Nat} (hk : k < 114) (e : XS.2.1 k = t) : mT (I, X, S) k = t := (h.1 k hk).1.trans e
theorem LaS.L {S : Sta} (h : LaS S) {I : Nat → Nat → Int32} {X : Nat → Nat → Option Nat} {k t : Nat} (hk : k < 114) (e : XS.2.2.1 k = t) : mL (I, X, S) k = t := (h.1 k hk).2.1.trans e
theorem LaS.P {S : Sta} (h : LaS S) {I : Nat → Nat → Int32} {X : Nat → Nat → Option Nat} {k j b : Nat} (hk : k < 114) (e : XS.1 k j = some b) : mP (I, X, S) k j = some b := ((h.1 k hk).2.2 j).trans e
theorem LaS.P' {S : Sta} (h : LaS S) {I : Nat → Nat → Int32} {X : Nat → Nat → Option Nat} {k j b : Nat} (hk : k < 114) (e : XS.1 k j = some b) : mP (I, X, S) k j = some b := h.P hk e
def isW (w : Nat) : Prop := w = 1 ∨ w = 25 ∨ w = 49
def wOK (w : Nat) : Bool := decide (XS.2.1 w = 9 ∧ XS.1 w 0 = some (w + 1) ∧ XS.1 w 2 = some (w + 2) ∧ XS.1 w 4 = some (w + 3) ∧ XS.1 w 7 = some (w + 4) ∧ XS.1 w 9 = some (w + 5) ∧ XS.2.1 (w + 1) = 23 ∧ XS.2.2.1 (w + 1) = 8 ∧ XS.2.1 (w + 2) = 24 ∧ XS.2.2.1 (w + 2) = 10 ∧ XS.2.1 (w + 3) = 20 ∧ XS.2.2.1 (w + 3) = 3 ∧ XS.2.1 (w + 4) = 25 ∧ XS.2.2.1 (w + 4) = 14 ∧ XS.2.1 (w + 5) = 20 ∧ XS.2.2.1 (w + 5) = 96) && (List.range 8).all (fun c => decide (XS.1 (w + 1) c = some (w + 6 + c) ∧ XS.2.1 (w + 6 + c) = 1)) && (List.range 10).all (fun s => decide (XS.1 (w + 2) s = some (w + 14 + s) ∧ XS.2.1 (w + 14 + s) = 6))
theorem wOK1 : wOK 1 = true := by decide +kernel
theorem wOK25 : wOK 25 = true := by decide +kernel
theorem wOK49 : wOK 49 = true := by decide +kernel
theorem wOKs {w : Nat} (h : isW w) : wOK w = true := by
  rcases h with rfl | rfl | rfl
  · exact wOK1
  · exact wOK25
  · exact wOK49
theorem isW.lt {w : Nat} (h : isW w) : w ≤ 49 := by unfold isW at h; omega
section XWorld
variable {S : Sta} {I : Nat → Nat → Int32} {X : Nat → Nat → Option Nat} {w : Nat}
theorem wF (h : isW w) : (XS.2.1 w = 9 ∧ XS.1 w 0 = some (w + 1) ∧ XS.1 w 2 = some (w + 2) ∧ XS.1 w 4 = some (w + 3) ∧ XS.1 w 7 = some (w + 4) ∧ XS.1 w 9 = some (w + 5) ∧ XS.2.1 (w + 1) = 23 ∧ XS.2.2.1 (w + 1) = 8 ∧ XS.2.1 (w + 2) = 24 ∧ XS.2.2.1 (w + 2) = 10 ∧ XS.2.1 (w + 3) = 20 ∧ XS.2.2.1 (w + 3) = 3 ∧ XS.2.1 (w + 4) = 25 ∧ XS.2.2.1 (w + 4) = 14 ∧ XS.2.1 (w + 5) = 20 ∧ XS.2.2.1 (w + 5) = 96) ∧ (∀ c, c < 8 → XS.1 (w + 1) c = some (w + 6 + c) ∧ XS.2.1 (w + 6 + c) = 1) ∧ ∀ s, s < 10 → XS.1 (w + 2) s = some (w + 14 + s) ∧ XS.2.1 (w + 14 + s) = 6 := by
  have := wOKs h
  unfold wOK at this
  rw [Bool.and_eq_true, Bool.and_eq_true, decide_eq_true_eq, List.all_eq_true, List.all_eq_true] at this
  exact ⟨this.1.1, fun c hc => of_decide_eq_true (this.1.2 c (List.mem_range.mpr hc)), fun s hs => of_decide_eq_true (this.2 s (List.mem_range.mpr hs))⟩
theorem wT (h : LaS S) (hw : isW w) : mT (I, X, S) w = 9 := h.T (by have := hw.lt; omega) (wF hw).1.1
theorem wP0 (h : LaS S) (hw : isW w) : mP (I, X, S) w 0 = some (w + 1) := h.P (by have := hw.lt; omega) (wF hw).1.2.1
theorem wP2 (h : LaS S) (hw : isW w) : mP (I, X, S) w 2 = some (w + 2) := h.P (by have := hw.lt; omega) (wF hw).1.2.2.1
theorem wP4 (h : LaS S) (hw : isW w) : mP (I, X, S) w 4 = some (w + 3) := h.P (by have := hw.lt; omega) (wF hw).1.2.2.2.1
theorem wP7 (h : LaS S) (hw : isW w) : mP (I, X, S) w 7 = some (w + 4) := h.P (by have := hw.lt; omega) (wF hw).1.2.2.2.2.1
theorem wP9 (h : LaS S) (hw : isW w) : mP (I, X, S) w 9 = some (w + 5) := h.P (by have := hw.lt; omega) (wF hw).1.2.2.2.2.2.1
theorem wT1 (h : LaS S) (hw : isW w) : mT (I, X, S) (w + 1) = 23 := h.T (by have := hw.lt; omega) (wF hw).1.2.2.2.2.2.2.1
theorem wL1 (h : LaS S) (hw : isW w) : mL (I, X, S) (w + 1) = 8 := h.L (by have := hw.lt; omega) (wF hw).1.2.2.2.2.2.2.2.1
theorem wT2 (h : LaS S) (hw : isW w) : mT (I, X, S) (w + 2) = 24 := h.T (by have := hw.lt; omega) (wF hw).1.2.2.2.2.2.2.2.2.1
theorem wL2 (h : LaS S) (hw : isW w) : mL (I, X, S) (w + 2) = 10 := h.L (by have := hw.lt; omega) (wF hw).1.2.2.2.2.2.2.2.2.2.1
theorem wT3 (h : LaS S) (hw : isW w) : mT (I, X, S) (w + 3) = 20 := h.T (by have := hw.lt; omega) (wF hw).1.2.2.2.2.2.2.2.2.2.2.1
theorem wL3 (h : LaS S) (hw : isW w) : mL (I, X, S) (w + 3) = 3 := h.L (by have := hw.lt; omega) (wF hw).1.2.2.2.2.2.2.2.2.2.2.2.1
theorem wT4 (h : LaS S) (hw : isW w) : mT (I, X, S) (w + 4) = 25 := h.T (by have := hw.lt; omega) (wF hw).1.2.2.2.2.2.2.2.2.2.2.2.2.1
theorem wL4 (h : LaS S) (hw : isW w) : mL (I, X, S) (w + 4) = 14 := h.L (by have := hw.lt; omega) (wF hw).1.2.2.2.2.2.2.2.2.2.2.2.2.2.1
theorem wT5 (h : LaS S) (hw : isW w) : mT (I, X, S) (w + 5) = 20 := h.T (by have := hw.lt; omega) (wF hw).1.2.2.2.2.2.2.2.2.2.2.2.2.2.2.1
theorem wL5 (h : LaS S) (hw : isW w) : mL (I, X, S) (w + 5) = 96 := h.L (by have := hw.lt; omega) (wF hw).1.2.2.2.2.2.2.2.2.2.2.2.2.2.2.2
theorem wPc (h : LaS S) (hw : isW w) {c : Nat} (hc : c < 8) : mP (I, X, S) (w + 1) c = some (w + 6 + c) := h.P (by have := hw.lt; omega) ((wF hw).2.1 c hc).1
theorem wTc (h : LaS S) (hw : isW w) {c : Nat} (hc : c < 8) : mT (I, X, S) (w + 6 + c) = 1 := h.T (by have := hw.lt; omega) ((wF hw).2.1 c hc).2
theorem wPs (h : LaS S) (hw : isW w) {s : Nat} (hs : s < 10) : mP (I, X, S) (w + 2) s = some (w + 14 + s) := h.P (by have := hw.lt; omega) ((wF hw).2.2 s hs).1
theorem wTs (h : LaS S) (hw : isW w) {s : Nat} (hs : s < 10) : mT (I, X, S) (w + 14 + s) = 6 := h.T (by have := hw.lt; omega) ((wF hw).2.2 s hs).2
theorem xT0 (h : LaS S) : mT (I, X, S) 0 = 10 := h.T (by decide) (by decide +kernel)
theorem xP0_0 (h : LaS S) : mP (I, X, S) 0 0 = some 1 := h.P (by decide) (by decide +kernel)
theorem xP0_1 (h : LaS S) : mP (I, X, S) 0 1 = some 25 := h.P (by decide) (by decide +kernel)
theorem xP0_2 (h : LaS S) : mP (I, X, S) 0 2 = some 49 := h.P (by decide) (by decide +kernel)
theorem xP0_3 (h : LaS S) : mP (I, X, S) 0 3 = some 73 := h.P (by decide) (by decide +kernel)
theorem xP0_4 (h : LaS S) : mP (I, X, S) 0 4 = some 78 := h.P (by decide) (by decide +kernel)
theorem xP0_5 (h : LaS S) : mP (I, X, S) 0 5 = some 80 := h.P (by decide) (by decide +kernel)
theorem xP0_6 (h : LaS S) : mP (I, X, S) 0 6 = some 83 := h.P (by decide) (by decide +kernel)
theorem xP0_7 (h : LaS S) : mP (I, X, S) 0 7 = some 84 := h.P (by decide) (by decide +kernel)
theorem xP0_8 (h : LaS S) : mP (I, X, S) 0 8 = some 85 := h.P (by decide) (by decide +kernel)
theorem xT73 (h : LaS S) : mT (I, X, S) 73 = 5 := h.T (by decide) (by decide +kernel)
theorem xP73_0 (h : LaS S) : mP (I, X, S) 73 0 = some 74 := h.P (by decide) (by decide +kernel)
theorem xT74 (h : LaS S) : mT (I, X, S) 74 = 20 := h.T (by decide) (by decide +kernel)
theorem xL74 (h : LaS S) : mL (I, X, S) 74 = 10 := h.L (by decide) (by decide +kernel)
theorem xP73_1 (h : LaS S) : mP (I, X, S) 73 1 = some 75 := h.P (by decide) (by decide +kernel)
theorem xT75 (h : LaS S) : mT (I, X, S) 75 = 20 := h.T (by decide) (by decide +kernel)
theorem xL75 (h : LaS S) : mL (I, X, S) 75 = 8 := h.L (by decide) (by decide +kernel)
theorem xP73_2 (h : LaS S) : mP (I, X, S) 73 2 = some 76 := h.P (by decide) (by decide +kernel)
theorem xT76 (h : LaS S) : mT (I, X, S) 76 = 20 := h.T (by decide) (by decide +kernel)
theorem xL76 (h : LaS S) : mL (I, X, S) 76 = 8 := h.L (by decide) (by decide +kernel)
theorem xP73_3 (h : LaS S) : mP (I, X, S) 73 3 = some 77 := h.P (by decide) (by decide +kernel)
theorem xT77 (h : LaS S) : mT (I, X, S) 77 = 20 := h.T (by decide) (by decide +kernel)
theorem xL77 (h : LaS S) : mL (I, X, S) 77 = 8 := h.L (by decide) (by decide +kernel)
theorem xT78 (h : LaS S) : mT (I, X, S) 78 = 7 := h.T (by decide) (by decide +kernel)
theorem xP78_0 (h : LaS S) : mP (I, X, S) 78 0 = some 79 := h.P (by decide) (by decide +kernel)
theorem xT79 (h : LaS S) : mT (I, X, S) 79 = 20 := h.T (by decide) (by decide +kernel)
theorem xL79 (h : LaS S) : mL (I, X, S) 79 = 96 := h.L (by decide) (by decide +kernel)
theorem xT80 (h : LaS S) : mT (I, X, S) 80 = 2 := h.T (by decide) (by decide +kernel)
theorem xP80_0 (h : LaS S) : mP (I, X, S) 80 0 = some 81 := h.P (by decide) (by decide +kernel)
theorem xP80_2 (h : LaS S) : mP (I, X, S) 80 2 = some 82 := h.P (by decide) (by decide +kernel)
theorem xT81 (h : LaS S) : mT (I, X, S) 81 = 20 := h.T (by decide) (by decide +kernel)
theorem xL81 (h : LaS S) : mL (I, X, S) 81 = 96 := h.L (by decide) (by decide +kernel)
theorem xT82 (h : LaS S) : mT (I, X, S) 82 = 20 := h.T (by decide) (by decide +kernel)
theorem xL82 (h : LaS S) : mL (I, X, S) 82 = 96 := h.L (by decide) (by decide +kernel)
theorem xT83 (h : LaS S) : mT (I, X, S) 83 = 26 := h.T (by decide) (by decide +kernel)
theorem xL83 (h : LaS S) : mL (I, X, S) 83 = 4 := h.L (by decide) (by decide +kernel)
theorem xT84 (h : LaS S) : mT (I, X, S) 84 = 27 := h.T (by decide) (by decide +kernel)
theorem xL84 (h : LaS S) : mL (I, X, S) 84 = 5 := h.L (by decide) (by decide +kernel)
theorem xT85 (h : LaS S) : mT (I, X, S) 85 = 20 := h.T (by decide) (by decide +kernel)
theorem xL85 (h : LaS S) : mL (I, X, S) 85 = 60 := h.L (by decide) (by decide +kernel)
theorem shOK : (List.range 4).all (fun k => decide (XS.1 83 k = some (86 + 2 * k) ∧ XS.2.1 (86 + 2 * k) = 3 ∧ XS.1 (86 + 2 * k) 2 = some (87 + 2 * k) ∧ XS.2.1 (87 + 2 * k) = 20 ∧ XS.2.2.1 (87 + 2 * k) = 24)) = true := by decide +kernel
theorem slOK : (List.range 5).all (fun k => decide (XS.1 84 k = some (94 + 4 * k) ∧ XS.2.1 (94 + 4 * k) = 4 ∧ XS.1 (94 + 4 * k) 1 = some (95 + 4 * k) ∧ XS.2.1 (95 + 4 * k) = 1 ∧ XS.1 (94 + 4 * k) 2 = some (96 + 4 * k) ∧ XS.2.1 (96 + 4 * k) = 3 ∧ XS.1 (96 + 4 * k) 2 = some (97 + 4 * k) ∧ XS.2.1 (97 + 4 * k) = 20 ∧ XS.2.2.1 (97 + 4 * k) = 24)) = true := by decide +kernel
theorem shF {k : Nat} (hk : k < 4) : XS.1 83 k = some (86 + 2 * k) ∧ XS.2.1 (86 + 2 * k) = 3 ∧ XS.1 (86 + 2 * k) 2 = some (87 + 2 * k) ∧ XS.2.1 (87 + 2 * k) = 20 ∧ XS.2.2.1 (87 + 2 * k) = 24 := of_decide_eq_true (List.all_eq_true.mp shOK k (List.mem_range.mpr hk))
theorem slF {k : Nat} (hk : k < 5) : XS.1 84 k = some (94 + 4 * k) ∧ XS.2.1 (94 + 4 * k) = 4 ∧ XS.1 (94 + 4 * k) 1 = some (95 + 4 * k) ∧ XS.2.1 (95 + 4 * k) = 1 ∧ XS.1 (94 + 4 * k) 2 = some (96 + 4 * k) ∧ XS.2.1 (96 + 4 * k) = 3 ∧ XS.1 (96 + 4 * k) 2 = some (97 + 4 * k) ∧ XS.2.1 (97 + 4 * k) = 20 ∧ XS.2.2.1 (97 + 4 * k) = 24 := of_decide_eq_true (List.all_eq_true.mp slOK k (List.mem_range.mpr hk))
theorem shP (h : LaS S) {k : Nat} (hk : k < 4) : mP (I, X, S) 83 k = some (86 + 2 * k) := h.P (by decide) (shF hk).1
theorem shT (h : LaS S) {k : Nat} (hk : k < 4) : mT (I, X, S) (86 + 2 * k) = 3 := h.T (by omega) (shF hk).2.1
theorem shPp (h : LaS S) {k : Nat} (hk : k < 4) : mP (I, X, S) (86 + 2 * k) 2 = some (87 + 2 * k) := h.P (by omega) (shF hk).2.2.1
theorem shTp (h : LaS S) {k : Nat} (hk : k < 4) : mT (I, X, S) (87 + 2 * k) = 20 := h.T (by omega) (shF hk).2.2.2.1
theorem shLp (h : LaS S) {k : Nat} (hk : k < 4) : mL (I, X, S) (87 + 2 * k) = 24 := h.L (by omega) (shF hk).2.2.2.2
theorem slP (h : LaS S) {k : Nat} (hk : k < 5) : mP (I, X, S) 84 k = some (94 + 4 * k) := h.P (by decide) (slF hk).1
theorem slT (h : LaS S) {k : Nat} (hk : k < 5) : mT (I, X, S) (94 + 4 * k) = 4 := h.T (by omega) (slF hk).2.1
theorem slPc (h : LaS S) {k : Nat} (hk : k < 5) : mP (I, X, S) (94 + 4 * k) 1 = some (95 + 4 * k) := h.P (by omega) (slF hk).2.2.1
theorem slTc (h : LaS S) {k : Nat} (hk : k < 5) : mT (I, X, S) (95 + 4 * k) = 1 := h.T (by omega) (slF hk).2.2.2.1
theorem slPs (h : LaS S) {k : Nat} (hk : k < 5) : mP (I, X, S) (94 + 4 * k) 2 = some (96 + 4 * k) := h.P (by omega) (slF hk).2.2.2.2.1
theorem slTs (h : LaS S) {k : Nat} (hk : k < 5) : mT (I, X, S) (96 + 4 * k) = 3 := h.T (by omega) (slF hk).2.2.2.2.2.1
theorem slPp (h : LaS S) {k : Nat} (hk : k < 5) : mP (I, X, S) (96 + 4 * k) 2 = some (97 + 4 * k) := h.P (by omega) (slF hk).2.2.2.2.2.2.1
theorem slTp (h : LaS S) {k : Nat} (hk : k < 5) : mT (I, X, S) (97 + 4 * k) = 20 := h.T (by omega) (slF hk).2.2.2.2.2.2.2.1
theorem slLp (h : LaS S) {k : Nat} (hk : k < 5) : mL (I, X, S) (97 + 4 * k) = 24 := h.L (by omega) (slF hk).2.2.2.2.2.2.2.2
end XWorld
theorem LaS0 : LaS XS := ⟨fun k _ => ⟨rfl, rfl, fun _ => rfl⟩, Nat.le_of_eq (by have := x0_n; exact this.symm)⟩
