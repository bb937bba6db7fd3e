/-! THE MEANING of a row N: which law counts, likes, a spring -/
def kyN (N : Nat → Int32) (t : Nat) : Nat := (N (70 + 2 * t)).toNatClampNeg / 1000
def cdN (N : Nat → Int32) (t : Nat) : Nat := (N (70 + 2 * t)).toNatClampNeg % 1000
def sgN (N : Nat → Int32) (t : Nat) : Nat → Int32 := fun k => N (98 + 96 * t + k)
def nnK (k : Nat) : Nat := if k = 0 then 3 else 2
/-- the texts of a row are as they must be -/
def GT (N : Nat → Int32) (nt : Nat) : Prop := ∀ t, t < nt → kyN N t < 3 ∧ N (70 + 2 * t) = nI (1000 * kyN N t + cdN N t) ∧ okM (nnK (kyN N t)) (sgN N t) (cdN N t)
def cntM (N : Nat → Int32) (key : Nat) : Nat → Option Nat
  | 0 => none
  | t + 1 => if kyN N t = key then some t else cntM N key t
theorem cnt_lt {N : Nat → Int32} {key t : Nat} : ∀ {n : Nat}, cntM N key n = some t → t < n ∧ kyN N t = key
  | n + 1, h => by
    unfold cntM at h
    by_cases e : kyN N n = key
    · rw [if_pos e] at h; cases h; exact ⟨Nat.lt_succ_self _, e⟩
    · rw [if_neg e] at h
      have := cnt_lt h
      exact ⟨by omega, this.2⟩
def factsM (a b c : Int32) : Nat → Int32 := fun i => if i = 0 then a else if i = 1 then b else c
def clampM (v : Int32) : Int32 := if 0 ≤ v then (if v ≤ 999 then v else 999) else 0
def plainM (N : Nat → Int32) (nt c : Nat) (h : Int32) : Int32 := match cntM N 0 nt with
  | none => N (38 + 4 * c + 2) + N (38 + 4 * c + 3) + 20 * h
  | some t => valM (sgN N t) (factsM (N (38 + 4 * c + 2)) (N (38 + 4 * c + 3)) h) (cdN N t)
def kindM (k warm frogs h p : Int32) : Int32 := if k = 1 then p + 10 else if k = 2 then p / 2 else if k = 3 then 2 * (p + 10) else if k = 4 then p / 2 + warm else if k = 5 then frogs + 50 * h else p
def likesM (N : Nat → Int32) (nt c : Nat) (h : Int32) : Int32 := kindM (N (38 + 4 * c)) (N (38 + 4 * c + 2)) (N (38 + 4 * c + 3)) h (clampM (plainM N nt c h))
def homeM (N : Nat → Int32) (s c : Nat) : Int32 := if N (8 + 3 * s + 1) = nI c then 1 else 0
def awayN (N : Nat → Int32) (s : Nat) : Bool := decide (N (8 + 3 * s + 2) = 1)
def encR (o : Option Nat) : Int32 := match o with
  | none => -1
  | some k => nI k
def encC (o : Option Nat) : Int32 := match o with
  | none => -1000000005
  | some k => nI k
def bI (b : Bool) : Int32 := if b = true then 1 else 0
/-- the strongest of the first n that are free -/
def strM (strong : Nat → Int32) (free : Nat → Bool) : Nat → Option Nat
  | 0 => none
  | i + 1 => if free i = true then (match strM strong free i with
    | none => some i
    | some b => if strong b < strong i then some i else some b) else strM strong free i
theorem strM_s (strong : Nat → Int32) (free : Nat → Bool) (i : Nat) : strM strong free (i + 1) = if free i = true then (match strM strong free i with
    | none => some i
    | some b => if strong b < strong i then some i else some b) else strM strong free i := Eq.trans rfl rfl
theorem str_lt {strong : Nat → Int32} {free : Nat → Bool} : ∀ {n s : Nat}, strM strong free n = some s → s < n ∧ free s = true
  | n + 1, s, h => by
    unfold strM at h
    by_cases e : free n = true
    · rw [if_pos e] at h
      cases hq : strM strong free n with
      | none => rw [hq] at h; cases h; exact ⟨Nat.lt_succ_self _, e⟩
      | some b =>
        rw [hq] at h
        have hb := str_lt hq
        by_cases e2 : strong b < strong n
        · simp only [if_pos e2] at h; cases h; exact ⟨Nat.lt_succ_self _, e⟩
        · simp only [if_neg e2] at h; cases h; exact ⟨by omega, hb.2⟩
    · rw [if_neg e] at h
      have := str_lt h
      exact ⟨by omega, this.2⟩
theorem str_none {strong : Nat → Int32} {free : Nat → Bool} : ∀ {n : Nat}, strM strong free n = none → ∀ i, i < n → free i = false
  | n + 1, h, i, hi => by
    unfold strM at h
    by_cases e : free n = true
    · rw [if_pos e] at h
      cases hq : strM strong free n with
      | none => rw [hq] at h; exact nomatch h
      | some b =>
        rw [hq] at h
        by_cases e2 : strong b < strong n
        · simp only [if_pos e2] at h; exact nomatch h
        · simp only [if_neg e2] at h; exact nomatch h
    · rw [if_neg e] at h
      by_cases e3 : i = n
      · subst e3; simpa using e
      · exact str_none h i (by omega)
theorem str_congr {s1 s2 : Nat → Int32} {f1 f2 : Nat → Bool} : ∀ {n : Nat}, (∀ i, i < n → s1 i = s2 i) → (∀ i, i < n → f1 i = f2 i) → strM s1 f1 n = strM s2 f2 n
  | 0, _, _ => rfl
  | n + 1, hs, hf => by
    unfold strM
    rw [str_congr (fun i hi => hs i (by omega)) (fun i hi => hf i (by omega)), hf n (by omega)]
    cases hq : strM s2 f2 n with
    | none => rfl
    | some b =>
      have hb := str_lt hq
      simp only [hs n (by omega), hs b (by omega)]
/-- the first of the first n that are open, wanted and liked most -/
def chM (L : Nat → Int32) (pride : Int32) (op : Nat → Bool) : Nat → Option Nat
  | 0 => none
  | c + 1 => if op c = true ∧ pride ≤ L c then (match chM L pride op c with
    | none => some c
    | some b => if L b < L c then some c else some b) else chM L pride op c
theorem chM_s (L : Nat → Int32) (pride : Int32) (op : Nat → Bool) (c : Nat) : chM L pride op (c + 1) = if op c = true ∧ pride ≤ L c then (match chM L pride op c with
    | none => some c
    | some b => if L b < L c then some c else some b) else chM L pride op c := Eq.trans rfl rfl
theorem ch_lt {L : Nat → Int32} {pride : Int32} {op : Nat → Bool} : ∀ {n s : Nat}, chM L pride op n = some s → s < n ∧ op s = true
  | n + 1, s, h => by
    unfold chM at h
    by_cases e : op n = true ∧ pride ≤ L n
    · rw [if_pos e] at h
      cases hq : chM L pride op n with
      | none => rw [hq] at h; cases h; exact ⟨Nat.lt_succ_self _, e.1⟩
      | some b =>
        rw [hq] at h
        have hb := ch_lt hq
        by_cases e2 : L b < L n
        · simp only [if_pos e2] at h; cases h; exact ⟨Nat.lt_succ_self _, e.1⟩
        · simp only [if_neg e2] at h; cases h; exact ⟨by omega, hb.2⟩
    · rw [if_neg e] at h
      have := ch_lt h
      exact ⟨by omega, this.2⟩
abbrev SP : Type := (Nat → Bool) × (Nat → Option Nat) × (Nat → Option Nat)
def stepSp (L : Nat → Nat → Int32) (pride : Int32) (sh : Nat → Bool) (nc : Nat) (S : SP) (s : Nat) : SP := match chM (L s) pride (fun c => (S.2.1 c).isNone && !sh c) nc with
  | none => (va_up S.1 s true, S.2.1, va_up S.2.2 s none)
  | some c => (va_up S.1 s true, va_up S.2.1 c (some s), va_up S.2.2 s (some c))
def freeM (away : Nat → Bool) (g : Nat → Bool) : Nat → Bool := fun s => !g s && !away s
def sprM (strong : Nat → Int32) (away : Nat → Bool) (L : Nat → Nat → Int32) (pride : Int32) (sh : Nat → Bool) (ns nc : Nat) : Nat → SP → SP
  | 0, S => S
  | k + 1, S => match strM strong (freeM away S.1) ns with
    | none => S
    | some s => sprM strong away L pride sh ns nc k (stepSp L pride sh nc S s)
def sp0 : SP := (fun _ => false, fun _ => none, fun _ => none)
def LN (N : Nat → Int32) (nt : Nat) : Nat → Nat → Int32 := fun s c => likesM N nt c (homeM N s c)
def springM (N : Nat → Int32) (nc ns nt : Nat) (sh : Nat → Bool) : SP := sprM (fun s => N (8 + 3 * s)) (awayN N) (LN N nt) (N 4) sh ns nc ns sp0
def cntF (f : Nat → Bool) : Nat → Nat
  | 0 => 0
  | n + 1 => cntF f n + (if f n = true then 1 else 0)
theorem cntF_le (f : Nat → Bool) : ∀ n, cntF f n ≤ n
  | 0 => Nat.le_refl _
  | n + 1 => by have := cntF_le f n; unfold cntF; split <;> omega
theorem cntF_0 {f : Nat → Bool} : ∀ {n : Nat}, cntF f n = 0 → ∀ i, i < n → f i = false
  | n + 1, h, i, hi => by
    unfold cntF at h
    by_cases e : f n = true
    · rw [if_pos e] at h; omega
    · rw [if_neg e] at h
      by_cases e3 : i = n
      · subst e3; simpa using e
      · exact cntF_0 (by omega) i (by omega)
theorem cntF_up {f g : Nat → Bool} {s : Nat} (hg : g s = false) (ho : ∀ i, i ≠ s → g i = f i) : ∀ {n : Nat}, s < n → f s = true → cntF g n + 1 = cntF f n
  | n + 1, hs, hf => by
    unfold cntF
    by_cases e : s = n
    · subst e
      have : ∀ m, m ≤ s → cntF g m = cntF f m := by
        intro m
        induction m with
        | zero => intro _; rfl
        | succ m ih => intro hm; unfold cntF; rw [ih (by omega), ho m (by omega)]
      rw [this s (Nat.le_refl _), if_pos hf, hg, if_neg Bool.false_ne_true]
    · have := cntF_up hg ho (n := n) (by omega) hf
      rw [ho n (fun q => e q.symm)]
      omega
theorem str_no {strong : Nat → Int32} {free : Nat → Bool} : ∀ {n : Nat}, (∀ i, i < n → free i = false) → strM strong free n = none
  | 0, _ => rfl
  | n + 1, h => by
    unfold strM
    rw [h n (by omega), if_neg Bool.false_ne_true]
    exact str_no (fun i hi => h i (by omega))
/-- what is known of a spring's state: who hasn't chosen has no nest; nests and guests are of storks and chimneys -/
theorem step_free {L : Nat → Nat → Int32} {pride : Int32} {sh away : Nat → Bool} {nc s : Nat} {S : SP} : (freeM away (stepSp L pride sh nc S s).1) = freeM away (va_up S.1 s true) := by
  unfold stepSp
  split <;> rfl
def okSP (nc ns : Nat) (S : SP) : Prop := (∀ s, S.1 s = false → S.2.2 s = none) ∧ (∀ s c, S.2.2 s = some c → c < nc) ∧ (∀ c s, S.2.1 c = some s → s < ns)
theorem okSP_step {L : Nat → Nat → Int32} {pride : Int32} {sh : Nat → Bool} {nc ns s : Nat} {S : SP} (h : okSP nc ns S) (hs : s < ns) : okSP nc ns (stepSp L pride sh nc S s) := by
  unfold stepSp
  cases hq : chM (L s) pride (fun c => (S.2.1 c).isNone && !sh c) nc with
  | none =>
    refine ⟨fun j hj => ?_, fun j c hj => ?_, h.2.2⟩
    · have hj : (if j = s then true else S.1 j) = false := hj
      show (if j = s then none else S.2.2 j) = none
      split at hj
      · exact nomatch hj
      · rename_i e; rw [if_neg e]; exact h.1 j hj
    · have hj : (if j = s then none else S.2.2 j) = some c := hj
      split at hj
      · exact nomatch hj
      · exact h.2.1 j c hj
  | some c0 =>
    have hc := ch_lt hq
    refine ⟨fun j hj => ?_, fun j c hj => ?_, fun c j hj => ?_⟩
    · have hj : (if j = s then true else S.1 j) = false := hj
      show (if j = s then some c0 else S.2.2 j) = none
      split at hj
      · exact nomatch hj
      · rename_i e; rw [if_neg e]; exact h.1 j hj
    · have hj : (if j = s then some c0 else S.2.2 j) = some c := hj
      split at hj
      · cases hj; exact hc.1
      · exact h.2.1 j c hj
    · have hj : (if c = c0 then some s else S.2.1 c) = some j := hj
      split at hj
      · cases hj; exact hs
      · exact h.2.2 c j hj
theorem okSP_spr {strong : Nat → Int32} {away sh : Nat → Bool} {L : Nat → Nat → Int32} {pride : Int32} {ns nc : Nat} : ∀ (k : Nat) (S : SP), okSP nc ns S → okSP nc ns (sprM strong away L pride sh ns nc k S)
  | 0, _, h => h
  | k + 1, S, h => by
    unfold sprM
    cases hq : strM strong (freeM away S.1) ns with
    | none => exact h
    | some s => exact okSP_spr k _ (okSP_step h (str_lt hq).1)
theorem okSP_0 {nc ns : Nat} : okSP nc ns sp0 := ⟨fun _ _ => rfl, fun _ _ h => by simp [sp0] at h, fun _ _ h => by simp [sp0] at h⟩
theorem okSpring {N : Nat → Int32} {nc ns nt : Nat} {sh : Nat → Bool} : okSP nc ns (springM N nc ns nt sh) := okSP_spr _ _ okSP_0
/-! seats, who is elected -/
def nestsM (N : Nat → Int32) (guest : Nat → Option Nat) (w : Nat) : Nat → Nat
  | 0 => 0
  | c + 1 => nestsM N guest w c + (if N (38 + 4 * c + 1) = nI w ∧ (guest c).isSome = true then 1 else 0)
theorem nests_le (N : Nat → Int32) (guest : Nat → Option Nat) (w : Nat) : ∀ c, nestsM N guest w c ≤ c
  | 0 => Nat.le_refl _
  | c + 1 => by have := nests_le N guest w c; unfold nestsM; split <;> omega
def seatM (N : Nat → Int32) (nt : Nat) (n w : Nat) : Int32 := match cntM N 1 nt with
  | none => nI n
  | some t => clampM (valM (sgN N t) (factsM (nI n) (nI w) 0) (cdN N t))
def seatsM (N : Nat → Int32) (nc nt : Nat) (guest : Nat → Option Nat) (w : Nat) : Int32 := seatM N nt (nestsM N guest w nc) w
/-- of wards 0 .. w: the first with most seats, and these -/
def winM (S : Nat → Int32) : Nat → Nat × Int32
  | 0 => (0, S 0)
  | w + 1 => if S (w + 1) ≤ (winM S w).2 then winM S w else (w + 1, S (w + 1))
theorem win_le (S : Nat → Int32) : ∀ w, (winM S w).1 ≤ w
  | 0 => Nat.le_refl _
  | w + 1 => by have := win_le S w; unfold winM; split <;> simp <;> omega
def electM (N : Nat → Int32) (nc ns nt : Nat) (sh : Nat → Bool) : Nat := (winM (seatsM N nc nt (springM N nc ns nt sh).2.1) 3).1
def hereM (N : Nat → Int32) : Nat → Nat
  | 0 => 0
  | s + 1 => hereM N s + (if awayN N s = true then 0 else 1)
theorem here_le (N : Nat → Int32) : ∀ s, hereM N s ≤ s
  | 0 => Nat.le_refl _
  | s + 1 => by have := here_le N s; unfold hereM; split <;> omega
def noSh : Nat → Bool := fun _ => false
/-! a year -/
def zM (z : Int32) : Int32 := z * 1103515245 + 12345
def dM (z : Int32) : Int32 := ushr z 8
/-- one stork's fate: the row and how many storks there are -/
def fareM (nest : Nat → Option Nat) (s : Nat) (Q : (Nat → Int32) × Nat) : (Nat → Int32) × Nat :=
  if awayN Q.1 s = true then Q else
    let z1 := zM (Q.1 0)
    let N1 := rowU Q.1 0 z1
    match nest s with
    | none => (rowU N1 (8 + 3 * s + 2) (if Q.1 6 ≤ irm (dM z1) 100 then 0 else 1), Q.2)
    | some c => if Q.1 5 ≤ irm (dM z1) 100 then (N1, Q.2) else if 10 ≤ Q.2 then (N1, Q.2) else
        let z2 := zM z1
        (rowU (rowU (rowU (rowU (rowU N1 0 z2) (8 + 3 * Q.2) (1 + irm (dM z2) 20)) (8 + 3 * Q.2 + 1) (nI c)) (8 + 3 * Q.2 + 2) 0) 2 (nI (Q.2 + 1)), Q.2 + 1)
def fatesM (nest : Nat → Option Nat) (Q : (Nat → Int32) × Nat) : Nat → (Nat → Int32) × Nat
  | 0 => Q
  | s + 1 => fareM nest s (fatesM nest Q s)
def yearM (N : Nat → Int32) (nc ns nt : Nat) : (Nat → Int32) × Nat :=
  let Q := fatesM (springM N nc ns nt noSh).2.2 (N, ns) ns
  (rowU Q.1 3 (Q.1 3 + 1), Q.2)
def yearsM (nc nt : Nat) (Q : (Nat → Int32) × Nat) : Nat → (Nat → Int32) × Nat
  | 0 => Q
  | k + 1 => yearM (yearsM nc nt Q k).1 nc (yearsM nc nt Q k).2 nt
