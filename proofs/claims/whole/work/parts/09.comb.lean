/-! the words of the methods' meanings, and what follows if one has an outcome -/
def FU : Nat := 4000
def gd {α : Type} (b : Bool) (x : Option α) : Option α := match b with
  | true => x
  | false => none
def gt {α : Type} (t t0 : Nat) (x : Option α) : Option α := if t = t0 then x else none
def gz {α : Type} (y : Int32) (x : Option α) : Option α := if y = 0 then none else x
def lp {α : Type} (o : Option Nat) (f : Nat → Option α) : Option α := match o with
  | none => none
  | some a => f a
def st {α : Type} (M : Mem) (f : Mem → Option α) : Option α := f M
def nm {α : Type} (x : Option Nat) (f : Option Nat → Option α) : Option α := f x
def on {α : Type} (x : Option Nat) (a : Option α) (f : Nat → Option α) : Option α := match x with
  | none => a
  | some b => f b
def cl {α β : Type} (o : Option (β × Mem)) (f : β → Mem → Option α) : Option α := match o with
  | none => none
  | some (r, M) => f r M
def ushr (x y : Int32) : Int32 := (x.toUInt32 >>> (y.toUInt32 &&& Int32.toUInt32 31)).toInt32
def irm (x y : Int32) : Int32 := x - x / y * y
def imin (x y : Int32) : Int32 := if y < x then y else x
def imax (x y : Int32) : Int32 := if x < y then y else x
def c16 (x : Int32) : Int32 := (x.toUInt32 % 65536).toInt32
def s16 (x : Int32) : Int32 := x.toInt16.toInt32
theorem gd_inv {α : Type} {b : Bool} {x : Option α} {r : α} (h : gd b x = some r) : b = true ∧ x = some r := by
  cases b
  · exact nomatch h
  · exact ⟨rfl, h⟩
theorem gt_inv {α : Type} {t t0 : Nat} {x : Option α} {r : α} (h : gt t t0 x = some r) : t = t0 ∧ x = some r := by
  unfold gt at h
  by_cases e : t = t0
  · rw [if_pos e] at h; exact ⟨e, h⟩
  · rw [if_neg e] at h; exact nomatch h
theorem gz_inv {α : Type} {y : Int32} {x : Option α} {r : α} (h : gz y x = some r) : ¬ y = 0 ∧ x = some r := by
  unfold gz at h
  by_cases e : y = 0
  · rw [if_pos e] at h; exact nomatch h
  · rw [if_neg e] at h; exact ⟨e, h⟩
theorem lp_inv {α : Type} {o : Option Nat} {f : Nat → Option α} {r : α} (h : lp o f = some r) : ∃ a, o = some a ∧ f a = some r := by
  cases o with
  | none => exact nomatch h
  | some a => exact ⟨a, rfl, h⟩
theorem st_inv {α : Type} {M : Mem} {f : Mem → Option α} {r : α} (h : st M f = some r) : ∃ M1, M1 = M ∧ f M1 = some r := ⟨M, rfl, h⟩
theorem nm_inv {α : Type} {x : Option Nat} {f : Option Nat → Option α} {r : α} (h : nm x f = some r) : ∃ y, y = x ∧ f y = some r := ⟨x, rfl, h⟩
theorem on_n {α : Type} {a : Option α} {f : Nat → Option α} {r : α} (h : on none a f = some r) : a = some r := h
theorem on_s {α : Type} {a : Option α} {f : Nat → Option α} {b : Nat} {r : α} (h : on (some b) a f = some r) : f b = some r := h
theorem cl_inv {α β : Type} {o : Option (β × Mem)} {f : β → Mem → Option α} {r : α} (h : cl o f = some r) : ∃ (x : β) (M1 : Mem), o = some (x, M1) ∧ f x M1 = some r := by
  cases o with
  | none => exact nomatch h
  | some q => exact ⟨q.1, q.2, rfl, h⟩
theorem if_p {α : Type} {c : Prop} [Decidable c] {x y : Option α} {r : α} (hc : c) (h : (if c then x else y) = some r) : x = some r := by rw [if_pos hc] at h; exact h
theorem if_n {α : Type} {c : Prop} [Decidable c] {x y : Option α} {r : α} (hc : ¬ c) (h : (if c then x else y) = some r) : y = some r := by rw [if_neg hc] at h; exact h
theorem T_of {M M1 : Mem} {a t : Nat} (h : M1.2.2 = M.2.2) (hT : mT M a = t) : mT M1 a = t := by unfold mT at hT ⊢; rw [h]; exact hT
theorem T_of2 {M M1 : Mem} {a t : Nat} (h : M1.2.2.2 = M.2.2.2) (hT : mT M a = t) : mT M1 a = t := by unfold mT at hT ⊢; rw [h]; exact hT
theorem P_of {M M1 : Mem} {a j b : Nat} (h : M1.2.2 = M.2.2) (hT : mP M a j = some b) : mP M1 a j = some b := by unfold mP at hT ⊢; rw [h]; exact hT
theorem sw_ne {x v : Int32} (h : ¬ x = v) : x.toInt ≠ v.toInt := fun e => h (Int32.toInt_inj.mp e)
theorem sw_nei {x v : Int32} {k : Int} (e : v.toInt = k) (h : ¬ x = v) : x.toInt ≠ k := fun q => h (Int32.toInt_inj.mp (q.trans e.symm))
theorem offs_c {a o d : Int} {r : List (Int × Int)} {x v : Int32} (e : v.toInt = a) (h : ¬ x = v) (t : Op.lookupswitch.offset r d x.toInt = d) : Op.lookupswitch.offset ((a, o) :: r) d x.toInt = d := by
  rw [Op.lookupswitch.offset_cons, if_neg (fun q => sw_nei e h q.symm)]
  exact t
theorem cp_n : Cond.native arraycopyName ∈ TBW := tbw_t 536 (by decide +kernel) rfl
theorem cp_s : Cond.static arraycopyName ∈ TBW := tbw_t 535 (by decide +kernel) rfl
theorem cp_i : Cond.initialized "java/lang/System" ∈ TBW := tbw_t 14 (by decide +kernel) rfl
section SSpec
variable {p : Program} {l : Launch} {e : Env} {R : Room} {s : State} {m : MethodId} {args : Array Value} {below : List Frame} {meth : Method} {c : Code} {H : Heap} {locs : List Loc} {cells slots : Nat} {Q : State → Prop} {G : Gd} {A : Nat → Prop} {ad : Nat → Nat} {M : Mem} {own : String} {cc : ByteArray} {nL : Nat} {rt : Option FieldType} {pc : Nat} {ls : Array Slot} {rest : List Value}
theorem r_min (C : Cx G A p s m args meth c own cc nL rt) (hsz : ls.size = nL) {index : Nat} (hl : Cond.methodLink own index yJ9_min_7cf53 ∈ TBW) (hframes : 1 ≤ R.frames) (hlocals : (rest.map fun v => v.category).sum + 13 ≤ R.locals) (hc : cells ≤ R.cells) (hs : slots ≤ R.slots) {x y : Int32} (hdg : decode cc pc = .ok (.invokestatic index, 3)) (kk : W p l e R s m args below meth c H locs cells slots Q (F0 m (pc + 3) ls (.int (imin x y) :: rest))) : W p l e R s m args below meth c H locs cells slots Q (F0 m pc ls (.int y :: .int x :: rest)) :=
  va_mmin C.1 C.2.1 (C.2.2.1.trans hsz.symm) C.2.2.2.1 (C.2.2.2.2.1 _ hl) (C.2.2.2.2.1 _ ms_J9_min_7cf53) (C.2.2.2.2.1 _ mf_J9_min_7cf53.2.1) (C.2.2.2.2.1 _ mf_J9_min_7cf53.1) hframes hlocals hc hs hdg kk
theorem r_max (C : Cx G A p s m args meth c own cc nL rt) (hsz : ls.size = nL) {index : Nat} (hl : Cond.methodLink own index yJ9_max_7cf53 ∈ TBW) (hframes : 1 ≤ R.frames) (hlocals : (rest.map fun v => v.category).sum + 13 ≤ R.locals) (hc : cells ≤ R.cells) (hs : slots ≤ R.slots) {x y : Int32} (hdg : decode cc pc = .ok (.invokestatic index, 3)) (kk : W p l e R s m args below meth c H locs cells slots Q (F0 m (pc + 3) ls (.int (imax x y) :: rest))) : W p l e R s m args below meth c H locs cells slots Q (F0 m pc ls (.int y :: .int x :: rest)) :=
  va_mmax C.1 C.2.1 (C.2.2.1.trans hsz.symm) C.2.2.2.1 (C.2.2.2.2.1 _ hl) (C.2.2.2.2.1 _ ms_J9_max_7cf53) (C.2.2.2.2.1 _ mf_J9_max_7cf53.2.1) (C.2.2.2.2.1 _ mf_J9_max_7cf53.1) hframes hlocals hc hs hdg kk
theorem r_kag (C : Cx G A p s m args meth c own cc nL rt) (hw : Wd G A ad s.heap M H locs) {index : Nat} (fl : FLk own index "StorkVote" "KIND_ABOVE" "[I") (hdg : decode cc pc = .ok (.getstatic index, 3)) (kk : W p l e R s m args below meth c H locs cells slots Q (F0 m (pc + 3) ls (.ref G.2.2.2.1 :: rest))) : W p l e R s m args below meth c H locs cells slots Q (F0 m pc ls rest) := by
  rcases fl with fl | ⟨host, fl⟩
  · exact va_gets C.1 C.2.1 C.2.2.2.2.2.1.2.2.2.1 hw.2.2.2 C.2.2.2.1 (C.2.2.2.2.1 _ fl) (fun _ h => h) hdg kk
  · exact va_getsN C.1 C.2.1 C.2.2.2.2.2.1.2.2.2.1 hw.2.2.2 C.2.2.2.1 (va_Nw.use (nst_tabs fl) (C.2.2.2.2.2.1.2.1 _ fl)) (fun _ h => h) hdg kk
theorem r_kai (C : Cx G A p s m args meth c own cc nL rt) (hw : Wd G A ad s.heap M H locs) {i : Int32} (hi : ib i 6 = true) (hdg : decode cc pc = .ok (.iaload, 1)) (kk : W p l e R s m args below meth c H locs cells slots Q (F0 m (pc + 1) ls (.int (kaF.getD i.toNatClampNeg 0) :: rest))) : W p l e R s m args below meth c H locs cells slots Q (F0 m pc ls (.int i :: .ref G.2.2.2.1 :: rest)) :=
  va_ti C.1 C.2.1 C.2.2.2.2.2.1.2.2.2.2.1 hw.2.2.2 (ib_in hi) rfl hdg kk
theorem r_tabIn {x : Int32} (v : Int32) (hv : x = v) (hx : p.tables.exec = Jvm.exec) (hb : c.code = cc) {dflt lo hi : Int} {offs : Array Int} {len : Nat} {off : Int} (hdg : decode cc pc = .ok (.tableswitch dflt lo hi offs, len)) (h1 : ¬ v.toInt < lo) (h2 : ¬ hi < v.toInt) (ho : offs[(v.toInt - lo).toNat]? = some off) {tgt : Nat} (ht : (pc : Int) + off = (tgt : Int)) (k : W p l e R s m args below meth c H locs cells slots Q (F0 m tgt ls rest)) : W p l e R s m args below meth c H locs cells slots Q (F0 m pc ls (.int x :: rest)) := by
  subst hv
  exact lv_tableIn hx hb hdg h1 h2 ho ht k
theorem r_tabOut {x : Int32} (hx : p.tables.exec = Jvm.exec) (hb : c.code = cc) {dflt lo hi : Int} {offs : Array Int} {len : Nat} (hdg : decode cc pc = .ok (.tableswitch dflt lo hi offs, len)) (h : x.toInt < lo ∨ hi < x.toInt) {tgt : Nat} (ht : (pc : Int) + dflt = (tgt : Int)) (k : W p l e R s m args below meth c H locs cells slots Q (F0 m tgt ls rest)) : W p l e R s m args below meth c H locs cells slots Q (F0 m pc ls (.int x :: rest)) :=
  lv_tableOut hx hb hdg h ht k
theorem r_lookIn {x : Int32} (v : Int32) (hv : x = v) (hx : p.tables.exec = Jvm.exec) (hb : c.code = cc) {dflt : Int} {ps : Array (Int × Int)} {len : Nat} {off : Int} (hdg : decode cc pc = .ok (.lookupswitch dflt ps, len)) (hp : (ps.toList.zip (ps.toList.drop 1)).all (fun (a, next) => a.1 < next.1) = true) (ho : Op.lookupswitch.offset ps.toList dflt v.toInt = off) {tgt : Nat} (ht : (pc : Int) + off = (tgt : Int)) (k : W p l e R s m args below meth c H locs cells slots Q (F0 m tgt ls rest)) : W p l e R s m args below meth c H locs cells slots Q (F0 m pc ls (.int x :: rest)) := by
  subst hv
  exact lv_lookup hx hb hdg hp ho ht k
theorem r_lookOut {x : Int32} (hx : p.tables.exec = Jvm.exec) (hb : c.code = cc) {dflt : Int} {ps : Array (Int × Int)} {len : Nat} (hdg : decode cc pc = .ok (.lookupswitch dflt ps, len)) (hp : (ps.toList.zip (ps.toList.drop 1)).all (fun (a, next) => a.1 < next.1) = true) (ho : Op.lookupswitch.offset ps.toList dflt x.toInt = dflt) {tgt : Nat} (ht : (pc : Int) + dflt = (tgt : Int)) (k : W p l e R s m args below meth c H locs cells slots Q (F0 m tgt ls rest)) : W p l e R s m args below meth c H locs cells slots Q (F0 m pc ls (.int x :: rest)) :=
  lv_lookup hx hb hdg hp ho ht k
end SSpec
