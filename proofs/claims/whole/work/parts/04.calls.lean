/-! CONTRACTS over the memory: how one begins, how it ends, how it's called -/
def B0 (G : Gd) (A : Nat → Prop) (ad : Nat → Nat) (M : Mem) (U : State) : Prop := Kn G A U ∧ (∀ q, U.heap.size ≤ q → A q) ∧ va_P (G.1, G.2.1) vwCl (sWr G.2.2.1 ad M) U.heap ∧ va_D A (sWr G.2.2.1 ad M) ∧ Wf M
def B1 (G : Gd) (A : Nat → Prop) (ad : Nat → Nat) (M : Mem) (t : State) : Prop := va_P (G.1, G.2.1) vwCl (sWr G.2.2.1 ad M) t.heap ∧ va_D A (sWr G.2.2.1 ad M) ∧ Wf M
/-- an answer r, the memory behind it M' -/
abbrev QI (G : Gd) (A : Nat → Prop) (ad : Nat → Nat) (r : Int32) (M' : Mem) : Array Value → State → Outcome → State → Prop := va_Qi (fun r' (_ : Unit) => r' = r) (fun _ => B1 G A ad M') A
abbrev QV (G : Gd) (A : Nat → Prop) (ad : Nat → Nat) (M' : Mem) : Array Value → State → Outcome → State → Prop := va_Qv (fun (_ : Unit) => True) (fun _ => B1 G A ad M') A
abbrev QQ (G : Gd) (A : Nat → Prop) (ad : Nat → Nat) (r : Option Nat) (M' : Mem) : Array Value → State → Outcome → State → Prop := va_Qq (fun r' (_ : Unit) => r' = r.map ad) (fun _ => B1 G A ad M') A
abbrev QT (G : Gd) (A : Nat → Prop) (ad : Nat → Nat) (r : Nat) (M' : Mem) : Array Value → State → Outcome → State → Prop := va_Qq (fun r' (_ : Unit) => r' = some (G.2.2.2.2.1 r)) (fun _ => B1 G A ad M') A
abbrev Ct (l : Launch) (y : MethodName) (b : ByteArray) (n : Nat) (rt : Option FieldType) (rm : Room) (As : List Value) (G : Gd) (A : Nat → Prop) (ad : Nat → Nat) (M : Mem) (Qc : Array Value → State → Outcome → State → Prop) (mc ms : Nat) : Prop :=
  Met l y (.code y b n rt :: TBW) rm (va_Pc As (B0 G A ad M)) Qc mc ms A
theorem ct_start {l : Launch} {y : MethodName} {b : ByteArray} {n : Nat} {rt : Option FieldType} {rm : Room} {As : List Value} {G : Gd} {A : Nat → Prop} {ad : Nat → Nat} {M : Mem} {Qc : Array Value → State → Outcome → State → Prop} {mc ms : Nat} (hy : plainName y.cls = true) (hn : (lg_sl As).length ≤ n)
    (body : ∀ (p : Program) (e : Env) (s : State) (m : MethodId) (args : Array Value) (below : List Frame) (meth : Method) (c : Code) (ls : Array Slot), Cx G A p s m args meth c y.cls b n rt → meth.name = y.name → Wd G A ad s.heap M s.heap [] → lv_has ls n (lv_args 0 As) → W p l e rm s m args below meth c s.heap [] 0 0 (MQ below Qc args s mc ms A) (F0 m 0 ls [])) : Ct l y b n rt rm As G A ad M Qc mc ms := by
  refine Met.ofW (cc := b) (maxL := n) (ret := rt) hy rfl ?_
  intro p e s m args below meth c s₁ B hml hv
  obtain ⟨rfl, hB⟩ := hv
  have hts := atoms_spec (ws := .code y b n rt :: TBW) B.pre
  rw [lg_entry_eq]
  exact body p e s m _ below meth c _ ⟨B.exec, B.bytes, hml, findClass_of_methodNamed B.named, fun w hw => hts w (List.mem_cons_of_mem _ hw), hB.1, B.returns, B.notSynchronized, hB.2.1⟩ (name_of_methodNamed B.named B.method).1 ⟨hB.2.2.1, hB.2.2.2.1, hB.2.2.2.2, va_S.rf⟩ (lv_entry As hn)
theorem blind {As : List Value} {G : Gd} {A : Nat → Prop} {ad : Nat → Nat} {M : Mem} : FrameBlind (va_Pc As (B0 G A ad M)) := fun a _ g mk h => ⟨h.1, h.2.1.calling g mk a, h.2.2⟩
def MF (y : MethodName) (b : ByteArray) (n : Nat) (rt : Option FieldType) (np : Nat) : Prop := Cond.code y b n rt ∈ TBW ∧ Cond.initialized y.cls ∈ TBW ∧ y.cls ≠ "java/lang/invoke/MethodHandle" ∧ y.cls ≠ "java/lang/invoke/VarHandle" ∧ (parseMethodDescriptor y.desc).map (fun d => d.parameters.length) = some np
def MV (y : MethodName) : Prop := Cond.instanceMethod y ∈ TBW ∧ Cond.selects y.cls y y ∈ TBW
def MS (y : MethodName) : Prop := Cond.static y ∈ TBW
def MJ (y : MethodName) : Prop := y.name = "<init>" ∧ Cond.instanceMethod y ∈ TBW
abbrev RM (R rm : Room) (n mc ms : Nat) : Prop := rm.cells = mc ∧ rm.slots = ms ∧ rm.frames + 1 ≤ R.frames ∧ 8 + (n + 11) + rm.locals ≤ R.locals
section SCall
variable {p : Program} {l : Launch} {e : Env} {R : Room} {s : State} {m : MethodId} {args : Array Value} {below : List Frame} {meth : Method} {c : Code} {H : Heap} {locs : List Loc} {cells slots : Nat} {Q : State → Prop} {G : Gd} {A : Nat → Prop} {ad : Nat → Nat} {M : Mem} {own : String} {cc : ByteArray} {nL : Nat} {rt : Option FieldType} {pc : Nat} {ls : Array Slot} {rest : List Value}
/-! the ends -/
theorem b1_of {t : State} (hw : Wd G A ad s.heap M H locs) (ht : t.heap = H) : B1 G A ad M t := by
  unfold B1
  rw [ht]
  exact ⟨hw.1, hw.2.1, hw.2.2.1⟩
theorem e_iret (C : Cx G A p s m args meth c own cc nL (some .int)) (hw : Wd G A ad s.heap M H locs) {v r : Int32} {M' : Mem} (hf : some (v, M) = some (r, M')) (hdg : decode cc pc = .ok (.ireturn, 1)) : W p l e R s m args below meth c H locs cells slots (MQ below (QI G A ad r M') args s cells slots A) (F0 m pc ls [.int v]) := by
  cases hf
  exact W.iret C.1 C.2.1 C.2.2.2.2.2.2.1 (fun t ht hW => ⟨⟨v, (), rfl, rfl, b1_of hw ht⟩, hw.2.2.2.F ht⟩) hw.2.2.2.2.2 hdg (hlocks := C.2.2.2.2.2.2.2.1)
theorem e_zret (C : Cx G A p s m args meth c own cc nL (some .boolean)) (hw : Wd G A ad s.heap M H locs) {v r : Int32} {M' : Mem} (hB : isB v = true) (hf : some (v, M) = some (r, M')) (hdg : decode cc pc = .ok (.ireturn, 1)) : W p l e R s m args below meth c H locs cells slots (MQ below (QI G A ad r M') args s cells slots A) (F0 m pc ls [.int v]) := by
  cases hf
  exact W.zret C.1 C.2.1 C.2.2.2.2.2.2.1 (isB_nar hB) (fun t ht hW => ⟨⟨v, (), rfl, rfl, b1_of hw ht⟩, hw.2.2.2.F ht⟩) hw.2.2.2.2.2 hdg (hlocks := C.2.2.2.2.2.2.2.1)
theorem e_nret {rty : FieldType} (C : Cx G A p s m args meth c own cc nL (some rty)) (hw : Wd G A ad s.heap M H locs) {v r : Int32} {M' : Mem} (hB : narrow rty (.int v) = .int v) (hf : some (v, M) = some (r, M')) (hdg : decode cc pc = .ok (.ireturn, 1)) : W p l e R s m args below meth c H locs cells slots (MQ below (QI G A ad r M') args s cells slots A) (F0 m pc ls [.int v]) := by
  cases hf
  exact W.zret C.1 C.2.1 C.2.2.2.2.2.2.1 hB (fun t ht hW => ⟨⟨v, (), rfl, rfl, b1_of hw ht⟩, hw.2.2.2.F ht⟩) hw.2.2.2.2.2 hdg (hlocks := C.2.2.2.2.2.2.2.1)
theorem e_vret (C : Cx G A p s m args meth c own cc nL none) (hw : Wd G A ad s.heap M H locs) {M' : Mem} (hf : some ((), M) = some ((), M')) (hdg : decode cc pc = .ok (.return_, 1)) : W p l e R s m args below meth c H locs cells slots (MQ below (QV G A ad M') args s cells slots A) (F0 m pc ls []) := by
  cases hf
  exact W.vret C.1 C.2.1 C.2.2.2.2.2.2.1 (fun t ht hW => ⟨⟨(), rfl, trivial, b1_of hw ht⟩, hw.2.2.2.F ht⟩) hw.2.2.2.2.2 hdg (hlocks := C.2.2.2.2.2.2.2.1)
theorem rf_or (x : Option Nat) : va_rf x = .null ∨ ∃ a, va_rf x = .ref a := by
  cases x
  · exact Or.inl rfl
  · exact Or.inr ⟨_, rfl⟩
theorem e_aret {Cn : String} (C : Cx G A p s m args meth c own cc nL (some (.object Cn))) (hw : Wd G A ad s.heap M H locs) {v r : Option Nat} {M' : Mem} (hf : some (v, M) = some (r, M')) (hdg : decode cc pc = .ok (.areturn, 1)) : W p l e R s m args below meth c H locs cells slots (MQ below (QQ G A ad r M') args s cells slots A) (F0 m pc ls [va_rf (v.map ad)]) := by
  cases hf
  exact W.aret C.1 C.2.1 C.2.2.2.2.2.2.1 (Or.inl ⟨_, rfl⟩) (rf_or _) (fun t ht hW => ⟨⟨v.map ad, (), rfl, rfl, b1_of hw ht⟩, hw.2.2.2.F ht⟩) hw.2.2.2.2.2 hdg (hlocks := C.2.2.2.2.2.2.2.1)
theorem e_tret {Cn : String} (C : Cx G A p s m args meth c own cc nL (some (.object Cn))) (hw : Wd G A ad s.heap M H locs) {v r : Nat} {M' : Mem} (hf : some (v, M) = some (r, M')) (hdg : decode cc pc = .ok (.areturn, 1)) : W p l e R s m args below meth c H locs cells slots (MQ below (QT G A ad r M') args s cells slots A) (F0 m pc ls [.ref (G.2.2.2.2.1 v)]) := by
  cases hf
  exact W.aret C.1 C.2.1 C.2.2.2.2.2.2.1 (Or.inl ⟨_, rfl⟩) (Or.inr ⟨_, rfl⟩) (fun t ht hW => ⟨⟨some (G.2.2.2.2.1 v), (), rfl, rfl, b1_of hw ht⟩, hw.2.2.2.F ht⟩) hw.2.2.2.2.2 hdg (hlocks := C.2.2.2.2.2.2.2.1)
/-! the calls -/
theorem Cx.fix (C : Cx G A p s m args meth c own cc nL rt) : CallFix p m c cc nL s args TBW own := ⟨C.1, C.2.1, C.2.2.1, C.2.2.2.1, C.2.2.2.2.1⟩
theorem Cx.pre (C : Cx G A p s m args meth c own cc nL rt) (hw : Wd G A ad s.heap M H locs) (As : List Value) : ∀ U : State, U.heap = H → s.WarmedH U.vm → va_Pc As (B0 G A ad M) As.toArray U := fun U hU hW =>
  ⟨rfl, C.2.2.2.2.2.1.to hW (fun a h1 h2 => by rw [hU]; exact hw.2.2.2.2.1 a h1 h2), fun q hq => C.2.2.2.2.2.2.2.2 q (Nat.le_trans hw.2.2.2.1 (by rw [hU] at hq; exact hq)), by rw [hU]; exact hw.1, hw.2.1, hw.2.2.1⟩
theorem run_V {y : MethodName} {b : ByteArray} {n np mc ms : Nat} {ret : Option FieldType} {rm : Room} {As st0 : List Value} {Qc : Array Value → State → Outcome → State → Prop} {k ci N index : Nat} {T : u_T} {ty : Nat → FieldType} (C : Cx G A p s m args meth c own cc nL rt) (hw : Wd G A ad s.heap M H locs) (mf : MF y b n ret np) (mv : MV y) (hlk : MLk own index y) (cf : CF ci y.cls T N ty) (hT : mT M k = ci + 1) (ct : Ct l y b n ret rm (.ref (ad k) :: As) G A ad M Qc mc ms) (hsz : ls.size = nL) (hn : As.length = np) (hst : st0 = As.reverse ++ .ref (ad k) :: rest) (hW : (rest.map fun v => v.category).sum ≤ 8) (hrm : RM R rm n mc ms) (hcs : cells + mc ≤ R.cells ∧ slots + ms ≤ R.slots) (hdg : decode cc pc = .ok (.invokevirtual index, 3)) : va_Run p l e R s m args below meth c H locs cells slots mc ms (F0 m pc ls st0) rest (Qc (Value.ref (ad k) :: As).toArray) A := by
  have hts := C.2.2.2.2.1
  have he : (sWr G.2.2.1 ad M)[k]? = some (ad k, .inr (ci, sFld ad M ci k)) := by rw [wr_at (hw.2.2.1.1 k (by omega)), cell_o hT cf.2.2.1]
  have hp : PreV s H y.cls (ad k) (va_Pc (.ref (ad k) :: As) (B0 G A ad M)) As := ⟨blind, va_recv C.2.2.2.2.2.1.1 hw.1 cf.1 he, C.pre hw _⟩
  rcases hlk with hlk | ⟨host, hlk⟩
  · exact va_runV C.fix ct ⟨callB_of np hts (tbw_in0 mf.1) rfl hrm.1 hrm.2.1 (hts _ mf.2.1) (hts _ hlk) mf.2.2 ⟨hrm.2.2.1, hrm.2.2.2⟩, hts _ mv.1, hts _ mv.2⟩ hp rfl hn hsz hst (lv_room hW) hdg hcs
  · exact va_runVN C.fix ct ⟨va_cnB np hts (tbw_in0 mf.1) rfl hrm.1 hrm.2.1 (C.2.2.2.2.2.1.2.1 _ hlk) (hts _ mf.2.1) mf.2.2 ⟨hrm.2.2.1, hrm.2.2.2⟩, hts _ mv.1, hts _ mv.2⟩ hp rfl hn hsz hst (lv_room hW) hdg hcs
theorem run_S {y : MethodName} {b : ByteArray} {n np mc ms : Nat} {ret : Option FieldType} {rm : Room} {As st0 : List Value} {Qc : Array Value → State → Outcome → State → Prop} {index : Nat} (C : Cx G A p s m args meth c own cc nL rt) (hw : Wd G A ad s.heap M H locs) (mf : MF y b n ret np) (mv : MS y) (hlk : MLk own index y) (ct : Ct l y b n ret rm As G A ad M Qc mc ms) (hsz : ls.size = nL) (hn : As.length = np) (hst : st0 = As.reverse ++ rest) (hW : (rest.map fun v => v.category).sum ≤ 8) (hrm : RM R rm n mc ms) (hcs : cells + mc ≤ R.cells ∧ slots + ms ≤ R.slots) (hdg : decode cc pc = .ok (.invokestatic index, 3)) : va_Run p l e R s m args below meth c H locs cells slots mc ms (F0 m pc ls st0) rest (Qc As.toArray) A := by
  have hts := C.2.2.2.2.1
  have hp : PreS s H (va_Pc As (B0 G A ad M)) As := ⟨blind, C.pre hw _⟩
  rcases hlk with hlk | ⟨host, hlk⟩
  · exact va_runS C.fix ct ⟨callB_of np hts (tbw_in0 mf.1) rfl hrm.1 hrm.2.1 (hts _ mf.2.1) (hts _ hlk) mf.2.2 ⟨hrm.2.2.1, hrm.2.2.2⟩, hts _ mv⟩ hp rfl hn hsz hst (lv_room hW) hdg hcs
  · exact va_runSN C.fix ct ⟨va_cnB np hts (tbw_in0 mf.1) rfl hrm.1 hrm.2.1 (C.2.2.2.2.2.1.2.1 _ hlk) (hts _ mf.2.1) mf.2.2 ⟨hrm.2.2.1, hrm.2.2.2⟩, hts _ mv, trivial⟩ hp rfl hn hsz hst (lv_room hW) hdg hcs
theorem run_I {y : MethodName} {b : ByteArray} {n np mc ms : Nat} {rm : Room} {As st0 : List Value} {Qc : Array Value → State → Outcome → State → Prop} {k index : Nat} (C : Cx G A p s m args meth c own cc nL rt) (hw : Wd G A ad s.heap M H locs) (mf : MF y b n none np) (mv : MJ y) (hlk : MLk own index y) (ct : Ct l y b n none rm (.ref (ad k) :: As) G A ad M Qc mc ms) (hsz : ls.size = nL) (hn : As.length = np) (hst : st0 = As.reverse ++ .ref (ad k) :: rest) (hW : (rest.map fun v => v.category).sum ≤ 8) (hrm : RM R rm n mc ms) (hcs : cells + mc ≤ R.cells ∧ slots + ms ≤ R.slots) (hdg : decode cc pc = .ok (.invokespecial index, 3)) : va_Run p l e R s m args below meth c H locs cells slots mc ms (F0 m pc ls st0) rest (Qc (Value.ref (ad k) :: As).toArray) A := by
  have hts := C.2.2.2.2.1
  have hp : PreS s H (va_Pc (.ref (ad k) :: As) (B0 G A ad M)) (.ref (ad k) :: As) := ⟨blind, C.pre hw _⟩
  rcases hlk with hlk | ⟨host, hlk⟩
  · exact va_runI C.fix ct ⟨callB_of np hts (tbw_in0 mf.1) rfl hrm.1 hrm.2.1 (hts _ mf.2.1) (hts _ hlk) mf.2.2 ⟨hrm.2.2.1, hrm.2.2.2⟩, mv.1, hts _ mv.2⟩ hp rfl hn hsz hst (lv_room hW) hdg hcs
  · exact va_runIN C.fix ct ⟨va_cnB np hts (tbw_in0 mf.1) rfl hrm.1 hrm.2.1 (C.2.2.2.2.2.1.2.1 _ hlk) (hts _ mf.2.1) mf.2.2 ⟨hrm.2.2.1, hrm.2.2.2⟩, mv.1, hts _ mv.2⟩ hp rfl hn hsz hst (lv_room hW) hdg hcs
theorem fin_I {r : Int32} {M1 : Mem} {a : Array Value} {st0 : List Value} (hr : va_Run p l e R s m args below meth c H locs cells slots 0 0 (F0 m pc ls st0) rest (QI G A ad r M1 a) A) (hw : Wd G A ad s.heap M H locs) (kk : ∀ (H1 : Heap) (locs1 : List Loc), Wd G A ad s.heap M1 H1 locs1 → W p l e R s m args below meth c H1 locs1 cells slots Q (F0 m (pc + 3) ls (.int r :: rest))) : W p l e R s m args below meth c H locs cells slots Q (F0 m pc ls st0) :=
  va_calli hr hw.2.2.2 (fun _ _ h => h) (fun _ h => h) (fun r' u t H1 locs1 ht hvm hp hB hz hk hS => by
    subst hp; subst ht
    exact kk _ _ ⟨hB.1, hB.2.1, hB.2.2, hS⟩)
theorem fin_V {M1 : Mem} {a : Array Value} {st0 : List Value} (hr : va_Run p l e R s m args below meth c H locs cells slots 0 0 (F0 m pc ls st0) rest (QV G A ad M1 a) A) (hw : Wd G A ad s.heap M H locs) (kk : ∀ (H1 : Heap) (locs1 : List Loc), Wd G A ad s.heap M1 H1 locs1 → W p l e R s m args below meth c H1 locs1 cells slots Q (F0 m (pc + 3) ls rest)) : W p l e R s m args below meth c H locs cells slots Q (F0 m pc ls st0) :=
  va_callv hr hw.2.2.2 (fun _ _ h => h) (fun _ h => h) (fun u t H1 locs1 ht hvm hp hB hz hk hS => by
    subst ht
    exact kk _ _ ⟨hB.1, hB.2.1, hB.2.2, hS⟩)
theorem fin_Q {r : Option Nat} {M1 : Mem} {a : Array Value} {st0 : List Value} (hr : va_Run p l e R s m args below meth c H locs cells slots 0 0 (F0 m pc ls st0) rest (QQ G A ad r M1 a) A) (hw : Wd G A ad s.heap M H locs) (kk : ∀ (H1 : Heap) (locs1 : List Loc), Wd G A ad s.heap M1 H1 locs1 → W p l e R s m args below meth c H1 locs1 cells slots Q (F0 m (pc + 3) ls (va_rf (r.map ad) :: rest))) : W p l e R s m args below meth c H locs cells slots Q (F0 m pc ls st0) :=
  va_callq hr hw.2.2.2 (fun _ _ h => h) (fun _ h => h) (fun r' u t H1 locs1 ht hvm hp hB hz hk hS => by
    subst hp; subst ht
    exact kk _ _ ⟨hB.1, hB.2.1, hB.2.2, hS⟩)
theorem fin_T {r : Nat} {M1 : Mem} {a : Array Value} {st0 : List Value} (hr : va_Run p l e R s m args below meth c H locs cells slots 0 0 (F0 m pc ls st0) rest (QT G A ad r M1 a) A) (hw : Wd G A ad s.heap M H locs) (kk : ∀ (H1 : Heap) (locs1 : List Loc), Wd G A ad s.heap M1 H1 locs1 → W p l e R s m args below meth c H1 locs1 cells slots Q (F0 m (pc + 3) ls (.ref (G.2.2.2.2.1 r) :: rest))) : W p l e R s m args below meth c H locs cells slots Q (F0 m pc ls st0) :=
  va_callq hr hw.2.2.2 (fun _ _ h => h) (fun _ h => h) (fun r' u t H1 locs1 ht hvm hp hB hz hk hS => by
    subst hp; subst ht
    exact kk _ _ ⟨hB.1, hB.2.1, hB.2.2, hS⟩)
end SCall
