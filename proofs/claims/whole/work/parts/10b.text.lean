/-! TEXTS: String's own methods over the six literals -/
def isC (v : Int32) : Bool := c16 v == v
theorem isC_nar {v : Int32} (h : isC v = true) : narrow .char (.int v) = .int v := by
  unfold isC at h
  rw [beq_iff_eq] at h
  have := pk_nc v
  unfold c16 at h
  rw [h] at this
  exact this
def s8 (x : Int32) : Int32 := x.toInt8.toInt32
section SText
variable {p : Program} {l : Launch} {e : Env} {R : Room} {s : State} {m : MethodId} {args : Array Value} {below : List Frame} {meth : Method} {c : Code} {H : Heap} {locs : List Loc} {cells slots : Nat} {Q : State → Prop} {G : Gd} {A : Nat → Prop} {ad : Nat → Nat} {M : Mem} {own : String} {cc : ByteArray} {nL : Nat} {rt : Option FieldType} {pc : Nat} {ls : Array Slot} {rest : List Value}
theorem Cx.ev (C : Cx G A p s m args meth c own cc nL rt) : Ev G A s s.heap := C.2.2.2.2.2.1.2.2.2
theorem Cx.et (C : Cx G A p s m args meth c own cc nL rt) : Et G s := C.2.2.2.2.2.1.2.2.1
theorem Et_s0 (C : Cx G A p s m args meth c own cc nL rt) : vk_R RX1 127 "like" (G.2.2.2.2.1 0) s := C.et.2.2.2.2.2.1
theorem Et_s1 (C : Cx G A p s m args meth c own cc nL rt) : vk_R RX1 133 "seat" (G.2.2.2.2.1 1) s := C.et.2.2.2.2.2.2.1
theorem Et_s2 (C : Cx G A p s m args meth c own cc nL rt) : vk_R RX1 135 "fine" (G.2.2.2.2.1 2) s := C.et.2.2.2.2.2.2.2.1
theorem Et_s3 (C : Cx G A p s m args meth c own cc nL rt) : vk_R RX1 137 "wfh" (G.2.2.2.2.1 3) s := C.et.2.2.2.2.2.2.2.2.1
theorem Et_s4 (C : Cx G A p s m args meth c own cc nL rt) : vk_R RX1 139 "nw" (G.2.2.2.2.1 4) s := C.et.2.2.2.2.2.2.2.2.2.1
theorem Et_s5 (C : Cx G A p s m args meth c own cc nL rt) : vk_R RX1 141 "ys" (G.2.2.2.2.1 5) s := C.et.2.2.2.2.2.2.2.2.2.2
theorem r_sval (C : Cx G A p s m args meth c own cc nL rt) (hw : Wd G A ad s.heap M H locs) {i : Nat} (hi : i < 6) {index : Nat} (fk : Cond.fieldLink own index "java/lang/String" "value" "[B" ∈ TBW) (hdg : decode cc pc = .ok (.getfield index, 3)) (kk : W p l e R s m args below meth c H locs cells slots Q (F0 m (pc + 3) ls (.ref (G.2.2.2.2.2.1 i) :: rest))) : W p l e R s m args below meth c H locs cells slots Q (F0 m pc ls (.ref (G.2.2.2.2.1 i) :: rest)) :=
  vk_getf C.1 C.2.1 (C.ev.2.2.1.1 i hi).2.2.1 hw.2.2.2 C.2.2.2.1 (C.2.2.2.2.1 _ fk) (fun _ h => h) hdg kk
theorem r_scod (C : Cx G A p s m args meth c own cc nL rt) (hw : Wd G A ad s.heap M H locs) {i : Nat} (hi : i < 6) {index : Nat} (fk : Cond.fieldLink own index "java/lang/String" "coder" "B" ∈ TBW) (hdg : decode cc pc = .ok (.getfield index, 3)) (kk : W p l e R s m args below meth c H locs cells slots Q (F0 m (pc + 3) ls (.int 0 :: rest))) : W p l e R s m args below meth c H locs cells slots Q (F0 m pc ls (.ref (G.2.2.2.2.1 i) :: rest)) :=
  vk_getf C.1 C.2.1 (C.ev.2.2.1.1 i hi).2.1 hw.2.2.2 C.2.2.2.1 (C.2.2.2.2.1 _ fk) (fun _ h => h) hdg kk
theorem r_slen (C : Cx G A p s m args meth c own cc nL rt) (hw : Wd G A ad s.heap M H locs) {i : Nat} (hi : i < 6) (hdg : decode cc pc = .ok (.arraylength, 1)) (kk : W p l e R s m args below meth c H locs cells slots Q (F0 m (pc + 1) ls (.int (nI (sLen.getD i 0)) :: rest))) : W p l e R s m args below meth c H locs cells slots Q (F0 m pc ls (.ref (G.2.2.2.2.2.1 i) :: rest)) :=
  va_tlen C.1 C.2.1 (C.ev.2.2.1.1 i hi).2.2.2 hw.2.2.2 rfl hdg kk
theorem r_sbald (C : Cx G A p s m args meth c own cc nL rt) (hw : Wd G A ad s.heap M H locs) {i : Nat} (hi : i < 6) {x : Int32} (hx : ib x (sLen.getD i 0) = true) (hdg : decode cc pc = .ok (.baload, 1)) (kk : W p l e R s m args below meth c H locs cells slots Q (F0 m (pc + 1) ls (.int ((sByt.getD i []).getD x.toNatClampNeg 0) :: rest))) : W p l e R s m args below meth c H locs cells slots Q (F0 m pc ls (.int x :: .ref (G.2.2.2.2.2.1 i) :: rest)) :=
  va_tb C.1 C.2.1 (C.ev.2.2.1.1 i hi).2.2.2 hw.2.2.2 (ib_in hx) rfl hdg kk
theorem r_cs (C : Cx G A p s m args meth c own cc nL rt) (hw : Wd G A ad s.heap M H locs) {index : Nat} (fk : Cond.fieldLink own index "java/lang/String" "COMPACT_STRINGS" "Z" ∈ TBW) (hdg : decode cc pc = .ok (.getstatic index, 3)) (kk : W p l e R s m args below meth c H locs cells slots Q (F0 m (pc + 3) ls (.int 1 :: rest))) : W p l e R s m args below meth c H locs cells slots Q (F0 m pc ls rest) :=
  va_gets C.1 C.2.1 C.ev.2.2.2.1 hw.2.2.2 C.2.2.2.1 (C.2.2.2.2.1 _ fk) (fun _ h => h) hdg kk
theorem r_fm (C : Cx G A p s m args meth c own cc nL rt) (hw : Wd G A ad s.heap M H locs) {index : Nat} (fk : Cond.fieldLink own index "jdk/internal/util/Preconditions" "SIOOBE_FORMATTER" "Ljava/util/function/BiFunction;" ∈ TBW) (hdg : decode cc pc = .ok (.getstatic index, 3)) (kk : W p l e R s m args below meth c H locs cells slots Q (F0 m (pc + 3) ls (va_rf G.2.2.2.2.2.2 :: rest))) : W p l e R s m args below meth c H locs cells slots Q (F0 m pc ls rest) :=
  va_gets C.1 C.2.1 C.ev.2.2.2.2 hw.2.2.2 C.2.2.2.1 (C.2.2.2.2.1 _ fk) (fun _ h => h) hdg kk
theorem run_T {y : MethodName} {b : ByteArray} {n np mc ms : Nat} {ret : Option FieldType} {rm : Room} {As st0 : List Value} {Qc : Array Value → State → Outcome → State → Prop} {k index : Nat} (C : Cx G A p s m args meth c own cc nL rt) (hw : Wd G A ad s.heap M H locs) (mf : MF y b n ret np) (mv : MV y) (hlk : Cond.methodLink own index y ∈ TBW) (hcl : y.cls = "java/lang/String") (hk : k < 6) (ct : Ct l y b n ret rm (.ref (G.2.2.2.2.1 k) :: As) G A ad M Qc mc ms) (hsz : ls.size = nL) (hn : As.length = np) (hst : st0 = As.reverse ++ .ref (G.2.2.2.2.1 k) :: rest) (hW : (rest.map fun v => v.category).sum ≤ 8) (hrm : RM R rm n mc ms) (hcs : cells + mc ≤ R.cells ∧ slots + ms ≤ R.slots) (hdg : decode cc pc = .ok (.invokevirtual index, 3)) : va_Run p l e R s m args below meth c H locs cells slots mc ms (F0 m pc ls st0) rest (Qc (Value.ref (G.2.2.2.2.1 k) :: As).toArray) A := by
  have hts := C.2.2.2.2.1
  have hr := vk_recv C.ev.2.2.1 hk hw.2.2.2
  rw [← hcl] at hr
  have hp : PreV s H y.cls (G.2.2.2.2.1 k) (va_Pc (.ref (G.2.2.2.2.1 k) :: As) (B0 G A ad M)) As := ⟨blind, hr, C.pre hw _⟩
  exact va_runV C.fix ct ⟨callB_of np hts (tbw_in0 mf.1) rfl hrm.1 hrm.2.1 (hts _ mf.2.1) (hts _ hlk) mf.2.2 ⟨hrm.2.2.1, hrm.2.2.2⟩, hts _ mv.1, hts _ mv.2⟩ hp rfl hn hsz hst (lv_room hW) hdg hcs
end SText
