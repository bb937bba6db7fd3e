/-! THE LAW: two memories, and calls on each -/
theorem Kn.narrow {G : Gd} {A B : Nat → Prop} {U : State} (h : Kn G A U) (hAB : ∀ q, B q → A q) : Kn G B U :=
  ⟨h.1, h.2.1, h.2.2.1, h.2.2.2.1.narrow hAB, h.2.2.2.2.1.narrow hAB, h.2.2.2.2.2.1.narrow hAB, h.2.2.2.2.2.2.1.narrow hAB, h.2.2.2.2.2.2.2.narrow hAB⟩
def LW (G : Gd) (A : Nat → Prop) (ax ay : Nat → Nat) (H0 : Heap) (M N : Mem) (H : Heap) (locs : List Loc) : Prop := Wd G A ax H0 M H locs ∧ Wd G A ay H0 N H locs ∧ ∀ i j, i < mN M → j < mN N → ax i ≠ ay j
theorem LW.swap {G : Gd} {A : Nat → Prop} {ax ay : Nat → Nat} {H0 : Heap} {M N : Mem} {H : Heap} {locs : List Loc} (h : LW G A ax ay H0 M N H locs) : LW G A ay ax H0 N M H locs := ⟨h.2.1, h.1, fun i j hi hj e => h.2.2 j i hj hi e.symm⟩
section LCall
variable {p : Program} {l : Launch} {e : Env} {R : Room} {s : State} {m : MethodId} {args : Array Value} {below : List Frame} {meth : Method} {c : Code} {H : Heap} {locs : List Loc} {cells slots : Nat} {Q : State → Prop} {G : Gd} {A : Nat → Prop} {ax ay : Nat → Nat} {M N : Mem} {own : String} {cc : ByteArray} {nL : Nat} {rt : Option FieldType} {pc : Nat} {ls : Array Slot} {rest : List Value}
/-- only a memory's own cells are the callee's -/
theorem own_in (hw : Wd G A ax s.heap M H locs) (hA : ∀ q, s.heap.size ≤ q → A q) : ∀ q, va_A (sWr G.2.2.1 ax M) H.size q → A q := fun q h => by
  rcases h with ⟨k, x, h⟩ | h
  · exact hw.2.1.2 k (q, x) h
  · exact hA q (Nat.le_trans hw.2.2.2.1 h)
theorem own_pre (C : Cx G A p s m args meth c own cc nL rt) (hw : Wd G A ax s.heap M H locs) (As : List Value) : ∀ U : State, U.heap = H → s.WarmedH U.vm → va_Pc As (B0 G (va_A (sWr G.2.2.1 ax M) H.size) ax M) As.toArray U := fun U hU hW =>
  ⟨rfl, (C.2.2.2.2.2.1.to hW (fun a h1 h2 => by rw [hU]; exact hw.2.2.2.2.1 a h1 h2)).narrow (own_in hw C.2.2.2.2.2.2.2.2), fun q hq => Or.inr (by rw [hU] at hq; exact hq), by rw [hU]; exact hw.1, hw.2.1.self, hw.2.2.1⟩
theorem run_V1 {y : MethodName} {b : ByteArray} {n np mc ms : Nat} {ret : Option FieldType} {rm : Room} {As st0 : List Value} {Qc : Array Value → State → Outcome → State → Prop} {k ci N index : Nat} {T : u_T} {ty : Nat → FieldType} (C : Cx G A p s m args meth c own cc nL rt) (hw : Wd G A ax s.heap M H locs) (mf : MF y b n ret np) (mv : MV y) (hlk : MLk own index y) (cf : CF ci y.cls T N ty) (hT : mT M k = ci + 1) (ct : Ct l y b n ret rm (.ref (ax k) :: As) G (va_A (sWr G.2.2.1 ax M) H.size) ax M Qc mc ms) (hsz : ls.size = nL) (hn : As.length = np) (hst : st0 = As.reverse ++ .ref (ax k) :: rest) (hW : (rest.map fun v => v.category).sum ≤ 8) (hrm : RM R rm n mc ms) (hcs : cells + mc ≤ R.cells ∧ slots + ms ≤ R.slots) (hdg : decode cc pc = .ok (.invokevirtual index, 3)) : va_Run p l e R s m args below meth c H locs cells slots mc ms (F0 m pc ls st0) rest (Qc (Value.ref (ax k) :: As).toArray) (va_A (sWr G.2.2.1 ax M) H.size) := by
  have hts := C.2.2.2.2.1
  have he : (sWr G.2.2.1 ax M)[k]? = some (ax k, .inr (ci, sFld ax M ci k)) := by rw [wr_at (hw.2.2.1.1 k (by omega)), cell_o hT cf.2.2.1]
  have hp : PreV s H y.cls (ax k) (va_Pc (.ref (ax k) :: As) (B0 G (va_A (sWr G.2.2.1 ax M) H.size) ax M)) As := ⟨blind, va_recv C.2.2.2.2.2.1.1 hw.1 cf.1 he, own_pre C hw _⟩
  rcases hlk with hlk | ⟨host, hlk⟩
  · exact va_runV C.fix ct ⟨callB_of np hts (tbw_in0 mf.1) rfl hrm.1 hrm.2.1 (hts _ mf.2.1) (hts _ hlk) mf.2.2 ⟨hrm.2.2.1, hrm.2.2.2⟩, hts _ mv.1, hts _ mv.2⟩ hp rfl hn hsz hst (lv_room hW) hdg hcs
  · exact va_runVN C.fix ct ⟨va_cnB np hts (tbw_in0 mf.1) rfl hrm.1 hrm.2.1 (C.2.2.2.2.2.1.2.1 _ hlk) (hts _ mf.2.1) mf.2.2 ⟨hrm.2.2.1, hrm.2.2.2⟩, hts _ mv.1, hts _ mv.2⟩ hp rfl hn hsz hst (lv_room hW) hdg hcs
/-- behind a call: the callee's world is new, the other stays -/
theorem LW.step (hA : ∀ q, s.heap.size ≤ q → A q) (hw : LW G A ax ay s.heap M N H locs) {ax1 : Nat → Nat} {M1 : Mem} {H1 : Heap} {locs1 : List Loc} {t : State} (ht : t.heap = H1) (hB : B1 G (va_A (sWr G.2.2.1 ax M) H.size) ax1 M1 t) (hk : ∀ q : Nat, q < H.size → ¬ va_A (sWr G.2.2.1 ax M) H.size q → H1[q]? = H[q]?) (hS : va_S A s.heap H1 locs1) : LW G A ax1 ay s.heap M1 N H1 locs1 := by
  subst ht
  obtain ⟨⟨hP, hD, hf, hS0⟩, ⟨hPy, hDy, hfy, _⟩, hap⟩ := hw
  obtain ⟨b1, b2, b3⟩ := hB
  have hF : ∀ q, va_A (sWr G.2.2.1 ax M) H.size q → A q := own_in ⟨hP, hD, hf, hS0⟩ hA
  have out : ∀ (k : Nat) (q : Nat × va_E), (sWr G.2.2.1 ay N)[k]? = some q → q.1 < H.size ∧ ¬ va_A (sWr G.2.2.1 ax M) H.size q.1 := by
    intro k q hq
    have hl := (hPy k q hq).lt
    have hkN : k < mN N := by
      have := (List.getElem?_eq_some_iff.mp hq).1
      rwa [wr_len] at this
    rw [wr_at hkN] at hq
    cases hq
    refine ⟨hl, fun h => ?_⟩
    rcases h with ⟨i, x, h⟩ | h
    · have hi : i < mN M := by
        have := (List.getElem?_eq_some_iff.mp h).1
        rwa [wr_len] at this
      rw [wr_at hi] at h
      have h := congrArg Prod.fst (Option.some.inj h)
      exact hap i k hi hkN h
    · exact absurd h (Nat.not_le.mpr hl)
  refine ⟨⟨b1, b2.weaken (fun k q _ h => hF q.1 h), b3, hS⟩, ⟨fun k q hq => (hPy k q hq).kept (hk q.1 (out k q hq).1 (out k q hq).2), hDy, hfy, hS⟩, fun i j hi hj e => ?_⟩
  have h1 := b2.2 i _ (wr_at hi)
  have h2 := (out j _ (wr_at hj)).2
  dsimp only at h1 h2
  rw [e] at h1
  exact h2 h1
theorem law_call {y : MethodName} {b : ByteArray} {n np : Nat} {rm : Room} {As st0 : List Value} {ci Nf index : Nat} {T : u_T} {ty : Nat → FieldType} {r : Int32} {M1 : Mem} (C : Cx G A p s m args meth c own cc nL rt) (hw : LW G A ax ay s.heap M N H locs) (mf : MF y b n (some .int) np) (mv : MV y) (hlk : MLk own index y) (cf : CF ci y.cls T Nf ty) (hT : mT M 0 = ci + 1) (ct : ∀ A : Nat → Prop, Ct l y b n (some .int) rm (.ref (ax 0) :: As) G A ax M (QI G A ax r M1) 0 0) (hsz : ls.size = nL) (hn : As.length = np) (hst : st0 = As.reverse ++ .ref (ax 0) :: rest) (hW : (rest.map fun v => v.category).sum ≤ 8) (hrm : RM R rm n 0 0) (hcs : cells ≤ R.cells ∧ slots ≤ R.slots) (hdg : decode cc pc = .ok (.invokevirtual index, 3)) (kk : ∀ (H1 : Heap) (locs1 : List Loc), LW G A ax ay s.heap M1 N H1 locs1 → W p l e R s m args below meth c H1 locs1 cells slots Q (F0 m (pc + 3) ls (.int r :: rest))) : W p l e R s m args below meth c H locs cells slots Q (F0 m pc ls st0) :=
  va_calli (run_V1 C hw.1 mf mv hlk cf hT (ct _) hsz hn hst hW hrm hcs hdg) hw.1.2.2.2 (fun q _ h => own_in hw.1 C.2.2.2.2.2.2.2.2 q h) (fun q h => own_in hw.1 C.2.2.2.2.2.2.2.2 q h) (fun r' u t H1 locs1 ht hvm hp hB hz hk hS => by
    subst hp
    exact kk _ _ (hw.step C.2.2.2.2.2.2.2.2 ht hB hk hS))
theorem law_callA {y : MethodName} {b : ByteArray} {n np mc ms : Nat} {rm : Room} {As st0 : List Value} {ci Nf index : Nat} {T : u_T} {ty : Nat → FieldType} {r : Int32} {M1 : Mem} (C : Cx G A p s m args meth c own cc nL rt) (hw : LW G A ax ay s.heap M N H locs) (mf : MF y b n (some .int) np) (mv : MV y) (hlk : MLk own index y) (cf : CF ci y.cls T Nf ty) (hT : mT M 0 = ci + 1) (ct : ∀ A : Nat → Prop, Ct l y b n (some .int) rm (.ref (ax 0) :: As) G A ax M (QIa G A ax M r M1) mc ms) (hsz : ls.size = nL) (hn : As.length = np) (hst : st0 = As.reverse ++ .ref (ax 0) :: rest) (hW : (rest.map fun v => v.category).sum ≤ 8) (hrm : RM R rm n mc ms) (hcs : cells + mc ≤ R.cells ∧ slots + ms ≤ R.slots) (hdg : decode cc pc = .ok (.invokevirtual index, 3)) (kk : ∀ (ax1 : Nat → Nat) (H1 : Heap) (locs1 : List Loc), ax1 0 = ax 0 → LW G A ax1 ay s.heap M1 N H1 locs1 → W p l e R s m args below meth c H1 locs1 (cells + mc) (slots + ms) Q (F0 m (pc + 3) ls (.int r :: rest))) : W p l e R s m args below meth c H locs cells slots Q (F0 m pc ls st0) :=
  va_calli (run_V1 C hw.1 mf mv hlk cf hT (ct _) hsz hn hst hW hrm hcs hdg) hw.1.2.2.2 (fun q _ h => own_in hw.1 C.2.2.2.2.2.2.2.2 q h) (fun q h => own_in hw.1 C.2.2.2.2.2.2.2.2 q h) (fun r' u t H1 locs1 ht hvm hp hB hz hk hS => by
    obtain ⟨rfl, hag⟩ := hp
    exact kk u _ _ (hag 0 (hw.1.2.2.1.1 0 (by rw [hT]; omega))) (hw.step C.2.2.2.2.2.2.2.2 ht hB hk hS))
/-- a number of the script -/
theorem law_arg {b L j k : Nat} {xs : Nat → Int32} {x1 x2 : Value} (C : Cx G A p s m args meth c own cc 4 rt) (hw : LW G A ax ay s.heap M N H locs) (hX : va_X b L xs s s.heap) (hbl : b < s.heap.size) (hbA : ¬ A b) (hl : lv_has ls 4 [(3, .int (nI j)), (0, .ref b), (1, x1), (2, x2)]) {n : Int} (hn : Int32.ofInt n = nI k) (hj : j + k < L) (hL : L ≤ 384) (d0 : decode cc pc = .ok (.aload_n 0, 1)) (d1 : decode cc (pc + 1) = .ok (.iload_n 3, 1)) (d2 : decode cc (pc + 2) = .ok (.iconst n, 1)) (d3 : decode cc (pc + 3) = .ok (.iadd, 1)) (d4 : decode cc (pc + 4) = .ok (.iaload, 1)) (kk : W p l e R s m args below meth c H locs cells slots Q (F0 m (pc + 5) ls (.int (xs (j + k)) :: rest))) : W p l e R s m args below meth c H locs cells slots Q (F0 m pc ls rest) := by
  refine lv_aload_n C.1 C.2.1 d0 rfl (lv_at hl 1 rfl) ?_
  refine lv_iload_n C.1 C.2.1 d1 rfl (lv_at hl 0 rfl) ?_
  refine lv_iconst C.1 C.2.1 d2 hn ?_
  refine lv_iadd C.1 C.2.1 d3 ?_
  rw [nI_add]
  refine va_sld C.1 C.2.1 hX hbl hbA hw.1.2.2.2 (nI_in hj (by omega)) d4 ?_
  rw [nI_clamp (by omega)]
  exact kk
end LCall
theorem law_le {L j : Nat} (hL : L ≤ 384) (hj : j ≤ 1000) (h : ¬ nI L - 6 < nI j) : j + 6 ≤ L := by
  rcases Nat.lt_or_ge L (j + 6) with q | q
  · exfalso
    by_cases e : 6 ≤ L
    · rw [show (6 : Int32) = nI 6 from rfl, pk_sub e] at h
      exact h (nI_lt (by omega) (by omega))
    · have := (by decide +kernel : ∀ L, L < 6 → nI L - 6 < 0) L (by omega)
      exact h (Int32.lt_of_lt_of_le this (nI_pos' (by omega)))
  · exact q
