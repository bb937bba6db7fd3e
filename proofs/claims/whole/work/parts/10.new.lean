/-! NEW OBJECTS AND ARRAYS -/
def nw {α : Type} (M : Mem) (t len : Nat) (f : Mem → Nat → Option α) : Option α := f (newO M t len) (mN M)
theorem nw_inv {α : Type} {M : Mem} {t len : Nat} {f : Mem → Nat → Option α} {r : α} (h : nw M t len f = some r) : ∃ (M1 : Mem) (n : Nat), M1 = newO M t len ∧ n = mN M ∧ f M1 n = some r := ⟨_, _, rfl, rfl, h⟩
theorem wf_newO {M : Mem} {t len : Nat} (h : Wf M) : Wf (newO M t len) := by
  refine ⟨fun k hk => ?_, fun k j a hk => ?_, fun k j a hk => ?_⟩
  · have hk : (if k = mN M then t else mT M k) ≠ 0 := hk
    show k < mN M + 1
    by_cases e : k = mN M
    · omega
    · rw [if_neg e] at hk
      have := h.1 k hk
      omega
  · have hk : (if k = mN M then none else mP M k j) = some a := hk
    show a < mN M + 1
    split at hk
    · exact nomatch hk
    · have := h.2.1 k j a hk; omega
  · have hk : (if k = mN M then none else mX M k j) = some a := hk
    show a < mN M + 1
    split at hk
    · exact nomatch hk
    · have := h.2.2 k j a hk; omega
theorem T_new {M M1 : Mem} {t len n : Nat} (e : M1 = newO M t len) (en : n = mN M) : mT M1 n = t := by
  subst e; subst en
  exact if_pos rfl
theorem T_old {M M1 : Mem} {t len k u : Nat} (e : M1 = newO M t len) (hk : k < mN M) (hT : mT M k = u) : mT M1 k = u := by
  subst e
  exact (if_neg (Nat.ne_of_lt hk)).trans hT
theorem map_ad {ad ad1 : Nat → Nat} {n : Nat} {o : Option Nat} (h : ∀ k, k < n → ad1 k = ad k) (ho : ∀ a, o = some a → a < n) : o.map ad1 = o.map ad := by
  cases o with
  | none => rfl
  | some a => exact congrArg some (h a (ho a rfl))
theorem wr_new {cy : Nat → ClassId} {ad ad1 : Nat → Nat} {M : Mem} {t len q : Nat} {e : va_E} (hf : Wf M) (h : ∀ k, k < mN M → ad1 k = ad k) (hq : ad1 (mN M) = q) (he : sCell cy ad1 (newO M t len) (mN M) = e) : sWr cy ad1 (newO M t len) = sWr cy ad M ++ [(q, e)] := by
  unfold sWr
  show (List.range (mN M + 1)).map _ = _
  rw [List.range_succ, List.map_append]
  refine congr (congrArg _ ?_) ?_
  · refine List.map_congr_left (fun k hk => ?_)
    have hk : k < mN M := List.mem_range.mp hk
    have hne : k ≠ mN M := Nat.ne_of_lt hk
    rw [h k hk]
    refine congrArg _ (cell_congr (if_neg hne) (if_neg hne) (fun j => if_neg hne) (fun j => ?_) (fun j => ?_))
    · show (if k = mN M then none else mP M k j).map ad1 = _
      rw [if_neg hne]
      exact map_ad h (fun a ha => hf.2.1 k j a ha)
    · show (if k = mN M then none else mX M k j).map ad1 = _
      rw [if_neg hne]
      exact map_ad h (fun a ha => hf.2.2 k j a ha)
  · show [(ad1 (mN M), sCell cy ad1 (newO M t len) (mN M))] = _
    rw [hq, he]
def adN (ad : Nat → Nat) (n q : Nat) : Nat → Nat := fun k => if k = n then q else ad k
theorem adN_old {ad : Nat → Nat} {n q : Nat} : ∀ k, k < n → adN ad n q k = ad k := fun _ h => if_neg (Nat.ne_of_lt h)
theorem adN_new {ad : Nat → Nat} {n q : Nat} : adN ad n q n = q := if_pos rfl
/-- a class' fields begin as the machine makes them -/
def DF (ci N : Nat) (ty : Nat → FieldType) : Prop := ∀ j, j < N → defaultValue (ty j) = if isI ci j = true then Value.int 0 else .null
section SNew
variable {p : Program} {l : Launch} {e : Env} {R : Room} {s : State} {m : MethodId} {args : Array Value} {below : List Frame} {meth : Method} {c : Code} {H : Heap} {locs : List Loc} {cells slots : Nat} {Q : State → Prop} {G : Gd} {A : Nat → Prop} {ad : Nat → Nat} {M : Mem} {own : String} {cc : ByteArray} {nL : Nat} {rt : Option FieldType} {pc : Nat} {ls : Array Slot} {rest : List Value}
theorem r_new (C : Cx G A p s m args meth c own cc nL rt) (hw : Wd G A ad s.heap M H locs) {ci N : Nat} {Cn : String} {T : u_T} {ty : Nat → FieldType} (cf : CF ci Cn T N ty) (df : DF ci N ty) {M1 : Mem} {n index : Nat} (e1 : M1 = newO M (ci + 1) 0) (en : n = mN M) (kl : Cond.classLink own index Cn ∈ TBW) (hi : Cond.instantiable Cn N ∈ TBW) (hini : Cond.initialized Cn ∈ TBW) (hc : cells + 1 ≤ R.cells) (hs : slots + N ≤ R.slots) (hdg : decode cc pc = .ok (.new index, 3)) (kk : ∀ (ad1 : Nat → Nat) (H1 : Heap), (∀ k, k < mN M → ad1 k = ad k) → Wd G A ad1 s.heap M1 H1 locs → W p l e R s m args below meth c H1 locs (cells + 1) (slots + N) Q (F0 m (pc + 3) ls (.ref (ad1 n) :: rest))) : W p l e R s m args below meth c H locs cells slots Q (F0 m pc ls rest) := by
  subst e1; subst en
  have hts := C.2.2.2.2.1
  obtain ⟨h1, h2, h3, h4, h5, h6⟩ := cf
  refine va_new (ci := ci) (fs := (List.range N).map (fun j => if isI ci j = true then Value.int 0 else .null)) C.1 C.2.1 hts h4 ty h5 C.2.2.2.1 (hts _ kl) (hts _ hi) (hts _ hini) C.2.2.2.2.2.1.1 hw.1 hw.2.1 hw.2.2.2 C.2.2.2.2.2.2.2.2 h1 (fun j hj => ?_) hc hs hdg (fun q H1 hP hD hS => ?_)
  · rw [df j hj]
    simp [vp_V, hj]
  · have hcell : sCell G.2.2.1 (adN ad (mN M) q) (newO M (ci + 1) 0) (mN M) = .inr (ci, (List.range N).map (fun j => if isI ci j = true then Value.int 0 else .null)) := by
      rw [cell_o (M := newO M (ci + 1) 0) (k := mN M) (c := ci) (T_new rfl rfl) h3]
      unfold sFld
      rw [h2]
      refine congrArg (fun z => Sum.inr (ci, z)) (List.map_congr_left (fun j _ => ?_))
      have e1 : mI (newO M (ci + 1) 0) (mN M) j = 0 := if_pos rfl
      have e2 : mP (newO M (ci + 1) 0) (mN M) j = none := if_pos rfl
      rw [e1, e2]; rfl
    have hwr := wr_new (q := q) hw.2.2.1 adN_old adN_new hcell
    rw [← hwr] at hP hD
    have := kk (adN ad (mN M) q) H1 adN_old ⟨hP, hD, wf_newO hw.2.2.1, hS⟩
    rw [adN_new] at this
    exact this
theorem ra_eq {U : State} {cA cB : ClassId} {ty : FieldType} (h1 : va_RA U cA ty) (h2 : va_RA U cB ty) : cA = cB := by
  cases ty with
  | object C =>
    obtain ⟨_, _, _, _, _, a⟩ := h1
    obtain ⟨_, _, _, _, _, b⟩ := h2
    exact Option.some.inj (a.symm.trans b)
  | _ => exact Option.some.inj (Eq.trans (Eq.symm h1) h2)
theorem r_newa (C : Cx G A p s m args meth c own cc nL rt) (hw : Wd G A ad s.heap M H locs) (t : Nat) {atype : ArrayType} {ty : FieldType} (hty : newarray.typeOf atype = ty) (ht : (sTy G.2.2.1)[t]? = some (G.2.2.1 t, ty)) (ht3 : t < 3) (hdv : defaultValue ty = .int 0) {M1 : Mem} {n len : Nat} (e1 : M1 = newO M (t + 20) len) (en : n = mN M) (harr : Cond.arrayClass (newarray.typeOf atype) ∈ TBW) {x : Int32} (hn : ¬ x < 0) (hN : x.toNatClampNeg = len) (hbytes : len * componentBytes ty ≤ 536870912) (hc : cells + 1 ≤ R.cells) (hs : slots + len ≤ R.slots) (hdg : decode cc pc = .ok (.newarray atype, 2)) (kk : ∀ (ad1 : Nat → Nat) (H1 : Heap), (∀ k, k < mN M → ad1 k = ad k) → Wd G A ad1 s.heap M1 H1 locs → W p l e R s m args below meth c H1 locs (cells + 1) (slots + len) Q (F0 m (pc + 2) ls (.ref (ad1 n) :: rest))) : W p l e R s m args below meth c H locs cells slots Q (F0 m pc ls (.int x :: rest)) := by
  subst e1; subst en
  have hts := C.2.2.2.2.1
  refine va_newa (a0 := (len, .inl (fun _ => 0))) C.1 C.2.1 (hts _ harr) hty C.2.2.2.2.2.1.1 hw.1 hw.2.1 hw.2.2.2 C.2.2.2.2.2.2.2.2 (fun cA => ?_) hn hN hbytes hc hs hdg (fun q cA H1 hK hP hD hS => ?_)
  · rw [hdv]; rfl
  · have hcA : cA = G.2.2.1 t := ra_eq (hK.2 8 (cA, ty) rfl).2 (C.2.2.2.2.2.1.1.2 t _ ht).2
    subst hcA
    have hcell : sCell G.2.2.1 (adN ad (mN M) q) (newO M (t + 20) len) (mN M) = .inl (G.2.2.1 t, len, .inl (fun _ => 0)) := by
      rw [cell_i (M := newO M (t + 20) len) (k := mN M) (t := t) (T_new rfl rfl) ht3]
      have e1 : (fun j => mI (newO M (t + 20) len) (mN M) j) = fun _ => 0 := by
        funext j
        exact if_pos rfl
      have e2 : mL (newO M (t + 20) len) (mN M) = len := if_pos rfl
      rw [e1, e2]
    have hwr := wr_new (q := q) hw.2.2.1 adN_old adN_new hcell
    rw [← hwr] at hP hD
    have := kk (adN ad (mN M) q) H1 adN_old ⟨hP, hD, wf_newO hw.2.2.1, hS⟩
    rw [adN_new] at this
    exact this
theorem r_newq (C : Cx G A p s m args meth c own cc nL rt) (hw : Wd G A ad s.heap M H locs) (t : Nat) {Cn : String} (ht : (sTy G.2.2.1)[t]? = some (G.2.2.1 t, .object Cn)) (ht3 : 3 ≤ t) {M1 : Mem} {n len index : Nat} (e1 : M1 = newO M (t + 20) len) (en : n = mN M) (kl : Cond.classLink own index Cn ∈ TBW) (ho : va_AO Cn s) {x : Int32} (hn : ¬ x < 0) (hN : x.toNatClampNeg = len) (hbytes : len * 4 ≤ 536870912) (hc : cells + 1 ≤ R.cells) (hs : slots + len ≤ R.slots) (hdg : decode cc pc = .ok (.anewarray index, 3)) (kk : ∀ (ad1 : Nat → Nat) (H1 : Heap), (∀ k, k < mN M → ad1 k = ad k) → Wd G A ad1 s.heap M1 H1 locs → W p l e R s m args below meth c H1 locs (cells + 1) (slots + len) Q (F0 m (pc + 3) ls (.ref (ad1 n) :: rest))) : W p l e R s m args below meth c H locs cells slots Q (F0 m pc ls (.int x :: rest)) := by
  subst e1; subst en
  have hts := C.2.2.2.2.1
  refine va_newq C.1 C.2.1 C.2.2.2.1 (hts _ kl) ho C.2.2.2.2.2.1.1 hw.1 hw.2.1 hw.2.2.2 C.2.2.2.2.2.2.2.2 hn hN hbytes hc hs hdg (fun q cA H1 hK hP hD hS => ?_)
  have hcA : cA = G.2.2.1 t := ra_eq (hK.2 8 (cA, .object Cn) rfl).2 (C.2.2.2.2.2.1.1.2 t _ ht).2
  subst hcA
  have hcell : sCell G.2.2.1 (adN ad (mN M) q) (newO M (t + 20) len) (mN M) = .inl (G.2.2.1 t, len, .inr (.inr (.inr (.inr (fun _ => none))))) := by
    have e2 : mL (newO M (t + 20) len) (mN M) = len := if_pos rfl
    by_cases h5 : t = 5
    · subst h5
      rw [cell_x (M := newO M (5 + 20) len) (k := mN M) (T_new rfl rfl), e2]
      have e1 : (fun j => (mX (newO M (5 + 20) len) (mN M) j).map (adN ad (mN M) q)) = fun _ => none := by
        funext j
        show (if mN M = mN M then none else mX M (mN M) j).map _ = _
        rw [if_pos rfl]; rfl
      rw [e1]
    · rw [cell_p (M := newO M (t + 20) len) (k := mN M) (t := t) (T_new rfl rfl) ht3 h5, e2]
      have e1 : (fun j => (mP (newO M (t + 20) len) (mN M) j).map (adN ad (mN M) q)) = fun _ => none := by
        funext j
        show (if mN M = mN M then none else mP M (mN M) j).map _ = _
        rw [if_pos rfl]; rfl
      rw [e1]
  have hwr := wr_new (q := q) hw.2.2.1 adN_old adN_new hcell
  rw [← hwr] at hP hD
  have := kk (adN ad (mN M) q) H1 adN_old ⟨hP, hD, wf_newO hw.2.2.1, hS⟩
  rw [adN_new] at this
  exact this
/-- Object's constructor -/
theorem r_obj (C : Cx G A p s m args meth c own cc nL rt) (hsz : ls.size = nL) {index a : Nat} (hlk : Cond.methodLink own index Lib.objectInit ∈ TBW) (hi : Cond.instanceMethod Lib.objectInit ∈ TBW) (hco : Cond.code Lib.objectInit ⟨#[0xb1]⟩ 1 none ∈ TBW) (hframes : 1 ≤ R.frames) (hlocals : (rest.map fun v => v.category).sum + 12 ≤ R.locals) (hdg : decode cc pc = .ok (.invokespecial index, 3)) (kk : W p l e R s m args below meth c H locs cells slots Q (F0 m (pc + 3) ls rest)) : W p l e R s m args below meth c H locs cells slots Q (F0 m pc ls (.ref a :: rest)) :=
  W.objInit C.1 C.2.1 C.2.2.2.1 (C.2.2.2.2.1 _ hlk) (C.2.2.2.2.1 _ hi) (C.2.2.2.2.1 _ hco) rfl (hsz.trans C.2.2.1.symm) rfl hdg hframes (by show 2 * 0 + _ + 12 ≤ _; omega) kk
end SNew
theorem sg_I {M M1 : Mem} {k j : Nat} {v : Int32} (e : M1 = setI M k j v) : M1.2.2 = M.2.2 := by subst e; rfl
theorem sg_X {M M1 : Mem} {k j v : Nat} (e : M1 = setX M k j v) : M1.2.2 = M.2.2 := by subst e; rfl
theorem sg_R {M M1 : Mem} {k : Nat} {f : Nat → Int32} (e : M1 = setR M k f) : M1.2.2 = M.2.2 := by subst e; rfl
theorem sg_P {M M1 : Mem} {k j v : Nat} (e : M1 = setP M k j v) : M1.2.2.2 = M.2.2.2 := by subst e; rfl
theorem T_lt {G : Gd} {A : Nat → Prop} {ad : Nat → Nat} {H0 H : Heap} {M : Mem} {locs : List Loc} (hw : Wd G A ad H0 M H locs) {k t : Nat} (hT : mT M k = t) (h : t ≠ 0) : k < mN M := hw.2.2.1.1 k (by rw [hT]; exact h)
theorem T_ne {M : Mem} {k t : Nat} (hT : mT M k = t) (h : t ≠ 0) : mT M k ≠ 0 := by rw [hT]; exact h
theorem N_new {M M1 : Mem} {t len : Nat} (e : M1 = newO M t len) : mN M ≤ mN M1 := by subst e; exact Nat.le_succ _
theorem N_of1 {M0 M M1 : Mem} (h : M1.2.2 = M.2.2) (l : mN M0 ≤ mN M) : mN M0 ≤ mN M1 := by unfold mN at l ⊢; rw [h]; exact l
theorem N_of2 {M0 M M1 : Mem} (h : M1.2.2.2 = M.2.2.2) (l : mN M0 ≤ mN M) : mN M0 ≤ mN M1 := by unfold mN at l ⊢; rw [h]; exact l
/-! contracts that make: the addresses go on -/
def Ag (M : Mem) (ad ad1 : Nat → Nat) : Prop := ∀ k, k < mN M → ad1 k = ad k
abbrev QVa (G : Gd) (A : Nat → Prop) (ad : Nat → Nat) (M M' : Mem) : Array Value → State → Outcome → State → Prop := va_Qv (fun ad1 : Nat → Nat => Ag M ad ad1) (fun ad1 => B1 G A ad1 M') A
abbrev QIa (G : Gd) (A : Nat → Prop) (ad : Nat → Nat) (M : Mem) (r : Int32) (M' : Mem) : Array Value → State → Outcome → State → Prop := va_Qi (fun r' (ad1 : Nat → Nat) => r' = r ∧ Ag M ad ad1) (fun ad1 => B1 G A ad1 M') A
abbrev QRa (G : Gd) (A : Nat → Prop) (ad : Nat → Nat) (M : Mem) (r : Nat) (M' : Mem) : Array Value → State → Outcome → State → Prop := va_Qq (fun r' (ad1 : Nat → Nat) => r' = some (ad1 r) ∧ Ag M ad ad1) (fun ad1 => B1 G A ad1 M') A
theorem Ag.rf {M : Mem} {ad : Nat → Nat} : Ag M ad ad := fun _ _ => rfl
theorem Ag.tr {M M1 : Mem} {ad ad1 ad2 : Nat → Nat} (h1 : Ag M ad ad1) (h2 : ∀ k, k < mN M1 → ad2 k = ad1 k) (h : mN M ≤ mN M1) : Ag M ad ad2 := fun k hk => (h2 k (Nat.lt_of_lt_of_le hk h)).trans (h1 k hk)
section SEndA
variable {p : Program} {l : Launch} {e : Env} {R : Room} {s : State} {m : MethodId} {args : Array Value} {below : List Frame} {meth : Method} {c : Code} {H : Heap} {locs : List Loc} {cells slots : Nat} {Q : State → Prop} {G : Gd} {A : Nat → Prop} {ad ad1 : Nat → Nat} {M M0 : Mem} {own : String} {cc : ByteArray} {nL : Nat} {rt : Option FieldType} {pc : Nat} {ls : Array Slot} {rest : List Value}
theorem e_vretA (C : Cx G A p s m args meth c own cc nL none) (hw : Wd G A ad1 s.heap M H locs) (ag : Ag M0 ad ad1) {M' : Mem} (hf : some ((), M) = some ((), M')) (hdg : decode cc pc = .ok (.return_, 1)) : W p l e R s m args below meth c H locs cells slots (MQ below (QVa G A ad M0 M') args s cells slots A) (F0 m pc ls []) := by
  cases hf
  exact W.vret C.1 C.2.1 C.2.2.2.2.2.2.1 (fun t ht hW => ⟨⟨ad1, rfl, ag, b1_of hw ht⟩, hw.2.2.2.F ht⟩) hw.2.2.2.2.2 hdg (hlocks := C.2.2.2.2.2.2.2.1)
theorem e_iretA (C : Cx G A p s m args meth c own cc nL (some .int)) (hw : Wd G A ad1 s.heap M H locs) (ag : Ag M0 ad ad1) {v r : Int32} {M' : Mem} (hf : some (v, M) = some (r, M')) (hdg : decode cc pc = .ok (.ireturn, 1)) : W p l e R s m args below meth c H locs cells slots (MQ below (QIa G A ad M0 r M') args s cells slots A) (F0 m pc ls [.int v]) := by
  cases hf
  exact W.iret C.1 C.2.1 C.2.2.2.2.2.2.1 (fun t ht hW => ⟨⟨v, ad1, rfl, ⟨rfl, ag⟩, b1_of hw ht⟩, hw.2.2.2.F ht⟩) hw.2.2.2.2.2 hdg (hlocks := C.2.2.2.2.2.2.2.1)
theorem e_aretA {rty : FieldType} (C : Cx G A p s m args meth c own cc nL (some rty)) (hrt : (∃ n, rty = .object n) ∨ ∃ t, rty = .array t) (hw : Wd G A ad1 s.heap M H locs) (ag : Ag M0 ad ad1) {v r : Nat} {M' : Mem} (hf : some (v, M) = some (r, M')) (hdg : decode cc pc = .ok (.areturn, 1)) : W p l e R s m args below meth c H locs cells slots (MQ below (QRa G A ad M0 r M') args s cells slots A) (F0 m pc ls [.ref (ad1 v)]) := by
  cases hf
  exact W.aret C.1 C.2.1 C.2.2.2.2.2.2.1 hrt (Or.inr ⟨_, rfl⟩) (fun t ht hW => ⟨⟨some (ad1 v), ad1, rfl, ⟨rfl, ag⟩, b1_of hw ht⟩, hw.2.2.2.F ht⟩) hw.2.2.2.2.2 hdg (hlocks := C.2.2.2.2.2.2.2.1)
theorem fin_Va {M1 : Mem} {a : Array Value} {st0 : List Value} {mc ms : Nat} (hr : va_Run p l e R s m args below meth c H locs cells slots mc ms (F0 m pc ls st0) rest (QVa G A ad M M1 a) A) (hw : Wd G A ad s.heap M H locs) (kk : ∀ (ad1 : Nat → Nat) (H1 : Heap) (locs1 : List Loc), (∀ k, k < mN M → ad1 k = ad k) → Wd G A ad1 s.heap M1 H1 locs1 → W p l e R s m args below meth c H1 locs1 (cells + mc) (slots + ms) Q (F0 m (pc + 3) ls rest)) : W p l e R s m args below meth c H locs cells slots Q (F0 m pc ls st0) :=
  va_callv hr hw.2.2.2 (fun _ _ h => h) (fun _ h => h) (fun u t H1 locs1 ht hvm hp hB hz hk hS => by
    subst ht
    exact kk u _ _ hp ⟨hB.1, hB.2.1, hB.2.2, hS⟩)
theorem fin_Ia {r : Int32} {M1 : Mem} {a : Array Value} {st0 : List Value} {mc ms : Nat} (hr : va_Run p l e R s m args below meth c H locs cells slots mc ms (F0 m pc ls st0) rest (QIa G A ad M r M1 a) A) (hw : Wd G A ad s.heap M H locs) (kk : ∀ (ad1 : Nat → Nat) (H1 : Heap) (locs1 : List Loc), (∀ k, k < mN M → ad1 k = ad k) → Wd G A ad1 s.heap M1 H1 locs1 → W p l e R s m args below meth c H1 locs1 (cells + mc) (slots + ms) Q (F0 m (pc + 3) ls (.int r :: rest))) : W p l e R s m args below meth c H locs cells slots Q (F0 m pc ls st0) :=
  va_calli hr hw.2.2.2 (fun _ _ h => h) (fun _ h => h) (fun r' u t H1 locs1 ht hvm hp hB hz hk hS => by
    obtain ⟨rfl, ag⟩ := hp
    subst ht
    exact kk u _ _ ag ⟨hB.1, hB.2.1, hB.2.2, hS⟩)
theorem fin_Ra {r : Nat} {M1 : Mem} {a : Array Value} {st0 : List Value} {mc ms : Nat} (hr : va_Run p l e R s m args below meth c H locs cells slots mc ms (F0 m pc ls st0) rest (QRa G A ad M r M1 a) A) (hw : Wd G A ad s.heap M H locs) (kk : ∀ (ad1 : Nat → Nat) (H1 : Heap) (locs1 : List Loc), (∀ k, k < mN M → ad1 k = ad k) → Wd G A ad1 s.heap M1 H1 locs1 → W p l e R s m args below meth c H1 locs1 (cells + mc) (slots + ms) Q (F0 m (pc + 3) ls (.ref (ad1 r) :: rest))) : W p l e R s m args below meth c H locs cells slots Q (F0 m pc ls st0) :=
  va_callq hr hw.2.2.2 (fun _ _ h => h) (fun _ h => h) (fun r' u t H1 locs1 ht hvm hp hB hz hk hS => by
    obtain ⟨rfl, ag⟩ := hp
    subst ht
    exact kk u _ _ ag ⟨hB.1, hB.2.1, hB.2.2, hS⟩)
end SEndA
theorem df0 : DF 0 4 tyX0 := fun j hj => match j, hj with
  | 0, _ => rfl
  | 1, _ => rfl
  | 2, _ => rfl
  | 3, _ => rfl
  | k + 4, h => absurd h (by omega)
theorem in0 : Cond.instantiable RX0 4 ∈ TBW := tbw_t 40 (by decide +kernel) rfl
theorem ii0 : Cond.initialized RX0 ∈ TBW := tbw_t 3 (by decide +kernel) rfl
theorem df1 : DF 1 11 tyX1 := fun j hj => match j, hj with
  | 0, _ => rfl
  | 1, _ => rfl
  | 2, _ => rfl
  | 3, _ => rfl
  | 4, _ => rfl
  | 5, _ => rfl
  | 6, _ => rfl
  | 7, _ => rfl
  | 8, _ => rfl
  | 9, _ => rfl
  | 10, _ => rfl
  | k + 11, h => absurd h (by omega)
theorem in1 : Cond.instantiable RX1 11 ∈ TBW := tbw_t 173 (by decide +kernel) rfl
theorem ii1 : Cond.initialized RX1 ∈ TBW := tbw_t 7 (by decide +kernel) rfl
theorem df2 : DF 2 3 tyX2 := fun j hj => match j, hj with
  | 0, _ => rfl
  | 1, _ => rfl
  | 2, _ => rfl
  | k + 3, h => absurd h (by omega)
theorem in2 : Cond.instantiable RX2 3 ∈ TBW := tbw_t 216 (by decide +kernel) rfl
theorem ii2 : Cond.initialized RX2 ∈ TBW := tbw_t 8 (by decide +kernel) rfl
theorem df3 : DF 3 4 tyX3 := fun j hj => match j, hj with
  | 0, _ => rfl
  | 1, _ => rfl
  | 2, _ => rfl
  | 3, _ => rfl
  | k + 4, h => absurd h (by omega)
theorem in3 : Cond.instantiable RX3 4 ∈ TBW := tbw_t 236 (by decide +kernel) rfl
theorem ii3 : Cond.initialized RX3 ∈ TBW := tbw_t 9 (by decide +kernel) rfl
theorem df4 : DF 4 4 tyX4 := fun j hj => match j, hj with
  | 0, _ => rfl
  | 1, _ => rfl
  | 2, _ => rfl
  | 3, _ => rfl
  | k + 4, h => absurd h (by omega)
theorem in4 : Cond.instantiable RX4 4 ∈ TBW := tbw_t 135 (by decide +kernel) rfl
theorem ii4 : Cond.initialized RX4 ∈ TBW := tbw_t 5 (by decide +kernel) rfl
theorem df5 : DF 5 3 tyX5 := fun j hj => match j, hj with
  | 0, _ => rfl
  | 1, _ => rfl
  | 2, _ => rfl
  | k + 3, h => absurd h (by omega)
theorem in5 : Cond.instantiable RX5 3 ∈ TBW := tbw_t 66 (by decide +kernel) rfl
theorem ii5 : Cond.initialized RX5 ∈ TBW := tbw_t 4 (by decide +kernel) rfl
theorem df6 : DF 6 2 tyX6 := fun j hj => match j, hj with
  | 0, _ => rfl
  | 1, _ => rfl
  | k + 2, h => absurd h (by omega)
theorem in6 : Cond.instantiable RX6 2 ∈ TBW := tbw_t 157 (by decide +kernel) rfl
theorem ii6 : Cond.initialized RX6 ∈ TBW := tbw_t 6 (by decide +kernel) rfl
theorem df7 : DF 7 3 tyX7 := fun j hj => match j, hj with
  | 0, _ => rfl
  | 1, _ => rfl
  | 2, _ => rfl
  | k + 3, h => absurd h (by omega)
theorem in7 : Cond.instantiable RX7 3 ∈ TBW := tbw_t 794 (by decide +kernel) rfl
theorem ii7 : Cond.initialized RX7 ∈ TBW := tbw_t 11 (by decide +kernel) rfl
theorem df8 : DF 8 10 tyX8 := fun j hj => match j, hj with
  | 0, _ => rfl
  | 1, _ => rfl
  | 2, _ => rfl
  | 3, _ => rfl
  | 4, _ => rfl
  | 5, _ => rfl
  | 6, _ => rfl
  | 7, _ => rfl
  | 8, _ => rfl
  | 9, _ => rfl
  | k + 10, h => absurd h (by omega)
theorem in8 : Cond.instantiable RX8 10 ∈ TBW := tbw_t 29 (by decide +kernel) rfl
theorem ii8 : Cond.initialized RX8 ∈ TBW := tbw_t 2 (by decide +kernel) rfl
theorem df9 : DF 9 11 tyX9 := fun j hj => match j, hj with
  | 0, _ => rfl
  | 1, _ => rfl
  | 2, _ => rfl
  | 3, _ => rfl
  | 4, _ => rfl
  | 5, _ => rfl
  | 6, _ => rfl
  | 7, _ => rfl
  | 8, _ => rfl
  | 9, _ => rfl
  | 10, _ => rfl
  | k + 11, h => absurd h (by omega)
theorem in9 : Cond.instantiable RX9 11 ∈ TBW := tbw_t 21 (by decide +kernel) rfl
theorem ii9 : Cond.initialized RX9 ∈ TBW := tbw_t 1 (by decide +kernel) rfl
theorem df10 : DF 10 37 tyX10 := fun j hj => match j, hj with
  | 0, _ => rfl
  | 1, _ => rfl
  | 2, _ => rfl
  | 3, _ => rfl
  | 4, _ => rfl
  | 5, _ => rfl
  | 6, _ => rfl
  | 7, _ => rfl
  | 8, _ => rfl
  | 9, _ => rfl
  | 10, _ => rfl
  | 11, _ => rfl
  | 12, _ => rfl
  | 13, _ => rfl
  | 14, _ => rfl
  | 15, _ => rfl
  | 16, _ => rfl
  | 17, _ => rfl
  | 18, _ => rfl
  | 19, _ => rfl
  | 20, _ => rfl
  | 21, _ => rfl
  | 22, _ => rfl
  | 23, _ => rfl
  | 24, _ => rfl
  | 25, _ => rfl
  | 26, _ => rfl
  | 27, _ => rfl
  | 28, _ => rfl
  | 29, _ => rfl
  | 30, _ => rfl
  | 31, _ => rfl
  | 32, _ => rfl
  | 33, _ => rfl
  | 34, _ => rfl
  | 35, _ => rfl
  | 36, _ => rfl
  | k + 37, h => absurd h (by omega)
theorem in10 : Cond.instantiable RX10 37 ∈ TBW := tbw_t 929 (by decide +kernel) rfl
theorem ii10 : Cond.initialized RX10 ∈ TBW := tbw_t 10 (by decide +kernel) rfl
theorem ar_int : Cond.arrayClass (newarray.typeOf .int) ∈ TBW := tbw_t 65 (by decide +kernel) rfl
theorem ar_boolean : Cond.arrayClass (newarray.typeOf .boolean) ∈ TBW := tbw_t 1046 (by decide +kernel) rfl
theorem ar_char : Cond.arrayClass (newarray.typeOf .char) ∈ TBW := tbw_t 1047 (by decide +kernel) rfl
theorem ob_i : Cond.instanceMethod Lib.objectInit ∈ TBW := tbw_t 26 (by decide +kernel) rfl
theorem ob_c : Cond.code Lib.objectInit ⟨#[0xb1]⟩ 1 none ∈ TBW := tbw_t 27 (by decide +kernel) rfl
