/-! THE ROWS over the memory: an instruction, a row -/
section SRow
variable {p : Program} {l : Launch} {e : Env} {R : Room} {s : State} {m : MethodId} {args : Array Value} {below : List Frame} {meth : Method} {c : Code} {H : Heap} {locs : List Loc} {cells slots : Nat} {Q : State → Prop} {G : Gd} {A : Nat → Prop} {ad : Nat → Nat} {M : Mem} {own : String} {cc : ByteArray} {nL : Nat} {rt : Option FieldType} {pc : Nat} {ls : Array Slot} {rest : List Value}
theorem r_getI (C : Cx G A p s m args meth c own cc nL rt) (hw : Wd G A ad s.heap M H locs) {ci N : Nat} {Cn : String} {T : u_T} {ty : Nat → FieldType} (cf : CF ci Cn T N ty) (j : Nat) (hj : j < N) (hI : isI ci j = true) {k : Nat} (hT : mT M k = ci + 1) {index : Nat} (fl : FLk own index (T j).1 (T j).2.1 (T j).2.2.1) (hdg : decode cc pc = .ok (.getfield index, 3)) (kk : W p l e R s m args below meth c H locs cells slots Q (F0 m (pc + 3) ls (.int (mI M k j) :: rest))) : W p l e R s m args below meth c H locs cells slots Q (F0 m pc ls (.ref (ad k) :: rest)) := by
  obtain ⟨hx, hb, hml, ho, hts, hKn, -⟩ := C
  obtain ⟨hc, hN, h19, hin, hty, hnm⟩ := cf
  have hk : k < mN M := hw.2.2.1.1 k (by omega)
  have he : (sWr G.2.2.1 ad M)[k]? = some (ad k, .inr (ci, sFld ad M ci k)) := by rw [wr_at hk, cell_o hT h19]
  have hv : (sFld ad M ci k)[j]? = some (.int (mI M k j)) := by rw [fld_at (by omega), if_pos hI]
  rcases fl with fl | ⟨host, fl⟩
  · exact va_get hx hb hts hin ho hKn.1 hw.1 k he hc j hj (hts _ fl) (fun _ h => h) hv hdg kk
  · exact va_getN hx hb hts hin ho hKn.1 hw.1 k he hc j hj (va_Nw.use (nst_tabs fl) (hKn.2.1 _ fl)) (fun _ h => h) hv hdg kk
theorem r_getP (C : Cx G A p s m args meth c own cc nL rt) (hw : Wd G A ad s.heap M H locs) {ci N : Nat} {Cn : String} {T : u_T} {ty : Nat → FieldType} (cf : CF ci Cn T N ty) (j : Nat) (hj : j < N) (hI : isI ci j = false) {k b : Nat} (hT : mT M k = ci + 1) (hP : mP M k j = some b) {index : Nat} (fl : FLk own index (T j).1 (T j).2.1 (T j).2.2.1) (hdg : decode cc pc = .ok (.getfield index, 3)) (kk : W p l e R s m args below meth c H locs cells slots Q (F0 m (pc + 3) ls (.ref (ad b) :: rest))) : W p l e R s m args below meth c H locs cells slots Q (F0 m pc ls (.ref (ad k) :: rest)) := by
  obtain ⟨hx, hb, hml, ho, hts, hKn, -⟩ := C
  obtain ⟨hc, hN, h19, hin, hty, hnm⟩ := cf
  have hk : k < mN M := hw.2.2.1.1 k (by omega)
  have he : (sWr G.2.2.1 ad M)[k]? = some (ad k, .inr (ci, sFld ad M ci k)) := by rw [wr_at hk, cell_o hT h19]
  have hv : (sFld ad M ci k)[j]? = some (.ref (ad b)) := by
    rw [fld_at (by omega), if_neg (by rw [hI]; exact Bool.false_ne_true), hP]; rfl
  rcases fl with fl | ⟨host, fl⟩
  · exact va_get hx hb hts hin ho hKn.1 hw.1 k he hc j hj (hts _ fl) (fun _ h => h) hv hdg kk
  · exact va_getN hx hb hts hin ho hKn.1 hw.1 k he hc j hj (va_Nw.use (nst_tabs fl) (hKn.2.1 _ fl)) (fun _ h => h) hv hdg kk
theorem wd_setI (hw : Wd G A ad s.heap M H locs) {ci k j : Nat} {v : Int32} {H1 : Heap} {locs1 : List Loc} (hT : mT M k = ci + 1) (h19 : ci < 19) (hj : j < nF ci) (hI : isI ci j = true)
    (h1 : va_P (G.1, G.2.1) vwCl ((sWr G.2.2.1 ad M).set k (ad k, .inr (ci, (sFld ad M ci k).set j (.int v)))) H1) (h2 : va_D A ((sWr G.2.2.1 ad M).set k (ad k, .inr (ci, (sFld ad M ci k).set j (.int v))))) (h3 : va_S A s.heap H1 locs1) : Wd G A ad s.heap (setI M k j v) H1 locs1 := by
  have hk : k < mN M := hw.2.2.1.1 k (by omega)
  have e1 : (sWr G.2.2.1 ad M).set k (ad k, .inr (ci, (sFld ad M ci k).set j (.int v))) = sWr G.2.2.1 ad (setI M k j v) := by
    refine wr_set hk rfl ?_ (fun a ha => cell_congr rfl rfl (fun i => ?_) (fun _ => rfl) (fun _ => rfl))
    · rw [fld_setI hj hI]
      exact cell_o (M := setI M k j v) hT h19
    · show u2 M.1 k j v a i = M.1 a i
      unfold u2
      rw [if_neg (fun h => ha h.1)]
  rw [e1] at h1 h2
  exact ⟨h1, h2, wf_setI hw.2.2.1, h3⟩
theorem r_putI (C : Cx G A p s m args meth c own cc nL rt) (hw : Wd G A ad s.heap M H locs) {ci N : Nat} {Cn : String} {T : u_T} {ty : Nat → FieldType} (cf : CF ci Cn T N ty) (j : Nat) (hj : j < N) (hI : isI ci j = true) {k : Nat} (hT : mT M k = ci + 1) {v : Int32} {M1 : Mem} (e1 : M1 = setI M k j v) {index : Nat} (fl : FLk own index (T j).1 (T j).2.1 (T j).2.2.1) (hfin : (T j).2.2.2 = false) (hn : narrow (ty j) (.int v) = .int v) (hf : fits (ty j) (.int v) = true) (hdg : decode cc pc = .ok (.putfield index, 3)) (kk : ∀ (H1 : Heap) (locs1 : List Loc), Wd G A ad s.heap M1 H1 locs1 → W p l e R s m args below meth c H1 locs1 cells slots Q (F0 m (pc + 3) ls rest)) : W p l e R s m args below meth c H locs cells slots Q (F0 m pc ls (.int v :: .ref (ad k) :: rest)) := by
  subst e1
  obtain ⟨hx, hb, hml, ho, hts, hKn, -⟩ := C
  obtain ⟨hc, hN, h19, hin, hty, hnm⟩ := cf
  have hk : k < mN M := hw.2.2.1.1 k (by omega)
  have he : (sWr G.2.2.1 ad M)[k]? = some (ad k, .inr (ci, sFld ad M ci k)) := by rw [wr_at hk, cell_o hT h19]
  have k2 := fun (H1 : Heap) (locs1 : List Loc) h1 h2 h3 => kk H1 locs1 (wd_setI hw hT h19 (by omega) hI h1 h2 h3)
  rcases fl with fl | ⟨host, fl⟩
  · exact va_put hx hb hts hin ty hty hnm ho hKn.1 hw.1 hw.2.1 hw.2.2.2 k he hc j hj (hts _ fl) (fun _ h => h) hfin (hty j hj) hn hf (by rw [fld_len]; omega) hdg k2
  · exact va_putN hx hb hts hin ty hty hnm ho hKn.1 hw.1 hw.2.1 hw.2.2.2 k he hc j hj (va_Nw.use (nst_tabs fl) (hKn.2.1 _ fl)) (fun _ h => h) hfin (hty j hj) hn hf (by rw [fld_len]; omega) hdg k2
theorem r_putFI (C : Cx G A p s m args meth c own cc nL rt) (hin2 : meth.name = "<init>") (hw : Wd G A ad s.heap M H locs) {ci N : Nat} {Cn : String} {T : u_T} {ty : Nat → FieldType} (cf : CF ci Cn T N ty) (j : Nat) (hj : j < N) (hI : isI ci j = true) {k : Nat} (hT : mT M k = ci + 1) {v : Int32} {M1 : Mem} (e1 : M1 = setI M k j v) {index : Nat} (fl : Cond.fieldLink own index (T j).1 (T j).2.1 (T j).2.2.1 ∈ TBW) (hfin : (T j).2.2.2 = true) (hdc : (T j).1 = own) (hn : narrow (ty j) (.int v) = .int v) (hf : fits (ty j) (.int v) = true) (hdg : decode cc pc = .ok (.putfield index, 3)) (kk : ∀ (H1 : Heap) (locs1 : List Loc), Wd G A ad s.heap M1 H1 locs1 → W p l e R s m args below meth c H1 locs1 cells slots Q (F0 m (pc + 3) ls rest)) : W p l e R s m args below meth c H locs cells slots Q (F0 m pc ls (.int v :: .ref (ad k) :: rest)) := by
  subst e1
  obtain ⟨hx, hb, hml, ho, hts, hKn, -⟩ := C
  obtain ⟨hc, hN, h19, hin, hty, hnm⟩ := cf
  have hk : k < mN M := hw.2.2.1.1 k (by omega)
  have he : (sWr G.2.2.1 ad M)[k]? = some (ad k, .inr (ci, sFld ad M ci k)) := by rw [wr_at hk, cell_o hT h19]
  exact va_putF hx hb hts hin ty hty hnm ho hKn.1 hw.1 hw.2.1 hw.2.2.2 k he hc j hj (hts _ fl) (fun _ h => h) hfin hin2 hdc (hty j hj) hn hf (by rw [fld_len]; omega) hdg (fun H1 locs1 h1 h2 h3 => kk H1 locs1 (wd_setI hw hT h19 (by omega) hI h1 h2 h3))
theorem wd_setP (hw : Wd G A ad s.heap M H locs) {ci k j b : Nat} {H1 : Heap} {locs1 : List Loc} (hT : mT M k = ci + 1) (h19 : ci < 19) (hj : j < nF ci) (hI : isI ci j = false) (hb : b < mN M)
    (h1 : va_P (G.1, G.2.1) vwCl ((sWr G.2.2.1 ad M).set k (ad k, .inr (ci, (sFld ad M ci k).set j (.ref (ad b))))) H1) (h2 : va_D A ((sWr G.2.2.1 ad M).set k (ad k, .inr (ci, (sFld ad M ci k).set j (.ref (ad b)))))) (h3 : va_S A s.heap H1 locs1) : Wd G A ad s.heap (setP M k j b) H1 locs1 := by
  have hk : k < mN M := hw.2.2.1.1 k (by omega)
  have e1 : (sWr G.2.2.1 ad M).set k (ad k, .inr (ci, (sFld ad M ci k).set j (.ref (ad b)))) = sWr G.2.2.1 ad (setP M k j b) := by
    refine wr_set hk rfl ?_ (fun a ha => cell_congr rfl rfl (fun _ => rfl) (fun i => ?_) (fun _ => rfl))
    · rw [fld_setP hj hI]
      exact cell_o (M := setP M k j b) hT h19
    · show (u2 M.2.2.1 k j (some b) a i).map ad = (M.2.2.1 a i).map ad
      unfold u2
      rw [if_neg (fun h => ha h.1)]
  rw [e1] at h1 h2
  exact ⟨h1, h2, wf_setP hw.2.2.1 hb, h3⟩
theorem r_putFP (C : Cx G A p s m args meth c own cc nL rt) (hin2 : meth.name = "<init>") (hw : Wd G A ad s.heap M H locs) {ci N : Nat} {Cn : String} {T : u_T} {ty : Nat → FieldType} (cf : CF ci Cn T N ty) (j : Nat) (hj : j < N) (hI : isI ci j = false) {k b : Nat} (hT : mT M k = ci + 1) (hB : mT M b ≠ 0) {M1 : Mem} (e1 : M1 = setP M k j b) {index : Nat} (fl : Cond.fieldLink own index (T j).1 (T j).2.1 (T j).2.2.1 ∈ TBW) (hfin : (T j).2.2.2 = true) (hdc : (T j).1 = own) (hn : narrow (ty j) (.ref (ad b)) = .ref (ad b)) (hf : fits (ty j) (.ref (ad b)) = true) (hdg : decode cc pc = .ok (.putfield index, 3)) (kk : ∀ (H1 : Heap) (locs1 : List Loc), Wd G A ad s.heap M1 H1 locs1 → W p l e R s m args below meth c H1 locs1 cells slots Q (F0 m (pc + 3) ls rest)) : W p l e R s m args below meth c H locs cells slots Q (F0 m pc ls (.ref (ad b) :: .ref (ad k) :: rest)) := by
  subst e1
  obtain ⟨hx, hb, hml, ho, hts, hKn, -⟩ := C
  obtain ⟨hc, hN, h19, hin, hty, hnm⟩ := cf
  have hk : k < mN M := hw.2.2.1.1 k (by omega)
  have he : (sWr G.2.2.1 ad M)[k]? = some (ad k, .inr (ci, sFld ad M ci k)) := by rw [wr_at hk, cell_o hT h19]
  exact va_putF hx hb hts hin ty hty hnm ho hKn.1 hw.1 hw.2.1 hw.2.2.2 k he hc j hj (hts _ fl) (fun _ h => h) hfin hin2 hdc (hty j hj) hn hf (by rw [fld_len]; omega) hdg (fun H1 locs1 h1 h2 h3 => kk H1 locs1 (wd_setP hw hT h19 (by omega) hI (hw.2.2.1.1 b hB) h1 h2 h3))
/-! arrays of numbers -/
theorem wr_i (hw : Wd G A ad s.heap M H locs) {k t : Nat} (hT : mT M k = t + 20) (ht : t < 3) : (sWr G.2.2.1 ad M)[k]? = some (ad k, .inl (G.2.2.1 t, mL M k, .inl (fun j => mI M k j))) := by
  rw [wr_at (hw.2.2.1.1 k (by omega)), cell_i hT ht]
theorem r_iald (C : Cx G A p s m args meth c own cc nL rt) (hw : Wd G A ad s.heap M H locs) {k : Nat} (hT : mT M k = 20) {i : Int32} (hi : ib i (mL M k) = true) (hdg : decode cc pc = .ok (.iaload, 1)) (kk : W p l e R s m args below meth c H locs cells slots Q (F0 m (pc + 1) ls (.int (mI M k i.toNatClampNeg) :: rest))) : W p l e R s m args below meth c H locs cells slots Q (F0 m pc ls (.int i :: .ref (ad k) :: rest)) :=
  va_iald C.1 C.2.1 C.2.2.2.2.2.1.1 hw.1 k 0 (wr_i hw (t := 0) hT (by decide)) rfl (ib_in hi) hdg kk
theorem r_zald (C : Cx G A p s m args meth c own cc nL rt) (hw : Wd G A ad s.heap M H locs) {k : Nat} (hT : mT M k = 21) {i : Int32} (hi : ib i (mL M k) = true) (hdg : decode cc pc = .ok (.baload, 1)) (kk : W p l e R s m args below meth c H locs cells slots Q (F0 m (pc + 1) ls (.int (mI M k i.toNatClampNeg) :: rest))) : W p l e R s m args below meth c H locs cells slots Q (F0 m pc ls (.int i :: .ref (ad k) :: rest)) :=
  va_zald C.1 C.2.1 C.2.2.2.2.2.1.1 hw.1 k 1 (wr_i hw (t := 1) hT (by decide)) rfl (ib_in hi) hdg kk
theorem r_cald (C : Cx G A p s m args meth c own cc nL rt) (hw : Wd G A ad s.heap M H locs) {k : Nat} (hT : mT M k = 22) {i : Int32} (hi : ib i (mL M k) = true) (hdg : decode cc pc = .ok (.caload, 1)) (kk : W p l e R s m args below meth c H locs cells slots Q (F0 m (pc + 1) ls (.int (mI M k i.toNatClampNeg) :: rest))) : W p l e R s m args below meth c H locs cells slots Q (F0 m pc ls (.int i :: .ref (ad k) :: rest)) :=
  va_cald C.1 C.2.1 C.2.2.2.2.2.1.1 hw.1 k 2 (wr_i hw (t := 2) hT (by decide)) rfl (ib_in hi) hdg kk
theorem wd_setA (hw : Wd G A ad s.heap M H locs) {k t : Nat} {f : Nat → Int32} {M1 : Mem} {H1 : Heap} {locs1 : List Loc} (hT : mT M k = t + 20) (ht : t < 3) (e1 : M1 = setR M k f)
    (h1 : va_P (G.1, G.2.1) vwCl ((sWr G.2.2.1 ad M).set k (ad k, .inl (G.2.2.1 t, mL M k, .inl f))) H1) (h2 : va_D A ((sWr G.2.2.1 ad M).set k (ad k, .inl (G.2.2.1 t, mL M k, .inl f)))) (h3 : va_S A s.heap H1 locs1) : Wd G A ad s.heap M1 H1 locs1 := by
  subst e1
  have hk : k < mN M := hw.2.2.1.1 k (by omega)
  have e1 : (sWr G.2.2.1 ad M).set k (ad k, .inl (G.2.2.1 t, mL M k, .inl f)) = sWr G.2.2.1 ad (setR M k f) := by
    refine wr_set hk rfl ?_ (fun a ha => cell_congr rfl rfl (fun i => ?_) (fun _ => rfl) (fun _ => rfl))
    · rw [cell_i (M := setR M k f) hT ht]
      have : (fun j => mI (setR M k f) k j) = f := by
        funext j
        show (if k = k then f j else M.1 k j) = f j
        rw [if_pos rfl]
      rw [this]; rfl
    · show (if a = k then f i else M.1 a i) = M.1 a i
      rw [if_neg ha]
  rw [e1] at h1 h2
  exact ⟨h1, h2, wf_setR hw.2.2.1, h3⟩
theorem setI_R {M : Mem} {k j : Nat} {v : Int32} : setI M k j v = setR M k (upd (fun i => mI M k i) j v) := by
  unfold setI setR
  refine congrArg (fun z => (z, M.2)) ?_
  funext a b
  unfold u2 upd
  by_cases h : a = k
  · subst h
    by_cases h2 : b = j
    · subst h2; simp
    · simp [h2, mI]
  · simp [h]
theorem r_iast (C : Cx G A p s m args meth c own cc nL rt) (hw : Wd G A ad s.heap M H locs) {k : Nat} (hT : mT M k = 20) {i x : Int32} (hi : ib i (mL M k) = true) {M1 : Mem} (e1 : M1 = setI M k i.toNatClampNeg x) (hdg : decode cc pc = .ok (.iastore, 1)) (kk : ∀ (H1 : Heap) (locs1 : List Loc), Wd G A ad s.heap M1 H1 locs1 → W p l e R s m args below meth c H1 locs1 cells slots Q (F0 m (pc + 1) ls rest)) : W p l e R s m args below meth c H locs cells slots Q (F0 m pc ls (.int x :: .int i :: .ref (ad k) :: rest)) :=
  va_iast C.1 C.2.1 C.2.2.2.2.2.1.1 hw.1 hw.2.1 hw.2.2.2 k 0 (wr_i hw (t := 0) hT (by decide)) rfl (ib_in hi) hdg (fun H1 locs1 h1 h2 h3 => kk H1 locs1 (wd_setA hw (t := 0) hT (by decide) (e1.trans setI_R) h1 h2 h3))
theorem r_zast (C : Cx G A p s m args meth c own cc nL rt) (hw : Wd G A ad s.heap M H locs) {k : Nat} (hT : mT M k = 21) {i x : Int32} (hi : ib i (mL M k) = true) (hB : isB x = true) {M1 : Mem} (e1 : M1 = setI M k i.toNatClampNeg x) (hdg : decode cc pc = .ok (.bastore, 1)) (kk : ∀ (H1 : Heap) (locs1 : List Loc), Wd G A ad s.heap M1 H1 locs1 → W p l e R s m args below meth c H1 locs1 cells slots Q (F0 m (pc + 1) ls rest)) : W p l e R s m args below meth c H locs cells slots Q (F0 m pc ls (.int x :: .int i :: .ref (ad k) :: rest)) := by
  have hx : vp_nar .boolean x = x := by rcases isB_or hB with rfl | rfl <;> rfl
  exact va_zast C.1 C.2.1 C.2.2.2.2.2.1.1 hw.1 hw.2.1 hw.2.2.2 k 1 (wr_i hw (t := 1) hT (by decide)) rfl (ib_in hi) hdg (fun H1 locs1 h1 h2 h3 => by
    rw [hx] at h1 h2
    exact kk H1 locs1 (wd_setA hw (t := 1) hT (by decide) (e1.trans setI_R) h1 h2 h3))
theorem r_cast (C : Cx G A p s m args meth c own cc nL rt) (hw : Wd G A ad s.heap M H locs) {k : Nat} (hT : mT M k = 22) {i x : Int32} (hi : ib i (mL M k) = true) (hx : vp_nar .char x = x) {M1 : Mem} (e1 : M1 = setI M k i.toNatClampNeg x) (hdg : decode cc pc = .ok (.castore, 1)) (kk : ∀ (H1 : Heap) (locs1 : List Loc), Wd G A ad s.heap M1 H1 locs1 → W p l e R s m args below meth c H1 locs1 cells slots Q (F0 m (pc + 1) ls rest)) : W p l e R s m args below meth c H locs cells slots Q (F0 m pc ls (.int x :: .int i :: .ref (ad k) :: rest)) := by
  exact va_cast C.1 C.2.1 C.2.2.2.2.2.1.1 hw.1 hw.2.1 hw.2.2.2 k 2 (wr_i hw (t := 2) hT (by decide)) rfl (ib_in hi) hdg (fun H1 locs1 h1 h2 h3 => by
    rw [hx] at h1 h2
    exact kk H1 locs1 (wd_setA hw (t := 2) hT (by decide) (e1.trans setI_R) h1 h2 h3))
theorem r_alen (C : Cx G A p s m args meth c own cc nL rt) (hw : Wd G A ad s.heap M H locs) {k : Nat} (hT : mT M k = 20) (hdg : decode cc pc = .ok (.arraylength, 1)) (kk : W p l e R s m args below meth c H locs cells slots Q (F0 m (pc + 1) ls (.int (nI (mL M k)) :: rest))) : W p l e R s m args below meth c H locs cells slots Q (F0 m pc ls (.ref (ad k) :: rest)) :=
  va_alen C.1 C.2.1 C.2.2.2.2.2.1.1 hw.1 k 0 (wr_i hw (t := 0) hT (by decide)) rfl rfl hdg kk
theorem r_copy (C : Cx G A p s m args meth c own cc nL rt) (hw : Wd G A ad s.heap M H locs) (hsz : ls.size = nL) {k k1 : Nat} (hT : mT M k = 20) (hT1 : mT M k1 = 20) {sp dp n : Int32} (hg : (decide (0 ≤ sp) && decide (0 ≤ dp) && decide (0 ≤ n) && decide (sp.toNatClampNeg + n.toNatClampNeg ≤ mL M k) && decide (dp.toNatClampNeg + n.toNatClampNeg ≤ mL M k1)) = true) {M1 : Mem} (e1 : M1 = setR M k1 (va_cpy (fun j => mI M k j) (fun j => mI M k1 j) sp.toNatClampNeg dp.toNatClampNeg n.toNatClampNeg)) {index : Nat} (hl : Cond.methodLink own index arraycopyName ∈ TBW) (hn1 : Cond.native arraycopyName ∈ TBW) (hn2 : Cond.static arraycopyName ∈ TBW) (hn3 : Cond.initialized "java/lang/System" ∈ TBW) (hframes : 1 ≤ R.frames) (hlocals : (rest.map fun v => v.category).sum + (nativeFrameWords "java/lang/System" "arraycopy" 5 + 11) ≤ R.locals) (hdg : decode cc pc = .ok (.invokestatic index, 3)) (kk : ∀ (H1 : Heap) (locs1 : List Loc), Wd G A ad s.heap M1 H1 locs1 → W p l e R s m args below meth c H1 locs1 cells slots Q (F0 m (pc + 3) ls rest)) : W p l e R s m args below meth c H locs cells slots Q (F0 m pc ls (.int n :: .int dp :: .ref (ad k1) :: .int sp :: .ref (ad k) :: rest)) := by
  simp only [Bool.and_eq_true, decide_eq_true_eq] at hg
  obtain ⟨⟨⟨⟨g1, g2⟩, g3⟩, g4⟩, g5⟩ := hg
  have hts := C.2.2.2.2.1
  exact va_copyi C.1 C.2.1 (C.2.2.1.trans hsz.symm) C.2.2.2.1 (hts _ hl) (hts _ hn1) (hts _ hn2) (hts _ hn3) C.2.2.2.2.2.1.1 hw.1 hw.2.1 hw.2.2.2 k k1 0 0 (wr_i hw (t := 0) hT (by decide)) (wr_i hw (t := 0) hT1 (by decide)) rfl rfl rfl (Int32.not_lt.mpr g1) (Int32.not_lt.mpr g2) (Int32.not_lt.mpr g3) g4 g5 (fun _ _ => rfl) hframes hlocals hdg (fun H1 locs1 h1 h2 h3 => kk H1 locs1 (wd_setA hw (t := 0) hT1 (by decide) e1 h1 h2 h3))
/-! arrays of objects -/
theorem r_aald (C : Cx G A p s m args meth c own cc nL rt) (hw : Wd G A ad s.heap M H locs) (t : Nat) {Cn : String} (ht : (sTy G.2.2.1)[t]? = some (G.2.2.1 t, .object Cn)) (h3 : 3 ≤ t) (h5 : t ≠ 5) {k b : Nat} (hT : mT M k = t + 20) {i : Int32} (hi : ib i (mL M k) = true) (hP : mP M k i.toNatClampNeg = some b) (hdg : decode cc pc = .ok (.aaload, 1)) (kk : W p l e R s m args below meth c H locs cells slots Q (F0 m (pc + 1) ls (.ref (ad b) :: rest))) : W p l e R s m args below meth c H locs cells slots Q (F0 m pc ls (.int i :: .ref (ad k) :: rest)) := by
  have he : (sWr G.2.2.1 ad M)[k]? = some (ad k, .inl (G.2.2.1 t, mL M k, .inr (.inr (.inr (.inr (fun j => (mP M k j).map ad)))))) := by
    rw [wr_at (hw.2.2.1.1 k (by omega)), cell_p hT h3 h5]
  refine va_aldq C.1 C.2.1 C.2.2.2.2.2.1.1 hw.1 k t he ht (ib_in hi) hdg ?_
  show W p l e R s m args below meth c H locs cells slots Q (F0 m (pc + 1) ls (va_rf ((mP M k i.toNatClampNeg).map ad) :: rest))
  rw [hP]
  exact kk
theorem r_xald (C : Cx G A p s m args meth c own cc nL rt) (hw : Wd G A ad s.heap M H locs) {k : Nat} (hT : mT M k = 25) {i : Int32} (hi : ib i (mL M k) = true) (hdg : decode cc pc = .ok (.aaload, 1)) (kk : W p l e R s m args below meth c H locs cells slots Q (F0 m (pc + 1) ls (va_rf ((mX M k i.toNatClampNeg).map ad) :: rest))) : W p l e R s m args below meth c H locs cells slots Q (F0 m pc ls (.int i :: .ref (ad k) :: rest)) := by
  have he : (sWr G.2.2.1 ad M)[k]? = some (ad k, .inl (G.2.2.1 5, mL M k, .inr (.inr (.inr (.inr (fun j => (mX M k j).map ad)))))) := by
    rw [wr_at (hw.2.2.1.1 k (by omega)), cell_x hT]
  exact va_aldq C.1 C.2.1 C.2.2.2.2.2.1.1 hw.1 k 5 he rfl (ib_in hi) hdg kk
theorem map_up {ad : Nat → Nat} {f : Nat → Option Nat} {i b : Nat} : va_up (fun j => (f j).map ad) i (some (ad b)) = fun j => ((if j = i then some b else f j) : Option Nat).map ad := by
  funext j
  unfold va_up
  by_cases h : j = i
  · rw [if_pos h, if_pos h]; rfl
  · rw [if_neg h, if_neg h]
theorem r_aast (C : Cx G A p s m args meth c own cc nL rt) (hw : Wd G A ad s.heap M H locs) (t : Nat) {ci N : Nat} {Cn : String} {T : u_T} {ty : Nat → FieldType} (cf : CF ci Cn T N ty) (ht : (sTy G.2.2.1)[t]? = some (G.2.2.1 t, .object Cn)) (h3 : 3 ≤ t) (h5 : t ≠ 5) {k b : Nat} (hT : mT M k = t + 20) (hB : mT M b = ci + 1) {i : Int32} (hi : ib i (mL M k) = true) {M1 : Mem} (e1 : M1 = setP M k i.toNatClampNeg b) (hdg : decode cc pc = .ok (.aastore, 1)) (kk : ∀ (H1 : Heap) (locs1 : List Loc), Wd G A ad s.heap M1 H1 locs1 → W p l e R s m args below meth c H1 locs1 cells slots Q (F0 m (pc + 1) ls rest)) : W p l e R s m args below meth c H locs cells slots Q (F0 m pc ls (.ref (ad b) :: .int i :: .ref (ad k) :: rest)) := by
  subst e1
  have hk := hw.2.2.1.1 k (by omega)
  have hbn := hw.2.2.1.1 b (by omega)
  have he : (sWr G.2.2.1 ad M)[k]? = some (ad k, .inl (G.2.2.1 t, mL M k, .inr (.inr (.inr (.inr (fun j => (mP M k j).map ad)))))) := by
    rw [wr_at hk, cell_p hT h3 h5]
  have hv : (sWr G.2.2.1 ad M)[b]? = some (ad b, .inr (ci, sFld ad M ci b)) := by rw [wr_at hbn, cell_o hB cf.2.2.1]
  refine va_astq C.1 C.2.1 C.2.2.2.2.2.1.1 hw.1 hw.2.1 hw.2.2.2 k t b ci (r := (Cn, T, N)) he ht hv cf.1 (ib_in hi) hdg (fun H1 locs1 h1 h2 h3' => kk H1 locs1 ?_)
  have e1 : (sWr G.2.2.1 ad M).set k (ad k, .inl (G.2.2.1 t, mL M k, .inr (.inr (.inr (.inr (va_up (fun j => (mP M k j).map ad) i.toNatClampNeg (some (ad b)))))))) = sWr G.2.2.1 ad (setP M k i.toNatClampNeg b) := by
    refine wr_set hk rfl ?_ (fun a ha => cell_congr rfl rfl (fun _ => rfl) (fun j => ?_) (fun _ => rfl))
    · rw [cell_p (M := setP M k i.toNatClampNeg b) hT h3 h5, map_up]
      have : (fun j => (mP (setP M k i.toNatClampNeg b) k j).map ad) = fun j => ((if j = i.toNatClampNeg then some b else mP M k j) : Option Nat).map ad := by
        funext j
        show (u2 M.2.2.1 k i.toNatClampNeg (some b) k j).map ad = _
        unfold u2
        simp [mP]
      rw [this]; rfl
    · show (u2 M.2.2.1 k i.toNatClampNeg (some b) a j).map ad = (M.2.2.1 a j).map ad
      unfold u2
      rw [if_neg (fun h => ha h.1)]
  rw [e1] at h1 h2
  exact ⟨h1, h2, wf_setP hw.2.2.1 hbn, h3'⟩
theorem r_xast (C : Cx G A p s m args meth c own cc nL rt) (hw : Wd G A ad s.heap M H locs) {k b : Nat} (hT : mT M k = 25) (hB : mT M b = 8) {i : Int32} (hi : ib i (mL M k) = true) {M1 : Mem} (e1 : M1 = setX M k i.toNatClampNeg b) (hdg : decode cc pc = .ok (.aastore, 1)) (kk : ∀ (H1 : Heap) (locs1 : List Loc), Wd G A ad s.heap M1 H1 locs1 → W p l e R s m args below meth c H1 locs1 cells slots Q (F0 m (pc + 1) ls rest)) : W p l e R s m args below meth c H locs cells slots Q (F0 m pc ls (.ref (ad b) :: .int i :: .ref (ad k) :: rest)) := by
  subst e1
  have hk := hw.2.2.1.1 k (by omega)
  have hbn := hw.2.2.1.1 b (by omega)
  have he : (sWr G.2.2.1 ad M)[k]? = some (ad k, .inl (G.2.2.1 5, mL M k, .inr (.inr (.inr (.inr (fun j => (mX M k j).map ad)))))) := by
    rw [wr_at hk, cell_x hT]
  have hv : (sWr G.2.2.1 ad M)[b]? = some (ad b, .inr (7, sFld ad M 7 b)) := by rw [wr_at hbn, cell_o hB (by decide)]
  refine va_astq C.1 C.2.1 C.2.2.2.2.2.1.1 hw.1 hw.2.1 hw.2.2.2 k 5 b 7 (r := (RX7, TX7, 3)) he rfl hv rfl (ib_in hi) hdg (fun H1 locs1 h1 h2 h3' => kk H1 locs1 ?_)
  have e1 : (sWr G.2.2.1 ad M).set k (ad k, .inl (G.2.2.1 5, mL M k, .inr (.inr (.inr (.inr (va_up (fun j => (mX M k j).map ad) i.toNatClampNeg (some (ad b)))))))) = sWr G.2.2.1 ad (setX M k i.toNatClampNeg b) := by
    refine wr_set hk rfl ?_ (fun a ha => cell_congr rfl rfl (fun _ => rfl) (fun _ => rfl) (fun j => ?_))
    · rw [cell_x (M := setX M k i.toNatClampNeg b) hT, map_up]
      have : (fun j => (mX (setX M k i.toNatClampNeg b) k j).map ad) = fun j => ((if j = i.toNatClampNeg then some b else mX M k j) : Option Nat).map ad := by
        funext j
        show (u2 M.2.1 k i.toNatClampNeg (some b) k j).map ad = _
        unfold u2
        simp [mX]
      rw [this]; rfl
    · show (u2 M.2.1 k i.toNatClampNeg (some b) a j).map ad = (M.2.1 a j).map ad
      unfold u2
      rw [if_neg (fun h => ha h.1)]
  rw [e1] at h1 h2
  exact ⟨h1, h2, wf_setX hw.2.2.1 hbn, h3'⟩
end SRow
