/-! THE LAW: its objects, its loop -/
section LNew
variable {p : Program} {l : Launch} {e : Env} {R : Room} {s : State} {m : MethodId} {args : Array Value} {below : List Frame} {meth : Method} {c : Code} {H : Heap} {locs : List Loc} {cells slots : Nat} {Q : State → Prop} {G : Gd} {A : Nat → Prop} {ax ay : Nat → Nat} {M N : Mem} {own : String} {cc : ByteArray} {nL : Nat} {rt : Option FieldType} {pc : Nat} {ls : Array Slot} {rest : List Value}
theorem wf_me : Wf Me := ⟨fun k h => absurd rfl h, (fun k j a h => nomatch h), (fun k j a h => nomatch h)⟩
theorem mI_new0 {M : Mem} {t len j : Nat} : mI (newO M t len) (mN M) j = 0 := if_pos rfl
theorem mP_new0 {M : Mem} {t len j : Nat} : mP (newO M t len) (mN M) j = none := if_pos rfl
theorem wr_me {cy : Nat → ClassId} {ad : Nat → Nat} : sWr cy ad Me = [] := rfl
theorem wd_me {H0 : Heap} {ad : Nat → Nat} (hS : va_S A H0 H locs) : Wd G A ad H0 Me H locs := ⟨fun k q h => by rw [wr_me] at h; simp at h, ⟨fun i j x y h => by rw [wr_me] at h; simp at h, fun k q h => by rw [wr_me] at h; simp at h⟩, wf_me, hS⟩
/-- a second object, beside a memory -/
theorem law_new (C : Cx G A p s m args meth c own cc nL rt) (hw : Wd G A ax s.heap M H locs) {ci F : Nat} {Cn : String} {T : u_T} {ty : Nat → FieldType} (cf : CF ci Cn T F ty) (df : DF ci F ty) {index : Nat} (kl : Cond.classLink own index Cn ∈ TBW) (hi : Cond.instantiable Cn F ∈ TBW) (hini : Cond.initialized Cn ∈ TBW) (hc : cells + 1 ≤ R.cells) (hs : slots + F ≤ R.slots) (hdg : decode cc pc = .ok (.new index, 3)) (kk : ∀ (ay : Nat → Nat) (H1 : Heap), LW G A ax ay s.heap M (newO Me (ci + 1) 0) H1 locs → W p l e R s m args below meth c H1 locs (cells + 1) (slots + F) Q (F0 m (pc + 3) ls (.ref (ay 0) :: rest))) : W p l e R s m args below meth c H locs cells slots Q (F0 m pc ls rest) := by
  have hts := C.2.2.2.2.1
  obtain ⟨h1, h2, h3, h4, h5, h6⟩ := cf
  refine va_new (ci := ci) (fs := (List.range F).map (fun j => if isI ci j = true then Value.int 0 else .null)) C.1 C.2.1 hts h4 ty h5 C.2.2.2.1 (hts _ kl) (hts _ hi) (hts _ hini) C.2.2.2.2.2.1.1 hw.1 hw.2.1 hw.2.2.2 C.2.2.2.2.2.2.2.2 h1 (fun j hj => ?_) hc hs hdg (fun q H1 hP hD hS => ?_)
  · rw [df j hj]
    simp [vp_V, hj]
  · have hcell : sCell G.2.2.1 (adN (fun _ => 0) (mN Me) q) (newO Me (ci + 1) 0) (mN Me) = .inr (ci, (List.range F).map (fun j => if isI ci j = true then Value.int 0 else .null)) := by
      rw [cell_o (M := newO Me (ci + 1) 0) (k := mN Me) (c := ci) (T_new rfl rfl) h3]
      unfold sFld
      rw [h2]
      refine congrArg (fun z => Sum.inr (ci, z)) (List.map_congr_left (fun j _ => ?_))
      have e1 : mI (newO Me (ci + 1) 0) (mN Me) j = 0 := mI_new0
      have e2 : mP (newO Me (ci + 1) 0) (mN Me) j = none := mP_new0
      rw [e1, e2]; rfl
    have hwr := wr_new (q := q) wf_me (adN_old (ad := fun _ => 0)) adN_new hcell
    rw [wr_me, List.nil_append] at hwr
    have q0 : adN (fun _ => 0) (mN Me) q 0 = q := adN_new
    have hl1 : ∀ (k : Nat) (x : Nat × va_E), (sWr G.2.2.1 ax M)[k]? = some x → (sWr G.2.2.1 ax M ++ [(q, .inr (ci, (List.range F).map (fun j => if isI ci j = true then Value.int 0 else .null)))])[k]? = some x := fun k x hk => by
      rw [List.getElem?_append_left (List.getElem?_eq_some_iff.mp hk).1]; exact hk
    have hl2 : ∀ (k : Nat) (x : Nat × va_E), ([(q, .inr (ci, (List.range F).map (fun j => if isI ci j = true then Value.int 0 else .null)))] : va_W)[k]? = some x → (sWr G.2.2.1 ax M ++ [(q, .inr (ci, (List.range F).map (fun j => if isI ci j = true then Value.int 0 else .null)))])[(sWr G.2.2.1 ax M).length + k]? = some x := fun k x hk => by
      rw [List.getElem?_append_right (by omega), Nat.add_sub_cancel_left]; exact hk
    have := kk (adN (fun _ => 0) (mN Me) q) H1 ⟨⟨fun k x hk => hP k x (hl1 k x hk), ⟨fun i j x y hx hy he => hD.1 i j x y (hl1 i x hx) (hl1 j y hy) he, fun k x hk => hD.2 k x (hl1 k x hk)⟩, hw.2.2.1, hS⟩, ⟨by rw [hwr]; exact fun k x hk => hP _ x (hl2 k x hk), by rw [hwr]; exact ⟨fun i j x y hx hy he => by have := hD.1 _ _ x y (hl2 i x hx) (hl2 j y hy) he; omega, fun k x hk => hD.2 _ x (hl2 k x hk)⟩, wf_newO wf_me, hS⟩, fun i j hi hj he => by
      have hj : j < 1 := hj
      have hj0 : j = 0 := by omega
      subst hj0
      rw [q0] at he
      have := hD.1 i ((sWr G.2.2.1 ax M).length + 0) _ _ (hl1 i _ (wr_at hi)) (hl2 0 _ rfl) he
      rw [wr_len] at this
      omega⟩
    rw [q0] at this
    exact this
theorem run_I1 {y : MethodName} {b : ByteArray} {n np mc ms : Nat} {rm : Room} {As st0 : List Value} {Qc : Array Value → State → Outcome → State → Prop} {k index : Nat} (C : Cx G A p s m args meth c own cc nL rt) (hw : Wd G A ax s.heap M H locs) (mf : MF y b n none np) (mv : MJ y) (hlk : MLk own index y) (ct : Ct l y b n none rm (.ref (ax k) :: As) G (va_A (sWr G.2.2.1 ax M) H.size) ax M Qc mc ms) (hsz : ls.size = nL) (hn : As.length = np) (hst : st0 = As.reverse ++ .ref (ax k) :: rest) (hW : (rest.map fun v => v.category).sum ≤ 8) (hrm : RM R rm n mc ms) (hcs : cells + mc ≤ R.cells ∧ slots + ms ≤ R.slots) (hdg : decode cc pc = .ok (.invokespecial index, 3)) : va_Run p l e R s m args below meth c H locs cells slots mc ms (F0 m pc ls st0) rest (Qc (Value.ref (ax k) :: As).toArray) (va_A (sWr G.2.2.1 ax M) H.size) := by
  have hts := C.2.2.2.2.1
  have hp : PreS s H (va_Pc (.ref (ax k) :: As) (B0 G (va_A (sWr G.2.2.1 ax M) H.size) ax M)) (.ref (ax k) :: As) := ⟨blind, own_pre C hw _⟩
  rcases hlk with hlk | ⟨host, hlk⟩
  · exact va_runI C.fix ct ⟨callB_of np hts (tbw_in0 mf.1) rfl hrm.1 hrm.2.1 (hts _ mf.2.1) (hts _ hlk) mf.2.2 ⟨hrm.2.2.1, hrm.2.2.2⟩, mv.1, hts _ mv.2⟩ hp rfl hn hsz hst (lv_room hW) hdg hcs
  · exact va_runIN C.fix ct ⟨va_cnB np hts (tbw_in0 mf.1) rfl hrm.1 hrm.2.1 (C.2.2.2.2.2.1.2.1 _ hlk) (hts _ mf.2.1) mf.2.2 ⟨hrm.2.2.1, hrm.2.2.2⟩, mv.1, hts _ mv.2⟩ hp rfl hn hsz hst (lv_room hW) hdg hcs
theorem law_init {y : MethodName} {b : ByteArray} {n np mc ms : Nat} {rm : Room} {As st0 : List Value} {index : Nat} {M1 : Mem} (C : Cx G A p s m args meth c own cc nL rt) (hw : LW G A ax ay s.heap M N H locs) (h0 : 0 < mN M) (mf : MF y b n none np) (mv : MJ y) (hlk : MLk own index y) (ct : ∀ A : Nat → Prop, Ct l y b n none rm (.ref (ax 0) :: As) G A ax M (QVa G A ax M M1) mc ms) (hsz : ls.size = nL) (hn : As.length = np) (hst : st0 = As.reverse ++ .ref (ax 0) :: rest) (hW : (rest.map fun v => v.category).sum ≤ 8) (hrm : RM R rm n mc ms) (hcs : cells + mc ≤ R.cells ∧ slots + ms ≤ R.slots) (hdg : decode cc pc = .ok (.invokespecial index, 3)) (kk : ∀ (ax1 : Nat → Nat) (H1 : Heap) (locs1 : List Loc), ax1 0 = ax 0 → LW G A ax1 ay s.heap M1 N H1 locs1 → W p l e R s m args below meth c H1 locs1 (cells + mc) (slots + ms) Q (F0 m (pc + 3) ls rest)) : W p l e R s m args below meth c H locs cells slots Q (F0 m pc ls st0) :=
  va_callv (run_I1 C hw.1 mf mv hlk (ct _) hsz hn hst hW hrm hcs hdg) hw.1.2.2.2 (fun q _ h => own_in hw.1 C.2.2.2.2.2.2.2.2 q h) (fun q h => own_in hw.1 C.2.2.2.2.2.2.2.2 q h) (fun u t H1 locs1 ht hvm hp hB hz hk hS =>
    kk u _ _ (hp 0 h0) (hw.step C.2.2.2.2.2.2.2.2 ht hB hk hS))
end LNew
theorem law_loop {p : Program} {l : Launch} {e : Env} {s : State} {m : MethodId} {below : List Frame} {meth : Method} {c : Code} {G : Gd} {ay : Nat → Nat} {b L : Nat} {xs : Nat → Int32} (C : Cx G (fun q => s.heap.size ≤ q) p s m #[Value.ref b] meth c R_law cL_law 4 (some .boolean)) (hX : va_X b L xs s s.heap) (hbl : b < s.heap.size) (hL : L ≤ 384) : ∀ (d j cells slots : Nat) (ax : Nat → Nat) (I : Nat → Nat → Int32) (X : Nat → Nat → Option Nat) (S : Sta) (J : Nat → Nat → Int32) (nc ns nt : Nat) (H : Heap) (locs : List Loc) (ls : Array Slot), L + 1 ≤ j + d → j ≤ L + 6 → cells + 2 * d ≤ 600000 → slots + 99 * d ≤ 7302250 → Sm I X S J nc ns nt → LW G (fun q => s.heap.size ≤ q) ax ay s.heap (I, X, S) (J, YZ) H locs → lv_has ls 4 [(3, .int (nI j)), (0, .ref b), (1, .ref (ax 0)), (2, .ref (ay 0))] → W p l e room_1 s m #[Value.ref b] below meth c H locs cells slots (lw_Z below #[Value.ref b] s) (F0 m 18 ls []) := by
  have hbA : ¬ (fun q : Nat => s.heap.size ≤ q) b := Nat.not_le.mpr hbl
  have done : ∀ (H : Heap) (locs : List Loc) (cells slots : Nat) (ls : Array Slot), (∀ q ∈ locs, s.heap.size ≤ q.base) → cells ≤ 600000 → slots ≤ 7302250 → W p l e room_1 s m #[Value.ref b] below meth c H locs cells slots (lw_Z below #[Value.ref b] s) (F0 m 1404 ls []) := by
    intro H locs cells slots ls hf h1 h2
    refine lv_iconst (v := 1) C.1 C.2.1 dL_law_1404 (by decide) ?_
    refine va_forget hf ?_
    refine W.widen (k := 600000) (n := 7302250) h1 h2 ?_
    exact lw_ret C.1 C.2.1 C.2.2.2.2.2.2.1 C.2.2.2.2.2.2.2.1 dL_law_1405
  intro d
  induction d with
  | zero =>
    intro j cells slots ax I X S J nc ns nt H locs ls hd hj hc hs h hw hl
    refine lv_iload_n C.1 C.2.1 dL_law_18 rfl (lv_at hl 0 rfl) ?_
    refine lv_aload_n C.1 C.2.1 dL_law_19 rfl (lv_at hl 1 rfl) ?_
    refine va_slen C.1 C.2.1 hX hbl hbA hw.1.2.2.2 dL_law_20 ?_
    refine lv_bipush (v := 6) C.1 C.2.1 dL_law_21 (by decide) ?_
    refine lv_isub C.1 C.2.1 dL_law_23 ?_
    refine lv_icmp_gt (tgt := 1404) C.1 C.2.1 dL_law_24 (by decide) (fun _ => ?_) (fun q => ?_)
    · exact done _ _ _ _ _ (fun q hq => hw.1.2.2.2.2.2 q hq) (by omega) (by omega)
    · have := law_le hL (by omega) q
      omega
  | succ d ih =>
    intro j cells slots ax I X S J nc ns nt H locs ls hd hj hc hs h hw hl
    refine lv_iload_n C.1 C.2.1 dL_law_18 rfl (lv_at hl 0 rfl) ?_
    refine lv_aload_n C.1 C.2.1 dL_law_19 rfl (lv_at hl 1 rfl) ?_
    refine va_slen C.1 C.2.1 hX hbl hbA hw.1.2.2.2 dL_law_20 ?_
    refine lv_bipush (v := 6) C.1 C.2.1 dL_law_21 (by decide) ?_
    refine lv_isub C.1 C.2.1 dL_law_23 ?_
    refine lv_icmp_gt (tgt := 1404) C.1 C.2.1 dL_law_24 (by decide) (fun _ => ?_) (fun q => ?_)
    · exact done _ _ _ _ _ (fun q hq => hw.1.2.2.2.2.2 q hq) (by omega) (by omega)
    · have hle := law_le hL (by omega) q
      refine lv_aload_n C.1 C.2.1 dL_law_27 rfl (lv_at hl 1 rfl) ?_
      refine lv_iload_n C.1 C.2.1 dL_law_28 rfl (lv_at hl 0 rfl) ?_
      refine va_sld C.1 C.2.1 hX hbl hbA hw.1.2.2.2 (nI_in (show j < L by omega) (by omega)) dL_law_29 ?_
      rw [nI_clamp (by omega)]
      refine lv_bipush (v := 63) C.1 C.2.1 dL_law_30 (by decide) ?_
      refine lv_iand C.1 C.2.1 dL_law_32 ?_
      refine law_switch C hX hbl hL hle h hw hl (by omega) (by omega) (fun ax1 I1 X1 S1 J1 nc1 ns1 nt1 H1 locs1 cells1 slots1 hax h1 hw1 hc1 hs1 => ?_)
      refine lv_iinc (v := nI (j + 6)) (lv' := [(3, .int (nI (j + 6))), (0, .ref b), (1, .ref (ax 0)), (2, .ref (ay 0))]) C.1 C.2.1 dL_law_1398 hl (k := 0) rfl (nI_add j 6) (by decide) rfl (fun ls hl => ?_)
      refine lv_goto (tgt := 18) C.1 C.2.1 dL_law_1401 (by decide) ?_
      rw [← hax] at hl
      exact ih (j + 6) cells1 slots1 ax1 I1 X1 S1 J1 nc1 ns1 nt1 H1 locs1 ls (by omega) (by omega) (by omega) (by omega) h1 hw1 hl
