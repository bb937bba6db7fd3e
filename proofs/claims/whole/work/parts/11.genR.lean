/-! StorkVoteModel.in(III)Z -/
abbrev rm_X10_in : Room := { frames := 0, cells := 0, slots := 0, locals := 0 }
def f_X10_in (M : Mem) (x0 : Int32) (x1 : Int32) (x2 : Int32) : Option (Int32 × Mem) := (if x0 < x1 then some (0, M) else (if x2 < x0 then some (0, M) else some (1, M)))
set_option maxHeartbeats 4000000 in
set_option maxRecDepth 100000 in
theorem c_X10_in (l : Launch) (G : Gd) (A : Nat → Prop) (ad : Nat → Nat) {M : Mem} {x0 : Int32} {x1 : Int32} {x2 : Int32}  {r : Int32} {M' : Mem} (hf : f_X10_in M x0 x1 x2 = some (r, M')) : Ct l yX10_in cX10_in 3 (some .boolean) rm_X10_in [.int x0, .int x1, .int x2] G A ad M (QI G A ad r M') 0 0 := by
  refine ct_start (by decide) (Nat.le_of_ble_eq_true rfl) ?_
  intro p e s m args below meth c ls C hin hw hl
  have C : Cx G A p s m args meth c RX10 cX10_in 3 (some .boolean) := C
  have hl : lv_has ls 3 [(0, .int x0), (1, .int x1), (2, .int x2)] := hl
  obtain ⟨hx, hb, -⟩ := id C
  rw [f_X10_in] at hf
  refine lv_iload_n hx hb dX10_in_0 rfl (lv_at hl 0 rfl) ?_
  refine lv_iload_n hx hb dX10_in_1 rfl (lv_at hl 1 rfl) ?_
  refine lv_icmp_lt (tgt := 14) hx hb dX10_in_2 (by decide) (fun hc => ?_) (fun hc => ?_)
  · have hf := if_p hc hf
    refine lv_iconst (v := 0) hx hb dX10_in_14 (by decide) ?_
    exact e_zret C hw rfl hf dX10_in_15
  · have hf := if_n hc hf
    refine lv_iload_n hx hb dX10_in_5 rfl (lv_at hl 0 rfl) ?_
    refine lv_iload_n hx hb dX10_in_6 rfl (lv_at hl 2 rfl) ?_
    refine lv_icmp_gt (tgt := 14) hx hb dX10_in_7 (by decide) (fun hc => ?_) (fun hc => ?_)
    · have hf := if_p hc hf
      refine lv_iconst (v := 0) hx hb dX10_in_14 (by decide) ?_
      exact e_zret C hw rfl hf dX10_in_15
    · have hf := if_n hc hf
      refine lv_iconst (v := 1) hx hb dX10_in_10 (by decide) ?_
      refine lv_goto (tgt := 15) hx hb dX10_in_11 (by decide) ?_
      exact e_zret C hw rfl hf dX10_in_15
/-! StorkVoteModel.within(III)I -/
abbrev rm_X10_within : Room := { frames := 0, cells := 0, slots := 0, locals := 0 }
def f_X10_within (M : Mem) (x0 : Int32) (x1 : Int32) (x2 : Int32) : Option (Int32 × Mem) := (if x1 ≤ x0 then (if x0 ≤ x2 then some (x0, M) else some (x2, M)) else some (x1, M))
set_option maxHeartbeats 4000000 in
set_option maxRecDepth 100000 in
theorem c_X10_within (l : Launch) (G : Gd) (A : Nat → Prop) (ad : Nat → Nat) {M : Mem} {x0 : Int32} {x1 : Int32} {x2 : Int32}  {r : Int32} {M' : Mem} (hf : f_X10_within M x0 x1 x2 = some (r, M')) : Ct l yX10_within cX10_within 3 (some .int) rm_X10_within [.int x0, .int x1, .int x2] G A ad M (QI G A ad r M') 0 0 := by
  refine ct_start (by decide) (Nat.le_of_ble_eq_true rfl) ?_
  intro p e s m args below meth c ls C hin hw hl
  have C : Cx G A p s m args meth c RX10 cX10_within 3 (some .int) := C
  have hl : lv_has ls 3 [(0, .int x0), (1, .int x1), (2, .int x2)] := hl
  obtain ⟨hx, hb, -⟩ := id C
  rw [f_X10_within] at hf
  refine lv_iload_n hx hb dX10_within_0 rfl (lv_at hl 0 rfl) ?_
  refine lv_iload_n hx hb dX10_within_1 rfl (lv_at hl 1 rfl) ?_
  refine lv_icmp_ge (tgt := 9) hx hb dX10_within_2 (by decide) (fun hc => ?_) (fun hc => ?_)
  · have hf := if_p hc hf
    refine lv_iload_n hx hb dX10_within_9 rfl (lv_at hl 0 rfl) ?_
    refine lv_iload_n hx hb dX10_within_10 rfl (lv_at hl 2 rfl) ?_
    refine lv_icmp_le (tgt := 18) hx hb dX10_within_11 (by decide) (fun hc => ?_) (fun hc => ?_)
    · have hf := if_p hc hf
      refine lv_iload_n hx hb dX10_within_18 rfl (lv_at hl 0 rfl) ?_
      exact e_iret C hw hf dX10_within_19
    · have hf := if_n hc hf
      refine lv_iload_n hx hb dX10_within_14 rfl (lv_at hl 2 rfl) ?_
      refine lv_goto (tgt := 19) hx hb dX10_within_15 (by decide) ?_
      exact e_iret C hw hf dX10_within_19
  · have hf := if_n hc hf
    refine lv_iload_n hx hb dX10_within_5 rfl (lv_at hl 1 rfl) ?_
    refine lv_goto (tgt := 19) hx hb dX10_within_6 (by decide) ?_
    exact e_iret C hw hf dX10_within_19
/-! StorkVoteModel.copyAll([I[I)V -/
abbrev rm_X10_copyAll : Room := { frames := 0, cells := 0, slots := 0, locals := 0 }
def f_X10_copyAll_2 : Nat → Mem → Nat → Nat → Int32 → Option (Unit × Mem)
  | 0, _, _, _, _ => none
  | n + 1, M, x0, x1, x2 => (if 1442 ≤ x2 then some ((), M) else gt (mT M x0) 20 (gd (ib x2 (mL M x0)) (gt (mT M x1) 20 (gd (ib x2 (mL M x1)) (st (setI M x1 x2.toNatClampNeg (mI M x0 x2.toNatClampNeg)) (fun M5 => f_X10_copyAll_2 n M5 x0 x1 (x2 + 1)))))))
set_option maxHeartbeats 4000000 in
set_option maxRecDepth 100000 in
theorem t_X10_copyAll_2 {l : Launch} {p : Program} {e : Env} {s : State} {m : MethodId} {args : Array Value} {below : List Frame} {meth : Method} {c : Code} {G : Gd} {A : Nat → Prop} {ad : Nat → Nat} (C : Cx G A p s m args meth c RX10 cX10_copyAll 3 none) {M' : Mem} : ∀ (n : Nat) (M : Mem) (x0 : Nat) (x1 : Nat) (x2 : Int32) (H : Heap) (locs : List Loc) (ls : Array Slot), f_X10_copyAll_2  n M x0 x1 x2 = some ((), M') → Wd G A ad s.heap M H locs → lv_has ls 3 [(0, .ref (ad x0)), (1, .ref (ad x1)), (2, .int x2)] → W p l e rm_X10_copyAll s m args below meth c H locs 0 0 (MQ below (QV G A ad M') args s 0 0 A) (F0 m 2 ls []) := by
  obtain ⟨hx, hb, -⟩ := id C
  intro n
  induction n with
  | zero =>
    intro M x0 x1 x2 H locs ls hf
    rw [f_X10_copyAll_2] at hf
    exact absurd hf (fun h => nomatch h)
  | succ n ih =>
    intro M x0 x1 x2 H locs ls hf hw hl
    rw [f_X10_copyAll_2] at hf
    refine lv_iload_n hx hb dX10_copyAll_2 rfl (lv_at hl 2 rfl) ?_
    refine lv_sipush (v := 1442) hx hb dX10_copyAll_3 (by decide) ?_
    refine lv_icmp_ge (tgt := 21) hx hb dX10_copyAll_6 (by decide) (fun hc => ?_) (fun hc => ?_)
    · have hf := if_p hc hf
      exact e_vret C hw hf dX10_copyAll_21
    · have hf := if_n hc hf
      refine lv_aload_n hx hb dX10_copyAll_9 rfl (lv_at hl 1 rfl) ?_
      refine lv_iload_n hx hb dX10_copyAll_10 rfl (lv_at hl 2 rfl) ?_
      refine lv_aload_n hx hb dX10_copyAll_11 rfl (lv_at hl 0 rfl) ?_
      refine lv_iload_n hx hb dX10_copyAll_12 rfl (lv_at hl 2 rfl) ?_
      obtain ⟨hT1, hf⟩ := gt_inv hf
      obtain ⟨hg2, hf⟩ := gd_inv hf
      refine r_iald C hw hT1 hg2 dX10_copyAll_13 ?_
      obtain ⟨hT3, hf⟩ := gt_inv hf
      obtain ⟨hg4, hf⟩ := gd_inv hf
      obtain ⟨M5, e6, hf⟩ := st_inv hf
      have g7 := sg_I e6
      refine r_iast C hw hT3 hg4 e6 dX10_copyAll_14 (fun H locs hw => ?_)
      refine lv_iinc (v := (x2 + 1)) (lv' := [(2, .int (x2 + 1)), (0, .ref (ad x0)), (1, .ref (ad x1))]) hx hb dX10_copyAll_15 hl (k := 2) rfl rfl (by decide) rfl (fun ls hl => ?_)
      refine lv_goto (tgt := 2) hx hb dX10_copyAll_18 (by decide) ?_
      exact ih M5 x0 x1 (x2 + 1) _ _ _ hf hw (lv_sub hl [1, 2, 0] rfl)
def f_X10_copyAll (M : Mem) (x0 : Nat) (x1 : Nat) : Option (Unit × Mem) := f_X10_copyAll_2 FU M x0 x1 0
set_option maxHeartbeats 4000000 in
set_option maxRecDepth 100000 in
theorem c_X10_copyAll (l : Launch) (G : Gd) (A : Nat → Prop) (ad : Nat → Nat) {M : Mem} {x0 : Nat} {x1 : Nat}  {M' : Mem} (hf : f_X10_copyAll M x0 x1 = some ((), M')) : Ct l yX10_copyAll cX10_copyAll 3 none rm_X10_copyAll [.ref (ad x0), .ref (ad x1)] G A ad M (QV G A ad M') 0 0 := by
  refine ct_start (by decide) (Nat.le_of_ble_eq_true rfl) ?_
  intro p e s m args below meth c ls C hin hw hl
  have C : Cx G A p s m args meth c RX10 cX10_copyAll 3 none := C
  have hl : lv_has ls 3 [(0, .ref (ad x0)), (1, .ref (ad x1))] := hl
  obtain ⟨hx, hb, -⟩ := id C
  rw [f_X10_copyAll] at hf
  refine lv_iconst (v := 0) hx hb dX10_copyAll_0 (by decide) ?_
  refine lv_istore_n (lv' := [(2, .int 0), (0, .ref (ad x0)), (1, .ref (ad x1))]) hx hb dX10_copyAll_1 rfl hl (by decide) rfl (fun ls hl => ?_)
  exact t_X10_copyAll_2 C FU M x0 x1 0 _ _ _ hf hw (lv_sub hl [1, 2, 0] rfl)
/-! StorkVoteModel.told0(I)I -/
abbrev rm_X10_told0 : Room := { frames := 0, cells := 0, slots := 0, locals := 0 }
def f_X10_told0 (M : Mem) (x0 : Int32) : Option (Int32 × Mem) := (if 0 ≤ x0 then some (x0, M) else some ((-1000000005), M))
set_option maxHeartbeats 4000000 in
set_option maxRecDepth 100000 in
theorem c_X10_told0 (l : Launch) (G : Gd) (A : Nat → Prop) (ad : Nat → Nat) {M : Mem} {x0 : Int32}  {r : Int32} {M' : Mem} (hf : f_X10_told0 M x0 = some (r, M')) : Ct l yX10_told0 cX10_told0 1 (some .int) rm_X10_told0 [.int x0] G A ad M (QI G A ad r M') 0 0 := by
  refine ct_start (by decide) (Nat.le_of_ble_eq_true rfl) ?_
  intro p e s m args below meth c ls C hin hw hl
  have C : Cx G A p s m args meth c RX10 cX10_told0 1 (some .int) := C
  have hl : lv_has ls 1 [(0, .int x0)] := hl
  obtain ⟨hx, hb, -⟩ := id C
  rw [f_X10_told0] at hf
  refine lv_iload_n hx hb dX10_told0_0 rfl (lv_at hl 0 rfl) ?_
  refine lv_if_ge (tgt := 9) hx hb dX10_told0_1 (by decide) (fun hc => ?_) (fun hc => ?_)
  · have hf := if_p hc hf
    refine lv_iload_n hx hb dX10_told0_9 rfl (lv_at hl 0 rfl) ?_
    exact e_iret C hw hf dX10_told0_10
  · have hf := if_n hc hf
    refine lv_ldc hx hb C.2.2.2.1 (C.2.2.2.2.1 _ kc_X10_88) dX10_told0_4 ?_
    refine lv_goto (tgt := 10) hx hb dX10_told0_6 (by decide) ?_
    exact e_iret C hw hf dX10_told0_10
/-! StorkVoteModel.isChimney(I)Z -/
abbrev rm_X10_isChimney : Room := { frames := 1, cells := 0, slots := 0, locals := 22 }
def f_X10_isChimney (M : Mem) (x0 : Nat) (x1 : Int32) : Option (Int32 × Mem) := gt (mT M x0) 11 (lp (mP M x0 0) (fun a2 => gt (mT M a2) 20 (gd (ib 1 (mL M a2)) (cl (f_X10_in M x1 0 ((mI M a2 (1 : Int32).toNatClampNeg) - 1)) (fun r7 M6 => gd (isB r7) (some (r7, M6)))))))
set_option maxHeartbeats 4000000 in
set_option maxRecDepth 100000 in
theorem c_X10_isChimney (l : Launch) (G : Gd) (A : Nat → Prop) (ad : Nat → Nat) {M : Mem} {x0 : Nat} {x1 : Int32}  {r : Int32} {M' : Mem} (hf : f_X10_isChimney M x0 x1 = some (r, M')) : Ct l yX10_isChimney cX10_isChimney 2 (some .boolean) rm_X10_isChimney [.ref (ad x0), .int x1] G A ad M (QI G A ad r M') 0 0 := by
  refine ct_start (by decide) (Nat.le_of_ble_eq_true rfl) ?_
  intro p e s m args below meth c ls C hin hw hl
  have C : Cx G A p s m args meth c RX10 cX10_isChimney 2 (some .boolean) := C
  have hl : lv_has ls 2 [(0, .ref (ad x0)), (1, .int x1)] := hl
  obtain ⟨hx, hb, -⟩ := id C
  rw [f_X10_isChimney] at hf
  refine lv_iload_n hx hb dX10_isChimney_0 rfl (lv_at hl 1 rfl) ?_
  refine lv_iconst (v := 0) hx hb dX10_isChimney_1 (by decide) ?_
  refine lv_aload_n hx hb dX10_isChimney_2 rfl (lv_at hl 0 rfl) ?_
  obtain ⟨hT1, hf⟩ := gt_inv hf
  obtain ⟨a2, hP3, hf⟩ := lp_inv hf
  refine r_getP C hw cf10 0 (by decide) rfl hT1 hP3 fl_X10_9 dX10_isChimney_3 ?_
  refine lv_iconst (v := 1) hx hb dX10_isChimney_6 (by decide) ?_
  obtain ⟨hT4, hf⟩ := gt_inv hf
  obtain ⟨hg5, hf⟩ := gd_inv hf
  refine r_iald C hw hT4 hg5 dX10_isChimney_7 ?_
  refine lv_iconst (v := 1) hx hb dX10_isChimney_8 (by decide) ?_
  refine lv_isub hx hb dX10_isChimney_9 ?_
  obtain ⟨r7, M6, hc8, hf⟩ := cl_inv hf
  refine fin_I (run_S C hw mf_X10_in ms_X10_in ml_X10_89 (c_X10_in l G A ad hc8) (As := [.int x1, .int 0, .int ((mI M a2 (1 : Int32).toNatClampNeg) - 1)]) (rest := []) hl.1 rfl rfl (Nat.le_of_ble_eq_true rfl) ⟨rfl, rfl, Nat.le_of_ble_eq_true rfl, Nat.le_of_ble_eq_true rfl⟩ ⟨Nat.zero_le _, Nat.zero_le _⟩ dX10_isChimney_10) hw (fun H locs hw => ?_)
  obtain ⟨hg9, hf⟩ := gd_inv hf
  exact e_zret C hw hg9 hf dX10_isChimney_13
/-! StorkVoteModel.isStork(I)Z -/
abbrev rm_X10_isStork : Room := { frames := 1, cells := 0, slots := 0, locals := 22 }
def f_X10_isStork (M : Mem) (x0 : Nat) (x1 : Int32) : Option (Int32 × Mem) := gt (mT M x0) 11 (lp (mP M x0 0) (fun a2 => gt (mT M a2) 20 (gd (ib 2 (mL M a2)) (cl (f_X10_in M x1 0 ((mI M a2 (2 : Int32).toNatClampNeg) - 1)) (fun r7 M6 => gd (isB r7) (some (r7, M6)))))))
set_option maxHeartbeats 4000000 in
set_option maxRecDepth 100000 in
theorem c_X10_isStork (l : Launch) (G : Gd) (A : Nat → Prop) (ad : Nat → Nat) {M : Mem} {x0 : Nat} {x1 : Int32}  {r : Int32} {M' : Mem} (hf : f_X10_isStork M x0 x1 = some (r, M')) : Ct l yX10_isStork cX10_isStork 2 (some .boolean) rm_X10_isStork [.ref (ad x0), .int x1] G A ad M (QI G A ad r M') 0 0 := by
  refine ct_start (by decide) (Nat.le_of_ble_eq_true rfl) ?_
  intro p e s m args below meth c ls C hin hw hl
  have C : Cx G A p s m args meth c RX10 cX10_isStork 2 (some .boolean) := C
  have hl : lv_has ls 2 [(0, .ref (ad x0)), (1, .int x1)] := hl
  obtain ⟨hx, hb, -⟩ := id C
  rw [f_X10_isStork] at hf
  refine lv_iload_n hx hb dX10_isStork_0 rfl (lv_at hl 1 rfl) ?_
  refine lv_iconst (v := 0) hx hb dX10_isStork_1 (by decide) ?_
  refine lv_aload_n hx hb dX10_isStork_2 rfl (lv_at hl 0 rfl) ?_
  obtain ⟨hT1, hf⟩ := gt_inv hf
  obtain ⟨a2, hP3, hf⟩ := lp_inv hf
  refine r_getP C hw cf10 0 (by decide) rfl hT1 hP3 fl_X10_9 dX10_isStork_3 ?_
  refine lv_iconst (v := 2) hx hb dX10_isStork_6 (by decide) ?_
  obtain ⟨hT4, hf⟩ := gt_inv hf
  obtain ⟨hg5, hf⟩ := gd_inv hf
  refine r_iald C hw hT4 hg5 dX10_isStork_7 ?_
  refine lv_iconst (v := 1) hx hb dX10_isStork_8 (by decide) ?_
  refine lv_isub hx hb dX10_isStork_9 ?_
  obtain ⟨r7, M6, hc8, hf⟩ := cl_inv hf
  refine fin_I (run_S C hw mf_X10_in ms_X10_in ml_X10_89 (c_X10_in l G A ad hc8) (As := [.int x1, .int 0, .int ((mI M a2 (2 : Int32).toNatClampNeg) - 1)]) (rest := []) hl.1 rfl rfl (Nat.le_of_ble_eq_true rfl) ⟨rfl, rfl, Nat.le_of_ble_eq_true rfl, Nat.le_of_ble_eq_true rfl⟩ ⟨Nat.zero_le _, Nat.zero_le _⟩ dX10_isStork_10) hw (fun H locs hw => ?_)
  obtain ⟨hg9, hf⟩ := gd_inv hf
  exact e_zret C hw hg9 hf dX10_isStork_13
/-! StorkVoteModel.isWard(I)Z -/
abbrev rm_X10_isWard : Room := { frames := 1, cells := 0, slots := 0, locals := 22 }
def f_X10_isWard (M : Mem) (x0 : Int32) : Option (Int32 × Mem) := cl (f_X10_in M x0 0 3) (fun r2 M1 => gd (isB r2) (some (r2, M1)))
set_option maxHeartbeats 4000000 in
set_option maxRecDepth 100000 in
theorem c_X10_isWard (l : Launch) (G : Gd) (A : Nat → Prop) (ad : Nat → Nat) {M : Mem} {x0 : Int32}  {r : Int32} {M' : Mem} (hf : f_X10_isWard M x0 = some (r, M')) : Ct l yX10_isWard cX10_isWard 1 (some .boolean) rm_X10_isWard [.int x0] G A ad M (QI G A ad r M') 0 0 := by
  refine ct_start (by decide) (Nat.le_of_ble_eq_true rfl) ?_
  intro p e s m args below meth c ls C hin hw hl
  have C : Cx G A p s m args meth c RX10 cX10_isWard 1 (some .boolean) := C
  have hl : lv_has ls 1 [(0, .int x0)] := hl
  obtain ⟨hx, hb, -⟩ := id C
  rw [f_X10_isWard] at hf
  refine lv_iload_n hx hb dX10_isWard_0 rfl (lv_at hl 0 rfl) ?_
  refine lv_iconst (v := 0) hx hb dX10_isWard_1 (by decide) ?_
  refine lv_iconst (v := 3) hx hb dX10_isWard_2 (by decide) ?_
  obtain ⟨r2, M1, hc3, hf⟩ := cl_inv hf
  refine fin_I (run_S C hw mf_X10_in ms_X10_in ml_X10_89 (c_X10_in l G A ad hc3) (As := [.int x0, .int 0, .int 3]) (rest := []) hl.1 rfl rfl (Nat.le_of_ble_eq_true rfl) ⟨rfl, rfl, Nat.le_of_ble_eq_true rfl, Nat.le_of_ble_eq_true rfl⟩ ⟨Nat.zero_le _, Nat.zero_le _⟩ dX10_isWard_3) hw (fun H locs hw => ?_)
  obtain ⟨hg4, hf⟩ := gd_inv hf
  exact e_zret C hw hg4 hf dX10_isWard_6
/-! StorkVoteModel.of(II)I -/
abbrev rm_X10_of : Room := { frames := 0, cells := 0, slots := 0, locals := 0 }
def f_X10_of (M : Mem) (x0 : Nat) (x1 : Int32) (x2 : Int32) : Option (Int32 × Mem) := gt (mT M x0) 11 (lp (mP M x0 0) (fun a2 => gt (mT M a2) 20 (gd (ib ((38 + (4 * x1)) + x2) (mL M a2)) (some ((mI M a2 ((38 + (4 * x1)) + x2).toNatClampNeg), M)))))
set_option maxHeartbeats 4000000 in
set_option maxRecDepth 100000 in
theorem c_X10_of (l : Launch) (G : Gd) (A : Nat → Prop) (ad : Nat → Nat) {M : Mem} {x0 : Nat} {x1 : Int32} {x2 : Int32}  {r : Int32} {M' : Mem} (hf : f_X10_of M x0 x1 x2 = some (r, M')) : Ct l yX10_of cX10_of 3 (some .int) rm_X10_of [.ref (ad x0), .int x1, .int x2] G A ad M (QI G A ad r M') 0 0 := by
  refine ct_start (by decide) (Nat.le_of_ble_eq_true rfl) ?_
  intro p e s m args below meth c ls C hin hw hl
  have C : Cx G A p s m args meth c RX10 cX10_of 3 (some .int) := C
  have hl : lv_has ls 3 [(0, .ref (ad x0)), (1, .int x1), (2, .int x2)] := hl
  obtain ⟨hx, hb, -⟩ := id C
  rw [f_X10_of] at hf
  refine lv_aload_n hx hb dX10_of_0 rfl (lv_at hl 0 rfl) ?_
  obtain ⟨hT1, hf⟩ := gt_inv hf
  obtain ⟨a2, hP3, hf⟩ := lp_inv hf
  refine r_getP C hw cf10 0 (by decide) rfl hT1 hP3 fl_X10_9 dX10_of_1 ?_
  refine lv_bipush (v := 38) hx hb dX10_of_4 (by decide) ?_
  refine lv_iconst (v := 4) hx hb dX10_of_6 (by decide) ?_
  refine lv_iload_n hx hb dX10_of_7 rfl (lv_at hl 1 rfl) ?_
  refine lv_imul hx hb dX10_of_8 ?_
  refine lv_iadd hx hb dX10_of_9 ?_
  refine lv_iload_n hx hb dX10_of_10 rfl (lv_at hl 2 rfl) ?_
  refine lv_iadd hx hb dX10_of_11 ?_
  obtain ⟨hT4, hf⟩ := gt_inv hf
  obtain ⟨hg5, hf⟩ := gd_inv hf
  refine r_iald C hw hT4 hg5 dX10_of_12 ?_
  exact e_iret C hw hf dX10_of_13
/-! StorkVoteModel.strong(I)I -/
abbrev rm_X10_strong : Room := { frames := 0, cells := 0, slots := 0, locals := 0 }
def f_X10_strong (M : Mem) (x0 : Nat) (x1 : Int32) : Option (Int32 × Mem) := gt (mT M x0) 11 (lp (mP M x0 0) (fun a2 => gt (mT M a2) 20 (gd (ib (8 + (3 * x1)) (mL M a2)) (some ((mI M a2 (8 + (3 * x1)).toNatClampNeg), M)))))
set_option maxHeartbeats 4000000 in
set_option maxRecDepth 100000 in
theorem c_X10_strong (l : Launch) (G : Gd) (A : Nat → Prop) (ad : Nat → Nat) {M : Mem} {x0 : Nat} {x1 : Int32}  {r : Int32} {M' : Mem} (hf : f_X10_strong M x0 x1 = some (r, M')) : Ct l yX10_strong cX10_strong 2 (some .int) rm_X10_strong [.ref (ad x0), .int x1] G A ad M (QI G A ad r M') 0 0 := by
  refine ct_start (by decide) (Nat.le_of_ble_eq_true rfl) ?_
  intro p e s m args below meth c ls C hin hw hl
  have C : Cx G A p s m args meth c RX10 cX10_strong 2 (some .int) := C
  have hl : lv_has ls 2 [(0, .ref (ad x0)), (1, .int x1)] := hl
  obtain ⟨hx, hb, -⟩ := id C
  rw [f_X10_strong] at hf
  refine lv_aload_n hx hb dX10_strong_0 rfl (lv_at hl 0 rfl) ?_
  obtain ⟨hT1, hf⟩ := gt_inv hf
  obtain ⟨a2, hP3, hf⟩ := lp_inv hf
  refine r_getP C hw cf10 0 (by decide) rfl hT1 hP3 fl_X10_9 dX10_strong_1 ?_
  refine lv_bipush (v := 8) hx hb dX10_strong_4 (by decide) ?_
  refine lv_iconst (v := 3) hx hb dX10_strong_6 (by decide) ?_
  refine lv_iload_n hx hb dX10_strong_7 rfl (lv_at hl 1 rfl) ?_
  refine lv_imul hx hb dX10_strong_8 ?_
  refine lv_iadd hx hb dX10_strong_9 ?_
  obtain ⟨hT4, hf⟩ := gt_inv hf
  obtain ⟨hg5, hf⟩ := gd_inv hf
  refine r_iald C hw hT4 hg5 dX10_strong_10 ?_
  exact e_iret C hw hf dX10_strong_11
/-! StorkVoteModel.isAway(I)Z -/
abbrev rm_X10_isAway : Room := { frames := 0, cells := 0, slots := 0, locals := 0 }
def f_X10_isAway (M : Mem) (x0 : Nat) (x1 : Int32) : Option (Int32 × Mem) := gt (mT M x0) 11 (lp (mP M x0 0) (fun a2 => gt (mT M a2) 20 (gd (ib ((8 + (3 * x1)) + 2) (mL M a2)) ((if (mI M a2 ((8 + (3 * x1)) + 2).toNatClampNeg) = 1 then some (1, M) else some (0, M))))))
set_option maxHeartbeats 4000000 in
set_option maxRecDepth 100000 in
theorem c_X10_isAway (l : Launch) (G : Gd) (A : Nat → Prop) (ad : Nat → Nat) {M : Mem} {x0 : Nat} {x1 : Int32}  {r : Int32} {M' : Mem} (hf : f_X10_isAway M x0 x1 = some (r, M')) : Ct l yX10_isAway cX10_isAway 2 (some .boolean) rm_X10_isAway [.ref (ad x0), .int x1] G A ad M (QI G A ad r M') 0 0 := by
  refine ct_start (by decide) (Nat.le_of_ble_eq_true rfl) ?_
  intro p e s m args below meth c ls C hin hw hl
  have C : Cx G A p s m args meth c RX10 cX10_isAway 2 (some .boolean) := C
  have hl : lv_has ls 2 [(0, .ref (ad x0)), (1, .int x1)] := hl
  obtain ⟨hx, hb, -⟩ := id C
  rw [f_X10_isAway] at hf
  refine lv_aload_n hx hb dX10_isAway_0 rfl (lv_at hl 0 rfl) ?_
  obtain ⟨hT1, hf⟩ := gt_inv hf
  obtain ⟨a2, hP3, hf⟩ := lp_inv hf
  refine r_getP C hw cf10 0 (by decide) rfl hT1 hP3 fl_X10_9 dX10_isAway_1 ?_
  refine lv_bipush (v := 8) hx hb dX10_isAway_4 (by decide) ?_
  refine lv_iconst (v := 3) hx hb dX10_isAway_6 (by decide) ?_
  refine lv_iload_n hx hb dX10_isAway_7 rfl (lv_at hl 1 rfl) ?_
  refine lv_imul hx hb dX10_isAway_8 ?_
  refine lv_iadd hx hb dX10_isAway_9 ?_
  refine lv_iconst (v := 2) hx hb dX10_isAway_10 (by decide) ?_
  refine lv_iadd hx hb dX10_isAway_11 ?_
  obtain ⟨hT4, hf⟩ := gt_inv hf
  obtain ⟨hg5, hf⟩ := gd_inv hf
  refine r_iald C hw hT4 hg5 dX10_isAway_12 ?_
  refine lv_iconst (v := 1) hx hb dX10_isAway_13 (by decide) ?_
  refine lv_icmp_ne (tgt := 21) hx hb dX10_isAway_14 (by decide) (fun hc => ?_) (fun hc => ?_)
  · have hf := if_n hc hf
    refine lv_iconst (v := 0) hx hb dX10_isAway_21 (by decide) ?_
    exact e_zret C hw rfl hf dX10_isAway_22
  · have hf := if_p hc hf
    refine lv_iconst (v := 1) hx hb dX10_isAway_17 (by decide) ?_
    refine lv_goto (tgt := 22) hx hb dX10_isAway_18 (by decide) ?_
    exact e_zret C hw rfl hf dX10_isAway_22
/-! StorkVoteModel.becomes(II)I -/
abbrev rm_X10_becomes : Room := { frames := 0, cells := 0, slots := 0, locals := 0 }
def f_X10_becomes (M : Mem) (x0 : Nat) (x1 : Int32) (x2 : Int32) : Option (Int32 × Mem) := gt (mT M x0) 11 (lp (mP M x0 0) (fun a2 => gt (mT M a2) 20 (gd (ib x1 (mL M a2)) (gd (ib x1 (mL M a2)) (st (setI M a2 x1.toNatClampNeg x2) (fun M7 => some ((mI M a2 x1.toNatClampNeg), M7)))))))
set_option maxHeartbeats 4000000 in
set_option maxRecDepth 100000 in
theorem c_X10_becomes (l : Launch) (G : Gd) (A : Nat → Prop) (ad : Nat → Nat) {M : Mem} {x0 : Nat} {x1 : Int32} {x2 : Int32}  {r : Int32} {M' : Mem} (hf : f_X10_becomes M x0 x1 x2 = some (r, M')) : Ct l yX10_becomes cX10_becomes 4 (some .int) rm_X10_becomes [.ref (ad x0), .int x1, .int x2] G A ad M (QI G A ad r M') 0 0 := by
  refine ct_start (by decide) (Nat.le_of_ble_eq_true rfl) ?_
  intro p e s m args below meth c ls C hin hw hl
  have C : Cx G A p s m args meth c RX10 cX10_becomes 4 (some .int) := C
  have hl : lv_has ls 4 [(0, .ref (ad x0)), (1, .int x1), (2, .int x2)] := hl
  obtain ⟨hx, hb, -⟩ := id C
  rw [f_X10_becomes] at hf
  refine lv_aload_n hx hb dX10_becomes_0 rfl (lv_at hl 0 rfl) ?_
  obtain ⟨hT1, hf⟩ := gt_inv hf
  obtain ⟨a2, hP3, hf⟩ := lp_inv hf
  refine r_getP C hw cf10 0 (by decide) rfl hT1 hP3 fl_X10_9 dX10_becomes_1 ?_
  refine lv_iload_n hx hb dX10_becomes_4 rfl (lv_at hl 1 rfl) ?_
  obtain ⟨hT4, hf⟩ := gt_inv hf
  obtain ⟨hg5, hf⟩ := gd_inv hf
  refine r_iald C hw hT4 hg5 dX10_becomes_5 ?_
  refine lv_istore_n (lv' := [(3, .int (mI M a2 x1.toNatClampNeg)), (0, .ref (ad x0)), (1, .int x1), (2, .int x2)]) hx hb dX10_becomes_6 rfl hl (by decide) rfl (fun ls hl => ?_)
  refine lv_aload_n hx hb dX10_becomes_7 rfl (lv_at hl 1 rfl) ?_
  refine r_getP C hw cf10 0 (by decide) rfl hT1 hP3 fl_X10_9 dX10_becomes_8 ?_
  refine lv_iload_n hx hb dX10_becomes_11 rfl (lv_at hl 2 rfl) ?_
  refine lv_iload_n hx hb dX10_becomes_12 rfl (lv_at hl 3 rfl) ?_
  obtain ⟨hg6, hf⟩ := gd_inv hf
  obtain ⟨M7, e8, hf⟩ := st_inv hf
  have g9 := sg_I e8
  refine r_iast C hw hT4 hg6 e8 dX10_becomes_13 (fun H locs hw => ?_)
  refine lv_iload_n hx hb dX10_becomes_14 rfl (lv_at hl 0 rfl) ?_
  exact e_iret C hw hf dX10_becomes_15
/-! StorkVoteModel.comes(IIII)I -/
abbrev rm_X10_comes : Room := { frames := 0, cells := 0, slots := 0, locals := 0 }
def f_X10_comes (M : Mem) (x0 : Nat) (x1 : Int32) (x2 : Int32) (x3 : Int32) (x4 : Int32) : Option (Int32 × Mem) := gt (mT M x0) 11 (lp (mP M x0 0) (fun a2 => gt (mT M a2) 20 (gd (ib 1 (mL M a2)) (gd (ib (38 + (4 * (mI M a2 (1 : Int32).toNatClampNeg))) (mL M a2)) (st (setI M a2 (38 + (4 * (mI M a2 (1 : Int32).toNatClampNeg))).toNatClampNeg x1) (fun M7 => gd (ib ((38 + (4 * (mI M a2 (1 : Int32).toNatClampNeg))) + 1) (mL M7 a2)) (st (setI M7 a2 ((38 + (4 * (mI M a2 (1 : Int32).toNatClampNeg))) + 1).toNatClampNeg x2) (fun M11 => gd (ib ((38 + (4 * (mI M a2 (1 : Int32).toNatClampNeg))) + 2) (mL M11 a2)) (st (setI M11 a2 ((38 + (4 * (mI M a2 (1 : Int32).toNatClampNeg))) + 2).toNatClampNeg x3) (fun M15 => gd (ib ((38 + (4 * (mI M a2 (1 : Int32).toNatClampNeg))) + 3) (mL M15 a2)) (st (setI M15 a2 ((38 + (4 * (mI M a2 (1 : Int32).toNatClampNeg))) + 3).toNatClampNeg x4) (fun M19 => gd (ib 1 (mL M19 a2)) (gd (ib 1 (mL M19 a2)) (st (setI M19 a2 (1 : Int32).toNatClampNeg ((mI M19 a2 (1 : Int32).toNatClampNeg) + 1)) (fun M24 => gd (ib 1 (mL M24 a2)) (some (((mI M24 a2 (1 : Int32).toNatClampNeg) - 1), M24)))))))))))))))))
set_option maxHeartbeats 4000000 in
set_option maxRecDepth 100000 in
theorem c_X10_comes (l : Launch) (G : Gd) (A : Nat → Prop) (ad : Nat → Nat) {M : Mem} {x0 : Nat} {x1 : Int32} {x2 : Int32} {x3 : Int32} {x4 : Int32}  {r : Int32} {M' : Mem} (hf : f_X10_comes M x0 x1 x2 x3 x4 = some (r, M')) : Ct l yX10_comes cX10_comes 6 (some .int) rm_X10_comes [.ref (ad x0), .int x1, .int x2, .int x3, .int x4] G A ad M (QI G A ad r M') 0 0 := by
  refine ct_start (by decide) (Nat.le_of_ble_eq_true rfl) ?_
  intro p e s m args below meth c ls C hin hw hl
  have C : Cx G A p s m args meth c RX10 cX10_comes 6 (some .int) := C
  have hl : lv_has ls 6 [(0, .ref (ad x0)), (1, .int x1), (2, .int x2), (3, .int x3), (4, .int x4)] := hl
  obtain ⟨hx, hb, -⟩ := id C
  rw [f_X10_comes] at hf
  refine lv_bipush (v := 38) hx hb dX10_comes_0 (by decide) ?_
  refine lv_iconst (v := 4) hx hb dX10_comes_2 (by decide) ?_
  refine lv_aload_n hx hb dX10_comes_3 rfl (lv_at hl 0 rfl) ?_
  obtain ⟨hT1, hf⟩ := gt_inv hf
  obtain ⟨a2, hP3, hf⟩ := lp_inv hf
  refine r_getP C hw cf10 0 (by decide) rfl hT1 hP3 fl_X10_9 dX10_comes_4 ?_
  refine lv_iconst (v := 1) hx hb dX10_comes_7 (by decide) ?_
  obtain ⟨hT4, hf⟩ := gt_inv hf
  obtain ⟨hg5, hf⟩ := gd_inv hf
  refine r_iald C hw hT4 hg5 dX10_comes_8 ?_
  refine lv_imul hx hb dX10_comes_9 ?_
  refine lv_iadd hx hb dX10_comes_10 ?_
  refine lv_istore (lv' := [(5, .int (38 + (4 * (mI M a2 (1 : Int32).toNatClampNeg)))), (0, .ref (ad x0)), (1, .int x1), (2, .int x2), (3, .int x3), (4, .int x4)]) hx hb dX10_comes_11 hl (by decide) rfl (fun ls hl => ?_)
  refine lv_aload_n hx hb dX10_comes_13 rfl (lv_at hl 1 rfl) ?_
  refine r_getP C hw cf10 0 (by decide) rfl hT1 hP3 fl_X10_9 dX10_comes_14 ?_
  refine lv_iload hx hb dX10_comes_17 (lv_at hl 0 rfl) ?_
  refine lv_iload_n hx hb dX10_comes_19 rfl (lv_at hl 2 rfl) ?_
  obtain ⟨hg6, hf⟩ := gd_inv hf
  obtain ⟨M7, e8, hf⟩ := st_inv hf
  have g9 := sg_I e8
  refine r_iast C hw hT4 hg6 e8 dX10_comes_20 (fun H locs hw => ?_)
  refine lv_aload_n hx hb dX10_comes_21 rfl (lv_at hl 1 rfl) ?_
  refine r_getP C hw cf10 0 (by decide) rfl (T_of g9 hT1) (P_of g9 hP3) fl_X10_9 dX10_comes_22 ?_
  refine lv_iload hx hb dX10_comes_25 (lv_at hl 0 rfl) ?_
  refine lv_iconst (v := 1) hx hb dX10_comes_27 (by decide) ?_
  refine lv_iadd hx hb dX10_comes_28 ?_
  refine lv_iload_n hx hb dX10_comes_29 rfl (lv_at hl 3 rfl) ?_
  obtain ⟨hg10, hf⟩ := gd_inv hf
  obtain ⟨M11, e12, hf⟩ := st_inv hf
  have g13 := sg_I e12
  refine r_iast C hw (T_of g9 hT4) hg10 e12 dX10_comes_30 (fun H locs hw => ?_)
  refine lv_aload_n hx hb dX10_comes_31 rfl (lv_at hl 1 rfl) ?_
  refine r_getP C hw cf10 0 (by decide) rfl (T_of g13 (T_of g9 hT1)) (P_of g13 (P_of g9 hP3)) fl_X10_9 dX10_comes_32 ?_
  refine lv_iload hx hb dX10_comes_35 (lv_at hl 0 rfl) ?_
  refine lv_iconst (v := 2) hx hb dX10_comes_37 (by decide) ?_
  refine lv_iadd hx hb dX10_comes_38 ?_
  refine lv_iload_n hx hb dX10_comes_39 rfl (lv_at hl 4 rfl) ?_
  obtain ⟨hg14, hf⟩ := gd_inv hf
  obtain ⟨M15, e16, hf⟩ := st_inv hf
  have g17 := sg_I e16
  refine r_iast C hw (T_of g13 (T_of g9 hT4)) hg14 e16 dX10_comes_40 (fun H locs hw => ?_)
  refine lv_aload_n hx hb dX10_comes_41 rfl (lv_at hl 1 rfl) ?_
  refine r_getP C hw cf10 0 (by decide) rfl (T_of g17 (T_of g13 (T_of g9 hT1))) (P_of g17 (P_of g13 (P_of g9 hP3))) fl_X10_9 dX10_comes_42 ?_
  refine lv_iload hx hb dX10_comes_45 (lv_at hl 0 rfl) ?_
  refine lv_iconst (v := 3) hx hb dX10_comes_47 (by decide) ?_
  refine lv_iadd hx hb dX10_comes_48 ?_
  refine lv_iload hx hb dX10_comes_49 (lv_at hl 5 rfl) ?_
  obtain ⟨hg18, hf⟩ := gd_inv hf
  obtain ⟨M19, e20, hf⟩ := st_inv hf
  have g21 := sg_I e20
  refine r_iast C hw (T_of g17 (T_of g13 (T_of g9 hT4))) hg18 e20 dX10_comes_51 (fun H locs hw => ?_)
  refine lv_aload_n hx hb dX10_comes_52 rfl (lv_at hl 1 rfl) ?_
  refine r_getP C hw cf10 0 (by decide) rfl (T_of g21 (T_of g17 (T_of g13 (T_of g9 hT1)))) (P_of g21 (P_of g17 (P_of g13 (P_of g9 hP3)))) fl_X10_9 dX10_comes_53 ?_
  refine lv_iconst (v := 1) hx hb dX10_comes_56 (by decide) ?_
  refine lv_dup2_11 hx hb dX10_comes_57 rfl rfl ?_
  obtain ⟨hg22, hf⟩ := gd_inv hf
  refine r_iald C hw (T_of g21 (T_of g17 (T_of g13 (T_of g9 hT4)))) hg22 dX10_comes_58 ?_
  refine lv_iconst (v := 1) hx hb dX10_comes_59 (by decide) ?_
  refine lv_iadd hx hb dX10_comes_60 ?_
  obtain ⟨hg23, hf⟩ := gd_inv hf
  obtain ⟨M24, e25, hf⟩ := st_inv hf
  have g26 := sg_I e25
  refine r_iast C hw (T_of g21 (T_of g17 (T_of g13 (T_of g9 hT4)))) hg23 e25 dX10_comes_61 (fun H locs hw => ?_)
  refine lv_aload_n hx hb dX10_comes_62 rfl (lv_at hl 1 rfl) ?_
  refine r_getP C hw cf10 0 (by decide) rfl (T_of g26 (T_of g21 (T_of g17 (T_of g13 (T_of g9 hT1))))) (P_of g26 (P_of g21 (P_of g17 (P_of g13 (P_of g9 hP3))))) fl_X10_9 dX10_comes_63 ?_
  refine lv_iconst (v := 1) hx hb dX10_comes_66 (by decide) ?_
  obtain ⟨hg27, hf⟩ := gd_inv hf
  refine r_iald C hw (T_of g26 (T_of g21 (T_of g17 (T_of g13 (T_of g9 hT4))))) hg27 dX10_comes_67 ?_
  refine lv_iconst (v := 1) hx hb dX10_comes_68 (by decide) ?_
  refine lv_isub hx hb dX10_comes_69 ?_
  exact e_iret C hw hf dX10_comes_70
/-! StorkVoteModel.chimney(IIII)I -/
abbrev rm_X10_chimney : Room := { frames := 2, cells := 0, slots := 0, locals := 42 }
def f_X10_chimney (M : Mem) (x0 : Nat) (x1 : Int32) (x2 : Int32) (x3 : Int32) (x4 : Int32) : Option (Int32 × Mem) := cl (f_X10_in M x1 0 5) (fun r2 M1 => (if r2 = 0 then some ((-1000000001), M1) else cl (f_X10_isWard M1 x2) (fun r5 M4 => (if r5 = 0 then some ((-1000000001), M4) else cl (f_X10_in M4 x3 0 99) (fun r8 M7 => (if r8 = 0 then some ((-1000000001), M7) else cl (f_X10_in M7 x4 0 99) (fun r11 M10 => (if r11 = 0 then some ((-1000000001), M10) else gt (mT M10 x0) 11 (lp (mP M10 x0 0) (fun a14 => gt (mT M10 a14) 20 (gd (ib 1 (mL M10 a14)) ((if (mI M10 a14 (1 : Int32).toNatClampNeg) = 8 then some ((-1000000003), M10) else cl (f_X10_comes M10 x0 x1 x2 x3 x4) (fun r19 M18 => some (r19, M18)))))))))))))))
set_option maxHeartbeats 4000000 in
set_option maxRecDepth 100000 in
theorem c_X10_chimney (l : Launch) (G : Gd) (A : Nat → Prop) (ad : Nat → Nat) {M : Mem} {x0 : Nat} {x1 : Int32} {x2 : Int32} {x3 : Int32} {x4 : Int32}  {r : Int32} {M' : Mem} (hf : f_X10_chimney M x0 x1 x2 x3 x4 = some (r, M')) : Ct l yX10_chimney cX10_chimney 5 (some .int) rm_X10_chimney [.ref (ad x0), .int x1, .int x2, .int x3, .int x4] G A ad M (QI G A ad r M') 0 0 := by
  refine ct_start (by decide) (Nat.le_of_ble_eq_true rfl) ?_
  intro p e s m args below meth c ls C hin hw hl
  have C : Cx G A p s m args meth c RX10 cX10_chimney 5 (some .int) := C
  have hl : lv_has ls 5 [(0, .ref (ad x0)), (1, .int x1), (2, .int x2), (3, .int x3), (4, .int x4)] := hl
  obtain ⟨hx, hb, -⟩ := id C
  rw [f_X10_chimney] at hf
  refine lv_iload_n hx hb dX10_chimney_0 rfl (lv_at hl 1 rfl) ?_
  refine lv_iconst (v := 0) hx hb dX10_chimney_1 (by decide) ?_
  refine lv_iconst (v := 5) hx hb dX10_chimney_2 (by decide) ?_
  obtain ⟨r2, M1, hc3, hf⟩ := cl_inv hf
  refine fin_I (run_S C hw mf_X10_in ms_X10_in ml_X10_89 (c_X10_in l G A ad hc3) (As := [.int x1, .int 0, .int 5]) (rest := []) hl.1 rfl rfl (Nat.le_of_ble_eq_true rfl) ⟨rfl, rfl, Nat.le_of_ble_eq_true rfl, Nat.le_of_ble_eq_true rfl⟩ ⟨Nat.zero_le _, Nat.zero_le _⟩ dX10_chimney_3) hw (fun H locs hw => ?_)
  refine lv_if_eq (tgt := 37) hx hb dX10_chimney_6 (by decide) (fun hc => ?_) (fun hc => ?_)
  · have hf := if_p hc hf
    refine lv_ldc hx hb C.2.2.2.1 (C.2.2.2.2.1 _ kc_X10_97) dX10_chimney_37 ?_
    exact e_iret C hw hf dX10_chimney_39
  · have hf := if_n hc hf
    refine lv_iload_n hx hb dX10_chimney_9 rfl (lv_at hl 2 rfl) ?_
    obtain ⟨r5, M4, hc6, hf⟩ := cl_inv hf
    refine fin_I (run_S C hw mf_X10_isWard ms_X10_isWard ml_X10_93 (c_X10_isWard l G A ad hc6) (As := [.int x2]) (rest := []) hl.1 rfl rfl (Nat.le_of_ble_eq_true rfl) ⟨rfl, rfl, Nat.le_of_ble_eq_true rfl, Nat.le_of_ble_eq_true rfl⟩ ⟨Nat.zero_le _, Nat.zero_le _⟩ dX10_chimney_10) hw (fun H locs hw => ?_)
    refine lv_if_eq (tgt := 37) hx hb dX10_chimney_13 (by decide) (fun hc => ?_) (fun hc => ?_)
    · have hf := if_p hc hf
      refine lv_ldc hx hb C.2.2.2.1 (C.2.2.2.2.1 _ kc_X10_97) dX10_chimney_37 ?_
      exact e_iret C hw hf dX10_chimney_39
    · have hf := if_n hc hf
      refine lv_iload_n hx hb dX10_chimney_16 rfl (lv_at hl 3 rfl) ?_
      refine lv_iconst (v := 0) hx hb dX10_chimney_17 (by decide) ?_
      refine lv_bipush (v := 99) hx hb dX10_chimney_18 (by decide) ?_
      obtain ⟨r8, M7, hc9, hf⟩ := cl_inv hf
      refine fin_I (run_S C hw mf_X10_in ms_X10_in ml_X10_89 (c_X10_in l G A ad hc9) (As := [.int x3, .int 0, .int 99]) (rest := []) hl.1 rfl rfl (Nat.le_of_ble_eq_true rfl) ⟨rfl, rfl, Nat.le_of_ble_eq_true rfl, Nat.le_of_ble_eq_true rfl⟩ ⟨Nat.zero_le _, Nat.zero_le _⟩ dX10_chimney_20) hw (fun H locs hw => ?_)
      refine lv_if_eq (tgt := 37) hx hb dX10_chimney_23 (by decide) (fun hc => ?_) (fun hc => ?_)
      · have hf := if_p hc hf
        refine lv_ldc hx hb C.2.2.2.1 (C.2.2.2.2.1 _ kc_X10_97) dX10_chimney_37 ?_
        exact e_iret C hw hf dX10_chimney_39
      · have hf := if_n hc hf
        refine lv_iload hx hb dX10_chimney_26 (lv_at hl 4 rfl) ?_
        refine lv_iconst (v := 0) hx hb dX10_chimney_28 (by decide) ?_
        refine lv_bipush (v := 99) hx hb dX10_chimney_29 (by decide) ?_
        obtain ⟨r11, M10, hc12, hf⟩ := cl_inv hf
        refine fin_I (run_S C hw mf_X10_in ms_X10_in ml_X10_89 (c_X10_in l G A ad hc12) (As := [.int x4, .int 0, .int 99]) (rest := []) hl.1 rfl rfl (Nat.le_of_ble_eq_true rfl) ⟨rfl, rfl, Nat.le_of_ble_eq_true rfl, Nat.le_of_ble_eq_true rfl⟩ ⟨Nat.zero_le _, Nat.zero_le _⟩ dX10_chimney_31) hw (fun H locs hw => ?_)
        refine lv_if_ne (tgt := 40) hx hb dX10_chimney_34 (by decide) (fun hc => ?_) (fun hc => ?_)
        · have hf := if_n hc hf
          refine lv_aload_n hx hb dX10_chimney_40 rfl (lv_at hl 0 rfl) ?_
          obtain ⟨hT13, hf⟩ := gt_inv hf
          obtain ⟨a14, hP15, hf⟩ := lp_inv hf
          refine r_getP C hw cf10 0 (by decide) rfl hT13 hP15 fl_X10_9 dX10_chimney_41 ?_
          refine lv_iconst (v := 1) hx hb dX10_chimney_44 (by decide) ?_
          obtain ⟨hT16, hf⟩ := gt_inv hf
          obtain ⟨hg17, hf⟩ := gd_inv hf
          refine r_iald C hw hT16 hg17 dX10_chimney_45 ?_
          refine lv_bipush (v := 8) hx hb dX10_chimney_46 (by decide) ?_
          refine lv_icmp_ne (tgt := 56) hx hb dX10_chimney_48 (by decide) (fun hc => ?_) (fun hc => ?_)
          · have hf := if_n hc hf
            refine lv_aload_n hx hb dX10_chimney_56 rfl (lv_at hl 0 rfl) ?_
            refine lv_iload_n hx hb dX10_chimney_57 rfl (lv_at hl 1 rfl) ?_
            refine lv_iload_n hx hb dX10_chimney_58 rfl (lv_at hl 2 rfl) ?_
            refine lv_iload_n hx hb dX10_chimney_59 rfl (lv_at hl 3 rfl) ?_
            refine lv_iload hx hb dX10_chimney_60 (lv_at hl 4 rfl) ?_
            obtain ⟨r19, M18, hc20, hf⟩ := cl_inv hf
            refine fin_I (run_V C hw mf_X10_comes mv_X10_comes ml_X10_99 cf10 hT13 (c_X10_comes l G A ad hc20) (As := [.int x1, .int x2, .int x3, .int x4]) (rest := []) hl.1 rfl rfl (Nat.le_of_ble_eq_true rfl) ⟨rfl, rfl, Nat.le_of_ble_eq_true rfl, Nat.le_of_ble_eq_true rfl⟩ ⟨Nat.zero_le _, Nat.zero_le _⟩ dX10_chimney_62) hw (fun H locs hw => ?_)
            exact e_iret C hw hf dX10_chimney_65
          · have hf := if_p hc hf
            refine lv_ldc hx hb C.2.2.2.1 (C.2.2.2.2.1 _ kc_X10_98) dX10_chimney_51 ?_
            refine lv_goto (tgt := 65) hx hb dX10_chimney_53 (by decide) ?_
            exact e_iret C hw hf dX10_chimney_65
        · have hf := if_p hc hf
          refine lv_ldc hx hb C.2.2.2.1 (C.2.2.2.2.1 _ kc_X10_97) dX10_chimney_37 ?_
          exact e_iret C hw hf dX10_chimney_39
/-! StorkVoteModel.worthOf(I)I -/
abbrev rm_X10_worthOf : Room := { frames := 1, cells := 0, slots := 0, locals := 22 }
def f_X10_worthOf (M : Mem) (x0 : Nat) (x1 : Int32) : Option (Int32 × Mem) := gt (mT M x0) 11 (cl (f_X10_of M x0 x1 2) (fun r2 M1 => gt (mT M1 x0) 11 (cl (f_X10_of M1 x0 x1 0) (fun r6 M5 => (if r6 = 1 then gt (mT M5 x0) 11 (cl (f_X10_of M5 x0 x1 3) (fun r11 M10 => some ((r2 + r11), M10))) else if r6 = 2 then some ((99 - r2), M5) else if r6 = 3 then gt (mT M5 x0) 11 (cl (f_X10_of M5 x0 x1 3) (fun r17 M16 => some ((2 * (r2 + r17)), M16))) else if r6 = 4 then some ((92 - r2), M5) else if r6 = 5 then some (2, M5) else some (r2, M5))))))
set_option maxHeartbeats 4000000 in
set_option maxRecDepth 100000 in
theorem c_X10_worthOf (l : Launch) (G : Gd) (A : Nat → Prop) (ad : Nat → Nat) {M : Mem} {x0 : Nat} {x1 : Int32}  {r : Int32} {M' : Mem} (hf : f_X10_worthOf M x0 x1 = some (r, M')) : Ct l yX10_worthOf cX10_worthOf 3 (some .int) rm_X10_worthOf [.ref (ad x0), .int x1] G A ad M (QI G A ad r M') 0 0 := by
  refine ct_start (by decide) (Nat.le_of_ble_eq_true rfl) ?_
  intro p e s m args below meth c ls C hin hw hl
  have C : Cx G A p s m args meth c RX10 cX10_worthOf 3 (some .int) := C
  have hl : lv_has ls 3 [(0, .ref (ad x0)), (1, .int x1)] := hl
  obtain ⟨hx, hb, -⟩ := id C
  rw [f_X10_worthOf] at hf
  refine lv_aload_n hx hb dX10_worthOf_0 rfl (lv_at hl 0 rfl) ?_
  refine lv_iload_n hx hb dX10_worthOf_1 rfl (lv_at hl 1 rfl) ?_
  refine lv_iconst (v := 2) hx hb dX10_worthOf_2 (by decide) ?_
  obtain ⟨hT4, hf⟩ := gt_inv hf
  obtain ⟨r2, M1, hc3, hf⟩ := cl_inv hf
  refine fin_I (run_V C hw mf_X10_of mv_X10_of ml_X10_103 cf10 hT4 (c_X10_of l G A ad hc3) (As := [.int x1, .int 2]) (rest := []) hl.1 rfl rfl (Nat.le_of_ble_eq_true rfl) ⟨rfl, rfl, Nat.le_of_ble_eq_true rfl, Nat.le_of_ble_eq_true rfl⟩ ⟨Nat.zero_le _, Nat.zero_le _⟩ dX10_worthOf_3) hw (fun H locs hw => ?_)
  refine lv_istore_n (lv' := [(2, .int r2), (0, .ref (ad x0)), (1, .int x1)]) hx hb dX10_worthOf_6 rfl hl (by decide) rfl (fun ls hl => ?_)
  refine lv_aload_n hx hb dX10_worthOf_7 rfl (lv_at hl 1 rfl) ?_
  refine lv_iload_n hx hb dX10_worthOf_8 rfl (lv_at hl 2 rfl) ?_
  refine lv_iconst (v := 0) hx hb dX10_worthOf_9 (by decide) ?_
  obtain ⟨hT8, hf⟩ := gt_inv hf
  obtain ⟨r6, M5, hc7, hf⟩ := cl_inv hf
  refine fin_I (run_V C hw mf_X10_of mv_X10_of ml_X10_103 cf10 hT8 (c_X10_of l G A ad hc7) (As := [.int x1, .int 0]) (rest := []) hl.1 rfl rfl (Nat.le_of_ble_eq_true rfl) ⟨rfl, rfl, Nat.le_of_ble_eq_true rfl, Nat.le_of_ble_eq_true rfl⟩ ⟨Nat.zero_le _, Nat.zero_le _⟩ dX10_worthOf_10) hw (fun H locs hw => ?_)
  by_cases hc9 : r6 = 1
  · have hf := if_p hc9 hf
    refine r_tabIn 1 hc9 hx hb dX10_worthOf_13 (by decide) (by decide) rfl (tgt := 48) (by decide) ?_
    refine lv_iload_n hx hb dX10_worthOf_48 rfl (lv_at hl 0 rfl) ?_
    refine lv_aload_n hx hb dX10_worthOf_49 rfl (lv_at hl 1 rfl) ?_
    refine lv_iload_n hx hb dX10_worthOf_50 rfl (lv_at hl 2 rfl) ?_
    refine lv_iconst (v := 3) hx hb dX10_worthOf_51 (by decide) ?_
    obtain ⟨hT13, hf⟩ := gt_inv hf
    obtain ⟨r11, M10, hc12, hf⟩ := cl_inv hf
    refine fin_I (run_V C hw mf_X10_of mv_X10_of ml_X10_103 cf10 hT13 (c_X10_of l G A ad hc12) (As := [.int x1, .int 3]) (rest := [.int r2]) hl.1 rfl rfl (Nat.le_of_ble_eq_true rfl) ⟨rfl, rfl, Nat.le_of_ble_eq_true rfl, Nat.le_of_ble_eq_true rfl⟩ ⟨Nat.zero_le _, Nat.zero_le _⟩ dX10_worthOf_52) hw (fun H locs hw => ?_)
    refine lv_iadd hx hb dX10_worthOf_55 ?_
    exact e_iret C hw hf dX10_worthOf_56
  · have hf := if_n hc9 hf
    by_cases hc14 : r6 = 2
    · have hf := if_p hc14 hf
      refine r_tabIn 2 hc14 hx hb dX10_worthOf_13 (by decide) (by decide) rfl (tgt := 57) (by decide) ?_
      refine lv_bipush (v := 99) hx hb dX10_worthOf_57 (by decide) ?_
      refine lv_iload_n hx hb dX10_worthOf_59 rfl (lv_at hl 0 rfl) ?_
      refine lv_isub hx hb dX10_worthOf_60 ?_
      exact e_iret C hw hf dX10_worthOf_61
    · have hf := if_n hc14 hf
      by_cases hc15 : r6 = 3
      · have hf := if_p hc15 hf
        refine r_tabIn 3 hc15 hx hb dX10_worthOf_13 (by decide) (by decide) rfl (tgt := 62) (by decide) ?_
        refine lv_iconst (v := 2) hx hb dX10_worthOf_62 (by decide) ?_
        refine lv_iload_n hx hb dX10_worthOf_63 rfl (lv_at hl 0 rfl) ?_
        refine lv_aload_n hx hb dX10_worthOf_64 rfl (lv_at hl 1 rfl) ?_
        refine lv_iload_n hx hb dX10_worthOf_65 rfl (lv_at hl 2 rfl) ?_
        refine lv_iconst (v := 3) hx hb dX10_worthOf_66 (by decide) ?_
        obtain ⟨hT19, hf⟩ := gt_inv hf
        obtain ⟨r17, M16, hc18, hf⟩ := cl_inv hf
        refine fin_I (run_V C hw mf_X10_of mv_X10_of ml_X10_103 cf10 hT19 (c_X10_of l G A ad hc18) (As := [.int x1, .int 3]) (rest := [.int r2, .int 2]) hl.1 rfl rfl (Nat.le_of_ble_eq_true rfl) ⟨rfl, rfl, Nat.le_of_ble_eq_true rfl, Nat.le_of_ble_eq_true rfl⟩ ⟨Nat.zero_le _, Nat.zero_le _⟩ dX10_worthOf_67) hw (fun H locs hw => ?_)
        refine lv_iadd hx hb dX10_worthOf_70 ?_
        refine lv_imul hx hb dX10_worthOf_71 ?_
        exact e_iret C hw hf dX10_worthOf_72
      · have hf := if_n hc15 hf
        by_cases hc20 : r6 = 4
        · have hf := if_p hc20 hf
          refine r_tabIn 4 hc20 hx hb dX10_worthOf_13 (by decide) (by decide) rfl (tgt := 73) (by decide) ?_
          refine lv_bipush (v := 92) hx hb dX10_worthOf_73 (by decide) ?_
          refine lv_iload_n hx hb dX10_worthOf_75 rfl (lv_at hl 0 rfl) ?_
          refine lv_isub hx hb dX10_worthOf_76 ?_
          exact e_iret C hw hf dX10_worthOf_77
        · have hf := if_n hc20 hf
          by_cases hc21 : r6 = 5
          · have hf := if_p hc21 hf
            refine r_tabIn 5 hc21 hx hb dX10_worthOf_13 (by decide) (by decide) rfl (tgt := 78) (by decide) ?_
            refine lv_iconst (v := 2) hx hb dX10_worthOf_78 (by decide) ?_
            exact e_iret C hw hf dX10_worthOf_79
          · have hf := if_n hc21 hf
            refine r_tabOut hx hb dX10_worthOf_13 (by have n0 := sw_nei (k := 1) (by decide) hc9; have n1 := sw_nei (k := 2) (by decide) hc14; have n2 := sw_nei (k := 3) (by decide) hc15; have n3 := sw_nei (k := 4) (by decide) hc20; have n4 := sw_nei (k := 5) (by decide) hc21; omega) (tgt := 80) (by decide) ?_
            refine lv_iload_n hx hb dX10_worthOf_80 rfl (lv_at hl 0 rfl) ?_
            exact e_iret C hw hf dX10_worthOf_81
/-! StorkVoteModel.nextStork()I -/
abbrev rm_X10_nextStork : Room := { frames := 1, cells := 0, slots := 0, locals := 21 }
def f_X10_nextStork_4 : Nat → Mem → Nat → Int32 → Int32 → Option (Int32 × Mem)
  | 0, _, _, _, _ => none
  | n + 1, M, x0, x1, x2 => gt (mT M x0) 11 (lp (mP M x0 0) (fun a2 => gt (mT M a2) 20 (gd (ib 2 (mL M a2)) ((if (mI M a2 (2 : Int32).toNatClampNeg) ≤ x2 then some (x1, M) else lp (mP M x0 7) (fun a6 => gt (mT M a6) 21 (gd (ib x2 (mL M a6)) ((if (mI M a6 x2.toNatClampNeg) = 0 then cl (f_X10_isAway M x0 x2) (fun r11 M10 => (if r11 = 0 then (if x1 < 0 then f_X10_nextStork_4 n M10 x0 x2 (x2 + 1) else gt (mT M10 x0) 11 (cl (f_X10_strong M10 x0 x2) (fun r14 M13 => gt (mT M13 x0) 11 (cl (f_X10_strong M13 x0 x1) (fun r18 M17 => (if r14 ≤ r18 then f_X10_nextStork_4 n M17 x0 x1 (x2 + 1) else f_X10_nextStork_4 n M17 x0 x2 (x2 + 1))))))) else f_X10_nextStork_4 n M10 x0 x1 (x2 + 1))) else f_X10_nextStork_4 n M x0 x1 (x2 + 1))))))))))
set_option maxHeartbeats 4000000 in
set_option maxRecDepth 100000 in
theorem t_X10_nextStork_4 {l : Launch} {p : Program} {e : Env} {s : State} {m : MethodId} {args : Array Value} {below : List Frame} {meth : Method} {c : Code} {G : Gd} {A : Nat → Prop} {ad : Nat → Nat} (C : Cx G A p s m args meth c RX10 cX10_nextStork 3 (some .int)) {r : Int32} {M' : Mem} : ∀ (n : Nat) (M : Mem) (x0 : Nat) (x1 : Int32) (x2 : Int32) (H : Heap) (locs : List Loc) (ls : Array Slot), f_X10_nextStork_4  n M x0 x1 x2 = some (r, M') → Wd G A ad s.heap M H locs → lv_has ls 3 [(0, .ref (ad x0)), (1, .int x1), (2, .int x2)] → W p l e rm_X10_nextStork s m args below meth c H locs 0 0 (MQ below (QI G A ad r M') args s 0 0 A) (F0 m 4 ls []) := by
  obtain ⟨hx, hb, -⟩ := id C
  intro n
  induction n with
  | zero =>
    intro M x0 x1 x2 H locs ls hf
    rw [f_X10_nextStork_4] at hf
    exact absurd hf (fun h => nomatch h)
  | succ n ih =>
    intro M x0 x1 x2 H locs ls hf hw hl
    rw [f_X10_nextStork_4] at hf
    refine lv_iload_n hx hb dX10_nextStork_4 rfl (lv_at hl 2 rfl) ?_
    refine lv_aload_n hx hb dX10_nextStork_5 rfl (lv_at hl 0 rfl) ?_
    obtain ⟨hT1, hf⟩ := gt_inv hf
    obtain ⟨a2, hP3, hf⟩ := lp_inv hf
    refine r_getP C hw cf10 0 (by decide) rfl hT1 hP3 fl_X10_9 dX10_nextStork_6 ?_
    refine lv_iconst (v := 2) hx hb dX10_nextStork_9 (by decide) ?_
    obtain ⟨hT4, hf⟩ := gt_inv hf
    obtain ⟨hg5, hf⟩ := gd_inv hf
    refine r_iald C hw hT4 hg5 dX10_nextStork_10 ?_
    refine lv_icmp_ge (tgt := 60) hx hb dX10_nextStork_11 (by decide) (fun hc => ?_) (fun hc => ?_)
    · have hf := if_p hc hf
      refine lv_iload_n hx hb dX10_nextStork_60 rfl (lv_at hl 1 rfl) ?_
      exact e_iret C hw hf dX10_nextStork_61
    · have hf := if_n hc hf
      refine lv_aload_n hx hb dX10_nextStork_14 rfl (lv_at hl 0 rfl) ?_
      obtain ⟨a6, hP7, hf⟩ := lp_inv hf
      refine r_getP C hw cf10 7 (by decide) rfl hT1 hP7 fl_X10_29 dX10_nextStork_15 ?_
      refine lv_iload_n hx hb dX10_nextStork_18 rfl (lv_at hl 2 rfl) ?_
      obtain ⟨hT8, hf⟩ := gt_inv hf
      obtain ⟨hg9, hf⟩ := gd_inv hf
      refine r_zald C hw hT8 hg9 dX10_nextStork_19 ?_
      refine lv_if_ne (tgt := 54) hx hb dX10_nextStork_20 (by decide) (fun hc => ?_) (fun hc => ?_)
      · have hf := if_n hc hf
        refine lv_iinc (v := (x2 + 1)) (lv' := [(2, .int (x2 + 1)), (0, .ref (ad x0)), (1, .int x1)]) hx hb dX10_nextStork_54 hl (k := 2) rfl rfl (by decide) rfl (fun ls hl => ?_)
        refine lv_goto (tgt := 4) hx hb dX10_nextStork_57 (by decide) ?_
        exact ih M x0 x1 (x2 + 1) _ _ _ hf hw (lv_sub hl [1, 2, 0] rfl)
      · have hf := if_p hc hf
        refine lv_aload_n hx hb dX10_nextStork_23 rfl (lv_at hl 0 rfl) ?_
        refine lv_iload_n hx hb dX10_nextStork_24 rfl (lv_at hl 2 rfl) ?_
        obtain ⟨r11, M10, hc12, hf⟩ := cl_inv hf
        refine fin_I (run_V C hw mf_X10_isAway mv_X10_isAway ml_X10_152 cf10 hT1 (c_X10_isAway l G A ad hc12) (As := [.int x2]) (rest := []) hl.1 rfl rfl (Nat.le_of_ble_eq_true rfl) ⟨rfl, rfl, Nat.le_of_ble_eq_true rfl, Nat.le_of_ble_eq_true rfl⟩ ⟨Nat.zero_le _, Nat.zero_le _⟩ dX10_nextStork_25) hw (fun H locs hw => ?_)
        refine lv_if_ne (tgt := 54) hx hb dX10_nextStork_28 (by decide) (fun hc => ?_) (fun hc => ?_)
        · have hf := if_n hc hf
          refine lv_iinc (v := (x2 + 1)) (lv' := [(2, .int (x2 + 1)), (0, .ref (ad x0)), (1, .int x1)]) hx hb dX10_nextStork_54 hl (k := 2) rfl rfl (by decide) rfl (fun ls hl => ?_)
          refine lv_goto (tgt := 4) hx hb dX10_nextStork_57 (by decide) ?_
          exact ih M10 x0 x1 (x2 + 1) _ _ _ hf hw (lv_sub hl [1, 2, 0] rfl)
        · have hf := if_p hc hf
          refine lv_iload_n hx hb dX10_nextStork_31 rfl (lv_at hl 1 rfl) ?_
          refine lv_if_lt (tgt := 48) hx hb dX10_nextStork_32 (by decide) (fun hc => ?_) (fun hc => ?_)
          · have hf := if_p hc hf
            refine lv_iload_n hx hb dX10_nextStork_48 rfl (lv_at hl 2 rfl) ?_
            refine lv_goto (tgt := 53) hx hb dX10_nextStork_49 (by decide) ?_
            refine lv_istore_n (lv' := [(1, .int x2), (0, .ref (ad x0)), (2, .int x2)]) hx hb dX10_nextStork_53 rfl hl (by decide) rfl (fun ls hl => ?_)
            refine lv_iinc (v := (x2 + 1)) (lv' := [(2, .int (x2 + 1)), (1, .int x2), (0, .ref (ad x0))]) hx hb dX10_nextStork_54 hl (k := 2) rfl rfl (by decide) rfl (fun ls hl => ?_)
            refine lv_goto (tgt := 4) hx hb dX10_nextStork_57 (by decide) ?_
            exact ih M10 x0 x2 (x2 + 1) _ _ _ hf hw (lv_sub hl [2, 1, 0] rfl)
          · have hf := if_n hc hf
            refine lv_aload_n hx hb dX10_nextStork_35 rfl (lv_at hl 0 rfl) ?_
            refine lv_iload_n hx hb dX10_nextStork_36 rfl (lv_at hl 2 rfl) ?_
            obtain ⟨hT16, hf⟩ := gt_inv hf
            obtain ⟨r14, M13, hc15, hf⟩ := cl_inv hf
            refine fin_I (run_V C hw mf_X10_strong mv_X10_strong ml_X10_155 cf10 hT16 (c_X10_strong l G A ad hc15) (As := [.int x2]) (rest := []) hl.1 rfl rfl (Nat.le_of_ble_eq_true rfl) ⟨rfl, rfl, Nat.le_of_ble_eq_true rfl, Nat.le_of_ble_eq_true rfl⟩ ⟨Nat.zero_le _, Nat.zero_le _⟩ dX10_nextStork_37) hw (fun H locs hw => ?_)
            refine lv_aload_n hx hb dX10_nextStork_40 rfl (lv_at hl 0 rfl) ?_
            refine lv_iload_n hx hb dX10_nextStork_41 rfl (lv_at hl 1 rfl) ?_
            obtain ⟨hT20, hf⟩ := gt_inv hf
            obtain ⟨r18, M17, hc19, hf⟩ := cl_inv hf
            refine fin_I (run_V C hw mf_X10_strong mv_X10_strong ml_X10_155 cf10 hT20 (c_X10_strong l G A ad hc19) (As := [.int x1]) (rest := [.int r14]) hl.1 rfl rfl (Nat.le_of_ble_eq_true rfl) ⟨rfl, rfl, Nat.le_of_ble_eq_true rfl, Nat.le_of_ble_eq_true rfl⟩ ⟨Nat.zero_le _, Nat.zero_le _⟩ dX10_nextStork_42) hw (fun H locs hw => ?_)
            refine lv_icmp_le (tgt := 52) hx hb dX10_nextStork_45 (by decide) (fun hc => ?_) (fun hc => ?_)
            · have hf := if_p hc hf
              refine lv_iload_n hx hb dX10_nextStork_52 rfl (lv_at hl 1 rfl) ?_
              refine lv_istore_n (lv' := [(1, .int x1), (0, .ref (ad x0)), (2, .int x2)]) hx hb dX10_nextStork_53 rfl hl (by decide) rfl (fun ls hl => ?_)
              refine lv_iinc (v := (x2 + 1)) (lv' := [(2, .int (x2 + 1)), (1, .int x1), (0, .ref (ad x0))]) hx hb dX10_nextStork_54 hl (k := 2) rfl rfl (by decide) rfl (fun ls hl => ?_)
              refine lv_goto (tgt := 4) hx hb dX10_nextStork_57 (by decide) ?_
              exact ih M17 x0 x1 (x2 + 1) _ _ _ hf hw (lv_sub hl [2, 1, 0] rfl)
            · have hf := if_n hc hf
              refine lv_iload_n hx hb dX10_nextStork_48 rfl (lv_at hl 2 rfl) ?_
              refine lv_goto (tgt := 53) hx hb dX10_nextStork_49 (by decide) ?_
              refine lv_istore_n (lv' := [(1, .int x2), (0, .ref (ad x0)), (2, .int x2)]) hx hb dX10_nextStork_53 rfl hl (by decide) rfl (fun ls hl => ?_)
              refine lv_iinc (v := (x2 + 1)) (lv' := [(2, .int (x2 + 1)), (1, .int x2), (0, .ref (ad x0))]) hx hb dX10_nextStork_54 hl (k := 2) rfl rfl (by decide) rfl (fun ls hl => ?_)
              refine lv_goto (tgt := 4) hx hb dX10_nextStork_57 (by decide) ?_
              exact ih M17 x0 x2 (x2 + 1) _ _ _ hf hw (lv_sub hl [2, 1, 0] rfl)
def f_X10_nextStork (M : Mem) (x0 : Nat) : Option (Int32 × Mem) := f_X10_nextStork_4 FU M x0 (-1) 0
set_option maxHeartbeats 4000000 in
set_option maxRecDepth 100000 in
theorem c_X10_nextStork (l : Launch) (G : Gd) (A : Nat → Prop) (ad : Nat → Nat) {M : Mem} {x0 : Nat}  {r : Int32} {M' : Mem} (hf : f_X10_nextStork M x0 = some (r, M')) : Ct l yX10_nextStork cX10_nextStork 3 (some .int) rm_X10_nextStork [.ref (ad x0)] G A ad M (QI G A ad r M') 0 0 := by
  refine ct_start (by decide) (Nat.le_of_ble_eq_true rfl) ?_
  intro p e s m args below meth c ls C hin hw hl
  have C : Cx G A p s m args meth c RX10 cX10_nextStork 3 (some .int) := C
  have hl : lv_has ls 3 [(0, .ref (ad x0))] := hl
  obtain ⟨hx, hb, -⟩ := id C
  rw [f_X10_nextStork] at hf
  refine lv_iconst (v := (-1)) hx hb dX10_nextStork_0 (by decide) ?_
  refine lv_istore_n (lv' := [(1, .int (-1)), (0, .ref (ad x0))]) hx hb dX10_nextStork_1 rfl hl (by decide) rfl (fun ls hl => ?_)
  refine lv_iconst (v := 0) hx hb dX10_nextStork_2 (by decide) ?_
  refine lv_istore_n (lv' := [(2, .int 0), (1, .int (-1)), (0, .ref (ad x0))]) hx hb dX10_nextStork_3 rfl hl (by decide) rfl (fun ls hl => ?_)
  exact t_X10_nextStork_4 C FU M x0 (-1) 0 _ _ _ hf hw (lv_sub hl [2, 1, 0] rfl)
/-! StorkVoteModel.counts(I)I -/
abbrev rm_X10_counts : Room := { frames := 0, cells := 0, slots := 0, locals := 0 }
def f_X10_counts_10 : Nat → Mem → Nat → Int32 → Int32 → Option (Int32 × Mem)
  | 0, _, _, _, _ => none
  | n + 1, M, x0, x1, x2 => (if x2 < 0 then some ((-1), M) else gt (mT M x0) 11 (lp (mP M x0 0) (fun a2 => gt (mT M a2) 20 (gd (ib (70 + (2 * x2)) (mL M a2)) ((if ((mI M a2 (70 + (2 * x2)).toNatClampNeg) / 1000) = x1 then some (x2, M) else f_X10_counts_10 n M x0 x1 (x2 + (-1))))))))
set_option maxHeartbeats 4000000 in
set_option maxRecDepth 100000 in
theorem t_X10_counts_10 {l : Launch} {p : Program} {e : Env} {s : State} {m : MethodId} {args : Array Value} {below : List Frame} {meth : Method} {c : Code} {G : Gd} {A : Nat → Prop} {ad : Nat → Nat} (C : Cx G A p s m args meth c RX10 cX10_counts 3 (some .int)) {r : Int32} {M' : Mem} : ∀ (n : Nat) (M : Mem) (x0 : Nat) (x1 : Int32) (x2 : Int32) (H : Heap) (locs : List Loc) (ls : Array Slot), f_X10_counts_10  n M x0 x1 x2 = some (r, M') → Wd G A ad s.heap M H locs → lv_has ls 3 [(0, .ref (ad x0)), (1, .int x1), (2, .int x2)] → W p l e rm_X10_counts s m args below meth c H locs 0 0 (MQ below (QI G A ad r M') args s 0 0 A) (F0 m 10 ls []) := by
  obtain ⟨hx, hb, -⟩ := id C
  intro n
  induction n with
  | zero =>
    intro M x0 x1 x2 H locs ls hf
    rw [f_X10_counts_10] at hf
    exact absurd hf (fun h => nomatch h)
  | succ n ih =>
    intro M x0 x1 x2 H locs ls hf hw hl
    rw [f_X10_counts_10] at hf
    refine lv_iload_n hx hb dX10_counts_10 rfl (lv_at hl 2 rfl) ?_
    refine lv_if_lt (tgt := 41) hx hb dX10_counts_11 (by decide) (fun hc => ?_) (fun hc => ?_)
    · have hf := if_p hc hf
      refine lv_iconst (v := (-1)) hx hb dX10_counts_41 (by decide) ?_
      exact e_iret C hw hf dX10_counts_42
    · have hf := if_n hc hf
      refine lv_aload_n hx hb dX10_counts_14 rfl (lv_at hl 0 rfl) ?_
      obtain ⟨hT1, hf⟩ := gt_inv hf
      obtain ⟨a2, hP3, hf⟩ := lp_inv hf
      refine r_getP C hw cf10 0 (by decide) rfl hT1 hP3 fl_X10_9 dX10_counts_15 ?_
      refine lv_bipush (v := 70) hx hb dX10_counts_18 (by decide) ?_
      refine lv_iconst (v := 2) hx hb dX10_counts_20 (by decide) ?_
      refine lv_iload_n hx hb dX10_counts_21 rfl (lv_at hl 2 rfl) ?_
      refine lv_imul hx hb dX10_counts_22 ?_
      refine lv_iadd hx hb dX10_counts_23 ?_
      obtain ⟨hT4, hf⟩ := gt_inv hf
      obtain ⟨hg5, hf⟩ := gd_inv hf
      refine r_iald C hw hT4 hg5 dX10_counts_24 ?_
      refine lv_sipush (v := 1000) hx hb dX10_counts_25 (by decide) ?_
      refine lv_idiv hx hb dX10_counts_28 (by decide) ?_
      refine lv_iload_n hx hb dX10_counts_29 rfl (lv_at hl 1 rfl) ?_
      refine lv_icmp_ne (tgt := 35) hx hb dX10_counts_30 (by decide) (fun hc => ?_) (fun hc => ?_)
      · have hf := if_n hc hf
        refine lv_iinc (v := (x2 + (-1))) (lv' := [(2, .int (x2 + (-1))), (0, .ref (ad x0)), (1, .int x1)]) hx hb dX10_counts_35 hl (k := 2) rfl rfl (by decide) rfl (fun ls hl => ?_)
        refine lv_goto (tgt := 10) hx hb dX10_counts_38 (by decide) ?_
        exact ih M x0 x1 (x2 + (-1)) _ _ _ hf hw (lv_sub hl [1, 2, 0] rfl)
      · have hf := if_p hc hf
        refine lv_iload_n hx hb dX10_counts_33 rfl (lv_at hl 2 rfl) ?_
        exact e_iret C hw hf dX10_counts_34
def f_X10_counts (M : Mem) (x0 : Nat) (x1 : Int32) : Option (Int32 × Mem) := gt (mT M x0) 11 (lp (mP M x0 0) (fun a2 => gt (mT M a2) 20 (gd (ib 7 (mL M a2)) (f_X10_counts_10 FU M x0 x1 ((mI M a2 (7 : Int32).toNatClampNeg) - 1)))))
set_option maxHeartbeats 4000000 in
set_option maxRecDepth 100000 in
theorem c_X10_counts (l : Launch) (G : Gd) (A : Nat → Prop) (ad : Nat → Nat) {M : Mem} {x0 : Nat} {x1 : Int32}  {r : Int32} {M' : Mem} (hf : f_X10_counts M x0 x1 = some (r, M')) : Ct l yX10_counts cX10_counts 3 (some .int) rm_X10_counts [.ref (ad x0), .int x1] G A ad M (QI G A ad r M') 0 0 := by
  refine ct_start (by decide) (Nat.le_of_ble_eq_true rfl) ?_
  intro p e s m args below meth c ls C hin hw hl
  have C : Cx G A p s m args meth c RX10 cX10_counts 3 (some .int) := C
  have hl : lv_has ls 3 [(0, .ref (ad x0)), (1, .int x1)] := hl
  obtain ⟨hx, hb, -⟩ := id C
  rw [f_X10_counts] at hf
  refine lv_aload_n hx hb dX10_counts_0 rfl (lv_at hl 0 rfl) ?_
  obtain ⟨hT1, hf⟩ := gt_inv hf
  obtain ⟨a2, hP3, hf⟩ := lp_inv hf
  refine r_getP C hw cf10 0 (by decide) rfl hT1 hP3 fl_X10_9 dX10_counts_1 ?_
  refine lv_bipush (v := 7) hx hb dX10_counts_4 (by decide) ?_
  obtain ⟨hT4, hf⟩ := gt_inv hf
  obtain ⟨hg5, hf⟩ := gd_inv hf
  refine r_iald C hw hT4 hg5 dX10_counts_6 ?_
  refine lv_iconst (v := 1) hx hb dX10_counts_7 (by decide) ?_
  refine lv_isub hx hb dX10_counts_8 ?_
  refine lv_istore_n (lv' := [(2, .int ((mI M a2 (7 : Int32).toNatClampNeg) - 1)), (0, .ref (ad x0)), (1, .int x1)]) hx hb dX10_counts_9 rfl hl (by decide) rfl (fun ls hl => ?_)
  exact t_X10_counts_10 C FU M x0 x1 ((mI M a2 (7 : Int32).toNatClampNeg) - 1) _ _ _ hf hw (lv_sub hl [1, 2, 0] rfl)
/-! StorkVoteModel.two(III)I -/
abbrev rm_X10_two : Room := { frames := 0, cells := 0, slots := 0, locals := 0 }
def f_X10_two (M : Mem) (x0 : Int32) (x1 : Int32) (x2 : Int32) : Option (Int32 × Mem) := (if x0 = (-8) then some ((x1 * x2), M) else if x0 = (-7) then some ((x1 - x2), M) else if x0 = (-6) then some ((x1 + x2), M) else if x0 = (-5) then (if x1 ≤ x2 then some (0, M) else some (1, M)) else if x0 = (-4) then (if x1 = x2 then some (1, M) else some (0, M)) else if x0 = (-3) then (if x2 ≤ x1 then some (0, M) else some (1, M)) else if x0 = (-2) then (if x1 = 0 then some (0, M) else (if x2 = 0 then some (0, M) else some (1, M))) else if x0 = (-1) then (if x1 = 0 then (if x2 = 0 then some (0, M) else some (1, M)) else some (1, M)) else (if x2 = 0 then some (0, M) else gz x2 (some ((x1 / x2), M))))
set_option maxHeartbeats 4000000 in
set_option maxRecDepth 100000 in
theorem c_X10_two (l : Launch) (G : Gd) (A : Nat → Prop) (ad : Nat → Nat) {M : Mem} {x0 : Int32} {x1 : Int32} {x2 : Int32}  {r : Int32} {M' : Mem} (hf : f_X10_two M x0 x1 x2 = some (r, M')) : Ct l yX10_two cX10_two 3 (some .int) rm_X10_two [.int x0, .int x1, .int x2] G A ad M (QI G A ad r M') 0 0 := by
  refine ct_start (by decide) (Nat.le_of_ble_eq_true rfl) ?_
  intro p e s m args below meth c ls C hin hw hl
  have C : Cx G A p s m args meth c RX10 cX10_two 3 (some .int) := C
  have hl : lv_has ls 3 [(0, .int x0), (1, .int x1), (2, .int x2)] := hl
  obtain ⟨hx, hb, -⟩ := id C
  rw [f_X10_two] at hf
  refine lv_iload_n hx hb dX10_two_0 rfl (lv_at hl 0 rfl) ?_
  by_cases hc1 : x0 = (-8)
  · have hf := if_p hc1 hf
    refine r_tabIn (-8) hc1 hx hb dX10_two_1 (by decide) (by decide) rfl (tgt := 117) (by decide) ?_
    refine lv_iload_n hx hb dX10_two_117 rfl (lv_at hl 1 rfl) ?_
    refine lv_iload_n hx hb dX10_two_118 rfl (lv_at hl 2 rfl) ?_
    refine lv_imul hx hb dX10_two_119 ?_
    exact e_iret C hw hf dX10_two_120
  · have hf := if_n hc1 hf
    by_cases hc2 : x0 = (-7)
    · have hf := if_p hc2 hf
      refine r_tabIn (-7) hc2 hx hb dX10_two_1 (by decide) (by decide) rfl (tgt := 113) (by decide) ?_
      refine lv_iload_n hx hb dX10_two_113 rfl (lv_at hl 1 rfl) ?_
      refine lv_iload_n hx hb dX10_two_114 rfl (lv_at hl 2 rfl) ?_
      refine lv_isub hx hb dX10_two_115 ?_
      exact e_iret C hw hf dX10_two_116
    · have hf := if_n hc2 hf
      by_cases hc3 : x0 = (-6)
      · have hf := if_p hc3 hf
        refine r_tabIn (-6) hc3 hx hb dX10_two_1 (by decide) (by decide) rfl (tgt := 109) (by decide) ?_
        refine lv_iload_n hx hb dX10_two_109 rfl (lv_at hl 1 rfl) ?_
        refine lv_iload_n hx hb dX10_two_110 rfl (lv_at hl 2 rfl) ?_
        refine lv_iadd hx hb dX10_two_111 ?_
        exact e_iret C hw hf dX10_two_112
      · have hf := if_n hc3 hf
        by_cases hc4 : x0 = (-5)
        · have hf := if_p hc4 hf
          refine r_tabIn (-5) hc4 hx hb dX10_two_1 (by decide) (by decide) rfl (tgt := 98) (by decide) ?_
          refine lv_iload_n hx hb dX10_two_98 rfl (lv_at hl 1 rfl) ?_
          refine lv_iload_n hx hb dX10_two_99 rfl (lv_at hl 2 rfl) ?_
          refine lv_icmp_le (tgt := 107) hx hb dX10_two_100 (by decide) (fun hc => ?_) (fun hc => ?_)
          · have hf := if_p hc hf
            refine lv_iconst (v := 0) hx hb dX10_two_107 (by decide) ?_
            exact e_iret C hw hf dX10_two_108
          · have hf := if_n hc hf
            refine lv_iconst (v := 1) hx hb dX10_two_103 (by decide) ?_
            refine lv_goto (tgt := 108) hx hb dX10_two_104 (by decide) ?_
            exact e_iret C hw hf dX10_two_108
        · have hf := if_n hc4 hf
          by_cases hc5 : x0 = (-4)
          · have hf := if_p hc5 hf
            refine r_tabIn (-4) hc5 hx hb dX10_two_1 (by decide) (by decide) rfl (tgt := 87) (by decide) ?_
            refine lv_iload_n hx hb dX10_two_87 rfl (lv_at hl 1 rfl) ?_
            refine lv_iload_n hx hb dX10_two_88 rfl (lv_at hl 2 rfl) ?_
            refine lv_icmp_ne (tgt := 96) hx hb dX10_two_89 (by decide) (fun hc => ?_) (fun hc => ?_)
            · have hf := if_n hc hf
              refine lv_iconst (v := 0) hx hb dX10_two_96 (by decide) ?_
              exact e_iret C hw hf dX10_two_97
            · have hf := if_p hc hf
              refine lv_iconst (v := 1) hx hb dX10_two_92 (by decide) ?_
              refine lv_goto (tgt := 97) hx hb dX10_two_93 (by decide) ?_
              exact e_iret C hw hf dX10_two_97
          · have hf := if_n hc5 hf
            by_cases hc6 : x0 = (-3)
            · have hf := if_p hc6 hf
              refine r_tabIn (-3) hc6 hx hb dX10_two_1 (by decide) (by decide) rfl (tgt := 76) (by decide) ?_
              refine lv_iload_n hx hb dX10_two_76 rfl (lv_at hl 1 rfl) ?_
              refine lv_iload_n hx hb dX10_two_77 rfl (lv_at hl 2 rfl) ?_
              refine lv_icmp_ge (tgt := 85) hx hb dX10_two_78 (by decide) (fun hc => ?_) (fun hc => ?_)
              · have hf := if_p hc hf
                refine lv_iconst (v := 0) hx hb dX10_two_85 (by decide) ?_
                exact e_iret C hw hf dX10_two_86
              · have hf := if_n hc hf
                refine lv_iconst (v := 1) hx hb dX10_two_81 (by decide) ?_
                refine lv_goto (tgt := 86) hx hb dX10_two_82 (by decide) ?_
                exact e_iret C hw hf dX10_two_86
            · have hf := if_n hc6 hf
              by_cases hc7 : x0 = (-2)
              · have hf := if_p hc7 hf
                refine r_tabIn (-2) hc7 hx hb dX10_two_1 (by decide) (by decide) rfl (tgt := 62) (by decide) ?_
                refine lv_iload_n hx hb dX10_two_62 rfl (lv_at hl 1 rfl) ?_
                refine lv_if_eq (tgt := 74) hx hb dX10_two_63 (by decide) (fun hc => ?_) (fun hc => ?_)
                · have hf := if_p hc hf
                  refine lv_iconst (v := 0) hx hb dX10_two_74 (by decide) ?_
                  exact e_iret C hw hf dX10_two_75
                · have hf := if_n hc hf
                  refine lv_iload_n hx hb dX10_two_66 rfl (lv_at hl 2 rfl) ?_
                  refine lv_if_eq (tgt := 74) hx hb dX10_two_67 (by decide) (fun hc => ?_) (fun hc => ?_)
                  · have hf := if_p hc hf
                    refine lv_iconst (v := 0) hx hb dX10_two_74 (by decide) ?_
                    exact e_iret C hw hf dX10_two_75
                  · have hf := if_n hc hf
                    refine lv_iconst (v := 1) hx hb dX10_two_70 (by decide) ?_
                    refine lv_goto (tgt := 75) hx hb dX10_two_71 (by decide) ?_
                    exact e_iret C hw hf dX10_two_75
              · have hf := if_n hc7 hf
                by_cases hc8 : x0 = (-1)
                · have hf := if_p hc8 hf
                  refine r_tabIn (-1) hc8 hx hb dX10_two_1 (by decide) (by decide) rfl (tgt := 48) (by decide) ?_
                  refine lv_iload_n hx hb dX10_two_48 rfl (lv_at hl 1 rfl) ?_
                  refine lv_if_ne (tgt := 56) hx hb dX10_two_49 (by decide) (fun hc => ?_) (fun hc => ?_)
                  · have hf := if_n hc hf
                    refine lv_iconst (v := 1) hx hb dX10_two_56 (by decide) ?_
                    refine lv_goto (tgt := 61) hx hb dX10_two_57 (by decide) ?_
                    exact e_iret C hw hf dX10_two_61
                  · have hf := if_p hc hf
                    refine lv_iload_n hx hb dX10_two_52 rfl (lv_at hl 2 rfl) ?_
                    refine lv_if_eq (tgt := 60) hx hb dX10_two_53 (by decide) (fun hc => ?_) (fun hc => ?_)
                    · have hf := if_p hc hf
                      refine lv_iconst (v := 0) hx hb dX10_two_60 (by decide) ?_
                      exact e_iret C hw hf dX10_two_61
                    · have hf := if_n hc hf
                      refine lv_iconst (v := 1) hx hb dX10_two_56 (by decide) ?_
                      refine lv_goto (tgt := 61) hx hb dX10_two_57 (by decide) ?_
                      exact e_iret C hw hf dX10_two_61
                · have hf := if_n hc8 hf
                  refine r_tabOut hx hb dX10_two_1 (by have n0 := sw_nei (k := -8) (by decide) hc1; have n1 := sw_nei (k := -7) (by decide) hc2; have n2 := sw_nei (k := -6) (by decide) hc3; have n3 := sw_nei (k := -5) (by decide) hc4; have n4 := sw_nei (k := -4) (by decide) hc5; have n5 := sw_nei (k := -3) (by decide) hc6; have n6 := sw_nei (k := -2) (by decide) hc7; have n7 := sw_nei (k := -1) (by decide) hc8; omega) (tgt := 121) (by decide) ?_
                  refine lv_iload_n hx hb dX10_two_121 rfl (lv_at hl 2 rfl) ?_
                  refine lv_if_ne (tgt := 129) hx hb dX10_two_122 (by decide) (fun hc => ?_) (fun hc => ?_)
                  · have hf := if_n hc hf
                    refine lv_iload_n hx hb dX10_two_129 rfl (lv_at hl 1 rfl) ?_
                    refine lv_iload_n hx hb dX10_two_130 rfl (lv_at hl 2 rfl) ?_
                    obtain ⟨hz9, hf⟩ := gz_inv hf
                    refine lv_idiv hx hb dX10_two_131 hz9 ?_
                    exact e_iret C hw hf dX10_two_132
                  · have hf := if_p hc hf
                    refine lv_iconst (v := 0) hx hb dX10_two_125 (by decide) ?_
                    refine lv_goto (tgt := 132) hx hb dX10_two_126 (by decide) ?_
                    exact e_iret C hw hf dX10_two_132
/-! StorkVoteModel.worksOut(I)I -/
abbrev rm_X10_worksOut : Room := { frames := 1, cells := 0, slots := 0, locals := 22 }
def f_X10_worksOut_115 (K21 : Mem → Nat → Int32 → Int32 → Int32 → Int32 → Option (Int32 × Mem)) (M : Mem) (x0 : Nat) (x1 : Int32) (x2 : Int32) (x3 : Int32) (x4 : Int32) (s0 : Nat) (s1 : Int32) (s2 : Int32) : Option (Int32 × Mem) := gt (mT M s0) 20 (gd (ib s1 (mL M s0)) (st (setI M s0 s1.toNatClampNeg s2) (fun M3 => K21 M3 x0 x1 x2 x3 (x4 + 1))))
set_option maxHeartbeats 4000000 in
set_option maxRecDepth 100000 in
theorem t_X10_worksOut_115 {l : Launch} {p : Program} {e : Env} {s : State} {m : MethodId} {args : Array Value} {below : List Frame} {meth : Method} {c : Code} {G : Gd} {A : Nat → Prop} {ad : Nat → Nat} (C : Cx G A p s m args meth c RX10 cX10_worksOut 6 (some .int)) {r : Int32} {M' : Mem} {K21 : Mem → Nat → Int32 → Int32 → Int32 → Int32 → Option (Int32 × Mem)} (hK21 : ∀ (M : Mem) (x0 : Nat) (x1 : Int32) (x2 : Int32) (x3 : Int32) (x4 : Int32) (H : Heap) (locs : List Loc) (ls : Array Slot), K21 M x0 x1 x2 x3 x4 = some (r, M') → Wd G A ad s.heap M H locs → lv_has ls 6 [(0, .ref (ad x0)), (1, .int x1), (2, .int x2), (3, .int x3), (4, .int x4)] → W p l e rm_X10_worksOut s m args below meth c H locs 0 0 (MQ below (QI G A ad r M') args s 0 0 A) (F0 m 21 ls [])) : ∀ (M : Mem) (x0 : Nat) (x1 : Int32) (x2 : Int32) (x3 : Int32) (x4 : Int32) (s0 : Nat) (s1 : Int32) (s2 : Int32) (H : Heap) (locs : List Loc) (ls : Array Slot), f_X10_worksOut_115 K21 M x0 x1 x2 x3 x4 s0 s1 s2 = some (r, M') → Wd G A ad s.heap M H locs → lv_has ls 6 [(0, .ref (ad x0)), (1, .int x1), (2, .int x2), (3, .int x3), (4, .int x4)] → W p l e rm_X10_worksOut s m args below meth c H locs 0 0 (MQ below (QI G A ad r M') args s 0 0 A) (F0 m 115 ls [.int s2, .int s1, .ref (ad s0)]) := by
  obtain ⟨hx, hb, -⟩ := id C
  intro M x0 x1 x2 x3 x4 s0 s1 s2 H locs ls hf hw hl
  rw [f_X10_worksOut_115] at hf
  obtain ⟨hT1, hf⟩ := gt_inv hf
  obtain ⟨hg2, hf⟩ := gd_inv hf
  obtain ⟨M3, e4, hf⟩ := st_inv hf
  have g5 := sg_I e4
  refine r_iast C hw hT1 hg2 e4 dX10_worksOut_115 (fun H locs hw => ?_)
  refine lv_goto (tgt := 149) hx hb dX10_worksOut_116 (by decide) ?_
  refine lv_iinc (v := (x4 + 1)) (lv' := [(4, .int (x4 + 1)), (0, .ref (ad x0)), (1, .int x1), (2, .int x2), (3, .int x3)]) hx hb dX10_worksOut_149 hl (k := 4) rfl rfl (by decide) rfl (fun ls hl => ?_)
  refine lv_goto (tgt := 21) hx hb dX10_worksOut_152 (by decide) ?_
  exact hK21 M3 x0 x1 x2 x3 (x4 + 1) _ _ _ hf hw (lv_sub hl [1, 2, 3, 4, 0] rfl)
def f_X10_worksOut_78 (K21 : Mem → Nat → Int32 → Int32 → Int32 → Int32 → Option (Int32 × Mem)) (M : Mem) (x0 : Nat) (x1 : Int32) (x2 : Int32) (x3 : Int32) (x4 : Int32) (s0 : Nat) (s1 : Int32) (s2 : Int32) : Option (Int32 × Mem) := gt (mT M s0) 20 (gd (ib s1 (mL M s0)) (st (setI M s0 s1.toNatClampNeg s2) (fun M3 => K21 M3 x0 x1 (x2 + 1) x3 (x4 + 1))))
set_option maxHeartbeats 4000000 in
set_option maxRecDepth 100000 in
theorem t_X10_worksOut_78 {l : Launch} {p : Program} {e : Env} {s : State} {m : MethodId} {args : Array Value} {below : List Frame} {meth : Method} {c : Code} {G : Gd} {A : Nat → Prop} {ad : Nat → Nat} (C : Cx G A p s m args meth c RX10 cX10_worksOut 6 (some .int)) {r : Int32} {M' : Mem} {K21 : Mem → Nat → Int32 → Int32 → Int32 → Int32 → Option (Int32 × Mem)} (hK21 : ∀ (M : Mem) (x0 : Nat) (x1 : Int32) (x2 : Int32) (x3 : Int32) (x4 : Int32) (H : Heap) (locs : List Loc) (ls : Array Slot), K21 M x0 x1 x2 x3 x4 = some (r, M') → Wd G A ad s.heap M H locs → lv_has ls 6 [(0, .ref (ad x0)), (1, .int x1), (2, .int x2), (3, .int x3), (4, .int x4)] → W p l e rm_X10_worksOut s m args below meth c H locs 0 0 (MQ below (QI G A ad r M') args s 0 0 A) (F0 m 21 ls [])) : ∀ (M : Mem) (x0 : Nat) (x1 : Int32) (x2 : Int32) (x3 : Int32) (x4 : Int32) (s0 : Nat) (s1 : Int32) (s2 : Int32) (H : Heap) (locs : List Loc) (ls : Array Slot), f_X10_worksOut_78 K21 M x0 x1 x2 x3 x4 s0 s1 s2 = some (r, M') → Wd G A ad s.heap M H locs → lv_has ls 6 [(0, .ref (ad x0)), (1, .int x1), (2, .int x2), (3, .int x3), (4, .int x4)] → W p l e rm_X10_worksOut s m args below meth c H locs 0 0 (MQ below (QI G A ad r M') args s 0 0 A) (F0 m 78 ls [.int s2, .int s1, .ref (ad s0)]) := by
  obtain ⟨hx, hb, -⟩ := id C
  intro M x0 x1 x2 x3 x4 s0 s1 s2 H locs ls hf hw hl
  rw [f_X10_worksOut_78] at hf
  obtain ⟨hT1, hf⟩ := gt_inv hf
  obtain ⟨hg2, hf⟩ := gd_inv hf
  obtain ⟨M3, e4, hf⟩ := st_inv hf
  have g5 := sg_I e4
  refine r_iast C hw hT1 hg2 e4 dX10_worksOut_78 (fun H locs hw => ?_)
  refine lv_iinc (v := (x2 + 1)) (lv' := [(2, .int (x2 + 1)), (0, .ref (ad x0)), (1, .int x1), (3, .int x3), (4, .int x4)]) hx hb dX10_worksOut_79 hl (k := 2) rfl rfl (by decide) rfl (fun ls hl => ?_)
  refine lv_goto (tgt := 149) hx hb dX10_worksOut_82 (by decide) ?_
  refine lv_iinc (v := (x4 + 1)) (lv' := [(4, .int (x4 + 1)), (2, .int (x2 + 1)), (0, .ref (ad x0)), (1, .int x1), (3, .int x3)]) hx hb dX10_worksOut_149 hl (k := 4) rfl rfl (by decide) rfl (fun ls hl => ?_)
  refine lv_goto (tgt := 21) hx hb dX10_worksOut_152 (by decide) ?_
  exact hK21 M3 x0 x1 (x2 + 1) x3 (x4 + 1) _ _ _ hf hw (lv_sub hl [2, 3, 1, 4, 0] rfl)
def f_X10_worksOut_21 : Nat → Mem → Nat → Int32 → Int32 → Int32 → Int32 → Option (Int32 × Mem)
  | 0, _, _, _, _, _, _ => none
  | n + 1, M, x0, x1, x2, x3, x4 => (if x3 ≤ x4 then gt (mT M x0) 11 (lp (mP M x0 25) (fun a2 => gt (mT M a2) 20 (gd (ib 0 (mL M a2)) (some ((mI M a2 (0 : Int32).toNatClampNeg), M))))) else gt (mT M x0) 11 (lp (mP M x0 0) (fun a7 => gt (mT M a7) 20 (gd (ib ((98 + (96 * x1)) + x4) (mL M a7)) ((if (mI M a7 ((98 + (96 * x1)) + x4).toNatClampNeg) < 0 then (if (mI M a7 ((98 + (96 * x1)) + x4).toNatClampNeg) = (-10) then lp (mP M x0 25) (fun a24 => gt (mT M a24) 20 (gd (ib (x2 - 1) (mL M a24)) ((if (mI M a24 (x2 - 1).toNatClampNeg) = 0 then f_X10_worksOut_115 (f_X10_worksOut_21 n) M x0 x1 x2 x3 x4 a24 (x2 - 1) 1 else f_X10_worksOut_115 (f_X10_worksOut_21 n) M x0 x1 x2 x3 x4 a24 (x2 - 1) 0)))) else lp (mP M x0 25) (fun a11 => gt (mT M a11) 20 (gd (ib ((x2 + (-1)) - 1) (mL M a11)) (gd (ib (x2 + (-1)) (mL M a11)) (cl (f_X10_two M (mI M a7 ((98 + (96 * x1)) + x4).toNatClampNeg) (mI M a11 ((x2 + (-1)) - 1).toNatClampNeg) (mI M a11 (x2 + (-1)).toNatClampNeg)) (fun r17 M16 => gt (mT M16 a11) 20 (gd (ib ((x2 + (-1)) - 1) (mL M16 a11)) (st (setI M16 a11 ((x2 + (-1)) - 1).toNatClampNeg r17) (fun M21 => f_X10_worksOut_21 n M21 x0 x1 (x2 + (-1)) x3 (x4 + 1)))))))))) else lp (mP M x0 25) (fun a28 => (if 10000 ≤ (mI M a7 ((98 + (96 * x1)) + x4).toNatClampNeg) then lp (mP M x0 26) (fun a30 => gt (mT M a30) 20 (gd (ib ((mI M a7 ((98 + (96 * x1)) + x4).toNatClampNeg) - 10000) (mL M a30)) (f_X10_worksOut_78 (f_X10_worksOut_21 n) M x0 x1 x2 x3 x4 a28 x2 (mI M a30 ((mI M a7 ((98 + (96 * x1)) + x4).toNatClampNeg) - 10000).toNatClampNeg)))) else f_X10_worksOut_78 (f_X10_worksOut_21 n) M x0 x1 x2 x3 x4 a28 x2 (mI M a7 ((98 + (96 * x1)) + x4).toNatClampNeg)))))))))
set_option maxHeartbeats 4000000 in
set_option maxRecDepth 100000 in
theorem t_X10_worksOut_21 {l : Launch} {p : Program} {e : Env} {s : State} {m : MethodId} {args : Array Value} {below : List Frame} {meth : Method} {c : Code} {G : Gd} {A : Nat → Prop} {ad : Nat → Nat} (C : Cx G A p s m args meth c RX10 cX10_worksOut 6 (some .int)) {r : Int32} {M' : Mem} : ∀ (n : Nat) (M : Mem) (x0 : Nat) (x1 : Int32) (x2 : Int32) (x3 : Int32) (x4 : Int32) (H : Heap) (locs : List Loc) (ls : Array Slot), f_X10_worksOut_21  n M x0 x1 x2 x3 x4 = some (r, M') → Wd G A ad s.heap M H locs → lv_has ls 6 [(0, .ref (ad x0)), (1, .int x1), (2, .int x2), (3, .int x3), (4, .int x4)] → W p l e rm_X10_worksOut s m args below meth c H locs 0 0 (MQ below (QI G A ad r M') args s 0 0 A) (F0 m 21 ls []) := by
  obtain ⟨hx, hb, -⟩ := id C
  intro n
  induction n with
  | zero =>
    intro M x0 x1 x2 x3 x4 H locs ls hf
    rw [f_X10_worksOut_21] at hf
    exact absurd hf (fun h => nomatch h)
  | succ n ih =>
    intro M x0 x1 x2 x3 x4 H locs ls hf hw hl
    rw [f_X10_worksOut_21] at hf
    refine lv_iload hx hb dX10_worksOut_21 (lv_at hl 4 rfl) ?_
    refine lv_iload_n hx hb dX10_worksOut_23 rfl (lv_at hl 3 rfl) ?_
    refine lv_icmp_ge (tgt := 155) hx hb dX10_worksOut_24 (by decide) (fun hc => ?_) (fun hc => ?_)
    · have hf := if_p hc hf
      refine lv_aload_n hx hb dX10_worksOut_155 rfl (lv_at hl 0 rfl) ?_
      obtain ⟨hT1, hf⟩ := gt_inv hf
      obtain ⟨a2, hP3, hf⟩ := lp_inv hf
      refine r_getP C hw cf10 25 (by decide) rfl hT1 hP3 fl_X10_55 dX10_worksOut_156 ?_
      refine lv_iconst (v := 0) hx hb dX10_worksOut_159 (by decide) ?_
      obtain ⟨hT4, hf⟩ := gt_inv hf
      obtain ⟨hg5, hf⟩ := gd_inv hf
      refine r_iald C hw hT4 hg5 dX10_worksOut_160 ?_
      exact e_iret C hw hf dX10_worksOut_161
    · have hf := if_n hc hf
      refine lv_aload_n hx hb dX10_worksOut_27 rfl (lv_at hl 0 rfl) ?_
      obtain ⟨hT6, hf⟩ := gt_inv hf
      obtain ⟨a7, hP8, hf⟩ := lp_inv hf
      refine r_getP C hw cf10 0 (by decide) rfl hT6 hP8 fl_X10_9 dX10_worksOut_28 ?_
      refine lv_bipush (v := 98) hx hb dX10_worksOut_31 (by decide) ?_
      refine lv_bipush (v := 96) hx hb dX10_worksOut_33 (by decide) ?_
      refine lv_iload_n hx hb dX10_worksOut_35 rfl (lv_at hl 1 rfl) ?_
      refine lv_imul hx hb dX10_worksOut_36 ?_
      refine lv_iadd hx hb dX10_worksOut_37 ?_
      refine lv_iload hx hb dX10_worksOut_38 (lv_at hl 4 rfl) ?_
      refine lv_iadd hx hb dX10_worksOut_40 ?_
      obtain ⟨hT9, hf⟩ := gt_inv hf
      obtain ⟨hg10, hf⟩ := gd_inv hf
      refine r_iald C hw hT9 hg10 dX10_worksOut_41 ?_
      refine lv_istore (lv' := [(5, .int (mI M a7 ((98 + (96 * x1)) + x4).toNatClampNeg)), (0, .ref (ad x0)), (1, .int x1), (2, .int x2), (3, .int x3), (4, .int x4)]) hx hb dX10_worksOut_42 hl (by decide) rfl (fun ls hl => ?_)
      refine lv_iload hx hb dX10_worksOut_44 (lv_at hl 0 rfl) ?_
      refine lv_if_lt (tgt := 85) hx hb dX10_worksOut_46 (by decide) (fun hc => ?_) (fun hc => ?_)
      · have hf := if_p hc hf
        refine lv_iload hx hb dX10_worksOut_85 (lv_at hl 0 rfl) ?_
        refine lv_bipush (v := (-10)) hx hb dX10_worksOut_87 (by decide) ?_
        refine lv_icmp_ne (tgt := 119) hx hb dX10_worksOut_89 (by decide) (fun hc => ?_) (fun hc => ?_)
        · have hf := if_n hc hf
          refine lv_iinc (v := (x2 + (-1))) (lv' := [(2, .int (x2 + (-1))), (5, .int (mI M a7 ((98 + (96 * x1)) + x4).toNatClampNeg)), (0, .ref (ad x0)), (1, .int x1), (3, .int x3), (4, .int x4)]) hx hb dX10_worksOut_119 hl (k := 3) rfl rfl (by decide) rfl (fun ls hl => ?_)
          refine lv_aload_n hx hb dX10_worksOut_122 rfl (lv_at hl 2 rfl) ?_
          obtain ⟨a11, hP12, hf⟩ := lp_inv hf
          refine r_getP C hw cf10 25 (by decide) rfl hT6 hP12 fl_X10_55 dX10_worksOut_123 ?_
          refine lv_iload_n hx hb dX10_worksOut_126 rfl (lv_at hl 0 rfl) ?_
          refine lv_iconst (v := 1) hx hb dX10_worksOut_127 (by decide) ?_
          refine lv_isub hx hb dX10_worksOut_128 ?_
          refine lv_iload hx hb dX10_worksOut_129 (lv_at hl 1 rfl) ?_
          refine lv_aload_n hx hb dX10_worksOut_131 rfl (lv_at hl 2 rfl) ?_
          refine r_getP C hw cf10 25 (by decide) rfl hT6 hP12 fl_X10_55 dX10_worksOut_132 ?_
          refine lv_iload_n hx hb dX10_worksOut_135 rfl (lv_at hl 0 rfl) ?_
          refine lv_iconst (v := 1) hx hb dX10_worksOut_136 (by decide) ?_
          refine lv_isub hx hb dX10_worksOut_137 ?_
          obtain ⟨hT13, hf⟩ := gt_inv hf
          obtain ⟨hg14, hf⟩ := gd_inv hf
          refine r_iald C hw hT13 hg14 dX10_worksOut_138 ?_
          refine lv_aload_n hx hb dX10_worksOut_139 rfl (lv_at hl 2 rfl) ?_
          refine r_getP C hw cf10 25 (by decide) rfl hT6 hP12 fl_X10_55 dX10_worksOut_140 ?_
          refine lv_iload_n hx hb dX10_worksOut_143 rfl (lv_at hl 0 rfl) ?_
          obtain ⟨hg15, hf⟩ := gd_inv hf
          refine r_iald C hw hT13 hg15 dX10_worksOut_144 ?_
          obtain ⟨r17, M16, hc18, hf⟩ := cl_inv hf
          refine fin_I (run_S C hw mf_X10_two ms_X10_two ml_X10_263 (c_X10_two l G A ad hc18) (As := [.int (mI M a7 ((98 + (96 * x1)) + x4).toNatClampNeg), .int (mI M a11 ((x2 + (-1)) - 1).toNatClampNeg), .int (mI M a11 (x2 + (-1)).toNatClampNeg)]) (rest := [.int ((x2 + (-1)) - 1), .ref (ad a11)]) hl.1 rfl rfl (Nat.le_of_ble_eq_true rfl) ⟨rfl, rfl, Nat.le_of_ble_eq_true rfl, Nat.le_of_ble_eq_true rfl⟩ ⟨Nat.zero_le _, Nat.zero_le _⟩ dX10_worksOut_145) hw (fun H locs hw => ?_)
          obtain ⟨hT19, hf⟩ := gt_inv hf
          obtain ⟨hg20, hf⟩ := gd_inv hf
          obtain ⟨M21, e22, hf⟩ := st_inv hf
          have g23 := sg_I e22
          refine r_iast C hw hT19 hg20 e22 dX10_worksOut_148 (fun H locs hw => ?_)
          refine lv_iinc (v := (x4 + 1)) (lv' := [(4, .int (x4 + 1)), (2, .int (x2 + (-1))), (5, .int (mI M a7 ((98 + (96 * x1)) + x4).toNatClampNeg)), (0, .ref (ad x0)), (1, .int x1), (3, .int x3)]) hx hb dX10_worksOut_149 hl (k := 5) rfl rfl (by decide) rfl (fun ls hl => ?_)
          refine lv_goto (tgt := 21) hx hb dX10_worksOut_152 (by decide) ?_
          exact ih M21 x0 x1 (x2 + (-1)) x3 (x4 + 1) _ _ _ hf hw (lv_sub hl [3, 4, 1, 5, 0] rfl)
        · have hf := if_p hc hf
          refine lv_aload_n hx hb dX10_worksOut_92 rfl (lv_at hl 1 rfl) ?_
          obtain ⟨a24, hP25, hf⟩ := lp_inv hf
          refine r_getP C hw cf10 25 (by decide) rfl hT6 hP25 fl_X10_55 dX10_worksOut_93 ?_
          refine lv_iload_n hx hb dX10_worksOut_96 rfl (lv_at hl 3 rfl) ?_
          refine lv_iconst (v := 1) hx hb dX10_worksOut_97 (by decide) ?_
          refine lv_isub hx hb dX10_worksOut_98 ?_
          refine lv_aload_n hx hb dX10_worksOut_99 rfl (lv_at hl 1 rfl) ?_
          refine r_getP C hw cf10 25 (by decide) rfl hT6 hP25 fl_X10_55 dX10_worksOut_100 ?_
          refine lv_iload_n hx hb dX10_worksOut_103 rfl (lv_at hl 3 rfl) ?_
          refine lv_iconst (v := 1) hx hb dX10_worksOut_104 (by decide) ?_
          refine lv_isub hx hb dX10_worksOut_105 ?_
          obtain ⟨hT26, hf⟩ := gt_inv hf
          obtain ⟨hg27, hf⟩ := gd_inv hf
          refine r_iald C hw hT26 hg27 dX10_worksOut_106 ?_
          refine lv_if_ne (tgt := 114) hx hb dX10_worksOut_107 (by decide) (fun hc => ?_) (fun hc => ?_)
          · have hf := if_n hc hf
            refine lv_iconst (v := 0) hx hb dX10_worksOut_114 (by decide) ?_
            exact t_X10_worksOut_115 C ih M x0 x1 x2 x3 x4 a24 (x2 - 1) 0 _ _ _ hf hw (lv_sub hl [1, 2, 3, 4, 5] rfl)
          · have hf := if_p hc hf
            refine lv_iconst (v := 1) hx hb dX10_worksOut_110 (by decide) ?_
            refine lv_goto (tgt := 115) hx hb dX10_worksOut_111 (by decide) ?_
            exact t_X10_worksOut_115 C ih M x0 x1 x2 x3 x4 a24 (x2 - 1) 1 _ _ _ hf hw (lv_sub hl [1, 2, 3, 4, 5] rfl)
      · have hf := if_n hc hf
        refine lv_aload_n hx hb dX10_worksOut_49 rfl (lv_at hl 1 rfl) ?_
        obtain ⟨a28, hP29, hf⟩ := lp_inv hf
        refine r_getP C hw cf10 25 (by decide) rfl hT6 hP29 fl_X10_55 dX10_worksOut_50 ?_
        refine lv_iload_n hx hb dX10_worksOut_53 rfl (lv_at hl 3 rfl) ?_
        refine lv_iload hx hb dX10_worksOut_54 (lv_at hl 0 rfl) ?_
        refine lv_sipush (v := 10000) hx hb dX10_worksOut_56 (by decide) ?_
        refine lv_icmp_ge (tgt := 67) hx hb dX10_worksOut_59 (by decide) (fun hc => ?_) (fun hc => ?_)
        · have hf := if_p hc hf
          refine lv_aload_n hx hb dX10_worksOut_67 rfl (lv_at hl 1 rfl) ?_
          obtain ⟨a30, hP31, hf⟩ := lp_inv hf
          refine r_getP C hw cf10 26 (by decide) rfl hT6 hP31 fl_X10_58 dX10_worksOut_68 ?_
          refine lv_iload hx hb dX10_worksOut_71 (lv_at hl 0 rfl) ?_
          refine lv_sipush (v := 10000) hx hb dX10_worksOut_73 (by decide) ?_
          refine lv_isub hx hb dX10_worksOut_76 ?_
          obtain ⟨hT32, hf⟩ := gt_inv hf
          obtain ⟨hg33, hf⟩ := gd_inv hf
          refine r_iald C hw hT32 hg33 dX10_worksOut_77 ?_
          exact t_X10_worksOut_78 C ih M x0 x1 x2 x3 x4 a28 x2 (mI M a30 ((mI M a7 ((98 + (96 * x1)) + x4).toNatClampNeg) - 10000).toNatClampNeg) _ _ _ hf hw (lv_sub hl [1, 2, 3, 4, 5] rfl)
        · have hf := if_n hc hf
          refine lv_iload hx hb dX10_worksOut_62 (lv_at hl 0 rfl) ?_
          refine lv_goto (tgt := 78) hx hb dX10_worksOut_64 (by decide) ?_
          exact t_X10_worksOut_78 C ih M x0 x1 x2 x3 x4 a28 x2 (mI M a7 ((98 + (96 * x1)) + x4).toNatClampNeg) _ _ _ hf hw (lv_sub hl [1, 2, 3, 4, 5] rfl)
def f_X10_worksOut (M : Mem) (x0 : Nat) (x1 : Int32) : Option (Int32 × Mem) := gt (mT M x0) 11 (lp (mP M x0 0) (fun a2 => gt (mT M a2) 20 (gd (ib (70 + (2 * x1)) (mL M a2)) (f_X10_worksOut_21 FU M x0 x1 0 (irm (mI M a2 (70 + (2 * x1)).toNatClampNeg) 1000) 0))))
set_option maxHeartbeats 4000000 in
set_option maxRecDepth 100000 in
theorem c_X10_worksOut (l : Launch) (G : Gd) (A : Nat → Prop) (ad : Nat → Nat) {M : Mem} {x0 : Nat} {x1 : Int32}  {r : Int32} {M' : Mem} (hf : f_X10_worksOut M x0 x1 = some (r, M')) : Ct l yX10_worksOut cX10_worksOut 6 (some .int) rm_X10_worksOut [.ref (ad x0), .int x1] G A ad M (QI G A ad r M') 0 0 := by
  refine ct_start (by decide) (Nat.le_of_ble_eq_true rfl) ?_
  intro p e s m args below meth c ls C hin hw hl
  have C : Cx G A p s m args meth c RX10 cX10_worksOut 6 (some .int) := C
  have hl : lv_has ls 6 [(0, .ref (ad x0)), (1, .int x1)] := hl
  obtain ⟨hx, hb, -⟩ := id C
  rw [f_X10_worksOut] at hf
  refine lv_iconst (v := 0) hx hb dX10_worksOut_0 (by decide) ?_
  refine lv_istore_n (lv' := [(2, .int 0), (0, .ref (ad x0)), (1, .int x1)]) hx hb dX10_worksOut_1 rfl hl (by decide) rfl (fun ls hl => ?_)
  refine lv_aload_n hx hb dX10_worksOut_2 rfl (lv_at hl 1 rfl) ?_
  obtain ⟨hT1, hf⟩ := gt_inv hf
  obtain ⟨a2, hP3, hf⟩ := lp_inv hf
  refine r_getP C hw cf10 0 (by decide) rfl hT1 hP3 fl_X10_9 dX10_worksOut_3 ?_
  refine lv_bipush (v := 70) hx hb dX10_worksOut_6 (by decide) ?_
  refine lv_iconst (v := 2) hx hb dX10_worksOut_8 (by decide) ?_
  refine lv_iload_n hx hb dX10_worksOut_9 rfl (lv_at hl 2 rfl) ?_
  refine lv_imul hx hb dX10_worksOut_10 ?_
  refine lv_iadd hx hb dX10_worksOut_11 ?_
  obtain ⟨hT4, hf⟩ := gt_inv hf
  obtain ⟨hg5, hf⟩ := gd_inv hf
  refine r_iald C hw hT4 hg5 dX10_worksOut_12 ?_
  refine lv_sipush (v := 1000) hx hb dX10_worksOut_13 (by decide) ?_
  refine lv_irem hx hb dX10_worksOut_16 (by decide) ?_
  refine lv_istore_n (lv' := [(3, .int (irm (mI M a2 (70 + (2 * x1)).toNatClampNeg) 1000)), (2, .int 0), (0, .ref (ad x0)), (1, .int x1)]) hx hb dX10_worksOut_17 rfl hl (by decide) rfl (fun ls hl => ?_)
  refine lv_iconst (v := 0) hx hb dX10_worksOut_18 (by decide) ?_
  refine lv_istore (lv' := [(4, .int 0), (3, .int (irm (mI M a2 (70 + (2 * x1)).toNatClampNeg) 1000)), (2, .int 0), (0, .ref (ad x0)), (1, .int x1)]) hx hb dX10_worksOut_19 hl (by decide) rfl (fun ls hl => ?_)
  exact t_X10_worksOut_21 C FU M x0 x1 0 (irm (mI M a2 (70 + (2 * x1)).toNatClampNeg) 1000) 0 _ _ _ hf hw (lv_sub hl [3, 4, 2, 1, 0] rfl)
/-! StorkVoteModel.likesOf(II)I -/
abbrev rm_X10_likesOf : Room := { frames := 2, cells := 0, slots := 0, locals := 47 }
def f_X10_likesOf_93 (M : Mem) (x0 : Nat) (x2 : Int32) (x3 : Int32) (s0 : Int32) : Option (Int32 × Mem) := cl (f_X10_within M s0 0 999) (fun r2 M1 => gt (mT M1 x0) 11 (cl (f_X10_of M1 x0 x2 0) (fun r5 M4 => (if r5 = 1 then some ((r2 + 10), M4) else if r5 = 2 then some ((r2 / 2), M4) else if r5 = 3 then some ((2 * (r2 + 10)), M4) else if r5 = 4 then gt (mT M4 x0) 11 (cl (f_X10_of M4 x0 x2 2) (fun r13 M12 => some (((r2 / 2) + r13), M12))) else if r5 = 5 then gt (mT M4 x0) 11 (cl (f_X10_of M4 x0 x2 3) (fun r18 M17 => some ((r18 + (50 * x3)), M17))) else some (r2, M4)))))
set_option maxHeartbeats 4000000 in
set_option maxRecDepth 100000 in
theorem t_X10_likesOf_93 {l : Launch} {p : Program} {e : Env} {s : State} {m : MethodId} {args : Array Value} {below : List Frame} {meth : Method} {c : Code} {G : Gd} {A : Nat → Prop} {ad : Nat → Nat} (C : Cx G A p s m args meth c RX10 cX10_likesOf 6 (some .int)) {r : Int32} {M' : Mem} : ∀ (M : Mem) (x0 : Nat) (x2 : Int32) (x3 : Int32) (s0 : Int32) (H : Heap) (locs : List Loc) (ls : Array Slot), f_X10_likesOf_93  M x0 x2 x3 s0 = some (r, M') → Wd G A ad s.heap M H locs → lv_has ls 6 [(0, .ref (ad x0)), (2, .int x2), (3, .int x3)] → W p l e rm_X10_likesOf s m args below meth c H locs 0 0 (MQ below (QI G A ad r M') args s 0 0 A) (F0 m 93 ls [.int s0]) := by
  obtain ⟨hx, hb, -⟩ := id C
  intro M x0 x2 x3 s0 H locs ls hf hw hl
  rw [f_X10_likesOf_93] at hf
  refine lv_iconst (v := 0) hx hb dX10_likesOf_93 (by decide) ?_
  refine lv_sipush (v := 999) hx hb dX10_likesOf_94 (by decide) ?_
  obtain ⟨r2, M1, hc3, hf⟩ := cl_inv hf
  refine fin_I (run_S C hw mf_X10_within ms_X10_within ml_X10_140 (c_X10_within l G A ad hc3) (As := [.int s0, .int 0, .int 999]) (rest := []) hl.1 rfl rfl (Nat.le_of_ble_eq_true rfl) ⟨rfl, rfl, Nat.le_of_ble_eq_true rfl, Nat.le_of_ble_eq_true rfl⟩ ⟨Nat.zero_le _, Nat.zero_le _⟩ dX10_likesOf_97) hw (fun H locs hw => ?_)
  refine lv_istore (lv' := [(5, .int r2), (0, .ref (ad x0)), (2, .int x2), (3, .int x3)]) hx hb dX10_likesOf_100 hl (by decide) rfl (fun ls hl => ?_)
  refine lv_aload_n hx hb dX10_likesOf_102 rfl (lv_at hl 1 rfl) ?_
  refine lv_iload_n hx hb dX10_likesOf_103 rfl (lv_at hl 2 rfl) ?_
  refine lv_iconst (v := 0) hx hb dX10_likesOf_104 (by decide) ?_
  obtain ⟨hT7, hf⟩ := gt_inv hf
  obtain ⟨r5, M4, hc6, hf⟩ := cl_inv hf
  refine fin_I (run_V C hw mf_X10_of mv_X10_of ml_X10_103 cf10 hT7 (c_X10_of l G A ad hc6) (As := [.int x2, .int 0]) (rest := []) hl.1 rfl rfl (Nat.le_of_ble_eq_true rfl) ⟨rfl, rfl, Nat.le_of_ble_eq_true rfl, Nat.le_of_ble_eq_true rfl⟩ ⟨Nat.zero_le _, Nat.zero_le _⟩ dX10_likesOf_105) hw (fun H locs hw => ?_)
  by_cases hc8 : r5 = 1
  · have hf := if_p hc8 hf
    refine r_tabIn 1 hc8 hx hb dX10_likesOf_108 (by decide) (by decide) rfl (tgt := 144) (by decide) ?_
    refine lv_iload hx hb dX10_likesOf_144 (lv_at hl 0 rfl) ?_
    refine lv_bipush (v := 10) hx hb dX10_likesOf_146 (by decide) ?_
    refine lv_iadd hx hb dX10_likesOf_148 ?_
    exact e_iret C hw hf dX10_likesOf_149
  · have hf := if_n hc8 hf
    by_cases hc9 : r5 = 2
    · have hf := if_p hc9 hf
      refine r_tabIn 2 hc9 hx hb dX10_likesOf_108 (by decide) (by decide) rfl (tgt := 150) (by decide) ?_
      refine lv_iload hx hb dX10_likesOf_150 (lv_at hl 0 rfl) ?_
      refine lv_iconst (v := 2) hx hb dX10_likesOf_152 (by decide) ?_
      refine lv_idiv hx hb dX10_likesOf_153 (by decide) ?_
      exact e_iret C hw hf dX10_likesOf_154
    · have hf := if_n hc9 hf
      by_cases hc10 : r5 = 3
      · have hf := if_p hc10 hf
        refine r_tabIn 3 hc10 hx hb dX10_likesOf_108 (by decide) (by decide) rfl (tgt := 155) (by decide) ?_
        refine lv_iconst (v := 2) hx hb dX10_likesOf_155 (by decide) ?_
        refine lv_iload hx hb dX10_likesOf_156 (lv_at hl 0 rfl) ?_
        refine lv_bipush (v := 10) hx hb dX10_likesOf_158 (by decide) ?_
        refine lv_iadd hx hb dX10_likesOf_160 ?_
        refine lv_imul hx hb dX10_likesOf_161 ?_
        exact e_iret C hw hf dX10_likesOf_162
      · have hf := if_n hc10 hf
        by_cases hc11 : r5 = 4
        · have hf := if_p hc11 hf
          refine r_tabIn 4 hc11 hx hb dX10_likesOf_108 (by decide) (by decide) rfl (tgt := 163) (by decide) ?_
          refine lv_iload hx hb dX10_likesOf_163 (lv_at hl 0 rfl) ?_
          refine lv_iconst (v := 2) hx hb dX10_likesOf_165 (by decide) ?_
          refine lv_idiv hx hb dX10_likesOf_166 (by decide) ?_
          refine lv_aload_n hx hb dX10_likesOf_167 rfl (lv_at hl 1 rfl) ?_
          refine lv_iload_n hx hb dX10_likesOf_168 rfl (lv_at hl 2 rfl) ?_
          refine lv_iconst (v := 2) hx hb dX10_likesOf_169 (by decide) ?_
          obtain ⟨hT15, hf⟩ := gt_inv hf
          obtain ⟨r13, M12, hc14, hf⟩ := cl_inv hf
          refine fin_I (run_V C hw mf_X10_of mv_X10_of ml_X10_103 cf10 hT15 (c_X10_of l G A ad hc14) (As := [.int x2, .int 2]) (rest := [.int (r2 / 2)]) hl.1 rfl rfl (Nat.le_of_ble_eq_true rfl) ⟨rfl, rfl, Nat.le_of_ble_eq_true rfl, Nat.le_of_ble_eq_true rfl⟩ ⟨Nat.zero_le _, Nat.zero_le _⟩ dX10_likesOf_170) hw (fun H locs hw => ?_)
          refine lv_iadd hx hb dX10_likesOf_173 ?_
          exact e_iret C hw hf dX10_likesOf_174
        · have hf := if_n hc11 hf
          by_cases hc16 : r5 = 5
          · have hf := if_p hc16 hf
            refine r_tabIn 5 hc16 hx hb dX10_likesOf_108 (by decide) (by decide) rfl (tgt := 175) (by decide) ?_
            refine lv_aload_n hx hb dX10_likesOf_175 rfl (lv_at hl 1 rfl) ?_
            refine lv_iload_n hx hb dX10_likesOf_176 rfl (lv_at hl 2 rfl) ?_
            refine lv_iconst (v := 3) hx hb dX10_likesOf_177 (by decide) ?_
            obtain ⟨hT20, hf⟩ := gt_inv hf
            obtain ⟨r18, M17, hc19, hf⟩ := cl_inv hf
            refine fin_I (run_V C hw mf_X10_of mv_X10_of ml_X10_103 cf10 hT20 (c_X10_of l G A ad hc19) (As := [.int x2, .int 3]) (rest := []) hl.1 rfl rfl (Nat.le_of_ble_eq_true rfl) ⟨rfl, rfl, Nat.le_of_ble_eq_true rfl, Nat.le_of_ble_eq_true rfl⟩ ⟨Nat.zero_le _, Nat.zero_le _⟩ dX10_likesOf_178) hw (fun H locs hw => ?_)
            refine lv_bipush (v := 50) hx hb dX10_likesOf_181 (by decide) ?_
            refine lv_iload_n hx hb dX10_likesOf_183 rfl (lv_at hl 3 rfl) ?_
            refine lv_imul hx hb dX10_likesOf_184 ?_
            refine lv_iadd hx hb dX10_likesOf_185 ?_
            exact e_iret C hw hf dX10_likesOf_186
          · have hf := if_n hc16 hf
            refine r_tabOut hx hb dX10_likesOf_108 (by have n0 := sw_nei (k := 1) (by decide) hc8; have n1 := sw_nei (k := 2) (by decide) hc9; have n2 := sw_nei (k := 3) (by decide) hc10; have n3 := sw_nei (k := 4) (by decide) hc11; have n4 := sw_nei (k := 5) (by decide) hc16; omega) (tgt := 187) (by decide) ?_
            refine lv_iload hx hb dX10_likesOf_187 (lv_at hl 0 rfl) ?_
            exact e_iret C hw hf dX10_likesOf_189
def f_X10_likesOf_22 (M : Mem) (x0 : Nat) (x2 : Int32) (s0 : Int32) : Option (Int32 × Mem) := gt (mT M x0) 11 (cl (f_X10_counts M x0 0) (fun r2 M1 => gt (mT M1 x0) 11 (lp (mP M1 x0 26) (fun a6 => cl (f_X10_of M1 x0 x2 2) (fun r9 M8 => gt (mT M8 a6) 20 (gd (ib 0 (mL M8 a6)) (st (setI M8 a6 (0 : Int32).toNatClampNeg r9) (fun M13 => gt (mT M13 x0) 11 (lp (mP M13 x0 26) (fun a17 => cl (f_X10_of M13 x0 x2 3) (fun r20 M19 => gt (mT M19 a17) 20 (gd (ib 1 (mL M19 a17)) (st (setI M19 a17 (1 : Int32).toNatClampNeg r20) (fun M24 => gt (mT M24 x0) 11 (lp (mP M24 x0 26) (fun a28 => gt (mT M24 a28) 20 (gd (ib 2 (mL M24 a28)) (st (setI M24 a28 (2 : Int32).toNatClampNeg s0) (fun M32 => (if 0 ≤ r2 then cl (f_X10_worksOut M32 x0 r2) (fun r36 M35 => f_X10_likesOf_93 M35 x0 x2 s0 r36) else cl (f_X10_of M32 x0 x2 2) (fun r39 M38 => gt (mT M38 x0) 11 (cl (f_X10_of M38 x0 x2 3) (fun r42 M41 => f_X10_likesOf_93 M41 x0 x2 s0 ((r39 + r42) + (20 * s0)))))))))))))))))))))))))
set_option maxHeartbeats 4000000 in
set_option maxRecDepth 100000 in
theorem t_X10_likesOf_22 {l : Launch} {p : Program} {e : Env} {s : State} {m : MethodId} {args : Array Value} {below : List Frame} {meth : Method} {c : Code} {G : Gd} {A : Nat → Prop} {ad : Nat → Nat} (C : Cx G A p s m args meth c RX10 cX10_likesOf 6 (some .int)) {r : Int32} {M' : Mem} : ∀ (M : Mem) (x0 : Nat) (x2 : Int32) (s0 : Int32) (H : Heap) (locs : List Loc) (ls : Array Slot), f_X10_likesOf_22  M x0 x2 s0 = some (r, M') → Wd G A ad s.heap M H locs → lv_has ls 6 [(0, .ref (ad x0)), (2, .int x2)] → W p l e rm_X10_likesOf s m args below meth c H locs 0 0 (MQ below (QI G A ad r M') args s 0 0 A) (F0 m 22 ls [.int s0]) := by
  obtain ⟨hx, hb, -⟩ := id C
  intro M x0 x2 s0 H locs ls hf hw hl
  rw [f_X10_likesOf_22] at hf
  refine lv_istore_n (lv' := [(3, .int s0), (0, .ref (ad x0)), (2, .int x2)]) hx hb dX10_likesOf_22 rfl hl (by decide) rfl (fun ls hl => ?_)
  refine lv_aload_n hx hb dX10_likesOf_23 rfl (lv_at hl 1 rfl) ?_
  refine lv_iconst (v := 0) hx hb dX10_likesOf_24 (by decide) ?_
  obtain ⟨hT4, hf⟩ := gt_inv hf
  obtain ⟨r2, M1, hc3, hf⟩ := cl_inv hf
  refine fin_I (run_V C hw mf_X10_counts mv_X10_counts ml_X10_134 cf10 hT4 (c_X10_counts l G A ad hc3) (As := [.int 0]) (rest := []) hl.1 rfl rfl (Nat.le_of_ble_eq_true rfl) ⟨rfl, rfl, Nat.le_of_ble_eq_true rfl, Nat.le_of_ble_eq_true rfl⟩ ⟨Nat.zero_le _, Nat.zero_le _⟩ dX10_likesOf_25) hw (fun H locs hw => ?_)
  refine lv_istore (lv' := [(4, .int r2), (3, .int s0), (0, .ref (ad x0)), (2, .int x2)]) hx hb dX10_likesOf_28 hl (by decide) rfl (fun ls hl => ?_)
  refine lv_aload_n hx hb dX10_likesOf_30 rfl (lv_at hl 2 rfl) ?_
  obtain ⟨hT5, hf⟩ := gt_inv hf
  obtain ⟨a6, hP7, hf⟩ := lp_inv hf
  refine r_getP C hw cf10 26 (by decide) rfl hT5 hP7 fl_X10_58 dX10_likesOf_31 ?_
  refine lv_iconst (v := 0) hx hb dX10_likesOf_34 (by decide) ?_
  refine lv_aload_n hx hb dX10_likesOf_35 rfl (lv_at hl 2 rfl) ?_
  refine lv_iload_n hx hb dX10_likesOf_36 rfl (lv_at hl 3 rfl) ?_
  refine lv_iconst (v := 2) hx hb dX10_likesOf_37 (by decide) ?_
  obtain ⟨r9, M8, hc10, hf⟩ := cl_inv hf
  refine fin_I (run_V C hw mf_X10_of mv_X10_of ml_X10_103 cf10 hT5 (c_X10_of l G A ad hc10) (As := [.int x2, .int 2]) (rest := [.int 0, .ref (ad a6)]) hl.1 rfl rfl (Nat.le_of_ble_eq_true rfl) ⟨rfl, rfl, Nat.le_of_ble_eq_true rfl, Nat.le_of_ble_eq_true rfl⟩ ⟨Nat.zero_le _, Nat.zero_le _⟩ dX10_likesOf_38) hw (fun H locs hw => ?_)
  obtain ⟨hT11, hf⟩ := gt_inv hf
  obtain ⟨hg12, hf⟩ := gd_inv hf
  obtain ⟨M13, e14, hf⟩ := st_inv hf
  have g15 := sg_I e14
  refine r_iast C hw hT11 hg12 e14 dX10_likesOf_41 (fun H locs hw => ?_)
  refine lv_aload_n hx hb dX10_likesOf_42 rfl (lv_at hl 2 rfl) ?_
  obtain ⟨hT16, hf⟩ := gt_inv hf
  obtain ⟨a17, hP18, hf⟩ := lp_inv hf
  refine r_getP C hw cf10 26 (by decide) rfl hT16 hP18 fl_X10_58 dX10_likesOf_43 ?_
  refine lv_iconst (v := 1) hx hb dX10_likesOf_46 (by decide) ?_
  refine lv_aload_n hx hb dX10_likesOf_47 rfl (lv_at hl 2 rfl) ?_
  refine lv_iload_n hx hb dX10_likesOf_48 rfl (lv_at hl 3 rfl) ?_
  refine lv_iconst (v := 3) hx hb dX10_likesOf_49 (by decide) ?_
  obtain ⟨r20, M19, hc21, hf⟩ := cl_inv hf
  refine fin_I (run_V C hw mf_X10_of mv_X10_of ml_X10_103 cf10 hT16 (c_X10_of l G A ad hc21) (As := [.int x2, .int 3]) (rest := [.int 1, .ref (ad a17)]) hl.1 rfl rfl (Nat.le_of_ble_eq_true rfl) ⟨rfl, rfl, Nat.le_of_ble_eq_true rfl, Nat.le_of_ble_eq_true rfl⟩ ⟨Nat.zero_le _, Nat.zero_le _⟩ dX10_likesOf_50) hw (fun H locs hw => ?_)
  obtain ⟨hT22, hf⟩ := gt_inv hf
  obtain ⟨hg23, hf⟩ := gd_inv hf
  obtain ⟨M24, e25, hf⟩ := st_inv hf
  have g26 := sg_I e25
  refine r_iast C hw hT22 hg23 e25 dX10_likesOf_53 (fun H locs hw => ?_)
  refine lv_aload_n hx hb dX10_likesOf_54 rfl (lv_at hl 2 rfl) ?_
  obtain ⟨hT27, hf⟩ := gt_inv hf
  obtain ⟨a28, hP29, hf⟩ := lp_inv hf
  refine r_getP C hw cf10 26 (by decide) rfl hT27 hP29 fl_X10_58 dX10_likesOf_55 ?_
  refine lv_iconst (v := 2) hx hb dX10_likesOf_58 (by decide) ?_
  refine lv_iload_n hx hb dX10_likesOf_59 rfl (lv_at hl 1 rfl) ?_
  obtain ⟨hT30, hf⟩ := gt_inv hf
  obtain ⟨hg31, hf⟩ := gd_inv hf
  obtain ⟨M32, e33, hf⟩ := st_inv hf
  have g34 := sg_I e33
  refine r_iast C hw hT30 hg31 e33 dX10_likesOf_60 (fun H locs hw => ?_)
  refine lv_iload hx hb dX10_likesOf_61 (lv_at hl 0 rfl) ?_
  refine lv_if_ge (tgt := 87) hx hb dX10_likesOf_63 (by decide) (fun hc => ?_) (fun hc => ?_)
  · have hf := if_p hc hf
    refine lv_aload_n hx hb dX10_likesOf_87 rfl (lv_at hl 2 rfl) ?_
    refine lv_iload hx hb dX10_likesOf_88 (lv_at hl 0 rfl) ?_
    obtain ⟨r36, M35, hc37, hf⟩ := cl_inv hf
    refine fin_I (run_V C hw mf_X10_worksOut mv_X10_worksOut ml_X10_137 cf10 (T_of g34 hT27) (c_X10_worksOut l G A ad hc37) (As := [.int r2]) (rest := []) hl.1 rfl rfl (Nat.le_of_ble_eq_true rfl) ⟨rfl, rfl, Nat.le_of_ble_eq_true rfl, Nat.le_of_ble_eq_true rfl⟩ ⟨Nat.zero_le _, Nat.zero_le _⟩ dX10_likesOf_90) hw (fun H locs hw => ?_)
    exact t_X10_likesOf_93 C M35 x0 x2 s0 r36 _ _ _ hf hw (lv_sub hl [2, 3, 1] rfl)
  · have hf := if_n hc hf
    refine lv_aload_n hx hb dX10_likesOf_66 rfl (lv_at hl 2 rfl) ?_
    refine lv_iload_n hx hb dX10_likesOf_67 rfl (lv_at hl 3 rfl) ?_
    refine lv_iconst (v := 2) hx hb dX10_likesOf_68 (by decide) ?_
    obtain ⟨r39, M38, hc40, hf⟩ := cl_inv hf
    refine fin_I (run_V C hw mf_X10_of mv_X10_of ml_X10_103 cf10 (T_of g34 hT27) (c_X10_of l G A ad hc40) (As := [.int x2, .int 2]) (rest := []) hl.1 rfl rfl (Nat.le_of_ble_eq_true rfl) ⟨rfl, rfl, Nat.le_of_ble_eq_true rfl, Nat.le_of_ble_eq_true rfl⟩ ⟨Nat.zero_le _, Nat.zero_le _⟩ dX10_likesOf_69) hw (fun H locs hw => ?_)
    refine lv_aload_n hx hb dX10_likesOf_72 rfl (lv_at hl 2 rfl) ?_
    refine lv_iload_n hx hb dX10_likesOf_73 rfl (lv_at hl 3 rfl) ?_
    refine lv_iconst (v := 3) hx hb dX10_likesOf_74 (by decide) ?_
    obtain ⟨hT44, hf⟩ := gt_inv hf
    obtain ⟨r42, M41, hc43, hf⟩ := cl_inv hf
    refine fin_I (run_V C hw mf_X10_of mv_X10_of ml_X10_103 cf10 hT44 (c_X10_of l G A ad hc43) (As := [.int x2, .int 3]) (rest := [.int r39]) hl.1 rfl rfl (Nat.le_of_ble_eq_true rfl) ⟨rfl, rfl, Nat.le_of_ble_eq_true rfl, Nat.le_of_ble_eq_true rfl⟩ ⟨Nat.zero_le _, Nat.zero_le _⟩ dX10_likesOf_75) hw (fun H locs hw => ?_)
    refine lv_iadd hx hb dX10_likesOf_78 ?_
    refine lv_bipush (v := 20) hx hb dX10_likesOf_79 (by decide) ?_
    refine lv_iload_n hx hb dX10_likesOf_81 rfl (lv_at hl 1 rfl) ?_
    refine lv_imul hx hb dX10_likesOf_82 ?_
    refine lv_iadd hx hb dX10_likesOf_83 ?_
    refine lv_goto (tgt := 93) hx hb dX10_likesOf_84 (by decide) ?_
    exact t_X10_likesOf_93 C M41 x0 x2 s0 ((r39 + r42) + (20 * s0)) _ _ _ hf hw (lv_sub hl [2, 3, 1] rfl)
def f_X10_likesOf (M : Mem) (x0 : Nat) (x1 : Int32) (x2 : Int32) : Option (Int32 × Mem) := gt (mT M x0) 11 (lp (mP M x0 0) (fun a2 => gt (mT M a2) 20 (gd (ib ((8 + (3 * x1)) + 1) (mL M a2)) ((if (mI M a2 ((8 + (3 * x1)) + 1).toNatClampNeg) = x2 then f_X10_likesOf_22 M x0 x2 1 else f_X10_likesOf_22 M x0 x2 0)))))
set_option maxHeartbeats 4000000 in
set_option maxRecDepth 100000 in
theorem c_X10_likesOf (l : Launch) (G : Gd) (A : Nat → Prop) (ad : Nat → Nat) {M : Mem} {x0 : Nat} {x1 : Int32} {x2 : Int32}  {r : Int32} {M' : Mem} (hf : f_X10_likesOf M x0 x1 x2 = some (r, M')) : Ct l yX10_likesOf cX10_likesOf 6 (some .int) rm_X10_likesOf [.ref (ad x0), .int x1, .int x2] G A ad M (QI G A ad r M') 0 0 := by
  refine ct_start (by decide) (Nat.le_of_ble_eq_true rfl) ?_
  intro p e s m args below meth c ls C hin hw hl
  have C : Cx G A p s m args meth c RX10 cX10_likesOf 6 (some .int) := C
  have hl : lv_has ls 6 [(0, .ref (ad x0)), (1, .int x1), (2, .int x2)] := hl
  obtain ⟨hx, hb, -⟩ := id C
  rw [f_X10_likesOf] at hf
  refine lv_aload_n hx hb dX10_likesOf_0 rfl (lv_at hl 0 rfl) ?_
  obtain ⟨hT1, hf⟩ := gt_inv hf
  obtain ⟨a2, hP3, hf⟩ := lp_inv hf
  refine r_getP C hw cf10 0 (by decide) rfl hT1 hP3 fl_X10_9 dX10_likesOf_1 ?_
  refine lv_bipush (v := 8) hx hb dX10_likesOf_4 (by decide) ?_
  refine lv_iconst (v := 3) hx hb dX10_likesOf_6 (by decide) ?_
  refine lv_iload_n hx hb dX10_likesOf_7 rfl (lv_at hl 1 rfl) ?_
  refine lv_imul hx hb dX10_likesOf_8 ?_
  refine lv_iadd hx hb dX10_likesOf_9 ?_
  refine lv_iconst (v := 1) hx hb dX10_likesOf_10 (by decide) ?_
  refine lv_iadd hx hb dX10_likesOf_11 ?_
  obtain ⟨hT4, hf⟩ := gt_inv hf
  obtain ⟨hg5, hf⟩ := gd_inv hf
  refine r_iald C hw hT4 hg5 dX10_likesOf_12 ?_
  refine lv_iload_n hx hb dX10_likesOf_13 rfl (lv_at hl 2 rfl) ?_
  refine lv_icmp_ne (tgt := 21) hx hb dX10_likesOf_14 (by decide) (fun hc => ?_) (fun hc => ?_)
  · have hf := if_n hc hf
    refine lv_iconst (v := 0) hx hb dX10_likesOf_21 (by decide) ?_
    exact t_X10_likesOf_22 C M x0 x2 0 _ _ _ hf hw (lv_sub hl [0, 2] rfl)
  · have hf := if_p hc hf
    refine lv_iconst (v := 1) hx hb dX10_likesOf_17 (by decide) ?_
    refine lv_goto (tgt := 22) hx hb dX10_likesOf_18 (by decide) ?_
    exact t_X10_likesOf_22 C M x0 x2 1 _ _ _ hf hw (lv_sub hl [0, 2] rfl)
/-! StorkVoteModel.choiceOf(I)I -/
abbrev rm_X10_choiceOf : Room := { frames := 3, cells := 0, slots := 0, locals := 72 }
def f_X10_choiceOf_7 : Nat → Mem → Nat → Int32 → Int32 → Int32 → Int32 → Option (Int32 × Mem)
  | 0, _, _, _, _, _, _ => none
  | n + 1, M, x0, x1, x2, x3, x4 => gt (mT M x0) 11 (lp (mP M x0 0) (fun a2 => gt (mT M a2) 20 (gd (ib 1 (mL M a2)) ((if (mI M a2 (1 : Int32).toNatClampNeg) ≤ x4 then some (x2, M) else lp (mP M x0 5) (fun a6 => gt (mT M a6) 20 (gd (ib x4 (mL M a6)) ((if 0 ≤ (mI M a6 x4.toNatClampNeg) then f_X10_choiceOf_7 n M x0 x1 x2 x3 (x4 + 1) else (if x4 = (mI M x0 4) then f_X10_choiceOf_7 n M x0 x1 x2 x3 (x4 + 1) else cl (f_X10_likesOf M x0 x1 x4) (fun r11 M10 => gt (mT M10 x0) 11 (lp (mP M10 x0 0) (fun a14 => gt (mT M10 a14) 20 (gd (ib 4 (mL M10 a14)) ((if r11 < (mI M10 a14 (4 : Int32).toNatClampNeg) then f_X10_choiceOf_7 n M10 x0 x1 x2 x3 (x4 + 1) else (if x2 < 0 then f_X10_choiceOf_7 n M10 x0 x1 x4 r11 (x4 + 1) else (if r11 ≤ x3 then f_X10_choiceOf_7 n M10 x0 x1 x2 x3 (x4 + 1) else f_X10_choiceOf_7 n M10 x0 x1 x4 r11 (x4 + 1)))))))))))))))))))
set_option maxHeartbeats 4000000 in
set_option maxRecDepth 100000 in
theorem t_X10_choiceOf_7 {l : Launch} {p : Program} {e : Env} {s : State} {m : MethodId} {args : Array Value} {below : List Frame} {meth : Method} {c : Code} {G : Gd} {A : Nat → Prop} {ad : Nat → Nat} (C : Cx G A p s m args meth c RX10 cX10_choiceOf 6 (some .int)) {r : Int32} {M' : Mem} : ∀ (n : Nat) (M : Mem) (x0 : Nat) (x1 : Int32) (x2 : Int32) (x3 : Int32) (x4 : Int32) (H : Heap) (locs : List Loc) (ls : Array Slot), f_X10_choiceOf_7  n M x0 x1 x2 x3 x4 = some (r, M') → Wd G A ad s.heap M H locs → lv_has ls 6 [(0, .ref (ad x0)), (1, .int x1), (2, .int x2), (3, .int x3), (4, .int x4)] → W p l e rm_X10_choiceOf s m args below meth c H locs 0 0 (MQ below (QI G A ad r M') args s 0 0 A) (F0 m 7 ls []) := by
  obtain ⟨hx, hb, -⟩ := id C
  intro n
  induction n with
  | zero =>
    intro M x0 x1 x2 x3 x4 H locs ls hf
    rw [f_X10_choiceOf_7] at hf
    exact absurd hf (fun h => nomatch h)
  | succ n ih =>
    intro M x0 x1 x2 x3 x4 H locs ls hf hw hl
    rw [f_X10_choiceOf_7] at hf
    refine lv_iload hx hb dX10_choiceOf_7 (lv_at hl 4 rfl) ?_
    refine lv_aload_n hx hb dX10_choiceOf_9 rfl (lv_at hl 0 rfl) ?_
    obtain ⟨hT1, hf⟩ := gt_inv hf
    obtain ⟨a2, hP3, hf⟩ := lp_inv hf
    refine r_getP C hw cf10 0 (by decide) rfl hT1 hP3 fl_X10_9 dX10_choiceOf_10 ?_
    refine lv_iconst (v := 1) hx hb dX10_choiceOf_13 (by decide) ?_
    obtain ⟨hT4, hf⟩ := gt_inv hf
    obtain ⟨hg5, hf⟩ := gd_inv hf
    refine r_iald C hw hT4 hg5 dX10_choiceOf_14 ?_
    refine lv_icmp_ge (tgt := 82) hx hb dX10_choiceOf_15 (by decide) (fun hc => ?_) (fun hc => ?_)
    · have hf := if_p hc hf
      refine lv_iload_n hx hb dX10_choiceOf_82 rfl (lv_at hl 2 rfl) ?_
      exact e_iret C hw hf dX10_choiceOf_83
    · have hf := if_n hc hf
      refine lv_aload_n hx hb dX10_choiceOf_18 rfl (lv_at hl 0 rfl) ?_
      obtain ⟨a6, hP7, hf⟩ := lp_inv hf
      refine r_getP C hw cf10 5 (by decide) rfl hT1 hP7 fl_X10_23 dX10_choiceOf_19 ?_
      refine lv_iload hx hb dX10_choiceOf_22 (lv_at hl 4 rfl) ?_
      obtain ⟨hT8, hf⟩ := gt_inv hf
      obtain ⟨hg9, hf⟩ := gd_inv hf
      refine r_iald C hw hT8 hg9 dX10_choiceOf_24 ?_
      refine lv_if_ge (tgt := 76) hx hb dX10_choiceOf_25 (by decide) (fun hc => ?_) (fun hc => ?_)
      · have hf := if_p hc hf
        refine lv_iinc (v := (x4 + 1)) (lv' := [(4, .int (x4 + 1)), (0, .ref (ad x0)), (1, .int x1), (2, .int x2), (3, .int x3)]) hx hb dX10_choiceOf_76 hl (k := 4) rfl rfl (by decide) rfl (fun ls hl => ?_)
        refine lv_goto (tgt := 7) hx hb dX10_choiceOf_79 (by decide) ?_
        exact ih M x0 x1 x2 x3 (x4 + 1) _ _ _ hf hw (lv_sub hl [1, 2, 3, 4, 0] rfl)
      · have hf := if_n hc hf
        refine lv_iload hx hb dX10_choiceOf_28 (lv_at hl 4 rfl) ?_
        refine lv_aload_n hx hb dX10_choiceOf_30 rfl (lv_at hl 0 rfl) ?_
        refine r_getI C hw cf10 4 (by decide) rfl hT1 fl_X10_19 dX10_choiceOf_31 ?_
        refine lv_icmp_ne (tgt := 40) hx hb dX10_choiceOf_34 (by decide) (fun hc => ?_) (fun hc => ?_)
        · have hf := if_n hc hf
          refine lv_aload_n hx hb dX10_choiceOf_40 rfl (lv_at hl 0 rfl) ?_
          refine lv_iload_n hx hb dX10_choiceOf_41 rfl (lv_at hl 1 rfl) ?_
          refine lv_iload hx hb dX10_choiceOf_42 (lv_at hl 4 rfl) ?_
          obtain ⟨r11, M10, hc12, hf⟩ := cl_inv hf
          refine fin_I (run_V C hw mf_X10_likesOf mv_X10_likesOf ml_X10_144 cf10 hT1 (c_X10_likesOf l G A ad hc12) (As := [.int x1, .int x4]) (rest := []) hl.1 rfl rfl (Nat.le_of_ble_eq_true rfl) ⟨rfl, rfl, Nat.le_of_ble_eq_true rfl, Nat.le_of_ble_eq_true rfl⟩ ⟨Nat.zero_le _, Nat.zero_le _⟩ dX10_choiceOf_44) hw (fun H locs hw => ?_)
          refine lv_istore (lv' := [(5, .int r11), (0, .ref (ad x0)), (1, .int x1), (2, .int x2), (3, .int x3), (4, .int x4)]) hx hb dX10_choiceOf_47 hl (by decide) rfl (fun ls hl => ?_)
          refine lv_iload hx hb dX10_choiceOf_49 (lv_at hl 0 rfl) ?_
          refine lv_aload_n hx hb dX10_choiceOf_51 rfl (lv_at hl 1 rfl) ?_
          obtain ⟨hT13, hf⟩ := gt_inv hf
          obtain ⟨a14, hP15, hf⟩ := lp_inv hf
          refine r_getP C hw cf10 0 (by decide) rfl hT13 hP15 fl_X10_9 dX10_choiceOf_52 ?_
          refine lv_iconst (v := 4) hx hb dX10_choiceOf_55 (by decide) ?_
          obtain ⟨hT16, hf⟩ := gt_inv hf
          obtain ⟨hg17, hf⟩ := gd_inv hf
          refine r_iald C hw hT16 hg17 dX10_choiceOf_56 ?_
          refine lv_icmp_lt (tgt := 76) hx hb dX10_choiceOf_57 (by decide) (fun hc => ?_) (fun hc => ?_)
          · have hf := if_p hc hf
            refine lv_iinc (v := (x4 + 1)) (lv' := [(4, .int (x4 + 1)), (5, .int r11), (0, .ref (ad x0)), (1, .int x1), (2, .int x2), (3, .int x3)]) hx hb dX10_choiceOf_76 hl (k := 5) rfl rfl (by decide) rfl (fun ls hl => ?_)
            refine lv_goto (tgt := 7) hx hb dX10_choiceOf_79 (by decide) ?_
            exact ih M10 x0 x1 x2 x3 (x4 + 1) _ _ _ hf hw (lv_sub hl [2, 3, 4, 5, 0] rfl)
          · have hf := if_n hc hf
            refine lv_iload_n hx hb dX10_choiceOf_60 rfl (lv_at hl 3 rfl) ?_
            refine lv_if_lt (tgt := 70) hx hb dX10_choiceOf_61 (by decide) (fun hc => ?_) (fun hc => ?_)
            · have hf := if_p hc hf
              refine lv_iload hx hb dX10_choiceOf_70 (lv_at hl 5 rfl) ?_
              refine lv_istore_n (lv' := [(2, .int x4), (5, .int r11), (0, .ref (ad x0)), (1, .int x1), (3, .int x3), (4, .int x4)]) hx hb dX10_choiceOf_72 rfl hl (by decide) rfl (fun ls hl => ?_)
              refine lv_iload hx hb dX10_choiceOf_73 (lv_at hl 1 rfl) ?_
              refine lv_istore_n (lv' := [(3, .int r11), (2, .int x4), (5, .int r11), (0, .ref (ad x0)), (1, .int x1), (4, .int x4)]) hx hb dX10_choiceOf_75 rfl hl (by decide) rfl (fun ls hl => ?_)
              refine lv_iinc (v := (x4 + 1)) (lv' := [(4, .int (x4 + 1)), (3, .int r11), (2, .int x4), (5, .int r11), (0, .ref (ad x0)), (1, .int x1)]) hx hb dX10_choiceOf_76 hl (k := 5) rfl rfl (by decide) rfl (fun ls hl => ?_)
              refine lv_goto (tgt := 7) hx hb dX10_choiceOf_79 (by decide) ?_
              exact ih M10 x0 x1 x4 r11 (x4 + 1) _ _ _ hf hw (lv_sub hl [4, 5, 2, 1, 0] rfl)
            · have hf := if_n hc hf
              refine lv_iload hx hb dX10_choiceOf_64 (lv_at hl 0 rfl) ?_
              refine lv_iload_n hx hb dX10_choiceOf_66 rfl (lv_at hl 4 rfl) ?_
              refine lv_icmp_le (tgt := 76) hx hb dX10_choiceOf_67 (by decide) (fun hc => ?_) (fun hc => ?_)
              · have hf := if_p hc hf
                refine lv_iinc (v := (x4 + 1)) (lv' := [(4, .int (x4 + 1)), (5, .int r11), (0, .ref (ad x0)), (1, .int x1), (2, .int x2), (3, .int x3)]) hx hb dX10_choiceOf_76 hl (k := 5) rfl rfl (by decide) rfl (fun ls hl => ?_)
                refine lv_goto (tgt := 7) hx hb dX10_choiceOf_79 (by decide) ?_
                exact ih M10 x0 x1 x2 x3 (x4 + 1) _ _ _ hf hw (lv_sub hl [2, 3, 4, 5, 0] rfl)
              · have hf := if_n hc hf
                refine lv_iload hx hb dX10_choiceOf_70 (lv_at hl 5 rfl) ?_
                refine lv_istore_n (lv' := [(2, .int x4), (5, .int r11), (0, .ref (ad x0)), (1, .int x1), (3, .int x3), (4, .int x4)]) hx hb dX10_choiceOf_72 rfl hl (by decide) rfl (fun ls hl => ?_)
                refine lv_iload hx hb dX10_choiceOf_73 (lv_at hl 1 rfl) ?_
                refine lv_istore_n (lv' := [(3, .int r11), (2, .int x4), (5, .int r11), (0, .ref (ad x0)), (1, .int x1), (4, .int x4)]) hx hb dX10_choiceOf_75 rfl hl (by decide) rfl (fun ls hl => ?_)
                refine lv_iinc (v := (x4 + 1)) (lv' := [(4, .int (x4 + 1)), (3, .int r11), (2, .int x4), (5, .int r11), (0, .ref (ad x0)), (1, .int x1)]) hx hb dX10_choiceOf_76 hl (k := 5) rfl rfl (by decide) rfl (fun ls hl => ?_)
                refine lv_goto (tgt := 7) hx hb dX10_choiceOf_79 (by decide) ?_
                exact ih M10 x0 x1 x4 r11 (x4 + 1) _ _ _ hf hw (lv_sub hl [4, 5, 2, 1, 0] rfl)
        · have hf := if_p hc hf
          refine lv_goto (tgt := 76) hx hb dX10_choiceOf_37 (by decide) ?_
          refine lv_iinc (v := (x4 + 1)) (lv' := [(4, .int (x4 + 1)), (0, .ref (ad x0)), (1, .int x1), (2, .int x2), (3, .int x3)]) hx hb dX10_choiceOf_76 hl (k := 4) rfl rfl (by decide) rfl (fun ls hl => ?_)
          refine lv_goto (tgt := 7) hx hb dX10_choiceOf_79 (by decide) ?_
          exact ih M x0 x1 x2 x3 (x4 + 1) _ _ _ hf hw (lv_sub hl [1, 2, 3, 4, 0] rfl)
def f_X10_choiceOf (M : Mem) (x0 : Nat) (x1 : Int32) : Option (Int32 × Mem) := f_X10_choiceOf_7 FU M x0 x1 (-1) 0 0
set_option maxHeartbeats 4000000 in
set_option maxRecDepth 100000 in
theorem c_X10_choiceOf (l : Launch) (G : Gd) (A : Nat → Prop) (ad : Nat → Nat) {M : Mem} {x0 : Nat} {x1 : Int32}  {r : Int32} {M' : Mem} (hf : f_X10_choiceOf M x0 x1 = some (r, M')) : Ct l yX10_choiceOf cX10_choiceOf 6 (some .int) rm_X10_choiceOf [.ref (ad x0), .int x1] G A ad M (QI G A ad r M') 0 0 := by
  refine ct_start (by decide) (Nat.le_of_ble_eq_true rfl) ?_
  intro p e s m args below meth c ls C hin hw hl
  have C : Cx G A p s m args meth c RX10 cX10_choiceOf 6 (some .int) := C
  have hl : lv_has ls 6 [(0, .ref (ad x0)), (1, .int x1)] := hl
  obtain ⟨hx, hb, -⟩ := id C
  rw [f_X10_choiceOf] at hf
  refine lv_iconst (v := (-1)) hx hb dX10_choiceOf_0 (by decide) ?_
  refine lv_istore_n (lv' := [(2, .int (-1)), (0, .ref (ad x0)), (1, .int x1)]) hx hb dX10_choiceOf_1 rfl hl (by decide) rfl (fun ls hl => ?_)
  refine lv_iconst (v := 0) hx hb dX10_choiceOf_2 (by decide) ?_
  refine lv_istore_n (lv' := [(3, .int 0), (2, .int (-1)), (0, .ref (ad x0)), (1, .int x1)]) hx hb dX10_choiceOf_3 rfl hl (by decide) rfl (fun ls hl => ?_)
  refine lv_iconst (v := 0) hx hb dX10_choiceOf_4 (by decide) ?_
  refine lv_istore (lv' := [(4, .int 0), (3, .int 0), (2, .int (-1)), (0, .ref (ad x0)), (1, .int x1)]) hx hb dX10_choiceOf_5 hl (by decide) rfl (fun ls hl => ?_)
  exact t_X10_choiceOf_7 C FU M x0 x1 (-1) 0 0 _ _ _ hf hw (lv_sub hl [3, 4, 2, 1, 0] rfl)
/-! StorkVoteModel.spring()V -/
abbrev rm_X10_spring : Room := { frames := 4, cells := 0, slots := 0, locals := 97 }
def f_X10_spring_97 (K54 : Mem → Nat → Int32 → Option (Unit × Mem)) (M : Mem) (x0 : Nat) : Option (Unit × Mem) := gt (mT M x0) 11 (cl (f_X10_nextStork M x0) (fun r2 M1 => K54 M1 x0 r2))
set_option maxHeartbeats 4000000 in
set_option maxRecDepth 100000 in
theorem t_X10_spring_97 {l : Launch} {p : Program} {e : Env} {s : State} {m : MethodId} {args : Array Value} {below : List Frame} {meth : Method} {c : Code} {G : Gd} {A : Nat → Prop} {ad : Nat → Nat} (C : Cx G A p s m args meth c RX10 cX10_spring 2 none) {M' : Mem} {K54 : Mem → Nat → Int32 → Option (Unit × Mem)} (hK54 : ∀ (M : Mem) (x0 : Nat) (x1 : Int32) (H : Heap) (locs : List Loc) (ls : Array Slot), K54 M x0 x1 = some ((), M') → Wd G A ad s.heap M H locs → lv_has ls 2 [(0, .ref (ad x0)), (1, .int x1)] → W p l e rm_X10_spring s m args below meth c H locs 0 0 (MQ below (QV G A ad M') args s 0 0 A) (F0 m 54 ls [])) : ∀ (M : Mem) (x0 : Nat) (H : Heap) (locs : List Loc) (ls : Array Slot), f_X10_spring_97 K54 M x0 = some ((), M') → Wd G A ad s.heap M H locs → lv_has ls 2 [(0, .ref (ad x0))] → W p l e rm_X10_spring s m args below meth c H locs 0 0 (MQ below (QV G A ad M') args s 0 0 A) (F0 m 97 ls []) := by
  obtain ⟨hx, hb, -⟩ := id C
  intro M x0 H locs ls hf hw hl
  rw [f_X10_spring_97] at hf
  refine lv_aload_n hx hb dX10_spring_97 rfl (lv_at hl 0 rfl) ?_
  obtain ⟨hT4, hf⟩ := gt_inv hf
  obtain ⟨r2, M1, hc3, hf⟩ := cl_inv hf
  refine fin_I (run_V C hw mf_X10_nextStork mv_X10_nextStork ml_X10_158 cf10 hT4 (c_X10_nextStork l G A ad hc3) (As := []) (rest := []) hl.1 rfl rfl (Nat.le_of_ble_eq_true rfl) ⟨rfl, rfl, Nat.le_of_ble_eq_true rfl, Nat.le_of_ble_eq_true rfl⟩ ⟨Nat.zero_le _, Nat.zero_le _⟩ dX10_spring_98) hw (fun H locs hw => ?_)
  refine lv_istore_n (lv' := [(1, .int r2), (0, .ref (ad x0))]) hx hb dX10_spring_101 rfl hl (by decide) rfl (fun ls hl => ?_)
  refine lv_goto (tgt := 54) hx hb dX10_spring_102 (by decide) ?_
  exact hK54 M1 x0 r2 _ _ _ hf hw (lv_sub hl [1, 0] rfl)
def f_X10_spring_54 : Nat → Mem → Nat → Int32 → Option (Unit × Mem)
  | 0, _, _, _ => none
  | n + 1, M, x0, x1 => (if x1 < 0 then some ((), M) else gt (mT M x0) 11 (lp (mP M x0 7) (fun a2 => gt (mT M a2) 21 (gd (ib x1 (mL M a2)) (st (setI M a2 x1.toNatClampNeg 1) (fun M6 => lp (mP M6 x0 6) (fun a9 => cl (f_X10_choiceOf M6 x0 x1) (fun r12 M11 => gt (mT M11 a9) 20 (gd (ib x1 (mL M11 a9)) (st (setI M11 a9 x1.toNatClampNeg r12) (fun M16 => gt (mT M16 x0) 11 (lp (mP M16 x0 6) (fun a20 => gt (mT M16 a20) 20 (gd (ib x1 (mL M16 a20)) ((if (mI M16 a20 x1.toNatClampNeg) < 0 then f_X10_spring_97 (f_X10_spring_54 n) M16 x0 else lp (mP M16 x0 5) (fun a24 => gd (ib x1 (mL M16 a20)) (gt (mT M16 a24) 20 (gd (ib (mI M16 a20 x1.toNatClampNeg) (mL M16 a24)) (st (setI M16 a24 (mI M16 a20 x1.toNatClampNeg).toNatClampNeg x1) (fun M29 => f_X10_spring_97 (f_X10_spring_54 n) M29 x0)))))))))))))))))))))
set_option maxHeartbeats 4000000 in
set_option maxRecDepth 100000 in
theorem t_X10_spring_54 {l : Launch} {p : Program} {e : Env} {s : State} {m : MethodId} {args : Array Value} {below : List Frame} {meth : Method} {c : Code} {G : Gd} {A : Nat → Prop} {ad : Nat → Nat} (C : Cx G A p s m args meth c RX10 cX10_spring 2 none) {M' : Mem} : ∀ (n : Nat) (M : Mem) (x0 : Nat) (x1 : Int32) (H : Heap) (locs : List Loc) (ls : Array Slot), f_X10_spring_54  n M x0 x1 = some ((), M') → Wd G A ad s.heap M H locs → lv_has ls 2 [(0, .ref (ad x0)), (1, .int x1)] → W p l e rm_X10_spring s m args below meth c H locs 0 0 (MQ below (QV G A ad M') args s 0 0 A) (F0 m 54 ls []) := by
  obtain ⟨hx, hb, -⟩ := id C
  intro n
  induction n with
  | zero =>
    intro M x0 x1 H locs ls hf
    rw [f_X10_spring_54] at hf
    exact absurd hf (fun h => nomatch h)
  | succ n ih =>
    intro M x0 x1 H locs ls hf hw hl
    rw [f_X10_spring_54] at hf
    refine lv_iload_n hx hb dX10_spring_54 rfl (lv_at hl 1 rfl) ?_
    refine lv_if_lt (tgt := 105) hx hb dX10_spring_55 (by decide) (fun hc => ?_) (fun hc => ?_)
    · have hf := if_p hc hf
      exact e_vret C hw hf dX10_spring_105
    · have hf := if_n hc hf
      refine lv_aload_n hx hb dX10_spring_58 rfl (lv_at hl 0 rfl) ?_
      obtain ⟨hT1, hf⟩ := gt_inv hf
      obtain ⟨a2, hP3, hf⟩ := lp_inv hf
      refine r_getP C hw cf10 7 (by decide) rfl hT1 hP3 fl_X10_29 dX10_spring_59 ?_
      refine lv_iload_n hx hb dX10_spring_62 rfl (lv_at hl 1 rfl) ?_
      refine lv_iconst (v := 1) hx hb dX10_spring_63 (by decide) ?_
      obtain ⟨hT4, hf⟩ := gt_inv hf
      obtain ⟨hg5, hf⟩ := gd_inv hf
      obtain ⟨M6, e7, hf⟩ := st_inv hf
      have g8 := sg_I e7
      refine r_zast C hw hT4 hg5 rfl e7 dX10_spring_64 (fun H locs hw => ?_)
      refine lv_aload_n hx hb dX10_spring_65 rfl (lv_at hl 0 rfl) ?_
      obtain ⟨a9, hP10, hf⟩ := lp_inv hf
      refine r_getP C hw cf10 6 (by decide) rfl (T_of g8 hT1) hP10 fl_X10_26 dX10_spring_66 ?_
      refine lv_iload_n hx hb dX10_spring_69 rfl (lv_at hl 1 rfl) ?_
      refine lv_aload_n hx hb dX10_spring_70 rfl (lv_at hl 0 rfl) ?_
      refine lv_iload_n hx hb dX10_spring_71 rfl (lv_at hl 1 rfl) ?_
      obtain ⟨r12, M11, hc13, hf⟩ := cl_inv hf
      refine fin_I (run_V C hw mf_X10_choiceOf mv_X10_choiceOf ml_X10_161 cf10 (T_of g8 hT1) (c_X10_choiceOf l G A ad hc13) (As := [.int x1]) (rest := [.int x1, .ref (ad a9)]) hl.1 rfl rfl (Nat.le_of_ble_eq_true rfl) ⟨rfl, rfl, Nat.le_of_ble_eq_true rfl, Nat.le_of_ble_eq_true rfl⟩ ⟨Nat.zero_le _, Nat.zero_le _⟩ dX10_spring_72) hw (fun H locs hw => ?_)
      obtain ⟨hT14, hf⟩ := gt_inv hf
      obtain ⟨hg15, hf⟩ := gd_inv hf
      obtain ⟨M16, e17, hf⟩ := st_inv hf
      have g18 := sg_I e17
      refine r_iast C hw hT14 hg15 e17 dX10_spring_75 (fun H locs hw => ?_)
      refine lv_aload_n hx hb dX10_spring_76 rfl (lv_at hl 0 rfl) ?_
      obtain ⟨hT19, hf⟩ := gt_inv hf
      obtain ⟨a20, hP21, hf⟩ := lp_inv hf
      refine r_getP C hw cf10 6 (by decide) rfl hT19 hP21 fl_X10_26 dX10_spring_77 ?_
      refine lv_iload_n hx hb dX10_spring_80 rfl (lv_at hl 1 rfl) ?_
      obtain ⟨hT22, hf⟩ := gt_inv hf
      obtain ⟨hg23, hf⟩ := gd_inv hf
      refine r_iald C hw hT22 hg23 dX10_spring_81 ?_
      refine lv_if_lt (tgt := 97) hx hb dX10_spring_82 (by decide) (fun hc => ?_) (fun hc => ?_)
      · have hf := if_p hc hf
        exact t_X10_spring_97 C ih M16 x0 _ _ _ hf hw (lv_sub hl [0] rfl)
      · have hf := if_n hc hf
        refine lv_aload_n hx hb dX10_spring_85 rfl (lv_at hl 0 rfl) ?_
        obtain ⟨a24, hP25, hf⟩ := lp_inv hf
        refine r_getP C hw cf10 5 (by decide) rfl hT19 hP25 fl_X10_23 dX10_spring_86 ?_
        refine lv_aload_n hx hb dX10_spring_89 rfl (lv_at hl 0 rfl) ?_
        refine r_getP C hw cf10 6 (by decide) rfl hT19 hP21 fl_X10_26 dX10_spring_90 ?_
        refine lv_iload_n hx hb dX10_spring_93 rfl (lv_at hl 1 rfl) ?_
        obtain ⟨hg26, hf⟩ := gd_inv hf
        refine r_iald C hw hT22 hg26 dX10_spring_94 ?_
        refine lv_iload_n hx hb dX10_spring_95 rfl (lv_at hl 1 rfl) ?_
        obtain ⟨hT27, hf⟩ := gt_inv hf
        obtain ⟨hg28, hf⟩ := gd_inv hf
        obtain ⟨M29, e30, hf⟩ := st_inv hf
        have g31 := sg_I e30
        refine r_iast C hw hT27 hg28 e30 dX10_spring_96 (fun H locs hw => ?_)
        exact t_X10_spring_97 C ih M29 x0 _ _ _ hf hw (lv_sub hl [0] rfl)
def f_X10_spring_23 : Nat → Mem → Nat → Int32 → Option (Unit × Mem)
  | 0, _, _, _ => none
  | n + 1, M, x0, x1 => (if 10 ≤ x1 then gt (mT M x0) 11 (cl (f_X10_nextStork M x0) (fun r2 M1 => f_X10_spring_54 FU M1 x0 r2)) else gt (mT M x0) 11 (lp (mP M x0 6) (fun a6 => gt (mT M a6) 20 (gd (ib x1 (mL M a6)) (st (setI M a6 x1.toNatClampNeg (-1)) (fun M10 => lp (mP M10 x0 7) (fun a13 => gt (mT M10 a13) 21 (gd (ib x1 (mL M10 a13)) (st (setI M10 a13 x1.toNatClampNeg 0) (fun M17 => f_X10_spring_23 n M17 x0 (x1 + 1)))))))))))
set_option maxHeartbeats 4000000 in
set_option maxRecDepth 100000 in
theorem t_X10_spring_23 {l : Launch} {p : Program} {e : Env} {s : State} {m : MethodId} {args : Array Value} {below : List Frame} {meth : Method} {c : Code} {G : Gd} {A : Nat → Prop} {ad : Nat → Nat} (C : Cx G A p s m args meth c RX10 cX10_spring 2 none) {M' : Mem} : ∀ (n : Nat) (M : Mem) (x0 : Nat) (x1 : Int32) (H : Heap) (locs : List Loc) (ls : Array Slot), f_X10_spring_23  n M x0 x1 = some ((), M') → Wd G A ad s.heap M H locs → lv_has ls 2 [(0, .ref (ad x0)), (1, .int x1)] → W p l e rm_X10_spring s m args below meth c H locs 0 0 (MQ below (QV G A ad M') args s 0 0 A) (F0 m 23 ls []) := by
  obtain ⟨hx, hb, -⟩ := id C
  intro n
  induction n with
  | zero =>
    intro M x0 x1 H locs ls hf
    rw [f_X10_spring_23] at hf
    exact absurd hf (fun h => nomatch h)
  | succ n ih =>
    intro M x0 x1 H locs ls hf hw hl
    rw [f_X10_spring_23] at hf
    refine lv_iload_n hx hb dX10_spring_23 rfl (lv_at hl 1 rfl) ?_
    refine lv_bipush (v := 10) hx hb dX10_spring_24 (by decide) ?_
    refine lv_icmp_ge (tgt := 49) hx hb dX10_spring_26 (by decide) (fun hc => ?_) (fun hc => ?_)
    · have hf := if_p hc hf
      refine lv_aload_n hx hb dX10_spring_49 rfl (lv_at hl 0 rfl) ?_
      obtain ⟨hT4, hf⟩ := gt_inv hf
      obtain ⟨r2, M1, hc3, hf⟩ := cl_inv hf
      refine fin_I (run_V C hw mf_X10_nextStork mv_X10_nextStork ml_X10_158 cf10 hT4 (c_X10_nextStork l G A ad hc3) (As := []) (rest := []) hl.1 rfl rfl (Nat.le_of_ble_eq_true rfl) ⟨rfl, rfl, Nat.le_of_ble_eq_true rfl, Nat.le_of_ble_eq_true rfl⟩ ⟨Nat.zero_le _, Nat.zero_le _⟩ dX10_spring_50) hw (fun H locs hw => ?_)
      refine lv_istore_n (lv' := [(1, .int r2), (0, .ref (ad x0))]) hx hb dX10_spring_53 rfl hl (by decide) rfl (fun ls hl => ?_)
      exact t_X10_spring_54 C FU M1 x0 r2 _ _ _ hf hw (lv_sub hl [1, 0] rfl)
    · have hf := if_n hc hf
      refine lv_aload_n hx hb dX10_spring_29 rfl (lv_at hl 0 rfl) ?_
      obtain ⟨hT5, hf⟩ := gt_inv hf
      obtain ⟨a6, hP7, hf⟩ := lp_inv hf
      refine r_getP C hw cf10 6 (by decide) rfl hT5 hP7 fl_X10_26 dX10_spring_30 ?_
      refine lv_iload_n hx hb dX10_spring_33 rfl (lv_at hl 1 rfl) ?_
      refine lv_iconst (v := (-1)) hx hb dX10_spring_34 (by decide) ?_
      obtain ⟨hT8, hf⟩ := gt_inv hf
      obtain ⟨hg9, hf⟩ := gd_inv hf
      obtain ⟨M10, e11, hf⟩ := st_inv hf
      have g12 := sg_I e11
      refine r_iast C hw hT8 hg9 e11 dX10_spring_35 (fun H locs hw => ?_)
      refine lv_aload_n hx hb dX10_spring_36 rfl (lv_at hl 0 rfl) ?_
      obtain ⟨a13, hP14, hf⟩ := lp_inv hf
      refine r_getP C hw cf10 7 (by decide) rfl (T_of g12 hT5) hP14 fl_X10_29 dX10_spring_37 ?_
      refine lv_iload_n hx hb dX10_spring_40 rfl (lv_at hl 1 rfl) ?_
      refine lv_iconst (v := 0) hx hb dX10_spring_41 (by decide) ?_
      obtain ⟨hT15, hf⟩ := gt_inv hf
      obtain ⟨hg16, hf⟩ := gd_inv hf
      obtain ⟨M17, e18, hf⟩ := st_inv hf
      have g19 := sg_I e18
      refine r_zast C hw hT15 hg16 rfl e18 dX10_spring_42 (fun H locs hw => ?_)
      refine lv_iinc (v := (x1 + 1)) (lv' := [(1, .int (x1 + 1)), (0, .ref (ad x0))]) hx hb dX10_spring_43 hl (k := 1) rfl rfl (by decide) rfl (fun ls hl => ?_)
      refine lv_goto (tgt := 23) hx hb dX10_spring_46 (by decide) ?_
      exact ih M17 x0 (x1 + 1) _ _ _ hf hw (lv_sub hl [1, 0] rfl)
def f_X10_spring_2 : Nat → Mem → Nat → Int32 → Option (Unit × Mem)
  | 0, _, _, _ => none
  | n + 1, M, x0, x1 => (if 8 ≤ x1 then f_X10_spring_23 FU M x0 0 else gt (mT M x0) 11 (lp (mP M x0 5) (fun a2 => gt (mT M a2) 20 (gd (ib x1 (mL M a2)) (st (setI M a2 x1.toNatClampNeg (-1)) (fun M6 => f_X10_spring_2 n M6 x0 (x1 + 1)))))))
set_option maxHeartbeats 4000000 in
set_option maxRecDepth 100000 in
theorem t_X10_spring_2 {l : Launch} {p : Program} {e : Env} {s : State} {m : MethodId} {args : Array Value} {below : List Frame} {meth : Method} {c : Code} {G : Gd} {A : Nat → Prop} {ad : Nat → Nat} (C : Cx G A p s m args meth c RX10 cX10_spring 2 none) {M' : Mem} : ∀ (n : Nat) (M : Mem) (x0 : Nat) (x1 : Int32) (H : Heap) (locs : List Loc) (ls : Array Slot), f_X10_spring_2  n M x0 x1 = some ((), M') → Wd G A ad s.heap M H locs → lv_has ls 2 [(0, .ref (ad x0)), (1, .int x1)] → W p l e rm_X10_spring s m args below meth c H locs 0 0 (MQ below (QV G A ad M') args s 0 0 A) (F0 m 2 ls []) := by
  obtain ⟨hx, hb, -⟩ := id C
  intro n
  induction n with
  | zero =>
    intro M x0 x1 H locs ls hf
    rw [f_X10_spring_2] at hf
    exact absurd hf (fun h => nomatch h)
  | succ n ih =>
    intro M x0 x1 H locs ls hf hw hl
    rw [f_X10_spring_2] at hf
    refine lv_iload_n hx hb dX10_spring_2 rfl (lv_at hl 1 rfl) ?_
    refine lv_bipush (v := 8) hx hb dX10_spring_3 (by decide) ?_
    refine lv_icmp_ge (tgt := 21) hx hb dX10_spring_5 (by decide) (fun hc => ?_) (fun hc => ?_)
    · have hf := if_p hc hf
      refine lv_iconst (v := 0) hx hb dX10_spring_21 (by decide) ?_
      refine lv_istore_n (lv' := [(1, .int 0), (0, .ref (ad x0))]) hx hb dX10_spring_22 rfl hl (by decide) rfl (fun ls hl => ?_)
      exact t_X10_spring_23 C FU M x0 0 _ _ _ hf hw (lv_sub hl [1, 0] rfl)
    · have hf := if_n hc hf
      refine lv_aload_n hx hb dX10_spring_8 rfl (lv_at hl 0 rfl) ?_
      obtain ⟨hT1, hf⟩ := gt_inv hf
      obtain ⟨a2, hP3, hf⟩ := lp_inv hf
      refine r_getP C hw cf10 5 (by decide) rfl hT1 hP3 fl_X10_23 dX10_spring_9 ?_
      refine lv_iload_n hx hb dX10_spring_12 rfl (lv_at hl 1 rfl) ?_
      refine lv_iconst (v := (-1)) hx hb dX10_spring_13 (by decide) ?_
      obtain ⟨hT4, hf⟩ := gt_inv hf
      obtain ⟨hg5, hf⟩ := gd_inv hf
      obtain ⟨M6, e7, hf⟩ := st_inv hf
      have g8 := sg_I e7
      refine r_iast C hw hT4 hg5 e7 dX10_spring_14 (fun H locs hw => ?_)
      refine lv_iinc (v := (x1 + 1)) (lv' := [(1, .int (x1 + 1)), (0, .ref (ad x0))]) hx hb dX10_spring_15 hl (k := 1) rfl rfl (by decide) rfl (fun ls hl => ?_)
      refine lv_goto (tgt := 2) hx hb dX10_spring_18 (by decide) ?_
      exact ih M6 x0 (x1 + 1) _ _ _ hf hw (lv_sub hl [1, 0] rfl)
def f_X10_spring (M : Mem) (x0 : Nat) : Option (Unit × Mem) := f_X10_spring_2 FU M x0 0
set_option maxHeartbeats 4000000 in
set_option maxRecDepth 100000 in
theorem c_X10_spring (l : Launch) (G : Gd) (A : Nat → Prop) (ad : Nat → Nat) {M : Mem} {x0 : Nat}  {M' : Mem} (hf : f_X10_spring M x0 = some ((), M')) : Ct l yX10_spring cX10_spring 2 none rm_X10_spring [.ref (ad x0)] G A ad M (QV G A ad M') 0 0 := by
  refine ct_start (by decide) (Nat.le_of_ble_eq_true rfl) ?_
  intro p e s m args below meth c ls C hin hw hl
  have C : Cx G A p s m args meth c RX10 cX10_spring 2 none := C
  have hl : lv_has ls 2 [(0, .ref (ad x0))] := hl
  obtain ⟨hx, hb, -⟩ := id C
  rw [f_X10_spring] at hf
  refine lv_iconst (v := 0) hx hb dX10_spring_0 (by decide) ?_
  refine lv_istore_n (lv' := [(1, .int 0), (0, .ref (ad x0))]) hx hb dX10_spring_1 rfl hl (by decide) rfl (fun ls hl => ?_)
  exact t_X10_spring_2 C FU M x0 0 _ _ _ hf hw (lv_sub hl [1, 0] rfl)
/-! StorkVoteModel.told(II)I -/
abbrev rm_X10_told : Room := { frames := 5, cells := 0, slots := 0, locals := 118 }
def f_X10_told (M : Mem) (x0 : Nat) (x1 : Int32) (x2 : Int32) : Option (Int32 × Mem) := gt (mT M x0) 11 (cl (f_X10_isChimney M x0 x1) (fun r2 M1 => (if r2 = 0 then some ((-1000000001), M1) else cl (f_X10_in M1 x2 0 5) (fun r6 M5 => (if r6 = 0 then some ((-1000000001), M5) else (if 4 ≤ x2 then (if x2 = 4 then gt (mT M5 x0) 11 (cl (f_X10_worthOf M5 x0 x1) (fun r21 M20 => some (r21, M20))) else gt (mT M5 x0) 11 (cl (f_X10_spring M5 x0) (fun _ M8 => gt (mT M8 x0) 11 (lp (mP M8 x0 5) (fun a13 => gt (mT M8 a13) 20 (gd (ib x1 (mL M8 a13)) (cl (f_X10_told0 M8 (mI M8 a13 x1.toNatClampNeg)) (fun r18 M17 => some (r18, M17))))))))) else gt (mT M5 x0) 11 (cl (f_X10_of M5 x0 x1 x2) (fun r25 M24 => some (r25, M24)))))))))
set_option maxHeartbeats 4000000 in
set_option maxRecDepth 100000 in
theorem c_X10_told (l : Launch) (G : Gd) (A : Nat → Prop) (ad : Nat → Nat) {M : Mem} {x0 : Nat} {x1 : Int32} {x2 : Int32}  {r : Int32} {M' : Mem} (hf : f_X10_told M x0 x1 x2 = some (r, M')) : Ct l yX10_told cX10_told 3 (some .int) rm_X10_told [.ref (ad x0), .int x1, .int x2] G A ad M (QI G A ad r M') 0 0 := by
  refine ct_start (by decide) (Nat.le_of_ble_eq_true rfl) ?_
  intro p e s m args below meth c ls C hin hw hl
  have C : Cx G A p s m args meth c RX10 cX10_told 3 (some .int) := C
  have hl : lv_has ls 3 [(0, .ref (ad x0)), (1, .int x1), (2, .int x2)] := hl
  obtain ⟨hx, hb, -⟩ := id C
  rw [f_X10_told] at hf
  refine lv_aload_n hx hb dX10_told_0 rfl (lv_at hl 0 rfl) ?_
  refine lv_iload_n hx hb dX10_told_1 rfl (lv_at hl 1 rfl) ?_
  obtain ⟨hT4, hf⟩ := gt_inv hf
  obtain ⟨r2, M1, hc3, hf⟩ := cl_inv hf
  refine fin_I (run_V C hw mf_X10_isChimney mv_X10_isChimney ml_X10_107 cf10 hT4 (c_X10_isChimney l G A ad hc3) (As := [.int x1]) (rest := []) hl.1 rfl rfl (Nat.le_of_ble_eq_true rfl) ⟨rfl, rfl, Nat.le_of_ble_eq_true rfl, Nat.le_of_ble_eq_true rfl⟩ ⟨Nat.zero_le _, Nat.zero_le _⟩ dX10_told_2) hw (fun H locs hw => ?_)
  refine lv_if_eq (tgt := 17) hx hb dX10_told_5 (by decide) (fun hc => ?_) (fun hc => ?_)
  · have hf := if_p hc hf
    refine lv_ldc hx hb C.2.2.2.1 (C.2.2.2.2.1 _ kc_X10_97) dX10_told_17 ?_
    exact e_iret C hw hf dX10_told_19
  · have hf := if_n hc hf
    refine lv_iload_n hx hb dX10_told_8 rfl (lv_at hl 2 rfl) ?_
    refine lv_iconst (v := 0) hx hb dX10_told_9 (by decide) ?_
    refine lv_iconst (v := 5) hx hb dX10_told_10 (by decide) ?_
    obtain ⟨r6, M5, hc7, hf⟩ := cl_inv hf
    refine fin_I (run_S C hw mf_X10_in ms_X10_in ml_X10_89 (c_X10_in l G A ad hc7) (As := [.int x2, .int 0, .int 5]) (rest := []) hl.1 rfl rfl (Nat.le_of_ble_eq_true rfl) ⟨rfl, rfl, Nat.le_of_ble_eq_true rfl, Nat.le_of_ble_eq_true rfl⟩ ⟨Nat.zero_le _, Nat.zero_le _⟩ dX10_told_11) hw (fun H locs hw => ?_)
    refine lv_if_ne (tgt := 20) hx hb dX10_told_14 (by decide) (fun hc => ?_) (fun hc => ?_)
    · have hf := if_n hc hf
      refine lv_iload_n hx hb dX10_told_20 rfl (lv_at hl 2 rfl) ?_
      refine lv_iconst (v := 4) hx hb dX10_told_21 (by decide) ?_
      refine lv_icmp_ge (tgt := 32) hx hb dX10_told_22 (by decide) (fun hc => ?_) (fun hc => ?_)
      · have hf := if_p hc hf
        refine lv_iload_n hx hb dX10_told_32 rfl (lv_at hl 2 rfl) ?_
        refine lv_iconst (v := 4) hx hb dX10_told_33 (by decide) ?_
        refine lv_icmp_ne (tgt := 43) hx hb dX10_told_34 (by decide) (fun hc => ?_) (fun hc => ?_)
        · have hf := if_n hc hf
          refine lv_aload_n hx hb dX10_told_43 rfl (lv_at hl 0 rfl) ?_
          obtain ⟨hT11, hf⟩ := gt_inv hf
          obtain ⟨⟨⟩, M8, hc10, hf⟩ := cl_inv hf
          refine fin_V (run_V C hw mf_X10_spring mv_X10_spring ml_X10_114 cf10 hT11 (c_X10_spring l G A ad hc10) (As := []) (rest := []) hl.1 rfl rfl (Nat.le_of_ble_eq_true rfl) ⟨rfl, rfl, Nat.le_of_ble_eq_true rfl, Nat.le_of_ble_eq_true rfl⟩ ⟨Nat.zero_le _, Nat.zero_le _⟩ dX10_told_44) hw (fun H locs hw => ?_)
          refine lv_aload_n hx hb dX10_told_47 rfl (lv_at hl 0 rfl) ?_
          obtain ⟨hT12, hf⟩ := gt_inv hf
          obtain ⟨a13, hP14, hf⟩ := lp_inv hf
          refine r_getP C hw cf10 5 (by decide) rfl hT12 hP14 fl_X10_23 dX10_told_48 ?_
          refine lv_iload_n hx hb dX10_told_51 rfl (lv_at hl 1 rfl) ?_
          obtain ⟨hT15, hf⟩ := gt_inv hf
          obtain ⟨hg16, hf⟩ := gd_inv hf
          refine r_iald C hw hT15 hg16 dX10_told_52 ?_
          obtain ⟨r18, M17, hc19, hf⟩ := cl_inv hf
          refine fin_I (run_S C hw mf_X10_told0 ms_X10_told0 ml_X10_117 (c_X10_told0 l G A ad hc19) (As := [.int (mI M8 a13 x1.toNatClampNeg)]) (rest := []) hl.1 rfl rfl (Nat.le_of_ble_eq_true rfl) ⟨rfl, rfl, Nat.le_of_ble_eq_true rfl, Nat.le_of_ble_eq_true rfl⟩ ⟨Nat.zero_le _, Nat.zero_le _⟩ dX10_told_53) hw (fun H locs hw => ?_)
          exact e_iret C hw hf dX10_told_56
        · have hf := if_p hc hf
          refine lv_aload_n hx hb dX10_told_37 rfl (lv_at hl 0 rfl) ?_
          refine lv_iload_n hx hb dX10_told_38 rfl (lv_at hl 1 rfl) ?_
          obtain ⟨hT23, hf⟩ := gt_inv hf
          obtain ⟨r21, M20, hc22, hf⟩ := cl_inv hf
          refine fin_I (run_V C hw mf_X10_worthOf mv_X10_worthOf ml_X10_110 cf10 hT23 (c_X10_worthOf l G A ad hc22) (As := [.int x1]) (rest := []) hl.1 rfl rfl (Nat.le_of_ble_eq_true rfl) ⟨rfl, rfl, Nat.le_of_ble_eq_true rfl, Nat.le_of_ble_eq_true rfl⟩ ⟨Nat.zero_le _, Nat.zero_le _⟩ dX10_told_39) hw (fun H locs hw => ?_)
          exact e_iret C hw hf dX10_told_42
      · have hf := if_n hc hf
        refine lv_aload_n hx hb dX10_told_25 rfl (lv_at hl 0 rfl) ?_
        refine lv_iload_n hx hb dX10_told_26 rfl (lv_at hl 1 rfl) ?_
        refine lv_iload_n hx hb dX10_told_27 rfl (lv_at hl 2 rfl) ?_
        obtain ⟨hT27, hf⟩ := gt_inv hf
        obtain ⟨r25, M24, hc26, hf⟩ := cl_inv hf
        refine fin_I (run_V C hw mf_X10_of mv_X10_of ml_X10_103 cf10 hT27 (c_X10_of l G A ad hc26) (As := [.int x1, .int x2]) (rest := []) hl.1 rfl rfl (Nat.le_of_ble_eq_true rfl) ⟨rfl, rfl, Nat.le_of_ble_eq_true rfl, Nat.le_of_ble_eq_true rfl⟩ ⟨Nat.zero_le _, Nat.zero_le _⟩ dX10_told_28) hw (fun H locs hw => ?_)
        exact e_iret C hw hf dX10_told_31
    · have hf := if_p hc hf
      refine lv_ldc hx hb C.2.2.2.1 (C.2.2.2.2.1 _ kc_X10_97) dX10_told_17 ?_
      exact e_iret C hw hf dX10_told_19
/-! StorkVoteModel.isUnder(II)Z -/
abbrev rm_X10_isUnder : Room := { frames := 0, cells := 0, slots := 0, locals := 0 }
def f_X10_isUnder_19 (M : Mem) (x0 : Int32) (x1 : Int32) : Option (Int32 × Mem) := (if x1 = 2 then (if x0 = 4 then some (1, M) else some (0, M)) else some (0, M))
set_option maxHeartbeats 4000000 in
set_option maxRecDepth 100000 in
theorem t_X10_isUnder_19 {l : Launch} {p : Program} {e : Env} {s : State} {m : MethodId} {args : Array Value} {below : List Frame} {meth : Method} {c : Code} {G : Gd} {A : Nat → Prop} {ad : Nat → Nat} (C : Cx G A p s m args meth c RX10 cX10_isUnder 2 (some .boolean)) {r : Int32} {M' : Mem} : ∀ (M : Mem) (x0 : Int32) (x1 : Int32) (H : Heap) (locs : List Loc) (ls : Array Slot), f_X10_isUnder_19  M x0 x1 = some (r, M') → Wd G A ad s.heap M H locs → lv_has ls 2 [(0, .int x0), (1, .int x1)] → W p l e rm_X10_isUnder s m args below meth c H locs 0 0 (MQ below (QI G A ad r M') args s 0 0 A) (F0 m 19 ls []) := by
  obtain ⟨hx, hb, -⟩ := id C
  intro M x0 x1 H locs ls hf hw hl
  rw [f_X10_isUnder_19] at hf
  refine lv_iload_n hx hb dX10_isUnder_19 rfl (lv_at hl 1 rfl) ?_
  refine lv_iconst (v := 2) hx hb dX10_isUnder_20 (by decide) ?_
  refine lv_icmp_ne (tgt := 33) hx hb dX10_isUnder_21 (by decide) (fun hc => ?_) (fun hc => ?_)
  · have hf := if_n hc hf
    refine lv_iconst (v := 0) hx hb dX10_isUnder_33 (by decide) ?_
    exact e_zret C hw rfl hf dX10_isUnder_34
  · have hf := if_p hc hf
    refine lv_iload_n hx hb dX10_isUnder_24 rfl (lv_at hl 0 rfl) ?_
    refine lv_iconst (v := 4) hx hb dX10_isUnder_25 (by decide) ?_
    refine lv_icmp_ne (tgt := 33) hx hb dX10_isUnder_26 (by decide) (fun hc => ?_) (fun hc => ?_)
    · have hf := if_n hc hf
      refine lv_iconst (v := 0) hx hb dX10_isUnder_33 (by decide) ?_
      exact e_zret C hw rfl hf dX10_isUnder_34
    · have hf := if_p hc hf
      refine lv_iconst (v := 1) hx hb dX10_isUnder_29 (by decide) ?_
      refine lv_goto (tgt := 34) hx hb dX10_isUnder_30 (by decide) ?_
      exact e_zret C hw rfl hf dX10_isUnder_34
def f_X10_isUnder (M : Mem) (x0 : Int32) (x1 : Int32) : Option (Int32 × Mem) := (if x1 = 0 then some (1, M) else (if x0 = x1 then some (1, M) else (if x1 = 1 then (if x0 = 3 then some (1, M) else f_X10_isUnder_19 M x0 x1) else f_X10_isUnder_19 M x0 x1)))
set_option maxHeartbeats 4000000 in
set_option maxRecDepth 100000 in
theorem c_X10_isUnder (l : Launch) (G : Gd) (A : Nat → Prop) (ad : Nat → Nat) {M : Mem} {x0 : Int32} {x1 : Int32}  {r : Int32} {M' : Mem} (hf : f_X10_isUnder M x0 x1 = some (r, M')) : Ct l yX10_isUnder cX10_isUnder 2 (some .boolean) rm_X10_isUnder [.int x0, .int x1] G A ad M (QI G A ad r M') 0 0 := by
  refine ct_start (by decide) (Nat.le_of_ble_eq_true rfl) ?_
  intro p e s m args below meth c ls C hin hw hl
  have C : Cx G A p s m args meth c RX10 cX10_isUnder 2 (some .boolean) := C
  have hl : lv_has ls 2 [(0, .int x0), (1, .int x1)] := hl
  obtain ⟨hx, hb, -⟩ := id C
  rw [f_X10_isUnder] at hf
  refine lv_iload_n hx hb dX10_isUnder_0 rfl (lv_at hl 1 rfl) ?_
  refine lv_if_eq (tgt := 29) hx hb dX10_isUnder_1 (by decide) (fun hc => ?_) (fun hc => ?_)
  · have hf := if_p hc hf
    refine lv_iconst (v := 1) hx hb dX10_isUnder_29 (by decide) ?_
    refine lv_goto (tgt := 34) hx hb dX10_isUnder_30 (by decide) ?_
    exact e_zret C hw rfl hf dX10_isUnder_34
  · have hf := if_n hc hf
    refine lv_iload_n hx hb dX10_isUnder_4 rfl (lv_at hl 0 rfl) ?_
    refine lv_iload_n hx hb dX10_isUnder_5 rfl (lv_at hl 1 rfl) ?_
    refine lv_icmp_eq (tgt := 29) hx hb dX10_isUnder_6 (by decide) (fun hc => ?_) (fun hc => ?_)
    · have hf := if_p hc hf
      refine lv_iconst (v := 1) hx hb dX10_isUnder_29 (by decide) ?_
      refine lv_goto (tgt := 34) hx hb dX10_isUnder_30 (by decide) ?_
      exact e_zret C hw rfl hf dX10_isUnder_34
    · have hf := if_n hc hf
      refine lv_iload_n hx hb dX10_isUnder_9 rfl (lv_at hl 1 rfl) ?_
      refine lv_iconst (v := 1) hx hb dX10_isUnder_10 (by decide) ?_
      refine lv_icmp_ne (tgt := 19) hx hb dX10_isUnder_11 (by decide) (fun hc => ?_) (fun hc => ?_)
      · have hf := if_n hc hf
        exact t_X10_isUnder_19 C M x0 x1 _ _ _ hf hw (lv_sub hl [0, 1] rfl)
      · have hf := if_p hc hf
        refine lv_iload_n hx hb dX10_isUnder_14 rfl (lv_at hl 0 rfl) ?_
        refine lv_iconst (v := 3) hx hb dX10_isUnder_15 (by decide) ?_
        refine lv_icmp_eq (tgt := 29) hx hb dX10_isUnder_16 (by decide) (fun hc => ?_) (fun hc => ?_)
        · have hf := if_p hc hf
          refine lv_iconst (v := 1) hx hb dX10_isUnder_29 (by decide) ?_
          refine lv_goto (tgt := 34) hx hb dX10_isUnder_30 (by decide) ?_
          exact e_zret C hw rfl hf dX10_isUnder_34
        · have hf := if_n hc hf
          exact t_X10_isUnder_19 C M x0 x1 _ _ _ hf hw (lv_sub hl [0, 1] rfl)
/-! StorkVoteModel.as(II)I -/
abbrev rm_X10_as : Room := { frames := 2, cells := 0, slots := 0, locals := 43 }
def f_X10_as (M : Mem) (x0 : Nat) (x1 : Int32) (x2 : Int32) : Option (Int32 × Mem) := gt (mT M x0) 11 (cl (f_X10_isChimney M x0 x1) (fun r2 M1 => (if r2 = 0 then some ((-1000000001), M1) else cl (f_X10_in M1 x2 0 5) (fun r6 M5 => (if r6 = 0 then some ((-1000000001), M5) else gt (mT M5 x0) 11 (cl (f_X10_of M5 x0 x1 0) (fun r9 M8 => cl (f_X10_isUnder M8 r9 x2) (fun r13 M12 => (if r13 = 0 then some ((-1000000012), M12) else gt (mT M12 x0) 11 (cl (f_X10_of M12 x0 x1 2) (fun r16 M15 => some (r16, M15))))))))))))
set_option maxHeartbeats 4000000 in
set_option maxRecDepth 100000 in
theorem c_X10_as (l : Launch) (G : Gd) (A : Nat → Prop) (ad : Nat → Nat) {M : Mem} {x0 : Nat} {x1 : Int32} {x2 : Int32}  {r : Int32} {M' : Mem} (hf : f_X10_as M x0 x1 x2 = some (r, M')) : Ct l yX10_as cX10_as 3 (some .int) rm_X10_as [.ref (ad x0), .int x1, .int x2] G A ad M (QI G A ad r M') 0 0 := by
  refine ct_start (by decide) (Nat.le_of_ble_eq_true rfl) ?_
  intro p e s m args below meth c ls C hin hw hl
  have C : Cx G A p s m args meth c RX10 cX10_as 3 (some .int) := C
  have hl : lv_has ls 3 [(0, .ref (ad x0)), (1, .int x1), (2, .int x2)] := hl
  obtain ⟨hx, hb, -⟩ := id C
  rw [f_X10_as] at hf
  refine lv_aload_n hx hb dX10_as_0 rfl (lv_at hl 0 rfl) ?_
  refine lv_iload_n hx hb dX10_as_1 rfl (lv_at hl 1 rfl) ?_
  obtain ⟨hT4, hf⟩ := gt_inv hf
  obtain ⟨r2, M1, hc3, hf⟩ := cl_inv hf
  refine fin_I (run_V C hw mf_X10_isChimney mv_X10_isChimney ml_X10_107 cf10 hT4 (c_X10_isChimney l G A ad hc3) (As := [.int x1]) (rest := []) hl.1 rfl rfl (Nat.le_of_ble_eq_true rfl) ⟨rfl, rfl, Nat.le_of_ble_eq_true rfl, Nat.le_of_ble_eq_true rfl⟩ ⟨Nat.zero_le _, Nat.zero_le _⟩ dX10_as_2) hw (fun H locs hw => ?_)
  refine lv_if_eq (tgt := 17) hx hb dX10_as_5 (by decide) (fun hc => ?_) (fun hc => ?_)
  · have hf := if_p hc hf
    refine lv_ldc hx hb C.2.2.2.1 (C.2.2.2.2.1 _ kc_X10_97) dX10_as_17 ?_
    exact e_iret C hw hf dX10_as_19
  · have hf := if_n hc hf
    refine lv_iload_n hx hb dX10_as_8 rfl (lv_at hl 2 rfl) ?_
    refine lv_iconst (v := 0) hx hb dX10_as_9 (by decide) ?_
    refine lv_iconst (v := 5) hx hb dX10_as_10 (by decide) ?_
    obtain ⟨r6, M5, hc7, hf⟩ := cl_inv hf
    refine fin_I (run_S C hw mf_X10_in ms_X10_in ml_X10_89 (c_X10_in l G A ad hc7) (As := [.int x2, .int 0, .int 5]) (rest := []) hl.1 rfl rfl (Nat.le_of_ble_eq_true rfl) ⟨rfl, rfl, Nat.le_of_ble_eq_true rfl, Nat.le_of_ble_eq_true rfl⟩ ⟨Nat.zero_le _, Nat.zero_le _⟩ dX10_as_11) hw (fun H locs hw => ?_)
    refine lv_if_ne (tgt := 20) hx hb dX10_as_14 (by decide) (fun hc => ?_) (fun hc => ?_)
    · have hf := if_n hc hf
      refine lv_aload_n hx hb dX10_as_20 rfl (lv_at hl 0 rfl) ?_
      refine lv_iload_n hx hb dX10_as_21 rfl (lv_at hl 1 rfl) ?_
      refine lv_iconst (v := 0) hx hb dX10_as_22 (by decide) ?_
      obtain ⟨hT11, hf⟩ := gt_inv hf
      obtain ⟨r9, M8, hc10, hf⟩ := cl_inv hf
      refine fin_I (run_V C hw mf_X10_of mv_X10_of ml_X10_103 cf10 hT11 (c_X10_of l G A ad hc10) (As := [.int x1, .int 0]) (rest := []) hl.1 rfl rfl (Nat.le_of_ble_eq_true rfl) ⟨rfl, rfl, Nat.le_of_ble_eq_true rfl, Nat.le_of_ble_eq_true rfl⟩ ⟨Nat.zero_le _, Nat.zero_le _⟩ dX10_as_23) hw (fun H locs hw => ?_)
      refine lv_iload_n hx hb dX10_as_26 rfl (lv_at hl 2 rfl) ?_
      obtain ⟨r13, M12, hc14, hf⟩ := cl_inv hf
      refine fin_I (run_S C hw mf_X10_isUnder ms_X10_isUnder ml_X10_120 (c_X10_isUnder l G A ad hc14) (As := [.int r9, .int x2]) (rest := []) hl.1 rfl rfl (Nat.le_of_ble_eq_true rfl) ⟨rfl, rfl, Nat.le_of_ble_eq_true rfl, Nat.le_of_ble_eq_true rfl⟩ ⟨Nat.zero_le _, Nat.zero_le _⟩ dX10_as_27) hw (fun H locs hw => ?_)
      refine lv_if_eq (tgt := 42) hx hb dX10_as_30 (by decide) (fun hc => ?_) (fun hc => ?_)
      · have hf := if_p hc hf
        refine lv_ldc hx hb C.2.2.2.1 (C.2.2.2.2.1 _ kc_X10_124) dX10_as_42 ?_
        exact e_iret C hw hf dX10_as_44
      · have hf := if_n hc hf
        refine lv_aload_n hx hb dX10_as_33 rfl (lv_at hl 0 rfl) ?_
        refine lv_iload_n hx hb dX10_as_34 rfl (lv_at hl 1 rfl) ?_
        refine lv_iconst (v := 2) hx hb dX10_as_35 (by decide) ?_
        obtain ⟨hT18, hf⟩ := gt_inv hf
        obtain ⟨r16, M15, hc17, hf⟩ := cl_inv hf
        refine fin_I (run_V C hw mf_X10_of mv_X10_of ml_X10_103 cf10 hT18 (c_X10_of l G A ad hc17) (As := [.int x1, .int 2]) (rest := []) hl.1 rfl rfl (Nat.le_of_ble_eq_true rfl) ⟨rfl, rfl, Nat.le_of_ble_eq_true rfl, Nat.le_of_ble_eq_true rfl⟩ ⟨Nat.zero_le _, Nat.zero_le _⟩ dX10_as_36) hw (fun H locs hw => ?_)
        refine lv_goto (tgt := 44) hx hb dX10_as_39 (by decide) ?_
        exact e_iret C hw hf dX10_as_44
    · have hf := if_p hc hf
      refine lv_ldc hx hb C.2.2.2.1 (C.2.2.2.2.1 _ kc_X10_97) dX10_as_17 ?_
      exact e_iret C hw hf dX10_as_19
/-! StorkVoteModel.turns(II)I -/
abbrev rm_X10_turns : Room := { frames := 2, cells := 0, slots := 0, locals := 43 }
def f_X10_turns (M : Mem) (x0 : Nat) (x1 : Int32) (x2 : Int32) : Option (Int32 × Mem) := gt (mT M x0) 11 (cl (f_X10_isChimney M x0 x1) (fun r2 M1 => (if r2 = 0 then some ((-1000000001), M1) else cl (f_X10_in M1 x2 0 5) (fun r6 M5 => (if r6 = 0 then some ((-1000000001), M5) else gt (mT M5 x0) 11 (cl (f_X10_becomes M5 x0 (38 + (4 * x1)) x2) (fun r9 M8 => some (r9, M8))))))))
set_option maxHeartbeats 4000000 in
set_option maxRecDepth 100000 in
theorem c_X10_turns (l : Launch) (G : Gd) (A : Nat → Prop) (ad : Nat → Nat) {M : Mem} {x0 : Nat} {x1 : Int32} {x2 : Int32}  {r : Int32} {M' : Mem} (hf : f_X10_turns M x0 x1 x2 = some (r, M')) : Ct l yX10_turns cX10_turns 3 (some .int) rm_X10_turns [.ref (ad x0), .int x1, .int x2] G A ad M (QI G A ad r M') 0 0 := by
  refine ct_start (by decide) (Nat.le_of_ble_eq_true rfl) ?_
  intro p e s m args below meth c ls C hin hw hl
  have C : Cx G A p s m args meth c RX10 cX10_turns 3 (some .int) := C
  have hl : lv_has ls 3 [(0, .ref (ad x0)), (1, .int x1), (2, .int x2)] := hl
  obtain ⟨hx, hb, -⟩ := id C
  rw [f_X10_turns] at hf
  refine lv_aload_n hx hb dX10_turns_0 rfl (lv_at hl 0 rfl) ?_
  refine lv_iload_n hx hb dX10_turns_1 rfl (lv_at hl 1 rfl) ?_
  obtain ⟨hT4, hf⟩ := gt_inv hf
  obtain ⟨r2, M1, hc3, hf⟩ := cl_inv hf
  refine fin_I (run_V C hw mf_X10_isChimney mv_X10_isChimney ml_X10_107 cf10 hT4 (c_X10_isChimney l G A ad hc3) (As := [.int x1]) (rest := []) hl.1 rfl rfl (Nat.le_of_ble_eq_true rfl) ⟨rfl, rfl, Nat.le_of_ble_eq_true rfl, Nat.le_of_ble_eq_true rfl⟩ ⟨Nat.zero_le _, Nat.zero_le _⟩ dX10_turns_2) hw (fun H locs hw => ?_)
  refine lv_if_eq (tgt := 31) hx hb dX10_turns_5 (by decide) (fun hc => ?_) (fun hc => ?_)
  · have hf := if_p hc hf
    refine lv_ldc hx hb C.2.2.2.1 (C.2.2.2.2.1 _ kc_X10_97) dX10_turns_31 ?_
    exact e_iret C hw hf dX10_turns_33
  · have hf := if_n hc hf
    refine lv_iload_n hx hb dX10_turns_8 rfl (lv_at hl 2 rfl) ?_
    refine lv_iconst (v := 0) hx hb dX10_turns_9 (by decide) ?_
    refine lv_iconst (v := 5) hx hb dX10_turns_10 (by decide) ?_
    obtain ⟨r6, M5, hc7, hf⟩ := cl_inv hf
    refine fin_I (run_S C hw mf_X10_in ms_X10_in ml_X10_89 (c_X10_in l G A ad hc7) (As := [.int x2, .int 0, .int 5]) (rest := []) hl.1 rfl rfl (Nat.le_of_ble_eq_true rfl) ⟨rfl, rfl, Nat.le_of_ble_eq_true rfl, Nat.le_of_ble_eq_true rfl⟩ ⟨Nat.zero_le _, Nat.zero_le _⟩ dX10_turns_11) hw (fun H locs hw => ?_)
    refine lv_if_eq (tgt := 31) hx hb dX10_turns_14 (by decide) (fun hc => ?_) (fun hc => ?_)
    · have hf := if_p hc hf
      refine lv_ldc hx hb C.2.2.2.1 (C.2.2.2.2.1 _ kc_X10_97) dX10_turns_31 ?_
      exact e_iret C hw hf dX10_turns_33
    · have hf := if_n hc hf
      refine lv_aload_n hx hb dX10_turns_17 rfl (lv_at hl 0 rfl) ?_
      refine lv_bipush (v := 38) hx hb dX10_turns_18 (by decide) ?_
      refine lv_iconst (v := 4) hx hb dX10_turns_20 (by decide) ?_
      refine lv_iload_n hx hb dX10_turns_21 rfl (lv_at hl 1 rfl) ?_
      refine lv_imul hx hb dX10_turns_22 ?_
      refine lv_iadd hx hb dX10_turns_23 ?_
      refine lv_iload_n hx hb dX10_turns_24 rfl (lv_at hl 2 rfl) ?_
      obtain ⟨hT11, hf⟩ := gt_inv hf
      obtain ⟨r9, M8, hc10, hf⟩ := cl_inv hf
      refine fin_I (run_V C hw mf_X10_becomes mv_X10_becomes ml_X10_125 cf10 hT11 (c_X10_becomes l G A ad hc10) (As := [.int (38 + (4 * x1)), .int x2]) (rest := []) hl.1 rfl rfl (Nat.le_of_ble_eq_true rfl) ⟨rfl, rfl, Nat.le_of_ble_eq_true rfl, Nat.le_of_ble_eq_true rfl⟩ ⟨Nat.zero_le _, Nat.zero_le _⟩ dX10_turns_25) hw (fun H locs hw => ?_)
      refine lv_goto (tgt := 33) hx hb dX10_turns_28 (by decide) ?_
      exact e_iret C hw hf dX10_turns_33
/-! StorkVoteModel.set(III)I -/
abbrev rm_X10_set : Room := { frames := 2, cells := 0, slots := 0, locals := 43 }
def f_X10_set_30 (M : Mem) (x0 : Nat) (x1 : Int32) (x2 : Int32) (x3 : Int32) (s0 : Int32) (s1 : Int32) (s2 : Int32) : Option (Int32 × Mem) := cl (f_X10_in M s0 s1 s2) (fun r2 M1 => (if r2 = 0 then some ((-1000000001), M1) else gt (mT M1 x0) 11 (cl (f_X10_becomes M1 x0 ((38 + (4 * x1)) + x2) x3) (fun r5 M4 => some (r5, M4)))))
set_option maxHeartbeats 4000000 in
set_option maxRecDepth 100000 in
theorem t_X10_set_30 {l : Launch} {p : Program} {e : Env} {s : State} {m : MethodId} {args : Array Value} {below : List Frame} {meth : Method} {c : Code} {G : Gd} {A : Nat → Prop} {ad : Nat → Nat} (C : Cx G A p s m args meth c RX10 cX10_set 4 (some .int)) {r : Int32} {M' : Mem} : ∀ (M : Mem) (x0 : Nat) (x1 : Int32) (x2 : Int32) (x3 : Int32) (s0 : Int32) (s1 : Int32) (s2 : Int32) (H : Heap) (locs : List Loc) (ls : Array Slot), f_X10_set_30  M x0 x1 x2 x3 s0 s1 s2 = some (r, M') → Wd G A ad s.heap M H locs → lv_has ls 4 [(0, .ref (ad x0)), (1, .int x1), (2, .int x2), (3, .int x3)] → W p l e rm_X10_set s m args below meth c H locs 0 0 (MQ below (QI G A ad r M') args s 0 0 A) (F0 m 30 ls [.int s2, .int s1, .int s0]) := by
  obtain ⟨hx, hb, -⟩ := id C
  intro M x0 x1 x2 x3 s0 s1 s2 H locs ls hf hw hl
  rw [f_X10_set_30] at hf
  obtain ⟨r2, M1, hc3, hf⟩ := cl_inv hf
  refine fin_I (run_S C hw mf_X10_in ms_X10_in ml_X10_89 (c_X10_in l G A ad hc3) (As := [.int s0, .int s1, .int s2]) (rest := []) hl.1 rfl rfl (Nat.le_of_ble_eq_true rfl) ⟨rfl, rfl, Nat.le_of_ble_eq_true rfl, Nat.le_of_ble_eq_true rfl⟩ ⟨Nat.zero_le _, Nat.zero_le _⟩ dX10_set_30) hw (fun H locs hw => ?_)
  refine lv_if_eq (tgt := 52) hx hb dX10_set_33 (by decide) (fun hc => ?_) (fun hc => ?_)
  · have hf := if_p hc hf
    refine lv_ldc hx hb C.2.2.2.1 (C.2.2.2.2.1 _ kc_X10_97) dX10_set_52 ?_
    exact e_iret C hw hf dX10_set_54
  · have hf := if_n hc hf
    refine lv_aload_n hx hb dX10_set_36 rfl (lv_at hl 0 rfl) ?_
    refine lv_bipush (v := 38) hx hb dX10_set_37 (by decide) ?_
    refine lv_iconst (v := 4) hx hb dX10_set_39 (by decide) ?_
    refine lv_iload_n hx hb dX10_set_40 rfl (lv_at hl 1 rfl) ?_
    refine lv_imul hx hb dX10_set_41 ?_
    refine lv_iadd hx hb dX10_set_42 ?_
    refine lv_iload_n hx hb dX10_set_43 rfl (lv_at hl 2 rfl) ?_
    refine lv_iadd hx hb dX10_set_44 ?_
    refine lv_iload_n hx hb dX10_set_45 rfl (lv_at hl 3 rfl) ?_
    obtain ⟨hT7, hf⟩ := gt_inv hf
    obtain ⟨r5, M4, hc6, hf⟩ := cl_inv hf
    refine fin_I (run_V C hw mf_X10_becomes mv_X10_becomes ml_X10_125 cf10 hT7 (c_X10_becomes l G A ad hc6) (As := [.int ((38 + (4 * x1)) + x2), .int x3]) (rest := []) hl.1 rfl rfl (Nat.le_of_ble_eq_true rfl) ⟨rfl, rfl, Nat.le_of_ble_eq_true rfl, Nat.le_of_ble_eq_true rfl⟩ ⟨Nat.zero_le _, Nat.zero_le _⟩ dX10_set_46) hw (fun H locs hw => ?_)
    refine lv_goto (tgt := 54) hx hb dX10_set_49 (by decide) ?_
    exact e_iret C hw hf dX10_set_54
def f_X10_set (M : Mem) (x0 : Nat) (x1 : Int32) (x2 : Int32) (x3 : Int32) : Option (Int32 × Mem) := gt (mT M x0) 11 (cl (f_X10_isChimney M x0 x1) (fun r2 M1 => (if r2 = 0 then some ((-1000000001), M1) else cl (f_X10_in M1 x2 1 3) (fun r6 M5 => (if r6 = 0 then some ((-1000000001), M5) else (if x2 = 1 then f_X10_set_30 M5 x0 x1 x2 x3 x3 0 3 else f_X10_set_30 M5 x0 x1 x2 x3 x3 0 99))))))
set_option maxHeartbeats 4000000 in
set_option maxRecDepth 100000 in
theorem c_X10_set (l : Launch) (G : Gd) (A : Nat → Prop) (ad : Nat → Nat) {M : Mem} {x0 : Nat} {x1 : Int32} {x2 : Int32} {x3 : Int32}  {r : Int32} {M' : Mem} (hf : f_X10_set M x0 x1 x2 x3 = some (r, M')) : Ct l yX10_set cX10_set 4 (some .int) rm_X10_set [.ref (ad x0), .int x1, .int x2, .int x3] G A ad M (QI G A ad r M') 0 0 := by
  refine ct_start (by decide) (Nat.le_of_ble_eq_true rfl) ?_
  intro p e s m args below meth c ls C hin hw hl
  have C : Cx G A p s m args meth c RX10 cX10_set 4 (some .int) := C
  have hl : lv_has ls 4 [(0, .ref (ad x0)), (1, .int x1), (2, .int x2), (3, .int x3)] := hl
  obtain ⟨hx, hb, -⟩ := id C
  rw [f_X10_set] at hf
  refine lv_aload_n hx hb dX10_set_0 rfl (lv_at hl 0 rfl) ?_
  refine lv_iload_n hx hb dX10_set_1 rfl (lv_at hl 1 rfl) ?_
  obtain ⟨hT4, hf⟩ := gt_inv hf
  obtain ⟨r2, M1, hc3, hf⟩ := cl_inv hf
  refine fin_I (run_V C hw mf_X10_isChimney mv_X10_isChimney ml_X10_107 cf10 hT4 (c_X10_isChimney l G A ad hc3) (As := [.int x1]) (rest := []) hl.1 rfl rfl (Nat.le_of_ble_eq_true rfl) ⟨rfl, rfl, Nat.le_of_ble_eq_true rfl, Nat.le_of_ble_eq_true rfl⟩ ⟨Nat.zero_le _, Nat.zero_le _⟩ dX10_set_2) hw (fun H locs hw => ?_)
  refine lv_if_eq (tgt := 52) hx hb dX10_set_5 (by decide) (fun hc => ?_) (fun hc => ?_)
  · have hf := if_p hc hf
    refine lv_ldc hx hb C.2.2.2.1 (C.2.2.2.2.1 _ kc_X10_97) dX10_set_52 ?_
    exact e_iret C hw hf dX10_set_54
  · have hf := if_n hc hf
    refine lv_iload_n hx hb dX10_set_8 rfl (lv_at hl 2 rfl) ?_
    refine lv_iconst (v := 1) hx hb dX10_set_9 (by decide) ?_
    refine lv_iconst (v := 3) hx hb dX10_set_10 (by decide) ?_
    obtain ⟨r6, M5, hc7, hf⟩ := cl_inv hf
    refine fin_I (run_S C hw mf_X10_in ms_X10_in ml_X10_89 (c_X10_in l G A ad hc7) (As := [.int x2, .int 1, .int 3]) (rest := []) hl.1 rfl rfl (Nat.le_of_ble_eq_true rfl) ⟨rfl, rfl, Nat.le_of_ble_eq_true rfl, Nat.le_of_ble_eq_true rfl⟩ ⟨Nat.zero_le _, Nat.zero_le _⟩ dX10_set_11) hw (fun H locs hw => ?_)
    refine lv_if_eq (tgt := 52) hx hb dX10_set_14 (by decide) (fun hc => ?_) (fun hc => ?_)
    · have hf := if_p hc hf
      refine lv_ldc hx hb C.2.2.2.1 (C.2.2.2.2.1 _ kc_X10_97) dX10_set_52 ?_
      exact e_iret C hw hf dX10_set_54
    · have hf := if_n hc hf
      refine lv_iload_n hx hb dX10_set_17 rfl (lv_at hl 3 rfl) ?_
      refine lv_iconst (v := 0) hx hb dX10_set_18 (by decide) ?_
      refine lv_iload_n hx hb dX10_set_19 rfl (lv_at hl 2 rfl) ?_
      refine lv_iconst (v := 1) hx hb dX10_set_20 (by decide) ?_
      refine lv_icmp_ne (tgt := 28) hx hb dX10_set_21 (by decide) (fun hc => ?_) (fun hc => ?_)
      · have hf := if_n hc hf
        refine lv_bipush (v := 99) hx hb dX10_set_28 (by decide) ?_
        exact t_X10_set_30 C M5 x0 x1 x2 x3 x3 0 99 _ _ _ hf hw (lv_sub hl [0, 1, 2, 3] rfl)
      · have hf := if_p hc hf
        refine lv_iconst (v := 3) hx hb dX10_set_24 (by decide) ?_
        refine lv_goto (tgt := 30) hx hb dX10_set_25 (by decide) ?_
        exact t_X10_set_30 C M5 x0 x1 x2 x3 x3 0 3 _ _ _ hf hw (lv_sub hl [0, 1, 2, 3] rfl)
/-! StorkVoteModel.hatches(II)I -/
abbrev rm_X10_hatches : Room := { frames := 0, cells := 0, slots := 0, locals := 0 }
def f_X10_hatches (M : Mem) (x0 : Nat) (x1 : Int32) (x2 : Int32) : Option (Int32 × Mem) := gt (mT M x0) 11 (lp (mP M x0 0) (fun a2 => gt (mT M a2) 20 (gd (ib 2 (mL M a2)) (gd (ib (8 + (3 * (mI M a2 (2 : Int32).toNatClampNeg))) (mL M a2)) (st (setI M a2 (8 + (3 * (mI M a2 (2 : Int32).toNatClampNeg))).toNatClampNeg x1) (fun M7 => gd (ib ((8 + (3 * (mI M a2 (2 : Int32).toNatClampNeg))) + 1) (mL M7 a2)) (st (setI M7 a2 ((8 + (3 * (mI M a2 (2 : Int32).toNatClampNeg))) + 1).toNatClampNeg x2) (fun M11 => gd (ib ((8 + (3 * (mI M a2 (2 : Int32).toNatClampNeg))) + 2) (mL M11 a2)) (st (setI M11 a2 ((8 + (3 * (mI M a2 (2 : Int32).toNatClampNeg))) + 2).toNatClampNeg 0) (fun M15 => gd (ib 2 (mL M15 a2)) (gd (ib 2 (mL M15 a2)) (st (setI M15 a2 (2 : Int32).toNatClampNeg ((mI M15 a2 (2 : Int32).toNatClampNeg) + 1)) (fun M20 => gd (ib 2 (mL M20 a2)) (some (((mI M20 a2 (2 : Int32).toNatClampNeg) - 1), M20)))))))))))))))
set_option maxHeartbeats 4000000 in
set_option maxRecDepth 100000 in
theorem c_X10_hatches (l : Launch) (G : Gd) (A : Nat → Prop) (ad : Nat → Nat) {M : Mem} {x0 : Nat} {x1 : Int32} {x2 : Int32}  {r : Int32} {M' : Mem} (hf : f_X10_hatches M x0 x1 x2 = some (r, M')) : Ct l yX10_hatches cX10_hatches 4 (some .int) rm_X10_hatches [.ref (ad x0), .int x1, .int x2] G A ad M (QI G A ad r M') 0 0 := by
  refine ct_start (by decide) (Nat.le_of_ble_eq_true rfl) ?_
  intro p e s m args below meth c ls C hin hw hl
  have C : Cx G A p s m args meth c RX10 cX10_hatches 4 (some .int) := C
  have hl : lv_has ls 4 [(0, .ref (ad x0)), (1, .int x1), (2, .int x2)] := hl
  obtain ⟨hx, hb, -⟩ := id C
  rw [f_X10_hatches] at hf
  refine lv_bipush (v := 8) hx hb dX10_hatches_0 (by decide) ?_
  refine lv_iconst (v := 3) hx hb dX10_hatches_2 (by decide) ?_
  refine lv_aload_n hx hb dX10_hatches_3 rfl (lv_at hl 0 rfl) ?_
  obtain ⟨hT1, hf⟩ := gt_inv hf
  obtain ⟨a2, hP3, hf⟩ := lp_inv hf
  refine r_getP C hw cf10 0 (by decide) rfl hT1 hP3 fl_X10_9 dX10_hatches_4 ?_
  refine lv_iconst (v := 2) hx hb dX10_hatches_7 (by decide) ?_
  obtain ⟨hT4, hf⟩ := gt_inv hf
  obtain ⟨hg5, hf⟩ := gd_inv hf
  refine r_iald C hw hT4 hg5 dX10_hatches_8 ?_
  refine lv_imul hx hb dX10_hatches_9 ?_
  refine lv_iadd hx hb dX10_hatches_10 ?_
  refine lv_istore_n (lv' := [(3, .int (8 + (3 * (mI M a2 (2 : Int32).toNatClampNeg)))), (0, .ref (ad x0)), (1, .int x1), (2, .int x2)]) hx hb dX10_hatches_11 rfl hl (by decide) rfl (fun ls hl => ?_)
  refine lv_aload_n hx hb dX10_hatches_12 rfl (lv_at hl 1 rfl) ?_
  refine r_getP C hw cf10 0 (by decide) rfl hT1 hP3 fl_X10_9 dX10_hatches_13 ?_
  refine lv_iload_n hx hb dX10_hatches_16 rfl (lv_at hl 0 rfl) ?_
  refine lv_iload_n hx hb dX10_hatches_17 rfl (lv_at hl 2 rfl) ?_
  obtain ⟨hg6, hf⟩ := gd_inv hf
  obtain ⟨M7, e8, hf⟩ := st_inv hf
  have g9 := sg_I e8
  refine r_iast C hw hT4 hg6 e8 dX10_hatches_18 (fun H locs hw => ?_)
  refine lv_aload_n hx hb dX10_hatches_19 rfl (lv_at hl 1 rfl) ?_
  refine r_getP C hw cf10 0 (by decide) rfl (T_of g9 hT1) (P_of g9 hP3) fl_X10_9 dX10_hatches_20 ?_
  refine lv_iload_n hx hb dX10_hatches_23 rfl (lv_at hl 0 rfl) ?_
  refine lv_iconst (v := 1) hx hb dX10_hatches_24 (by decide) ?_
  refine lv_iadd hx hb dX10_hatches_25 ?_
  refine lv_iload_n hx hb dX10_hatches_26 rfl (lv_at hl 3 rfl) ?_
  obtain ⟨hg10, hf⟩ := gd_inv hf
  obtain ⟨M11, e12, hf⟩ := st_inv hf
  have g13 := sg_I e12
  refine r_iast C hw (T_of g9 hT4) hg10 e12 dX10_hatches_27 (fun H locs hw => ?_)
  refine lv_aload_n hx hb dX10_hatches_28 rfl (lv_at hl 1 rfl) ?_
  refine r_getP C hw cf10 0 (by decide) rfl (T_of g13 (T_of g9 hT1)) (P_of g13 (P_of g9 hP3)) fl_X10_9 dX10_hatches_29 ?_
  refine lv_iload_n hx hb dX10_hatches_32 rfl (lv_at hl 0 rfl) ?_
  refine lv_iconst (v := 2) hx hb dX10_hatches_33 (by decide) ?_
  refine lv_iadd hx hb dX10_hatches_34 ?_
  refine lv_iconst (v := 0) hx hb dX10_hatches_35 (by decide) ?_
  obtain ⟨hg14, hf⟩ := gd_inv hf
  obtain ⟨M15, e16, hf⟩ := st_inv hf
  have g17 := sg_I e16
  refine r_iast C hw (T_of g13 (T_of g9 hT4)) hg14 e16 dX10_hatches_36 (fun H locs hw => ?_)
  refine lv_aload_n hx hb dX10_hatches_37 rfl (lv_at hl 1 rfl) ?_
  refine r_getP C hw cf10 0 (by decide) rfl (T_of g17 (T_of g13 (T_of g9 hT1))) (P_of g17 (P_of g13 (P_of g9 hP3))) fl_X10_9 dX10_hatches_38 ?_
  refine lv_iconst (v := 2) hx hb dX10_hatches_41 (by decide) ?_
  refine lv_dup2_11 hx hb dX10_hatches_42 rfl rfl ?_
  obtain ⟨hg18, hf⟩ := gd_inv hf
  refine r_iald C hw (T_of g17 (T_of g13 (T_of g9 hT4))) hg18 dX10_hatches_43 ?_
  refine lv_iconst (v := 1) hx hb dX10_hatches_44 (by decide) ?_
  refine lv_iadd hx hb dX10_hatches_45 ?_
  obtain ⟨hg19, hf⟩ := gd_inv hf
  obtain ⟨M20, e21, hf⟩ := st_inv hf
  have g22 := sg_I e21
  refine r_iast C hw (T_of g17 (T_of g13 (T_of g9 hT4))) hg19 e21 dX10_hatches_46 (fun H locs hw => ?_)
  refine lv_aload_n hx hb dX10_hatches_47 rfl (lv_at hl 1 rfl) ?_
  refine r_getP C hw cf10 0 (by decide) rfl (T_of g22 (T_of g17 (T_of g13 (T_of g9 hT1)))) (P_of g22 (P_of g17 (P_of g13 (P_of g9 hP3)))) fl_X10_9 dX10_hatches_48 ?_
  refine lv_iconst (v := 2) hx hb dX10_hatches_51 (by decide) ?_
  obtain ⟨hg23, hf⟩ := gd_inv hf
  refine r_iald C hw (T_of g22 (T_of g17 (T_of g13 (T_of g9 hT4)))) hg23 dX10_hatches_52 ?_
  refine lv_iconst (v := 1) hx hb dX10_hatches_53 (by decide) ?_
  refine lv_isub hx hb dX10_hatches_54 ?_
  exact e_iret C hw hf dX10_hatches_55
/-! StorkVoteModel.stork(II)I -/
abbrev rm_X10_stork : Room := { frames := 2, cells := 0, slots := 0, locals := 43 }
def f_X10_stork_56 (M : Mem) (s0 : Nat) (s1 : Int32) (s2 : Int32) : Option (Int32 × Mem) := gt (mT M s0) 11 (cl (f_X10_hatches M s0 s1 s2) (fun r2 M1 => some (r2, M1)))
set_option maxHeartbeats 4000000 in
set_option maxRecDepth 100000 in
theorem t_X10_stork_56 {l : Launch} {p : Program} {e : Env} {s : State} {m : MethodId} {args : Array Value} {below : List Frame} {meth : Method} {c : Code} {G : Gd} {A : Nat → Prop} {ad : Nat → Nat} (C : Cx G A p s m args meth c RX10 cX10_stork 3 (some .int)) {r : Int32} {M' : Mem} : ∀ (M : Mem) (s0 : Nat) (s1 : Int32) (s2 : Int32) (H : Heap) (locs : List Loc) (ls : Array Slot), f_X10_stork_56  M s0 s1 s2 = some (r, M') → Wd G A ad s.heap M H locs → lv_has ls 3 [] → W p l e rm_X10_stork s m args below meth c H locs 0 0 (MQ below (QI G A ad r M') args s 0 0 A) (F0 m 56 ls [.int s2, .int s1, .ref (ad s0)]) := by
  obtain ⟨hx, hb, -⟩ := id C
  intro M s0 s1 s2 H locs ls hf hw hl
  rw [f_X10_stork_56] at hf
  obtain ⟨hT4, hf⟩ := gt_inv hf
  obtain ⟨r2, M1, hc3, hf⟩ := cl_inv hf
  refine fin_I (run_V C hw mf_X10_hatches mv_X10_hatches ml_X10_128 cf10 hT4 (c_X10_hatches l G A ad hc3) (As := [.int s1, .int s2]) (rest := []) hl.1 rfl rfl (Nat.le_of_ble_eq_true rfl) ⟨rfl, rfl, Nat.le_of_ble_eq_true rfl, Nat.le_of_ble_eq_true rfl⟩ ⟨Nat.zero_le _, Nat.zero_le _⟩ dX10_stork_56) hw (fun H locs hw => ?_)
  exact e_iret C hw hf dX10_stork_59
def f_X10_stork_27 (M : Mem) (x0 : Nat) (x1 : Int32) (x2 : Int32) : Option (Int32 × Mem) := gt (mT M x0) 11 (lp (mP M x0 0) (fun a2 => gt (mT M a2) 20 (gd (ib 2 (mL M a2)) ((if (mI M a2 (2 : Int32).toNatClampNeg) = 10 then some ((-1000000003), M) else (if x2 = (-1000000005) then f_X10_stork_56 M x0 x1 (-1) else f_X10_stork_56 M x0 x1 x2))))))
set_option maxHeartbeats 4000000 in
set_option maxRecDepth 100000 in
theorem t_X10_stork_27 {l : Launch} {p : Program} {e : Env} {s : State} {m : MethodId} {args : Array Value} {below : List Frame} {meth : Method} {c : Code} {G : Gd} {A : Nat → Prop} {ad : Nat → Nat} (C : Cx G A p s m args meth c RX10 cX10_stork 3 (some .int)) {r : Int32} {M' : Mem} : ∀ (M : Mem) (x0 : Nat) (x1 : Int32) (x2 : Int32) (H : Heap) (locs : List Loc) (ls : Array Slot), f_X10_stork_27  M x0 x1 x2 = some (r, M') → Wd G A ad s.heap M H locs → lv_has ls 3 [(0, .ref (ad x0)), (1, .int x1), (2, .int x2)] → W p l e rm_X10_stork s m args below meth c H locs 0 0 (MQ below (QI G A ad r M') args s 0 0 A) (F0 m 27 ls []) := by
  obtain ⟨hx, hb, -⟩ := id C
  intro M x0 x1 x2 H locs ls hf hw hl
  rw [f_X10_stork_27] at hf
  refine lv_aload_n hx hb dX10_stork_27 rfl (lv_at hl 0 rfl) ?_
  obtain ⟨hT1, hf⟩ := gt_inv hf
  obtain ⟨a2, hP3, hf⟩ := lp_inv hf
  refine r_getP C hw cf10 0 (by decide) rfl hT1 hP3 fl_X10_9 dX10_stork_28 ?_
  refine lv_iconst (v := 2) hx hb dX10_stork_31 (by decide) ?_
  obtain ⟨hT4, hf⟩ := gt_inv hf
  obtain ⟨hg5, hf⟩ := gd_inv hf
  refine r_iald C hw hT4 hg5 dX10_stork_32 ?_
  refine lv_bipush (v := 10) hx hb dX10_stork_33 (by decide) ?_
  refine lv_icmp_ne (tgt := 43) hx hb dX10_stork_35 (by decide) (fun hc => ?_) (fun hc => ?_)
  · have hf := if_n hc hf
    refine lv_aload_n hx hb dX10_stork_43 rfl (lv_at hl 0 rfl) ?_
    refine lv_iload_n hx hb dX10_stork_44 rfl (lv_at hl 1 rfl) ?_
    refine lv_iload_n hx hb dX10_stork_45 rfl (lv_at hl 2 rfl) ?_
    refine lv_ldc hx hb C.2.2.2.1 (C.2.2.2.2.1 _ kc_X10_88) dX10_stork_46 ?_
    refine lv_icmp_ne (tgt := 55) hx hb dX10_stork_48 (by decide) (fun hc => ?_) (fun hc => ?_)
    · have hf := if_n hc hf
      refine lv_iload_n hx hb dX10_stork_55 rfl (lv_at hl 2 rfl) ?_
      exact t_X10_stork_56 C M x0 x1 x2 _ _ _ hf hw (lv_sub hl [] rfl)
    · have hf := if_p hc hf
      refine lv_iconst (v := (-1)) hx hb dX10_stork_51 (by decide) ?_
      refine lv_goto (tgt := 56) hx hb dX10_stork_52 (by decide) ?_
      exact t_X10_stork_56 C M x0 x1 (-1) _ _ _ hf hw (lv_sub hl [] rfl)
  · have hf := if_p hc hf
    refine lv_ldc hx hb C.2.2.2.1 (C.2.2.2.2.1 _ kc_X10_98) dX10_stork_38 ?_
    refine lv_goto (tgt := 59) hx hb dX10_stork_40 (by decide) ?_
    exact e_iret C hw hf dX10_stork_59
def f_X10_stork (M : Mem) (x0 : Nat) (x1 : Int32) (x2 : Int32) : Option (Int32 × Mem) := cl (f_X10_in M x1 1 99) (fun r2 M1 => (if r2 = 0 then some ((-1000000001), M1) else (if x2 = (-1000000005) then f_X10_stork_27 M1 x0 x1 x2 else gt (mT M1 x0) 11 (cl (f_X10_isChimney M1 x0 x2) (fun r5 M4 => (if r5 = 0 then some ((-1000000001), M4) else f_X10_stork_27 M4 x0 x1 x2))))))
set_option maxHeartbeats 4000000 in
set_option maxRecDepth 100000 in
theorem c_X10_stork (l : Launch) (G : Gd) (A : Nat → Prop) (ad : Nat → Nat) {M : Mem} {x0 : Nat} {x1 : Int32} {x2 : Int32}  {r : Int32} {M' : Mem} (hf : f_X10_stork M x0 x1 x2 = some (r, M')) : Ct l yX10_stork cX10_stork 3 (some .int) rm_X10_stork [.ref (ad x0), .int x1, .int x2] G A ad M (QI G A ad r M') 0 0 := by
  refine ct_start (by decide) (Nat.le_of_ble_eq_true rfl) ?_
  intro p e s m args below meth c ls C hin hw hl
  have C : Cx G A p s m args meth c RX10 cX10_stork 3 (some .int) := C
  have hl : lv_has ls 3 [(0, .ref (ad x0)), (1, .int x1), (2, .int x2)] := hl
  obtain ⟨hx, hb, -⟩ := id C
  rw [f_X10_stork] at hf
  refine lv_iload_n hx hb dX10_stork_0 rfl (lv_at hl 1 rfl) ?_
  refine lv_iconst (v := 1) hx hb dX10_stork_1 (by decide) ?_
  refine lv_bipush (v := 99) hx hb dX10_stork_2 (by decide) ?_
  obtain ⟨r2, M1, hc3, hf⟩ := cl_inv hf
  refine fin_I (run_S C hw mf_X10_in ms_X10_in ml_X10_89 (c_X10_in l G A ad hc3) (As := [.int x1, .int 1, .int 99]) (rest := []) hl.1 rfl rfl (Nat.le_of_ble_eq_true rfl) ⟨rfl, rfl, Nat.le_of_ble_eq_true rfl, Nat.le_of_ble_eq_true rfl⟩ ⟨Nat.zero_le _, Nat.zero_le _⟩ dX10_stork_4) hw (fun H locs hw => ?_)
  refine lv_if_eq (tgt := 24) hx hb dX10_stork_7 (by decide) (fun hc => ?_) (fun hc => ?_)
  · have hf := if_p hc hf
    refine lv_ldc hx hb C.2.2.2.1 (C.2.2.2.2.1 _ kc_X10_97) dX10_stork_24 ?_
    exact e_iret C hw hf dX10_stork_26
  · have hf := if_n hc hf
    refine lv_iload_n hx hb dX10_stork_10 rfl (lv_at hl 2 rfl) ?_
    refine lv_ldc hx hb C.2.2.2.1 (C.2.2.2.2.1 _ kc_X10_88) dX10_stork_11 ?_
    refine lv_icmp_eq (tgt := 27) hx hb dX10_stork_13 (by decide) (fun hc => ?_) (fun hc => ?_)
    · have hf := if_p hc hf
      exact t_X10_stork_27 C M1 x0 x1 x2 _ _ _ hf hw (lv_sub hl [0, 1, 2] rfl)
    · have hf := if_n hc hf
      refine lv_aload_n hx hb dX10_stork_16 rfl (lv_at hl 0 rfl) ?_
      refine lv_iload_n hx hb dX10_stork_17 rfl (lv_at hl 2 rfl) ?_
      obtain ⟨hT7, hf⟩ := gt_inv hf
      obtain ⟨r5, M4, hc6, hf⟩ := cl_inv hf
      refine fin_I (run_V C hw mf_X10_isChimney mv_X10_isChimney ml_X10_107 cf10 hT7 (c_X10_isChimney l G A ad hc6) (As := [.int x2]) (rest := []) hl.1 rfl rfl (Nat.le_of_ble_eq_true rfl) ⟨rfl, rfl, Nat.le_of_ble_eq_true rfl, Nat.le_of_ble_eq_true rfl⟩ ⟨Nat.zero_le _, Nat.zero_le _⟩ dX10_stork_18) hw (fun H locs hw => ?_)
      refine lv_if_ne (tgt := 27) hx hb dX10_stork_21 (by decide) (fun hc => ?_) (fun hc => ?_)
      · have hf := if_n hc hf
        exact t_X10_stork_27 C M4 x0 x1 x2 _ _ _ hf hw (lv_sub hl [0, 1, 2] rfl)
      · have hf := if_p hc hf
        refine lv_ldc hx hb C.2.2.2.1 (C.2.2.2.2.1 _ kc_X10_97) dX10_stork_24 ?_
        exact e_iret C hw hf dX10_stork_26
