/-! StorkVoteModel.in(III)Z -/
abbrev rm_X10_in : Room := { frames := 0, cells := 0, slots := 0, locals := 0 }
def f_X10_in (M : Mem) (x0 : Int32) (x1 : Int32) (x2 : Int32) : Option (Int32 × Mem) := (if x0 < x1 then some (0, M) else (if x2 < x0 then some (0, M) else some (1, M)))
set_option maxHeartbeats 4000000 in
set_option maxRecDepth 100000 in
theorem c_X10_in (l : Launch) (G : Gd) (A : Nat → Prop) (ad : Nat → Nat) {M : Mem} {x0 : Int32} {x1 : Int32} {x2 : Int32}  {r : Int32} {M' : Mem} (hf : f_X10_in M x0 x1 x2 = some (r, M')) : Ct l yX10_in cX10_in 3 (some .boolean) rm_X10_in [.int x0, .int x1, .int x2] G A ad M (QI G A ad r M') 0 0 := by
  refine ct_start (by decide) (Nat.le_of_ble_eq_true rfl) ?_
  intro p e s m args below meth c ls C hin hw hl
  have C : Cx G A p s m args meth c RX10 cX10_in 3 (some .boolean) := C
  have hl : lv_has ls 3 [(0, .int x0), (1, .int x1), (2, .int x2)] := hl
  obtain ⟨hx, hb, -⟩ := id C
  rw [f_X10_in] at hf
  refine lv_iload_n hx hb dX10_in_0 rfl (lv_at hl 0 rfl) ?_
  refine lv_iload_n hx hb dX10_in_1 rfl (lv_at hl 1 rfl) ?_
  refine lv_icmp_lt (tgt := 14) hx hb dX10_in_2 (by decide) (fun hc => ?_) (fun hc => ?_)
  · have hf := if_p hc hf
    refine lv_iconst (v := 0) hx hb dX10_in_14 (by decide) ?_
    exact e_zret C hw rfl hf dX10_in_15
  · have hf := if_n hc hf
    refine lv_iload_n hx hb dX10_in_5 rfl (lv_at hl 0 rfl) ?_
    refine lv_iload_n hx hb dX10_in_6 rfl (lv_at hl 2 rfl) ?_
    refine lv_icmp_gt (tgt := 14) hx hb dX10_in_7 (by decide) (fun hc => ?_) (fun hc => ?_)
    · have hf := if_p hc hf
      refine lv_iconst (v := 0) hx hb dX10_in_14 (by decide) ?_
      exact e_zret C hw rfl hf dX10_in_15
    · have hf := if_n hc hf
      refine lv_iconst (v := 1) hx hb dX10_in_10 (by decide) ?_
      refine lv_goto (tgt := 15) hx hb dX10_in_11 (by decide) ?_
      exact e_zret C hw rfl hf dX10_in_15

/-! StorkVoteModel.of(II)I -/
abbrev rm_X10_of : Room := { frames := 0, cells := 0, slots := 0, locals := 0 }
def f_X10_of (M : Mem) (x0 : Nat) (x1 : Int32) (x2 : Int32) : Option (Int32 × Mem) := gt (mT M x0) 11 (lp (mP M x0 0) (fun a2 => gt (mT M a2) 20 (gd (ib ((38 + (4 * x1)) + x2) (mL M a2)) (some ((mI M a2 ((38 + (4 * x1)) + x2).toNatClampNeg), M)))))
set_option maxHeartbeats 4000000 in
set_option maxRecDepth 100000 in
theorem c_X10_of (l : Launch) (G : Gd) (A : Nat → Prop) (ad : Nat → Nat) {M : Mem} {x0 : Nat} {x1 : Int32} {x2 : Int32}  {r : Int32} {M' : Mem} (hf : f_X10_of M x0 x1 x2 = some (r, M')) : Ct l yX10_of cX10_of 3 (some .int) rm_X10_of [.ref (ad x0), .int x1, .int x2] G A ad M (QI G A ad r M') 0 0 := by
  refine ct_start (by decide) (Nat.le_of_ble_eq_true rfl) ?_
  intro p e s m args below meth c ls C hin hw hl
  have C : Cx G A p s m args meth c RX10 cX10_of 3 (some .int) := C
  have hl : lv_has ls 3 [(0, .ref (ad x0)), (1, .int x1), (2, .int x2)] := hl
  obtain ⟨hx, hb, -⟩ := id C
  rw [f_X10_of] at hf
  refine lv_aload_n hx hb dX10_of_0 rfl (lv_at hl 0 rfl) ?_
  obtain ⟨hT1, hf⟩ := gt_inv hf
  obtain ⟨a2, hP3, hf⟩ := lp_inv hf
  refine r_getP C hw cf10 0 (by decide) rfl hT1 hP3 fl_X10_9 dX10_of_1 ?_
  refine lv_bipush (v := 38) hx hb dX10_of_4 (by decide) ?_
  refine lv_iconst (v := 4) hx hb dX10_of_6 (by decide) ?_
  refine lv_iload_n hx hb dX10_of_7 rfl (lv_at hl 1 rfl) ?_
  refine lv_imul hx hb dX10_of_8 ?_
  refine lv_iadd hx hb dX10_of_9 ?_
  refine lv_iload_n hx hb dX10_of_10 rfl (lv_at hl 2 rfl) ?_
  refine lv_iadd hx hb dX10_of_11 ?_
  obtain ⟨hT4, hf⟩ := gt_inv hf
  obtain ⟨hg5, hf⟩ := gd_inv hf
  refine r_iald C hw hT4 hg5 dX10_of_12 ?_
  exact e_iret C hw hf dX10_of_13

/-! StorkVoteModel.copyAll([I[I)V -/
abbrev rm_X10_copyAll : Room := { frames := 0, cells := 0, slots := 0, locals := 0 }
def f_X10_copyAll_2 : Nat → Mem → Nat → Nat → Int32 → Option (Unit × Mem)
  | 0, _, _, _, _ => none
  | n + 1, M, x0, x1, x2 => (if 1442 ≤ x2 then some ((), M) else gt (mT M x0) 20 (gd (ib x2 (mL M x0)) (gt (mT M x1) 20 (gd (ib x2 (mL M x1)) (st (setI M x1 x2.toNatClampNeg (mI M x0 x2.toNatClampNeg)) (fun M5 => f_X10_copyAll_2 n M5 x0 x1 (x2 + 1)))))))
set_option maxHeartbeats 4000000 in
set_option maxRecDepth 100000 in
theorem t_X10_copyAll_2 {l : Launch} {p : Program} {e : Env} {s : State} {m : MethodId} {args : Array Value} {below : List Frame} {meth : Method} {c : Code} {G : Gd} {A : Nat → Prop} {ad : Nat → Nat} (C : Cx G A p s m args meth c RX10 cX10_copyAll 3 none) {M' : Mem} : ∀ (n : Nat) (M : Mem) (x0 : Nat) (x1 : Nat) (x2 : Int32) (H : Heap) (locs : List Loc) (ls : Array Slot), f_X10_copyAll_2  n M x0 x1 x2 = some ((), M') → Wd G A ad s.heap M H locs → lv_has ls 3 [(0, .ref (ad x0)), (1, .ref (ad x1)), (2, .int x2)] → W p l e rm_X10_copyAll s m args below meth c H locs 0 0 (MQ below (QV G A ad M') args s 0 0 A) (F0 m 2 ls []) := by
  obtain ⟨hx, hb, -⟩ := id C
  intro n
  induction n with
  | zero =>
    intro M x0 x1 x2 H locs ls hf
    rw [f_X10_copyAll_2] at hf
    exact absurd hf (fun h => nomatch h)
  | succ n ih =>
    intro M x0 x1 x2 H locs ls hf hw hl
    rw [f_X10_copyAll_2] at hf
    refine lv_iload_n hx hb dX10_copyAll_2 rfl (lv_at hl 2 rfl) ?_
    refine lv_sipush (v := 1442) hx hb dX10_copyAll_3 (by decide) ?_
    refine lv_icmp_ge (tgt := 21) hx hb dX10_copyAll_6 (by decide) (fun hc => ?_) (fun hc => ?_)
    · have hf := if_p hc hf
      exact e_vret C hw hf dX10_copyAll_21
    · have hf := if_n hc hf
      refine lv_aload_n hx hb dX10_copyAll_9 rfl (lv_at hl 1 rfl) ?_
      refine lv_iload_n hx hb dX10_copyAll_10 rfl (lv_at hl 2 rfl) ?_
      refine lv_aload_n hx hb dX10_copyAll_11 rfl (lv_at hl 0 rfl) ?_
      refine lv_iload_n hx hb dX10_copyAll_12 rfl (lv_at hl 2 rfl) ?_
      obtain ⟨hT1, hf⟩ := gt_inv hf
      obtain ⟨hg2, hf⟩ := gd_inv hf
      refine r_iald C hw hT1 hg2 dX10_copyAll_13 ?_
      obtain ⟨hT3, hf⟩ := gt_inv hf
      obtain ⟨hg4, hf⟩ := gd_inv hf
      obtain ⟨M5, e6, hf⟩ := st_inv hf
      have g7 : M5.2.2 = M.2.2 := congrArg (fun z : Mem => z.2.2) e6
      refine r_iast C hw hT3 hg4 e6 dX10_copyAll_14 (fun H locs hw => ?_)
      refine lv_iinc (v := (x2 + 1)) (lv' := [(2, .int (x2 + 1)), (0, .ref (ad x0)), (1, .ref (ad x1))]) hx hb dX10_copyAll_15 hl (k := 2) rfl rfl (by decide) rfl (fun ls hl => ?_)
      refine lv_goto (tgt := 2) hx hb dX10_copyAll_18 (by decide) ?_
      exact ih M5 x0 x1 (x2 + 1) _ _ _ hf hw (lv_sub hl [1, 2, 0] rfl)
def f_X10_copyAll (M : Mem) (x0 : Nat) (x1 : Nat) : Option (Unit × Mem) := f_X10_copyAll_2 FU M x0 x1 0
set_option maxHeartbeats 4000000 in
set_option maxRecDepth 100000 in
theorem c_X10_copyAll (l : Launch) (G : Gd) (A : Nat → Prop) (ad : Nat → Nat) {M : Mem} {x0 : Nat} {x1 : Nat}  {M' : Mem} (hf : f_X10_copyAll M x0 x1 = some ((), M')) : Ct l yX10_copyAll cX10_copyAll 3 none rm_X10_copyAll [.ref (ad x0), .ref (ad x1)] G A ad M (QV G A ad M') 0 0 := by
  refine ct_start (by decide) (Nat.le_of_ble_eq_true rfl) ?_
  intro p e s m args below meth c ls C hin hw hl
  have C : Cx G A p s m args meth c RX10 cX10_copyAll 3 none := C
  have hl : lv_has ls 3 [(0, .ref (ad x0)), (1, .ref (ad x1))] := hl
  obtain ⟨hx, hb, -⟩ := id C
  rw [f_X10_copyAll] at hf
  refine lv_iconst (v := 0) hx hb dX10_copyAll_0 (by decide) ?_
  refine lv_istore_n (lv' := [(2, .int 0), (0, .ref (ad x0)), (1, .ref (ad x1))]) hx hb dX10_copyAll_1 rfl hl (by decide) rfl (fun ls hl => ?_)
  exact t_X10_copyAll_2 C FU M x0 x1 0 _ _ _ hf hw (lv_sub hl [1, 2, 0] rfl)

/-! StorkVoteModel.isAway(I)Z -/
abbrev rm_X10_isAway : Room := { frames := 0, cells := 0, slots := 0, locals := 0 }
def f_X10_isAway (M : Mem) (x0 : Nat) (x1 : Int32) : Option (Int32 × Mem) := gt (mT M x0) 11 (lp (mP M x0 0) (fun a2 => gt (mT M a2) 20 (gd (ib ((8 + (3 * x1)) + 2) (mL M a2)) ((if (mI M a2 ((8 + (3 * x1)) + 2).toNatClampNeg) = 1 then some (1, M) else some (0, M))))))
set_option maxHeartbeats 4000000 in
set_option maxRecDepth 100000 in
theorem c_X10_isAway (l : Launch) (G : Gd) (A : Nat → Prop) (ad : Nat → Nat) {M : Mem} {x0 : Nat} {x1 : Int32}  {r : Int32} {M' : Mem} (hf : f_X10_isAway M x0 x1 = some (r, M')) : Ct l yX10_isAway cX10_isAway 2 (some .boolean) rm_X10_isAway [.ref (ad x0), .int x1] G A ad M (QI G A ad r M') 0 0 := by
  refine ct_start (by decide) (Nat.le_of_ble_eq_true rfl) ?_
  intro p e s m args below meth c ls C hin hw hl
  have C : Cx G A p s m args meth c RX10 cX10_isAway 2 (some .boolean) := C
  have hl : lv_has ls 2 [(0, .ref (ad x0)), (1, .int x1)] := hl
  obtain ⟨hx, hb, -⟩ := id C
  rw [f_X10_isAway] at hf
  refine lv_aload_n hx hb dX10_isAway_0 rfl (lv_at hl 0 rfl) ?_
  obtain ⟨hT1, hf⟩ := gt_inv hf
  obtain ⟨a2, hP3, hf⟩ := lp_inv hf
  refine r_getP C hw cf10 0 (by decide) rfl hT1 hP3 fl_X10_9 dX10_isAway_1 ?_
  refine lv_bipush (v := 8) hx hb dX10_isAway_4 (by decide) ?_
  refine lv_iconst (v := 3) hx hb dX10_isAway_6 (by decide) ?_
  refine lv_iload_n hx hb dX10_isAway_7 rfl (lv_at hl 1 rfl) ?_
  refine lv_imul hx hb dX10_isAway_8 ?_
  refine lv_iadd hx hb dX10_isAway_9 ?_
  refine lv_iconst (v := 2) hx hb dX10_isAway_10 (by decide) ?_
  refine lv_iadd hx hb dX10_isAway_11 ?_
  obtain ⟨hT4, hf⟩ := gt_inv hf
  obtain ⟨hg5, hf⟩ := gd_inv hf
  refine r_iald C hw hT4 hg5 dX10_isAway_12 ?_
  refine lv_iconst (v := 1) hx hb dX10_isAway_13 (by decide) ?_
  refine lv_icmp_ne (tgt := 21) hx hb dX10_isAway_14 (by decide) (fun hc => ?_) (fun hc => ?_)
  · have hf := if_n hc hf
    refine lv_iconst (v := 0) hx hb dX10_isAway_21 (by decide) ?_
    exact e_zret C hw rfl hf dX10_isAway_22
  · have hf := if_p hc hf
    refine lv_iconst (v := 1) hx hb dX10_isAway_17 (by decide) ?_
    refine lv_goto (tgt := 22) hx hb dX10_isAway_18 (by decide) ?_
    exact e_zret C hw rfl hf dX10_isAway_22

/-! StorkVoteModel.strong(I)I -/
abbrev rm_X10_strong : Room := { frames := 0, cells := 0, slots := 0, locals := 0 }
def f_X10_strong (M : Mem) (x0 : Nat) (x1 : Int32) : Option (Int32 × Mem) := gt (mT M x0) 11 (lp (mP M x0 0) (fun a2 => gt (mT M a2) 20 (gd (ib (8 + (3 * x1)) (mL M a2)) (some ((mI M a2 (8 + (3 * x1)).toNatClampNeg), M)))))
set_option maxHeartbeats 4000000 in
set_option maxRecDepth 100000 in
theorem c_X10_strong (l : Launch) (G : Gd) (A : Nat → Prop) (ad : Nat → Nat) {M : Mem} {x0 : Nat} {x1 : Int32}  {r : Int32} {M' : Mem} (hf : f_X10_strong M x0 x1 = some (r, M')) : Ct l yX10_strong cX10_strong 2 (some .int) rm_X10_strong [.ref (ad x0), .int x1] G A ad M (QI G A ad r M') 0 0 := by
  refine ct_start (by decide) (Nat.le_of_ble_eq_true rfl) ?_
  intro p e s m args below meth c ls C hin hw hl
  have C : Cx G A p s m args meth c RX10 cX10_strong 2 (some .int) := C
  have hl : lv_has ls 2 [(0, .ref (ad x0)), (1, .int x1)] := hl
  obtain ⟨hx, hb, -⟩ := id C
  rw [f_X10_strong] at hf
  refine lv_aload_n hx hb dX10_strong_0 rfl (lv_at hl 0 rfl) ?_
  obtain ⟨hT1, hf⟩ := gt_inv hf
  obtain ⟨a2, hP3, hf⟩ := lp_inv hf
  refine r_getP C hw cf10 0 (by decide) rfl hT1 hP3 fl_X10_9 dX10_strong_1 ?_
  refine lv_bipush (v := 8) hx hb dX10_strong_4 (by decide) ?_
  refine lv_iconst (v := 3) hx hb dX10_strong_6 (by decide) ?_
  refine lv_iload_n hx hb dX10_strong_7 rfl (lv_at hl 1 rfl) ?_
  refine lv_imul hx hb dX10_strong_8 ?_
  refine lv_iadd hx hb dX10_strong_9 ?_
  obtain ⟨hT4, hf⟩ := gt_inv hf
  obtain ⟨hg5, hf⟩ := gd_inv hf
  refine r_iald C hw hT4 hg5 dX10_strong_10 ?_
  exact e_iret C hw hf dX10_strong_11

/-! StorkVoteModel.nextStork()I -/
abbrev rm_X10_nextStork : Room := { frames := 1, cells := 0, slots := 0, locals := 21 }
def f_X10_nextStork_4 : Nat → Mem → Nat → Int32 → Int32 → Option (Int32 × Mem)
  | 0, _, _, _, _ => none
  | n + 1, M, x0, x1, x2 => gt (mT M x0) 11 (lp (mP M x0 0) (fun a2 => gt (mT M a2) 20 (gd (ib 2 (mL M a2)) ((if (mI M a2 (2 : Int32).toNatClampNeg) ≤ x2 then some (x1, M) else lp (mP M x0 7) (fun a6 => gt (mT M a6) 21 (gd (ib x2 (mL M a6)) ((if (mI M a6 x2.toNatClampNeg) = 0 then cl (f_X10_isAway M x0 x2) (fun r11 M10 => (if r11 = 0 then (if x1 < 0 then f_X10_nextStork_4 n M10 x0 x2 (x2 + 1) else gt (mT M10 x0) 11 (cl (f_X10_strong M10 x0 x2) (fun r14 M13 => gt (mT M13 x0) 11 (cl (f_X10_strong M13 x0 x1) (fun r18 M17 => (if r14 ≤ r18 then f_X10_nextStork_4 n M17 x0 x1 (x2 + 1) else f_X10_nextStork_4 n M17 x0 x2 (x2 + 1))))))) else f_X10_nextStork_4 n M10 x0 x1 (x2 + 1))) else f_X10_nextStork_4 n M x0 x1 (x2 + 1))))))))))
set_option maxHeartbeats 4000000 in
set_option maxRecDepth 100000 in
theorem t_X10_nextStork_4 {l : Launch} {p : Program} {e : Env} {s : State} {m : MethodId} {args : Array Value} {below : List Frame} {meth : Method} {c : Code} {G : Gd} {A : Nat → Prop} {ad : Nat → Nat} (C : Cx G A p s m args meth c RX10 cX10_nextStork 3 (some .int)) {r : Int32} {M' : Mem} : ∀ (n : Nat) (M : Mem) (x0 : Nat) (x1 : Int32) (x2 : Int32) (H : Heap) (locs : List Loc) (ls : Array Slot), f_X10_nextStork_4  n M x0 x1 x2 = some (r, M') → Wd G A ad s.heap M H locs → lv_has ls 3 [(0, .ref (ad x0)), (1, .int x1), (2, .int x2)] → W p l e rm_X10_nextStork s m args below meth c H locs 0 0 (MQ below (QI G A ad r M') args s 0 0 A) (F0 m 4 ls []) := by
  obtain ⟨hx, hb, -⟩ := id C
  intro n
  induction n with
  | zero =>
    intro M x0 x1 x2 H locs ls hf
    rw [f_X10_nextStork_4] at hf
    exact absurd hf (fun h => nomatch h)
  | succ n ih =>
    intro M x0 x1 x2 H locs ls hf hw hl
    rw [f_X10_nextStork_4] at hf
    refine lv_iload_n hx hb dX10_nextStork_4 rfl (lv_at hl 2 rfl) ?_
    refine lv_aload_n hx hb dX10_nextStork_5 rfl (lv_at hl 0 rfl) ?_
    obtain ⟨hT1, hf⟩ := gt_inv hf
    obtain ⟨a2, hP3, hf⟩ := lp_inv hf
    refine r_getP C hw cf10 0 (by decide) rfl hT1 hP3 fl_X10_9 dX10_nextStork_6 ?_
    refine lv_iconst (v := 2) hx hb dX10_nextStork_9 (by decide) ?_
    obtain ⟨hT4, hf⟩ := gt_inv hf
    obtain ⟨hg5, hf⟩ := gd_inv hf
    refine r_iald C hw hT4 hg5 dX10_nextStork_10 ?_
    refine lv_icmp_ge (tgt := 60) hx hb dX10_nextStork_11 (by decide) (fun hc => ?_) (fun hc => ?_)
    · have hf := if_p hc hf
      refine lv_iload_n hx hb dX10_nextStork_60 rfl (lv_at hl 1 rfl) ?_
      exact e_iret C hw hf dX10_nextStork_61
    · have hf := if_n hc hf
      refine lv_aload_n hx hb dX10_nextStork_14 rfl (lv_at hl 0 rfl) ?_
      obtain ⟨a6, hP7, hf⟩ := lp_inv hf
      refine r_getP C hw cf10 7 (by decide) rfl hT1 hP7 fl_X10_29 dX10_nextStork_15 ?_
      refine lv_iload_n hx hb dX10_nextStork_18 rfl (lv_at hl 2 rfl) ?_
      obtain ⟨hT8, hf⟩ := gt_inv hf
      obtain ⟨hg9, hf⟩ := gd_inv hf
      refine r_zald C hw hT8 hg9 dX10_nextStork_19 ?_
      refine lv_if_ne (tgt := 54) hx hb dX10_nextStork_20 (by decide) (fun hc => ?_) (fun hc => ?_)
      · have hf := if_n hc hf
        refine lv_iinc (v := (x2 + 1)) (lv' := [(2, .int (x2 + 1)), (0, .ref (ad x0)), (1, .int x1)]) hx hb dX10_nextStork_54 hl (k := 2) rfl rfl (by decide) rfl (fun ls hl => ?_)
        refine lv_goto (tgt := 4) hx hb dX10_nextStork_57 (by decide) ?_
        exact ih M x0 x1 (x2 + 1) _ _ _ hf hw (lv_sub hl [1, 2, 0] rfl)
      · have hf := if_p hc hf
        refine lv_aload_n hx hb dX10_nextStork_23 rfl (lv_at hl 0 rfl) ?_
        refine lv_iload_n hx hb dX10_nextStork_24 rfl (lv_at hl 2 rfl) ?_
        obtain ⟨r11, M10, hc12, hf⟩ := cl_inv hf
        refine fin_I (run_V C hw mf_X10_isAway mv_X10_isAway ml_X10_152 cf10 hT1 (c_X10_isAway l G A ad hc12) (As := [.int x2]) (rest := []) hl.1 rfl rfl (Nat.le_of_ble_eq_true rfl) ⟨rfl, rfl, Nat.le_of_ble_eq_true rfl, Nat.le_of_ble_eq_true rfl⟩ ⟨Nat.zero_le _, Nat.zero_le _⟩ dX10_nextStork_25) hw (fun H locs hw => ?_)
        refine lv_if_ne (tgt := 54) hx hb dX10_nextStork_28 (by decide) (fun hc => ?_) (fun hc => ?_)
        · have hf := if_n hc hf
          refine lv_iinc (v := (x2 + 1)) (lv' := [(2, .int (x2 + 1)), (0, .ref (ad x0)), (1, .int x1)]) hx hb dX10_nextStork_54 hl (k := 2) rfl rfl (by decide) rfl (fun ls hl => ?_)
          refine lv_goto (tgt := 4) hx hb dX10_nextStork_57 (by decide) ?_
          exact ih M10 x0 x1 (x2 + 1) _ _ _ hf hw (lv_sub hl [1, 2, 0] rfl)
        · have hf := if_p hc hf
          refine lv_iload_n hx hb dX10_nextStork_31 rfl (lv_at hl 1 rfl) ?_
          refine lv_if_lt (tgt := 48) hx hb dX10_nextStork_32 (by decide) (fun hc => ?_) (fun hc => ?_)
          · have hf := if_p hc hf
            refine lv_iload_n hx hb dX10_nextStork_48 rfl (lv_at hl 2 rfl) ?_
            refine lv_goto (tgt := 53) hx hb dX10_nextStork_49 (by decide) ?_
            refine lv_istore_n (lv' := [(1, .int x2), (0, .ref (ad x0)), (2, .int x2)]) hx hb dX10_nextStork_53 rfl hl (by decide) rfl (fun ls hl => ?_)
            refine lv_iinc (v := (x2 + 1)) (lv' := [(2, .int (x2 + 1)), (1, .int x2), (0, .ref (ad x0))]) hx hb dX10_nextStork_54 hl (k := 2) rfl rfl (by decide) rfl (fun ls hl => ?_)
            refine lv_goto (tgt := 4) hx hb dX10_nextStork_57 (by decide) ?_
            exact ih M10 x0 x2 (x2 + 1) _ _ _ hf hw (lv_sub hl [2, 1, 0] rfl)
          · have hf := if_n hc hf
            refine lv_aload_n hx hb dX10_nextStork_35 rfl (lv_at hl 0 rfl) ?_
            refine lv_iload_n hx hb dX10_nextStork_36 rfl (lv_at hl 2 rfl) ?_
            obtain ⟨hT16, hf⟩ := gt_inv hf
            obtain ⟨r14, M13, hc15, hf⟩ := cl_inv hf
            refine fin_I (run_V C hw mf_X10_strong mv_X10_strong ml_X10_155 cf10 hT16 (c_X10_strong l G A ad hc15) (As := [.int x2]) (rest := []) hl.1 rfl rfl (Nat.le_of_ble_eq_true rfl) ⟨rfl, rfl, Nat.le_of_ble_eq_true rfl, Nat.le_of_ble_eq_true rfl⟩ ⟨Nat.zero_le _, Nat.zero_le _⟩ dX10_nextStork_37) hw (fun H locs hw => ?_)
            refine lv_aload_n hx hb dX10_nextStork_40 rfl (lv_at hl 0 rfl) ?_
            refine lv_iload_n hx hb dX10_nextStork_41 rfl (lv_at hl 1 rfl) ?_
            obtain ⟨hT20, hf⟩ := gt_inv hf
            obtain ⟨r18, M17, hc19, hf⟩ := cl_inv hf
            refine fin_I (run_V C hw mf_X10_strong mv_X10_strong ml_X10_155 cf10 hT20 (c_X10_strong l G A ad hc19) (As := [.int x1]) (rest := [.int r14]) hl.1 rfl rfl (Nat.le_of_ble_eq_true rfl) ⟨rfl, rfl, Nat.le_of_ble_eq_true rfl, Nat.le_of_ble_eq_true rfl⟩ ⟨Nat.zero_le _, Nat.zero_le _⟩ dX10_nextStork_42) hw (fun H locs hw => ?_)
            refine lv_icmp_le (tgt := 52) hx hb dX10_nextStork_45 (by decide) (fun hc => ?_) (fun hc => ?_)
            · have hf := if_p hc hf
              refine lv_iload_n hx hb dX10_nextStork_52 rfl (lv_at hl 1 rfl) ?_
              refine lv_istore_n (lv' := [(1, .int x1), (0, .ref (ad x0)), (2, .int x2)]) hx hb dX10_nextStork_53 rfl hl (by decide) rfl (fun ls hl => ?_)
              refine lv_iinc (v := (x2 + 1)) (lv' := [(2, .int (x2 + 1)), (1, .int x1), (0, .ref (ad x0))]) hx hb dX10_nextStork_54 hl (k := 2) rfl rfl (by decide) rfl (fun ls hl => ?_)
              refine lv_goto (tgt := 4) hx hb dX10_nextStork_57 (by decide) ?_
              exact ih M17 x0 x1 (x2 + 1) _ _ _ hf hw (lv_sub hl [2, 1, 0] rfl)
            · have hf := if_n hc hf
              refine lv_iload_n hx hb dX10_nextStork_48 rfl (lv_at hl 2 rfl) ?_
              refine lv_goto (tgt := 53) hx hb dX10_nextStork_49 (by decide) ?_
              refine lv_istore_n (lv' := [(1, .int x2), (0, .ref (ad x0)), (2, .int x2)]) hx hb dX10_nextStork_53 rfl hl (by decide) rfl (fun ls hl => ?_)
              refine lv_iinc (v := (x2 + 1)) (lv' := [(2, .int (x2 + 1)), (1, .int x2), (0, .ref (ad x0))]) hx hb dX10_nextStork_54 hl (k := 2) rfl rfl (by decide) rfl (fun ls hl => ?_)
              refine lv_goto (tgt := 4) hx hb dX10_nextStork_57 (by decide) ?_
              exact ih M17 x0 x2 (x2 + 1) _ _ _ hf hw (lv_sub hl [2, 1, 0] rfl)
def f_X10_nextStork (M : Mem) (x0 : Nat) : Option (Int32 × Mem) := f_X10_nextStork_4 FU M x0 (-1) 0
set_option maxHeartbeats 4000000 in
set_option maxRecDepth 100000 in
theorem c_X10_nextStork (l : Launch) (G : Gd) (A : Nat → Prop) (ad : Nat → Nat) {M : Mem} {x0 : Nat}  {r : Int32} {M' : Mem} (hf : f_X10_nextStork M x0 = some (r, M')) : Ct l yX10_nextStork cX10_nextStork 3 (some .int) rm_X10_nextStork [.ref (ad x0)] G A ad M (QI G A ad r M') 0 0 := by
  refine ct_start (by decide) (Nat.le_of_ble_eq_true rfl) ?_
  intro p e s m args below meth c ls C hin hw hl
  have C : Cx G A p s m args meth c RX10 cX10_nextStork 3 (some .int) := C
  have hl : lv_has ls 3 [(0, .ref (ad x0))] := hl
  obtain ⟨hx, hb, -⟩ := id C
  rw [f_X10_nextStork] at hf
  refine lv_iconst (v := (-1)) hx hb dX10_nextStork_0 (by decide) ?_
  refine lv_istore_n (lv' := [(1, .int (-1)), (0, .ref (ad x0))]) hx hb dX10_nextStork_1 rfl hl (by decide) rfl (fun ls hl => ?_)
  refine lv_iconst (v := 0) hx hb dX10_nextStork_2 (by decide) ?_
  refine lv_istore_n (lv' := [(2, .int 0), (1, .int (-1)), (0, .ref (ad x0))]) hx hb dX10_nextStork_3 rfl hl (by decide) rfl (fun ls hl => ?_)
  exact t_X10_nextStork_4 C FU M x0 (-1) 0 _ _ _ hf hw (lv_sub hl [2, 1, 0] rfl)

/-! StorkVote$Chimney.isOf(I)Z -/
abbrev rm_X0_isOf : Room := { frames := 0, cells := 0, slots := 0, locals := 0 }
def f_X0_isOf_7 : Nat → Mem → Int32 → Int32 → Int32 → Option (Int32 × Mem)
  | 0, _, _, _, _ => none
  | n + 1, M, x1, x2, x3 => (if 6 ≤ x3 then some (0, M) else (if x2 < 0 then some (0, M) else (if 6 ≤ x2 then some (0, M) else (if x2 = x1 then some (1, M) else gd (ib x2 6) (f_X0_isOf_7 n M x1 (kaF.getD x2.toNatClampNeg 0) (x3 + 1))))))
set_option maxHeartbeats 4000000 in
set_option maxRecDepth 100000 in
theorem t_X0_isOf_7 {l : Launch} {p : Program} {e : Env} {s : State} {m : MethodId} {args : Array Value} {below : List Frame} {meth : Method} {c : Code} {G : Gd} {A : Nat → Prop} {ad : Nat → Nat} (C : Cx G A p s m args meth c RX0 cX0_isOf 4 (some .boolean)) {r : Int32} {M' : Mem} : ∀ (n : Nat) (M : Mem) (x1 : Int32) (x2 : Int32) (x3 : Int32) (H : Heap) (locs : List Loc) (ls : Array Slot), f_X0_isOf_7  n M x1 x2 x3 = some (r, M') → Wd G A ad s.heap M H locs → lv_has ls 4 [(1, .int x1), (2, .int x2), (3, .int x3)] → W p l e rm_X0_isOf s m args below meth c H locs 0 0 (MQ below (QI G A ad r M') args s 0 0 A) (F0 m 7 ls []) := by
  obtain ⟨hx, hb, -⟩ := id C
  intro n
  induction n with
  | zero =>
    intro M x1 x2 x3 H locs ls hf
    rw [f_X0_isOf_7] at hf
    exact absurd hf (fun h => nomatch h)
  | succ n ih =>
    intro M x1 x2 x3 H locs ls hf hw hl
    rw [f_X0_isOf_7] at hf
    refine lv_iload_n hx hb dX0_isOf_7 rfl (lv_at hl 2 rfl) ?_
    refine lv_bipush (v := 6) hx hb dX0_isOf_8 (by decide) ?_
    refine lv_icmp_ge (tgt := 42) hx hb dX0_isOf_10 (by decide) (fun hc => ?_) (fun hc => ?_)
    · have hf := if_p hc hf
      refine lv_iconst (v := 0) hx hb dX0_isOf_42 (by decide) ?_
      exact e_zret C hw rfl hf dX0_isOf_43
    · have hf := if_n hc hf
      refine lv_iload_n hx hb dX0_isOf_13 rfl (lv_at hl 1 rfl) ?_
      refine lv_if_lt (tgt := 42) hx hb dX0_isOf_14 (by decide) (fun hc => ?_) (fun hc => ?_)
      · have hf := if_p hc hf
        refine lv_iconst (v := 0) hx hb dX0_isOf_42 (by decide) ?_
        exact e_zret C hw rfl hf dX0_isOf_43
      · have hf := if_n hc hf
        refine lv_iload_n hx hb dX0_isOf_17 rfl (lv_at hl 1 rfl) ?_
        refine lv_bipush (v := 6) hx hb dX0_isOf_18 (by decide) ?_
        refine lv_icmp_ge (tgt := 42) hx hb dX0_isOf_20 (by decide) (fun hc => ?_) (fun hc => ?_)
        · have hf := if_p hc hf
          refine lv_iconst (v := 0) hx hb dX0_isOf_42 (by decide) ?_
          exact e_zret C hw rfl hf dX0_isOf_43
        · have hf := if_n hc hf
          refine lv_iload_n hx hb dX0_isOf_23 rfl (lv_at hl 1 rfl) ?_
          refine lv_iload_n hx hb dX0_isOf_24 rfl (lv_at hl 0 rfl) ?_
          refine lv_icmp_ne (tgt := 30) hx hb dX0_isOf_25 (by decide) (fun hc => ?_) (fun hc => ?_)
          · have hf := if_n hc hf
            refine r_kag C hw fl_X0_28 dX0_isOf_30 ?_
            refine lv_iload_n hx hb dX0_isOf_33 rfl (lv_at hl 1 rfl) ?_
            obtain ⟨hg1, hf⟩ := gd_inv hf
            refine r_kai C hw hg1 dX0_isOf_34 ?_
            refine lv_istore_n (lv' := [(2, .int (kaF.getD x2.toNatClampNeg 0)), (1, .int x1), (3, .int x3)]) hx hb dX0_isOf_35 rfl hl (by decide) rfl (fun ls hl => ?_)
            refine lv_iinc (v := (x3 + 1)) (lv' := [(3, .int (x3 + 1)), (2, .int (kaF.getD x2.toNatClampNeg 0)), (1, .int x1)]) hx hb dX0_isOf_36 hl (k := 2) rfl rfl (by decide) rfl (fun ls hl => ?_)
            refine lv_goto (tgt := 7) hx hb dX0_isOf_39 (by decide) ?_
            exact ih M x1 (kaF.getD x2.toNatClampNeg 0) (x3 + 1) _ _ _ hf hw (lv_sub hl [2, 1, 0] rfl)
          · have hf := if_p hc hf
            refine lv_iconst (v := 1) hx hb dX0_isOf_28 (by decide) ?_
            exact e_zret C hw rfl hf dX0_isOf_29
def f_X0_isOf (M : Mem) (x0 : Nat) (x1 : Int32) : Option (Int32 × Mem) := gt (mT M x0) 1 (f_X0_isOf_7 FU M x1 (mI M x0 0) 0)
set_option maxHeartbeats 4000000 in
set_option maxRecDepth 100000 in
theorem c_X0_isOf (l : Launch) (G : Gd) (A : Nat → Prop) (ad : Nat → Nat) {M : Mem} {x0 : Nat} {x1 : Int32}  {r : Int32} {M' : Mem} (hf : f_X0_isOf M x0 x1 = some (r, M')) : Ct l yX0_isOf cX0_isOf 4 (some .boolean) rm_X0_isOf [.ref (ad x0), .int x1] G A ad M (QI G A ad r M') 0 0 := by
  refine ct_start (by decide) (Nat.le_of_ble_eq_true rfl) ?_
  intro p e s m args below meth c ls C hin hw hl
  have C : Cx G A p s m args meth c RX0 cX0_isOf 4 (some .boolean) := C
  have hl : lv_has ls 4 [(0, .ref (ad x0)), (1, .int x1)] := hl
  obtain ⟨hx, hb, -⟩ := id C
  rw [f_X0_isOf] at hf
  refine lv_aload_n hx hb dX0_isOf_0 rfl (lv_at hl 0 rfl) ?_
  obtain ⟨hT1, hf⟩ := gt_inv hf
  refine r_getI C hw cf0 0 (by decide) rfl hT1 fl_X0_9 dX0_isOf_1 ?_
  refine lv_istore_n (lv' := [(2, .int (mI M x0 0)), (0, .ref (ad x0)), (1, .int x1)]) hx hb dX0_isOf_4 rfl hl (by decide) rfl (fun ls hl => ?_)
  refine lv_iconst (v := 0) hx hb dX0_isOf_5 (by decide) ?_
  refine lv_istore_n (lv' := [(3, .int 0), (2, .int (mI M x0 0)), (0, .ref (ad x0)), (1, .int x1)]) hx hb dX0_isOf_6 rfl hl (by decide) rfl (fun ls hl => ?_)
  exact t_X0_isOf_7 C FU M x1 (mI M x0 0) 0 _ _ _ hf hw (lv_sub hl [3, 1, 0] rfl)

/-! StorkVoteModel.comes(IIII)I -/
abbrev rm_X10_comes : Room := { frames := 0, cells := 0, slots := 0, locals := 0 }
def f_X10_comes (M : Mem) (x0 : Nat) (x1 : Int32) (x2 : Int32) (x3 : Int32) (x4 : Int32) : Option (Int32 × Mem) := gt (mT M x0) 11 (lp (mP M x0 0) (fun a2 => gt (mT M a2) 20 (gd (ib 1 (mL M a2)) (gd (ib (38 + (4 * (mI M a2 (1 : Int32).toNatClampNeg))) (mL M a2)) (st (setI M a2 (38 + (4 * (mI M a2 (1 : Int32).toNatClampNeg))).toNatClampNeg x1) (fun M7 => gd (ib ((38 + (4 * (mI M a2 (1 : Int32).toNatClampNeg))) + 1) (mL M7 a2)) (st (setI M7 a2 ((38 + (4 * (mI M a2 (1 : Int32).toNatClampNeg))) + 1).toNatClampNeg x2) (fun M11 => gd (ib ((38 + (4 * (mI M a2 (1 : Int32).toNatClampNeg))) + 2) (mL M11 a2)) (st (setI M11 a2 ((38 + (4 * (mI M a2 (1 : Int32).toNatClampNeg))) + 2).toNatClampNeg x3) (fun M15 => gd (ib ((38 + (4 * (mI M a2 (1 : Int32).toNatClampNeg))) + 3) (mL M15 a2)) (st (setI M15 a2 ((38 + (4 * (mI M a2 (1 : Int32).toNatClampNeg))) + 3).toNatClampNeg x4) (fun M19 => gd (ib 1 (mL M19 a2)) (gd (ib 1 (mL M19 a2)) (st (setI M19 a2 (1 : Int32).toNatClampNeg ((mI M19 a2 (1 : Int32).toNatClampNeg) + 1)) (fun M24 => gd (ib 1 (mL M24 a2)) (some (((mI M24 a2 (1 : Int32).toNatClampNeg) - 1), M24)))))))))))))))))
set_option maxHeartbeats 4000000 in
set_option maxRecDepth 100000 in
theorem c_X10_comes (l : Launch) (G : Gd) (A : Nat → Prop) (ad : Nat → Nat) {M : Mem} {x0 : Nat} {x1 : Int32} {x2 : Int32} {x3 : Int32} {x4 : Int32}  {r : Int32} {M' : Mem} (hf : f_X10_comes M x0 x1 x2 x3 x4 = some (r, M')) : Ct l yX10_comes cX10_comes 6 (some .int) rm_X10_comes [.ref (ad x0), .int x1, .int x2, .int x3, .int x4] G A ad M (QI G A ad r M') 0 0 := by
  refine ct_start (by decide) (Nat.le_of_ble_eq_true rfl) ?_
  intro p e s m args below meth c ls C hin hw hl
  have C : Cx G A p s m args meth c RX10 cX10_comes 6 (some .int) := C
  have hl : lv_has ls 6 [(0, .ref (ad x0)), (1, .int x1), (2, .int x2), (3, .int x3), (4, .int x4)] := hl
  obtain ⟨hx, hb, -⟩ := id C
  rw [f_X10_comes] at hf
  refine lv_bipush (v := 38) hx hb dX10_comes_0 (by decide) ?_
  refine lv_iconst (v := 4) hx hb dX10_comes_2 (by decide) ?_
  refine lv_aload_n hx hb dX10_comes_3 rfl (lv_at hl 0 rfl) ?_
  obtain ⟨hT1, hf⟩ := gt_inv hf
  obtain ⟨a2, hP3, hf⟩ := lp_inv hf
  refine r_getP C hw cf10 0 (by decide) rfl hT1 hP3 fl_X10_9 dX10_comes_4 ?_
  refine lv_iconst (v := 1) hx hb dX10_comes_7 (by decide) ?_
  obtain ⟨hT4, hf⟩ := gt_inv hf
  obtain ⟨hg5, hf⟩ := gd_inv hf
  refine r_iald C hw hT4 hg5 dX10_comes_8 ?_
  refine lv_imul hx hb dX10_comes_9 ?_
  refine lv_iadd hx hb dX10_comes_10 ?_
  refine lv_istore (lv' := [(5, .int (38 + (4 * (mI M a2 (1 : Int32).toNatClampNeg)))), (0, .ref (ad x0)), (1, .int x1), (2, .int x2), (3, .int x3), (4, .int x4)]) hx hb dX10_comes_11 hl (by decide) rfl (fun ls hl => ?_)
  refine lv_aload_n hx hb dX10_comes_13 rfl (lv_at hl 1 rfl) ?_
  refine r_getP C hw cf10 0 (by decide) rfl hT1 hP3 fl_X10_9 dX10_comes_14 ?_
  refine lv_iload hx hb dX10_comes_17 (lv_at hl 0 rfl) ?_
  refine lv_iload_n hx hb dX10_comes_19 rfl (lv_at hl 2 rfl) ?_
  obtain ⟨hg6, hf⟩ := gd_inv hf
  obtain ⟨M7, e8, hf⟩ := st_inv hf
  have g9 : M7.2.2 = M.2.2 := congrArg (fun z : Mem => z.2.2) e8
  refine r_iast C hw hT4 hg6 e8 dX10_comes_20 (fun H locs hw => ?_)
  refine lv_aload_n hx hb dX10_comes_21 rfl (lv_at hl 1 rfl) ?_
  refine r_getP C hw cf10 0 (by decide) rfl (T_of g9 hT1) (P_of g9 hP3) fl_X10_9 dX10_comes_22 ?_
  refine lv_iload hx hb dX10_comes_25 (lv_at hl 0 rfl) ?_
  refine lv_iconst (v := 1) hx hb dX10_comes_27 (by decide) ?_
  refine lv_iadd hx hb dX10_comes_28 ?_
  refine lv_iload_n hx hb dX10_comes_29 rfl (lv_at hl 3 rfl) ?_
  obtain ⟨hg10, hf⟩ := gd_inv hf
  obtain ⟨M11, e12, hf⟩ := st_inv hf
  have g13 : M11.2.2 = M7.2.2 := congrArg (fun z : Mem => z.2.2) e12
  refine r_iast C hw (T_of g9 hT4) hg10 e12 dX10_comes_30 (fun H locs hw => ?_)
  refine lv_aload_n hx hb dX10_comes_31 rfl (lv_at hl 1 rfl) ?_
  refine r_getP C hw cf10 0 (by decide) rfl (T_of g13 (T_of g9 hT1)) (P_of g13 (P_of g9 hP3)) fl_X10_9 dX10_comes_32 ?_
  refine lv_iload hx hb dX10_comes_35 (lv_at hl 0 rfl) ?_
  refine lv_iconst (v := 2) hx hb dX10_comes_37 (by decide) ?_
  refine lv_iadd hx hb dX10_comes_38 ?_
  refine lv_iload_n hx hb dX10_comes_39 rfl (lv_at hl 4 rfl) ?_
  obtain ⟨hg14, hf⟩ := gd_inv hf
  obtain ⟨M15, e16, hf⟩ := st_inv hf
  have g17 : M15.2.2 = M11.2.2 := congrArg (fun z : Mem => z.2.2) e16
  refine r_iast C hw (T_of g13 (T_of g9 hT4)) hg14 e16 dX10_comes_40 (fun H locs hw => ?_)
  refine lv_aload_n hx hb dX10_comes_41 rfl (lv_at hl 1 rfl) ?_
  refine r_getP C hw cf10 0 (by decide) rfl (T_of g17 (T_of g13 (T_of g9 hT1))) (P_of g17 (P_of g13 (P_of g9 hP3))) fl_X10_9 dX10_comes_42 ?_
  refine lv_iload hx hb dX10_comes_45 (lv_at hl 0 rfl) ?_
  refine lv_iconst (v := 3) hx hb dX10_comes_47 (by decide) ?_
  refine lv_iadd hx hb dX10_comes_48 ?_
  refine lv_iload hx hb dX10_comes_49 (lv_at hl 5 rfl) ?_
  obtain ⟨hg18, hf⟩ := gd_inv hf
  obtain ⟨M19, e20, hf⟩ := st_inv hf
  have g21 : M19.2.2 = M15.2.2 := congrArg (fun z : Mem => z.2.2) e20
  refine r_iast C hw (T_of g17 (T_of g13 (T_of g9 hT4))) hg18 e20 dX10_comes_51 (fun H locs hw => ?_)
  refine lv_aload_n hx hb dX10_comes_52 rfl (lv_at hl 1 rfl) ?_
  refine r_getP C hw cf10 0 (by decide) rfl (T_of g21 (T_of g17 (T_of g13 (T_of g9 hT1)))) (P_of g21 (P_of g17 (P_of g13 (P_of g9 hP3)))) fl_X10_9 dX10_comes_53 ?_
  refine lv_iconst (v := 1) hx hb dX10_comes_56 (by decide) ?_
  refine lv_dup2_11 hx hb dX10_comes_57 rfl rfl ?_
  obtain ⟨hg22, hf⟩ := gd_inv hf
  refine r_iald C hw (T_of g21 (T_of g17 (T_of g13 (T_of g9 hT4)))) hg22 dX10_comes_58 ?_
  refine lv_iconst (v := 1) hx hb dX10_comes_59 (by decide) ?_
  refine lv_iadd hx hb dX10_comes_60 ?_
  obtain ⟨hg23, hf⟩ := gd_inv hf
  obtain ⟨M24, e25, hf⟩ := st_inv hf
  have g26 : M24.2.2 = M19.2.2 := congrArg (fun z : Mem => z.2.2) e25
  refine r_iast C hw (T_of g21 (T_of g17 (T_of g13 (T_of g9 hT4)))) hg23 e25 dX10_comes_61 (fun H locs hw => ?_)
  refine lv_aload_n hx hb dX10_comes_62 rfl (lv_at hl 1 rfl) ?_
  refine r_getP C hw cf10 0 (by decide) rfl (T_of g26 (T_of g21 (T_of g17 (T_of g13 (T_of g9 hT1))))) (P_of g26 (P_of g21 (P_of g17 (P_of g13 (P_of g9 hP3))))) fl_X10_9 dX10_comes_63 ?_
  refine lv_iconst (v := 1) hx hb dX10_comes_66 (by decide) ?_
  obtain ⟨hg27, hf⟩ := gd_inv hf
  refine r_iald C hw (T_of g26 (T_of g21 (T_of g17 (T_of g13 (T_of g9 hT4))))) hg27 dX10_comes_67 ?_
  refine lv_iconst (v := 1) hx hb dX10_comes_68 (by decide) ?_
  refine lv_isub hx hb dX10_comes_69 ?_
  exact e_iret C hw hf dX10_comes_70

/-! StorkVote$Chimney.worth()I -/
abbrev rm_X0_worth : Room := { frames := 0, cells := 0, slots := 0, locals := 0 }
def f_X0_worth (M : Mem) (x0 : Nat) : Option (Int32 × Mem) := gt (mT M x0) 1 ((if (mI M x0 0) = 1 then some (((mI M x0 2) + (mI M x0 3)), M) else if (mI M x0 0) = 2 then some ((99 - (mI M x0 2)), M) else if (mI M x0 0) = 3 then some ((2 * ((mI M x0 2) + (mI M x0 3))), M) else if (mI M x0 0) = 4 then some (((99 - (mI M x0 2)) - 7), M) else if (mI M x0 0) = 5 then some (2, M) else some ((mI M x0 2), M)))
set_option maxHeartbeats 4000000 in
set_option maxRecDepth 100000 in
theorem c_X0_worth (l : Launch) (G : Gd) (A : Nat → Prop) (ad : Nat → Nat) {M : Mem} {x0 : Nat}  {r : Int32} {M' : Mem} (hf : f_X0_worth M x0 = some (r, M')) : Ct l yX0_worth cX0_worth 3 (some .int) rm_X0_worth [.ref (ad x0)] G A ad M (QI G A ad r M') 0 0 := by
  refine ct_start (by decide) (Nat.le_of_ble_eq_true rfl) ?_
  intro p e s m args below meth c ls C hin hw hl
  have C : Cx G A p s m args meth c RX0 cX0_worth 3 (some .int) := C
  have hl : lv_has ls 3 [(0, .ref (ad x0))] := hl
  obtain ⟨hx, hb, -⟩ := id C
  rw [f_X0_worth] at hf
  refine lv_aload_n hx hb dX0_worth_0 rfl (lv_at hl 0 rfl) ?_
  obtain ⟨hT1, hf⟩ := gt_inv hf
  refine r_getI C hw cf0 2 (by decide) rfl hT1 fl_X0_18 dX0_worth_1 ?_
  refine lv_aload_n hx hb dX0_worth_4 rfl (lv_at hl 0 rfl) ?_
  refine r_getI C hw cf0 3 (by decide) rfl hT1 fl_X0_21 dX0_worth_5 ?_
  refine lv_iadd hx hb dX0_worth_8 ?_
  refine lv_istore_n (lv' := [(1, .int ((mI M x0 2) + (mI M x0 3))), (0, .ref (ad x0))]) hx hb dX0_worth_9 rfl hl (by decide) rfl (fun ls hl => ?_)
  refine lv_bipush (v := 99) hx hb dX0_worth_10 (by decide) ?_
  refine lv_aload_n hx hb dX0_worth_12 rfl (lv_at hl 1 rfl) ?_
  refine r_getI C hw cf0 2 (by decide) rfl hT1 fl_X0_18 dX0_worth_13 ?_
  refine lv_isub hx hb dX0_worth_16 ?_
  refine lv_istore_n (lv' := [(2, .int (99 - (mI M x0 2))), (1, .int ((mI M x0 2) + (mI M x0 3))), (0, .ref (ad x0))]) hx hb dX0_worth_17 rfl hl (by decide) rfl (fun ls hl => ?_)
  refine lv_aload_n hx hb dX0_worth_18 rfl (lv_at hl 2 rfl) ?_
  refine r_getI C hw cf0 0 (by decide) rfl hT1 fl_X0_9 dX0_worth_19 ?_
  by_cases hc2 : (mI M x0 0) = 1
  · have hf := if_p hc2 hf
    refine r_tabIn 1 hc2 hx hb dX0_worth_22 (by decide) (by decide) rfl (tgt := 56) (by decide) ?_
    refine lv_iload_n hx hb dX0_worth_56 rfl (lv_at hl 1 rfl) ?_
    exact e_iret C hw hf dX0_worth_57
  · have hf := if_n hc2 hf
    by_cases hc3 : (mI M x0 0) = 2
    · have hf := if_p hc3 hf
      refine r_tabIn 2 hc3 hx hb dX0_worth_22 (by decide) (by decide) rfl (tgt := 62) (by decide) ?_
      refine lv_iload_n hx hb dX0_worth_62 rfl (lv_at hl 0 rfl) ?_
      exact e_iret C hw hf dX0_worth_63
    · have hf := if_n hc3 hf
      by_cases hc4 : (mI M x0 0) = 3
      · have hf := if_p hc4 hf
        refine r_tabIn 3 hc4 hx hb dX0_worth_22 (by decide) (by decide) rfl (tgt := 58) (by decide) ?_
        refine lv_iconst (v := 2) hx hb dX0_worth_58 (by decide) ?_
        refine lv_iload_n hx hb dX0_worth_59 rfl (lv_at hl 1 rfl) ?_
        refine lv_imul hx hb dX0_worth_60 ?_
        exact e_iret C hw hf dX0_worth_61
      · have hf := if_n hc4 hf
        by_cases hc5 : (mI M x0 0) = 4
        · have hf := if_p hc5 hf
          refine r_tabIn 4 hc5 hx hb dX0_worth_22 (by decide) (by decide) rfl (tgt := 64) (by decide) ?_
          refine lv_iload_n hx hb dX0_worth_64 rfl (lv_at hl 0 rfl) ?_
          refine lv_bipush (v := 7) hx hb dX0_worth_65 (by decide) ?_
          refine lv_isub hx hb dX0_worth_67 ?_
          exact e_iret C hw hf dX0_worth_68
        · have hf := if_n hc5 hf
          by_cases hc6 : (mI M x0 0) = 5
          · have hf := if_p hc6 hf
            refine r_tabIn 5 hc6 hx hb dX0_worth_22 (by decide) (by decide) rfl (tgt := 69) (by decide) ?_
            refine lv_iconst (v := 2) hx hb dX0_worth_69 (by decide) ?_
            exact e_iret C hw hf dX0_worth_70
          · have hf := if_n hc6 hf
            refine r_tabOut hx hb dX0_worth_22 (by have n0 := sw_nei (k := 1) (by decide) hc2; have n1 := sw_nei (k := 2) (by decide) hc3; have n2 := sw_nei (k := 3) (by decide) hc4; have n3 := sw_nei (k := 4) (by decide) hc5; have n4 := sw_nei (k := 5) (by decide) hc6; omega) (tgt := 71) (by decide) ?_
            refine lv_aload_n hx hb dX0_worth_71 rfl (lv_at hl 2 rfl) ?_
            refine r_getI C hw cf0 2 (by decide) rfl hT1 fl_X0_18 dX0_worth_72 ?_
            exact e_iret C hw hf dX0_worth_75

