/-! StorkVote$Spring.nestsIn(LStorkVote$World;I)I -/
abbrev rm_X4_nestsIn : Room := { frames := 1, cells := 0, slots := 0, locals := 20 }
def f_X4_nestsIn_46 (K5 : Mem → Nat → Nat → Int32 → Int32 → Int32 → Option (Int32 × Mem)) (M : Mem) (x0 : Nat) (x1 : Nat) (x2 : Int32) (x4 : Int32) (s0 : Int32) (s1 : Int32) : Option (Int32 × Mem) := cl (f_X9_bit M s1) (fun r2 M1 => K5 M1 x0 x1 x2 (s0 + r2) (x4 + 1))
set_option maxHeartbeats 4000000 in
set_option maxRecDepth 100000 in
theorem t_X4_nestsIn_46 {l : Launch} {p : Program} {e : Env} {s : State} {m : MethodId} {args : Array Value} {below : List Frame} {meth : Method} {c : Code} {G : Gd} {A : Nat → Prop} {ad : Nat → Nat} (C : Cx G A p s m args meth c RX4 cX4_nestsIn 5 (some .int)) {r : Int32} {M' : Mem} {K5 : Mem → Nat → Nat → Int32 → Int32 → Int32 → Option (Int32 × Mem)} (hK5 : ∀ (M : Mem) (x0 : Nat) (x1 : Nat) (x2 : Int32) (x3 : Int32) (x4 : Int32) (H : Heap) (locs : List Loc) (ls : Array Slot), K5 M x0 x1 x2 x3 x4 = some (r, M') → Wd G A ad s.heap M H locs → lv_has ls 5 [(0, .ref (ad x0)), (1, .ref (ad x1)), (2, .int x2), (3, .int x3), (4, .int x4)] → W p l e rm_X4_nestsIn s m args below meth c H locs 0 0 (MQ below (QI G A ad r M') args s 0 0 A) (F0 m 5 ls [])) : ∀ (M : Mem) (x0 : Nat) (x1 : Nat) (x2 : Int32) (x4 : Int32) (s0 : Int32) (s1 : Int32) (H : Heap) (locs : List Loc) (ls : Array Slot), f_X4_nestsIn_46 K5 M x0 x1 x2 x4 s0 s1 = some (r, M') → Wd G A ad s.heap M H locs → lv_has ls 5 [(0, .ref (ad x0)), (1, .ref (ad x1)), (2, .int x2), (4, .int x4)] → W p l e rm_X4_nestsIn s m args below meth c H locs 0 0 (MQ below (QI G A ad r M') args s 0 0 A) (F0 m 46 ls [.int s1, .int s0]) := by
  obtain ⟨hx, hb, -⟩ := id C
  intro M x0 x1 x2 x4 s0 s1 H locs ls hf hw hl
  rw [f_X4_nestsIn_46] at hf
  obtain ⟨r2, M1, hc3, hf⟩ := cl_inv hf
  refine fin_I (run_S C hw mf_X9_bit ms_X9_bit ml_X4_96 (c_X9_bit l G A ad hc3) (As := [.int s1]) (rest := [.int s0]) hl.1 rfl rfl (Nat.le_of_ble_eq_true rfl) ⟨rfl, rfl, Nat.le_of_ble_eq_true rfl, Nat.le_of_ble_eq_true rfl⟩ ⟨Nat.zero_le _, Nat.zero_le _⟩ dX4_nestsIn_46) hw (fun H locs hw => ?_)
  refine lv_iadd hx hb dX4_nestsIn_49 ?_
  refine lv_istore_n (lv' := [(3, .int (s0 + r2)), (0, .ref (ad x0)), (1, .ref (ad x1)), (2, .int x2), (4, .int x4)]) hx hb dX4_nestsIn_50 rfl hl (by decide) rfl (fun ls hl => ?_)
  refine lv_iinc (v := (x4 + 1)) (lv' := [(4, .int (x4 + 1)), (3, .int (s0 + r2)), (0, .ref (ad x0)), (1, .ref (ad x1)), (2, .int x2)]) hx hb dX4_nestsIn_51 hl (k := 4) rfl rfl (by decide) rfl (fun ls hl => ?_)
  refine lv_goto (tgt := 5) hx hb dX4_nestsIn_54 (by decide) ?_
  exact hK5 M1 x0 x1 x2 (s0 + r2) (x4 + 1) _ _ _ hf hw (lv_sub hl [2, 3, 4, 1, 0] rfl)
def f_X4_nestsIn_5 : Nat → Mem → Nat → Nat → Int32 → Int32 → Int32 → Option (Int32 × Mem)
  | 0, _, _, _, _, _, _ => none
  | n + 1, M, x0, x1, x2, x3, x4 => gt (mT M x1) 9 ((if (mI M x1 1) ≤ x4 then some (x3, M) else gt (mT M x0) 5 (lp (mP M x0 1) (fun a3 => gt (mT M a3) 20 (gd (ib x4 (mL M a3)) ((if (mI M a3 x4.toNatClampNeg) = (-1000000005) then f_X4_nestsIn_46 (f_X4_nestsIn_5 n) M x0 x1 x2 x4 x3 0 else lp (mP M x1 0) (fun a7 => gt (mT M a7) 23 (gd (ib x4 (mL M a7)) (lp (mP M a7 x4.toNatClampNeg) (fun a11 => gt (mT M a11) 1 ((if (mI M a11 1) = x2 then f_X4_nestsIn_46 (f_X4_nestsIn_5 n) M x0 x1 x2 x4 x3 1 else f_X4_nestsIn_46 (f_X4_nestsIn_5 n) M x0 x1 x2 x4 x3 0)))))))))))))
set_option maxHeartbeats 4000000 in
set_option maxRecDepth 100000 in
theorem t_X4_nestsIn_5 {l : Launch} {p : Program} {e : Env} {s : State} {m : MethodId} {args : Array Value} {below : List Frame} {meth : Method} {c : Code} {G : Gd} {A : Nat → Prop} {ad : Nat → Nat} (C : Cx G A p s m args meth c RX4 cX4_nestsIn 5 (some .int)) {r : Int32} {M' : Mem} : ∀ (n : Nat) (M : Mem) (x0 : Nat) (x1 : Nat) (x2 : Int32) (x3 : Int32) (x4 : Int32) (H : Heap) (locs : List Loc) (ls : Array Slot), f_X4_nestsIn_5  n M x0 x1 x2 x3 x4 = some (r, M') → Wd G A ad s.heap M H locs → lv_has ls 5 [(0, .ref (ad x0)), (1, .ref (ad x1)), (2, .int x2), (3, .int x3), (4, .int x4)] → W p l e rm_X4_nestsIn s m args below meth c H locs 0 0 (MQ below (QI G A ad r M') args s 0 0 A) (F0 m 5 ls []) := by
  obtain ⟨hx, hb, -⟩ := id C
  intro n
  induction n with
  | zero =>
    intro M x0 x1 x2 x3 x4 H locs ls hf
    rw [f_X4_nestsIn_5] at hf
    exact absurd hf (fun h => nomatch h)
  | succ n ih =>
    intro M x0 x1 x2 x3 x4 H locs ls hf hw hl
    rw [f_X4_nestsIn_5] at hf
    refine lv_iload hx hb dX4_nestsIn_5 (lv_at hl 4 rfl) ?_
    refine lv_aload_n hx hb dX4_nestsIn_7 rfl (lv_at hl 1 rfl) ?_
    obtain ⟨hT1, hf⟩ := gt_inv hf
    refine r_getI C hw cf8 1 (by decide) rfl hT1 fl_X4_24 dX4_nestsIn_8 ?_
    refine lv_icmp_ge (tgt := 57) hx hb dX4_nestsIn_11 (by decide) (fun hc => ?_) (fun hc => ?_)
    · have hf := if_p hc hf
      refine lv_iload_n hx hb dX4_nestsIn_57 rfl (lv_at hl 3 rfl) ?_
      exact e_iret C hw hf dX4_nestsIn_58
    · have hf := if_n hc hf
      refine lv_iload_n hx hb dX4_nestsIn_14 rfl (lv_at hl 3 rfl) ?_
      refine lv_aload_n hx hb dX4_nestsIn_15 rfl (lv_at hl 0 rfl) ?_
      obtain ⟨hT2, hf⟩ := gt_inv hf
      obtain ⟨a3, hP4, hf⟩ := lp_inv hf
      refine r_getP C hw cf4 1 (by decide) rfl hT2 hP4 fl_X4_15 dX4_nestsIn_16 ?_
      refine lv_iload hx hb dX4_nestsIn_19 (lv_at hl 4 rfl) ?_
      obtain ⟨hT5, hf⟩ := gt_inv hf
      obtain ⟨hg6, hf⟩ := gd_inv hf
      refine r_iald C hw hT5 hg6 dX4_nestsIn_21 ?_
      refine lv_ldc hx hb C.2.2.2.1 (C.2.2.2.2.1 _ kc_X4_54) dX4_nestsIn_22 ?_
      refine lv_icmp_eq (tgt := 45) hx hb dX4_nestsIn_24 (by decide) (fun hc => ?_) (fun hc => ?_)
      · have hf := if_p hc hf
        refine lv_iconst (v := 0) hx hb dX4_nestsIn_45 (by decide) ?_
        exact t_X4_nestsIn_46 C ih M x0 x1 x2 x4 x3 0 _ _ _ hf hw (lv_sub hl [0, 1, 2, 4] rfl)
      · have hf := if_n hc hf
        refine lv_aload_n hx hb dX4_nestsIn_27 rfl (lv_at hl 1 rfl) ?_
        obtain ⟨a7, hP8, hf⟩ := lp_inv hf
        refine r_getP C hw cf8 0 (by decide) rfl hT1 hP8 fl_X4_87 dX4_nestsIn_28 ?_
        refine lv_iload hx hb dX4_nestsIn_31 (lv_at hl 4 rfl) ?_
        obtain ⟨hT9, hf⟩ := gt_inv hf
        obtain ⟨hg10, hf⟩ := gd_inv hf
        obtain ⟨a11, hP12, hf⟩ := lp_inv hf
        refine r_aald C hw 3 rfl (by decide) (by decide) hT9 hg10 hP12 dX4_nestsIn_33 ?_
        obtain ⟨hT13, hf⟩ := gt_inv hf
        refine r_getI C hw cf0 1 (by decide) rfl hT13 fl_X4_91 dX4_nestsIn_34 ?_
        refine lv_iload_n hx hb dX4_nestsIn_37 rfl (lv_at hl 2 rfl) ?_
        refine lv_icmp_ne (tgt := 45) hx hb dX4_nestsIn_38 (by decide) (fun hc => ?_) (fun hc => ?_)
        · have hf := if_n hc hf
          refine lv_iconst (v := 0) hx hb dX4_nestsIn_45 (by decide) ?_
          exact t_X4_nestsIn_46 C ih M x0 x1 x2 x4 x3 0 _ _ _ hf hw (lv_sub hl [0, 1, 2, 4] rfl)
        · have hf := if_p hc hf
          refine lv_iconst (v := 1) hx hb dX4_nestsIn_41 (by decide) ?_
          refine lv_goto (tgt := 46) hx hb dX4_nestsIn_42 (by decide) ?_
          exact t_X4_nestsIn_46 C ih M x0 x1 x2 x4 x3 1 _ _ _ hf hw (lv_sub hl [0, 1, 2, 4] rfl)
def f_X4_nestsIn (M : Mem) (x0 : Nat) (x1 : Nat) (x2 : Int32) : Option (Int32 × Mem) := f_X4_nestsIn_5 FU M x0 x1 x2 0 0
set_option maxHeartbeats 4000000 in
set_option maxRecDepth 100000 in
theorem c_X4_nestsIn (l : Launch) (G : Gd) (A : Nat → Prop) (ad : Nat → Nat) {M : Mem} {x0 : Nat} {x1 : Nat} {x2 : Int32}  {r : Int32} {M' : Mem} (hf : f_X4_nestsIn M x0 x1 x2 = some (r, M')) : Ct l yX4_nestsIn cX4_nestsIn 5 (some .int) rm_X4_nestsIn [.ref (ad x0), .ref (ad x1), .int x2] G A ad M (QI G A ad r M') 0 0 := by
  refine ct_start (by decide) (Nat.le_of_ble_eq_true rfl) ?_
  intro p e s m args below meth c ls C hin hw hl
  have C : Cx G A p s m args meth c RX4 cX4_nestsIn 5 (some .int) := C
  have hl : lv_has ls 5 [(0, .ref (ad x0)), (1, .ref (ad x1)), (2, .int x2)] := hl
  obtain ⟨hx, hb, -⟩ := id C
  rw [f_X4_nestsIn] at hf
  refine lv_iconst (v := 0) hx hb dX4_nestsIn_0 (by decide) ?_
  refine lv_istore_n (lv' := [(3, .int 0), (0, .ref (ad x0)), (1, .ref (ad x1)), (2, .int x2)]) hx hb dX4_nestsIn_1 rfl hl (by decide) rfl (fun ls hl => ?_)
  refine lv_iconst (v := 0) hx hb dX4_nestsIn_2 (by decide) ?_
  refine lv_istore (lv' := [(4, .int 0), (3, .int 0), (0, .ref (ad x0)), (1, .ref (ad x1)), (2, .int x2)]) hx hb dX4_nestsIn_3 hl (by decide) rfl (fun ls hl => ?_)
  exact t_X4_nestsIn_5 C FU M x0 x1 x2 0 0 _ _ _ hf hw (lv_sub hl [2, 3, 4, 1, 0] rfl)
/-! StorkVote$Spring.allNests(LStorkVote$World;)I -/
abbrev rm_X4_allNests : Room := { frames := 2, cells := 0, slots := 0, locals := 44 }
def f_X4_allNests_4 : Nat → Mem → Nat → Nat → Int32 → Int32 → Option (Int32 × Mem)
  | 0, _, _, _, _, _ => none
  | n + 1, M, x0, x1, x2, x3 => (if 4 ≤ x3 then some (x2, M) else gt (mT M x0) 5 (cl (f_X4_nestsIn M x0 x1 x3) (fun r2 M1 => f_X4_allNests_4 n M1 x0 x1 (x2 + r2) (x3 + 1))))
set_option maxHeartbeats 4000000 in
set_option maxRecDepth 100000 in
theorem t_X4_allNests_4 {l : Launch} {p : Program} {e : Env} {s : State} {m : MethodId} {args : Array Value} {below : List Frame} {meth : Method} {c : Code} {G : Gd} {A : Nat → Prop} {ad : Nat → Nat} (C : Cx G A p s m args meth c RX4 cX4_allNests 4 (some .int)) {r : Int32} {M' : Mem} : ∀ (n : Nat) (M : Mem) (x0 : Nat) (x1 : Nat) (x2 : Int32) (x3 : Int32) (H : Heap) (locs : List Loc) (ls : Array Slot), f_X4_allNests_4  n M x0 x1 x2 x3 = some (r, M') → Wd G A ad s.heap M H locs → lv_has ls 4 [(0, .ref (ad x0)), (1, .ref (ad x1)), (2, .int x2), (3, .int x3)] → W p l e rm_X4_allNests s m args below meth c H locs 0 0 (MQ below (QI G A ad r M') args s 0 0 A) (F0 m 4 ls []) := by
  obtain ⟨hx, hb, -⟩ := id C
  intro n
  induction n with
  | zero =>
    intro M x0 x1 x2 x3 H locs ls hf
    rw [f_X4_allNests_4] at hf
    exact absurd hf (fun h => nomatch h)
  | succ n ih =>
    intro M x0 x1 x2 x3 H locs ls hf hw hl
    rw [f_X4_allNests_4] at hf
    refine lv_iload_n hx hb dX4_allNests_4 rfl (lv_at hl 3 rfl) ?_
    refine lv_iconst (v := 4) hx hb dX4_allNests_5 (by decide) ?_
    refine lv_icmp_ge (tgt := 24) hx hb dX4_allNests_6 (by decide) (fun hc => ?_) (fun hc => ?_)
    · have hf := if_p hc hf
      refine lv_iload_n hx hb dX4_allNests_24 rfl (lv_at hl 2 rfl) ?_
      exact e_iret C hw hf dX4_allNests_25
    · have hf := if_n hc hf
      refine lv_iload_n hx hb dX4_allNests_9 rfl (lv_at hl 2 rfl) ?_
      refine lv_aload_n hx hb dX4_allNests_10 rfl (lv_at hl 0 rfl) ?_
      refine lv_aload_n hx hb dX4_allNests_11 rfl (lv_at hl 1 rfl) ?_
      refine lv_iload_n hx hb dX4_allNests_12 rfl (lv_at hl 3 rfl) ?_
      obtain ⟨hT4, hf⟩ := gt_inv hf
      obtain ⟨r2, M1, hc3, hf⟩ := cl_inv hf
      refine fin_I (run_V C hw mf_X4_nestsIn mv_X4_nestsIn ml_X4_100 cf4 hT4 (c_X4_nestsIn l G A ad hc3) (As := [.ref (ad x1), .int x3]) (rest := [.int x2]) hl.1 rfl rfl (Nat.le_of_ble_eq_true rfl) ⟨rfl, rfl, Nat.le_of_ble_eq_true rfl, Nat.le_of_ble_eq_true rfl⟩ ⟨Nat.zero_le _, Nat.zero_le _⟩ dX4_allNests_13) hw (fun H locs hw => ?_)
      refine lv_iadd hx hb dX4_allNests_16 ?_
      refine lv_istore_n (lv' := [(2, .int (x2 + r2)), (0, .ref (ad x0)), (1, .ref (ad x1)), (3, .int x3)]) hx hb dX4_allNests_17 rfl hl (by decide) rfl (fun ls hl => ?_)
      refine lv_iinc (v := (x3 + 1)) (lv' := [(3, .int (x3 + 1)), (2, .int (x2 + r2)), (0, .ref (ad x0)), (1, .ref (ad x1))]) hx hb dX4_allNests_18 hl (k := 3) rfl rfl (by decide) rfl (fun ls hl => ?_)
      refine lv_goto (tgt := 4) hx hb dX4_allNests_21 (by decide) ?_
      exact ih M1 x0 x1 (x2 + r2) (x3 + 1) _ _ _ hf hw (lv_sub hl [2, 3, 1, 0] rfl)
def f_X4_allNests (M : Mem) (x0 : Nat) (x1 : Nat) : Option (Int32 × Mem) := f_X4_allNests_4 FU M x0 x1 0 0
set_option maxHeartbeats 4000000 in
set_option maxRecDepth 100000 in
theorem c_X4_allNests (l : Launch) (G : Gd) (A : Nat → Prop) (ad : Nat → Nat) {M : Mem} {x0 : Nat} {x1 : Nat}  {r : Int32} {M' : Mem} (hf : f_X4_allNests M x0 x1 = some (r, M')) : Ct l yX4_allNests cX4_allNests 4 (some .int) rm_X4_allNests [.ref (ad x0), .ref (ad x1)] G A ad M (QI G A ad r M') 0 0 := by
  refine ct_start (by decide) (Nat.le_of_ble_eq_true rfl) ?_
  intro p e s m args below meth c ls C hin hw hl
  have C : Cx G A p s m args meth c RX4 cX4_allNests 4 (some .int) := C
  have hl : lv_has ls 4 [(0, .ref (ad x0)), (1, .ref (ad x1))] := hl
  obtain ⟨hx, hb, -⟩ := id C
  rw [f_X4_allNests] at hf
  refine lv_iconst (v := 0) hx hb dX4_allNests_0 (by decide) ?_
  refine lv_istore_n (lv' := [(2, .int 0), (0, .ref (ad x0)), (1, .ref (ad x1))]) hx hb dX4_allNests_1 rfl hl (by decide) rfl (fun ls hl => ?_)
  refine lv_iconst (v := 0) hx hb dX4_allNests_2 (by decide) ?_
  refine lv_istore_n (lv' := [(3, .int 0), (2, .int 0), (0, .ref (ad x0)), (1, .ref (ad x1))]) hx hb dX4_allNests_3 rfl hl (by decide) rfl (fun ls hl => ?_)
  exact t_X4_allNests_4 C FU M x0 x1 0 0 _ _ _ hf hw (lv_sub hl [2, 3, 1, 0] rfl)
/-! StorkVote$World.seatsFor(II)I -/
abbrev rm_X8_seatsFor : Room := { frames := 2, cells := 0, slots := 0, locals := 50 }
def f_X8_seatsFor (M : Mem) (x0 : Nat) (x1 : Int32) (x2 : Int32) : Option (Int32 × Mem) := gt (mT M x0) 9 (cl (f_X8_counting M x0 1) (fun r2 M1 => on r2 (some (x1, M1)) (fun b5 => gt (mT M1 x0) 9 (lp (mP M1 x0 9) (fun a7 => gt (mT M1 b5) 8 (cl (f_X7_value M1 b5 x1 x2 0 a7) (fun r10 M9 => cl (f_X9_held M9 r10 999) (fun r14 M13 => some (r14, M13)))))))))
set_option maxHeartbeats 4000000 in
set_option maxRecDepth 100000 in
theorem c_X8_seatsFor (l : Launch) (G : Gd) (A : Nat → Prop) (ad : Nat → Nat) {M : Mem} {x0 : Nat} {x1 : Int32} {x2 : Int32}  {r : Int32} {M' : Mem} (hf : f_X8_seatsFor M x0 x1 x2 = some (r, M')) : Ct l yX8_seatsFor cX8_seatsFor 4 (some .int) rm_X8_seatsFor [.ref (ad x0), .int x1, .int x2] G A ad M (QI G A ad r M') 0 0 := by
  refine ct_start (by decide) (Nat.le_of_ble_eq_true rfl) ?_
  intro p e s m args below meth c ls C hin hw hl
  have C : Cx G A p s m args meth c RX8 cX8_seatsFor 4 (some .int) := C
  have hl : lv_has ls 4 [(0, .ref (ad x0)), (1, .int x1), (2, .int x2)] := hl
  obtain ⟨hx, hb, -⟩ := id C
  rw [f_X8_seatsFor] at hf
  refine lv_aload_n hx hb dX8_seatsFor_0 rfl (lv_at hl 0 rfl) ?_
  refine lv_iconst (v := 1) hx hb dX8_seatsFor_1 (by decide) ?_
  obtain ⟨hT4, hf⟩ := gt_inv hf
  obtain ⟨r2, M1, hc3, hf⟩ := cl_inv hf
  refine fin_Q (run_V C hw mf_X8_counting mv_X8_counting ml_X8_92 cf8 hT4 (c_X8_counting l G A ad hc3) (As := [.int 1]) (rest := []) hl.1 rfl rfl (Nat.le_of_ble_eq_true rfl) ⟨rfl, rfl, Nat.le_of_ble_eq_true rfl, Nat.le_of_ble_eq_true rfl⟩ ⟨Nat.zero_le _, Nat.zero_le _⟩ dX8_seatsFor_2) hw (fun H locs hw => ?_)
  rcases r2 with _ | b5
  · have hf := on_n hf
    refine lv_astore_nN (lv' := [(3, .null), (0, .ref (ad x0)), (1, .int x1), (2, .int x2)]) hx hb dX8_seatsFor_5 rfl hl (by decide) rfl (fun ls hl => ?_)
    refine lv_aload_nN hx hb dX8_seatsFor_6 rfl (lv_at hl 0 rfl) ?_
    refine lv_ifnonnullN hx hb dX8_seatsFor_7 ?_
    refine lv_iload_n hx hb dX8_seatsFor_10 rfl (lv_at hl 2 rfl) ?_
    refine lv_goto (tgt := 31) hx hb dX8_seatsFor_11 (by decide) ?_
    exact e_iret C hw hf dX8_seatsFor_31
  · have hf := on_s hf
    refine lv_astore_n (lv' := [(3, .ref (ad b5)), (0, .ref (ad x0)), (1, .int x1), (2, .int x2)]) hx hb dX8_seatsFor_5 rfl hl (by decide) rfl (fun ls hl => ?_)
    refine lv_aload_n hx hb dX8_seatsFor_6 rfl (lv_at hl 0 rfl) ?_
    refine lv_ifnonnull (tgt := 14) hx hb dX8_seatsFor_7 (by decide) ?_
    refine lv_aload_n hx hb dX8_seatsFor_14 rfl (lv_at hl 0 rfl) ?_
    refine lv_iload_n hx hb dX8_seatsFor_15 rfl (lv_at hl 2 rfl) ?_
    refine lv_iload_n hx hb dX8_seatsFor_16 rfl (lv_at hl 3 rfl) ?_
    refine lv_iconst (v := 0) hx hb dX8_seatsFor_17 (by decide) ?_
    refine lv_aload_n hx hb dX8_seatsFor_18 rfl (lv_at hl 1 rfl) ?_
    obtain ⟨hT6, hf⟩ := gt_inv hf
    obtain ⟨a7, hP8, hf⟩ := lp_inv hf
    refine r_getP C hw cf8 9 (by decide) rfl hT6 hP8 fl_X8_37 dX8_seatsFor_19 ?_
    obtain ⟨hT12, hf⟩ := gt_inv hf
    obtain ⟨r10, M9, hc11, hf⟩ := cl_inv hf
    refine fin_I (run_V C hw mf_X7_value mv_X7_value ml_X8_102 cf7 hT12 (c_X7_value l G A ad hc11) (As := [.int x1, .int x2, .int 0, .ref (ad a7)]) (rest := []) hl.1 rfl rfl (Nat.le_of_ble_eq_true rfl) ⟨rfl, rfl, Nat.le_of_ble_eq_true rfl, Nat.le_of_ble_eq_true rfl⟩ ⟨Nat.zero_le _, Nat.zero_le _⟩ dX8_seatsFor_22) hw (fun H locs hw => ?_)
    refine lv_sipush (v := 999) hx hb dX8_seatsFor_25 (by decide) ?_
    obtain ⟨r14, M13, hc15, hf⟩ := cl_inv hf
    refine fin_I (run_S C hw mf_X9_held ms_X9_held ml_X8_106 (c_X9_held l G A ad hc15) (As := [.int r10, .int 999]) (rest := []) hl.1 rfl rfl (Nat.le_of_ble_eq_true rfl) ⟨rfl, rfl, Nat.le_of_ble_eq_true rfl, Nat.le_of_ble_eq_true rfl⟩ ⟨Nat.zero_le _, Nat.zero_le _⟩ dX8_seatsFor_28) hw (fun H locs hw => ?_)
    exact e_iret C hw hf dX8_seatsFor_31
/-! StorkVote$Spring.seats(LStorkVote$World;I)I -/
abbrev rm_X4_seats : Room := { frames := 3, cells := 0, slots := 0, locals := 73 }
def f_X4_seats (M : Mem) (x0 : Nat) (x1 : Nat) (x2 : Int32) : Option (Int32 × Mem) := gt (mT M x0) 5 (cl (f_X4_nestsIn M x0 x1 x2) (fun r2 M1 => gt (mT M1 x1) 9 (cl (f_X8_seatsFor M1 x1 r2 x2) (fun r6 M5 => some (r6, M5)))))
set_option maxHeartbeats 4000000 in
set_option maxRecDepth 100000 in
theorem c_X4_seats (l : Launch) (G : Gd) (A : Nat → Prop) (ad : Nat → Nat) {M : Mem} {x0 : Nat} {x1 : Nat} {x2 : Int32}  {r : Int32} {M' : Mem} (hf : f_X4_seats M x0 x1 x2 = some (r, M')) : Ct l yX4_seats cX4_seats 3 (some .int) rm_X4_seats [.ref (ad x0), .ref (ad x1), .int x2] G A ad M (QI G A ad r M') 0 0 := by
  refine ct_start (by decide) (Nat.le_of_ble_eq_true rfl) ?_
  intro p e s m args below meth c ls C hin hw hl
  have C : Cx G A p s m args meth c RX4 cX4_seats 3 (some .int) := C
  have hl : lv_has ls 3 [(0, .ref (ad x0)), (1, .ref (ad x1)), (2, .int x2)] := hl
  obtain ⟨hx, hb, -⟩ := id C
  rw [f_X4_seats] at hf
  refine lv_aload_n hx hb dX4_seats_0 rfl (lv_at hl 1 rfl) ?_
  refine lv_aload_n hx hb dX4_seats_1 rfl (lv_at hl 0 rfl) ?_
  refine lv_aload_n hx hb dX4_seats_2 rfl (lv_at hl 1 rfl) ?_
  refine lv_iload_n hx hb dX4_seats_3 rfl (lv_at hl 2 rfl) ?_
  obtain ⟨hT4, hf⟩ := gt_inv hf
  obtain ⟨r2, M1, hc3, hf⟩ := cl_inv hf
  refine fin_I (run_V C hw mf_X4_nestsIn mv_X4_nestsIn ml_X4_100 cf4 hT4 (c_X4_nestsIn l G A ad hc3) (As := [.ref (ad x1), .int x2]) (rest := [.ref (ad x1)]) hl.1 rfl rfl (Nat.le_of_ble_eq_true rfl) ⟨rfl, rfl, Nat.le_of_ble_eq_true rfl, Nat.le_of_ble_eq_true rfl⟩ ⟨Nat.zero_le _, Nat.zero_le _⟩ dX4_seats_4) hw (fun H locs hw => ?_)
  refine lv_iload_n hx hb dX4_seats_7 rfl (lv_at hl 2 rfl) ?_
  obtain ⟨hT8, hf⟩ := gt_inv hf
  obtain ⟨r6, M5, hc7, hf⟩ := cl_inv hf
  refine fin_I (run_V C hw mf_X8_seatsFor mv_X8_seatsFor ml_X4_103 cf8 hT8 (c_X8_seatsFor l G A ad hc7) (As := [.int r2, .int x2]) (rest := []) hl.1 rfl rfl (Nat.le_of_ble_eq_true rfl) ⟨rfl, rfl, Nat.le_of_ble_eq_true rfl, Nat.le_of_ble_eq_true rfl⟩ ⟨Nat.zero_le _, Nat.zero_le _⟩ dX4_seats_8) hw (fun H locs hw => ?_)
  exact e_iret C hw hf dX4_seats_11
/-! StorkVote$Spring.allSeats(LStorkVote$World;)I -/
abbrev rm_X4_allSeats : Room := { frames := 4, cells := 0, slots := 0, locals := 95 }
def f_X4_allSeats_4 : Nat → Mem → Nat → Nat → Int32 → Int32 → Option (Int32 × Mem)
  | 0, _, _, _, _, _ => none
  | n + 1, M, x0, x1, x2, x3 => (if 4 ≤ x3 then some (x2, M) else gt (mT M x0) 5 (cl (f_X4_seats M x0 x1 x3) (fun r2 M1 => f_X4_allSeats_4 n M1 x0 x1 (x2 + r2) (x3 + 1))))
set_option maxHeartbeats 4000000 in
set_option maxRecDepth 100000 in
theorem t_X4_allSeats_4 {l : Launch} {p : Program} {e : Env} {s : State} {m : MethodId} {args : Array Value} {below : List Frame} {meth : Method} {c : Code} {G : Gd} {A : Nat → Prop} {ad : Nat → Nat} (C : Cx G A p s m args meth c RX4 cX4_allSeats 4 (some .int)) {r : Int32} {M' : Mem} : ∀ (n : Nat) (M : Mem) (x0 : Nat) (x1 : Nat) (x2 : Int32) (x3 : Int32) (H : Heap) (locs : List Loc) (ls : Array Slot), f_X4_allSeats_4  n M x0 x1 x2 x3 = some (r, M') → Wd G A ad s.heap M H locs → lv_has ls 4 [(0, .ref (ad x0)), (1, .ref (ad x1)), (2, .int x2), (3, .int x3)] → W p l e rm_X4_allSeats s m args below meth c H locs 0 0 (MQ below (QI G A ad r M') args s 0 0 A) (F0 m 4 ls []) := by
  obtain ⟨hx, hb, -⟩ := id C
  intro n
  induction n with
  | zero =>
    intro M x0 x1 x2 x3 H locs ls hf
    rw [f_X4_allSeats_4] at hf
    exact absurd hf (fun h => nomatch h)
  | succ n ih =>
    intro M x0 x1 x2 x3 H locs ls hf hw hl
    rw [f_X4_allSeats_4] at hf
    refine lv_iload_n hx hb dX4_allSeats_4 rfl (lv_at hl 3 rfl) ?_
    refine lv_iconst (v := 4) hx hb dX4_allSeats_5 (by decide) ?_
    refine lv_icmp_ge (tgt := 24) hx hb dX4_allSeats_6 (by decide) (fun hc => ?_) (fun hc => ?_)
    · have hf := if_p hc hf
      refine lv_iload_n hx hb dX4_allSeats_24 rfl (lv_at hl 2 rfl) ?_
      exact e_iret C hw hf dX4_allSeats_25
    · have hf := if_n hc hf
      refine lv_iload_n hx hb dX4_allSeats_9 rfl (lv_at hl 2 rfl) ?_
      refine lv_aload_n hx hb dX4_allSeats_10 rfl (lv_at hl 0 rfl) ?_
      refine lv_aload_n hx hb dX4_allSeats_11 rfl (lv_at hl 1 rfl) ?_
      refine lv_iload_n hx hb dX4_allSeats_12 rfl (lv_at hl 3 rfl) ?_
      obtain ⟨hT4, hf⟩ := gt_inv hf
      obtain ⟨r2, M1, hc3, hf⟩ := cl_inv hf
      refine fin_I (run_V C hw mf_X4_seats mv_X4_seats ml_X4_106 cf4 hT4 (c_X4_seats l G A ad hc3) (As := [.ref (ad x1), .int x3]) (rest := [.int x2]) hl.1 rfl rfl (Nat.le_of_ble_eq_true rfl) ⟨rfl, rfl, Nat.le_of_ble_eq_true rfl, Nat.le_of_ble_eq_true rfl⟩ ⟨Nat.zero_le _, Nat.zero_le _⟩ dX4_allSeats_13) hw (fun H locs hw => ?_)
      refine lv_iadd hx hb dX4_allSeats_16 ?_
      refine lv_istore_n (lv' := [(2, .int (x2 + r2)), (0, .ref (ad x0)), (1, .ref (ad x1)), (3, .int x3)]) hx hb dX4_allSeats_17 rfl hl (by decide) rfl (fun ls hl => ?_)
      refine lv_iinc (v := (x3 + 1)) (lv' := [(3, .int (x3 + 1)), (2, .int (x2 + r2)), (0, .ref (ad x0)), (1, .ref (ad x1))]) hx hb dX4_allSeats_18 hl (k := 3) rfl rfl (by decide) rfl (fun ls hl => ?_)
      refine lv_goto (tgt := 4) hx hb dX4_allSeats_21 (by decide) ?_
      exact ih M1 x0 x1 (x2 + r2) (x3 + 1) _ _ _ hf hw (lv_sub hl [2, 3, 1, 0] rfl)
def f_X4_allSeats (M : Mem) (x0 : Nat) (x1 : Nat) : Option (Int32 × Mem) := f_X4_allSeats_4 FU M x0 x1 0 0
set_option maxHeartbeats 4000000 in
set_option maxRecDepth 100000 in
theorem c_X4_allSeats (l : Launch) (G : Gd) (A : Nat → Prop) (ad : Nat → Nat) {M : Mem} {x0 : Nat} {x1 : Nat}  {r : Int32} {M' : Mem} (hf : f_X4_allSeats M x0 x1 = some (r, M')) : Ct l yX4_allSeats cX4_allSeats 4 (some .int) rm_X4_allSeats [.ref (ad x0), .ref (ad x1)] G A ad M (QI G A ad r M') 0 0 := by
  refine ct_start (by decide) (Nat.le_of_ble_eq_true rfl) ?_
  intro p e s m args below meth c ls C hin hw hl
  have C : Cx G A p s m args meth c RX4 cX4_allSeats 4 (some .int) := C
  have hl : lv_has ls 4 [(0, .ref (ad x0)), (1, .ref (ad x1))] := hl
  obtain ⟨hx, hb, -⟩ := id C
  rw [f_X4_allSeats] at hf
  refine lv_iconst (v := 0) hx hb dX4_allSeats_0 (by decide) ?_
  refine lv_istore_n (lv' := [(2, .int 0), (0, .ref (ad x0)), (1, .ref (ad x1))]) hx hb dX4_allSeats_1 rfl hl (by decide) rfl (fun ls hl => ?_)
  refine lv_iconst (v := 0) hx hb dX4_allSeats_2 (by decide) ?_
  refine lv_istore_n (lv' := [(3, .int 0), (2, .int 0), (0, .ref (ad x0)), (1, .ref (ad x1))]) hx hb dX4_allSeats_3 rfl hl (by decide) rfl (fun ls hl => ?_)
  exact t_X4_allSeats_4 C FU M x0 x1 0 0 _ _ _ hf hw (lv_sub hl [2, 3, 1, 0] rfl)
/-! StorkVote$Spring.winner(LStorkVote$World;)I -/
abbrev rm_X4_winner : Room := { frames := 4, cells := 0, slots := 0, locals := 95 }
def f_X4_winner_12 : Nat → Mem → Nat → Nat → Int32 → Int32 → Int32 → Option (Int32 × Mem)
  | 0, _, _, _, _, _, _ => none
  | n + 1, M, x0, x1, x2, x3, x4 => (if 4 ≤ x4 then some (x2, M) else gt (mT M x0) 5 (cl (f_X4_seats M x0 x1 x4) (fun r2 M1 => (if r2 ≤ x3 then f_X4_winner_12 n M1 x0 x1 x2 x3 (x4 + 1) else f_X4_winner_12 n M1 x0 x1 x4 r2 (x4 + 1)))))
set_option maxHeartbeats 4000000 in
set_option maxRecDepth 100000 in
theorem t_X4_winner_12 {l : Launch} {p : Program} {e : Env} {s : State} {m : MethodId} {args : Array Value} {below : List Frame} {meth : Method} {c : Code} {G : Gd} {A : Nat → Prop} {ad : Nat → Nat} (C : Cx G A p s m args meth c RX4 cX4_winner 6 (some .int)) {r : Int32} {M' : Mem} : ∀ (n : Nat) (M : Mem) (x0 : Nat) (x1 : Nat) (x2 : Int32) (x3 : Int32) (x4 : Int32) (H : Heap) (locs : List Loc) (ls : Array Slot), f_X4_winner_12  n M x0 x1 x2 x3 x4 = some (r, M') → Wd G A ad s.heap M H locs → lv_has ls 6 [(0, .ref (ad x0)), (1, .ref (ad x1)), (2, .int x2), (3, .int x3), (4, .int x4)] → W p l e rm_X4_winner s m args below meth c H locs 0 0 (MQ below (QI G A ad r M') args s 0 0 A) (F0 m 12 ls []) := by
  obtain ⟨hx, hb, -⟩ := id C
  intro n
  induction n with
  | zero =>
    intro M x0 x1 x2 x3 x4 H locs ls hf
    rw [f_X4_winner_12] at hf
    exact absurd hf (fun h => nomatch h)
  | succ n ih =>
    intro M x0 x1 x2 x3 x4 H locs ls hf hw hl
    rw [f_X4_winner_12] at hf
    refine lv_iload hx hb dX4_winner_12 (lv_at hl 4 rfl) ?_
    refine lv_iconst (v := 4) hx hb dX4_winner_14 (by decide) ?_
    refine lv_icmp_ge (tgt := 45) hx hb dX4_winner_15 (by decide) (fun hc => ?_) (fun hc => ?_)
    · have hf := if_p hc hf
      refine lv_iload_n hx hb dX4_winner_45 rfl (lv_at hl 2 rfl) ?_
      exact e_iret C hw hf dX4_winner_46
    · have hf := if_n hc hf
      refine lv_aload_n hx hb dX4_winner_18 rfl (lv_at hl 0 rfl) ?_
      refine lv_aload_n hx hb dX4_winner_19 rfl (lv_at hl 1 rfl) ?_
      refine lv_iload hx hb dX4_winner_20 (lv_at hl 4 rfl) ?_
      obtain ⟨hT4, hf⟩ := gt_inv hf
      obtain ⟨r2, M1, hc3, hf⟩ := cl_inv hf
      refine fin_I (run_V C hw mf_X4_seats mv_X4_seats ml_X4_106 cf4 hT4 (c_X4_seats l G A ad hc3) (As := [.ref (ad x1), .int x4]) (rest := []) hl.1 rfl rfl (Nat.le_of_ble_eq_true rfl) ⟨rfl, rfl, Nat.le_of_ble_eq_true rfl, Nat.le_of_ble_eq_true rfl⟩ ⟨Nat.zero_le _, Nat.zero_le _⟩ dX4_winner_22) hw (fun H locs hw => ?_)
      refine lv_istore (lv' := [(5, .int r2), (0, .ref (ad x0)), (1, .ref (ad x1)), (2, .int x2), (3, .int x3), (4, .int x4)]) hx hb dX4_winner_25 hl (by decide) rfl (fun ls hl => ?_)
      refine lv_iload hx hb dX4_winner_27 (lv_at hl 0 rfl) ?_
      refine lv_iload_n hx hb dX4_winner_29 rfl (lv_at hl 4 rfl) ?_
      refine lv_icmp_le (tgt := 39) hx hb dX4_winner_30 (by decide) (fun hc => ?_) (fun hc => ?_)
      · have hf := if_p hc hf
        refine lv_iinc (v := (x4 + 1)) (lv' := [(4, .int (x4 + 1)), (5, .int r2), (0, .ref (ad x0)), (1, .ref (ad x1)), (2, .int x2), (3, .int x3)]) hx hb dX4_winner_39 hl (k := 5) rfl rfl (by decide) rfl (fun ls hl => ?_)
        refine lv_goto (tgt := 12) hx hb dX4_winner_42 (by decide) ?_
        exact ih M1 x0 x1 x2 x3 (x4 + 1) _ _ _ hf hw (lv_sub hl [2, 3, 4, 5, 0] rfl)
      · have hf := if_n hc hf
        refine lv_iload hx hb dX4_winner_33 (lv_at hl 0 rfl) ?_
        refine lv_istore_n (lv' := [(3, .int r2), (5, .int r2), (0, .ref (ad x0)), (1, .ref (ad x1)), (2, .int x2), (4, .int x4)]) hx hb dX4_winner_35 rfl hl (by decide) rfl (fun ls hl => ?_)
        refine lv_iload hx hb dX4_winner_36 (lv_at hl 5 rfl) ?_
        refine lv_istore_n (lv' := [(2, .int x4), (3, .int r2), (5, .int r2), (0, .ref (ad x0)), (1, .ref (ad x1)), (4, .int x4)]) hx hb dX4_winner_38 rfl hl (by decide) rfl (fun ls hl => ?_)
        refine lv_iinc (v := (x4 + 1)) (lv' := [(4, .int (x4 + 1)), (2, .int x4), (3, .int r2), (5, .int r2), (0, .ref (ad x0)), (1, .ref (ad x1))]) hx hb dX4_winner_39 hl (k := 5) rfl rfl (by decide) rfl (fun ls hl => ?_)
        refine lv_goto (tgt := 12) hx hb dX4_winner_42 (by decide) ?_
        exact ih M1 x0 x1 x4 r2 (x4 + 1) _ _ _ hf hw (lv_sub hl [4, 5, 1, 2, 0] rfl)
def f_X4_winner (M : Mem) (x0 : Nat) (x1 : Nat) : Option (Int32 × Mem) := gt (mT M x0) 5 (cl (f_X4_seats M x0 x1 0) (fun r2 M1 => f_X4_winner_12 FU M1 x0 x1 0 r2 1))
set_option maxHeartbeats 4000000 in
set_option maxRecDepth 100000 in
theorem c_X4_winner (l : Launch) (G : Gd) (A : Nat → Prop) (ad : Nat → Nat) {M : Mem} {x0 : Nat} {x1 : Nat}  {r : Int32} {M' : Mem} (hf : f_X4_winner M x0 x1 = some (r, M')) : Ct l yX4_winner cX4_winner 6 (some .int) rm_X4_winner [.ref (ad x0), .ref (ad x1)] G A ad M (QI G A ad r M') 0 0 := by
  refine ct_start (by decide) (Nat.le_of_ble_eq_true rfl) ?_
  intro p e s m args below meth c ls C hin hw hl
  have C : Cx G A p s m args meth c RX4 cX4_winner 6 (some .int) := C
  have hl : lv_has ls 6 [(0, .ref (ad x0)), (1, .ref (ad x1))] := hl
  obtain ⟨hx, hb, -⟩ := id C
  rw [f_X4_winner] at hf
  refine lv_iconst (v := 0) hx hb dX4_winner_0 (by decide) ?_
  refine lv_istore_n (lv' := [(2, .int 0), (0, .ref (ad x0)), (1, .ref (ad x1))]) hx hb dX4_winner_1 rfl hl (by decide) rfl (fun ls hl => ?_)
  refine lv_aload_n hx hb dX4_winner_2 rfl (lv_at hl 1 rfl) ?_
  refine lv_aload_n hx hb dX4_winner_3 rfl (lv_at hl 2 rfl) ?_
  refine lv_iconst (v := 0) hx hb dX4_winner_4 (by decide) ?_
  obtain ⟨hT4, hf⟩ := gt_inv hf
  obtain ⟨r2, M1, hc3, hf⟩ := cl_inv hf
  refine fin_I (run_V C hw mf_X4_seats mv_X4_seats ml_X4_106 cf4 hT4 (c_X4_seats l G A ad hc3) (As := [.ref (ad x1), .int 0]) (rest := []) hl.1 rfl rfl (Nat.le_of_ble_eq_true rfl) ⟨rfl, rfl, Nat.le_of_ble_eq_true rfl, Nat.le_of_ble_eq_true rfl⟩ ⟨Nat.zero_le _, Nat.zero_le _⟩ dX4_winner_5) hw (fun H locs hw => ?_)
  refine lv_istore_n (lv' := [(3, .int r2), (2, .int 0), (0, .ref (ad x0)), (1, .ref (ad x1))]) hx hb dX4_winner_8 rfl hl (by decide) rfl (fun ls hl => ?_)
  refine lv_iconst (v := 1) hx hb dX4_winner_9 (by decide) ?_
  refine lv_istore (lv' := [(4, .int 1), (3, .int r2), (2, .int 0), (0, .ref (ad x0)), (1, .ref (ad x1))]) hx hb dX4_winner_10 hl (by decide) rfl (fun ls hl => ?_)
  exact t_X4_winner_12 C FU M1 x0 x1 0 r2 1 _ _ _ hf hw (lv_sub hl [3, 4, 2, 1, 0] rfl)
/-! StorkVote$World.hasChimney(I)Z -/
abbrev rm_X8_hasChimney : Room := { frames := 0, cells := 0, slots := 0, locals := 0 }
def f_X8_hasChimney (M : Mem) (x0 : Nat) (x1 : Int32) : Option (Int32 × Mem) := (if x1 < 0 then some (0, M) else gt (mT M x0) 9 ((if (mI M x0 1) ≤ x1 then some (0, M) else some (1, M))))
set_option maxHeartbeats 4000000 in
set_option maxRecDepth 100000 in
theorem c_X8_hasChimney (l : Launch) (G : Gd) (A : Nat → Prop) (ad : Nat → Nat) {M : Mem} {x0 : Nat} {x1 : Int32}  {r : Int32} {M' : Mem} (hf : f_X8_hasChimney M x0 x1 = some (r, M')) : Ct l yX8_hasChimney cX8_hasChimney 2 (some .boolean) rm_X8_hasChimney [.ref (ad x0), .int x1] G A ad M (QI G A ad r M') 0 0 := by
  refine ct_start (by decide) (Nat.le_of_ble_eq_true rfl) ?_
  intro p e s m args below meth c ls C hin hw hl
  have C : Cx G A p s m args meth c RX8 cX8_hasChimney 2 (some .boolean) := C
  have hl : lv_has ls 2 [(0, .ref (ad x0)), (1, .int x1)] := hl
  obtain ⟨hx, hb, -⟩ := id C
  rw [f_X8_hasChimney] at hf
  refine lv_iload_n hx hb dX8_hasChimney_0 rfl (lv_at hl 1 rfl) ?_
  refine lv_if_lt (tgt := 16) hx hb dX8_hasChimney_1 (by decide) (fun hc => ?_) (fun hc => ?_)
  · have hf := if_p hc hf
    refine lv_iconst (v := 0) hx hb dX8_hasChimney_16 (by decide) ?_
    exact e_zret C hw rfl hf dX8_hasChimney_17
  · have hf := if_n hc hf
    refine lv_iload_n hx hb dX8_hasChimney_4 rfl (lv_at hl 1 rfl) ?_
    refine lv_aload_n hx hb dX8_hasChimney_5 rfl (lv_at hl 0 rfl) ?_
    obtain ⟨hT1, hf⟩ := gt_inv hf
    refine r_getI C hw cf8 1 (by decide) rfl hT1 fl_X8_42 dX8_hasChimney_6 ?_
    refine lv_icmp_ge (tgt := 16) hx hb dX8_hasChimney_9 (by decide) (fun hc => ?_) (fun hc => ?_)
    · have hf := if_p hc hf
      refine lv_iconst (v := 0) hx hb dX8_hasChimney_16 (by decide) ?_
      exact e_zret C hw rfl hf dX8_hasChimney_17
    · have hf := if_n hc hf
      refine lv_iconst (v := 1) hx hb dX8_hasChimney_12 (by decide) ?_
      refine lv_goto (tgt := 17) hx hb dX8_hasChimney_13 (by decide) ?_
      exact e_zret C hw rfl hf dX8_hasChimney_17
/-! StorkVote$Spring.nestsTold(LStorkVote$World;LStorkVote$Sheet;)V -/
abbrev rm_X4_nestsTold : Room := { frames := 1, cells := 0, slots := 0, locals := 23 }
def f_X4_nestsTold_20 : Nat → Mem → Nat → Nat → Nat → Int32 → Option (Unit × Mem)
  | 0, _, _, _, _, _ => none
  | n + 1, M, x0, x1, x2, x3 => gt (mT M x1) 9 ((if (mI M x1 3) ≤ x3 then some ((), M) else gt (mT M x2) 3 ((if (mI M x2 1) ≤ x3 then some ((), M) else lp (mP M x2 2) (fun a3 => gt (mT M a3) 20 (gd (ib x3 (mL M a3)) (lp (mP M x1 2) (fun a7 => gt (mT M a7) 24 (gd (ib x3 (mL M a7)) (lp (mP M a7 x3.toNatClampNeg) (fun a11 => gt (mT M a11) 6 ((if (mI M a11 2) = 0 then cl (f_X8_hasChimney M x1 (mI M a3 x3.toNatClampNeg)) (fun r15 M14 => (if r15 = 0 then f_X4_nestsTold_20 n M14 x0 x1 x2 (x3 + 1) else gt (mT M14 x0) 5 (lp (mP M14 x0 1) (fun a18 => gt (mT M14 a18) 20 (gd (ib (mI M a3 x3.toNatClampNeg) (mL M14 a18)) ((if (mI M14 a18 (mI M a3 x3.toNatClampNeg).toNatClampNeg) = (-1000000005) then cl (f_X4_move M14 x0 x3 (mI M a3 x3.toNatClampNeg)) (fun _ M22 => f_X4_nestsTold_20 n M22 x0 x1 x2 (x3 + 1)) else f_X4_nestsTold_20 n M14 x0 x1 x2 (x3 + 1)))))))) else f_X4_nestsTold_20 n M x0 x1 x2 (x3 + 1))))))))))))))
set_option maxHeartbeats 4000000 in
set_option maxRecDepth 100000 in
theorem t_X4_nestsTold_20 {l : Launch} {p : Program} {e : Env} {s : State} {m : MethodId} {args : Array Value} {below : List Frame} {meth : Method} {c : Code} {G : Gd} {A : Nat → Prop} {ad : Nat → Nat} (C : Cx G A p s m args meth c RX4 cX4_nestsTold 5 none) {M' : Mem} : ∀ (n : Nat) (M : Mem) (x0 : Nat) (x1 : Nat) (x2 : Nat) (x3 : Int32) (H : Heap) (locs : List Loc) (ls : Array Slot), f_X4_nestsTold_20  n M x0 x1 x2 x3 = some ((), M') → Wd G A ad s.heap M H locs → lv_has ls 5 [(0, .ref (ad x0)), (1, .ref (ad x1)), (2, .ref (ad x2)), (3, .int x3)] → W p l e rm_X4_nestsTold s m args below meth c H locs 0 0 (MQ below (QV G A ad M') args s 0 0 A) (F0 m 20 ls []) := by
  obtain ⟨hx, hb, -⟩ := id C
  intro n
  induction n with
  | zero =>
    intro M x0 x1 x2 x3 H locs ls hf
    rw [f_X4_nestsTold_20] at hf
    exact absurd hf (fun h => nomatch h)
  | succ n ih =>
    intro M x0 x1 x2 x3 H locs ls hf hw hl
    rw [f_X4_nestsTold_20] at hf
    refine lv_iload_n hx hb dX4_nestsTold_20 rfl (lv_at hl 3 rfl) ?_
    refine lv_aload_n hx hb dX4_nestsTold_21 rfl (lv_at hl 1 rfl) ?_
    obtain ⟨hT1, hf⟩ := gt_inv hf
    refine r_getI C hw cf8 3 (by decide) rfl hT1 fl_X4_61 dX4_nestsTold_22 ?_
    refine lv_icmp_ge (tgt := 90) hx hb dX4_nestsTold_25 (by decide) (fun hc => ?_) (fun hc => ?_)
    · have hf := if_p hc hf
      exact e_vret C hw hf dX4_nestsTold_90
    · have hf := if_n hc hf
      refine lv_iload_n hx hb dX4_nestsTold_28 rfl (lv_at hl 3 rfl) ?_
      refine lv_aload_n hx hb dX4_nestsTold_29 rfl (lv_at hl 2 rfl) ?_
      obtain ⟨hT2, hf⟩ := gt_inv hf
      refine r_getI C hw cf2 1 (by decide) rfl hT2 fl_X4_109 dX4_nestsTold_30 ?_
      refine lv_icmp_ge (tgt := 90) hx hb dX4_nestsTold_33 (by decide) (fun hc => ?_) (fun hc => ?_)
      · have hf := if_p hc hf
        exact e_vret C hw hf dX4_nestsTold_90
      · have hf := if_n hc hf
        refine lv_aload_n hx hb dX4_nestsTold_36 rfl (lv_at hl 2 rfl) ?_
        obtain ⟨a3, hP4, hf⟩ := lp_inv hf
        refine r_getP C hw cf2 2 (by decide) rfl hT2 hP4 fl_X4_114 dX4_nestsTold_37 ?_
        refine lv_iload_n hx hb dX4_nestsTold_40 rfl (lv_at hl 3 rfl) ?_
        obtain ⟨hT5, hf⟩ := gt_inv hf
        obtain ⟨hg6, hf⟩ := gd_inv hf
        refine r_iald C hw hT5 hg6 dX4_nestsTold_41 ?_
        refine lv_istore (lv' := [(4, .int (mI M a3 x3.toNatClampNeg)), (0, .ref (ad x0)), (1, .ref (ad x1)), (2, .ref (ad x2)), (3, .int x3)]) hx hb dX4_nestsTold_42 hl (by decide) rfl (fun ls hl => ?_)
        refine lv_aload_n hx hb dX4_nestsTold_44 rfl (lv_at hl 2 rfl) ?_
        obtain ⟨a7, hP8, hf⟩ := lp_inv hf
        refine r_getP C hw cf8 2 (by decide) rfl hT1 hP8 fl_X4_38 dX4_nestsTold_45 ?_
        refine lv_iload_n hx hb dX4_nestsTold_48 rfl (lv_at hl 4 rfl) ?_
        obtain ⟨hT9, hf⟩ := gt_inv hf
        obtain ⟨hg10, hf⟩ := gd_inv hf
        obtain ⟨a11, hP12, hf⟩ := lp_inv hf
        refine r_aald C hw 4 rfl (by decide) (by decide) hT9 hg10 hP12 dX4_nestsTold_49 ?_
        obtain ⟨hT13, hf⟩ := gt_inv hf
        refine r_getI C hw cf5 2 (by decide) rfl hT13 fl_X4_75 dX4_nestsTold_50 ?_
        refine lv_if_ne (tgt := 84) hx hb dX4_nestsTold_53 (by decide) (fun hc => ?_) (fun hc => ?_)
        · have hf := if_n hc hf
          refine lv_iinc (v := (x3 + 1)) (lv' := [(3, .int (x3 + 1)), (4, .int (mI M a3 x3.toNatClampNeg)), (0, .ref (ad x0)), (1, .ref (ad x1)), (2, .ref (ad x2))]) hx hb dX4_nestsTold_84 hl (k := 4) rfl rfl (by decide) rfl (fun ls hl => ?_)
          refine lv_goto (tgt := 20) hx hb dX4_nestsTold_87 (by decide) ?_
          exact ih M x0 x1 x2 (x3 + 1) _ _ _ hf hw (lv_sub hl [2, 3, 4, 0] rfl)
        · have hf := if_p hc hf
          refine lv_aload_n hx hb dX4_nestsTold_56 rfl (lv_at hl 2 rfl) ?_
          refine lv_iload hx hb dX4_nestsTold_57 (lv_at hl 0 rfl) ?_
          obtain ⟨r15, M14, hc16, hf⟩ := cl_inv hf
          refine fin_I (run_V C hw mf_X8_hasChimney mv_X8_hasChimney ml_X4_117 cf8 hT1 (c_X8_hasChimney l G A ad hc16) (As := [.int (mI M a3 x3.toNatClampNeg)]) (rest := []) hl.1 rfl rfl (Nat.le_of_ble_eq_true rfl) ⟨rfl, rfl, Nat.le_of_ble_eq_true rfl, Nat.le_of_ble_eq_true rfl⟩ ⟨Nat.zero_le _, Nat.zero_le _⟩ dX4_nestsTold_59) hw (fun H locs hw => ?_)
          refine lv_if_eq (tgt := 84) hx hb dX4_nestsTold_62 (by decide) (fun hc => ?_) (fun hc => ?_)
          · have hf := if_p hc hf
            refine lv_iinc (v := (x3 + 1)) (lv' := [(3, .int (x3 + 1)), (4, .int (mI M a3 x3.toNatClampNeg)), (0, .ref (ad x0)), (1, .ref (ad x1)), (2, .ref (ad x2))]) hx hb dX4_nestsTold_84 hl (k := 4) rfl rfl (by decide) rfl (fun ls hl => ?_)
            refine lv_goto (tgt := 20) hx hb dX4_nestsTold_87 (by decide) ?_
            exact ih M14 x0 x1 x2 (x3 + 1) _ _ _ hf hw (lv_sub hl [2, 3, 4, 0] rfl)
          · have hf := if_n hc hf
            refine lv_aload_n hx hb dX4_nestsTold_65 rfl (lv_at hl 1 rfl) ?_
            obtain ⟨hT17, hf⟩ := gt_inv hf
            obtain ⟨a18, hP19, hf⟩ := lp_inv hf
            refine r_getP C hw cf4 1 (by decide) rfl hT17 hP19 fl_X4_15 dX4_nestsTold_66 ?_
            refine lv_iload hx hb dX4_nestsTold_69 (lv_at hl 0 rfl) ?_
            obtain ⟨hT20, hf⟩ := gt_inv hf
            obtain ⟨hg21, hf⟩ := gd_inv hf
            refine r_iald C hw hT20 hg21 dX4_nestsTold_71 ?_
            refine lv_ldc hx hb C.2.2.2.1 (C.2.2.2.2.1 _ kc_X4_54) dX4_nestsTold_72 ?_
            refine lv_icmp_ne (tgt := 84) hx hb dX4_nestsTold_74 (by decide) (fun hc => ?_) (fun hc => ?_)
            · have hf := if_n hc hf
              refine lv_iinc (v := (x3 + 1)) (lv' := [(3, .int (x3 + 1)), (4, .int (mI M a3 x3.toNatClampNeg)), (0, .ref (ad x0)), (1, .ref (ad x1)), (2, .ref (ad x2))]) hx hb dX4_nestsTold_84 hl (k := 4) rfl rfl (by decide) rfl (fun ls hl => ?_)
              refine lv_goto (tgt := 20) hx hb dX4_nestsTold_87 (by decide) ?_
              exact ih M14 x0 x1 x2 (x3 + 1) _ _ _ hf hw (lv_sub hl [2, 3, 4, 0] rfl)
            · have hf := if_p hc hf
              refine lv_aload_n hx hb dX4_nestsTold_77 rfl (lv_at hl 1 rfl) ?_
              refine lv_iload_n hx hb dX4_nestsTold_78 rfl (lv_at hl 4 rfl) ?_
              refine lv_iload hx hb dX4_nestsTold_79 (lv_at hl 0 rfl) ?_
              obtain ⟨⟨⟩, M22, hc24, hf⟩ := cl_inv hf
              refine fin_V (run_V C hw mf_X4_move mv_X4_move ml_X4_71 cf4 hT17 (c_X4_move l G A ad hc24) (As := [.int x3, .int (mI M a3 x3.toNatClampNeg)]) (rest := []) hl.1 rfl rfl (Nat.le_of_ble_eq_true rfl) ⟨rfl, rfl, Nat.le_of_ble_eq_true rfl, Nat.le_of_ble_eq_true rfl⟩ ⟨Nat.zero_le _, Nat.zero_le _⟩ dX4_nestsTold_81) hw (fun H locs hw => ?_)
              refine lv_iinc (v := (x3 + 1)) (lv' := [(3, .int (x3 + 1)), (4, .int (mI M a3 x3.toNatClampNeg)), (0, .ref (ad x0)), (1, .ref (ad x1)), (2, .ref (ad x2))]) hx hb dX4_nestsTold_84 hl (k := 4) rfl rfl (by decide) rfl (fun ls hl => ?_)
              refine lv_goto (tgt := 20) hx hb dX4_nestsTold_87 (by decide) ?_
              exact ih M22 x0 x1 x2 (x3 + 1) _ _ _ hf hw (lv_sub hl [2, 3, 4, 0] rfl)
def f_X4_nestsTold (M : Mem) (x0 : Nat) (x1 : Nat) (x2 : Nat) : Option (Unit × Mem) := gt (mT M x0) 5 (lp (mP M x0 0) (fun a2 => cl (f_J7_fill_53178 M a2 (-1000000005)) (fun _ M4 => gt (mT M4 x0) 5 (lp (mP M4 x0 1) (fun a8 => cl (f_J7_fill_53178 M4 a8 (-1000000005)) (fun _ M10 => f_X4_nestsTold_20 FU M10 x0 x1 x2 0))))))
set_option maxHeartbeats 4000000 in
set_option maxRecDepth 100000 in
theorem c_X4_nestsTold (l : Launch) (G : Gd) (A : Nat → Prop) (ad : Nat → Nat) {M : Mem} {x0 : Nat} {x1 : Nat} {x2 : Nat}  {M' : Mem} (hf : f_X4_nestsTold M x0 x1 x2 = some ((), M')) : Ct l yX4_nestsTold cX4_nestsTold 5 none rm_X4_nestsTold [.ref (ad x0), .ref (ad x1), .ref (ad x2)] G A ad M (QV G A ad M') 0 0 := by
  refine ct_start (by decide) (Nat.le_of_ble_eq_true rfl) ?_
  intro p e s m args below meth c ls C hin hw hl
  have C : Cx G A p s m args meth c RX4 cX4_nestsTold 5 none := C
  have hl : lv_has ls 5 [(0, .ref (ad x0)), (1, .ref (ad x1)), (2, .ref (ad x2))] := hl
  obtain ⟨hx, hb, -⟩ := id C
  rw [f_X4_nestsTold] at hf
  refine lv_aload_n hx hb dX4_nestsTold_0 rfl (lv_at hl 0 rfl) ?_
  obtain ⟨hT1, hf⟩ := gt_inv hf
  obtain ⟨a2, hP3, hf⟩ := lp_inv hf
  refine r_getP C hw cf4 0 (by decide) rfl hT1 hP3 fl_X4_9 dX4_nestsTold_1 ?_
  refine lv_ldc hx hb C.2.2.2.1 (C.2.2.2.2.1 _ kc_X4_54) dX4_nestsTold_4 ?_
  obtain ⟨⟨⟩, M4, hc6, hf⟩ := cl_inv hf
  refine fin_V (run_S C hw mf_J7_fill_53178 ms_J7_fill_53178 ml_X4_55 (c_J7_fill_53178 l G A ad hc6) (As := [.ref (ad a2), .int (-1000000005)]) (rest := []) hl.1 rfl rfl (Nat.le_of_ble_eq_true rfl) ⟨rfl, rfl, Nat.le_of_ble_eq_true rfl, Nat.le_of_ble_eq_true rfl⟩ ⟨Nat.zero_le _, Nat.zero_le _⟩ dX4_nestsTold_6) hw (fun H locs hw => ?_)
  refine lv_aload_n hx hb dX4_nestsTold_9 rfl (lv_at hl 0 rfl) ?_
  obtain ⟨hT7, hf⟩ := gt_inv hf
  obtain ⟨a8, hP9, hf⟩ := lp_inv hf
  refine r_getP C hw cf4 1 (by decide) rfl hT7 hP9 fl_X4_15 dX4_nestsTold_10 ?_
  refine lv_ldc hx hb C.2.2.2.1 (C.2.2.2.2.1 _ kc_X4_54) dX4_nestsTold_13 ?_
  obtain ⟨⟨⟩, M10, hc12, hf⟩ := cl_inv hf
  refine fin_V (run_S C hw mf_J7_fill_53178 ms_J7_fill_53178 ml_X4_55 (c_J7_fill_53178 l G A ad hc12) (As := [.ref (ad a8), .int (-1000000005)]) (rest := []) hl.1 rfl rfl (Nat.le_of_ble_eq_true rfl) ⟨rfl, rfl, Nat.le_of_ble_eq_true rfl, Nat.le_of_ble_eq_true rfl⟩ ⟨Nat.zero_le _, Nat.zero_le _⟩ dX4_nestsTold_15) hw (fun H locs hw => ?_)
  refine lv_iconst (v := 0) hx hb dX4_nestsTold_18 (by decide) ?_
  refine lv_istore_n (lv' := [(3, .int 0), (0, .ref (ad x0)), (1, .ref (ad x1)), (2, .ref (ad x2))]) hx hb dX4_nestsTold_19 rfl hl (by decide) rfl (fun ls hl => ?_)
  exact t_X4_nestsTold_20 C FU M10 x0 x1 x2 0 _ _ _ hf hw (lv_sub hl [1, 2, 3, 0] rfl)
/-! StorkVote$Spring.betterFor(LStorkVote$World;I)I -/
abbrev rm_X4_betterFor : Room := { frames := 2, cells := 0, slots := 0, locals := 46 }
def f_X4_betterFor_82 (K10 : Mem → Nat → Nat → Int32 → Int32 → Int32 → Option (Int32 × Mem)) (M : Mem) (x0 : Nat) (x1 : Nat) (x2 : Int32) (x3 : Int32) (x4 : Int32) (x5 : Int32) (s0 : Int32) : Option (Int32 × Mem) := (if x5 = 0 then K10 M x0 x1 x2 x3 (x4 + 1) else (if s0 = 0 then K10 M x0 x1 x2 x3 (x4 + 1) else gt (mT M x0) 5 (cl (f_X4_wants M x0 x1 x2 x4) (fun r2 M1 => (if r2 = 0 then K10 M1 x0 x1 x2 x3 (x4 + 1) else some (x4, M1))))))
set_option maxHeartbeats 4000000 in
set_option maxRecDepth 100000 in
theorem t_X4_betterFor_82 {l : Launch} {p : Program} {e : Env} {s : State} {m : MethodId} {args : Array Value} {below : List Frame} {meth : Method} {c : Code} {G : Gd} {A : Nat → Prop} {ad : Nat → Nat} (C : Cx G A p s m args meth c RX4 cX4_betterFor 7 (some .int)) {r : Int32} {M' : Mem} {K10 : Mem → Nat → Nat → Int32 → Int32 → Int32 → Option (Int32 × Mem)} (hK10 : ∀ (M : Mem) (x0 : Nat) (x1 : Nat) (x2 : Int32) (x3 : Int32) (x4 : Int32) (H : Heap) (locs : List Loc) (ls : Array Slot), K10 M x0 x1 x2 x3 x4 = some (r, M') → Wd G A ad s.heap M H locs → lv_has ls 7 [(0, .ref (ad x0)), (1, .ref (ad x1)), (2, .int x2), (3, .int x3), (4, .int x4)] → W p l e rm_X4_betterFor s m args below meth c H locs 0 0 (MQ below (QI G A ad r M') args s 0 0 A) (F0 m 10 ls [])) : ∀ (M : Mem) (x0 : Nat) (x1 : Nat) (x2 : Int32) (x3 : Int32) (x4 : Int32) (x5 : Int32) (s0 : Int32) (H : Heap) (locs : List Loc) (ls : Array Slot), f_X4_betterFor_82 K10 M x0 x1 x2 x3 x4 x5 s0 = some (r, M') → Wd G A ad s.heap M H locs → lv_has ls 7 [(0, .ref (ad x0)), (1, .ref (ad x1)), (2, .int x2), (3, .int x3), (4, .int x4), (5, .int x5)] → W p l e rm_X4_betterFor s m args below meth c H locs 0 0 (MQ below (QI G A ad r M') args s 0 0 A) (F0 m 82 ls [.int s0]) := by
  obtain ⟨hx, hb, -⟩ := id C
  intro M x0 x1 x2 x3 x4 x5 s0 H locs ls hf hw hl
  rw [f_X4_betterFor_82] at hf
  refine lv_istore (lv' := [(6, .int s0), (0, .ref (ad x0)), (1, .ref (ad x1)), (2, .int x2), (3, .int x3), (4, .int x4), (5, .int x5)]) hx hb dX4_betterFor_82 hl (by decide) rfl (fun ls hl => ?_)
  refine lv_iload hx hb dX4_betterFor_84 (lv_at hl 6 rfl) ?_
  refine lv_if_eq (tgt := 108) hx hb dX4_betterFor_86 (by decide) (fun hc => ?_) (fun hc => ?_)
  · have hf := if_p hc hf
    refine lv_iinc (v := (x4 + 1)) (lv' := [(4, .int (x4 + 1)), (6, .int s0), (0, .ref (ad x0)), (1, .ref (ad x1)), (2, .int x2), (3, .int x3), (5, .int x5)]) hx hb dX4_betterFor_108 hl (k := 5) rfl rfl (by decide) rfl (fun ls hl => ?_)
    refine lv_goto (tgt := 10) hx hb dX4_betterFor_111 (by decide) ?_
    exact hK10 M x0 x1 x2 x3 (x4 + 1) _ _ _ hf hw (lv_sub hl [2, 3, 4, 5, 0] rfl)
  · have hf := if_n hc hf
    refine lv_iload hx hb dX4_betterFor_89 (lv_at hl 0 rfl) ?_
    refine lv_if_eq (tgt := 108) hx hb dX4_betterFor_91 (by decide) (fun hc => ?_) (fun hc => ?_)
    · have hf := if_p hc hf
      refine lv_iinc (v := (x4 + 1)) (lv' := [(4, .int (x4 + 1)), (6, .int s0), (0, .ref (ad x0)), (1, .ref (ad x1)), (2, .int x2), (3, .int x3), (5, .int x5)]) hx hb dX4_betterFor_108 hl (k := 5) rfl rfl (by decide) rfl (fun ls hl => ?_)
      refine lv_goto (tgt := 10) hx hb dX4_betterFor_111 (by decide) ?_
      exact hK10 M x0 x1 x2 x3 (x4 + 1) _ _ _ hf hw (lv_sub hl [2, 3, 4, 5, 0] rfl)
    · have hf := if_n hc hf
      refine lv_aload_n hx hb dX4_betterFor_94 rfl (lv_at hl 1 rfl) ?_
      refine lv_aload_n hx hb dX4_betterFor_95 rfl (lv_at hl 2 rfl) ?_
      refine lv_iload_n hx hb dX4_betterFor_96 rfl (lv_at hl 3 rfl) ?_
      refine lv_iload hx hb dX4_betterFor_97 (lv_at hl 5 rfl) ?_
      obtain ⟨hT4, hf⟩ := gt_inv hf
      obtain ⟨r2, M1, hc3, hf⟩ := cl_inv hf
      refine fin_I (run_V C hw mf_X4_wants mv_X4_wants ml_X4_83 cf4 hT4 (c_X4_wants l G A ad hc3) (As := [.ref (ad x1), .int x2, .int x4]) (rest := []) hl.1 rfl rfl (Nat.le_of_ble_eq_true rfl) ⟨rfl, rfl, Nat.le_of_ble_eq_true rfl, Nat.le_of_ble_eq_true rfl⟩ ⟨Nat.zero_le _, Nat.zero_le _⟩ dX4_betterFor_99) hw (fun H locs hw => ?_)
      refine lv_if_eq (tgt := 108) hx hb dX4_betterFor_102 (by decide) (fun hc => ?_) (fun hc => ?_)
      · have hf := if_p hc hf
        refine lv_iinc (v := (x4 + 1)) (lv' := [(4, .int (x4 + 1)), (6, .int s0), (0, .ref (ad x0)), (1, .ref (ad x1)), (2, .int x2), (3, .int x3), (5, .int x5)]) hx hb dX4_betterFor_108 hl (k := 5) rfl rfl (by decide) rfl (fun ls hl => ?_)
        refine lv_goto (tgt := 10) hx hb dX4_betterFor_111 (by decide) ?_
        exact hK10 M1 x0 x1 x2 x3 (x4 + 1) _ _ _ hf hw (lv_sub hl [2, 3, 4, 5, 0] rfl)
      · have hf := if_n hc hf
        refine lv_iload hx hb dX4_betterFor_105 (lv_at hl 5 rfl) ?_
        exact e_iret C hw hf dX4_betterFor_107
def f_X4_betterFor_48 (K10 : Mem → Nat → Nat → Int32 → Int32 → Int32 → Option (Int32 × Mem)) (M : Mem) (x0 : Nat) (x1 : Nat) (x2 : Int32) (x3 : Int32) (x4 : Int32) (s0 : Int32) : Option (Int32 × Mem) := gt (mT M x0) 5 (lp (mP M x0 1) (fun a2 => gt (mT M a2) 20 (gd (ib x4 (mL M a2)) ((if (mI M a2 x4.toNatClampNeg) = (-1000000005) then f_X4_betterFor_82 K10 M x0 x1 x2 x3 x4 s0 1 else gd (ib x4 (mL M a2)) (gt (mT M x1) 9 (cl (f_X8_keepsFirst M x1 x2 (mI M a2 x4.toNatClampNeg)) (fun r8 M7 => (if r8 = 0 then f_X4_betterFor_82 K10 M7 x0 x1 x2 x3 x4 s0 0 else f_X4_betterFor_82 K10 M7 x0 x1 x2 x3 x4 s0 1)))))))))
set_option maxHeartbeats 4000000 in
set_option maxRecDepth 100000 in
theorem t_X4_betterFor_48 {l : Launch} {p : Program} {e : Env} {s : State} {m : MethodId} {args : Array Value} {below : List Frame} {meth : Method} {c : Code} {G : Gd} {A : Nat → Prop} {ad : Nat → Nat} (C : Cx G A p s m args meth c RX4 cX4_betterFor 7 (some .int)) {r : Int32} {M' : Mem} {K10 : Mem → Nat → Nat → Int32 → Int32 → Int32 → Option (Int32 × Mem)} (hK10 : ∀ (M : Mem) (x0 : Nat) (x1 : Nat) (x2 : Int32) (x3 : Int32) (x4 : Int32) (H : Heap) (locs : List Loc) (ls : Array Slot), K10 M x0 x1 x2 x3 x4 = some (r, M') → Wd G A ad s.heap M H locs → lv_has ls 7 [(0, .ref (ad x0)), (1, .ref (ad x1)), (2, .int x2), (3, .int x3), (4, .int x4)] → W p l e rm_X4_betterFor s m args below meth c H locs 0 0 (MQ below (QI G A ad r M') args s 0 0 A) (F0 m 10 ls [])) : ∀ (M : Mem) (x0 : Nat) (x1 : Nat) (x2 : Int32) (x3 : Int32) (x4 : Int32) (s0 : Int32) (H : Heap) (locs : List Loc) (ls : Array Slot), f_X4_betterFor_48 K10 M x0 x1 x2 x3 x4 s0 = some (r, M') → Wd G A ad s.heap M H locs → lv_has ls 7 [(0, .ref (ad x0)), (1, .ref (ad x1)), (2, .int x2), (3, .int x3), (4, .int x4)] → W p l e rm_X4_betterFor s m args below meth c H locs 0 0 (MQ below (QI G A ad r M') args s 0 0 A) (F0 m 48 ls [.int s0]) := by
  obtain ⟨hx, hb, -⟩ := id C
  intro M x0 x1 x2 x3 x4 s0 H locs ls hf hw hl
  rw [f_X4_betterFor_48] at hf
  refine lv_istore (lv' := [(5, .int s0), (0, .ref (ad x0)), (1, .ref (ad x1)), (2, .int x2), (3, .int x3), (4, .int x4)]) hx hb dX4_betterFor_48 hl (by decide) rfl (fun ls hl => ?_)
  refine lv_aload_n hx hb dX4_betterFor_50 rfl (lv_at hl 1 rfl) ?_
  obtain ⟨hT1, hf⟩ := gt_inv hf
  obtain ⟨a2, hP3, hf⟩ := lp_inv hf
  refine r_getP C hw cf4 1 (by decide) rfl hT1 hP3 fl_X4_15 dX4_betterFor_51 ?_
  refine lv_iload hx hb dX4_betterFor_54 (lv_at hl 5 rfl) ?_
  obtain ⟨hT4, hf⟩ := gt_inv hf
  obtain ⟨hg5, hf⟩ := gd_inv hf
  refine r_iald C hw hT4 hg5 dX4_betterFor_56 ?_
  refine lv_ldc hx hb C.2.2.2.1 (C.2.2.2.2.1 _ kc_X4_54) dX4_betterFor_57 ?_
  refine lv_icmp_eq (tgt := 77) hx hb dX4_betterFor_59 (by decide) (fun hc => ?_) (fun hc => ?_)
  · have hf := if_p hc hf
    refine lv_iconst (v := 1) hx hb dX4_betterFor_77 (by decide) ?_
    refine lv_goto (tgt := 82) hx hb dX4_betterFor_78 (by decide) ?_
    exact t_X4_betterFor_82 C hK10 M x0 x1 x2 x3 x4 s0 1 _ _ _ hf hw (lv_sub hl [1, 2, 3, 4, 5, 0] rfl)
  · have hf := if_n hc hf
    refine lv_aload_n hx hb dX4_betterFor_62 rfl (lv_at hl 2 rfl) ?_
    refine lv_iload_n hx hb dX4_betterFor_63 rfl (lv_at hl 3 rfl) ?_
    refine lv_aload_n hx hb dX4_betterFor_64 rfl (lv_at hl 1 rfl) ?_
    refine r_getP C hw cf4 1 (by decide) rfl hT1 hP3 fl_X4_15 dX4_betterFor_65 ?_
    refine lv_iload hx hb dX4_betterFor_68 (lv_at hl 5 rfl) ?_
    obtain ⟨hg6, hf⟩ := gd_inv hf
    refine r_iald C hw hT4 hg6 dX4_betterFor_70 ?_
    obtain ⟨hT10, hf⟩ := gt_inv hf
    obtain ⟨r8, M7, hc9, hf⟩ := cl_inv hf
    refine fin_I (run_V C hw mf_X8_keepsFirst mv_X8_keepsFirst ml_X4_79 cf8 hT10 (c_X8_keepsFirst l G A ad hc9) (As := [.int x2, .int (mI M a2 x4.toNatClampNeg)]) (rest := []) hl.1 rfl rfl (Nat.le_of_ble_eq_true rfl) ⟨rfl, rfl, Nat.le_of_ble_eq_true rfl, Nat.le_of_ble_eq_true rfl⟩ ⟨Nat.zero_le _, Nat.zero_le _⟩ dX4_betterFor_71) hw (fun H locs hw => ?_)
    refine lv_if_eq (tgt := 81) hx hb dX4_betterFor_74 (by decide) (fun hc => ?_) (fun hc => ?_)
    · have hf := if_p hc hf
      refine lv_iconst (v := 0) hx hb dX4_betterFor_81 (by decide) ?_
      exact t_X4_betterFor_82 C hK10 M7 x0 x1 x2 x3 x4 s0 0 _ _ _ hf hw (lv_sub hl [1, 2, 3, 4, 5, 0] rfl)
    · have hf := if_n hc hf
      refine lv_iconst (v := 1) hx hb dX4_betterFor_77 (by decide) ?_
      refine lv_goto (tgt := 82) hx hb dX4_betterFor_78 (by decide) ?_
      exact t_X4_betterFor_82 C hK10 M7 x0 x1 x2 x3 x4 s0 1 _ _ _ hf hw (lv_sub hl [1, 2, 3, 4, 5, 0] rfl)
def f_X4_betterFor_10 : Nat → Mem → Nat → Nat → Int32 → Int32 → Int32 → Option (Int32 × Mem)
  | 0, _, _, _, _, _, _ => none
  | n + 1, M, x0, x1, x2, x3, x4 => gt (mT M x1) 9 ((if (mI M x1 1) ≤ x4 then some ((-1000000005), M) else (if x3 = (-1000000005) then f_X4_betterFor_48 (f_X4_betterFor_10 n) M x0 x1 x2 x3 x4 1 else gt (mT M x0) 5 (cl (f_X4_liked M x0 x1 x2 x4) (fun r3 M2 => gt (mT M2 x0) 5 (cl (f_X4_liked M2 x0 x1 x2 x3) (fun r7 M6 => (if r3 ≤ r7 then f_X4_betterFor_48 (f_X4_betterFor_10 n) M6 x0 x1 x2 x3 x4 0 else f_X4_betterFor_48 (f_X4_betterFor_10 n) M6 x0 x1 x2 x3 x4 1))))))))
set_option maxHeartbeats 4000000 in
set_option maxRecDepth 100000 in
theorem t_X4_betterFor_10 {l : Launch} {p : Program} {e : Env} {s : State} {m : MethodId} {args : Array Value} {below : List Frame} {meth : Method} {c : Code} {G : Gd} {A : Nat → Prop} {ad : Nat → Nat} (C : Cx G A p s m args meth c RX4 cX4_betterFor 7 (some .int)) {r : Int32} {M' : Mem} : ∀ (n : Nat) (M : Mem) (x0 : Nat) (x1 : Nat) (x2 : Int32) (x3 : Int32) (x4 : Int32) (H : Heap) (locs : List Loc) (ls : Array Slot), f_X4_betterFor_10  n M x0 x1 x2 x3 x4 = some (r, M') → Wd G A ad s.heap M H locs → lv_has ls 7 [(0, .ref (ad x0)), (1, .ref (ad x1)), (2, .int x2), (3, .int x3), (4, .int x4)] → W p l e rm_X4_betterFor s m args below meth c H locs 0 0 (MQ below (QI G A ad r M') args s 0 0 A) (F0 m 10 ls []) := by
  obtain ⟨hx, hb, -⟩ := id C
  intro n
  induction n with
  | zero =>
    intro M x0 x1 x2 x3 x4 H locs ls hf
    rw [f_X4_betterFor_10] at hf
    exact absurd hf (fun h => nomatch h)
  | succ n ih =>
    intro M x0 x1 x2 x3 x4 H locs ls hf hw hl
    rw [f_X4_betterFor_10] at hf
    refine lv_iload hx hb dX4_betterFor_10 (lv_at hl 4 rfl) ?_
    refine lv_aload_n hx hb dX4_betterFor_12 rfl (lv_at hl 1 rfl) ?_
    obtain ⟨hT1, hf⟩ := gt_inv hf
    refine r_getI C hw cf8 1 (by decide) rfl hT1 fl_X4_24 dX4_betterFor_13 ?_
    refine lv_icmp_ge (tgt := 114) hx hb dX4_betterFor_16 (by decide) (fun hc => ?_) (fun hc => ?_)
    · have hf := if_p hc hf
      refine lv_ldc hx hb C.2.2.2.1 (C.2.2.2.2.1 _ kc_X4_54) dX4_betterFor_114 ?_
      exact e_iret C hw hf dX4_betterFor_116
    · have hf := if_n hc hf
      refine lv_iload_n hx hb dX4_betterFor_19 rfl (lv_at hl 3 rfl) ?_
      refine lv_ldc hx hb C.2.2.2.1 (C.2.2.2.2.1 _ kc_X4_54) dX4_betterFor_20 ?_
      refine lv_icmp_eq (tgt := 43) hx hb dX4_betterFor_22 (by decide) (fun hc => ?_) (fun hc => ?_)
      · have hf := if_p hc hf
        refine lv_iconst (v := 1) hx hb dX4_betterFor_43 (by decide) ?_
        refine lv_goto (tgt := 48) hx hb dX4_betterFor_44 (by decide) ?_
        exact t_X4_betterFor_48 C ih M x0 x1 x2 x3 x4 1 _ _ _ hf hw (lv_sub hl [0, 1, 2, 3, 4] rfl)
      · have hf := if_n hc hf
        refine lv_aload_n hx hb dX4_betterFor_25 rfl (lv_at hl 0 rfl) ?_
        refine lv_aload_n hx hb dX4_betterFor_26 rfl (lv_at hl 1 rfl) ?_
        refine lv_iload_n hx hb dX4_betterFor_27 rfl (lv_at hl 2 rfl) ?_
        refine lv_iload hx hb dX4_betterFor_28 (lv_at hl 4 rfl) ?_
        obtain ⟨hT5, hf⟩ := gt_inv hf
        obtain ⟨r3, M2, hc4, hf⟩ := cl_inv hf
        refine fin_I (run_V C hw mf_X4_liked mv_X4_liked ml_X4_47 cf4 hT5 (c_X4_liked l G A ad hc4) (As := [.ref (ad x1), .int x2, .int x4]) (rest := []) hl.1 rfl rfl (Nat.le_of_ble_eq_true rfl) ⟨rfl, rfl, Nat.le_of_ble_eq_true rfl, Nat.le_of_ble_eq_true rfl⟩ ⟨Nat.zero_le _, Nat.zero_le _⟩ dX4_betterFor_30) hw (fun H locs hw => ?_)
        refine lv_aload_n hx hb dX4_betterFor_33 rfl (lv_at hl 0 rfl) ?_
        refine lv_aload_n hx hb dX4_betterFor_34 rfl (lv_at hl 1 rfl) ?_
        refine lv_iload_n hx hb dX4_betterFor_35 rfl (lv_at hl 2 rfl) ?_
        refine lv_iload_n hx hb dX4_betterFor_36 rfl (lv_at hl 3 rfl) ?_
        obtain ⟨hT9, hf⟩ := gt_inv hf
        obtain ⟨r7, M6, hc8, hf⟩ := cl_inv hf
        refine fin_I (run_V C hw mf_X4_liked mv_X4_liked ml_X4_47 cf4 hT9 (c_X4_liked l G A ad hc8) (As := [.ref (ad x1), .int x2, .int x3]) (rest := [.int r3]) hl.1 rfl rfl (Nat.le_of_ble_eq_true rfl) ⟨rfl, rfl, Nat.le_of_ble_eq_true rfl, Nat.le_of_ble_eq_true rfl⟩ ⟨Nat.zero_le _, Nat.zero_le _⟩ dX4_betterFor_37) hw (fun H locs hw => ?_)
        refine lv_icmp_le (tgt := 47) hx hb dX4_betterFor_40 (by decide) (fun hc => ?_) (fun hc => ?_)
        · have hf := if_p hc hf
          refine lv_iconst (v := 0) hx hb dX4_betterFor_47 (by decide) ?_
          exact t_X4_betterFor_48 C ih M6 x0 x1 x2 x3 x4 0 _ _ _ hf hw (lv_sub hl [0, 1, 2, 3, 4] rfl)
        · have hf := if_n hc hf
          refine lv_iconst (v := 1) hx hb dX4_betterFor_43 (by decide) ?_
          refine lv_goto (tgt := 48) hx hb dX4_betterFor_44 (by decide) ?_
          exact t_X4_betterFor_48 C ih M6 x0 x1 x2 x3 x4 1 _ _ _ hf hw (lv_sub hl [0, 1, 2, 3, 4] rfl)
def f_X4_betterFor (M : Mem) (x0 : Nat) (x1 : Nat) (x2 : Int32) : Option (Int32 × Mem) := gt (mT M x0) 5 (lp (mP M x0 0) (fun a2 => gt (mT M a2) 20 (gd (ib x2 (mL M a2)) (f_X4_betterFor_10 FU M x0 x1 x2 (mI M a2 x2.toNatClampNeg) 0))))
set_option maxHeartbeats 4000000 in
set_option maxRecDepth 100000 in
theorem c_X4_betterFor (l : Launch) (G : Gd) (A : Nat → Prop) (ad : Nat → Nat) {M : Mem} {x0 : Nat} {x1 : Nat} {x2 : Int32}  {r : Int32} {M' : Mem} (hf : f_X4_betterFor M x0 x1 x2 = some (r, M')) : Ct l yX4_betterFor cX4_betterFor 7 (some .int) rm_X4_betterFor [.ref (ad x0), .ref (ad x1), .int x2] G A ad M (QI G A ad r M') 0 0 := by
  refine ct_start (by decide) (Nat.le_of_ble_eq_true rfl) ?_
  intro p e s m args below meth c ls C hin hw hl
  have C : Cx G A p s m args meth c RX4 cX4_betterFor 7 (some .int) := C
  have hl : lv_has ls 7 [(0, .ref (ad x0)), (1, .ref (ad x1)), (2, .int x2)] := hl
  obtain ⟨hx, hb, -⟩ := id C
  rw [f_X4_betterFor] at hf
  refine lv_aload_n hx hb dX4_betterFor_0 rfl (lv_at hl 0 rfl) ?_
  obtain ⟨hT1, hf⟩ := gt_inv hf
  obtain ⟨a2, hP3, hf⟩ := lp_inv hf
  refine r_getP C hw cf4 0 (by decide) rfl hT1 hP3 fl_X4_9 dX4_betterFor_1 ?_
  refine lv_iload_n hx hb dX4_betterFor_4 rfl (lv_at hl 2 rfl) ?_
  obtain ⟨hT4, hf⟩ := gt_inv hf
  obtain ⟨hg5, hf⟩ := gd_inv hf
  refine r_iald C hw hT4 hg5 dX4_betterFor_5 ?_
  refine lv_istore_n (lv' := [(3, .int (mI M a2 x2.toNatClampNeg)), (0, .ref (ad x0)), (1, .ref (ad x1)), (2, .int x2)]) hx hb dX4_betterFor_6 rfl hl (by decide) rfl (fun ls hl => ?_)
  refine lv_iconst (v := 0) hx hb dX4_betterFor_7 (by decide) ?_
  refine lv_istore (lv' := [(4, .int 0), (3, .int (mI M a2 x2.toNatClampNeg)), (0, .ref (ad x0)), (1, .ref (ad x1)), (2, .int x2)]) hx hb dX4_betterFor_8 hl (by decide) rfl (fun ls hl => ?_)
  exact t_X4_betterFor_10 C FU M x0 x1 x2 (mI M a2 x2.toNatClampNeg) 0 _ _ _ hf hw (lv_sub hl [2, 3, 4, 1, 0] rfl)
/-! StorkVote$Stork.become(IIZ)V -/
abbrev rm_X5_become : Room := { frames := 0, cells := 0, slots := 0, locals := 0 }
def f_X5_become (M : Mem) (x0 : Nat) (x1 : Int32) (x2 : Int32) (x3 : Int32) : Option (Unit × Mem) := gt (mT M x0) 6 (st (setI M x0 0 x1) (fun M2 => st (setI M2 x0 1 x2) (fun M5 => gd (isB x3) (st (setI M5 x0 2 x3) (fun M9 => some ((), M9))))))
set_option maxHeartbeats 4000000 in
set_option maxRecDepth 100000 in
theorem c_X5_become (l : Launch) (G : Gd) (A : Nat → Prop) (ad : Nat → Nat) {M : Mem} {x0 : Nat} {x1 : Int32} {x2 : Int32} {x3 : Int32}  {M' : Mem} (hf : f_X5_become M x0 x1 x2 x3 = some ((), M')) : Ct l yX5_become cX5_become 4 none rm_X5_become [.ref (ad x0), .int x1, .int x2, .int x3] G A ad M (QV G A ad M') 0 0 := by
  refine ct_start (by decide) (Nat.le_of_ble_eq_true rfl) ?_
  intro p e s m args below meth c ls C hin hw hl
  have C : Cx G A p s m args meth c RX5 cX5_become 4 none := C
  have hl : lv_has ls 4 [(0, .ref (ad x0)), (1, .int x1), (2, .int x2), (3, .int x3)] := hl
  obtain ⟨hx, hb, -⟩ := id C
  rw [f_X5_become] at hf
  refine lv_aload_n hx hb dX5_become_0 rfl (lv_at hl 0 rfl) ?_
  refine lv_iload_n hx hb dX5_become_1 rfl (lv_at hl 1 rfl) ?_
  obtain ⟨hT1, hf⟩ := gt_inv hf
  obtain ⟨M2, e3, hf⟩ := st_inv hf
  have g4 := sg_I e3
  refine r_putI C hw cf5 0 (by decide) rfl hT1 e3 fl_X5_7 rfl rfl rfl dX5_become_2 (fun H locs hw => ?_)
  refine lv_aload_n hx hb dX5_become_5 rfl (lv_at hl 0 rfl) ?_
  refine lv_iload_n hx hb dX5_become_6 rfl (lv_at hl 2 rfl) ?_
  obtain ⟨M5, e6, hf⟩ := st_inv hf
  have g7 := sg_I e6
  refine r_putI C hw cf5 1 (by decide) rfl (T_of g4 hT1) e6 fl_X5_13 rfl rfl rfl dX5_become_7 (fun H locs hw => ?_)
  refine lv_aload_n hx hb dX5_become_10 rfl (lv_at hl 0 rfl) ?_
  refine lv_iload_n hx hb dX5_become_11 rfl (lv_at hl 3 rfl) ?_
  obtain ⟨hg8, hf⟩ := gd_inv hf
  obtain ⟨M9, e10, hf⟩ := st_inv hf
  have g11 := sg_I e10
  refine r_putI C hw cf5 2 (by decide) rfl (T_of g7 (T_of g4 hT1)) e10 fl_X5_16 rfl (isB_nar hg8) (isB_fit hg8) dX5_become_12 (fun H locs hw => ?_)
  exact e_vret C hw hf dX5_become_15
/-! StorkVote$Stork.take(LStorkVote$Stork;)V -/
abbrev rm_X5_take : Room := { frames := 1, cells := 0, slots := 0, locals := 23 }
def f_X5_take (M : Mem) (x0 : Nat) (x1 : Nat) : Option (Unit × Mem) := gt (mT M x1) 6 (gt (mT M x0) 6 (cl (f_X5_become M x0 (mI M x1 0) (mI M x1 1) (mI M x1 2)) (fun _ M2 => some ((), M2))))
set_option maxHeartbeats 4000000 in
set_option maxRecDepth 100000 in
theorem c_X5_take (l : Launch) (G : Gd) (A : Nat → Prop) (ad : Nat → Nat) {M : Mem} {x0 : Nat} {x1 : Nat}  {M' : Mem} (hf : f_X5_take M x0 x1 = some ((), M')) : Ct l yX5_take cX5_take 2 none rm_X5_take [.ref (ad x0), .ref (ad x1)] G A ad M (QV G A ad M') 0 0 := by
  refine ct_start (by decide) (Nat.le_of_ble_eq_true rfl) ?_
  intro p e s m args below meth c ls C hin hw hl
  have C : Cx G A p s m args meth c RX5 cX5_take 2 none := C
  have hl : lv_has ls 2 [(0, .ref (ad x0)), (1, .ref (ad x1))] := hl
  obtain ⟨hx, hb, -⟩ := id C
  rw [f_X5_take] at hf
  refine lv_aload_n hx hb dX5_take_0 rfl (lv_at hl 0 rfl) ?_
  refine lv_aload_n hx hb dX5_take_1 rfl (lv_at hl 1 rfl) ?_
  obtain ⟨hT1, hf⟩ := gt_inv hf
  refine r_getI C hw cf5 0 (by decide) rfl hT1 fl_X5_7 dX5_take_2 ?_
  refine lv_aload_n hx hb dX5_take_5 rfl (lv_at hl 1 rfl) ?_
  refine r_getI C hw cf5 1 (by decide) rfl hT1 fl_X5_13 dX5_take_6 ?_
  refine lv_aload_n hx hb dX5_take_9 rfl (lv_at hl 1 rfl) ?_
  refine r_getI C hw cf5 2 (by decide) rfl hT1 fl_X5_16 dX5_take_10 ?_
  obtain ⟨hT5, hf⟩ := gt_inv hf
  obtain ⟨⟨⟩, M2, hc4, hf⟩ := cl_inv hf
  refine fin_V (run_V C hw mf_X5_become mv_X5_become ml_X5_20 cf5 hT5 (c_X5_become l G A ad hc4) (As := [.int (mI M x1 0), .int (mI M x1 1), .int (mI M x1 2)]) (rest := []) hl.1 rfl rfl (Nat.le_of_ble_eq_true rfl) ⟨rfl, rfl, Nat.le_of_ble_eq_true rfl, Nat.le_of_ble_eq_true rfl⟩ ⟨Nat.zero_le _, Nat.zero_le _⟩ dX5_take_13) hw (fun H locs hw => ?_)
  exact e_vret C hw hf dX5_take_16
/-! StorkVote$Tape.put(I)V -/
abbrev rm_X6_put : Room := { frames := 0, cells := 0, slots := 0, locals := 0 }
def f_X6_put_3 : Nat → Mem → Nat → Int32 → Int32 → Option (Unit × Mem)
  | 0, _, _, _, _ => none
  | n + 1, M, x0, x1, x2 => (if x2 < 0 then some ((), M) else gt (mT M x0) 7 ((if 96 ≤ (mI M x0 1) then some ((), M) else lp (mP M x0 0) (fun a2 => gt (mT M a2) 20 (gd (ib (mI M x0 1) (mL M a2)) (st (setI M a2 (mI M x0 1).toNatClampNeg ((ushr x1 x2) &&& 255)) (fun M6 => st (setI M6 x0 1 ((mI M6 x0 1) + 1)) (fun M9 => f_X6_put_3 n M9 x0 x1 (x2 + (-8))))))))))
set_option maxHeartbeats 4000000 in
set_option maxRecDepth 100000 in
theorem t_X6_put_3 {l : Launch} {p : Program} {e : Env} {s : State} {m : MethodId} {args : Array Value} {below : List Frame} {meth : Method} {c : Code} {G : Gd} {A : Nat → Prop} {ad : Nat → Nat} (C : Cx G A p s m args meth c RX6 cX6_put 3 none) {M' : Mem} : ∀ (n : Nat) (M : Mem) (x0 : Nat) (x1 : Int32) (x2 : Int32) (H : Heap) (locs : List Loc) (ls : Array Slot), f_X6_put_3  n M x0 x1 x2 = some ((), M') → Wd G A ad s.heap M H locs → lv_has ls 3 [(0, .ref (ad x0)), (1, .int x1), (2, .int x2)] → W p l e rm_X6_put s m args below meth c H locs 0 0 (MQ below (QV G A ad M') args s 0 0 A) (F0 m 3 ls []) := by
  obtain ⟨hx, hb, -⟩ := id C
  intro n
  induction n with
  | zero =>
    intro M x0 x1 x2 H locs ls hf
    rw [f_X6_put_3] at hf
    exact absurd hf (fun h => nomatch h)
  | succ n ih =>
    intro M x0 x1 x2 H locs ls hf hw hl
    rw [f_X6_put_3] at hf
    refine lv_iload_n hx hb dX6_put_3 rfl (lv_at hl 2 rfl) ?_
    refine lv_if_lt (tgt := 48) hx hb dX6_put_4 (by decide) (fun hc => ?_) (fun hc => ?_)
    · have hf := if_p hc hf
      exact e_vret C hw hf dX6_put_48
    · have hf := if_n hc hf
      refine lv_aload_n hx hb dX6_put_7 rfl (lv_at hl 0 rfl) ?_
      obtain ⟨hT1, hf⟩ := gt_inv hf
      refine r_getI C hw cf6 1 (by decide) rfl hT1 fl_X6_15 dX6_put_8 ?_
      refine lv_bipush (v := 96) hx hb dX6_put_11 (by decide) ?_
      refine lv_icmp_ge (tgt := 48) hx hb dX6_put_13 (by decide) (fun hc => ?_) (fun hc => ?_)
      · have hf := if_p hc hf
        exact e_vret C hw hf dX6_put_48
      · have hf := if_n hc hf
        refine lv_aload_n hx hb dX6_put_16 rfl (lv_at hl 0 rfl) ?_
        obtain ⟨a2, hP3, hf⟩ := lp_inv hf
        refine r_getP C hw cf6 0 (by decide) rfl hT1 hP3 fl_X6_9 dX6_put_17 ?_
        refine lv_aload_n hx hb dX6_put_20 rfl (lv_at hl 0 rfl) ?_
        refine r_getI C hw cf6 1 (by decide) rfl hT1 fl_X6_15 dX6_put_21 ?_
        refine lv_iload_n hx hb dX6_put_24 rfl (lv_at hl 1 rfl) ?_
        refine lv_iload_n hx hb dX6_put_25 rfl (lv_at hl 2 rfl) ?_
        refine lv_iushr (v := ushr x1 x2) hx hb dX6_put_26 rfl ?_
        refine lv_sipush (v := 255) hx hb dX6_put_27 (by decide) ?_
        refine lv_iand hx hb dX6_put_30 ?_
        obtain ⟨hT4, hf⟩ := gt_inv hf
        obtain ⟨hg5, hf⟩ := gd_inv hf
        obtain ⟨M6, e7, hf⟩ := st_inv hf
        have g8 := sg_I e7
        refine r_iast C hw hT4 hg5 e7 dX6_put_31 (fun H locs hw => ?_)
        refine lv_aload_n hx hb dX6_put_32 rfl (lv_at hl 0 rfl) ?_
        refine lv_dup hx hb dX6_put_33 rfl ?_
        refine r_getI C hw cf6 1 (by decide) rfl (T_of g8 hT1) fl_X6_15 dX6_put_34 ?_
        refine lv_iconst (v := 1) hx hb dX6_put_37 (by decide) ?_
        refine lv_iadd hx hb dX6_put_38 ?_
        obtain ⟨M9, e10, hf⟩ := st_inv hf
        have g11 := sg_I e10
        refine r_putI C hw cf6 1 (by decide) rfl (T_of g8 hT1) e10 fl_X6_15 rfl rfl rfl dX6_put_39 (fun H locs hw => ?_)
        refine lv_iinc (v := (x2 + (-8))) (lv' := [(2, .int (x2 + (-8))), (0, .ref (ad x0)), (1, .int x1)]) hx hb dX6_put_42 hl (k := 2) rfl rfl (by decide) rfl (fun ls hl => ?_)
        refine lv_goto (tgt := 3) hx hb dX6_put_45 (by decide) ?_
        exact ih M9 x0 x1 (x2 + (-8)) _ _ _ hf hw (lv_sub hl [1, 2, 0] rfl)
def f_X6_put (M : Mem) (x0 : Nat) (x1 : Int32) : Option (Unit × Mem) := f_X6_put_3 FU M x0 x1 24
set_option maxHeartbeats 4000000 in
set_option maxRecDepth 100000 in
theorem c_X6_put (l : Launch) (G : Gd) (A : Nat → Prop) (ad : Nat → Nat) {M : Mem} {x0 : Nat} {x1 : Int32}  {M' : Mem} (hf : f_X6_put M x0 x1 = some ((), M')) : Ct l yX6_put cX6_put 3 none rm_X6_put [.ref (ad x0), .int x1] G A ad M (QV G A ad M') 0 0 := by
  refine ct_start (by decide) (Nat.le_of_ble_eq_true rfl) ?_
  intro p e s m args below meth c ls C hin hw hl
  have C : Cx G A p s m args meth c RX6 cX6_put 3 none := C
  have hl : lv_has ls 3 [(0, .ref (ad x0)), (1, .int x1)] := hl
  obtain ⟨hx, hb, -⟩ := id C
  rw [f_X6_put] at hf
  refine lv_bipush (v := 24) hx hb dX6_put_0 (by decide) ?_
  refine lv_istore_n (lv' := [(2, .int 24), (0, .ref (ad x0)), (1, .int x1)]) hx hb dX6_put_2 rfl hl (by decide) rfl (fun ls hl => ?_)
  exact t_X6_put_3 C FU M x0 x1 24 _ _ _ hf hw (lv_sub hl [1, 2, 0] rfl)
/-! StorkVote$World.take(LStorkVote$World;)V -/
abbrev rm_X8_take : Room := { frames := 2, cells := 0, slots := 0, locals := 45 }
def f_X8_take_122 : Nat → Mem → Nat → Nat → Int32 → Option (Unit × Mem)
  | 0, _, _, _, _ => none
  | n + 1, M, x0, x1, x2 => gt (mT M x0) 9 ((if (mI M x0 8) ≤ x2 then some ((), M) else lp (mP M x0 7) (fun a2 => gt (mT M x1) 9 (lp (mP M x1 7) (fun a5 => gt (mT M a5) 25 (gd (ib x2 (mL M a5)) (nm (mX M a5 x2.toNatClampNeg) (fun q9 => on q9 (none) (fun b10 => gt (mT M a2) 25 (gt (mT M b10) 8 (gd (ib x2 (mL M a2)) (st (setX M a2 x2.toNatClampNeg b10) (fun M14 => f_X8_take_122 n M14 x0 x1 (x2 + 1))))))))))))))
set_option maxHeartbeats 4000000 in
set_option maxRecDepth 100000 in
theorem t_X8_take_122 {l : Launch} {p : Program} {e : Env} {s : State} {m : MethodId} {args : Array Value} {below : List Frame} {meth : Method} {c : Code} {G : Gd} {A : Nat → Prop} {ad : Nat → Nat} (C : Cx G A p s m args meth c RX8 cX8_take 3 none) {M' : Mem} : ∀ (n : Nat) (M : Mem) (x0 : Nat) (x1 : Nat) (x2 : Int32) (H : Heap) (locs : List Loc) (ls : Array Slot), f_X8_take_122  n M x0 x1 x2 = some ((), M') → Wd G A ad s.heap M H locs → lv_has ls 3 [(0, .ref (ad x0)), (1, .ref (ad x1)), (2, .int x2)] → W p l e rm_X8_take s m args below meth c H locs 0 0 (MQ below (QV G A ad M') args s 0 0 A) (F0 m 122 ls []) := by
  obtain ⟨hx, hb, -⟩ := id C
  intro n
  induction n with
  | zero =>
    intro M x0 x1 x2 H locs ls hf
    rw [f_X8_take_122] at hf
    exact absurd hf (fun h => nomatch h)
  | succ n ih =>
    intro M x0 x1 x2 H locs ls hf hw hl
    rw [f_X8_take_122] at hf
    refine lv_iload_n hx hb dX8_take_122 rfl (lv_at hl 2 rfl) ?_
    refine lv_aload_n hx hb dX8_take_123 rfl (lv_at hl 0 rfl) ?_
    obtain ⟨hT1, hf⟩ := gt_inv hf
    refine r_getI C hw cf8 8 (by decide) rfl hT1 fl_X8_64 dX8_take_124 ?_
    refine lv_icmp_ge (tgt := 148) hx hb dX8_take_127 (by decide) (fun hc => ?_) (fun hc => ?_)
    · have hf := if_p hc hf
      exact e_vret C hw hf dX8_take_148
    · have hf := if_n hc hf
      refine lv_aload_n hx hb dX8_take_130 rfl (lv_at hl 0 rfl) ?_
      obtain ⟨a2, hP3, hf⟩ := lp_inv hf
      refine r_getP C hw cf8 7 (by decide) rfl hT1 hP3 fl_X8_33 dX8_take_131 ?_
      refine lv_iload_n hx hb dX8_take_134 rfl (lv_at hl 2 rfl) ?_
      refine lv_aload_n hx hb dX8_take_135 rfl (lv_at hl 1 rfl) ?_
      obtain ⟨hT4, hf⟩ := gt_inv hf
      obtain ⟨a5, hP6, hf⟩ := lp_inv hf
      refine r_getP C hw cf8 7 (by decide) rfl hT4 hP6 fl_X8_33 dX8_take_136 ?_
      refine lv_iload_n hx hb dX8_take_139 rfl (lv_at hl 2 rfl) ?_
      obtain ⟨hT7, hf⟩ := gt_inv hf
      obtain ⟨hg8, hf⟩ := gd_inv hf
      obtain ⟨q9, hqq9, hf⟩ := nm_inv hf
      refine r_xald C hw hT7 hg8 dX8_take_140 ?_
      rw [← hqq9]
      rcases q9 with _ | b10
      · have hf := on_n hf
        exact nomatch hf
      · have hf := on_s hf
        obtain ⟨hT11, hf⟩ := gt_inv hf
        obtain ⟨hT12, hf⟩ := gt_inv hf
        obtain ⟨hg13, hf⟩ := gd_inv hf
        obtain ⟨M14, e15, hf⟩ := st_inv hf
        have g16 := sg_X e15
        refine r_xast C hw hT11 hT12 hg13 e15 dX8_take_141 (fun H locs hw => ?_)
        refine lv_iinc (v := (x2 + 1)) (lv' := [(2, .int (x2 + 1)), (0, .ref (ad x0)), (1, .ref (ad x1))]) hx hb dX8_take_142 hl (k := 2) rfl rfl (by decide) rfl (fun ls hl => ?_)
        refine lv_goto (tgt := 122) hx hb dX8_take_145 (by decide) ?_
        exact ih M14 x0 x1 (x2 + 1) _ _ _ hf hw (lv_sub hl [1, 2, 0] rfl)
def f_X8_take_49 : Nat → Mem → Nat → Nat → Int32 → Option (Unit × Mem)
  | 0, _, _, _, _ => none
  | n + 1, M, x0, x1, x2 => gt (mT M x0) 9 ((if (mI M x0 3) ≤ x2 then gt (mT M x1) 9 (lp (mP M x1 4) (fun a3 => lp (mP M x0 4) (fun a5 => gt (mT M a5) 20 (gt (mT M a3) 20 (gd ((decide (0 ≤ (0 : Int32)) && decide (0 ≤ (0 : Int32)) && decide (0 ≤ (nI (mL M a5))) && decide ((0 : Int32).toNatClampNeg + (nI (mL M a5)).toNatClampNeg ≤ mL M a3) && decide ((0 : Int32).toNatClampNeg + (nI (mL M a5)).toNatClampNeg ≤ mL M a5))) (st (setR M a5 (va_cpy (fun j => mI M a3 j) (fun j => mI M a5 j) (0 : Int32).toNatClampNeg (0 : Int32).toNatClampNeg (nI (mL M a5)).toNatClampNeg)) (fun M10 => st (setI M10 x0 5 (mI M10 x1 5)) (fun M13 => st (setI M13 x0 6 (mI M13 x1 6)) (fun M16 => st (setI M16 x0 8 (mI M16 x1 8)) (fun M19 => f_X8_take_122 FU M19 x0 x1 0)))))))))) else lp (mP M x0 2) (fun a22 => gt (mT M a22) 24 (gd (ib x2 (mL M a22)) (lp (mP M a22 x2.toNatClampNeg) (fun a26 => gt (mT M x1) 9 (lp (mP M x1 2) (fun a29 => gt (mT M a29) 24 (gd (ib x2 (mL M a29)) (lp (mP M a29 x2.toNatClampNeg) (fun a33 => gt (mT M a26) 6 (cl (f_X5_take M a26 a33) (fun _ M35 => f_X8_take_49 n M35 x0 x1 (x2 + 1))))))))))))))
set_option maxHeartbeats 4000000 in
set_option maxRecDepth 100000 in
theorem t_X8_take_49 {l : Launch} {p : Program} {e : Env} {s : State} {m : MethodId} {args : Array Value} {below : List Frame} {meth : Method} {c : Code} {G : Gd} {A : Nat → Prop} {ad : Nat → Nat} (C : Cx G A p s m args meth c RX8 cX8_take 3 none) {M' : Mem} : ∀ (n : Nat) (M : Mem) (x0 : Nat) (x1 : Nat) (x2 : Int32) (H : Heap) (locs : List Loc) (ls : Array Slot), f_X8_take_49  n M x0 x1 x2 = some ((), M') → Wd G A ad s.heap M H locs → lv_has ls 3 [(0, .ref (ad x0)), (1, .ref (ad x1)), (2, .int x2)] → W p l e rm_X8_take s m args below meth c H locs 0 0 (MQ below (QV G A ad M') args s 0 0 A) (F0 m 49 ls []) := by
  obtain ⟨hx, hb, -⟩ := id C
  intro n
  induction n with
  | zero =>
    intro M x0 x1 x2 H locs ls hf
    rw [f_X8_take_49] at hf
    exact absurd hf (fun h => nomatch h)
  | succ n ih =>
    intro M x0 x1 x2 H locs ls hf hw hl
    rw [f_X8_take_49] at hf
    refine lv_iload_n hx hb dX8_take_49 rfl (lv_at hl 2 rfl) ?_
    refine lv_aload_n hx hb dX8_take_50 rfl (lv_at hl 0 rfl) ?_
    obtain ⟨hT1, hf⟩ := gt_inv hf
    refine r_getI C hw cf8 3 (by decide) rfl hT1 fl_X8_49 dX8_take_51 ?_
    refine lv_icmp_ge (tgt := 78) hx hb dX8_take_54 (by decide) (fun hc => ?_) (fun hc => ?_)
    · have hf := if_p hc hf
      refine lv_aload_n hx hb dX8_take_78 rfl (lv_at hl 1 rfl) ?_
      obtain ⟨hT2, hf⟩ := gt_inv hf
      obtain ⟨a3, hP4, hf⟩ := lp_inv hf
      refine r_getP C hw cf8 4 (by decide) rfl hT2 hP4 fl_X8_23 dX8_take_79 ?_
      refine lv_iconst (v := 0) hx hb dX8_take_82 (by decide) ?_
      refine lv_aload_n hx hb dX8_take_83 rfl (lv_at hl 0 rfl) ?_
      obtain ⟨a5, hP6, hf⟩ := lp_inv hf
      refine r_getP C hw cf8 4 (by decide) rfl hT1 hP6 fl_X8_23 dX8_take_84 ?_
      refine lv_iconst (v := 0) hx hb dX8_take_87 (by decide) ?_
      refine lv_aload_n hx hb dX8_take_88 rfl (lv_at hl 0 rfl) ?_
      refine r_getP C hw cf8 4 (by decide) rfl hT1 hP6 fl_X8_23 dX8_take_89 ?_
      obtain ⟨hT7, hf⟩ := gt_inv hf
      refine r_alen C hw hT7 dX8_take_92 ?_
      obtain ⟨hT8, hf⟩ := gt_inv hf
      obtain ⟨hg9, hf⟩ := gd_inv hf
      obtain ⟨M10, e11, hf⟩ := st_inv hf
      have g12 := sg_R e11
      refine r_copy C hw hl.1 hT8 hT7 hg9 e11 mk_X8_55 cp_n cp_s cp_i (Nat.le_of_ble_eq_true rfl) (Nat.le_of_ble_eq_true rfl) dX8_take_93 (fun H locs hw => ?_)
      refine lv_aload_n hx hb dX8_take_96 rfl (lv_at hl 0 rfl) ?_
      refine lv_aload_n hx hb dX8_take_97 rfl (lv_at hl 1 rfl) ?_
      refine r_getI C hw cf8 5 (by decide) rfl (T_of g12 hT2) fl_X8_61 dX8_take_98 ?_
      obtain ⟨M13, e14, hf⟩ := st_inv hf
      have g15 := sg_I e14
      refine r_putI C hw cf8 5 (by decide) rfl (T_of g12 hT1) e14 fl_X8_61 rfl rfl rfl dX8_take_101 (fun H locs hw => ?_)
      refine lv_aload_n hx hb dX8_take_104 rfl (lv_at hl 0 rfl) ?_
      refine lv_aload_n hx hb dX8_take_105 rfl (lv_at hl 1 rfl) ?_
      refine r_getI C hw cf8 6 (by decide) rfl (T_of g15 (T_of g12 hT2)) fl_X8_27 dX8_take_106 ?_
      obtain ⟨M16, e17, hf⟩ := st_inv hf
      have g18 := sg_I e17
      refine r_putI C hw cf8 6 (by decide) rfl (T_of g15 (T_of g12 hT1)) e17 fl_X8_27 rfl rfl rfl dX8_take_109 (fun H locs hw => ?_)
      refine lv_aload_n hx hb dX8_take_112 rfl (lv_at hl 0 rfl) ?_
      refine lv_aload_n hx hb dX8_take_113 rfl (lv_at hl 1 rfl) ?_
      refine r_getI C hw cf8 8 (by decide) rfl (T_of g18 (T_of g15 (T_of g12 hT2))) fl_X8_64 dX8_take_114 ?_
      obtain ⟨M19, e20, hf⟩ := st_inv hf
      have g21 := sg_I e20
      refine r_putI C hw cf8 8 (by decide) rfl (T_of g18 (T_of g15 (T_of g12 hT1))) e20 fl_X8_64 rfl rfl rfl dX8_take_117 (fun H locs hw => ?_)
      refine lv_iconst (v := 0) hx hb dX8_take_120 (by decide) ?_
      refine lv_istore_n (lv' := [(2, .int 0), (0, .ref (ad x0)), (1, .ref (ad x1))]) hx hb dX8_take_121 rfl hl (by decide) rfl (fun ls hl => ?_)
      exact t_X8_take_122 C FU M19 x0 x1 0 _ _ _ hf hw (lv_sub hl [1, 2, 0] rfl)
    · have hf := if_n hc hf
      refine lv_aload_n hx hb dX8_take_57 rfl (lv_at hl 0 rfl) ?_
      obtain ⟨a22, hP23, hf⟩ := lp_inv hf
      refine r_getP C hw cf8 2 (by decide) rfl hT1 hP23 fl_X8_19 dX8_take_58 ?_
      refine lv_iload_n hx hb dX8_take_61 rfl (lv_at hl 2 rfl) ?_
      obtain ⟨hT24, hf⟩ := gt_inv hf
      obtain ⟨hg25, hf⟩ := gd_inv hf
      obtain ⟨a26, hP27, hf⟩ := lp_inv hf
      refine r_aald C hw 4 rfl (by decide) (by decide) hT24 hg25 hP27 dX8_take_62 ?_
      refine lv_aload_n hx hb dX8_take_63 rfl (lv_at hl 1 rfl) ?_
      obtain ⟨hT28, hf⟩ := gt_inv hf
      obtain ⟨a29, hP30, hf⟩ := lp_inv hf
      refine r_getP C hw cf8 2 (by decide) rfl hT28 hP30 fl_X8_19 dX8_take_64 ?_
      refine lv_iload_n hx hb dX8_take_67 rfl (lv_at hl 2 rfl) ?_
      obtain ⟨hT31, hf⟩ := gt_inv hf
      obtain ⟨hg32, hf⟩ := gd_inv hf
      obtain ⟨a33, hP34, hf⟩ := lp_inv hf
      refine r_aald C hw 4 rfl (by decide) (by decide) hT31 hg32 hP34 dX8_take_68 ?_
      obtain ⟨hT38, hf⟩ := gt_inv hf
      obtain ⟨⟨⟩, M35, hc37, hf⟩ := cl_inv hf
      refine fin_V (run_V C hw mf_X5_take mv_X5_take ml_X8_52 cf5 hT38 (c_X5_take l G A ad hc37) (As := [.ref (ad a33)]) (rest := []) hl.1 rfl rfl (Nat.le_of_ble_eq_true rfl) ⟨rfl, rfl, Nat.le_of_ble_eq_true rfl, Nat.le_of_ble_eq_true rfl⟩ ⟨Nat.zero_le _, Nat.zero_le _⟩ dX8_take_69) hw (fun H locs hw => ?_)
      refine lv_iinc (v := (x2 + 1)) (lv' := [(2, .int (x2 + 1)), (0, .ref (ad x0)), (1, .ref (ad x1))]) hx hb dX8_take_72 hl (k := 2) rfl rfl (by decide) rfl (fun ls hl => ?_)
      refine lv_goto (tgt := 49) hx hb dX8_take_75 (by decide) ?_
      exact ih M35 x0 x1 (x2 + 1) _ _ _ hf hw (lv_sub hl [1, 2, 0] rfl)
def f_X8_take_10 : Nat → Mem → Nat → Nat → Int32 → Option (Unit × Mem)
  | 0, _, _, _, _ => none
  | n + 1, M, x0, x1, x2 => gt (mT M x0) 9 ((if (mI M x0 1) ≤ x2 then gt (mT M x1) 9 (st (setI M x0 3 (mI M x1 3)) (fun M3 => f_X8_take_49 FU M3 x0 x1 0)) else lp (mP M x0 0) (fun a6 => gt (mT M a6) 23 (gd (ib x2 (mL M a6)) (lp (mP M a6 x2.toNatClampNeg) (fun a10 => gt (mT M x1) 9 (lp (mP M x1 0) (fun a13 => gt (mT M a13) 23 (gd (ib x2 (mL M a13)) (lp (mP M a13 x2.toNatClampNeg) (fun a17 => gt (mT M a10) 1 (cl (f_X0_take M a10 a17) (fun _ M19 => f_X8_take_10 n M19 x0 x1 (x2 + 1))))))))))))))
set_option maxHeartbeats 4000000 in
set_option maxRecDepth 100000 in
theorem t_X8_take_10 {l : Launch} {p : Program} {e : Env} {s : State} {m : MethodId} {args : Array Value} {below : List Frame} {meth : Method} {c : Code} {G : Gd} {A : Nat → Prop} {ad : Nat → Nat} (C : Cx G A p s m args meth c RX8 cX8_take 3 none) {M' : Mem} : ∀ (n : Nat) (M : Mem) (x0 : Nat) (x1 : Nat) (x2 : Int32) (H : Heap) (locs : List Loc) (ls : Array Slot), f_X8_take_10  n M x0 x1 x2 = some ((), M') → Wd G A ad s.heap M H locs → lv_has ls 3 [(0, .ref (ad x0)), (1, .ref (ad x1)), (2, .int x2)] → W p l e rm_X8_take s m args below meth c H locs 0 0 (MQ below (QV G A ad M') args s 0 0 A) (F0 m 10 ls []) := by
  obtain ⟨hx, hb, -⟩ := id C
  intro n
  induction n with
  | zero =>
    intro M x0 x1 x2 H locs ls hf
    rw [f_X8_take_10] at hf
    exact absurd hf (fun h => nomatch h)
  | succ n ih =>
    intro M x0 x1 x2 H locs ls hf hw hl
    rw [f_X8_take_10] at hf
    refine lv_iload_n hx hb dX8_take_10 rfl (lv_at hl 2 rfl) ?_
    refine lv_aload_n hx hb dX8_take_11 rfl (lv_at hl 0 rfl) ?_
    obtain ⟨hT1, hf⟩ := gt_inv hf
    refine r_getI C hw cf8 1 (by decide) rfl hT1 fl_X8_42 dX8_take_12 ?_
    refine lv_icmp_ge (tgt := 39) hx hb dX8_take_15 (by decide) (fun hc => ?_) (fun hc => ?_)
    · have hf := if_p hc hf
      refine lv_aload_n hx hb dX8_take_39 rfl (lv_at hl 0 rfl) ?_
      refine lv_aload_n hx hb dX8_take_40 rfl (lv_at hl 1 rfl) ?_
      obtain ⟨hT2, hf⟩ := gt_inv hf
      refine r_getI C hw cf8 3 (by decide) rfl hT2 fl_X8_49 dX8_take_41 ?_
      obtain ⟨M3, e4, hf⟩ := st_inv hf
      have g5 := sg_I e4
      refine r_putI C hw cf8 3 (by decide) rfl hT1 e4 fl_X8_49 rfl rfl rfl dX8_take_44 (fun H locs hw => ?_)
      refine lv_iconst (v := 0) hx hb dX8_take_47 (by decide) ?_
      refine lv_istore_n (lv' := [(2, .int 0), (0, .ref (ad x0)), (1, .ref (ad x1))]) hx hb dX8_take_48 rfl hl (by decide) rfl (fun ls hl => ?_)
      exact t_X8_take_49 C FU M3 x0 x1 0 _ _ _ hf hw (lv_sub hl [1, 2, 0] rfl)
    · have hf := if_n hc hf
      refine lv_aload_n hx hb dX8_take_18 rfl (lv_at hl 0 rfl) ?_
      obtain ⟨a6, hP7, hf⟩ := lp_inv hf
      refine r_getP C hw cf8 0 (by decide) rfl hT1 hP7 fl_X8_11 dX8_take_19 ?_
      refine lv_iload_n hx hb dX8_take_22 rfl (lv_at hl 2 rfl) ?_
      obtain ⟨hT8, hf⟩ := gt_inv hf
      obtain ⟨hg9, hf⟩ := gd_inv hf
      obtain ⟨a10, hP11, hf⟩ := lp_inv hf
      refine r_aald C hw 3 rfl (by decide) (by decide) hT8 hg9 hP11 dX8_take_23 ?_
      refine lv_aload_n hx hb dX8_take_24 rfl (lv_at hl 1 rfl) ?_
      obtain ⟨hT12, hf⟩ := gt_inv hf
      obtain ⟨a13, hP14, hf⟩ := lp_inv hf
      refine r_getP C hw cf8 0 (by decide) rfl hT12 hP14 fl_X8_11 dX8_take_25 ?_
      refine lv_iload_n hx hb dX8_take_28 rfl (lv_at hl 2 rfl) ?_
      obtain ⟨hT15, hf⟩ := gt_inv hf
      obtain ⟨hg16, hf⟩ := gd_inv hf
      obtain ⟨a17, hP18, hf⟩ := lp_inv hf
      refine r_aald C hw 3 rfl (by decide) (by decide) hT15 hg16 hP18 dX8_take_29 ?_
      obtain ⟨hT22, hf⟩ := gt_inv hf
      obtain ⟨⟨⟩, M19, hc21, hf⟩ := cl_inv hf
      refine fin_V (run_V C hw mf_X0_take mv_X0_take ml_X8_45 cf0 hT22 (c_X0_take l G A ad hc21) (As := [.ref (ad a17)]) (rest := []) hl.1 rfl rfl (Nat.le_of_ble_eq_true rfl) ⟨rfl, rfl, Nat.le_of_ble_eq_true rfl, Nat.le_of_ble_eq_true rfl⟩ ⟨Nat.zero_le _, Nat.zero_le _⟩ dX8_take_30) hw (fun H locs hw => ?_)
      refine lv_iinc (v := (x2 + 1)) (lv' := [(2, .int (x2 + 1)), (0, .ref (ad x0)), (1, .ref (ad x1))]) hx hb dX8_take_33 hl (k := 2) rfl rfl (by decide) rfl (fun ls hl => ?_)
      refine lv_goto (tgt := 10) hx hb dX8_take_36 (by decide) ?_
      exact ih M19 x0 x1 (x2 + 1) _ _ _ hf hw (lv_sub hl [1, 2, 0] rfl)
def f_X8_take (M : Mem) (x0 : Nat) (x1 : Nat) : Option (Unit × Mem) := gt (mT M x1) 9 (gt (mT M x0) 9 (st (setI M x0 1 (mI M x1 1)) (fun M3 => f_X8_take_10 FU M3 x0 x1 0)))
set_option maxHeartbeats 4000000 in
set_option maxRecDepth 100000 in
theorem c_X8_take (l : Launch) (G : Gd) (A : Nat → Prop) (ad : Nat → Nat) {M : Mem} {x0 : Nat} {x1 : Nat}  {M' : Mem} (hf : f_X8_take M x0 x1 = some ((), M')) : Ct l yX8_take cX8_take 3 none rm_X8_take [.ref (ad x0), .ref (ad x1)] G A ad M (QV G A ad M') 0 0 := by
  refine ct_start (by decide) (Nat.le_of_ble_eq_true rfl) ?_
  intro p e s m args below meth c ls C hin hw hl
  have C : Cx G A p s m args meth c RX8 cX8_take 3 none := C
  have hl : lv_has ls 3 [(0, .ref (ad x0)), (1, .ref (ad x1))] := hl
  obtain ⟨hx, hb, -⟩ := id C
  rw [f_X8_take] at hf
  refine lv_aload_n hx hb dX8_take_0 rfl (lv_at hl 0 rfl) ?_
  refine lv_aload_n hx hb dX8_take_1 rfl (lv_at hl 1 rfl) ?_
  obtain ⟨hT1, hf⟩ := gt_inv hf
  refine r_getI C hw cf8 1 (by decide) rfl hT1 fl_X8_42 dX8_take_2 ?_
  obtain ⟨hT2, hf⟩ := gt_inv hf
  obtain ⟨M3, e4, hf⟩ := st_inv hf
  have g5 := sg_I e4
  refine r_putI C hw cf8 1 (by decide) rfl hT2 e4 fl_X8_42 rfl rfl rfl dX8_take_5 (fun H locs hw => ?_)
  refine lv_iconst (v := 0) hx hb dX8_take_8 (by decide) ?_
  refine lv_istore_n (lv' := [(2, .int 0), (0, .ref (ad x0)), (1, .ref (ad x1))]) hx hb dX8_take_9 rfl hl (by decide) rfl (fun ls hl => ?_)
  exact t_X8_take_10 C FU M3 x0 x1 0 _ _ _ hf hw (lv_sub hl [1, 2, 0] rfl)
/-! StorkVote$World.hasStork(I)Z -/
abbrev rm_X8_hasStork : Room := { frames := 0, cells := 0, slots := 0, locals := 0 }
def f_X8_hasStork (M : Mem) (x0 : Nat) (x1 : Int32) : Option (Int32 × Mem) := (if x1 < 0 then some (0, M) else gt (mT M x0) 9 ((if (mI M x0 3) ≤ x1 then some (0, M) else some (1, M))))
set_option maxHeartbeats 4000000 in
set_option maxRecDepth 100000 in
theorem c_X8_hasStork (l : Launch) (G : Gd) (A : Nat → Prop) (ad : Nat → Nat) {M : Mem} {x0 : Nat} {x1 : Int32}  {r : Int32} {M' : Mem} (hf : f_X8_hasStork M x0 x1 = some (r, M')) : Ct l yX8_hasStork cX8_hasStork 2 (some .boolean) rm_X8_hasStork [.ref (ad x0), .int x1] G A ad M (QI G A ad r M') 0 0 := by
  refine ct_start (by decide) (Nat.le_of_ble_eq_true rfl) ?_
  intro p e s m args below meth c ls C hin hw hl
  have C : Cx G A p s m args meth c RX8 cX8_hasStork 2 (some .boolean) := C
  have hl : lv_has ls 2 [(0, .ref (ad x0)), (1, .int x1)] := hl
  obtain ⟨hx, hb, -⟩ := id C
  rw [f_X8_hasStork] at hf
  refine lv_iload_n hx hb dX8_hasStork_0 rfl (lv_at hl 1 rfl) ?_
  refine lv_if_lt (tgt := 16) hx hb dX8_hasStork_1 (by decide) (fun hc => ?_) (fun hc => ?_)
  · have hf := if_p hc hf
    refine lv_iconst (v := 0) hx hb dX8_hasStork_16 (by decide) ?_
    exact e_zret C hw rfl hf dX8_hasStork_17
  · have hf := if_n hc hf
    refine lv_iload_n hx hb dX8_hasStork_4 rfl (lv_at hl 1 rfl) ?_
    refine lv_aload_n hx hb dX8_hasStork_5 rfl (lv_at hl 0 rfl) ?_
    obtain ⟨hT1, hf⟩ := gt_inv hf
    refine r_getI C hw cf8 3 (by decide) rfl hT1 fl_X8_49 dX8_hasStork_6 ?_
    refine lv_icmp_ge (tgt := 16) hx hb dX8_hasStork_9 (by decide) (fun hc => ?_) (fun hc => ?_)
    · have hf := if_p hc hf
      refine lv_iconst (v := 0) hx hb dX8_hasStork_16 (by decide) ?_
      exact e_zret C hw rfl hf dX8_hasStork_17
    · have hf := if_n hc hf
      refine lv_iconst (v := 1) hx hb dX8_hasStork_12 (by decide) ?_
      refine lv_goto (tgt := 17) hx hb dX8_hasStork_13 (by decide) ?_
      exact e_zret C hw rfl hf dX8_hasStork_17
/-! StorkVote$World.build(IIII)I -/
abbrev rm_X8_build : Room := { frames := 1, cells := 0, slots := 0, locals := 24 }
def f_X8_build (M : Mem) (x0 : Nat) (x1 : Int32) (x2 : Int32) (x3 : Int32) (x4 : Int32) : Option (Int32 × Mem) := gt (mT M x0) 9 ((if (mI M x0 1) < 8 then lp (mP M x0 0) (fun a2 => gt (mT M a2) 23 (gd (ib (mI M x0 1) (mL M a2)) (lp (mP M a2 (mI M x0 1).toNatClampNeg) (fun a6 => gt (mT M a6) 1 (cl (f_X0_become M a6 x1 x2 x3 x4) (fun _ M8 => gt (mT M8 x0) 9 (st (setI M8 x0 1 ((mI M8 x0 1) + 1)) (fun M13 => some (((mI M13 x0 1) - 1), M13))))))))) else some ((-1000000003), M)))
set_option maxHeartbeats 4000000 in
set_option maxRecDepth 100000 in
theorem c_X8_build (l : Launch) (G : Gd) (A : Nat → Prop) (ad : Nat → Nat) {M : Mem} {x0 : Nat} {x1 : Int32} {x2 : Int32} {x3 : Int32} {x4 : Int32}  {r : Int32} {M' : Mem} (hf : f_X8_build M x0 x1 x2 x3 x4 = some (r, M')) : Ct l yX8_build cX8_build 5 (some .int) rm_X8_build [.ref (ad x0), .int x1, .int x2, .int x3, .int x4] G A ad M (QI G A ad r M') 0 0 := by
  refine ct_start (by decide) (Nat.le_of_ble_eq_true rfl) ?_
  intro p e s m args below meth c ls C hin hw hl
  have C : Cx G A p s m args meth c RX8 cX8_build 5 (some .int) := C
  have hl : lv_has ls 5 [(0, .ref (ad x0)), (1, .int x1), (2, .int x2), (3, .int x3), (4, .int x4)] := hl
  obtain ⟨hx, hb, -⟩ := id C
  rw [f_X8_build] at hf
  refine lv_aload_n hx hb dX8_build_0 rfl (lv_at hl 0 rfl) ?_
  obtain ⟨hT1, hf⟩ := gt_inv hf
  refine r_getI C hw cf8 1 (by decide) rfl hT1 fl_X8_42 dX8_build_1 ?_
  refine lv_bipush (v := 8) hx hb dX8_build_4 (by decide) ?_
  refine lv_icmp_lt (tgt := 12) hx hb dX8_build_6 (by decide) (fun hc => ?_) (fun hc => ?_)
  · have hf := if_p hc hf
    refine lv_aload_n hx hb dX8_build_12 rfl (lv_at hl 0 rfl) ?_
    obtain ⟨a2, hP3, hf⟩ := lp_inv hf
    refine r_getP C hw cf8 0 (by decide) rfl hT1 hP3 fl_X8_11 dX8_build_13 ?_
    refine lv_aload_n hx hb dX8_build_16 rfl (lv_at hl 0 rfl) ?_
    refine r_getI C hw cf8 1 (by decide) rfl hT1 fl_X8_42 dX8_build_17 ?_
    obtain ⟨hT4, hf⟩ := gt_inv hf
    obtain ⟨hg5, hf⟩ := gd_inv hf
    obtain ⟨a6, hP7, hf⟩ := lp_inv hf
    refine r_aald C hw 3 rfl (by decide) (by decide) hT4 hg5 hP7 dX8_build_20 ?_
    refine lv_iload_n hx hb dX8_build_21 rfl (lv_at hl 1 rfl) ?_
    refine lv_iload_n hx hb dX8_build_22 rfl (lv_at hl 2 rfl) ?_
    refine lv_iload_n hx hb dX8_build_23 rfl (lv_at hl 3 rfl) ?_
    refine lv_iload hx hb dX8_build_24 (lv_at hl 4 rfl) ?_
    obtain ⟨hT11, hf⟩ := gt_inv hf
    obtain ⟨⟨⟩, M8, hc10, hf⟩ := cl_inv hf
    refine fin_V (run_V C hw mf_X0_become mv_X0_become ml_X8_68 cf0 hT11 (c_X0_become l G A ad hc10) (As := [.int x1, .int x2, .int x3, .int x4]) (rest := []) hl.1 rfl rfl (Nat.le_of_ble_eq_true rfl) ⟨rfl, rfl, Nat.le_of_ble_eq_true rfl, Nat.le_of_ble_eq_true rfl⟩ ⟨Nat.zero_le _, Nat.zero_le _⟩ dX8_build_26) hw (fun H locs hw => ?_)
    refine lv_aload_n hx hb dX8_build_29 rfl (lv_at hl 0 rfl) ?_
    refine lv_dup hx hb dX8_build_30 rfl ?_
    obtain ⟨hT12, hf⟩ := gt_inv hf
    refine r_getI C hw cf8 1 (by decide) rfl hT12 fl_X8_42 dX8_build_31 ?_
    refine lv_iconst (v := 1) hx hb dX8_build_34 (by decide) ?_
    refine lv_iadd hx hb dX8_build_35 ?_
    obtain ⟨M13, e14, hf⟩ := st_inv hf
    have g15 := sg_I e14
    refine r_putI C hw cf8 1 (by decide) rfl hT12 e14 fl_X8_42 rfl rfl rfl dX8_build_36 (fun H locs hw => ?_)
    refine lv_aload_n hx hb dX8_build_39 rfl (lv_at hl 0 rfl) ?_
    refine r_getI C hw cf8 1 (by decide) rfl (T_of g15 hT12) fl_X8_42 dX8_build_40 ?_
    refine lv_iconst (v := 1) hx hb dX8_build_43 (by decide) ?_
    refine lv_isub hx hb dX8_build_44 ?_
    exact e_iret C hw hf dX8_build_45
  · have hf := if_n hc hf
    refine lv_ldc hx hb C.2.2.2.1 (C.2.2.2.2.1 _ kc_X8_67) dX8_build_9 ?_
    exact e_iret C hw hf dX8_build_11
/-! StorkVote$World.hatch(II)I -/
abbrev rm_X8_hatch : Room := { frames := 1, cells := 0, slots := 0, locals := 23 }
def f_X8_hatch (M : Mem) (x0 : Nat) (x1 : Int32) (x2 : Int32) : Option (Int32 × Mem) := gt (mT M x0) 9 ((if (mI M x0 3) < 10 then lp (mP M x0 2) (fun a2 => gt (mT M a2) 24 (gd (ib (mI M x0 3) (mL M a2)) (lp (mP M a2 (mI M x0 3).toNatClampNeg) (fun a6 => gt (mT M a6) 6 (cl (f_X5_become M a6 x1 x2 0) (fun _ M8 => gt (mT M8 x0) 9 (st (setI M8 x0 3 ((mI M8 x0 3) + 1)) (fun M13 => some (((mI M13 x0 3) - 1), M13))))))))) else some ((-1000000003), M)))
set_option maxHeartbeats 4000000 in
set_option maxRecDepth 100000 in
theorem c_X8_hatch (l : Launch) (G : Gd) (A : Nat → Prop) (ad : Nat → Nat) {M : Mem} {x0 : Nat} {x1 : Int32} {x2 : Int32}  {r : Int32} {M' : Mem} (hf : f_X8_hatch M x0 x1 x2 = some (r, M')) : Ct l yX8_hatch cX8_hatch 3 (some .int) rm_X8_hatch [.ref (ad x0), .int x1, .int x2] G A ad M (QI G A ad r M') 0 0 := by
  refine ct_start (by decide) (Nat.le_of_ble_eq_true rfl) ?_
  intro p e s m args below meth c ls C hin hw hl
  have C : Cx G A p s m args meth c RX8 cX8_hatch 3 (some .int) := C
  have hl : lv_has ls 3 [(0, .ref (ad x0)), (1, .int x1), (2, .int x2)] := hl
  obtain ⟨hx, hb, -⟩ := id C
  rw [f_X8_hatch] at hf
  refine lv_aload_n hx hb dX8_hatch_0 rfl (lv_at hl 0 rfl) ?_
  obtain ⟨hT1, hf⟩ := gt_inv hf
  refine r_getI C hw cf8 3 (by decide) rfl hT1 fl_X8_49 dX8_hatch_1 ?_
  refine lv_bipush (v := 10) hx hb dX8_hatch_4 (by decide) ?_
  refine lv_icmp_lt (tgt := 12) hx hb dX8_hatch_6 (by decide) (fun hc => ?_) (fun hc => ?_)
  · have hf := if_p hc hf
    refine lv_aload_n hx hb dX8_hatch_12 rfl (lv_at hl 0 rfl) ?_
    obtain ⟨a2, hP3, hf⟩ := lp_inv hf
    refine r_getP C hw cf8 2 (by decide) rfl hT1 hP3 fl_X8_19 dX8_hatch_13 ?_
    refine lv_aload_n hx hb dX8_hatch_16 rfl (lv_at hl 0 rfl) ?_
    refine r_getI C hw cf8 3 (by decide) rfl hT1 fl_X8_49 dX8_hatch_17 ?_
    obtain ⟨hT4, hf⟩ := gt_inv hf
    obtain ⟨hg5, hf⟩ := gd_inv hf
    obtain ⟨a6, hP7, hf⟩ := lp_inv hf
    refine r_aald C hw 4 rfl (by decide) (by decide) hT4 hg5 hP7 dX8_hatch_20 ?_
    refine lv_iload_n hx hb dX8_hatch_21 rfl (lv_at hl 1 rfl) ?_
    refine lv_iload_n hx hb dX8_hatch_22 rfl (lv_at hl 2 rfl) ?_
    refine lv_iconst (v := 0) hx hb dX8_hatch_23 (by decide) ?_
    obtain ⟨hT11, hf⟩ := gt_inv hf
    obtain ⟨⟨⟩, M8, hc10, hf⟩ := cl_inv hf
    refine fin_V (run_V C hw mf_X5_become mv_X5_become ml_X8_72 cf5 hT11 (c_X5_become l G A ad hc10) (As := [.int x1, .int x2, .int 0]) (rest := []) hl.1 rfl rfl (Nat.le_of_ble_eq_true rfl) ⟨rfl, rfl, Nat.le_of_ble_eq_true rfl, Nat.le_of_ble_eq_true rfl⟩ ⟨Nat.zero_le _, Nat.zero_le _⟩ dX8_hatch_24) hw (fun H locs hw => ?_)
    refine lv_aload_n hx hb dX8_hatch_27 rfl (lv_at hl 0 rfl) ?_
    refine lv_dup hx hb dX8_hatch_28 rfl ?_
    obtain ⟨hT12, hf⟩ := gt_inv hf
    refine r_getI C hw cf8 3 (by decide) rfl hT12 fl_X8_49 dX8_hatch_29 ?_
    refine lv_iconst (v := 1) hx hb dX8_hatch_32 (by decide) ?_
    refine lv_iadd hx hb dX8_hatch_33 ?_
    obtain ⟨M13, e14, hf⟩ := st_inv hf
    have g15 := sg_I e14
    refine r_putI C hw cf8 3 (by decide) rfl hT12 e14 fl_X8_49 rfl rfl rfl dX8_hatch_34 (fun H locs hw => ?_)
    refine lv_aload_n hx hb dX8_hatch_37 rfl (lv_at hl 0 rfl) ?_
    refine r_getI C hw cf8 3 (by decide) rfl (T_of g15 hT12) fl_X8_49 dX8_hatch_38 ?_
    refine lv_iconst (v := 1) hx hb dX8_hatch_41 (by decide) ?_
    refine lv_isub hx hb dX8_hatch_42 ?_
    exact e_iret C hw hf dX8_hatch_43
  · have hf := if_n hc hf
    refine lv_ldc hx hb C.2.2.2.1 (C.2.2.2.2.1 _ kc_X8_67) dX8_hatch_9 ?_
    exact e_iret C hw hf dX8_hatch_11
/-! StorkVote$World.draw()I -/
abbrev rm_X8_draw : Room := { frames := 0, cells := 0, slots := 0, locals := 0 }
def f_X8_draw (M : Mem) (x0 : Nat) : Option (Int32 × Mem) := gt (mT M x0) 9 (st (setI M x0 6 (((mI M x0 6) * (1103515245)) + 12345)) (fun M2 => some ((ushr (mI M2 x0 6) 8), M2)))
set_option maxHeartbeats 4000000 in
set_option maxRecDepth 100000 in
theorem c_X8_draw (l : Launch) (G : Gd) (A : Nat → Prop) (ad : Nat → Nat) {M : Mem} {x0 : Nat}  {r : Int32} {M' : Mem} (hf : f_X8_draw M x0 = some (r, M')) : Ct l yX8_draw cX8_draw 1 (some .int) rm_X8_draw [.ref (ad x0)] G A ad M (QI G A ad r M') 0 0 := by
  refine ct_start (by decide) (Nat.le_of_ble_eq_true rfl) ?_
  intro p e s m args below meth c ls C hin hw hl
  have C : Cx G A p s m args meth c RX8 cX8_draw 1 (some .int) := C
  have hl : lv_has ls 1 [(0, .ref (ad x0))] := hl
  obtain ⟨hx, hb, -⟩ := id C
  rw [f_X8_draw] at hf
  refine lv_aload_n hx hb dX8_draw_0 rfl (lv_at hl 0 rfl) ?_
  refine lv_aload_n hx hb dX8_draw_1 rfl (lv_at hl 0 rfl) ?_
  obtain ⟨hT1, hf⟩ := gt_inv hf
  refine r_getI C hw cf8 6 (by decide) rfl hT1 fl_X8_27 dX8_draw_2 ?_
  refine lv_ldc hx hb C.2.2.2.1 (C.2.2.2.2.1 _ kc_X8_75) dX8_draw_5 ?_
  refine lv_imul hx hb dX8_draw_7 ?_
  refine lv_sipush (v := 12345) hx hb dX8_draw_8 (by decide) ?_
  refine lv_iadd hx hb dX8_draw_11 ?_
  obtain ⟨M2, e3, hf⟩ := st_inv hf
  have g4 := sg_I e3
  refine r_putI C hw cf8 6 (by decide) rfl hT1 e3 fl_X8_27 rfl rfl rfl dX8_draw_12 (fun H locs hw => ?_)
  refine lv_aload_n hx hb dX8_draw_15 rfl (lv_at hl 0 rfl) ?_
  refine r_getI C hw cf8 6 (by decide) rfl (T_of g4 hT1) fl_X8_27 dX8_draw_16 ?_
  refine lv_bipush (v := 8) hx hb dX8_draw_19 (by decide) ?_
  refine lv_iushr (v := ushr (mI M2 x0 6) 8) hx hb dX8_draw_21 rfl ?_
  exact e_iret C hw hf dX8_draw_22
/-! StorkVote$World.here()I -/
abbrev rm_X8_here : Room := { frames := 1, cells := 0, slots := 0, locals := 20 }
def f_X8_here_30 (K4 : Mem → Nat → Int32 → Int32 → Option (Int32 × Mem)) (M : Mem) (x0 : Nat) (x2 : Int32) (s0 : Int32) (s1 : Int32) : Option (Int32 × Mem) := cl (f_X9_bit M s1) (fun r2 M1 => K4 M1 x0 (s0 + r2) (x2 + 1))
set_option maxHeartbeats 4000000 in
set_option maxRecDepth 100000 in
theorem t_X8_here_30 {l : Launch} {p : Program} {e : Env} {s : State} {m : MethodId} {args : Array Value} {below : List Frame} {meth : Method} {c : Code} {G : Gd} {A : Nat → Prop} {ad : Nat → Nat} (C : Cx G A p s m args meth c RX8 cX8_here 3 (some .int)) {r : Int32} {M' : Mem} {K4 : Mem → Nat → Int32 → Int32 → Option (Int32 × Mem)} (hK4 : ∀ (M : Mem) (x0 : Nat) (x1 : Int32) (x2 : Int32) (H : Heap) (locs : List Loc) (ls : Array Slot), K4 M x0 x1 x2 = some (r, M') → Wd G A ad s.heap M H locs → lv_has ls 3 [(0, .ref (ad x0)), (1, .int x1), (2, .int x2)] → W p l e rm_X8_here s m args below meth c H locs 0 0 (MQ below (QI G A ad r M') args s 0 0 A) (F0 m 4 ls [])) : ∀ (M : Mem) (x0 : Nat) (x2 : Int32) (s0 : Int32) (s1 : Int32) (H : Heap) (locs : List Loc) (ls : Array Slot), f_X8_here_30 K4 M x0 x2 s0 s1 = some (r, M') → Wd G A ad s.heap M H locs → lv_has ls 3 [(0, .ref (ad x0)), (2, .int x2)] → W p l e rm_X8_here s m args below meth c H locs 0 0 (MQ below (QI G A ad r M') args s 0 0 A) (F0 m 30 ls [.int s1, .int s0]) := by
  obtain ⟨hx, hb, -⟩ := id C
  intro M x0 x2 s0 s1 H locs ls hf hw hl
  rw [f_X8_here_30] at hf
  obtain ⟨r2, M1, hc3, hf⟩ := cl_inv hf
  refine fin_I (run_S C hw mf_X9_bit ms_X9_bit ml_X8_80 (c_X9_bit l G A ad hc3) (As := [.int s1]) (rest := [.int s0]) hl.1 rfl rfl (Nat.le_of_ble_eq_true rfl) ⟨rfl, rfl, Nat.le_of_ble_eq_true rfl, Nat.le_of_ble_eq_true rfl⟩ ⟨Nat.zero_le _, Nat.zero_le _⟩ dX8_here_30) hw (fun H locs hw => ?_)
  refine lv_iadd hx hb dX8_here_33 ?_
  refine lv_istore_n (lv' := [(1, .int (s0 + r2)), (0, .ref (ad x0)), (2, .int x2)]) hx hb dX8_here_34 rfl hl (by decide) rfl (fun ls hl => ?_)
  refine lv_iinc (v := (x2 + 1)) (lv' := [(2, .int (x2 + 1)), (1, .int (s0 + r2)), (0, .ref (ad x0))]) hx hb dX8_here_35 hl (k := 2) rfl rfl (by decide) rfl (fun ls hl => ?_)
  refine lv_goto (tgt := 4) hx hb dX8_here_38 (by decide) ?_
  exact hK4 M1 x0 (s0 + r2) (x2 + 1) _ _ _ hf hw (lv_sub hl [2, 1, 0] rfl)
def f_X8_here_4 : Nat → Mem → Nat → Int32 → Int32 → Option (Int32 × Mem)
  | 0, _, _, _, _ => none
  | n + 1, M, x0, x1, x2 => gt (mT M x0) 9 ((if (mI M x0 3) ≤ x2 then some (x1, M) else lp (mP M x0 2) (fun a2 => gt (mT M a2) 24 (gd (ib x2 (mL M a2)) (lp (mP M a2 x2.toNatClampNeg) (fun a6 => gt (mT M a6) 6 ((if (mI M a6 2) = 0 then f_X8_here_30 (f_X8_here_4 n) M x0 x2 x1 1 else f_X8_here_30 (f_X8_here_4 n) M x0 x2 x1 0))))))))
set_option maxHeartbeats 4000000 in
set_option maxRecDepth 100000 in
theorem t_X8_here_4 {l : Launch} {p : Program} {e : Env} {s : State} {m : MethodId} {args : Array Value} {below : List Frame} {meth : Method} {c : Code} {G : Gd} {A : Nat → Prop} {ad : Nat → Nat} (C : Cx G A p s m args meth c RX8 cX8_here 3 (some .int)) {r : Int32} {M' : Mem} : ∀ (n : Nat) (M : Mem) (x0 : Nat) (x1 : Int32) (x2 : Int32) (H : Heap) (locs : List Loc) (ls : Array Slot), f_X8_here_4  n M x0 x1 x2 = some (r, M') → Wd G A ad s.heap M H locs → lv_has ls 3 [(0, .ref (ad x0)), (1, .int x1), (2, .int x2)] → W p l e rm_X8_here s m args below meth c H locs 0 0 (MQ below (QI G A ad r M') args s 0 0 A) (F0 m 4 ls []) := by
  obtain ⟨hx, hb, -⟩ := id C
  intro n
  induction n with
  | zero =>
    intro M x0 x1 x2 H locs ls hf
    rw [f_X8_here_4] at hf
    exact absurd hf (fun h => nomatch h)
  | succ n ih =>
    intro M x0 x1 x2 H locs ls hf hw hl
    rw [f_X8_here_4] at hf
    refine lv_iload_n hx hb dX8_here_4 rfl (lv_at hl 2 rfl) ?_
    refine lv_aload_n hx hb dX8_here_5 rfl (lv_at hl 0 rfl) ?_
    obtain ⟨hT1, hf⟩ := gt_inv hf
    refine r_getI C hw cf8 3 (by decide) rfl hT1 fl_X8_49 dX8_here_6 ?_
    refine lv_icmp_ge (tgt := 41) hx hb dX8_here_9 (by decide) (fun hc => ?_) (fun hc => ?_)
    · have hf := if_p hc hf
      refine lv_iload_n hx hb dX8_here_41 rfl (lv_at hl 1 rfl) ?_
      exact e_iret C hw hf dX8_here_42
    · have hf := if_n hc hf
      refine lv_iload_n hx hb dX8_here_12 rfl (lv_at hl 1 rfl) ?_
      refine lv_aload_n hx hb dX8_here_13 rfl (lv_at hl 0 rfl) ?_
      obtain ⟨a2, hP3, hf⟩ := lp_inv hf
      refine r_getP C hw cf8 2 (by decide) rfl hT1 hP3 fl_X8_19 dX8_here_14 ?_
      refine lv_iload_n hx hb dX8_here_17 rfl (lv_at hl 2 rfl) ?_
      obtain ⟨hT4, hf⟩ := gt_inv hf
      obtain ⟨hg5, hf⟩ := gd_inv hf
      obtain ⟨a6, hP7, hf⟩ := lp_inv hf
      refine r_aald C hw 4 rfl (by decide) (by decide) hT4 hg5 hP7 dX8_here_18 ?_
      obtain ⟨hT8, hf⟩ := gt_inv hf
      refine r_getI C hw cf5 2 (by decide) rfl hT8 fl_X8_76 dX8_here_19 ?_
      refine lv_if_ne (tgt := 29) hx hb dX8_here_22 (by decide) (fun hc => ?_) (fun hc => ?_)
      · have hf := if_n hc hf
        refine lv_iconst (v := 0) hx hb dX8_here_29 (by decide) ?_
        exact t_X8_here_30 C ih M x0 x2 x1 0 _ _ _ hf hw (lv_sub hl [0, 2] rfl)
      · have hf := if_p hc hf
        refine lv_iconst (v := 1) hx hb dX8_here_25 (by decide) ?_
        refine lv_goto (tgt := 30) hx hb dX8_here_26 (by decide) ?_
        exact t_X8_here_30 C ih M x0 x2 x1 1 _ _ _ hf hw (lv_sub hl [0, 2] rfl)
def f_X8_here (M : Mem) (x0 : Nat) : Option (Int32 × Mem) := f_X8_here_4 FU M x0 0 0
set_option maxHeartbeats 4000000 in
set_option maxRecDepth 100000 in
theorem c_X8_here (l : Launch) (G : Gd) (A : Nat → Prop) (ad : Nat → Nat) {M : Mem} {x0 : Nat}  {r : Int32} {M' : Mem} (hf : f_X8_here M x0 = some (r, M')) : Ct l yX8_here cX8_here 3 (some .int) rm_X8_here [.ref (ad x0)] G A ad M (QI G A ad r M') 0 0 := by
  refine ct_start (by decide) (Nat.le_of_ble_eq_true rfl) ?_
  intro p e s m args below meth c ls C hin hw hl
  have C : Cx G A p s m args meth c RX8 cX8_here 3 (some .int) := C
  have hl : lv_has ls 3 [(0, .ref (ad x0))] := hl
  obtain ⟨hx, hb, -⟩ := id C
  rw [f_X8_here] at hf
  refine lv_iconst (v := 0) hx hb dX8_here_0 (by decide) ?_
  refine lv_istore_n (lv' := [(1, .int 0), (0, .ref (ad x0))]) hx hb dX8_here_1 rfl hl (by decide) rfl (fun ls hl => ?_)
  refine lv_iconst (v := 0) hx hb dX8_here_2 (by decide) ?_
  refine lv_istore_n (lv' := [(2, .int 0), (1, .int 0), (0, .ref (ad x0))]) hx hb dX8_here_3 rfl hl (by decide) rfl (fun ls hl => ?_)
  exact t_X8_here_4 C FU M x0 0 0 _ _ _ hf hw (lv_sub hl [2, 1, 0] rfl)
/-! StorkVote$World.fare(II)V -/
abbrev rm_X8_fare : Room := { frames := 2, cells := 0, slots := 0, locals := 45 }
def f_X8_fare_35 (M : Mem) (s0 : Nat) (s1 : Int32) : Option (Unit × Mem) := gt (mT M s0) 6 (gd (isB s1) (st (setI M s0 2 s1) (fun M3 => some ((), M3))))
set_option maxHeartbeats 4000000 in
set_option maxRecDepth 100000 in
theorem t_X8_fare_35 {l : Launch} {p : Program} {e : Env} {s : State} {m : MethodId} {args : Array Value} {below : List Frame} {meth : Method} {c : Code} {G : Gd} {A : Nat → Prop} {ad : Nat → Nat} (C : Cx G A p s m args meth c RX8 cX8_fare 4 none) {M' : Mem} : ∀ (M : Mem) (s0 : Nat) (s1 : Int32) (H : Heap) (locs : List Loc) (ls : Array Slot), f_X8_fare_35  M s0 s1 = some ((), M') → Wd G A ad s.heap M H locs → lv_has ls 4 [] → W p l e rm_X8_fare s m args below meth c H locs 0 0 (MQ below (QV G A ad M') args s 0 0 A) (F0 m 35 ls [.int s1, .ref (ad s0)]) := by
  obtain ⟨hx, hb, -⟩ := id C
  intro M s0 s1 H locs ls hf hw hl
  rw [f_X8_fare_35] at hf
  obtain ⟨hT1, hf⟩ := gt_inv hf
  obtain ⟨hg2, hf⟩ := gd_inv hf
  obtain ⟨M3, e4, hf⟩ := st_inv hf
  have g5 := sg_I e4
  refine r_putI C hw cf5 2 (by decide) rfl hT1 e4 fl_X8_76 rfl (isB_nar hg2) (isB_fit hg2) dX8_fare_35 (fun H locs hw => ?_)
  refine lv_goto (tgt := 75) hx hb dX8_fare_38 (by decide) ?_
  exact e_vret C hw hf dX8_fare_75
def f_X8_fare (M : Mem) (x0 : Nat) (x1 : Int32) (x2 : Int32) : Option (Unit × Mem) := gt (mT M x0) 9 (cl (f_X8_draw M x0) (fun r2 M1 => (if x2 = (-1000000005) then gt (mT M1 x0) 9 (lp (mP M1 x0 2) (fun a18 => gt (mT M1 a18) 24 (gd (ib x1 (mL M1 a18)) (lp (mP M1 a18 x1.toNatClampNeg) (fun a22 => lp (mP M1 x0 4) (fun a24 => gt (mT M1 a24) 20 (gd (ib 2 (mL M1 a24)) ((if (mI M1 a24 (2 : Int32).toNatClampNeg) ≤ (irm r2 100) then f_X8_fare_35 M1 a22 0 else f_X8_fare_35 M1 a22 1))))))))) else gt (mT M1 x0) 9 (lp (mP M1 x0 4) (fun a6 => gt (mT M1 a6) 20 (gd (ib 1 (mL M1 a6)) ((if (mI M1 a6 (1 : Int32).toNatClampNeg) ≤ (irm r2 100) then some ((), M1) else (if 10 ≤ (mI M1 x0 3) then some ((), M1) else cl (f_X8_draw M1 x0) (fun r11 M10 => gt (mT M10 x0) 9 (cl (f_X8_hatch M10 x0 (1 + (irm r11 20)) x2) (fun r14 M13 => some ((), M13)))))))))))))
set_option maxHeartbeats 4000000 in
set_option maxRecDepth 100000 in
theorem c_X8_fare (l : Launch) (G : Gd) (A : Nat → Prop) (ad : Nat → Nat) {M : Mem} {x0 : Nat} {x1 : Int32} {x2 : Int32}  {M' : Mem} (hf : f_X8_fare M x0 x1 x2 = some ((), M')) : Ct l yX8_fare cX8_fare 4 none rm_X8_fare [.ref (ad x0), .int x1, .int x2] G A ad M (QV G A ad M') 0 0 := by
  refine ct_start (by decide) (Nat.le_of_ble_eq_true rfl) ?_
  intro p e s m args below meth c ls C hin hw hl
  have C : Cx G A p s m args meth c RX8 cX8_fare 4 none := C
  have hl : lv_has ls 4 [(0, .ref (ad x0)), (1, .int x1), (2, .int x2)] := hl
  obtain ⟨hx, hb, -⟩ := id C
  rw [f_X8_fare] at hf
  refine lv_aload_n hx hb dX8_fare_0 rfl (lv_at hl 0 rfl) ?_
  obtain ⟨hT4, hf⟩ := gt_inv hf
  obtain ⟨r2, M1, hc3, hf⟩ := cl_inv hf
  refine fin_I (run_V C hw mf_X8_draw mv_X8_draw ml_X8_129 cf8 hT4 (c_X8_draw l G A ad hc3) (As := []) (rest := []) hl.1 rfl rfl (Nat.le_of_ble_eq_true rfl) ⟨rfl, rfl, Nat.le_of_ble_eq_true rfl, Nat.le_of_ble_eq_true rfl⟩ ⟨Nat.zero_le _, Nat.zero_le _⟩ dX8_fare_1) hw (fun H locs hw => ?_)
  refine lv_bipush (v := 100) hx hb dX8_fare_4 (by decide) ?_
  refine lv_irem hx hb dX8_fare_6 (by decide) ?_
  refine lv_istore_n (lv' := [(3, .int (irm r2 100)), (0, .ref (ad x0)), (1, .int x1), (2, .int x2)]) hx hb dX8_fare_7 rfl hl (by decide) rfl (fun ls hl => ?_)
  refine lv_iload_n hx hb dX8_fare_8 rfl (lv_at hl 3 rfl) ?_
  refine lv_ldc hx hb C.2.2.2.1 (C.2.2.2.2.1 _ kc_X8_87) dX8_fare_9 ?_
  refine lv_icmp_ne (tgt := 41) hx hb dX8_fare_11 (by decide) (fun hc => ?_) (fun hc => ?_)
  · have hf := if_n hc hf
    refine lv_iload_n hx hb dX8_fare_41 rfl (lv_at hl 0 rfl) ?_
    refine lv_aload_n hx hb dX8_fare_42 rfl (lv_at hl 1 rfl) ?_
    obtain ⟨hT5, hf⟩ := gt_inv hf
    obtain ⟨a6, hP7, hf⟩ := lp_inv hf
    refine r_getP C hw cf8 4 (by decide) rfl hT5 hP7 fl_X8_23 dX8_fare_43 ?_
    refine lv_iconst (v := 1) hx hb dX8_fare_46 (by decide) ?_
    obtain ⟨hT8, hf⟩ := gt_inv hf
    obtain ⟨hg9, hf⟩ := gd_inv hf
    refine r_iald C hw hT8 hg9 dX8_fare_47 ?_
    refine lv_icmp_ge (tgt := 75) hx hb dX8_fare_48 (by decide) (fun hc => ?_) (fun hc => ?_)
    · have hf := if_p hc hf
      exact e_vret C hw hf dX8_fare_75
    · have hf := if_n hc hf
      refine lv_aload_n hx hb dX8_fare_51 rfl (lv_at hl 1 rfl) ?_
      refine r_getI C hw cf8 3 (by decide) rfl hT5 fl_X8_49 dX8_fare_52 ?_
      refine lv_bipush (v := 10) hx hb dX8_fare_55 (by decide) ?_
      refine lv_icmp_ge (tgt := 75) hx hb dX8_fare_57 (by decide) (fun hc => ?_) (fun hc => ?_)
      · have hf := if_p hc hf
        exact e_vret C hw hf dX8_fare_75
      · have hf := if_n hc hf
        refine lv_aload_n hx hb dX8_fare_60 rfl (lv_at hl 1 rfl) ?_
        refine lv_iconst (v := 1) hx hb dX8_fare_61 (by decide) ?_
        refine lv_aload_n hx hb dX8_fare_62 rfl (lv_at hl 1 rfl) ?_
        obtain ⟨r11, M10, hc12, hf⟩ := cl_inv hf
        refine fin_I (run_V C hw mf_X8_draw mv_X8_draw ml_X8_129 cf8 hT5 (c_X8_draw l G A ad hc12) (As := []) (rest := [.int 1, .ref (ad x0)]) hl.1 rfl rfl (Nat.le_of_ble_eq_true rfl) ⟨rfl, rfl, Nat.le_of_ble_eq_true rfl, Nat.le_of_ble_eq_true rfl⟩ ⟨Nat.zero_le _, Nat.zero_le _⟩ dX8_fare_63) hw (fun H locs hw => ?_)
        refine lv_bipush (v := 20) hx hb dX8_fare_66 (by decide) ?_
        refine lv_irem hx hb dX8_fare_68 (by decide) ?_
        refine lv_iadd hx hb dX8_fare_69 ?_
        refine lv_iload_n hx hb dX8_fare_70 rfl (lv_at hl 3 rfl) ?_
        obtain ⟨hT16, hf⟩ := gt_inv hf
        obtain ⟨r14, M13, hc15, hf⟩ := cl_inv hf
        refine fin_I (run_V C hw mf_X8_hatch mv_X8_hatch ml_X8_133 cf8 hT16 (c_X8_hatch l G A ad hc15) (As := [.int (1 + (irm r11 20)), .int x2]) (rest := []) hl.1 rfl rfl (Nat.le_of_ble_eq_true rfl) ⟨rfl, rfl, Nat.le_of_ble_eq_true rfl, Nat.le_of_ble_eq_true rfl⟩ ⟨Nat.zero_le _, Nat.zero_le _⟩ dX8_fare_71) hw (fun H locs hw => ?_)
        refine lv_pop hx hb dX8_fare_74 rfl ?_
        exact e_vret C hw hf dX8_fare_75
  · have hf := if_p hc hf
    refine lv_aload_n hx hb dX8_fare_14 rfl (lv_at hl 1 rfl) ?_
    obtain ⟨hT17, hf⟩ := gt_inv hf
    obtain ⟨a18, hP19, hf⟩ := lp_inv hf
    refine r_getP C hw cf8 2 (by decide) rfl hT17 hP19 fl_X8_19 dX8_fare_15 ?_
    refine lv_iload_n hx hb dX8_fare_18 rfl (lv_at hl 2 rfl) ?_
    obtain ⟨hT20, hf⟩ := gt_inv hf
    obtain ⟨hg21, hf⟩ := gd_inv hf
    obtain ⟨a22, hP23, hf⟩ := lp_inv hf
    refine r_aald C hw 4 rfl (by decide) (by decide) hT20 hg21 hP23 dX8_fare_19 ?_
    refine lv_iload_n hx hb dX8_fare_20 rfl (lv_at hl 0 rfl) ?_
    refine lv_aload_n hx hb dX8_fare_21 rfl (lv_at hl 1 rfl) ?_
    obtain ⟨a24, hP25, hf⟩ := lp_inv hf
    refine r_getP C hw cf8 4 (by decide) rfl hT17 hP25 fl_X8_23 dX8_fare_22 ?_
    refine lv_iconst (v := 2) hx hb dX8_fare_25 (by decide) ?_
    obtain ⟨hT26, hf⟩ := gt_inv hf
    obtain ⟨hg27, hf⟩ := gd_inv hf
    refine r_iald C hw hT26 hg27 dX8_fare_26 ?_
    refine lv_icmp_ge (tgt := 34) hx hb dX8_fare_27 (by decide) (fun hc => ?_) (fun hc => ?_)
    · have hf := if_p hc hf
      refine lv_iconst (v := 0) hx hb dX8_fare_34 (by decide) ?_
      exact t_X8_fare_35 C M1 a22 0 _ _ _ hf hw (lv_sub hl [] rfl)
    · have hf := if_n hc hf
      refine lv_iconst (v := 1) hx hb dX8_fare_30 (by decide) ?_
      refine lv_goto (tgt := 35) hx hb dX8_fare_31 (by decide) ?_
      exact t_X8_fare_35 C M1 a22 1 _ _ _ hf hw (lv_sub hl [] rfl)
/-! StorkVote$World.live(LStorkVote$Spring;)V -/
abbrev rm_X8_live : Room := { frames := 4, cells := 0, slots := 0, locals := 98 }
def f_X8_live_14 : Nat → Mem → Nat → Nat → Int32 → Int32 → Option (Unit × Mem)
  | 0, _, _, _, _, _ => none
  | n + 1, M, x0, x1, x2, x3 => (if x2 ≤ x3 then gt (mT M x0) 9 (st (setI M x0 5 ((mI M x0 5) + 1)) (fun M2 => some ((), M2))) else gt (mT M x0) 9 (lp (mP M x0 2) (fun a6 => gt (mT M a6) 24 (gd (ib x3 (mL M a6)) (lp (mP M a6 x3.toNatClampNeg) (fun a10 => gt (mT M a10) 6 ((if (mI M a10 2) = 0 then gt (mT M x1) 5 (lp (mP M x1 0) (fun a14 => gt (mT M a14) 20 (gd (ib x3 (mL M a14)) (cl (f_X8_fare M x0 x3 (mI M a14 x3.toNatClampNeg)) (fun _ M18 => f_X8_live_14 n M18 x0 x1 x2 (x3 + 1)))))) else f_X8_live_14 n M x0 x1 x2 (x3 + 1)))))))))
set_option maxHeartbeats 4000000 in
set_option maxRecDepth 100000 in
theorem t_X8_live_14 {l : Launch} {p : Program} {e : Env} {s : State} {m : MethodId} {args : Array Value} {below : List Frame} {meth : Method} {c : Code} {G : Gd} {A : Nat → Prop} {ad : Nat → Nat} (C : Cx G A p s m args meth c RX8 cX8_live 4 none) {M' : Mem} : ∀ (n : Nat) (M : Mem) (x0 : Nat) (x1 : Nat) (x2 : Int32) (x3 : Int32) (H : Heap) (locs : List Loc) (ls : Array Slot), f_X8_live_14  n M x0 x1 x2 x3 = some ((), M') → Wd G A ad s.heap M H locs → lv_has ls 4 [(0, .ref (ad x0)), (1, .ref (ad x1)), (2, .int x2), (3, .int x3)] → W p l e rm_X8_live s m args below meth c H locs 0 0 (MQ below (QV G A ad M') args s 0 0 A) (F0 m 14 ls []) := by
  obtain ⟨hx, hb, -⟩ := id C
  intro n
  induction n with
  | zero =>
    intro M x0 x1 x2 x3 H locs ls hf
    rw [f_X8_live_14] at hf
    exact absurd hf (fun h => nomatch h)
  | succ n ih =>
    intro M x0 x1 x2 x3 H locs ls hf hw hl
    rw [f_X8_live_14] at hf
    refine lv_iload_n hx hb dX8_live_14 rfl (lv_at hl 3 rfl) ?_
    refine lv_iload_n hx hb dX8_live_15 rfl (lv_at hl 2 rfl) ?_
    refine lv_icmp_ge (tgt := 48) hx hb dX8_live_16 (by decide) (fun hc => ?_) (fun hc => ?_)
    · have hf := if_p hc hf
      refine lv_aload_n hx hb dX8_live_48 rfl (lv_at hl 0 rfl) ?_
      refine lv_dup hx hb dX8_live_49 rfl ?_
      obtain ⟨hT1, hf⟩ := gt_inv hf
      refine r_getI C hw cf8 5 (by decide) rfl hT1 fl_X8_61 dX8_live_50 ?_
      refine lv_iconst (v := 1) hx hb dX8_live_53 (by decide) ?_
      refine lv_iadd hx hb dX8_live_54 ?_
      obtain ⟨M2, e3, hf⟩ := st_inv hf
      have g4 := sg_I e3
      refine r_putI C hw cf8 5 (by decide) rfl hT1 e3 fl_X8_61 rfl rfl rfl dX8_live_55 (fun H locs hw => ?_)
      exact e_vret C hw hf dX8_live_58
    · have hf := if_n hc hf
      refine lv_aload_n hx hb dX8_live_19 rfl (lv_at hl 0 rfl) ?_
      obtain ⟨hT5, hf⟩ := gt_inv hf
      obtain ⟨a6, hP7, hf⟩ := lp_inv hf
      refine r_getP C hw cf8 2 (by decide) rfl hT5 hP7 fl_X8_19 dX8_live_20 ?_
      refine lv_iload_n hx hb dX8_live_23 rfl (lv_at hl 3 rfl) ?_
      obtain ⟨hT8, hf⟩ := gt_inv hf
      obtain ⟨hg9, hf⟩ := gd_inv hf
      obtain ⟨a10, hP11, hf⟩ := lp_inv hf
      refine r_aald C hw 4 rfl (by decide) (by decide) hT8 hg9 hP11 dX8_live_24 ?_
      obtain ⟨hT12, hf⟩ := gt_inv hf
      refine r_getI C hw cf5 2 (by decide) rfl hT12 fl_X8_76 dX8_live_25 ?_
      refine lv_if_ne (tgt := 42) hx hb dX8_live_28 (by decide) (fun hc => ?_) (fun hc => ?_)
      · have hf := if_n hc hf
        refine lv_iinc (v := (x3 + 1)) (lv' := [(3, .int (x3 + 1)), (0, .ref (ad x0)), (1, .ref (ad x1)), (2, .int x2)]) hx hb dX8_live_42 hl (k := 3) rfl rfl (by decide) rfl (fun ls hl => ?_)
        refine lv_goto (tgt := 14) hx hb dX8_live_45 (by decide) ?_
        exact ih M x0 x1 x2 (x3 + 1) _ _ _ hf hw (lv_sub hl [1, 2, 3, 0] rfl)
      · have hf := if_p hc hf
        refine lv_aload_n hx hb dX8_live_31 rfl (lv_at hl 0 rfl) ?_
        refine lv_iload_n hx hb dX8_live_32 rfl (lv_at hl 3 rfl) ?_
        refine lv_aload_n hx hb dX8_live_33 rfl (lv_at hl 1 rfl) ?_
        obtain ⟨hT13, hf⟩ := gt_inv hf
        obtain ⟨a14, hP15, hf⟩ := lp_inv hf
        refine r_getP C hw cf4 0 (by decide) rfl hT13 hP15 fl_X8_122 dX8_live_34 ?_
        refine lv_iload_n hx hb dX8_live_37 rfl (lv_at hl 3 rfl) ?_
        obtain ⟨hT16, hf⟩ := gt_inv hf
        obtain ⟨hg17, hf⟩ := gd_inv hf
        refine r_iald C hw hT16 hg17 dX8_live_38 ?_
        obtain ⟨⟨⟩, M18, hc20, hf⟩ := cl_inv hf
        refine fin_V (run_V C hw mf_X8_fare mv_X8_fare ml_X8_125 cf8 hT5 (c_X8_fare l G A ad hc20) (As := [.int x3, .int (mI M a14 x3.toNatClampNeg)]) (rest := []) hl.1 rfl rfl (Nat.le_of_ble_eq_true rfl) ⟨rfl, rfl, Nat.le_of_ble_eq_true rfl, Nat.le_of_ble_eq_true rfl⟩ ⟨Nat.zero_le _, Nat.zero_le _⟩ dX8_live_39) hw (fun H locs hw => ?_)
        refine lv_iinc (v := (x3 + 1)) (lv' := [(3, .int (x3 + 1)), (0, .ref (ad x0)), (1, .ref (ad x1)), (2, .int x2)]) hx hb dX8_live_42 hl (k := 3) rfl rfl (by decide) rfl (fun ls hl => ?_)
        refine lv_goto (tgt := 14) hx hb dX8_live_45 (by decide) ?_
        exact ih M18 x0 x1 x2 (x3 + 1) _ _ _ hf hw (lv_sub hl [1, 2, 3, 0] rfl)
def f_X8_live (M : Mem) (x0 : Nat) (x1 : Nat) : Option (Unit × Mem) := gt (mT M x1) 5 (cl (f_X4_settle M x1 x0 (-1000000005)) (fun _ M1 => gt (mT M1 x0) 9 (f_X8_live_14 FU M1 x0 x1 (mI M1 x0 3) 0)))
set_option maxHeartbeats 4000000 in
set_option maxRecDepth 100000 in
theorem c_X8_live (l : Launch) (G : Gd) (A : Nat → Prop) (ad : Nat → Nat) {M : Mem} {x0 : Nat} {x1 : Nat}  {M' : Mem} (hf : f_X8_live M x0 x1 = some ((), M')) : Ct l yX8_live cX8_live 4 none rm_X8_live [.ref (ad x0), .ref (ad x1)] G A ad M (QV G A ad M') 0 0 := by
  refine ct_start (by decide) (Nat.le_of_ble_eq_true rfl) ?_
  intro p e s m args below meth c ls C hin hw hl
  have C : Cx G A p s m args meth c RX8 cX8_live 4 none := C
  have hl : lv_has ls 4 [(0, .ref (ad x0)), (1, .ref (ad x1))] := hl
  obtain ⟨hx, hb, -⟩ := id C
  rw [f_X8_live] at hf
  refine lv_aload_n hx hb dX8_live_0 rfl (lv_at hl 1 rfl) ?_
  refine lv_aload_n hx hb dX8_live_1 rfl (lv_at hl 0 rfl) ?_
  refine lv_ldc hx hb C.2.2.2.1 (C.2.2.2.2.1 _ kc_X8_87) dX8_live_2 ?_
  obtain ⟨hT4, hf⟩ := gt_inv hf
  obtain ⟨⟨⟩, M1, hc3, hf⟩ := cl_inv hf
  refine fin_V (run_V C hw mf_X4_settle mv_X4_settle ml_X8_116 cf4 hT4 (c_X4_settle l G A ad hc3) (As := [.ref (ad x0), .int (-1000000005)]) (rest := []) hl.1 rfl rfl (Nat.le_of_ble_eq_true rfl) ⟨rfl, rfl, Nat.le_of_ble_eq_true rfl, Nat.le_of_ble_eq_true rfl⟩ ⟨Nat.zero_le _, Nat.zero_le _⟩ dX8_live_4) hw (fun H locs hw => ?_)
  refine lv_aload_n hx hb dX8_live_7 rfl (lv_at hl 0 rfl) ?_
  obtain ⟨hT5, hf⟩ := gt_inv hf
  refine r_getI C hw cf8 3 (by decide) rfl hT5 fl_X8_49 dX8_live_8 ?_
  refine lv_istore_n (lv' := [(2, .int (mI M1 x0 3)), (0, .ref (ad x0)), (1, .ref (ad x1))]) hx hb dX8_live_11 rfl hl (by decide) rfl (fun ls hl => ?_)
  refine lv_iconst (v := 0) hx hb dX8_live_12 (by decide) ?_
  refine lv_istore_n (lv' := [(3, .int 0), (2, .int (mI M1 x0 3)), (0, .ref (ad x0)), (1, .ref (ad x1))]) hx hb dX8_live_13 rfl hl (by decide) rfl (fun ls hl => ?_)
  exact t_X8_live_14 C FU M1 x0 x1 (mI M1 x0 3) 0 _ _ _ hf hw (lv_sub hl [2, 3, 1, 0] rfl)
/-! StorkVote.within(II)Z -/
abbrev rm_X9_within : Room := { frames := 0, cells := 0, slots := 0, locals := 0 }
def f_X9_within (M : Mem) (x0 : Int32) (x1 : Int32) : Option (Int32 × Mem) := (if x0 < 0 then some (0, M) else (if x1 < x0 then some (0, M) else some (1, M)))
set_option maxHeartbeats 4000000 in
set_option maxRecDepth 100000 in
theorem c_X9_within (l : Launch) (G : Gd) (A : Nat → Prop) (ad : Nat → Nat) {M : Mem} {x0 : Int32} {x1 : Int32}  {r : Int32} {M' : Mem} (hf : f_X9_within M x0 x1 = some (r, M')) : Ct l yX9_within cX9_within 2 (some .boolean) rm_X9_within [.int x0, .int x1] G A ad M (QI G A ad r M') 0 0 := by
  refine ct_start (by decide) (Nat.le_of_ble_eq_true rfl) ?_
  intro p e s m args below meth c ls C hin hw hl
  have C : Cx G A p s m args meth c RX9 cX9_within 2 (some .boolean) := C
  have hl : lv_has ls 2 [(0, .int x0), (1, .int x1)] := hl
  obtain ⟨hx, hb, -⟩ := id C
  rw [f_X9_within] at hf
  refine lv_iload_n hx hb dX9_within_0 rfl (lv_at hl 0 rfl) ?_
  refine lv_if_lt (tgt := 13) hx hb dX9_within_1 (by decide) (fun hc => ?_) (fun hc => ?_)
  · have hf := if_p hc hf
    refine lv_iconst (v := 0) hx hb dX9_within_13 (by decide) ?_
    exact e_zret C hw rfl hf dX9_within_14
  · have hf := if_n hc hf
    refine lv_iload_n hx hb dX9_within_4 rfl (lv_at hl 0 rfl) ?_
    refine lv_iload_n hx hb dX9_within_5 rfl (lv_at hl 1 rfl) ?_
    refine lv_icmp_gt (tgt := 13) hx hb dX9_within_6 (by decide) (fun hc => ?_) (fun hc => ?_)
    · have hf := if_p hc hf
      refine lv_iconst (v := 0) hx hb dX9_within_13 (by decide) ?_
      exact e_zret C hw rfl hf dX9_within_14
    · have hf := if_n hc hf
      refine lv_iconst (v := 1) hx hb dX9_within_9 (by decide) ?_
      refine lv_goto (tgt := 14) hx hb dX9_within_10 (by decide) ?_
      exact e_zret C hw rfl hf dX9_within_14
/-! StorkVote.chimney(IIII)I -/
abbrev rm_X9_chimney : Room := { frames := 2, cells := 0, slots := 0, locals := 48 }
def f_X9_chimney (M : Mem) (x0 : Nat) (x1 : Int32) (x2 : Int32) (x3 : Int32) (x4 : Int32) : Option (Int32 × Mem) := cl (f_X9_within M x1 5) (fun r2 M1 => (if r2 = 0 then some ((-1000000001), M1) else cl (f_X9_within M1 x2 3) (fun r5 M4 => (if r5 = 0 then some ((-1000000001), M4) else cl (f_X9_within M4 x3 99) (fun r8 M7 => (if r8 = 0 then some ((-1000000001), M7) else cl (f_X9_within M7 x4 99) (fun r11 M10 => (if r11 = 0 then some ((-1000000001), M10) else gt (mT M10 x0) 10 (lp (mP M10 x0 0) (fun a14 => gt (mT M10 a14) 9 (cl (f_X8_build M10 a14 x1 x2 x3 x4) (fun r17 M16 => some (r17, M16)))))))))))))
set_option maxHeartbeats 4000000 in
set_option maxRecDepth 100000 in
theorem c_X9_chimney (l : Launch) (G : Gd) (A : Nat → Prop) (ad : Nat → Nat) {M : Mem} {x0 : Nat} {x1 : Int32} {x2 : Int32} {x3 : Int32} {x4 : Int32}  {r : Int32} {M' : Mem} (hf : f_X9_chimney M x0 x1 x2 x3 x4 = some (r, M')) : Ct l yX9_chimney cX9_chimney 5 (some .int) rm_X9_chimney [.ref (ad x0), .int x1, .int x2, .int x3, .int x4] G A ad M (QI G A ad r M') 0 0 := by
  refine ct_start (by decide) (Nat.le_of_ble_eq_true rfl) ?_
  intro p e s m args below meth c ls C hin hw hl
  have C : Cx G A p s m args meth c RX9 cX9_chimney 5 (some .int) := C
  have hl : lv_has ls 5 [(0, .ref (ad x0)), (1, .int x1), (2, .int x2), (3, .int x3), (4, .int x4)] := hl
  obtain ⟨hx, hb, -⟩ := id C
  rw [f_X9_chimney] at hf
  refine lv_iload_n hx hb dX9_chimney_0 rfl (lv_at hl 1 rfl) ?_
  refine lv_iconst (v := 5) hx hb dX9_chimney_1 (by decide) ?_
  obtain ⟨r2, M1, hc3, hf⟩ := cl_inv hf
  refine fin_I (run_S C hw mf_X9_within ms_X9_within ml_X9_61 (c_X9_within l G A ad hc3) (As := [.int x1, .int 5]) (rest := []) hl.1 rfl rfl (Nat.le_of_ble_eq_true rfl) ⟨rfl, rfl, Nat.le_of_ble_eq_true rfl, Nat.le_of_ble_eq_true rfl⟩ ⟨Nat.zero_le _, Nat.zero_le _⟩ dX9_chimney_2) hw (fun H locs hw => ?_)
  refine lv_if_eq (tgt := 35) hx hb dX9_chimney_5 (by decide) (fun hc => ?_) (fun hc => ?_)
  · have hf := if_p hc hf
    refine lv_ldc hx hb C.2.2.2.1 (C.2.2.2.2.1 _ kc_X9_65) dX9_chimney_35 ?_
    exact e_iret C hw hf dX9_chimney_37
  · have hf := if_n hc hf
    refine lv_iload_n hx hb dX9_chimney_8 rfl (lv_at hl 2 rfl) ?_
    refine lv_iconst (v := 3) hx hb dX9_chimney_9 (by decide) ?_
    obtain ⟨r5, M4, hc6, hf⟩ := cl_inv hf
    refine fin_I (run_S C hw mf_X9_within ms_X9_within ml_X9_61 (c_X9_within l G A ad hc6) (As := [.int x2, .int 3]) (rest := []) hl.1 rfl rfl (Nat.le_of_ble_eq_true rfl) ⟨rfl, rfl, Nat.le_of_ble_eq_true rfl, Nat.le_of_ble_eq_true rfl⟩ ⟨Nat.zero_le _, Nat.zero_le _⟩ dX9_chimney_10) hw (fun H locs hw => ?_)
    refine lv_if_eq (tgt := 35) hx hb dX9_chimney_13 (by decide) (fun hc => ?_) (fun hc => ?_)
    · have hf := if_p hc hf
      refine lv_ldc hx hb C.2.2.2.1 (C.2.2.2.2.1 _ kc_X9_65) dX9_chimney_35 ?_
      exact e_iret C hw hf dX9_chimney_37
    · have hf := if_n hc hf
      refine lv_iload_n hx hb dX9_chimney_16 rfl (lv_at hl 3 rfl) ?_
      refine lv_bipush (v := 99) hx hb dX9_chimney_17 (by decide) ?_
      obtain ⟨r8, M7, hc9, hf⟩ := cl_inv hf
      refine fin_I (run_S C hw mf_X9_within ms_X9_within ml_X9_61 (c_X9_within l G A ad hc9) (As := [.int x3, .int 99]) (rest := []) hl.1 rfl rfl (Nat.le_of_ble_eq_true rfl) ⟨rfl, rfl, Nat.le_of_ble_eq_true rfl, Nat.le_of_ble_eq_true rfl⟩ ⟨Nat.zero_le _, Nat.zero_le _⟩ dX9_chimney_19) hw (fun H locs hw => ?_)
      refine lv_if_eq (tgt := 35) hx hb dX9_chimney_22 (by decide) (fun hc => ?_) (fun hc => ?_)
      · have hf := if_p hc hf
        refine lv_ldc hx hb C.2.2.2.1 (C.2.2.2.2.1 _ kc_X9_65) dX9_chimney_35 ?_
        exact e_iret C hw hf dX9_chimney_37
      · have hf := if_n hc hf
        refine lv_iload hx hb dX9_chimney_25 (lv_at hl 4 rfl) ?_
        refine lv_bipush (v := 99) hx hb dX9_chimney_27 (by decide) ?_
        obtain ⟨r11, M10, hc12, hf⟩ := cl_inv hf
        refine fin_I (run_S C hw mf_X9_within ms_X9_within ml_X9_61 (c_X9_within l G A ad hc12) (As := [.int x4, .int 99]) (rest := []) hl.1 rfl rfl (Nat.le_of_ble_eq_true rfl) ⟨rfl, rfl, Nat.le_of_ble_eq_true rfl, Nat.le_of_ble_eq_true rfl⟩ ⟨Nat.zero_le _, Nat.zero_le _⟩ dX9_chimney_29) hw (fun H locs hw => ?_)
        refine lv_if_ne (tgt := 38) hx hb dX9_chimney_32 (by decide) (fun hc => ?_) (fun hc => ?_)
        · have hf := if_n hc hf
          refine lv_aload_n hx hb dX9_chimney_38 rfl (lv_at hl 0 rfl) ?_
          obtain ⟨hT13, hf⟩ := gt_inv hf
          obtain ⟨a14, hP15, hf⟩ := lp_inv hf
          refine r_getP C hw cf9 0 (by decide) rfl hT13 hP15 fl_X9_10 dX9_chimney_39 ?_
          refine lv_iload_n hx hb dX9_chimney_42 rfl (lv_at hl 1 rfl) ?_
          refine lv_iload_n hx hb dX9_chimney_43 rfl (lv_at hl 2 rfl) ?_
          refine lv_iload_n hx hb dX9_chimney_44 rfl (lv_at hl 3 rfl) ?_
          refine lv_iload hx hb dX9_chimney_45 (lv_at hl 4 rfl) ?_
          obtain ⟨hT19, hf⟩ := gt_inv hf
          obtain ⟨r17, M16, hc18, hf⟩ := cl_inv hf
          refine fin_I (run_V C hw mf_X8_build mv_X8_build ml_X9_66 cf8 hT19 (c_X8_build l G A ad hc18) (As := [.int x1, .int x2, .int x3, .int x4]) (rest := []) hl.1 rfl rfl (Nat.le_of_ble_eq_true rfl) ⟨rfl, rfl, Nat.le_of_ble_eq_true rfl, Nat.le_of_ble_eq_true rfl⟩ ⟨Nat.zero_le _, Nat.zero_le _⟩ dX9_chimney_47) hw (fun H locs hw => ?_)
          exact e_iret C hw hf dX9_chimney_50
        · have hf := if_p hc hf
          refine lv_ldc hx hb C.2.2.2.1 (C.2.2.2.2.1 _ kc_X9_65) dX9_chimney_35 ?_
          exact e_iret C hw hf dX9_chimney_37
/-! StorkVote.settleNow()V -/
abbrev rm_X9_settleNow : Room := { frames := 5, cells := 0, slots := 0, locals := 119 }
def f_X9_settleNow (M : Mem) (x0 : Nat) : Option (Unit × Mem) := gt (mT M x0) 10 (lp (mP M x0 3) (fun a2 => lp (mP M x0 0) (fun a4 => gt (mT M a2) 5 (cl (f_X4_look M a2 a4) (fun _ M6 => gt (mT M6 x0) 10 (lp (mP M6 x0 3) (fun a11 => lp (mP M6 x0 0) (fun a13 => gt (mT M6 a11) 5 (cl (f_X4_settle M6 a11 a13 (-1000000005)) (fun _ M15 => some ((), M15)))))))))))
set_option maxHeartbeats 4000000 in
set_option maxRecDepth 100000 in
theorem c_X9_settleNow (l : Launch) (G : Gd) (A : Nat → Prop) (ad : Nat → Nat) {M : Mem} {x0 : Nat}  {M' : Mem} (hf : f_X9_settleNow M x0 = some ((), M')) : Ct l yX9_settleNow cX9_settleNow 1 none rm_X9_settleNow [.ref (ad x0)] G A ad M (QV G A ad M') 0 0 := by
  refine ct_start (by decide) (Nat.le_of_ble_eq_true rfl) ?_
  intro p e s m args below meth c ls C hin hw hl
  have C : Cx G A p s m args meth c RX9 cX9_settleNow 1 none := C
  have hl : lv_has ls 1 [(0, .ref (ad x0))] := hl
  obtain ⟨hx, hb, -⟩ := id C
  rw [f_X9_settleNow] at hf
  refine lv_aload_n hx hb dX9_settleNow_0 rfl (lv_at hl 0 rfl) ?_
  obtain ⟨hT1, hf⟩ := gt_inv hf
  obtain ⟨a2, hP3, hf⟩ := lp_inv hf
  refine r_getP C hw cf9 3 (by decide) rfl hT1 hP3 fl_X9_25 dX9_settleNow_1 ?_
  refine lv_aload_n hx hb dX9_settleNow_4 rfl (lv_at hl 0 rfl) ?_
  obtain ⟨a4, hP5, hf⟩ := lp_inv hf
  refine r_getP C hw cf9 0 (by decide) rfl hT1 hP5 fl_X9_10 dX9_settleNow_5 ?_
  obtain ⟨hT9, hf⟩ := gt_inv hf
  obtain ⟨⟨⟩, M6, hc8, hf⟩ := cl_inv hf
  refine fin_V (run_V C hw mf_X4_look mv_X4_look ml_X9_175 cf4 hT9 (c_X4_look l G A ad hc8) (As := [.ref (ad a4)]) (rest := []) hl.1 rfl rfl (Nat.le_of_ble_eq_true rfl) ⟨rfl, rfl, Nat.le_of_ble_eq_true rfl, Nat.le_of_ble_eq_true rfl⟩ ⟨Nat.zero_le _, Nat.zero_le _⟩ dX9_settleNow_8) hw (fun H locs hw => ?_)
  refine lv_aload_n hx hb dX9_settleNow_11 rfl (lv_at hl 0 rfl) ?_
  obtain ⟨hT10, hf⟩ := gt_inv hf
  obtain ⟨a11, hP12, hf⟩ := lp_inv hf
  refine r_getP C hw cf9 3 (by decide) rfl hT10 hP12 fl_X9_25 dX9_settleNow_12 ?_
  refine lv_aload_n hx hb dX9_settleNow_15 rfl (lv_at hl 0 rfl) ?_
  obtain ⟨a13, hP14, hf⟩ := lp_inv hf
  refine r_getP C hw cf9 0 (by decide) rfl hT10 hP14 fl_X9_10 dX9_settleNow_16 ?_
  refine lv_ldc hx hb C.2.2.2.1 (C.2.2.2.2.1 _ kc_X9_107) dX9_settleNow_19 ?_
  obtain ⟨hT18, hf⟩ := gt_inv hf
  obtain ⟨⟨⟩, M15, hc17, hf⟩ := cl_inv hf
  refine fin_V (run_V C hw mf_X4_settle mv_X4_settle ml_X9_190 cf4 hT18 (c_X4_settle l G A ad hc17) (As := [.ref (ad a13), .int (-1000000005)]) (rest := []) hl.1 rfl rfl (Nat.le_of_ble_eq_true rfl) ⟨rfl, rfl, Nat.le_of_ble_eq_true rfl, Nat.le_of_ble_eq_true rfl⟩ ⟨Nat.zero_le _, Nat.zero_le _⟩ dX9_settleNow_21) hw (fun H locs hw => ?_)
  exact e_vret C hw hf dX9_settleNow_24
/-! StorkVote.told(II)I -/
abbrev rm_X9_told : Room := { frames := 6, cells := 0, slots := 0, locals := 139 }
def f_X9_told (M : Mem) (x0 : Nat) (x1 : Int32) (x2 : Int32) : Option (Int32 × Mem) := gt (mT M x0) 10 (lp (mP M x0 0) (fun a2 => gt (mT M a2) 9 (cl (f_X8_hasChimney M a2 x1) (fun r5 M4 => (if r5 = 0 then some ((-1000000001), M4) else gt (mT M4 x0) 10 (lp (mP M4 x0 0) (fun a9 => gt (mT M4 a9) 9 (lp (mP M4 a9 0) (fun a12 => gt (mT M4 a12) 23 (gd (ib x1 (mL M4 a12)) (lp (mP M4 a12 x1.toNatClampNeg) (fun a16 => (if x2 = 0 then gt (mT M4 a16) 1 (some ((mI M4 a16 0), M4)) else if x2 = 1 then gt (mT M4 a16) 1 (some ((mI M4 a16 1), M4)) else if x2 = 2 then gt (mT M4 a16) 1 (some ((mI M4 a16 2), M4)) else if x2 = 3 then gt (mT M4 a16) 1 (some ((mI M4 a16 3), M4)) else if x2 = 4 then gt (mT M4 a16) 1 (cl (f_X0_worth M4 a16) (fun r28 M27 => some (r28, M27))) else if x2 = 5 then cl (f_X9_settleNow M4 x0) (fun _ M32 => gt (mT M32 x0) 10 (lp (mP M32 x0 3) (fun a36 => gt (mT M32 a36) 5 (lp (mP M32 a36 1) (fun a39 => gt (mT M32 a39) 20 (gd (ib x1 (mL M32 a39)) (some ((mI M32 a39 x1.toNatClampNeg), M32)))))))) else some ((-1000000001), M4))))))))))))))
set_option maxHeartbeats 4000000 in
set_option maxRecDepth 100000 in
theorem c_X9_told (l : Launch) (G : Gd) (A : Nat → Prop) (ad : Nat → Nat) {M : Mem} {x0 : Nat} {x1 : Int32} {x2 : Int32}  {r : Int32} {M' : Mem} (hf : f_X9_told M x0 x1 x2 = some (r, M')) : Ct l yX9_told cX9_told 4 (some .int) rm_X9_told [.ref (ad x0), .int x1, .int x2] G A ad M (QI G A ad r M') 0 0 := by
  refine ct_start (by decide) (Nat.le_of_ble_eq_true rfl) ?_
  intro p e s m args below meth c ls C hin hw hl
  have C : Cx G A p s m args meth c RX9 cX9_told 4 (some .int) := C
  have hl : lv_has ls 4 [(0, .ref (ad x0)), (1, .int x1), (2, .int x2)] := hl
  obtain ⟨hx, hb, -⟩ := id C
  rw [f_X9_told] at hf
  refine lv_aload_n hx hb dX9_told_0 rfl (lv_at hl 0 rfl) ?_
  obtain ⟨hT1, hf⟩ := gt_inv hf
  obtain ⟨a2, hP3, hf⟩ := lp_inv hf
  refine r_getP C hw cf9 0 (by decide) rfl hT1 hP3 fl_X9_10 dX9_told_1 ?_
  refine lv_iload_n hx hb dX9_told_4 rfl (lv_at hl 1 rfl) ?_
  obtain ⟨hT7, hf⟩ := gt_inv hf
  obtain ⟨r5, M4, hc6, hf⟩ := cl_inv hf
  refine fin_I (run_V C hw mf_X8_hasChimney mv_X8_hasChimney ml_X9_70 cf8 hT7 (c_X8_hasChimney l G A ad hc6) (As := [.int x1]) (rest := []) hl.1 rfl rfl (Nat.le_of_ble_eq_true rfl) ⟨rfl, rfl, Nat.le_of_ble_eq_true rfl, Nat.le_of_ble_eq_true rfl⟩ ⟨Nat.zero_le _, Nat.zero_le _⟩ dX9_told_5) hw (fun H locs hw => ?_)
  refine lv_if_ne (tgt := 14) hx hb dX9_told_8 (by decide) (fun hc => ?_) (fun hc => ?_)
  · have hf := if_n hc hf
    refine lv_aload_n hx hb dX9_told_14 rfl (lv_at hl 0 rfl) ?_
    obtain ⟨hT8, hf⟩ := gt_inv hf
    obtain ⟨a9, hP10, hf⟩ := lp_inv hf
    refine r_getP C hw cf9 0 (by decide) rfl hT8 hP10 fl_X9_10 dX9_told_15 ?_
    obtain ⟨hT11, hf⟩ := gt_inv hf
    obtain ⟨a12, hP13, hf⟩ := lp_inv hf
    refine r_getP C hw cf8 0 (by decide) rfl hT11 hP13 fl_X9_74 dX9_told_18 ?_
    refine lv_iload_n hx hb dX9_told_21 rfl (lv_at hl 1 rfl) ?_
    obtain ⟨hT14, hf⟩ := gt_inv hf
    obtain ⟨hg15, hf⟩ := gd_inv hf
    obtain ⟨a16, hP17, hf⟩ := lp_inv hf
    refine r_aald C hw 3 rfl (by decide) (by decide) hT14 hg15 hP17 dX9_told_22 ?_
    refine lv_astore_n (lv' := [(3, .ref (ad a16)), (0, .ref (ad x0)), (1, .int x1), (2, .int x2)]) hx hb dX9_told_23 rfl hl (by decide) rfl (fun ls hl => ?_)
    refine lv_iload_n hx hb dX9_told_24 rfl (lv_at hl 3 rfl) ?_
    by_cases hc18 : x2 = 0
    · have hf := if_p hc18 hf
      refine r_tabIn 0 hc18 hx hb dX9_told_25 (by decide) (by decide) rfl (tgt := 64) (by decide) ?_
      refine lv_aload_n hx hb dX9_told_64 rfl (lv_at hl 0 rfl) ?_
      obtain ⟨hT19, hf⟩ := gt_inv hf
      refine r_getI C hw cf0 0 (by decide) rfl hT19 fl_X9_78 dX9_told_65 ?_
      exact e_iret C hw hf dX9_told_68
    · have hf := if_n hc18 hf
      by_cases hc20 : x2 = 1
      · have hf := if_p hc20 hf
        refine r_tabIn 1 hc20 hx hb dX9_told_25 (by decide) (by decide) rfl (tgt := 69) (by decide) ?_
        refine lv_aload_n hx hb dX9_told_69 rfl (lv_at hl 0 rfl) ?_
        obtain ⟨hT21, hf⟩ := gt_inv hf
        refine r_getI C hw cf0 1 (by decide) rfl hT21 fl_X9_84 dX9_told_70 ?_
        exact e_iret C hw hf dX9_told_73
      · have hf := if_n hc20 hf
        by_cases hc22 : x2 = 2
        · have hf := if_p hc22 hf
          refine r_tabIn 2 hc22 hx hb dX9_told_25 (by decide) (by decide) rfl (tgt := 74) (by decide) ?_
          refine lv_aload_n hx hb dX9_told_74 rfl (lv_at hl 0 rfl) ?_
          obtain ⟨hT23, hf⟩ := gt_inv hf
          refine r_getI C hw cf0 2 (by decide) rfl hT23 fl_X9_87 dX9_told_75 ?_
          exact e_iret C hw hf dX9_told_78
        · have hf := if_n hc22 hf
          by_cases hc24 : x2 = 3
          · have hf := if_p hc24 hf
            refine r_tabIn 3 hc24 hx hb dX9_told_25 (by decide) (by decide) rfl (tgt := 79) (by decide) ?_
            refine lv_aload_n hx hb dX9_told_79 rfl (lv_at hl 0 rfl) ?_
            obtain ⟨hT25, hf⟩ := gt_inv hf
            refine r_getI C hw cf0 3 (by decide) rfl hT25 fl_X9_90 dX9_told_80 ?_
            exact e_iret C hw hf dX9_told_83
          · have hf := if_n hc24 hf
            by_cases hc26 : x2 = 4
            · have hf := if_p hc26 hf
              refine r_tabIn 4 hc26 hx hb dX9_told_25 (by decide) (by decide) rfl (tgt := 84) (by decide) ?_
              refine lv_aload_n hx hb dX9_told_84 rfl (lv_at hl 0 rfl) ?_
              obtain ⟨hT30, hf⟩ := gt_inv hf
              obtain ⟨r28, M27, hc29, hf⟩ := cl_inv hf
              refine fin_I (run_V C hw mf_X0_worth mv_X0_worth ml_X9_93 cf0 hT30 (c_X0_worth l G A ad hc29) (As := []) (rest := []) hl.1 rfl rfl (Nat.le_of_ble_eq_true rfl) ⟨rfl, rfl, Nat.le_of_ble_eq_true rfl, Nat.le_of_ble_eq_true rfl⟩ ⟨Nat.zero_le _, Nat.zero_le _⟩ dX9_told_85) hw (fun H locs hw => ?_)
              exact e_iret C hw hf dX9_told_88
            · have hf := if_n hc26 hf
              by_cases hc31 : x2 = 5
              · have hf := if_p hc31 hf
                refine r_tabIn 5 hc31 hx hb dX9_told_25 (by decide) (by decide) rfl (tgt := 89) (by decide) ?_
                refine lv_aload_n hx hb dX9_told_89 rfl (lv_at hl 1 rfl) ?_
                obtain ⟨⟨⟩, M32, hc34, hf⟩ := cl_inv hf
                refine fin_V (run_V C hw mf_X9_settleNow mv_X9_settleNow ml_X9_97 cf9 hT8 (c_X9_settleNow l G A ad hc34) (As := []) (rest := []) hl.1 rfl rfl (Nat.le_of_ble_eq_true rfl) ⟨rfl, rfl, Nat.le_of_ble_eq_true rfl, Nat.le_of_ble_eq_true rfl⟩ ⟨Nat.zero_le _, Nat.zero_le _⟩ dX9_told_90) hw (fun H locs hw => ?_)
                refine lv_aload_n hx hb dX9_told_93 rfl (lv_at hl 1 rfl) ?_
                obtain ⟨hT35, hf⟩ := gt_inv hf
                obtain ⟨a36, hP37, hf⟩ := lp_inv hf
                refine r_getP C hw cf9 3 (by decide) rfl hT35 hP37 fl_X9_25 dX9_told_94 ?_
                obtain ⟨hT38, hf⟩ := gt_inv hf
                obtain ⟨a39, hP40, hf⟩ := lp_inv hf
                refine r_getP C hw cf4 1 (by decide) rfl hT38 hP40 fl_X9_100 dX9_told_97 ?_
                refine lv_iload_n hx hb dX9_told_100 rfl (lv_at hl 2 rfl) ?_
                obtain ⟨hT41, hf⟩ := gt_inv hf
                obtain ⟨hg42, hf⟩ := gd_inv hf
                refine r_iald C hw hT41 hg42 dX9_told_101 ?_
                exact e_iret C hw hf dX9_told_102
              · have hf := if_n hc31 hf
                refine r_tabOut hx hb dX9_told_25 (by have n0 := sw_nei (k := 0) (by decide) hc18; have n1 := sw_nei (k := 1) (by decide) hc20; have n2 := sw_nei (k := 2) (by decide) hc22; have n3 := sw_nei (k := 3) (by decide) hc24; have n4 := sw_nei (k := 4) (by decide) hc26; have n5 := sw_nei (k := 5) (by decide) hc31; omega) (tgt := 103) (by decide) ?_
                refine lv_ldc hx hb C.2.2.2.1 (C.2.2.2.2.1 _ kc_X9_65) dX9_told_103 ?_
                exact e_iret C hw hf dX9_told_105
  · have hf := if_p hc hf
    refine lv_ldc hx hb C.2.2.2.1 (C.2.2.2.2.1 _ kc_X9_65) dX9_told_11 ?_
    exact e_iret C hw hf dX9_told_13
/-! StorkVote.as(II)I -/
abbrev rm_X9_as : Room := { frames := 1, cells := 0, slots := 0, locals := 23 }
def f_X9_as (M : Mem) (x0 : Nat) (x1 : Int32) (x2 : Int32) : Option (Int32 × Mem) := gt (mT M x0) 10 (lp (mP M x0 0) (fun a2 => gt (mT M a2) 9 (cl (f_X8_hasChimney M a2 x1) (fun r5 M4 => (if r5 = 0 then some ((-1000000001), M4) else cl (f_X9_within M4 x2 5) (fun r9 M8 => (if r9 = 0 then some ((-1000000001), M8) else gt (mT M8 x0) 10 (lp (mP M8 x0 0) (fun a12 => gt (mT M8 a12) 9 (lp (mP M8 a12 0) (fun a15 => gt (mT M8 a15) 23 (gd (ib x1 (mL M8 a15)) (lp (mP M8 a15 x1.toNatClampNeg) (fun a19 => gt (mT M8 a19) 1 (cl (f_X0_isOf M8 a19 x2) (fun r22 M21 => (if r22 = 0 then some ((-1000000012), M21) else gt (mT M21 a19) 1 (some ((mI M21 a19 2), M21)))))))))))))))))))
set_option maxHeartbeats 4000000 in
set_option maxRecDepth 100000 in
theorem c_X9_as (l : Launch) (G : Gd) (A : Nat → Prop) (ad : Nat → Nat) {M : Mem} {x0 : Nat} {x1 : Int32} {x2 : Int32}  {r : Int32} {M' : Mem} (hf : f_X9_as M x0 x1 x2 = some (r, M')) : Ct l yX9_as cX9_as 4 (some .int) rm_X9_as [.ref (ad x0), .int x1, .int x2] G A ad M (QI G A ad r M') 0 0 := by
  refine ct_start (by decide) (Nat.le_of_ble_eq_true rfl) ?_
  intro p e s m args below meth c ls C hin hw hl
  have C : Cx G A p s m args meth c RX9 cX9_as 4 (some .int) := C
  have hl : lv_has ls 4 [(0, .ref (ad x0)), (1, .int x1), (2, .int x2)] := hl
  obtain ⟨hx, hb, -⟩ := id C
  rw [f_X9_as] at hf
  refine lv_aload_n hx hb dX9_as_0 rfl (lv_at hl 0 rfl) ?_
  obtain ⟨hT1, hf⟩ := gt_inv hf
  obtain ⟨a2, hP3, hf⟩ := lp_inv hf
  refine r_getP C hw cf9 0 (by decide) rfl hT1 hP3 fl_X9_10 dX9_as_1 ?_
  refine lv_iload_n hx hb dX9_as_4 rfl (lv_at hl 1 rfl) ?_
  obtain ⟨hT7, hf⟩ := gt_inv hf
  obtain ⟨r5, M4, hc6, hf⟩ := cl_inv hf
  refine fin_I (run_V C hw mf_X8_hasChimney mv_X8_hasChimney ml_X9_70 cf8 hT7 (c_X8_hasChimney l G A ad hc6) (As := [.int x1]) (rest := []) hl.1 rfl rfl (Nat.le_of_ble_eq_true rfl) ⟨rfl, rfl, Nat.le_of_ble_eq_true rfl, Nat.le_of_ble_eq_true rfl⟩ ⟨Nat.zero_le _, Nat.zero_le _⟩ dX9_as_5) hw (fun H locs hw => ?_)
  refine lv_if_eq (tgt := 19) hx hb dX9_as_8 (by decide) (fun hc => ?_) (fun hc => ?_)
  · have hf := if_p hc hf
    refine lv_ldc hx hb C.2.2.2.1 (C.2.2.2.2.1 _ kc_X9_65) dX9_as_19 ?_
    exact e_iret C hw hf dX9_as_21
  · have hf := if_n hc hf
    refine lv_iload_n hx hb dX9_as_11 rfl (lv_at hl 2 rfl) ?_
    refine lv_iconst (v := 5) hx hb dX9_as_12 (by decide) ?_
    obtain ⟨r9, M8, hc10, hf⟩ := cl_inv hf
    refine fin_I (run_S C hw mf_X9_within ms_X9_within ml_X9_61 (c_X9_within l G A ad hc10) (As := [.int x2, .int 5]) (rest := []) hl.1 rfl rfl (Nat.le_of_ble_eq_true rfl) ⟨rfl, rfl, Nat.le_of_ble_eq_true rfl, Nat.le_of_ble_eq_true rfl⟩ ⟨Nat.zero_le _, Nat.zero_le _⟩ dX9_as_13) hw (fun H locs hw => ?_)
    refine lv_if_ne (tgt := 22) hx hb dX9_as_16 (by decide) (fun hc => ?_) (fun hc => ?_)
    · have hf := if_n hc hf
      refine lv_aload_n hx hb dX9_as_22 rfl (lv_at hl 0 rfl) ?_
      obtain ⟨hT11, hf⟩ := gt_inv hf
      obtain ⟨a12, hP13, hf⟩ := lp_inv hf
      refine r_getP C hw cf9 0 (by decide) rfl hT11 hP13 fl_X9_10 dX9_as_23 ?_
      obtain ⟨hT14, hf⟩ := gt_inv hf
      obtain ⟨a15, hP16, hf⟩ := lp_inv hf
      refine r_getP C hw cf8 0 (by decide) rfl hT14 hP16 fl_X9_74 dX9_as_26 ?_
      refine lv_iload_n hx hb dX9_as_29 rfl (lv_at hl 1 rfl) ?_
      obtain ⟨hT17, hf⟩ := gt_inv hf
      obtain ⟨hg18, hf⟩ := gd_inv hf
      obtain ⟨a19, hP20, hf⟩ := lp_inv hf
      refine r_aald C hw 3 rfl (by decide) (by decide) hT17 hg18 hP20 dX9_as_30 ?_
      refine lv_astore_n (lv' := [(3, .ref (ad a19)), (0, .ref (ad x0)), (1, .int x1), (2, .int x2)]) hx hb dX9_as_31 rfl hl (by decide) rfl (fun ls hl => ?_)
      refine lv_aload_n hx hb dX9_as_32 rfl (lv_at hl 0 rfl) ?_
      refine lv_iload_n hx hb dX9_as_33 rfl (lv_at hl 3 rfl) ?_
      obtain ⟨hT24, hf⟩ := gt_inv hf
      obtain ⟨r22, M21, hc23, hf⟩ := cl_inv hf
      refine fin_I (run_V C hw mf_X0_isOf mv_X0_isOf ml_X9_103 cf0 hT24 (c_X0_isOf l G A ad hc23) (As := [.int x2]) (rest := []) hl.1 rfl rfl (Nat.le_of_ble_eq_true rfl) ⟨rfl, rfl, Nat.le_of_ble_eq_true rfl, Nat.le_of_ble_eq_true rfl⟩ ⟨Nat.zero_le _, Nat.zero_le _⟩ dX9_as_34) hw (fun H locs hw => ?_)
      refine lv_if_eq (tgt := 47) hx hb dX9_as_37 (by decide) (fun hc => ?_) (fun hc => ?_)
      · have hf := if_p hc hf
        refine lv_ldc hx hb C.2.2.2.1 (C.2.2.2.2.1 _ kc_X9_106) dX9_as_47 ?_
        exact e_iret C hw hf dX9_as_49
      · have hf := if_n hc hf
        refine lv_aload_n hx hb dX9_as_40 rfl (lv_at hl 0 rfl) ?_
        obtain ⟨hT25, hf⟩ := gt_inv hf
        refine r_getI C hw cf0 2 (by decide) rfl hT25 fl_X9_87 dX9_as_41 ?_
        refine lv_goto (tgt := 49) hx hb dX9_as_44 (by decide) ?_
        exact e_iret C hw hf dX9_as_49
    · have hf := if_p hc hf
      refine lv_ldc hx hb C.2.2.2.1 (C.2.2.2.2.1 _ kc_X9_65) dX9_as_19 ?_
      exact e_iret C hw hf dX9_as_21
/-! StorkVote.turns(II)I -/
abbrev rm_X9_turns : Room := { frames := 1, cells := 0, slots := 0, locals := 21 }
def f_X9_turns (M : Mem) (x0 : Nat) (x1 : Int32) (x2 : Int32) : Option (Int32 × Mem) := gt (mT M x0) 10 (lp (mP M x0 0) (fun a2 => gt (mT M a2) 9 (cl (f_X8_hasChimney M a2 x1) (fun r5 M4 => (if r5 = 0 then some ((-1000000001), M4) else cl (f_X9_within M4 x2 5) (fun r9 M8 => (if r9 = 0 then some ((-1000000001), M8) else gt (mT M8 x0) 10 (lp (mP M8 x0 0) (fun a12 => gt (mT M8 a12) 9 (lp (mP M8 a12 0) (fun a15 => gt (mT M8 a15) 23 (gd (ib x1 (mL M8 a15)) (lp (mP M8 a15 x1.toNatClampNeg) (fun a19 => gt (mT M8 a19) 1 (st (setI M8 a19 0 x2) (fun M22 => some ((mI M8 a19 0), M22)))))))))))))))))
set_option maxHeartbeats 4000000 in
set_option maxRecDepth 100000 in
theorem c_X9_turns (l : Launch) (G : Gd) (A : Nat → Prop) (ad : Nat → Nat) {M : Mem} {x0 : Nat} {x1 : Int32} {x2 : Int32}  {r : Int32} {M' : Mem} (hf : f_X9_turns M x0 x1 x2 = some (r, M')) : Ct l yX9_turns cX9_turns 5 (some .int) rm_X9_turns [.ref (ad x0), .int x1, .int x2] G A ad M (QI G A ad r M') 0 0 := by
  refine ct_start (by decide) (Nat.le_of_ble_eq_true rfl) ?_
  intro p e s m args below meth c ls C hin hw hl
  have C : Cx G A p s m args meth c RX9 cX9_turns 5 (some .int) := C
  have hl : lv_has ls 5 [(0, .ref (ad x0)), (1, .int x1), (2, .int x2)] := hl
  obtain ⟨hx, hb, -⟩ := id C
  rw [f_X9_turns] at hf
  refine lv_aload_n hx hb dX9_turns_0 rfl (lv_at hl 0 rfl) ?_
  obtain ⟨hT1, hf⟩ := gt_inv hf
  obtain ⟨a2, hP3, hf⟩ := lp_inv hf
  refine r_getP C hw cf9 0 (by decide) rfl hT1 hP3 fl_X9_10 dX9_turns_1 ?_
  refine lv_iload_n hx hb dX9_turns_4 rfl (lv_at hl 1 rfl) ?_
  obtain ⟨hT7, hf⟩ := gt_inv hf
  obtain ⟨r5, M4, hc6, hf⟩ := cl_inv hf
  refine fin_I (run_V C hw mf_X8_hasChimney mv_X8_hasChimney ml_X9_70 cf8 hT7 (c_X8_hasChimney l G A ad hc6) (As := [.int x1]) (rest := []) hl.1 rfl rfl (Nat.le_of_ble_eq_true rfl) ⟨rfl, rfl, Nat.le_of_ble_eq_true rfl, Nat.le_of_ble_eq_true rfl⟩ ⟨Nat.zero_le _, Nat.zero_le _⟩ dX9_turns_5) hw (fun H locs hw => ?_)
  refine lv_if_eq (tgt := 19) hx hb dX9_turns_8 (by decide) (fun hc => ?_) (fun hc => ?_)
  · have hf := if_p hc hf
    refine lv_ldc hx hb C.2.2.2.1 (C.2.2.2.2.1 _ kc_X9_65) dX9_turns_19 ?_
    exact e_iret C hw hf dX9_turns_21
  · have hf := if_n hc hf
    refine lv_iload_n hx hb dX9_turns_11 rfl (lv_at hl 2 rfl) ?_
    refine lv_iconst (v := 5) hx hb dX9_turns_12 (by decide) ?_
    obtain ⟨r9, M8, hc10, hf⟩ := cl_inv hf
    refine fin_I (run_S C hw mf_X9_within ms_X9_within ml_X9_61 (c_X9_within l G A ad hc10) (As := [.int x2, .int 5]) (rest := []) hl.1 rfl rfl (Nat.le_of_ble_eq_true rfl) ⟨rfl, rfl, Nat.le_of_ble_eq_true rfl, Nat.le_of_ble_eq_true rfl⟩ ⟨Nat.zero_le _, Nat.zero_le _⟩ dX9_turns_13) hw (fun H locs hw => ?_)
    refine lv_if_ne (tgt := 22) hx hb dX9_turns_16 (by decide) (fun hc => ?_) (fun hc => ?_)
    · have hf := if_n hc hf
      refine lv_aload_n hx hb dX9_turns_22 rfl (lv_at hl 0 rfl) ?_
      obtain ⟨hT11, hf⟩ := gt_inv hf
      obtain ⟨a12, hP13, hf⟩ := lp_inv hf
      refine r_getP C hw cf9 0 (by decide) rfl hT11 hP13 fl_X9_10 dX9_turns_23 ?_
      obtain ⟨hT14, hf⟩ := gt_inv hf
      obtain ⟨a15, hP16, hf⟩ := lp_inv hf
      refine r_getP C hw cf8 0 (by decide) rfl hT14 hP16 fl_X9_74 dX9_turns_26 ?_
      refine lv_iload_n hx hb dX9_turns_29 rfl (lv_at hl 1 rfl) ?_
      obtain ⟨hT17, hf⟩ := gt_inv hf
      obtain ⟨hg18, hf⟩ := gd_inv hf
      obtain ⟨a19, hP20, hf⟩ := lp_inv hf
      refine r_aald C hw 3 rfl (by decide) (by decide) hT17 hg18 hP20 dX9_turns_30 ?_
      refine lv_astore_n (lv' := [(3, .ref (ad a19)), (0, .ref (ad x0)), (1, .int x1), (2, .int x2)]) hx hb dX9_turns_31 rfl hl (by decide) rfl (fun ls hl => ?_)
      refine lv_aload_n hx hb dX9_turns_32 rfl (lv_at hl 0 rfl) ?_
      obtain ⟨hT21, hf⟩ := gt_inv hf
      refine r_getI C hw cf0 0 (by decide) rfl hT21 fl_X9_78 dX9_turns_33 ?_
      refine lv_istore (lv' := [(4, .int (mI M8 a19 0)), (3, .ref (ad a19)), (0, .ref (ad x0)), (1, .int x1), (2, .int x2)]) hx hb dX9_turns_36 hl (by decide) rfl (fun ls hl => ?_)
      refine lv_aload_n hx hb dX9_turns_38 rfl (lv_at hl 1 rfl) ?_
      refine lv_iload_n hx hb dX9_turns_39 rfl (lv_at hl 4 rfl) ?_
      obtain ⟨M22, e23, hf⟩ := st_inv hf
      have g24 := sg_I e23
      refine r_putI C hw cf0 0 (by decide) rfl hT21 e23 fl_X9_78 rfl rfl rfl dX9_turns_40 (fun H locs hw => ?_)
      refine lv_iload hx hb dX9_turns_43 (lv_at hl 0 rfl) ?_
      exact e_iret C hw hf dX9_turns_45
    · have hf := if_p hc hf
      refine lv_ldc hx hb C.2.2.2.1 (C.2.2.2.2.1 _ kc_X9_65) dX9_turns_19 ?_
      exact e_iret C hw hf dX9_turns_21
/-! StorkVote.set(III)I -/
abbrev rm_X9_set : Room := { frames := 1, cells := 0, slots := 0, locals := 21 }
def f_X9_set_33 (M : Mem) (x0 : Nat) (x1 : Int32) (x2 : Int32) (x3 : Int32) (s0 : Int32) (s1 : Int32) : Option (Int32 × Mem) := cl (f_X9_within M s0 s1) (fun r2 M1 => (if r2 = 0 then some ((-1000000001), M1) else gt (mT M1 x0) 10 (lp (mP M1 x0 0) (fun a5 => gt (mT M1 a5) 9 (lp (mP M1 a5 0) (fun a8 => gt (mT M1 a8) 23 (gd (ib x1 (mL M1 a8)) (lp (mP M1 a8 x1.toNatClampNeg) (fun a12 => (if x2 = 1 then gt (mT M1 a12) 1 (st (setI M1 a12 1 x3) (fun M23 => some ((mI M1 a12 1), M23))) else (if x2 = 2 then gt (mT M1 a12) 1 (st (setI M1 a12 2 x3) (fun M19 => some ((mI M1 a12 2), M19))) else gt (mT M1 a12) 1 (st (setI M1 a12 3 x3) (fun M15 => some ((mI M1 a12 3), M15))))))))))))))
set_option maxHeartbeats 4000000 in
set_option maxRecDepth 100000 in
theorem t_X9_set_33 {l : Launch} {p : Program} {e : Env} {s : State} {m : MethodId} {args : Array Value} {below : List Frame} {meth : Method} {c : Code} {G : Gd} {A : Nat → Prop} {ad : Nat → Nat} (C : Cx G A p s m args meth c RX9 cX9_set 6 (some .int)) {r : Int32} {M' : Mem} : ∀ (M : Mem) (x0 : Nat) (x1 : Int32) (x2 : Int32) (x3 : Int32) (s0 : Int32) (s1 : Int32) (H : Heap) (locs : List Loc) (ls : Array Slot), f_X9_set_33  M x0 x1 x2 x3 s0 s1 = some (r, M') → Wd G A ad s.heap M H locs → lv_has ls 6 [(0, .ref (ad x0)), (1, .int x1), (2, .int x2), (3, .int x3)] → W p l e rm_X9_set s m args below meth c H locs 0 0 (MQ below (QI G A ad r M') args s 0 0 A) (F0 m 33 ls [.int s1, .int s0]) := by
  obtain ⟨hx, hb, -⟩ := id C
  intro M x0 x1 x2 x3 s0 s1 H locs ls hf hw hl
  rw [f_X9_set_33] at hf
  obtain ⟨r2, M1, hc3, hf⟩ := cl_inv hf
  refine fin_I (run_S C hw mf_X9_within ms_X9_within ml_X9_61 (c_X9_within l G A ad hc3) (As := [.int s0, .int s1]) (rest := []) hl.1 rfl rfl (Nat.le_of_ble_eq_true rfl) ⟨rfl, rfl, Nat.le_of_ble_eq_true rfl, Nat.le_of_ble_eq_true rfl⟩ ⟨Nat.zero_le _, Nat.zero_le _⟩ dX9_set_33) hw (fun H locs hw => ?_)
  refine lv_if_ne (tgt := 42) hx hb dX9_set_36 (by decide) (fun hc => ?_) (fun hc => ?_)
  · have hf := if_n hc hf
    refine lv_aload_n hx hb dX9_set_42 rfl (lv_at hl 0 rfl) ?_
    obtain ⟨hT4, hf⟩ := gt_inv hf
    obtain ⟨a5, hP6, hf⟩ := lp_inv hf
    refine r_getP C hw cf9 0 (by decide) rfl hT4 hP6 fl_X9_10 dX9_set_43 ?_
    obtain ⟨hT7, hf⟩ := gt_inv hf
    obtain ⟨a8, hP9, hf⟩ := lp_inv hf
    refine r_getP C hw cf8 0 (by decide) rfl hT7 hP9 fl_X9_74 dX9_set_46 ?_
    refine lv_iload_n hx hb dX9_set_49 rfl (lv_at hl 1 rfl) ?_
    obtain ⟨hT10, hf⟩ := gt_inv hf
    obtain ⟨hg11, hf⟩ := gd_inv hf
    obtain ⟨a12, hP13, hf⟩ := lp_inv hf
    refine r_aald C hw 3 rfl (by decide) (by decide) hT10 hg11 hP13 dX9_set_50 ?_
    refine lv_astore (lv' := [(4, .ref (ad a12)), (0, .ref (ad x0)), (1, .int x1), (2, .int x2), (3, .int x3)]) hx hb dX9_set_51 hl (by decide) rfl (fun ls hl => ?_)
    refine lv_iload_n hx hb dX9_set_53 rfl (lv_at hl 3 rfl) ?_
    refine lv_iconst (v := 1) hx hb dX9_set_54 (by decide) ?_
    refine lv_icmp_ne (tgt := 74) hx hb dX9_set_55 (by decide) (fun hc => ?_) (fun hc => ?_)
    · have hf := if_n hc hf
      refine lv_iload_n hx hb dX9_set_74 rfl (lv_at hl 3 rfl) ?_
      refine lv_iconst (v := 2) hx hb dX9_set_75 (by decide) ?_
      refine lv_icmp_ne (tgt := 95) hx hb dX9_set_76 (by decide) (fun hc => ?_) (fun hc => ?_)
      · have hf := if_n hc hf
        refine lv_aload hx hb dX9_set_95 (lv_at hl 0 rfl) ?_
        obtain ⟨hT14, hf⟩ := gt_inv hf
        refine r_getI C hw cf0 3 (by decide) rfl hT14 fl_X9_90 dX9_set_97 ?_
        refine lv_istore (lv' := [(5, .int (mI M1 a12 3)), (4, .ref (ad a12)), (0, .ref (ad x0)), (1, .int x1), (2, .int x2), (3, .int x3)]) hx hb dX9_set_100 hl (by decide) rfl (fun ls hl => ?_)
        refine lv_aload hx hb dX9_set_102 (lv_at hl 1 rfl) ?_
        refine lv_iload_n hx hb dX9_set_104 rfl (lv_at hl 5 rfl) ?_
        obtain ⟨M15, e16, hf⟩ := st_inv hf
        have g17 := sg_I e16
        refine r_putI C hw cf0 3 (by decide) rfl hT14 e16 fl_X9_90 rfl rfl rfl dX9_set_105 (fun H locs hw => ?_)
        refine lv_iload hx hb dX9_set_108 (lv_at hl 0 rfl) ?_
        exact e_iret C hw hf dX9_set_110
      · have hf := if_p hc hf
        refine lv_aload hx hb dX9_set_79 (lv_at hl 0 rfl) ?_
        obtain ⟨hT18, hf⟩ := gt_inv hf
        refine r_getI C hw cf0 2 (by decide) rfl hT18 fl_X9_87 dX9_set_81 ?_
        refine lv_istore (lv' := [(5, .int (mI M1 a12 2)), (4, .ref (ad a12)), (0, .ref (ad x0)), (1, .int x1), (2, .int x2), (3, .int x3)]) hx hb dX9_set_84 hl (by decide) rfl (fun ls hl => ?_)
        refine lv_aload hx hb dX9_set_86 (lv_at hl 1 rfl) ?_
        refine lv_iload_n hx hb dX9_set_88 rfl (lv_at hl 5 rfl) ?_
        obtain ⟨M19, e20, hf⟩ := st_inv hf
        have g21 := sg_I e20
        refine r_putI C hw cf0 2 (by decide) rfl hT18 e20 fl_X9_87 rfl rfl rfl dX9_set_89 (fun H locs hw => ?_)
        refine lv_goto (tgt := 108) hx hb dX9_set_92 (by decide) ?_
        refine lv_iload hx hb dX9_set_108 (lv_at hl 0 rfl) ?_
        exact e_iret C hw hf dX9_set_110
    · have hf := if_p hc hf
      refine lv_aload hx hb dX9_set_58 (lv_at hl 0 rfl) ?_
      obtain ⟨hT22, hf⟩ := gt_inv hf
      refine r_getI C hw cf0 1 (by decide) rfl hT22 fl_X9_84 dX9_set_60 ?_
      refine lv_istore (lv' := [(5, .int (mI M1 a12 1)), (4, .ref (ad a12)), (0, .ref (ad x0)), (1, .int x1), (2, .int x2), (3, .int x3)]) hx hb dX9_set_63 hl (by decide) rfl (fun ls hl => ?_)
      refine lv_aload hx hb dX9_set_65 (lv_at hl 1 rfl) ?_
      refine lv_iload_n hx hb dX9_set_67 rfl (lv_at hl 5 rfl) ?_
      obtain ⟨M23, e24, hf⟩ := st_inv hf
      have g25 := sg_I e24
      refine r_putI C hw cf0 1 (by decide) rfl hT22 e24 fl_X9_84 rfl rfl rfl dX9_set_68 (fun H locs hw => ?_)
      refine lv_goto (tgt := 108) hx hb dX9_set_71 (by decide) ?_
      refine lv_iload hx hb dX9_set_108 (lv_at hl 0 rfl) ?_
      exact e_iret C hw hf dX9_set_110
  · have hf := if_p hc hf
    refine lv_ldc hx hb C.2.2.2.1 (C.2.2.2.2.1 _ kc_X9_65) dX9_set_39 ?_
    exact e_iret C hw hf dX9_set_41
def f_X9_set (M : Mem) (x0 : Nat) (x1 : Int32) (x2 : Int32) (x3 : Int32) : Option (Int32 × Mem) := gt (mT M x0) 10 (lp (mP M x0 0) (fun a2 => gt (mT M a2) 9 (cl (f_X8_hasChimney M a2 x1) (fun r5 M4 => (if r5 = 0 then some ((-1000000001), M4) else (if x2 < 1 then some ((-1000000001), M4) else (if 3 < x2 then some ((-1000000001), M4) else (if x2 = 1 then f_X9_set_33 M4 x0 x1 x2 x3 x3 3 else f_X9_set_33 M4 x0 x1 x2 x3 x3 99))))))))
set_option maxHeartbeats 4000000 in
set_option maxRecDepth 100000 in
theorem c_X9_set (l : Launch) (G : Gd) (A : Nat → Prop) (ad : Nat → Nat) {M : Mem} {x0 : Nat} {x1 : Int32} {x2 : Int32} {x3 : Int32}  {r : Int32} {M' : Mem} (hf : f_X9_set M x0 x1 x2 x3 = some (r, M')) : Ct l yX9_set cX9_set 6 (some .int) rm_X9_set [.ref (ad x0), .int x1, .int x2, .int x3] G A ad M (QI G A ad r M') 0 0 := by
  refine ct_start (by decide) (Nat.le_of_ble_eq_true rfl) ?_
  intro p e s m args below meth c ls C hin hw hl
  have C : Cx G A p s m args meth c RX9 cX9_set 6 (some .int) := C
  have hl : lv_has ls 6 [(0, .ref (ad x0)), (1, .int x1), (2, .int x2), (3, .int x3)] := hl
  obtain ⟨hx, hb, -⟩ := id C
  rw [f_X9_set] at hf
  refine lv_aload_n hx hb dX9_set_0 rfl (lv_at hl 0 rfl) ?_
  obtain ⟨hT1, hf⟩ := gt_inv hf
  obtain ⟨a2, hP3, hf⟩ := lp_inv hf
  refine r_getP C hw cf9 0 (by decide) rfl hT1 hP3 fl_X9_10 dX9_set_1 ?_
  refine lv_iload_n hx hb dX9_set_4 rfl (lv_at hl 1 rfl) ?_
  obtain ⟨hT7, hf⟩ := gt_inv hf
  obtain ⟨r5, M4, hc6, hf⟩ := cl_inv hf
  refine fin_I (run_V C hw mf_X8_hasChimney mv_X8_hasChimney ml_X9_70 cf8 hT7 (c_X8_hasChimney l G A ad hc6) (As := [.int x1]) (rest := []) hl.1 rfl rfl (Nat.le_of_ble_eq_true rfl) ⟨rfl, rfl, Nat.le_of_ble_eq_true rfl, Nat.le_of_ble_eq_true rfl⟩ ⟨Nat.zero_le _, Nat.zero_le _⟩ dX9_set_5) hw (fun H locs hw => ?_)
  refine lv_if_eq (tgt := 39) hx hb dX9_set_8 (by decide) (fun hc => ?_) (fun hc => ?_)
  · have hf := if_p hc hf
    refine lv_ldc hx hb C.2.2.2.1 (C.2.2.2.2.1 _ kc_X9_65) dX9_set_39 ?_
    exact e_iret C hw hf dX9_set_41
  · have hf := if_n hc hf
    refine lv_iload_n hx hb dX9_set_11 rfl (lv_at hl 2 rfl) ?_
    refine lv_iconst (v := 1) hx hb dX9_set_12 (by decide) ?_
    refine lv_icmp_lt (tgt := 39) hx hb dX9_set_13 (by decide) (fun hc => ?_) (fun hc => ?_)
    · have hf := if_p hc hf
      refine lv_ldc hx hb C.2.2.2.1 (C.2.2.2.2.1 _ kc_X9_65) dX9_set_39 ?_
      exact e_iret C hw hf dX9_set_41
    · have hf := if_n hc hf
      refine lv_iload_n hx hb dX9_set_16 rfl (lv_at hl 2 rfl) ?_
      refine lv_iconst (v := 3) hx hb dX9_set_17 (by decide) ?_
      refine lv_icmp_gt (tgt := 39) hx hb dX9_set_18 (by decide) (fun hc => ?_) (fun hc => ?_)
      · have hf := if_p hc hf
        refine lv_ldc hx hb C.2.2.2.1 (C.2.2.2.2.1 _ kc_X9_65) dX9_set_39 ?_
        exact e_iret C hw hf dX9_set_41
      · have hf := if_n hc hf
        refine lv_iload_n hx hb dX9_set_21 rfl (lv_at hl 3 rfl) ?_
        refine lv_iload_n hx hb dX9_set_22 rfl (lv_at hl 2 rfl) ?_
        refine lv_iconst (v := 1) hx hb dX9_set_23 (by decide) ?_
        refine lv_icmp_ne (tgt := 31) hx hb dX9_set_24 (by decide) (fun hc => ?_) (fun hc => ?_)
        · have hf := if_n hc hf
          refine lv_bipush (v := 99) hx hb dX9_set_31 (by decide) ?_
          exact t_X9_set_33 C M4 x0 x1 x2 x3 x3 99 _ _ _ hf hw (lv_sub hl [0, 1, 2, 3] rfl)
        · have hf := if_p hc hf
          refine lv_iconst (v := 3) hx hb dX9_set_27 (by decide) ?_
          refine lv_goto (tgt := 33) hx hb dX9_set_28 (by decide) ?_
          exact t_X9_set_33 C M4 x0 x1 x2 x3 x3 3 _ _ _ hf hw (lv_sub hl [0, 1, 2, 3] rfl)
/-! StorkVote.stork(II)I -/
abbrev rm_X9_stork : Room := { frames := 2, cells := 0, slots := 0, locals := 45 }
def f_X9_stork_31 (M : Mem) (x0 : Nat) (x1 : Int32) (x2 : Int32) : Option (Int32 × Mem) := gt (mT M x0) 10 (lp (mP M x0 0) (fun a2 => gt (mT M a2) 9 (cl (f_X8_hatch M a2 x1 x2) (fun r5 M4 => some (r5, M4)))))
set_option maxHeartbeats 4000000 in
set_option maxRecDepth 100000 in
theorem t_X9_stork_31 {l : Launch} {p : Program} {e : Env} {s : State} {m : MethodId} {args : Array Value} {below : List Frame} {meth : Method} {c : Code} {G : Gd} {A : Nat → Prop} {ad : Nat → Nat} (C : Cx G A p s m args meth c RX9 cX9_stork 3 (some .int)) {r : Int32} {M' : Mem} : ∀ (M : Mem) (x0 : Nat) (x1 : Int32) (x2 : Int32) (H : Heap) (locs : List Loc) (ls : Array Slot), f_X9_stork_31  M x0 x1 x2 = some (r, M') → Wd G A ad s.heap M H locs → lv_has ls 3 [(0, .ref (ad x0)), (1, .int x1), (2, .int x2)] → W p l e rm_X9_stork s m args below meth c H locs 0 0 (MQ below (QI G A ad r M') args s 0 0 A) (F0 m 31 ls []) := by
  obtain ⟨hx, hb, -⟩ := id C
  intro M x0 x1 x2 H locs ls hf hw hl
  rw [f_X9_stork_31] at hf
  refine lv_aload_n hx hb dX9_stork_31 rfl (lv_at hl 0 rfl) ?_
  obtain ⟨hT1, hf⟩ := gt_inv hf
  obtain ⟨a2, hP3, hf⟩ := lp_inv hf
  refine r_getP C hw cf9 0 (by decide) rfl hT1 hP3 fl_X9_10 dX9_stork_32 ?_
  refine lv_iload_n hx hb dX9_stork_35 rfl (lv_at hl 1 rfl) ?_
  refine lv_iload_n hx hb dX9_stork_36 rfl (lv_at hl 2 rfl) ?_
  obtain ⟨hT7, hf⟩ := gt_inv hf
  obtain ⟨r5, M4, hc6, hf⟩ := cl_inv hf
  refine fin_I (run_V C hw mf_X8_hatch mv_X8_hatch ml_X9_108 cf8 hT7 (c_X8_hatch l G A ad hc6) (As := [.int x1, .int x2]) (rest := []) hl.1 rfl rfl (Nat.le_of_ble_eq_true rfl) ⟨rfl, rfl, Nat.le_of_ble_eq_true rfl, Nat.le_of_ble_eq_true rfl⟩ ⟨Nat.zero_le _, Nat.zero_le _⟩ dX9_stork_37) hw (fun H locs hw => ?_)
  exact e_iret C hw hf dX9_stork_40
def f_X9_stork (M : Mem) (x0 : Nat) (x1 : Int32) (x2 : Int32) : Option (Int32 × Mem) := (if x1 < 1 then some ((-1000000001), M) else (if 99 < x1 then some ((-1000000001), M) else (if x2 = (-1000000005) then f_X9_stork_31 M x0 x1 x2 else gt (mT M x0) 10 (lp (mP M x0 0) (fun a2 => gt (mT M a2) 9 (cl (f_X8_hasChimney M a2 x2) (fun r5 M4 => (if r5 = 0 then some ((-1000000001), M4) else f_X9_stork_31 M4 x0 x1 x2))))))))
set_option maxHeartbeats 4000000 in
set_option maxRecDepth 100000 in
theorem c_X9_stork (l : Launch) (G : Gd) (A : Nat → Prop) (ad : Nat → Nat) {M : Mem} {x0 : Nat} {x1 : Int32} {x2 : Int32}  {r : Int32} {M' : Mem} (hf : f_X9_stork M x0 x1 x2 = some (r, M')) : Ct l yX9_stork cX9_stork 3 (some .int) rm_X9_stork [.ref (ad x0), .int x1, .int x2] G A ad M (QI G A ad r M') 0 0 := by
  refine ct_start (by decide) (Nat.le_of_ble_eq_true rfl) ?_
  intro p e s m args below meth c ls C hin hw hl
  have C : Cx G A p s m args meth c RX9 cX9_stork 3 (some .int) := C
  have hl : lv_has ls 3 [(0, .ref (ad x0)), (1, .int x1), (2, .int x2)] := hl
  obtain ⟨hx, hb, -⟩ := id C
  rw [f_X9_stork] at hf
  refine lv_iload_n hx hb dX9_stork_0 rfl (lv_at hl 1 rfl) ?_
  refine lv_iconst (v := 1) hx hb dX9_stork_1 (by decide) ?_
  refine lv_icmp_lt (tgt := 28) hx hb dX9_stork_2 (by decide) (fun hc => ?_) (fun hc => ?_)
  · have hf := if_p hc hf
    refine lv_ldc hx hb C.2.2.2.1 (C.2.2.2.2.1 _ kc_X9_65) dX9_stork_28 ?_
    exact e_iret C hw hf dX9_stork_30
  · have hf := if_n hc hf
    refine lv_iload_n hx hb dX9_stork_5 rfl (lv_at hl 1 rfl) ?_
    refine lv_bipush (v := 99) hx hb dX9_stork_6 (by decide) ?_
    refine lv_icmp_gt (tgt := 28) hx hb dX9_stork_8 (by decide) (fun hc => ?_) (fun hc => ?_)
    · have hf := if_p hc hf
      refine lv_ldc hx hb C.2.2.2.1 (C.2.2.2.2.1 _ kc_X9_65) dX9_stork_28 ?_
      exact e_iret C hw hf dX9_stork_30
    · have hf := if_n hc hf
      refine lv_iload_n hx hb dX9_stork_11 rfl (lv_at hl 2 rfl) ?_
      refine lv_ldc hx hb C.2.2.2.1 (C.2.2.2.2.1 _ kc_X9_107) dX9_stork_12 ?_
      refine lv_icmp_eq (tgt := 31) hx hb dX9_stork_14 (by decide) (fun hc => ?_) (fun hc => ?_)
      · have hf := if_p hc hf
        exact t_X9_stork_31 C M x0 x1 x2 _ _ _ hf hw (lv_sub hl [0, 1, 2] rfl)
      · have hf := if_n hc hf
        refine lv_aload_n hx hb dX9_stork_17 rfl (lv_at hl 0 rfl) ?_
        obtain ⟨hT1, hf⟩ := gt_inv hf
        obtain ⟨a2, hP3, hf⟩ := lp_inv hf
        refine r_getP C hw cf9 0 (by decide) rfl hT1 hP3 fl_X9_10 dX9_stork_18 ?_
        refine lv_iload_n hx hb dX9_stork_21 rfl (lv_at hl 2 rfl) ?_
        obtain ⟨hT7, hf⟩ := gt_inv hf
        obtain ⟨r5, M4, hc6, hf⟩ := cl_inv hf
        refine fin_I (run_V C hw mf_X8_hasChimney mv_X8_hasChimney ml_X9_70 cf8 hT7 (c_X8_hasChimney l G A ad hc6) (As := [.int x2]) (rest := []) hl.1 rfl rfl (Nat.le_of_ble_eq_true rfl) ⟨rfl, rfl, Nat.le_of_ble_eq_true rfl, Nat.le_of_ble_eq_true rfl⟩ ⟨Nat.zero_le _, Nat.zero_le _⟩ dX9_stork_22) hw (fun H locs hw => ?_)
        refine lv_if_ne (tgt := 31) hx hb dX9_stork_25 (by decide) (fun hc => ?_) (fun hc => ?_)
        · have hf := if_n hc hf
          exact t_X9_stork_31 C M4 x0 x1 x2 _ _ _ hf hw (lv_sub hl [0, 1, 2] rfl)
        · have hf := if_p hc hf
          refine lv_ldc hx hb C.2.2.2.1 (C.2.2.2.2.1 _ kc_X9_65) dX9_stork_28 ?_
          exact e_iret C hw hf dX9_stork_30
/-! StorkVote.storkTold(II)I -/
abbrev rm_X9_storkTold : Room := { frames := 6, cells := 0, slots := 0, locals := 139 }
def f_X9_storkTold (M : Mem) (x0 : Nat) (x1 : Int32) (x2 : Int32) : Option (Int32 × Mem) := gt (mT M x0) 10 (lp (mP M x0 0) (fun a2 => gt (mT M a2) 9 (cl (f_X8_hasStork M a2 x1) (fun r5 M4 => (if r5 = 0 then some ((-1000000001), M4) else gt (mT M4 x0) 10 (lp (mP M4 x0 0) (fun a9 => gt (mT M4 a9) 9 (lp (mP M4 a9 2) (fun a12 => gt (mT M4 a12) 24 (gd (ib x1 (mL M4 a12)) (lp (mP M4 a12 x1.toNatClampNeg) (fun a16 => (if x2 = 0 then gt (mT M4 a16) 6 (some ((mI M4 a16 0), M4)) else if x2 = 1 then gt (mT M4 a16) 6 (some ((mI M4 a16 1), M4)) else if x2 = 2 then gt (mT M4 a16) 6 (cl (f_X9_bit M4 (mI M4 a16 2)) (fun r25 M24 => some (r25, M24))) else if x2 = 3 then cl (f_X9_settleNow M4 x0) (fun _ M28 => gt (mT M28 x0) 10 (lp (mP M28 x0 3) (fun a32 => gt (mT M28 a32) 5 (lp (mP M28 a32 0) (fun a35 => gt (mT M28 a35) 20 (gd (ib x1 (mL M28 a35)) (some ((mI M28 a35 x1.toNatClampNeg), M28)))))))) else some ((-1000000001), M4))))))))))))))
set_option maxHeartbeats 4000000 in
set_option maxRecDepth 100000 in
theorem c_X9_storkTold (l : Launch) (G : Gd) (A : Nat → Prop) (ad : Nat → Nat) {M : Mem} {x0 : Nat} {x1 : Int32} {x2 : Int32}  {r : Int32} {M' : Mem} (hf : f_X9_storkTold M x0 x1 x2 = some (r, M')) : Ct l yX9_storkTold cX9_storkTold 4 (some .int) rm_X9_storkTold [.ref (ad x0), .int x1, .int x2] G A ad M (QI G A ad r M') 0 0 := by
  refine ct_start (by decide) (Nat.le_of_ble_eq_true rfl) ?_
  intro p e s m args below meth c ls C hin hw hl
  have C : Cx G A p s m args meth c RX9 cX9_storkTold 4 (some .int) := C
  have hl : lv_has ls 4 [(0, .ref (ad x0)), (1, .int x1), (2, .int x2)] := hl
  obtain ⟨hx, hb, -⟩ := id C
  rw [f_X9_storkTold] at hf
  refine lv_aload_n hx hb dX9_storkTold_0 rfl (lv_at hl 0 rfl) ?_
  obtain ⟨hT1, hf⟩ := gt_inv hf
  obtain ⟨a2, hP3, hf⟩ := lp_inv hf
  refine r_getP C hw cf9 0 (by decide) rfl hT1 hP3 fl_X9_10 dX9_storkTold_1 ?_
  refine lv_iload_n hx hb dX9_storkTold_4 rfl (lv_at hl 1 rfl) ?_
  obtain ⟨hT7, hf⟩ := gt_inv hf
  obtain ⟨r5, M4, hc6, hf⟩ := cl_inv hf
  refine fin_I (run_V C hw mf_X8_hasStork mv_X8_hasStork ml_X9_112 cf8 hT7 (c_X8_hasStork l G A ad hc6) (As := [.int x1]) (rest := []) hl.1 rfl rfl (Nat.le_of_ble_eq_true rfl) ⟨rfl, rfl, Nat.le_of_ble_eq_true rfl, Nat.le_of_ble_eq_true rfl⟩ ⟨Nat.zero_le _, Nat.zero_le _⟩ dX9_storkTold_5) hw (fun H locs hw => ?_)
  refine lv_if_ne (tgt := 14) hx hb dX9_storkTold_8 (by decide) (fun hc => ?_) (fun hc => ?_)
  · have hf := if_n hc hf
    refine lv_aload_n hx hb dX9_storkTold_14 rfl (lv_at hl 0 rfl) ?_
    obtain ⟨hT8, hf⟩ := gt_inv hf
    obtain ⟨a9, hP10, hf⟩ := lp_inv hf
    refine r_getP C hw cf9 0 (by decide) rfl hT8 hP10 fl_X9_10 dX9_storkTold_15 ?_
    obtain ⟨hT11, hf⟩ := gt_inv hf
    obtain ⟨a12, hP13, hf⟩ := lp_inv hf
    refine r_getP C hw cf8 2 (by decide) rfl hT11 hP13 fl_X9_115 dX9_storkTold_18 ?_
    refine lv_iload_n hx hb dX9_storkTold_21 rfl (lv_at hl 1 rfl) ?_
    obtain ⟨hT14, hf⟩ := gt_inv hf
    obtain ⟨hg15, hf⟩ := gd_inv hf
    obtain ⟨a16, hP17, hf⟩ := lp_inv hf
    refine r_aald C hw 4 rfl (by decide) (by decide) hT14 hg15 hP17 dX9_storkTold_22 ?_
    refine lv_astore_n (lv' := [(3, .ref (ad a16)), (0, .ref (ad x0)), (1, .int x1), (2, .int x2)]) hx hb dX9_storkTold_23 rfl hl (by decide) rfl (fun ls hl => ?_)
    refine lv_iload_n hx hb dX9_storkTold_24 rfl (lv_at hl 3 rfl) ?_
    by_cases hc18 : x2 = 0
    · have hf := if_p hc18 hf
      refine r_tabIn 0 hc18 hx hb dX9_storkTold_25 (by decide) (by decide) rfl (tgt := 56) (by decide) ?_
      refine lv_aload_n hx hb dX9_storkTold_56 rfl (lv_at hl 0 rfl) ?_
      obtain ⟨hT19, hf⟩ := gt_inv hf
      refine r_getI C hw cf5 0 (by decide) rfl hT19 fl_X9_119 dX9_storkTold_57 ?_
      exact e_iret C hw hf dX9_storkTold_60
    · have hf := if_n hc18 hf
      by_cases hc20 : x2 = 1
      · have hf := if_p hc20 hf
        refine r_tabIn 1 hc20 hx hb dX9_storkTold_25 (by decide) (by decide) rfl (tgt := 61) (by decide) ?_
        refine lv_aload_n hx hb dX9_storkTold_61 rfl (lv_at hl 0 rfl) ?_
        obtain ⟨hT21, hf⟩ := gt_inv hf
        refine r_getI C hw cf5 1 (by decide) rfl hT21 fl_X9_124 dX9_storkTold_62 ?_
        exact e_iret C hw hf dX9_storkTold_65
      · have hf := if_n hc20 hf
        by_cases hc22 : x2 = 2
        · have hf := if_p hc22 hf
          refine r_tabIn 2 hc22 hx hb dX9_storkTold_25 (by decide) (by decide) rfl (tgt := 66) (by decide) ?_
          refine lv_aload_n hx hb dX9_storkTold_66 rfl (lv_at hl 0 rfl) ?_
          obtain ⟨hT23, hf⟩ := gt_inv hf
          refine r_getI C hw cf5 2 (by decide) rfl hT23 fl_X9_127 dX9_storkTold_67 ?_
          obtain ⟨r25, M24, hc26, hf⟩ := cl_inv hf
          refine fin_I (run_S C hw mf_X9_bit ms_X9_bit ml_X9_131 (c_X9_bit l G A ad hc26) (As := [.int (mI M4 a16 2)]) (rest := []) hl.1 rfl rfl (Nat.le_of_ble_eq_true rfl) ⟨rfl, rfl, Nat.le_of_ble_eq_true rfl, Nat.le_of_ble_eq_true rfl⟩ ⟨Nat.zero_le _, Nat.zero_le _⟩ dX9_storkTold_70) hw (fun H locs hw => ?_)
          exact e_iret C hw hf dX9_storkTold_73
        · have hf := if_n hc22 hf
          by_cases hc27 : x2 = 3
          · have hf := if_p hc27 hf
            refine r_tabIn 3 hc27 hx hb dX9_storkTold_25 (by decide) (by decide) rfl (tgt := 74) (by decide) ?_
            refine lv_aload_n hx hb dX9_storkTold_74 rfl (lv_at hl 1 rfl) ?_
            obtain ⟨⟨⟩, M28, hc30, hf⟩ := cl_inv hf
            refine fin_V (run_V C hw mf_X9_settleNow mv_X9_settleNow ml_X9_97 cf9 hT8 (c_X9_settleNow l G A ad hc30) (As := []) (rest := []) hl.1 rfl rfl (Nat.le_of_ble_eq_true rfl) ⟨rfl, rfl, Nat.le_of_ble_eq_true rfl, Nat.le_of_ble_eq_true rfl⟩ ⟨Nat.zero_le _, Nat.zero_le _⟩ dX9_storkTold_75) hw (fun H locs hw => ?_)
            refine lv_aload_n hx hb dX9_storkTold_78 rfl (lv_at hl 1 rfl) ?_
            obtain ⟨hT31, hf⟩ := gt_inv hf
            obtain ⟨a32, hP33, hf⟩ := lp_inv hf
            refine r_getP C hw cf9 3 (by decide) rfl hT31 hP33 fl_X9_25 dX9_storkTold_79 ?_
            obtain ⟨hT34, hf⟩ := gt_inv hf
            obtain ⟨a35, hP36, hf⟩ := lp_inv hf
            refine r_getP C hw cf4 0 (by decide) rfl hT34 hP36 fl_X9_135 dX9_storkTold_82 ?_
            refine lv_iload_n hx hb dX9_storkTold_85 rfl (lv_at hl 2 rfl) ?_
            obtain ⟨hT37, hf⟩ := gt_inv hf
            obtain ⟨hg38, hf⟩ := gd_inv hf
            refine r_iald C hw hT37 hg38 dX9_storkTold_86 ?_
            exact e_iret C hw hf dX9_storkTold_87
          · have hf := if_n hc27 hf
            refine r_tabOut hx hb dX9_storkTold_25 (by have n0 := sw_nei (k := 0) (by decide) hc18; have n1 := sw_nei (k := 1) (by decide) hc20; have n2 := sw_nei (k := 2) (by decide) hc22; have n3 := sw_nei (k := 3) (by decide) hc27; omega) (tgt := 88) (by decide) ?_
            refine lv_ldc hx hb C.2.2.2.1 (C.2.2.2.2.1 _ kc_X9_65) dX9_storkTold_88 ?_
            exact e_iret C hw hf dX9_storkTold_90
  · have hf := if_p hc hf
    refine lv_ldc hx hb C.2.2.2.1 (C.2.2.2.2.1 _ kc_X9_65) dX9_storkTold_11 ?_
    exact e_iret C hw hf dX9_storkTold_13
/-! StorkVote.away(II)I -/
abbrev rm_X9_away : Room := { frames := 1, cells := 0, slots := 0, locals := 21 }
def f_X9_away_52 (M : Mem) (x4 : Int32) (s0 : Nat) (s1 : Int32) : Option (Int32 × Mem) := gt (mT M s0) 6 (gd (isB s1) (st (setI M s0 2 s1) (fun M3 => some (x4, M3))))
set_option maxHeartbeats 4000000 in
set_option maxRecDepth 100000 in
theorem t_X9_away_52 {l : Launch} {p : Program} {e : Env} {s : State} {m : MethodId} {args : Array Value} {below : List Frame} {meth : Method} {c : Code} {G : Gd} {A : Nat → Prop} {ad : Nat → Nat} (C : Cx G A p s m args meth c RX9 cX9_away 5 (some .int)) {r : Int32} {M' : Mem} : ∀ (M : Mem) (x4 : Int32) (s0 : Nat) (s1 : Int32) (H : Heap) (locs : List Loc) (ls : Array Slot), f_X9_away_52  M x4 s0 s1 = some (r, M') → Wd G A ad s.heap M H locs → lv_has ls 5 [(4, .int x4)] → W p l e rm_X9_away s m args below meth c H locs 0 0 (MQ below (QI G A ad r M') args s 0 0 A) (F0 m 52 ls [.int s1, .ref (ad s0)]) := by
  obtain ⟨hx, hb, -⟩ := id C
  intro M x4 s0 s1 H locs ls hf hw hl
  rw [f_X9_away_52] at hf
  obtain ⟨hT1, hf⟩ := gt_inv hf
  obtain ⟨hg2, hf⟩ := gd_inv hf
  obtain ⟨M3, e4, hf⟩ := st_inv hf
  have g5 := sg_I e4
  refine r_putI C hw cf5 2 (by decide) rfl hT1 e4 fl_X9_127 rfl (isB_nar hg2) (isB_fit hg2) dX9_away_52 (fun H locs hw => ?_)
  refine lv_iload hx hb dX9_away_55 (lv_at hl 0 rfl) ?_
  exact e_iret C hw hf dX9_away_57
def f_X9_away (M : Mem) (x0 : Nat) (x1 : Int32) (x2 : Int32) : Option (Int32 × Mem) := gt (mT M x0) 10 (lp (mP M x0 0) (fun a2 => gt (mT M a2) 9 (cl (f_X8_hasStork M a2 x1) (fun r5 M4 => (if r5 = 0 then some ((-1000000001), M4) else cl (f_X9_within M4 x2 1) (fun r9 M8 => (if r9 = 0 then some ((-1000000001), M8) else gt (mT M8 x0) 10 (lp (mP M8 x0 0) (fun a12 => gt (mT M8 a12) 9 (lp (mP M8 a12 2) (fun a15 => gt (mT M8 a15) 24 (gd (ib x1 (mL M8 a15)) (lp (mP M8 a15 x1.toNatClampNeg) (fun a19 => gt (mT M8 a19) 6 (cl (f_X9_bit M8 (mI M8 a19 2)) (fun r23 M22 => (if x2 = 1 then f_X9_away_52 M22 r23 a19 1 else f_X9_away_52 M22 r23 a19 0)))))))))))))))))
set_option maxHeartbeats 4000000 in
set_option maxRecDepth 100000 in
theorem c_X9_away (l : Launch) (G : Gd) (A : Nat → Prop) (ad : Nat → Nat) {M : Mem} {x0 : Nat} {x1 : Int32} {x2 : Int32}  {r : Int32} {M' : Mem} (hf : f_X9_away M x0 x1 x2 = some (r, M')) : Ct l yX9_away cX9_away 5 (some .int) rm_X9_away [.ref (ad x0), .int x1, .int x2] G A ad M (QI G A ad r M') 0 0 := by
  refine ct_start (by decide) (Nat.le_of_ble_eq_true rfl) ?_
  intro p e s m args below meth c ls C hin hw hl
  have C : Cx G A p s m args meth c RX9 cX9_away 5 (some .int) := C
  have hl : lv_has ls 5 [(0, .ref (ad x0)), (1, .int x1), (2, .int x2)] := hl
  obtain ⟨hx, hb, -⟩ := id C
  rw [f_X9_away] at hf
  refine lv_aload_n hx hb dX9_away_0 rfl (lv_at hl 0 rfl) ?_
  obtain ⟨hT1, hf⟩ := gt_inv hf
  obtain ⟨a2, hP3, hf⟩ := lp_inv hf
  refine r_getP C hw cf9 0 (by decide) rfl hT1 hP3 fl_X9_10 dX9_away_1 ?_
  refine lv_iload_n hx hb dX9_away_4 rfl (lv_at hl 1 rfl) ?_
  obtain ⟨hT7, hf⟩ := gt_inv hf
  obtain ⟨r5, M4, hc6, hf⟩ := cl_inv hf
  refine fin_I (run_V C hw mf_X8_hasStork mv_X8_hasStork ml_X9_112 cf8 hT7 (c_X8_hasStork l G A ad hc6) (As := [.int x1]) (rest := []) hl.1 rfl rfl (Nat.le_of_ble_eq_true rfl) ⟨rfl, rfl, Nat.le_of_ble_eq_true rfl, Nat.le_of_ble_eq_true rfl⟩ ⟨Nat.zero_le _, Nat.zero_le _⟩ dX9_away_5) hw (fun H locs hw => ?_)
  refine lv_if_eq (tgt := 19) hx hb dX9_away_8 (by decide) (fun hc => ?_) (fun hc => ?_)
  · have hf := if_p hc hf
    refine lv_ldc hx hb C.2.2.2.1 (C.2.2.2.2.1 _ kc_X9_65) dX9_away_19 ?_
    exact e_iret C hw hf dX9_away_21
  · have hf := if_n hc hf
    refine lv_iload_n hx hb dX9_away_11 rfl (lv_at hl 2 rfl) ?_
    refine lv_iconst (v := 1) hx hb dX9_away_12 (by decide) ?_
    obtain ⟨r9, M8, hc10, hf⟩ := cl_inv hf
    refine fin_I (run_S C hw mf_X9_within ms_X9_within ml_X9_61 (c_X9_within l G A ad hc10) (As := [.int x2, .int 1]) (rest := []) hl.1 rfl rfl (Nat.le_of_ble_eq_true rfl) ⟨rfl, rfl, Nat.le_of_ble_eq_true rfl, Nat.le_of_ble_eq_true rfl⟩ ⟨Nat.zero_le _, Nat.zero_le _⟩ dX9_away_13) hw (fun H locs hw => ?_)
    refine lv_if_ne (tgt := 22) hx hb dX9_away_16 (by decide) (fun hc => ?_) (fun hc => ?_)
    · have hf := if_n hc hf
      refine lv_aload_n hx hb dX9_away_22 rfl (lv_at hl 0 rfl) ?_
      obtain ⟨hT11, hf⟩ := gt_inv hf
      obtain ⟨a12, hP13, hf⟩ := lp_inv hf
      refine r_getP C hw cf9 0 (by decide) rfl hT11 hP13 fl_X9_10 dX9_away_23 ?_
      obtain ⟨hT14, hf⟩ := gt_inv hf
      obtain ⟨a15, hP16, hf⟩ := lp_inv hf
      refine r_getP C hw cf8 2 (by decide) rfl hT14 hP16 fl_X9_115 dX9_away_26 ?_
      refine lv_iload_n hx hb dX9_away_29 rfl (lv_at hl 1 rfl) ?_
      obtain ⟨hT17, hf⟩ := gt_inv hf
      obtain ⟨hg18, hf⟩ := gd_inv hf
      obtain ⟨a19, hP20, hf⟩ := lp_inv hf
      refine r_aald C hw 4 rfl (by decide) (by decide) hT17 hg18 hP20 dX9_away_30 ?_
      refine lv_astore_n (lv' := [(3, .ref (ad a19)), (0, .ref (ad x0)), (1, .int x1), (2, .int x2)]) hx hb dX9_away_31 rfl hl (by decide) rfl (fun ls hl => ?_)
      refine lv_aload_n hx hb dX9_away_32 rfl (lv_at hl 0 rfl) ?_
      obtain ⟨hT21, hf⟩ := gt_inv hf
      refine r_getI C hw cf5 2 (by decide) rfl hT21 fl_X9_127 dX9_away_33 ?_
      obtain ⟨r23, M22, hc24, hf⟩ := cl_inv hf
      refine fin_I (run_S C hw mf_X9_bit ms_X9_bit ml_X9_131 (c_X9_bit l G A ad hc24) (As := [.int (mI M8 a19 2)]) (rest := []) hl.1 rfl rfl (Nat.le_of_ble_eq_true rfl) ⟨rfl, rfl, Nat.le_of_ble_eq_true rfl, Nat.le_of_ble_eq_true rfl⟩ ⟨Nat.zero_le _, Nat.zero_le _⟩ dX9_away_36) hw (fun H locs hw => ?_)
      refine lv_istore (lv' := [(4, .int r23), (3, .ref (ad a19)), (0, .ref (ad x0)), (1, .int x1), (2, .int x2)]) hx hb dX9_away_39 hl (by decide) rfl (fun ls hl => ?_)
      refine lv_aload_n hx hb dX9_away_41 rfl (lv_at hl 1 rfl) ?_
      refine lv_iload_n hx hb dX9_away_42 rfl (lv_at hl 4 rfl) ?_
      refine lv_iconst (v := 1) hx hb dX9_away_43 (by decide) ?_
      refine lv_icmp_ne (tgt := 51) hx hb dX9_away_44 (by decide) (fun hc => ?_) (fun hc => ?_)
      · have hf := if_n hc hf
        refine lv_iconst (v := 0) hx hb dX9_away_51 (by decide) ?_
        exact t_X9_away_52 C M22 r23 a19 0 _ _ _ hf hw (lv_sub hl [0] rfl)
      · have hf := if_p hc hf
        refine lv_iconst (v := 1) hx hb dX9_away_47 (by decide) ?_
        refine lv_goto (tgt := 52) hx hb dX9_away_48 (by decide) ?_
        exact t_X9_away_52 C M22 r23 a19 1 _ _ _ hf hw (lv_sub hl [0] rfl)
    · have hf := if_p hc hf
      refine lv_ldc hx hb C.2.2.2.1 (C.2.2.2.2.1 _ kc_X9_65) dX9_away_19 ?_
      exact e_iret C hw hf dX9_away_21
/-! StorkVote.likes(II)I -/
abbrev rm_X9_likes : Room := { frames := 3, cells := 0, slots := 0, locals := 75 }
def f_X9_likes_51 (M : Mem) (s0 : Nat) (s1 : Int32) (s2 : Int32) : Option (Int32 × Mem) := cl (f_X9_bit M s2) (fun r2 M1 => gt (mT M1 s0) 9 (cl (f_X8_liking M1 s0 s1 r2) (fun r5 M4 => some (r5, M4))))
set_option maxHeartbeats 4000000 in
set_option maxRecDepth 100000 in
theorem t_X9_likes_51 {l : Launch} {p : Program} {e : Env} {s : State} {m : MethodId} {args : Array Value} {below : List Frame} {meth : Method} {c : Code} {G : Gd} {A : Nat → Prop} {ad : Nat → Nat} (C : Cx G A p s m args meth c RX9 cX9_likes 3 (some .int)) {r : Int32} {M' : Mem} : ∀ (M : Mem) (s0 : Nat) (s1 : Int32) (s2 : Int32) (H : Heap) (locs : List Loc) (ls : Array Slot), f_X9_likes_51  M s0 s1 s2 = some (r, M') → Wd G A ad s.heap M H locs → lv_has ls 3 [] → W p l e rm_X9_likes s m args below meth c H locs 0 0 (MQ below (QI G A ad r M') args s 0 0 A) (F0 m 51 ls [.int s2, .int s1, .ref (ad s0)]) := by
  obtain ⟨hx, hb, -⟩ := id C
  intro M s0 s1 s2 H locs ls hf hw hl
  rw [f_X9_likes_51] at hf
  obtain ⟨r2, M1, hc3, hf⟩ := cl_inv hf
  refine fin_I (run_S C hw mf_X9_bit ms_X9_bit ml_X9_131 (c_X9_bit l G A ad hc3) (As := [.int s2]) (rest := [.int s1, .ref (ad s0)]) hl.1 rfl rfl (Nat.le_of_ble_eq_true rfl) ⟨rfl, rfl, Nat.le_of_ble_eq_true rfl, Nat.le_of_ble_eq_true rfl⟩ ⟨Nat.zero_le _, Nat.zero_le _⟩ dX9_likes_51) hw (fun H locs hw => ?_)
  obtain ⟨hT7, hf⟩ := gt_inv hf
  obtain ⟨r5, M4, hc6, hf⟩ := cl_inv hf
  refine fin_I (run_V C hw mf_X8_liking mv_X8_liking ml_X9_138 cf8 hT7 (c_X8_liking l G A ad hc6) (As := [.int s1, .int r2]) (rest := []) hl.1 rfl rfl (Nat.le_of_ble_eq_true rfl) ⟨rfl, rfl, Nat.le_of_ble_eq_true rfl, Nat.le_of_ble_eq_true rfl⟩ ⟨Nat.zero_le _, Nat.zero_le _⟩ dX9_likes_54) hw (fun H locs hw => ?_)
  exact e_iret C hw hf dX9_likes_57
def f_X9_likes (M : Mem) (x0 : Nat) (x1 : Int32) (x2 : Int32) : Option (Int32 × Mem) := gt (mT M x0) 10 (lp (mP M x0 0) (fun a2 => gt (mT M a2) 9 (cl (f_X8_hasStork M a2 x1) (fun r5 M4 => (if r5 = 0 then some ((-1000000001), M4) else gt (mT M4 x0) 10 (lp (mP M4 x0 0) (fun a9 => gt (mT M4 a9) 9 (cl (f_X8_hasChimney M4 a9 x2) (fun r12 M11 => (if r12 = 0 then some ((-1000000001), M11) else gt (mT M11 x0) 10 (lp (mP M11 x0 0) (fun a16 => gt (mT M11 a16) 9 (lp (mP M11 a16 2) (fun a19 => gt (mT M11 a19) 24 (gd (ib x1 (mL M11 a19)) (lp (mP M11 a19 x1.toNatClampNeg) (fun a23 => gt (mT M11 a23) 6 ((if (mI M11 a23 1) = x2 then f_X9_likes_51 M11 a16 x2 1 else f_X9_likes_51 M11 a16 x2 0)))))))))))))))))))
set_option maxHeartbeats 4000000 in
set_option maxRecDepth 100000 in
theorem c_X9_likes (l : Launch) (G : Gd) (A : Nat → Prop) (ad : Nat → Nat) {M : Mem} {x0 : Nat} {x1 : Int32} {x2 : Int32}  {r : Int32} {M' : Mem} (hf : f_X9_likes M x0 x1 x2 = some (r, M')) : Ct l yX9_likes cX9_likes 3 (some .int) rm_X9_likes [.ref (ad x0), .int x1, .int x2] G A ad M (QI G A ad r M') 0 0 := by
  refine ct_start (by decide) (Nat.le_of_ble_eq_true rfl) ?_
  intro p e s m args below meth c ls C hin hw hl
  have C : Cx G A p s m args meth c RX9 cX9_likes 3 (some .int) := C
  have hl : lv_has ls 3 [(0, .ref (ad x0)), (1, .int x1), (2, .int x2)] := hl
  obtain ⟨hx, hb, -⟩ := id C
  rw [f_X9_likes] at hf
  refine lv_aload_n hx hb dX9_likes_0 rfl (lv_at hl 0 rfl) ?_
  obtain ⟨hT1, hf⟩ := gt_inv hf
  obtain ⟨a2, hP3, hf⟩ := lp_inv hf
  refine r_getP C hw cf9 0 (by decide) rfl hT1 hP3 fl_X9_10 dX9_likes_1 ?_
  refine lv_iload_n hx hb dX9_likes_4 rfl (lv_at hl 1 rfl) ?_
  obtain ⟨hT7, hf⟩ := gt_inv hf
  obtain ⟨r5, M4, hc6, hf⟩ := cl_inv hf
  refine fin_I (run_V C hw mf_X8_hasStork mv_X8_hasStork ml_X9_112 cf8 hT7 (c_X8_hasStork l G A ad hc6) (As := [.int x1]) (rest := []) hl.1 rfl rfl (Nat.le_of_ble_eq_true rfl) ⟨rfl, rfl, Nat.le_of_ble_eq_true rfl, Nat.le_of_ble_eq_true rfl⟩ ⟨Nat.zero_le _, Nat.zero_le _⟩ dX9_likes_5) hw (fun H locs hw => ?_)
  refine lv_if_eq (tgt := 22) hx hb dX9_likes_8 (by decide) (fun hc => ?_) (fun hc => ?_)
  · have hf := if_p hc hf
    refine lv_ldc hx hb C.2.2.2.1 (C.2.2.2.2.1 _ kc_X9_65) dX9_likes_22 ?_
    exact e_iret C hw hf dX9_likes_24
  · have hf := if_n hc hf
    refine lv_aload_n hx hb dX9_likes_11 rfl (lv_at hl 0 rfl) ?_
    obtain ⟨hT8, hf⟩ := gt_inv hf
    obtain ⟨a9, hP10, hf⟩ := lp_inv hf
    refine r_getP C hw cf9 0 (by decide) rfl hT8 hP10 fl_X9_10 dX9_likes_12 ?_
    refine lv_iload_n hx hb dX9_likes_15 rfl (lv_at hl 2 rfl) ?_
    obtain ⟨hT14, hf⟩ := gt_inv hf
    obtain ⟨r12, M11, hc13, hf⟩ := cl_inv hf
    refine fin_I (run_V C hw mf_X8_hasChimney mv_X8_hasChimney ml_X9_70 cf8 hT14 (c_X8_hasChimney l G A ad hc13) (As := [.int x2]) (rest := []) hl.1 rfl rfl (Nat.le_of_ble_eq_true rfl) ⟨rfl, rfl, Nat.le_of_ble_eq_true rfl, Nat.le_of_ble_eq_true rfl⟩ ⟨Nat.zero_le _, Nat.zero_le _⟩ dX9_likes_16) hw (fun H locs hw => ?_)
    refine lv_if_ne (tgt := 25) hx hb dX9_likes_19 (by decide) (fun hc => ?_) (fun hc => ?_)
    · have hf := if_n hc hf
      refine lv_aload_n hx hb dX9_likes_25 rfl (lv_at hl 0 rfl) ?_
      obtain ⟨hT15, hf⟩ := gt_inv hf
      obtain ⟨a16, hP17, hf⟩ := lp_inv hf
      refine r_getP C hw cf9 0 (by decide) rfl hT15 hP17 fl_X9_10 dX9_likes_26 ?_
      refine lv_iload_n hx hb dX9_likes_29 rfl (lv_at hl 2 rfl) ?_
      refine lv_aload_n hx hb dX9_likes_30 rfl (lv_at hl 0 rfl) ?_
      refine r_getP C hw cf9 0 (by decide) rfl hT15 hP17 fl_X9_10 dX9_likes_31 ?_
      obtain ⟨hT18, hf⟩ := gt_inv hf
      obtain ⟨a19, hP20, hf⟩ := lp_inv hf
      refine r_getP C hw cf8 2 (by decide) rfl hT18 hP20 fl_X9_115 dX9_likes_34 ?_
      refine lv_iload_n hx hb dX9_likes_37 rfl (lv_at hl 1 rfl) ?_
      obtain ⟨hT21, hf⟩ := gt_inv hf
      obtain ⟨hg22, hf⟩ := gd_inv hf
      obtain ⟨a23, hP24, hf⟩ := lp_inv hf
      refine r_aald C hw 4 rfl (by decide) (by decide) hT21 hg22 hP24 dX9_likes_38 ?_
      obtain ⟨hT25, hf⟩ := gt_inv hf
      refine r_getI C hw cf5 1 (by decide) rfl hT25 fl_X9_124 dX9_likes_39 ?_
      refine lv_iload_n hx hb dX9_likes_42 rfl (lv_at hl 2 rfl) ?_
      refine lv_icmp_ne (tgt := 50) hx hb dX9_likes_43 (by decide) (fun hc => ?_) (fun hc => ?_)
      · have hf := if_n hc hf
        refine lv_iconst (v := 0) hx hb dX9_likes_50 (by decide) ?_
        exact t_X9_likes_51 C M11 a16 x2 0 _ _ _ hf hw (lv_sub hl [] rfl)
      · have hf := if_p hc hf
        refine lv_iconst (v := 1) hx hb dX9_likes_46 (by decide) ?_
        refine lv_goto (tgt := 51) hx hb dX9_likes_47 (by decide) ?_
        exact t_X9_likes_51 C M11 a16 x2 1 _ _ _ hf hw (lv_sub hl [] rfl)
    · have hf := if_p hc hf
      refine lv_ldc hx hb C.2.2.2.1 (C.2.2.2.2.1 _ kc_X9_65) dX9_likes_22 ?_
      exact e_iret C hw hf dX9_likes_24
/-! StorkVote.rule(II)I -/
abbrev rm_X9_rule : Room := { frames := 1, cells := 0, slots := 0, locals := 21 }
def f_X9_rule_21 (M : Mem) (x0 : Nat) (x1 : Int32) (x2 : Int32) (s0 : Int32) (s1 : Int32) : Option (Int32 × Mem) := cl (f_X9_within M s0 s1) (fun r2 M1 => (if r2 = 0 then some ((-1000000001), M1) else gt (mT M1 x0) 10 (lp (mP M1 x0 0) (fun a5 => gt (mT M1 a5) 9 (lp (mP M1 a5 4) (fun a8 => gt (mT M1 a8) 20 (gd (ib x1 (mL M1 a8)) (gd (ib x1 (mL M1 a8)) (st (setI M1 a8 x1.toNatClampNeg x2) (fun M13 => some ((mI M1 a8 x1.toNatClampNeg), M13)))))))))))
set_option maxHeartbeats 4000000 in
set_option maxRecDepth 100000 in
theorem t_X9_rule_21 {l : Launch} {p : Program} {e : Env} {s : State} {m : MethodId} {args : Array Value} {below : List Frame} {meth : Method} {c : Code} {G : Gd} {A : Nat → Prop} {ad : Nat → Nat} (C : Cx G A p s m args meth c RX9 cX9_rule 4 (some .int)) {r : Int32} {M' : Mem} : ∀ (M : Mem) (x0 : Nat) (x1 : Int32) (x2 : Int32) (s0 : Int32) (s1 : Int32) (H : Heap) (locs : List Loc) (ls : Array Slot), f_X9_rule_21  M x0 x1 x2 s0 s1 = some (r, M') → Wd G A ad s.heap M H locs → lv_has ls 4 [(0, .ref (ad x0)), (1, .int x1), (2, .int x2)] → W p l e rm_X9_rule s m args below meth c H locs 0 0 (MQ below (QI G A ad r M') args s 0 0 A) (F0 m 21 ls [.int s1, .int s0]) := by
  obtain ⟨hx, hb, -⟩ := id C
  intro M x0 x1 x2 s0 s1 H locs ls hf hw hl
  rw [f_X9_rule_21] at hf
  obtain ⟨r2, M1, hc3, hf⟩ := cl_inv hf
  refine fin_I (run_S C hw mf_X9_within ms_X9_within ml_X9_61 (c_X9_within l G A ad hc3) (As := [.int s0, .int s1]) (rest := []) hl.1 rfl rfl (Nat.le_of_ble_eq_true rfl) ⟨rfl, rfl, Nat.le_of_ble_eq_true rfl, Nat.le_of_ble_eq_true rfl⟩ ⟨Nat.zero_le _, Nat.zero_le _⟩ dX9_rule_21) hw (fun H locs hw => ?_)
  refine lv_if_ne (tgt := 30) hx hb dX9_rule_24 (by decide) (fun hc => ?_) (fun hc => ?_)
  · have hf := if_n hc hf
    refine lv_aload_n hx hb dX9_rule_30 rfl (lv_at hl 0 rfl) ?_
    obtain ⟨hT4, hf⟩ := gt_inv hf
    obtain ⟨a5, hP6, hf⟩ := lp_inv hf
    refine r_getP C hw cf9 0 (by decide) rfl hT4 hP6 fl_X9_10 dX9_rule_31 ?_
    obtain ⟨hT7, hf⟩ := gt_inv hf
    obtain ⟨a8, hP9, hf⟩ := lp_inv hf
    refine r_getP C hw cf8 4 (by decide) rfl hT7 hP9 fl_X9_141 dX9_rule_34 ?_
    refine lv_iload_n hx hb dX9_rule_37 rfl (lv_at hl 1 rfl) ?_
    obtain ⟨hT10, hf⟩ := gt_inv hf
    obtain ⟨hg11, hf⟩ := gd_inv hf
    refine r_iald C hw hT10 hg11 dX9_rule_38 ?_
    refine lv_istore_n (lv' := [(3, .int (mI M1 a8 x1.toNatClampNeg)), (0, .ref (ad x0)), (1, .int x1), (2, .int x2)]) hx hb dX9_rule_39 rfl hl (by decide) rfl (fun ls hl => ?_)
    refine lv_aload_n hx hb dX9_rule_40 rfl (lv_at hl 1 rfl) ?_
    refine r_getP C hw cf9 0 (by decide) rfl hT4 hP6 fl_X9_10 dX9_rule_41 ?_
    refine r_getP C hw cf8 4 (by decide) rfl hT7 hP9 fl_X9_141 dX9_rule_44 ?_
    refine lv_iload_n hx hb dX9_rule_47 rfl (lv_at hl 2 rfl) ?_
    refine lv_iload_n hx hb dX9_rule_48 rfl (lv_at hl 3 rfl) ?_
    obtain ⟨hg12, hf⟩ := gd_inv hf
    obtain ⟨M13, e14, hf⟩ := st_inv hf
    have g15 := sg_I e14
    refine r_iast C hw hT10 hg12 e14 dX9_rule_49 (fun H locs hw => ?_)
    refine lv_iload_n hx hb dX9_rule_50 rfl (lv_at hl 0 rfl) ?_
    exact e_iret C hw hf dX9_rule_51
  · have hf := if_p hc hf
    refine lv_ldc hx hb C.2.2.2.1 (C.2.2.2.2.1 _ kc_X9_65) dX9_rule_27 ?_
    exact e_iret C hw hf dX9_rule_29
def f_X9_rule (M : Mem) (x0 : Nat) (x1 : Int32) (x2 : Int32) : Option (Int32 × Mem) := cl (f_X9_within M x1 2) (fun r2 M1 => (if r2 = 0 then some ((-1000000001), M1) else (if x1 = 0 then f_X9_rule_21 M1 x0 x1 x2 x2 999 else f_X9_rule_21 M1 x0 x1 x2 x2 100)))
set_option maxHeartbeats 4000000 in
set_option maxRecDepth 100000 in
theorem c_X9_rule (l : Launch) (G : Gd) (A : Nat → Prop) (ad : Nat → Nat) {M : Mem} {x0 : Nat} {x1 : Int32} {x2 : Int32}  {r : Int32} {M' : Mem} (hf : f_X9_rule M x0 x1 x2 = some (r, M')) : Ct l yX9_rule cX9_rule 4 (some .int) rm_X9_rule [.ref (ad x0), .int x1, .int x2] G A ad M (QI G A ad r M') 0 0 := by
  refine ct_start (by decide) (Nat.le_of_ble_eq_true rfl) ?_
  intro p e s m args below meth c ls C hin hw hl
  have C : Cx G A p s m args meth c RX9 cX9_rule 4 (some .int) := C
  have hl : lv_has ls 4 [(0, .ref (ad x0)), (1, .int x1), (2, .int x2)] := hl
  obtain ⟨hx, hb, -⟩ := id C
  rw [f_X9_rule] at hf
  refine lv_iload_n hx hb dX9_rule_0 rfl (lv_at hl 1 rfl) ?_
  refine lv_iconst (v := 2) hx hb dX9_rule_1 (by decide) ?_
  obtain ⟨r2, M1, hc3, hf⟩ := cl_inv hf
  refine fin_I (run_S C hw mf_X9_within ms_X9_within ml_X9_61 (c_X9_within l G A ad hc3) (As := [.int x1, .int 2]) (rest := []) hl.1 rfl rfl (Nat.le_of_ble_eq_true rfl) ⟨rfl, rfl, Nat.le_of_ble_eq_true rfl, Nat.le_of_ble_eq_true rfl⟩ ⟨Nat.zero_le _, Nat.zero_le _⟩ dX9_rule_2) hw (fun H locs hw => ?_)
  refine lv_if_eq (tgt := 27) hx hb dX9_rule_5 (by decide) (fun hc => ?_) (fun hc => ?_)
  · have hf := if_p hc hf
    refine lv_ldc hx hb C.2.2.2.1 (C.2.2.2.2.1 _ kc_X9_65) dX9_rule_27 ?_
    exact e_iret C hw hf dX9_rule_29
  · have hf := if_n hc hf
    refine lv_iload_n hx hb dX9_rule_8 rfl (lv_at hl 2 rfl) ?_
    refine lv_iload_n hx hb dX9_rule_9 rfl (lv_at hl 1 rfl) ?_
    refine lv_if_ne (tgt := 19) hx hb dX9_rule_10 (by decide) (fun hc => ?_) (fun hc => ?_)
    · have hf := if_n hc hf
      refine lv_bipush (v := 100) hx hb dX9_rule_19 (by decide) ?_
      exact t_X9_rule_21 C M1 x0 x1 x2 x2 100 _ _ _ hf hw (lv_sub hl [0, 1, 2] rfl)
    · have hf := if_p hc hf
      refine lv_sipush (v := 999) hx hb dX9_rule_13 (by decide) ?_
      refine lv_goto (tgt := 21) hx hb dX9_rule_16 (by decide) ?_
      exact t_X9_rule_21 C M1 x0 x1 x2 x2 999 _ _ _ hf hw (lv_sub hl [0, 1, 2] rfl)
/-! StorkVote.deal(I)I -/
abbrev rm_X9_deal : Room := { frames := 2, cells := 0, slots := 0, locals := 48 }
def f_X9_deal_31 : Nat → Mem → Nat → Int32 → Int32 → Option (Int32 × Mem)
  | 0, _, _, _, _ => none
  | n + 1, M, x0, x2, x3 => (if x2 ≤ x3 then some (x2, M) else gt (mT M x0) 10 (lp (mP M x0 0) (fun a2 => gt (mT M a2) 9 (cl (f_X8_draw M a2) (fun r5 M4 => gt (mT M4 x0) 10 (lp (mP M4 x0 0) (fun a9 => gt (mT M4 a9) 9 (cl (f_X8_draw M4 a9) (fun r12 M11 => gt (mT M11 x0) 10 (lp (mP M11 x0 0) (fun a16 => gt (mT M11 a16) 9 (cl (f_X8_draw M11 a16) (fun r19 M18 => gt (mT M18 x0) 10 (lp (mP M18 x0 0) (fun a23 => gt (mT M18 a23) 9 (cl (f_X8_draw M18 a23) (fun r26 M25 => gt (mT M25 x0) 10 (lp (mP M25 x0 0) (fun a30 => gt (mT M25 a30) 9 (cl (f_X8_build M25 a30 (irm r5 6) (irm r12 4) (irm r19 60) (irm r26 60)) (fun r33 M32 => f_X9_deal_31 n M32 x0 x2 (x3 + 1))))))))))))))))))))))
set_option maxHeartbeats 4000000 in
set_option maxRecDepth 100000 in
theorem t_X9_deal_31 {l : Launch} {p : Program} {e : Env} {s : State} {m : MethodId} {args : Array Value} {below : List Frame} {meth : Method} {c : Code} {G : Gd} {A : Nat → Prop} {ad : Nat → Nat} (C : Cx G A p s m args meth c RX9 cX9_deal 8 (some .int)) {r : Int32} {M' : Mem} : ∀ (n : Nat) (M : Mem) (x0 : Nat) (x2 : Int32) (x3 : Int32) (H : Heap) (locs : List Loc) (ls : Array Slot), f_X9_deal_31  n M x0 x2 x3 = some (r, M') → Wd G A ad s.heap M H locs → lv_has ls 8 [(0, .ref (ad x0)), (2, .int x2), (3, .int x3)] → W p l e rm_X9_deal s m args below meth c H locs 0 0 (MQ below (QI G A ad r M') args s 0 0 A) (F0 m 31 ls []) := by
  obtain ⟨hx, hb, -⟩ := id C
  intro n
  induction n with
  | zero =>
    intro M x0 x2 x3 H locs ls hf
    rw [f_X9_deal_31] at hf
    exact absurd hf (fun h => nomatch h)
  | succ n ih =>
    intro M x0 x2 x3 H locs ls hf hw hl
    rw [f_X9_deal_31] at hf
    refine lv_iload_n hx hb dX9_deal_31 rfl (lv_at hl 2 rfl) ?_
    refine lv_iload_n hx hb dX9_deal_32 rfl (lv_at hl 1 rfl) ?_
    refine lv_icmp_ge (tgt := 105) hx hb dX9_deal_33 (by decide) (fun hc => ?_) (fun hc => ?_)
    · have hf := if_p hc hf
      refine lv_iload_n hx hb dX9_deal_105 rfl (lv_at hl 1 rfl) ?_
      exact e_iret C hw hf dX9_deal_106
    · have hf := if_n hc hf
      refine lv_aload_n hx hb dX9_deal_36 rfl (lv_at hl 0 rfl) ?_
      obtain ⟨hT1, hf⟩ := gt_inv hf
      obtain ⟨a2, hP3, hf⟩ := lp_inv hf
      refine r_getP C hw cf9 0 (by decide) rfl hT1 hP3 fl_X9_10 dX9_deal_37 ?_
      obtain ⟨hT7, hf⟩ := gt_inv hf
      obtain ⟨r5, M4, hc6, hf⟩ := cl_inv hf
      refine fin_I (run_V C hw mf_X8_draw mv_X8_draw ml_X9_152 cf8 hT7 (c_X8_draw l G A ad hc6) (As := []) (rest := []) hl.1 rfl rfl (Nat.le_of_ble_eq_true rfl) ⟨rfl, rfl, Nat.le_of_ble_eq_true rfl, Nat.le_of_ble_eq_true rfl⟩ ⟨Nat.zero_le _, Nat.zero_le _⟩ dX9_deal_40) hw (fun H locs hw => ?_)
      refine lv_bipush (v := 6) hx hb dX9_deal_43 (by decide) ?_
      refine lv_irem hx hb dX9_deal_45 (by decide) ?_
      refine lv_istore (lv' := [(4, .int (irm r5 6)), (0, .ref (ad x0)), (2, .int x2), (3, .int x3)]) hx hb dX9_deal_46 hl (by decide) rfl (fun ls hl => ?_)
      refine lv_aload_n hx hb dX9_deal_48 rfl (lv_at hl 1 rfl) ?_
      obtain ⟨hT8, hf⟩ := gt_inv hf
      obtain ⟨a9, hP10, hf⟩ := lp_inv hf
      refine r_getP C hw cf9 0 (by decide) rfl hT8 hP10 fl_X9_10 dX9_deal_49 ?_
      obtain ⟨hT14, hf⟩ := gt_inv hf
      obtain ⟨r12, M11, hc13, hf⟩ := cl_inv hf
      refine fin_I (run_V C hw mf_X8_draw mv_X8_draw ml_X9_152 cf8 hT14 (c_X8_draw l G A ad hc13) (As := []) (rest := []) hl.1 rfl rfl (Nat.le_of_ble_eq_true rfl) ⟨rfl, rfl, Nat.le_of_ble_eq_true rfl, Nat.le_of_ble_eq_true rfl⟩ ⟨Nat.zero_le _, Nat.zero_le _⟩ dX9_deal_52) hw (fun H locs hw => ?_)
      refine lv_iconst (v := 4) hx hb dX9_deal_55 (by decide) ?_
      refine lv_irem hx hb dX9_deal_56 (by decide) ?_
      refine lv_istore (lv' := [(5, .int (irm r12 4)), (4, .int (irm r5 6)), (0, .ref (ad x0)), (2, .int x2), (3, .int x3)]) hx hb dX9_deal_57 hl (by decide) rfl (fun ls hl => ?_)
      refine lv_aload_n hx hb dX9_deal_59 rfl (lv_at hl 2 rfl) ?_
      obtain ⟨hT15, hf⟩ := gt_inv hf
      obtain ⟨a16, hP17, hf⟩ := lp_inv hf
      refine r_getP C hw cf9 0 (by decide) rfl hT15 hP17 fl_X9_10 dX9_deal_60 ?_
      obtain ⟨hT21, hf⟩ := gt_inv hf
      obtain ⟨r19, M18, hc20, hf⟩ := cl_inv hf
      refine fin_I (run_V C hw mf_X8_draw mv_X8_draw ml_X9_152 cf8 hT21 (c_X8_draw l G A ad hc20) (As := []) (rest := []) hl.1 rfl rfl (Nat.le_of_ble_eq_true rfl) ⟨rfl, rfl, Nat.le_of_ble_eq_true rfl, Nat.le_of_ble_eq_true rfl⟩ ⟨Nat.zero_le _, Nat.zero_le _⟩ dX9_deal_63) hw (fun H locs hw => ?_)
      refine lv_bipush (v := 60) hx hb dX9_deal_66 (by decide) ?_
      refine lv_irem hx hb dX9_deal_68 (by decide) ?_
      refine lv_istore (lv' := [(6, .int (irm r19 60)), (5, .int (irm r12 4)), (4, .int (irm r5 6)), (0, .ref (ad x0)), (2, .int x2), (3, .int x3)]) hx hb dX9_deal_69 hl (by decide) rfl (fun ls hl => ?_)
      refine lv_aload_n hx hb dX9_deal_71 rfl (lv_at hl 3 rfl) ?_
      obtain ⟨hT22, hf⟩ := gt_inv hf
      obtain ⟨a23, hP24, hf⟩ := lp_inv hf
      refine r_getP C hw cf9 0 (by decide) rfl hT22 hP24 fl_X9_10 dX9_deal_72 ?_
      obtain ⟨hT28, hf⟩ := gt_inv hf
      obtain ⟨r26, M25, hc27, hf⟩ := cl_inv hf
      refine fin_I (run_V C hw mf_X8_draw mv_X8_draw ml_X9_152 cf8 hT28 (c_X8_draw l G A ad hc27) (As := []) (rest := []) hl.1 rfl rfl (Nat.le_of_ble_eq_true rfl) ⟨rfl, rfl, Nat.le_of_ble_eq_true rfl, Nat.le_of_ble_eq_true rfl⟩ ⟨Nat.zero_le _, Nat.zero_le _⟩ dX9_deal_75) hw (fun H locs hw => ?_)
      refine lv_bipush (v := 60) hx hb dX9_deal_78 (by decide) ?_
      refine lv_irem hx hb dX9_deal_80 (by decide) ?_
      refine lv_istore (lv' := [(7, .int (irm r26 60)), (6, .int (irm r19 60)), (5, .int (irm r12 4)), (4, .int (irm r5 6)), (0, .ref (ad x0)), (2, .int x2), (3, .int x3)]) hx hb dX9_deal_81 hl (by decide) rfl (fun ls hl => ?_)
      refine lv_aload_n hx hb dX9_deal_83 rfl (lv_at hl 4 rfl) ?_
      obtain ⟨hT29, hf⟩ := gt_inv hf
      obtain ⟨a30, hP31, hf⟩ := lp_inv hf
      refine r_getP C hw cf9 0 (by decide) rfl hT29 hP31 fl_X9_10 dX9_deal_84 ?_
      refine lv_iload hx hb dX9_deal_87 (lv_at hl 3 rfl) ?_
      refine lv_iload hx hb dX9_deal_89 (lv_at hl 2 rfl) ?_
      refine lv_iload hx hb dX9_deal_91 (lv_at hl 1 rfl) ?_
      refine lv_iload hx hb dX9_deal_93 (lv_at hl 0 rfl) ?_
      obtain ⟨hT35, hf⟩ := gt_inv hf
      obtain ⟨r33, M32, hc34, hf⟩ := cl_inv hf
      refine fin_I (run_V C hw mf_X8_build mv_X8_build ml_X9_66 cf8 hT35 (c_X8_build l G A ad hc34) (As := [.int (irm r5 6), .int (irm r12 4), .int (irm r19 60), .int (irm r26 60)]) (rest := []) hl.1 rfl rfl (Nat.le_of_ble_eq_true rfl) ⟨rfl, rfl, Nat.le_of_ble_eq_true rfl, Nat.le_of_ble_eq_true rfl⟩ ⟨Nat.zero_le _, Nat.zero_le _⟩ dX9_deal_95) hw (fun H locs hw => ?_)
      refine lv_pop hx hb dX9_deal_98 rfl ?_
      refine lv_iinc (v := (x3 + 1)) (lv' := [(3, .int (x3 + 1)), (7, .int (irm r26 60)), (6, .int (irm r19 60)), (5, .int (irm r12 4)), (4, .int (irm r5 6)), (0, .ref (ad x0)), (2, .int x2)]) hx hb dX9_deal_99 hl (k := 6) rfl rfl (by decide) rfl (fun ls hl => ?_)
      refine lv_goto (tgt := 31) hx hb dX9_deal_102 (by decide) ?_
      exact ih M32 x0 x2 (x3 + 1) _ _ _ hf hw (lv_sub hl [5, 6, 0] rfl)
def f_X9_deal (M : Mem) (x0 : Nat) (x1 : Int32) : Option (Int32 × Mem) := (if x1 < 1 then some ((-1000000001), M) else (if x1 ≤ 8 then gt (mT M x0) 10 (lp (mP M x0 0) (fun a2 => gt (mT M a2) 9 (f_X9_deal_31 FU M x0 (imin x1 (8 - (mI M a2 1))) 0))) else some ((-1000000001), M)))
set_option maxHeartbeats 4000000 in
set_option maxRecDepth 100000 in
theorem c_X9_deal (l : Launch) (G : Gd) (A : Nat → Prop) (ad : Nat → Nat) {M : Mem} {x0 : Nat} {x1 : Int32}  {r : Int32} {M' : Mem} (hf : f_X9_deal M x0 x1 = some (r, M')) : Ct l yX9_deal cX9_deal 8 (some .int) rm_X9_deal [.ref (ad x0), .int x1] G A ad M (QI G A ad r M') 0 0 := by
  refine ct_start (by decide) (Nat.le_of_ble_eq_true rfl) ?_
  intro p e s m args below meth c ls C hin hw hl
  have C : Cx G A p s m args meth c RX9 cX9_deal 8 (some .int) := C
  have hl : lv_has ls 8 [(0, .ref (ad x0)), (1, .int x1)] := hl
  obtain ⟨hx, hb, -⟩ := id C
  rw [f_X9_deal] at hf
  refine lv_iload_n hx hb dX9_deal_0 rfl (lv_at hl 1 rfl) ?_
  refine lv_iconst (v := 1) hx hb dX9_deal_1 (by decide) ?_
  refine lv_icmp_lt (tgt := 11) hx hb dX9_deal_2 (by decide) (fun hc => ?_) (fun hc => ?_)
  · have hf := if_p hc hf
    refine lv_ldc hx hb C.2.2.2.1 (C.2.2.2.2.1 _ kc_X9_65) dX9_deal_11 ?_
    exact e_iret C hw hf dX9_deal_13
  · have hf := if_n hc hf
    refine lv_iload_n hx hb dX9_deal_5 rfl (lv_at hl 1 rfl) ?_
    refine lv_bipush (v := 8) hx hb dX9_deal_6 (by decide) ?_
    refine lv_icmp_le (tgt := 14) hx hb dX9_deal_8 (by decide) (fun hc => ?_) (fun hc => ?_)
    · have hf := if_p hc hf
      refine lv_iload_n hx hb dX9_deal_14 rfl (lv_at hl 1 rfl) ?_
      refine lv_bipush (v := 8) hx hb dX9_deal_15 (by decide) ?_
      refine lv_aload_n hx hb dX9_deal_17 rfl (lv_at hl 0 rfl) ?_
      obtain ⟨hT1, hf⟩ := gt_inv hf
      obtain ⟨a2, hP3, hf⟩ := lp_inv hf
      refine r_getP C hw cf9 0 (by decide) rfl hT1 hP3 fl_X9_10 dX9_deal_18 ?_
      obtain ⟨hT4, hf⟩ := gt_inv hf
      refine r_getI C hw cf8 1 (by decide) rfl hT4 fl_X9_144 dX9_deal_21 ?_
      refine lv_isub hx hb dX9_deal_24 ?_
      refine r_min C hl.1 mk_X9_147 (Nat.le_of_ble_eq_true rfl) (Nat.le_of_ble_eq_true rfl) (Nat.le_of_ble_eq_true rfl) (Nat.le_of_ble_eq_true rfl) dX9_deal_25 ?_
      refine lv_istore_n (lv' := [(2, .int (imin x1 (8 - (mI M a2 1)))), (0, .ref (ad x0)), (1, .int x1)]) hx hb dX9_deal_28 rfl hl (by decide) rfl (fun ls hl => ?_)
      refine lv_iconst (v := 0) hx hb dX9_deal_29 (by decide) ?_
      refine lv_istore_n (lv' := [(3, .int 0), (2, .int (imin x1 (8 - (mI M a2 1)))), (0, .ref (ad x0)), (1, .int x1)]) hx hb dX9_deal_30 rfl hl (by decide) rfl (fun ls hl => ?_)
      exact t_X9_deal_31 C FU M x0 (imin x1 (8 - (mI M a2 1))) 0 _ _ _ hf hw (lv_sub hl [2, 1, 0] rfl)
    · have hf := if_n hc hf
      refine lv_ldc hx hb C.2.2.2.1 (C.2.2.2.2.1 _ kc_X9_65) dX9_deal_11 ?_
      exact e_iret C hw hf dX9_deal_13
/-! StorkVote.seed(I)I -/
abbrev rm_X9_seed : Room := { frames := 0, cells := 0, slots := 0, locals := 0 }
def f_X9_seed (M : Mem) (x0 : Nat) (x1 : Int32) : Option (Int32 × Mem) := gt (mT M x0) 10 (lp (mP M x0 0) (fun a2 => gt (mT M a2) 9 (st (setI M a2 6 x1) (fun M5 => some ((mI M a2 6), M5)))))
set_option maxHeartbeats 4000000 in
set_option maxRecDepth 100000 in
theorem c_X9_seed (l : Launch) (G : Gd) (A : Nat → Prop) (ad : Nat → Nat) {M : Mem} {x0 : Nat} {x1 : Int32}  {r : Int32} {M' : Mem} (hf : f_X9_seed M x0 x1 = some (r, M')) : Ct l yX9_seed cX9_seed 3 (some .int) rm_X9_seed [.ref (ad x0), .int x1] G A ad M (QI G A ad r M') 0 0 := by
  refine ct_start (by decide) (Nat.le_of_ble_eq_true rfl) ?_
  intro p e s m args below meth c ls C hin hw hl
  have C : Cx G A p s m args meth c RX9 cX9_seed 3 (some .int) := C
  have hl : lv_has ls 3 [(0, .ref (ad x0)), (1, .int x1)] := hl
  obtain ⟨hx, hb, -⟩ := id C
  rw [f_X9_seed] at hf
  refine lv_aload_n hx hb dX9_seed_0 rfl (lv_at hl 0 rfl) ?_
  obtain ⟨hT1, hf⟩ := gt_inv hf
  obtain ⟨a2, hP3, hf⟩ := lp_inv hf
  refine r_getP C hw cf9 0 (by decide) rfl hT1 hP3 fl_X9_10 dX9_seed_1 ?_
  obtain ⟨hT4, hf⟩ := gt_inv hf
  refine r_getI C hw cf8 6 (by decide) rfl hT4 fl_X9_155 dX9_seed_4 ?_
  refine lv_istore_n (lv' := [(2, .int (mI M a2 6)), (0, .ref (ad x0)), (1, .int x1)]) hx hb dX9_seed_7 rfl hl (by decide) rfl (fun ls hl => ?_)
  refine lv_aload_n hx hb dX9_seed_8 rfl (lv_at hl 1 rfl) ?_
  refine r_getP C hw cf9 0 (by decide) rfl hT1 hP3 fl_X9_10 dX9_seed_9 ?_
  refine lv_iload_n hx hb dX9_seed_12 rfl (lv_at hl 2 rfl) ?_
  obtain ⟨M5, e6, hf⟩ := st_inv hf
  have g7 := sg_I e6
  refine r_putI C hw cf8 6 (by decide) rfl hT4 e6 fl_X9_155 rfl rfl rfl dX9_seed_13 (fun H locs hw => ?_)
  refine lv_iload_n hx hb dX9_seed_16 rfl (lv_at hl 0 rfl) ?_
  exact e_iret C hw hf dX9_seed_17
/-! StorkVote.ward(II)I -/
abbrev rm_X9_ward : Room := { frames := 6, cells := 0, slots := 0, locals := 139 }
def f_X9_ward (M : Mem) (x0 : Nat) (x1 : Int32) (x2 : Int32) : Option (Int32 × Mem) := cl (f_X9_within M x1 3) (fun r2 M1 => (if r2 = 0 then some ((-1000000001), M1) else cl (f_X9_within M1 x2 1) (fun r5 M4 => (if r5 = 0 then some ((-1000000001), M4) else gt (mT M4 x0) 10 (cl (f_X9_settleNow M4 x0) (fun _ M7 => (if x2 = 0 then gt (mT M7 x0) 10 (lp (mP M7 x0 3) (fun a21 => lp (mP M7 x0 0) (fun a23 => gt (mT M7 a21) 5 (cl (f_X4_nestsIn M7 a21 a23 x1) (fun r26 M25 => some (r26, M25)))))) else gt (mT M7 x0) 10 (lp (mP M7 x0 3) (fun a12 => lp (mP M7 x0 0) (fun a14 => gt (mT M7 a12) 5 (cl (f_X4_seats M7 a12 a14 x1) (fun r17 M16 => some (r17, M16)))))))))))))
set_option maxHeartbeats 4000000 in
set_option maxRecDepth 100000 in
theorem c_X9_ward (l : Launch) (G : Gd) (A : Nat → Prop) (ad : Nat → Nat) {M : Mem} {x0 : Nat} {x1 : Int32} {x2 : Int32}  {r : Int32} {M' : Mem} (hf : f_X9_ward M x0 x1 x2 = some (r, M')) : Ct l yX9_ward cX9_ward 3 (some .int) rm_X9_ward [.ref (ad x0), .int x1, .int x2] G A ad M (QI G A ad r M') 0 0 := by
  refine ct_start (by decide) (Nat.le_of_ble_eq_true rfl) ?_
  intro p e s m args below meth c ls C hin hw hl
  have C : Cx G A p s m args meth c RX9 cX9_ward 3 (some .int) := C
  have hl : lv_has ls 3 [(0, .ref (ad x0)), (1, .int x1), (2, .int x2)] := hl
  obtain ⟨hx, hb, -⟩ := id C
  rw [f_X9_ward] at hf
  refine lv_iload_n hx hb dX9_ward_0 rfl (lv_at hl 1 rfl) ?_
  refine lv_iconst (v := 3) hx hb dX9_ward_1 (by decide) ?_
  obtain ⟨r2, M1, hc3, hf⟩ := cl_inv hf
  refine fin_I (run_S C hw mf_X9_within ms_X9_within ml_X9_61 (c_X9_within l G A ad hc3) (As := [.int x1, .int 3]) (rest := []) hl.1 rfl rfl (Nat.le_of_ble_eq_true rfl) ⟨rfl, rfl, Nat.le_of_ble_eq_true rfl, Nat.le_of_ble_eq_true rfl⟩ ⟨Nat.zero_le _, Nat.zero_le _⟩ dX9_ward_2) hw (fun H locs hw => ?_)
  refine lv_if_eq (tgt := 16) hx hb dX9_ward_5 (by decide) (fun hc => ?_) (fun hc => ?_)
  · have hf := if_p hc hf
    refine lv_ldc hx hb C.2.2.2.1 (C.2.2.2.2.1 _ kc_X9_65) dX9_ward_16 ?_
    exact e_iret C hw hf dX9_ward_18
  · have hf := if_n hc hf
    refine lv_iload_n hx hb dX9_ward_8 rfl (lv_at hl 2 rfl) ?_
    refine lv_iconst (v := 1) hx hb dX9_ward_9 (by decide) ?_
    obtain ⟨r5, M4, hc6, hf⟩ := cl_inv hf
    refine fin_I (run_S C hw mf_X9_within ms_X9_within ml_X9_61 (c_X9_within l G A ad hc6) (As := [.int x2, .int 1]) (rest := []) hl.1 rfl rfl (Nat.le_of_ble_eq_true rfl) ⟨rfl, rfl, Nat.le_of_ble_eq_true rfl, Nat.le_of_ble_eq_true rfl⟩ ⟨Nat.zero_le _, Nat.zero_le _⟩ dX9_ward_10) hw (fun H locs hw => ?_)
    refine lv_if_ne (tgt := 19) hx hb dX9_ward_13 (by decide) (fun hc => ?_) (fun hc => ?_)
    · have hf := if_n hc hf
      refine lv_aload_n hx hb dX9_ward_19 rfl (lv_at hl 0 rfl) ?_
      obtain ⟨hT10, hf⟩ := gt_inv hf
      obtain ⟨⟨⟩, M7, hc9, hf⟩ := cl_inv hf
      refine fin_V (run_V C hw mf_X9_settleNow mv_X9_settleNow ml_X9_97 cf9 hT10 (c_X9_settleNow l G A ad hc9) (As := []) (rest := []) hl.1 rfl rfl (Nat.le_of_ble_eq_true rfl) ⟨rfl, rfl, Nat.le_of_ble_eq_true rfl, Nat.le_of_ble_eq_true rfl⟩ ⟨Nat.zero_le _, Nat.zero_le _⟩ dX9_ward_20) hw (fun H locs hw => ?_)
      refine lv_iload_n hx hb dX9_ward_23 rfl (lv_at hl 2 rfl) ?_
      refine lv_if_ne (tgt := 42) hx hb dX9_ward_24 (by decide) (fun hc => ?_) (fun hc => ?_)
      · have hf := if_n hc hf
        refine lv_aload_n hx hb dX9_ward_42 rfl (lv_at hl 0 rfl) ?_
        obtain ⟨hT11, hf⟩ := gt_inv hf
        obtain ⟨a12, hP13, hf⟩ := lp_inv hf
        refine r_getP C hw cf9 3 (by decide) rfl hT11 hP13 fl_X9_25 dX9_ward_43 ?_
        refine lv_aload_n hx hb dX9_ward_46 rfl (lv_at hl 0 rfl) ?_
        obtain ⟨a14, hP15, hf⟩ := lp_inv hf
        refine r_getP C hw cf9 0 (by decide) rfl hT11 hP15 fl_X9_10 dX9_ward_47 ?_
        refine lv_iload_n hx hb dX9_ward_50 rfl (lv_at hl 1 rfl) ?_
        obtain ⟨hT19, hf⟩ := gt_inv hf
        obtain ⟨r17, M16, hc18, hf⟩ := cl_inv hf
        refine fin_I (run_V C hw mf_X4_seats mv_X4_seats ml_X9_162 cf4 hT19 (c_X4_seats l G A ad hc18) (As := [.ref (ad a14), .int x1]) (rest := []) hl.1 rfl rfl (Nat.le_of_ble_eq_true rfl) ⟨rfl, rfl, Nat.le_of_ble_eq_true rfl, Nat.le_of_ble_eq_true rfl⟩ ⟨Nat.zero_le _, Nat.zero_le _⟩ dX9_ward_51) hw (fun H locs hw => ?_)
        exact e_iret C hw hf dX9_ward_54
      · have hf := if_p hc hf
        refine lv_aload_n hx hb dX9_ward_27 rfl (lv_at hl 0 rfl) ?_
        obtain ⟨hT20, hf⟩ := gt_inv hf
        obtain ⟨a21, hP22, hf⟩ := lp_inv hf
        refine r_getP C hw cf9 3 (by decide) rfl hT20 hP22 fl_X9_25 dX9_ward_28 ?_
        refine lv_aload_n hx hb dX9_ward_31 rfl (lv_at hl 0 rfl) ?_
        obtain ⟨a23, hP24, hf⟩ := lp_inv hf
        refine r_getP C hw cf9 0 (by decide) rfl hT20 hP24 fl_X9_10 dX9_ward_32 ?_
        refine lv_iload_n hx hb dX9_ward_35 rfl (lv_at hl 1 rfl) ?_
        obtain ⟨hT28, hf⟩ := gt_inv hf
        obtain ⟨r26, M25, hc27, hf⟩ := cl_inv hf
        refine fin_I (run_V C hw mf_X4_nestsIn mv_X4_nestsIn ml_X9_158 cf4 hT28 (c_X4_nestsIn l G A ad hc27) (As := [.ref (ad a23), .int x1]) (rest := []) hl.1 rfl rfl (Nat.le_of_ble_eq_true rfl) ⟨rfl, rfl, Nat.le_of_ble_eq_true rfl, Nat.le_of_ble_eq_true rfl⟩ ⟨Nat.zero_le _, Nat.zero_le _⟩ dX9_ward_36) hw (fun H locs hw => ?_)
        refine lv_goto (tgt := 54) hx hb dX9_ward_39 (by decide) ?_
        exact e_iret C hw hf dX9_ward_54
    · have hf := if_p hc hf
      refine lv_ldc hx hb C.2.2.2.1 (C.2.2.2.2.1 _ kc_X9_65) dX9_ward_16 ?_
      exact e_iret C hw hf dX9_ward_18
/-! StorkVote.elected()I -/
abbrev rm_X9_elected : Room := { frames := 6, cells := 0, slots := 0, locals := 139 }
def f_X9_elected (M : Mem) (x0 : Nat) : Option (Int32 × Mem) := gt (mT M x0) 10 (cl (f_X9_settleNow M x0) (fun _ M1 => gt (mT M1 x0) 10 (lp (mP M1 x0 3) (fun a6 => lp (mP M1 x0 0) (fun a8 => gt (mT M1 a6) 5 (cl (f_X4_winner M1 a6 a8) (fun r11 M10 => some (r11, M10))))))))
set_option maxHeartbeats 4000000 in
set_option maxRecDepth 100000 in
theorem c_X9_elected (l : Launch) (G : Gd) (A : Nat → Prop) (ad : Nat → Nat) {M : Mem} {x0 : Nat}  {r : Int32} {M' : Mem} (hf : f_X9_elected M x0 = some (r, M')) : Ct l yX9_elected cX9_elected 1 (some .int) rm_X9_elected [.ref (ad x0)] G A ad M (QI G A ad r M') 0 0 := by
  refine ct_start (by decide) (Nat.le_of_ble_eq_true rfl) ?_
  intro p e s m args below meth c ls C hin hw hl
  have C : Cx G A p s m args meth c RX9 cX9_elected 1 (some .int) := C
  have hl : lv_has ls 1 [(0, .ref (ad x0))] := hl
  obtain ⟨hx, hb, -⟩ := id C
  rw [f_X9_elected] at hf
  refine lv_aload_n hx hb dX9_elected_0 rfl (lv_at hl 0 rfl) ?_
  obtain ⟨hT4, hf⟩ := gt_inv hf
  obtain ⟨⟨⟩, M1, hc3, hf⟩ := cl_inv hf
  refine fin_V (run_V C hw mf_X9_settleNow mv_X9_settleNow ml_X9_97 cf9 hT4 (c_X9_settleNow l G A ad hc3) (As := []) (rest := []) hl.1 rfl rfl (Nat.le_of_ble_eq_true rfl) ⟨rfl, rfl, Nat.le_of_ble_eq_true rfl, Nat.le_of_ble_eq_true rfl⟩ ⟨Nat.zero_le _, Nat.zero_le _⟩ dX9_elected_1) hw (fun H locs hw => ?_)
  refine lv_aload_n hx hb dX9_elected_4 rfl (lv_at hl 0 rfl) ?_
  obtain ⟨hT5, hf⟩ := gt_inv hf
  obtain ⟨a6, hP7, hf⟩ := lp_inv hf
  refine r_getP C hw cf9 3 (by decide) rfl hT5 hP7 fl_X9_25 dX9_elected_5 ?_
  refine lv_aload_n hx hb dX9_elected_8 rfl (lv_at hl 0 rfl) ?_
  obtain ⟨a8, hP9, hf⟩ := lp_inv hf
  refine r_getP C hw cf9 0 (by decide) rfl hT5 hP9 fl_X9_10 dX9_elected_9 ?_
  obtain ⟨hT13, hf⟩ := gt_inv hf
  obtain ⟨r11, M10, hc12, hf⟩ := cl_inv hf
  refine fin_I (run_V C hw mf_X4_winner mv_X4_winner ml_X9_165 cf4 hT13 (c_X4_winner l G A ad hc12) (As := [.ref (ad a8)]) (rest := []) hl.1 rfl rfl (Nat.le_of_ble_eq_true rfl) ⟨rfl, rfl, Nat.le_of_ble_eq_true rfl, Nat.le_of_ble_eq_true rfl⟩ ⟨Nat.zero_le _, Nat.zero_le _⟩ dX9_elected_12) hw (fun H locs hw => ?_)
  exact e_iret C hw hf dX9_elected_15
/-! StorkVote.years(I)I -/
abbrev rm_X9_years : Room := { frames := 5, cells := 0, slots := 0, locals := 121 }
def f_X9_years_52 : Nat → Mem → Nat → Int32 → Int32 → Int32 → Option (Int32 × Mem)
  | 0, _, _, _, _, _ => none
  | n + 1, M, x0, x2, x3, x4 => (if x2 ≤ x4 then gt (mT M x0) 10 (lp (mP M x0 0) (fun a2 => gt (mT M a2) 9 (some (((mI M a2 3) - x3), M)))) else gt (mT M x0) 10 (lp (mP M x0 0) (fun a6 => lp (mP M x0 3) (fun a8 => gt (mT M a6) 9 (cl (f_X8_live M a6 a8) (fun _ M10 => f_X9_years_52 n M10 x0 x2 x3 (x4 + 1)))))))
set_option maxHeartbeats 4000000 in
set_option maxRecDepth 100000 in
theorem t_X9_years_52 {l : Launch} {p : Program} {e : Env} {s : State} {m : MethodId} {args : Array Value} {below : List Frame} {meth : Method} {c : Code} {G : Gd} {A : Nat → Prop} {ad : Nat → Nat} (C : Cx G A p s m args meth c RX9 cX9_years 5 (some .int)) {r : Int32} {M' : Mem} : ∀ (n : Nat) (M : Mem) (x0 : Nat) (x2 : Int32) (x3 : Int32) (x4 : Int32) (H : Heap) (locs : List Loc) (ls : Array Slot), f_X9_years_52  n M x0 x2 x3 x4 = some (r, M') → Wd G A ad s.heap M H locs → lv_has ls 5 [(0, .ref (ad x0)), (2, .int x2), (3, .int x3), (4, .int x4)] → W p l e rm_X9_years s m args below meth c H locs 0 0 (MQ below (QI G A ad r M') args s 0 0 A) (F0 m 52 ls []) := by
  obtain ⟨hx, hb, -⟩ := id C
  intro n
  induction n with
  | zero =>
    intro M x0 x2 x3 x4 H locs ls hf
    rw [f_X9_years_52] at hf
    exact absurd hf (fun h => nomatch h)
  | succ n ih =>
    intro M x0 x2 x3 x4 H locs ls hf hw hl
    rw [f_X9_years_52] at hf
    refine lv_iload hx hb dX9_years_52 (lv_at hl 3 rfl) ?_
    refine lv_iload_n hx hb dX9_years_54 rfl (lv_at hl 1 rfl) ?_
    refine lv_icmp_ge (tgt := 75) hx hb dX9_years_55 (by decide) (fun hc => ?_) (fun hc => ?_)
    · have hf := if_p hc hf
      refine lv_aload_n hx hb dX9_years_75 rfl (lv_at hl 0 rfl) ?_
      obtain ⟨hT1, hf⟩ := gt_inv hf
      obtain ⟨a2, hP3, hf⟩ := lp_inv hf
      refine r_getP C hw cf9 0 (by decide) rfl hT1 hP3 fl_X9_10 dX9_years_76 ?_
      obtain ⟨hT4, hf⟩ := gt_inv hf
      refine r_getI C hw cf8 3 (by decide) rfl hT4 fl_X9_172 dX9_years_79 ?_
      refine lv_iload_n hx hb dX9_years_82 rfl (lv_at hl 2 rfl) ?_
      refine lv_isub hx hb dX9_years_83 ?_
      exact e_iret C hw hf dX9_years_84
    · have hf := if_n hc hf
      refine lv_aload_n hx hb dX9_years_58 rfl (lv_at hl 0 rfl) ?_
      obtain ⟨hT5, hf⟩ := gt_inv hf
      obtain ⟨a6, hP7, hf⟩ := lp_inv hf
      refine r_getP C hw cf9 0 (by decide) rfl hT5 hP7 fl_X9_10 dX9_years_59 ?_
      refine lv_aload_n hx hb dX9_years_62 rfl (lv_at hl 0 rfl) ?_
      obtain ⟨a8, hP9, hf⟩ := lp_inv hf
      refine r_getP C hw cf9 3 (by decide) rfl hT5 hP9 fl_X9_25 dX9_years_63 ?_
      obtain ⟨hT13, hf⟩ := gt_inv hf
      obtain ⟨⟨⟩, M10, hc12, hf⟩ := cl_inv hf
      refine fin_V (run_V C hw mf_X8_live mv_X8_live ml_X9_179 cf8 hT13 (c_X8_live l G A ad hc12) (As := [.ref (ad a8)]) (rest := []) hl.1 rfl rfl (Nat.le_of_ble_eq_true rfl) ⟨rfl, rfl, Nat.le_of_ble_eq_true rfl, Nat.le_of_ble_eq_true rfl⟩ ⟨Nat.zero_le _, Nat.zero_le _⟩ dX9_years_66) hw (fun H locs hw => ?_)
      refine lv_iinc (v := (x4 + 1)) (lv' := [(4, .int (x4 + 1)), (0, .ref (ad x0)), (2, .int x2), (3, .int x3)]) hx hb dX9_years_69 hl (k := 3) rfl rfl (by decide) rfl (fun ls hl => ?_)
      refine lv_goto (tgt := 52) hx hb dX9_years_72 (by decide) ?_
      exact ih M10 x0 x2 x3 (x4 + 1) _ _ _ hf hw (lv_sub hl [1, 2, 3, 0] rfl)
def f_X9_years (M : Mem) (x0 : Nat) (x1 : Int32) : Option (Int32 × Mem) := (if x1 < 1 then some ((-1000000001), M) else (if x1 ≤ 60 then gt (mT M x0) 10 (lp (mP M x0 0) (fun a2 => gt (mT M a2) 9 (lp (mP M x0 3) (fun a5 => gt (mT M a5) 5 (cl (f_X4_look M a5 a2) (fun _ M7 => f_X9_years_52 FU M7 x0 (imin x1 (999 - (mI M a2 5))) (mI M a2 3) 0)))))) else some ((-1000000001), M)))
set_option maxHeartbeats 4000000 in
set_option maxRecDepth 100000 in
theorem c_X9_years (l : Launch) (G : Gd) (A : Nat → Prop) (ad : Nat → Nat) {M : Mem} {x0 : Nat} {x1 : Int32}  {r : Int32} {M' : Mem} (hf : f_X9_years M x0 x1 = some (r, M')) : Ct l yX9_years cX9_years 5 (some .int) rm_X9_years [.ref (ad x0), .int x1] G A ad M (QI G A ad r M') 0 0 := by
  refine ct_start (by decide) (Nat.le_of_ble_eq_true rfl) ?_
  intro p e s m args below meth c ls C hin hw hl
  have C : Cx G A p s m args meth c RX9 cX9_years 5 (some .int) := C
  have hl : lv_has ls 5 [(0, .ref (ad x0)), (1, .int x1)] := hl
  obtain ⟨hx, hb, -⟩ := id C
  rw [f_X9_years] at hf
  refine lv_iload_n hx hb dX9_years_0 rfl (lv_at hl 1 rfl) ?_
  refine lv_iconst (v := 1) hx hb dX9_years_1 (by decide) ?_
  refine lv_icmp_lt (tgt := 11) hx hb dX9_years_2 (by decide) (fun hc => ?_) (fun hc => ?_)
  · have hf := if_p hc hf
    refine lv_ldc hx hb C.2.2.2.1 (C.2.2.2.2.1 _ kc_X9_65) dX9_years_11 ?_
    exact e_iret C hw hf dX9_years_13
  · have hf := if_n hc hf
    refine lv_iload_n hx hb dX9_years_5 rfl (lv_at hl 1 rfl) ?_
    refine lv_bipush (v := 60) hx hb dX9_years_6 (by decide) ?_
    refine lv_icmp_le (tgt := 14) hx hb dX9_years_8 (by decide) (fun hc => ?_) (fun hc => ?_)
    · have hf := if_p hc hf
      refine lv_iload_n hx hb dX9_years_14 rfl (lv_at hl 1 rfl) ?_
      refine lv_sipush (v := 999) hx hb dX9_years_15 (by decide) ?_
      refine lv_aload_n hx hb dX9_years_18 rfl (lv_at hl 0 rfl) ?_
      obtain ⟨hT1, hf⟩ := gt_inv hf
      obtain ⟨a2, hP3, hf⟩ := lp_inv hf
      refine r_getP C hw cf9 0 (by decide) rfl hT1 hP3 fl_X9_10 dX9_years_19 ?_
      obtain ⟨hT4, hf⟩ := gt_inv hf
      refine r_getI C hw cf8 5 (by decide) rfl hT4 fl_X9_169 dX9_years_22 ?_
      refine lv_isub hx hb dX9_years_25 ?_
      refine r_min C hl.1 mk_X9_147 (Nat.le_of_ble_eq_true rfl) (Nat.le_of_ble_eq_true rfl) (Nat.le_of_ble_eq_true rfl) (Nat.le_of_ble_eq_true rfl) dX9_years_26 ?_
      refine lv_istore_n (lv' := [(2, .int (imin x1 (999 - (mI M a2 5)))), (0, .ref (ad x0)), (1, .int x1)]) hx hb dX9_years_29 rfl hl (by decide) rfl (fun ls hl => ?_)
      refine lv_aload_n hx hb dX9_years_30 rfl (lv_at hl 1 rfl) ?_
      refine r_getP C hw cf9 0 (by decide) rfl hT1 hP3 fl_X9_10 dX9_years_31 ?_
      refine r_getI C hw cf8 3 (by decide) rfl hT4 fl_X9_172 dX9_years_34 ?_
      refine lv_istore_n (lv' := [(3, .int (mI M a2 3)), (2, .int (imin x1 (999 - (mI M a2 5)))), (0, .ref (ad x0)), (1, .int x1)]) hx hb dX9_years_37 rfl hl (by decide) rfl (fun ls hl => ?_)
      refine lv_aload_n hx hb dX9_years_38 rfl (lv_at hl 2 rfl) ?_
      obtain ⟨a5, hP6, hf⟩ := lp_inv hf
      refine r_getP C hw cf9 3 (by decide) rfl hT1 hP6 fl_X9_25 dX9_years_39 ?_
      refine lv_aload_n hx hb dX9_years_42 rfl (lv_at hl 2 rfl) ?_
      refine r_getP C hw cf9 0 (by decide) rfl hT1 hP3 fl_X9_10 dX9_years_43 ?_
      obtain ⟨hT10, hf⟩ := gt_inv hf
      obtain ⟨⟨⟩, M7, hc9, hf⟩ := cl_inv hf
      refine fin_V (run_V C hw mf_X4_look mv_X4_look ml_X9_175 cf4 hT10 (c_X4_look l G A ad hc9) (As := [.ref (ad a2)]) (rest := []) hl.1 rfl rfl (Nat.le_of_ble_eq_true rfl) ⟨rfl, rfl, Nat.le_of_ble_eq_true rfl, Nat.le_of_ble_eq_true rfl⟩ ⟨Nat.zero_le _, Nat.zero_le _⟩ dX9_years_46) hw (fun H locs hw => ?_)
      refine lv_iconst (v := 0) hx hb dX9_years_49 (by decide) ?_
      refine lv_istore (lv' := [(4, .int 0), (3, .int (mI M a2 3)), (2, .int (imin x1 (999 - (mI M a2 5)))), (0, .ref (ad x0)), (1, .int x1)]) hx hb dX9_years_50 hl (by decide) rfl (fun ls hl => ?_)
      exact t_X9_years_52 C FU M7 x0 (imin x1 (999 - (mI M a2 5))) (mI M a2 3) 0 _ _ _ hf hw (lv_sub hl [3, 2, 1, 0] rfl)
    · have hf := if_n hc hf
      refine lv_ldc hx hb C.2.2.2.1 (C.2.2.2.2.1 _ kc_X9_65) dX9_years_11 ?_
      exact e_iret C hw hf dX9_years_13
/-! StorkVote.frogs(II)I -/
abbrev rm_X9_frogs : Room := { frames := 5, cells := 0, slots := 0, locals := 120 }
def f_X9_frogs_63 : Nat → Mem → Nat → Int32 → Int32 → Nat → Int32 → Int32 → Option (Int32 × Mem)
  | 0, _, _, _, _, _, _, _ => none
  | n + 1, M, x0, x1, x2, x3, x4, x5 => (if 99 < (x4 + x5) then some ((-1000000005), M) else gt (mT M x3) 1 (st (setI M x3 3 (x4 + x5)) (fun M2 => gt (mT M2 x0) 10 (lp (mP M2 x0 3) (fun a6 => lp (mP M2 x0 2) (fun a8 => gt (mT M2 a6) 5 (cl (f_X4_lookAt M2 a6 a8 x1) (fun _ M10 => gt (mT M10 x0) 10 (lp (mP M10 x0 3) (fun a15 => lp (mP M10 x0 2) (fun a17 => gt (mT M10 a15) 5 (cl (f_X4_settle M10 a15 a17 (-1000000005)) (fun _ M19 => gt (mT M19 x0) 10 (lp (mP M19 x0 3) (fun a24 => lp (mP M19 x0 2) (fun a26 => gt (mT M19 a24) 5 (cl (f_X4_winner M19 a24 a26) (fun r29 M28 => (if r29 = x2 then some (x5, M28) else f_X9_frogs_63 n M28 x0 x1 x2 x3 x4 (x5 + 1))))))))))))))))))))
set_option maxHeartbeats 4000000 in
set_option maxRecDepth 100000 in
theorem t_X9_frogs_63 {l : Launch} {p : Program} {e : Env} {s : State} {m : MethodId} {args : Array Value} {below : List Frame} {meth : Method} {c : Code} {G : Gd} {A : Nat → Prop} {ad : Nat → Nat} (C : Cx G A p s m args meth c RX9 cX9_frogs 6 (some .int)) {r : Int32} {M' : Mem} : ∀ (n : Nat) (M : Mem) (x0 : Nat) (x1 : Int32) (x2 : Int32) (x3 : Nat) (x4 : Int32) (x5 : Int32) (H : Heap) (locs : List Loc) (ls : Array Slot), f_X9_frogs_63  n M x0 x1 x2 x3 x4 x5 = some (r, M') → Wd G A ad s.heap M H locs → lv_has ls 6 [(0, .ref (ad x0)), (1, .int x1), (2, .int x2), (3, .ref (ad x3)), (4, .int x4), (5, .int x5)] → W p l e rm_X9_frogs s m args below meth c H locs 0 0 (MQ below (QI G A ad r M') args s 0 0 A) (F0 m 63 ls []) := by
  obtain ⟨hx, hb, -⟩ := id C
  intro n
  induction n with
  | zero =>
    intro M x0 x1 x2 x3 x4 x5 H locs ls hf
    rw [f_X9_frogs_63] at hf
    exact absurd hf (fun h => nomatch h)
  | succ n ih =>
    intro M x0 x1 x2 x3 x4 x5 H locs ls hf hw hl
    rw [f_X9_frogs_63] at hf
    refine lv_iload hx hb dX9_frogs_63 (lv_at hl 4 rfl) ?_
    refine lv_iload hx hb dX9_frogs_65 (lv_at hl 5 rfl) ?_
    refine lv_iadd hx hb dX9_frogs_67 ?_
    refine lv_bipush (v := 99) hx hb dX9_frogs_68 (by decide) ?_
    refine lv_icmp_gt (tgt := 131) hx hb dX9_frogs_70 (by decide) (fun hc => ?_) (fun hc => ?_)
    · have hf := if_p hc hf
      refine lv_ldc hx hb C.2.2.2.1 (C.2.2.2.2.1 _ kc_X9_107) dX9_frogs_131 ?_
      exact e_iret C hw hf dX9_frogs_133
    · have hf := if_n hc hf
      refine lv_aload_n hx hb dX9_frogs_73 rfl (lv_at hl 3 rfl) ?_
      refine lv_iload hx hb dX9_frogs_74 (lv_at hl 4 rfl) ?_
      refine lv_iload hx hb dX9_frogs_76 (lv_at hl 5 rfl) ?_
      refine lv_iadd hx hb dX9_frogs_78 ?_
      obtain ⟨hT1, hf⟩ := gt_inv hf
      obtain ⟨M2, e3, hf⟩ := st_inv hf
      have g4 := sg_I e3
      refine r_putI C hw cf0 3 (by decide) rfl hT1 e3 fl_X9_90 rfl rfl rfl dX9_frogs_79 (fun H locs hw => ?_)
      refine lv_aload_n hx hb dX9_frogs_82 rfl (lv_at hl 0 rfl) ?_
      obtain ⟨hT5, hf⟩ := gt_inv hf
      obtain ⟨a6, hP7, hf⟩ := lp_inv hf
      refine r_getP C hw cf9 3 (by decide) rfl hT5 hP7 fl_X9_25 dX9_frogs_83 ?_
      refine lv_aload_n hx hb dX9_frogs_86 rfl (lv_at hl 0 rfl) ?_
      obtain ⟨a8, hP9, hf⟩ := lp_inv hf
      refine r_getP C hw cf9 2 (by decide) rfl hT5 hP9 fl_X9_19 dX9_frogs_87 ?_
      refine lv_iload_n hx hb dX9_frogs_90 rfl (lv_at hl 1 rfl) ?_
      obtain ⟨hT13, hf⟩ := gt_inv hf
      obtain ⟨⟨⟩, M10, hc12, hf⟩ := cl_inv hf
      refine fin_V (run_V C hw mf_X4_lookAt mv_X4_lookAt ml_X9_186 cf4 hT13 (c_X4_lookAt l G A ad hc12) (As := [.ref (ad a8), .int x1]) (rest := []) hl.1 rfl rfl (Nat.le_of_ble_eq_true rfl) ⟨rfl, rfl, Nat.le_of_ble_eq_true rfl, Nat.le_of_ble_eq_true rfl⟩ ⟨Nat.zero_le _, Nat.zero_le _⟩ dX9_frogs_91) hw (fun H locs hw => ?_)
      refine lv_aload_n hx hb dX9_frogs_94 rfl (lv_at hl 0 rfl) ?_
      obtain ⟨hT14, hf⟩ := gt_inv hf
      obtain ⟨a15, hP16, hf⟩ := lp_inv hf
      refine r_getP C hw cf9 3 (by decide) rfl hT14 hP16 fl_X9_25 dX9_frogs_95 ?_
      refine lv_aload_n hx hb dX9_frogs_98 rfl (lv_at hl 0 rfl) ?_
      obtain ⟨a17, hP18, hf⟩ := lp_inv hf
      refine r_getP C hw cf9 2 (by decide) rfl hT14 hP18 fl_X9_19 dX9_frogs_99 ?_
      refine lv_ldc hx hb C.2.2.2.1 (C.2.2.2.2.1 _ kc_X9_107) dX9_frogs_102 ?_
      obtain ⟨hT22, hf⟩ := gt_inv hf
      obtain ⟨⟨⟩, M19, hc21, hf⟩ := cl_inv hf
      refine fin_V (run_V C hw mf_X4_settle mv_X4_settle ml_X9_190 cf4 hT22 (c_X4_settle l G A ad hc21) (As := [.ref (ad a17), .int (-1000000005)]) (rest := []) hl.1 rfl rfl (Nat.le_of_ble_eq_true rfl) ⟨rfl, rfl, Nat.le_of_ble_eq_true rfl, Nat.le_of_ble_eq_true rfl⟩ ⟨Nat.zero_le _, Nat.zero_le _⟩ dX9_frogs_104) hw (fun H locs hw => ?_)
      refine lv_aload_n hx hb dX9_frogs_107 rfl (lv_at hl 0 rfl) ?_
      obtain ⟨hT23, hf⟩ := gt_inv hf
      obtain ⟨a24, hP25, hf⟩ := lp_inv hf
      refine r_getP C hw cf9 3 (by decide) rfl hT23 hP25 fl_X9_25 dX9_frogs_108 ?_
      refine lv_aload_n hx hb dX9_frogs_111 rfl (lv_at hl 0 rfl) ?_
      obtain ⟨a26, hP27, hf⟩ := lp_inv hf
      refine r_getP C hw cf9 2 (by decide) rfl hT23 hP27 fl_X9_19 dX9_frogs_112 ?_
      obtain ⟨hT31, hf⟩ := gt_inv hf
      obtain ⟨r29, M28, hc30, hf⟩ := cl_inv hf
      refine fin_I (run_V C hw mf_X4_winner mv_X4_winner ml_X9_165 cf4 hT31 (c_X4_winner l G A ad hc30) (As := [.ref (ad a26)]) (rest := []) hl.1 rfl rfl (Nat.le_of_ble_eq_true rfl) ⟨rfl, rfl, Nat.le_of_ble_eq_true rfl, Nat.le_of_ble_eq_true rfl⟩ ⟨Nat.zero_le _, Nat.zero_le _⟩ dX9_frogs_115) hw (fun H locs hw => ?_)
      refine lv_iload_n hx hb dX9_frogs_118 rfl (lv_at hl 2 rfl) ?_
      refine lv_icmp_ne (tgt := 125) hx hb dX9_frogs_119 (by decide) (fun hc => ?_) (fun hc => ?_)
      · have hf := if_n hc hf
        refine lv_iinc (v := (x5 + 1)) (lv' := [(5, .int (x5 + 1)), (0, .ref (ad x0)), (1, .int x1), (2, .int x2), (3, .ref (ad x3)), (4, .int x4)]) hx hb dX9_frogs_125 hl (k := 5) rfl rfl (by decide) rfl (fun ls hl => ?_)
        refine lv_goto (tgt := 63) hx hb dX9_frogs_128 (by decide) ?_
        exact ih M28 x0 x1 x2 x3 x4 (x5 + 1) _ _ _ hf hw (lv_sub hl [1, 2, 3, 4, 5, 0] rfl)
      · have hf := if_p hc hf
        refine lv_iload hx hb dX9_frogs_122 (lv_at hl 5 rfl) ?_
        exact e_iret C hw hf dX9_frogs_124
def f_X9_frogs (M : Mem) (x0 : Nat) (x1 : Int32) (x2 : Int32) : Option (Int32 × Mem) := gt (mT M x0) 10 (lp (mP M x0 0) (fun a2 => gt (mT M a2) 9 (cl (f_X8_hasChimney M a2 x1) (fun r5 M4 => (if r5 = 0 then some ((-1000000001), M4) else cl (f_X9_within M4 x2 3) (fun r9 M8 => (if r9 = 0 then some ((-1000000001), M8) else gt (mT M8 x0) 10 (lp (mP M8 x0 2) (fun a12 => lp (mP M8 x0 0) (fun a14 => gt (mT M8 a12) 9 (cl (f_X8_take M8 a12 a14) (fun _ M16 => gt (mT M16 x0) 10 (lp (mP M16 x0 3) (fun a21 => lp (mP M16 x0 2) (fun a23 => gt (mT M16 a21) 5 (cl (f_X4_look M16 a21 a23) (fun _ M25 => gt (mT M25 x0) 10 (lp (mP M25 x0 2) (fun a30 => gt (mT M25 a30) 9 (lp (mP M25 a30 0) (fun a33 => gt (mT M25 a33) 23 (gd (ib x1 (mL M25 a33)) (lp (mP M25 a33 x1.toNatClampNeg) (fun a37 => gt (mT M25 a37) 1 (f_X9_frogs_63 FU M25 x0 x1 x2 a37 (mI M25 a37 3) 0)))))))))))))))))))))))))
set_option maxHeartbeats 4000000 in
set_option maxRecDepth 100000 in
theorem c_X9_frogs (l : Launch) (G : Gd) (A : Nat → Prop) (ad : Nat → Nat) {M : Mem} {x0 : Nat} {x1 : Int32} {x2 : Int32}  {r : Int32} {M' : Mem} (hf : f_X9_frogs M x0 x1 x2 = some (r, M')) : Ct l yX9_frogs cX9_frogs 6 (some .int) rm_X9_frogs [.ref (ad x0), .int x1, .int x2] G A ad M (QI G A ad r M') 0 0 := by
  refine ct_start (by decide) (Nat.le_of_ble_eq_true rfl) ?_
  intro p e s m args below meth c ls C hin hw hl
  have C : Cx G A p s m args meth c RX9 cX9_frogs 6 (some .int) := C
  have hl : lv_has ls 6 [(0, .ref (ad x0)), (1, .int x1), (2, .int x2)] := hl
  obtain ⟨hx, hb, -⟩ := id C
  rw [f_X9_frogs] at hf
  refine lv_aload_n hx hb dX9_frogs_0 rfl (lv_at hl 0 rfl) ?_
  obtain ⟨hT1, hf⟩ := gt_inv hf
  obtain ⟨a2, hP3, hf⟩ := lp_inv hf
  refine r_getP C hw cf9 0 (by decide) rfl hT1 hP3 fl_X9_10 dX9_frogs_1 ?_
  refine lv_iload_n hx hb dX9_frogs_4 rfl (lv_at hl 1 rfl) ?_
  obtain ⟨hT7, hf⟩ := gt_inv hf
  obtain ⟨r5, M4, hc6, hf⟩ := cl_inv hf
  refine fin_I (run_V C hw mf_X8_hasChimney mv_X8_hasChimney ml_X9_70 cf8 hT7 (c_X8_hasChimney l G A ad hc6) (As := [.int x1]) (rest := []) hl.1 rfl rfl (Nat.le_of_ble_eq_true rfl) ⟨rfl, rfl, Nat.le_of_ble_eq_true rfl, Nat.le_of_ble_eq_true rfl⟩ ⟨Nat.zero_le _, Nat.zero_le _⟩ dX9_frogs_5) hw (fun H locs hw => ?_)
  refine lv_if_eq (tgt := 19) hx hb dX9_frogs_8 (by decide) (fun hc => ?_) (fun hc => ?_)
  · have hf := if_p hc hf
    refine lv_ldc hx hb C.2.2.2.1 (C.2.2.2.2.1 _ kc_X9_65) dX9_frogs_19 ?_
    exact e_iret C hw hf dX9_frogs_21
  · have hf := if_n hc hf
    refine lv_iload_n hx hb dX9_frogs_11 rfl (lv_at hl 2 rfl) ?_
    refine lv_iconst (v := 3) hx hb dX9_frogs_12 (by decide) ?_
    obtain ⟨r9, M8, hc10, hf⟩ := cl_inv hf
    refine fin_I (run_S C hw mf_X9_within ms_X9_within ml_X9_61 (c_X9_within l G A ad hc10) (As := [.int x2, .int 3]) (rest := []) hl.1 rfl rfl (Nat.le_of_ble_eq_true rfl) ⟨rfl, rfl, Nat.le_of_ble_eq_true rfl, Nat.le_of_ble_eq_true rfl⟩ ⟨Nat.zero_le _, Nat.zero_le _⟩ dX9_frogs_13) hw (fun H locs hw => ?_)
    refine lv_if_ne (tgt := 22) hx hb dX9_frogs_16 (by decide) (fun hc => ?_) (fun hc => ?_)
    · have hf := if_n hc hf
      refine lv_aload_n hx hb dX9_frogs_22 rfl (lv_at hl 0 rfl) ?_
      obtain ⟨hT11, hf⟩ := gt_inv hf
      obtain ⟨a12, hP13, hf⟩ := lp_inv hf
      refine r_getP C hw cf9 2 (by decide) rfl hT11 hP13 fl_X9_19 dX9_frogs_23 ?_
      refine lv_aload_n hx hb dX9_frogs_26 rfl (lv_at hl 0 rfl) ?_
      obtain ⟨a14, hP15, hf⟩ := lp_inv hf
      refine r_getP C hw cf9 0 (by decide) rfl hT11 hP15 fl_X9_10 dX9_frogs_27 ?_
      obtain ⟨hT19, hf⟩ := gt_inv hf
      obtain ⟨⟨⟩, M16, hc18, hf⟩ := cl_inv hf
      refine fin_V (run_V C hw mf_X8_take mv_X8_take ml_X9_183 cf8 hT19 (c_X8_take l G A ad hc18) (As := [.ref (ad a14)]) (rest := []) hl.1 rfl rfl (Nat.le_of_ble_eq_true rfl) ⟨rfl, rfl, Nat.le_of_ble_eq_true rfl, Nat.le_of_ble_eq_true rfl⟩ ⟨Nat.zero_le _, Nat.zero_le _⟩ dX9_frogs_30) hw (fun H locs hw => ?_)
      refine lv_aload_n hx hb dX9_frogs_33 rfl (lv_at hl 0 rfl) ?_
      obtain ⟨hT20, hf⟩ := gt_inv hf
      obtain ⟨a21, hP22, hf⟩ := lp_inv hf
      refine r_getP C hw cf9 3 (by decide) rfl hT20 hP22 fl_X9_25 dX9_frogs_34 ?_
      refine lv_aload_n hx hb dX9_frogs_37 rfl (lv_at hl 0 rfl) ?_
      obtain ⟨a23, hP24, hf⟩ := lp_inv hf
      refine r_getP C hw cf9 2 (by decide) rfl hT20 hP24 fl_X9_19 dX9_frogs_38 ?_
      obtain ⟨hT28, hf⟩ := gt_inv hf
      obtain ⟨⟨⟩, M25, hc27, hf⟩ := cl_inv hf
      refine fin_V (run_V C hw mf_X4_look mv_X4_look ml_X9_175 cf4 hT28 (c_X4_look l G A ad hc27) (As := [.ref (ad a23)]) (rest := []) hl.1 rfl rfl (Nat.le_of_ble_eq_true rfl) ⟨rfl, rfl, Nat.le_of_ble_eq_true rfl, Nat.le_of_ble_eq_true rfl⟩ ⟨Nat.zero_le _, Nat.zero_le _⟩ dX9_frogs_41) hw (fun H locs hw => ?_)
      refine lv_aload_n hx hb dX9_frogs_44 rfl (lv_at hl 0 rfl) ?_
      obtain ⟨hT29, hf⟩ := gt_inv hf
      obtain ⟨a30, hP31, hf⟩ := lp_inv hf
      refine r_getP C hw cf9 2 (by decide) rfl hT29 hP31 fl_X9_19 dX9_frogs_45 ?_
      obtain ⟨hT32, hf⟩ := gt_inv hf
      obtain ⟨a33, hP34, hf⟩ := lp_inv hf
      refine r_getP C hw cf8 0 (by decide) rfl hT32 hP34 fl_X9_74 dX9_frogs_48 ?_
      refine lv_iload_n hx hb dX9_frogs_51 rfl (lv_at hl 1 rfl) ?_
      obtain ⟨hT35, hf⟩ := gt_inv hf
      obtain ⟨hg36, hf⟩ := gd_inv hf
      obtain ⟨a37, hP38, hf⟩ := lp_inv hf
      refine r_aald C hw 3 rfl (by decide) (by decide) hT35 hg36 hP38 dX9_frogs_52 ?_
      refine lv_astore_n (lv' := [(3, .ref (ad a37)), (0, .ref (ad x0)), (1, .int x1), (2, .int x2)]) hx hb dX9_frogs_53 rfl hl (by decide) rfl (fun ls hl => ?_)
      refine lv_aload_n hx hb dX9_frogs_54 rfl (lv_at hl 0 rfl) ?_
      obtain ⟨hT39, hf⟩ := gt_inv hf
      refine r_getI C hw cf0 3 (by decide) rfl hT39 fl_X9_90 dX9_frogs_55 ?_
      refine lv_istore (lv' := [(4, .int (mI M25 a37 3)), (3, .ref (ad a37)), (0, .ref (ad x0)), (1, .int x1), (2, .int x2)]) hx hb dX9_frogs_58 hl (by decide) rfl (fun ls hl => ?_)
      refine lv_iconst (v := 0) hx hb dX9_frogs_60 (by decide) ?_
      refine lv_istore (lv' := [(5, .int 0), (4, .int (mI M25 a37 3)), (3, .ref (ad a37)), (0, .ref (ad x0)), (1, .int x1), (2, .int x2)]) hx hb dX9_frogs_61 hl (by decide) rfl (fun ls hl => ?_)
      exact t_X9_frogs_63 C FU M25 x0 x1 x2 a37 (mI M25 a37 3) 0 _ _ _ hf hw (lv_sub hl [3, 4, 5, 2, 1, 0] rfl)
    · have hf := if_p hc hf
      refine lv_ldc hx hb C.2.2.2.1 (C.2.2.2.2.1 _ kc_X9_65) dX9_frogs_19 ?_
      exact e_iret C hw hf dX9_frogs_21
