/-! StorkVote$Chimney.become(IIII)V -/
abbrev rm_X0_become : Room := { frames := 0, cells := 0, slots := 0, locals := 0 }
def f_X0_become (M : Mem) (x0 : Nat) (x1 : Int32) (x2 : Int32) (x3 : Int32) (x4 : Int32) : Option (Unit × Mem) := gt (mT M x0) 1 (st (setI M x0 0 x1) (fun M2 => st (setI M2 x0 1 x2) (fun M5 => st (setI M5 x0 2 x3) (fun M8 => st (setI M8 x0 3 x4) (fun M11 => some ((), M11))))))
set_option maxHeartbeats 4000000 in
set_option maxRecDepth 100000 in
theorem c_X0_become (l : Launch) (G : Gd) (A : Nat → Prop) (ad : Nat → Nat) {M : Mem} {x0 : Nat} {x1 : Int32} {x2 : Int32} {x3 : Int32} {x4 : Int32}  {M' : Mem} (hf : f_X0_become M x0 x1 x2 x3 x4 = some ((), M')) : Ct l yX0_become cX0_become 5 none rm_X0_become [.ref (ad x0), .int x1, .int x2, .int x3, .int x4] G A ad M (QV G A ad M') 0 0 := by
  refine ct_start (by decide) (Nat.le_of_ble_eq_true rfl) ?_
  intro p e s m args below meth c ls C hin hw hl
  have C : Cx G A p s m args meth c RX0 cX0_become 5 none := C
  have hl : lv_has ls 5 [(0, .ref (ad x0)), (1, .int x1), (2, .int x2), (3, .int x3), (4, .int x4)] := hl
  obtain ⟨hx, hb, -⟩ := id C
  rw [f_X0_become] at hf
  refine lv_aload_n hx hb dX0_become_0 rfl (lv_at hl 0 rfl) ?_
  refine lv_iload_n hx hb dX0_become_1 rfl (lv_at hl 1 rfl) ?_
  obtain ⟨hT1, hf⟩ := gt_inv hf
  obtain ⟨M2, e3, hf⟩ := st_inv hf
  have g4 := sg_I e3
  refine r_putI C hw cf0 0 (by decide) rfl hT1 e3 fl_X0_9 rfl rfl rfl dX0_become_2 (fun H locs hw => ?_)
  refine lv_aload_n hx hb dX0_become_5 rfl (lv_at hl 0 rfl) ?_
  refine lv_iload_n hx hb dX0_become_6 rfl (lv_at hl 2 rfl) ?_
  obtain ⟨M5, e6, hf⟩ := st_inv hf
  have g7 := sg_I e6
  refine r_putI C hw cf0 1 (by decide) rfl (T_of g4 hT1) e6 fl_X0_15 rfl rfl rfl dX0_become_7 (fun H locs hw => ?_)
  refine lv_aload_n hx hb dX0_become_10 rfl (lv_at hl 0 rfl) ?_
  refine lv_iload_n hx hb dX0_become_11 rfl (lv_at hl 3 rfl) ?_
  obtain ⟨M8, e9, hf⟩ := st_inv hf
  have g10 := sg_I e9
  refine r_putI C hw cf0 2 (by decide) rfl (T_of g7 (T_of g4 hT1)) e9 fl_X0_18 rfl rfl rfl dX0_become_12 (fun H locs hw => ?_)
  refine lv_aload_n hx hb dX0_become_15 rfl (lv_at hl 0 rfl) ?_
  refine lv_iload hx hb dX0_become_16 (lv_at hl 4 rfl) ?_
  obtain ⟨M11, e12, hf⟩ := st_inv hf
  have g13 := sg_I e12
  refine r_putI C hw cf0 3 (by decide) rfl (T_of g10 (T_of g7 (T_of g4 hT1))) e12 fl_X0_21 rfl rfl rfl dX0_become_18 (fun H locs hw => ?_)
  exact e_vret C hw hf dX0_become_21
/-! StorkVote$Chimney.take(LStorkVote$Chimney;)V -/
abbrev rm_X0_take : Room := { frames := 1, cells := 0, slots := 0, locals := 24 }
def f_X0_take (M : Mem) (x0 : Nat) (x1 : Nat) : Option (Unit × Mem) := gt (mT M x1) 1 (gt (mT M x0) 1 (cl (f_X0_become M x0 (mI M x1 0) (mI M x1 1) (mI M x1 2) (mI M x1 3)) (fun _ M2 => some ((), M2))))
set_option maxHeartbeats 4000000 in
set_option maxRecDepth 100000 in
theorem c_X0_take (l : Launch) (G : Gd) (A : Nat → Prop) (ad : Nat → Nat) {M : Mem} {x0 : Nat} {x1 : Nat}  {M' : Mem} (hf : f_X0_take M x0 x1 = some ((), M')) : Ct l yX0_take cX0_take 2 none rm_X0_take [.ref (ad x0), .ref (ad x1)] G A ad M (QV G A ad M') 0 0 := by
  refine ct_start (by decide) (Nat.le_of_ble_eq_true rfl) ?_
  intro p e s m args below meth c ls C hin hw hl
  have C : Cx G A p s m args meth c RX0 cX0_take 2 none := C
  have hl : lv_has ls 2 [(0, .ref (ad x0)), (1, .ref (ad x1))] := hl
  obtain ⟨hx, hb, -⟩ := id C
  rw [f_X0_take] at hf
  refine lv_aload_n hx hb dX0_take_0 rfl (lv_at hl 0 rfl) ?_
  refine lv_aload_n hx hb dX0_take_1 rfl (lv_at hl 1 rfl) ?_
  obtain ⟨hT1, hf⟩ := gt_inv hf
  refine r_getI C hw cf0 0 (by decide) rfl hT1 fl_X0_9 dX0_take_2 ?_
  refine lv_aload_n hx hb dX0_take_5 rfl (lv_at hl 1 rfl) ?_
  refine r_getI C hw cf0 1 (by decide) rfl hT1 fl_X0_15 dX0_take_6 ?_
  refine lv_aload_n hx hb dX0_take_9 rfl (lv_at hl 1 rfl) ?_
  refine r_getI C hw cf0 2 (by decide) rfl hT1 fl_X0_18 dX0_take_10 ?_
  refine lv_aload_n hx hb dX0_take_13 rfl (lv_at hl 1 rfl) ?_
  refine r_getI C hw cf0 3 (by decide) rfl hT1 fl_X0_21 dX0_take_14 ?_
  obtain ⟨hT5, hf⟩ := gt_inv hf
  obtain ⟨⟨⟩, M2, hc4, hf⟩ := cl_inv hf
  refine fin_V (run_V C hw mf_X0_become mv_X0_become ml_X0_24 cf0 hT5 (c_X0_become l G A ad hc4) (As := [.int (mI M x1 0), .int (mI M x1 1), .int (mI M x1 2), .int (mI M x1 3)]) (rest := []) hl.1 rfl rfl (Nat.le_of_ble_eq_true rfl) ⟨rfl, rfl, Nat.le_of_ble_eq_true rfl, Nat.le_of_ble_eq_true rfl⟩ ⟨Nat.zero_le _, Nat.zero_le _⟩ dX0_take_17) hw (fun H locs hw => ?_)
  exact e_vret C hw hf dX0_take_20
/-! StorkVote$Chimney.isOf(I)Z -/
abbrev rm_X0_isOf : Room := { frames := 0, cells := 0, slots := 0, locals := 0 }
def f_X0_isOf_7 : Nat → Mem → Int32 → Int32 → Int32 → Option (Int32 × Mem)
  | 0, _, _, _, _ => none
  | n + 1, M, x1, x2, x3 => (if 6 ≤ x3 then some (0, M) else (if x2 < 0 then some (0, M) else (if 6 ≤ x2 then some (0, M) else (if x2 = x1 then some (1, M) else gd (ib x2 6) (f_X0_isOf_7 n M x1 (kaF.getD x2.toNatClampNeg 0) (x3 + 1))))))
set_option maxHeartbeats 4000000 in
set_option maxRecDepth 100000 in
theorem t_X0_isOf_7 {l : Launch} {p : Program} {e : Env} {s : State} {m : MethodId} {args : Array Value} {below : List Frame} {meth : Method} {c : Code} {G : Gd} {A : Nat → Prop} {ad : Nat → Nat} (C : Cx G A p s m args meth c RX0 cX0_isOf 4 (some .boolean)) {r : Int32} {M' : Mem} : ∀ (n : Nat) (M : Mem) (x1 : Int32) (x2 : Int32) (x3 : Int32) (H : Heap) (locs : List Loc) (ls : Array Slot), f_X0_isOf_7  n M x1 x2 x3 = some (r, M') → Wd G A ad s.heap M H locs → lv_has ls 4 [(1, .int x1), (2, .int x2), (3, .int x3)] → W p l e rm_X0_isOf s m args below meth c H locs 0 0 (MQ below (QI G A ad r M') args s 0 0 A) (F0 m 7 ls []) := by
  obtain ⟨hx, hb, -⟩ := id C
  intro n
  induction n with
  | zero =>
    intro M x1 x2 x3 H locs ls hf
    rw [f_X0_isOf_7] at hf
    exact absurd hf (fun h => nomatch h)
  | succ n ih =>
    intro M x1 x2 x3 H locs ls hf hw hl
    rw [f_X0_isOf_7] at hf
    refine lv_iload_n hx hb dX0_isOf_7 rfl (lv_at hl 2 rfl) ?_
    refine lv_bipush (v := 6) hx hb dX0_isOf_8 (by decide) ?_
    refine lv_icmp_ge (tgt := 42) hx hb dX0_isOf_10 (by decide) (fun hc => ?_) (fun hc => ?_)
    · have hf := if_p hc hf
      refine lv_iconst (v := 0) hx hb dX0_isOf_42 (by decide) ?_
      exact e_zret C hw rfl hf dX0_isOf_43
    · have hf := if_n hc hf
      refine lv_iload_n hx hb dX0_isOf_13 rfl (lv_at hl 1 rfl) ?_
      refine lv_if_lt (tgt := 42) hx hb dX0_isOf_14 (by decide) (fun hc => ?_) (fun hc => ?_)
      · have hf := if_p hc hf
        refine lv_iconst (v := 0) hx hb dX0_isOf_42 (by decide) ?_
        exact e_zret C hw rfl hf dX0_isOf_43
      · have hf := if_n hc hf
        refine lv_iload_n hx hb dX0_isOf_17 rfl (lv_at hl 1 rfl) ?_
        refine lv_bipush (v := 6) hx hb dX0_isOf_18 (by decide) ?_
        refine lv_icmp_ge (tgt := 42) hx hb dX0_isOf_20 (by decide) (fun hc => ?_) (fun hc => ?_)
        · have hf := if_p hc hf
          refine lv_iconst (v := 0) hx hb dX0_isOf_42 (by decide) ?_
          exact e_zret C hw rfl hf dX0_isOf_43
        · have hf := if_n hc hf
          refine lv_iload_n hx hb dX0_isOf_23 rfl (lv_at hl 1 rfl) ?_
          refine lv_iload_n hx hb dX0_isOf_24 rfl (lv_at hl 0 rfl) ?_
          refine lv_icmp_ne (tgt := 30) hx hb dX0_isOf_25 (by decide) (fun hc => ?_) (fun hc => ?_)
          · have hf := if_n hc hf
            refine r_kag C hw fl_X0_28 dX0_isOf_30 ?_
            refine lv_iload_n hx hb dX0_isOf_33 rfl (lv_at hl 1 rfl) ?_
            obtain ⟨hg1, hf⟩ := gd_inv hf
            refine r_kai C hw hg1 dX0_isOf_34 ?_
            refine lv_istore_n (lv' := [(2, .int (kaF.getD x2.toNatClampNeg 0)), (1, .int x1), (3, .int x3)]) hx hb dX0_isOf_35 rfl hl (by decide) rfl (fun ls hl => ?_)
            refine lv_iinc (v := (x3 + 1)) (lv' := [(3, .int (x3 + 1)), (2, .int (kaF.getD x2.toNatClampNeg 0)), (1, .int x1)]) hx hb dX0_isOf_36 hl (k := 2) rfl rfl (by decide) rfl (fun ls hl => ?_)
            refine lv_goto (tgt := 7) hx hb dX0_isOf_39 (by decide) ?_
            exact ih M x1 (kaF.getD x2.toNatClampNeg 0) (x3 + 1) _ _ _ hf hw (lv_sub hl [2, 1, 0] rfl)
          · have hf := if_p hc hf
            refine lv_iconst (v := 1) hx hb dX0_isOf_28 (by decide) ?_
            exact e_zret C hw rfl hf dX0_isOf_29
def f_X0_isOf (M : Mem) (x0 : Nat) (x1 : Int32) : Option (Int32 × Mem) := gt (mT M x0) 1 (f_X0_isOf_7 FU M x1 (mI M x0 0) 0)
set_option maxHeartbeats 4000000 in
set_option maxRecDepth 100000 in
theorem c_X0_isOf (l : Launch) (G : Gd) (A : Nat → Prop) (ad : Nat → Nat) {M : Mem} {x0 : Nat} {x1 : Int32}  {r : Int32} {M' : Mem} (hf : f_X0_isOf M x0 x1 = some (r, M')) : Ct l yX0_isOf cX0_isOf 4 (some .boolean) rm_X0_isOf [.ref (ad x0), .int x1] G A ad M (QI G A ad r M') 0 0 := by
  refine ct_start (by decide) (Nat.le_of_ble_eq_true rfl) ?_
  intro p e s m args below meth c ls C hin hw hl
  have C : Cx G A p s m args meth c RX0 cX0_isOf 4 (some .boolean) := C
  have hl : lv_has ls 4 [(0, .ref (ad x0)), (1, .int x1)] := hl
  obtain ⟨hx, hb, -⟩ := id C
  rw [f_X0_isOf] at hf
  refine lv_aload_n hx hb dX0_isOf_0 rfl (lv_at hl 0 rfl) ?_
  obtain ⟨hT1, hf⟩ := gt_inv hf
  refine r_getI C hw cf0 0 (by decide) rfl hT1 fl_X0_9 dX0_isOf_1 ?_
  refine lv_istore_n (lv' := [(2, .int (mI M x0 0)), (0, .ref (ad x0)), (1, .int x1)]) hx hb dX0_isOf_4 rfl hl (by decide) rfl (fun ls hl => ?_)
  refine lv_iconst (v := 0) hx hb dX0_isOf_5 (by decide) ?_
  refine lv_istore_n (lv' := [(3, .int 0), (2, .int (mI M x0 0)), (0, .ref (ad x0)), (1, .int x1)]) hx hb dX0_isOf_6 rfl hl (by decide) rfl (fun ls hl => ?_)
  exact t_X0_isOf_7 C FU M x1 (mI M x0 0) 0 _ _ _ hf hw (lv_sub hl [3, 1, 0] rfl)
/-! StorkVote$Chimney.worth()I -/
abbrev rm_X0_worth : Room := { frames := 0, cells := 0, slots := 0, locals := 0 }
def f_X0_worth (M : Mem) (x0 : Nat) : Option (Int32 × Mem) := gt (mT M x0) 1 ((if (mI M x0 0) = 1 then some (((mI M x0 2) + (mI M x0 3)), M) else if (mI M x0 0) = 2 then some ((99 - (mI M x0 2)), M) else if (mI M x0 0) = 3 then some ((2 * ((mI M x0 2) + (mI M x0 3))), M) else if (mI M x0 0) = 4 then some (((99 - (mI M x0 2)) - 7), M) else if (mI M x0 0) = 5 then some (2, M) else some ((mI M x0 2), M)))
set_option maxHeartbeats 4000000 in
set_option maxRecDepth 100000 in
theorem c_X0_worth (l : Launch) (G : Gd) (A : Nat → Prop) (ad : Nat → Nat) {M : Mem} {x0 : Nat}  {r : Int32} {M' : Mem} (hf : f_X0_worth M x0 = some (r, M')) : Ct l yX0_worth cX0_worth 3 (some .int) rm_X0_worth [.ref (ad x0)] G A ad M (QI G A ad r M') 0 0 := by
  refine ct_start (by decide) (Nat.le_of_ble_eq_true rfl) ?_
  intro p e s m args below meth c ls C hin hw hl
  have C : Cx G A p s m args meth c RX0 cX0_worth 3 (some .int) := C
  have hl : lv_has ls 3 [(0, .ref (ad x0))] := hl
  obtain ⟨hx, hb, -⟩ := id C
  rw [f_X0_worth] at hf
  refine lv_aload_n hx hb dX0_worth_0 rfl (lv_at hl 0 rfl) ?_
  obtain ⟨hT1, hf⟩ := gt_inv hf
  refine r_getI C hw cf0 2 (by decide) rfl hT1 fl_X0_18 dX0_worth_1 ?_
  refine lv_aload_n hx hb dX0_worth_4 rfl (lv_at hl 0 rfl) ?_
  refine r_getI C hw cf0 3 (by decide) rfl hT1 fl_X0_21 dX0_worth_5 ?_
  refine lv_iadd hx hb dX0_worth_8 ?_
  refine lv_istore_n (lv' := [(1, .int ((mI M x0 2) + (mI M x0 3))), (0, .ref (ad x0))]) hx hb dX0_worth_9 rfl hl (by decide) rfl (fun ls hl => ?_)
  refine lv_bipush (v := 99) hx hb dX0_worth_10 (by decide) ?_
  refine lv_aload_n hx hb dX0_worth_12 rfl (lv_at hl 1 rfl) ?_
  refine r_getI C hw cf0 2 (by decide) rfl hT1 fl_X0_18 dX0_worth_13 ?_
  refine lv_isub hx hb dX0_worth_16 ?_
  refine lv_istore_n (lv' := [(2, .int (99 - (mI M x0 2))), (1, .int ((mI M x0 2) + (mI M x0 3))), (0, .ref (ad x0))]) hx hb dX0_worth_17 rfl hl (by decide) rfl (fun ls hl => ?_)
  refine lv_aload_n hx hb dX0_worth_18 rfl (lv_at hl 2 rfl) ?_
  refine r_getI C hw cf0 0 (by decide) rfl hT1 fl_X0_9 dX0_worth_19 ?_
  by_cases hc2 : (mI M x0 0) = 1
  · have hf := if_p hc2 hf
    refine r_tabIn 1 hc2 hx hb dX0_worth_22 (by decide) (by decide) rfl (tgt := 56) (by decide) ?_
    refine lv_iload_n hx hb dX0_worth_56 rfl (lv_at hl 1 rfl) ?_
    exact e_iret C hw hf dX0_worth_57
  · have hf := if_n hc2 hf
    by_cases hc3 : (mI M x0 0) = 2
    · have hf := if_p hc3 hf
      refine r_tabIn 2 hc3 hx hb dX0_worth_22 (by decide) (by decide) rfl (tgt := 62) (by decide) ?_
      refine lv_iload_n hx hb dX0_worth_62 rfl (lv_at hl 0 rfl) ?_
      exact e_iret C hw hf dX0_worth_63
    · have hf := if_n hc3 hf
      by_cases hc4 : (mI M x0 0) = 3
      · have hf := if_p hc4 hf
        refine r_tabIn 3 hc4 hx hb dX0_worth_22 (by decide) (by decide) rfl (tgt := 58) (by decide) ?_
        refine lv_iconst (v := 2) hx hb dX0_worth_58 (by decide) ?_
        refine lv_iload_n hx hb dX0_worth_59 rfl (lv_at hl 1 rfl) ?_
        refine lv_imul hx hb dX0_worth_60 ?_
        exact e_iret C hw hf dX0_worth_61
      · have hf := if_n hc4 hf
        by_cases hc5 : (mI M x0 0) = 4
        · have hf := if_p hc5 hf
          refine r_tabIn 4 hc5 hx hb dX0_worth_22 (by decide) (by decide) rfl (tgt := 64) (by decide) ?_
          refine lv_iload_n hx hb dX0_worth_64 rfl (lv_at hl 0 rfl) ?_
          refine lv_bipush (v := 7) hx hb dX0_worth_65 (by decide) ?_
          refine lv_isub hx hb dX0_worth_67 ?_
          exact e_iret C hw hf dX0_worth_68
        · have hf := if_n hc5 hf
          by_cases hc6 : (mI M x0 0) = 5
          · have hf := if_p hc6 hf
            refine r_tabIn 5 hc6 hx hb dX0_worth_22 (by decide) (by decide) rfl (tgt := 69) (by decide) ?_
            refine lv_iconst (v := 2) hx hb dX0_worth_69 (by decide) ?_
            exact e_iret C hw hf dX0_worth_70
          · have hf := if_n hc6 hf
            refine r_tabOut hx hb dX0_worth_22 (by have n0 := sw_nei (k := 1) (by decide) hc2; have n1 := sw_nei (k := 2) (by decide) hc3; have n2 := sw_nei (k := 3) (by decide) hc4; have n3 := sw_nei (k := 4) (by decide) hc5; have n4 := sw_nei (k := 5) (by decide) hc6; omega) (tgt := 71) (by decide) ?_
            refine lv_aload_n hx hb dX0_worth_71 rfl (lv_at hl 2 rfl) ?_
            refine r_getI C hw cf0 2 (by decide) rfl hT1 fl_X0_18 dX0_worth_72 ?_
            exact e_iret C hw hf dX0_worth_75
/-! StorkVote$Chimney.likedFrom(II)I -/
abbrev rm_X0_likedFrom : Room := { frames := 0, cells := 0, slots := 0, locals := 0 }
def f_X0_likedFrom (M : Mem) (x0 : Nat) (x1 : Int32) (x2 : Int32) : Option (Int32 × Mem) := gt (mT M x0) 1 ((if (mI M x0 0) = 1 then some ((x1 + 10), M) else if (mI M x0 0) = 2 then some ((x1 / 2), M) else if (mI M x0 0) = 3 then some ((2 * (x1 + 10)), M) else if (mI M x0 0) = 4 then some (((x1 / 2) + (mI M x0 2)), M) else if (mI M x0 0) = 5 then some (((mI M x0 3) + (50 * x2)), M) else some (x1, M)))
set_option maxHeartbeats 4000000 in
set_option maxRecDepth 100000 in
theorem c_X0_likedFrom (l : Launch) (G : Gd) (A : Nat → Prop) (ad : Nat → Nat) {M : Mem} {x0 : Nat} {x1 : Int32} {x2 : Int32}  {r : Int32} {M' : Mem} (hf : f_X0_likedFrom M x0 x1 x2 = some (r, M')) : Ct l yX0_likedFrom cX0_likedFrom 5 (some .int) rm_X0_likedFrom [.ref (ad x0), .int x1, .int x2] G A ad M (QI G A ad r M') 0 0 := by
  refine ct_start (by decide) (Nat.le_of_ble_eq_true rfl) ?_
  intro p e s m args below meth c ls C hin hw hl
  have C : Cx G A p s m args meth c RX0 cX0_likedFrom 5 (some .int) := C
  have hl : lv_has ls 5 [(0, .ref (ad x0)), (1, .int x1), (2, .int x2)] := hl
  obtain ⟨hx, hb, -⟩ := id C
  rw [f_X0_likedFrom] at hf
  refine lv_iload_n hx hb dX0_likedFrom_0 rfl (lv_at hl 1 rfl) ?_
  refine lv_bipush (v := 10) hx hb dX0_likedFrom_1 (by decide) ?_
  refine lv_iadd hx hb dX0_likedFrom_3 ?_
  refine lv_istore_n (lv' := [(3, .int (x1 + 10)), (0, .ref (ad x0)), (1, .int x1), (2, .int x2)]) hx hb dX0_likedFrom_4 rfl hl (by decide) rfl (fun ls hl => ?_)
  refine lv_iload_n hx hb dX0_likedFrom_5 rfl (lv_at hl 2 rfl) ?_
  refine lv_iconst (v := 2) hx hb dX0_likedFrom_6 (by decide) ?_
  refine lv_idiv hx hb dX0_likedFrom_7 (by decide) ?_
  refine lv_istore (lv' := [(4, .int (x1 / 2)), (3, .int (x1 + 10)), (0, .ref (ad x0)), (1, .int x1), (2, .int x2)]) hx hb dX0_likedFrom_8 hl (by decide) rfl (fun ls hl => ?_)
  refine lv_aload_n hx hb dX0_likedFrom_10 rfl (lv_at hl 2 rfl) ?_
  obtain ⟨hT1, hf⟩ := gt_inv hf
  refine r_getI C hw cf0 0 (by decide) rfl hT1 fl_X0_9 dX0_likedFrom_11 ?_
  by_cases hc2 : (mI M x0 0) = 1
  · have hf := if_p hc2 hf
    refine r_tabIn 1 hc2 hx hb dX0_likedFrom_14 (by decide) (by decide) rfl (tgt := 48) (by decide) ?_
    refine lv_iload_n hx hb dX0_likedFrom_48 rfl (lv_at hl 1 rfl) ?_
    exact e_iret C hw hf dX0_likedFrom_49
  · have hf := if_n hc2 hf
    by_cases hc3 : (mI M x0 0) = 2
    · have hf := if_p hc3 hf
      refine r_tabIn 2 hc3 hx hb dX0_likedFrom_14 (by decide) (by decide) rfl (tgt := 54) (by decide) ?_
      refine lv_iload hx hb dX0_likedFrom_54 (lv_at hl 0 rfl) ?_
      exact e_iret C hw hf dX0_likedFrom_56
    · have hf := if_n hc3 hf
      by_cases hc4 : (mI M x0 0) = 3
      · have hf := if_p hc4 hf
        refine r_tabIn 3 hc4 hx hb dX0_likedFrom_14 (by decide) (by decide) rfl (tgt := 50) (by decide) ?_
        refine lv_iconst (v := 2) hx hb dX0_likedFrom_50 (by decide) ?_
        refine lv_iload_n hx hb dX0_likedFrom_51 rfl (lv_at hl 1 rfl) ?_
        refine lv_imul hx hb dX0_likedFrom_52 ?_
        exact e_iret C hw hf dX0_likedFrom_53
      · have hf := if_n hc4 hf
        by_cases hc5 : (mI M x0 0) = 4
        · have hf := if_p hc5 hf
          refine r_tabIn 4 hc5 hx hb dX0_likedFrom_14 (by decide) (by decide) rfl (tgt := 57) (by decide) ?_
          refine lv_iload hx hb dX0_likedFrom_57 (lv_at hl 0 rfl) ?_
          refine lv_aload_n hx hb dX0_likedFrom_59 rfl (lv_at hl 2 rfl) ?_
          refine r_getI C hw cf0 2 (by decide) rfl hT1 fl_X0_18 dX0_likedFrom_60 ?_
          refine lv_iadd hx hb dX0_likedFrom_63 ?_
          exact e_iret C hw hf dX0_likedFrom_64
        · have hf := if_n hc5 hf
          by_cases hc6 : (mI M x0 0) = 5
          · have hf := if_p hc6 hf
            refine r_tabIn 5 hc6 hx hb dX0_likedFrom_14 (by decide) (by decide) rfl (tgt := 65) (by decide) ?_
            refine lv_aload_n hx hb dX0_likedFrom_65 rfl (lv_at hl 2 rfl) ?_
            refine r_getI C hw cf0 3 (by decide) rfl hT1 fl_X0_21 dX0_likedFrom_66 ?_
            refine lv_bipush (v := 50) hx hb dX0_likedFrom_69 (by decide) ?_
            refine lv_iload_n hx hb dX0_likedFrom_71 rfl (lv_at hl 4 rfl) ?_
            refine lv_imul hx hb dX0_likedFrom_72 ?_
            refine lv_iadd hx hb dX0_likedFrom_73 ?_
            exact e_iret C hw hf dX0_likedFrom_74
          · have hf := if_n hc6 hf
            refine r_tabOut hx hb dX0_likedFrom_14 (by have n0 := sw_nei (k := 1) (by decide) hc2; have n1 := sw_nei (k := 2) (by decide) hc3; have n2 := sw_nei (k := 3) (by decide) hc4; have n3 := sw_nei (k := 4) (by decide) hc5; have n4 := sw_nei (k := 5) (by decide) hc6; omega) (tgt := 75) (by decide) ?_
            refine lv_iload_n hx hb dX0_likedFrom_75 rfl (lv_at hl 3 rfl) ?_
            exact e_iret C hw hf dX0_likedFrom_76
/-! StorkVote$Reader.begin()V -/
abbrev rm_X1_begin : Room := { frames := 0, cells := 0, slots := 0, locals := 0 }
def f_X1_begin (M : Mem) (x0 : Nat) : Option (Unit × Mem) := gt (mT M x0) 2 (st (setI M x0 1 0) (fun M2 => st (setI M2 x0 3 0) (fun M5 => st (setI M5 x0 4 (-1000000005)) (fun M8 => st (setI M8 x0 5 0) (fun M11 => st (setI M11 x0 6 (-1)) (fun M14 => st (setI M14 x0 7 1) (fun M17 => st (setI M17 x0 8 0) (fun M20 => st (setI M20 x0 9 0) (fun M23 => st (setI M23 x0 10 0) (fun M26 => some ((), M26)))))))))))
set_option maxHeartbeats 4000000 in
set_option maxRecDepth 100000 in
theorem c_X1_begin (l : Launch) (G : Gd) (A : Nat → Prop) (ad : Nat → Nat) {M : Mem} {x0 : Nat}  {M' : Mem} (hf : f_X1_begin M x0 = some ((), M')) : Ct l yX1_begin cX1_begin 1 none rm_X1_begin [.ref (ad x0)] G A ad M (QV G A ad M') 0 0 := by
  refine ct_start (by decide) (Nat.le_of_ble_eq_true rfl) ?_
  intro p e s m args below meth c ls C hin hw hl
  have C : Cx G A p s m args meth c RX1 cX1_begin 1 none := C
  have hl : lv_has ls 1 [(0, .ref (ad x0))] := hl
  obtain ⟨hx, hb, -⟩ := id C
  rw [f_X1_begin] at hf
  refine lv_aload_n hx hb dX1_begin_0 rfl (lv_at hl 0 rfl) ?_
  refine lv_iconst (v := 0) hx hb dX1_begin_1 (by decide) ?_
  obtain ⟨hT1, hf⟩ := gt_inv hf
  obtain ⟨M2, e3, hf⟩ := st_inv hf
  have g4 := sg_I e3
  refine r_putI C hw cf1 1 (by decide) rfl hT1 e3 fl_X1_63 rfl rfl rfl dX1_begin_2 (fun H locs hw => ?_)
  refine lv_aload_n hx hb dX1_begin_5 rfl (lv_at hl 0 rfl) ?_
  refine lv_iconst (v := 0) hx hb dX1_begin_6 (by decide) ?_
  obtain ⟨M5, e6, hf⟩ := st_inv hf
  have g7 := sg_I e6
  refine r_putI C hw cf1 3 (by decide) rfl (T_of g4 hT1) e6 fl_X1_75 rfl rfl rfl dX1_begin_7 (fun H locs hw => ?_)
  refine lv_aload_n hx hb dX1_begin_10 rfl (lv_at hl 0 rfl) ?_
  refine lv_ldc hx hb C.2.2.2.1 (C.2.2.2.2.1 _ kc_X1_78) dX1_begin_11 ?_
  obtain ⟨M8, e9, hf⟩ := st_inv hf
  have g10 := sg_I e9
  refine r_putI C hw cf1 4 (by decide) rfl (T_of g7 (T_of g4 hT1)) e9 fl_X1_57 rfl rfl rfl dX1_begin_13 (fun H locs hw => ?_)
  refine lv_aload_n hx hb dX1_begin_16 rfl (lv_at hl 0 rfl) ?_
  refine lv_iconst (v := 0) hx hb dX1_begin_17 (by decide) ?_
  obtain ⟨M11, e12, hf⟩ := st_inv hf
  have g13 := sg_I e12
  refine r_putI C hw cf1 5 (by decide) rfl (T_of g10 (T_of g7 (T_of g4 hT1))) e12 fl_X1_60 rfl rfl rfl dX1_begin_18 (fun H locs hw => ?_)
  refine lv_aload_n hx hb dX1_begin_21 rfl (lv_at hl 0 rfl) ?_
  refine lv_iconst (v := (-1)) hx hb dX1_begin_22 (by decide) ?_
  obtain ⟨M14, e15, hf⟩ := st_inv hf
  have g16 := sg_I e15
  refine r_putI C hw cf1 6 (by decide) rfl (T_of g13 (T_of g10 (T_of g7 (T_of g4 hT1)))) e15 fl_X1_79 rfl rfl rfl dX1_begin_23 (fun H locs hw => ?_)
  refine lv_aload_n hx hb dX1_begin_26 rfl (lv_at hl 0 rfl) ?_
  refine lv_iconst (v := 1) hx hb dX1_begin_27 (by decide) ?_
  obtain ⟨M17, e18, hf⟩ := st_inv hf
  have g19 := sg_I e18
  refine r_putI C hw cf1 7 (by decide) rfl (T_of g16 (T_of g13 (T_of g10 (T_of g7 (T_of g4 hT1))))) e18 fl_X1_44 rfl rfl rfl dX1_begin_28 (fun H locs hw => ?_)
  refine lv_aload_n hx hb dX1_begin_31 rfl (lv_at hl 0 rfl) ?_
  refine lv_iconst (v := 0) hx hb dX1_begin_32 (by decide) ?_
  obtain ⟨M20, e21, hf⟩ := st_inv hf
  have g22 := sg_I e21
  refine r_putI C hw cf1 8 (by decide) rfl (T_of g19 (T_of g16 (T_of g13 (T_of g10 (T_of g7 (T_of g4 hT1)))))) e21 fl_X1_48 rfl rfl rfl dX1_begin_33 (fun H locs hw => ?_)
  refine lv_aload_n hx hb dX1_begin_36 rfl (lv_at hl 0 rfl) ?_
  refine lv_iconst (v := 0) hx hb dX1_begin_37 (by decide) ?_
  obtain ⟨M23, e24, hf⟩ := st_inv hf
  have g25 := sg_I e24
  refine r_putI C hw cf1 9 (by decide) rfl (T_of g22 (T_of g19 (T_of g16 (T_of g13 (T_of g10 (T_of g7 (T_of g4 hT1))))))) e24 fl_X1_82 rfl rfl rfl dX1_begin_38 (fun H locs hw => ?_)
  refine lv_aload_n hx hb dX1_begin_41 rfl (lv_at hl 0 rfl) ?_
  refine lv_iconst (v := 0) hx hb dX1_begin_42 (by decide) ?_
  obtain ⟨M26, e27, hf⟩ := st_inv hf
  have g28 := sg_I e27
  refine r_putI C hw cf1 10 (by decide) rfl (T_of g25 (T_of g22 (T_of g19 (T_of g16 (T_of g13 (T_of g10 (T_of g7 (T_of g4 hT1)))))))) e27 fl_X1_85 rfl rfl rfl dX1_begin_43 (fun H locs hw => ?_)
  exact e_vret C hw hf dX1_begin_46
/-! StorkVote.isLetter(I)Z -/
abbrev rm_X9_isLetter : Room := { frames := 0, cells := 0, slots := 0, locals := 0 }
def f_X9_isLetter (M : Mem) (x0 : Int32) : Option (Int32 × Mem) := (if x0 < 97 then some (0, M) else (if 122 < x0 then some (0, M) else some (1, M)))
set_option maxHeartbeats 4000000 in
set_option maxRecDepth 100000 in
theorem c_X9_isLetter (l : Launch) (G : Gd) (A : Nat → Prop) (ad : Nat → Nat) {M : Mem} {x0 : Int32}  {r : Int32} {M' : Mem} (hf : f_X9_isLetter M x0 = some (r, M')) : Ct l yX9_isLetter cX9_isLetter 1 (some .boolean) rm_X9_isLetter [.int x0] G A ad M (QI G A ad r M') 0 0 := by
  refine ct_start (by decide) (Nat.le_of_ble_eq_true rfl) ?_
  intro p e s m args below meth c ls C hin hw hl
  have C : Cx G A p s m args meth c RX9 cX9_isLetter 1 (some .boolean) := C
  have hl : lv_has ls 1 [(0, .int x0)] := hl
  obtain ⟨hx, hb, -⟩ := id C
  rw [f_X9_isLetter] at hf
  refine lv_iload_n hx hb dX9_isLetter_0 rfl (lv_at hl 0 rfl) ?_
  refine lv_bipush (v := 97) hx hb dX9_isLetter_1 (by decide) ?_
  refine lv_icmp_lt (tgt := 16) hx hb dX9_isLetter_3 (by decide) (fun hc => ?_) (fun hc => ?_)
  · have hf := if_p hc hf
    refine lv_iconst (v := 0) hx hb dX9_isLetter_16 (by decide) ?_
    exact e_zret C hw rfl hf dX9_isLetter_17
  · have hf := if_n hc hf
    refine lv_iload_n hx hb dX9_isLetter_6 rfl (lv_at hl 0 rfl) ?_
    refine lv_bipush (v := 122) hx hb dX9_isLetter_7 (by decide) ?_
    refine lv_icmp_gt (tgt := 16) hx hb dX9_isLetter_9 (by decide) (fun hc => ?_) (fun hc => ?_)
    · have hf := if_p hc hf
      refine lv_iconst (v := 0) hx hb dX9_isLetter_16 (by decide) ?_
      exact e_zret C hw rfl hf dX9_isLetter_17
    · have hf := if_n hc hf
      refine lv_iconst (v := 1) hx hb dX9_isLetter_12 (by decide) ?_
      refine lv_goto (tgt := 17) hx hb dX9_isLetter_13 (by decide) ?_
      exact e_zret C hw rfl hf dX9_isLetter_17
/-! StorkVote.isDigit(I)Z -/
abbrev rm_X9_isDigit : Room := { frames := 0, cells := 0, slots := 0, locals := 0 }
def f_X9_isDigit (M : Mem) (x0 : Int32) : Option (Int32 × Mem) := (if x0 < 48 then some (0, M) else (if 57 < x0 then some (0, M) else some (1, M)))
set_option maxHeartbeats 4000000 in
set_option maxRecDepth 100000 in
theorem c_X9_isDigit (l : Launch) (G : Gd) (A : Nat → Prop) (ad : Nat → Nat) {M : Mem} {x0 : Int32}  {r : Int32} {M' : Mem} (hf : f_X9_isDigit M x0 = some (r, M')) : Ct l yX9_isDigit cX9_isDigit 1 (some .boolean) rm_X9_isDigit [.int x0] G A ad M (QI G A ad r M') 0 0 := by
  refine ct_start (by decide) (Nat.le_of_ble_eq_true rfl) ?_
  intro p e s m args below meth c ls C hin hw hl
  have C : Cx G A p s m args meth c RX9 cX9_isDigit 1 (some .boolean) := C
  have hl : lv_has ls 1 [(0, .int x0)] := hl
  obtain ⟨hx, hb, -⟩ := id C
  rw [f_X9_isDigit] at hf
  refine lv_iload_n hx hb dX9_isDigit_0 rfl (lv_at hl 0 rfl) ?_
  refine lv_bipush (v := 48) hx hb dX9_isDigit_1 (by decide) ?_
  refine lv_icmp_lt (tgt := 16) hx hb dX9_isDigit_3 (by decide) (fun hc => ?_) (fun hc => ?_)
  · have hf := if_p hc hf
    refine lv_iconst (v := 0) hx hb dX9_isDigit_16 (by decide) ?_
    exact e_zret C hw rfl hf dX9_isDigit_17
  · have hf := if_n hc hf
    refine lv_iload_n hx hb dX9_isDigit_6 rfl (lv_at hl 0 rfl) ?_
    refine lv_bipush (v := 57) hx hb dX9_isDigit_7 (by decide) ?_
    refine lv_icmp_gt (tgt := 16) hx hb dX9_isDigit_9 (by decide) (fun hc => ?_) (fun hc => ?_)
    · have hf := if_p hc hf
      refine lv_iconst (v := 0) hx hb dX9_isDigit_16 (by decide) ?_
      exact e_zret C hw rfl hf dX9_isDigit_17
    · have hf := if_n hc hf
      refine lv_iconst (v := 1) hx hb dX9_isDigit_12 (by decide) ?_
      refine lv_goto (tgt := 17) hx hb dX9_isDigit_13 (by decide) ?_
      exact e_zret C hw rfl hf dX9_isDigit_17
/-! StorkVote$Tape.endOf(I)I -/
abbrev rm_X6_endOf : Room := { frames := 1, cells := 0, slots := 0, locals := 20 }
def f_X6_endOf_54 : Nat → Mem → Nat → Int32 → Option (Int32 × Mem)
  | 0, _, _, _ => none
  | n + 1, M, x0, x2 => gt (mT M x0) 7 ((if (mI M x0 1) ≤ x2 then some (x2, M) else lp (mP M x0 0) (fun a2 => gt (mT M a2) 20 (gd (ib x2 (mL M a2)) (cl (f_X9_isDigit M (mI M a2 x2.toNatClampNeg)) (fun r7 M6 => (if r7 = 0 then some (x2, M6) else f_X6_endOf_54 n M6 x0 (x2 + 1))))))))
set_option maxHeartbeats 4000000 in
set_option maxRecDepth 100000 in
theorem t_X6_endOf_54 {l : Launch} {p : Program} {e : Env} {s : State} {m : MethodId} {args : Array Value} {below : List Frame} {meth : Method} {c : Code} {G : Gd} {A : Nat → Prop} {ad : Nat → Nat} (C : Cx G A p s m args meth c RX6 cX6_endOf 3 (some .int)) {r : Int32} {M' : Mem} : ∀ (n : Nat) (M : Mem) (x0 : Nat) (x2 : Int32) (H : Heap) (locs : List Loc) (ls : Array Slot), f_X6_endOf_54  n M x0 x2 = some (r, M') → Wd G A ad s.heap M H locs → lv_has ls 3 [(0, .ref (ad x0)), (2, .int x2)] → W p l e rm_X6_endOf s m args below meth c H locs 0 0 (MQ below (QI G A ad r M') args s 0 0 A) (F0 m 54 ls []) := by
  obtain ⟨hx, hb, -⟩ := id C
  intro n
  induction n with
  | zero =>
    intro M x0 x2 H locs ls hf
    rw [f_X6_endOf_54] at hf
    exact absurd hf (fun h => nomatch h)
  | succ n ih =>
    intro M x0 x2 H locs ls hf hw hl
    rw [f_X6_endOf_54] at hf
    refine lv_iload_n hx hb dX6_endOf_54 rfl (lv_at hl 1 rfl) ?_
    refine lv_aload_n hx hb dX6_endOf_55 rfl (lv_at hl 0 rfl) ?_
    obtain ⟨hT1, hf⟩ := gt_inv hf
    refine r_getI C hw cf6 1 (by decide) rfl hT1 fl_X6_15 dX6_endOf_56 ?_
    refine lv_icmp_ge (tgt := 80) hx hb dX6_endOf_59 (by decide) (fun hc => ?_) (fun hc => ?_)
    · have hf := if_p hc hf
      refine lv_iload_n hx hb dX6_endOf_80 rfl (lv_at hl 1 rfl) ?_
      exact e_iret C hw hf dX6_endOf_81
    · have hf := if_n hc hf
      refine lv_aload_n hx hb dX6_endOf_62 rfl (lv_at hl 0 rfl) ?_
      obtain ⟨a2, hP3, hf⟩ := lp_inv hf
      refine r_getP C hw cf6 0 (by decide) rfl hT1 hP3 fl_X6_9 dX6_endOf_63 ?_
      refine lv_iload_n hx hb dX6_endOf_66 rfl (lv_at hl 1 rfl) ?_
      obtain ⟨hT4, hf⟩ := gt_inv hf
      obtain ⟨hg5, hf⟩ := gd_inv hf
      refine r_iald C hw hT4 hg5 dX6_endOf_67 ?_
      obtain ⟨r7, M6, hc8, hf⟩ := cl_inv hf
      refine fin_I (run_S C hw mf_X9_isDigit ms_X9_isDigit ml_X6_23 (c_X9_isDigit l G A ad hc8) (As := [.int (mI M a2 x2.toNatClampNeg)]) (rest := []) hl.1 rfl rfl (Nat.le_of_ble_eq_true rfl) ⟨rfl, rfl, Nat.le_of_ble_eq_true rfl, Nat.le_of_ble_eq_true rfl⟩ ⟨Nat.zero_le _, Nat.zero_le _⟩ dX6_endOf_68) hw (fun H locs hw => ?_)
      refine lv_if_eq (tgt := 80) hx hb dX6_endOf_71 (by decide) (fun hc => ?_) (fun hc => ?_)
      · have hf := if_p hc hf
        refine lv_iload_n hx hb dX6_endOf_80 rfl (lv_at hl 1 rfl) ?_
        exact e_iret C hw hf dX6_endOf_81
      · have hf := if_n hc hf
        refine lv_iinc (v := (x2 + 1)) (lv' := [(2, .int (x2 + 1)), (0, .ref (ad x0))]) hx hb dX6_endOf_74 hl (k := 1) rfl rfl (by decide) rfl (fun ls hl => ?_)
        refine lv_goto (tgt := 54) hx hb dX6_endOf_77 (by decide) ?_
        exact ih M6 x0 (x2 + 1) _ _ _ hf hw (lv_sub hl [1, 0] rfl)
def f_X6_endOf_16 : Nat → Mem → Nat → Int32 → Option (Int32 × Mem)
  | 0, _, _, _ => none
  | n + 1, M, x0, x2 => gt (mT M x0) 7 ((if (mI M x0 1) ≤ x2 then some (x2, M) else lp (mP M x0 0) (fun a2 => gt (mT M a2) 20 (gd (ib x2 (mL M a2)) (cl (f_X9_isLetter M (mI M a2 x2.toNatClampNeg)) (fun r7 M6 => (if r7 = 0 then some (x2, M6) else f_X6_endOf_16 n M6 x0 (x2 + 1))))))))
set_option maxHeartbeats 4000000 in
set_option maxRecDepth 100000 in
theorem t_X6_endOf_16 {l : Launch} {p : Program} {e : Env} {s : State} {m : MethodId} {args : Array Value} {below : List Frame} {meth : Method} {c : Code} {G : Gd} {A : Nat → Prop} {ad : Nat → Nat} (C : Cx G A p s m args meth c RX6 cX6_endOf 3 (some .int)) {r : Int32} {M' : Mem} : ∀ (n : Nat) (M : Mem) (x0 : Nat) (x2 : Int32) (H : Heap) (locs : List Loc) (ls : Array Slot), f_X6_endOf_16  n M x0 x2 = some (r, M') → Wd G A ad s.heap M H locs → lv_has ls 3 [(0, .ref (ad x0)), (2, .int x2)] → W p l e rm_X6_endOf s m args below meth c H locs 0 0 (MQ below (QI G A ad r M') args s 0 0 A) (F0 m 16 ls []) := by
  obtain ⟨hx, hb, -⟩ := id C
  intro n
  induction n with
  | zero =>
    intro M x0 x2 H locs ls hf
    rw [f_X6_endOf_16] at hf
    exact absurd hf (fun h => nomatch h)
  | succ n ih =>
    intro M x0 x2 H locs ls hf hw hl
    rw [f_X6_endOf_16] at hf
    refine lv_iload_n hx hb dX6_endOf_16 rfl (lv_at hl 1 rfl) ?_
    refine lv_aload_n hx hb dX6_endOf_17 rfl (lv_at hl 0 rfl) ?_
    obtain ⟨hT1, hf⟩ := gt_inv hf
    refine r_getI C hw cf6 1 (by decide) rfl hT1 fl_X6_15 dX6_endOf_18 ?_
    refine lv_icmp_ge (tgt := 80) hx hb dX6_endOf_21 (by decide) (fun hc => ?_) (fun hc => ?_)
    · have hf := if_p hc hf
      refine lv_iload_n hx hb dX6_endOf_80 rfl (lv_at hl 1 rfl) ?_
      exact e_iret C hw hf dX6_endOf_81
    · have hf := if_n hc hf
      refine lv_aload_n hx hb dX6_endOf_24 rfl (lv_at hl 0 rfl) ?_
      obtain ⟨a2, hP3, hf⟩ := lp_inv hf
      refine r_getP C hw cf6 0 (by decide) rfl hT1 hP3 fl_X6_9 dX6_endOf_25 ?_
      refine lv_iload_n hx hb dX6_endOf_28 rfl (lv_at hl 1 rfl) ?_
      obtain ⟨hT4, hf⟩ := gt_inv hf
      obtain ⟨hg5, hf⟩ := gd_inv hf
      refine r_iald C hw hT4 hg5 dX6_endOf_29 ?_
      obtain ⟨r7, M6, hc8, hf⟩ := cl_inv hf
      refine fin_I (run_S C hw mf_X9_isLetter ms_X9_isLetter ml_X6_19 (c_X9_isLetter l G A ad hc8) (As := [.int (mI M a2 x2.toNatClampNeg)]) (rest := []) hl.1 rfl rfl (Nat.le_of_ble_eq_true rfl) ⟨rfl, rfl, Nat.le_of_ble_eq_true rfl, Nat.le_of_ble_eq_true rfl⟩ ⟨Nat.zero_le _, Nat.zero_le _⟩ dX6_endOf_30) hw (fun H locs hw => ?_)
      refine lv_if_eq (tgt := 80) hx hb dX6_endOf_33 (by decide) (fun hc => ?_) (fun hc => ?_)
      · have hf := if_p hc hf
        refine lv_iload_n hx hb dX6_endOf_80 rfl (lv_at hl 1 rfl) ?_
        exact e_iret C hw hf dX6_endOf_81
      · have hf := if_n hc hf
        refine lv_iinc (v := (x2 + 1)) (lv' := [(2, .int (x2 + 1)), (0, .ref (ad x0))]) hx hb dX6_endOf_36 hl (k := 1) rfl rfl (by decide) rfl (fun ls hl => ?_)
        refine lv_goto (tgt := 16) hx hb dX6_endOf_39 (by decide) ?_
        exact ih M6 x0 (x2 + 1) _ _ _ hf hw (lv_sub hl [1, 0] rfl)
def f_X6_endOf (M : Mem) (x0 : Nat) (x1 : Int32) : Option (Int32 × Mem) := gt (mT M x0) 7 (lp (mP M x0 0) (fun a2 => gt (mT M a2) 20 (gd (ib x1 (mL M a2)) (cl (f_X9_isLetter M (mI M a2 x1.toNatClampNeg)) (fun r7 M6 => (if r7 = 0 then gt (mT M6 x0) 7 (lp (mP M6 x0 0) (fun a10 => gt (mT M6 a10) 20 (gd (ib x1 (mL M6 a10)) (cl (f_X9_isDigit M6 (mI M6 a10 x1.toNatClampNeg)) (fun r15 M14 => (if r15 = 0 then some ((x1 + 1), M14) else f_X6_endOf_54 FU M14 x0 (x1 + 1))))))) else f_X6_endOf_16 FU M6 x0 (x1 + 1)))))))
set_option maxHeartbeats 4000000 in
set_option maxRecDepth 100000 in
theorem c_X6_endOf (l : Launch) (G : Gd) (A : Nat → Prop) (ad : Nat → Nat) {M : Mem} {x0 : Nat} {x1 : Int32}  {r : Int32} {M' : Mem} (hf : f_X6_endOf M x0 x1 = some (r, M')) : Ct l yX6_endOf cX6_endOf 3 (some .int) rm_X6_endOf [.ref (ad x0), .int x1] G A ad M (QI G A ad r M') 0 0 := by
  refine ct_start (by decide) (Nat.le_of_ble_eq_true rfl) ?_
  intro p e s m args below meth c ls C hin hw hl
  have C : Cx G A p s m args meth c RX6 cX6_endOf 3 (some .int) := C
  have hl : lv_has ls 3 [(0, .ref (ad x0)), (1, .int x1)] := hl
  obtain ⟨hx, hb, -⟩ := id C
  rw [f_X6_endOf] at hf
  refine lv_iload_n hx hb dX6_endOf_0 rfl (lv_at hl 1 rfl) ?_
  refine lv_iconst (v := 1) hx hb dX6_endOf_1 (by decide) ?_
  refine lv_iadd hx hb dX6_endOf_2 ?_
  refine lv_istore_n (lv' := [(2, .int (x1 + 1)), (0, .ref (ad x0)), (1, .int x1)]) hx hb dX6_endOf_3 rfl hl (by decide) rfl (fun ls hl => ?_)
  refine lv_aload_n hx hb dX6_endOf_4 rfl (lv_at hl 1 rfl) ?_
  obtain ⟨hT1, hf⟩ := gt_inv hf
  obtain ⟨a2, hP3, hf⟩ := lp_inv hf
  refine r_getP C hw cf6 0 (by decide) rfl hT1 hP3 fl_X6_9 dX6_endOf_5 ?_
  refine lv_iload_n hx hb dX6_endOf_8 rfl (lv_at hl 2 rfl) ?_
  obtain ⟨hT4, hf⟩ := gt_inv hf
  obtain ⟨hg5, hf⟩ := gd_inv hf
  refine r_iald C hw hT4 hg5 dX6_endOf_9 ?_
  obtain ⟨r7, M6, hc8, hf⟩ := cl_inv hf
  refine fin_I (run_S C hw mf_X9_isLetter ms_X9_isLetter ml_X6_19 (c_X9_isLetter l G A ad hc8) (As := [.int (mI M a2 x1.toNatClampNeg)]) (rest := []) hl.1 rfl rfl (Nat.le_of_ble_eq_true rfl) ⟨rfl, rfl, Nat.le_of_ble_eq_true rfl, Nat.le_of_ble_eq_true rfl⟩ ⟨Nat.zero_le _, Nat.zero_le _⟩ dX6_endOf_10) hw (fun H locs hw => ?_)
  refine lv_if_eq (tgt := 42) hx hb dX6_endOf_13 (by decide) (fun hc => ?_) (fun hc => ?_)
  · have hf := if_p hc hf
    refine lv_aload_n hx hb dX6_endOf_42 rfl (lv_at hl 1 rfl) ?_
    obtain ⟨hT9, hf⟩ := gt_inv hf
    obtain ⟨a10, hP11, hf⟩ := lp_inv hf
    refine r_getP C hw cf6 0 (by decide) rfl hT9 hP11 fl_X6_9 dX6_endOf_43 ?_
    refine lv_iload_n hx hb dX6_endOf_46 rfl (lv_at hl 2 rfl) ?_
    obtain ⟨hT12, hf⟩ := gt_inv hf
    obtain ⟨hg13, hf⟩ := gd_inv hf
    refine r_iald C hw hT12 hg13 dX6_endOf_47 ?_
    obtain ⟨r15, M14, hc16, hf⟩ := cl_inv hf
    refine fin_I (run_S C hw mf_X9_isDigit ms_X9_isDigit ml_X6_23 (c_X9_isDigit l G A ad hc16) (As := [.int (mI M6 a10 x1.toNatClampNeg)]) (rest := []) hl.1 rfl rfl (Nat.le_of_ble_eq_true rfl) ⟨rfl, rfl, Nat.le_of_ble_eq_true rfl, Nat.le_of_ble_eq_true rfl⟩ ⟨Nat.zero_le _, Nat.zero_le _⟩ dX6_endOf_48) hw (fun H locs hw => ?_)
    refine lv_if_eq (tgt := 80) hx hb dX6_endOf_51 (by decide) (fun hc => ?_) (fun hc => ?_)
    · have hf := if_p hc hf
      refine lv_iload_n hx hb dX6_endOf_80 rfl (lv_at hl 0 rfl) ?_
      exact e_iret C hw hf dX6_endOf_81
    · have hf := if_n hc hf
      exact t_X6_endOf_54 C FU M14 x0 (x1 + 1) _ _ _ hf hw (lv_sub hl [1, 0] rfl)
  · have hf := if_n hc hf
    exact t_X6_endOf_16 C FU M6 x0 (x1 + 1) _ _ _ hf hw (lv_sub hl [1, 0] rfl)
/-! StorkVote$Reader.rankOf(I)I -/
abbrev rm_X1_rankOf : Room := { frames := 0, cells := 0, slots := 0, locals := 0 }
def f_X1_rankOf (M : Mem) (x0 : Int32) : Option (Int32 × Mem) := (if x0 = 38 then some (2, M) else if x0 = 42 then some (5, M) else if x0 = 43 then some (4, M) else if x0 = 45 then some (4, M) else if x0 = 47 then some (5, M) else if x0 = 60 then some (3, M) else if x0 = 61 then some (3, M) else if x0 = 62 then some (3, M) else if x0 = 124 then some (1, M) else some (0, M))
set_option maxHeartbeats 4000000 in
set_option maxRecDepth 100000 in
theorem c_X1_rankOf (l : Launch) (G : Gd) (A : Nat → Prop) (ad : Nat → Nat) {M : Mem} {x0 : Int32}  {r : Int32} {M' : Mem} (hf : f_X1_rankOf M x0 = some (r, M')) : Ct l yX1_rankOf cX1_rankOf 1 (some .int) rm_X1_rankOf [.int x0] G A ad M (QI G A ad r M') 0 0 := by
  refine ct_start (by decide) (Nat.le_of_ble_eq_true rfl) ?_
  intro p e s m args below meth c ls C hin hw hl
  have C : Cx G A p s m args meth c RX1 cX1_rankOf 1 (some .int) := C
  have hl : lv_has ls 1 [(0, .int x0)] := hl
  obtain ⟨hx, hb, -⟩ := id C
  rw [f_X1_rankOf] at hf
  refine lv_iload_n hx hb dX1_rankOf_0 rfl (lv_at hl 0 rfl) ?_
  by_cases hc1 : x0 = 38
  · have hf := if_p hc1 hf
    refine r_lookIn (off := 85) 38 hc1 hx hb dX1_rankOf_1 (by decide) (by decide) (tgt := 86) (by decide) ?_
    refine lv_iconst (v := 2) hx hb dX1_rankOf_86 (by decide) ?_
    exact e_iret C hw hf dX1_rankOf_87
  · have hf := if_n hc1 hf
    by_cases hc2 : x0 = 42
    · have hf := if_p hc2 hf
      refine r_lookIn (off := 91) 42 hc2 hx hb dX1_rankOf_1 (by decide) (by decide) (tgt := 92) (by decide) ?_
      refine lv_iconst (v := 5) hx hb dX1_rankOf_92 (by decide) ?_
      exact e_iret C hw hf dX1_rankOf_93
    · have hf := if_n hc2 hf
      by_cases hc3 : x0 = 43
      · have hf := if_p hc3 hf
        refine r_lookIn (off := 89) 43 hc3 hx hb dX1_rankOf_1 (by decide) (by decide) (tgt := 90) (by decide) ?_
        refine lv_iconst (v := 4) hx hb dX1_rankOf_90 (by decide) ?_
        exact e_iret C hw hf dX1_rankOf_91
      · have hf := if_n hc3 hf
        by_cases hc4 : x0 = 45
        · have hf := if_p hc4 hf
          refine r_lookIn (off := 89) 45 hc4 hx hb dX1_rankOf_1 (by decide) (by decide) (tgt := 90) (by decide) ?_
          refine lv_iconst (v := 4) hx hb dX1_rankOf_90 (by decide) ?_
          exact e_iret C hw hf dX1_rankOf_91
        · have hf := if_n hc4 hf
          by_cases hc5 : x0 = 47
          · have hf := if_p hc5 hf
            refine r_lookIn (off := 91) 47 hc5 hx hb dX1_rankOf_1 (by decide) (by decide) (tgt := 92) (by decide) ?_
            refine lv_iconst (v := 5) hx hb dX1_rankOf_92 (by decide) ?_
            exact e_iret C hw hf dX1_rankOf_93
          · have hf := if_n hc5 hf
            by_cases hc6 : x0 = 60
            · have hf := if_p hc6 hf
              refine r_lookIn (off := 87) 60 hc6 hx hb dX1_rankOf_1 (by decide) (by decide) (tgt := 88) (by decide) ?_
              refine lv_iconst (v := 3) hx hb dX1_rankOf_88 (by decide) ?_
              exact e_iret C hw hf dX1_rankOf_89
            · have hf := if_n hc6 hf
              by_cases hc7 : x0 = 61
              · have hf := if_p hc7 hf
                refine r_lookIn (off := 87) 61 hc7 hx hb dX1_rankOf_1 (by decide) (by decide) (tgt := 88) (by decide) ?_
                refine lv_iconst (v := 3) hx hb dX1_rankOf_88 (by decide) ?_
                exact e_iret C hw hf dX1_rankOf_89
              · have hf := if_n hc7 hf
                by_cases hc8 : x0 = 62
                · have hf := if_p hc8 hf
                  refine r_lookIn (off := 87) 62 hc8 hx hb dX1_rankOf_1 (by decide) (by decide) (tgt := 88) (by decide) ?_
                  refine lv_iconst (v := 3) hx hb dX1_rankOf_88 (by decide) ?_
                  exact e_iret C hw hf dX1_rankOf_89
                · have hf := if_n hc8 hf
                  by_cases hc9 : x0 = 124
                  · have hf := if_p hc9 hf
                    refine r_lookIn (off := 83) 124 hc9 hx hb dX1_rankOf_1 (by decide) (by decide) (tgt := 84) (by decide) ?_
                    refine lv_iconst (v := 1) hx hb dX1_rankOf_84 (by decide) ?_
                    exact e_iret C hw hf dX1_rankOf_85
                  · have hf := if_n hc9 hf
                    refine r_lookOut hx hb dX1_rankOf_1 (by decide) (offs_c (by decide) hc1 (offs_c (by decide) hc2 (offs_c (by decide) hc3 (offs_c (by decide) hc4 (offs_c (by decide) hc5 (offs_c (by decide) hc6 (offs_c (by decide) hc7 (offs_c (by decide) hc8 (offs_c (by decide) hc9 rfl))))))))) (tgt := 94) (by decide) ?_
                    refine lv_iconst (v := 0) hx hb dX1_rankOf_94 (by decide) ?_
                    exact e_iret C hw hf dX1_rankOf_95
/-! StorkVote$Reader.addStep(I)V -/
abbrev rm_X1_addStep : Room := { frames := 0, cells := 0, slots := 0, locals := 0 }
def f_X1_addStep (M : Mem) (x0 : Nat) (x1 : Int32) : Option (Unit × Mem) := gt (mT M x0) 2 (lp (mP M x0 0) (fun a2 => gt (mT M a2) 20 ((if (nI (mL M a2)) ≤ (mI M x0 1) then some ((), M) else gd (ib (mI M x0 1) (mL M a2)) (st (setI M a2 (mI M x0 1).toNatClampNeg x1) (fun M6 => st (setI M6 x0 1 ((mI M6 x0 1) + 1)) (fun M9 => some ((), M9))))))))
set_option maxHeartbeats 4000000 in
set_option maxRecDepth 100000 in
theorem c_X1_addStep (l : Launch) (G : Gd) (A : Nat → Prop) (ad : Nat → Nat) {M : Mem} {x0 : Nat} {x1 : Int32}  {M' : Mem} (hf : f_X1_addStep M x0 x1 = some ((), M')) : Ct l yX1_addStep cX1_addStep 2 none rm_X1_addStep [.ref (ad x0), .int x1] G A ad M (QV G A ad M') 0 0 := by
  refine ct_start (by decide) (Nat.le_of_ble_eq_true rfl) ?_
  intro p e s m args below meth c ls C hin hw hl
  have C : Cx G A p s m args meth c RX1 cX1_addStep 2 none := C
  have hl : lv_has ls 2 [(0, .ref (ad x0)), (1, .int x1)] := hl
  obtain ⟨hx, hb, -⟩ := id C
  rw [f_X1_addStep] at hf
  refine lv_aload_n hx hb dX1_addStep_0 rfl (lv_at hl 0 rfl) ?_
  obtain ⟨hT1, hf⟩ := gt_inv hf
  refine r_getI C hw cf1 1 (by decide) rfl hT1 fl_X1_63 dX1_addStep_1 ?_
  refine lv_aload_n hx hb dX1_addStep_4 rfl (lv_at hl 0 rfl) ?_
  obtain ⟨a2, hP3, hf⟩ := lp_inv hf
  refine r_getP C hw cf1 0 (by decide) rfl hT1 hP3 fl_X1_9 dX1_addStep_5 ?_
  obtain ⟨hT4, hf⟩ := gt_inv hf
  refine r_alen C hw hT4 dX1_addStep_8 ?_
  refine lv_icmp_ge (tgt := 32) hx hb dX1_addStep_9 (by decide) (fun hc => ?_) (fun hc => ?_)
  · have hf := if_p hc hf
    exact e_vret C hw hf dX1_addStep_32
  · have hf := if_n hc hf
    refine lv_aload_n hx hb dX1_addStep_12 rfl (lv_at hl 0 rfl) ?_
    refine r_getP C hw cf1 0 (by decide) rfl hT1 hP3 fl_X1_9 dX1_addStep_13 ?_
    refine lv_aload_n hx hb dX1_addStep_16 rfl (lv_at hl 0 rfl) ?_
    refine r_getI C hw cf1 1 (by decide) rfl hT1 fl_X1_63 dX1_addStep_17 ?_
    refine lv_iload_n hx hb dX1_addStep_20 rfl (lv_at hl 1 rfl) ?_
    obtain ⟨hg5, hf⟩ := gd_inv hf
    obtain ⟨M6, e7, hf⟩ := st_inv hf
    have g8 := sg_I e7
    refine r_iast C hw hT4 hg5 e7 dX1_addStep_21 (fun H locs hw => ?_)
    refine lv_aload_n hx hb dX1_addStep_22 rfl (lv_at hl 0 rfl) ?_
    refine lv_dup hx hb dX1_addStep_23 rfl ?_
    refine r_getI C hw cf1 1 (by decide) rfl (T_of g8 hT1) fl_X1_63 dX1_addStep_24 ?_
    refine lv_iconst (v := 1) hx hb dX1_addStep_27 (by decide) ?_
    refine lv_iadd hx hb dX1_addStep_28 ?_
    obtain ⟨M9, e10, hf⟩ := st_inv hf
    have g11 := sg_I e10
    refine r_putI C hw cf1 1 (by decide) rfl (T_of g8 hT1) e10 fl_X1_63 rfl rfl rfl dX1_addStep_29 (fun H locs hw => ?_)
    exact e_vret C hw hf dX1_addStep_32
/-! StorkVote$Reader.joinDownTo(I)V -/
abbrev rm_X1_joinDownTo : Room := { frames := 1, cells := 0, slots := 0, locals := 21 }
def f_X1_joinDownTo_0 : Nat → Mem → Nat → Int32 → Option (Unit × Mem)
  | 0, _, _, _ => none
  | n + 1, M, x0, x1 => gt (mT M x0) 2 ((if (mI M x0 3) ≤ 0 then some ((), M) else lp (mP M x0 2) (fun a2 => gt (mT M a2) 20 (gd (ib ((mI M x0 3) - 1) (mL M a2)) (cl (f_X1_rankOf M (mI M a2 ((mI M x0 3) - 1).toNatClampNeg)) (fun r7 M6 => (if r7 < x1 then some ((), M6) else gt (mT M6 x0) 2 (st (setI M6 x0 3 ((mI M6 x0 3) - 1)) (fun M10 => lp (mP M10 x0 2) (fun a13 => gt (mT M10 a13) 20 (gd (ib (mI M10 x0 3) (mL M10 a13)) (cl (f_X1_addStep M10 x0 (20000 + (mI M10 a13 (mI M10 x0 3).toNatClampNeg))) (fun _ M17 => f_X1_joinDownTo_0 n M17 x0 x1)))))))))))))
set_option maxHeartbeats 4000000 in
set_option maxRecDepth 100000 in
theorem t_X1_joinDownTo_0 {l : Launch} {p : Program} {e : Env} {s : State} {m : MethodId} {args : Array Value} {below : List Frame} {meth : Method} {c : Code} {G : Gd} {A : Nat → Prop} {ad : Nat → Nat} (C : Cx G A p s m args meth c RX1 cX1_joinDownTo 2 none) {M' : Mem} : ∀ (n : Nat) (M : Mem) (x0 : Nat) (x1 : Int32) (H : Heap) (locs : List Loc) (ls : Array Slot), f_X1_joinDownTo_0  n M x0 x1 = some ((), M') → Wd G A ad s.heap M H locs → lv_has ls 2 [(0, .ref (ad x0)), (1, .int x1)] → W p l e rm_X1_joinDownTo s m args below meth c H locs 0 0 (MQ below (QV G A ad M') args s 0 0 A) (F0 m 0 ls []) := by
  obtain ⟨hx, hb, -⟩ := id C
  intro n
  induction n with
  | zero =>
    intro M x0 x1 H locs ls hf
    rw [f_X1_joinDownTo_0] at hf
    exact absurd hf (fun h => nomatch h)
  | succ n ih =>
    intro M x0 x1 H locs ls hf hw hl
    rw [f_X1_joinDownTo_0] at hf
    refine lv_aload_n hx hb dX1_joinDownTo_0 rfl (lv_at hl 0 rfl) ?_
    obtain ⟨hT1, hf⟩ := gt_inv hf
    refine r_getI C hw cf1 3 (by decide) rfl hT1 fl_X1_75 dX1_joinDownTo_1 ?_
    refine lv_if_le (tgt := 55) hx hb dX1_joinDownTo_4 (by decide) (fun hc => ?_) (fun hc => ?_)
    · have hf := if_p hc hf
      exact e_vret C hw hf dX1_joinDownTo_55
    · have hf := if_n hc hf
      refine lv_aload_n hx hb dX1_joinDownTo_7 rfl (lv_at hl 0 rfl) ?_
      obtain ⟨a2, hP3, hf⟩ := lp_inv hf
      refine r_getP C hw cf1 2 (by decide) rfl hT1 hP3 fl_X1_15 dX1_joinDownTo_8 ?_
      refine lv_aload_n hx hb dX1_joinDownTo_11 rfl (lv_at hl 0 rfl) ?_
      refine r_getI C hw cf1 3 (by decide) rfl hT1 fl_X1_75 dX1_joinDownTo_12 ?_
      refine lv_iconst (v := 1) hx hb dX1_joinDownTo_15 (by decide) ?_
      refine lv_isub hx hb dX1_joinDownTo_16 ?_
      obtain ⟨hT4, hf⟩ := gt_inv hf
      obtain ⟨hg5, hf⟩ := gd_inv hf
      refine r_iald C hw hT4 hg5 dX1_joinDownTo_17 ?_
      obtain ⟨r7, M6, hc8, hf⟩ := cl_inv hf
      refine fin_I (run_S C hw mf_X1_rankOf ms_X1_rankOf ml_X1_152 (c_X1_rankOf l G A ad hc8) (As := [.int (mI M a2 ((mI M x0 3) - 1).toNatClampNeg)]) (rest := []) hl.1 rfl rfl (Nat.le_of_ble_eq_true rfl) ⟨rfl, rfl, Nat.le_of_ble_eq_true rfl, Nat.le_of_ble_eq_true rfl⟩ ⟨Nat.zero_le _, Nat.zero_le _⟩ dX1_joinDownTo_18) hw (fun H locs hw => ?_)
      refine lv_iload_n hx hb dX1_joinDownTo_21 rfl (lv_at hl 1 rfl) ?_
      refine lv_icmp_lt (tgt := 55) hx hb dX1_joinDownTo_22 (by decide) (fun hc => ?_) (fun hc => ?_)
      · have hf := if_p hc hf
        exact e_vret C hw hf dX1_joinDownTo_55
      · have hf := if_n hc hf
        refine lv_aload_n hx hb dX1_joinDownTo_25 rfl (lv_at hl 0 rfl) ?_
        refine lv_dup hx hb dX1_joinDownTo_26 rfl ?_
        obtain ⟨hT9, hf⟩ := gt_inv hf
        refine r_getI C hw cf1 3 (by decide) rfl hT9 fl_X1_75 dX1_joinDownTo_27 ?_
        refine lv_iconst (v := 1) hx hb dX1_joinDownTo_30 (by decide) ?_
        refine lv_isub hx hb dX1_joinDownTo_31 ?_
        obtain ⟨M10, e11, hf⟩ := st_inv hf
        have g12 := sg_I e11
        refine r_putI C hw cf1 3 (by decide) rfl hT9 e11 fl_X1_75 rfl rfl rfl dX1_joinDownTo_32 (fun H locs hw => ?_)
        refine lv_aload_n hx hb dX1_joinDownTo_35 rfl (lv_at hl 0 rfl) ?_
        refine lv_sipush (v := 20000) hx hb dX1_joinDownTo_36 (by decide) ?_
        refine lv_aload_n hx hb dX1_joinDownTo_39 rfl (lv_at hl 0 rfl) ?_
        obtain ⟨a13, hP14, hf⟩ := lp_inv hf
        refine r_getP C hw cf1 2 (by decide) rfl (T_of g12 hT9) hP14 fl_X1_15 dX1_joinDownTo_40 ?_
        refine lv_aload_n hx hb dX1_joinDownTo_43 rfl (lv_at hl 0 rfl) ?_
        refine r_getI C hw cf1 3 (by decide) rfl (T_of g12 hT9) fl_X1_75 dX1_joinDownTo_44 ?_
        obtain ⟨hT15, hf⟩ := gt_inv hf
        obtain ⟨hg16, hf⟩ := gd_inv hf
        refine r_iald C hw hT15 hg16 dX1_joinDownTo_47 ?_
        refine lv_iadd hx hb dX1_joinDownTo_48 ?_
        obtain ⟨⟨⟩, M17, hc19, hf⟩ := cl_inv hf
        refine fin_V (run_V C hw mf_X1_addStep mv_X1_addStep ml_X1_143 cf1 (T_of g12 hT9) (c_X1_addStep l G A ad hc19) (As := [.int (20000 + (mI M10 a13 (mI M10 x0 3).toNatClampNeg))]) (rest := []) hl.1 rfl rfl (Nat.le_of_ble_eq_true rfl) ⟨rfl, rfl, Nat.le_of_ble_eq_true rfl, Nat.le_of_ble_eq_true rfl⟩ ⟨Nat.zero_le _, Nat.zero_le _⟩ dX1_joinDownTo_49) hw (fun H locs hw => ?_)
        refine lv_goto (tgt := 0) hx hb dX1_joinDownTo_52 (by decide) ?_
        exact ih M17 x0 x1 _ _ _ hf hw (lv_sub hl [0, 1] rfl)
def f_X1_joinDownTo (M : Mem) (x0 : Nat) (x1 : Int32) : Option (Unit × Mem) := f_X1_joinDownTo_0 FU M x0 x1
set_option maxHeartbeats 4000000 in
set_option maxRecDepth 100000 in
theorem c_X1_joinDownTo (l : Launch) (G : Gd) (A : Nat → Prop) (ad : Nat → Nat) {M : Mem} {x0 : Nat} {x1 : Int32}  {M' : Mem} (hf : f_X1_joinDownTo M x0 x1 = some ((), M')) : Ct l yX1_joinDownTo cX1_joinDownTo 2 none rm_X1_joinDownTo [.ref (ad x0), .int x1] G A ad M (QV G A ad M') 0 0 := by
  refine ct_start (by decide) (Nat.le_of_ble_eq_true rfl) ?_
  intro p e s m args below meth c ls C hin hw hl
  have C : Cx G A p s m args meth c RX1 cX1_joinDownTo 2 none := C
  have hl : lv_has ls 2 [(0, .ref (ad x0)), (1, .int x1)] := hl
  obtain ⟨hx, hb, -⟩ := id C
  rw [f_X1_joinDownTo] at hf
  exact t_X1_joinDownTo_0 C FU M x0 x1 _ _ _ hf hw (lv_sub hl [0, 1] rfl)
/-! StorkVote$Reader.endPiece()V -/
abbrev rm_X1_endPiece : Room := { frames := 1, cells := 0, slots := 0, locals := 21 }
def f_X1_endPiece_5 : Nat → Mem → Nat → Option (Unit × Mem)
  | 0, _, _ => none
  | n + 1, M, x0 => gt (mT M x0) 2 ((if (mI M x0 3) ≤ 0 then some ((), M) else lp (mP M x0 2) (fun a2 => gt (mT M a2) 20 (gd (ib ((mI M x0 3) - 1) (mL M a2)) ((if (mI M a2 ((mI M x0 3) - 1).toNatClampNeg) = 33 then st (setI M x0 3 ((mI M x0 3) - 1)) (fun M6 => st (setI M6 x0 9 ((mI M6 x0 9) - 1)) (fun M9 => cl (f_X1_addStep M9 x0 20033) (fun _ M12 => f_X1_endPiece_5 n M12 x0))) else some ((), M)))))))
set_option maxHeartbeats 4000000 in
set_option maxRecDepth 100000 in
theorem t_X1_endPiece_5 {l : Launch} {p : Program} {e : Env} {s : State} {m : MethodId} {args : Array Value} {below : List Frame} {meth : Method} {c : Code} {G : Gd} {A : Nat → Prop} {ad : Nat → Nat} (C : Cx G A p s m args meth c RX1 cX1_endPiece 1 none) {M' : Mem} : ∀ (n : Nat) (M : Mem) (x0 : Nat) (H : Heap) (locs : List Loc) (ls : Array Slot), f_X1_endPiece_5  n M x0 = some ((), M') → Wd G A ad s.heap M H locs → lv_has ls 1 [(0, .ref (ad x0))] → W p l e rm_X1_endPiece s m args below meth c H locs 0 0 (MQ below (QV G A ad M') args s 0 0 A) (F0 m 5 ls []) := by
  obtain ⟨hx, hb, -⟩ := id C
  intro n
  induction n with
  | zero =>
    intro M x0 H locs ls hf
    rw [f_X1_endPiece_5] at hf
    exact absurd hf (fun h => nomatch h)
  | succ n ih =>
    intro M x0 H locs ls hf hw hl
    rw [f_X1_endPiece_5] at hf
    refine lv_aload_n hx hb dX1_endPiece_5 rfl (lv_at hl 0 rfl) ?_
    obtain ⟨hT1, hf⟩ := gt_inv hf
    refine r_getI C hw cf1 3 (by decide) rfl hT1 fl_X1_75 dX1_endPiece_6 ?_
    refine lv_if_le (tgt := 58) hx hb dX1_endPiece_9 (by decide) (fun hc => ?_) (fun hc => ?_)
    · have hf := if_p hc hf
      exact e_vret C hw hf dX1_endPiece_58
    · have hf := if_n hc hf
      refine lv_aload_n hx hb dX1_endPiece_12 rfl (lv_at hl 0 rfl) ?_
      obtain ⟨a2, hP3, hf⟩ := lp_inv hf
      refine r_getP C hw cf1 2 (by decide) rfl hT1 hP3 fl_X1_15 dX1_endPiece_13 ?_
      refine lv_aload_n hx hb dX1_endPiece_16 rfl (lv_at hl 0 rfl) ?_
      refine r_getI C hw cf1 3 (by decide) rfl hT1 fl_X1_75 dX1_endPiece_17 ?_
      refine lv_iconst (v := 1) hx hb dX1_endPiece_20 (by decide) ?_
      refine lv_isub hx hb dX1_endPiece_21 ?_
      obtain ⟨hT4, hf⟩ := gt_inv hf
      obtain ⟨hg5, hf⟩ := gd_inv hf
      refine r_iald C hw hT4 hg5 dX1_endPiece_22 ?_
      refine lv_bipush (v := 33) hx hb dX1_endPiece_23 (by decide) ?_
      refine lv_icmp_ne (tgt := 58) hx hb dX1_endPiece_25 (by decide) (fun hc => ?_) (fun hc => ?_)
      · have hf := if_n hc hf
        exact e_vret C hw hf dX1_endPiece_58
      · have hf := if_p hc hf
        refine lv_aload_n hx hb dX1_endPiece_28 rfl (lv_at hl 0 rfl) ?_
        refine lv_dup hx hb dX1_endPiece_29 rfl ?_
        refine r_getI C hw cf1 3 (by decide) rfl hT1 fl_X1_75 dX1_endPiece_30 ?_
        refine lv_iconst (v := 1) hx hb dX1_endPiece_33 (by decide) ?_
        refine lv_isub hx hb dX1_endPiece_34 ?_
        obtain ⟨M6, e7, hf⟩ := st_inv hf
        have g8 := sg_I e7
        refine r_putI C hw cf1 3 (by decide) rfl hT1 e7 fl_X1_75 rfl rfl rfl dX1_endPiece_35 (fun H locs hw => ?_)
        refine lv_aload_n hx hb dX1_endPiece_38 rfl (lv_at hl 0 rfl) ?_
        refine lv_dup hx hb dX1_endPiece_39 rfl ?_
        refine r_getI C hw cf1 9 (by decide) rfl (T_of g8 hT1) fl_X1_82 dX1_endPiece_40 ?_
        refine lv_iconst (v := 1) hx hb dX1_endPiece_43 (by decide) ?_
        refine lv_isub hx hb dX1_endPiece_44 ?_
        obtain ⟨M9, e10, hf⟩ := st_inv hf
        have g11 := sg_I e10
        refine r_putI C hw cf1 9 (by decide) rfl (T_of g8 hT1) e10 fl_X1_82 rfl rfl rfl dX1_endPiece_45 (fun H locs hw => ?_)
        refine lv_aload_n hx hb dX1_endPiece_48 rfl (lv_at hl 0 rfl) ?_
        refine lv_sipush (v := 20033) hx hb dX1_endPiece_49 (by decide) ?_
        obtain ⟨⟨⟩, M12, hc14, hf⟩ := cl_inv hf
        refine fin_V (run_V C hw mf_X1_addStep mv_X1_addStep ml_X1_143 cf1 (T_of g11 (T_of g8 hT1)) (c_X1_addStep l G A ad hc14) (As := [.int 20033]) (rest := []) hl.1 rfl rfl (Nat.le_of_ble_eq_true rfl) ⟨rfl, rfl, Nat.le_of_ble_eq_true rfl, Nat.le_of_ble_eq_true rfl⟩ ⟨Nat.zero_le _, Nat.zero_le _⟩ dX1_endPiece_52) hw (fun H locs hw => ?_)
        refine lv_goto (tgt := 5) hx hb dX1_endPiece_55 (by decide) ?_
        exact ih M12 x0 _ _ _ hf hw (lv_sub hl [0] rfl)
def f_X1_endPiece (M : Mem) (x0 : Nat) : Option (Unit × Mem) := gt (mT M x0) 2 (st (setI M x0 7 0) (fun M2 => f_X1_endPiece_5 FU M2 x0))
set_option maxHeartbeats 4000000 in
set_option maxRecDepth 100000 in
theorem c_X1_endPiece (l : Launch) (G : Gd) (A : Nat → Prop) (ad : Nat → Nat) {M : Mem} {x0 : Nat}  {M' : Mem} (hf : f_X1_endPiece M x0 = some ((), M')) : Ct l yX1_endPiece cX1_endPiece 1 none rm_X1_endPiece [.ref (ad x0)] G A ad M (QV G A ad M') 0 0 := by
  refine ct_start (by decide) (Nat.le_of_ble_eq_true rfl) ?_
  intro p e s m args below meth c ls C hin hw hl
  have C : Cx G A p s m args meth c RX1 cX1_endPiece 1 none := C
  have hl : lv_has ls 1 [(0, .ref (ad x0))] := hl
  obtain ⟨hx, hb, -⟩ := id C
  rw [f_X1_endPiece] at hf
  refine lv_aload_n hx hb dX1_endPiece_0 rfl (lv_at hl 0 rfl) ?_
  refine lv_iconst (v := 0) hx hb dX1_endPiece_1 (by decide) ?_
  obtain ⟨hT1, hf⟩ := gt_inv hf
  obtain ⟨M2, e3, hf⟩ := st_inv hf
  have g4 := sg_I e3
  refine r_putI C hw cf1 7 (by decide) rfl hT1 e3 fl_X1_44 rfl rfl rfl dX1_endPiece_2 (fun H locs hw => ?_)
  exact t_X1_endPiece_5 C FU M2 x0 _ _ _ hf hw (lv_sub hl [0] rfl)
/-! StorkVote$Reader.closes()Z -/
abbrev rm_X1_closes : Room := { frames := 2, cells := 0, slots := 0, locals := 42 }
def f_X1_closes (M : Mem) (x0 : Nat) : Option (Int32 × Mem) := gt (mT M x0) 2 ((if 0 < (mI M x0 8) then cl (f_X1_joinDownTo M x0 1) (fun _ M2 => gt (mT M2 x0) 2 (st (setI M2 x0 3 (imax 0 ((mI M2 x0 3) - 1))) (fun M6 => st (setI M6 x0 8 ((mI M6 x0 8) - 1)) (fun M9 => cl (f_X1_endPiece M9 x0) (fun _ M12 => some (1, M12)))))) else some (0, M)))
set_option maxHeartbeats 4000000 in
set_option maxRecDepth 100000 in
theorem c_X1_closes (l : Launch) (G : Gd) (A : Nat → Prop) (ad : Nat → Nat) {M : Mem} {x0 : Nat}  {r : Int32} {M' : Mem} (hf : f_X1_closes M x0 = some (r, M')) : Ct l yX1_closes cX1_closes 1 (some .boolean) rm_X1_closes [.ref (ad x0)] G A ad M (QI G A ad r M') 0 0 := by
  refine ct_start (by decide) (Nat.le_of_ble_eq_true rfl) ?_
  intro p e s m args below meth c ls C hin hw hl
  have C : Cx G A p s m args meth c RX1 cX1_closes 1 (some .boolean) := C
  have hl : lv_has ls 1 [(0, .ref (ad x0))] := hl
  obtain ⟨hx, hb, -⟩ := id C
  rw [f_X1_closes] at hf
  refine lv_aload_n hx hb dX1_closes_0 rfl (lv_at hl 0 rfl) ?_
  obtain ⟨hT1, hf⟩ := gt_inv hf
  refine r_getI C hw cf1 8 (by decide) rfl hT1 fl_X1_48 dX1_closes_1 ?_
  refine lv_if_gt (tgt := 9) hx hb dX1_closes_4 (by decide) (fun hc => ?_) (fun hc => ?_)
  · have hf := if_p hc hf
    refine lv_aload_n hx hb dX1_closes_9 rfl (lv_at hl 0 rfl) ?_
    refine lv_iconst (v := 1) hx hb dX1_closes_10 (by decide) ?_
    obtain ⟨⟨⟩, M2, hc4, hf⟩ := cl_inv hf
    refine fin_V (run_V C hw mf_X1_joinDownTo mv_X1_joinDownTo ml_X1_51 cf1 hT1 (c_X1_joinDownTo l G A ad hc4) (As := [.int 1]) (rest := []) hl.1 rfl rfl (Nat.le_of_ble_eq_true rfl) ⟨rfl, rfl, Nat.le_of_ble_eq_true rfl, Nat.le_of_ble_eq_true rfl⟩ ⟨Nat.zero_le _, Nat.zero_le _⟩ dX1_closes_11) hw (fun H locs hw => ?_)
    refine lv_aload_n hx hb dX1_closes_14 rfl (lv_at hl 0 rfl) ?_
    refine lv_iconst (v := 0) hx hb dX1_closes_15 (by decide) ?_
    refine lv_aload_n hx hb dX1_closes_16 rfl (lv_at hl 0 rfl) ?_
    obtain ⟨hT5, hf⟩ := gt_inv hf
    refine r_getI C hw cf1 3 (by decide) rfl hT5 fl_X1_75 dX1_closes_17 ?_
    refine lv_iconst (v := 1) hx hb dX1_closes_20 (by decide) ?_
    refine lv_isub hx hb dX1_closes_21 ?_
    refine r_max C hl.1 mk_X1_38 (Nat.le_of_ble_eq_true rfl) (Nat.le_of_ble_eq_true rfl) (Nat.le_of_ble_eq_true rfl) (Nat.le_of_ble_eq_true rfl) dX1_closes_22 ?_
    obtain ⟨M6, e7, hf⟩ := st_inv hf
    have g8 := sg_I e7
    refine r_putI C hw cf1 3 (by decide) rfl hT5 e7 fl_X1_75 rfl rfl rfl dX1_closes_25 (fun H locs hw => ?_)
    refine lv_aload_n hx hb dX1_closes_28 rfl (lv_at hl 0 rfl) ?_
    refine lv_dup hx hb dX1_closes_29 rfl ?_
    refine r_getI C hw cf1 8 (by decide) rfl (T_of g8 hT5) fl_X1_48 dX1_closes_30 ?_
    refine lv_iconst (v := 1) hx hb dX1_closes_33 (by decide) ?_
    refine lv_isub hx hb dX1_closes_34 ?_
    obtain ⟨M9, e10, hf⟩ := st_inv hf
    have g11 := sg_I e10
    refine r_putI C hw cf1 8 (by decide) rfl (T_of g8 hT5) e10 fl_X1_48 rfl rfl rfl dX1_closes_35 (fun H locs hw => ?_)
    refine lv_aload_n hx hb dX1_closes_38 rfl (lv_at hl 0 rfl) ?_
    obtain ⟨⟨⟩, M12, hc14, hf⟩ := cl_inv hf
    refine fin_V (run_V C hw mf_X1_endPiece mv_X1_endPiece ml_X1_146 cf1 (T_of g11 (T_of g8 hT5)) (c_X1_endPiece l G A ad hc14) (As := []) (rest := []) hl.1 rfl rfl (Nat.le_of_ble_eq_true rfl) ⟨rfl, rfl, Nat.le_of_ble_eq_true rfl, Nat.le_of_ble_eq_true rfl⟩ ⟨Nat.zero_le _, Nat.zero_le _⟩ dX1_closes_39) hw (fun H locs hw => ?_)
    refine lv_iconst (v := 1) hx hb dX1_closes_42 (by decide) ?_
    exact e_zret C hw rfl hf dX1_closes_43
  · have hf := if_n hc hf
    refine lv_iconst (v := 0) hx hb dX1_closes_7 (by decide) ?_
    exact e_zret C hw rfl hf dX1_closes_8
/-! StorkVote$Reader.addSign(I)V -/
abbrev rm_X1_addSign : Room := { frames := 0, cells := 0, slots := 0, locals := 0 }
def f_X1_addSign (M : Mem) (x0 : Nat) (x1 : Int32) : Option (Unit × Mem) := gt (mT M x0) 2 (lp (mP M x0 2) (fun a2 => gt (mT M a2) 20 ((if (nI (mL M a2)) ≤ (mI M x0 3) then some ((), M) else gd (ib (mI M x0 3) (mL M a2)) (st (setI M a2 (mI M x0 3).toNatClampNeg x1) (fun M6 => st (setI M6 x0 3 ((mI M6 x0 3) + 1)) (fun M9 => some ((), M9))))))))
set_option maxHeartbeats 4000000 in
set_option maxRecDepth 100000 in
theorem c_X1_addSign (l : Launch) (G : Gd) (A : Nat → Prop) (ad : Nat → Nat) {M : Mem} {x0 : Nat} {x1 : Int32}  {M' : Mem} (hf : f_X1_addSign M x0 x1 = some ((), M')) : Ct l yX1_addSign cX1_addSign 2 none rm_X1_addSign [.ref (ad x0), .int x1] G A ad M (QV G A ad M') 0 0 := by
  refine ct_start (by decide) (Nat.le_of_ble_eq_true rfl) ?_
  intro p e s m args below meth c ls C hin hw hl
  have C : Cx G A p s m args meth c RX1 cX1_addSign 2 none := C
  have hl : lv_has ls 2 [(0, .ref (ad x0)), (1, .int x1)] := hl
  obtain ⟨hx, hb, -⟩ := id C
  rw [f_X1_addSign] at hf
  refine lv_aload_n hx hb dX1_addSign_0 rfl (lv_at hl 0 rfl) ?_
  obtain ⟨hT1, hf⟩ := gt_inv hf
  refine r_getI C hw cf1 3 (by decide) rfl hT1 fl_X1_75 dX1_addSign_1 ?_
  refine lv_aload_n hx hb dX1_addSign_4 rfl (lv_at hl 0 rfl) ?_
  obtain ⟨a2, hP3, hf⟩ := lp_inv hf
  refine r_getP C hw cf1 2 (by decide) rfl hT1 hP3 fl_X1_15 dX1_addSign_5 ?_
  obtain ⟨hT4, hf⟩ := gt_inv hf
  refine r_alen C hw hT4 dX1_addSign_8 ?_
  refine lv_icmp_ge (tgt := 32) hx hb dX1_addSign_9 (by decide) (fun hc => ?_) (fun hc => ?_)
  · have hf := if_p hc hf
    exact e_vret C hw hf dX1_addSign_32
  · have hf := if_n hc hf
    refine lv_aload_n hx hb dX1_addSign_12 rfl (lv_at hl 0 rfl) ?_
    refine r_getP C hw cf1 2 (by decide) rfl hT1 hP3 fl_X1_15 dX1_addSign_13 ?_
    refine lv_aload_n hx hb dX1_addSign_16 rfl (lv_at hl 0 rfl) ?_
    refine r_getI C hw cf1 3 (by decide) rfl hT1 fl_X1_75 dX1_addSign_17 ?_
    refine lv_iload_n hx hb dX1_addSign_20 rfl (lv_at hl 1 rfl) ?_
    obtain ⟨hg5, hf⟩ := gd_inv hf
    obtain ⟨M6, e7, hf⟩ := st_inv hf
    have g8 := sg_I e7
    refine r_iast C hw hT4 hg5 e7 dX1_addSign_21 (fun H locs hw => ?_)
    refine lv_aload_n hx hb dX1_addSign_22 rfl (lv_at hl 0 rfl) ?_
    refine lv_dup hx hb dX1_addSign_23 rfl ?_
    refine r_getI C hw cf1 3 (by decide) rfl (T_of g8 hT1) fl_X1_75 dX1_addSign_24 ?_
    refine lv_iconst (v := 1) hx hb dX1_addSign_27 (by decide) ?_
    refine lv_iadd hx hb dX1_addSign_28 ?_
    obtain ⟨M9, e10, hf⟩ := st_inv hf
    have g11 := sg_I e10
    refine r_putI C hw cf1 3 (by decide) rfl (T_of g8 hT1) e10 fl_X1_75 rfl rfl rfl dX1_addSign_29 (fun H locs hw => ?_)
    exact e_vret C hw hf dX1_addSign_32
/-! StorkVote$Reader.joins(I)Z -/
abbrev rm_X1_joins : Room := { frames := 2, cells := 0, slots := 0, locals := 42 }
def f_X1_joins_76 (M : Mem) (x0 : Nat) (x1 : Int32) (x2 : Int32) : Option (Int32 × Mem) := gt (mT M x0) 2 (cl (f_X1_joinDownTo M x0 x2) (fun _ M1 => gt (mT M1 x0) 2 (cl (f_X1_addSign M1 x0 x1) (fun _ M5 => gt (mT M5 x0) 2 (st (setI M5 x0 7 1) (fun M10 => some (1, M10)))))))
set_option maxHeartbeats 4000000 in
set_option maxRecDepth 100000 in
theorem t_X1_joins_76 {l : Launch} {p : Program} {e : Env} {s : State} {m : MethodId} {args : Array Value} {below : List Frame} {meth : Method} {c : Code} {G : Gd} {A : Nat → Prop} {ad : Nat → Nat} (C : Cx G A p s m args meth c RX1 cX1_joins 3 (some .boolean)) {r : Int32} {M' : Mem} : ∀ (M : Mem) (x0 : Nat) (x1 : Int32) (x2 : Int32) (H : Heap) (locs : List Loc) (ls : Array Slot), f_X1_joins_76  M x0 x1 x2 = some (r, M') → Wd G A ad s.heap M H locs → lv_has ls 3 [(0, .ref (ad x0)), (1, .int x1), (2, .int x2)] → W p l e rm_X1_joins s m args below meth c H locs 0 0 (MQ below (QI G A ad r M') args s 0 0 A) (F0 m 76 ls []) := by
  obtain ⟨hx, hb, -⟩ := id C
  intro M x0 x1 x2 H locs ls hf hw hl
  rw [f_X1_joins_76] at hf
  refine lv_aload_n hx hb dX1_joins_76 rfl (lv_at hl 0 rfl) ?_
  refine lv_iload_n hx hb dX1_joins_77 rfl (lv_at hl 2 rfl) ?_
  obtain ⟨hT4, hf⟩ := gt_inv hf
  obtain ⟨⟨⟩, M1, hc3, hf⟩ := cl_inv hf
  refine fin_V (run_V C hw mf_X1_joinDownTo mv_X1_joinDownTo ml_X1_51 cf1 hT4 (c_X1_joinDownTo l G A ad hc3) (As := [.int x2]) (rest := []) hl.1 rfl rfl (Nat.le_of_ble_eq_true rfl) ⟨rfl, rfl, Nat.le_of_ble_eq_true rfl, Nat.le_of_ble_eq_true rfl⟩ ⟨Nat.zero_le _, Nat.zero_le _⟩ dX1_joins_78) hw (fun H locs hw => ?_)
  refine lv_aload_n hx hb dX1_joins_81 rfl (lv_at hl 0 rfl) ?_
  refine lv_iload_n hx hb dX1_joins_82 rfl (lv_at hl 1 rfl) ?_
  obtain ⟨hT8, hf⟩ := gt_inv hf
  obtain ⟨⟨⟩, M5, hc7, hf⟩ := cl_inv hf
  refine fin_V (run_V C hw mf_X1_addSign mv_X1_addSign ml_X1_149 cf1 hT8 (c_X1_addSign l G A ad hc7) (As := [.int x1]) (rest := []) hl.1 rfl rfl (Nat.le_of_ble_eq_true rfl) ⟨rfl, rfl, Nat.le_of_ble_eq_true rfl, Nat.le_of_ble_eq_true rfl⟩ ⟨Nat.zero_le _, Nat.zero_le _⟩ dX1_joins_83) hw (fun H locs hw => ?_)
  refine lv_aload_n hx hb dX1_joins_86 rfl (lv_at hl 0 rfl) ?_
  refine lv_iconst (v := 1) hx hb dX1_joins_87 (by decide) ?_
  obtain ⟨hT9, hf⟩ := gt_inv hf
  obtain ⟨M10, e11, hf⟩ := st_inv hf
  have g12 := sg_I e11
  refine r_putI C hw cf1 7 (by decide) rfl hT9 e11 fl_X1_44 rfl rfl rfl dX1_joins_88 (fun H locs hw => ?_)
  refine lv_iconst (v := 1) hx hb dX1_joins_91 (by decide) ?_
  exact e_zret C hw rfl hf dX1_joins_92
def f_X1_joins_31 (M : Mem) (x0 : Nat) (x1 : Int32) (x2 : Int32) : Option (Int32 × Mem) := (if x2 = 3 then gt (mT M x0) 2 (st (setI M x0 10 ((mI M x0 10) ||| (1 <<< ((mI M x0 8) &&& 31)))) (fun M6 => f_X1_joins_76 M6 x0 x1 x2)) else (if 3 ≤ x2 then f_X1_joins_76 M x0 x1 x2 else gt (mT M x0) 2 (st (setI M x0 10 ((mI M x0 10) &&& ((1 <<< ((mI M x0 8) &&& 31)) ^^^ (-1)))) (fun M2 => f_X1_joins_76 M2 x0 x1 x2))))
set_option maxHeartbeats 4000000 in
set_option maxRecDepth 100000 in
theorem t_X1_joins_31 {l : Launch} {p : Program} {e : Env} {s : State} {m : MethodId} {args : Array Value} {below : List Frame} {meth : Method} {c : Code} {G : Gd} {A : Nat → Prop} {ad : Nat → Nat} (C : Cx G A p s m args meth c RX1 cX1_joins 3 (some .boolean)) {r : Int32} {M' : Mem} : ∀ (M : Mem) (x0 : Nat) (x1 : Int32) (x2 : Int32) (H : Heap) (locs : List Loc) (ls : Array Slot), f_X1_joins_31  M x0 x1 x2 = some (r, M') → Wd G A ad s.heap M H locs → lv_has ls 3 [(0, .ref (ad x0)), (1, .int x1), (2, .int x2)] → W p l e rm_X1_joins s m args below meth c H locs 0 0 (MQ below (QI G A ad r M') args s 0 0 A) (F0 m 31 ls []) := by
  obtain ⟨hx, hb, -⟩ := id C
  intro M x0 x1 x2 H locs ls hf hw hl
  rw [f_X1_joins_31] at hf
  refine lv_iload_n hx hb dX1_joins_31 rfl (lv_at hl 2 rfl) ?_
  refine lv_iconst (v := 3) hx hb dX1_joins_32 (by decide) ?_
  refine lv_icmp_ne (tgt := 54) hx hb dX1_joins_33 (by decide) (fun hc => ?_) (fun hc => ?_)
  · have hf := if_n hc hf
    refine lv_iload_n hx hb dX1_joins_54 rfl (lv_at hl 2 rfl) ?_
    refine lv_iconst (v := 3) hx hb dX1_joins_55 (by decide) ?_
    refine lv_icmp_ge (tgt := 76) hx hb dX1_joins_56 (by decide) (fun hc => ?_) (fun hc => ?_)
    · have hf := if_p hc hf
      exact t_X1_joins_76 C M x0 x1 x2 _ _ _ hf hw (lv_sub hl [0, 1, 2] rfl)
    · have hf := if_n hc hf
      refine lv_aload_n hx hb dX1_joins_59 rfl (lv_at hl 0 rfl) ?_
      refine lv_dup hx hb dX1_joins_60 rfl ?_
      obtain ⟨hT1, hf⟩ := gt_inv hf
      refine r_getI C hw cf1 10 (by decide) rfl hT1 fl_X1_85 dX1_joins_61 ?_
      refine lv_iconst (v := 1) hx hb dX1_joins_64 (by decide) ?_
      refine lv_aload_n hx hb dX1_joins_65 rfl (lv_at hl 0 rfl) ?_
      refine r_getI C hw cf1 8 (by decide) rfl hT1 fl_X1_48 dX1_joins_66 ?_
      refine lv_ishl hx hb dX1_joins_69 ?_
      refine lv_iconst (v := (-1)) hx hb dX1_joins_70 (by decide) ?_
      refine lv_ixor hx hb dX1_joins_71 ?_
      refine lv_iand hx hb dX1_joins_72 ?_
      obtain ⟨M2, e3, hf⟩ := st_inv hf
      have g4 := sg_I e3
      refine r_putI C hw cf1 10 (by decide) rfl hT1 e3 fl_X1_85 rfl rfl rfl dX1_joins_73 (fun H locs hw => ?_)
      exact t_X1_joins_76 C M2 x0 x1 x2 _ _ _ hf hw (lv_sub hl [0, 1, 2] rfl)
  · have hf := if_p hc hf
    refine lv_aload_n hx hb dX1_joins_36 rfl (lv_at hl 0 rfl) ?_
    refine lv_dup hx hb dX1_joins_37 rfl ?_
    obtain ⟨hT5, hf⟩ := gt_inv hf
    refine r_getI C hw cf1 10 (by decide) rfl hT5 fl_X1_85 dX1_joins_38 ?_
    refine lv_iconst (v := 1) hx hb dX1_joins_41 (by decide) ?_
    refine lv_aload_n hx hb dX1_joins_42 rfl (lv_at hl 0 rfl) ?_
    refine r_getI C hw cf1 8 (by decide) rfl hT5 fl_X1_48 dX1_joins_43 ?_
    refine lv_ishl hx hb dX1_joins_46 ?_
    refine lv_ior hx hb dX1_joins_47 ?_
    obtain ⟨M6, e7, hf⟩ := st_inv hf
    have g8 := sg_I e7
    refine r_putI C hw cf1 10 (by decide) rfl hT5 e7 fl_X1_85 rfl rfl rfl dX1_joins_48 (fun H locs hw => ?_)
    refine lv_goto (tgt := 76) hx hb dX1_joins_51 (by decide) ?_
    exact t_X1_joins_76 C M6 x0 x1 x2 _ _ _ hf hw (lv_sub hl [0, 1, 2] rfl)
def f_X1_joins (M : Mem) (x0 : Nat) (x1 : Int32) : Option (Int32 × Mem) := cl (f_X1_rankOf M x1) (fun r2 M1 => (if r2 = 0 then some (0, M1) else (if r2 = 3 then gt (mT M1 x0) 2 ((if ((ushr (mI M1 x0 10) (mI M1 x0 8)) &&& 1) = 1 then some (0, M1) else f_X1_joins_31 M1 x0 x1 r2)) else f_X1_joins_31 M1 x0 x1 r2)))
set_option maxHeartbeats 4000000 in
set_option maxRecDepth 100000 in
theorem c_X1_joins (l : Launch) (G : Gd) (A : Nat → Prop) (ad : Nat → Nat) {M : Mem} {x0 : Nat} {x1 : Int32}  {r : Int32} {M' : Mem} (hf : f_X1_joins M x0 x1 = some (r, M')) : Ct l yX1_joins cX1_joins 3 (some .boolean) rm_X1_joins [.ref (ad x0), .int x1] G A ad M (QI G A ad r M') 0 0 := by
  refine ct_start (by decide) (Nat.le_of_ble_eq_true rfl) ?_
  intro p e s m args below meth c ls C hin hw hl
  have C : Cx G A p s m args meth c RX1 cX1_joins 3 (some .boolean) := C
  have hl : lv_has ls 3 [(0, .ref (ad x0)), (1, .int x1)] := hl
  obtain ⟨hx, hb, -⟩ := id C
  rw [f_X1_joins] at hf
  refine lv_iload_n hx hb dX1_joins_0 rfl (lv_at hl 1 rfl) ?_
  obtain ⟨r2, M1, hc3, hf⟩ := cl_inv hf
  refine fin_I (run_S C hw mf_X1_rankOf ms_X1_rankOf ml_X1_152 (c_X1_rankOf l G A ad hc3) (As := [.int x1]) (rest := []) hl.1 rfl rfl (Nat.le_of_ble_eq_true rfl) ⟨rfl, rfl, Nat.le_of_ble_eq_true rfl, Nat.le_of_ble_eq_true rfl⟩ ⟨Nat.zero_le _, Nat.zero_le _⟩ dX1_joins_1) hw (fun H locs hw => ?_)
  refine lv_istore_n (lv' := [(2, .int r2), (0, .ref (ad x0)), (1, .int x1)]) hx hb dX1_joins_4 rfl hl (by decide) rfl (fun ls hl => ?_)
  refine lv_iload_n hx hb dX1_joins_5 rfl (lv_at hl 0 rfl) ?_
  refine lv_if_eq (tgt := 29) hx hb dX1_joins_6 (by decide) (fun hc => ?_) (fun hc => ?_)
  · have hf := if_p hc hf
    refine lv_iconst (v := 0) hx hb dX1_joins_29 (by decide) ?_
    exact e_zret C hw rfl hf dX1_joins_30
  · have hf := if_n hc hf
    refine lv_iload_n hx hb dX1_joins_9 rfl (lv_at hl 0 rfl) ?_
    refine lv_iconst (v := 3) hx hb dX1_joins_10 (by decide) ?_
    refine lv_icmp_ne (tgt := 31) hx hb dX1_joins_11 (by decide) (fun hc => ?_) (fun hc => ?_)
    · have hf := if_n hc hf
      exact t_X1_joins_31 C M1 x0 x1 r2 _ _ _ hf hw (lv_sub hl [1, 2, 0] rfl)
    · have hf := if_p hc hf
      refine lv_aload_n hx hb dX1_joins_14 rfl (lv_at hl 1 rfl) ?_
      obtain ⟨hT4, hf⟩ := gt_inv hf
      refine r_getI C hw cf1 10 (by decide) rfl hT4 fl_X1_85 dX1_joins_15 ?_
      refine lv_aload_n hx hb dX1_joins_18 rfl (lv_at hl 1 rfl) ?_
      refine r_getI C hw cf1 8 (by decide) rfl hT4 fl_X1_48 dX1_joins_19 ?_
      refine lv_iushr (v := ushr (mI M1 x0 10) (mI M1 x0 8)) hx hb dX1_joins_22 rfl ?_
      refine lv_iconst (v := 1) hx hb dX1_joins_23 (by decide) ?_
      refine lv_iand hx hb dX1_joins_24 ?_
      refine lv_iconst (v := 1) hx hb dX1_joins_25 (by decide) ?_
      refine lv_icmp_ne (tgt := 31) hx hb dX1_joins_26 (by decide) (fun hc => ?_) (fun hc => ?_)
      · have hf := if_n hc hf
        exact t_X1_joins_31 C M1 x0 x1 r2 _ _ _ hf hw (lv_sub hl [1, 2, 0] rfl)
      · have hf := if_p hc hf
        refine lv_iconst (v := 0) hx hb dX1_joins_29 (by decide) ?_
        exact e_zret C hw rfl hf dX1_joins_30
/-! StorkVote$Tape.number(II)I -/
abbrev rm_X6_number : Room := { frames := 0, cells := 0, slots := 0, locals := 0 }
def f_X6_number_5 : Nat → Mem → Nat → Int32 → Int32 → Int32 → Option (Int32 × Mem)
  | 0, _, _, _, _, _ => none
  | n + 1, M, x0, x2, x3, x4 => (if x2 ≤ x4 then some (x3, M) else gt (mT M x0) 7 (lp (mP M x0 0) (fun a2 => gt (mT M a2) 20 (gd (ib x4 (mL M a2)) (f_X6_number_5 n M x0 x2 (((10 * x3) + (mI M a2 x4.toNatClampNeg)) - 48) (x4 + 1))))))
set_option maxHeartbeats 4000000 in
set_option maxRecDepth 100000 in
theorem t_X6_number_5 {l : Launch} {p : Program} {e : Env} {s : State} {m : MethodId} {args : Array Value} {below : List Frame} {meth : Method} {c : Code} {G : Gd} {A : Nat → Prop} {ad : Nat → Nat} (C : Cx G A p s m args meth c RX6 cX6_number 5 (some .int)) {r : Int32} {M' : Mem} : ∀ (n : Nat) (M : Mem) (x0 : Nat) (x2 : Int32) (x3 : Int32) (x4 : Int32) (H : Heap) (locs : List Loc) (ls : Array Slot), f_X6_number_5  n M x0 x2 x3 x4 = some (r, M') → Wd G A ad s.heap M H locs → lv_has ls 5 [(0, .ref (ad x0)), (2, .int x2), (3, .int x3), (4, .int x4)] → W p l e rm_X6_number s m args below meth c H locs 0 0 (MQ below (QI G A ad r M') args s 0 0 A) (F0 m 5 ls []) := by
  obtain ⟨hx, hb, -⟩ := id C
  intro n
  induction n with
  | zero =>
    intro M x0 x2 x3 x4 H locs ls hf
    rw [f_X6_number_5] at hf
    exact absurd hf (fun h => nomatch h)
  | succ n ih =>
    intro M x0 x2 x3 x4 H locs ls hf hw hl
    rw [f_X6_number_5] at hf
    refine lv_iload hx hb dX6_number_5 (lv_at hl 3 rfl) ?_
    refine lv_iload_n hx hb dX6_number_7 rfl (lv_at hl 1 rfl) ?_
    refine lv_icmp_ge (tgt := 33) hx hb dX6_number_8 (by decide) (fun hc => ?_) (fun hc => ?_)
    · have hf := if_p hc hf
      refine lv_iload_n hx hb dX6_number_33 rfl (lv_at hl 2 rfl) ?_
      exact e_iret C hw hf dX6_number_34
    · have hf := if_n hc hf
      refine lv_bipush (v := 10) hx hb dX6_number_11 (by decide) ?_
      refine lv_iload_n hx hb dX6_number_13 rfl (lv_at hl 2 rfl) ?_
      refine lv_imul hx hb dX6_number_14 ?_
      refine lv_aload_n hx hb dX6_number_15 rfl (lv_at hl 0 rfl) ?_
      obtain ⟨hT1, hf⟩ := gt_inv hf
      obtain ⟨a2, hP3, hf⟩ := lp_inv hf
      refine r_getP C hw cf6 0 (by decide) rfl hT1 hP3 fl_X6_9 dX6_number_16 ?_
      refine lv_iload hx hb dX6_number_19 (lv_at hl 3 rfl) ?_
      obtain ⟨hT4, hf⟩ := gt_inv hf
      obtain ⟨hg5, hf⟩ := gd_inv hf
      refine r_iald C hw hT4 hg5 dX6_number_21 ?_
      refine lv_iadd hx hb dX6_number_22 ?_
      refine lv_bipush (v := 48) hx hb dX6_number_23 (by decide) ?_
      refine lv_isub hx hb dX6_number_25 ?_
      refine lv_istore_n (lv' := [(3, .int (((10 * x3) + (mI M a2 x4.toNatClampNeg)) - 48)), (0, .ref (ad x0)), (2, .int x2), (4, .int x4)]) hx hb dX6_number_26 rfl hl (by decide) rfl (fun ls hl => ?_)
      refine lv_iinc (v := (x4 + 1)) (lv' := [(4, .int (x4 + 1)), (3, .int (((10 * x3) + (mI M a2 x4.toNatClampNeg)) - 48)), (0, .ref (ad x0)), (2, .int x2)]) hx hb dX6_number_27 hl (k := 3) rfl rfl (by decide) rfl (fun ls hl => ?_)
      refine lv_goto (tgt := 5) hx hb dX6_number_30 (by decide) ?_
      exact ih M x0 x2 (((10 * x3) + (mI M a2 x4.toNatClampNeg)) - 48) (x4 + 1) _ _ _ hf hw (lv_sub hl [2, 3, 1, 0] rfl)
def f_X6_number (M : Mem) (x0 : Nat) (x1 : Int32) (x2 : Int32) : Option (Int32 × Mem) := f_X6_number_5 FU M x0 x2 0 x1
set_option maxHeartbeats 4000000 in
set_option maxRecDepth 100000 in
theorem c_X6_number (l : Launch) (G : Gd) (A : Nat → Prop) (ad : Nat → Nat) {M : Mem} {x0 : Nat} {x1 : Int32} {x2 : Int32}  {r : Int32} {M' : Mem} (hf : f_X6_number M x0 x1 x2 = some (r, M')) : Ct l yX6_number cX6_number 5 (some .int) rm_X6_number [.ref (ad x0), .int x1, .int x2] G A ad M (QI G A ad r M') 0 0 := by
  refine ct_start (by decide) (Nat.le_of_ble_eq_true rfl) ?_
  intro p e s m args below meth c ls C hin hw hl
  have C : Cx G A p s m args meth c RX6 cX6_number 5 (some .int) := C
  have hl : lv_has ls 5 [(0, .ref (ad x0)), (1, .int x1), (2, .int x2)] := hl
  obtain ⟨hx, hb, -⟩ := id C
  rw [f_X6_number] at hf
  refine lv_iconst (v := 0) hx hb dX6_number_0 (by decide) ?_
  refine lv_istore_n (lv' := [(3, .int 0), (0, .ref (ad x0)), (1, .int x1), (2, .int x2)]) hx hb dX6_number_1 rfl hl (by decide) rfl (fun ls hl => ?_)
  refine lv_iload_n hx hb dX6_number_2 rfl (lv_at hl 2 rfl) ?_
  refine lv_istore (lv' := [(4, .int x1), (3, .int 0), (0, .ref (ad x0)), (1, .int x1), (2, .int x2)]) hx hb dX6_number_3 hl (by decide) rfl (fun ls hl => ?_)
  exact t_X6_number_5 C FU M x0 x2 0 x1 _ _ _ hf hw (lv_sub hl [2, 4, 1, 0] rfl)
/-! StorkVote$Reader.isPiece(I)Z -/
abbrev rm_X1_isPiece : Room := { frames := 2, cells := 0, slots := 0, locals := 41 }
def f_X1_isPiece (M : Mem) (x0 : Nat) (x1 : Int32) : Option (Int32 × Mem) := gt (mT M x0) 2 (st (setI M x0 5 ((mI M x0 5) + 1)) (fun M2 => cl (f_X1_addStep M2 x0 x1) (fun _ M5 => gt (mT M5 x0) 2 (cl (f_X1_endPiece M5 x0) (fun _ M8 => some (1, M8))))))
set_option maxHeartbeats 4000000 in
set_option maxRecDepth 100000 in
theorem c_X1_isPiece (l : Launch) (G : Gd) (A : Nat → Prop) (ad : Nat → Nat) {M : Mem} {x0 : Nat} {x1 : Int32}  {r : Int32} {M' : Mem} (hf : f_X1_isPiece M x0 x1 = some (r, M')) : Ct l yX1_isPiece cX1_isPiece 2 (some .boolean) rm_X1_isPiece [.ref (ad x0), .int x1] G A ad M (QI G A ad r M') 0 0 := by
  refine ct_start (by decide) (Nat.le_of_ble_eq_true rfl) ?_
  intro p e s m args below meth c ls C hin hw hl
  have C : Cx G A p s m args meth c RX1 cX1_isPiece 2 (some .boolean) := C
  have hl : lv_has ls 2 [(0, .ref (ad x0)), (1, .int x1)] := hl
  obtain ⟨hx, hb, -⟩ := id C
  rw [f_X1_isPiece] at hf
  refine lv_aload_n hx hb dX1_isPiece_0 rfl (lv_at hl 0 rfl) ?_
  refine lv_dup hx hb dX1_isPiece_1 rfl ?_
  obtain ⟨hT1, hf⟩ := gt_inv hf
  refine r_getI C hw cf1 5 (by decide) rfl hT1 fl_X1_60 dX1_isPiece_2 ?_
  refine lv_iconst (v := 1) hx hb dX1_isPiece_5 (by decide) ?_
  refine lv_iadd hx hb dX1_isPiece_6 ?_
  obtain ⟨M2, e3, hf⟩ := st_inv hf
  have g4 := sg_I e3
  refine r_putI C hw cf1 5 (by decide) rfl hT1 e3 fl_X1_60 rfl rfl rfl dX1_isPiece_7 (fun H locs hw => ?_)
  refine lv_aload_n hx hb dX1_isPiece_10 rfl (lv_at hl 0 rfl) ?_
  refine lv_iload_n hx hb dX1_isPiece_11 rfl (lv_at hl 1 rfl) ?_
  obtain ⟨⟨⟩, M5, hc7, hf⟩ := cl_inv hf
  refine fin_V (run_V C hw mf_X1_addStep mv_X1_addStep ml_X1_143 cf1 (T_of g4 hT1) (c_X1_addStep l G A ad hc7) (As := [.int x1]) (rest := []) hl.1 rfl rfl (Nat.le_of_ble_eq_true rfl) ⟨rfl, rfl, Nat.le_of_ble_eq_true rfl, Nat.le_of_ble_eq_true rfl⟩ ⟨Nat.zero_le _, Nat.zero_le _⟩ dX1_isPiece_12) hw (fun H locs hw => ?_)
  refine lv_aload_n hx hb dX1_isPiece_15 rfl (lv_at hl 0 rfl) ?_
  obtain ⟨hT11, hf⟩ := gt_inv hf
  obtain ⟨⟨⟩, M8, hc10, hf⟩ := cl_inv hf
  refine fin_V (run_V C hw mf_X1_endPiece mv_X1_endPiece ml_X1_146 cf1 hT11 (c_X1_endPiece l G A ad hc10) (As := []) (rest := []) hl.1 rfl rfl (Nat.le_of_ble_eq_true rfl) ⟨rfl, rfl, Nat.le_of_ble_eq_true rfl, Nat.le_of_ble_eq_true rfl⟩ ⟨Nat.zero_le _, Nat.zero_le _⟩ dX1_isPiece_16) hw (fun H locs hw => ?_)
  refine lv_iconst (v := 1) hx hb dX1_isPiece_19 (by decide) ?_
  exact e_zret C hw rfl hf dX1_isPiece_20
/-! StorkVote$Reader.names()Ljava/lang/String; -/
abbrev rm_X1_names : Room := { frames := 0, cells := 0, slots := 0, locals := 0 }
def f_X1_names (M : Mem) (x0 : Nat) : Option (Nat × Mem) := gt (mT M x0) 2 ((if (mI M x0 4) = 0 then some (3, M) else (if (mI M x0 4) = 1 then some (4, M) else some (5, M))))
set_option maxHeartbeats 4000000 in
set_option maxRecDepth 100000 in
theorem c_X1_names (l : Launch) (G : Gd) (A : Nat → Prop) (ad : Nat → Nat) {M : Mem} {x0 : Nat}  {r : Nat} {M' : Mem} (hf : f_X1_names M x0 = some (r, M')) : Ct l yX1_names cX1_names 1 (some (.object "java/lang/String")) rm_X1_names [.ref (ad x0)] G A ad M (QT G A ad r M') 0 0 := by
  refine ct_start (by decide) (Nat.le_of_ble_eq_true rfl) ?_
  intro p e s m args below meth c ls C hin hw hl
  have C : Cx G A p s m args meth c RX1 cX1_names 1 (some (.object "java/lang/String")) := C
  have hl : lv_has ls 1 [(0, .ref (ad x0))] := hl
  obtain ⟨hx, hb, -⟩ := id C
  rw [f_X1_names] at hf
  refine lv_aload_n hx hb dX1_names_0 rfl (lv_at hl 0 rfl) ?_
  obtain ⟨hT1, hf⟩ := gt_inv hf
  refine r_getI C hw cf1 4 (by decide) rfl hT1 fl_X1_57 dX1_names_1 ?_
  refine lv_if_ne (tgt := 10) hx hb dX1_names_4 (by decide) (fun hc => ?_) (fun hc => ?_)
  · have hf := if_n hc hf
    refine lv_aload_n hx hb dX1_names_10 rfl (lv_at hl 0 rfl) ?_
    refine r_getI C hw cf1 4 (by decide) rfl hT1 fl_X1_57 dX1_names_11 ?_
    refine lv_iconst (v := 1) hx hb dX1_names_14 (by decide) ?_
    refine lv_icmp_ne (tgt := 23) hx hb dX1_names_15 (by decide) (fun hc => ?_) (fun hc => ?_)
    · have hf := if_n hc hf
      refine va_ldcS hx hb C.2.2.2.1 (Et_s5 C) dX1_names_23 ?_
      exact e_tret C hw hf dX1_names_25
    · have hf := if_p hc hf
      refine va_ldcS hx hb C.2.2.2.1 (Et_s4 C) dX1_names_18 ?_
      refine lv_goto (tgt := 25) hx hb dX1_names_20 (by decide) ?_
      exact e_tret C hw hf dX1_names_25
  · have hf := if_p hc hf
    refine va_ldcS hx hb C.2.2.2.1 (Et_s3 C) dX1_names_7 ?_
    exact e_tret C hw hf dX1_names_9
/-! StorkVote$Reader.opens()Z -/
abbrev rm_X1_opens : Room := { frames := 1, cells := 0, slots := 0, locals := 21 }
def f_X1_opens (M : Mem) (x0 : Nat) : Option (Int32 × Mem) := gt (mT M x0) 2 ((if (mI M x0 8) < 8 then st (setI M x0 8 ((mI M x0 8) + 1)) (fun M2 => st (setI M2 x0 10 ((mI M2 x0 10) &&& ((1 <<< ((mI M2 x0 8) &&& 31)) ^^^ (-1)))) (fun M5 => cl (f_X1_addSign M5 x0 40) (fun _ M8 => some (1, M8)))) else some (0, M)))
set_option maxHeartbeats 4000000 in
set_option maxRecDepth 100000 in
theorem c_X1_opens (l : Launch) (G : Gd) (A : Nat → Prop) (ad : Nat → Nat) {M : Mem} {x0 : Nat}  {r : Int32} {M' : Mem} (hf : f_X1_opens M x0 = some (r, M')) : Ct l yX1_opens cX1_opens 1 (some .boolean) rm_X1_opens [.ref (ad x0)] G A ad M (QI G A ad r M') 0 0 := by
  refine ct_start (by decide) (Nat.le_of_ble_eq_true rfl) ?_
  intro p e s m args below meth c ls C hin hw hl
  have C : Cx G A p s m args meth c RX1 cX1_opens 1 (some .boolean) := C
  have hl : lv_has ls 1 [(0, .ref (ad x0))] := hl
  obtain ⟨hx, hb, -⟩ := id C
  rw [f_X1_opens] at hf
  refine lv_aload_n hx hb dX1_opens_0 rfl (lv_at hl 0 rfl) ?_
  obtain ⟨hT1, hf⟩ := gt_inv hf
  refine r_getI C hw cf1 8 (by decide) rfl hT1 fl_X1_48 dX1_opens_1 ?_
  refine lv_bipush (v := 8) hx hb dX1_opens_4 (by decide) ?_
  refine lv_icmp_lt (tgt := 11) hx hb dX1_opens_6 (by decide) (fun hc => ?_) (fun hc => ?_)
  · have hf := if_p hc hf
    refine lv_aload_n hx hb dX1_opens_11 rfl (lv_at hl 0 rfl) ?_
    refine lv_dup hx hb dX1_opens_12 rfl ?_
    refine r_getI C hw cf1 8 (by decide) rfl hT1 fl_X1_48 dX1_opens_13 ?_
    refine lv_iconst (v := 1) hx hb dX1_opens_16 (by decide) ?_
    refine lv_iadd hx hb dX1_opens_17 ?_
    obtain ⟨M2, e3, hf⟩ := st_inv hf
    have g4 := sg_I e3
    refine r_putI C hw cf1 8 (by decide) rfl hT1 e3 fl_X1_48 rfl rfl rfl dX1_opens_18 (fun H locs hw => ?_)
    refine lv_aload_n hx hb dX1_opens_21 rfl (lv_at hl 0 rfl) ?_
    refine lv_dup hx hb dX1_opens_22 rfl ?_
    refine r_getI C hw cf1 10 (by decide) rfl (T_of g4 hT1) fl_X1_85 dX1_opens_23 ?_
    refine lv_iconst (v := 1) hx hb dX1_opens_26 (by decide) ?_
    refine lv_aload_n hx hb dX1_opens_27 rfl (lv_at hl 0 rfl) ?_
    refine r_getI C hw cf1 8 (by decide) rfl (T_of g4 hT1) fl_X1_48 dX1_opens_28 ?_
    refine lv_ishl hx hb dX1_opens_31 ?_
    refine lv_iconst (v := (-1)) hx hb dX1_opens_32 (by decide) ?_
    refine lv_ixor hx hb dX1_opens_33 ?_
    refine lv_iand hx hb dX1_opens_34 ?_
    obtain ⟨M5, e6, hf⟩ := st_inv hf
    have g7 := sg_I e6
    refine r_putI C hw cf1 10 (by decide) rfl (T_of g4 hT1) e6 fl_X1_85 rfl rfl rfl dX1_opens_35 (fun H locs hw => ?_)
    refine lv_aload_n hx hb dX1_opens_38 rfl (lv_at hl 0 rfl) ?_
    refine lv_bipush (v := 40) hx hb dX1_opens_39 (by decide) ?_
    obtain ⟨⟨⟩, M8, hc10, hf⟩ := cl_inv hf
    refine fin_V (run_V C hw mf_X1_addSign mv_X1_addSign ml_X1_149 cf1 (T_of g7 (T_of g4 hT1)) (c_X1_addSign l G A ad hc10) (As := [.int 40]) (rest := []) hl.1 rfl rfl (Nat.le_of_ble_eq_true rfl) ⟨rfl, rfl, Nat.le_of_ble_eq_true rfl, Nat.le_of_ble_eq_true rfl⟩ ⟨Nat.zero_le _, Nat.zero_le _⟩ dX1_opens_41) hw (fun H locs hw => ?_)
    refine lv_iconst (v := 1) hx hb dX1_opens_44 (by decide) ?_
    exact e_zret C hw rfl hf dX1_opens_45
  · have hf := if_n hc hf
    refine lv_iconst (v := 0) hx hb dX1_opens_9 (by decide) ?_
    exact e_zret C hw rfl hf dX1_opens_10
/-! StorkVote$Reader.negates()Z -/
abbrev rm_X1_negates : Room := { frames := 1, cells := 0, slots := 0, locals := 21 }
def f_X1_negates (M : Mem) (x0 : Nat) : Option (Int32 × Mem) := gt (mT M x0) 2 ((if (mI M x0 9) < 8 then st (setI M x0 9 ((mI M x0 9) + 1)) (fun M2 => cl (f_X1_addSign M2 x0 33) (fun _ M5 => some (1, M5))) else some (0, M)))
set_option maxHeartbeats 4000000 in
set_option maxRecDepth 100000 in
theorem c_X1_negates (l : Launch) (G : Gd) (A : Nat → Prop) (ad : Nat → Nat) {M : Mem} {x0 : Nat}  {r : Int32} {M' : Mem} (hf : f_X1_negates M x0 = some (r, M')) : Ct l yX1_negates cX1_negates 1 (some .boolean) rm_X1_negates [.ref (ad x0)] G A ad M (QI G A ad r M') 0 0 := by
  refine ct_start (by decide) (Nat.le_of_ble_eq_true rfl) ?_
  intro p e s m args below meth c ls C hin hw hl
  have C : Cx G A p s m args meth c RX1 cX1_negates 1 (some .boolean) := C
  have hl : lv_has ls 1 [(0, .ref (ad x0))] := hl
  obtain ⟨hx, hb, -⟩ := id C
  rw [f_X1_negates] at hf
  refine lv_aload_n hx hb dX1_negates_0 rfl (lv_at hl 0 rfl) ?_
  obtain ⟨hT1, hf⟩ := gt_inv hf
  refine r_getI C hw cf1 9 (by decide) rfl hT1 fl_X1_82 dX1_negates_1 ?_
  refine lv_bipush (v := 8) hx hb dX1_negates_4 (by decide) ?_
  refine lv_icmp_lt (tgt := 11) hx hb dX1_negates_6 (by decide) (fun hc => ?_) (fun hc => ?_)
  · have hf := if_p hc hf
    refine lv_aload_n hx hb dX1_negates_11 rfl (lv_at hl 0 rfl) ?_
    refine lv_dup hx hb dX1_negates_12 rfl ?_
    refine r_getI C hw cf1 9 (by decide) rfl hT1 fl_X1_82 dX1_negates_13 ?_
    refine lv_iconst (v := 1) hx hb dX1_negates_16 (by decide) ?_
    refine lv_iadd hx hb dX1_negates_17 ?_
    obtain ⟨M2, e3, hf⟩ := st_inv hf
    have g4 := sg_I e3
    refine r_putI C hw cf1 9 (by decide) rfl hT1 e3 fl_X1_82 rfl rfl rfl dX1_negates_18 (fun H locs hw => ?_)
    refine lv_aload_n hx hb dX1_negates_21 rfl (lv_at hl 0 rfl) ?_
    refine lv_bipush (v := 33) hx hb dX1_negates_22 (by decide) ?_
    obtain ⟨⟨⟩, M5, hc7, hf⟩ := cl_inv hf
    refine fin_V (run_V C hw mf_X1_addSign mv_X1_addSign ml_X1_149 cf1 (T_of g4 hT1) (c_X1_addSign l G A ad hc7) (As := [.int 33]) (rest := []) hl.1 rfl rfl (Nat.le_of_ble_eq_true rfl) ⟨rfl, rfl, Nat.le_of_ble_eq_true rfl, Nat.le_of_ble_eq_true rfl⟩ ⟨Nat.zero_le _, Nat.zero_le _⟩ dX1_negates_24) hw (fun H locs hw => ?_)
    refine lv_iconst (v := 1) hx hb dX1_negates_27 (by decide) ?_
    exact e_zret C hw rfl hf dX1_negates_28
  · have hf := if_n hc hf
    refine lv_iconst (v := 0) hx hb dX1_negates_9 (by decide) ?_
    exact e_zret C hw rfl hf dX1_negates_10
/-! StorkVote$Sheet.isMissing()Z -/
abbrev rm_X2_isMissing : Room := { frames := 0, cells := 0, slots := 0, locals := 0 }
def f_X2_isMissing (M : Mem) (x0 : Nat) : Option (Int32 × Mem) := gt (mT M x0) 3 ((if (mI M x0 0) = (-1) then some (1, M) else some (0, M)))
set_option maxHeartbeats 4000000 in
set_option maxRecDepth 100000 in
theorem c_X2_isMissing (l : Launch) (G : Gd) (A : Nat → Prop) (ad : Nat → Nat) {M : Mem} {x0 : Nat}  {r : Int32} {M' : Mem} (hf : f_X2_isMissing M x0 = some (r, M')) : Ct l yX2_isMissing cX2_isMissing 1 (some .boolean) rm_X2_isMissing [.ref (ad x0)] G A ad M (QI G A ad r M') 0 0 := by
  refine ct_start (by decide) (Nat.le_of_ble_eq_true rfl) ?_
  intro p e s m args below meth c ls C hin hw hl
  have C : Cx G A p s m args meth c RX2 cX2_isMissing 1 (some .boolean) := C
  have hl : lv_has ls 1 [(0, .ref (ad x0))] := hl
  obtain ⟨hx, hb, -⟩ := id C
  rw [f_X2_isMissing] at hf
  refine lv_aload_n hx hb dX2_isMissing_0 rfl (lv_at hl 0 rfl) ?_
  obtain ⟨hT1, hf⟩ := gt_inv hf
  refine r_getI C hw cf2 0 (by decide) rfl hT1 fl_X2_9 dX2_isMissing_1 ?_
  refine lv_iconst (v := (-1)) hx hb dX2_isMissing_4 (by decide) ?_
  refine lv_icmp_ne (tgt := 12) hx hb dX2_isMissing_5 (by decide) (fun hc => ?_) (fun hc => ?_)
  · have hf := if_n hc hf
    refine lv_iconst (v := 0) hx hb dX2_isMissing_12 (by decide) ?_
    exact e_zret C hw rfl hf dX2_isMissing_13
  · have hf := if_p hc hf
    refine lv_iconst (v := 1) hx hb dX2_isMissing_8 (by decide) ?_
    refine lv_goto (tgt := 13) hx hb dX2_isMissing_9 (by decide) ?_
    exact e_zret C hw rfl hf dX2_isMissing_13
/-! StorkVote$Sheet.has(I)Z -/
abbrev rm_X2_has : Room := { frames := 0, cells := 0, slots := 0, locals := 0 }
def f_X2_has (M : Mem) (x0 : Nat) (x1 : Int32) : Option (Int32 × Mem) := (if x1 < 0 then some (0, M) else gt (mT M x0) 3 ((if (mI M x0 1) ≤ x1 then some (0, M) else some (1, M))))
set_option maxHeartbeats 4000000 in
set_option maxRecDepth 100000 in
theorem c_X2_has (l : Launch) (G : Gd) (A : Nat → Prop) (ad : Nat → Nat) {M : Mem} {x0 : Nat} {x1 : Int32}  {r : Int32} {M' : Mem} (hf : f_X2_has M x0 x1 = some (r, M')) : Ct l yX2_has cX2_has 2 (some .boolean) rm_X2_has [.ref (ad x0), .int x1] G A ad M (QI G A ad r M') 0 0 := by
  refine ct_start (by decide) (Nat.le_of_ble_eq_true rfl) ?_
  intro p e s m args below meth c ls C hin hw hl
  have C : Cx G A p s m args meth c RX2 cX2_has 2 (some .boolean) := C
  have hl : lv_has ls 2 [(0, .ref (ad x0)), (1, .int x1)] := hl
  obtain ⟨hx, hb, -⟩ := id C
  rw [f_X2_has] at hf
  refine lv_iload_n hx hb dX2_has_0 rfl (lv_at hl 1 rfl) ?_
  refine lv_if_lt (tgt := 16) hx hb dX2_has_1 (by decide) (fun hc => ?_) (fun hc => ?_)
  · have hf := if_p hc hf
    refine lv_iconst (v := 0) hx hb dX2_has_16 (by decide) ?_
    exact e_zret C hw rfl hf dX2_has_17
  · have hf := if_n hc hf
    refine lv_iload_n hx hb dX2_has_4 rfl (lv_at hl 1 rfl) ?_
    refine lv_aload_n hx hb dX2_has_5 rfl (lv_at hl 0 rfl) ?_
    obtain ⟨hT1, hf⟩ := gt_inv hf
    refine r_getI C hw cf2 1 (by decide) rfl hT1 fl_X2_19 dX2_has_6 ?_
    refine lv_icmp_ge (tgt := 16) hx hb dX2_has_9 (by decide) (fun hc => ?_) (fun hc => ?_)
    · have hf := if_p hc hf
      refine lv_iconst (v := 0) hx hb dX2_has_16 (by decide) ?_
      exact e_zret C hw rfl hf dX2_has_17
    · have hf := if_n hc hf
      refine lv_iconst (v := 1) hx hb dX2_has_12 (by decide) ?_
      refine lv_goto (tgt := 17) hx hb dX2_has_13 (by decide) ?_
      exact e_zret C hw rfl hf dX2_has_17
/-! StorkVote$Sheet.hasRow(II)Z -/
abbrev rm_X2_hasRow : Room := { frames := 0, cells := 0, slots := 0, locals := 0 }
def f_X2_hasRow (M : Mem) (x0 : Nat) (x1 : Int32) (x2 : Int32) : Option (Int32 × Mem) := (if x1 < 0 then some (0, M) else (if x2 < 0 then some (0, M) else gt (mT M x0) 3 ((if (mI M x0 1) < x1 then some (0, M) else (if ((mI M x0 1) - x1) < x2 then some (0, M) else some (1, M))))))
set_option maxHeartbeats 4000000 in
set_option maxRecDepth 100000 in
theorem c_X2_hasRow (l : Launch) (G : Gd) (A : Nat → Prop) (ad : Nat → Nat) {M : Mem} {x0 : Nat} {x1 : Int32} {x2 : Int32}  {r : Int32} {M' : Mem} (hf : f_X2_hasRow M x0 x1 x2 = some (r, M')) : Ct l yX2_hasRow cX2_hasRow 3 (some .boolean) rm_X2_hasRow [.ref (ad x0), .int x1, .int x2] G A ad M (QI G A ad r M') 0 0 := by
  refine ct_start (by decide) (Nat.le_of_ble_eq_true rfl) ?_
  intro p e s m args below meth c ls C hin hw hl
  have C : Cx G A p s m args meth c RX2 cX2_hasRow 3 (some .boolean) := C
  have hl : lv_has ls 3 [(0, .ref (ad x0)), (1, .int x1), (2, .int x2)] := hl
  obtain ⟨hx, hb, -⟩ := id C
  rw [f_X2_hasRow] at hf
  refine lv_iload_n hx hb dX2_hasRow_0 rfl (lv_at hl 1 rfl) ?_
  refine lv_if_lt (tgt := 30) hx hb dX2_hasRow_1 (by decide) (fun hc => ?_) (fun hc => ?_)
  · have hf := if_p hc hf
    refine lv_iconst (v := 0) hx hb dX2_hasRow_30 (by decide) ?_
    exact e_zret C hw rfl hf dX2_hasRow_31
  · have hf := if_n hc hf
    refine lv_iload_n hx hb dX2_hasRow_4 rfl (lv_at hl 2 rfl) ?_
    refine lv_if_lt (tgt := 30) hx hb dX2_hasRow_5 (by decide) (fun hc => ?_) (fun hc => ?_)
    · have hf := if_p hc hf
      refine lv_iconst (v := 0) hx hb dX2_hasRow_30 (by decide) ?_
      exact e_zret C hw rfl hf dX2_hasRow_31
    · have hf := if_n hc hf
      refine lv_iload_n hx hb dX2_hasRow_8 rfl (lv_at hl 1 rfl) ?_
      refine lv_aload_n hx hb dX2_hasRow_9 rfl (lv_at hl 0 rfl) ?_
      obtain ⟨hT1, hf⟩ := gt_inv hf
      refine r_getI C hw cf2 1 (by decide) rfl hT1 fl_X2_19 dX2_hasRow_10 ?_
      refine lv_icmp_gt (tgt := 30) hx hb dX2_hasRow_13 (by decide) (fun hc => ?_) (fun hc => ?_)
      · have hf := if_p hc hf
        refine lv_iconst (v := 0) hx hb dX2_hasRow_30 (by decide) ?_
        exact e_zret C hw rfl hf dX2_hasRow_31
      · have hf := if_n hc hf
        refine lv_iload_n hx hb dX2_hasRow_16 rfl (lv_at hl 2 rfl) ?_
        refine lv_aload_n hx hb dX2_hasRow_17 rfl (lv_at hl 0 rfl) ?_
        refine r_getI C hw cf2 1 (by decide) rfl hT1 fl_X2_19 dX2_hasRow_18 ?_
        refine lv_iload_n hx hb dX2_hasRow_21 rfl (lv_at hl 1 rfl) ?_
        refine lv_isub hx hb dX2_hasRow_22 ?_
        refine lv_icmp_gt (tgt := 30) hx hb dX2_hasRow_23 (by decide) (fun hc => ?_) (fun hc => ?_)
        · have hf := if_p hc hf
          refine lv_iconst (v := 0) hx hb dX2_hasRow_30 (by decide) ?_
          exact e_zret C hw rfl hf dX2_hasRow_31
        · have hf := if_n hc hf
          refine lv_iconst (v := 1) hx hb dX2_hasRow_26 (by decide) ?_
          refine lv_goto (tgt := 31) hx hb dX2_hasRow_27 (by decide) ?_
          exact e_zret C hw rfl hf dX2_hasRow_31
/-! java/util/Arrays.fill([II)V -/
abbrev rm_J7_fill_53178 : Room := { frames := 0, cells := 0, slots := 0, locals := 0 }
def f_J7_fill_53178_5 : Nat → Mem → Nat → Int32 → Int32 → Int32 → Option (Unit × Mem)
  | 0, _, _, _, _, _ => none
  | n + 1, M, x0, x1, x2, x3 => (if x3 ≤ x2 then some ((), M) else gt (mT M x0) 20 (gd (ib x2 (mL M x0)) (st (setI M x0 x2.toNatClampNeg x1) (fun M3 => f_J7_fill_53178_5 n M3 x0 x1 (x2 + 1) x3))))
set_option maxHeartbeats 4000000 in
set_option maxRecDepth 100000 in
theorem t_J7_fill_53178_5 {l : Launch} {p : Program} {e : Env} {s : State} {m : MethodId} {args : Array Value} {below : List Frame} {meth : Method} {c : Code} {G : Gd} {A : Nat → Prop} {ad : Nat → Nat} (C : Cx G A p s m args meth c RJ7 cJ7_fill_53178 4 none) {M' : Mem} : ∀ (n : Nat) (M : Mem) (x0 : Nat) (x1 : Int32) (x2 : Int32) (x3 : Int32) (H : Heap) (locs : List Loc) (ls : Array Slot), f_J7_fill_53178_5  n M x0 x1 x2 x3 = some ((), M') → Wd G A ad s.heap M H locs → lv_has ls 4 [(0, .ref (ad x0)), (1, .int x1), (2, .int x2), (3, .int x3)] → W p l e rm_J7_fill_53178 s m args below meth c H locs 0 0 (MQ below (QV G A ad M') args s 0 0 A) (F0 m 5 ls []) := by
  obtain ⟨hx, hb, -⟩ := id C
  intro n
  induction n with
  | zero =>
    intro M x0 x1 x2 x3 H locs ls hf
    rw [f_J7_fill_53178_5] at hf
    exact absurd hf (fun h => nomatch h)
  | succ n ih =>
    intro M x0 x1 x2 x3 H locs ls hf hw hl
    rw [f_J7_fill_53178_5] at hf
    refine lv_iload_n hx hb dJ7_fill_53178_5 rfl (lv_at hl 2 rfl) ?_
    refine lv_iload_n hx hb dJ7_fill_53178_6 rfl (lv_at hl 3 rfl) ?_
    refine lv_icmp_ge (tgt := 20) hx hb dJ7_fill_53178_7 (by decide) (fun hc => ?_) (fun hc => ?_)
    · have hf := if_p hc hf
      exact e_vret C hw hf dJ7_fill_53178_20
    · have hf := if_n hc hf
      refine lv_aload_n hx hb dJ7_fill_53178_10 rfl (lv_at hl 0 rfl) ?_
      refine lv_iload_n hx hb dJ7_fill_53178_11 rfl (lv_at hl 2 rfl) ?_
      refine lv_iload_n hx hb dJ7_fill_53178_12 rfl (lv_at hl 1 rfl) ?_
      obtain ⟨hT1, hf⟩ := gt_inv hf
      obtain ⟨hg2, hf⟩ := gd_inv hf
      obtain ⟨M3, e4, hf⟩ := st_inv hf
      have g5 := sg_I e4
      refine r_iast C hw hT1 hg2 e4 dJ7_fill_53178_13 (fun H locs hw => ?_)
      refine lv_iinc (v := (x2 + 1)) (lv' := [(2, .int (x2 + 1)), (0, .ref (ad x0)), (1, .int x1), (3, .int x3)]) hx hb dJ7_fill_53178_14 hl (k := 2) rfl rfl (by decide) rfl (fun ls hl => ?_)
      refine lv_goto (tgt := 5) hx hb dJ7_fill_53178_17 (by decide) ?_
      exact ih M3 x0 x1 (x2 + 1) x3 _ _ _ hf hw (lv_sub hl [1, 2, 0, 3] rfl)
def f_J7_fill_53178 (M : Mem) (x0 : Nat) (x1 : Int32) : Option (Unit × Mem) := gt (mT M x0) 20 (f_J7_fill_53178_5 FU M x0 x1 0 (nI (mL M x0)))
set_option maxHeartbeats 4000000 in
set_option maxRecDepth 100000 in
theorem c_J7_fill_53178 (l : Launch) (G : Gd) (A : Nat → Prop) (ad : Nat → Nat) {M : Mem} {x0 : Nat} {x1 : Int32}  {M' : Mem} (hf : f_J7_fill_53178 M x0 x1 = some ((), M')) : Ct l yJ7_fill_53178 cJ7_fill_53178 4 none rm_J7_fill_53178 [.ref (ad x0), .int x1] G A ad M (QV G A ad M') 0 0 := by
  refine ct_start (by decide) (Nat.le_of_ble_eq_true rfl) ?_
  intro p e s m args below meth c ls C hin hw hl
  have C : Cx G A p s m args meth c RJ7 cJ7_fill_53178 4 none := C
  have hl : lv_has ls 4 [(0, .ref (ad x0)), (1, .int x1)] := hl
  obtain ⟨hx, hb, -⟩ := id C
  rw [f_J7_fill_53178] at hf
  refine lv_iconst (v := 0) hx hb dJ7_fill_53178_0 (by decide) ?_
  refine lv_istore_n (lv' := [(2, .int 0), (0, .ref (ad x0)), (1, .int x1)]) hx hb dJ7_fill_53178_1 rfl hl (by decide) rfl (fun ls hl => ?_)
  refine lv_aload_n hx hb dJ7_fill_53178_2 rfl (lv_at hl 1 rfl) ?_
  obtain ⟨hT1, hf⟩ := gt_inv hf
  refine r_alen C hw hT1 dJ7_fill_53178_3 ?_
  refine lv_istore_n (lv' := [(3, .int (nI (mL M x0))), (2, .int 0), (0, .ref (ad x0)), (1, .int x1)]) hx hb dJ7_fill_53178_4 rfl hl (by decide) rfl (fun ls hl => ?_)
  exact t_J7_fill_53178_5 C FU M x0 x1 0 (nI (mL M x0)) _ _ _ hf hw (lv_sub hl [2, 3, 1, 0] rfl)
/-! StorkVote$Sheet.become(II)V -/
abbrev rm_X2_become : Room := { frames := 1, cells := 0, slots := 0, locals := 23 }
def f_X2_become (M : Mem) (x0 : Nat) (x1 : Int32) (x2 : Int32) : Option (Unit × Mem) := gt (mT M x0) 3 (st (setI M x0 0 x1) (fun M2 => st (setI M2 x0 1 x2) (fun M5 => lp (mP M5 x0 2) (fun a8 => cl (f_J7_fill_53178 M5 a8 0) (fun _ M10 => some ((), M10))))))
set_option maxHeartbeats 4000000 in
set_option maxRecDepth 100000 in
theorem c_X2_become (l : Launch) (G : Gd) (A : Nat → Prop) (ad : Nat → Nat) {M : Mem} {x0 : Nat} {x1 : Int32} {x2 : Int32}  {M' : Mem} (hf : f_X2_become M x0 x1 x2 = some ((), M')) : Ct l yX2_become cX2_become 3 none rm_X2_become [.ref (ad x0), .int x1, .int x2] G A ad M (QV G A ad M') 0 0 := by
  refine ct_start (by decide) (Nat.le_of_ble_eq_true rfl) ?_
  intro p e s m args below meth c ls C hin hw hl
  have C : Cx G A p s m args meth c RX2 cX2_become 3 none := C
  have hl : lv_has ls 3 [(0, .ref (ad x0)), (1, .int x1), (2, .int x2)] := hl
  obtain ⟨hx, hb, -⟩ := id C
  rw [f_X2_become] at hf
  refine lv_aload_n hx hb dX2_become_0 rfl (lv_at hl 0 rfl) ?_
  refine lv_iload_n hx hb dX2_become_1 rfl (lv_at hl 1 rfl) ?_
  obtain ⟨hT1, hf⟩ := gt_inv hf
  obtain ⟨M2, e3, hf⟩ := st_inv hf
  have g4 := sg_I e3
  refine r_putI C hw cf2 0 (by decide) rfl hT1 e3 fl_X2_9 rfl rfl rfl dX2_become_2 (fun H locs hw => ?_)
  refine lv_aload_n hx hb dX2_become_5 rfl (lv_at hl 0 rfl) ?_
  refine lv_iload_n hx hb dX2_become_6 rfl (lv_at hl 2 rfl) ?_
  obtain ⟨M5, e6, hf⟩ := st_inv hf
  have g7 := sg_I e6
  refine r_putI C hw cf2 1 (by decide) rfl (T_of g4 hT1) e6 fl_X2_19 rfl rfl rfl dX2_become_7 (fun H locs hw => ?_)
  refine lv_aload_n hx hb dX2_become_10 rfl (lv_at hl 0 rfl) ?_
  obtain ⟨a8, hP9, hf⟩ := lp_inv hf
  refine r_getP C hw cf2 2 (by decide) rfl (T_of g7 (T_of g4 hT1)) hP9 fl_X2_15 dX2_become_11 ?_
  refine lv_iconst (v := 0) hx hb dX2_become_14 (by decide) ?_
  obtain ⟨⟨⟩, M10, hc12, hf⟩ := cl_inv hf
  refine fin_V (run_S C hw mf_J7_fill_53178 ms_J7_fill_53178 ml_X2_22 (c_J7_fill_53178 l G A ad hc12) (As := [.ref (ad a8), .int 0]) (rest := []) hl.1 rfl rfl (Nat.le_of_ble_eq_true rfl) ⟨rfl, rfl, Nat.le_of_ble_eq_true rfl, Nat.le_of_ble_eq_true rfl⟩ ⟨Nat.zero_le _, Nat.zero_le _⟩ dX2_become_15) hw (fun H locs hw => ?_)
  exact e_vret C hw hf dX2_become_18
/-! StorkVote$Sheet.take(LStorkVote$Sheet;)V -/
abbrev rm_X2_take : Room := { frames := 1, cells := 0, slots := 0, locals := 26 }
def f_X2_take (M : Mem) (x0 : Nat) (x1 : Nat) : Option (Unit × Mem) := gt (mT M x1) 3 (gt (mT M x0) 3 (st (setI M x0 0 (mI M x1 0)) (fun M3 => st (setI M3 x0 1 (mI M3 x1 1)) (fun M6 => lp (mP M6 x1 2) (fun a9 => lp (mP M6 x0 2) (fun a11 => gt (mT M6 a9) 20 (gt (mT M6 a11) 20 (gd ((decide (0 ≤ (0 : Int32)) && decide (0 ≤ (0 : Int32)) && decide (0 ≤ (24 : Int32)) && decide ((0 : Int32).toNatClampNeg + (24 : Int32).toNatClampNeg ≤ mL M6 a9) && decide ((0 : Int32).toNatClampNeg + (24 : Int32).toNatClampNeg ≤ mL M6 a11))) (st (setR M6 a11 (va_cpy (fun j => mI M6 a9 j) (fun j => mI M6 a11 j) (0 : Int32).toNatClampNeg (0 : Int32).toNatClampNeg (24 : Int32).toNatClampNeg)) (fun M16 => some ((), M16)))))))))))
set_option maxHeartbeats 4000000 in
set_option maxRecDepth 100000 in
theorem c_X2_take (l : Launch) (G : Gd) (A : Nat → Prop) (ad : Nat → Nat) {M : Mem} {x0 : Nat} {x1 : Nat}  {M' : Mem} (hf : f_X2_take M x0 x1 = some ((), M')) : Ct l yX2_take cX2_take 2 none rm_X2_take [.ref (ad x0), .ref (ad x1)] G A ad M (QV G A ad M') 0 0 := by
  refine ct_start (by decide) (Nat.le_of_ble_eq_true rfl) ?_
  intro p e s m args below meth c ls C hin hw hl
  have C : Cx G A p s m args meth c RX2 cX2_take 2 none := C
  have hl : lv_has ls 2 [(0, .ref (ad x0)), (1, .ref (ad x1))] := hl
  obtain ⟨hx, hb, -⟩ := id C
  rw [f_X2_take] at hf
  refine lv_aload_n hx hb dX2_take_0 rfl (lv_at hl 0 rfl) ?_
  refine lv_aload_n hx hb dX2_take_1 rfl (lv_at hl 1 rfl) ?_
  obtain ⟨hT1, hf⟩ := gt_inv hf
  refine r_getI C hw cf2 0 (by decide) rfl hT1 fl_X2_9 dX2_take_2 ?_
  obtain ⟨hT2, hf⟩ := gt_inv hf
  obtain ⟨M3, e4, hf⟩ := st_inv hf
  have g5 := sg_I e4
  refine r_putI C hw cf2 0 (by decide) rfl hT2 e4 fl_X2_9 rfl rfl rfl dX2_take_5 (fun H locs hw => ?_)
  refine lv_aload_n hx hb dX2_take_8 rfl (lv_at hl 0 rfl) ?_
  refine lv_aload_n hx hb dX2_take_9 rfl (lv_at hl 1 rfl) ?_
  refine r_getI C hw cf2 1 (by decide) rfl (T_of g5 hT1) fl_X2_19 dX2_take_10 ?_
  obtain ⟨M6, e7, hf⟩ := st_inv hf
  have g8 := sg_I e7
  refine r_putI C hw cf2 1 (by decide) rfl (T_of g5 hT2) e7 fl_X2_19 rfl rfl rfl dX2_take_13 (fun H locs hw => ?_)
  refine lv_aload_n hx hb dX2_take_16 rfl (lv_at hl 1 rfl) ?_
  obtain ⟨a9, hP10, hf⟩ := lp_inv hf
  refine r_getP C hw cf2 2 (by decide) rfl (T_of g8 (T_of g5 hT1)) hP10 fl_X2_15 dX2_take_17 ?_
  refine lv_iconst (v := 0) hx hb dX2_take_20 (by decide) ?_
  refine lv_aload_n hx hb dX2_take_21 rfl (lv_at hl 0 rfl) ?_
  obtain ⟨a11, hP12, hf⟩ := lp_inv hf
  refine r_getP C hw cf2 2 (by decide) rfl (T_of g8 (T_of g5 hT2)) hP12 fl_X2_15 dX2_take_22 ?_
  refine lv_iconst (v := 0) hx hb dX2_take_25 (by decide) ?_
  refine lv_bipush (v := 24) hx hb dX2_take_26 (by decide) ?_
  obtain ⟨hT13, hf⟩ := gt_inv hf
  obtain ⟨hT14, hf⟩ := gt_inv hf
  obtain ⟨hg15, hf⟩ := gd_inv hf
  obtain ⟨M16, e17, hf⟩ := st_inv hf
  have g18 := sg_R e17
  refine r_copy C hw hl.1 hT13 hT14 hg15 e17 mk_X2_28 cp_n cp_s cp_i (Nat.le_of_ble_eq_true rfl) (Nat.le_of_ble_eq_true rfl) dX2_take_28 (fun H locs hw => ?_)
  exact e_vret C hw hf dX2_take_31
/-! StorkVote$World.counts(I)I -/
abbrev rm_X8_counts : Room := { frames := 0, cells := 0, slots := 0, locals := 0 }
def f_X8_counts_7 : Nat → Mem → Nat → Int32 → Int32 → Option (Int32 × Mem)
  | 0, _, _, _, _ => none
  | n + 1, M, x0, x1, x2 => (if x2 < 0 then some ((-1000000005), M) else gt (mT M x0) 9 (lp (mP M x0 7) (fun a2 => gt (mT M a2) 25 (gd (ib x2 (mL M a2)) (nm (mX M a2 x2.toNatClampNeg) (fun q6 => on q6 (f_X8_counts_7 n M x0 x1 (x2 + (-1))) (fun b7 => gd (ib x2 (mL M a2)) (nm (mX M a2 x2.toNatClampNeg) (fun q9 => on q9 (none) (fun b10 => gt (mT M b10) 8 ((if (mI M b10 0) = x1 then some (x2, M) else f_X8_counts_7 n M x0 x1 (x2 + (-1))))))))))))))
set_option maxHeartbeats 4000000 in
set_option maxRecDepth 100000 in
theorem t_X8_counts_7 {l : Launch} {p : Program} {e : Env} {s : State} {m : MethodId} {args : Array Value} {below : List Frame} {meth : Method} {c : Code} {G : Gd} {A : Nat → Prop} {ad : Nat → Nat} (C : Cx G A p s m args meth c RX8 cX8_counts 3 (some .int)) {r : Int32} {M' : Mem} : ∀ (n : Nat) (M : Mem) (x0 : Nat) (x1 : Int32) (x2 : Int32) (H : Heap) (locs : List Loc) (ls : Array Slot), f_X8_counts_7  n M x0 x1 x2 = some (r, M') → Wd G A ad s.heap M H locs → lv_has ls 3 [(0, .ref (ad x0)), (1, .int x1), (2, .int x2)] → W p l e rm_X8_counts s m args below meth c H locs 0 0 (MQ below (QI G A ad r M') args s 0 0 A) (F0 m 7 ls []) := by
  obtain ⟨hx, hb, -⟩ := id C
  intro n
  induction n with
  | zero =>
    intro M x0 x1 x2 H locs ls hf
    rw [f_X8_counts_7] at hf
    exact absurd hf (fun h => nomatch h)
  | succ n ih =>
    intro M x0 x1 x2 H locs ls hf hw hl
    rw [f_X8_counts_7] at hf
    refine lv_iload_n hx hb dX8_counts_7 rfl (lv_at hl 2 rfl) ?_
    refine lv_if_lt (tgt := 41) hx hb dX8_counts_8 (by decide) (fun hc => ?_) (fun hc => ?_)
    · have hf := if_p hc hf
      refine lv_ldc hx hb C.2.2.2.1 (C.2.2.2.2.1 _ kc_X8_87) dX8_counts_41 ?_
      exact e_iret C hw hf dX8_counts_43
    · have hf := if_n hc hf
      refine lv_aload_n hx hb dX8_counts_11 rfl (lv_at hl 0 rfl) ?_
      obtain ⟨hT1, hf⟩ := gt_inv hf
      obtain ⟨a2, hP3, hf⟩ := lp_inv hf
      refine r_getP C hw cf8 7 (by decide) rfl hT1 hP3 fl_X8_33 dX8_counts_12 ?_
      refine lv_iload_n hx hb dX8_counts_15 rfl (lv_at hl 2 rfl) ?_
      obtain ⟨hT4, hf⟩ := gt_inv hf
      obtain ⟨hg5, hf⟩ := gd_inv hf
      obtain ⟨q6, hqq6, hf⟩ := nm_inv hf
      refine r_xald C hw hT4 hg5 dX8_counts_16 ?_
      rw [← hqq6]
      rcases q6 with _ | b7
      · have hf := on_n hf
        refine lv_ifnullN (tgt := 35) hx hb dX8_counts_17 (by decide) ?_
        refine lv_iinc (v := (x2 + (-1))) (lv' := [(2, .int (x2 + (-1))), (0, .ref (ad x0)), (1, .int x1)]) hx hb dX8_counts_35 hl (k := 2) rfl rfl (by decide) rfl (fun ls hl => ?_)
        refine lv_goto (tgt := 7) hx hb dX8_counts_38 (by decide) ?_
        exact ih M x0 x1 (x2 + (-1)) _ _ _ hf hw (lv_sub hl [1, 2, 0] rfl)
      · have hf := on_s hf
        refine lv_ifnull hx hb dX8_counts_17 ?_
        refine lv_aload_n hx hb dX8_counts_20 rfl (lv_at hl 0 rfl) ?_
        refine r_getP C hw cf8 7 (by decide) rfl hT1 hP3 fl_X8_33 dX8_counts_21 ?_
        refine lv_iload_n hx hb dX8_counts_24 rfl (lv_at hl 2 rfl) ?_
        obtain ⟨hg8, hf⟩ := gd_inv hf
        obtain ⟨q9, hqq9, hf⟩ := nm_inv hf
        refine r_xald C hw hT4 hg8 dX8_counts_25 ?_
        rw [← hqq9]
        rcases q9 with _ | b10
        · have hf := on_n hf
          exact nomatch hf
        · have hf := on_s hf
          obtain ⟨hT11, hf⟩ := gt_inv hf
          refine r_getI C hw cf7 0 (by decide) rfl hT11 fl_X8_84 dX8_counts_26 ?_
          refine lv_iload_n hx hb dX8_counts_29 rfl (lv_at hl 1 rfl) ?_
          refine lv_icmp_ne (tgt := 35) hx hb dX8_counts_30 (by decide) (fun hc => ?_) (fun hc => ?_)
          · have hf := if_n hc hf
            refine lv_iinc (v := (x2 + (-1))) (lv' := [(2, .int (x2 + (-1))), (0, .ref (ad x0)), (1, .int x1)]) hx hb dX8_counts_35 hl (k := 2) rfl rfl (by decide) rfl (fun ls hl => ?_)
            refine lv_goto (tgt := 7) hx hb dX8_counts_38 (by decide) ?_
            exact ih M x0 x1 (x2 + (-1)) _ _ _ hf hw (lv_sub hl [1, 2, 0] rfl)
          · have hf := if_p hc hf
            refine lv_iload_n hx hb dX8_counts_33 rfl (lv_at hl 2 rfl) ?_
            exact e_iret C hw hf dX8_counts_34
def f_X8_counts (M : Mem) (x0 : Nat) (x1 : Int32) : Option (Int32 × Mem) := gt (mT M x0) 9 (f_X8_counts_7 FU M x0 x1 ((mI M x0 8) - 1))
set_option maxHeartbeats 4000000 in
set_option maxRecDepth 100000 in
theorem c_X8_counts (l : Launch) (G : Gd) (A : Nat → Prop) (ad : Nat → Nat) {M : Mem} {x0 : Nat} {x1 : Int32}  {r : Int32} {M' : Mem} (hf : f_X8_counts M x0 x1 = some (r, M')) : Ct l yX8_counts cX8_counts 3 (some .int) rm_X8_counts [.ref (ad x0), .int x1] G A ad M (QI G A ad r M') 0 0 := by
  refine ct_start (by decide) (Nat.le_of_ble_eq_true rfl) ?_
  intro p e s m args below meth c ls C hin hw hl
  have C : Cx G A p s m args meth c RX8 cX8_counts 3 (some .int) := C
  have hl : lv_has ls 3 [(0, .ref (ad x0)), (1, .int x1)] := hl
  obtain ⟨hx, hb, -⟩ := id C
  rw [f_X8_counts] at hf
  refine lv_aload_n hx hb dX8_counts_0 rfl (lv_at hl 0 rfl) ?_
  obtain ⟨hT1, hf⟩ := gt_inv hf
  refine r_getI C hw cf8 8 (by decide) rfl hT1 fl_X8_64 dX8_counts_1 ?_
  refine lv_iconst (v := 1) hx hb dX8_counts_4 (by decide) ?_
  refine lv_isub hx hb dX8_counts_5 ?_
  refine lv_istore_n (lv' := [(2, .int ((mI M x0 8) - 1)), (0, .ref (ad x0)), (1, .int x1)]) hx hb dX8_counts_6 rfl hl (by decide) rfl (fun ls hl => ?_)
  exact t_X8_counts_7 C FU M x0 x1 ((mI M x0 8) - 1) _ _ _ hf hw (lv_sub hl [1, 2, 0] rfl)
/-! StorkVote$World.counting(I)LStorkVote$Text; -/
abbrev rm_X8_counting : Room := { frames := 1, cells := 0, slots := 0, locals := 22 }
def f_X8_counting (M : Mem) (x0 : Nat) (x1 : Int32) : Option (Option Nat × Mem) := gt (mT M x0) 9 (cl (f_X8_counts M x0 x1) (fun r2 M1 => (if r2 = (-1000000005) then some (none, M1) else gt (mT M1 x0) 9 (lp (mP M1 x0 7) (fun a6 => gt (mT M1 a6) 25 (gd (ib r2 (mL M1 a6)) (nm (mX M1 a6 r2.toNatClampNeg) (fun q10 => on q10 (some (none, M1)) (fun b11 => some (some b11, M1))))))))))
set_option maxHeartbeats 4000000 in
set_option maxRecDepth 100000 in
theorem c_X8_counting (l : Launch) (G : Gd) (A : Nat → Prop) (ad : Nat → Nat) {M : Mem} {x0 : Nat} {x1 : Int32}  {r : Option Nat} {M' : Mem} (hf : f_X8_counting M x0 x1 = some (r, M')) : Ct l yX8_counting cX8_counting 3 (some (.object "StorkVote$Text")) rm_X8_counting [.ref (ad x0), .int x1] G A ad M (QQ G A ad r M') 0 0 := by
  refine ct_start (by decide) (Nat.le_of_ble_eq_true rfl) ?_
  intro p e s m args below meth c ls C hin hw hl
  have C : Cx G A p s m args meth c RX8 cX8_counting 3 (some (.object "StorkVote$Text")) := C
  have hl : lv_has ls 3 [(0, .ref (ad x0)), (1, .int x1)] := hl
  obtain ⟨hx, hb, -⟩ := id C
  rw [f_X8_counting] at hf
  refine lv_aload_n hx hb dX8_counting_0 rfl (lv_at hl 0 rfl) ?_
  refine lv_iload_n hx hb dX8_counting_1 rfl (lv_at hl 1 rfl) ?_
  obtain ⟨hT4, hf⟩ := gt_inv hf
  obtain ⟨r2, M1, hc3, hf⟩ := cl_inv hf
  refine fin_I (run_V C hw mf_X8_counts mv_X8_counts ml_X8_88 cf8 hT4 (c_X8_counts l G A ad hc3) (As := [.int x1]) (rest := []) hl.1 rfl rfl (Nat.le_of_ble_eq_true rfl) ⟨rfl, rfl, Nat.le_of_ble_eq_true rfl, Nat.le_of_ble_eq_true rfl⟩ ⟨Nat.zero_le _, Nat.zero_le _⟩ dX8_counting_2) hw (fun H locs hw => ?_)
  refine lv_istore_n (lv' := [(2, .int r2), (0, .ref (ad x0)), (1, .int x1)]) hx hb dX8_counting_5 rfl hl (by decide) rfl (fun ls hl => ?_)
  refine lv_iload_n hx hb dX8_counting_6 rfl (lv_at hl 0 rfl) ?_
  refine lv_ldc hx hb C.2.2.2.1 (C.2.2.2.2.1 _ kc_X8_87) dX8_counting_7 ?_
  refine lv_icmp_ne (tgt := 16) hx hb dX8_counting_9 (by decide) (fun hc => ?_) (fun hc => ?_)
  · have hf := if_n hc hf
    refine lv_aload_n hx hb dX8_counting_16 rfl (lv_at hl 1 rfl) ?_
    obtain ⟨hT5, hf⟩ := gt_inv hf
    obtain ⟨a6, hP7, hf⟩ := lp_inv hf
    refine r_getP C hw cf8 7 (by decide) rfl hT5 hP7 fl_X8_33 dX8_counting_17 ?_
    refine lv_iload_n hx hb dX8_counting_20 rfl (lv_at hl 0 rfl) ?_
    obtain ⟨hT8, hf⟩ := gt_inv hf
    obtain ⟨hg9, hf⟩ := gd_inv hf
    obtain ⟨q10, hqq10, hf⟩ := nm_inv hf
    refine r_xald C hw hT8 hg9 dX8_counting_21 ?_
    rw [← hqq10]
    rcases q10 with _ | b11
    · have hf := on_n hf
      exact e_aret (v := none) C hw hf dX8_counting_22
    · have hf := on_s hf
      exact e_aret (v := some b11) C hw hf dX8_counting_22
  · have hf := if_p hc hf
    refine lv_null hx hb dX8_counting_12 ?_
    refine lv_goto (tgt := 22) hx hb dX8_counting_13 (by decide) ?_
    exact e_aret (v := none) C hw hf dX8_counting_22
/-! StorkVote$Text.named(IIII)I -/
abbrev rm_X7_named : Room := { frames := 0, cells := 0, slots := 0, locals := 0 }
def f_X7_named (M : Mem) (x0 : Int32) (x1 : Int32) (x2 : Int32) (x3 : Int32) : Option (Int32 × Mem) := (if x0 = 10000 then some (x1, M) else (if x0 = 10001 then some (x2, M) else some (x3, M)))
set_option maxHeartbeats 4000000 in
set_option maxRecDepth 100000 in
theorem c_X7_named (l : Launch) (G : Gd) (A : Nat → Prop) (ad : Nat → Nat) {M : Mem} {x0 : Int32} {x1 : Int32} {x2 : Int32} {x3 : Int32}  {r : Int32} {M' : Mem} (hf : f_X7_named M x0 x1 x2 x3 = some (r, M')) : Ct l yX7_named cX7_named 4 (some .int) rm_X7_named [.int x0, .int x1, .int x2, .int x3] G A ad M (QI G A ad r M') 0 0 := by
  refine ct_start (by decide) (Nat.le_of_ble_eq_true rfl) ?_
  intro p e s m args below meth c ls C hin hw hl
  have C : Cx G A p s m args meth c RX7 cX7_named 4 (some .int) := C
  have hl : lv_has ls 4 [(0, .int x0), (1, .int x1), (2, .int x2), (3, .int x3)] := hl
  obtain ⟨hx, hb, -⟩ := id C
  rw [f_X7_named] at hf
  refine lv_iload_n hx hb dX7_named_0 rfl (lv_at hl 0 rfl) ?_
  refine lv_sipush (v := 10000) hx hb dX7_named_1 (by decide) ?_
  refine lv_icmp_ne (tgt := 9) hx hb dX7_named_4 (by decide) (fun hc => ?_) (fun hc => ?_)
  · have hf := if_n hc hf
    refine lv_iload_n hx hb dX7_named_9 rfl (lv_at hl 0 rfl) ?_
    refine lv_sipush (v := 10001) hx hb dX7_named_10 (by decide) ?_
    refine lv_icmp_ne (tgt := 20) hx hb dX7_named_13 (by decide) (fun hc => ?_) (fun hc => ?_)
    · have hf := if_n hc hf
      refine lv_iload_n hx hb dX7_named_20 rfl (lv_at hl 3 rfl) ?_
      exact e_iret C hw hf dX7_named_21
    · have hf := if_p hc hf
      refine lv_iload_n hx hb dX7_named_16 rfl (lv_at hl 2 rfl) ?_
      refine lv_goto (tgt := 21) hx hb dX7_named_17 (by decide) ?_
      exact e_iret C hw hf dX7_named_21
  · have hf := if_p hc hf
    refine lv_iload_n hx hb dX7_named_7 rfl (lv_at hl 1 rfl) ?_
    exact e_iret C hw hf dX7_named_8
/-! StorkVote.bit(Z)I -/
abbrev rm_X9_bit : Room := { frames := 0, cells := 0, slots := 0, locals := 0 }
def f_X9_bit (M : Mem) (x0 : Int32) : Option (Int32 × Mem) := (if x0 = 0 then some (0, M) else some (1, M))
set_option maxHeartbeats 4000000 in
set_option maxRecDepth 100000 in
theorem c_X9_bit (l : Launch) (G : Gd) (A : Nat → Prop) (ad : Nat → Nat) {M : Mem} {x0 : Int32}  {r : Int32} {M' : Mem} (hf : f_X9_bit M x0 = some (r, M')) : Ct l yX9_bit cX9_bit 1 (some .int) rm_X9_bit [.int x0] G A ad M (QI G A ad r M') 0 0 := by
  refine ct_start (by decide) (Nat.le_of_ble_eq_true rfl) ?_
  intro p e s m args below meth c ls C hin hw hl
  have C : Cx G A p s m args meth c RX9 cX9_bit 1 (some .int) := C
  have hl : lv_has ls 1 [(0, .int x0)] := hl
  obtain ⟨hx, hb, -⟩ := id C
  rw [f_X9_bit] at hf
  refine lv_iload_n hx hb dX9_bit_0 rfl (lv_at hl 0 rfl) ?_
  refine lv_if_eq (tgt := 8) hx hb dX9_bit_1 (by decide) (fun hc => ?_) (fun hc => ?_)
  · have hf := if_p hc hf
    refine lv_iconst (v := 0) hx hb dX9_bit_8 (by decide) ?_
    exact e_iret C hw hf dX9_bit_9
  · have hf := if_n hc hf
    refine lv_iconst (v := 1) hx hb dX9_bit_4 (by decide) ?_
    refine lv_goto (tgt := 9) hx hb dX9_bit_5 (by decide) ?_
    exact e_iret C hw hf dX9_bit_9
/-! StorkVote$Text.joined(III)I -/
abbrev rm_X7_joined : Room := { frames := 0, cells := 0, slots := 0, locals := 0 }
def f_X7_joined (M : Mem) (x0 : Int32) (x1 : Int32) (x2 : Int32) : Option (Int32 × Mem) := (if x0 = 38 then (if x1 = 0 then some (0, M) else (if x2 = 0 then some (0, M) else some (1, M))) else if x0 = 42 then some ((x1 * x2), M) else if x0 = 43 then some ((x1 + x2), M) else if x0 = 45 then some ((x1 - x2), M) else if x0 = 60 then (if x2 ≤ x1 then some (0, M) else some (1, M)) else if x0 = 61 then (if x1 = x2 then some (1, M) else some (0, M)) else if x0 = 62 then (if x1 ≤ x2 then some (0, M) else some (1, M)) else if x0 = 124 then (if x1 = 0 then (if x2 = 0 then some (0, M) else some (1, M)) else some (1, M)) else (if x2 = 0 then some (0, M) else gz x2 (some ((x1 / x2), M))))
set_option maxHeartbeats 4000000 in
set_option maxRecDepth 100000 in
theorem c_X7_joined (l : Launch) (G : Gd) (A : Nat → Prop) (ad : Nat → Nat) {M : Mem} {x0 : Int32} {x1 : Int32} {x2 : Int32}  {r : Int32} {M' : Mem} (hf : f_X7_joined M x0 x1 x2 = some (r, M')) : Ct l yX7_joined cX7_joined 3 (some .int) rm_X7_joined [.int x0, .int x1, .int x2] G A ad M (QI G A ad r M') 0 0 := by
  refine ct_start (by decide) (Nat.le_of_ble_eq_true rfl) ?_
  intro p e s m args below meth c ls C hin hw hl
  have C : Cx G A p s m args meth c RX7 cX7_joined 3 (some .int) := C
  have hl : lv_has ls 3 [(0, .int x0), (1, .int x1), (2, .int x2)] := hl
  obtain ⟨hx, hb, -⟩ := id C
  rw [f_X7_joined] at hf
  refine lv_iload_n hx hb dX7_joined_0 rfl (lv_at hl 0 rfl) ?_
  by_cases hc1 : x0 = 38
  · have hf := if_p hc1 hf
    refine r_lookIn (off := 89) 38 hc1 hx hb dX7_joined_1 (by decide) (by decide) (tgt := 90) (by decide) ?_
    refine lv_iload_n hx hb dX7_joined_90 rfl (lv_at hl 1 rfl) ?_
    refine lv_if_eq (tgt := 102) hx hb dX7_joined_91 (by decide) (fun hc => ?_) (fun hc => ?_)
    · have hf := if_p hc hf
      refine lv_iconst (v := 0) hx hb dX7_joined_102 (by decide) ?_
      exact e_iret C hw hf dX7_joined_103
    · have hf := if_n hc hf
      refine lv_iload_n hx hb dX7_joined_94 rfl (lv_at hl 2 rfl) ?_
      refine lv_if_eq (tgt := 102) hx hb dX7_joined_95 (by decide) (fun hc => ?_) (fun hc => ?_)
      · have hf := if_p hc hf
        refine lv_iconst (v := 0) hx hb dX7_joined_102 (by decide) ?_
        exact e_iret C hw hf dX7_joined_103
      · have hf := if_n hc hf
        refine lv_iconst (v := 1) hx hb dX7_joined_98 (by decide) ?_
        refine lv_goto (tgt := 103) hx hb dX7_joined_99 (by decide) ?_
        exact e_iret C hw hf dX7_joined_103
  · have hf := if_n hc1 hf
    by_cases hc2 : x0 = 42
    · have hf := if_p hc2 hf
      refine r_lookIn (off := 144) 42 hc2 hx hb dX7_joined_1 (by decide) (by decide) (tgt := 145) (by decide) ?_
      refine lv_iload_n hx hb dX7_joined_145 rfl (lv_at hl 1 rfl) ?_
      refine lv_iload_n hx hb dX7_joined_146 rfl (lv_at hl 2 rfl) ?_
      refine lv_imul hx hb dX7_joined_147 ?_
      exact e_iret C hw hf dX7_joined_148
    · have hf := if_n hc2 hf
      by_cases hc3 : x0 = 43
      · have hf := if_p hc3 hf
        refine r_lookIn (off := 136) 43 hc3 hx hb dX7_joined_1 (by decide) (by decide) (tgt := 137) (by decide) ?_
        refine lv_iload_n hx hb dX7_joined_137 rfl (lv_at hl 1 rfl) ?_
        refine lv_iload_n hx hb dX7_joined_138 rfl (lv_at hl 2 rfl) ?_
        refine lv_iadd hx hb dX7_joined_139 ?_
        exact e_iret C hw hf dX7_joined_140
      · have hf := if_n hc3 hf
        by_cases hc4 : x0 = 45
        · have hf := if_p hc4 hf
          refine r_lookIn (off := 140) 45 hc4 hx hb dX7_joined_1 (by decide) (by decide) (tgt := 141) (by decide) ?_
          refine lv_iload_n hx hb dX7_joined_141 rfl (lv_at hl 1 rfl) ?_
          refine lv_iload_n hx hb dX7_joined_142 rfl (lv_at hl 2 rfl) ?_
          refine lv_isub hx hb dX7_joined_143 ?_
          exact e_iret C hw hf dX7_joined_144
        · have hf := if_n hc4 hf
          by_cases hc5 : x0 = 60
          · have hf := if_p hc5 hf
            refine r_lookIn (off := 103) 60 hc5 hx hb dX7_joined_1 (by decide) (by decide) (tgt := 104) (by decide) ?_
            refine lv_iload_n hx hb dX7_joined_104 rfl (lv_at hl 1 rfl) ?_
            refine lv_iload_n hx hb dX7_joined_105 rfl (lv_at hl 2 rfl) ?_
            refine lv_icmp_ge (tgt := 113) hx hb dX7_joined_106 (by decide) (fun hc => ?_) (fun hc => ?_)
            · have hf := if_p hc hf
              refine lv_iconst (v := 0) hx hb dX7_joined_113 (by decide) ?_
              exact e_iret C hw hf dX7_joined_114
            · have hf := if_n hc hf
              refine lv_iconst (v := 1) hx hb dX7_joined_109 (by decide) ?_
              refine lv_goto (tgt := 114) hx hb dX7_joined_110 (by decide) ?_
              exact e_iret C hw hf dX7_joined_114
          · have hf := if_n hc5 hf
            by_cases hc6 : x0 = 61
            · have hf := if_p hc6 hf
              refine r_lookIn (off := 114) 61 hc6 hx hb dX7_joined_1 (by decide) (by decide) (tgt := 115) (by decide) ?_
              refine lv_iload_n hx hb dX7_joined_115 rfl (lv_at hl 1 rfl) ?_
              refine lv_iload_n hx hb dX7_joined_116 rfl (lv_at hl 2 rfl) ?_
              refine lv_icmp_ne (tgt := 124) hx hb dX7_joined_117 (by decide) (fun hc => ?_) (fun hc => ?_)
              · have hf := if_n hc hf
                refine lv_iconst (v := 0) hx hb dX7_joined_124 (by decide) ?_
                exact e_iret C hw hf dX7_joined_125
              · have hf := if_p hc hf
                refine lv_iconst (v := 1) hx hb dX7_joined_120 (by decide) ?_
                refine lv_goto (tgt := 125) hx hb dX7_joined_121 (by decide) ?_
                exact e_iret C hw hf dX7_joined_125
            · have hf := if_n hc6 hf
              by_cases hc7 : x0 = 62
              · have hf := if_p hc7 hf
                refine r_lookIn (off := 125) 62 hc7 hx hb dX7_joined_1 (by decide) (by decide) (tgt := 126) (by decide) ?_
                refine lv_iload_n hx hb dX7_joined_126 rfl (lv_at hl 1 rfl) ?_
                refine lv_iload_n hx hb dX7_joined_127 rfl (lv_at hl 2 rfl) ?_
                refine lv_icmp_le (tgt := 135) hx hb dX7_joined_128 (by decide) (fun hc => ?_) (fun hc => ?_)
                · have hf := if_p hc hf
                  refine lv_iconst (v := 0) hx hb dX7_joined_135 (by decide) ?_
                  exact e_iret C hw hf dX7_joined_136
                · have hf := if_n hc hf
                  refine lv_iconst (v := 1) hx hb dX7_joined_131 (by decide) ?_
                  refine lv_goto (tgt := 136) hx hb dX7_joined_132 (by decide) ?_
                  exact e_iret C hw hf dX7_joined_136
              · have hf := if_n hc7 hf
                by_cases hc8 : x0 = 124
                · have hf := if_p hc8 hf
                  refine r_lookIn (off := 75) 124 hc8 hx hb dX7_joined_1 (by decide) (by decide) (tgt := 76) (by decide) ?_
                  refine lv_iload_n hx hb dX7_joined_76 rfl (lv_at hl 1 rfl) ?_
                  refine lv_if_ne (tgt := 84) hx hb dX7_joined_77 (by decide) (fun hc => ?_) (fun hc => ?_)
                  · have hf := if_n hc hf
                    refine lv_iconst (v := 1) hx hb dX7_joined_84 (by decide) ?_
                    refine lv_goto (tgt := 89) hx hb dX7_joined_85 (by decide) ?_
                    exact e_iret C hw hf dX7_joined_89
                  · have hf := if_p hc hf
                    refine lv_iload_n hx hb dX7_joined_80 rfl (lv_at hl 2 rfl) ?_
                    refine lv_if_eq (tgt := 88) hx hb dX7_joined_81 (by decide) (fun hc => ?_) (fun hc => ?_)
                    · have hf := if_p hc hf
                      refine lv_iconst (v := 0) hx hb dX7_joined_88 (by decide) ?_
                      exact e_iret C hw hf dX7_joined_89
                    · have hf := if_n hc hf
                      refine lv_iconst (v := 1) hx hb dX7_joined_84 (by decide) ?_
                      refine lv_goto (tgt := 89) hx hb dX7_joined_85 (by decide) ?_
                      exact e_iret C hw hf dX7_joined_89
                · have hf := if_n hc8 hf
                  refine r_lookOut hx hb dX7_joined_1 (by decide) (offs_c (by decide) hc1 (offs_c (by decide) hc2 (offs_c (by decide) hc3 (offs_c (by decide) hc4 (offs_c (by decide) hc5 (offs_c (by decide) hc6 (offs_c (by decide) hc7 (offs_c (by decide) hc8 rfl)))))))) (tgt := 149) (by decide) ?_
                  refine lv_iload_n hx hb dX7_joined_149 rfl (lv_at hl 2 rfl) ?_
                  refine lv_if_ne (tgt := 157) hx hb dX7_joined_150 (by decide) (fun hc => ?_) (fun hc => ?_)
                  · have hf := if_n hc hf
                    refine lv_iload_n hx hb dX7_joined_157 rfl (lv_at hl 1 rfl) ?_
                    refine lv_iload_n hx hb dX7_joined_158 rfl (lv_at hl 2 rfl) ?_
                    obtain ⟨hz9, hf⟩ := gz_inv hf
                    refine lv_idiv hx hb dX7_joined_159 hz9 ?_
                    exact e_iret C hw hf dX7_joined_160
                  · have hf := if_p hc hf
                    refine lv_iconst (v := 0) hx hb dX7_joined_153 (by decide) ?_
                    refine lv_goto (tgt := 160) hx hb dX7_joined_154 (by decide) ?_
                    exact e_iret C hw hf dX7_joined_160
/-! StorkVote$Text.value(III[I)I -/
abbrev rm_X7_value : Room := { frames := 1, cells := 0, slots := 0, locals := 23 }
def f_X7_value_112 (K6 : Mem → Nat → Int32 → Int32 → Int32 → Nat → Int32 → Int32 → Option (Int32 × Mem)) (M : Mem) (x0 : Nat) (x1 : Int32) (x2 : Int32) (x3 : Int32) (x4 : Nat) (x5 : Int32) (x6 : Int32) (s0 : Nat) (s1 : Int32) (s2 : Int32) : Option (Int32 × Mem) := cl (f_X9_bit M s2) (fun r2 M1 => gt (mT M1 s0) 20 (gd (ib s1 (mL M1 s0)) (st (setI M1 s0 s1.toNatClampNeg r2) (fun M6 => K6 M6 x0 x1 x2 x3 x4 x5 (x6 + 1)))))
set_option maxHeartbeats 4000000 in
set_option maxRecDepth 100000 in
theorem t_X7_value_112 {l : Launch} {p : Program} {e : Env} {s : State} {m : MethodId} {args : Array Value} {below : List Frame} {meth : Method} {c : Code} {G : Gd} {A : Nat → Prop} {ad : Nat → Nat} (C : Cx G A p s m args meth c RX7 cX7_value 8 (some .int)) {r : Int32} {M' : Mem} {K6 : Mem → Nat → Int32 → Int32 → Int32 → Nat → Int32 → Int32 → Option (Int32 × Mem)} (hK6 : ∀ (M : Mem) (x0 : Nat) (x1 : Int32) (x2 : Int32) (x3 : Int32) (x4 : Nat) (x5 : Int32) (x6 : Int32) (H : Heap) (locs : List Loc) (ls : Array Slot), K6 M x0 x1 x2 x3 x4 x5 x6 = some (r, M') → Wd G A ad s.heap M H locs → lv_has ls 8 [(0, .ref (ad x0)), (1, .int x1), (2, .int x2), (3, .int x3), (4, .ref (ad x4)), (5, .int x5), (6, .int x6)] → W p l e rm_X7_value s m args below meth c H locs 0 0 (MQ below (QI G A ad r M') args s 0 0 A) (F0 m 6 ls [])) : ∀ (M : Mem) (x0 : Nat) (x1 : Int32) (x2 : Int32) (x3 : Int32) (x4 : Nat) (x5 : Int32) (x6 : Int32) (s0 : Nat) (s1 : Int32) (s2 : Int32) (H : Heap) (locs : List Loc) (ls : Array Slot), f_X7_value_112 K6 M x0 x1 x2 x3 x4 x5 x6 s0 s1 s2 = some (r, M') → Wd G A ad s.heap M H locs → lv_has ls 8 [(0, .ref (ad x0)), (1, .int x1), (2, .int x2), (3, .int x3), (4, .ref (ad x4)), (5, .int x5), (6, .int x6)] → W p l e rm_X7_value s m args below meth c H locs 0 0 (MQ below (QI G A ad r M') args s 0 0 A) (F0 m 112 ls [.int s2, .int s1, .ref (ad s0)]) := by
  obtain ⟨hx, hb, -⟩ := id C
  intro M x0 x1 x2 x3 x4 x5 x6 s0 s1 s2 H locs ls hf hw hl
  rw [f_X7_value_112] at hf
  obtain ⟨r2, M1, hc3, hf⟩ := cl_inv hf
  refine fin_I (run_S C hw mf_X9_bit ms_X9_bit ml_X7_26 (c_X9_bit l G A ad hc3) (As := [.int s2]) (rest := [.int s1, .ref (ad s0)]) hl.1 rfl rfl (Nat.le_of_ble_eq_true rfl) ⟨rfl, rfl, Nat.le_of_ble_eq_true rfl, Nat.le_of_ble_eq_true rfl⟩ ⟨Nat.zero_le _, Nat.zero_le _⟩ dX7_value_112) hw (fun H locs hw => ?_)
  obtain ⟨hT4, hf⟩ := gt_inv hf
  obtain ⟨hg5, hf⟩ := gd_inv hf
  obtain ⟨M6, e7, hf⟩ := st_inv hf
  have g8 := sg_I e7
  refine r_iast C hw hT4 hg5 e7 dX7_value_115 (fun H locs hw => ?_)
  refine lv_goto (tgt := 158) hx hb dX7_value_116 (by decide) ?_
  refine lv_iinc (v := (x6 + 1)) (lv' := [(6, .int (x6 + 1)), (0, .ref (ad x0)), (1, .int x1), (2, .int x2), (3, .int x3), (4, .ref (ad x4)), (5, .int x5)]) hx hb dX7_value_158 hl (k := 6) rfl rfl (by decide) rfl (fun ls hl => ?_)
  refine lv_goto (tgt := 6) hx hb dX7_value_161 (by decide) ?_
  exact hK6 M6 x0 x1 x2 x3 x4 x5 (x6 + 1) _ _ _ hf hw (lv_sub hl [1, 2, 3, 4, 5, 6, 0] rfl)
def f_X7_value_68 (K6 : Mem → Nat → Int32 → Int32 → Int32 → Nat → Int32 → Int32 → Option (Int32 × Mem)) (M : Mem) (x0 : Nat) (x1 : Int32) (x2 : Int32) (x3 : Int32) (x4 : Nat) (x5 : Int32) (x6 : Int32) (s0 : Nat) (s1 : Int32) (s2 : Int32) : Option (Int32 × Mem) := gt (mT M s0) 20 (gd (ib s1 (mL M s0)) (st (setI M s0 s1.toNatClampNeg s2) (fun M3 => K6 M3 x0 x1 x2 x3 x4 (x5 + 1) (x6 + 1))))
set_option maxHeartbeats 4000000 in
set_option maxRecDepth 100000 in
theorem t_X7_value_68 {l : Launch} {p : Program} {e : Env} {s : State} {m : MethodId} {args : Array Value} {below : List Frame} {meth : Method} {c : Code} {G : Gd} {A : Nat → Prop} {ad : Nat → Nat} (C : Cx G A p s m args meth c RX7 cX7_value 8 (some .int)) {r : Int32} {M' : Mem} {K6 : Mem → Nat → Int32 → Int32 → Int32 → Nat → Int32 → Int32 → Option (Int32 × Mem)} (hK6 : ∀ (M : Mem) (x0 : Nat) (x1 : Int32) (x2 : Int32) (x3 : Int32) (x4 : Nat) (x5 : Int32) (x6 : Int32) (H : Heap) (locs : List Loc) (ls : Array Slot), K6 M x0 x1 x2 x3 x4 x5 x6 = some (r, M') → Wd G A ad s.heap M H locs → lv_has ls 8 [(0, .ref (ad x0)), (1, .int x1), (2, .int x2), (3, .int x3), (4, .ref (ad x4)), (5, .int x5), (6, .int x6)] → W p l e rm_X7_value s m args below meth c H locs 0 0 (MQ below (QI G A ad r M') args s 0 0 A) (F0 m 6 ls [])) : ∀ (M : Mem) (x0 : Nat) (x1 : Int32) (x2 : Int32) (x3 : Int32) (x4 : Nat) (x5 : Int32) (x6 : Int32) (s0 : Nat) (s1 : Int32) (s2 : Int32) (H : Heap) (locs : List Loc) (ls : Array Slot), f_X7_value_68 K6 M x0 x1 x2 x3 x4 x5 x6 s0 s1 s2 = some (r, M') → Wd G A ad s.heap M H locs → lv_has ls 8 [(0, .ref (ad x0)), (1, .int x1), (2, .int x2), (3, .int x3), (4, .ref (ad x4)), (5, .int x5), (6, .int x6)] → W p l e rm_X7_value s m args below meth c H locs 0 0 (MQ below (QI G A ad r M') args s 0 0 A) (F0 m 68 ls [.int s2, .int s1, .ref (ad s0)]) := by
  obtain ⟨hx, hb, -⟩ := id C
  intro M x0 x1 x2 x3 x4 x5 x6 s0 s1 s2 H locs ls hf hw hl
  rw [f_X7_value_68] at hf
  obtain ⟨hT1, hf⟩ := gt_inv hf
  obtain ⟨hg2, hf⟩ := gd_inv hf
  obtain ⟨M3, e4, hf⟩ := st_inv hf
  have g5 := sg_I e4
  refine r_iast C hw hT1 hg2 e4 dX7_value_68 (fun H locs hw => ?_)
  refine lv_iinc (v := (x5 + 1)) (lv' := [(5, .int (x5 + 1)), (0, .ref (ad x0)), (1, .int x1), (2, .int x2), (3, .int x3), (4, .ref (ad x4)), (6, .int x6)]) hx hb dX7_value_69 hl (k := 5) rfl rfl (by decide) rfl (fun ls hl => ?_)
  refine lv_goto (tgt := 158) hx hb dX7_value_72 (by decide) ?_
  refine lv_iinc (v := (x6 + 1)) (lv' := [(6, .int (x6 + 1)), (5, .int (x5 + 1)), (0, .ref (ad x0)), (1, .int x1), (2, .int x2), (3, .int x3), (4, .ref (ad x4))]) hx hb dX7_value_158 hl (k := 6) rfl rfl (by decide) rfl (fun ls hl => ?_)
  refine lv_goto (tgt := 6) hx hb dX7_value_161 (by decide) ?_
  exact hK6 M3 x0 x1 x2 x3 x4 (x5 + 1) (x6 + 1) _ _ _ hf hw (lv_sub hl [2, 3, 4, 5, 6, 1, 0] rfl)
def f_X7_value_6 : Nat → Mem → Nat → Int32 → Int32 → Int32 → Nat → Int32 → Int32 → Option (Int32 × Mem)
  | 0, _, _, _, _, _, _, _, _ => none
  | n + 1, M, x0, x1, x2, x3, x4, x5, x6 => gt (mT M x0) 8 (lp (mP M x0 2) (fun a2 => gt (mT M a2) 20 ((if (nI (mL M a2)) ≤ x6 then (if 1 ≤ x5 then gt (mT M x4) 20 (gd (ib 0 (mL M x4)) (some ((mI M x4 (0 : Int32).toNatClampNeg), M))) else some (0, M)) else gd (ib x6 (mL M a2)) ((if 20000 ≤ (mI M a2 x6.toNatClampNeg) then (if (mI M a2 x6.toNatClampNeg) = 20033 then (if 1 ≤ x5 then gt (mT M x4) 20 (gd (ib (x5 - 1) (mL M x4)) ((if (mI M x4 (x5 - 1).toNatClampNeg) = 0 then f_X7_value_112 (f_X7_value_6 n) M x0 x1 x2 x3 x4 x5 x6 x4 (x5 - 1) 1 else f_X7_value_112 (f_X7_value_6 n) M x0 x1 x2 x3 x4 x5 x6 x4 (x5 - 1) 0))) else some (0, M)) else (if 2 ≤ x5 then gt (mT M x4) 20 (gd (ib ((x5 + (-1)) - 1) (mL M x4)) (gd (ib (x5 + (-1)) (mL M x4)) (cl (f_X7_joined M ((mI M a2 x6.toNatClampNeg) - 20000) (mI M x4 ((x5 + (-1)) - 1).toNatClampNeg) (mI M x4 (x5 + (-1)).toNatClampNeg)) (fun r12 M11 => gt (mT M11 x4) 20 (gd (ib ((x5 + (-1)) - 1) (mL M11 x4)) (st (setI M11 x4 ((x5 + (-1)) - 1).toNatClampNeg r12) (fun M16 => f_X7_value_6 n M16 x0 x1 x2 x3 x4 (x5 + (-1)) (x6 + 1)))))))) else some (0, M))) else gt (mT M x4) 20 ((if x5 < (nI (mL M x4)) then (if 10000 ≤ (mI M a2 x6.toNatClampNeg) then cl (f_X7_named M (mI M a2 x6.toNatClampNeg) x1 x2 x3) (fun r23 M22 => f_X7_value_68 (f_X7_value_6 n) M22 x0 x1 x2 x3 x4 x5 x6 x4 x5 r23) else f_X7_value_68 (f_X7_value_6 n) M x0 x1 x2 x3 x4 x5 x6 x4 x5 (mI M a2 x6.toNatClampNeg)) else some (0, M)))))))))
set_option maxHeartbeats 4000000 in
set_option maxRecDepth 100000 in
theorem t_X7_value_6 {l : Launch} {p : Program} {e : Env} {s : State} {m : MethodId} {args : Array Value} {below : List Frame} {meth : Method} {c : Code} {G : Gd} {A : Nat → Prop} {ad : Nat → Nat} (C : Cx G A p s m args meth c RX7 cX7_value 8 (some .int)) {r : Int32} {M' : Mem} : ∀ (n : Nat) (M : Mem) (x0 : Nat) (x1 : Int32) (x2 : Int32) (x3 : Int32) (x4 : Nat) (x5 : Int32) (x6 : Int32) (H : Heap) (locs : List Loc) (ls : Array Slot), f_X7_value_6  n M x0 x1 x2 x3 x4 x5 x6 = some (r, M') → Wd G A ad s.heap M H locs → lv_has ls 8 [(0, .ref (ad x0)), (1, .int x1), (2, .int x2), (3, .int x3), (4, .ref (ad x4)), (5, .int x5), (6, .int x6)] → W p l e rm_X7_value s m args below meth c H locs 0 0 (MQ below (QI G A ad r M') args s 0 0 A) (F0 m 6 ls []) := by
  obtain ⟨hx, hb, -⟩ := id C
  intro n
  induction n with
  | zero =>
    intro M x0 x1 x2 x3 x4 x5 x6 H locs ls hf
    rw [f_X7_value_6] at hf
    exact absurd hf (fun h => nomatch h)
  | succ n ih =>
    intro M x0 x1 x2 x3 x4 x5 x6 H locs ls hf hw hl
    rw [f_X7_value_6] at hf
    refine lv_iload hx hb dX7_value_6 (lv_at hl 6 rfl) ?_
    refine lv_aload_n hx hb dX7_value_8 rfl (lv_at hl 0 rfl) ?_
    obtain ⟨hT1, hf⟩ := gt_inv hf
    obtain ⟨a2, hP3, hf⟩ := lp_inv hf
    refine r_getP C hw cf7 2 (by decide) rfl hT1 hP3 fl_X7_18 dX7_value_9 ?_
    obtain ⟨hT4, hf⟩ := gt_inv hf
    refine r_alen C hw hT4 dX7_value_12 ?_
    refine lv_icmp_ge (tgt := 164) hx hb dX7_value_13 (by decide) (fun hc => ?_) (fun hc => ?_)
    · have hf := if_p hc hf
      refine lv_iload hx hb dX7_value_164 (lv_at hl 5 rfl) ?_
      refine lv_iconst (v := 1) hx hb dX7_value_166 (by decide) ?_
      refine lv_icmp_ge (tgt := 174) hx hb dX7_value_167 (by decide) (fun hc => ?_) (fun hc => ?_)
      · have hf := if_p hc hf
        refine lv_aload hx hb dX7_value_174 (lv_at hl 4 rfl) ?_
        refine lv_iconst (v := 0) hx hb dX7_value_176 (by decide) ?_
        obtain ⟨hT5, hf⟩ := gt_inv hf
        obtain ⟨hg6, hf⟩ := gd_inv hf
        refine r_iald C hw hT5 hg6 dX7_value_177 ?_
        exact e_iret C hw hf dX7_value_178
      · have hf := if_n hc hf
        refine lv_iconst (v := 0) hx hb dX7_value_170 (by decide) ?_
        refine lv_goto (tgt := 178) hx hb dX7_value_171 (by decide) ?_
        exact e_iret C hw hf dX7_value_178
    · have hf := if_n hc hf
      refine lv_aload_n hx hb dX7_value_16 rfl (lv_at hl 0 rfl) ?_
      refine r_getP C hw cf7 2 (by decide) rfl hT1 hP3 fl_X7_18 dX7_value_17 ?_
      refine lv_iload hx hb dX7_value_20 (lv_at hl 6 rfl) ?_
      obtain ⟨hg7, hf⟩ := gd_inv hf
      refine r_iald C hw hT4 hg7 dX7_value_22 ?_
      refine lv_istore (lv' := [(7, .int (mI M a2 x6.toNatClampNeg)), (0, .ref (ad x0)), (1, .int x1), (2, .int x2), (3, .int x3), (4, .ref (ad x4)), (5, .int x5), (6, .int x6)]) hx hb dX7_value_23 hl (by decide) rfl (fun ls hl => ?_)
      refine lv_iload hx hb dX7_value_25 (lv_at hl 0 rfl) ?_
      refine lv_sipush (v := 20000) hx hb dX7_value_27 (by decide) ?_
      refine lv_icmp_ge (tgt := 75) hx hb dX7_value_30 (by decide) (fun hc => ?_) (fun hc => ?_)
      · have hf := if_p hc hf
        refine lv_iload hx hb dX7_value_75 (lv_at hl 0 rfl) ?_
        refine lv_sipush (v := 20033) hx hb dX7_value_77 (by decide) ?_
        refine lv_icmp_ne (tgt := 119) hx hb dX7_value_80 (by decide) (fun hc => ?_) (fun hc => ?_)
        · have hf := if_n hc hf
          refine lv_iload hx hb dX7_value_119 (lv_at hl 6 rfl) ?_
          refine lv_iconst (v := 2) hx hb dX7_value_121 (by decide) ?_
          refine lv_icmp_ge (tgt := 127) hx hb dX7_value_122 (by decide) (fun hc => ?_) (fun hc => ?_)
          · have hf := if_p hc hf
            refine lv_iinc (v := (x5 + (-1))) (lv' := [(5, .int (x5 + (-1))), (7, .int (mI M a2 x6.toNatClampNeg)), (0, .ref (ad x0)), (1, .int x1), (2, .int x2), (3, .int x3), (4, .ref (ad x4)), (6, .int x6)]) hx hb dX7_value_127 hl (k := 6) rfl rfl (by decide) rfl (fun ls hl => ?_)
            refine lv_aload hx hb dX7_value_130 (lv_at hl 6 rfl) ?_
            refine lv_iload hx hb dX7_value_132 (lv_at hl 0 rfl) ?_
            refine lv_iconst (v := 1) hx hb dX7_value_134 (by decide) ?_
            refine lv_isub hx hb dX7_value_135 ?_
            refine lv_iload hx hb dX7_value_136 (lv_at hl 1 rfl) ?_
            refine lv_sipush (v := 20000) hx hb dX7_value_138 (by decide) ?_
            refine lv_isub hx hb dX7_value_141 ?_
            refine lv_aload hx hb dX7_value_142 (lv_at hl 6 rfl) ?_
            refine lv_iload hx hb dX7_value_144 (lv_at hl 0 rfl) ?_
            refine lv_iconst (v := 1) hx hb dX7_value_146 (by decide) ?_
            refine lv_isub hx hb dX7_value_147 ?_
            obtain ⟨hT8, hf⟩ := gt_inv hf
            obtain ⟨hg9, hf⟩ := gd_inv hf
            refine r_iald C hw hT8 hg9 dX7_value_148 ?_
            refine lv_aload hx hb dX7_value_149 (lv_at hl 6 rfl) ?_
            refine lv_iload hx hb dX7_value_151 (lv_at hl 0 rfl) ?_
            obtain ⟨hg10, hf⟩ := gd_inv hf
            refine r_iald C hw hT8 hg10 dX7_value_153 ?_
            obtain ⟨r12, M11, hc13, hf⟩ := cl_inv hf
            refine fin_I (run_S C hw mf_X7_joined ms_X7_joined ml_X7_30 (c_X7_joined l G A ad hc13) (As := [.int ((mI M a2 x6.toNatClampNeg) - 20000), .int (mI M x4 ((x5 + (-1)) - 1).toNatClampNeg), .int (mI M x4 (x5 + (-1)).toNatClampNeg)]) (rest := [.int ((x5 + (-1)) - 1), .ref (ad x4)]) hl.1 rfl rfl (Nat.le_of_ble_eq_true rfl) ⟨rfl, rfl, Nat.le_of_ble_eq_true rfl, Nat.le_of_ble_eq_true rfl⟩ ⟨Nat.zero_le _, Nat.zero_le _⟩ dX7_value_154) hw (fun H locs hw => ?_)
            obtain ⟨hT14, hf⟩ := gt_inv hf
            obtain ⟨hg15, hf⟩ := gd_inv hf
            obtain ⟨M16, e17, hf⟩ := st_inv hf
            have g18 := sg_I e17
            refine r_iast C hw hT14 hg15 e17 dX7_value_157 (fun H locs hw => ?_)
            refine lv_iinc (v := (x6 + 1)) (lv' := [(6, .int (x6 + 1)), (5, .int (x5 + (-1))), (7, .int (mI M a2 x6.toNatClampNeg)), (0, .ref (ad x0)), (1, .int x1), (2, .int x2), (3, .int x3), (4, .ref (ad x4))]) hx hb dX7_value_158 hl (k := 7) rfl rfl (by decide) rfl (fun ls hl => ?_)
            refine lv_goto (tgt := 6) hx hb dX7_value_161 (by decide) ?_
            exact ih M16 x0 x1 x2 x3 x4 (x5 + (-1)) (x6 + 1) _ _ _ hf hw (lv_sub hl [3, 4, 5, 6, 7, 1, 0] rfl)
          · have hf := if_n hc hf
            refine lv_iconst (v := 0) hx hb dX7_value_125 (by decide) ?_
            exact e_iret C hw hf dX7_value_126
        · have hf := if_p hc hf
          refine lv_iload hx hb dX7_value_83 (lv_at hl 6 rfl) ?_
          refine lv_iconst (v := 1) hx hb dX7_value_85 (by decide) ?_
          refine lv_icmp_ge (tgt := 91) hx hb dX7_value_86 (by decide) (fun hc => ?_) (fun hc => ?_)
          · have hf := if_p hc hf
            refine lv_aload hx hb dX7_value_91 (lv_at hl 5 rfl) ?_
            refine lv_iload hx hb dX7_value_93 (lv_at hl 6 rfl) ?_
            refine lv_iconst (v := 1) hx hb dX7_value_95 (by decide) ?_
            refine lv_isub hx hb dX7_value_96 ?_
            refine lv_aload hx hb dX7_value_97 (lv_at hl 5 rfl) ?_
            refine lv_iload hx hb dX7_value_99 (lv_at hl 6 rfl) ?_
            refine lv_iconst (v := 1) hx hb dX7_value_101 (by decide) ?_
            refine lv_isub hx hb dX7_value_102 ?_
            obtain ⟨hT19, hf⟩ := gt_inv hf
            obtain ⟨hg20, hf⟩ := gd_inv hf
            refine r_iald C hw hT19 hg20 dX7_value_103 ?_
            refine lv_if_ne (tgt := 111) hx hb dX7_value_104 (by decide) (fun hc => ?_) (fun hc => ?_)
            · have hf := if_n hc hf
              refine lv_iconst (v := 0) hx hb dX7_value_111 (by decide) ?_
              exact t_X7_value_112 C ih M x0 x1 x2 x3 x4 x5 x6 x4 (x5 - 1) 0 _ _ _ hf hw (lv_sub hl [1, 2, 3, 4, 5, 6, 7] rfl)
            · have hf := if_p hc hf
              refine lv_iconst (v := 1) hx hb dX7_value_107 (by decide) ?_
              refine lv_goto (tgt := 112) hx hb dX7_value_108 (by decide) ?_
              exact t_X7_value_112 C ih M x0 x1 x2 x3 x4 x5 x6 x4 (x5 - 1) 1 _ _ _ hf hw (lv_sub hl [1, 2, 3, 4, 5, 6, 7] rfl)
          · have hf := if_n hc hf
            refine lv_iconst (v := 0) hx hb dX7_value_89 (by decide) ?_
            exact e_iret C hw hf dX7_value_90
      · have hf := if_n hc hf
        refine lv_iload hx hb dX7_value_33 (lv_at hl 6 rfl) ?_
        refine lv_aload hx hb dX7_value_35 (lv_at hl 5 rfl) ?_
        obtain ⟨hT21, hf⟩ := gt_inv hf
        refine r_alen C hw hT21 dX7_value_37 ?_
        refine lv_icmp_lt (tgt := 43) hx hb dX7_value_38 (by decide) (fun hc => ?_) (fun hc => ?_)
        · have hf := if_p hc hf
          refine lv_aload hx hb dX7_value_43 (lv_at hl 5 rfl) ?_
          refine lv_iload hx hb dX7_value_45 (lv_at hl 6 rfl) ?_
          refine lv_iload hx hb dX7_value_47 (lv_at hl 0 rfl) ?_
          refine lv_sipush (v := 10000) hx hb dX7_value_49 (by decide) ?_
          refine lv_icmp_ge (tgt := 60) hx hb dX7_value_52 (by decide) (fun hc => ?_) (fun hc => ?_)
          · have hf := if_p hc hf
            refine lv_iload hx hb dX7_value_60 (lv_at hl 0 rfl) ?_
            refine lv_iload_n hx hb dX7_value_62 rfl (lv_at hl 2 rfl) ?_
            refine lv_iload_n hx hb dX7_value_63 rfl (lv_at hl 3 rfl) ?_
            refine lv_iload_n hx hb dX7_value_64 rfl (lv_at hl 4 rfl) ?_
            obtain ⟨r23, M22, hc24, hf⟩ := cl_inv hf
            refine fin_I (run_S C hw mf_X7_named ms_X7_named ml_X7_22 (c_X7_named l G A ad hc24) (As := [.int (mI M a2 x6.toNatClampNeg), .int x1, .int x2, .int x3]) (rest := [.int x5, .ref (ad x4)]) hl.1 rfl rfl (Nat.le_of_ble_eq_true rfl) ⟨rfl, rfl, Nat.le_of_ble_eq_true rfl, Nat.le_of_ble_eq_true rfl⟩ ⟨Nat.zero_le _, Nat.zero_le _⟩ dX7_value_65) hw (fun H locs hw => ?_)
            exact t_X7_value_68 C ih M22 x0 x1 x2 x3 x4 x5 x6 x4 x5 r23 _ _ _ hf hw (lv_sub hl [1, 2, 3, 4, 5, 6, 7] rfl)
          · have hf := if_n hc hf
            refine lv_iload hx hb dX7_value_55 (lv_at hl 0 rfl) ?_
            refine lv_goto (tgt := 68) hx hb dX7_value_57 (by decide) ?_
            exact t_X7_value_68 C ih M x0 x1 x2 x3 x4 x5 x6 x4 x5 (mI M a2 x6.toNatClampNeg) _ _ _ hf hw (lv_sub hl [1, 2, 3, 4, 5, 6, 7] rfl)
        · have hf := if_n hc hf
          refine lv_iconst (v := 0) hx hb dX7_value_41 (by decide) ?_
          exact e_iret C hw hf dX7_value_42
def f_X7_value (M : Mem) (x0 : Nat) (x1 : Int32) (x2 : Int32) (x3 : Int32) (x4 : Nat) : Option (Int32 × Mem) := f_X7_value_6 FU M x0 x1 x2 x3 x4 0 0
set_option maxHeartbeats 4000000 in
set_option maxRecDepth 100000 in
theorem c_X7_value (l : Launch) (G : Gd) (A : Nat → Prop) (ad : Nat → Nat) {M : Mem} {x0 : Nat} {x1 : Int32} {x2 : Int32} {x3 : Int32} {x4 : Nat}  {r : Int32} {M' : Mem} (hf : f_X7_value M x0 x1 x2 x3 x4 = some (r, M')) : Ct l yX7_value cX7_value 8 (some .int) rm_X7_value [.ref (ad x0), .int x1, .int x2, .int x3, .ref (ad x4)] G A ad M (QI G A ad r M') 0 0 := by
  refine ct_start (by decide) (Nat.le_of_ble_eq_true rfl) ?_
  intro p e s m args below meth c ls C hin hw hl
  have C : Cx G A p s m args meth c RX7 cX7_value 8 (some .int) := C
  have hl : lv_has ls 8 [(0, .ref (ad x0)), (1, .int x1), (2, .int x2), (3, .int x3), (4, .ref (ad x4))] := hl
  obtain ⟨hx, hb, -⟩ := id C
  rw [f_X7_value] at hf
  refine lv_iconst (v := 0) hx hb dX7_value_0 (by decide) ?_
  refine lv_istore (lv' := [(5, .int 0), (0, .ref (ad x0)), (1, .int x1), (2, .int x2), (3, .int x3), (4, .ref (ad x4))]) hx hb dX7_value_1 hl (by decide) rfl (fun ls hl => ?_)
  refine lv_iconst (v := 0) hx hb dX7_value_3 (by decide) ?_
  refine lv_istore (lv' := [(6, .int 0), (5, .int 0), (0, .ref (ad x0)), (1, .int x1), (2, .int x2), (3, .int x3), (4, .ref (ad x4))]) hx hb dX7_value_4 hl (by decide) rfl (fun ls hl => ?_)
  exact t_X7_value_6 C FU M x0 x1 x2 x3 x4 0 0 _ _ _ hf hw (lv_sub hl [2, 3, 4, 5, 6, 1, 0] rfl)
/-! StorkVote.held(II)I -/
abbrev rm_X9_held : Room := { frames := 1, cells := 0, slots := 0, locals := 21 }
def f_X9_held (M : Mem) (x0 : Int32) (x1 : Int32) : Option (Int32 × Mem) := some ((imax 0 (imin x0 x1)), M)
set_option maxHeartbeats 4000000 in
set_option maxRecDepth 100000 in
theorem c_X9_held (l : Launch) (G : Gd) (A : Nat → Prop) (ad : Nat → Nat) {M : Mem} {x0 : Int32} {x1 : Int32}  {r : Int32} {M' : Mem} (hf : f_X9_held M x0 x1 = some (r, M')) : Ct l yX9_held cX9_held 2 (some .int) rm_X9_held [.int x0, .int x1] G A ad M (QI G A ad r M') 0 0 := by
  refine ct_start (by decide) (Nat.le_of_ble_eq_true rfl) ?_
  intro p e s m args below meth c ls C hin hw hl
  have C : Cx G A p s m args meth c RX9 cX9_held 2 (some .int) := C
  have hl : lv_has ls 2 [(0, .int x0), (1, .int x1)] := hl
  obtain ⟨hx, hb, -⟩ := id C
  rw [f_X9_held] at hf
  refine lv_iconst (v := 0) hx hb dX9_held_0 (by decide) ?_
  refine lv_iload_n hx hb dX9_held_1 rfl (lv_at hl 0 rfl) ?_
  refine lv_iload_n hx hb dX9_held_2 rfl (lv_at hl 1 rfl) ?_
  refine r_min C hl.1 mk_X9_147 (Nat.le_of_ble_eq_true rfl) (Nat.le_of_ble_eq_true rfl) (Nat.le_of_ble_eq_true rfl) (Nat.le_of_ble_eq_true rfl) dX9_held_3 ?_
  refine r_max C hl.1 mk_X9_324 (Nat.le_of_ble_eq_true rfl) (Nat.le_of_ble_eq_true rfl) (Nat.le_of_ble_eq_true rfl) (Nat.le_of_ble_eq_true rfl) dX9_held_6 ?_
  exact e_iret C hw hf dX9_held_9
/-! StorkVote$World.liking(II)I -/
abbrev rm_X8_liking : Room := { frames := 2, cells := 0, slots := 0, locals := 50 }
def f_X8_liking_61 (M : Mem) (x2 : Int32) (x3 : Nat) (x5 : Int32) : Option (Int32 × Mem) := gt (mT M x3) 1 (cl (f_X0_likedFrom M x3 x5 x2) (fun r2 M1 => some (r2, M1)))
set_option maxHeartbeats 4000000 in
set_option maxRecDepth 100000 in
theorem t_X8_liking_61 {l : Launch} {p : Program} {e : Env} {s : State} {m : MethodId} {args : Array Value} {below : List Frame} {meth : Method} {c : Code} {G : Gd} {A : Nat → Prop} {ad : Nat → Nat} (C : Cx G A p s m args meth c RX8 cX8_liking 6 (some .int)) {r : Int32} {M' : Mem} : ∀ (M : Mem) (x2 : Int32) (x3 : Nat) (x5 : Int32) (H : Heap) (locs : List Loc) (ls : Array Slot), f_X8_liking_61  M x2 x3 x5 = some (r, M') → Wd G A ad s.heap M H locs → lv_has ls 6 [(2, .int x2), (3, .ref (ad x3)), (5, .int x5)] → W p l e rm_X8_liking s m args below meth c H locs 0 0 (MQ below (QI G A ad r M') args s 0 0 A) (F0 m 61 ls []) := by
  obtain ⟨hx, hb, -⟩ := id C
  intro M x2 x3 x5 H locs ls hf hw hl
  rw [f_X8_liking_61] at hf
  refine lv_aload_n hx hb dX8_liking_61 rfl (lv_at hl 1 rfl) ?_
  refine lv_iload hx hb dX8_liking_62 (lv_at hl 2 rfl) ?_
  refine lv_iload_n hx hb dX8_liking_64 rfl (lv_at hl 0 rfl) ?_
  obtain ⟨hT4, hf⟩ := gt_inv hf
  obtain ⟨r2, M1, hc3, hf⟩ := cl_inv hf
  refine fin_I (run_V C hw mf_X0_likedFrom mv_X0_likedFrom ml_X8_110 cf0 hT4 (c_X0_likedFrom l G A ad hc3) (As := [.int x5, .int x2]) (rest := []) hl.1 rfl rfl (Nat.le_of_ble_eq_true rfl) ⟨rfl, rfl, Nat.le_of_ble_eq_true rfl, Nat.le_of_ble_eq_true rfl⟩ ⟨Nat.zero_le _, Nat.zero_le _⟩ dX8_liking_65) hw (fun H locs hw => ?_)
  exact e_iret C hw hf dX8_liking_68
def f_X8_liking (M : Mem) (x0 : Nat) (x1 : Int32) (x2 : Int32) : Option (Int32 × Mem) := gt (mT M x0) 9 (lp (mP M x0 0) (fun a2 => gt (mT M a2) 23 (gd (ib x1 (mL M a2)) (lp (mP M a2 x1.toNatClampNeg) (fun a6 => cl (f_X8_counting M x0 0) (fun r9 M8 => on r9 (gt (mT M8 a6) 1 (f_X8_liking_61 M8 x2 a6 (((mI M8 a6 2) + (mI M8 a6 3)) + (20 * x2)))) (fun b11 => gt (mT M8 a6) 1 (gt (mT M8 x0) 9 (lp (mP M8 x0 9) (fun a15 => gt (mT M8 b11) 8 (cl (f_X7_value M8 b11 (mI M8 a6 2) (mI M8 a6 3) x2 a15) (fun r18 M17 => cl (f_X9_held M17 r18 999) (fun r22 M21 => f_X8_liking_61 M21 x2 a6 r22)))))))))))))
set_option maxHeartbeats 4000000 in
set_option maxRecDepth 100000 in
theorem c_X8_liking (l : Launch) (G : Gd) (A : Nat → Prop) (ad : Nat → Nat) {M : Mem} {x0 : Nat} {x1 : Int32} {x2 : Int32}  {r : Int32} {M' : Mem} (hf : f_X8_liking M x0 x1 x2 = some (r, M')) : Ct l yX8_liking cX8_liking 6 (some .int) rm_X8_liking [.ref (ad x0), .int x1, .int x2] G A ad M (QI G A ad r M') 0 0 := by
  refine ct_start (by decide) (Nat.le_of_ble_eq_true rfl) ?_
  intro p e s m args below meth c ls C hin hw hl
  have C : Cx G A p s m args meth c RX8 cX8_liking 6 (some .int) := C
  have hl : lv_has ls 6 [(0, .ref (ad x0)), (1, .int x1), (2, .int x2)] := hl
  obtain ⟨hx, hb, -⟩ := id C
  rw [f_X8_liking] at hf
  refine lv_aload_n hx hb dX8_liking_0 rfl (lv_at hl 0 rfl) ?_
  obtain ⟨hT1, hf⟩ := gt_inv hf
  obtain ⟨a2, hP3, hf⟩ := lp_inv hf
  refine r_getP C hw cf8 0 (by decide) rfl hT1 hP3 fl_X8_11 dX8_liking_1 ?_
  refine lv_iload_n hx hb dX8_liking_4 rfl (lv_at hl 1 rfl) ?_
  obtain ⟨hT4, hf⟩ := gt_inv hf
  obtain ⟨hg5, hf⟩ := gd_inv hf
  obtain ⟨a6, hP7, hf⟩ := lp_inv hf
  refine r_aald C hw 3 rfl (by decide) (by decide) hT4 hg5 hP7 dX8_liking_5 ?_
  refine lv_astore_n (lv' := [(3, .ref (ad a6)), (0, .ref (ad x0)), (1, .int x1), (2, .int x2)]) hx hb dX8_liking_6 rfl hl (by decide) rfl (fun ls hl => ?_)
  refine lv_aload_n hx hb dX8_liking_7 rfl (lv_at hl 1 rfl) ?_
  refine lv_iconst (v := 0) hx hb dX8_liking_8 (by decide) ?_
  obtain ⟨r9, M8, hc10, hf⟩ := cl_inv hf
  refine fin_Q (run_V C hw mf_X8_counting mv_X8_counting ml_X8_92 cf8 hT1 (c_X8_counting l G A ad hc10) (As := [.int 0]) (rest := []) hl.1 rfl rfl (Nat.le_of_ble_eq_true rfl) ⟨rfl, rfl, Nat.le_of_ble_eq_true rfl, Nat.le_of_ble_eq_true rfl⟩ ⟨Nat.zero_le _, Nat.zero_le _⟩ dX8_liking_9) hw (fun H locs hw => ?_)
  rcases r9 with _ | b11
  · have hf := on_n hf
    refine lv_astoreN (lv' := [(4, .null), (3, .ref (ad a6)), (0, .ref (ad x0)), (1, .int x1), (2, .int x2)]) hx hb dX8_liking_12 hl (by decide) rfl (fun ls hl => ?_)
    refine lv_aload_n hx hb dX8_liking_14 rfl (lv_at hl 1 rfl) ?_
    obtain ⟨hT12, hf⟩ := gt_inv hf
    refine r_getI C hw cf0 2 (by decide) rfl hT12 fl_X8_96 dX8_liking_15 ?_
    refine lv_aload_n hx hb dX8_liking_18 rfl (lv_at hl 1 rfl) ?_
    refine r_getI C hw cf0 3 (by decide) rfl hT12 fl_X8_99 dX8_liking_19 ?_
    refine lv_iadd hx hb dX8_liking_22 ?_
    refine lv_bipush (v := 20) hx hb dX8_liking_23 (by decide) ?_
    refine lv_iload_n hx hb dX8_liking_25 rfl (lv_at hl 4 rfl) ?_
    refine lv_imul hx hb dX8_liking_26 ?_
    refine lv_iadd hx hb dX8_liking_27 ?_
    refine lv_istore (lv' := [(5, .int (((mI M8 a6 2) + (mI M8 a6 3)) + (20 * x2))), (4, .null), (3, .ref (ad a6)), (0, .ref (ad x0)), (1, .int x1), (2, .int x2)]) hx hb dX8_liking_28 hl (by decide) rfl (fun ls hl => ?_)
    refine lv_aloadN hx hb dX8_liking_30 (lv_at hl 1 rfl) ?_
    refine lv_ifnullN (tgt := 61) hx hb dX8_liking_32 (by decide) ?_
    exact t_X8_liking_61 C M8 x2 a6 (((mI M8 a6 2) + (mI M8 a6 3)) + (20 * x2)) _ _ _ hf hw (lv_sub hl [5, 2, 0] rfl)
  · have hf := on_s hf
    refine lv_astore (lv' := [(4, .ref (ad b11)), (3, .ref (ad a6)), (0, .ref (ad x0)), (1, .int x1), (2, .int x2)]) hx hb dX8_liking_12 hl (by decide) rfl (fun ls hl => ?_)
    refine lv_aload_n hx hb dX8_liking_14 rfl (lv_at hl 1 rfl) ?_
    obtain ⟨hT13, hf⟩ := gt_inv hf
    refine r_getI C hw cf0 2 (by decide) rfl hT13 fl_X8_96 dX8_liking_15 ?_
    refine lv_aload_n hx hb dX8_liking_18 rfl (lv_at hl 1 rfl) ?_
    refine r_getI C hw cf0 3 (by decide) rfl hT13 fl_X8_99 dX8_liking_19 ?_
    refine lv_iadd hx hb dX8_liking_22 ?_
    refine lv_bipush (v := 20) hx hb dX8_liking_23 (by decide) ?_
    refine lv_iload_n hx hb dX8_liking_25 rfl (lv_at hl 4 rfl) ?_
    refine lv_imul hx hb dX8_liking_26 ?_
    refine lv_iadd hx hb dX8_liking_27 ?_
    refine lv_istore (lv' := [(5, .int (((mI M8 a6 2) + (mI M8 a6 3)) + (20 * x2))), (4, .ref (ad b11)), (3, .ref (ad a6)), (0, .ref (ad x0)), (1, .int x1), (2, .int x2)]) hx hb dX8_liking_28 hl (by decide) rfl (fun ls hl => ?_)
    refine lv_aload hx hb dX8_liking_30 (lv_at hl 1 rfl) ?_
    refine lv_ifnull hx hb dX8_liking_32 ?_
    refine lv_aload hx hb dX8_liking_35 (lv_at hl 1 rfl) ?_
    refine lv_aload_n hx hb dX8_liking_37 rfl (lv_at hl 2 rfl) ?_
    refine r_getI C hw cf0 2 (by decide) rfl hT13 fl_X8_96 dX8_liking_38 ?_
    refine lv_aload_n hx hb dX8_liking_41 rfl (lv_at hl 2 rfl) ?_
    refine r_getI C hw cf0 3 (by decide) rfl hT13 fl_X8_99 dX8_liking_42 ?_
    refine lv_iload_n hx hb dX8_liking_45 rfl (lv_at hl 5 rfl) ?_
    refine lv_aload_n hx hb dX8_liking_46 rfl (lv_at hl 3 rfl) ?_
    obtain ⟨hT14, hf⟩ := gt_inv hf
    obtain ⟨a15, hP16, hf⟩ := lp_inv hf
    refine r_getP C hw cf8 9 (by decide) rfl hT14 hP16 fl_X8_37 dX8_liking_47 ?_
    obtain ⟨hT20, hf⟩ := gt_inv hf
    obtain ⟨r18, M17, hc19, hf⟩ := cl_inv hf
    refine fin_I (run_V C hw mf_X7_value mv_X7_value ml_X8_102 cf7 hT20 (c_X7_value l G A ad hc19) (As := [.int (mI M8 a6 2), .int (mI M8 a6 3), .int x2, .ref (ad a15)]) (rest := []) hl.1 rfl rfl (Nat.le_of_ble_eq_true rfl) ⟨rfl, rfl, Nat.le_of_ble_eq_true rfl, Nat.le_of_ble_eq_true rfl⟩ ⟨Nat.zero_le _, Nat.zero_le _⟩ dX8_liking_50) hw (fun H locs hw => ?_)
    refine lv_sipush (v := 999) hx hb dX8_liking_53 (by decide) ?_
    obtain ⟨r22, M21, hc23, hf⟩ := cl_inv hf
    refine fin_I (run_S C hw mf_X9_held ms_X9_held ml_X8_106 (c_X9_held l G A ad hc23) (As := [.int r18, .int 999]) (rest := []) hl.1 rfl rfl (Nat.le_of_ble_eq_true rfl) ⟨rfl, rfl, Nat.le_of_ble_eq_true rfl, Nat.le_of_ble_eq_true rfl⟩ ⟨Nat.zero_le _, Nat.zero_le _⟩ dX8_liking_56) hw (fun H locs hw => ?_)
    refine lv_istore (lv' := [(5, .int r22), (4, .ref (ad b11)), (3, .ref (ad a6)), (0, .ref (ad x0)), (1, .int x1), (2, .int x2)]) hx hb dX8_liking_59 hl (by decide) rfl (fun ls hl => ?_)
    exact t_X8_liking_61 C M21 x2 a6 r22 _ _ _ hf hw (lv_sub hl [5, 2, 0] rfl)
/-! StorkVote$Spring.lookAt(LStorkVote$World;I)V -/
abbrev rm_X4_lookAt : Room := { frames := 3, cells := 0, slots := 0, locals := 75 }
def f_X4_lookAt (M : Mem) (x0 : Nat) (x1 : Nat) (x2 : Int32) : Option (Unit × Mem) := gt (mT M x0) 5 (lp (mP M x0 2) (fun a2 => gt (mT M x1) 9 (cl (f_X8_liking M x1 x2 0) (fun r5 M4 => gt (mT M4 a2) 20 (gd (ib x2 (mL M4 a2)) (st (setI M4 a2 x2.toNatClampNeg r5) (fun M10 => gt (mT M10 x0) 5 (lp (mP M10 x0 3) (fun a14 => gt (mT M10 x1) 9 (cl (f_X8_liking M10 x1 x2 1) (fun r17 M16 => gt (mT M16 a14) 20 (gd (ib x2 (mL M16 a14)) (st (setI M16 a14 x2.toNatClampNeg r17) (fun M22 => some ((), M22)))))))))))))))
set_option maxHeartbeats 4000000 in
set_option maxRecDepth 100000 in
theorem c_X4_lookAt (l : Launch) (G : Gd) (A : Nat → Prop) (ad : Nat → Nat) {M : Mem} {x0 : Nat} {x1 : Nat} {x2 : Int32}  {M' : Mem} (hf : f_X4_lookAt M x0 x1 x2 = some ((), M')) : Ct l yX4_lookAt cX4_lookAt 3 none rm_X4_lookAt [.ref (ad x0), .ref (ad x1), .int x2] G A ad M (QV G A ad M') 0 0 := by
  refine ct_start (by decide) (Nat.le_of_ble_eq_true rfl) ?_
  intro p e s m args below meth c ls C hin hw hl
  have C : Cx G A p s m args meth c RX4 cX4_lookAt 3 none := C
  have hl : lv_has ls 3 [(0, .ref (ad x0)), (1, .ref (ad x1)), (2, .int x2)] := hl
  obtain ⟨hx, hb, -⟩ := id C
  rw [f_X4_lookAt] at hf
  refine lv_aload_n hx hb dX4_lookAt_0 rfl (lv_at hl 0 rfl) ?_
  obtain ⟨hT1, hf⟩ := gt_inv hf
  obtain ⟨a2, hP3, hf⟩ := lp_inv hf
  refine r_getP C hw cf4 2 (by decide) rfl hT1 hP3 fl_X4_18 dX4_lookAt_1 ?_
  refine lv_iload_n hx hb dX4_lookAt_4 rfl (lv_at hl 2 rfl) ?_
  refine lv_aload_n hx hb dX4_lookAt_5 rfl (lv_at hl 1 rfl) ?_
  refine lv_iload_n hx hb dX4_lookAt_6 rfl (lv_at hl 2 rfl) ?_
  refine lv_iconst (v := 0) hx hb dX4_lookAt_7 (by decide) ?_
  obtain ⟨hT7, hf⟩ := gt_inv hf
  obtain ⟨r5, M4, hc6, hf⟩ := cl_inv hf
  refine fin_I (run_V C hw mf_X8_liking mv_X8_liking ml_X4_34 cf8 hT7 (c_X8_liking l G A ad hc6) (As := [.int x2, .int 0]) (rest := [.int x2, .ref (ad a2)]) hl.1 rfl rfl (Nat.le_of_ble_eq_true rfl) ⟨rfl, rfl, Nat.le_of_ble_eq_true rfl, Nat.le_of_ble_eq_true rfl⟩ ⟨Nat.zero_le _, Nat.zero_le _⟩ dX4_lookAt_8) hw (fun H locs hw => ?_)
  obtain ⟨hT8, hf⟩ := gt_inv hf
  obtain ⟨hg9, hf⟩ := gd_inv hf
  obtain ⟨M10, e11, hf⟩ := st_inv hf
  have g12 := sg_I e11
  refine r_iast C hw hT8 hg9 e11 dX4_lookAt_11 (fun H locs hw => ?_)
  refine lv_aload_n hx hb dX4_lookAt_12 rfl (lv_at hl 0 rfl) ?_
  obtain ⟨hT13, hf⟩ := gt_inv hf
  obtain ⟨a14, hP15, hf⟩ := lp_inv hf
  refine r_getP C hw cf4 3 (by decide) rfl hT13 hP15 fl_X4_21 dX4_lookAt_13 ?_
  refine lv_iload_n hx hb dX4_lookAt_16 rfl (lv_at hl 2 rfl) ?_
  refine lv_aload_n hx hb dX4_lookAt_17 rfl (lv_at hl 1 rfl) ?_
  refine lv_iload_n hx hb dX4_lookAt_18 rfl (lv_at hl 2 rfl) ?_
  refine lv_iconst (v := 1) hx hb dX4_lookAt_19 (by decide) ?_
  obtain ⟨hT19, hf⟩ := gt_inv hf
  obtain ⟨r17, M16, hc18, hf⟩ := cl_inv hf
  refine fin_I (run_V C hw mf_X8_liking mv_X8_liking ml_X4_34 cf8 hT19 (c_X8_liking l G A ad hc18) (As := [.int x2, .int 1]) (rest := [.int x2, .ref (ad a14)]) hl.1 rfl rfl (Nat.le_of_ble_eq_true rfl) ⟨rfl, rfl, Nat.le_of_ble_eq_true rfl, Nat.le_of_ble_eq_true rfl⟩ ⟨Nat.zero_le _, Nat.zero_le _⟩ dX4_lookAt_20) hw (fun H locs hw => ?_)
  obtain ⟨hT20, hf⟩ := gt_inv hf
  obtain ⟨hg21, hf⟩ := gd_inv hf
  obtain ⟨M22, e23, hf⟩ := st_inv hf
  have g24 := sg_I e23
  refine r_iast C hw hT20 hg21 e23 dX4_lookAt_23 (fun H locs hw => ?_)
  exact e_vret C hw hf dX4_lookAt_24
/-! StorkVote$Spring.look(LStorkVote$World;)V -/
abbrev rm_X4_look : Room := { frames := 4, cells := 0, slots := 0, locals := 97 }
def f_X4_look_2 : Nat → Mem → Nat → Nat → Int32 → Option (Unit × Mem)
  | 0, _, _, _, _ => none
  | n + 1, M, x0, x1, x2 => gt (mT M x1) 9 ((if (mI M x1 1) ≤ x2 then some ((), M) else gt (mT M x0) 5 (cl (f_X4_lookAt M x0 x1 x2) (fun _ M2 => f_X4_look_2 n M2 x0 x1 (x2 + 1)))))
set_option maxHeartbeats 4000000 in
set_option maxRecDepth 100000 in
theorem t_X4_look_2 {l : Launch} {p : Program} {e : Env} {s : State} {m : MethodId} {args : Array Value} {below : List Frame} {meth : Method} {c : Code} {G : Gd} {A : Nat → Prop} {ad : Nat → Nat} (C : Cx G A p s m args meth c RX4 cX4_look 3 none) {M' : Mem} : ∀ (n : Nat) (M : Mem) (x0 : Nat) (x1 : Nat) (x2 : Int32) (H : Heap) (locs : List Loc) (ls : Array Slot), f_X4_look_2  n M x0 x1 x2 = some ((), M') → Wd G A ad s.heap M H locs → lv_has ls 3 [(0, .ref (ad x0)), (1, .ref (ad x1)), (2, .int x2)] → W p l e rm_X4_look s m args below meth c H locs 0 0 (MQ below (QV G A ad M') args s 0 0 A) (F0 m 2 ls []) := by
  obtain ⟨hx, hb, -⟩ := id C
  intro n
  induction n with
  | zero =>
    intro M x0 x1 x2 H locs ls hf
    rw [f_X4_look_2] at hf
    exact absurd hf (fun h => nomatch h)
  | succ n ih =>
    intro M x0 x1 x2 H locs ls hf hw hl
    rw [f_X4_look_2] at hf
    refine lv_iload_n hx hb dX4_look_2 rfl (lv_at hl 2 rfl) ?_
    refine lv_aload_n hx hb dX4_look_3 rfl (lv_at hl 1 rfl) ?_
    obtain ⟨hT1, hf⟩ := gt_inv hf
    refine r_getI C hw cf8 1 (by decide) rfl hT1 fl_X4_24 dX4_look_4 ?_
    refine lv_icmp_ge (tgt := 22) hx hb dX4_look_7 (by decide) (fun hc => ?_) (fun hc => ?_)
    · have hf := if_p hc hf
      exact e_vret C hw hf dX4_look_22
    · have hf := if_n hc hf
      refine lv_aload_n hx hb dX4_look_10 rfl (lv_at hl 0 rfl) ?_
      refine lv_aload_n hx hb dX4_look_11 rfl (lv_at hl 1 rfl) ?_
      refine lv_iload_n hx hb dX4_look_12 rfl (lv_at hl 2 rfl) ?_
      obtain ⟨hT5, hf⟩ := gt_inv hf
      obtain ⟨⟨⟩, M2, hc4, hf⟩ := cl_inv hf
      refine fin_V (run_V C hw mf_X4_lookAt mv_X4_lookAt ml_X4_30 cf4 hT5 (c_X4_lookAt l G A ad hc4) (As := [.ref (ad x1), .int x2]) (rest := []) hl.1 rfl rfl (Nat.le_of_ble_eq_true rfl) ⟨rfl, rfl, Nat.le_of_ble_eq_true rfl, Nat.le_of_ble_eq_true rfl⟩ ⟨Nat.zero_le _, Nat.zero_le _⟩ dX4_look_13) hw (fun H locs hw => ?_)
      refine lv_iinc (v := (x2 + 1)) (lv' := [(2, .int (x2 + 1)), (0, .ref (ad x0)), (1, .ref (ad x1))]) hx hb dX4_look_16 hl (k := 2) rfl rfl (by decide) rfl (fun ls hl => ?_)
      refine lv_goto (tgt := 2) hx hb dX4_look_19 (by decide) ?_
      exact ih M2 x0 x1 (x2 + 1) _ _ _ hf hw (lv_sub hl [1, 2, 0] rfl)
def f_X4_look (M : Mem) (x0 : Nat) (x1 : Nat) : Option (Unit × Mem) := f_X4_look_2 FU M x0 x1 0
set_option maxHeartbeats 4000000 in
set_option maxRecDepth 100000 in
theorem c_X4_look (l : Launch) (G : Gd) (A : Nat → Prop) (ad : Nat → Nat) {M : Mem} {x0 : Nat} {x1 : Nat}  {M' : Mem} (hf : f_X4_look M x0 x1 = some ((), M')) : Ct l yX4_look cX4_look 3 none rm_X4_look [.ref (ad x0), .ref (ad x1)] G A ad M (QV G A ad M') 0 0 := by
  refine ct_start (by decide) (Nat.le_of_ble_eq_true rfl) ?_
  intro p e s m args below meth c ls C hin hw hl
  have C : Cx G A p s m args meth c RX4 cX4_look 3 none := C
  have hl : lv_has ls 3 [(0, .ref (ad x0)), (1, .ref (ad x1))] := hl
  obtain ⟨hx, hb, -⟩ := id C
  rw [f_X4_look] at hf
  refine lv_iconst (v := 0) hx hb dX4_look_0 (by decide) ?_
  refine lv_istore_n (lv' := [(2, .int 0), (0, .ref (ad x0)), (1, .ref (ad x1))]) hx hb dX4_look_1 rfl hl (by decide) rfl (fun ls hl => ?_)
  exact t_X4_look_2 C FU M x0 x1 0 _ _ _ hf hw (lv_sub hl [1, 2, 0] rfl)
/-! StorkVote$Spring.liked(LStorkVote$World;II)I -/
abbrev rm_X4_liked : Room := { frames := 0, cells := 0, slots := 0, locals := 0 }
def f_X4_liked (M : Mem) (x0 : Nat) (x1 : Nat) (x2 : Int32) (x3 : Int32) : Option (Int32 × Mem) := gt (mT M x1) 9 (lp (mP M x1 2) (fun a2 => gt (mT M a2) 24 (gd (ib x2 (mL M a2)) (lp (mP M a2 x2.toNatClampNeg) (fun a6 => gt (mT M a6) 6 ((if (mI M a6 1) = x3 then gt (mT M x0) 5 (lp (mP M x0 3) (fun a15 => gt (mT M a15) 20 (gd (ib x3 (mL M a15)) (some ((mI M a15 x3.toNatClampNeg), M))))) else gt (mT M x0) 5 (lp (mP M x0 2) (fun a10 => gt (mT M a10) 20 (gd (ib x3 (mL M a10)) (some ((mI M a10 x3.toNatClampNeg), M))))))))))))
set_option maxHeartbeats 4000000 in
set_option maxRecDepth 100000 in
theorem c_X4_liked (l : Launch) (G : Gd) (A : Nat → Prop) (ad : Nat → Nat) {M : Mem} {x0 : Nat} {x1 : Nat} {x2 : Int32} {x3 : Int32}  {r : Int32} {M' : Mem} (hf : f_X4_liked M x0 x1 x2 x3 = some (r, M')) : Ct l yX4_liked cX4_liked 4 (some .int) rm_X4_liked [.ref (ad x0), .ref (ad x1), .int x2, .int x3] G A ad M (QI G A ad r M') 0 0 := by
  refine ct_start (by decide) (Nat.le_of_ble_eq_true rfl) ?_
  intro p e s m args below meth c ls C hin hw hl
  have C : Cx G A p s m args meth c RX4 cX4_liked 4 (some .int) := C
  have hl : lv_has ls 4 [(0, .ref (ad x0)), (1, .ref (ad x1)), (2, .int x2), (3, .int x3)] := hl
  obtain ⟨hx, hb, -⟩ := id C
  rw [f_X4_liked] at hf
  refine lv_aload_n hx hb dX4_liked_0 rfl (lv_at hl 1 rfl) ?_
  obtain ⟨hT1, hf⟩ := gt_inv hf
  obtain ⟨a2, hP3, hf⟩ := lp_inv hf
  refine r_getP C hw cf8 2 (by decide) rfl hT1 hP3 fl_X4_38 dX4_liked_1 ?_
  refine lv_iload_n hx hb dX4_liked_4 rfl (lv_at hl 2 rfl) ?_
  obtain ⟨hT4, hf⟩ := gt_inv hf
  obtain ⟨hg5, hf⟩ := gd_inv hf
  obtain ⟨a6, hP7, hf⟩ := lp_inv hf
  refine r_aald C hw 4 rfl (by decide) (by decide) hT4 hg5 hP7 dX4_liked_5 ?_
  obtain ⟨hT8, hf⟩ := gt_inv hf
  refine r_getI C hw cf5 1 (by decide) rfl hT8 fl_X4_42 dX4_liked_6 ?_
  refine lv_iload_n hx hb dX4_liked_9 rfl (lv_at hl 3 rfl) ?_
  refine lv_icmp_ne (tgt := 22) hx hb dX4_liked_10 (by decide) (fun hc => ?_) (fun hc => ?_)
  · have hf := if_n hc hf
    refine lv_aload_n hx hb dX4_liked_22 rfl (lv_at hl 0 rfl) ?_
    obtain ⟨hT9, hf⟩ := gt_inv hf
    obtain ⟨a10, hP11, hf⟩ := lp_inv hf
    refine r_getP C hw cf4 2 (by decide) rfl hT9 hP11 fl_X4_18 dX4_liked_23 ?_
    refine lv_iload_n hx hb dX4_liked_26 rfl (lv_at hl 3 rfl) ?_
    obtain ⟨hT12, hf⟩ := gt_inv hf
    obtain ⟨hg13, hf⟩ := gd_inv hf
    refine r_iald C hw hT12 hg13 dX4_liked_27 ?_
    exact e_iret C hw hf dX4_liked_28
  · have hf := if_p hc hf
    refine lv_aload_n hx hb dX4_liked_13 rfl (lv_at hl 0 rfl) ?_
    obtain ⟨hT14, hf⟩ := gt_inv hf
    obtain ⟨a15, hP16, hf⟩ := lp_inv hf
    refine r_getP C hw cf4 3 (by decide) rfl hT14 hP16 fl_X4_21 dX4_liked_14 ?_
    refine lv_iload_n hx hb dX4_liked_17 rfl (lv_at hl 3 rfl) ?_
    obtain ⟨hT17, hf⟩ := gt_inv hf
    obtain ⟨hg18, hf⟩ := gd_inv hf
    refine r_iald C hw hT17 hg18 dX4_liked_18 ?_
    refine lv_goto (tgt := 28) hx hb dX4_liked_19 (by decide) ?_
    exact e_iret C hw hf dX4_liked_28
/-! StorkVote$Spring.wants(LStorkVote$World;II)Z -/
abbrev rm_X4_wants : Room := { frames := 1, cells := 0, slots := 0, locals := 23 }
def f_X4_wants (M : Mem) (x0 : Nat) (x1 : Nat) (x2 : Int32) (x3 : Int32) : Option (Int32 × Mem) := gt (mT M x0) 5 (cl (f_X4_liked M x0 x1 x2 x3) (fun r2 M1 => gt (mT M1 x1) 9 (lp (mP M1 x1 4) (fun a6 => gt (mT M1 a6) 20 (gd (ib 0 (mL M1 a6)) ((if r2 < (mI M1 a6 (0 : Int32).toNatClampNeg) then some (0, M1) else some (1, M1))))))))
set_option maxHeartbeats 4000000 in
set_option maxRecDepth 100000 in
theorem c_X4_wants (l : Launch) (G : Gd) (A : Nat → Prop) (ad : Nat → Nat) {M : Mem} {x0 : Nat} {x1 : Nat} {x2 : Int32} {x3 : Int32}  {r : Int32} {M' : Mem} (hf : f_X4_wants M x0 x1 x2 x3 = some (r, M')) : Ct l yX4_wants cX4_wants 4 (some .boolean) rm_X4_wants [.ref (ad x0), .ref (ad x1), .int x2, .int x3] G A ad M (QI G A ad r M') 0 0 := by
  refine ct_start (by decide) (Nat.le_of_ble_eq_true rfl) ?_
  intro p e s m args below meth c ls C hin hw hl
  have C : Cx G A p s m args meth c RX4 cX4_wants 4 (some .boolean) := C
  have hl : lv_has ls 4 [(0, .ref (ad x0)), (1, .ref (ad x1)), (2, .int x2), (3, .int x3)] := hl
  obtain ⟨hx, hb, -⟩ := id C
  rw [f_X4_wants] at hf
  refine lv_aload_n hx hb dX4_wants_0 rfl (lv_at hl 0 rfl) ?_
  refine lv_aload_n hx hb dX4_wants_1 rfl (lv_at hl 1 rfl) ?_
  refine lv_iload_n hx hb dX4_wants_2 rfl (lv_at hl 2 rfl) ?_
  refine lv_iload_n hx hb dX4_wants_3 rfl (lv_at hl 3 rfl) ?_
  obtain ⟨hT4, hf⟩ := gt_inv hf
  obtain ⟨r2, M1, hc3, hf⟩ := cl_inv hf
  refine fin_I (run_V C hw mf_X4_liked mv_X4_liked ml_X4_47 cf4 hT4 (c_X4_liked l G A ad hc3) (As := [.ref (ad x1), .int x2, .int x3]) (rest := []) hl.1 rfl rfl (Nat.le_of_ble_eq_true rfl) ⟨rfl, rfl, Nat.le_of_ble_eq_true rfl, Nat.le_of_ble_eq_true rfl⟩ ⟨Nat.zero_le _, Nat.zero_le _⟩ dX4_wants_4) hw (fun H locs hw => ?_)
  refine lv_aload_n hx hb dX4_wants_7 rfl (lv_at hl 1 rfl) ?_
  obtain ⟨hT5, hf⟩ := gt_inv hf
  obtain ⟨a6, hP7, hf⟩ := lp_inv hf
  refine r_getP C hw cf8 4 (by decide) rfl hT5 hP7 fl_X4_51 dX4_wants_8 ?_
  refine lv_iconst (v := 0) hx hb dX4_wants_11 (by decide) ?_
  obtain ⟨hT8, hf⟩ := gt_inv hf
  obtain ⟨hg9, hf⟩ := gd_inv hf
  refine r_iald C hw hT8 hg9 dX4_wants_12 ?_
  refine lv_icmp_lt (tgt := 20) hx hb dX4_wants_13 (by decide) (fun hc => ?_) (fun hc => ?_)
  · have hf := if_p hc hf
    refine lv_iconst (v := 0) hx hb dX4_wants_20 (by decide) ?_
    exact e_zret C hw rfl hf dX4_wants_21
  · have hf := if_n hc hf
    refine lv_iconst (v := 1) hx hb dX4_wants_16 (by decide) ?_
    refine lv_goto (tgt := 21) hx hb dX4_wants_17 (by decide) ?_
    exact e_zret C hw rfl hf dX4_wants_21
/-! StorkVote$World.keepsFirst(II)Z -/
abbrev rm_X8_keepsFirst : Room := { frames := 0, cells := 0, slots := 0, locals := 0 }
def f_X8_keepsFirst (M : Mem) (x0 : Nat) (x1 : Int32) (x2 : Int32) : Option (Int32 × Mem) := gt (mT M x0) 9 (lp (mP M x0 2) (fun a2 => gt (mT M a2) 24 (gd (ib x1 (mL M a2)) (lp (mP M a2 x1.toNatClampNeg) (fun a6 => gt (mT M a6) 6 (gd (ib x2 (mL M a2)) (lp (mP M a2 x2.toNatClampNeg) (fun a10 => gt (mT M a10) 6 ((if (mI M a6 0) = (mI M a10 0) then (if x2 ≤ x1 then some (0, M) else some (1, M)) else gd (ib x1 (mL M a2)) (lp (mP M a2 x1.toNatClampNeg) (fun a14 => gt (mT M a14) 6 (gd (ib x2 (mL M a2)) (lp (mP M a2 x2.toNatClampNeg) (fun a18 => gt (mT M a18) 6 ((if (mI M a14 0) ≤ (mI M a18 0) then some (0, M) else some (1, M))))))))))))))))))
set_option maxHeartbeats 4000000 in
set_option maxRecDepth 100000 in
theorem c_X8_keepsFirst (l : Launch) (G : Gd) (A : Nat → Prop) (ad : Nat → Nat) {M : Mem} {x0 : Nat} {x1 : Int32} {x2 : Int32}  {r : Int32} {M' : Mem} (hf : f_X8_keepsFirst M x0 x1 x2 = some (r, M')) : Ct l yX8_keepsFirst cX8_keepsFirst 3 (some .boolean) rm_X8_keepsFirst [.ref (ad x0), .int x1, .int x2] G A ad M (QI G A ad r M') 0 0 := by
  refine ct_start (by decide) (Nat.le_of_ble_eq_true rfl) ?_
  intro p e s m args below meth c ls C hin hw hl
  have C : Cx G A p s m args meth c RX8 cX8_keepsFirst 3 (some .boolean) := C
  have hl : lv_has ls 3 [(0, .ref (ad x0)), (1, .int x1), (2, .int x2)] := hl
  obtain ⟨hx, hb, -⟩ := id C
  rw [f_X8_keepsFirst] at hf
  refine lv_aload_n hx hb dX8_keepsFirst_0 rfl (lv_at hl 0 rfl) ?_
  obtain ⟨hT1, hf⟩ := gt_inv hf
  obtain ⟨a2, hP3, hf⟩ := lp_inv hf
  refine r_getP C hw cf8 2 (by decide) rfl hT1 hP3 fl_X8_19 dX8_keepsFirst_1 ?_
  refine lv_iload_n hx hb dX8_keepsFirst_4 rfl (lv_at hl 1 rfl) ?_
  obtain ⟨hT4, hf⟩ := gt_inv hf
  obtain ⟨hg5, hf⟩ := gd_inv hf
  obtain ⟨a6, hP7, hf⟩ := lp_inv hf
  refine r_aald C hw 4 rfl (by decide) (by decide) hT4 hg5 hP7 dX8_keepsFirst_5 ?_
  obtain ⟨hT8, hf⟩ := gt_inv hf
  refine r_getI C hw cf5 0 (by decide) rfl hT8 fl_X8_113 dX8_keepsFirst_6 ?_
  refine lv_aload_n hx hb dX8_keepsFirst_9 rfl (lv_at hl 0 rfl) ?_
  refine r_getP C hw cf8 2 (by decide) rfl hT1 hP3 fl_X8_19 dX8_keepsFirst_10 ?_
  refine lv_iload_n hx hb dX8_keepsFirst_13 rfl (lv_at hl 2 rfl) ?_
  obtain ⟨hg9, hf⟩ := gd_inv hf
  obtain ⟨a10, hP11, hf⟩ := lp_inv hf
  refine r_aald C hw 4 rfl (by decide) (by decide) hT4 hg9 hP11 dX8_keepsFirst_14 ?_
  obtain ⟨hT12, hf⟩ := gt_inv hf
  refine r_getI C hw cf5 0 (by decide) rfl hT12 fl_X8_113 dX8_keepsFirst_15 ?_
  refine lv_icmp_eq (tgt := 48) hx hb dX8_keepsFirst_18 (by decide) (fun hc => ?_) (fun hc => ?_)
  · have hf := if_p hc hf
    refine lv_iload_n hx hb dX8_keepsFirst_48 rfl (lv_at hl 1 rfl) ?_
    refine lv_iload_n hx hb dX8_keepsFirst_49 rfl (lv_at hl 2 rfl) ?_
    refine lv_icmp_ge (tgt := 57) hx hb dX8_keepsFirst_50 (by decide) (fun hc => ?_) (fun hc => ?_)
    · have hf := if_p hc hf
      refine lv_iconst (v := 0) hx hb dX8_keepsFirst_57 (by decide) ?_
      exact e_zret C hw rfl hf dX8_keepsFirst_58
    · have hf := if_n hc hf
      refine lv_iconst (v := 1) hx hb dX8_keepsFirst_53 (by decide) ?_
      refine lv_goto (tgt := 58) hx hb dX8_keepsFirst_54 (by decide) ?_
      exact e_zret C hw rfl hf dX8_keepsFirst_58
  · have hf := if_n hc hf
    refine lv_aload_n hx hb dX8_keepsFirst_21 rfl (lv_at hl 0 rfl) ?_
    refine r_getP C hw cf8 2 (by decide) rfl hT1 hP3 fl_X8_19 dX8_keepsFirst_22 ?_
    refine lv_iload_n hx hb dX8_keepsFirst_25 rfl (lv_at hl 1 rfl) ?_
    obtain ⟨hg13, hf⟩ := gd_inv hf
    obtain ⟨a14, hP15, hf⟩ := lp_inv hf
    refine r_aald C hw 4 rfl (by decide) (by decide) hT4 hg13 hP15 dX8_keepsFirst_26 ?_
    obtain ⟨hT16, hf⟩ := gt_inv hf
    refine r_getI C hw cf5 0 (by decide) rfl hT16 fl_X8_113 dX8_keepsFirst_27 ?_
    refine lv_aload_n hx hb dX8_keepsFirst_30 rfl (lv_at hl 0 rfl) ?_
    refine r_getP C hw cf8 2 (by decide) rfl hT1 hP3 fl_X8_19 dX8_keepsFirst_31 ?_
    refine lv_iload_n hx hb dX8_keepsFirst_34 rfl (lv_at hl 2 rfl) ?_
    obtain ⟨hg17, hf⟩ := gd_inv hf
    obtain ⟨a18, hP19, hf⟩ := lp_inv hf
    refine r_aald C hw 4 rfl (by decide) (by decide) hT4 hg17 hP19 dX8_keepsFirst_35 ?_
    obtain ⟨hT20, hf⟩ := gt_inv hf
    refine r_getI C hw cf5 0 (by decide) rfl hT20 fl_X8_113 dX8_keepsFirst_36 ?_
    refine lv_icmp_le (tgt := 46) hx hb dX8_keepsFirst_39 (by decide) (fun hc => ?_) (fun hc => ?_)
    · have hf := if_p hc hf
      refine lv_iconst (v := 0) hx hb dX8_keepsFirst_46 (by decide) ?_
      exact e_zret C hw rfl hf dX8_keepsFirst_47
    · have hf := if_n hc hf
      refine lv_iconst (v := 1) hx hb dX8_keepsFirst_42 (by decide) ?_
      refine lv_goto (tgt := 47) hx hb dX8_keepsFirst_43 (by decide) ?_
      exact e_zret C hw rfl hf dX8_keepsFirst_47
/-! StorkVote$Spring.strongest(LStorkVote$World;I)I -/
abbrev rm_X4_strongest : Room := { frames := 1, cells := 0, slots := 0, locals := 22 }
def f_X4_strongest_42 (K6 : Mem → Nat → Int32 → Int32 → Int32 → Option (Int32 × Mem)) (M : Mem) (x1 : Nat) (x2 : Int32) (x3 : Int32) (x4 : Int32) (s0 : Int32) : Option (Int32 × Mem) := (if s0 = 0 then K6 M x1 x2 x3 (x4 + 1) else (if x3 = (-1000000005) then K6 M x1 x2 x4 (x4 + 1) else gt (mT M x1) 9 (cl (f_X8_keepsFirst M x1 x4 x3) (fun r2 M1 => (if r2 = 0 then K6 M1 x1 x2 x3 (x4 + 1) else K6 M1 x1 x2 x4 (x4 + 1))))))
set_option maxHeartbeats 4000000 in
set_option maxRecDepth 100000 in
theorem t_X4_strongest_42 {l : Launch} {p : Program} {e : Env} {s : State} {m : MethodId} {args : Array Value} {below : List Frame} {meth : Method} {c : Code} {G : Gd} {A : Nat → Prop} {ad : Nat → Nat} (C : Cx G A p s m args meth c RX4 cX4_strongest 6 (some .int)) {r : Int32} {M' : Mem} {K6 : Mem → Nat → Int32 → Int32 → Int32 → Option (Int32 × Mem)} (hK6 : ∀ (M : Mem) (x1 : Nat) (x2 : Int32) (x3 : Int32) (x4 : Int32) (H : Heap) (locs : List Loc) (ls : Array Slot), K6 M x1 x2 x3 x4 = some (r, M') → Wd G A ad s.heap M H locs → lv_has ls 6 [(1, .ref (ad x1)), (2, .int x2), (3, .int x3), (4, .int x4)] → W p l e rm_X4_strongest s m args below meth c H locs 0 0 (MQ below (QI G A ad r M') args s 0 0 A) (F0 m 6 ls [])) : ∀ (M : Mem) (x1 : Nat) (x2 : Int32) (x3 : Int32) (x4 : Int32) (s0 : Int32) (H : Heap) (locs : List Loc) (ls : Array Slot), f_X4_strongest_42 K6 M x1 x2 x3 x4 s0 = some (r, M') → Wd G A ad s.heap M H locs → lv_has ls 6 [(1, .ref (ad x1)), (2, .int x2), (3, .int x3), (4, .int x4)] → W p l e rm_X4_strongest s m args below meth c H locs 0 0 (MQ below (QI G A ad r M') args s 0 0 A) (F0 m 42 ls [.int s0]) := by
  obtain ⟨hx, hb, -⟩ := id C
  intro M x1 x2 x3 x4 s0 H locs ls hf hw hl
  rw [f_X4_strongest_42] at hf
  refine lv_istore (lv' := [(5, .int s0), (1, .ref (ad x1)), (2, .int x2), (3, .int x3), (4, .int x4)]) hx hb dX4_strongest_42 hl (by decide) rfl (fun ls hl => ?_)
  refine lv_iload hx hb dX4_strongest_44 (lv_at hl 0 rfl) ?_
  refine lv_if_eq (tgt := 68) hx hb dX4_strongest_46 (by decide) (fun hc => ?_) (fun hc => ?_)
  · have hf := if_p hc hf
    refine lv_iinc (v := (x4 + 1)) (lv' := [(4, .int (x4 + 1)), (5, .int s0), (1, .ref (ad x1)), (2, .int x2), (3, .int x3)]) hx hb dX4_strongest_68 hl (k := 4) rfl rfl (by decide) rfl (fun ls hl => ?_)
    refine lv_goto (tgt := 6) hx hb dX4_strongest_71 (by decide) ?_
    exact hK6 M x1 x2 x3 (x4 + 1) _ _ _ hf hw (lv_sub hl [2, 3, 4, 0] rfl)
  · have hf := if_n hc hf
    refine lv_iload_n hx hb dX4_strongest_49 rfl (lv_at hl 3 rfl) ?_
    refine lv_ldc hx hb C.2.2.2.1 (C.2.2.2.2.1 _ kc_X4_54) dX4_strongest_50 ?_
    refine lv_icmp_eq (tgt := 65) hx hb dX4_strongest_52 (by decide) (fun hc => ?_) (fun hc => ?_)
    · have hf := if_p hc hf
      refine lv_iload hx hb dX4_strongest_65 (lv_at hl 4 rfl) ?_
      refine lv_istore_n (lv' := [(3, .int x4), (5, .int s0), (1, .ref (ad x1)), (2, .int x2), (4, .int x4)]) hx hb dX4_strongest_67 rfl hl (by decide) rfl (fun ls hl => ?_)
      refine lv_iinc (v := (x4 + 1)) (lv' := [(4, .int (x4 + 1)), (3, .int x4), (5, .int s0), (1, .ref (ad x1)), (2, .int x2)]) hx hb dX4_strongest_68 hl (k := 4) rfl rfl (by decide) rfl (fun ls hl => ?_)
      refine lv_goto (tgt := 6) hx hb dX4_strongest_71 (by decide) ?_
      exact hK6 M x1 x2 x4 (x4 + 1) _ _ _ hf hw (lv_sub hl [3, 4, 1, 0] rfl)
    · have hf := if_n hc hf
      refine lv_aload_n hx hb dX4_strongest_55 rfl (lv_at hl 1 rfl) ?_
      refine lv_iload hx hb dX4_strongest_56 (lv_at hl 4 rfl) ?_
      refine lv_iload_n hx hb dX4_strongest_58 rfl (lv_at hl 3 rfl) ?_
      obtain ⟨hT4, hf⟩ := gt_inv hf
      obtain ⟨r2, M1, hc3, hf⟩ := cl_inv hf
      refine fin_I (run_V C hw mf_X8_keepsFirst mv_X8_keepsFirst ml_X4_79 cf8 hT4 (c_X8_keepsFirst l G A ad hc3) (As := [.int x4, .int x3]) (rest := []) hl.1 rfl rfl (Nat.le_of_ble_eq_true rfl) ⟨rfl, rfl, Nat.le_of_ble_eq_true rfl, Nat.le_of_ble_eq_true rfl⟩ ⟨Nat.zero_le _, Nat.zero_le _⟩ dX4_strongest_59) hw (fun H locs hw => ?_)
      refine lv_if_eq (tgt := 68) hx hb dX4_strongest_62 (by decide) (fun hc => ?_) (fun hc => ?_)
      · have hf := if_p hc hf
        refine lv_iinc (v := (x4 + 1)) (lv' := [(4, .int (x4 + 1)), (5, .int s0), (1, .ref (ad x1)), (2, .int x2), (3, .int x3)]) hx hb dX4_strongest_68 hl (k := 4) rfl rfl (by decide) rfl (fun ls hl => ?_)
        refine lv_goto (tgt := 6) hx hb dX4_strongest_71 (by decide) ?_
        exact hK6 M1 x1 x2 x3 (x4 + 1) _ _ _ hf hw (lv_sub hl [2, 3, 4, 0] rfl)
      · have hf := if_n hc hf
        refine lv_iload hx hb dX4_strongest_65 (lv_at hl 4 rfl) ?_
        refine lv_istore_n (lv' := [(3, .int x4), (5, .int s0), (1, .ref (ad x1)), (2, .int x2), (4, .int x4)]) hx hb dX4_strongest_67 rfl hl (by decide) rfl (fun ls hl => ?_)
        refine lv_iinc (v := (x4 + 1)) (lv' := [(4, .int (x4 + 1)), (3, .int x4), (5, .int s0), (1, .ref (ad x1)), (2, .int x2)]) hx hb dX4_strongest_68 hl (k := 4) rfl rfl (by decide) rfl (fun ls hl => ?_)
        refine lv_goto (tgt := 6) hx hb dX4_strongest_71 (by decide) ?_
        exact hK6 M1 x1 x2 x4 (x4 + 1) _ _ _ hf hw (lv_sub hl [3, 4, 1, 0] rfl)
def f_X4_strongest_6 : Nat → Mem → Nat → Int32 → Int32 → Int32 → Option (Int32 × Mem)
  | 0, _, _, _, _, _ => none
  | n + 1, M, x1, x2, x3, x4 => gt (mT M x1) 9 ((if (mI M x1 3) ≤ x4 then some (x3, M) else lp (mP M x1 2) (fun a2 => gt (mT M a2) 24 (gd (ib x4 (mL M a2)) (lp (mP M a2 x4.toNatClampNeg) (fun a6 => gt (mT M a6) 6 ((if (mI M a6 2) = 0 then (if ((ushr x2 x4) &&& 1) = 0 then f_X4_strongest_42 (f_X4_strongest_6 n) M x1 x2 x3 x4 1 else f_X4_strongest_42 (f_X4_strongest_6 n) M x1 x2 x3 x4 0) else f_X4_strongest_42 (f_X4_strongest_6 n) M x1 x2 x3 x4 0))))))))
set_option maxHeartbeats 4000000 in
set_option maxRecDepth 100000 in
theorem t_X4_strongest_6 {l : Launch} {p : Program} {e : Env} {s : State} {m : MethodId} {args : Array Value} {below : List Frame} {meth : Method} {c : Code} {G : Gd} {A : Nat → Prop} {ad : Nat → Nat} (C : Cx G A p s m args meth c RX4 cX4_strongest 6 (some .int)) {r : Int32} {M' : Mem} : ∀ (n : Nat) (M : Mem) (x1 : Nat) (x2 : Int32) (x3 : Int32) (x4 : Int32) (H : Heap) (locs : List Loc) (ls : Array Slot), f_X4_strongest_6  n M x1 x2 x3 x4 = some (r, M') → Wd G A ad s.heap M H locs → lv_has ls 6 [(1, .ref (ad x1)), (2, .int x2), (3, .int x3), (4, .int x4)] → W p l e rm_X4_strongest s m args below meth c H locs 0 0 (MQ below (QI G A ad r M') args s 0 0 A) (F0 m 6 ls []) := by
  obtain ⟨hx, hb, -⟩ := id C
  intro n
  induction n with
  | zero =>
    intro M x1 x2 x3 x4 H locs ls hf
    rw [f_X4_strongest_6] at hf
    exact absurd hf (fun h => nomatch h)
  | succ n ih =>
    intro M x1 x2 x3 x4 H locs ls hf hw hl
    rw [f_X4_strongest_6] at hf
    refine lv_iload hx hb dX4_strongest_6 (lv_at hl 3 rfl) ?_
    refine lv_aload_n hx hb dX4_strongest_8 rfl (lv_at hl 0 rfl) ?_
    obtain ⟨hT1, hf⟩ := gt_inv hf
    refine r_getI C hw cf8 3 (by decide) rfl hT1 fl_X4_61 dX4_strongest_9 ?_
    refine lv_icmp_ge (tgt := 74) hx hb dX4_strongest_12 (by decide) (fun hc => ?_) (fun hc => ?_)
    · have hf := if_p hc hf
      refine lv_iload_n hx hb dX4_strongest_74 rfl (lv_at hl 2 rfl) ?_
      exact e_iret C hw hf dX4_strongest_75
    · have hf := if_n hc hf
      refine lv_aload_n hx hb dX4_strongest_15 rfl (lv_at hl 0 rfl) ?_
      obtain ⟨a2, hP3, hf⟩ := lp_inv hf
      refine r_getP C hw cf8 2 (by decide) rfl hT1 hP3 fl_X4_38 dX4_strongest_16 ?_
      refine lv_iload hx hb dX4_strongest_19 (lv_at hl 3 rfl) ?_
      obtain ⟨hT4, hf⟩ := gt_inv hf
      obtain ⟨hg5, hf⟩ := gd_inv hf
      obtain ⟨a6, hP7, hf⟩ := lp_inv hf
      refine r_aald C hw 4 rfl (by decide) (by decide) hT4 hg5 hP7 dX4_strongest_21 ?_
      obtain ⟨hT8, hf⟩ := gt_inv hf
      refine r_getI C hw cf5 2 (by decide) rfl hT8 fl_X4_75 dX4_strongest_22 ?_
      refine lv_if_ne (tgt := 41) hx hb dX4_strongest_25 (by decide) (fun hc => ?_) (fun hc => ?_)
      · have hf := if_n hc hf
        refine lv_iconst (v := 0) hx hb dX4_strongest_41 (by decide) ?_
        exact t_X4_strongest_42 C ih M x1 x2 x3 x4 0 _ _ _ hf hw (lv_sub hl [0, 1, 2, 3] rfl)
      · have hf := if_p hc hf
        refine lv_iload_n hx hb dX4_strongest_28 rfl (lv_at hl 1 rfl) ?_
        refine lv_iload hx hb dX4_strongest_29 (lv_at hl 3 rfl) ?_
        refine lv_iushr (v := ushr x2 x4) hx hb dX4_strongest_31 rfl ?_
        refine lv_iconst (v := 1) hx hb dX4_strongest_32 (by decide) ?_
        refine lv_iand hx hb dX4_strongest_33 ?_
        refine lv_if_ne (tgt := 41) hx hb dX4_strongest_34 (by decide) (fun hc => ?_) (fun hc => ?_)
        · have hf := if_n hc hf
          refine lv_iconst (v := 0) hx hb dX4_strongest_41 (by decide) ?_
          exact t_X4_strongest_42 C ih M x1 x2 x3 x4 0 _ _ _ hf hw (lv_sub hl [0, 1, 2, 3] rfl)
        · have hf := if_p hc hf
          refine lv_iconst (v := 1) hx hb dX4_strongest_37 (by decide) ?_
          refine lv_goto (tgt := 42) hx hb dX4_strongest_38 (by decide) ?_
          exact t_X4_strongest_42 C ih M x1 x2 x3 x4 1 _ _ _ hf hw (lv_sub hl [0, 1, 2, 3] rfl)
def f_X4_strongest (M : Mem) (x0 : Nat) (x1 : Nat) (x2 : Int32) : Option (Int32 × Mem) := f_X4_strongest_6 FU M x1 x2 (-1000000005) 0
set_option maxHeartbeats 4000000 in
set_option maxRecDepth 100000 in
theorem c_X4_strongest (l : Launch) (G : Gd) (A : Nat → Prop) (ad : Nat → Nat) {M : Mem} {x0 : Nat} {x1 : Nat} {x2 : Int32}  {r : Int32} {M' : Mem} (hf : f_X4_strongest M x0 x1 x2 = some (r, M')) : Ct l yX4_strongest cX4_strongest 6 (some .int) rm_X4_strongest [.ref (ad x0), .ref (ad x1), .int x2] G A ad M (QI G A ad r M') 0 0 := by
  refine ct_start (by decide) (Nat.le_of_ble_eq_true rfl) ?_
  intro p e s m args below meth c ls C hin hw hl
  have C : Cx G A p s m args meth c RX4 cX4_strongest 6 (some .int) := C
  have hl : lv_has ls 6 [(0, .ref (ad x0)), (1, .ref (ad x1)), (2, .int x2)] := hl
  obtain ⟨hx, hb, -⟩ := id C
  rw [f_X4_strongest] at hf
  refine lv_ldc hx hb C.2.2.2.1 (C.2.2.2.2.1 _ kc_X4_54) dX4_strongest_0 ?_
  refine lv_istore_n (lv' := [(3, .int (-1000000005)), (0, .ref (ad x0)), (1, .ref (ad x1)), (2, .int x2)]) hx hb dX4_strongest_2 rfl hl (by decide) rfl (fun ls hl => ?_)
  refine lv_iconst (v := 0) hx hb dX4_strongest_3 (by decide) ?_
  refine lv_istore (lv' := [(4, .int 0), (3, .int (-1000000005)), (0, .ref (ad x0)), (1, .ref (ad x1)), (2, .int x2)]) hx hb dX4_strongest_4 hl (by decide) rfl (fun ls hl => ?_)
  exact t_X4_strongest_6 C FU M x1 x2 (-1000000005) 0 _ _ _ hf hw (lv_sub hl [3, 4, 1, 0] rfl)
/-! StorkVote$Spring.bestLeft(LStorkVote$World;II)I -/
abbrev rm_X4_bestLeft : Room := { frames := 2, cells := 0, slots := 0, locals := 46 }
def f_X4_bestLeft_50 (K7 : Mem → Nat → Nat → Int32 → Int32 → Int32 → Int32 → Option (Int32 × Mem)) (M : Mem) (x0 : Nat) (x1 : Nat) (x2 : Int32) (x3 : Int32) (x4 : Int32) (x5 : Int32) (s0 : Int32) : Option (Int32 × Mem) := (if s0 = 0 then K7 M x0 x1 x2 x3 x4 (x5 + 1) else (if x4 = (-1000000005) then K7 M x0 x1 x2 x3 x5 (x5 + 1) else gt (mT M x0) 5 (cl (f_X4_liked M x0 x1 x2 x5) (fun r2 M1 => gt (mT M1 x0) 5 (cl (f_X4_liked M1 x0 x1 x2 x4) (fun r6 M5 => (if r2 ≤ r6 then K7 M5 x0 x1 x2 x3 x4 (x5 + 1) else K7 M5 x0 x1 x2 x3 x5 (x5 + 1))))))))
set_option maxHeartbeats 4000000 in
set_option maxRecDepth 100000 in
theorem t_X4_bestLeft_50 {l : Launch} {p : Program} {e : Env} {s : State} {m : MethodId} {args : Array Value} {below : List Frame} {meth : Method} {c : Code} {G : Gd} {A : Nat → Prop} {ad : Nat → Nat} (C : Cx G A p s m args meth c RX4 cX4_bestLeft 7 (some .int)) {r : Int32} {M' : Mem} {K7 : Mem → Nat → Nat → Int32 → Int32 → Int32 → Int32 → Option (Int32 × Mem)} (hK7 : ∀ (M : Mem) (x0 : Nat) (x1 : Nat) (x2 : Int32) (x3 : Int32) (x4 : Int32) (x5 : Int32) (H : Heap) (locs : List Loc) (ls : Array Slot), K7 M x0 x1 x2 x3 x4 x5 = some (r, M') → Wd G A ad s.heap M H locs → lv_has ls 7 [(0, .ref (ad x0)), (1, .ref (ad x1)), (2, .int x2), (3, .int x3), (4, .int x4), (5, .int x5)] → W p l e rm_X4_bestLeft s m args below meth c H locs 0 0 (MQ below (QI G A ad r M') args s 0 0 A) (F0 m 7 ls [])) : ∀ (M : Mem) (x0 : Nat) (x1 : Nat) (x2 : Int32) (x3 : Int32) (x4 : Int32) (x5 : Int32) (s0 : Int32) (H : Heap) (locs : List Loc) (ls : Array Slot), f_X4_bestLeft_50 K7 M x0 x1 x2 x3 x4 x5 s0 = some (r, M') → Wd G A ad s.heap M H locs → lv_has ls 7 [(0, .ref (ad x0)), (1, .ref (ad x1)), (2, .int x2), (3, .int x3), (4, .int x4), (5, .int x5)] → W p l e rm_X4_bestLeft s m args below meth c H locs 0 0 (MQ below (QI G A ad r M') args s 0 0 A) (F0 m 50 ls [.int s0]) := by
  obtain ⟨hx, hb, -⟩ := id C
  intro M x0 x1 x2 x3 x4 x5 s0 H locs ls hf hw hl
  rw [f_X4_bestLeft_50] at hf
  refine lv_istore (lv' := [(6, .int s0), (0, .ref (ad x0)), (1, .ref (ad x1)), (2, .int x2), (3, .int x3), (4, .int x4), (5, .int x5)]) hx hb dX4_bestLeft_50 hl (by decide) rfl (fun ls hl => ?_)
  refine lv_iload hx hb dX4_bestLeft_52 (lv_at hl 0 rfl) ?_
  refine lv_if_eq (tgt := 87) hx hb dX4_bestLeft_54 (by decide) (fun hc => ?_) (fun hc => ?_)
  · have hf := if_p hc hf
    refine lv_iinc (v := (x5 + 1)) (lv' := [(5, .int (x5 + 1)), (6, .int s0), (0, .ref (ad x0)), (1, .ref (ad x1)), (2, .int x2), (3, .int x3), (4, .int x4)]) hx hb dX4_bestLeft_87 hl (k := 6) rfl rfl (by decide) rfl (fun ls hl => ?_)
    refine lv_goto (tgt := 7) hx hb dX4_bestLeft_90 (by decide) ?_
    exact hK7 M x0 x1 x2 x3 x4 (x5 + 1) _ _ _ hf hw (lv_sub hl [2, 3, 4, 5, 6, 0] rfl)
  · have hf := if_n hc hf
    refine lv_iload hx hb dX4_bestLeft_57 (lv_at hl 5 rfl) ?_
    refine lv_ldc hx hb C.2.2.2.1 (C.2.2.2.2.1 _ kc_X4_54) dX4_bestLeft_59 ?_
    refine lv_icmp_eq (tgt := 83) hx hb dX4_bestLeft_61 (by decide) (fun hc => ?_) (fun hc => ?_)
    · have hf := if_p hc hf
      refine lv_iload hx hb dX4_bestLeft_83 (lv_at hl 6 rfl) ?_
      refine lv_istore (lv' := [(4, .int x5), (6, .int s0), (0, .ref (ad x0)), (1, .ref (ad x1)), (2, .int x2), (3, .int x3), (5, .int x5)]) hx hb dX4_bestLeft_85 hl (by decide) rfl (fun ls hl => ?_)
      refine lv_iinc (v := (x5 + 1)) (lv' := [(5, .int (x5 + 1)), (4, .int x5), (6, .int s0), (0, .ref (ad x0)), (1, .ref (ad x1)), (2, .int x2), (3, .int x3)]) hx hb dX4_bestLeft_87 hl (k := 6) rfl rfl (by decide) rfl (fun ls hl => ?_)
      refine lv_goto (tgt := 7) hx hb dX4_bestLeft_90 (by decide) ?_
      exact hK7 M x0 x1 x2 x3 x5 (x5 + 1) _ _ _ hf hw (lv_sub hl [3, 4, 5, 6, 1, 0] rfl)
    · have hf := if_n hc hf
      refine lv_aload_n hx hb dX4_bestLeft_64 rfl (lv_at hl 1 rfl) ?_
      refine lv_aload_n hx hb dX4_bestLeft_65 rfl (lv_at hl 2 rfl) ?_
      refine lv_iload_n hx hb dX4_bestLeft_66 rfl (lv_at hl 3 rfl) ?_
      refine lv_iload hx hb dX4_bestLeft_67 (lv_at hl 6 rfl) ?_
      obtain ⟨hT4, hf⟩ := gt_inv hf
      obtain ⟨r2, M1, hc3, hf⟩ := cl_inv hf
      refine fin_I (run_V C hw mf_X4_liked mv_X4_liked ml_X4_47 cf4 hT4 (c_X4_liked l G A ad hc3) (As := [.ref (ad x1), .int x2, .int x5]) (rest := []) hl.1 rfl rfl (Nat.le_of_ble_eq_true rfl) ⟨rfl, rfl, Nat.le_of_ble_eq_true rfl, Nat.le_of_ble_eq_true rfl⟩ ⟨Nat.zero_le _, Nat.zero_le _⟩ dX4_bestLeft_69) hw (fun H locs hw => ?_)
      refine lv_aload_n hx hb dX4_bestLeft_72 rfl (lv_at hl 1 rfl) ?_
      refine lv_aload_n hx hb dX4_bestLeft_73 rfl (lv_at hl 2 rfl) ?_
      refine lv_iload_n hx hb dX4_bestLeft_74 rfl (lv_at hl 3 rfl) ?_
      refine lv_iload hx hb dX4_bestLeft_75 (lv_at hl 5 rfl) ?_
      obtain ⟨hT8, hf⟩ := gt_inv hf
      obtain ⟨r6, M5, hc7, hf⟩ := cl_inv hf
      refine fin_I (run_V C hw mf_X4_liked mv_X4_liked ml_X4_47 cf4 hT8 (c_X4_liked l G A ad hc7) (As := [.ref (ad x1), .int x2, .int x4]) (rest := [.int r2]) hl.1 rfl rfl (Nat.le_of_ble_eq_true rfl) ⟨rfl, rfl, Nat.le_of_ble_eq_true rfl, Nat.le_of_ble_eq_true rfl⟩ ⟨Nat.zero_le _, Nat.zero_le _⟩ dX4_bestLeft_77) hw (fun H locs hw => ?_)
      refine lv_icmp_le (tgt := 87) hx hb dX4_bestLeft_80 (by decide) (fun hc => ?_) (fun hc => ?_)
      · have hf := if_p hc hf
        refine lv_iinc (v := (x5 + 1)) (lv' := [(5, .int (x5 + 1)), (6, .int s0), (0, .ref (ad x0)), (1, .ref (ad x1)), (2, .int x2), (3, .int x3), (4, .int x4)]) hx hb dX4_bestLeft_87 hl (k := 6) rfl rfl (by decide) rfl (fun ls hl => ?_)
        refine lv_goto (tgt := 7) hx hb dX4_bestLeft_90 (by decide) ?_
        exact hK7 M5 x0 x1 x2 x3 x4 (x5 + 1) _ _ _ hf hw (lv_sub hl [2, 3, 4, 5, 6, 0] rfl)
      · have hf := if_n hc hf
        refine lv_iload hx hb dX4_bestLeft_83 (lv_at hl 6 rfl) ?_
        refine lv_istore (lv' := [(4, .int x5), (6, .int s0), (0, .ref (ad x0)), (1, .ref (ad x1)), (2, .int x2), (3, .int x3), (5, .int x5)]) hx hb dX4_bestLeft_85 hl (by decide) rfl (fun ls hl => ?_)
        refine lv_iinc (v := (x5 + 1)) (lv' := [(5, .int (x5 + 1)), (4, .int x5), (6, .int s0), (0, .ref (ad x0)), (1, .ref (ad x1)), (2, .int x2), (3, .int x3)]) hx hb dX4_bestLeft_87 hl (k := 6) rfl rfl (by decide) rfl (fun ls hl => ?_)
        refine lv_goto (tgt := 7) hx hb dX4_bestLeft_90 (by decide) ?_
        exact hK7 M5 x0 x1 x2 x3 x5 (x5 + 1) _ _ _ hf hw (lv_sub hl [3, 4, 5, 6, 1, 0] rfl)
def f_X4_bestLeft_7 : Nat → Mem → Nat → Nat → Int32 → Int32 → Int32 → Int32 → Option (Int32 × Mem)
  | 0, _, _, _, _, _, _, _ => none
  | n + 1, M, x0, x1, x2, x3, x4, x5 => gt (mT M x1) 9 ((if (mI M x1 1) ≤ x5 then some (x4, M) else (if x5 = x3 then f_X4_bestLeft_50 (f_X4_bestLeft_7 n) M x0 x1 x2 x3 x4 x5 0 else gt (mT M x0) 5 (lp (mP M x0 1) (fun a3 => gt (mT M a3) 20 (gd (ib x5 (mL M a3)) ((if (mI M a3 x5.toNatClampNeg) = (-1000000005) then cl (f_X4_wants M x0 x1 x2 x5) (fun r8 M7 => (if r8 = 0 then f_X4_bestLeft_50 (f_X4_bestLeft_7 n) M7 x0 x1 x2 x3 x4 x5 0 else f_X4_bestLeft_50 (f_X4_bestLeft_7 n) M7 x0 x1 x2 x3 x4 x5 1)) else f_X4_bestLeft_50 (f_X4_bestLeft_7 n) M x0 x1 x2 x3 x4 x5 0))))))))
set_option maxHeartbeats 4000000 in
set_option maxRecDepth 100000 in
theorem t_X4_bestLeft_7 {l : Launch} {p : Program} {e : Env} {s : State} {m : MethodId} {args : Array Value} {below : List Frame} {meth : Method} {c : Code} {G : Gd} {A : Nat → Prop} {ad : Nat → Nat} (C : Cx G A p s m args meth c RX4 cX4_bestLeft 7 (some .int)) {r : Int32} {M' : Mem} : ∀ (n : Nat) (M : Mem) (x0 : Nat) (x1 : Nat) (x2 : Int32) (x3 : Int32) (x4 : Int32) (x5 : Int32) (H : Heap) (locs : List Loc) (ls : Array Slot), f_X4_bestLeft_7  n M x0 x1 x2 x3 x4 x5 = some (r, M') → Wd G A ad s.heap M H locs → lv_has ls 7 [(0, .ref (ad x0)), (1, .ref (ad x1)), (2, .int x2), (3, .int x3), (4, .int x4), (5, .int x5)] → W p l e rm_X4_bestLeft s m args below meth c H locs 0 0 (MQ below (QI G A ad r M') args s 0 0 A) (F0 m 7 ls []) := by
  obtain ⟨hx, hb, -⟩ := id C
  intro n
  induction n with
  | zero =>
    intro M x0 x1 x2 x3 x4 x5 H locs ls hf
    rw [f_X4_bestLeft_7] at hf
    exact absurd hf (fun h => nomatch h)
  | succ n ih =>
    intro M x0 x1 x2 x3 x4 x5 H locs ls hf hw hl
    rw [f_X4_bestLeft_7] at hf
    refine lv_iload hx hb dX4_bestLeft_7 (lv_at hl 5 rfl) ?_
    refine lv_aload_n hx hb dX4_bestLeft_9 rfl (lv_at hl 1 rfl) ?_
    obtain ⟨hT1, hf⟩ := gt_inv hf
    refine r_getI C hw cf8 1 (by decide) rfl hT1 fl_X4_24 dX4_bestLeft_10 ?_
    refine lv_icmp_ge (tgt := 93) hx hb dX4_bestLeft_13 (by decide) (fun hc => ?_) (fun hc => ?_)
    · have hf := if_p hc hf
      refine lv_iload hx hb dX4_bestLeft_93 (lv_at hl 4 rfl) ?_
      exact e_iret C hw hf dX4_bestLeft_95
    · have hf := if_n hc hf
      refine lv_iload hx hb dX4_bestLeft_16 (lv_at hl 5 rfl) ?_
      refine lv_iload_n hx hb dX4_bestLeft_18 rfl (lv_at hl 3 rfl) ?_
      refine lv_icmp_eq (tgt := 49) hx hb dX4_bestLeft_19 (by decide) (fun hc => ?_) (fun hc => ?_)
      · have hf := if_p hc hf
        refine lv_iconst (v := 0) hx hb dX4_bestLeft_49 (by decide) ?_
        exact t_X4_bestLeft_50 C ih M x0 x1 x2 x3 x4 x5 0 _ _ _ hf hw (lv_sub hl [0, 1, 2, 3, 4, 5] rfl)
      · have hf := if_n hc hf
        refine lv_aload_n hx hb dX4_bestLeft_22 rfl (lv_at hl 0 rfl) ?_
        obtain ⟨hT2, hf⟩ := gt_inv hf
        obtain ⟨a3, hP4, hf⟩ := lp_inv hf
        refine r_getP C hw cf4 1 (by decide) rfl hT2 hP4 fl_X4_15 dX4_bestLeft_23 ?_
        refine lv_iload hx hb dX4_bestLeft_26 (lv_at hl 5 rfl) ?_
        obtain ⟨hT5, hf⟩ := gt_inv hf
        obtain ⟨hg6, hf⟩ := gd_inv hf
        refine r_iald C hw hT5 hg6 dX4_bestLeft_28 ?_
        refine lv_ldc hx hb C.2.2.2.1 (C.2.2.2.2.1 _ kc_X4_54) dX4_bestLeft_29 ?_
        refine lv_icmp_ne (tgt := 49) hx hb dX4_bestLeft_31 (by decide) (fun hc => ?_) (fun hc => ?_)
        · have hf := if_n hc hf
          refine lv_iconst (v := 0) hx hb dX4_bestLeft_49 (by decide) ?_
          exact t_X4_bestLeft_50 C ih M x0 x1 x2 x3 x4 x5 0 _ _ _ hf hw (lv_sub hl [0, 1, 2, 3, 4, 5] rfl)
        · have hf := if_p hc hf
          refine lv_aload_n hx hb dX4_bestLeft_34 rfl (lv_at hl 0 rfl) ?_
          refine lv_aload_n hx hb dX4_bestLeft_35 rfl (lv_at hl 1 rfl) ?_
          refine lv_iload_n hx hb dX4_bestLeft_36 rfl (lv_at hl 2 rfl) ?_
          refine lv_iload hx hb dX4_bestLeft_37 (lv_at hl 5 rfl) ?_
          obtain ⟨r8, M7, hc9, hf⟩ := cl_inv hf
          refine fin_I (run_V C hw mf_X4_wants mv_X4_wants ml_X4_83 cf4 hT2 (c_X4_wants l G A ad hc9) (As := [.ref (ad x1), .int x2, .int x5]) (rest := []) hl.1 rfl rfl (Nat.le_of_ble_eq_true rfl) ⟨rfl, rfl, Nat.le_of_ble_eq_true rfl, Nat.le_of_ble_eq_true rfl⟩ ⟨Nat.zero_le _, Nat.zero_le _⟩ dX4_bestLeft_39) hw (fun H locs hw => ?_)
          refine lv_if_eq (tgt := 49) hx hb dX4_bestLeft_42 (by decide) (fun hc => ?_) (fun hc => ?_)
          · have hf := if_p hc hf
            refine lv_iconst (v := 0) hx hb dX4_bestLeft_49 (by decide) ?_
            exact t_X4_bestLeft_50 C ih M7 x0 x1 x2 x3 x4 x5 0 _ _ _ hf hw (lv_sub hl [0, 1, 2, 3, 4, 5] rfl)
          · have hf := if_n hc hf
            refine lv_iconst (v := 1) hx hb dX4_bestLeft_45 (by decide) ?_
            refine lv_goto (tgt := 50) hx hb dX4_bestLeft_46 (by decide) ?_
            exact t_X4_bestLeft_50 C ih M7 x0 x1 x2 x3 x4 x5 1 _ _ _ hf hw (lv_sub hl [0, 1, 2, 3, 4, 5] rfl)
def f_X4_bestLeft (M : Mem) (x0 : Nat) (x1 : Nat) (x2 : Int32) (x3 : Int32) : Option (Int32 × Mem) := f_X4_bestLeft_7 FU M x0 x1 x2 x3 (-1000000005) 0
set_option maxHeartbeats 4000000 in
set_option maxRecDepth 100000 in
theorem c_X4_bestLeft (l : Launch) (G : Gd) (A : Nat → Prop) (ad : Nat → Nat) {M : Mem} {x0 : Nat} {x1 : Nat} {x2 : Int32} {x3 : Int32}  {r : Int32} {M' : Mem} (hf : f_X4_bestLeft M x0 x1 x2 x3 = some (r, M')) : Ct l yX4_bestLeft cX4_bestLeft 7 (some .int) rm_X4_bestLeft [.ref (ad x0), .ref (ad x1), .int x2, .int x3] G A ad M (QI G A ad r M') 0 0 := by
  refine ct_start (by decide) (Nat.le_of_ble_eq_true rfl) ?_
  intro p e s m args below meth c ls C hin hw hl
  have C : Cx G A p s m args meth c RX4 cX4_bestLeft 7 (some .int) := C
  have hl : lv_has ls 7 [(0, .ref (ad x0)), (1, .ref (ad x1)), (2, .int x2), (3, .int x3)] := hl
  obtain ⟨hx, hb, -⟩ := id C
  rw [f_X4_bestLeft] at hf
  refine lv_ldc hx hb C.2.2.2.1 (C.2.2.2.2.1 _ kc_X4_54) dX4_bestLeft_0 ?_
  refine lv_istore (lv' := [(4, .int (-1000000005)), (0, .ref (ad x0)), (1, .ref (ad x1)), (2, .int x2), (3, .int x3)]) hx hb dX4_bestLeft_2 hl (by decide) rfl (fun ls hl => ?_)
  refine lv_iconst (v := 0) hx hb dX4_bestLeft_4 (by decide) ?_
  refine lv_istore (lv' := [(5, .int 0), (4, .int (-1000000005)), (0, .ref (ad x0)), (1, .ref (ad x1)), (2, .int x2), (3, .int x3)]) hx hb dX4_bestLeft_5 hl (by decide) rfl (fun ls hl => ?_)
  exact t_X4_bestLeft_7 C FU M x0 x1 x2 x3 (-1000000005) 0 _ _ _ hf hw (lv_sub hl [2, 3, 4, 5, 1, 0] rfl)
/-! StorkVote$Spring.move(II)V -/
abbrev rm_X4_move : Room := { frames := 0, cells := 0, slots := 0, locals := 0 }
def f_X4_move (M : Mem) (x0 : Nat) (x1 : Int32) (x2 : Int32) : Option (Unit × Mem) := gt (mT M x0) 5 (lp (mP M x0 0) (fun a2 => gt (mT M a2) 20 (gd (ib x1 (mL M a2)) (st (setI M a2 x1.toNatClampNeg x2) (fun M6 => lp (mP M6 x0 1) (fun a9 => gt (mT M6 a9) 20 (gd (ib x2 (mL M6 a9)) (st (setI M6 a9 x2.toNatClampNeg x1) (fun M13 => some ((), M13))))))))))
set_option maxHeartbeats 4000000 in
set_option maxRecDepth 100000 in
theorem c_X4_move (l : Launch) (G : Gd) (A : Nat → Prop) (ad : Nat → Nat) {M : Mem} {x0 : Nat} {x1 : Int32} {x2 : Int32}  {M' : Mem} (hf : f_X4_move M x0 x1 x2 = some ((), M')) : Ct l yX4_move cX4_move 3 none rm_X4_move [.ref (ad x0), .int x1, .int x2] G A ad M (QV G A ad M') 0 0 := by
  refine ct_start (by decide) (Nat.le_of_ble_eq_true rfl) ?_
  intro p e s m args below meth c ls C hin hw hl
  have C : Cx G A p s m args meth c RX4 cX4_move 3 none := C
  have hl : lv_has ls 3 [(0, .ref (ad x0)), (1, .int x1), (2, .int x2)] := hl
  obtain ⟨hx, hb, -⟩ := id C
  rw [f_X4_move] at hf
  refine lv_aload_n hx hb dX4_move_0 rfl (lv_at hl 0 rfl) ?_
  obtain ⟨hT1, hf⟩ := gt_inv hf
  obtain ⟨a2, hP3, hf⟩ := lp_inv hf
  refine r_getP C hw cf4 0 (by decide) rfl hT1 hP3 fl_X4_9 dX4_move_1 ?_
  refine lv_iload_n hx hb dX4_move_4 rfl (lv_at hl 1 rfl) ?_
  refine lv_iload_n hx hb dX4_move_5 rfl (lv_at hl 2 rfl) ?_
  obtain ⟨hT4, hf⟩ := gt_inv hf
  obtain ⟨hg5, hf⟩ := gd_inv hf
  obtain ⟨M6, e7, hf⟩ := st_inv hf
  have g8 := sg_I e7
  refine r_iast C hw hT4 hg5 e7 dX4_move_6 (fun H locs hw => ?_)
  refine lv_aload_n hx hb dX4_move_7 rfl (lv_at hl 0 rfl) ?_
  obtain ⟨a9, hP10, hf⟩ := lp_inv hf
  refine r_getP C hw cf4 1 (by decide) rfl (T_of g8 hT1) hP10 fl_X4_15 dX4_move_8 ?_
  refine lv_iload_n hx hb dX4_move_11 rfl (lv_at hl 2 rfl) ?_
  refine lv_iload_n hx hb dX4_move_12 rfl (lv_at hl 1 rfl) ?_
  obtain ⟨hT11, hf⟩ := gt_inv hf
  obtain ⟨hg12, hf⟩ := gd_inv hf
  obtain ⟨M13, e14, hf⟩ := st_inv hf
  have g15 := sg_I e14
  refine r_iast C hw hT11 hg12 e14 dX4_move_13 (fun H locs hw => ?_)
  exact e_vret C hw hf dX4_move_14
/-! StorkVote$Spring.settle(LStorkVote$World;I)V -/
abbrev rm_X4_settle : Room := { frames := 3, cells := 0, slots := 0, locals := 72 }
def f_X4_settle_23 : Nat → Mem → Nat → Nat → Int32 → Int32 → Int32 → Option (Unit × Mem)
  | 0, _, _, _, _, _, _ => none
  | n + 1, M, x0, x1, x2, x3, x4 => gt (mT M x1) 9 ((if (mI M x1 3) ≤ x4 then some ((), M) else gt (mT M x0) 5 (cl (f_X4_strongest M x0 x1 x3) (fun r3 M2 => (if r3 = (-1000000005) then some ((), M2) else gt (mT M2 x0) 5 (cl (f_X4_bestLeft M2 x0 x1 r3 x2) (fun r7 M6 => (if r7 = (-1000000005) then f_X4_settle_23 n M6 x0 x1 x2 (x3 ||| (1 <<< (r3 &&& 31))) (x4 + 1) else gt (mT M6 x0) 5 (cl (f_X4_move M6 x0 r3 r7) (fun _ M10 => f_X4_settle_23 n M10 x0 x1 x2 (x3 ||| (1 <<< (r3 &&& 31))) (x4 + 1)))))))))))
set_option maxHeartbeats 4000000 in
set_option maxRecDepth 100000 in
theorem t_X4_settle_23 {l : Launch} {p : Program} {e : Env} {s : State} {m : MethodId} {args : Array Value} {below : List Frame} {meth : Method} {c : Code} {G : Gd} {A : Nat → Prop} {ad : Nat → Nat} (C : Cx G A p s m args meth c RX4 cX4_settle 7 none) {M' : Mem} : ∀ (n : Nat) (M : Mem) (x0 : Nat) (x1 : Nat) (x2 : Int32) (x3 : Int32) (x4 : Int32) (H : Heap) (locs : List Loc) (ls : Array Slot), f_X4_settle_23  n M x0 x1 x2 x3 x4 = some ((), M') → Wd G A ad s.heap M H locs → lv_has ls 7 [(0, .ref (ad x0)), (1, .ref (ad x1)), (2, .int x2), (3, .int x3), (4, .int x4)] → W p l e rm_X4_settle s m args below meth c H locs 0 0 (MQ below (QV G A ad M') args s 0 0 A) (F0 m 23 ls []) := by
  obtain ⟨hx, hb, -⟩ := id C
  intro n
  induction n with
  | zero =>
    intro M x0 x1 x2 x3 x4 H locs ls hf
    rw [f_X4_settle_23] at hf
    exact absurd hf (fun h => nomatch h)
  | succ n ih =>
    intro M x0 x1 x2 x3 x4 H locs ls hf hw hl
    rw [f_X4_settle_23] at hf
    refine lv_iload hx hb dX4_settle_23 (lv_at hl 4 rfl) ?_
    refine lv_aload_n hx hb dX4_settle_25 rfl (lv_at hl 1 rfl) ?_
    obtain ⟨hT1, hf⟩ := gt_inv hf
    refine r_getI C hw cf8 3 (by decide) rfl hT1 fl_X4_61 dX4_settle_26 ?_
    refine lv_icmp_ge (tgt := 86) hx hb dX4_settle_29 (by decide) (fun hc => ?_) (fun hc => ?_)
    · have hf := if_p hc hf
      exact e_vret C hw hf dX4_settle_86
    · have hf := if_n hc hf
      refine lv_aload_n hx hb dX4_settle_32 rfl (lv_at hl 0 rfl) ?_
      refine lv_aload_n hx hb dX4_settle_33 rfl (lv_at hl 1 rfl) ?_
      refine lv_iload_n hx hb dX4_settle_34 rfl (lv_at hl 3 rfl) ?_
      obtain ⟨hT5, hf⟩ := gt_inv hf
      obtain ⟨r3, M2, hc4, hf⟩ := cl_inv hf
      refine fin_I (run_V C hw mf_X4_strongest mv_X4_strongest ml_X4_64 cf4 hT5 (c_X4_strongest l G A ad hc4) (As := [.ref (ad x1), .int x3]) (rest := []) hl.1 rfl rfl (Nat.le_of_ble_eq_true rfl) ⟨rfl, rfl, Nat.le_of_ble_eq_true rfl, Nat.le_of_ble_eq_true rfl⟩ ⟨Nat.zero_le _, Nat.zero_le _⟩ dX4_settle_35) hw (fun H locs hw => ?_)
      refine lv_istore (lv' := [(5, .int r3), (0, .ref (ad x0)), (1, .ref (ad x1)), (2, .int x2), (3, .int x3), (4, .int x4)]) hx hb dX4_settle_38 hl (by decide) rfl (fun ls hl => ?_)
      refine lv_iload hx hb dX4_settle_40 (lv_at hl 0 rfl) ?_
      refine lv_ldc hx hb C.2.2.2.1 (C.2.2.2.2.1 _ kc_X4_54) dX4_settle_42 ?_
      refine lv_icmp_ne (tgt := 48) hx hb dX4_settle_44 (by decide) (fun hc => ?_) (fun hc => ?_)
      · have hf := if_n hc hf
        refine lv_iload_n hx hb dX4_settle_48 rfl (lv_at hl 4 rfl) ?_
        refine lv_iconst (v := 1) hx hb dX4_settle_49 (by decide) ?_
        refine lv_iload hx hb dX4_settle_50 (lv_at hl 0 rfl) ?_
        refine lv_ishl hx hb dX4_settle_52 ?_
        refine lv_ior hx hb dX4_settle_53 ?_
        refine lv_istore_n (lv' := [(3, .int (x3 ||| (1 <<< (r3 &&& 31)))), (5, .int r3), (0, .ref (ad x0)), (1, .ref (ad x1)), (2, .int x2), (4, .int x4)]) hx hb dX4_settle_54 rfl hl (by decide) rfl (fun ls hl => ?_)
        refine lv_aload_n hx hb dX4_settle_55 rfl (lv_at hl 2 rfl) ?_
        refine lv_aload_n hx hb dX4_settle_56 rfl (lv_at hl 3 rfl) ?_
        refine lv_iload hx hb dX4_settle_57 (lv_at hl 1 rfl) ?_
        refine lv_iload_n hx hb dX4_settle_59 rfl (lv_at hl 4 rfl) ?_
        obtain ⟨hT9, hf⟩ := gt_inv hf
        obtain ⟨r7, M6, hc8, hf⟩ := cl_inv hf
        refine fin_I (run_V C hw mf_X4_bestLeft mv_X4_bestLeft ml_X4_68 cf4 hT9 (c_X4_bestLeft l G A ad hc8) (As := [.ref (ad x1), .int r3, .int x2]) (rest := []) hl.1 rfl rfl (Nat.le_of_ble_eq_true rfl) ⟨rfl, rfl, Nat.le_of_ble_eq_true rfl, Nat.le_of_ble_eq_true rfl⟩ ⟨Nat.zero_le _, Nat.zero_le _⟩ dX4_settle_60) hw (fun H locs hw => ?_)
        refine lv_istore (lv' := [(6, .int r7), (3, .int (x3 ||| (1 <<< (r3 &&& 31)))), (5, .int r3), (0, .ref (ad x0)), (1, .ref (ad x1)), (2, .int x2), (4, .int x4)]) hx hb dX4_settle_63 hl (by decide) rfl (fun ls hl => ?_)
        refine lv_iload hx hb dX4_settle_65 (lv_at hl 0 rfl) ?_
        refine lv_ldc hx hb C.2.2.2.1 (C.2.2.2.2.1 _ kc_X4_54) dX4_settle_67 ?_
        refine lv_icmp_eq (tgt := 80) hx hb dX4_settle_69 (by decide) (fun hc => ?_) (fun hc => ?_)
        · have hf := if_p hc hf
          refine lv_iinc (v := (x4 + 1)) (lv' := [(4, .int (x4 + 1)), (6, .int r7), (3, .int (x3 ||| (1 <<< (r3 &&& 31)))), (5, .int r3), (0, .ref (ad x0)), (1, .ref (ad x1)), (2, .int x2)]) hx hb dX4_settle_80 hl (k := 6) rfl rfl (by decide) rfl (fun ls hl => ?_)
          refine lv_goto (tgt := 23) hx hb dX4_settle_83 (by decide) ?_
          exact ih M6 x0 x1 x2 (x3 ||| (1 <<< (r3 &&& 31))) (x4 + 1) _ _ _ hf hw (lv_sub hl [4, 5, 6, 2, 0] rfl)
        · have hf := if_n hc hf
          refine lv_aload_n hx hb dX4_settle_72 rfl (lv_at hl 3 rfl) ?_
          refine lv_iload hx hb dX4_settle_73 (lv_at hl 2 rfl) ?_
          refine lv_iload hx hb dX4_settle_75 (lv_at hl 0 rfl) ?_
          obtain ⟨hT13, hf⟩ := gt_inv hf
          obtain ⟨⟨⟩, M10, hc12, hf⟩ := cl_inv hf
          refine fin_V (run_V C hw mf_X4_move mv_X4_move ml_X4_71 cf4 hT13 (c_X4_move l G A ad hc12) (As := [.int r3, .int r7]) (rest := []) hl.1 rfl rfl (Nat.le_of_ble_eq_true rfl) ⟨rfl, rfl, Nat.le_of_ble_eq_true rfl, Nat.le_of_ble_eq_true rfl⟩ ⟨Nat.zero_le _, Nat.zero_le _⟩ dX4_settle_77) hw (fun H locs hw => ?_)
          refine lv_iinc (v := (x4 + 1)) (lv' := [(4, .int (x4 + 1)), (6, .int r7), (3, .int (x3 ||| (1 <<< (r3 &&& 31)))), (5, .int r3), (0, .ref (ad x0)), (1, .ref (ad x1)), (2, .int x2)]) hx hb dX4_settle_80 hl (k := 6) rfl rfl (by decide) rfl (fun ls hl => ?_)
          refine lv_goto (tgt := 23) hx hb dX4_settle_83 (by decide) ?_
          exact ih M10 x0 x1 x2 (x3 ||| (1 <<< (r3 &&& 31))) (x4 + 1) _ _ _ hf hw (lv_sub hl [4, 5, 6, 2, 0] rfl)
      · have hf := if_p hc hf
        exact e_vret C hw hf dX4_settle_47
def f_X4_settle (M : Mem) (x0 : Nat) (x1 : Nat) (x2 : Int32) : Option (Unit × Mem) := gt (mT M x0) 5 (lp (mP M x0 0) (fun a2 => cl (f_J7_fill_53178 M a2 (-1000000005)) (fun _ M4 => gt (mT M4 x0) 5 (lp (mP M4 x0 1) (fun a8 => cl (f_J7_fill_53178 M4 a8 (-1000000005)) (fun _ M10 => f_X4_settle_23 FU M10 x0 x1 x2 0 0))))))
set_option maxHeartbeats 4000000 in
set_option maxRecDepth 100000 in
theorem c_X4_settle (l : Launch) (G : Gd) (A : Nat → Prop) (ad : Nat → Nat) {M : Mem} {x0 : Nat} {x1 : Nat} {x2 : Int32}  {M' : Mem} (hf : f_X4_settle M x0 x1 x2 = some ((), M')) : Ct l yX4_settle cX4_settle 7 none rm_X4_settle [.ref (ad x0), .ref (ad x1), .int x2] G A ad M (QV G A ad M') 0 0 := by
  refine ct_start (by decide) (Nat.le_of_ble_eq_true rfl) ?_
  intro p e s m args below meth c ls C hin hw hl
  have C : Cx G A p s m args meth c RX4 cX4_settle 7 none := C
  have hl : lv_has ls 7 [(0, .ref (ad x0)), (1, .ref (ad x1)), (2, .int x2)] := hl
  obtain ⟨hx, hb, -⟩ := id C
  rw [f_X4_settle] at hf
  refine lv_aload_n hx hb dX4_settle_0 rfl (lv_at hl 0 rfl) ?_
  obtain ⟨hT1, hf⟩ := gt_inv hf
  obtain ⟨a2, hP3, hf⟩ := lp_inv hf
  refine r_getP C hw cf4 0 (by decide) rfl hT1 hP3 fl_X4_9 dX4_settle_1 ?_
  refine lv_ldc hx hb C.2.2.2.1 (C.2.2.2.2.1 _ kc_X4_54) dX4_settle_4 ?_
  obtain ⟨⟨⟩, M4, hc6, hf⟩ := cl_inv hf
  refine fin_V (run_S C hw mf_J7_fill_53178 ms_J7_fill_53178 ml_X4_55 (c_J7_fill_53178 l G A ad hc6) (As := [.ref (ad a2), .int (-1000000005)]) (rest := []) hl.1 rfl rfl (Nat.le_of_ble_eq_true rfl) ⟨rfl, rfl, Nat.le_of_ble_eq_true rfl, Nat.le_of_ble_eq_true rfl⟩ ⟨Nat.zero_le _, Nat.zero_le _⟩ dX4_settle_6) hw (fun H locs hw => ?_)
  refine lv_aload_n hx hb dX4_settle_9 rfl (lv_at hl 0 rfl) ?_
  obtain ⟨hT7, hf⟩ := gt_inv hf
  obtain ⟨a8, hP9, hf⟩ := lp_inv hf
  refine r_getP C hw cf4 1 (by decide) rfl hT7 hP9 fl_X4_15 dX4_settle_10 ?_
  refine lv_ldc hx hb C.2.2.2.1 (C.2.2.2.2.1 _ kc_X4_54) dX4_settle_13 ?_
  obtain ⟨⟨⟩, M10, hc12, hf⟩ := cl_inv hf
  refine fin_V (run_S C hw mf_J7_fill_53178 ms_J7_fill_53178 ml_X4_55 (c_J7_fill_53178 l G A ad hc12) (As := [.ref (ad a8), .int (-1000000005)]) (rest := []) hl.1 rfl rfl (Nat.le_of_ble_eq_true rfl) ⟨rfl, rfl, Nat.le_of_ble_eq_true rfl, Nat.le_of_ble_eq_true rfl⟩ ⟨Nat.zero_le _, Nat.zero_le _⟩ dX4_settle_15) hw (fun H locs hw => ?_)
  refine lv_iconst (v := 0) hx hb dX4_settle_18 (by decide) ?_
  refine lv_istore_n (lv' := [(3, .int 0), (0, .ref (ad x0)), (1, .ref (ad x1)), (2, .int x2)]) hx hb dX4_settle_19 rfl hl (by decide) rfl (fun ls hl => ?_)
  refine lv_iconst (v := 0) hx hb dX4_settle_20 (by decide) ?_
  refine lv_istore (lv' := [(4, .int 0), (3, .int 0), (0, .ref (ad x0)), (1, .ref (ad x1)), (2, .int x2)]) hx hb dX4_settle_21 hl (by decide) rfl (fun ls hl => ?_)
  exact t_X4_settle_23 C FU M10 x0 x1 x2 0 0 _ _ _ hf hw (lv_sub hl [2, 3, 4, 1, 0] rfl)
