/-! StorkVote.driven(I)I -/
abbrev rm_X9_driven : Room := { frames := 5, cells := 0, slots := 0, locals := 120 }
def f_X9_driven_35 : Nat → Mem → Nat → Int32 → Int32 → Option (Int32 × Mem)
  | 0, _, _, _, _ => none
  | n + 1, M, x0, x1, x2 => gt (mT M x0) 10 (lp (mP M x0 2) (fun a2 => gt (mT M a2) 9 ((if (mI M a2 3) ≤ x2 then some ((-1000000005), M) else lp (mP M a2 2) (fun a5 => gt (mT M a5) 24 (gd (ib x2 (mL M a5)) (lp (mP M a5 x2.toNatClampNeg) (fun a9 => gt (mT M a9) 6 (st (setI M a9 2 1) (fun M12 => lp (mP M12 x0 3) (fun a15 => gt (mT M12 a15) 5 (cl (f_X4_settle M12 a15 a2 (-1000000005)) (fun _ M17 => gt (mT M17 a9) 6 (gd (isB (mI M a9 2)) (st (setI M17 a9 2 (mI M a9 2)) (fun M23 => gt (mT M23 x0) 10 (lp (mP M23 x0 3) (fun a27 => lp (mP M23 x0 2) (fun a29 => gt (mT M23 a27) 5 (cl (f_X4_winner M23 a27 a29) (fun r32 M31 => (if r32 = x1 then some (x2, M31) else f_X9_driven_35 n M31 x0 x1 (x2 + 1)))))))))))))))))))))))
set_option maxHeartbeats 4000000 in
set_option maxRecDepth 100000 in
theorem t_X9_driven_35 {l : Launch} {p : Program} {e : Env} {s : State} {m : MethodId} {args : Array Value} {below : List Frame} {meth : Method} {c : Code} {G : Gd} {A : Nat → Prop} {ad : Nat → Nat} (C : Cx G A p s m args meth c RX9 cX9_driven 5 (some .int)) {r : Int32} {M' : Mem} : ∀ (n : Nat) (M : Mem) (x0 : Nat) (x1 : Int32) (x2 : Int32) (H : Heap) (locs : List Loc) (ls : Array Slot), f_X9_driven_35  n M x0 x1 x2 = some (r, M') → Wd G A ad s.heap M H locs → lv_has ls 5 [(0, .ref (ad x0)), (1, .int x1), (2, .int x2)] → W p l e rm_X9_driven s m args below meth c H locs 0 0 (MQ below (QI G A ad r M') args s 0 0 A) (F0 m 35 ls []) := by
  obtain ⟨hx, hb, -⟩ := id C
  intro n
  induction n with
  | zero =>
    intro M x0 x1 x2 H locs ls hf
    rw [f_X9_driven_35] at hf
    exact absurd hf (fun h => nomatch h)
  | succ n ih =>
    intro M x0 x1 x2 H locs ls hf hw hl
    rw [f_X9_driven_35] at hf
    refine lv_iload_n hx hb dX9_driven_35 rfl (lv_at hl 2 rfl) ?_
    refine lv_aload_n hx hb dX9_driven_36 rfl (lv_at hl 0 rfl) ?_
    obtain ⟨hT1, hf⟩ := gt_inv hf
    obtain ⟨a2, hP3, hf⟩ := lp_inv hf
    refine r_getP C hw cf9 2 (by decide) rfl hT1 hP3 fl_X9_19 dX9_driven_37 ?_
    obtain ⟨hT4, hf⟩ := gt_inv hf
    refine r_getI C hw cf8 3 (by decide) rfl hT4 fl_X9_172 dX9_driven_40 ?_
    refine lv_icmp_ge (tgt := 109) hx hb dX9_driven_43 (by decide) (fun hc => ?_) (fun hc => ?_)
    · have hf := if_p hc hf
      refine lv_ldc hx hb C.2.2.2.1 (C.2.2.2.2.1 _ kc_X9_107) dX9_driven_109 ?_
      exact e_iret C hw hf dX9_driven_111
    · have hf := if_n hc hf
      refine lv_aload_n hx hb dX9_driven_46 rfl (lv_at hl 0 rfl) ?_
      refine r_getP C hw cf9 2 (by decide) rfl hT1 hP3 fl_X9_19 dX9_driven_47 ?_
      obtain ⟨a5, hP6, hf⟩ := lp_inv hf
      refine r_getP C hw cf8 2 (by decide) rfl hT4 hP6 fl_X9_115 dX9_driven_50 ?_
      refine lv_iload_n hx hb dX9_driven_53 rfl (lv_at hl 2 rfl) ?_
      obtain ⟨hT7, hf⟩ := gt_inv hf
      obtain ⟨hg8, hf⟩ := gd_inv hf
      obtain ⟨a9, hP10, hf⟩ := lp_inv hf
      refine r_aald C hw 4 rfl (by decide) (by decide) hT7 hg8 hP10 dX9_driven_54 ?_
      refine lv_astore_n (lv' := [(3, .ref (ad a9)), (0, .ref (ad x0)), (1, .int x1), (2, .int x2)]) hx hb dX9_driven_55 rfl hl (by decide) rfl (fun ls hl => ?_)
      refine lv_aload_n hx hb dX9_driven_56 rfl (lv_at hl 0 rfl) ?_
      obtain ⟨hT11, hf⟩ := gt_inv hf
      refine r_getI C hw cf5 2 (by decide) rfl hT11 fl_X9_127 dX9_driven_57 ?_
      refine lv_istore (lv' := [(4, .int (mI M a9 2)), (3, .ref (ad a9)), (0, .ref (ad x0)), (1, .int x1), (2, .int x2)]) hx hb dX9_driven_60 hl (by decide) rfl (fun ls hl => ?_)
      refine lv_aload_n hx hb dX9_driven_62 rfl (lv_at hl 1 rfl) ?_
      refine lv_iconst (v := 1) hx hb dX9_driven_63 (by decide) ?_
      obtain ⟨M12, e13, hf⟩ := st_inv hf
      have g14 := sg_I e13
      refine r_putI C hw cf5 2 (by decide) rfl hT11 e13 fl_X9_127 rfl rfl rfl dX9_driven_64 (fun H locs hw => ?_)
      refine lv_aload_n hx hb dX9_driven_67 rfl (lv_at hl 2 rfl) ?_
      obtain ⟨a15, hP16, hf⟩ := lp_inv hf
      refine r_getP C hw cf9 3 (by decide) rfl (T_of g14 hT1) hP16 fl_X9_25 dX9_driven_68 ?_
      refine lv_aload_n hx hb dX9_driven_71 rfl (lv_at hl 2 rfl) ?_
      refine r_getP C hw cf9 2 (by decide) rfl (T_of g14 hT1) (P_of g14 hP3) fl_X9_19 dX9_driven_72 ?_
      refine lv_ldc hx hb C.2.2.2.1 (C.2.2.2.2.1 _ kc_X9_107) dX9_driven_75 ?_
      obtain ⟨hT20, hf⟩ := gt_inv hf
      obtain ⟨⟨⟩, M17, hc19, hf⟩ := cl_inv hf
      refine fin_V (run_V C hw mf_X4_settle mv_X4_settle ml_X9_190 cf4 hT20 (c_X4_settle l G A ad hc19) (As := [.ref (ad a2), .int (-1000000005)]) (rest := []) hl.1 rfl rfl (Nat.le_of_ble_eq_true rfl) ⟨rfl, rfl, Nat.le_of_ble_eq_true rfl, Nat.le_of_ble_eq_true rfl⟩ ⟨Nat.zero_le _, Nat.zero_le _⟩ dX9_driven_77) hw (fun H locs hw => ?_)
      refine lv_aload_n hx hb dX9_driven_80 rfl (lv_at hl 1 rfl) ?_
      refine lv_iload hx hb dX9_driven_81 (lv_at hl 0 rfl) ?_
      obtain ⟨hT21, hf⟩ := gt_inv hf
      obtain ⟨hg22, hf⟩ := gd_inv hf
      obtain ⟨M23, e24, hf⟩ := st_inv hf
      have g25 := sg_I e24
      refine r_putI C hw cf5 2 (by decide) rfl hT21 e24 fl_X9_127 rfl (isB_nar hg22) (isB_fit hg22) dX9_driven_83 (fun H locs hw => ?_)
      refine lv_aload_n hx hb dX9_driven_86 rfl (lv_at hl 2 rfl) ?_
      obtain ⟨hT26, hf⟩ := gt_inv hf
      obtain ⟨a27, hP28, hf⟩ := lp_inv hf
      refine r_getP C hw cf9 3 (by decide) rfl hT26 hP28 fl_X9_25 dX9_driven_87 ?_
      refine lv_aload_n hx hb dX9_driven_90 rfl (lv_at hl 2 rfl) ?_
      obtain ⟨a29, hP30, hf⟩ := lp_inv hf
      refine r_getP C hw cf9 2 (by decide) rfl hT26 hP30 fl_X9_19 dX9_driven_91 ?_
      obtain ⟨hT34, hf⟩ := gt_inv hf
      obtain ⟨r32, M31, hc33, hf⟩ := cl_inv hf
      refine fin_I (run_V C hw mf_X4_winner mv_X4_winner ml_X9_165 cf4 hT34 (c_X4_winner l G A ad hc33) (As := [.ref (ad a29)]) (rest := []) hl.1 rfl rfl (Nat.le_of_ble_eq_true rfl) ⟨rfl, rfl, Nat.le_of_ble_eq_true rfl, Nat.le_of_ble_eq_true rfl⟩ ⟨Nat.zero_le _, Nat.zero_le _⟩ dX9_driven_94) hw (fun H locs hw => ?_)
      refine lv_iload_n hx hb dX9_driven_97 rfl (lv_at hl 3 rfl) ?_
      refine lv_icmp_ne (tgt := 103) hx hb dX9_driven_98 (by decide) (fun hc => ?_) (fun hc => ?_)
      · have hf := if_n hc hf
        refine lv_iinc (v := (x2 + 1)) (lv' := [(2, .int (x2 + 1)), (4, .int (mI M a9 2)), (3, .ref (ad a9)), (0, .ref (ad x0)), (1, .int x1)]) hx hb dX9_driven_103 hl (k := 4) rfl rfl (by decide) rfl (fun ls hl => ?_)
        refine lv_goto (tgt := 35) hx hb dX9_driven_106 (by decide) ?_
        exact ih M31 x0 x1 (x2 + 1) _ _ _ hf hw (lv_sub hl [3, 4, 0] rfl)
      · have hf := if_p hc hf
        refine lv_iload_n hx hb dX9_driven_101 rfl (lv_at hl 4 rfl) ?_
        exact e_iret C hw hf dX9_driven_102
def f_X9_driven (M : Mem) (x0 : Nat) (x1 : Int32) : Option (Int32 × Mem) := cl (f_X9_within M x1 3) (fun r2 M1 => (if r2 = 0 then some ((-1000000001), M1) else gt (mT M1 x0) 10 (lp (mP M1 x0 2) (fun a5 => lp (mP M1 x0 0) (fun a7 => gt (mT M1 a5) 9 (cl (f_X8_take M1 a5 a7) (fun _ M9 => gt (mT M9 x0) 10 (lp (mP M9 x0 3) (fun a14 => lp (mP M9 x0 2) (fun a16 => gt (mT M9 a14) 5 (cl (f_X4_look M9 a14 a16) (fun _ M18 => f_X9_driven_35 FU M18 x0 x1 0))))))))))))
set_option maxHeartbeats 4000000 in
set_option maxRecDepth 100000 in
theorem c_X9_driven (l : Launch) (G : Gd) (A : Nat → Prop) (ad : Nat → Nat) {M : Mem} {x0 : Nat} {x1 : Int32}  {r : Int32} {M' : Mem} (hf : f_X9_driven M x0 x1 = some (r, M')) : Ct l yX9_driven cX9_driven 5 (some .int) rm_X9_driven [.ref (ad x0), .int x1] G A ad M (QI G A ad r M') 0 0 := by
  refine ct_start (by decide) (Nat.le_of_ble_eq_true rfl) ?_
  intro p e s m args below meth c ls C hin hw hl
  have C : Cx G A p s m args meth c RX9 cX9_driven 5 (some .int) := C
  have hl : lv_has ls 5 [(0, .ref (ad x0)), (1, .int x1)] := hl
  obtain ⟨hx, hb, -⟩ := id C
  rw [f_X9_driven] at hf
  refine lv_iload_n hx hb dX9_driven_0 rfl (lv_at hl 1 rfl) ?_
  refine lv_iconst (v := 3) hx hb dX9_driven_1 (by decide) ?_
  obtain ⟨r2, M1, hc3, hf⟩ := cl_inv hf
  refine fin_I (run_S C hw mf_X9_within ms_X9_within ml_X9_61 (c_X9_within l G A ad hc3) (As := [.int x1, .int 3]) (rest := []) hl.1 rfl rfl (Nat.le_of_ble_eq_true rfl) ⟨rfl, rfl, Nat.le_of_ble_eq_true rfl, Nat.le_of_ble_eq_true rfl⟩ ⟨Nat.zero_le _, Nat.zero_le _⟩ dX9_driven_2) hw (fun H locs hw => ?_)
  refine lv_if_ne (tgt := 11) hx hb dX9_driven_5 (by decide) (fun hc => ?_) (fun hc => ?_)
  · have hf := if_n hc hf
    refine lv_aload_n hx hb dX9_driven_11 rfl (lv_at hl 0 rfl) ?_
    obtain ⟨hT4, hf⟩ := gt_inv hf
    obtain ⟨a5, hP6, hf⟩ := lp_inv hf
    refine r_getP C hw cf9 2 (by decide) rfl hT4 hP6 fl_X9_19 dX9_driven_12 ?_
    refine lv_aload_n hx hb dX9_driven_15 rfl (lv_at hl 0 rfl) ?_
    obtain ⟨a7, hP8, hf⟩ := lp_inv hf
    refine r_getP C hw cf9 0 (by decide) rfl hT4 hP8 fl_X9_10 dX9_driven_16 ?_
    obtain ⟨hT12, hf⟩ := gt_inv hf
    obtain ⟨⟨⟩, M9, hc11, hf⟩ := cl_inv hf
    refine fin_V (run_V C hw mf_X8_take mv_X8_take ml_X9_183 cf8 hT12 (c_X8_take l G A ad hc11) (As := [.ref (ad a7)]) (rest := []) hl.1 rfl rfl (Nat.le_of_ble_eq_true rfl) ⟨rfl, rfl, Nat.le_of_ble_eq_true rfl, Nat.le_of_ble_eq_true rfl⟩ ⟨Nat.zero_le _, Nat.zero_le _⟩ dX9_driven_19) hw (fun H locs hw => ?_)
    refine lv_aload_n hx hb dX9_driven_22 rfl (lv_at hl 0 rfl) ?_
    obtain ⟨hT13, hf⟩ := gt_inv hf
    obtain ⟨a14, hP15, hf⟩ := lp_inv hf
    refine r_getP C hw cf9 3 (by decide) rfl hT13 hP15 fl_X9_25 dX9_driven_23 ?_
    refine lv_aload_n hx hb dX9_driven_26 rfl (lv_at hl 0 rfl) ?_
    obtain ⟨a16, hP17, hf⟩ := lp_inv hf
    refine r_getP C hw cf9 2 (by decide) rfl hT13 hP17 fl_X9_19 dX9_driven_27 ?_
    obtain ⟨hT21, hf⟩ := gt_inv hf
    obtain ⟨⟨⟩, M18, hc20, hf⟩ := cl_inv hf
    refine fin_V (run_V C hw mf_X4_look mv_X4_look ml_X9_175 cf4 hT21 (c_X4_look l G A ad hc20) (As := [.ref (ad a16)]) (rest := []) hl.1 rfl rfl (Nat.le_of_ble_eq_true rfl) ⟨rfl, rfl, Nat.le_of_ble_eq_true rfl, Nat.le_of_ble_eq_true rfl⟩ ⟨Nat.zero_le _, Nat.zero_le _⟩ dX9_driven_30) hw (fun H locs hw => ?_)
    refine lv_iconst (v := 0) hx hb dX9_driven_33 (by decide) ?_
    refine lv_istore_n (lv' := [(2, .int 0), (0, .ref (ad x0)), (1, .int x1)]) hx hb dX9_driven_34 rfl hl (by decide) rfl (fun ls hl => ?_)
    exact t_X9_driven_35 C FU M18 x0 x1 0 _ _ _ hf hw (lv_sub hl [1, 2, 0] rfl)
  · have hf := if_p hc hf
    refine lv_ldc hx hb C.2.2.2.1 (C.2.2.2.2.1 _ kc_X9_65) dX9_driven_8 ?_
    exact e_iret C hw hf dX9_driven_10
/-! StorkVote.brings(I)I -/
abbrev rm_X9_brings : Room := { frames := 6, cells := 0, slots := 0, locals := 139 }
def f_X9_brings (M : Mem) (x0 : Nat) (x1 : Int32) : Option (Int32 × Mem) := gt (mT M x0) 10 (lp (mP M x0 0) (fun a2 => gt (mT M a2) 9 (cl (f_X8_hasChimney M a2 x1) (fun r5 M4 => (if r5 = 0 then some ((-1000000001), M4) else gt (mT M4 x0) 10 (lp (mP M4 x0 0) (fun a9 => gt (mT M4 a9) 9 (lp (mP M4 a9 0) (fun a12 => gt (mT M4 a12) 23 (gd (ib x1 (mL M4 a12)) (lp (mP M4 a12 x1.toNatClampNeg) (fun a16 => gt (mT M4 a16) 1 (cl (f_X9_settleNow M4 x0) (fun _ M19 => gt (mT M19 x0) 10 (lp (mP M19 x0 3) (fun a23 => lp (mP M19 x0 0) (fun a25 => gt (mT M19 a23) 5 (cl (f_X4_seats M19 a23 a25 (mI M4 a16 1)) (fun r28 M27 => gt (mT M27 x0) 10 (lp (mP M27 x0 3) (fun a32 => lp (mP M27 x0 0) (fun a34 => gt (mT M27 a32) 5 (cl (f_X4_settle M27 a32 a34 x1) (fun _ M36 => gt (mT M36 x0) 10 (lp (mP M36 x0 3) (fun a41 => lp (mP M36 x0 0) (fun a43 => gt (mT M36 a41) 5 (cl (f_X4_seats M36 a41 a43 (mI M4 a16 1)) (fun r46 M45 => some ((r28 - r46), M45))))))))))))))))))))))))))))))
set_option maxHeartbeats 4000000 in
set_option maxRecDepth 100000 in
theorem c_X9_brings (l : Launch) (G : Gd) (A : Nat → Prop) (ad : Nat → Nat) {M : Mem} {x0 : Nat} {x1 : Int32}  {r : Int32} {M' : Mem} (hf : f_X9_brings M x0 x1 = some (r, M')) : Ct l yX9_brings cX9_brings 4 (some .int) rm_X9_brings [.ref (ad x0), .int x1] G A ad M (QI G A ad r M') 0 0 := by
  refine ct_start (by decide) (Nat.le_of_ble_eq_true rfl) ?_
  intro p e s m args below meth c ls C hin hw hl
  have C : Cx G A p s m args meth c RX9 cX9_brings 4 (some .int) := C
  have hl : lv_has ls 4 [(0, .ref (ad x0)), (1, .int x1)] := hl
  obtain ⟨hx, hb, -⟩ := id C
  rw [f_X9_brings] at hf
  refine lv_aload_n hx hb dX9_brings_0 rfl (lv_at hl 0 rfl) ?_
  obtain ⟨hT1, hf⟩ := gt_inv hf
  obtain ⟨a2, hP3, hf⟩ := lp_inv hf
  refine r_getP C hw cf9 0 (by decide) rfl hT1 hP3 fl_X9_10 dX9_brings_1 ?_
  refine lv_iload_n hx hb dX9_brings_4 rfl (lv_at hl 1 rfl) ?_
  obtain ⟨hT7, hf⟩ := gt_inv hf
  obtain ⟨r5, M4, hc6, hf⟩ := cl_inv hf
  refine fin_I (run_V C hw mf_X8_hasChimney mv_X8_hasChimney ml_X9_70 cf8 hT7 (c_X8_hasChimney l G A ad hc6) (As := [.int x1]) (rest := []) hl.1 rfl rfl (Nat.le_of_ble_eq_true rfl) ⟨rfl, rfl, Nat.le_of_ble_eq_true rfl, Nat.le_of_ble_eq_true rfl⟩ ⟨Nat.zero_le _, Nat.zero_le _⟩ dX9_brings_5) hw (fun H locs hw => ?_)
  refine lv_if_ne (tgt := 14) hx hb dX9_brings_8 (by decide) (fun hc => ?_) (fun hc => ?_)
  · have hf := if_n hc hf
    refine lv_aload_n hx hb dX9_brings_14 rfl (lv_at hl 0 rfl) ?_
    obtain ⟨hT8, hf⟩ := gt_inv hf
    obtain ⟨a9, hP10, hf⟩ := lp_inv hf
    refine r_getP C hw cf9 0 (by decide) rfl hT8 hP10 fl_X9_10 dX9_brings_15 ?_
    obtain ⟨hT11, hf⟩ := gt_inv hf
    obtain ⟨a12, hP13, hf⟩ := lp_inv hf
    refine r_getP C hw cf8 0 (by decide) rfl hT11 hP13 fl_X9_74 dX9_brings_18 ?_
    refine lv_iload_n hx hb dX9_brings_21 rfl (lv_at hl 1 rfl) ?_
    obtain ⟨hT14, hf⟩ := gt_inv hf
    obtain ⟨hg15, hf⟩ := gd_inv hf
    obtain ⟨a16, hP17, hf⟩ := lp_inv hf
    refine r_aald C hw 3 rfl (by decide) (by decide) hT14 hg15 hP17 dX9_brings_22 ?_
    obtain ⟨hT18, hf⟩ := gt_inv hf
    refine r_getI C hw cf0 1 (by decide) rfl hT18 fl_X9_84 dX9_brings_23 ?_
    refine lv_istore_n (lv' := [(2, .int (mI M4 a16 1)), (0, .ref (ad x0)), (1, .int x1)]) hx hb dX9_brings_26 rfl hl (by decide) rfl (fun ls hl => ?_)
    refine lv_aload_n hx hb dX9_brings_27 rfl (lv_at hl 1 rfl) ?_
    obtain ⟨⟨⟩, M19, hc21, hf⟩ := cl_inv hf
    refine fin_V (run_V C hw mf_X9_settleNow mv_X9_settleNow ml_X9_97 cf9 hT8 (c_X9_settleNow l G A ad hc21) (As := []) (rest := []) hl.1 rfl rfl (Nat.le_of_ble_eq_true rfl) ⟨rfl, rfl, Nat.le_of_ble_eq_true rfl, Nat.le_of_ble_eq_true rfl⟩ ⟨Nat.zero_le _, Nat.zero_le _⟩ dX9_brings_28) hw (fun H locs hw => ?_)
    refine lv_aload_n hx hb dX9_brings_31 rfl (lv_at hl 1 rfl) ?_
    obtain ⟨hT22, hf⟩ := gt_inv hf
    obtain ⟨a23, hP24, hf⟩ := lp_inv hf
    refine r_getP C hw cf9 3 (by decide) rfl hT22 hP24 fl_X9_25 dX9_brings_32 ?_
    refine lv_aload_n hx hb dX9_brings_35 rfl (lv_at hl 1 rfl) ?_
    obtain ⟨a25, hP26, hf⟩ := lp_inv hf
    refine r_getP C hw cf9 0 (by decide) rfl hT22 hP26 fl_X9_10 dX9_brings_36 ?_
    refine lv_iload_n hx hb dX9_brings_39 rfl (lv_at hl 0 rfl) ?_
    obtain ⟨hT30, hf⟩ := gt_inv hf
    obtain ⟨r28, M27, hc29, hf⟩ := cl_inv hf
    refine fin_I (run_V C hw mf_X4_seats mv_X4_seats ml_X9_162 cf4 hT30 (c_X4_seats l G A ad hc29) (As := [.ref (ad a25), .int (mI M4 a16 1)]) (rest := []) hl.1 rfl rfl (Nat.le_of_ble_eq_true rfl) ⟨rfl, rfl, Nat.le_of_ble_eq_true rfl, Nat.le_of_ble_eq_true rfl⟩ ⟨Nat.zero_le _, Nat.zero_le _⟩ dX9_brings_40) hw (fun H locs hw => ?_)
    refine lv_istore_n (lv' := [(3, .int r28), (2, .int (mI M4 a16 1)), (0, .ref (ad x0)), (1, .int x1)]) hx hb dX9_brings_43 rfl hl (by decide) rfl (fun ls hl => ?_)
    refine lv_aload_n hx hb dX9_brings_44 rfl (lv_at hl 2 rfl) ?_
    obtain ⟨hT31, hf⟩ := gt_inv hf
    obtain ⟨a32, hP33, hf⟩ := lp_inv hf
    refine r_getP C hw cf9 3 (by decide) rfl hT31 hP33 fl_X9_25 dX9_brings_45 ?_
    refine lv_aload_n hx hb dX9_brings_48 rfl (lv_at hl 2 rfl) ?_
    obtain ⟨a34, hP35, hf⟩ := lp_inv hf
    refine r_getP C hw cf9 0 (by decide) rfl hT31 hP35 fl_X9_10 dX9_brings_49 ?_
    refine lv_iload_n hx hb dX9_brings_52 rfl (lv_at hl 3 rfl) ?_
    obtain ⟨hT39, hf⟩ := gt_inv hf
    obtain ⟨⟨⟩, M36, hc38, hf⟩ := cl_inv hf
    refine fin_V (run_V C hw mf_X4_settle mv_X4_settle ml_X9_190 cf4 hT39 (c_X4_settle l G A ad hc38) (As := [.ref (ad a34), .int x1]) (rest := []) hl.1 rfl rfl (Nat.le_of_ble_eq_true rfl) ⟨rfl, rfl, Nat.le_of_ble_eq_true rfl, Nat.le_of_ble_eq_true rfl⟩ ⟨Nat.zero_le _, Nat.zero_le _⟩ dX9_brings_53) hw (fun H locs hw => ?_)
    refine lv_iload_n hx hb dX9_brings_56 rfl (lv_at hl 0 rfl) ?_
    refine lv_aload_n hx hb dX9_brings_57 rfl (lv_at hl 2 rfl) ?_
    obtain ⟨hT40, hf⟩ := gt_inv hf
    obtain ⟨a41, hP42, hf⟩ := lp_inv hf
    refine r_getP C hw cf9 3 (by decide) rfl hT40 hP42 fl_X9_25 dX9_brings_58 ?_
    refine lv_aload_n hx hb dX9_brings_61 rfl (lv_at hl 2 rfl) ?_
    obtain ⟨a43, hP44, hf⟩ := lp_inv hf
    refine r_getP C hw cf9 0 (by decide) rfl hT40 hP44 fl_X9_10 dX9_brings_62 ?_
    refine lv_iload_n hx hb dX9_brings_65 rfl (lv_at hl 1 rfl) ?_
    obtain ⟨hT48, hf⟩ := gt_inv hf
    obtain ⟨r46, M45, hc47, hf⟩ := cl_inv hf
    refine fin_I (run_V C hw mf_X4_seats mv_X4_seats ml_X9_162 cf4 hT48 (c_X4_seats l G A ad hc47) (As := [.ref (ad a43), .int (mI M4 a16 1)]) (rest := [.int r28]) hl.1 rfl rfl (Nat.le_of_ble_eq_true rfl) ⟨rfl, rfl, Nat.le_of_ble_eq_true rfl, Nat.le_of_ble_eq_true rfl⟩ ⟨Nat.zero_le _, Nat.zero_le _⟩ dX9_brings_66) hw (fun H locs hw => ?_)
    refine lv_isub hx hb dX9_brings_69 ?_
    exact e_iret C hw hf dX9_brings_70
  · have hf := if_p hc hf
    refine lv_ldc hx hb C.2.2.2.1 (C.2.2.2.2.1 _ kc_X9_65) dX9_brings_11 ?_
    exact e_iret C hw hf dX9_brings_13
/-! StorkVote.behind(II)I -/
abbrev rm_X9_behind : Room := { frames := 5, cells := 0, slots := 0, locals := 121 }
def f_X9_behind_44 : Nat → Mem → Nat → Int32 → Int32 → Int32 → Option (Int32 × Mem)
  | 0, _, _, _, _, _ => none
  | n + 1, M, x0, x1, x2, x3 => (if x1 ≤ x3 then gt (mT M x0) 10 (lp (mP M x0 3) (fun a2 => lp (mP M x0 2) (fun a4 => gt (mT M a2) 5 (cl (f_X4_settle M a2 a4 (-1000000005)) (fun _ M6 => (if x2 = 0 then gt (mT M6 x0) 10 (lp (mP M6 x0 3) (fun a27 => lp (mP M6 x0 2) (fun a29 => gt (mT M6 a27) 5 (cl (f_X4_winner M6 a27 a29) (fun r32 M31 => some (r32, M31)))))) else (if x2 = 1 then gt (mT M6 x0) 10 (lp (mP M6 x0 2) (fun a20 => gt (mT M6 a20) 9 (cl (f_X8_here M6 a20) (fun r23 M22 => some (r23, M22))))) else gt (mT M6 x0) 10 (lp (mP M6 x0 3) (fun a11 => lp (mP M6 x0 2) (fun a13 => gt (mT M6 a11) 5 (cl (f_X4_allSeats M6 a11 a13) (fun r16 M15 => some (r16, M15))))))))))))) else gt (mT M x0) 10 (lp (mP M x0 2) (fun a36 => lp (mP M x0 3) (fun a38 => gt (mT M a36) 9 (cl (f_X8_live M a36 a38) (fun _ M40 => f_X9_behind_44 n M40 x0 x1 x2 (x3 + 1)))))))
set_option maxHeartbeats 4000000 in
set_option maxRecDepth 100000 in
theorem t_X9_behind_44 {l : Launch} {p : Program} {e : Env} {s : State} {m : MethodId} {args : Array Value} {below : List Frame} {meth : Method} {c : Code} {G : Gd} {A : Nat → Prop} {ad : Nat → Nat} (C : Cx G A p s m args meth c RX9 cX9_behind 4 (some .int)) {r : Int32} {M' : Mem} : ∀ (n : Nat) (M : Mem) (x0 : Nat) (x1 : Int32) (x2 : Int32) (x3 : Int32) (H : Heap) (locs : List Loc) (ls : Array Slot), f_X9_behind_44  n M x0 x1 x2 x3 = some (r, M') → Wd G A ad s.heap M H locs → lv_has ls 4 [(0, .ref (ad x0)), (1, .int x1), (2, .int x2), (3, .int x3)] → W p l e rm_X9_behind s m args below meth c H locs 0 0 (MQ below (QI G A ad r M') args s 0 0 A) (F0 m 44 ls []) := by
  obtain ⟨hx, hb, -⟩ := id C
  intro n
  induction n with
  | zero =>
    intro M x0 x1 x2 x3 H locs ls hf
    rw [f_X9_behind_44] at hf
    exact absurd hf (fun h => nomatch h)
  | succ n ih =>
    intro M x0 x1 x2 x3 H locs ls hf hw hl
    rw [f_X9_behind_44] at hf
    refine lv_iload_n hx hb dX9_behind_44 rfl (lv_at hl 3 rfl) ?_
    refine lv_iload_n hx hb dX9_behind_45 rfl (lv_at hl 1 rfl) ?_
    refine lv_icmp_ge (tgt := 66) hx hb dX9_behind_46 (by decide) (fun hc => ?_) (fun hc => ?_)
    · have hf := if_p hc hf
      refine lv_aload_n hx hb dX9_behind_66 rfl (lv_at hl 0 rfl) ?_
      obtain ⟨hT1, hf⟩ := gt_inv hf
      obtain ⟨a2, hP3, hf⟩ := lp_inv hf
      refine r_getP C hw cf9 3 (by decide) rfl hT1 hP3 fl_X9_25 dX9_behind_67 ?_
      refine lv_aload_n hx hb dX9_behind_70 rfl (lv_at hl 0 rfl) ?_
      obtain ⟨a4, hP5, hf⟩ := lp_inv hf
      refine r_getP C hw cf9 2 (by decide) rfl hT1 hP5 fl_X9_19 dX9_behind_71 ?_
      refine lv_ldc hx hb C.2.2.2.1 (C.2.2.2.2.1 _ kc_X9_107) dX9_behind_74 ?_
      obtain ⟨hT9, hf⟩ := gt_inv hf
      obtain ⟨⟨⟩, M6, hc8, hf⟩ := cl_inv hf
      refine fin_V (run_V C hw mf_X4_settle mv_X4_settle ml_X9_190 cf4 hT9 (c_X4_settle l G A ad hc8) (As := [.ref (ad a4), .int (-1000000005)]) (rest := []) hl.1 rfl rfl (Nat.le_of_ble_eq_true rfl) ⟨rfl, rfl, Nat.le_of_ble_eq_true rfl, Nat.le_of_ble_eq_true rfl⟩ ⟨Nat.zero_le _, Nat.zero_le _⟩ dX9_behind_76) hw (fun H locs hw => ?_)
      refine lv_iload_n hx hb dX9_behind_79 rfl (lv_at hl 2 rfl) ?_
      refine lv_if_ne (tgt := 95) hx hb dX9_behind_80 (by decide) (fun hc => ?_) (fun hc => ?_)
      · have hf := if_n hc hf
        refine lv_iload_n hx hb dX9_behind_95 rfl (lv_at hl 2 rfl) ?_
        refine lv_iconst (v := 1) hx hb dX9_behind_96 (by decide) ?_
        refine lv_icmp_ne (tgt := 110) hx hb dX9_behind_97 (by decide) (fun hc => ?_) (fun hc => ?_)
        · have hf := if_n hc hf
          refine lv_aload_n hx hb dX9_behind_110 rfl (lv_at hl 0 rfl) ?_
          obtain ⟨hT10, hf⟩ := gt_inv hf
          obtain ⟨a11, hP12, hf⟩ := lp_inv hf
          refine r_getP C hw cf9 3 (by decide) rfl hT10 hP12 fl_X9_25 dX9_behind_111 ?_
          refine lv_aload_n hx hb dX9_behind_114 rfl (lv_at hl 0 rfl) ?_
          obtain ⟨a13, hP14, hf⟩ := lp_inv hf
          refine r_getP C hw cf9 2 (by decide) rfl hT10 hP14 fl_X9_19 dX9_behind_115 ?_
          obtain ⟨hT18, hf⟩ := gt_inv hf
          obtain ⟨r16, M15, hc17, hf⟩ := cl_inv hf
          refine fin_I (run_V C hw mf_X4_allSeats mv_X4_allSeats ml_X9_196 cf4 hT18 (c_X4_allSeats l G A ad hc17) (As := [.ref (ad a13)]) (rest := []) hl.1 rfl rfl (Nat.le_of_ble_eq_true rfl) ⟨rfl, rfl, Nat.le_of_ble_eq_true rfl, Nat.le_of_ble_eq_true rfl⟩ ⟨Nat.zero_le _, Nat.zero_le _⟩ dX9_behind_118) hw (fun H locs hw => ?_)
          exact e_iret C hw hf dX9_behind_121
        · have hf := if_p hc hf
          refine lv_aload_n hx hb dX9_behind_100 rfl (lv_at hl 0 rfl) ?_
          obtain ⟨hT19, hf⟩ := gt_inv hf
          obtain ⟨a20, hP21, hf⟩ := lp_inv hf
          refine r_getP C hw cf9 2 (by decide) rfl hT19 hP21 fl_X9_19 dX9_behind_101 ?_
          obtain ⟨hT25, hf⟩ := gt_inv hf
          obtain ⟨r23, M22, hc24, hf⟩ := cl_inv hf
          refine fin_I (run_V C hw mf_X8_here mv_X8_here ml_X9_193 cf8 hT25 (c_X8_here l G A ad hc24) (As := []) (rest := []) hl.1 rfl rfl (Nat.le_of_ble_eq_true rfl) ⟨rfl, rfl, Nat.le_of_ble_eq_true rfl, Nat.le_of_ble_eq_true rfl⟩ ⟨Nat.zero_le _, Nat.zero_le _⟩ dX9_behind_104) hw (fun H locs hw => ?_)
          refine lv_goto (tgt := 121) hx hb dX9_behind_107 (by decide) ?_
          exact e_iret C hw hf dX9_behind_121
      · have hf := if_p hc hf
        refine lv_aload_n hx hb dX9_behind_83 rfl (lv_at hl 0 rfl) ?_
        obtain ⟨hT26, hf⟩ := gt_inv hf
        obtain ⟨a27, hP28, hf⟩ := lp_inv hf
        refine r_getP C hw cf9 3 (by decide) rfl hT26 hP28 fl_X9_25 dX9_behind_84 ?_
        refine lv_aload_n hx hb dX9_behind_87 rfl (lv_at hl 0 rfl) ?_
        obtain ⟨a29, hP30, hf⟩ := lp_inv hf
        refine r_getP C hw cf9 2 (by decide) rfl hT26 hP30 fl_X9_19 dX9_behind_88 ?_
        obtain ⟨hT34, hf⟩ := gt_inv hf
        obtain ⟨r32, M31, hc33, hf⟩ := cl_inv hf
        refine fin_I (run_V C hw mf_X4_winner mv_X4_winner ml_X9_165 cf4 hT34 (c_X4_winner l G A ad hc33) (As := [.ref (ad a29)]) (rest := []) hl.1 rfl rfl (Nat.le_of_ble_eq_true rfl) ⟨rfl, rfl, Nat.le_of_ble_eq_true rfl, Nat.le_of_ble_eq_true rfl⟩ ⟨Nat.zero_le _, Nat.zero_le _⟩ dX9_behind_91) hw (fun H locs hw => ?_)
        exact e_iret C hw hf dX9_behind_94
    · have hf := if_n hc hf
      refine lv_aload_n hx hb dX9_behind_49 rfl (lv_at hl 0 rfl) ?_
      obtain ⟨hT35, hf⟩ := gt_inv hf
      obtain ⟨a36, hP37, hf⟩ := lp_inv hf
      refine r_getP C hw cf9 2 (by decide) rfl hT35 hP37 fl_X9_19 dX9_behind_50 ?_
      refine lv_aload_n hx hb dX9_behind_53 rfl (lv_at hl 0 rfl) ?_
      obtain ⟨a38, hP39, hf⟩ := lp_inv hf
      refine r_getP C hw cf9 3 (by decide) rfl hT35 hP39 fl_X9_25 dX9_behind_54 ?_
      obtain ⟨hT43, hf⟩ := gt_inv hf
      obtain ⟨⟨⟩, M40, hc42, hf⟩ := cl_inv hf
      refine fin_V (run_V C hw mf_X8_live mv_X8_live ml_X9_179 cf8 hT43 (c_X8_live l G A ad hc42) (As := [.ref (ad a38)]) (rest := []) hl.1 rfl rfl (Nat.le_of_ble_eq_true rfl) ⟨rfl, rfl, Nat.le_of_ble_eq_true rfl, Nat.le_of_ble_eq_true rfl⟩ ⟨Nat.zero_le _, Nat.zero_le _⟩ dX9_behind_57) hw (fun H locs hw => ?_)
      refine lv_iinc (v := (x3 + 1)) (lv' := [(3, .int (x3 + 1)), (0, .ref (ad x0)), (1, .int x1), (2, .int x2)]) hx hb dX9_behind_60 hl (k := 3) rfl rfl (by decide) rfl (fun ls hl => ?_)
      refine lv_goto (tgt := 44) hx hb dX9_behind_63 (by decide) ?_
      exact ih M40 x0 x1 x2 (x3 + 1) _ _ _ hf hw (lv_sub hl [1, 2, 3, 0] rfl)
def f_X9_behind (M : Mem) (x0 : Nat) (x1 : Int32) (x2 : Int32) : Option (Int32 × Mem) := cl (f_X9_within M x1 60) (fun r2 M1 => (if r2 = 0 then some ((-1000000001), M1) else cl (f_X9_within M1 x2 2) (fun r5 M4 => (if r5 = 0 then some ((-1000000001), M4) else gt (mT M4 x0) 10 (lp (mP M4 x0 2) (fun a8 => lp (mP M4 x0 0) (fun a10 => gt (mT M4 a8) 9 (cl (f_X8_take M4 a8 a10) (fun _ M12 => gt (mT M12 x0) 10 (lp (mP M12 x0 3) (fun a17 => lp (mP M12 x0 2) (fun a19 => gt (mT M12 a17) 5 (cl (f_X4_look M12 a17 a19) (fun _ M21 => f_X9_behind_44 FU M21 x0 x1 x2 0))))))))))))))
set_option maxHeartbeats 4000000 in
set_option maxRecDepth 100000 in
theorem c_X9_behind (l : Launch) (G : Gd) (A : Nat → Prop) (ad : Nat → Nat) {M : Mem} {x0 : Nat} {x1 : Int32} {x2 : Int32}  {r : Int32} {M' : Mem} (hf : f_X9_behind M x0 x1 x2 = some (r, M')) : Ct l yX9_behind cX9_behind 4 (some .int) rm_X9_behind [.ref (ad x0), .int x1, .int x2] G A ad M (QI G A ad r M') 0 0 := by
  refine ct_start (by decide) (Nat.le_of_ble_eq_true rfl) ?_
  intro p e s m args below meth c ls C hin hw hl
  have C : Cx G A p s m args meth c RX9 cX9_behind 4 (some .int) := C
  have hl : lv_has ls 4 [(0, .ref (ad x0)), (1, .int x1), (2, .int x2)] := hl
  obtain ⟨hx, hb, -⟩ := id C
  rw [f_X9_behind] at hf
  refine lv_iload_n hx hb dX9_behind_0 rfl (lv_at hl 1 rfl) ?_
  refine lv_bipush (v := 60) hx hb dX9_behind_1 (by decide) ?_
  obtain ⟨r2, M1, hc3, hf⟩ := cl_inv hf
  refine fin_I (run_S C hw mf_X9_within ms_X9_within ml_X9_61 (c_X9_within l G A ad hc3) (As := [.int x1, .int 60]) (rest := []) hl.1 rfl rfl (Nat.le_of_ble_eq_true rfl) ⟨rfl, rfl, Nat.le_of_ble_eq_true rfl, Nat.le_of_ble_eq_true rfl⟩ ⟨Nat.zero_le _, Nat.zero_le _⟩ dX9_behind_3) hw (fun H locs hw => ?_)
  refine lv_if_eq (tgt := 17) hx hb dX9_behind_6 (by decide) (fun hc => ?_) (fun hc => ?_)
  · have hf := if_p hc hf
    refine lv_ldc hx hb C.2.2.2.1 (C.2.2.2.2.1 _ kc_X9_65) dX9_behind_17 ?_
    exact e_iret C hw hf dX9_behind_19
  · have hf := if_n hc hf
    refine lv_iload_n hx hb dX9_behind_9 rfl (lv_at hl 2 rfl) ?_
    refine lv_iconst (v := 2) hx hb dX9_behind_10 (by decide) ?_
    obtain ⟨r5, M4, hc6, hf⟩ := cl_inv hf
    refine fin_I (run_S C hw mf_X9_within ms_X9_within ml_X9_61 (c_X9_within l G A ad hc6) (As := [.int x2, .int 2]) (rest := []) hl.1 rfl rfl (Nat.le_of_ble_eq_true rfl) ⟨rfl, rfl, Nat.le_of_ble_eq_true rfl, Nat.le_of_ble_eq_true rfl⟩ ⟨Nat.zero_le _, Nat.zero_le _⟩ dX9_behind_11) hw (fun H locs hw => ?_)
    refine lv_if_ne (tgt := 20) hx hb dX9_behind_14 (by decide) (fun hc => ?_) (fun hc => ?_)
    · have hf := if_n hc hf
      refine lv_aload_n hx hb dX9_behind_20 rfl (lv_at hl 0 rfl) ?_
      obtain ⟨hT7, hf⟩ := gt_inv hf
      obtain ⟨a8, hP9, hf⟩ := lp_inv hf
      refine r_getP C hw cf9 2 (by decide) rfl hT7 hP9 fl_X9_19 dX9_behind_21 ?_
      refine lv_aload_n hx hb dX9_behind_24 rfl (lv_at hl 0 rfl) ?_
      obtain ⟨a10, hP11, hf⟩ := lp_inv hf
      refine r_getP C hw cf9 0 (by decide) rfl hT7 hP11 fl_X9_10 dX9_behind_25 ?_
      obtain ⟨hT15, hf⟩ := gt_inv hf
      obtain ⟨⟨⟩, M12, hc14, hf⟩ := cl_inv hf
      refine fin_V (run_V C hw mf_X8_take mv_X8_take ml_X9_183 cf8 hT15 (c_X8_take l G A ad hc14) (As := [.ref (ad a10)]) (rest := []) hl.1 rfl rfl (Nat.le_of_ble_eq_true rfl) ⟨rfl, rfl, Nat.le_of_ble_eq_true rfl, Nat.le_of_ble_eq_true rfl⟩ ⟨Nat.zero_le _, Nat.zero_le _⟩ dX9_behind_28) hw (fun H locs hw => ?_)
      refine lv_aload_n hx hb dX9_behind_31 rfl (lv_at hl 0 rfl) ?_
      obtain ⟨hT16, hf⟩ := gt_inv hf
      obtain ⟨a17, hP18, hf⟩ := lp_inv hf
      refine r_getP C hw cf9 3 (by decide) rfl hT16 hP18 fl_X9_25 dX9_behind_32 ?_
      refine lv_aload_n hx hb dX9_behind_35 rfl (lv_at hl 0 rfl) ?_
      obtain ⟨a19, hP20, hf⟩ := lp_inv hf
      refine r_getP C hw cf9 2 (by decide) rfl hT16 hP20 fl_X9_19 dX9_behind_36 ?_
      obtain ⟨hT24, hf⟩ := gt_inv hf
      obtain ⟨⟨⟩, M21, hc23, hf⟩ := cl_inv hf
      refine fin_V (run_V C hw mf_X4_look mv_X4_look ml_X9_175 cf4 hT24 (c_X4_look l G A ad hc23) (As := [.ref (ad a19)]) (rest := []) hl.1 rfl rfl (Nat.le_of_ble_eq_true rfl) ⟨rfl, rfl, Nat.le_of_ble_eq_true rfl, Nat.le_of_ble_eq_true rfl⟩ ⟨Nat.zero_le _, Nat.zero_le _⟩ dX9_behind_39) hw (fun H locs hw => ?_)
      refine lv_iconst (v := 0) hx hb dX9_behind_42 (by decide) ?_
      refine lv_istore_n (lv' := [(3, .int 0), (0, .ref (ad x0)), (1, .int x1), (2, .int x2)]) hx hb dX9_behind_43 rfl hl (by decide) rfl (fun ls hl => ?_)
      exact t_X9_behind_44 C FU M21 x0 x1 x2 0 _ _ _ hf hw (lv_sub hl [1, 2, 3, 0] rfl)
    · have hf := if_p hc hf
      refine lv_ldc hx hb C.2.2.2.1 (C.2.2.2.2.1 _ kc_X9_65) dX9_behind_17 ?_
      exact e_iret C hw hf dX9_behind_19
/-! StorkVote.rather(I)I -/
abbrev rm_X9_rather : Room := { frames := 5, cells := 0, slots := 0, locals := 119 }
def f_X9_rather_99 (K56 : Mem → Nat → Int32 → Option (Int32 × Mem)) (M : Mem) (x0 : Nat) (x2 : Int32) (s0 : Int32) : Option (Int32 × Mem) := (if s0 = (-1000000005) then K56 M x0 (x2 + 1) else some (((10 * x2) + s0), M))
set_option maxHeartbeats 4000000 in
set_option maxRecDepth 100000 in
theorem t_X9_rather_99 {l : Launch} {p : Program} {e : Env} {s : State} {m : MethodId} {args : Array Value} {below : List Frame} {meth : Method} {c : Code} {G : Gd} {A : Nat → Prop} {ad : Nat → Nat} (C : Cx G A p s m args meth c RX9 cX9_rather 4 (some .int)) {r : Int32} {M' : Mem} {K56 : Mem → Nat → Int32 → Option (Int32 × Mem)} (hK56 : ∀ (M : Mem) (x0 : Nat) (x2 : Int32) (H : Heap) (locs : List Loc) (ls : Array Slot), K56 M x0 x2 = some (r, M') → Wd G A ad s.heap M H locs → lv_has ls 4 [(0, .ref (ad x0)), (2, .int x2)] → W p l e rm_X9_rather s m args below meth c H locs 0 0 (MQ below (QI G A ad r M') args s 0 0 A) (F0 m 56 ls [])) : ∀ (M : Mem) (x0 : Nat) (x2 : Int32) (s0 : Int32) (H : Heap) (locs : List Loc) (ls : Array Slot), f_X9_rather_99 K56 M x0 x2 s0 = some (r, M') → Wd G A ad s.heap M H locs → lv_has ls 4 [(0, .ref (ad x0)), (2, .int x2)] → W p l e rm_X9_rather s m args below meth c H locs 0 0 (MQ below (QI G A ad r M') args s 0 0 A) (F0 m 99 ls [.int s0]) := by
  obtain ⟨hx, hb, -⟩ := id C
  intro M x0 x2 s0 H locs ls hf hw hl
  rw [f_X9_rather_99] at hf
  refine lv_istore_n (lv' := [(3, .int s0), (0, .ref (ad x0)), (2, .int x2)]) hx hb dX9_rather_99 rfl hl (by decide) rfl (fun ls hl => ?_)
  refine lv_iload_n hx hb dX9_rather_100 rfl (lv_at hl 0 rfl) ?_
  refine lv_ldc hx hb C.2.2.2.1 (C.2.2.2.2.1 _ kc_X9_107) dX9_rather_101 ?_
  refine lv_icmp_eq (tgt := 113) hx hb dX9_rather_103 (by decide) (fun hc => ?_) (fun hc => ?_)
  · have hf := if_p hc hf
    refine lv_iinc (v := (x2 + 1)) (lv' := [(2, .int (x2 + 1)), (3, .int s0), (0, .ref (ad x0))]) hx hb dX9_rather_113 hl (k := 2) rfl rfl (by decide) rfl (fun ls hl => ?_)
    refine lv_goto (tgt := 56) hx hb dX9_rather_116 (by decide) ?_
    exact hK56 M x0 (x2 + 1) _ _ _ hf hw (lv_sub hl [2, 0] rfl)
  · have hf := if_n hc hf
    refine lv_bipush (v := 10) hx hb dX9_rather_106 (by decide) ?_
    refine lv_iload_n hx hb dX9_rather_108 rfl (lv_at hl 2 rfl) ?_
    refine lv_imul hx hb dX9_rather_109 ?_
    refine lv_iload_n hx hb dX9_rather_110 rfl (lv_at hl 0 rfl) ?_
    refine lv_iadd hx hb dX9_rather_111 ?_
    exact e_iret C hw hf dX9_rather_112
def f_X9_rather_56 : Nat → Mem → Nat → Int32 → Option (Int32 × Mem)
  | 0, _, _, _ => none
  | n + 1, M, x0, x2 => gt (mT M x0) 10 (lp (mP M x0 0) (fun a2 => gt (mT M a2) 9 ((if (mI M a2 3) ≤ x2 then some ((-1000000005), M) else lp (mP M a2 2) (fun a5 => gt (mT M a5) 24 (gd (ib x2 (mL M a5)) (lp (mP M a5 x2.toNatClampNeg) (fun a9 => gt (mT M a9) 6 ((if (mI M a9 2) = 0 then lp (mP M x0 3) (fun a12 => gt (mT M a12) 5 (cl (f_X4_betterFor M a12 a2 x2) (fun r15 M14 => f_X9_rather_99 (f_X9_rather_56 n) M14 x0 x2 r15))) else f_X9_rather_99 (f_X9_rather_56 n) M x0 x2 (-1000000005)))))))))))
set_option maxHeartbeats 4000000 in
set_option maxRecDepth 100000 in
theorem t_X9_rather_56 {l : Launch} {p : Program} {e : Env} {s : State} {m : MethodId} {args : Array Value} {below : List Frame} {meth : Method} {c : Code} {G : Gd} {A : Nat → Prop} {ad : Nat → Nat} (C : Cx G A p s m args meth c RX9 cX9_rather 4 (some .int)) {r : Int32} {M' : Mem} : ∀ (n : Nat) (M : Mem) (x0 : Nat) (x2 : Int32) (H : Heap) (locs : List Loc) (ls : Array Slot), f_X9_rather_56  n M x0 x2 = some (r, M') → Wd G A ad s.heap M H locs → lv_has ls 4 [(0, .ref (ad x0)), (2, .int x2)] → W p l e rm_X9_rather s m args below meth c H locs 0 0 (MQ below (QI G A ad r M') args s 0 0 A) (F0 m 56 ls []) := by
  obtain ⟨hx, hb, -⟩ := id C
  intro n
  induction n with
  | zero =>
    intro M x0 x2 H locs ls hf
    rw [f_X9_rather_56] at hf
    exact absurd hf (fun h => nomatch h)
  | succ n ih =>
    intro M x0 x2 H locs ls hf hw hl
    rw [f_X9_rather_56] at hf
    refine lv_iload_n hx hb dX9_rather_56 rfl (lv_at hl 1 rfl) ?_
    refine lv_aload_n hx hb dX9_rather_57 rfl (lv_at hl 0 rfl) ?_
    obtain ⟨hT1, hf⟩ := gt_inv hf
    obtain ⟨a2, hP3, hf⟩ := lp_inv hf
    refine r_getP C hw cf9 0 (by decide) rfl hT1 hP3 fl_X9_10 dX9_rather_58 ?_
    obtain ⟨hT4, hf⟩ := gt_inv hf
    refine r_getI C hw cf8 3 (by decide) rfl hT4 fl_X9_172 dX9_rather_61 ?_
    refine lv_icmp_ge (tgt := 119) hx hb dX9_rather_64 (by decide) (fun hc => ?_) (fun hc => ?_)
    · have hf := if_p hc hf
      refine lv_ldc hx hb C.2.2.2.1 (C.2.2.2.2.1 _ kc_X9_107) dX9_rather_119 ?_
      exact e_iret C hw hf dX9_rather_121
    · have hf := if_n hc hf
      refine lv_aload_n hx hb dX9_rather_67 rfl (lv_at hl 0 rfl) ?_
      refine r_getP C hw cf9 0 (by decide) rfl hT1 hP3 fl_X9_10 dX9_rather_68 ?_
      obtain ⟨a5, hP6, hf⟩ := lp_inv hf
      refine r_getP C hw cf8 2 (by decide) rfl hT4 hP6 fl_X9_115 dX9_rather_71 ?_
      refine lv_iload_n hx hb dX9_rather_74 rfl (lv_at hl 1 rfl) ?_
      obtain ⟨hT7, hf⟩ := gt_inv hf
      obtain ⟨hg8, hf⟩ := gd_inv hf
      obtain ⟨a9, hP10, hf⟩ := lp_inv hf
      refine r_aald C hw 4 rfl (by decide) (by decide) hT7 hg8 hP10 dX9_rather_75 ?_
      obtain ⟨hT11, hf⟩ := gt_inv hf
      refine r_getI C hw cf5 2 (by decide) rfl hT11 fl_X9_127 dX9_rather_76 ?_
      refine lv_if_eq (tgt := 87) hx hb dX9_rather_79 (by decide) (fun hc => ?_) (fun hc => ?_)
      · have hf := if_p hc hf
        refine lv_aload_n hx hb dX9_rather_87 rfl (lv_at hl 0 rfl) ?_
        obtain ⟨a12, hP13, hf⟩ := lp_inv hf
        refine r_getP C hw cf9 3 (by decide) rfl hT1 hP13 fl_X9_25 dX9_rather_88 ?_
        refine lv_aload_n hx hb dX9_rather_91 rfl (lv_at hl 0 rfl) ?_
        refine r_getP C hw cf9 0 (by decide) rfl hT1 hP3 fl_X9_10 dX9_rather_92 ?_
        refine lv_iload_n hx hb dX9_rather_95 rfl (lv_at hl 1 rfl) ?_
        obtain ⟨hT17, hf⟩ := gt_inv hf
        obtain ⟨r15, M14, hc16, hf⟩ := cl_inv hf
        refine fin_I (run_V C hw mf_X4_betterFor mv_X4_betterFor ml_X9_208 cf4 hT17 (c_X4_betterFor l G A ad hc16) (As := [.ref (ad a2), .int x2]) (rest := []) hl.1 rfl rfl (Nat.le_of_ble_eq_true rfl) ⟨rfl, rfl, Nat.le_of_ble_eq_true rfl, Nat.le_of_ble_eq_true rfl⟩ ⟨Nat.zero_le _, Nat.zero_le _⟩ dX9_rather_96) hw (fun H locs hw => ?_)
        exact t_X9_rather_99 C ih M14 x0 x2 r15 _ _ _ hf hw (lv_sub hl [0, 1] rfl)
      · have hf := if_n hc hf
        refine lv_ldc hx hb C.2.2.2.1 (C.2.2.2.2.1 _ kc_X9_107) dX9_rather_82 ?_
        refine lv_goto (tgt := 99) hx hb dX9_rather_84 (by decide) ?_
        exact t_X9_rather_99 C ih M x0 x2 (-1000000005) _ _ _ hf hw (lv_sub hl [0, 1] rfl)
def f_X9_rather (M : Mem) (x0 : Nat) (x1 : Int32) : Option (Int32 × Mem) := cl (f_X9_within M x1 3) (fun r2 M1 => (if r2 = 0 then some ((-1000000001), M1) else gt (mT M1 x0) 10 (lp (mP M1 x0 6) (fun a5 => gt (mT M1 a5) 26 (gd (ib x1 (mL M1 a5)) (lp (mP M1 a5 x1.toNatClampNeg) (fun a9 => gt (mT M1 a9) 3 (cl (f_X2_isMissing M1 a9) (fun r12 M11 => (if r12 = 0 then gt (mT M11 x0) 10 (lp (mP M11 x0 3) (fun a16 => lp (mP M11 x0 0) (fun a18 => gt (mT M11 a16) 5 (cl (f_X4_look M11 a16 a18) (fun _ M20 => gt (mT M20 x0) 10 (lp (mP M20 x0 3) (fun a25 => lp (mP M20 x0 0) (fun a27 => lp (mP M20 x0 6) (fun a29 => gt (mT M20 a29) 26 (gd (ib x1 (mL M20 a29)) (lp (mP M20 a29 x1.toNatClampNeg) (fun a33 => gt (mT M20 a25) 5 (cl (f_X4_nestsTold M20 a25 a27 a33) (fun _ M35 => f_X9_rather_56 FU M35 x0 0)))))))))))))) else some ((-1000000011), M11)))))))))))
set_option maxHeartbeats 4000000 in
set_option maxRecDepth 100000 in
theorem c_X9_rather (l : Launch) (G : Gd) (A : Nat → Prop) (ad : Nat → Nat) {M : Mem} {x0 : Nat} {x1 : Int32}  {r : Int32} {M' : Mem} (hf : f_X9_rather M x0 x1 = some (r, M')) : Ct l yX9_rather cX9_rather 4 (some .int) rm_X9_rather [.ref (ad x0), .int x1] G A ad M (QI G A ad r M') 0 0 := by
  refine ct_start (by decide) (Nat.le_of_ble_eq_true rfl) ?_
  intro p e s m args below meth c ls C hin hw hl
  have C : Cx G A p s m args meth c RX9 cX9_rather 4 (some .int) := C
  have hl : lv_has ls 4 [(0, .ref (ad x0)), (1, .int x1)] := hl
  obtain ⟨hx, hb, -⟩ := id C
  rw [f_X9_rather] at hf
  refine lv_iload_n hx hb dX9_rather_0 rfl (lv_at hl 1 rfl) ?_
  refine lv_iconst (v := 3) hx hb dX9_rather_1 (by decide) ?_
  obtain ⟨r2, M1, hc3, hf⟩ := cl_inv hf
  refine fin_I (run_S C hw mf_X9_within ms_X9_within ml_X9_61 (c_X9_within l G A ad hc3) (As := [.int x1, .int 3]) (rest := []) hl.1 rfl rfl (Nat.le_of_ble_eq_true rfl) ⟨rfl, rfl, Nat.le_of_ble_eq_true rfl, Nat.le_of_ble_eq_true rfl⟩ ⟨Nat.zero_le _, Nat.zero_le _⟩ dX9_rather_2) hw (fun H locs hw => ?_)
  refine lv_if_ne (tgt := 11) hx hb dX9_rather_5 (by decide) (fun hc => ?_) (fun hc => ?_)
  · have hf := if_n hc hf
    refine lv_aload_n hx hb dX9_rather_11 rfl (lv_at hl 0 rfl) ?_
    obtain ⟨hT4, hf⟩ := gt_inv hf
    obtain ⟨a5, hP6, hf⟩ := lp_inv hf
    refine r_getP C hw cf9 6 (by decide) rfl hT4 hP6 fl_X9_45 dX9_rather_12 ?_
    refine lv_iload_n hx hb dX9_rather_15 rfl (lv_at hl 1 rfl) ?_
    obtain ⟨hT7, hf⟩ := gt_inv hf
    obtain ⟨hg8, hf⟩ := gd_inv hf
    obtain ⟨a9, hP10, hf⟩ := lp_inv hf
    refine r_aald C hw 6 rfl (by decide) (by decide) hT7 hg8 hP10 dX9_rather_16 ?_
    obtain ⟨hT14, hf⟩ := gt_inv hf
    obtain ⟨r12, M11, hc13, hf⟩ := cl_inv hf
    refine fin_I (run_V C hw mf_X2_isMissing mv_X2_isMissing ml_X9_199 cf2 hT14 (c_X2_isMissing l G A ad hc13) (As := []) (rest := []) hl.1 rfl rfl (Nat.le_of_ble_eq_true rfl) ⟨rfl, rfl, Nat.le_of_ble_eq_true rfl, Nat.le_of_ble_eq_true rfl⟩ ⟨Nat.zero_le _, Nat.zero_le _⟩ dX9_rather_17) hw (fun H locs hw => ?_)
    refine lv_if_eq (tgt := 26) hx hb dX9_rather_20 (by decide) (fun hc => ?_) (fun hc => ?_)
    · have hf := if_p hc hf
      refine lv_aload_n hx hb dX9_rather_26 rfl (lv_at hl 0 rfl) ?_
      obtain ⟨hT15, hf⟩ := gt_inv hf
      obtain ⟨a16, hP17, hf⟩ := lp_inv hf
      refine r_getP C hw cf9 3 (by decide) rfl hT15 hP17 fl_X9_25 dX9_rather_27 ?_
      refine lv_aload_n hx hb dX9_rather_30 rfl (lv_at hl 0 rfl) ?_
      obtain ⟨a18, hP19, hf⟩ := lp_inv hf
      refine r_getP C hw cf9 0 (by decide) rfl hT15 hP19 fl_X9_10 dX9_rather_31 ?_
      obtain ⟨hT23, hf⟩ := gt_inv hf
      obtain ⟨⟨⟩, M20, hc22, hf⟩ := cl_inv hf
      refine fin_V (run_V C hw mf_X4_look mv_X4_look ml_X9_175 cf4 hT23 (c_X4_look l G A ad hc22) (As := [.ref (ad a18)]) (rest := []) hl.1 rfl rfl (Nat.le_of_ble_eq_true rfl) ⟨rfl, rfl, Nat.le_of_ble_eq_true rfl, Nat.le_of_ble_eq_true rfl⟩ ⟨Nat.zero_le _, Nat.zero_le _⟩ dX9_rather_34) hw (fun H locs hw => ?_)
      refine lv_aload_n hx hb dX9_rather_37 rfl (lv_at hl 0 rfl) ?_
      obtain ⟨hT24, hf⟩ := gt_inv hf
      obtain ⟨a25, hP26, hf⟩ := lp_inv hf
      refine r_getP C hw cf9 3 (by decide) rfl hT24 hP26 fl_X9_25 dX9_rather_38 ?_
      refine lv_aload_n hx hb dX9_rather_41 rfl (lv_at hl 0 rfl) ?_
      obtain ⟨a27, hP28, hf⟩ := lp_inv hf
      refine r_getP C hw cf9 0 (by decide) rfl hT24 hP28 fl_X9_10 dX9_rather_42 ?_
      refine lv_aload_n hx hb dX9_rather_45 rfl (lv_at hl 0 rfl) ?_
      obtain ⟨a29, hP30, hf⟩ := lp_inv hf
      refine r_getP C hw cf9 6 (by decide) rfl hT24 hP30 fl_X9_45 dX9_rather_46 ?_
      refine lv_iload_n hx hb dX9_rather_49 rfl (lv_at hl 1 rfl) ?_
      obtain ⟨hT31, hf⟩ := gt_inv hf
      obtain ⟨hg32, hf⟩ := gd_inv hf
      obtain ⟨a33, hP34, hf⟩ := lp_inv hf
      refine r_aald C hw 6 rfl (by decide) (by decide) hT31 hg32 hP34 dX9_rather_50 ?_
      obtain ⟨hT38, hf⟩ := gt_inv hf
      obtain ⟨⟨⟩, M35, hc37, hf⟩ := cl_inv hf
      refine fin_V (run_V C hw mf_X4_nestsTold mv_X4_nestsTold ml_X9_204 cf4 hT38 (c_X4_nestsTold l G A ad hc37) (As := [.ref (ad a27), .ref (ad a33)]) (rest := []) hl.1 rfl rfl (Nat.le_of_ble_eq_true rfl) ⟨rfl, rfl, Nat.le_of_ble_eq_true rfl, Nat.le_of_ble_eq_true rfl⟩ ⟨Nat.zero_le _, Nat.zero_le _⟩ dX9_rather_51) hw (fun H locs hw => ?_)
      refine lv_iconst (v := 0) hx hb dX9_rather_54 (by decide) ?_
      refine lv_istore_n (lv' := [(2, .int 0), (0, .ref (ad x0)), (1, .int x1)]) hx hb dX9_rather_55 rfl hl (by decide) rfl (fun ls hl => ?_)
      exact t_X9_rather_56 C FU M35 x0 0 _ _ _ hf hw (lv_sub hl [1, 0] rfl)
    · have hf := if_n hc hf
      refine lv_ldc hx hb C.2.2.2.1 (C.2.2.2.2.1 _ kc_X9_203) dX9_rather_23 ?_
      exact e_iret C hw hf dX9_rather_25
  · have hf := if_p hc hf
    refine lv_ldc hx hb C.2.2.2.1 (C.2.2.2.2.1 _ kc_X9_65) dX9_rather_8 ?_
    exact e_iret C hw hf dX9_rather_10
/-! StorkVote.fine()I -/
abbrev rm_X9_fine : Room := { frames := 2, cells := 0, slots := 0, locals := 50 }
def f_X9_fine (M : Mem) (x0 : Nat) : Option (Int32 × Mem) := gt (mT M x0) 10 (lp (mP M x0 0) (fun a2 => gt (mT M a2) 9 (cl (f_X8_counting M a2 2) (fun r5 M4 => on r5 (some (0, M4)) (fun b8 => gt (mT M4 x0) 10 (lp (mP M4 x0 0) (fun a10 => gt (mT M4 a10) 9 (cl (f_X8_here M4 a10) (fun r14 M13 => gt (mT M13 x0) 10 (lp (mP M13 x0 0) (fun a17 => gt (mT M13 a17) 9 (lp (mP M13 a17 9) (fun a20 => gt (mT M13 b8) 8 (cl (f_X7_value M13 b8 (mI M4 a10 5) r14 0 a20) (fun r23 M22 => some (r23, M22))))))))))))))))
set_option maxHeartbeats 4000000 in
set_option maxRecDepth 100000 in
theorem c_X9_fine (l : Launch) (G : Gd) (A : Nat → Prop) (ad : Nat → Nat) {M : Mem} {x0 : Nat}  {r : Int32} {M' : Mem} (hf : f_X9_fine M x0 = some (r, M')) : Ct l yX9_fine cX9_fine 2 (some .int) rm_X9_fine [.ref (ad x0)] G A ad M (QI G A ad r M') 0 0 := by
  refine ct_start (by decide) (Nat.le_of_ble_eq_true rfl) ?_
  intro p e s m args below meth c ls C hin hw hl
  have C : Cx G A p s m args meth c RX9 cX9_fine 2 (some .int) := C
  have hl : lv_has ls 2 [(0, .ref (ad x0))] := hl
  obtain ⟨hx, hb, -⟩ := id C
  rw [f_X9_fine] at hf
  refine lv_aload_n hx hb dX9_fine_0 rfl (lv_at hl 0 rfl) ?_
  obtain ⟨hT1, hf⟩ := gt_inv hf
  obtain ⟨a2, hP3, hf⟩ := lp_inv hf
  refine r_getP C hw cf9 0 (by decide) rfl hT1 hP3 fl_X9_10 dX9_fine_1 ?_
  refine lv_iconst (v := 2) hx hb dX9_fine_4 (by decide) ?_
  obtain ⟨hT7, hf⟩ := gt_inv hf
  obtain ⟨r5, M4, hc6, hf⟩ := cl_inv hf
  refine fin_Q (run_V C hw mf_X8_counting mv_X8_counting ml_X9_211 cf8 hT7 (c_X8_counting l G A ad hc6) (As := [.int 2]) (rest := []) hl.1 rfl rfl (Nat.le_of_ble_eq_true rfl) ⟨rfl, rfl, Nat.le_of_ble_eq_true rfl, Nat.le_of_ble_eq_true rfl⟩ ⟨Nat.zero_le _, Nat.zero_le _⟩ dX9_fine_5) hw (fun H locs hw => ?_)
  rcases r5 with _ | b8
  · have hf := on_n hf
    refine lv_astore_nN (lv' := [(1, .null), (0, .ref (ad x0))]) hx hb dX9_fine_8 rfl hl (by decide) rfl (fun ls hl => ?_)
    refine lv_aload_nN hx hb dX9_fine_9 rfl (lv_at hl 0 rfl) ?_
    refine lv_ifnonnullN hx hb dX9_fine_10 ?_
    refine lv_iconst (v := 0) hx hb dX9_fine_13 (by decide) ?_
    refine lv_goto (tgt := 43) hx hb dX9_fine_14 (by decide) ?_
    exact e_iret C hw hf dX9_fine_43
  · have hf := on_s hf
    refine lv_astore_n (lv' := [(1, .ref (ad b8)), (0, .ref (ad x0))]) hx hb dX9_fine_8 rfl hl (by decide) rfl (fun ls hl => ?_)
    refine lv_aload_n hx hb dX9_fine_9 rfl (lv_at hl 0 rfl) ?_
    refine lv_ifnonnull (tgt := 17) hx hb dX9_fine_10 (by decide) ?_
    refine lv_aload_n hx hb dX9_fine_17 rfl (lv_at hl 0 rfl) ?_
    refine lv_aload_n hx hb dX9_fine_18 rfl (lv_at hl 1 rfl) ?_
    obtain ⟨hT9, hf⟩ := gt_inv hf
    obtain ⟨a10, hP11, hf⟩ := lp_inv hf
    refine r_getP C hw cf9 0 (by decide) rfl hT9 hP11 fl_X9_10 dX9_fine_19 ?_
    obtain ⟨hT12, hf⟩ := gt_inv hf
    refine r_getI C hw cf8 5 (by decide) rfl hT12 fl_X9_169 dX9_fine_22 ?_
    refine lv_aload_n hx hb dX9_fine_25 rfl (lv_at hl 1 rfl) ?_
    refine r_getP C hw cf9 0 (by decide) rfl hT9 hP11 fl_X9_10 dX9_fine_26 ?_
    obtain ⟨r14, M13, hc15, hf⟩ := cl_inv hf
    refine fin_I (run_V C hw mf_X8_here mv_X8_here ml_X9_193 cf8 hT12 (c_X8_here l G A ad hc15) (As := []) (rest := [.int (mI M4 a10 5), .ref (ad b8)]) hl.1 rfl rfl (Nat.le_of_ble_eq_true rfl) ⟨rfl, rfl, Nat.le_of_ble_eq_true rfl, Nat.le_of_ble_eq_true rfl⟩ ⟨Nat.zero_le _, Nat.zero_le _⟩ dX9_fine_29) hw (fun H locs hw => ?_)
    refine lv_iconst (v := 0) hx hb dX9_fine_32 (by decide) ?_
    refine lv_aload_n hx hb dX9_fine_33 rfl (lv_at hl 1 rfl) ?_
    obtain ⟨hT16, hf⟩ := gt_inv hf
    obtain ⟨a17, hP18, hf⟩ := lp_inv hf
    refine r_getP C hw cf9 0 (by decide) rfl hT16 hP18 fl_X9_10 dX9_fine_34 ?_
    obtain ⟨hT19, hf⟩ := gt_inv hf
    obtain ⟨a20, hP21, hf⟩ := lp_inv hf
    refine r_getP C hw cf8 9 (by decide) rfl hT19 hP21 fl_X9_215 dX9_fine_37 ?_
    obtain ⟨hT25, hf⟩ := gt_inv hf
    obtain ⟨r23, M22, hc24, hf⟩ := cl_inv hf
    refine fin_I (run_V C hw mf_X7_value mv_X7_value ml_X9_218 cf7 hT25 (c_X7_value l G A ad hc24) (As := [.int (mI M4 a10 5), .int r14, .int 0, .ref (ad a20)]) (rest := []) hl.1 rfl rfl (Nat.le_of_ble_eq_true rfl) ⟨rfl, rfl, Nat.le_of_ble_eq_true rfl, Nat.le_of_ble_eq_true rfl⟩ ⟨Nat.zero_le _, Nat.zero_le _⟩ dX9_fine_40) hw (fun H locs hw => ?_)
    exact e_iret C hw hf dX9_fine_43
/-! StorkVote.feed(III)I -/
abbrev rm_X9_feed : Room := { frames := 1, cells := 0, slots := 0, locals := 22 }
def f_X9_feed (M : Mem) (x0 : Nat) (x1 : Int32) (x2 : Int32) (x3 : Int32) : Option (Int32 × Mem) := gt (mT M x0) 10 (lp (mP M x0 4) (fun a2 => gt (mT M a2) 7 ((if ((mI M a2 1) + 12) ≤ 96 then cl (f_X6_put M a2 x1) (fun _ M5 => gt (mT M5 x0) 10 (lp (mP M5 x0 4) (fun a9 => gt (mT M5 a9) 7 (cl (f_X6_put M5 a9 x2) (fun _ M11 => gt (mT M11 x0) 10 (lp (mP M11 x0 4) (fun a16 => gt (mT M11 a16) 7 (cl (f_X6_put M11 a16 x3) (fun _ M18 => gt (mT M18 x0) 10 (lp (mP M18 x0 4) (fun a23 => gt (mT M18 a23) 7 (some ((mI M18 a23 1), M18))))))))))))) else some ((-1000000003), M)))))
set_option maxHeartbeats 4000000 in
set_option maxRecDepth 100000 in
theorem c_X9_feed (l : Launch) (G : Gd) (A : Nat → Prop) (ad : Nat → Nat) {M : Mem} {x0 : Nat} {x1 : Int32} {x2 : Int32} {x3 : Int32}  {r : Int32} {M' : Mem} (hf : f_X9_feed M x0 x1 x2 x3 = some (r, M')) : Ct l yX9_feed cX9_feed 4 (some .int) rm_X9_feed [.ref (ad x0), .int x1, .int x2, .int x3] G A ad M (QI G A ad r M') 0 0 := by
  refine ct_start (by decide) (Nat.le_of_ble_eq_true rfl) ?_
  intro p e s m args below meth c ls C hin hw hl
  have C : Cx G A p s m args meth c RX9 cX9_feed 4 (some .int) := C
  have hl : lv_has ls 4 [(0, .ref (ad x0)), (1, .int x1), (2, .int x2), (3, .int x3)] := hl
  obtain ⟨hx, hb, -⟩ := id C
  rw [f_X9_feed] at hf
  refine lv_aload_n hx hb dX9_feed_0 rfl (lv_at hl 0 rfl) ?_
  obtain ⟨hT1, hf⟩ := gt_inv hf
  obtain ⟨a2, hP3, hf⟩ := lp_inv hf
  refine r_getP C hw cf9 4 (by decide) rfl hT1 hP3 fl_X9_32 dX9_feed_1 ?_
  obtain ⟨hT4, hf⟩ := gt_inv hf
  refine r_getI C hw cf6 1 (by decide) rfl hT4 fl_X9_224 dX9_feed_4 ?_
  refine lv_bipush (v := 12) hx hb dX9_feed_7 (by decide) ?_
  refine lv_iadd hx hb dX9_feed_9 ?_
  refine lv_bipush (v := 96) hx hb dX9_feed_10 (by decide) ?_
  refine lv_icmp_le (tgt := 18) hx hb dX9_feed_12 (by decide) (fun hc => ?_) (fun hc => ?_)
  · have hf := if_p hc hf
    refine lv_aload_n hx hb dX9_feed_18 rfl (lv_at hl 0 rfl) ?_
    refine r_getP C hw cf9 4 (by decide) rfl hT1 hP3 fl_X9_32 dX9_feed_19 ?_
    refine lv_iload_n hx hb dX9_feed_22 rfl (lv_at hl 1 rfl) ?_
    obtain ⟨⟨⟩, M5, hc7, hf⟩ := cl_inv hf
    refine fin_V (run_V C hw mf_X6_put mv_X6_put ml_X9_228 cf6 hT4 (c_X6_put l G A ad hc7) (As := [.int x1]) (rest := []) hl.1 rfl rfl (Nat.le_of_ble_eq_true rfl) ⟨rfl, rfl, Nat.le_of_ble_eq_true rfl, Nat.le_of_ble_eq_true rfl⟩ ⟨Nat.zero_le _, Nat.zero_le _⟩ dX9_feed_23) hw (fun H locs hw => ?_)
    refine lv_aload_n hx hb dX9_feed_26 rfl (lv_at hl 0 rfl) ?_
    obtain ⟨hT8, hf⟩ := gt_inv hf
    obtain ⟨a9, hP10, hf⟩ := lp_inv hf
    refine r_getP C hw cf9 4 (by decide) rfl hT8 hP10 fl_X9_32 dX9_feed_27 ?_
    refine lv_iload_n hx hb dX9_feed_30 rfl (lv_at hl 2 rfl) ?_
    obtain ⟨hT14, hf⟩ := gt_inv hf
    obtain ⟨⟨⟩, M11, hc13, hf⟩ := cl_inv hf
    refine fin_V (run_V C hw mf_X6_put mv_X6_put ml_X9_228 cf6 hT14 (c_X6_put l G A ad hc13) (As := [.int x2]) (rest := []) hl.1 rfl rfl (Nat.le_of_ble_eq_true rfl) ⟨rfl, rfl, Nat.le_of_ble_eq_true rfl, Nat.le_of_ble_eq_true rfl⟩ ⟨Nat.zero_le _, Nat.zero_le _⟩ dX9_feed_31) hw (fun H locs hw => ?_)
    refine lv_aload_n hx hb dX9_feed_34 rfl (lv_at hl 0 rfl) ?_
    obtain ⟨hT15, hf⟩ := gt_inv hf
    obtain ⟨a16, hP17, hf⟩ := lp_inv hf
    refine r_getP C hw cf9 4 (by decide) rfl hT15 hP17 fl_X9_32 dX9_feed_35 ?_
    refine lv_iload_n hx hb dX9_feed_38 rfl (lv_at hl 3 rfl) ?_
    obtain ⟨hT21, hf⟩ := gt_inv hf
    obtain ⟨⟨⟩, M18, hc20, hf⟩ := cl_inv hf
    refine fin_V (run_V C hw mf_X6_put mv_X6_put ml_X9_228 cf6 hT21 (c_X6_put l G A ad hc20) (As := [.int x3]) (rest := []) hl.1 rfl rfl (Nat.le_of_ble_eq_true rfl) ⟨rfl, rfl, Nat.le_of_ble_eq_true rfl, Nat.le_of_ble_eq_true rfl⟩ ⟨Nat.zero_le _, Nat.zero_le _⟩ dX9_feed_39) hw (fun H locs hw => ?_)
    refine lv_aload_n hx hb dX9_feed_42 rfl (lv_at hl 0 rfl) ?_
    obtain ⟨hT22, hf⟩ := gt_inv hf
    obtain ⟨a23, hP24, hf⟩ := lp_inv hf
    refine r_getP C hw cf9 4 (by decide) rfl hT22 hP24 fl_X9_32 dX9_feed_43 ?_
    obtain ⟨hT25, hf⟩ := gt_inv hf
    refine r_getI C hw cf6 1 (by decide) rfl hT25 fl_X9_224 dX9_feed_46 ?_
    exact e_iret C hw hf dX9_feed_49
  · have hf := if_n hc hf
    refine lv_ldc hx hb C.2.2.2.1 (C.2.2.2.2.1 _ kc_X9_227) dX9_feed_15 ?_
    exact e_iret C hw hf dX9_feed_17
/-! StorkVote.trim(I)I -/
abbrev rm_X9_trim : Room := { frames := 1, cells := 0, slots := 0, locals := 21 }
def f_X9_trim (M : Mem) (x0 : Nat) (x1 : Int32) : Option (Int32 × Mem) := gt (mT M x0) 10 (lp (mP M x0 4) (fun a2 => gt (mT M a2) 7 (cl (f_X9_within M x1 (mI M a2 1)) (fun r6 M5 => (if r6 = 0 then some ((-1000000001), M5) else gt (mT M5 x0) 10 (lp (mP M5 x0 4) (fun a9 => gt (mT M5 a9) 7 (st (setI M5 a9 1 x1) (fun M12 => some (x1, M12))))))))))
set_option maxHeartbeats 4000000 in
set_option maxRecDepth 100000 in
theorem c_X9_trim (l : Launch) (G : Gd) (A : Nat → Prop) (ad : Nat → Nat) {M : Mem} {x0 : Nat} {x1 : Int32}  {r : Int32} {M' : Mem} (hf : f_X9_trim M x0 x1 = some (r, M')) : Ct l yX9_trim cX9_trim 2 (some .int) rm_X9_trim [.ref (ad x0), .int x1] G A ad M (QI G A ad r M') 0 0 := by
  refine ct_start (by decide) (Nat.le_of_ble_eq_true rfl) ?_
  intro p e s m args below meth c ls C hin hw hl
  have C : Cx G A p s m args meth c RX9 cX9_trim 2 (some .int) := C
  have hl : lv_has ls 2 [(0, .ref (ad x0)), (1, .int x1)] := hl
  obtain ⟨hx, hb, -⟩ := id C
  rw [f_X9_trim] at hf
  refine lv_iload_n hx hb dX9_trim_0 rfl (lv_at hl 1 rfl) ?_
  refine lv_aload_n hx hb dX9_trim_1 rfl (lv_at hl 0 rfl) ?_
  obtain ⟨hT1, hf⟩ := gt_inv hf
  obtain ⟨a2, hP3, hf⟩ := lp_inv hf
  refine r_getP C hw cf9 4 (by decide) rfl hT1 hP3 fl_X9_32 dX9_trim_2 ?_
  obtain ⟨hT4, hf⟩ := gt_inv hf
  refine r_getI C hw cf6 1 (by decide) rfl hT4 fl_X9_224 dX9_trim_5 ?_
  obtain ⟨r6, M5, hc7, hf⟩ := cl_inv hf
  refine fin_I (run_S C hw mf_X9_within ms_X9_within ml_X9_61 (c_X9_within l G A ad hc7) (As := [.int x1, .int (mI M a2 1)]) (rest := []) hl.1 rfl rfl (Nat.le_of_ble_eq_true rfl) ⟨rfl, rfl, Nat.le_of_ble_eq_true rfl, Nat.le_of_ble_eq_true rfl⟩ ⟨Nat.zero_le _, Nat.zero_le _⟩ dX9_trim_8) hw (fun H locs hw => ?_)
  refine lv_if_ne (tgt := 17) hx hb dX9_trim_11 (by decide) (fun hc => ?_) (fun hc => ?_)
  · have hf := if_n hc hf
    refine lv_aload_n hx hb dX9_trim_17 rfl (lv_at hl 0 rfl) ?_
    obtain ⟨hT8, hf⟩ := gt_inv hf
    obtain ⟨a9, hP10, hf⟩ := lp_inv hf
    refine r_getP C hw cf9 4 (by decide) rfl hT8 hP10 fl_X9_32 dX9_trim_18 ?_
    refine lv_iload_n hx hb dX9_trim_21 rfl (lv_at hl 1 rfl) ?_
    obtain ⟨hT11, hf⟩ := gt_inv hf
    obtain ⟨M12, e13, hf⟩ := st_inv hf
    have g14 := sg_I e13
    refine r_putI C hw cf6 1 (by decide) rfl hT11 e13 fl_X9_224 rfl rfl rfl dX9_trim_22 (fun H locs hw => ?_)
    refine lv_iload_n hx hb dX9_trim_25 rfl (lv_at hl 1 rfl) ?_
    exact e_iret C hw hf dX9_trim_26
  · have hf := if_p hc hf
    refine lv_ldc hx hb C.2.2.2.1 (C.2.2.2.2.1 _ kc_X9_65) dX9_trim_14 ?_
    exact e_iret C hw hf dX9_trim_16
/-! StorkVote.textTold(II)I -/
abbrev rm_X9_textTold : Room := { frames := 1, cells := 0, slots := 0, locals := 21 }
def f_X9_textTold (M : Mem) (x0 : Nat) (x1 : Int32) (x2 : Int32) : Option (Int32 × Mem) := (if x1 < 0 then some ((-1000000001), M) else gt (mT M x0) 10 (lp (mP M x0 0) (fun a2 => gt (mT M a2) 9 ((if (mI M a2 8) ≤ x1 then some ((-1000000001), M) else cl (f_X9_within M x2 1) (fun r6 M5 => (if r6 = 0 then some ((-1000000001), M5) else gt (mT M5 x0) 10 (lp (mP M5 x0 0) (fun a9 => gt (mT M5 a9) 9 (lp (mP M5 a9 7) (fun a12 => gt (mT M5 a12) 25 (gd (ib x1 (mL M5 a12)) (nm (mX M5 a12 x1.toNatClampNeg) (fun q16 => on q16 (some ((-1000000001), M5)) (fun b17 => (if x2 = 0 then gt (mT M5 b17) 8 (some ((mI M5 b17 0), M5)) else gt (mT M5 b17) 8 (some ((mI M5 b17 1), M5))))))))))))))))))
set_option maxHeartbeats 4000000 in
set_option maxRecDepth 100000 in
theorem c_X9_textTold (l : Launch) (G : Gd) (A : Nat → Prop) (ad : Nat → Nat) {M : Mem} {x0 : Nat} {x1 : Int32} {x2 : Int32}  {r : Int32} {M' : Mem} (hf : f_X9_textTold M x0 x1 x2 = some (r, M')) : Ct l yX9_textTold cX9_textTold 4 (some .int) rm_X9_textTold [.ref (ad x0), .int x1, .int x2] G A ad M (QI G A ad r M') 0 0 := by
  refine ct_start (by decide) (Nat.le_of_ble_eq_true rfl) ?_
  intro p e s m args below meth c ls C hin hw hl
  have C : Cx G A p s m args meth c RX9 cX9_textTold 4 (some .int) := C
  have hl : lv_has ls 4 [(0, .ref (ad x0)), (1, .int x1), (2, .int x2)] := hl
  obtain ⟨hx, hb, -⟩ := id C
  rw [f_X9_textTold] at hf
  refine lv_iload_n hx hb dX9_textTold_0 rfl (lv_at hl 1 rfl) ?_
  refine lv_if_lt (tgt := 23) hx hb dX9_textTold_1 (by decide) (fun hc => ?_) (fun hc => ?_)
  · have hf := if_p hc hf
    refine lv_ldc hx hb C.2.2.2.1 (C.2.2.2.2.1 _ kc_X9_65) dX9_textTold_23 ?_
    exact e_iret C hw hf dX9_textTold_25
  · have hf := if_n hc hf
    refine lv_iload_n hx hb dX9_textTold_4 rfl (lv_at hl 1 rfl) ?_
    refine lv_aload_n hx hb dX9_textTold_5 rfl (lv_at hl 0 rfl) ?_
    obtain ⟨hT1, hf⟩ := gt_inv hf
    obtain ⟨a2, hP3, hf⟩ := lp_inv hf
    refine r_getP C hw cf9 0 (by decide) rfl hT1 hP3 fl_X9_10 dX9_textTold_6 ?_
    obtain ⟨hT4, hf⟩ := gt_inv hf
    refine r_getI C hw cf8 8 (by decide) rfl hT4 fl_X9_236 dX9_textTold_9 ?_
    refine lv_icmp_ge (tgt := 23) hx hb dX9_textTold_12 (by decide) (fun hc => ?_) (fun hc => ?_)
    · have hf := if_p hc hf
      refine lv_ldc hx hb C.2.2.2.1 (C.2.2.2.2.1 _ kc_X9_65) dX9_textTold_23 ?_
      exact e_iret C hw hf dX9_textTold_25
    · have hf := if_n hc hf
      refine lv_iload_n hx hb dX9_textTold_15 rfl (lv_at hl 2 rfl) ?_
      refine lv_iconst (v := 1) hx hb dX9_textTold_16 (by decide) ?_
      obtain ⟨r6, M5, hc7, hf⟩ := cl_inv hf
      refine fin_I (run_S C hw mf_X9_within ms_X9_within ml_X9_61 (c_X9_within l G A ad hc7) (As := [.int x2, .int 1]) (rest := []) hl.1 rfl rfl (Nat.le_of_ble_eq_true rfl) ⟨rfl, rfl, Nat.le_of_ble_eq_true rfl, Nat.le_of_ble_eq_true rfl⟩ ⟨Nat.zero_le _, Nat.zero_le _⟩ dX9_textTold_17) hw (fun H locs hw => ?_)
      refine lv_if_ne (tgt := 26) hx hb dX9_textTold_20 (by decide) (fun hc => ?_) (fun hc => ?_)
      · have hf := if_n hc hf
        refine lv_aload_n hx hb dX9_textTold_26 rfl (lv_at hl 0 rfl) ?_
        obtain ⟨hT8, hf⟩ := gt_inv hf
        obtain ⟨a9, hP10, hf⟩ := lp_inv hf
        refine r_getP C hw cf9 0 (by decide) rfl hT8 hP10 fl_X9_10 dX9_textTold_27 ?_
        obtain ⟨hT11, hf⟩ := gt_inv hf
        obtain ⟨a12, hP13, hf⟩ := lp_inv hf
        refine r_getP C hw cf8 7 (by decide) rfl hT11 hP13 fl_X9_239 dX9_textTold_30 ?_
        refine lv_iload_n hx hb dX9_textTold_33 rfl (lv_at hl 1 rfl) ?_
        obtain ⟨hT14, hf⟩ := gt_inv hf
        obtain ⟨hg15, hf⟩ := gd_inv hf
        obtain ⟨q16, hqq16, hf⟩ := nm_inv hf
        refine r_xald C hw hT14 hg15 dX9_textTold_34 ?_
        rw [← hqq16]
        rcases q16 with _ | b17
        · have hf := on_n hf
          refine lv_astore_nN (lv' := [(3, .null), (0, .ref (ad x0)), (1, .int x1), (2, .int x2)]) hx hb dX9_textTold_35 rfl hl (by decide) rfl (fun ls hl => ?_)
          refine lv_aload_nN hx hb dX9_textTold_36 rfl (lv_at hl 0 rfl) ?_
          refine lv_ifnonnullN hx hb dX9_textTold_37 ?_
          refine lv_ldc hx hb C.2.2.2.1 (C.2.2.2.2.1 _ kc_X9_65) dX9_textTold_40 ?_
          exact e_iret C hw hf dX9_textTold_42
        · have hf := on_s hf
          refine lv_astore_n (lv' := [(3, .ref (ad b17)), (0, .ref (ad x0)), (1, .int x1), (2, .int x2)]) hx hb dX9_textTold_35 rfl hl (by decide) rfl (fun ls hl => ?_)
          refine lv_aload_n hx hb dX9_textTold_36 rfl (lv_at hl 0 rfl) ?_
          refine lv_ifnonnull (tgt := 43) hx hb dX9_textTold_37 (by decide) ?_
          refine lv_iload_n hx hb dX9_textTold_43 rfl (lv_at hl 3 rfl) ?_
          refine lv_if_ne (tgt := 54) hx hb dX9_textTold_44 (by decide) (fun hc => ?_) (fun hc => ?_)
          · have hf := if_n hc hf
            refine lv_aload_n hx hb dX9_textTold_54 rfl (lv_at hl 0 rfl) ?_
            obtain ⟨hT18, hf⟩ := gt_inv hf
            refine r_getI C hw cf7 1 (by decide) rfl hT18 fl_X9_250 dX9_textTold_55 ?_
            exact e_iret C hw hf dX9_textTold_58
          · have hf := if_p hc hf
            refine lv_aload_n hx hb dX9_textTold_47 rfl (lv_at hl 0 rfl) ?_
            obtain ⟨hT19, hf⟩ := gt_inv hf
            refine r_getI C hw cf7 0 (by decide) rfl hT19 fl_X9_247 dX9_textTold_48 ?_
            refine lv_goto (tgt := 58) hx hb dX9_textTold_51 (by decide) ?_
            exact e_iret C hw hf dX9_textTold_58
      · have hf := if_p hc hf
        refine lv_ldc hx hb C.2.2.2.1 (C.2.2.2.2.1 _ kc_X9_65) dX9_textTold_23 ?_
        exact e_iret C hw hf dX9_textTold_25
/-! StorkVote.why(I)I -/
abbrev rm_X9_why : Room := { frames := 1, cells := 0, slots := 0, locals := 22 }
def f_X9_why (M : Mem) (x0 : Nat) (x1 : Int32) : Option (Int32 × Mem) := cl (f_X9_within M x1 2) (fun r2 M1 => (if r2 = 0 then some ((-1000000001), M1) else gt (mT M1 x0) 10 (lp (mP M1 x0 0) (fun a5 => gt (mT M1 a5) 9 (cl (f_X8_counts M1 a5 x1) (fun r8 M7 => some (r8, M7)))))))
set_option maxHeartbeats 4000000 in
set_option maxRecDepth 100000 in
theorem c_X9_why (l : Launch) (G : Gd) (A : Nat → Prop) (ad : Nat → Nat) {M : Mem} {x0 : Nat} {x1 : Int32}  {r : Int32} {M' : Mem} (hf : f_X9_why M x0 x1 = some (r, M')) : Ct l yX9_why cX9_why 2 (some .int) rm_X9_why [.ref (ad x0), .int x1] G A ad M (QI G A ad r M') 0 0 := by
  refine ct_start (by decide) (Nat.le_of_ble_eq_true rfl) ?_
  intro p e s m args below meth c ls C hin hw hl
  have C : Cx G A p s m args meth c RX9 cX9_why 2 (some .int) := C
  have hl : lv_has ls 2 [(0, .ref (ad x0)), (1, .int x1)] := hl
  obtain ⟨hx, hb, -⟩ := id C
  rw [f_X9_why] at hf
  refine lv_iload_n hx hb dX9_why_0 rfl (lv_at hl 1 rfl) ?_
  refine lv_iconst (v := 2) hx hb dX9_why_1 (by decide) ?_
  obtain ⟨r2, M1, hc3, hf⟩ := cl_inv hf
  refine fin_I (run_S C hw mf_X9_within ms_X9_within ml_X9_61 (c_X9_within l G A ad hc3) (As := [.int x1, .int 2]) (rest := []) hl.1 rfl rfl (Nat.le_of_ble_eq_true rfl) ⟨rfl, rfl, Nat.le_of_ble_eq_true rfl, Nat.le_of_ble_eq_true rfl⟩ ⟨Nat.zero_le _, Nat.zero_le _⟩ dX9_why_2) hw (fun H locs hw => ?_)
  refine lv_if_eq (tgt := 19) hx hb dX9_why_5 (by decide) (fun hc => ?_) (fun hc => ?_)
  · have hf := if_p hc hf
    refine lv_ldc hx hb C.2.2.2.1 (C.2.2.2.2.1 _ kc_X9_65) dX9_why_19 ?_
    exact e_iret C hw hf dX9_why_21
  · have hf := if_n hc hf
    refine lv_aload_n hx hb dX9_why_8 rfl (lv_at hl 0 rfl) ?_
    obtain ⟨hT4, hf⟩ := gt_inv hf
    obtain ⟨a5, hP6, hf⟩ := lp_inv hf
    refine r_getP C hw cf9 0 (by decide) rfl hT4 hP6 fl_X9_10 dX9_why_9 ?_
    refine lv_iload_n hx hb dX9_why_12 rfl (lv_at hl 1 rfl) ?_
    obtain ⟨hT10, hf⟩ := gt_inv hf
    obtain ⟨r8, M7, hc9, hf⟩ := cl_inv hf
    refine fin_I (run_V C hw mf_X8_counts mv_X8_counts ml_X9_253 cf8 hT10 (c_X8_counts l G A ad hc9) (As := [.int x1]) (rest := []) hl.1 rfl rfl (Nat.le_of_ble_eq_true rfl) ⟨rfl, rfl, Nat.le_of_ble_eq_true rfl, Nat.le_of_ble_eq_true rfl⟩ ⟨Nat.zero_le _, Nat.zero_le _⟩ dX9_why_13) hw (fun H locs hw => ?_)
    refine lv_goto (tgt := 21) hx hb dX9_why_16 (by decide) ?_
    exact e_iret C hw hf dX9_why_21
/-! StorkVote.sheet(III)I -/
abbrev rm_X9_sheet : Room := { frames := 2, cells := 0, slots := 0, locals := 45 }
def f_X9_sheet (M : Mem) (x0 : Nat) (x1 : Int32) (x2 : Int32) (x3 : Int32) : Option (Int32 × Mem) := cl (f_X9_within M x1 3) (fun r2 M1 => (if r2 = 0 then some ((-1000000001), M1) else (if x2 < (-1) then some ((-1000000001), M1) else (if x2 ≤ 1 then (if x2 = (-1) then gt (mT M1 x0) 10 (lp (mP M1 x0 6) (fun a16 => gt (mT M1 a16) 26 (gd (ib x1 (mL M1 a16)) (lp (mP M1 a16 x1.toNatClampNeg) (fun a20 => gt (mT M1 a20) 3 (cl (f_X2_become M1 a20 (-1) 0) (fun _ M22 => some (0, M22)))))))) else (if x3 ≤ 24 then (if 0 ≤ x3 then gt (mT M1 x0) 10 (lp (mP M1 x0 6) (fun a5 => gt (mT M1 a5) 26 (gd (ib x1 (mL M1 a5)) (lp (mP M1 a5 x1.toNatClampNeg) (fun a9 => gt (mT M1 a9) 3 (cl (f_X2_become M1 a9 x2 x3) (fun _ M11 => some (x3, M11)))))))) else some ((-1000000014), M1)) else some ((-1000000001), M1))) else some ((-1000000001), M1)))))
set_option maxHeartbeats 4000000 in
set_option maxRecDepth 100000 in
theorem c_X9_sheet (l : Launch) (G : Gd) (A : Nat → Prop) (ad : Nat → Nat) {M : Mem} {x0 : Nat} {x1 : Int32} {x2 : Int32} {x3 : Int32}  {r : Int32} {M' : Mem} (hf : f_X9_sheet M x0 x1 x2 x3 = some (r, M')) : Ct l yX9_sheet cX9_sheet 4 (some .int) rm_X9_sheet [.ref (ad x0), .int x1, .int x2, .int x3] G A ad M (QI G A ad r M') 0 0 := by
  refine ct_start (by decide) (Nat.le_of_ble_eq_true rfl) ?_
  intro p e s m args below meth c ls C hin hw hl
  have C : Cx G A p s m args meth c RX9 cX9_sheet 4 (some .int) := C
  have hl : lv_has ls 4 [(0, .ref (ad x0)), (1, .int x1), (2, .int x2), (3, .int x3)] := hl
  obtain ⟨hx, hb, -⟩ := id C
  rw [f_X9_sheet] at hf
  refine lv_iload_n hx hb dX9_sheet_0 rfl (lv_at hl 1 rfl) ?_
  refine lv_iconst (v := 3) hx hb dX9_sheet_1 (by decide) ?_
  obtain ⟨r2, M1, hc3, hf⟩ := cl_inv hf
  refine fin_I (run_S C hw mf_X9_within ms_X9_within ml_X9_61 (c_X9_within l G A ad hc3) (As := [.int x1, .int 3]) (rest := []) hl.1 rfl rfl (Nat.le_of_ble_eq_true rfl) ⟨rfl, rfl, Nat.le_of_ble_eq_true rfl, Nat.le_of_ble_eq_true rfl⟩ ⟨Nat.zero_le _, Nat.zero_le _⟩ dX9_sheet_2) hw (fun H locs hw => ?_)
  refine lv_if_eq (tgt := 18) hx hb dX9_sheet_5 (by decide) (fun hc => ?_) (fun hc => ?_)
  · have hf := if_p hc hf
    refine lv_ldc hx hb C.2.2.2.1 (C.2.2.2.2.1 _ kc_X9_65) dX9_sheet_18 ?_
    exact e_iret C hw hf dX9_sheet_20
  · have hf := if_n hc hf
    refine lv_iload_n hx hb dX9_sheet_8 rfl (lv_at hl 2 rfl) ?_
    refine lv_iconst (v := (-1)) hx hb dX9_sheet_9 (by decide) ?_
    refine lv_icmp_lt (tgt := 18) hx hb dX9_sheet_10 (by decide) (fun hc => ?_) (fun hc => ?_)
    · have hf := if_p hc hf
      refine lv_ldc hx hb C.2.2.2.1 (C.2.2.2.2.1 _ kc_X9_65) dX9_sheet_18 ?_
      exact e_iret C hw hf dX9_sheet_20
    · have hf := if_n hc hf
      refine lv_iload_n hx hb dX9_sheet_13 rfl (lv_at hl 2 rfl) ?_
      refine lv_iconst (v := 1) hx hb dX9_sheet_14 (by decide) ?_
      refine lv_icmp_le (tgt := 21) hx hb dX9_sheet_15 (by decide) (fun hc => ?_) (fun hc => ?_)
      · have hf := if_p hc hf
        refine lv_iload_n hx hb dX9_sheet_21 rfl (lv_at hl 2 rfl) ?_
        refine lv_iconst (v := (-1)) hx hb dX9_sheet_22 (by decide) ?_
        refine lv_icmp_ne (tgt := 39) hx hb dX9_sheet_23 (by decide) (fun hc => ?_) (fun hc => ?_)
        · have hf := if_n hc hf
          refine lv_iload_n hx hb dX9_sheet_39 rfl (lv_at hl 3 rfl) ?_
          refine lv_bipush (v := 24) hx hb dX9_sheet_40 (by decide) ?_
          refine lv_icmp_le (tgt := 48) hx hb dX9_sheet_42 (by decide) (fun hc => ?_) (fun hc => ?_)
          · have hf := if_p hc hf
            refine lv_iload_n hx hb dX9_sheet_48 rfl (lv_at hl 3 rfl) ?_
            refine lv_if_ge (tgt := 56) hx hb dX9_sheet_49 (by decide) (fun hc => ?_) (fun hc => ?_)
            · have hf := if_p hc hf
              refine lv_aload_n hx hb dX9_sheet_56 rfl (lv_at hl 0 rfl) ?_
              obtain ⟨hT4, hf⟩ := gt_inv hf
              obtain ⟨a5, hP6, hf⟩ := lp_inv hf
              refine r_getP C hw cf9 6 (by decide) rfl hT4 hP6 fl_X9_45 dX9_sheet_57 ?_
              refine lv_iload_n hx hb dX9_sheet_60 rfl (lv_at hl 1 rfl) ?_
              obtain ⟨hT7, hf⟩ := gt_inv hf
              obtain ⟨hg8, hf⟩ := gd_inv hf
              obtain ⟨a9, hP10, hf⟩ := lp_inv hf
              refine r_aald C hw 6 rfl (by decide) (by decide) hT7 hg8 hP10 dX9_sheet_61 ?_
              refine lv_iload_n hx hb dX9_sheet_62 rfl (lv_at hl 2 rfl) ?_
              refine lv_iload_n hx hb dX9_sheet_63 rfl (lv_at hl 3 rfl) ?_
              obtain ⟨hT14, hf⟩ := gt_inv hf
              obtain ⟨⟨⟩, M11, hc13, hf⟩ := cl_inv hf
              refine fin_V (run_V C hw mf_X2_become mv_X2_become ml_X9_257 cf2 hT14 (c_X2_become l G A ad hc13) (As := [.int x2, .int x3]) (rest := []) hl.1 rfl rfl (Nat.le_of_ble_eq_true rfl) ⟨rfl, rfl, Nat.le_of_ble_eq_true rfl, Nat.le_of_ble_eq_true rfl⟩ ⟨Nat.zero_le _, Nat.zero_le _⟩ dX9_sheet_64) hw (fun H locs hw => ?_)
              refine lv_iload_n hx hb dX9_sheet_67 rfl (lv_at hl 3 rfl) ?_
              exact e_iret C hw hf dX9_sheet_68
            · have hf := if_n hc hf
              refine lv_ldcw hx hb C.2.2.2.1 (C.2.2.2.2.1 _ kc_X9_261) dX9_sheet_52 ?_
              exact e_iret C hw hf dX9_sheet_55
          · have hf := if_n hc hf
            refine lv_ldc hx hb C.2.2.2.1 (C.2.2.2.2.1 _ kc_X9_65) dX9_sheet_45 ?_
            exact e_iret C hw hf dX9_sheet_47
        · have hf := if_p hc hf
          refine lv_aload_n hx hb dX9_sheet_26 rfl (lv_at hl 0 rfl) ?_
          obtain ⟨hT15, hf⟩ := gt_inv hf
          obtain ⟨a16, hP17, hf⟩ := lp_inv hf
          refine r_getP C hw cf9 6 (by decide) rfl hT15 hP17 fl_X9_45 dX9_sheet_27 ?_
          refine lv_iload_n hx hb dX9_sheet_30 rfl (lv_at hl 1 rfl) ?_
          obtain ⟨hT18, hf⟩ := gt_inv hf
          obtain ⟨hg19, hf⟩ := gd_inv hf
          obtain ⟨a20, hP21, hf⟩ := lp_inv hf
          refine r_aald C hw 6 rfl (by decide) (by decide) hT18 hg19 hP21 dX9_sheet_31 ?_
          refine lv_iconst (v := (-1)) hx hb dX9_sheet_32 (by decide) ?_
          refine lv_iconst (v := 0) hx hb dX9_sheet_33 (by decide) ?_
          obtain ⟨hT25, hf⟩ := gt_inv hf
          obtain ⟨⟨⟩, M22, hc24, hf⟩ := cl_inv hf
          refine fin_V (run_V C hw mf_X2_become mv_X2_become ml_X9_257 cf2 hT25 (c_X2_become l G A ad hc24) (As := [.int (-1), .int 0]) (rest := []) hl.1 rfl rfl (Nat.le_of_ble_eq_true rfl) ⟨rfl, rfl, Nat.le_of_ble_eq_true rfl, Nat.le_of_ble_eq_true rfl⟩ ⟨Nat.zero_le _, Nat.zero_le _⟩ dX9_sheet_34) hw (fun H locs hw => ?_)
          refine lv_iconst (v := 0) hx hb dX9_sheet_37 (by decide) ?_
          exact e_iret C hw hf dX9_sheet_38
      · have hf := if_n hc hf
        refine lv_ldc hx hb C.2.2.2.1 (C.2.2.2.2.1 _ kc_X9_65) dX9_sheet_18 ?_
        exact e_iret C hw hf dX9_sheet_20
/-! StorkVote.mark(III)I -/
abbrev rm_X9_mark : Room := { frames := 1, cells := 0, slots := 0, locals := 21 }
def f_X9_mark_94 (M : Mem) (x2 : Int32) (x3 : Int32) (x4 : Nat) : Option (Int32 × Mem) := gt (mT M x4) 3 (lp (mP M x4 2) (fun a2 => gt (mT M a2) 20 (gd (ib x2 (mL M a2)) (st (setI M a2 x2.toNatClampNeg x3) (fun M6 => some (1, M6))))))
set_option maxHeartbeats 4000000 in
set_option maxRecDepth 100000 in
theorem t_X9_mark_94 {l : Launch} {p : Program} {e : Env} {s : State} {m : MethodId} {args : Array Value} {below : List Frame} {meth : Method} {c : Code} {G : Gd} {A : Nat → Prop} {ad : Nat → Nat} (C : Cx G A p s m args meth c RX9 cX9_mark 5 (some .int)) {r : Int32} {M' : Mem} : ∀ (M : Mem) (x2 : Int32) (x3 : Int32) (x4 : Nat) (H : Heap) (locs : List Loc) (ls : Array Slot), f_X9_mark_94  M x2 x3 x4 = some (r, M') → Wd G A ad s.heap M H locs → lv_has ls 5 [(2, .int x2), (3, .int x3), (4, .ref (ad x4))] → W p l e rm_X9_mark s m args below meth c H locs 0 0 (MQ below (QI G A ad r M') args s 0 0 A) (F0 m 94 ls []) := by
  obtain ⟨hx, hb, -⟩ := id C
  intro M x2 x3 x4 H locs ls hf hw hl
  rw [f_X9_mark_94] at hf
  refine lv_aload hx hb dX9_mark_94 (lv_at hl 2 rfl) ?_
  obtain ⟨hT1, hf⟩ := gt_inv hf
  obtain ⟨a2, hP3, hf⟩ := lp_inv hf
  refine r_getP C hw cf2 2 (by decide) rfl hT1 hP3 fl_X9_269 dX9_mark_96 ?_
  refine lv_iload_n hx hb dX9_mark_99 rfl (lv_at hl 0 rfl) ?_
  refine lv_iload_n hx hb dX9_mark_100 rfl (lv_at hl 1 rfl) ?_
  obtain ⟨hT4, hf⟩ := gt_inv hf
  obtain ⟨hg5, hf⟩ := gd_inv hf
  obtain ⟨M6, e7, hf⟩ := st_inv hf
  have g8 := sg_I e7
  refine r_iast C hw hT4 hg5 e7 dX9_mark_101 (fun H locs hw => ?_)
  refine lv_iconst (v := 1) hx hb dX9_mark_102 (by decide) ?_
  exact e_iret C hw hf dX9_mark_103
def f_X9_mark (M : Mem) (x0 : Nat) (x1 : Int32) (x2 : Int32) (x3 : Int32) : Option (Int32 × Mem) := cl (f_X9_within M x1 3) (fun r2 M1 => (if r2 = 0 then some ((-1000000001), M1) else gt (mT M1 x0) 10 (lp (mP M1 x0 6) (fun a5 => gt (mT M1 a5) 26 (gd (ib x1 (mL M1 a5)) (lp (mP M1 a5 x1.toNatClampNeg) (fun a9 => gt (mT M1 a9) 3 (cl (f_X2_isMissing M1 a9) (fun r12 M11 => (if r12 = 0 then gt (mT M11 a9) 3 (cl (f_X2_has M11 a9 x2) (fun r16 M15 => (if r16 = 0 then some ((-1000000013), M15) else gt (mT M15 a9) 3 ((if (mI M15 a9 0) = 0 then (if x3 = (-1000000005) then some ((-1000000012), M15) else lp (mP M15 a9 2) (fun a20 => gt (mT M15 a20) 20 (gd (ib x2 (mL M15 a20)) (st (setI M15 a20 x2.toNatClampNeg (s16 x3)) (fun M24 => some (1, M24)))))) else (if x3 = (-1000000005) then f_X9_mark_94 M15 x2 x3 a9 else (if x3 < (-99999) then some ((-1000000001), M15) else (if x3 ≤ (99999) then f_X9_mark_94 M15 x2 x3 a9 else some ((-1000000001), M15))))))))) else some ((-1000000011), M11)))))))))))
set_option maxHeartbeats 4000000 in
set_option maxRecDepth 100000 in
theorem c_X9_mark (l : Launch) (G : Gd) (A : Nat → Prop) (ad : Nat → Nat) {M : Mem} {x0 : Nat} {x1 : Int32} {x2 : Int32} {x3 : Int32}  {r : Int32} {M' : Mem} (hf : f_X9_mark M x0 x1 x2 x3 = some (r, M')) : Ct l yX9_mark cX9_mark 5 (some .int) rm_X9_mark [.ref (ad x0), .int x1, .int x2, .int x3] G A ad M (QI G A ad r M') 0 0 := by
  refine ct_start (by decide) (Nat.le_of_ble_eq_true rfl) ?_
  intro p e s m args below meth c ls C hin hw hl
  have C : Cx G A p s m args meth c RX9 cX9_mark 5 (some .int) := C
  have hl : lv_has ls 5 [(0, .ref (ad x0)), (1, .int x1), (2, .int x2), (3, .int x3)] := hl
  obtain ⟨hx, hb, -⟩ := id C
  rw [f_X9_mark] at hf
  refine lv_iload_n hx hb dX9_mark_0 rfl (lv_at hl 1 rfl) ?_
  refine lv_iconst (v := 3) hx hb dX9_mark_1 (by decide) ?_
  obtain ⟨r2, M1, hc3, hf⟩ := cl_inv hf
  refine fin_I (run_S C hw mf_X9_within ms_X9_within ml_X9_61 (c_X9_within l G A ad hc3) (As := [.int x1, .int 3]) (rest := []) hl.1 rfl rfl (Nat.le_of_ble_eq_true rfl) ⟨rfl, rfl, Nat.le_of_ble_eq_true rfl, Nat.le_of_ble_eq_true rfl⟩ ⟨Nat.zero_le _, Nat.zero_le _⟩ dX9_mark_2) hw (fun H locs hw => ?_)
  refine lv_if_ne (tgt := 11) hx hb dX9_mark_5 (by decide) (fun hc => ?_) (fun hc => ?_)
  · have hf := if_n hc hf
    refine lv_aload_n hx hb dX9_mark_11 rfl (lv_at hl 0 rfl) ?_
    obtain ⟨hT4, hf⟩ := gt_inv hf
    obtain ⟨a5, hP6, hf⟩ := lp_inv hf
    refine r_getP C hw cf9 6 (by decide) rfl hT4 hP6 fl_X9_45 dX9_mark_12 ?_
    refine lv_iload_n hx hb dX9_mark_15 rfl (lv_at hl 1 rfl) ?_
    obtain ⟨hT7, hf⟩ := gt_inv hf
    obtain ⟨hg8, hf⟩ := gd_inv hf
    obtain ⟨a9, hP10, hf⟩ := lp_inv hf
    refine r_aald C hw 6 rfl (by decide) (by decide) hT7 hg8 hP10 dX9_mark_16 ?_
    refine lv_astore (lv' := [(4, .ref (ad a9)), (0, .ref (ad x0)), (1, .int x1), (2, .int x2), (3, .int x3)]) hx hb dX9_mark_17 hl (by decide) rfl (fun ls hl => ?_)
    refine lv_aload hx hb dX9_mark_19 (lv_at hl 0 rfl) ?_
    obtain ⟨hT14, hf⟩ := gt_inv hf
    obtain ⟨r12, M11, hc13, hf⟩ := cl_inv hf
    refine fin_I (run_V C hw mf_X2_isMissing mv_X2_isMissing ml_X9_199 cf2 hT14 (c_X2_isMissing l G A ad hc13) (As := []) (rest := []) hl.1 rfl rfl (Nat.le_of_ble_eq_true rfl) ⟨rfl, rfl, Nat.le_of_ble_eq_true rfl, Nat.le_of_ble_eq_true rfl⟩ ⟨Nat.zero_le _, Nat.zero_le _⟩ dX9_mark_21) hw (fun H locs hw => ?_)
    refine lv_if_eq (tgt := 30) hx hb dX9_mark_24 (by decide) (fun hc => ?_) (fun hc => ?_)
    · have hf := if_p hc hf
      refine lv_aload hx hb dX9_mark_30 (lv_at hl 0 rfl) ?_
      refine lv_iload_n hx hb dX9_mark_32 rfl (lv_at hl 3 rfl) ?_
      obtain ⟨hT18, hf⟩ := gt_inv hf
      obtain ⟨r16, M15, hc17, hf⟩ := cl_inv hf
      refine fin_I (run_V C hw mf_X2_has mv_X2_has ml_X9_262 cf2 hT18 (c_X2_has l G A ad hc17) (As := [.int x2]) (rest := []) hl.1 rfl rfl (Nat.le_of_ble_eq_true rfl) ⟨rfl, rfl, Nat.le_of_ble_eq_true rfl, Nat.le_of_ble_eq_true rfl⟩ ⟨Nat.zero_le _, Nat.zero_le _⟩ dX9_mark_33) hw (fun H locs hw => ?_)
      refine lv_if_ne (tgt := 43) hx hb dX9_mark_36 (by decide) (fun hc => ?_) (fun hc => ?_)
      · have hf := if_n hc hf
        refine lv_aload hx hb dX9_mark_43 (lv_at hl 0 rfl) ?_
        obtain ⟨hT19, hf⟩ := gt_inv hf
        refine r_getI C hw cf2 0 (by decide) rfl hT19 fl_X9_266 dX9_mark_45 ?_
        refine lv_if_ne (tgt := 71) hx hb dX9_mark_48 (by decide) (fun hc => ?_) (fun hc => ?_)
        · have hf := if_n hc hf
          refine lv_iload_n hx hb dX9_mark_71 rfl (lv_at hl 4 rfl) ?_
          refine lv_ldc hx hb C.2.2.2.1 (C.2.2.2.2.1 _ kc_X9_107) dX9_mark_72 ?_
          refine lv_icmp_eq (tgt := 94) hx hb dX9_mark_74 (by decide) (fun hc => ?_) (fun hc => ?_)
          · have hf := if_p hc hf
            exact t_X9_mark_94 C M15 x2 x3 a9 _ _ _ hf hw (lv_sub hl [3, 4, 0] rfl)
          · have hf := if_n hc hf
            refine lv_iload_n hx hb dX9_mark_77 rfl (lv_at hl 4 rfl) ?_
            refine lv_ldcw hx hb C.2.2.2.1 (C.2.2.2.2.1 _ kc_X9_272) dX9_mark_78 ?_
            refine lv_icmp_lt (tgt := 91) hx hb dX9_mark_81 (by decide) (fun hc => ?_) (fun hc => ?_)
            · have hf := if_p hc hf
              refine lv_ldc hx hb C.2.2.2.1 (C.2.2.2.2.1 _ kc_X9_65) dX9_mark_91 ?_
              exact e_iret C hw hf dX9_mark_93
            · have hf := if_n hc hf
              refine lv_iload_n hx hb dX9_mark_84 rfl (lv_at hl 4 rfl) ?_
              refine lv_ldcw hx hb C.2.2.2.1 (C.2.2.2.2.1 _ kc_X9_273) dX9_mark_85 ?_
              refine lv_icmp_le (tgt := 94) hx hb dX9_mark_88 (by decide) (fun hc => ?_) (fun hc => ?_)
              · have hf := if_p hc hf
                exact t_X9_mark_94 C M15 x2 x3 a9 _ _ _ hf hw (lv_sub hl [3, 4, 0] rfl)
              · have hf := if_n hc hf
                refine lv_ldc hx hb C.2.2.2.1 (C.2.2.2.2.1 _ kc_X9_65) dX9_mark_91 ?_
                exact e_iret C hw hf dX9_mark_93
        · have hf := if_p hc hf
          refine lv_iload_n hx hb dX9_mark_51 rfl (lv_at hl 4 rfl) ?_
          refine lv_ldc hx hb C.2.2.2.1 (C.2.2.2.2.1 _ kc_X9_107) dX9_mark_52 ?_
          refine lv_icmp_ne (tgt := 60) hx hb dX9_mark_54 (by decide) (fun hc => ?_) (fun hc => ?_)
          · have hf := if_n hc hf
            refine lv_aload hx hb dX9_mark_60 (lv_at hl 0 rfl) ?_
            obtain ⟨a20, hP21, hf⟩ := lp_inv hf
            refine r_getP C hw cf2 2 (by decide) rfl hT19 hP21 fl_X9_269 dX9_mark_62 ?_
            refine lv_iload_n hx hb dX9_mark_65 rfl (lv_at hl 3 rfl) ?_
            refine lv_iload_n hx hb dX9_mark_66 rfl (lv_at hl 4 rfl) ?_
            refine lv_i2s (v := s16 x3) hx hb dX9_mark_67 rfl ?_
            obtain ⟨hT22, hf⟩ := gt_inv hf
            obtain ⟨hg23, hf⟩ := gd_inv hf
            obtain ⟨M24, e25, hf⟩ := st_inv hf
            have g26 := sg_I e25
            refine r_iast C hw hT22 hg23 e25 dX9_mark_68 (fun H locs hw => ?_)
            refine lv_iconst (v := 1) hx hb dX9_mark_69 (by decide) ?_
            exact e_iret C hw hf dX9_mark_70
          · have hf := if_p hc hf
            refine lv_ldc hx hb C.2.2.2.1 (C.2.2.2.2.1 _ kc_X9_106) dX9_mark_57 ?_
            exact e_iret C hw hf dX9_mark_59
      · have hf := if_p hc hf
        refine lv_ldcw hx hb C.2.2.2.1 (C.2.2.2.2.1 _ kc_X9_265) dX9_mark_39 ?_
        exact e_iret C hw hf dX9_mark_42
    · have hf := if_n hc hf
      refine lv_ldc hx hb C.2.2.2.1 (C.2.2.2.2.1 _ kc_X9_203) dX9_mark_27 ?_
      exact e_iret C hw hf dX9_mark_29
  · have hf := if_p hc hf
    refine lv_ldc hx hb C.2.2.2.1 (C.2.2.2.2.1 _ kc_X9_65) dX9_mark_8 ?_
    exact e_iret C hw hf dX9_mark_10
/-! StorkVote.pour(I)I -/
abbrev rm_X9_pour : Room := { frames := 2, cells := 0, slots := 0, locals := 42 }
def f_X9_pour_128 (K33 : Mem → Nat → Nat → Int32 → Int32 → Option (Int32 × Mem)) (M : Mem) (x0 : Nat) (x2 : Nat) (x4 : Int32) (s0 : Int32) (s1 : Int32) : Option (Int32 × Mem) := cl (f_X9_bit M s1) (fun r2 M1 => K33 M1 x0 x2 (s0 + r2) (x4 + 1))
set_option maxHeartbeats 4000000 in
set_option maxRecDepth 100000 in
theorem t_X9_pour_128 {l : Launch} {p : Program} {e : Env} {s : State} {m : MethodId} {args : Array Value} {below : List Frame} {meth : Method} {c : Code} {G : Gd} {A : Nat → Prop} {ad : Nat → Nat} (C : Cx G A p s m args meth c RX9 cX9_pour 7 (some .int)) {r : Int32} {M' : Mem} {K33 : Mem → Nat → Nat → Int32 → Int32 → Option (Int32 × Mem)} (hK33 : ∀ (M : Mem) (x0 : Nat) (x2 : Nat) (x3 : Int32) (x4 : Int32) (H : Heap) (locs : List Loc) (ls : Array Slot), K33 M x0 x2 x3 x4 = some (r, M') → Wd G A ad s.heap M H locs → lv_has ls 7 [(0, .ref (ad x0)), (2, .ref (ad x2)), (3, .int x3), (4, .int x4)] → W p l e rm_X9_pour s m args below meth c H locs 0 0 (MQ below (QI G A ad r M') args s 0 0 A) (F0 m 33 ls [])) : ∀ (M : Mem) (x0 : Nat) (x2 : Nat) (x4 : Int32) (s0 : Int32) (s1 : Int32) (H : Heap) (locs : List Loc) (ls : Array Slot), f_X9_pour_128 K33 M x0 x2 x4 s0 s1 = some (r, M') → Wd G A ad s.heap M H locs → lv_has ls 7 [(0, .ref (ad x0)), (2, .ref (ad x2)), (4, .int x4)] → W p l e rm_X9_pour s m args below meth c H locs 0 0 (MQ below (QI G A ad r M') args s 0 0 A) (F0 m 128 ls [.int s1, .int s0]) := by
  obtain ⟨hx, hb, -⟩ := id C
  intro M x0 x2 x4 s0 s1 H locs ls hf hw hl
  rw [f_X9_pour_128] at hf
  obtain ⟨r2, M1, hc3, hf⟩ := cl_inv hf
  refine fin_I (run_S C hw mf_X9_bit ms_X9_bit ml_X9_131 (c_X9_bit l G A ad hc3) (As := [.int s1]) (rest := [.int s0]) hl.1 rfl rfl (Nat.le_of_ble_eq_true rfl) ⟨rfl, rfl, Nat.le_of_ble_eq_true rfl, Nat.le_of_ble_eq_true rfl⟩ ⟨Nat.zero_le _, Nat.zero_le _⟩ dX9_pour_128) hw (fun H locs hw => ?_)
  refine lv_iadd hx hb dX9_pour_131 ?_
  refine lv_istore_n (lv' := [(3, .int (s0 + r2)), (0, .ref (ad x0)), (2, .ref (ad x2)), (4, .int x4)]) hx hb dX9_pour_132 rfl hl (by decide) rfl (fun ls hl => ?_)
  refine lv_iinc (v := (x4 + 1)) (lv' := [(4, .int (x4 + 1)), (3, .int (s0 + r2)), (0, .ref (ad x0)), (2, .ref (ad x2))]) hx hb dX9_pour_133 hl (k := 3) rfl rfl (by decide) rfl (fun ls hl => ?_)
  refine lv_goto (tgt := 33) hx hb dX9_pour_136 (by decide) ?_
  exact hK33 M1 x0 x2 (s0 + r2) (x4 + 1) _ _ _ hf hw (lv_sub hl [2, 3, 1, 0] rfl)
def f_X9_pour_98 (K33 : Mem → Nat → Nat → Int32 → Int32 → Option (Int32 × Mem)) (M : Mem) (x0 : Nat) (x2 : Nat) (x3 : Int32) (x4 : Int32) (x5 : Int32) (s0 : Int32) : Option (Int32 × Mem) := gt (mT M x0) 10 (lp (mP M x0 0) (fun a2 => gt (mT M a2) 9 (lp (mP M a2 0) (fun a5 => gt (mT M a5) 23 (gd (ib x4 (mL M a5)) (lp (mP M a5 x4.toNatClampNeg) (fun a9 => gt (mT M a9) 1 (st (setI M a9 3 s0) (fun M12 => (if s0 = x5 then f_X9_pour_128 K33 M12 x0 x2 x4 x3 0 else f_X9_pour_128 K33 M12 x0 x2 x4 x3 1))))))))))
set_option maxHeartbeats 4000000 in
set_option maxRecDepth 100000 in
theorem t_X9_pour_98 {l : Launch} {p : Program} {e : Env} {s : State} {m : MethodId} {args : Array Value} {below : List Frame} {meth : Method} {c : Code} {G : Gd} {A : Nat → Prop} {ad : Nat → Nat} (C : Cx G A p s m args meth c RX9 cX9_pour 7 (some .int)) {r : Int32} {M' : Mem} {K33 : Mem → Nat → Nat → Int32 → Int32 → Option (Int32 × Mem)} (hK33 : ∀ (M : Mem) (x0 : Nat) (x2 : Nat) (x3 : Int32) (x4 : Int32) (H : Heap) (locs : List Loc) (ls : Array Slot), K33 M x0 x2 x3 x4 = some (r, M') → Wd G A ad s.heap M H locs → lv_has ls 7 [(0, .ref (ad x0)), (2, .ref (ad x2)), (3, .int x3), (4, .int x4)] → W p l e rm_X9_pour s m args below meth c H locs 0 0 (MQ below (QI G A ad r M') args s 0 0 A) (F0 m 33 ls [])) : ∀ (M : Mem) (x0 : Nat) (x2 : Nat) (x3 : Int32) (x4 : Int32) (x5 : Int32) (s0 : Int32) (H : Heap) (locs : List Loc) (ls : Array Slot), f_X9_pour_98 K33 M x0 x2 x3 x4 x5 s0 = some (r, M') → Wd G A ad s.heap M H locs → lv_has ls 7 [(0, .ref (ad x0)), (2, .ref (ad x2)), (3, .int x3), (4, .int x4), (5, .int x5)] → W p l e rm_X9_pour s m args below meth c H locs 0 0 (MQ below (QI G A ad r M') args s 0 0 A) (F0 m 98 ls [.int s0]) := by
  obtain ⟨hx, hb, -⟩ := id C
  intro M x0 x2 x3 x4 x5 s0 H locs ls hf hw hl
  rw [f_X9_pour_98] at hf
  refine lv_istore (lv' := [(6, .int s0), (0, .ref (ad x0)), (2, .ref (ad x2)), (3, .int x3), (4, .int x4), (5, .int x5)]) hx hb dX9_pour_98 hl (by decide) rfl (fun ls hl => ?_)
  refine lv_aload_n hx hb dX9_pour_100 rfl (lv_at hl 1 rfl) ?_
  obtain ⟨hT1, hf⟩ := gt_inv hf
  obtain ⟨a2, hP3, hf⟩ := lp_inv hf
  refine r_getP C hw cf9 0 (by decide) rfl hT1 hP3 fl_X9_10 dX9_pour_101 ?_
  obtain ⟨hT4, hf⟩ := gt_inv hf
  obtain ⟨a5, hP6, hf⟩ := lp_inv hf
  refine r_getP C hw cf8 0 (by decide) rfl hT4 hP6 fl_X9_74 dX9_pour_104 ?_
  refine lv_iload hx hb dX9_pour_107 (lv_at hl 4 rfl) ?_
  obtain ⟨hT7, hf⟩ := gt_inv hf
  obtain ⟨hg8, hf⟩ := gd_inv hf
  obtain ⟨a9, hP10, hf⟩ := lp_inv hf
  refine r_aald C hw 3 rfl (by decide) (by decide) hT7 hg8 hP10 dX9_pour_109 ?_
  refine lv_iload hx hb dX9_pour_110 (lv_at hl 0 rfl) ?_
  obtain ⟨hT11, hf⟩ := gt_inv hf
  obtain ⟨M12, e13, hf⟩ := st_inv hf
  have g14 := sg_I e13
  refine r_putI C hw cf0 3 (by decide) rfl hT11 e13 fl_X9_90 rfl rfl rfl dX9_pour_112 (fun H locs hw => ?_)
  refine lv_iload_n hx hb dX9_pour_115 rfl (lv_at hl 3 rfl) ?_
  refine lv_iload hx hb dX9_pour_116 (lv_at hl 0 rfl) ?_
  refine lv_iload hx hb dX9_pour_118 (lv_at hl 5 rfl) ?_
  refine lv_icmp_eq (tgt := 127) hx hb dX9_pour_120 (by decide) (fun hc => ?_) (fun hc => ?_)
  · have hf := if_p hc hf
    refine lv_iconst (v := 0) hx hb dX9_pour_127 (by decide) ?_
    exact t_X9_pour_128 C hK33 M12 x0 x2 x4 x3 0 _ _ _ hf hw (lv_sub hl [1, 2, 4] rfl)
  · have hf := if_n hc hf
    refine lv_iconst (v := 1) hx hb dX9_pour_123 (by decide) ?_
    refine lv_goto (tgt := 128) hx hb dX9_pour_124 (by decide) ?_
    exact t_X9_pour_128 C hK33 M12 x0 x2 x4 x3 1 _ _ _ hf hw (lv_sub hl [1, 2, 4] rfl)
def f_X9_pour_33 : Nat → Mem → Nat → Nat → Int32 → Int32 → Option (Int32 × Mem)
  | 0, _, _, _, _, _ => none
  | n + 1, M, x0, x2, x3, x4 => gt (mT M x0) 10 (lp (mP M x0 0) (fun a2 => gt (mT M a2) 9 ((if (mI M a2 1) ≤ x4 then some (x3, M) else gt (mT M x2) 3 ((if (mI M x2 1) ≤ x4 then some (x3, M) else lp (mP M a2 0) (fun a6 => gt (mT M a6) 23 (gd (ib x4 (mL M a6)) (lp (mP M a6 x4.toNatClampNeg) (fun a10 => gt (mT M a10) 1 (lp (mP M x2 2) (fun a13 => gt (mT M a13) 20 (gd (ib x4 (mL M a13)) ((if (mI M a13 x4.toNatClampNeg) = (-1000000005) then f_X9_pour_98 (f_X9_pour_33 n) M x0 x2 x3 x4 (mI M a10 3) (mI M a10 3) else gd (ib x4 (mL M a13)) (cl (f_X9_held M (mI M a13 x4.toNatClampNeg) 99) (fun r19 M18 => f_X9_pour_98 (f_X9_pour_33 n) M18 x0 x2 x3 x4 (mI M a10 3) r19)))))))))))))))))
set_option maxHeartbeats 4000000 in
set_option maxRecDepth 100000 in
theorem t_X9_pour_33 {l : Launch} {p : Program} {e : Env} {s : State} {m : MethodId} {args : Array Value} {below : List Frame} {meth : Method} {c : Code} {G : Gd} {A : Nat → Prop} {ad : Nat → Nat} (C : Cx G A p s m args meth c RX9 cX9_pour 7 (some .int)) {r : Int32} {M' : Mem} : ∀ (n : Nat) (M : Mem) (x0 : Nat) (x2 : Nat) (x3 : Int32) (x4 : Int32) (H : Heap) (locs : List Loc) (ls : Array Slot), f_X9_pour_33  n M x0 x2 x3 x4 = some (r, M') → Wd G A ad s.heap M H locs → lv_has ls 7 [(0, .ref (ad x0)), (2, .ref (ad x2)), (3, .int x3), (4, .int x4)] → W p l e rm_X9_pour s m args below meth c H locs 0 0 (MQ below (QI G A ad r M') args s 0 0 A) (F0 m 33 ls []) := by
  obtain ⟨hx, hb, -⟩ := id C
  intro n
  induction n with
  | zero =>
    intro M x0 x2 x3 x4 H locs ls hf
    rw [f_X9_pour_33] at hf
    exact absurd hf (fun h => nomatch h)
  | succ n ih =>
    intro M x0 x2 x3 x4 H locs ls hf hw hl
    rw [f_X9_pour_33] at hf
    refine lv_iload hx hb dX9_pour_33 (lv_at hl 3 rfl) ?_
    refine lv_aload_n hx hb dX9_pour_35 rfl (lv_at hl 0 rfl) ?_
    obtain ⟨hT1, hf⟩ := gt_inv hf
    obtain ⟨a2, hP3, hf⟩ := lp_inv hf
    refine r_getP C hw cf9 0 (by decide) rfl hT1 hP3 fl_X9_10 dX9_pour_36 ?_
    obtain ⟨hT4, hf⟩ := gt_inv hf
    refine r_getI C hw cf8 1 (by decide) rfl hT4 fl_X9_144 dX9_pour_39 ?_
    refine lv_icmp_ge (tgt := 139) hx hb dX9_pour_42 (by decide) (fun hc => ?_) (fun hc => ?_)
    · have hf := if_p hc hf
      refine lv_iload_n hx hb dX9_pour_139 rfl (lv_at hl 2 rfl) ?_
      exact e_iret C hw hf dX9_pour_140
    · have hf := if_n hc hf
      refine lv_iload hx hb dX9_pour_45 (lv_at hl 3 rfl) ?_
      refine lv_aload_n hx hb dX9_pour_47 rfl (lv_at hl 1 rfl) ?_
      obtain ⟨hT5, hf⟩ := gt_inv hf
      refine r_getI C hw cf2 1 (by decide) rfl hT5 fl_X9_274 dX9_pour_48 ?_
      refine lv_icmp_ge (tgt := 139) hx hb dX9_pour_51 (by decide) (fun hc => ?_) (fun hc => ?_)
      · have hf := if_p hc hf
        refine lv_iload_n hx hb dX9_pour_139 rfl (lv_at hl 2 rfl) ?_
        exact e_iret C hw hf dX9_pour_140
      · have hf := if_n hc hf
        refine lv_aload_n hx hb dX9_pour_54 rfl (lv_at hl 0 rfl) ?_
        refine r_getP C hw cf9 0 (by decide) rfl hT1 hP3 fl_X9_10 dX9_pour_55 ?_
        obtain ⟨a6, hP7, hf⟩ := lp_inv hf
        refine r_getP C hw cf8 0 (by decide) rfl hT4 hP7 fl_X9_74 dX9_pour_58 ?_
        refine lv_iload hx hb dX9_pour_61 (lv_at hl 3 rfl) ?_
        obtain ⟨hT8, hf⟩ := gt_inv hf
        obtain ⟨hg9, hf⟩ := gd_inv hf
        obtain ⟨a10, hP11, hf⟩ := lp_inv hf
        refine r_aald C hw 3 rfl (by decide) (by decide) hT8 hg9 hP11 dX9_pour_63 ?_
        obtain ⟨hT12, hf⟩ := gt_inv hf
        refine r_getI C hw cf0 3 (by decide) rfl hT12 fl_X9_90 dX9_pour_64 ?_
        refine lv_istore (lv' := [(5, .int (mI M a10 3)), (0, .ref (ad x0)), (2, .ref (ad x2)), (3, .int x3), (4, .int x4)]) hx hb dX9_pour_67 hl (by decide) rfl (fun ls hl => ?_)
        refine lv_aload_n hx hb dX9_pour_69 rfl (lv_at hl 2 rfl) ?_
        obtain ⟨a13, hP14, hf⟩ := lp_inv hf
        refine r_getP C hw cf2 2 (by decide) rfl hT5 hP14 fl_X9_269 dX9_pour_70 ?_
        refine lv_iload hx hb dX9_pour_73 (lv_at hl 4 rfl) ?_
        obtain ⟨hT15, hf⟩ := gt_inv hf
        obtain ⟨hg16, hf⟩ := gd_inv hf
        refine r_iald C hw hT15 hg16 dX9_pour_75 ?_
        refine lv_ldc hx hb C.2.2.2.1 (C.2.2.2.2.1 _ kc_X9_107) dX9_pour_76 ?_
        refine lv_icmp_ne (tgt := 86) hx hb dX9_pour_78 (by decide) (fun hc => ?_) (fun hc => ?_)
        · have hf := if_n hc hf
          refine lv_aload_n hx hb dX9_pour_86 rfl (lv_at hl 2 rfl) ?_
          refine r_getP C hw cf2 2 (by decide) rfl hT5 hP14 fl_X9_269 dX9_pour_87 ?_
          refine lv_iload hx hb dX9_pour_90 (lv_at hl 4 rfl) ?_
          obtain ⟨hg17, hf⟩ := gd_inv hf
          refine r_iald C hw hT15 hg17 dX9_pour_92 ?_
          refine lv_bipush (v := 99) hx hb dX9_pour_93 (by decide) ?_
          obtain ⟨r19, M18, hc20, hf⟩ := cl_inv hf
          refine fin_I (run_S C hw mf_X9_held ms_X9_held ml_X9_275 (c_X9_held l G A ad hc20) (As := [.int (mI M a13 x4.toNatClampNeg), .int 99]) (rest := []) hl.1 rfl rfl (Nat.le_of_ble_eq_true rfl) ⟨rfl, rfl, Nat.le_of_ble_eq_true rfl, Nat.le_of_ble_eq_true rfl⟩ ⟨Nat.zero_le _, Nat.zero_le _⟩ dX9_pour_95) hw (fun H locs hw => ?_)
          exact t_X9_pour_98 C ih M18 x0 x2 x3 x4 (mI M a10 3) r19 _ _ _ hf hw (lv_sub hl [1, 2, 3, 4, 0] rfl)
        · have hf := if_p hc hf
          refine lv_iload hx hb dX9_pour_81 (lv_at hl 0 rfl) ?_
          refine lv_goto (tgt := 98) hx hb dX9_pour_83 (by decide) ?_
          exact t_X9_pour_98 C ih M x0 x2 x3 x4 (mI M a10 3) (mI M a10 3) _ _ _ hf hw (lv_sub hl [1, 2, 3, 4, 0] rfl)
def f_X9_pour (M : Mem) (x0 : Nat) (x1 : Int32) : Option (Int32 × Mem) := cl (f_X9_within M x1 3) (fun r2 M1 => (if r2 = 0 then some ((-1000000001), M1) else gt (mT M1 x0) 10 (lp (mP M1 x0 6) (fun a5 => gt (mT M1 a5) 26 (gd (ib x1 (mL M1 a5)) (lp (mP M1 a5 x1.toNatClampNeg) (fun a9 => gt (mT M1 a9) 3 (cl (f_X2_isMissing M1 a9) (fun r12 M11 => (if r12 = 0 then f_X9_pour_33 FU M11 x0 a9 0 0 else some ((-1000000011), M11)))))))))))
set_option maxHeartbeats 4000000 in
set_option maxRecDepth 100000 in
theorem c_X9_pour (l : Launch) (G : Gd) (A : Nat → Prop) (ad : Nat → Nat) {M : Mem} {x0 : Nat} {x1 : Int32}  {r : Int32} {M' : Mem} (hf : f_X9_pour M x0 x1 = some (r, M')) : Ct l yX9_pour cX9_pour 7 (some .int) rm_X9_pour [.ref (ad x0), .int x1] G A ad M (QI G A ad r M') 0 0 := by
  refine ct_start (by decide) (Nat.le_of_ble_eq_true rfl) ?_
  intro p e s m args below meth c ls C hin hw hl
  have C : Cx G A p s m args meth c RX9 cX9_pour 7 (some .int) := C
  have hl : lv_has ls 7 [(0, .ref (ad x0)), (1, .int x1)] := hl
  obtain ⟨hx, hb, -⟩ := id C
  rw [f_X9_pour] at hf
  refine lv_iload_n hx hb dX9_pour_0 rfl (lv_at hl 1 rfl) ?_
  refine lv_iconst (v := 3) hx hb dX9_pour_1 (by decide) ?_
  obtain ⟨r2, M1, hc3, hf⟩ := cl_inv hf
  refine fin_I (run_S C hw mf_X9_within ms_X9_within ml_X9_61 (c_X9_within l G A ad hc3) (As := [.int x1, .int 3]) (rest := []) hl.1 rfl rfl (Nat.le_of_ble_eq_true rfl) ⟨rfl, rfl, Nat.le_of_ble_eq_true rfl, Nat.le_of_ble_eq_true rfl⟩ ⟨Nat.zero_le _, Nat.zero_le _⟩ dX9_pour_2) hw (fun H locs hw => ?_)
  refine lv_if_ne (tgt := 11) hx hb dX9_pour_5 (by decide) (fun hc => ?_) (fun hc => ?_)
  · have hf := if_n hc hf
    refine lv_aload_n hx hb dX9_pour_11 rfl (lv_at hl 0 rfl) ?_
    obtain ⟨hT4, hf⟩ := gt_inv hf
    obtain ⟨a5, hP6, hf⟩ := lp_inv hf
    refine r_getP C hw cf9 6 (by decide) rfl hT4 hP6 fl_X9_45 dX9_pour_12 ?_
    refine lv_iload_n hx hb dX9_pour_15 rfl (lv_at hl 1 rfl) ?_
    obtain ⟨hT7, hf⟩ := gt_inv hf
    obtain ⟨hg8, hf⟩ := gd_inv hf
    obtain ⟨a9, hP10, hf⟩ := lp_inv hf
    refine r_aald C hw 6 rfl (by decide) (by decide) hT7 hg8 hP10 dX9_pour_16 ?_
    refine lv_astore_n (lv' := [(2, .ref (ad a9)), (0, .ref (ad x0)), (1, .int x1)]) hx hb dX9_pour_17 rfl hl (by decide) rfl (fun ls hl => ?_)
    refine lv_aload_n hx hb dX9_pour_18 rfl (lv_at hl 0 rfl) ?_
    obtain ⟨hT14, hf⟩ := gt_inv hf
    obtain ⟨r12, M11, hc13, hf⟩ := cl_inv hf
    refine fin_I (run_V C hw mf_X2_isMissing mv_X2_isMissing ml_X9_199 cf2 hT14 (c_X2_isMissing l G A ad hc13) (As := []) (rest := []) hl.1 rfl rfl (Nat.le_of_ble_eq_true rfl) ⟨rfl, rfl, Nat.le_of_ble_eq_true rfl, Nat.le_of_ble_eq_true rfl⟩ ⟨Nat.zero_le _, Nat.zero_le _⟩ dX9_pour_19) hw (fun H locs hw => ?_)
    refine lv_if_eq (tgt := 28) hx hb dX9_pour_22 (by decide) (fun hc => ?_) (fun hc => ?_)
    · have hf := if_p hc hf
      refine lv_iconst (v := 0) hx hb dX9_pour_28 (by decide) ?_
      refine lv_istore_n (lv' := [(3, .int 0), (2, .ref (ad a9)), (0, .ref (ad x0)), (1, .int x1)]) hx hb dX9_pour_29 rfl hl (by decide) rfl (fun ls hl => ?_)
      refine lv_iconst (v := 0) hx hb dX9_pour_30 (by decide) ?_
      refine lv_istore (lv' := [(4, .int 0), (3, .int 0), (2, .ref (ad a9)), (0, .ref (ad x0)), (1, .int x1)]) hx hb dX9_pour_31 hl (by decide) rfl (fun ls hl => ?_)
      exact t_X9_pour_33 C FU M11 x0 a9 0 0 _ _ _ hf hw (lv_sub hl [3, 2, 1, 0] rfl)
    · have hf := if_n hc hf
      refine lv_ldc hx hb C.2.2.2.1 (C.2.2.2.2.1 _ kc_X9_203) dX9_pour_25 ?_
      exact e_iret C hw hf dX9_pour_27
  · have hf := if_p hc hf
    refine lv_ldc hx hb C.2.2.2.1 (C.2.2.2.2.1 _ kc_X9_65) dX9_pour_8 ?_
    exact e_iret C hw hf dX9_pour_10
/-! StorkVote.nestIs(II)Z -/
abbrev rm_X9_nestIs : Room := { frames := 1, cells := 0, slots := 0, locals := 21 }
def f_X9_nestIs_35 (M : Mem) (s0 : Int32) (s1 : Int32) : Option (Int32 × Mem) := (if s0 = s1 then some (1, M) else some (0, M))
set_option maxHeartbeats 4000000 in
set_option maxRecDepth 100000 in
theorem t_X9_nestIs_35 {l : Launch} {p : Program} {e : Env} {s : State} {m : MethodId} {args : Array Value} {below : List Frame} {meth : Method} {c : Code} {G : Gd} {A : Nat → Prop} {ad : Nat → Nat} (C : Cx G A p s m args meth c RX9 cX9_nestIs 4 (some .boolean)) {r : Int32} {M' : Mem} : ∀ (M : Mem) (s0 : Int32) (s1 : Int32) (H : Heap) (locs : List Loc) (ls : Array Slot), f_X9_nestIs_35  M s0 s1 = some (r, M') → Wd G A ad s.heap M H locs → lv_has ls 4 [] → W p l e rm_X9_nestIs s m args below meth c H locs 0 0 (MQ below (QI G A ad r M') args s 0 0 A) (F0 m 35 ls [.int s1, .int s0]) := by
  obtain ⟨hx, hb, -⟩ := id C
  intro M s0 s1 H locs ls hf hw hl
  rw [f_X9_nestIs_35] at hf
  refine lv_icmp_ne (tgt := 42) hx hb dX9_nestIs_35 (by decide) (fun hc => ?_) (fun hc => ?_)
  · have hf := if_n hc hf
    refine lv_iconst (v := 0) hx hb dX9_nestIs_42 (by decide) ?_
    exact e_zret C hw rfl hf dX9_nestIs_43
  · have hf := if_p hc hf
    refine lv_iconst (v := 1) hx hb dX9_nestIs_38 (by decide) ?_
    refine lv_goto (tgt := 43) hx hb dX9_nestIs_39 (by decide) ?_
    exact e_zret C hw rfl hf dX9_nestIs_43
def f_X9_nestIs (M : Mem) (x0 : Nat) (x1 : Int32) (x2 : Int32) : Option (Int32 × Mem) := gt (mT M x0) 10 (lp (mP M x0 0) (fun a2 => gt (mT M a2) 9 (cl (f_X8_hasStork M a2 x1) (fun r5 M4 => (if r5 = 0 then some (0, M4) else gt (mT M4 x0) 10 (lp (mP M4 x0 3) (fun a9 => gt (mT M4 a9) 5 (lp (mP M4 a9 0) (fun a12 => gt (mT M4 a12) 20 (gd (ib x1 (mL M4 a12)) ((if (mI M4 a12 x1.toNatClampNeg) = (-1000000005) then f_X9_nestIs_35 M4 x2 (-1) else f_X9_nestIs_35 M4 x2 (mI M4 a12 x1.toNatClampNeg)))))))))))))
set_option maxHeartbeats 4000000 in
set_option maxRecDepth 100000 in
theorem c_X9_nestIs (l : Launch) (G : Gd) (A : Nat → Prop) (ad : Nat → Nat) {M : Mem} {x0 : Nat} {x1 : Int32} {x2 : Int32}  {r : Int32} {M' : Mem} (hf : f_X9_nestIs M x0 x1 x2 = some (r, M')) : Ct l yX9_nestIs cX9_nestIs 4 (some .boolean) rm_X9_nestIs [.ref (ad x0), .int x1, .int x2] G A ad M (QI G A ad r M') 0 0 := by
  refine ct_start (by decide) (Nat.le_of_ble_eq_true rfl) ?_
  intro p e s m args below meth c ls C hin hw hl
  have C : Cx G A p s m args meth c RX9 cX9_nestIs 4 (some .boolean) := C
  have hl : lv_has ls 4 [(0, .ref (ad x0)), (1, .int x1), (2, .int x2)] := hl
  obtain ⟨hx, hb, -⟩ := id C
  rw [f_X9_nestIs] at hf
  refine lv_aload_n hx hb dX9_nestIs_0 rfl (lv_at hl 0 rfl) ?_
  obtain ⟨hT1, hf⟩ := gt_inv hf
  obtain ⟨a2, hP3, hf⟩ := lp_inv hf
  refine r_getP C hw cf9 0 (by decide) rfl hT1 hP3 fl_X9_10 dX9_nestIs_1 ?_
  refine lv_iload_n hx hb dX9_nestIs_4 rfl (lv_at hl 1 rfl) ?_
  obtain ⟨hT7, hf⟩ := gt_inv hf
  obtain ⟨r5, M4, hc6, hf⟩ := cl_inv hf
  refine fin_I (run_V C hw mf_X8_hasStork mv_X8_hasStork ml_X9_112 cf8 hT7 (c_X8_hasStork l G A ad hc6) (As := [.int x1]) (rest := []) hl.1 rfl rfl (Nat.le_of_ble_eq_true rfl) ⟨rfl, rfl, Nat.le_of_ble_eq_true rfl, Nat.le_of_ble_eq_true rfl⟩ ⟨Nat.zero_le _, Nat.zero_le _⟩ dX9_nestIs_5) hw (fun H locs hw => ?_)
  refine lv_if_ne (tgt := 13) hx hb dX9_nestIs_8 (by decide) (fun hc => ?_) (fun hc => ?_)
  · have hf := if_n hc hf
    refine lv_aload_n hx hb dX9_nestIs_13 rfl (lv_at hl 0 rfl) ?_
    obtain ⟨hT8, hf⟩ := gt_inv hf
    obtain ⟨a9, hP10, hf⟩ := lp_inv hf
    refine r_getP C hw cf9 3 (by decide) rfl hT8 hP10 fl_X9_25 dX9_nestIs_14 ?_
    obtain ⟨hT11, hf⟩ := gt_inv hf
    obtain ⟨a12, hP13, hf⟩ := lp_inv hf
    refine r_getP C hw cf4 0 (by decide) rfl hT11 hP13 fl_X9_135 dX9_nestIs_17 ?_
    refine lv_iload_n hx hb dX9_nestIs_20 rfl (lv_at hl 1 rfl) ?_
    obtain ⟨hT14, hf⟩ := gt_inv hf
    obtain ⟨hg15, hf⟩ := gd_inv hf
    refine r_iald C hw hT14 hg15 dX9_nestIs_21 ?_
    refine lv_istore_n (lv' := [(3, .int (mI M4 a12 x1.toNatClampNeg)), (0, .ref (ad x0)), (1, .int x1), (2, .int x2)]) hx hb dX9_nestIs_22 rfl hl (by decide) rfl (fun ls hl => ?_)
    refine lv_iload_n hx hb dX9_nestIs_23 rfl (lv_at hl 3 rfl) ?_
    refine lv_iload_n hx hb dX9_nestIs_24 rfl (lv_at hl 0 rfl) ?_
    refine lv_ldc hx hb C.2.2.2.1 (C.2.2.2.2.1 _ kc_X9_107) dX9_nestIs_25 ?_
    refine lv_icmp_ne (tgt := 34) hx hb dX9_nestIs_27 (by decide) (fun hc => ?_) (fun hc => ?_)
    · have hf := if_n hc hf
      refine lv_iload_n hx hb dX9_nestIs_34 rfl (lv_at hl 0 rfl) ?_
      exact t_X9_nestIs_35 C M4 x2 (mI M4 a12 x1.toNatClampNeg) _ _ _ hf hw (lv_sub hl [] rfl)
    · have hf := if_p hc hf
      refine lv_iconst (v := (-1)) hx hb dX9_nestIs_30 (by decide) ?_
      refine lv_goto (tgt := 35) hx hb dX9_nestIs_31 (by decide) ?_
      exact t_X9_nestIs_35 C M4 x2 (-1) _ _ _ hf hw (lv_sub hl [] rfl)
  · have hf := if_p hc hf
    refine lv_iconst (v := 0) hx hb dX9_nestIs_11 (by decide) ?_
    exact e_zret C hw rfl hf dX9_nestIs_12
/-! StorkVote.reads(I)I -/
abbrev rm_X9_reads : Room := { frames := 6, cells := 0, slots := 0, locals := 139 }
def f_X9_reads_34 : Nat → Mem → Nat → Nat → Int32 → Option (Int32 × Mem)
  | 0, _, _, _, _ => none
  | n + 1, M, x0, x2, x3 => gt (mT M x2) 3 ((if (mI M x2 1) ≤ x3 then some ((-1000000005), M) else lp (mP M x2 2) (fun a2 => gt (mT M a2) 20 (gd (ib x3 (mL M a2)) ((if (mI M a2 x3.toNatClampNeg) = (-1000000005) then f_X9_reads_34 n M x0 x2 (x3 + 1) else gd (ib x3 (mL M a2)) (gt (mT M x0) 10 (cl (f_X9_nestIs M x0 x3 (mI M a2 x3.toNatClampNeg)) (fun r8 M7 => (if r8 = 0 then some (x3, M7) else f_X9_reads_34 n M7 x0 x2 (x3 + 1)))))))))))
set_option maxHeartbeats 4000000 in
set_option maxRecDepth 100000 in
theorem t_X9_reads_34 {l : Launch} {p : Program} {e : Env} {s : State} {m : MethodId} {args : Array Value} {below : List Frame} {meth : Method} {c : Code} {G : Gd} {A : Nat → Prop} {ad : Nat → Nat} (C : Cx G A p s m args meth c RX9 cX9_reads 4 (some .int)) {r : Int32} {M' : Mem} : ∀ (n : Nat) (M : Mem) (x0 : Nat) (x2 : Nat) (x3 : Int32) (H : Heap) (locs : List Loc) (ls : Array Slot), f_X9_reads_34  n M x0 x2 x3 = some (r, M') → Wd G A ad s.heap M H locs → lv_has ls 4 [(0, .ref (ad x0)), (2, .ref (ad x2)), (3, .int x3)] → W p l e rm_X9_reads s m args below meth c H locs 0 0 (MQ below (QI G A ad r M') args s 0 0 A) (F0 m 34 ls []) := by
  obtain ⟨hx, hb, -⟩ := id C
  intro n
  induction n with
  | zero =>
    intro M x0 x2 x3 H locs ls hf
    rw [f_X9_reads_34] at hf
    exact absurd hf (fun h => nomatch h)
  | succ n ih =>
    intro M x0 x2 x3 H locs ls hf hw hl
    rw [f_X9_reads_34] at hf
    refine lv_iload_n hx hb dX9_reads_34 rfl (lv_at hl 2 rfl) ?_
    refine lv_aload_n hx hb dX9_reads_35 rfl (lv_at hl 1 rfl) ?_
    obtain ⟨hT1, hf⟩ := gt_inv hf
    refine r_getI C hw cf2 1 (by decide) rfl hT1 fl_X9_274 dX9_reads_36 ?_
    refine lv_icmp_ge (tgt := 75) hx hb dX9_reads_39 (by decide) (fun hc => ?_) (fun hc => ?_)
    · have hf := if_p hc hf
      refine lv_ldc hx hb C.2.2.2.1 (C.2.2.2.2.1 _ kc_X9_107) dX9_reads_75 ?_
      exact e_iret C hw hf dX9_reads_77
    · have hf := if_n hc hf
      refine lv_aload_n hx hb dX9_reads_42 rfl (lv_at hl 1 rfl) ?_
      obtain ⟨a2, hP3, hf⟩ := lp_inv hf
      refine r_getP C hw cf2 2 (by decide) rfl hT1 hP3 fl_X9_269 dX9_reads_43 ?_
      refine lv_iload_n hx hb dX9_reads_46 rfl (lv_at hl 2 rfl) ?_
      obtain ⟨hT4, hf⟩ := gt_inv hf
      obtain ⟨hg5, hf⟩ := gd_inv hf
      refine r_iald C hw hT4 hg5 dX9_reads_47 ?_
      refine lv_ldc hx hb C.2.2.2.1 (C.2.2.2.2.1 _ kc_X9_107) dX9_reads_48 ?_
      refine lv_icmp_eq (tgt := 69) hx hb dX9_reads_50 (by decide) (fun hc => ?_) (fun hc => ?_)
      · have hf := if_p hc hf
        refine lv_iinc (v := (x3 + 1)) (lv' := [(3, .int (x3 + 1)), (0, .ref (ad x0)), (2, .ref (ad x2))]) hx hb dX9_reads_69 hl (k := 2) rfl rfl (by decide) rfl (fun ls hl => ?_)
        refine lv_goto (tgt := 34) hx hb dX9_reads_72 (by decide) ?_
        exact ih M x0 x2 (x3 + 1) _ _ _ hf hw (lv_sub hl [1, 2, 0] rfl)
      · have hf := if_n hc hf
        refine lv_aload_n hx hb dX9_reads_53 rfl (lv_at hl 0 rfl) ?_
        refine lv_iload_n hx hb dX9_reads_54 rfl (lv_at hl 2 rfl) ?_
        refine lv_aload_n hx hb dX9_reads_55 rfl (lv_at hl 1 rfl) ?_
        refine r_getP C hw cf2 2 (by decide) rfl hT1 hP3 fl_X9_269 dX9_reads_56 ?_
        refine lv_iload_n hx hb dX9_reads_59 rfl (lv_at hl 2 rfl) ?_
        obtain ⟨hg6, hf⟩ := gd_inv hf
        refine r_iald C hw hT4 hg6 dX9_reads_60 ?_
        obtain ⟨hT10, hf⟩ := gt_inv hf
        obtain ⟨r8, M7, hc9, hf⟩ := cl_inv hf
        refine fin_I (run_V C hw mf_X9_nestIs mv_X9_nestIs ml_X9_278 cf9 hT10 (c_X9_nestIs l G A ad hc9) (As := [.int x3, .int (mI M a2 x3.toNatClampNeg)]) (rest := []) hl.1 rfl rfl (Nat.le_of_ble_eq_true rfl) ⟨rfl, rfl, Nat.le_of_ble_eq_true rfl, Nat.le_of_ble_eq_true rfl⟩ ⟨Nat.zero_le _, Nat.zero_le _⟩ dX9_reads_61) hw (fun H locs hw => ?_)
        refine lv_if_ne (tgt := 69) hx hb dX9_reads_64 (by decide) (fun hc => ?_) (fun hc => ?_)
        · have hf := if_n hc hf
          refine lv_iinc (v := (x3 + 1)) (lv' := [(3, .int (x3 + 1)), (0, .ref (ad x0)), (2, .ref (ad x2))]) hx hb dX9_reads_69 hl (k := 2) rfl rfl (by decide) rfl (fun ls hl => ?_)
          refine lv_goto (tgt := 34) hx hb dX9_reads_72 (by decide) ?_
          exact ih M7 x0 x2 (x3 + 1) _ _ _ hf hw (lv_sub hl [1, 2, 0] rfl)
        · have hf := if_p hc hf
          refine lv_iload_n hx hb dX9_reads_67 rfl (lv_at hl 2 rfl) ?_
          exact e_iret C hw hf dX9_reads_68
def f_X9_reads (M : Mem) (x0 : Nat) (x1 : Int32) : Option (Int32 × Mem) := cl (f_X9_within M x1 3) (fun r2 M1 => (if r2 = 0 then some ((-1000000001), M1) else gt (mT M1 x0) 10 (lp (mP M1 x0 6) (fun a5 => gt (mT M1 a5) 26 (gd (ib x1 (mL M1 a5)) (lp (mP M1 a5 x1.toNatClampNeg) (fun a9 => gt (mT M1 a9) 3 (cl (f_X2_isMissing M1 a9) (fun r12 M11 => (if r12 = 0 then gt (mT M11 x0) 10 (cl (f_X9_settleNow M11 x0) (fun _ M15 => f_X9_reads_34 FU M15 x0 a9 0)) else some ((-1000000011), M11)))))))))))
set_option maxHeartbeats 4000000 in
set_option maxRecDepth 100000 in
theorem c_X9_reads (l : Launch) (G : Gd) (A : Nat → Prop) (ad : Nat → Nat) {M : Mem} {x0 : Nat} {x1 : Int32}  {r : Int32} {M' : Mem} (hf : f_X9_reads M x0 x1 = some (r, M')) : Ct l yX9_reads cX9_reads 4 (some .int) rm_X9_reads [.ref (ad x0), .int x1] G A ad M (QI G A ad r M') 0 0 := by
  refine ct_start (by decide) (Nat.le_of_ble_eq_true rfl) ?_
  intro p e s m args below meth c ls C hin hw hl
  have C : Cx G A p s m args meth c RX9 cX9_reads 4 (some .int) := C
  have hl : lv_has ls 4 [(0, .ref (ad x0)), (1, .int x1)] := hl
  obtain ⟨hx, hb, -⟩ := id C
  rw [f_X9_reads] at hf
  refine lv_iload_n hx hb dX9_reads_0 rfl (lv_at hl 1 rfl) ?_
  refine lv_iconst (v := 3) hx hb dX9_reads_1 (by decide) ?_
  obtain ⟨r2, M1, hc3, hf⟩ := cl_inv hf
  refine fin_I (run_S C hw mf_X9_within ms_X9_within ml_X9_61 (c_X9_within l G A ad hc3) (As := [.int x1, .int 3]) (rest := []) hl.1 rfl rfl (Nat.le_of_ble_eq_true rfl) ⟨rfl, rfl, Nat.le_of_ble_eq_true rfl, Nat.le_of_ble_eq_true rfl⟩ ⟨Nat.zero_le _, Nat.zero_le _⟩ dX9_reads_2) hw (fun H locs hw => ?_)
  refine lv_if_ne (tgt := 11) hx hb dX9_reads_5 (by decide) (fun hc => ?_) (fun hc => ?_)
  · have hf := if_n hc hf
    refine lv_aload_n hx hb dX9_reads_11 rfl (lv_at hl 0 rfl) ?_
    obtain ⟨hT4, hf⟩ := gt_inv hf
    obtain ⟨a5, hP6, hf⟩ := lp_inv hf
    refine r_getP C hw cf9 6 (by decide) rfl hT4 hP6 fl_X9_45 dX9_reads_12 ?_
    refine lv_iload_n hx hb dX9_reads_15 rfl (lv_at hl 1 rfl) ?_
    obtain ⟨hT7, hf⟩ := gt_inv hf
    obtain ⟨hg8, hf⟩ := gd_inv hf
    obtain ⟨a9, hP10, hf⟩ := lp_inv hf
    refine r_aald C hw 6 rfl (by decide) (by decide) hT7 hg8 hP10 dX9_reads_16 ?_
    refine lv_astore_n (lv' := [(2, .ref (ad a9)), (0, .ref (ad x0)), (1, .int x1)]) hx hb dX9_reads_17 rfl hl (by decide) rfl (fun ls hl => ?_)
    refine lv_aload_n hx hb dX9_reads_18 rfl (lv_at hl 0 rfl) ?_
    obtain ⟨hT14, hf⟩ := gt_inv hf
    obtain ⟨r12, M11, hc13, hf⟩ := cl_inv hf
    refine fin_I (run_V C hw mf_X2_isMissing mv_X2_isMissing ml_X9_199 cf2 hT14 (c_X2_isMissing l G A ad hc13) (As := []) (rest := []) hl.1 rfl rfl (Nat.le_of_ble_eq_true rfl) ⟨rfl, rfl, Nat.le_of_ble_eq_true rfl, Nat.le_of_ble_eq_true rfl⟩ ⟨Nat.zero_le _, Nat.zero_le _⟩ dX9_reads_19) hw (fun H locs hw => ?_)
    refine lv_if_eq (tgt := 28) hx hb dX9_reads_22 (by decide) (fun hc => ?_) (fun hc => ?_)
    · have hf := if_p hc hf
      refine lv_aload_n hx hb dX9_reads_28 rfl (lv_at hl 1 rfl) ?_
      obtain ⟨hT18, hf⟩ := gt_inv hf
      obtain ⟨⟨⟩, M15, hc17, hf⟩ := cl_inv hf
      refine fin_V (run_V C hw mf_X9_settleNow mv_X9_settleNow ml_X9_97 cf9 hT18 (c_X9_settleNow l G A ad hc17) (As := []) (rest := []) hl.1 rfl rfl (Nat.le_of_ble_eq_true rfl) ⟨rfl, rfl, Nat.le_of_ble_eq_true rfl, Nat.le_of_ble_eq_true rfl⟩ ⟨Nat.zero_le _, Nat.zero_le _⟩ dX9_reads_29) hw (fun H locs hw => ?_)
      refine lv_iconst (v := 0) hx hb dX9_reads_32 (by decide) ?_
      refine lv_istore_n (lv' := [(3, .int 0), (2, .ref (ad a9)), (0, .ref (ad x0)), (1, .int x1)]) hx hb dX9_reads_33 rfl hl (by decide) rfl (fun ls hl => ?_)
      exact t_X9_reads_34 C FU M15 x0 a9 0 _ _ _ hf hw (lv_sub hl [2, 1, 0] rfl)
    · have hf := if_n hc hf
      refine lv_ldc hx hb C.2.2.2.1 (C.2.2.2.2.1 _ kc_X9_203) dX9_reads_25 ?_
      exact e_iret C hw hf dX9_reads_27
  · have hf := if_p hc hf
    refine lv_ldc hx hb C.2.2.2.1 (C.2.2.2.2.1 _ kc_X9_65) dX9_reads_8 ?_
    exact e_iret C hw hf dX9_reads_10
/-! StorkVote.copy(IIIII)I -/
abbrev rm_X9_copy : Room := { frames := 1, cells := 0, slots := 0, locals := 26 }
def f_X9_copy (M : Mem) (x0 : Nat) (x1 : Int32) (x2 : Int32) (x3 : Int32) (x4 : Int32) (x5 : Int32) : Option (Int32 × Mem) := cl (f_X9_within M x1 3) (fun r2 M1 => (if r2 = 0 then some ((-1000000001), M1) else cl (f_X9_within M1 x3 3) (fun r5 M4 => (if r5 = 0 then some ((-1000000001), M4) else gt (mT M4 x0) 10 (lp (mP M4 x0 6) (fun a8 => gt (mT M4 a8) 26 (gd (ib x1 (mL M4 a8)) (lp (mP M4 a8 x1.toNatClampNeg) (fun a12 => gd (ib x3 (mL M4 a8)) (lp (mP M4 a8 x3.toNatClampNeg) (fun a15 => gt (mT M4 a12) 3 (cl (f_X2_isMissing M4 a12) (fun r18 M17 => (if r18 = 0 then gt (mT M17 a15) 3 (cl (f_X2_isMissing M17 a15) (fun r22 M21 => (if r22 = 0 then gt (mT M21 a12) 3 (gt (mT M21 a15) 3 ((if (mI M21 a12 0) = (mI M21 a15 0) then cl (f_X2_hasRow M21 a12 x2 x5) (fun r28 M27 => (if r28 = 0 then some ((-1000000013), M27) else gt (mT M27 a15) 3 (cl (f_X2_hasRow M27 a15 x4 x5) (fun r31 M30 => (if r31 = 0 then some ((-1000000013), M30) else gt (mT M30 a12) 3 (lp (mP M30 a12 2) (fun a35 => gt (mT M30 a15) 3 (lp (mP M30 a15 2) (fun a38 => gt (mT M30 a35) 20 (gt (mT M30 a38) 20 (gd ((decide (0 ≤ x2) && decide (0 ≤ x4) && decide (0 ≤ x5) && decide (x2.toNatClampNeg + x5.toNatClampNeg ≤ mL M30 a35) && decide (x4.toNatClampNeg + x5.toNatClampNeg ≤ mL M30 a38))) (st (setR M30 a38 (va_cpy (fun j => mI M30 a35 j) (fun j => mI M30 a38 j) x2.toNatClampNeg x4.toNatClampNeg x5.toNatClampNeg)) (fun M43 => some (x5, M43)))))))))))))) else some ((-1000000012), M21)))) else some ((-1000000011), M21)))) else some ((-1000000011), M17)))))))))))))))
set_option maxHeartbeats 4000000 in
set_option maxRecDepth 100000 in
theorem c_X9_copy (l : Launch) (G : Gd) (A : Nat → Prop) (ad : Nat → Nat) {M : Mem} {x0 : Nat} {x1 : Int32} {x2 : Int32} {x3 : Int32} {x4 : Int32} {x5 : Int32}  {r : Int32} {M' : Mem} (hf : f_X9_copy M x0 x1 x2 x3 x4 x5 = some (r, M')) : Ct l yX9_copy cX9_copy 8 (some .int) rm_X9_copy [.ref (ad x0), .int x1, .int x2, .int x3, .int x4, .int x5] G A ad M (QI G A ad r M') 0 0 := by
  refine ct_start (by decide) (Nat.le_of_ble_eq_true rfl) ?_
  intro p e s m args below meth c ls C hin hw hl
  have C : Cx G A p s m args meth c RX9 cX9_copy 8 (some .int) := C
  have hl : lv_has ls 8 [(0, .ref (ad x0)), (1, .int x1), (2, .int x2), (3, .int x3), (4, .int x4), (5, .int x5)] := hl
  obtain ⟨hx, hb, -⟩ := id C
  rw [f_X9_copy] at hf
  refine lv_iload_n hx hb dX9_copy_0 rfl (lv_at hl 1 rfl) ?_
  refine lv_iconst (v := 3) hx hb dX9_copy_1 (by decide) ?_
  obtain ⟨r2, M1, hc3, hf⟩ := cl_inv hf
  refine fin_I (run_S C hw mf_X9_within ms_X9_within ml_X9_61 (c_X9_within l G A ad hc3) (As := [.int x1, .int 3]) (rest := []) hl.1 rfl rfl (Nat.le_of_ble_eq_true rfl) ⟨rfl, rfl, Nat.le_of_ble_eq_true rfl, Nat.le_of_ble_eq_true rfl⟩ ⟨Nat.zero_le _, Nat.zero_le _⟩ dX9_copy_2) hw (fun H locs hw => ?_)
  refine lv_if_eq (tgt := 16) hx hb dX9_copy_5 (by decide) (fun hc => ?_) (fun hc => ?_)
  · have hf := if_p hc hf
    refine lv_ldc hx hb C.2.2.2.1 (C.2.2.2.2.1 _ kc_X9_65) dX9_copy_16 ?_
    exact e_iret C hw hf dX9_copy_18
  · have hf := if_n hc hf
    refine lv_iload_n hx hb dX9_copy_8 rfl (lv_at hl 3 rfl) ?_
    refine lv_iconst (v := 3) hx hb dX9_copy_9 (by decide) ?_
    obtain ⟨r5, M4, hc6, hf⟩ := cl_inv hf
    refine fin_I (run_S C hw mf_X9_within ms_X9_within ml_X9_61 (c_X9_within l G A ad hc6) (As := [.int x3, .int 3]) (rest := []) hl.1 rfl rfl (Nat.le_of_ble_eq_true rfl) ⟨rfl, rfl, Nat.le_of_ble_eq_true rfl, Nat.le_of_ble_eq_true rfl⟩ ⟨Nat.zero_le _, Nat.zero_le _⟩ dX9_copy_10) hw (fun H locs hw => ?_)
    refine lv_if_ne (tgt := 19) hx hb dX9_copy_13 (by decide) (fun hc => ?_) (fun hc => ?_)
    · have hf := if_n hc hf
      refine lv_aload_n hx hb dX9_copy_19 rfl (lv_at hl 0 rfl) ?_
      obtain ⟨hT7, hf⟩ := gt_inv hf
      obtain ⟨a8, hP9, hf⟩ := lp_inv hf
      refine r_getP C hw cf9 6 (by decide) rfl hT7 hP9 fl_X9_45 dX9_copy_20 ?_
      refine lv_iload_n hx hb dX9_copy_23 rfl (lv_at hl 1 rfl) ?_
      obtain ⟨hT10, hf⟩ := gt_inv hf
      obtain ⟨hg11, hf⟩ := gd_inv hf
      obtain ⟨a12, hP13, hf⟩ := lp_inv hf
      refine r_aald C hw 6 rfl (by decide) (by decide) hT10 hg11 hP13 dX9_copy_24 ?_
      refine lv_astore (lv' := [(6, .ref (ad a12)), (0, .ref (ad x0)), (1, .int x1), (2, .int x2), (3, .int x3), (4, .int x4), (5, .int x5)]) hx hb dX9_copy_25 hl (by decide) rfl (fun ls hl => ?_)
      refine lv_aload_n hx hb dX9_copy_27 rfl (lv_at hl 1 rfl) ?_
      refine r_getP C hw cf9 6 (by decide) rfl hT7 hP9 fl_X9_45 dX9_copy_28 ?_
      refine lv_iload_n hx hb dX9_copy_31 rfl (lv_at hl 4 rfl) ?_
      obtain ⟨hg14, hf⟩ := gd_inv hf
      obtain ⟨a15, hP16, hf⟩ := lp_inv hf
      refine r_aald C hw 6 rfl (by decide) (by decide) hT10 hg14 hP16 dX9_copy_32 ?_
      refine lv_astore (lv' := [(7, .ref (ad a15)), (6, .ref (ad a12)), (0, .ref (ad x0)), (1, .int x1), (2, .int x2), (3, .int x3), (4, .int x4), (5, .int x5)]) hx hb dX9_copy_33 hl (by decide) rfl (fun ls hl => ?_)
      refine lv_aload hx hb dX9_copy_35 (lv_at hl 1 rfl) ?_
      obtain ⟨hT20, hf⟩ := gt_inv hf
      obtain ⟨r18, M17, hc19, hf⟩ := cl_inv hf
      refine fin_I (run_V C hw mf_X2_isMissing mv_X2_isMissing ml_X9_199 cf2 hT20 (c_X2_isMissing l G A ad hc19) (As := []) (rest := []) hl.1 rfl rfl (Nat.le_of_ble_eq_true rfl) ⟨rfl, rfl, Nat.le_of_ble_eq_true rfl, Nat.le_of_ble_eq_true rfl⟩ ⟨Nat.zero_le _, Nat.zero_le _⟩ dX9_copy_37) hw (fun H locs hw => ?_)
      refine lv_if_ne (tgt := 51) hx hb dX9_copy_40 (by decide) (fun hc => ?_) (fun hc => ?_)
      · have hf := if_n hc hf
        refine lv_ldc hx hb C.2.2.2.1 (C.2.2.2.2.1 _ kc_X9_203) dX9_copy_51 ?_
        exact e_iret C hw hf dX9_copy_53
      · have hf := if_p hc hf
        refine lv_aload hx hb dX9_copy_43 (lv_at hl 0 rfl) ?_
        obtain ⟨hT24, hf⟩ := gt_inv hf
        obtain ⟨r22, M21, hc23, hf⟩ := cl_inv hf
        refine fin_I (run_V C hw mf_X2_isMissing mv_X2_isMissing ml_X9_199 cf2 hT24 (c_X2_isMissing l G A ad hc23) (As := []) (rest := []) hl.1 rfl rfl (Nat.le_of_ble_eq_true rfl) ⟨rfl, rfl, Nat.le_of_ble_eq_true rfl, Nat.le_of_ble_eq_true rfl⟩ ⟨Nat.zero_le _, Nat.zero_le _⟩ dX9_copy_45) hw (fun H locs hw => ?_)
        refine lv_if_eq (tgt := 54) hx hb dX9_copy_48 (by decide) (fun hc => ?_) (fun hc => ?_)
        · have hf := if_p hc hf
          refine lv_aload hx hb dX9_copy_54 (lv_at hl 1 rfl) ?_
          obtain ⟨hT25, hf⟩ := gt_inv hf
          refine r_getI C hw cf2 0 (by decide) rfl hT25 fl_X9_266 dX9_copy_56 ?_
          refine lv_aload hx hb dX9_copy_59 (lv_at hl 0 rfl) ?_
          obtain ⟨hT26, hf⟩ := gt_inv hf
          refine r_getI C hw cf2 0 (by decide) rfl hT26 fl_X9_266 dX9_copy_61 ?_
          refine lv_icmp_eq (tgt := 70) hx hb dX9_copy_64 (by decide) (fun hc => ?_) (fun hc => ?_)
          · have hf := if_p hc hf
            refine lv_aload hx hb dX9_copy_70 (lv_at hl 1 rfl) ?_
            refine lv_iload_n hx hb dX9_copy_72 rfl (lv_at hl 4 rfl) ?_
            refine lv_iload hx hb dX9_copy_73 (lv_at hl 7 rfl) ?_
            obtain ⟨r28, M27, hc29, hf⟩ := cl_inv hf
            refine fin_I (run_V C hw mf_X2_hasRow mv_X2_hasRow ml_X9_281 cf2 hT25 (c_X2_hasRow l G A ad hc29) (As := [.int x2, .int x5]) (rest := []) hl.1 rfl rfl (Nat.le_of_ble_eq_true rfl) ⟨rfl, rfl, Nat.le_of_ble_eq_true rfl, Nat.le_of_ble_eq_true rfl⟩ ⟨Nat.zero_le _, Nat.zero_le _⟩ dX9_copy_75) hw (fun H locs hw => ?_)
            refine lv_if_eq (tgt := 93) hx hb dX9_copy_78 (by decide) (fun hc => ?_) (fun hc => ?_)
            · have hf := if_p hc hf
              refine lv_ldcw hx hb C.2.2.2.1 (C.2.2.2.2.1 _ kc_X9_265) dX9_copy_93 ?_
              exact e_iret C hw hf dX9_copy_96
            · have hf := if_n hc hf
              refine lv_aload hx hb dX9_copy_81 (lv_at hl 0 rfl) ?_
              refine lv_iload hx hb dX9_copy_83 (lv_at hl 6 rfl) ?_
              refine lv_iload hx hb dX9_copy_85 (lv_at hl 7 rfl) ?_
              obtain ⟨hT33, hf⟩ := gt_inv hf
              obtain ⟨r31, M30, hc32, hf⟩ := cl_inv hf
              refine fin_I (run_V C hw mf_X2_hasRow mv_X2_hasRow ml_X9_281 cf2 hT33 (c_X2_hasRow l G A ad hc32) (As := [.int x4, .int x5]) (rest := []) hl.1 rfl rfl (Nat.le_of_ble_eq_true rfl) ⟨rfl, rfl, Nat.le_of_ble_eq_true rfl, Nat.le_of_ble_eq_true rfl⟩ ⟨Nat.zero_le _, Nat.zero_le _⟩ dX9_copy_87) hw (fun H locs hw => ?_)
              refine lv_if_ne (tgt := 97) hx hb dX9_copy_90 (by decide) (fun hc => ?_) (fun hc => ?_)
              · have hf := if_n hc hf
                refine lv_aload hx hb dX9_copy_97 (lv_at hl 1 rfl) ?_
                obtain ⟨hT34, hf⟩ := gt_inv hf
                obtain ⟨a35, hP36, hf⟩ := lp_inv hf
                refine r_getP C hw cf2 2 (by decide) rfl hT34 hP36 fl_X9_269 dX9_copy_99 ?_
                refine lv_iload_n hx hb dX9_copy_102 rfl (lv_at hl 4 rfl) ?_
                refine lv_aload hx hb dX9_copy_103 (lv_at hl 0 rfl) ?_
                obtain ⟨hT37, hf⟩ := gt_inv hf
                obtain ⟨a38, hP39, hf⟩ := lp_inv hf
                refine r_getP C hw cf2 2 (by decide) rfl hT37 hP39 fl_X9_269 dX9_copy_105 ?_
                refine lv_iload hx hb dX9_copy_108 (lv_at hl 6 rfl) ?_
                refine lv_iload hx hb dX9_copy_110 (lv_at hl 7 rfl) ?_
                obtain ⟨hT40, hf⟩ := gt_inv hf
                obtain ⟨hT41, hf⟩ := gt_inv hf
                obtain ⟨hg42, hf⟩ := gd_inv hf
                obtain ⟨M43, e44, hf⟩ := st_inv hf
                have g45 := sg_R e44
                refine r_copy C hw hl.1 hT40 hT41 hg42 e44 mk_X9_284 cp_n cp_s cp_i (Nat.le_of_ble_eq_true rfl) (Nat.le_of_ble_eq_true rfl) dX9_copy_112 (fun H locs hw => ?_)
                refine lv_iload hx hb dX9_copy_115 (lv_at hl 7 rfl) ?_
                exact e_iret C hw hf dX9_copy_117
              · have hf := if_p hc hf
                refine lv_ldcw hx hb C.2.2.2.1 (C.2.2.2.2.1 _ kc_X9_265) dX9_copy_93 ?_
                exact e_iret C hw hf dX9_copy_96
          · have hf := if_n hc hf
            refine lv_ldc hx hb C.2.2.2.1 (C.2.2.2.2.1 _ kc_X9_106) dX9_copy_67 ?_
            exact e_iret C hw hf dX9_copy_69
        · have hf := if_n hc hf
          refine lv_ldc hx hb C.2.2.2.1 (C.2.2.2.2.1 _ kc_X9_203) dX9_copy_51 ?_
          exact e_iret C hw hf dX9_copy_53
    · have hf := if_p hc hf
      refine lv_ldc hx hb C.2.2.2.1 (C.2.2.2.2.1 _ kc_X9_65) dX9_copy_16 ?_
      exact e_iret C hw hf dX9_copy_18
/-! StorkVote.lay(III)I -/
abbrev rm_X9_lay : Room := { frames := 2, cells := 0, slots := 0, locals := 47 }
def f_X9_lay_71 (M : Mem) (x0 : Nat) (x1 : Int32) (x2 : Int32) (x3 : Int32) : Option (Int32 × Mem) := gt (mT M x0) 10 (lp (mP M x0 7) (fun a2 => gt (mT M a2) 27 (gd (ib x1 (mL M a2)) (lp (mP M a2 x1.toNatClampNeg) (fun a6 => gt (mT M a6) 4 (st (setI M a6 0 x2) (fun M9 => (if x2 = 1 then lp (mP M9 a6 1) (fun a27 => lp (mP M9 x0 0) (fun a29 => gt (mT M9 a29) 9 (lp (mP M9 a29 0) (fun a32 => gt (mT M9 a32) 23 (gd (ib x3 (mL M9 a32)) (lp (mP M9 a32 x3.toNatClampNeg) (fun a36 => gt (mT M9 a27) 1 (cl (f_X0_take M9 a27 a36) (fun _ M38 => some ((mI M a6 0), M38)))))))))) else (if x2 = 2 then lp (mP M9 a6 2) (fun a15 => lp (mP M9 x0 6) (fun a17 => gt (mT M9 a17) 26 (gd (ib x3 (mL M9 a17)) (lp (mP M9 a17 x3.toNatClampNeg) (fun a21 => gt (mT M9 a15) 3 (cl (f_X2_take M9 a15 a21) (fun _ M23 => some ((mI M a6 0), M23)))))))) else st (setI M9 a6 3 x3) (fun M12 => some ((mI M a6 0), M12)))))))))))
set_option maxHeartbeats 4000000 in
set_option maxRecDepth 100000 in
theorem t_X9_lay_71 {l : Launch} {p : Program} {e : Env} {s : State} {m : MethodId} {args : Array Value} {below : List Frame} {meth : Method} {c : Code} {G : Gd} {A : Nat → Prop} {ad : Nat → Nat} (C : Cx G A p s m args meth c RX9 cX9_lay 6 (some .int)) {r : Int32} {M' : Mem} : ∀ (M : Mem) (x0 : Nat) (x1 : Int32) (x2 : Int32) (x3 : Int32) (H : Heap) (locs : List Loc) (ls : Array Slot), f_X9_lay_71  M x0 x1 x2 x3 = some (r, M') → Wd G A ad s.heap M H locs → lv_has ls 6 [(0, .ref (ad x0)), (1, .int x1), (2, .int x2), (3, .int x3)] → W p l e rm_X9_lay s m args below meth c H locs 0 0 (MQ below (QI G A ad r M') args s 0 0 A) (F0 m 71 ls []) := by
  obtain ⟨hx, hb, -⟩ := id C
  intro M x0 x1 x2 x3 H locs ls hf hw hl
  rw [f_X9_lay_71] at hf
  refine lv_aload_n hx hb dX9_lay_71 rfl (lv_at hl 0 rfl) ?_
  obtain ⟨hT1, hf⟩ := gt_inv hf
  obtain ⟨a2, hP3, hf⟩ := lp_inv hf
  refine r_getP C hw cf9 7 (by decide) rfl hT1 hP3 fl_X9_51 dX9_lay_72 ?_
  refine lv_iload_n hx hb dX9_lay_75 rfl (lv_at hl 1 rfl) ?_
  obtain ⟨hT4, hf⟩ := gt_inv hf
  obtain ⟨hg5, hf⟩ := gd_inv hf
  obtain ⟨a6, hP7, hf⟩ := lp_inv hf
  refine r_aald C hw 7 rfl (by decide) (by decide) hT4 hg5 hP7 dX9_lay_76 ?_
  refine lv_astore (lv' := [(4, .ref (ad a6)), (0, .ref (ad x0)), (1, .int x1), (2, .int x2), (3, .int x3)]) hx hb dX9_lay_77 hl (by decide) rfl (fun ls hl => ?_)
  refine lv_aload hx hb dX9_lay_79 (lv_at hl 0 rfl) ?_
  obtain ⟨hT8, hf⟩ := gt_inv hf
  refine r_getI C hw cf3 0 (by decide) rfl hT8 fl_X9_290 dX9_lay_81 ?_
  refine lv_istore (lv' := [(5, .int (mI M a6 0)), (4, .ref (ad a6)), (0, .ref (ad x0)), (1, .int x1), (2, .int x2), (3, .int x3)]) hx hb dX9_lay_84 hl (by decide) rfl (fun ls hl => ?_)
  refine lv_aload hx hb dX9_lay_86 (lv_at hl 1 rfl) ?_
  refine lv_iload_n hx hb dX9_lay_88 rfl (lv_at hl 4 rfl) ?_
  obtain ⟨M9, e10, hf⟩ := st_inv hf
  have g11 := sg_I e10
  refine r_putI C hw cf3 0 (by decide) rfl hT8 e10 fl_X9_290 rfl rfl rfl dX9_lay_89 (fun H locs hw => ?_)
  refine lv_iload_n hx hb dX9_lay_92 rfl (lv_at hl 4 rfl) ?_
  refine lv_iconst (v := 1) hx hb dX9_lay_93 (by decide) ?_
  refine lv_icmp_ne (tgt := 117) hx hb dX9_lay_94 (by decide) (fun hc => ?_) (fun hc => ?_)
  · have hf := if_n hc hf
    refine lv_iload_n hx hb dX9_lay_117 rfl (lv_at hl 4 rfl) ?_
    refine lv_iconst (v := 2) hx hb dX9_lay_118 (by decide) ?_
    refine lv_icmp_ne (tgt := 139) hx hb dX9_lay_119 (by decide) (fun hc => ?_) (fun hc => ?_)
    · have hf := if_n hc hf
      refine lv_aload hx hb dX9_lay_139 (lv_at hl 1 rfl) ?_
      refine lv_iload_n hx hb dX9_lay_141 rfl (lv_at hl 5 rfl) ?_
      obtain ⟨M12, e13, hf⟩ := st_inv hf
      have g14 := sg_I e13
      refine r_putI C hw cf3 3 (by decide) rfl (T_of g11 hT8) e13 fl_X9_307 rfl rfl rfl dX9_lay_142 (fun H locs hw => ?_)
      refine lv_iload hx hb dX9_lay_145 (lv_at hl 0 rfl) ?_
      exact e_iret C hw hf dX9_lay_147
    · have hf := if_p hc hf
      refine lv_aload hx hb dX9_lay_122 (lv_at hl 1 rfl) ?_
      obtain ⟨a15, hP16, hf⟩ := lp_inv hf
      refine r_getP C hw cf3 2 (by decide) rfl (T_of g11 hT8) hP16 fl_X9_300 dX9_lay_124 ?_
      refine lv_aload_n hx hb dX9_lay_127 rfl (lv_at hl 2 rfl) ?_
      obtain ⟨a17, hP18, hf⟩ := lp_inv hf
      refine r_getP C hw cf9 6 (by decide) rfl (T_of g11 hT1) hP18 fl_X9_45 dX9_lay_128 ?_
      refine lv_iload_n hx hb dX9_lay_131 rfl (lv_at hl 5 rfl) ?_
      obtain ⟨hT19, hf⟩ := gt_inv hf
      obtain ⟨hg20, hf⟩ := gd_inv hf
      obtain ⟨a21, hP22, hf⟩ := lp_inv hf
      refine r_aald C hw 6 rfl (by decide) (by decide) hT19 hg20 hP22 dX9_lay_132 ?_
      obtain ⟨hT26, hf⟩ := gt_inv hf
      obtain ⟨⟨⟩, M23, hc25, hf⟩ := cl_inv hf
      refine fin_V (run_V C hw mf_X2_take mv_X2_take ml_X9_304 cf2 hT26 (c_X2_take l G A ad hc25) (As := [.ref (ad a21)]) (rest := []) hl.1 rfl rfl (Nat.le_of_ble_eq_true rfl) ⟨rfl, rfl, Nat.le_of_ble_eq_true rfl, Nat.le_of_ble_eq_true rfl⟩ ⟨Nat.zero_le _, Nat.zero_le _⟩ dX9_lay_133) hw (fun H locs hw => ?_)
      refine lv_goto (tgt := 145) hx hb dX9_lay_136 (by decide) ?_
      refine lv_iload hx hb dX9_lay_145 (lv_at hl 0 rfl) ?_
      exact e_iret C hw hf dX9_lay_147
  · have hf := if_p hc hf
    refine lv_aload hx hb dX9_lay_97 (lv_at hl 1 rfl) ?_
    obtain ⟨a27, hP28, hf⟩ := lp_inv hf
    refine r_getP C hw cf3 1 (by decide) rfl (T_of g11 hT8) hP28 fl_X9_293 dX9_lay_99 ?_
    refine lv_aload_n hx hb dX9_lay_102 rfl (lv_at hl 2 rfl) ?_
    obtain ⟨a29, hP30, hf⟩ := lp_inv hf
    refine r_getP C hw cf9 0 (by decide) rfl (T_of g11 hT1) hP30 fl_X9_10 dX9_lay_103 ?_
    obtain ⟨hT31, hf⟩ := gt_inv hf
    obtain ⟨a32, hP33, hf⟩ := lp_inv hf
    refine r_getP C hw cf8 0 (by decide) rfl hT31 hP33 fl_X9_74 dX9_lay_106 ?_
    refine lv_iload_n hx hb dX9_lay_109 rfl (lv_at hl 5 rfl) ?_
    obtain ⟨hT34, hf⟩ := gt_inv hf
    obtain ⟨hg35, hf⟩ := gd_inv hf
    obtain ⟨a36, hP37, hf⟩ := lp_inv hf
    refine r_aald C hw 3 rfl (by decide) (by decide) hT34 hg35 hP37 dX9_lay_110 ?_
    obtain ⟨hT41, hf⟩ := gt_inv hf
    obtain ⟨⟨⟩, M38, hc40, hf⟩ := cl_inv hf
    refine fin_V (run_V C hw mf_X0_take mv_X0_take ml_X9_297 cf0 hT41 (c_X0_take l G A ad hc40) (As := [.ref (ad a36)]) (rest := []) hl.1 rfl rfl (Nat.le_of_ble_eq_true rfl) ⟨rfl, rfl, Nat.le_of_ble_eq_true rfl, Nat.le_of_ble_eq_true rfl⟩ ⟨Nat.zero_le _, Nat.zero_le _⟩ dX9_lay_111) hw (fun H locs hw => ?_)
    refine lv_goto (tgt := 145) hx hb dX9_lay_114 (by decide) ?_
    refine lv_iload hx hb dX9_lay_145 (lv_at hl 0 rfl) ?_
    exact e_iret C hw hf dX9_lay_147
def f_X9_lay_51 (M : Mem) (x0 : Nat) (x1 : Int32) (x2 : Int32) (x3 : Int32) : Option (Int32 × Mem) := (if x2 = 2 then gt (mT M x0) 10 (lp (mP M x0 6) (fun a2 => gt (mT M a2) 26 (gd (ib x3 (mL M a2)) (lp (mP M a2 x3.toNatClampNeg) (fun a6 => gt (mT M a6) 3 (cl (f_X2_isMissing M a6) (fun r9 M8 => (if r9 = 0 then f_X9_lay_71 M8 x0 x1 x2 x3 else some ((-1000000011), M8))))))))) else f_X9_lay_71 M x0 x1 x2 x3)
set_option maxHeartbeats 4000000 in
set_option maxRecDepth 100000 in
theorem t_X9_lay_51 {l : Launch} {p : Program} {e : Env} {s : State} {m : MethodId} {args : Array Value} {below : List Frame} {meth : Method} {c : Code} {G : Gd} {A : Nat → Prop} {ad : Nat → Nat} (C : Cx G A p s m args meth c RX9 cX9_lay 6 (some .int)) {r : Int32} {M' : Mem} : ∀ (M : Mem) (x0 : Nat) (x1 : Int32) (x2 : Int32) (x3 : Int32) (H : Heap) (locs : List Loc) (ls : Array Slot), f_X9_lay_51  M x0 x1 x2 x3 = some (r, M') → Wd G A ad s.heap M H locs → lv_has ls 6 [(0, .ref (ad x0)), (1, .int x1), (2, .int x2), (3, .int x3)] → W p l e rm_X9_lay s m args below meth c H locs 0 0 (MQ below (QI G A ad r M') args s 0 0 A) (F0 m 51 ls []) := by
  obtain ⟨hx, hb, -⟩ := id C
  intro M x0 x1 x2 x3 H locs ls hf hw hl
  rw [f_X9_lay_51] at hf
  refine lv_iload_n hx hb dX9_lay_51 rfl (lv_at hl 2 rfl) ?_
  refine lv_iconst (v := 2) hx hb dX9_lay_52 (by decide) ?_
  refine lv_icmp_ne (tgt := 71) hx hb dX9_lay_53 (by decide) (fun hc => ?_) (fun hc => ?_)
  · have hf := if_n hc hf
    exact t_X9_lay_71 C M x0 x1 x2 x3 _ _ _ hf hw (lv_sub hl [0, 1, 2, 3] rfl)
  · have hf := if_p hc hf
    refine lv_aload_n hx hb dX9_lay_56 rfl (lv_at hl 0 rfl) ?_
    obtain ⟨hT1, hf⟩ := gt_inv hf
    obtain ⟨a2, hP3, hf⟩ := lp_inv hf
    refine r_getP C hw cf9 6 (by decide) rfl hT1 hP3 fl_X9_45 dX9_lay_57 ?_
    refine lv_iload_n hx hb dX9_lay_60 rfl (lv_at hl 3 rfl) ?_
    obtain ⟨hT4, hf⟩ := gt_inv hf
    obtain ⟨hg5, hf⟩ := gd_inv hf
    obtain ⟨a6, hP7, hf⟩ := lp_inv hf
    refine r_aald C hw 6 rfl (by decide) (by decide) hT4 hg5 hP7 dX9_lay_61 ?_
    obtain ⟨hT11, hf⟩ := gt_inv hf
    obtain ⟨r9, M8, hc10, hf⟩ := cl_inv hf
    refine fin_I (run_V C hw mf_X2_isMissing mv_X2_isMissing ml_X9_199 cf2 hT11 (c_X2_isMissing l G A ad hc10) (As := []) (rest := []) hl.1 rfl rfl (Nat.le_of_ble_eq_true rfl) ⟨rfl, rfl, Nat.le_of_ble_eq_true rfl, Nat.le_of_ble_eq_true rfl⟩ ⟨Nat.zero_le _, Nat.zero_le _⟩ dX9_lay_62) hw (fun H locs hw => ?_)
    refine lv_if_eq (tgt := 71) hx hb dX9_lay_65 (by decide) (fun hc => ?_) (fun hc => ?_)
    · have hf := if_p hc hf
      exact t_X9_lay_71 C M8 x0 x1 x2 x3 _ _ _ hf hw (lv_sub hl [0, 1, 2, 3] rfl)
    · have hf := if_n hc hf
      refine lv_ldc hx hb C.2.2.2.1 (C.2.2.2.2.1 _ kc_X9_203) dX9_lay_68 ?_
      exact e_iret C hw hf dX9_lay_70
def f_X9_lay_35 (M : Mem) (x0 : Nat) (x1 : Int32) (x2 : Int32) (x3 : Int32) : Option (Int32 × Mem) := (if x2 = 2 then cl (f_X9_within M x3 3) (fun r2 M1 => (if r2 = 0 then some ((-1000000001), M1) else f_X9_lay_51 M1 x0 x1 x2 x3)) else f_X9_lay_51 M x0 x1 x2 x3)
set_option maxHeartbeats 4000000 in
set_option maxRecDepth 100000 in
theorem t_X9_lay_35 {l : Launch} {p : Program} {e : Env} {s : State} {m : MethodId} {args : Array Value} {below : List Frame} {meth : Method} {c : Code} {G : Gd} {A : Nat → Prop} {ad : Nat → Nat} (C : Cx G A p s m args meth c RX9 cX9_lay 6 (some .int)) {r : Int32} {M' : Mem} : ∀ (M : Mem) (x0 : Nat) (x1 : Int32) (x2 : Int32) (x3 : Int32) (H : Heap) (locs : List Loc) (ls : Array Slot), f_X9_lay_35  M x0 x1 x2 x3 = some (r, M') → Wd G A ad s.heap M H locs → lv_has ls 6 [(0, .ref (ad x0)), (1, .int x1), (2, .int x2), (3, .int x3)] → W p l e rm_X9_lay s m args below meth c H locs 0 0 (MQ below (QI G A ad r M') args s 0 0 A) (F0 m 35 ls []) := by
  obtain ⟨hx, hb, -⟩ := id C
  intro M x0 x1 x2 x3 H locs ls hf hw hl
  rw [f_X9_lay_35] at hf
  refine lv_iload_n hx hb dX9_lay_35 rfl (lv_at hl 2 rfl) ?_
  refine lv_iconst (v := 2) hx hb dX9_lay_36 (by decide) ?_
  refine lv_icmp_ne (tgt := 51) hx hb dX9_lay_37 (by decide) (fun hc => ?_) (fun hc => ?_)
  · have hf := if_n hc hf
    exact t_X9_lay_51 C M x0 x1 x2 x3 _ _ _ hf hw (lv_sub hl [0, 1, 2, 3] rfl)
  · have hf := if_p hc hf
    refine lv_iload_n hx hb dX9_lay_40 rfl (lv_at hl 3 rfl) ?_
    refine lv_iconst (v := 3) hx hb dX9_lay_41 (by decide) ?_
    obtain ⟨r2, M1, hc3, hf⟩ := cl_inv hf
    refine fin_I (run_S C hw mf_X9_within ms_X9_within ml_X9_61 (c_X9_within l G A ad hc3) (As := [.int x3, .int 3]) (rest := []) hl.1 rfl rfl (Nat.le_of_ble_eq_true rfl) ⟨rfl, rfl, Nat.le_of_ble_eq_true rfl, Nat.le_of_ble_eq_true rfl⟩ ⟨Nat.zero_le _, Nat.zero_le _⟩ dX9_lay_42) hw (fun H locs hw => ?_)
    refine lv_if_ne (tgt := 51) hx hb dX9_lay_45 (by decide) (fun hc => ?_) (fun hc => ?_)
    · have hf := if_n hc hf
      exact t_X9_lay_51 C M1 x0 x1 x2 x3 _ _ _ hf hw (lv_sub hl [0, 1, 2, 3] rfl)
    · have hf := if_p hc hf
      refine lv_ldc hx hb C.2.2.2.1 (C.2.2.2.2.1 _ kc_X9_65) dX9_lay_48 ?_
      exact e_iret C hw hf dX9_lay_50
def f_X9_lay (M : Mem) (x0 : Nat) (x1 : Int32) (x2 : Int32) (x3 : Int32) : Option (Int32 × Mem) := cl (f_X9_within M x1 4) (fun r2 M1 => (if r2 = 0 then some ((-1000000001), M1) else cl (f_X9_within M1 x2 3) (fun r5 M4 => (if r5 = 0 then some ((-1000000001), M4) else (if x2 = 1 then gt (mT M4 x0) 10 (lp (mP M4 x0 0) (fun a8 => gt (mT M4 a8) 9 (cl (f_X8_hasChimney M4 a8 x3) (fun r11 M10 => (if r11 = 0 then some ((-1000000001), M10) else f_X9_lay_35 M10 x0 x1 x2 x3))))) else f_X9_lay_35 M4 x0 x1 x2 x3)))))
set_option maxHeartbeats 4000000 in
set_option maxRecDepth 100000 in
theorem c_X9_lay (l : Launch) (G : Gd) (A : Nat → Prop) (ad : Nat → Nat) {M : Mem} {x0 : Nat} {x1 : Int32} {x2 : Int32} {x3 : Int32}  {r : Int32} {M' : Mem} (hf : f_X9_lay M x0 x1 x2 x3 = some (r, M')) : Ct l yX9_lay cX9_lay 6 (some .int) rm_X9_lay [.ref (ad x0), .int x1, .int x2, .int x3] G A ad M (QI G A ad r M') 0 0 := by
  refine ct_start (by decide) (Nat.le_of_ble_eq_true rfl) ?_
  intro p e s m args below meth c ls C hin hw hl
  have C : Cx G A p s m args meth c RX9 cX9_lay 6 (some .int) := C
  have hl : lv_has ls 6 [(0, .ref (ad x0)), (1, .int x1), (2, .int x2), (3, .int x3)] := hl
  obtain ⟨hx, hb, -⟩ := id C
  rw [f_X9_lay] at hf
  refine lv_iload_n hx hb dX9_lay_0 rfl (lv_at hl 1 rfl) ?_
  refine lv_iconst (v := 4) hx hb dX9_lay_1 (by decide) ?_
  obtain ⟨r2, M1, hc3, hf⟩ := cl_inv hf
  refine fin_I (run_S C hw mf_X9_within ms_X9_within ml_X9_61 (c_X9_within l G A ad hc3) (As := [.int x1, .int 4]) (rest := []) hl.1 rfl rfl (Nat.le_of_ble_eq_true rfl) ⟨rfl, rfl, Nat.le_of_ble_eq_true rfl, Nat.le_of_ble_eq_true rfl⟩ ⟨Nat.zero_le _, Nat.zero_le _⟩ dX9_lay_2) hw (fun H locs hw => ?_)
  refine lv_if_eq (tgt := 16) hx hb dX9_lay_5 (by decide) (fun hc => ?_) (fun hc => ?_)
  · have hf := if_p hc hf
    refine lv_ldc hx hb C.2.2.2.1 (C.2.2.2.2.1 _ kc_X9_65) dX9_lay_16 ?_
    exact e_iret C hw hf dX9_lay_18
  · have hf := if_n hc hf
    refine lv_iload_n hx hb dX9_lay_8 rfl (lv_at hl 2 rfl) ?_
    refine lv_iconst (v := 3) hx hb dX9_lay_9 (by decide) ?_
    obtain ⟨r5, M4, hc6, hf⟩ := cl_inv hf
    refine fin_I (run_S C hw mf_X9_within ms_X9_within ml_X9_61 (c_X9_within l G A ad hc6) (As := [.int x2, .int 3]) (rest := []) hl.1 rfl rfl (Nat.le_of_ble_eq_true rfl) ⟨rfl, rfl, Nat.le_of_ble_eq_true rfl, Nat.le_of_ble_eq_true rfl⟩ ⟨Nat.zero_le _, Nat.zero_le _⟩ dX9_lay_10) hw (fun H locs hw => ?_)
    refine lv_if_ne (tgt := 19) hx hb dX9_lay_13 (by decide) (fun hc => ?_) (fun hc => ?_)
    · have hf := if_n hc hf
      refine lv_iload_n hx hb dX9_lay_19 rfl (lv_at hl 2 rfl) ?_
      refine lv_iconst (v := 1) hx hb dX9_lay_20 (by decide) ?_
      refine lv_icmp_ne (tgt := 35) hx hb dX9_lay_21 (by decide) (fun hc => ?_) (fun hc => ?_)
      · have hf := if_n hc hf
        exact t_X9_lay_35 C M4 x0 x1 x2 x3 _ _ _ hf hw (lv_sub hl [0, 1, 2, 3] rfl)
      · have hf := if_p hc hf
        refine lv_aload_n hx hb dX9_lay_24 rfl (lv_at hl 0 rfl) ?_
        obtain ⟨hT7, hf⟩ := gt_inv hf
        obtain ⟨a8, hP9, hf⟩ := lp_inv hf
        refine r_getP C hw cf9 0 (by decide) rfl hT7 hP9 fl_X9_10 dX9_lay_25 ?_
        refine lv_iload_n hx hb dX9_lay_28 rfl (lv_at hl 3 rfl) ?_
        obtain ⟨hT13, hf⟩ := gt_inv hf
        obtain ⟨r11, M10, hc12, hf⟩ := cl_inv hf
        refine fin_I (run_V C hw mf_X8_hasChimney mv_X8_hasChimney ml_X9_70 cf8 hT13 (c_X8_hasChimney l G A ad hc12) (As := [.int x3]) (rest := []) hl.1 rfl rfl (Nat.le_of_ble_eq_true rfl) ⟨rfl, rfl, Nat.le_of_ble_eq_true rfl, Nat.le_of_ble_eq_true rfl⟩ ⟨Nat.zero_le _, Nat.zero_le _⟩ dX9_lay_29) hw (fun H locs hw => ?_)
        refine lv_if_eq (tgt := 48) hx hb dX9_lay_32 (by decide) (fun hc => ?_) (fun hc => ?_)
        · have hf := if_p hc hf
          refine lv_ldc hx hb C.2.2.2.1 (C.2.2.2.2.1 _ kc_X9_65) dX9_lay_48 ?_
          exact e_iret C hw hf dX9_lay_50
        · have hf := if_n hc hf
          exact t_X9_lay_35 C M10 x0 x1 x2 x3 _ _ _ hf hw (lv_sub hl [0, 1, 2, 3] rfl)
    · have hf := if_p hc hf
      refine lv_ldc hx hb C.2.2.2.1 (C.2.2.2.2.1 _ kc_X9_65) dX9_lay_16 ?_
      exact e_iret C hw hf dX9_lay_18
/-! StorkVote.ask(II)I -/
abbrev rm_X9_ask : Room := { frames := 1, cells := 0, slots := 0, locals := 23 }
def f_X9_ask (M : Mem) (x0 : Nat) (x1 : Int32) (x2 : Int32) : Option (Int32 × Mem) := cl (f_X9_within M x1 4) (fun r2 M1 => (if r2 = 0 then some ((-1000000001), M1) else cl (f_X9_within M1 x2 5) (fun r5 M4 => (if r5 = 0 then some ((-1000000001), M4) else gt (mT M4 x0) 10 (lp (mP M4 x0 7) (fun a8 => gt (mT M4 a8) 27 (gd (ib x1 (mL M4 a8)) (lp (mP M4 a8 x1.toNatClampNeg) (fun a12 => gt (mT M4 a12) 4 ((if (mI M4 a12 0) = 0 then some ((-1000000011), M4) else (if (mI M4 a12 0) = 1 then lp (mP M4 a12 1) (fun a15 => gt (mT M4 a15) 1 (cl (f_X0_isOf M4 a15 x2) (fun r18 M17 => (if r18 = 0 then some ((-1000000012), M17) else gt (mT M17 a12) 4 (lp (mP M17 a12 1) (fun a22 => gt (mT M17 a22) 1 (cl (f_X0_worth M17 a22) (fun r25 M24 => some (r25, M24))))))))) else some ((-1000000012), M4)))))))))))))
set_option maxHeartbeats 4000000 in
set_option maxRecDepth 100000 in
theorem c_X9_ask (l : Launch) (G : Gd) (A : Nat → Prop) (ad : Nat → Nat) {M : Mem} {x0 : Nat} {x1 : Int32} {x2 : Int32}  {r : Int32} {M' : Mem} (hf : f_X9_ask M x0 x1 x2 = some (r, M')) : Ct l yX9_ask cX9_ask 4 (some .int) rm_X9_ask [.ref (ad x0), .int x1, .int x2] G A ad M (QI G A ad r M') 0 0 := by
  refine ct_start (by decide) (Nat.le_of_ble_eq_true rfl) ?_
  intro p e s m args below meth c ls C hin hw hl
  have C : Cx G A p s m args meth c RX9 cX9_ask 4 (some .int) := C
  have hl : lv_has ls 4 [(0, .ref (ad x0)), (1, .int x1), (2, .int x2)] := hl
  obtain ⟨hx, hb, -⟩ := id C
  rw [f_X9_ask] at hf
  refine lv_iload_n hx hb dX9_ask_0 rfl (lv_at hl 1 rfl) ?_
  refine lv_iconst (v := 4) hx hb dX9_ask_1 (by decide) ?_
  obtain ⟨r2, M1, hc3, hf⟩ := cl_inv hf
  refine fin_I (run_S C hw mf_X9_within ms_X9_within ml_X9_61 (c_X9_within l G A ad hc3) (As := [.int x1, .int 4]) (rest := []) hl.1 rfl rfl (Nat.le_of_ble_eq_true rfl) ⟨rfl, rfl, Nat.le_of_ble_eq_true rfl, Nat.le_of_ble_eq_true rfl⟩ ⟨Nat.zero_le _, Nat.zero_le _⟩ dX9_ask_2) hw (fun H locs hw => ?_)
  refine lv_if_eq (tgt := 16) hx hb dX9_ask_5 (by decide) (fun hc => ?_) (fun hc => ?_)
  · have hf := if_p hc hf
    refine lv_ldc hx hb C.2.2.2.1 (C.2.2.2.2.1 _ kc_X9_65) dX9_ask_16 ?_
    exact e_iret C hw hf dX9_ask_18
  · have hf := if_n hc hf
    refine lv_iload_n hx hb dX9_ask_8 rfl (lv_at hl 2 rfl) ?_
    refine lv_iconst (v := 5) hx hb dX9_ask_9 (by decide) ?_
    obtain ⟨r5, M4, hc6, hf⟩ := cl_inv hf
    refine fin_I (run_S C hw mf_X9_within ms_X9_within ml_X9_61 (c_X9_within l G A ad hc6) (As := [.int x2, .int 5]) (rest := []) hl.1 rfl rfl (Nat.le_of_ble_eq_true rfl) ⟨rfl, rfl, Nat.le_of_ble_eq_true rfl, Nat.le_of_ble_eq_true rfl⟩ ⟨Nat.zero_le _, Nat.zero_le _⟩ dX9_ask_10) hw (fun H locs hw => ?_)
    refine lv_if_ne (tgt := 19) hx hb dX9_ask_13 (by decide) (fun hc => ?_) (fun hc => ?_)
    · have hf := if_n hc hf
      refine lv_aload_n hx hb dX9_ask_19 rfl (lv_at hl 0 rfl) ?_
      obtain ⟨hT7, hf⟩ := gt_inv hf
      obtain ⟨a8, hP9, hf⟩ := lp_inv hf
      refine r_getP C hw cf9 7 (by decide) rfl hT7 hP9 fl_X9_51 dX9_ask_20 ?_
      refine lv_iload_n hx hb dX9_ask_23 rfl (lv_at hl 1 rfl) ?_
      obtain ⟨hT10, hf⟩ := gt_inv hf
      obtain ⟨hg11, hf⟩ := gd_inv hf
      obtain ⟨a12, hP13, hf⟩ := lp_inv hf
      refine r_aald C hw 7 rfl (by decide) (by decide) hT10 hg11 hP13 dX9_ask_24 ?_
      refine lv_astore_n (lv' := [(3, .ref (ad a12)), (0, .ref (ad x0)), (1, .int x1), (2, .int x2)]) hx hb dX9_ask_25 rfl hl (by decide) rfl (fun ls hl => ?_)
      refine lv_aload_n hx hb dX9_ask_26 rfl (lv_at hl 0 rfl) ?_
      obtain ⟨hT14, hf⟩ := gt_inv hf
      refine r_getI C hw cf3 0 (by decide) rfl hT14 fl_X9_290 dX9_ask_27 ?_
      refine lv_if_ne (tgt := 36) hx hb dX9_ask_30 (by decide) (fun hc => ?_) (fun hc => ?_)
      · have hf := if_n hc hf
        refine lv_aload_n hx hb dX9_ask_36 rfl (lv_at hl 0 rfl) ?_
        refine r_getI C hw cf3 0 (by decide) rfl hT14 fl_X9_290 dX9_ask_37 ?_
        refine lv_iconst (v := 1) hx hb dX9_ask_40 (by decide) ?_
        refine lv_icmp_ne (tgt := 65) hx hb dX9_ask_41 (by decide) (fun hc => ?_) (fun hc => ?_)
        · have hf := if_n hc hf
          refine lv_ldc hx hb C.2.2.2.1 (C.2.2.2.2.1 _ kc_X9_106) dX9_ask_65 ?_
          exact e_iret C hw hf dX9_ask_67
        · have hf := if_p hc hf
          refine lv_aload_n hx hb dX9_ask_44 rfl (lv_at hl 0 rfl) ?_
          obtain ⟨a15, hP16, hf⟩ := lp_inv hf
          refine r_getP C hw cf3 1 (by decide) rfl hT14 hP16 fl_X9_293 dX9_ask_45 ?_
          refine lv_iload_n hx hb dX9_ask_48 rfl (lv_at hl 3 rfl) ?_
          obtain ⟨hT20, hf⟩ := gt_inv hf
          obtain ⟨r18, M17, hc19, hf⟩ := cl_inv hf
          refine fin_I (run_V C hw mf_X0_isOf mv_X0_isOf ml_X9_103 cf0 hT20 (c_X0_isOf l G A ad hc19) (As := [.int x2]) (rest := []) hl.1 rfl rfl (Nat.le_of_ble_eq_true rfl) ⟨rfl, rfl, Nat.le_of_ble_eq_true rfl, Nat.le_of_ble_eq_true rfl⟩ ⟨Nat.zero_le _, Nat.zero_le _⟩ dX9_ask_49) hw (fun H locs hw => ?_)
          refine lv_if_eq (tgt := 65) hx hb dX9_ask_52 (by decide) (fun hc => ?_) (fun hc => ?_)
          · have hf := if_p hc hf
            refine lv_ldc hx hb C.2.2.2.1 (C.2.2.2.2.1 _ kc_X9_106) dX9_ask_65 ?_
            exact e_iret C hw hf dX9_ask_67
          · have hf := if_n hc hf
            refine lv_aload_n hx hb dX9_ask_55 rfl (lv_at hl 0 rfl) ?_
            obtain ⟨hT21, hf⟩ := gt_inv hf
            obtain ⟨a22, hP23, hf⟩ := lp_inv hf
            refine r_getP C hw cf3 1 (by decide) rfl hT21 hP23 fl_X9_293 dX9_ask_56 ?_
            obtain ⟨hT27, hf⟩ := gt_inv hf
            obtain ⟨r25, M24, hc26, hf⟩ := cl_inv hf
            refine fin_I (run_V C hw mf_X0_worth mv_X0_worth ml_X9_93 cf0 hT27 (c_X0_worth l G A ad hc26) (As := []) (rest := []) hl.1 rfl rfl (Nat.le_of_ble_eq_true rfl) ⟨rfl, rfl, Nat.le_of_ble_eq_true rfl, Nat.le_of_ble_eq_true rfl⟩ ⟨Nat.zero_le _, Nat.zero_le _⟩ dX9_ask_59) hw (fun H locs hw => ?_)
            refine lv_goto (tgt := 67) hx hb dX9_ask_62 (by decide) ?_
            exact e_iret C hw hf dX9_ask_67
      · have hf := if_p hc hf
        refine lv_ldc hx hb C.2.2.2.1 (C.2.2.2.2.1 _ kc_X9_203) dX9_ask_33 ?_
        exact e_iret C hw hf dX9_ask_35
    · have hf := if_p hc hf
      refine lv_ldc hx hb C.2.2.2.1 (C.2.2.2.2.1 _ kc_X9_65) dX9_ask_16 ?_
      exact e_iret C hw hf dX9_ask_18
/-! StorkVote.item(II)I -/
abbrev rm_X9_item : Room := { frames := 1, cells := 0, slots := 0, locals := 21 }
def f_X9_item (M : Mem) (x0 : Nat) (x1 : Int32) (x2 : Int32) : Option (Int32 × Mem) := cl (f_X9_within M x1 4) (fun r2 M1 => (if r2 = 0 then some ((-1000000001), M1) else gt (mT M1 x0) 10 (lp (mP M1 x0 7) (fun a5 => gt (mT M1 a5) 27 (gd (ib x1 (mL M1 a5)) (lp (mP M1 a5 x1.toNatClampNeg) (fun a9 => gt (mT M1 a9) 4 ((if (mI M1 a9 0) = 0 then some ((-1000000011), M1) else (if (mI M1 a9 0) = 2 then lp (mP M1 a9 2) (fun a12 => gt (mT M1 a12) 3 (cl (f_X2_has M1 a12 x2) (fun r15 M14 => (if r15 = 0 then some ((-1000000013), M14) else gt (mT M14 a9) 4 (lp (mP M14 a9 2) (fun a19 => gt (mT M14 a19) 3 (lp (mP M14 a19 2) (fun a22 => gt (mT M14 a22) 20 (gd (ib x2 (mL M14 a22)) ((if (mI M14 a22 x2.toNatClampNeg) = (-1000000005) then some ((-1000000012), M14) else some ((mI M14 a22 x2.toNatClampNeg), M14)))))))))))) else some ((-1000000012), M1)))))))))))
set_option maxHeartbeats 4000000 in
set_option maxRecDepth 100000 in
theorem c_X9_item (l : Launch) (G : Gd) (A : Nat → Prop) (ad : Nat → Nat) {M : Mem} {x0 : Nat} {x1 : Int32} {x2 : Int32}  {r : Int32} {M' : Mem} (hf : f_X9_item M x0 x1 x2 = some (r, M')) : Ct l yX9_item cX9_item 5 (some .int) rm_X9_item [.ref (ad x0), .int x1, .int x2] G A ad M (QI G A ad r M') 0 0 := by
  refine ct_start (by decide) (Nat.le_of_ble_eq_true rfl) ?_
  intro p e s m args below meth c ls C hin hw hl
  have C : Cx G A p s m args meth c RX9 cX9_item 5 (some .int) := C
  have hl : lv_has ls 5 [(0, .ref (ad x0)), (1, .int x1), (2, .int x2)] := hl
  obtain ⟨hx, hb, -⟩ := id C
  rw [f_X9_item] at hf
  refine lv_iload_n hx hb dX9_item_0 rfl (lv_at hl 1 rfl) ?_
  refine lv_iconst (v := 4) hx hb dX9_item_1 (by decide) ?_
  obtain ⟨r2, M1, hc3, hf⟩ := cl_inv hf
  refine fin_I (run_S C hw mf_X9_within ms_X9_within ml_X9_61 (c_X9_within l G A ad hc3) (As := [.int x1, .int 4]) (rest := []) hl.1 rfl rfl (Nat.le_of_ble_eq_true rfl) ⟨rfl, rfl, Nat.le_of_ble_eq_true rfl, Nat.le_of_ble_eq_true rfl⟩ ⟨Nat.zero_le _, Nat.zero_le _⟩ dX9_item_2) hw (fun H locs hw => ?_)
  refine lv_if_ne (tgt := 11) hx hb dX9_item_5 (by decide) (fun hc => ?_) (fun hc => ?_)
  · have hf := if_n hc hf
    refine lv_aload_n hx hb dX9_item_11 rfl (lv_at hl 0 rfl) ?_
    obtain ⟨hT4, hf⟩ := gt_inv hf
    obtain ⟨a5, hP6, hf⟩ := lp_inv hf
    refine r_getP C hw cf9 7 (by decide) rfl hT4 hP6 fl_X9_51 dX9_item_12 ?_
    refine lv_iload_n hx hb dX9_item_15 rfl (lv_at hl 1 rfl) ?_
    obtain ⟨hT7, hf⟩ := gt_inv hf
    obtain ⟨hg8, hf⟩ := gd_inv hf
    obtain ⟨a9, hP10, hf⟩ := lp_inv hf
    refine r_aald C hw 7 rfl (by decide) (by decide) hT7 hg8 hP10 dX9_item_16 ?_
    refine lv_astore_n (lv' := [(3, .ref (ad a9)), (0, .ref (ad x0)), (1, .int x1), (2, .int x2)]) hx hb dX9_item_17 rfl hl (by decide) rfl (fun ls hl => ?_)
    refine lv_aload_n hx hb dX9_item_18 rfl (lv_at hl 0 rfl) ?_
    obtain ⟨hT11, hf⟩ := gt_inv hf
    refine r_getI C hw cf3 0 (by decide) rfl hT11 fl_X9_290 dX9_item_19 ?_
    refine lv_if_ne (tgt := 28) hx hb dX9_item_22 (by decide) (fun hc => ?_) (fun hc => ?_)
    · have hf := if_n hc hf
      refine lv_aload_n hx hb dX9_item_28 rfl (lv_at hl 0 rfl) ?_
      refine r_getI C hw cf3 0 (by decide) rfl hT11 fl_X9_290 dX9_item_29 ?_
      refine lv_iconst (v := 2) hx hb dX9_item_32 (by decide) ?_
      refine lv_icmp_eq (tgt := 39) hx hb dX9_item_33 (by decide) (fun hc => ?_) (fun hc => ?_)
      · have hf := if_p hc hf
        refine lv_aload_n hx hb dX9_item_39 rfl (lv_at hl 0 rfl) ?_
        obtain ⟨a12, hP13, hf⟩ := lp_inv hf
        refine r_getP C hw cf3 2 (by decide) rfl hT11 hP13 fl_X9_300 dX9_item_40 ?_
        refine lv_iload_n hx hb dX9_item_43 rfl (lv_at hl 3 rfl) ?_
        obtain ⟨hT17, hf⟩ := gt_inv hf
        obtain ⟨r15, M14, hc16, hf⟩ := cl_inv hf
        refine fin_I (run_V C hw mf_X2_has mv_X2_has ml_X9_262 cf2 hT17 (c_X2_has l G A ad hc16) (As := [.int x2]) (rest := []) hl.1 rfl rfl (Nat.le_of_ble_eq_true rfl) ⟨rfl, rfl, Nat.le_of_ble_eq_true rfl, Nat.le_of_ble_eq_true rfl⟩ ⟨Nat.zero_le _, Nat.zero_le _⟩ dX9_item_44) hw (fun H locs hw => ?_)
        refine lv_if_ne (tgt := 54) hx hb dX9_item_47 (by decide) (fun hc => ?_) (fun hc => ?_)
        · have hf := if_n hc hf
          refine lv_aload_n hx hb dX9_item_54 rfl (lv_at hl 0 rfl) ?_
          obtain ⟨hT18, hf⟩ := gt_inv hf
          obtain ⟨a19, hP20, hf⟩ := lp_inv hf
          refine r_getP C hw cf3 2 (by decide) rfl hT18 hP20 fl_X9_300 dX9_item_55 ?_
          obtain ⟨hT21, hf⟩ := gt_inv hf
          obtain ⟨a22, hP23, hf⟩ := lp_inv hf
          refine r_getP C hw cf2 2 (by decide) rfl hT21 hP23 fl_X9_269 dX9_item_58 ?_
          refine lv_iload_n hx hb dX9_item_61 rfl (lv_at hl 3 rfl) ?_
          obtain ⟨hT24, hf⟩ := gt_inv hf
          obtain ⟨hg25, hf⟩ := gd_inv hf
          refine r_iald C hw hT24 hg25 dX9_item_62 ?_
          refine lv_istore (lv' := [(4, .int (mI M14 a22 x2.toNatClampNeg)), (3, .ref (ad a9)), (0, .ref (ad x0)), (1, .int x1), (2, .int x2)]) hx hb dX9_item_63 hl (by decide) rfl (fun ls hl => ?_)
          refine lv_iload hx hb dX9_item_65 (lv_at hl 0 rfl) ?_
          refine lv_ldc hx hb C.2.2.2.1 (C.2.2.2.2.1 _ kc_X9_107) dX9_item_67 ?_
          refine lv_icmp_ne (tgt := 77) hx hb dX9_item_69 (by decide) (fun hc => ?_) (fun hc => ?_)
          · have hf := if_n hc hf
            refine lv_iload hx hb dX9_item_77 (lv_at hl 0 rfl) ?_
            exact e_iret C hw hf dX9_item_79
          · have hf := if_p hc hf
            refine lv_ldc hx hb C.2.2.2.1 (C.2.2.2.2.1 _ kc_X9_106) dX9_item_72 ?_
            refine lv_goto (tgt := 79) hx hb dX9_item_74 (by decide) ?_
            exact e_iret C hw hf dX9_item_79
        · have hf := if_p hc hf
          refine lv_ldcw hx hb C.2.2.2.1 (C.2.2.2.2.1 _ kc_X9_265) dX9_item_50 ?_
          exact e_iret C hw hf dX9_item_53
      · have hf := if_n hc hf
        refine lv_ldc hx hb C.2.2.2.1 (C.2.2.2.2.1 _ kc_X9_106) dX9_item_36 ?_
        exact e_iret C hw hf dX9_item_38
    · have hf := if_p hc hf
      refine lv_ldc hx hb C.2.2.2.1 (C.2.2.2.2.1 _ kc_X9_203) dX9_item_25 ?_
      exact e_iret C hw hf dX9_item_27
  · have hf := if_p hc hf
    refine lv_ldc hx hb C.2.2.2.1 (C.2.2.2.2.1 _ kc_X9_65) dX9_item_8 ?_
    exact e_iret C hw hf dX9_item_10
/-! StorkVote.rest(II)I -/
abbrev rm_X9_rest : Room := { frames := 1, cells := 0, slots := 0, locals := 21 }
def f_X9_rest (M : Mem) (x0 : Nat) (x1 : Int32) (x2 : Int32) : Option (Int32 × Mem) := cl (f_X9_within M x1 4) (fun r2 M1 => (if r2 = 0 then some ((-1000000001), M1) else gt (mT M1 x0) 10 (lp (mP M1 x0 7) (fun a5 => gt (mT M1 a5) 27 (gd (ib x1 (mL M1 a5)) (lp (mP M1 a5 x1.toNatClampNeg) (fun a9 => gt (mT M1 a9) 4 ((if (mI M1 a9 0) = 0 then some ((-1000000011), M1) else (if (mI M1 a9 0) = 3 then (if x2 = 0 then some ((-1000000002), M1) else gz x2 (some ((irm (mI M1 a9 3) x2), M1))) else some ((-1000000012), M1)))))))))))
set_option maxHeartbeats 4000000 in
set_option maxRecDepth 100000 in
theorem c_X9_rest (l : Launch) (G : Gd) (A : Nat → Prop) (ad : Nat → Nat) {M : Mem} {x0 : Nat} {x1 : Int32} {x2 : Int32}  {r : Int32} {M' : Mem} (hf : f_X9_rest M x0 x1 x2 = some (r, M')) : Ct l yX9_rest cX9_rest 4 (some .int) rm_X9_rest [.ref (ad x0), .int x1, .int x2] G A ad M (QI G A ad r M') 0 0 := by
  refine ct_start (by decide) (Nat.le_of_ble_eq_true rfl) ?_
  intro p e s m args below meth c ls C hin hw hl
  have C : Cx G A p s m args meth c RX9 cX9_rest 4 (some .int) := C
  have hl : lv_has ls 4 [(0, .ref (ad x0)), (1, .int x1), (2, .int x2)] := hl
  obtain ⟨hx, hb, -⟩ := id C
  rw [f_X9_rest] at hf
  refine lv_iload_n hx hb dX9_rest_0 rfl (lv_at hl 1 rfl) ?_
  refine lv_iconst (v := 4) hx hb dX9_rest_1 (by decide) ?_
  obtain ⟨r2, M1, hc3, hf⟩ := cl_inv hf
  refine fin_I (run_S C hw mf_X9_within ms_X9_within ml_X9_61 (c_X9_within l G A ad hc3) (As := [.int x1, .int 4]) (rest := []) hl.1 rfl rfl (Nat.le_of_ble_eq_true rfl) ⟨rfl, rfl, Nat.le_of_ble_eq_true rfl, Nat.le_of_ble_eq_true rfl⟩ ⟨Nat.zero_le _, Nat.zero_le _⟩ dX9_rest_2) hw (fun H locs hw => ?_)
  refine lv_if_ne (tgt := 11) hx hb dX9_rest_5 (by decide) (fun hc => ?_) (fun hc => ?_)
  · have hf := if_n hc hf
    refine lv_aload_n hx hb dX9_rest_11 rfl (lv_at hl 0 rfl) ?_
    obtain ⟨hT4, hf⟩ := gt_inv hf
    obtain ⟨a5, hP6, hf⟩ := lp_inv hf
    refine r_getP C hw cf9 7 (by decide) rfl hT4 hP6 fl_X9_51 dX9_rest_12 ?_
    refine lv_iload_n hx hb dX9_rest_15 rfl (lv_at hl 1 rfl) ?_
    obtain ⟨hT7, hf⟩ := gt_inv hf
    obtain ⟨hg8, hf⟩ := gd_inv hf
    obtain ⟨a9, hP10, hf⟩ := lp_inv hf
    refine r_aald C hw 7 rfl (by decide) (by decide) hT7 hg8 hP10 dX9_rest_16 ?_
    refine lv_astore_n (lv' := [(3, .ref (ad a9)), (0, .ref (ad x0)), (1, .int x1), (2, .int x2)]) hx hb dX9_rest_17 rfl hl (by decide) rfl (fun ls hl => ?_)
    refine lv_aload_n hx hb dX9_rest_18 rfl (lv_at hl 0 rfl) ?_
    obtain ⟨hT11, hf⟩ := gt_inv hf
    refine r_getI C hw cf3 0 (by decide) rfl hT11 fl_X9_290 dX9_rest_19 ?_
    refine lv_if_ne (tgt := 28) hx hb dX9_rest_22 (by decide) (fun hc => ?_) (fun hc => ?_)
    · have hf := if_n hc hf
      refine lv_aload_n hx hb dX9_rest_28 rfl (lv_at hl 0 rfl) ?_
      refine r_getI C hw cf3 0 (by decide) rfl hT11 fl_X9_290 dX9_rest_29 ?_
      refine lv_iconst (v := 3) hx hb dX9_rest_32 (by decide) ?_
      refine lv_icmp_eq (tgt := 39) hx hb dX9_rest_33 (by decide) (fun hc => ?_) (fun hc => ?_)
      · have hf := if_p hc hf
        refine lv_iload_n hx hb dX9_rest_39 rfl (lv_at hl 3 rfl) ?_
        refine lv_if_ne (tgt := 49) hx hb dX9_rest_40 (by decide) (fun hc => ?_) (fun hc => ?_)
        · have hf := if_n hc hf
          refine lv_aload_n hx hb dX9_rest_49 rfl (lv_at hl 0 rfl) ?_
          refine r_getI C hw cf3 3 (by decide) rfl hT11 fl_X9_307 dX9_rest_50 ?_
          refine lv_iload_n hx hb dX9_rest_53 rfl (lv_at hl 3 rfl) ?_
          obtain ⟨hz12, hf⟩ := gz_inv hf
          refine lv_irem hx hb dX9_rest_54 hz12 ?_
          exact e_iret C hw hf dX9_rest_55
        · have hf := if_p hc hf
          refine lv_ldcw hx hb C.2.2.2.1 (C.2.2.2.2.1 _ kc_X9_310) dX9_rest_43 ?_
          refine lv_goto (tgt := 55) hx hb dX9_rest_46 (by decide) ?_
          exact e_iret C hw hf dX9_rest_55
      · have hf := if_n hc hf
        refine lv_ldc hx hb C.2.2.2.1 (C.2.2.2.2.1 _ kc_X9_106) dX9_rest_36 ?_
        exact e_iret C hw hf dX9_rest_38
    · have hf := if_p hc hf
      refine lv_ldc hx hb C.2.2.2.1 (C.2.2.2.2.1 _ kc_X9_203) dX9_rest_25 ?_
      exact e_iret C hw hf dX9_rest_27
  · have hf := if_p hc hf
    refine lv_ldc hx hb C.2.2.2.1 (C.2.2.2.2.1 _ kc_X9_65) dX9_rest_8 ?_
    exact e_iret C hw hf dX9_rest_10
/-! StorkVote.tell(I)I -/
abbrev rm_X9_tell : Room := { frames := 0, cells := 0, slots := 0, locals := 0 }
def f_X9_tell (M : Mem) (x0 : Nat) (x1 : Int32) : Option (Int32 × Mem) := gt (mT M x0) 10 ((if (mI M x0 9) < 60 then lp (mP M x0 8) (fun a2 => gt (mT M a2) 20 (gd (ib (mI M x0 9) (mL M a2)) (st (setI M a2 (mI M x0 9).toNatClampNeg x1) (fun M6 => st (setI M6 x0 9 ((mI M6 x0 9) + 1)) (fun M9 => some ((mI M9 x0 9), M9)))))) else some ((-1000000003), M)))
set_option maxHeartbeats 4000000 in
set_option maxRecDepth 100000 in
theorem c_X9_tell (l : Launch) (G : Gd) (A : Nat → Prop) (ad : Nat → Nat) {M : Mem} {x0 : Nat} {x1 : Int32}  {r : Int32} {M' : Mem} (hf : f_X9_tell M x0 x1 = some (r, M')) : Ct l yX9_tell cX9_tell 2 (some .int) rm_X9_tell [.ref (ad x0), .int x1] G A ad M (QI G A ad r M') 0 0 := by
  refine ct_start (by decide) (Nat.le_of_ble_eq_true rfl) ?_
  intro p e s m args below meth c ls C hin hw hl
  have C : Cx G A p s m args meth c RX9 cX9_tell 2 (some .int) := C
  have hl : lv_has ls 2 [(0, .ref (ad x0)), (1, .int x1)] := hl
  obtain ⟨hx, hb, -⟩ := id C
  rw [f_X9_tell] at hf
  refine lv_aload_n hx hb dX9_tell_0 rfl (lv_at hl 0 rfl) ?_
  obtain ⟨hT1, hf⟩ := gt_inv hf
  refine r_getI C hw cf9 9 (by decide) rfl hT1 fl_X9_311 dX9_tell_1 ?_
  refine lv_bipush (v := 60) hx hb dX9_tell_4 (by decide) ?_
  refine lv_icmp_lt (tgt := 12) hx hb dX9_tell_6 (by decide) (fun hc => ?_) (fun hc => ?_)
  · have hf := if_p hc hf
    refine lv_aload_n hx hb dX9_tell_12 rfl (lv_at hl 0 rfl) ?_
    obtain ⟨a2, hP3, hf⟩ := lp_inv hf
    refine r_getP C hw cf9 8 (by decide) rfl hT1 hP3 fl_X9_55 dX9_tell_13 ?_
    refine lv_aload_n hx hb dX9_tell_16 rfl (lv_at hl 0 rfl) ?_
    refine r_getI C hw cf9 9 (by decide) rfl hT1 fl_X9_311 dX9_tell_17 ?_
    refine lv_iload_n hx hb dX9_tell_20 rfl (lv_at hl 1 rfl) ?_
    obtain ⟨hT4, hf⟩ := gt_inv hf
    obtain ⟨hg5, hf⟩ := gd_inv hf
    obtain ⟨M6, e7, hf⟩ := st_inv hf
    have g8 := sg_I e7
    refine r_iast C hw hT4 hg5 e7 dX9_tell_21 (fun H locs hw => ?_)
    refine lv_aload_n hx hb dX9_tell_22 rfl (lv_at hl 0 rfl) ?_
    refine lv_dup hx hb dX9_tell_23 rfl ?_
    refine r_getI C hw cf9 9 (by decide) rfl (T_of g8 hT1) fl_X9_311 dX9_tell_24 ?_
    refine lv_iconst (v := 1) hx hb dX9_tell_27 (by decide) ?_
    refine lv_iadd hx hb dX9_tell_28 ?_
    obtain ⟨M9, e10, hf⟩ := st_inv hf
    have g11 := sg_I e10
    refine r_putI C hw cf9 9 (by decide) rfl (T_of g8 hT1) e10 fl_X9_311 rfl rfl rfl dX9_tell_29 (fun H locs hw => ?_)
    refine lv_aload_n hx hb dX9_tell_32 rfl (lv_at hl 0 rfl) ?_
    refine r_getI C hw cf9 9 (by decide) rfl (T_of g11 (T_of g8 hT1)) fl_X9_311 dX9_tell_33 ?_
    exact e_iret C hw hf dX9_tell_36
  · have hf := if_n hc hf
    refine lv_ldc hx hb C.2.2.2.1 (C.2.2.2.2.1 _ kc_X9_227) dX9_tell_9 ?_
    exact e_iret C hw hf dX9_tell_11
/-! StorkVote.waitsAt(III)Z -/
abbrev rm_X9_waitsAt : Room := { frames := 0, cells := 0, slots := 0, locals := 0 }
def f_X9_waitsAt (M : Mem) (x0 : Nat) (x1 : Int32) (x2 : Int32) (x3 : Int32) : Option (Int32 × Mem) := (if x2 ≤ x1 then some (0, M) else (if 60 ≤ x1 then some (0, M) else gt (mT M x0) 10 (lp (mP M x0 8) (fun a2 => gt (mT M a2) 20 (gd (ib x1 (mL M a2)) ((if (mI M a2 x1.toNatClampNeg) = x3 then some (1, M) else some (0, M))))))))
set_option maxHeartbeats 4000000 in
set_option maxRecDepth 100000 in
theorem c_X9_waitsAt (l : Launch) (G : Gd) (A : Nat → Prop) (ad : Nat → Nat) {M : Mem} {x0 : Nat} {x1 : Int32} {x2 : Int32} {x3 : Int32}  {r : Int32} {M' : Mem} (hf : f_X9_waitsAt M x0 x1 x2 x3 = some (r, M')) : Ct l yX9_waitsAt cX9_waitsAt 4 (some .boolean) rm_X9_waitsAt [.ref (ad x0), .int x1, .int x2, .int x3] G A ad M (QI G A ad r M') 0 0 := by
  refine ct_start (by decide) (Nat.le_of_ble_eq_true rfl) ?_
  intro p e s m args below meth c ls C hin hw hl
  have C : Cx G A p s m args meth c RX9 cX9_waitsAt 4 (some .boolean) := C
  have hl : lv_has ls 4 [(0, .ref (ad x0)), (1, .int x1), (2, .int x2), (3, .int x3)] := hl
  obtain ⟨hx, hb, -⟩ := id C
  rw [f_X9_waitsAt] at hf
  refine lv_iload_n hx hb dX9_waitsAt_0 rfl (lv_at hl 1 rfl) ?_
  refine lv_iload_n hx hb dX9_waitsAt_1 rfl (lv_at hl 2 rfl) ?_
  refine lv_icmp_ge (tgt := 25) hx hb dX9_waitsAt_2 (by decide) (fun hc => ?_) (fun hc => ?_)
  · have hf := if_p hc hf
    refine lv_iconst (v := 0) hx hb dX9_waitsAt_25 (by decide) ?_
    exact e_zret C hw rfl hf dX9_waitsAt_26
  · have hf := if_n hc hf
    refine lv_iload_n hx hb dX9_waitsAt_5 rfl (lv_at hl 1 rfl) ?_
    refine lv_bipush (v := 60) hx hb dX9_waitsAt_6 (by decide) ?_
    refine lv_icmp_ge (tgt := 25) hx hb dX9_waitsAt_8 (by decide) (fun hc => ?_) (fun hc => ?_)
    · have hf := if_p hc hf
      refine lv_iconst (v := 0) hx hb dX9_waitsAt_25 (by decide) ?_
      exact e_zret C hw rfl hf dX9_waitsAt_26
    · have hf := if_n hc hf
      refine lv_aload_n hx hb dX9_waitsAt_11 rfl (lv_at hl 0 rfl) ?_
      obtain ⟨hT1, hf⟩ := gt_inv hf
      obtain ⟨a2, hP3, hf⟩ := lp_inv hf
      refine r_getP C hw cf9 8 (by decide) rfl hT1 hP3 fl_X9_55 dX9_waitsAt_12 ?_
      refine lv_iload_n hx hb dX9_waitsAt_15 rfl (lv_at hl 1 rfl) ?_
      obtain ⟨hT4, hf⟩ := gt_inv hf
      obtain ⟨hg5, hf⟩ := gd_inv hf
      refine r_iald C hw hT4 hg5 dX9_waitsAt_16 ?_
      refine lv_iload_n hx hb dX9_waitsAt_17 rfl (lv_at hl 3 rfl) ?_
      refine lv_icmp_ne (tgt := 25) hx hb dX9_waitsAt_18 (by decide) (fun hc => ?_) (fun hc => ?_)
      · have hf := if_n hc hf
        refine lv_iconst (v := 0) hx hb dX9_waitsAt_25 (by decide) ?_
        exact e_zret C hw rfl hf dX9_waitsAt_26
      · have hf := if_p hc hf
        refine lv_iconst (v := 1) hx hb dX9_waitsAt_21 (by decide) ?_
        refine lv_goto (tgt := 26) hx hb dX9_waitsAt_22 (by decide) ?_
        exact e_zret C hw rfl hf dX9_waitsAt_26
/-! StorkVote.check(I)I -/
abbrev rm_X9_check : Room := { frames := 5, cells := 0, slots := 0, locals := 121 }
def f_X9_check_76 : Nat → Mem → Nat → Int32 → Int32 → Int32 → Option (Int32 × Mem)
  | 0, _, _, _, _, _ => none
  | n + 1, M, x0, x2, x3, x4 => (if x3 ≤ x4 then (if x2 ≤ (2 * x3) then some (0, M) else some ((1 + (2 * x3)), M)) else gt (mT M x0) 10 (lp (mP M x0 2) (fun a2 => lp (mP M x0 3) (fun a4 => gt (mT M a2) 9 (cl (f_X8_live M a2 a4) (fun _ M6 => gt (mT M6 x0) 10 (lp (mP M6 x0 3) (fun a11 => lp (mP M6 x0 2) (fun a13 => gt (mT M6 a11) 5 (cl (f_X4_settle M6 a11 a13 (-1000000005)) (fun _ M15 => gt (mT M15 x0) 10 (lp (mP M15 x0 3) (fun a20 => lp (mP M15 x0 2) (fun a22 => gt (mT M15 a20) 5 (cl (f_X4_winner M15 a20 a22) (fun r25 M24 => gt (mT M24 x0) 10 (cl (f_X9_waitsAt M24 x0 (2 * x4) x2 r25) (fun r29 M28 => (if r29 = 0 then some ((1 + (2 * x4)), M28) else gt (mT M28 x0) 10 (lp (mP M28 x0 2) (fun a33 => gt (mT M28 a33) 9 (cl (f_X8_here M28 a33) (fun r36 M35 => gt (mT M35 x0) 10 (cl (f_X9_waitsAt M35 x0 ((2 * x4) + 1) x2 r36) (fun r40 M39 => (if r40 = 0 then some ((2 + (2 * x4)), M39) else f_X9_check_76 n M39 x0 x2 x3 (x4 + 1)))))))))))))))))))))))))))
set_option maxHeartbeats 4000000 in
set_option maxRecDepth 100000 in
theorem t_X9_check_76 {l : Launch} {p : Program} {e : Env} {s : State} {m : MethodId} {args : Array Value} {below : List Frame} {meth : Method} {c : Code} {G : Gd} {A : Nat → Prop} {ad : Nat → Nat} (C : Cx G A p s m args meth c RX9 cX9_check 5 (some .int)) {r : Int32} {M' : Mem} : ∀ (n : Nat) (M : Mem) (x0 : Nat) (x2 : Int32) (x3 : Int32) (x4 : Int32) (H : Heap) (locs : List Loc) (ls : Array Slot), f_X9_check_76  n M x0 x2 x3 x4 = some (r, M') → Wd G A ad s.heap M H locs → lv_has ls 5 [(0, .ref (ad x0)), (2, .int x2), (3, .int x3), (4, .int x4)] → W p l e rm_X9_check s m args below meth c H locs 0 0 (MQ below (QI G A ad r M') args s 0 0 A) (F0 m 76 ls []) := by
  obtain ⟨hx, hb, -⟩ := id C
  intro n
  induction n with
  | zero =>
    intro M x0 x2 x3 x4 H locs ls hf
    rw [f_X9_check_76] at hf
    exact absurd hf (fun h => nomatch h)
  | succ n ih =>
    intro M x0 x2 x3 x4 H locs ls hf hw hl
    rw [f_X9_check_76] at hf
    refine lv_iload hx hb dX9_check_76 (lv_at hl 3 rfl) ?_
    refine lv_iload_n hx hb dX9_check_78 rfl (lv_at hl 2 rfl) ?_
    refine lv_icmp_ge (tgt := 170) hx hb dX9_check_79 (by decide) (fun hc => ?_) (fun hc => ?_)
    · have hf := if_p hc hf
      refine lv_iload_n hx hb dX9_check_170 rfl (lv_at hl 1 rfl) ?_
      refine lv_iconst (v := 2) hx hb dX9_check_171 (by decide) ?_
      refine lv_iload_n hx hb dX9_check_172 rfl (lv_at hl 2 rfl) ?_
      refine lv_imul hx hb dX9_check_173 ?_
      refine lv_icmp_le (tgt := 185) hx hb dX9_check_174 (by decide) (fun hc => ?_) (fun hc => ?_)
      · have hf := if_p hc hf
        refine lv_iconst (v := 0) hx hb dX9_check_185 (by decide) ?_
        exact e_iret C hw hf dX9_check_186
      · have hf := if_n hc hf
        refine lv_iconst (v := 1) hx hb dX9_check_177 (by decide) ?_
        refine lv_iconst (v := 2) hx hb dX9_check_178 (by decide) ?_
        refine lv_iload_n hx hb dX9_check_179 rfl (lv_at hl 2 rfl) ?_
        refine lv_imul hx hb dX9_check_180 ?_
        refine lv_iadd hx hb dX9_check_181 ?_
        refine lv_goto (tgt := 186) hx hb dX9_check_182 (by decide) ?_
        exact e_iret C hw hf dX9_check_186
    · have hf := if_n hc hf
      refine lv_aload_n hx hb dX9_check_82 rfl (lv_at hl 0 rfl) ?_
      obtain ⟨hT1, hf⟩ := gt_inv hf
      obtain ⟨a2, hP3, hf⟩ := lp_inv hf
      refine r_getP C hw cf9 2 (by decide) rfl hT1 hP3 fl_X9_19 dX9_check_83 ?_
      refine lv_aload_n hx hb dX9_check_86 rfl (lv_at hl 0 rfl) ?_
      obtain ⟨a4, hP5, hf⟩ := lp_inv hf
      refine r_getP C hw cf9 3 (by decide) rfl hT1 hP5 fl_X9_25 dX9_check_87 ?_
      obtain ⟨hT9, hf⟩ := gt_inv hf
      obtain ⟨⟨⟩, M6, hc8, hf⟩ := cl_inv hf
      refine fin_V (run_V C hw mf_X8_live mv_X8_live ml_X9_179 cf8 hT9 (c_X8_live l G A ad hc8) (As := [.ref (ad a4)]) (rest := []) hl.1 rfl rfl (Nat.le_of_ble_eq_true rfl) ⟨rfl, rfl, Nat.le_of_ble_eq_true rfl, Nat.le_of_ble_eq_true rfl⟩ ⟨Nat.zero_le _, Nat.zero_le _⟩ dX9_check_90) hw (fun H locs hw => ?_)
      refine lv_aload_n hx hb dX9_check_93 rfl (lv_at hl 0 rfl) ?_
      obtain ⟨hT10, hf⟩ := gt_inv hf
      obtain ⟨a11, hP12, hf⟩ := lp_inv hf
      refine r_getP C hw cf9 3 (by decide) rfl hT10 hP12 fl_X9_25 dX9_check_94 ?_
      refine lv_aload_n hx hb dX9_check_97 rfl (lv_at hl 0 rfl) ?_
      obtain ⟨a13, hP14, hf⟩ := lp_inv hf
      refine r_getP C hw cf9 2 (by decide) rfl hT10 hP14 fl_X9_19 dX9_check_98 ?_
      refine lv_ldc hx hb C.2.2.2.1 (C.2.2.2.2.1 _ kc_X9_107) dX9_check_101 ?_
      obtain ⟨hT18, hf⟩ := gt_inv hf
      obtain ⟨⟨⟩, M15, hc17, hf⟩ := cl_inv hf
      refine fin_V (run_V C hw mf_X4_settle mv_X4_settle ml_X9_190 cf4 hT18 (c_X4_settle l G A ad hc17) (As := [.ref (ad a13), .int (-1000000005)]) (rest := []) hl.1 rfl rfl (Nat.le_of_ble_eq_true rfl) ⟨rfl, rfl, Nat.le_of_ble_eq_true rfl, Nat.le_of_ble_eq_true rfl⟩ ⟨Nat.zero_le _, Nat.zero_le _⟩ dX9_check_103) hw (fun H locs hw => ?_)
      refine lv_aload_n hx hb dX9_check_106 rfl (lv_at hl 0 rfl) ?_
      refine lv_iconst (v := 2) hx hb dX9_check_107 (by decide) ?_
      refine lv_iload hx hb dX9_check_108 (lv_at hl 3 rfl) ?_
      refine lv_imul hx hb dX9_check_110 ?_
      refine lv_iload_n hx hb dX9_check_111 rfl (lv_at hl 1 rfl) ?_
      refine lv_aload_n hx hb dX9_check_112 rfl (lv_at hl 0 rfl) ?_
      obtain ⟨hT19, hf⟩ := gt_inv hf
      obtain ⟨a20, hP21, hf⟩ := lp_inv hf
      refine r_getP C hw cf9 3 (by decide) rfl hT19 hP21 fl_X9_25 dX9_check_113 ?_
      refine lv_aload_n hx hb dX9_check_116 rfl (lv_at hl 0 rfl) ?_
      obtain ⟨a22, hP23, hf⟩ := lp_inv hf
      refine r_getP C hw cf9 2 (by decide) rfl hT19 hP23 fl_X9_19 dX9_check_117 ?_
      obtain ⟨hT27, hf⟩ := gt_inv hf
      obtain ⟨r25, M24, hc26, hf⟩ := cl_inv hf
      refine fin_I (run_V C hw mf_X4_winner mv_X4_winner ml_X9_165 cf4 hT27 (c_X4_winner l G A ad hc26) (As := [.ref (ad a22)]) (rest := [.int x2, .int (2 * x4), .ref (ad x0)]) hl.1 rfl rfl (Nat.le_of_ble_eq_true rfl) ⟨rfl, rfl, Nat.le_of_ble_eq_true rfl, Nat.le_of_ble_eq_true rfl⟩ ⟨Nat.zero_le _, Nat.zero_le _⟩ dX9_check_120) hw (fun H locs hw => ?_)
      obtain ⟨hT31, hf⟩ := gt_inv hf
      obtain ⟨r29, M28, hc30, hf⟩ := cl_inv hf
      refine fin_I (run_V C hw mf_X9_waitsAt mv_X9_waitsAt ml_X9_317 cf9 hT31 (c_X9_waitsAt l G A ad hc30) (As := [.int (2 * x4), .int x2, .int r25]) (rest := []) hl.1 rfl rfl (Nat.le_of_ble_eq_true rfl) ⟨rfl, rfl, Nat.le_of_ble_eq_true rfl, Nat.le_of_ble_eq_true rfl⟩ ⟨Nat.zero_le _, Nat.zero_le _⟩ dX9_check_123) hw (fun H locs hw => ?_)
      refine lv_if_ne (tgt := 136) hx hb dX9_check_126 (by decide) (fun hc => ?_) (fun hc => ?_)
      · have hf := if_n hc hf
        refine lv_aload_n hx hb dX9_check_136 rfl (lv_at hl 0 rfl) ?_
        refine lv_iconst (v := 2) hx hb dX9_check_137 (by decide) ?_
        refine lv_iload hx hb dX9_check_138 (lv_at hl 3 rfl) ?_
        refine lv_imul hx hb dX9_check_140 ?_
        refine lv_iconst (v := 1) hx hb dX9_check_141 (by decide) ?_
        refine lv_iadd hx hb dX9_check_142 ?_
        refine lv_iload_n hx hb dX9_check_143 rfl (lv_at hl 1 rfl) ?_
        refine lv_aload_n hx hb dX9_check_144 rfl (lv_at hl 0 rfl) ?_
        obtain ⟨hT32, hf⟩ := gt_inv hf
        obtain ⟨a33, hP34, hf⟩ := lp_inv hf
        refine r_getP C hw cf9 2 (by decide) rfl hT32 hP34 fl_X9_19 dX9_check_145 ?_
        obtain ⟨hT38, hf⟩ := gt_inv hf
        obtain ⟨r36, M35, hc37, hf⟩ := cl_inv hf
        refine fin_I (run_V C hw mf_X8_here mv_X8_here ml_X9_193 cf8 hT38 (c_X8_here l G A ad hc37) (As := []) (rest := [.int x2, .int ((2 * x4) + 1), .ref (ad x0)]) hl.1 rfl rfl (Nat.le_of_ble_eq_true rfl) ⟨rfl, rfl, Nat.le_of_ble_eq_true rfl, Nat.le_of_ble_eq_true rfl⟩ ⟨Nat.zero_le _, Nat.zero_le _⟩ dX9_check_148) hw (fun H locs hw => ?_)
        obtain ⟨hT42, hf⟩ := gt_inv hf
        obtain ⟨r40, M39, hc41, hf⟩ := cl_inv hf
        refine fin_I (run_V C hw mf_X9_waitsAt mv_X9_waitsAt ml_X9_317 cf9 hT42 (c_X9_waitsAt l G A ad hc41) (As := [.int ((2 * x4) + 1), .int x2, .int r36]) (rest := []) hl.1 rfl rfl (Nat.le_of_ble_eq_true rfl) ⟨rfl, rfl, Nat.le_of_ble_eq_true rfl, Nat.le_of_ble_eq_true rfl⟩ ⟨Nat.zero_le _, Nat.zero_le _⟩ dX9_check_151) hw (fun H locs hw => ?_)
        refine lv_if_ne (tgt := 164) hx hb dX9_check_154 (by decide) (fun hc => ?_) (fun hc => ?_)
        · have hf := if_n hc hf
          refine lv_iinc (v := (x4 + 1)) (lv' := [(4, .int (x4 + 1)), (0, .ref (ad x0)), (2, .int x2), (3, .int x3)]) hx hb dX9_check_164 hl (k := 3) rfl rfl (by decide) rfl (fun ls hl => ?_)
          refine lv_goto (tgt := 76) hx hb dX9_check_167 (by decide) ?_
          exact ih M39 x0 x2 x3 (x4 + 1) _ _ _ hf hw (lv_sub hl [1, 2, 3, 0] rfl)
        · have hf := if_p hc hf
          refine lv_iconst (v := 2) hx hb dX9_check_157 (by decide) ?_
          refine lv_iconst (v := 2) hx hb dX9_check_158 (by decide) ?_
          refine lv_iload hx hb dX9_check_159 (lv_at hl 3 rfl) ?_
          refine lv_imul hx hb dX9_check_161 ?_
          refine lv_iadd hx hb dX9_check_162 ?_
          exact e_iret C hw hf dX9_check_163
      · have hf := if_p hc hf
        refine lv_iconst (v := 1) hx hb dX9_check_129 (by decide) ?_
        refine lv_iconst (v := 2) hx hb dX9_check_130 (by decide) ?_
        refine lv_iload hx hb dX9_check_131 (lv_at hl 3 rfl) ?_
        refine lv_imul hx hb dX9_check_133 ?_
        refine lv_iadd hx hb dX9_check_134 ?_
        exact e_iret C hw hf dX9_check_135
def f_X9_check (M : Mem) (x0 : Nat) (x1 : Int32) : Option (Int32 × Mem) := gt (mT M x0) 10 (st (setI M x0 9 0) (fun M2 => (if x1 < 1 then some ((-1000000001), M2) else (if x1 ≤ 30 then (if (mI M2 x0 10) = 0 then some ((-1000000002), M2) else lp (mP M2 x0 1) (fun a5 => gt (mT M2 a5) 9 (lp (mP M2 x0 2) (fun a8 => gt (mT M2 a8) 9 (cl (f_X8_take M2 a8 a5) (fun _ M10 => gt (mT M10 x0) 10 (lp (mP M10 x0 3) (fun a15 => lp (mP M10 x0 2) (fun a17 => gt (mT M10 a15) 5 (cl (f_X4_look M10 a15 a17) (fun _ M19 => f_X9_check_76 FU M19 x0 (mI M x0 9) (imin x1 (999 - (mI M2 a5 5))) 0))))))))))) else some ((-1000000001), M2)))))
set_option maxHeartbeats 4000000 in
set_option maxRecDepth 100000 in
theorem c_X9_check (l : Launch) (G : Gd) (A : Nat → Prop) (ad : Nat → Nat) {M : Mem} {x0 : Nat} {x1 : Int32}  {r : Int32} {M' : Mem} (hf : f_X9_check M x0 x1 = some (r, M')) : Ct l yX9_check cX9_check 5 (some .int) rm_X9_check [.ref (ad x0), .int x1] G A ad M (QI G A ad r M') 0 0 := by
  refine ct_start (by decide) (Nat.le_of_ble_eq_true rfl) ?_
  intro p e s m args below meth c ls C hin hw hl
  have C : Cx G A p s m args meth c RX9 cX9_check 5 (some .int) := C
  have hl : lv_has ls 5 [(0, .ref (ad x0)), (1, .int x1)] := hl
  obtain ⟨hx, hb, -⟩ := id C
  rw [f_X9_check] at hf
  refine lv_aload_n hx hb dX9_check_0 rfl (lv_at hl 0 rfl) ?_
  obtain ⟨hT1, hf⟩ := gt_inv hf
  refine r_getI C hw cf9 9 (by decide) rfl hT1 fl_X9_311 dX9_check_1 ?_
  refine lv_istore_n (lv' := [(2, .int (mI M x0 9)), (0, .ref (ad x0)), (1, .int x1)]) hx hb dX9_check_4 rfl hl (by decide) rfl (fun ls hl => ?_)
  refine lv_aload_n hx hb dX9_check_5 rfl (lv_at hl 1 rfl) ?_
  refine lv_iconst (v := 0) hx hb dX9_check_6 (by decide) ?_
  obtain ⟨M2, e3, hf⟩ := st_inv hf
  have g4 := sg_I e3
  refine r_putI C hw cf9 9 (by decide) rfl hT1 e3 fl_X9_311 rfl rfl rfl dX9_check_7 (fun H locs hw => ?_)
  refine lv_iload_n hx hb dX9_check_10 rfl (lv_at hl 2 rfl) ?_
  refine lv_iconst (v := 1) hx hb dX9_check_11 (by decide) ?_
  refine lv_icmp_lt (tgt := 21) hx hb dX9_check_12 (by decide) (fun hc => ?_) (fun hc => ?_)
  · have hf := if_p hc hf
    refine lv_ldc hx hb C.2.2.2.1 (C.2.2.2.2.1 _ kc_X9_65) dX9_check_21 ?_
    exact e_iret C hw hf dX9_check_23
  · have hf := if_n hc hf
    refine lv_iload_n hx hb dX9_check_15 rfl (lv_at hl 2 rfl) ?_
    refine lv_bipush (v := 30) hx hb dX9_check_16 (by decide) ?_
    refine lv_icmp_le (tgt := 24) hx hb dX9_check_18 (by decide) (fun hc => ?_) (fun hc => ?_)
    · have hf := if_p hc hf
      refine lv_aload_n hx hb dX9_check_24 rfl (lv_at hl 1 rfl) ?_
      refine r_getI C hw cf9 10 (by decide) rfl (T_of g4 hT1) fl_X9_314 dX9_check_25 ?_
      refine lv_if_ne (tgt := 35) hx hb dX9_check_28 (by decide) (fun hc => ?_) (fun hc => ?_)
      · have hf := if_n hc hf
        refine lv_iload_n hx hb dX9_check_35 rfl (lv_at hl 2 rfl) ?_
        refine lv_sipush (v := 999) hx hb dX9_check_36 (by decide) ?_
        refine lv_aload_n hx hb dX9_check_39 rfl (lv_at hl 1 rfl) ?_
        obtain ⟨a5, hP6, hf⟩ := lp_inv hf
        refine r_getP C hw cf9 1 (by decide) rfl (T_of g4 hT1) hP6 fl_X9_16 dX9_check_40 ?_
        obtain ⟨hT7, hf⟩ := gt_inv hf
        refine r_getI C hw cf8 5 (by decide) rfl hT7 fl_X9_169 dX9_check_43 ?_
        refine lv_isub hx hb dX9_check_46 ?_
        refine r_min C hl.1 mk_X9_147 (Nat.le_of_ble_eq_true rfl) (Nat.le_of_ble_eq_true rfl) (Nat.le_of_ble_eq_true rfl) (Nat.le_of_ble_eq_true rfl) dX9_check_47 ?_
        refine lv_istore_n (lv' := [(3, .int (imin x1 (999 - (mI M2 a5 5)))), (2, .int (mI M x0 9)), (0, .ref (ad x0)), (1, .int x1)]) hx hb dX9_check_50 rfl hl (by decide) rfl (fun ls hl => ?_)
        refine lv_aload_n hx hb dX9_check_51 rfl (lv_at hl 2 rfl) ?_
        obtain ⟨a8, hP9, hf⟩ := lp_inv hf
        refine r_getP C hw cf9 2 (by decide) rfl (T_of g4 hT1) hP9 fl_X9_19 dX9_check_52 ?_
        refine lv_aload_n hx hb dX9_check_55 rfl (lv_at hl 2 rfl) ?_
        refine r_getP C hw cf9 1 (by decide) rfl (T_of g4 hT1) hP6 fl_X9_16 dX9_check_56 ?_
        obtain ⟨hT13, hf⟩ := gt_inv hf
        obtain ⟨⟨⟩, M10, hc12, hf⟩ := cl_inv hf
        refine fin_V (run_V C hw mf_X8_take mv_X8_take ml_X9_183 cf8 hT13 (c_X8_take l G A ad hc12) (As := [.ref (ad a5)]) (rest := []) hl.1 rfl rfl (Nat.le_of_ble_eq_true rfl) ⟨rfl, rfl, Nat.le_of_ble_eq_true rfl, Nat.le_of_ble_eq_true rfl⟩ ⟨Nat.zero_le _, Nat.zero_le _⟩ dX9_check_59) hw (fun H locs hw => ?_)
        refine lv_aload_n hx hb dX9_check_62 rfl (lv_at hl 2 rfl) ?_
        obtain ⟨hT14, hf⟩ := gt_inv hf
        obtain ⟨a15, hP16, hf⟩ := lp_inv hf
        refine r_getP C hw cf9 3 (by decide) rfl hT14 hP16 fl_X9_25 dX9_check_63 ?_
        refine lv_aload_n hx hb dX9_check_66 rfl (lv_at hl 2 rfl) ?_
        obtain ⟨a17, hP18, hf⟩ := lp_inv hf
        refine r_getP C hw cf9 2 (by decide) rfl hT14 hP18 fl_X9_19 dX9_check_67 ?_
        obtain ⟨hT22, hf⟩ := gt_inv hf
        obtain ⟨⟨⟩, M19, hc21, hf⟩ := cl_inv hf
        refine fin_V (run_V C hw mf_X4_look mv_X4_look ml_X9_175 cf4 hT22 (c_X4_look l G A ad hc21) (As := [.ref (ad a17)]) (rest := []) hl.1 rfl rfl (Nat.le_of_ble_eq_true rfl) ⟨rfl, rfl, Nat.le_of_ble_eq_true rfl, Nat.le_of_ble_eq_true rfl⟩ ⟨Nat.zero_le _, Nat.zero_le _⟩ dX9_check_70) hw (fun H locs hw => ?_)
        refine lv_iconst (v := 0) hx hb dX9_check_73 (by decide) ?_
        refine lv_istore (lv' := [(4, .int 0), (3, .int (imin x1 (999 - (mI M2 a5 5)))), (2, .int (mI M x0 9)), (0, .ref (ad x0)), (1, .int x1)]) hx hb dX9_check_74 hl (by decide) rfl (fun ls hl => ?_)
        exact t_X9_check_76 C FU M19 x0 (mI M x0 9) (imin x1 (999 - (mI M2 a5 5))) 0 _ _ _ hf hw (lv_sub hl [3, 2, 1, 0] rfl)
      · have hf := if_p hc hf
        refine lv_ldcw hx hb C.2.2.2.1 (C.2.2.2.2.1 _ kc_X9_310) dX9_check_31 ?_
        exact e_iret C hw hf dX9_check_34
    · have hf := if_n hc hf
      refine lv_ldc hx hb C.2.2.2.1 (C.2.2.2.2.1 _ kc_X9_65) dX9_check_21 ?_
      exact e_iret C hw hf dX9_check_23
/-! StorkVote.keep()I -/
abbrev rm_X9_keep : Room := { frames := 3, cells := 0, slots := 0, locals := 67 }
def f_X9_keep (M : Mem) (x0 : Nat) : Option (Int32 × Mem) := gt (mT M x0) 10 (lp (mP M x0 1) (fun a2 => lp (mP M x0 0) (fun a4 => gt (mT M a2) 9 (cl (f_X8_take M a2 a4) (fun _ M6 => gt (mT M6 x0) 10 (st (setI M6 x0 10 1) (fun M11 => lp (mP M11 x0 1) (fun a14 => gt (mT M11 a14) 9 (some ((mI M11 a14 1), M11))))))))))
set_option maxHeartbeats 4000000 in
set_option maxRecDepth 100000 in
theorem c_X9_keep (l : Launch) (G : Gd) (A : Nat → Prop) (ad : Nat → Nat) {M : Mem} {x0 : Nat}  {r : Int32} {M' : Mem} (hf : f_X9_keep M x0 = some (r, M')) : Ct l yX9_keep cX9_keep 1 (some .int) rm_X9_keep [.ref (ad x0)] G A ad M (QI G A ad r M') 0 0 := by
  refine ct_start (by decide) (Nat.le_of_ble_eq_true rfl) ?_
  intro p e s m args below meth c ls C hin hw hl
  have C : Cx G A p s m args meth c RX9 cX9_keep 1 (some .int) := C
  have hl : lv_has ls 1 [(0, .ref (ad x0))] := hl
  obtain ⟨hx, hb, -⟩ := id C
  rw [f_X9_keep] at hf
  refine lv_aload_n hx hb dX9_keep_0 rfl (lv_at hl 0 rfl) ?_
  obtain ⟨hT1, hf⟩ := gt_inv hf
  obtain ⟨a2, hP3, hf⟩ := lp_inv hf
  refine r_getP C hw cf9 1 (by decide) rfl hT1 hP3 fl_X9_16 dX9_keep_1 ?_
  refine lv_aload_n hx hb dX9_keep_4 rfl (lv_at hl 0 rfl) ?_
  obtain ⟨a4, hP5, hf⟩ := lp_inv hf
  refine r_getP C hw cf9 0 (by decide) rfl hT1 hP5 fl_X9_10 dX9_keep_5 ?_
  obtain ⟨hT9, hf⟩ := gt_inv hf
  obtain ⟨⟨⟩, M6, hc8, hf⟩ := cl_inv hf
  refine fin_V (run_V C hw mf_X8_take mv_X8_take ml_X9_183 cf8 hT9 (c_X8_take l G A ad hc8) (As := [.ref (ad a4)]) (rest := []) hl.1 rfl rfl (Nat.le_of_ble_eq_true rfl) ⟨rfl, rfl, Nat.le_of_ble_eq_true rfl, Nat.le_of_ble_eq_true rfl⟩ ⟨Nat.zero_le _, Nat.zero_le _⟩ dX9_keep_8) hw (fun H locs hw => ?_)
  refine lv_aload_n hx hb dX9_keep_11 rfl (lv_at hl 0 rfl) ?_
  refine lv_iconst (v := 1) hx hb dX9_keep_12 (by decide) ?_
  obtain ⟨hT10, hf⟩ := gt_inv hf
  obtain ⟨M11, e12, hf⟩ := st_inv hf
  have g13 := sg_I e12
  refine r_putI C hw cf9 10 (by decide) rfl hT10 e12 fl_X9_314 rfl rfl rfl dX9_keep_13 (fun H locs hw => ?_)
  refine lv_aload_n hx hb dX9_keep_16 rfl (lv_at hl 0 rfl) ?_
  obtain ⟨a14, hP15, hf⟩ := lp_inv hf
  refine r_getP C hw cf9 1 (by decide) rfl (T_of g13 hT10) hP15 fl_X9_16 dX9_keep_17 ?_
  obtain ⟨hT16, hf⟩ := gt_inv hf
  refine r_getI C hw cf8 1 (by decide) rfl hT16 fl_X9_144 dX9_keep_20 ?_
  exact e_iret C hw hf dX9_keep_23
/-! StorkVote.back()I -/
abbrev rm_X9_back : Room := { frames := 3, cells := 0, slots := 0, locals := 67 }
def f_X9_back (M : Mem) (x0 : Nat) : Option (Int32 × Mem) := gt (mT M x0) 10 ((if (mI M x0 10) = 0 then some ((-1000000002), M) else lp (mP M x0 0) (fun a2 => lp (mP M x0 1) (fun a4 => gt (mT M a2) 9 (cl (f_X8_take M a2 a4) (fun _ M6 => gt (mT M6 x0) 10 (lp (mP M6 x0 0) (fun a11 => gt (mT M6 a11) 9 (some ((mI M6 a11 1), M6))))))))))
set_option maxHeartbeats 4000000 in
set_option maxRecDepth 100000 in
theorem c_X9_back (l : Launch) (G : Gd) (A : Nat → Prop) (ad : Nat → Nat) {M : Mem} {x0 : Nat}  {r : Int32} {M' : Mem} (hf : f_X9_back M x0 = some (r, M')) : Ct l yX9_back cX9_back 1 (some .int) rm_X9_back [.ref (ad x0)] G A ad M (QI G A ad r M') 0 0 := by
  refine ct_start (by decide) (Nat.le_of_ble_eq_true rfl) ?_
  intro p e s m args below meth c ls C hin hw hl
  have C : Cx G A p s m args meth c RX9 cX9_back 1 (some .int) := C
  have hl : lv_has ls 1 [(0, .ref (ad x0))] := hl
  obtain ⟨hx, hb, -⟩ := id C
  rw [f_X9_back] at hf
  refine lv_aload_n hx hb dX9_back_0 rfl (lv_at hl 0 rfl) ?_
  obtain ⟨hT1, hf⟩ := gt_inv hf
  refine r_getI C hw cf9 10 (by decide) rfl hT1 fl_X9_314 dX9_back_1 ?_
  refine lv_if_ne (tgt := 11) hx hb dX9_back_4 (by decide) (fun hc => ?_) (fun hc => ?_)
  · have hf := if_n hc hf
    refine lv_aload_n hx hb dX9_back_11 rfl (lv_at hl 0 rfl) ?_
    obtain ⟨a2, hP3, hf⟩ := lp_inv hf
    refine r_getP C hw cf9 0 (by decide) rfl hT1 hP3 fl_X9_10 dX9_back_12 ?_
    refine lv_aload_n hx hb dX9_back_15 rfl (lv_at hl 0 rfl) ?_
    obtain ⟨a4, hP5, hf⟩ := lp_inv hf
    refine r_getP C hw cf9 1 (by decide) rfl hT1 hP5 fl_X9_16 dX9_back_16 ?_
    obtain ⟨hT9, hf⟩ := gt_inv hf
    obtain ⟨⟨⟩, M6, hc8, hf⟩ := cl_inv hf
    refine fin_V (run_V C hw mf_X8_take mv_X8_take ml_X9_183 cf8 hT9 (c_X8_take l G A ad hc8) (As := [.ref (ad a4)]) (rest := []) hl.1 rfl rfl (Nat.le_of_ble_eq_true rfl) ⟨rfl, rfl, Nat.le_of_ble_eq_true rfl, Nat.le_of_ble_eq_true rfl⟩ ⟨Nat.zero_le _, Nat.zero_le _⟩ dX9_back_19) hw (fun H locs hw => ?_)
    refine lv_aload_n hx hb dX9_back_22 rfl (lv_at hl 0 rfl) ?_
    obtain ⟨hT10, hf⟩ := gt_inv hf
    obtain ⟨a11, hP12, hf⟩ := lp_inv hf
    refine r_getP C hw cf9 0 (by decide) rfl hT10 hP12 fl_X9_10 dX9_back_23 ?_
    obtain ⟨hT13, hf⟩ := gt_inv hf
    refine r_getI C hw cf8 1 (by decide) rfl hT13 fl_X9_144 dX9_back_26 ?_
    exact e_iret C hw hf dX9_back_29
  · have hf := if_p hc hf
    refine lv_ldcw hx hb C.2.2.2.1 (C.2.2.2.2.1 _ kc_X9_310) dX9_back_7 ?_
    exact e_iret C hw hf dX9_back_10
/-! StorkVote.count(I)I -/
abbrev rm_X9_count : Room := { frames := 6, cells := 0, slots := 0, locals := 139 }
def f_X9_count (M : Mem) (x0 : Nat) (x1 : Int32) : Option (Int32 × Mem) := (if x1 = 0 then gt (mT M x0) 10 (lp (mP M x0 0) (fun a3 => gt (mT M a3) 9 (some ((mI M a3 1), M)))) else if x1 = 1 then gt (mT M x0) 10 (lp (mP M x0 0) (fun a8 => gt (mT M a8) 9 (some ((mI M a8 3), M)))) else if x1 = 2 then gt (mT M x0) 10 (lp (mP M x0 0) (fun a13 => gt (mT M a13) 9 (cl (f_X8_here M a13) (fun r16 M15 => some (r16, M15))))) else if x1 = 3 then gt (mT M x0) 10 (lp (mP M x0 0) (fun a21 => gt (mT M a21) 9 (some ((mI M a21 5), M)))) else if x1 = 4 then gt (mT M x0) 10 (lp (mP M x0 0) (fun a26 => gt (mT M a26) 9 (lp (mP M a26 4) (fun a29 => gt (mT M a29) 20 (gd (ib 0 (mL M a29)) (some ((mI M a29 (0 : Int32).toNatClampNeg), M))))))) else if x1 = 5 then gt (mT M x0) 10 (lp (mP M x0 0) (fun a35 => gt (mT M a35) 9 (lp (mP M a35 4) (fun a38 => gt (mT M a38) 20 (gd (ib 1 (mL M a38)) (some ((mI M a38 (1 : Int32).toNatClampNeg), M))))))) else if x1 = 6 then gt (mT M x0) 10 (lp (mP M x0 0) (fun a44 => gt (mT M a44) 9 (lp (mP M a44 4) (fun a47 => gt (mT M a47) 20 (gd (ib 2 (mL M a47)) (some ((mI M a47 (2 : Int32).toNatClampNeg), M))))))) else if x1 = 7 then gt (mT M x0) 10 (cl (f_X9_settleNow M x0) (fun _ M52 => gt (mT M52 x0) 10 (lp (mP M52 x0 3) (fun a57 => lp (mP M52 x0 0) (fun a59 => gt (mT M52 a57) 5 (cl (f_X4_allNests M52 a57 a59) (fun r62 M61 => some (r62, M61)))))))) else if x1 = 8 then gt (mT M x0) 10 (lp (mP M x0 0) (fun a67 => gt (mT M a67) 9 (some ((mI M a67 8), M)))) else if x1 = 9 then gt (mT M x0) 10 (some ((mI M x0 9), M)) else if x1 = 10 then gt (mT M x0) 10 (lp (mP M x0 4) (fun a74 => gt (mT M a74) 7 (some ((mI M a74 1), M)))) else if x1 = 11 then gt (mT M x0) 10 (lp (mP M x0 0) (fun a79 => gt (mT M a79) 9 (some ((mI M a79 6), M)))) else some ((-1000000001), M))
set_option maxHeartbeats 4000000 in
set_option maxRecDepth 100000 in
theorem c_X9_count (l : Launch) (G : Gd) (A : Nat → Prop) (ad : Nat → Nat) {M : Mem} {x0 : Nat} {x1 : Int32}  {r : Int32} {M' : Mem} (hf : f_X9_count M x0 x1 = some (r, M')) : Ct l yX9_count cX9_count 2 (some .int) rm_X9_count [.ref (ad x0), .int x1] G A ad M (QI G A ad r M') 0 0 := by
  refine ct_start (by decide) (Nat.le_of_ble_eq_true rfl) ?_
  intro p e s m args below meth c ls C hin hw hl
  have C : Cx G A p s m args meth c RX9 cX9_count 2 (some .int) := C
  have hl : lv_has ls 2 [(0, .ref (ad x0)), (1, .int x1)] := hl
  obtain ⟨hx, hb, -⟩ := id C
  rw [f_X9_count] at hf
  refine lv_iload_n hx hb dX9_count_0 rfl (lv_at hl 1 rfl) ?_
  by_cases hc1 : x1 = 0
  · have hf := if_p hc1 hf
    refine r_tabIn 0 hc1 hx hb dX9_count_1 (by decide) (by decide) rfl (tgt := 64) (by decide) ?_
    refine lv_aload_n hx hb dX9_count_64 rfl (lv_at hl 0 rfl) ?_
    obtain ⟨hT2, hf⟩ := gt_inv hf
    obtain ⟨a3, hP4, hf⟩ := lp_inv hf
    refine r_getP C hw cf9 0 (by decide) rfl hT2 hP4 fl_X9_10 dX9_count_65 ?_
    obtain ⟨hT5, hf⟩ := gt_inv hf
    refine r_getI C hw cf8 1 (by decide) rfl hT5 fl_X9_144 dX9_count_68 ?_
    exact e_iret C hw hf dX9_count_71
  · have hf := if_n hc1 hf
    by_cases hc6 : x1 = 1
    · have hf := if_p hc6 hf
      refine r_tabIn 1 hc6 hx hb dX9_count_1 (by decide) (by decide) rfl (tgt := 72) (by decide) ?_
      refine lv_aload_n hx hb dX9_count_72 rfl (lv_at hl 0 rfl) ?_
      obtain ⟨hT7, hf⟩ := gt_inv hf
      obtain ⟨a8, hP9, hf⟩ := lp_inv hf
      refine r_getP C hw cf9 0 (by decide) rfl hT7 hP9 fl_X9_10 dX9_count_73 ?_
      obtain ⟨hT10, hf⟩ := gt_inv hf
      refine r_getI C hw cf8 3 (by decide) rfl hT10 fl_X9_172 dX9_count_76 ?_
      exact e_iret C hw hf dX9_count_79
    · have hf := if_n hc6 hf
      by_cases hc11 : x1 = 2
      · have hf := if_p hc11 hf
        refine r_tabIn 2 hc11 hx hb dX9_count_1 (by decide) (by decide) rfl (tgt := 80) (by decide) ?_
        refine lv_aload_n hx hb dX9_count_80 rfl (lv_at hl 0 rfl) ?_
        obtain ⟨hT12, hf⟩ := gt_inv hf
        obtain ⟨a13, hP14, hf⟩ := lp_inv hf
        refine r_getP C hw cf9 0 (by decide) rfl hT12 hP14 fl_X9_10 dX9_count_81 ?_
        obtain ⟨hT18, hf⟩ := gt_inv hf
        obtain ⟨r16, M15, hc17, hf⟩ := cl_inv hf
        refine fin_I (run_V C hw mf_X8_here mv_X8_here ml_X9_193 cf8 hT18 (c_X8_here l G A ad hc17) (As := []) (rest := []) hl.1 rfl rfl (Nat.le_of_ble_eq_true rfl) ⟨rfl, rfl, Nat.le_of_ble_eq_true rfl, Nat.le_of_ble_eq_true rfl⟩ ⟨Nat.zero_le _, Nat.zero_le _⟩ dX9_count_84) hw (fun H locs hw => ?_)
        exact e_iret C hw hf dX9_count_87
      · have hf := if_n hc11 hf
        by_cases hc19 : x1 = 3
        · have hf := if_p hc19 hf
          refine r_tabIn 3 hc19 hx hb dX9_count_1 (by decide) (by decide) rfl (tgt := 88) (by decide) ?_
          refine lv_aload_n hx hb dX9_count_88 rfl (lv_at hl 0 rfl) ?_
          obtain ⟨hT20, hf⟩ := gt_inv hf
          obtain ⟨a21, hP22, hf⟩ := lp_inv hf
          refine r_getP C hw cf9 0 (by decide) rfl hT20 hP22 fl_X9_10 dX9_count_89 ?_
          obtain ⟨hT23, hf⟩ := gt_inv hf
          refine r_getI C hw cf8 5 (by decide) rfl hT23 fl_X9_169 dX9_count_92 ?_
          exact e_iret C hw hf dX9_count_95
        · have hf := if_n hc19 hf
          by_cases hc24 : x1 = 4
          · have hf := if_p hc24 hf
            refine r_tabIn 4 hc24 hx hb dX9_count_1 (by decide) (by decide) rfl (tgt := 96) (by decide) ?_
            refine lv_aload_n hx hb dX9_count_96 rfl (lv_at hl 0 rfl) ?_
            obtain ⟨hT25, hf⟩ := gt_inv hf
            obtain ⟨a26, hP27, hf⟩ := lp_inv hf
            refine r_getP C hw cf9 0 (by decide) rfl hT25 hP27 fl_X9_10 dX9_count_97 ?_
            obtain ⟨hT28, hf⟩ := gt_inv hf
            obtain ⟨a29, hP30, hf⟩ := lp_inv hf
            refine r_getP C hw cf8 4 (by decide) rfl hT28 hP30 fl_X9_141 dX9_count_100 ?_
            refine lv_iconst (v := 0) hx hb dX9_count_103 (by decide) ?_
            obtain ⟨hT31, hf⟩ := gt_inv hf
            obtain ⟨hg32, hf⟩ := gd_inv hf
            refine r_iald C hw hT31 hg32 dX9_count_104 ?_
            exact e_iret C hw hf dX9_count_105
          · have hf := if_n hc24 hf
            by_cases hc33 : x1 = 5
            · have hf := if_p hc33 hf
              refine r_tabIn 5 hc33 hx hb dX9_count_1 (by decide) (by decide) rfl (tgt := 106) (by decide) ?_
              refine lv_aload_n hx hb dX9_count_106 rfl (lv_at hl 0 rfl) ?_
              obtain ⟨hT34, hf⟩ := gt_inv hf
              obtain ⟨a35, hP36, hf⟩ := lp_inv hf
              refine r_getP C hw cf9 0 (by decide) rfl hT34 hP36 fl_X9_10 dX9_count_107 ?_
              obtain ⟨hT37, hf⟩ := gt_inv hf
              obtain ⟨a38, hP39, hf⟩ := lp_inv hf
              refine r_getP C hw cf8 4 (by decide) rfl hT37 hP39 fl_X9_141 dX9_count_110 ?_
              refine lv_iconst (v := 1) hx hb dX9_count_113 (by decide) ?_
              obtain ⟨hT40, hf⟩ := gt_inv hf
              obtain ⟨hg41, hf⟩ := gd_inv hf
              refine r_iald C hw hT40 hg41 dX9_count_114 ?_
              exact e_iret C hw hf dX9_count_115
            · have hf := if_n hc33 hf
              by_cases hc42 : x1 = 6
              · have hf := if_p hc42 hf
                refine r_tabIn 6 hc42 hx hb dX9_count_1 (by decide) (by decide) rfl (tgt := 116) (by decide) ?_
                refine lv_aload_n hx hb dX9_count_116 rfl (lv_at hl 0 rfl) ?_
                obtain ⟨hT43, hf⟩ := gt_inv hf
                obtain ⟨a44, hP45, hf⟩ := lp_inv hf
                refine r_getP C hw cf9 0 (by decide) rfl hT43 hP45 fl_X9_10 dX9_count_117 ?_
                obtain ⟨hT46, hf⟩ := gt_inv hf
                obtain ⟨a47, hP48, hf⟩ := lp_inv hf
                refine r_getP C hw cf8 4 (by decide) rfl hT46 hP48 fl_X9_141 dX9_count_120 ?_
                refine lv_iconst (v := 2) hx hb dX9_count_123 (by decide) ?_
                obtain ⟨hT49, hf⟩ := gt_inv hf
                obtain ⟨hg50, hf⟩ := gd_inv hf
                refine r_iald C hw hT49 hg50 dX9_count_124 ?_
                exact e_iret C hw hf dX9_count_125
              · have hf := if_n hc42 hf
                by_cases hc51 : x1 = 7
                · have hf := if_p hc51 hf
                  refine r_tabIn 7 hc51 hx hb dX9_count_1 (by decide) (by decide) rfl (tgt := 126) (by decide) ?_
                  refine lv_aload_n hx hb dX9_count_126 rfl (lv_at hl 0 rfl) ?_
                  obtain ⟨hT55, hf⟩ := gt_inv hf
                  obtain ⟨⟨⟩, M52, hc54, hf⟩ := cl_inv hf
                  refine fin_V (run_V C hw mf_X9_settleNow mv_X9_settleNow ml_X9_97 cf9 hT55 (c_X9_settleNow l G A ad hc54) (As := []) (rest := []) hl.1 rfl rfl (Nat.le_of_ble_eq_true rfl) ⟨rfl, rfl, Nat.le_of_ble_eq_true rfl, Nat.le_of_ble_eq_true rfl⟩ ⟨Nat.zero_le _, Nat.zero_le _⟩ dX9_count_127) hw (fun H locs hw => ?_)
                  refine lv_aload_n hx hb dX9_count_130 rfl (lv_at hl 0 rfl) ?_
                  obtain ⟨hT56, hf⟩ := gt_inv hf
                  obtain ⟨a57, hP58, hf⟩ := lp_inv hf
                  refine r_getP C hw cf9 3 (by decide) rfl hT56 hP58 fl_X9_25 dX9_count_131 ?_
                  refine lv_aload_n hx hb dX9_count_134 rfl (lv_at hl 0 rfl) ?_
                  obtain ⟨a59, hP60, hf⟩ := lp_inv hf
                  refine r_getP C hw cf9 0 (by decide) rfl hT56 hP60 fl_X9_10 dX9_count_135 ?_
                  obtain ⟨hT64, hf⟩ := gt_inv hf
                  obtain ⟨r62, M61, hc63, hf⟩ := cl_inv hf
                  refine fin_I (run_V C hw mf_X4_allNests mv_X4_allNests ml_X9_321 cf4 hT64 (c_X4_allNests l G A ad hc63) (As := [.ref (ad a59)]) (rest := []) hl.1 rfl rfl (Nat.le_of_ble_eq_true rfl) ⟨rfl, rfl, Nat.le_of_ble_eq_true rfl, Nat.le_of_ble_eq_true rfl⟩ ⟨Nat.zero_le _, Nat.zero_le _⟩ dX9_count_138) hw (fun H locs hw => ?_)
                  exact e_iret C hw hf dX9_count_141
                · have hf := if_n hc51 hf
                  by_cases hc65 : x1 = 8
                  · have hf := if_p hc65 hf
                    refine r_tabIn 8 hc65 hx hb dX9_count_1 (by decide) (by decide) rfl (tgt := 142) (by decide) ?_
                    refine lv_aload_n hx hb dX9_count_142 rfl (lv_at hl 0 rfl) ?_
                    obtain ⟨hT66, hf⟩ := gt_inv hf
                    obtain ⟨a67, hP68, hf⟩ := lp_inv hf
                    refine r_getP C hw cf9 0 (by decide) rfl hT66 hP68 fl_X9_10 dX9_count_143 ?_
                    obtain ⟨hT69, hf⟩ := gt_inv hf
                    refine r_getI C hw cf8 8 (by decide) rfl hT69 fl_X9_236 dX9_count_146 ?_
                    exact e_iret C hw hf dX9_count_149
                  · have hf := if_n hc65 hf
                    by_cases hc70 : x1 = 9
                    · have hf := if_p hc70 hf
                      refine r_tabIn 9 hc70 hx hb dX9_count_1 (by decide) (by decide) rfl (tgt := 150) (by decide) ?_
                      refine lv_aload_n hx hb dX9_count_150 rfl (lv_at hl 0 rfl) ?_
                      obtain ⟨hT71, hf⟩ := gt_inv hf
                      refine r_getI C hw cf9 9 (by decide) rfl hT71 fl_X9_311 dX9_count_151 ?_
                      exact e_iret C hw hf dX9_count_154
                    · have hf := if_n hc70 hf
                      by_cases hc72 : x1 = 10
                      · have hf := if_p hc72 hf
                        refine r_tabIn 10 hc72 hx hb dX9_count_1 (by decide) (by decide) rfl (tgt := 155) (by decide) ?_
                        refine lv_aload_n hx hb dX9_count_155 rfl (lv_at hl 0 rfl) ?_
                        obtain ⟨hT73, hf⟩ := gt_inv hf
                        obtain ⟨a74, hP75, hf⟩ := lp_inv hf
                        refine r_getP C hw cf9 4 (by decide) rfl hT73 hP75 fl_X9_32 dX9_count_156 ?_
                        obtain ⟨hT76, hf⟩ := gt_inv hf
                        refine r_getI C hw cf6 1 (by decide) rfl hT76 fl_X9_224 dX9_count_159 ?_
                        exact e_iret C hw hf dX9_count_162
                      · have hf := if_n hc72 hf
                        by_cases hc77 : x1 = 11
                        · have hf := if_p hc77 hf
                          refine r_tabIn 11 hc77 hx hb dX9_count_1 (by decide) (by decide) rfl (tgt := 163) (by decide) ?_
                          refine lv_aload_n hx hb dX9_count_163 rfl (lv_at hl 0 rfl) ?_
                          obtain ⟨hT78, hf⟩ := gt_inv hf
                          obtain ⟨a79, hP80, hf⟩ := lp_inv hf
                          refine r_getP C hw cf9 0 (by decide) rfl hT78 hP80 fl_X9_10 dX9_count_164 ?_
                          obtain ⟨hT81, hf⟩ := gt_inv hf
                          refine r_getI C hw cf8 6 (by decide) rfl hT81 fl_X9_155 dX9_count_167 ?_
                          exact e_iret C hw hf dX9_count_170
                        · have hf := if_n hc77 hf
                          refine r_tabOut hx hb dX9_count_1 (by have n0 := sw_nei (k := 0) (by decide) hc1; have n1 := sw_nei (k := 1) (by decide) hc6; have n2 := sw_nei (k := 2) (by decide) hc11; have n3 := sw_nei (k := 3) (by decide) hc19; have n4 := sw_nei (k := 4) (by decide) hc24; have n5 := sw_nei (k := 5) (by decide) hc33; have n6 := sw_nei (k := 6) (by decide) hc42; have n7 := sw_nei (k := 7) (by decide) hc51; have n8 := sw_nei (k := 8) (by decide) hc65; have n9 := sw_nei (k := 9) (by decide) hc70; have n10 := sw_nei (k := 10) (by decide) hc72; have n11 := sw_nei (k := 11) (by decide) hc77; omega) (tgt := 171) (by decide) ?_
                          refine lv_ldc hx hb C.2.2.2.1 (C.2.2.2.2.1 _ kc_X9_65) dX9_count_171 ?_
                          exact e_iret C hw hf dX9_count_173
