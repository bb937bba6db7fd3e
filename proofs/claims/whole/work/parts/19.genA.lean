/-! StorkVote$Chimney.<init>()V -/
abbrev rm_X0_init : Room := { frames := 1, cells := 0, slots := 0, locals := 21 }
def f_X0_init (M : Mem) (x0 : Nat) : Option (Unit × Mem) := some ((), M)
set_option maxHeartbeats 40000000 in
set_option maxRecDepth 100000 in
theorem c_X0_init (l : Launch) (G : Gd) (A : Nat → Prop) (ad : Nat → Nat) {M : Mem} {x0 : Nat}  {M' : Mem} (hf : f_X0_init M x0 = some ((), M')) : Ct l yX0_init cX0_init 1 none rm_X0_init [.ref (ad x0)] G A ad M (QV G A ad M') 0 0 := by
  refine ct_start (by decide) (Nat.le_of_ble_eq_true rfl) ?_
  intro p e s m args below meth c ls C hin hw hl
  have C : Cx G A p s m args meth c RX0 cX0_init 1 none := C
  have hl : lv_has ls 1 [(0, .ref (ad x0))] := hl
  obtain ⟨hx, hb, -⟩ := id C
  rw [f_X0_init] at hf
  refine lv_aload_n hx hb dX0_init_0 rfl (lv_at hl 0 rfl) ?_
  refine r_obj C hl.1 mk_X0_3 ob_i ob_c (Nat.le_of_ble_eq_true rfl) (Nat.le_of_ble_eq_true rfl) dX0_init_1 ?_
  refine W.widen (k := 0) (n := 0) (Nat.le_of_ble_eq_true rfl) (Nat.le_of_ble_eq_true rfl) ?_
  exact e_vret C hw hf dX0_init_4
/-! StorkVote$Stork.<init>()V -/
abbrev rm_X5_init : Room := { frames := 1, cells := 0, slots := 0, locals := 21 }
def f_X5_init (M : Mem) (x0 : Nat) : Option (Unit × Mem) := some ((), M)
set_option maxHeartbeats 40000000 in
set_option maxRecDepth 100000 in
theorem c_X5_init (l : Launch) (G : Gd) (A : Nat → Prop) (ad : Nat → Nat) {M : Mem} {x0 : Nat}  {M' : Mem} (hf : f_X5_init M x0 = some ((), M')) : Ct l yX5_init cX5_init 1 none rm_X5_init [.ref (ad x0)] G A ad M (QV G A ad M') 0 0 := by
  refine ct_start (by decide) (Nat.le_of_ble_eq_true rfl) ?_
  intro p e s m args below meth c ls C hin hw hl
  have C : Cx G A p s m args meth c RX5 cX5_init 1 none := C
  have hl : lv_has ls 1 [(0, .ref (ad x0))] := hl
  obtain ⟨hx, hb, -⟩ := id C
  rw [f_X5_init] at hf
  refine lv_aload_n hx hb dX5_init_0 rfl (lv_at hl 0 rfl) ?_
  refine r_obj C hl.1 mk_X5_1 ob_i ob_c (Nat.le_of_ble_eq_true rfl) (Nat.le_of_ble_eq_true rfl) dX5_init_1 ?_
  refine W.widen (k := 0) (n := 0) (Nat.le_of_ble_eq_true rfl) (Nat.le_of_ble_eq_true rfl) ?_
  exact e_vret C hw hf dX5_init_4
/-! StorkVote$Sheet.<init>()V -/
abbrev rm_X2_init : Room := { frames := 1, cells := 1, slots := 24, locals := 21 }
def f_X2_init (M : Mem) (x0 : Nat) : Option (Unit × Mem) := gt (mT M x0) 3 (st (setI M x0 0 (-1)) (fun M2 => nw M2 20 24 (fun M6 n7 => st (setP M6 x0 2 n7) (fun M12 => some ((), M12)))))
set_option maxHeartbeats 40000000 in
set_option maxRecDepth 100000 in
theorem c_X2_init (l : Launch) (G : Gd) (A : Nat → Prop) (ad : Nat → Nat) {M : Mem} {x0 : Nat}  {M' : Mem} (hf : f_X2_init M x0 = some ((), M')) : Ct l yX2_init cX2_init 1 none rm_X2_init [.ref (ad x0)] G A ad M (QVa G A ad M M') 1 24 := by
  refine ct_start (by decide) (Nat.le_of_ble_eq_true rfl) ?_
  intro p e s m args below meth c ls C hin hw hl
  have C : Cx G A p s m args meth c RX2 cX2_init 1 none := C
  have hl : lv_has ls 1 [(0, .ref (ad x0))] := hl
  obtain ⟨hx, hb, -⟩ := id C
  rw [f_X2_init] at hf
  refine lv_aload_n hx hb dX2_init_0 rfl (lv_at hl 0 rfl) ?_
  refine r_obj C hl.1 mk_X2_3 ob_i ob_c (Nat.le_of_ble_eq_true rfl) (Nat.le_of_ble_eq_true rfl) dX2_init_1 ?_
  refine lv_aload_n hx hb dX2_init_4 rfl (lv_at hl 0 rfl) ?_
  refine lv_iconst (v := (-1)) hx hb dX2_init_5 (by decide) ?_
  obtain ⟨hT1, hf⟩ := gt_inv hf
  obtain ⟨M2, e3, hf⟩ := st_inv hf
  have g4 := sg_I e3
  refine r_putI C hw cf2 0 (by decide) rfl hT1 e3 fl_X2_9 rfl rfl rfl dX2_init_6 (fun H locs hw => ?_)
  refine lv_aload_n hx hb dX2_init_9 rfl (lv_at hl 0 rfl) ?_
  refine lv_bipush (v := 24) hx hb dX2_init_10 (by decide) ?_
  have hl := lv_sub hl (l' := []) [] rfl
  have lt5 := T_lt hw (T_of g4 hT1) (by decide)
  obtain ⟨M6, n7, e8, en9, hf⟩ := nw_inv hf
  refine r_newa (atype := .int) (ty := .int) C hw 0 rfl rfl (by decide) rfl e8 en9 ar_int (by decide) (by decide) (Nat.le_of_ble_eq_true rfl) (Nat.le_of_ble_eq_true rfl) (Nat.le_of_ble_eq_true rfl) dX2_init_12 (fun ad11 H hk10 hw => ?_)
  rw [← hk10 x0 lt5]
  obtain ⟨M12, e13, hf⟩ := st_inv hf
  have g14 := sg_P e13
  refine r_putFP C (hin.trans rfl) hw cf2 2 (by decide) rfl (T_old e8 lt5 (T_of g4 hT1)) (T_ne (T_new e8 en9) (by decide)) e13 fk_X2_15 rfl rfl rfl rfl dX2_init_14 (fun H locs hw => ?_)
  refine W.widen (k := 1) (n := 24) (Nat.le_of_ble_eq_true rfl) (Nat.le_of_ble_eq_true rfl) ?_
  exact e_vretA C hw (Ag.tr Ag.rf hk10 (N_of1 g4 (Nat.le_refl _))) hf dX2_init_17
/-! StorkVote$Slot.<init>()V -/
abbrev rm_X3_init : Room := { frames := 2, cells := 3, slots := 31, locals := 41 }
def f_X3_init (M : Mem) (x0 : Nat) : Option (Unit × Mem) := gt (mT M x0) 4 (st (setI M x0 0 0) (fun M2 => nw M2 1 0 (fun M6 n7 => cl (f_X0_init M6 n7) (fun _ M14 => gd (decide (mN M ≤ mN M14)) (gt (mT M14 x0) 4 (gt (mT M14 n7) 1 (st (setP M14 x0 1 n7) (fun M22 => nw M22 3 0 (fun M26 n27 => cl (f_X2_init M26 n27) (fun _ M34 => gd (decide (mN M ≤ mN M34)) (gt (mT M34 x0) 4 (gt (mT M34 n27) 3 (st (setP M34 x0 2 n27) (fun M42 => some ((), M42)))))))))))))))
set_option maxHeartbeats 40000000 in
set_option maxRecDepth 100000 in
theorem c_X3_init (l : Launch) (G : Gd) (A : Nat → Prop) (ad : Nat → Nat) {M : Mem} {x0 : Nat}  {M' : Mem} (hf : f_X3_init M x0 = some ((), M')) : Ct l yX3_init cX3_init 1 none rm_X3_init [.ref (ad x0)] G A ad M (QVa G A ad M M') 3 31 := by
  refine ct_start (by decide) (Nat.le_of_ble_eq_true rfl) ?_
  intro p e s m args below meth c ls C hin hw hl
  have C : Cx G A p s m args meth c RX3 cX3_init 1 none := C
  have hl : lv_has ls 1 [(0, .ref (ad x0))] := hl
  obtain ⟨hx, hb, -⟩ := id C
  rw [f_X3_init] at hf
  refine lv_aload_n hx hb dX3_init_0 rfl (lv_at hl 0 rfl) ?_
  refine r_obj C hl.1 mk_X3_3 ob_i ob_c (Nat.le_of_ble_eq_true rfl) (Nat.le_of_ble_eq_true rfl) dX3_init_1 ?_
  refine lv_aload_n hx hb dX3_init_4 rfl (lv_at hl 0 rfl) ?_
  refine lv_iconst (v := 0) hx hb dX3_init_5 (by decide) ?_
  obtain ⟨hT1, hf⟩ := gt_inv hf
  obtain ⟨M2, e3, hf⟩ := st_inv hf
  have g4 := sg_I e3
  refine r_putI C hw cf3 0 (by decide) rfl hT1 e3 fl_X3_9 rfl rfl rfl dX3_init_6 (fun H locs hw => ?_)
  refine lv_aload_n hx hb dX3_init_9 rfl (lv_at hl 0 rfl) ?_
  have lt5 := T_lt hw (T_of g4 hT1) (by decide)
  obtain ⟨M6, n7, e8, en9, hf⟩ := nw_inv hf
  refine r_new C hw cf0 df0 e8 en9 kl_X3_15 in0 ii0 (Nat.le_of_ble_eq_true rfl) (Nat.le_of_ble_eq_true rfl) dX3_init_10 (fun ad11 H hk10 hw => ?_)
  rw [← hk10 x0 lt5] at hl
  rw [← hk10 x0 lt5]
  refine lv_dup hx hb dX3_init_13 rfl ?_
  have lt12 := T_lt hw (T_old e8 lt5 (T_of g4 hT1)) (by decide)
  have lt13 := T_lt hw (T_new e8 en9) (by decide)
  obtain ⟨⟨⟩, M14, hc15, hf⟩ := cl_inv hf
  refine fin_V (run_I C hw mf_X0_init mj_X0_init ml_X3_17 (c_X0_init l G A ad11 hc15) (As := []) (rest := [.ref (ad11 n7), .ref (ad11 x0)]) hl.1 rfl rfl (Nat.le_of_ble_eq_true rfl) ⟨rfl, rfl, Nat.le_of_ble_eq_true rfl, Nat.le_of_ble_eq_true rfl⟩ ⟨Nat.le_of_ble_eq_true rfl, Nat.le_of_ble_eq_true rfl⟩ dX3_init_14) hw (fun H locs hw => ?_)
  obtain ⟨mo19, hf⟩ := gd_inv hf
  obtain ⟨hT20, hf⟩ := gt_inv hf
  obtain ⟨hT21, hf⟩ := gt_inv hf
  obtain ⟨M22, e23, hf⟩ := st_inv hf
  have g24 := sg_P e23
  refine r_putFP C (hin.trans rfl) hw cf3 1 (by decide) rfl hT20 (T_ne hT21 (by decide)) e23 fk_X3_18 rfl rfl rfl rfl dX3_init_17 (fun H locs hw => ?_)
  refine lv_aload_n hx hb dX3_init_20 rfl (lv_at hl 0 rfl) ?_
  have hl := lv_sub hl (l' := []) [] rfl
  have lt25 := T_lt hw (T_of2 g24 hT20) (by decide)
  obtain ⟨M26, n27, e28, en29, hf⟩ := nw_inv hf
  refine r_new C hw cf2 df2 e28 en29 kl_X3_22 in2 ii2 (Nat.le_of_ble_eq_true rfl) (Nat.le_of_ble_eq_true rfl) dX3_init_21 (fun ad31 H hk30 hw => ?_)
  rw [← hk30 x0 lt25]
  refine lv_dup hx hb dX3_init_24 rfl ?_
  have lt32 := T_lt hw (T_old e28 lt25 (T_of2 g24 hT20)) (by decide)
  have lt33 := T_lt hw (T_new e28 en29) (by decide)
  obtain ⟨⟨⟩, M34, hc35, hf⟩ := cl_inv hf
  refine fin_Va (run_I C hw mf_X2_init mj_X2_init ml_X3_24 (c_X2_init l G A ad31 hc35) (As := []) (rest := [.ref (ad31 n27), .ref (ad31 x0)]) hl.1 rfl rfl (Nat.le_of_ble_eq_true rfl) ⟨rfl, rfl, Nat.le_of_ble_eq_true rfl, Nat.le_of_ble_eq_true rfl⟩ ⟨Nat.le_of_ble_eq_true rfl, Nat.le_of_ble_eq_true rfl⟩ dX3_init_25) hw (fun ad38 H locs hk37 hw => ?_)
  rw [← hk37 x0 lt32]
  rw [← hk37 n27 lt33]
  obtain ⟨mo39, hf⟩ := gd_inv hf
  obtain ⟨hT40, hf⟩ := gt_inv hf
  obtain ⟨hT41, hf⟩ := gt_inv hf
  obtain ⟨M42, e43, hf⟩ := st_inv hf
  have g44 := sg_P e43
  refine r_putFP C (hin.trans rfl) hw cf3 2 (by decide) rfl hT40 (T_ne hT41 (by decide)) e43 fk_X3_25 rfl rfl rfl rfl dX3_init_28 (fun H locs hw => ?_)
  refine W.widen (k := 3) (n := 31) (Nat.le_of_ble_eq_true rfl) (Nat.le_of_ble_eq_true rfl) ?_
  exact e_vretA C hw (Ag.tr (Ag.tr (Ag.tr Ag.rf hk10 (N_of1 g4 (Nat.le_refl _))) hk30 (N_of2 g24 (of_decide_eq_true mo19))) hk37 (Nat.le_trans (N_of2 g24 (of_decide_eq_true mo19)) (N_new e28))) hf dX3_init_31
/-! StorkVote$Tape.<init>()V -/
abbrev rm_X6_init : Room := { frames := 1, cells := 1, slots := 96, locals := 21 }
def f_X6_init (M : Mem) (x0 : Nat) : Option (Unit × Mem) := gt (mT M x0) 7 (nw M 20 96 (fun M3 n4 => st (setP M3 x0 0 n4) (fun M9 => some ((), M9))))
set_option maxHeartbeats 40000000 in
set_option maxRecDepth 100000 in
theorem c_X6_init (l : Launch) (G : Gd) (A : Nat → Prop) (ad : Nat → Nat) {M : Mem} {x0 : Nat}  {M' : Mem} (hf : f_X6_init M x0 = some ((), M')) : Ct l yX6_init cX6_init 1 none rm_X6_init [.ref (ad x0)] G A ad M (QVa G A ad M M') 1 96 := by
  refine ct_start (by decide) (Nat.le_of_ble_eq_true rfl) ?_
  intro p e s m args below meth c ls C hin hw hl
  have C : Cx G A p s m args meth c RX6 cX6_init 1 none := C
  have hl : lv_has ls 1 [(0, .ref (ad x0))] := hl
  obtain ⟨hx, hb, -⟩ := id C
  rw [f_X6_init] at hf
  refine lv_aload_n hx hb dX6_init_0 rfl (lv_at hl 0 rfl) ?_
  refine r_obj C hl.1 mk_X6_3 ob_i ob_c (Nat.le_of_ble_eq_true rfl) (Nat.le_of_ble_eq_true rfl) dX6_init_1 ?_
  refine lv_aload_n hx hb dX6_init_4 rfl (lv_at hl 0 rfl) ?_
  refine lv_bipush (v := 96) hx hb dX6_init_5 (by decide) ?_
  have hl := lv_sub hl (l' := []) [] rfl
  obtain ⟨hT1, hf⟩ := gt_inv hf
  have lt2 := T_lt hw hT1 (by decide)
  obtain ⟨M3, n4, e5, en6, hf⟩ := nw_inv hf
  refine r_newa (atype := .int) (ty := .int) C hw 0 rfl rfl (by decide) rfl e5 en6 ar_int (by decide) (by decide) (Nat.le_of_ble_eq_true rfl) (Nat.le_of_ble_eq_true rfl) (Nat.le_of_ble_eq_true rfl) dX6_init_7 (fun ad8 H hk7 hw => ?_)
  rw [← hk7 x0 lt2]
  obtain ⟨M9, e10, hf⟩ := st_inv hf
  have g11 := sg_P e10
  refine r_putFP C (hin.trans rfl) hw cf6 0 (by decide) rfl (T_old e5 lt2 hT1) (T_ne (T_new e5 en6) (by decide)) e10 fk_X6_9 rfl rfl rfl rfl dX6_init_9 (fun H locs hw => ?_)
  refine W.widen (k := 1) (n := 96) (Nat.le_of_ble_eq_true rfl) (Nat.le_of_ble_eq_true rfl) ?_
  exact e_vretA C hw (Ag.tr Ag.rf hk7 (Nat.le_refl _)) hf dX6_init_12
/-! StorkVote$Spring.<init>()V -/
abbrev rm_X4_init : Room := { frames := 1, cells := 4, slots := 34, locals := 21 }
def f_X4_init (M : Mem) (x0 : Nat) : Option (Unit × Mem) := gt (mT M x0) 5 (nw M 20 10 (fun M3 n4 => st (setP M3 x0 0 n4) (fun M9 => nw M9 20 8 (fun M13 n14 => st (setP M13 x0 1 n14) (fun M19 => nw M19 20 8 (fun M23 n24 => st (setP M23 x0 2 n24) (fun M29 => nw M29 20 8 (fun M33 n34 => st (setP M33 x0 3 n34) (fun M39 => some ((), M39))))))))))
set_option maxHeartbeats 40000000 in
set_option maxRecDepth 100000 in
theorem c_X4_init (l : Launch) (G : Gd) (A : Nat → Prop) (ad : Nat → Nat) {M : Mem} {x0 : Nat}  {M' : Mem} (hf : f_X4_init M x0 = some ((), M')) : Ct l yX4_init cX4_init 1 none rm_X4_init [.ref (ad x0)] G A ad M (QVa G A ad M M') 4 34 := by
  refine ct_start (by decide) (Nat.le_of_ble_eq_true rfl) ?_
  intro p e s m args below meth c ls C hin hw hl
  have C : Cx G A p s m args meth c RX4 cX4_init 1 none := C
  have hl : lv_has ls 1 [(0, .ref (ad x0))] := hl
  obtain ⟨hx, hb, -⟩ := id C
  rw [f_X4_init] at hf
  refine lv_aload_n hx hb dX4_init_0 rfl (lv_at hl 0 rfl) ?_
  refine r_obj C hl.1 mk_X4_3 ob_i ob_c (Nat.le_of_ble_eq_true rfl) (Nat.le_of_ble_eq_true rfl) dX4_init_1 ?_
  refine lv_aload_n hx hb dX4_init_4 rfl (lv_at hl 0 rfl) ?_
  refine lv_bipush (v := 10) hx hb dX4_init_5 (by decide) ?_
  obtain ⟨hT1, hf⟩ := gt_inv hf
  have lt2 := T_lt hw hT1 (by decide)
  obtain ⟨M3, n4, e5, en6, hf⟩ := nw_inv hf
  refine r_newa (atype := .int) (ty := .int) C hw 0 rfl rfl (by decide) rfl e5 en6 ar_int (by decide) (by decide) (Nat.le_of_ble_eq_true rfl) (Nat.le_of_ble_eq_true rfl) (Nat.le_of_ble_eq_true rfl) dX4_init_7 (fun ad8 H hk7 hw => ?_)
  rw [← hk7 x0 lt2] at hl
  rw [← hk7 x0 lt2]
  obtain ⟨M9, e10, hf⟩ := st_inv hf
  have g11 := sg_P e10
  refine r_putFP C (hin.trans rfl) hw cf4 0 (by decide) rfl (T_old e5 lt2 hT1) (T_ne (T_new e5 en6) (by decide)) e10 fk_X4_9 rfl rfl rfl rfl dX4_init_9 (fun H locs hw => ?_)
  refine lv_aload_n hx hb dX4_init_12 rfl (lv_at hl 0 rfl) ?_
  refine lv_bipush (v := 8) hx hb dX4_init_13 (by decide) ?_
  have lt12 := T_lt hw (T_of2 g11 (T_old e5 lt2 hT1)) (by decide)
  obtain ⟨M13, n14, e15, en16, hf⟩ := nw_inv hf
  refine r_newa (atype := .int) (ty := .int) C hw 0 rfl rfl (by decide) rfl e15 en16 ar_int (by decide) (by decide) (Nat.le_of_ble_eq_true rfl) (Nat.le_of_ble_eq_true rfl) (Nat.le_of_ble_eq_true rfl) dX4_init_15 (fun ad18 H hk17 hw => ?_)
  rw [← hk17 x0 lt12] at hl
  rw [← hk17 x0 lt12]
  obtain ⟨M19, e20, hf⟩ := st_inv hf
  have g21 := sg_P e20
  refine r_putFP C (hin.trans rfl) hw cf4 1 (by decide) rfl (T_old e15 lt12 (T_of2 g11 (T_old e5 lt2 hT1))) (T_ne (T_new e15 en16) (by decide)) e20 fk_X4_15 rfl rfl rfl rfl dX4_init_17 (fun H locs hw => ?_)
  refine lv_aload_n hx hb dX4_init_20 rfl (lv_at hl 0 rfl) ?_
  refine lv_bipush (v := 8) hx hb dX4_init_21 (by decide) ?_
  have lt22 := T_lt hw (T_of2 g21 (T_old e15 lt12 (T_of2 g11 (T_old e5 lt2 hT1)))) (by decide)
  obtain ⟨M23, n24, e25, en26, hf⟩ := nw_inv hf
  refine r_newa (atype := .int) (ty := .int) C hw 0 rfl rfl (by decide) rfl e25 en26 ar_int (by decide) (by decide) (Nat.le_of_ble_eq_true rfl) (Nat.le_of_ble_eq_true rfl) (Nat.le_of_ble_eq_true rfl) dX4_init_23 (fun ad28 H hk27 hw => ?_)
  rw [← hk27 x0 lt22] at hl
  rw [← hk27 x0 lt22]
  obtain ⟨M29, e30, hf⟩ := st_inv hf
  have g31 := sg_P e30
  refine r_putFP C (hin.trans rfl) hw cf4 2 (by decide) rfl (T_old e25 lt22 (T_of2 g21 (T_old e15 lt12 (T_of2 g11 (T_old e5 lt2 hT1))))) (T_ne (T_new e25 en26) (by decide)) e30 fk_X4_18 rfl rfl rfl rfl dX4_init_25 (fun H locs hw => ?_)
  refine lv_aload_n hx hb dX4_init_28 rfl (lv_at hl 0 rfl) ?_
  refine lv_bipush (v := 8) hx hb dX4_init_29 (by decide) ?_
  have hl := lv_sub hl (l' := []) [] rfl
  have lt32 := T_lt hw (T_of2 g31 (T_old e25 lt22 (T_of2 g21 (T_old e15 lt12 (T_of2 g11 (T_old e5 lt2 hT1)))))) (by decide)
  obtain ⟨M33, n34, e35, en36, hf⟩ := nw_inv hf
  refine r_newa (atype := .int) (ty := .int) C hw 0 rfl rfl (by decide) rfl e35 en36 ar_int (by decide) (by decide) (Nat.le_of_ble_eq_true rfl) (Nat.le_of_ble_eq_true rfl) (Nat.le_of_ble_eq_true rfl) dX4_init_31 (fun ad38 H hk37 hw => ?_)
  rw [← hk37 x0 lt32]
  obtain ⟨M39, e40, hf⟩ := st_inv hf
  have g41 := sg_P e40
  refine r_putFP C (hin.trans rfl) hw cf4 3 (by decide) rfl (T_old e35 lt32 (T_of2 g31 (T_old e25 lt22 (T_of2 g21 (T_old e15 lt12 (T_of2 g11 (T_old e5 lt2 hT1))))))) (T_ne (T_new e35 en36) (by decide)) e40 fk_X4_21 rfl rfl rfl rfl dX4_init_33 (fun H locs hw => ?_)
  refine W.widen (k := 4) (n := 34) (Nat.le_of_ble_eq_true rfl) (Nat.le_of_ble_eq_true rfl) ?_
  exact e_vretA C hw (Ag.tr (Ag.tr (Ag.tr (Ag.tr Ag.rf hk7 (Nat.le_refl _)) hk17 (N_of2 g11 (Nat.le_trans (Nat.le_refl _) (N_new e5)))) hk27 (N_of2 g21 (Nat.le_trans (N_of2 g11 (Nat.le_trans (Nat.le_refl _) (N_new e5))) (N_new e15)))) hk37 (N_of2 g31 (Nat.le_trans (N_of2 g21 (Nat.le_trans (N_of2 g11 (Nat.le_trans (Nat.le_refl _) (N_new e5))) (N_new e15))) (N_new e25)))) hf dX4_init_36
/-! StorkVote$Reader.<init>()V -/
abbrev rm_X1_init : Room := { frames := 1, cells := 2, slots := 192, locals := 21 }
def f_X1_init (M : Mem) (x0 : Nat) : Option (Unit × Mem) := gt (mT M x0) 2 (nw M 20 96 (fun M3 n4 => st (setP M3 x0 0 n4) (fun M9 => nw M9 20 96 (fun M13 n14 => st (setP M13 x0 2 n14) (fun M19 => some ((), M19))))))
set_option maxHeartbeats 40000000 in
set_option maxRecDepth 100000 in
theorem c_X1_init (l : Launch) (G : Gd) (A : Nat → Prop) (ad : Nat → Nat) {M : Mem} {x0 : Nat}  {M' : Mem} (hf : f_X1_init M x0 = some ((), M')) : Ct l yX1_init cX1_init 1 none rm_X1_init [.ref (ad x0)] G A ad M (QVa G A ad M M') 2 192 := by
  refine ct_start (by decide) (Nat.le_of_ble_eq_true rfl) ?_
  intro p e s m args below meth c ls C hin hw hl
  have C : Cx G A p s m args meth c RX1 cX1_init 1 none := C
  have hl : lv_has ls 1 [(0, .ref (ad x0))] := hl
  obtain ⟨hx, hb, -⟩ := id C
  rw [f_X1_init] at hf
  refine lv_aload_n hx hb dX1_init_0 rfl (lv_at hl 0 rfl) ?_
  refine r_obj C hl.1 mk_X1_3 ob_i ob_c (Nat.le_of_ble_eq_true rfl) (Nat.le_of_ble_eq_true rfl) dX1_init_1 ?_
  refine lv_aload_n hx hb dX1_init_4 rfl (lv_at hl 0 rfl) ?_
  refine lv_bipush (v := 96) hx hb dX1_init_5 (by decide) ?_
  obtain ⟨hT1, hf⟩ := gt_inv hf
  have lt2 := T_lt hw hT1 (by decide)
  obtain ⟨M3, n4, e5, en6, hf⟩ := nw_inv hf
  refine r_newa (atype := .int) (ty := .int) C hw 0 rfl rfl (by decide) rfl e5 en6 ar_int (by decide) (by decide) (Nat.le_of_ble_eq_true rfl) (Nat.le_of_ble_eq_true rfl) (Nat.le_of_ble_eq_true rfl) dX1_init_7 (fun ad8 H hk7 hw => ?_)
  rw [← hk7 x0 lt2] at hl
  rw [← hk7 x0 lt2]
  obtain ⟨M9, e10, hf⟩ := st_inv hf
  have g11 := sg_P e10
  refine r_putFP C (hin.trans rfl) hw cf1 0 (by decide) rfl (T_old e5 lt2 hT1) (T_ne (T_new e5 en6) (by decide)) e10 fk_X1_9 rfl rfl rfl rfl dX1_init_9 (fun H locs hw => ?_)
  refine lv_aload_n hx hb dX1_init_12 rfl (lv_at hl 0 rfl) ?_
  refine lv_bipush (v := 96) hx hb dX1_init_13 (by decide) ?_
  have hl := lv_sub hl (l' := []) [] rfl
  have lt12 := T_lt hw (T_of2 g11 (T_old e5 lt2 hT1)) (by decide)
  obtain ⟨M13, n14, e15, en16, hf⟩ := nw_inv hf
  refine r_newa (atype := .int) (ty := .int) C hw 0 rfl rfl (by decide) rfl e15 en16 ar_int (by decide) (by decide) (Nat.le_of_ble_eq_true rfl) (Nat.le_of_ble_eq_true rfl) (Nat.le_of_ble_eq_true rfl) dX1_init_15 (fun ad18 H hk17 hw => ?_)
  rw [← hk17 x0 lt12]
  obtain ⟨M19, e20, hf⟩ := st_inv hf
  have g21 := sg_P e20
  refine r_putFP C (hin.trans rfl) hw cf1 2 (by decide) rfl (T_old e15 lt12 (T_of2 g11 (T_old e5 lt2 hT1))) (T_ne (T_new e15 en16) (by decide)) e20 fk_X1_15 rfl rfl rfl rfl dX1_init_17 (fun H locs hw => ?_)
  refine W.widen (k := 2) (n := 192) (Nat.le_of_ble_eq_true rfl) (Nat.le_of_ble_eq_true rfl) ?_
  exact e_vretA C hw (Ag.tr (Ag.tr Ag.rf hk7 (Nat.le_refl _)) hk17 (N_of2 g11 (Nat.le_trans (Nat.le_refl _) (N_new e5)))) hf dX1_init_20
/-! StorkVote$World.<init>()V -/
abbrev rm_X8_init : Room := { frames := 2, cells := 23, slots := 193, locals := 41 }
def f_X8_init (M : Mem) (x0 : Nat) : Option (Unit × Mem) := gt (mT M x0) 9 (nw M 23 8 (fun M3 n4 => st (setP M3 x0 0 n4) (fun M9 => nw M9 24 10 (fun M13 n14 => st (setP M13 x0 2 n14) (fun M19 => nw M19 20 3 (fun M23 n24 => gd (ib 0 (mL M23 n24)) (st (setI M23 n24 (0 : Int32).toNatClampNeg 10) (fun M30 => gd (ib 1 (mL M30 n24)) (st (setI M30 n24 (1 : Int32).toNatClampNeg 30) (fun M34 => gd (ib 2 (mL M34 n24)) (st (setI M34 n24 (2 : Int32).toNatClampNeg 20) (fun M38 => st (setP M38 x0 4 n24) (fun M41 => st (setI M41 x0 6 1) (fun M44 => nw M44 25 14 (fun M48 n49 => st (setP M48 x0 7 n49) (fun M54 => nw M54 20 96 (fun M58 n59 => st (setP M58 x0 9 n59) (fun M64 => lp (mP M64 x0 0) (fun a67 => gt (mT M64 a67) 23 (nw M64 1 0 (fun M72 n73 => cl (f_X0_init M72 n73) (fun _ M81 => gd (decide (mN M ≤ mN M81)) (gt (mT M81 a67) 23 (gt (mT M81 n73) 1 (gd (ib 0 (mL M81 a67)) (st (setP M81 a67 (0 : Int32).toNatClampNeg n73) (fun M90 => gt (mT M90 x0) 9 (lp (mP M90 x0 0) (fun a94 => gt (mT M90 a94) 23 (nw M90 1 0 (fun M99 n100 => cl (f_X0_init M99 n100) (fun _ M108 => gd (decide (mN M ≤ mN M108)) (gt (mT M108 a94) 23 (gt (mT M108 n100) 1 (gd (ib 1 (mL M108 a94)) (st (setP M108 a94 (1 : Int32).toNatClampNeg n100) (fun M117 => gt (mT M117 x0) 9 (lp (mP M117 x0 0) (fun a121 => gt (mT M117 a121) 23 (nw M117 1 0 (fun M126 n127 => cl (f_X0_init M126 n127) (fun _ M135 => gd (decide (mN M ≤ mN M135)) (gt (mT M135 a121) 23 (gt (mT M135 n127) 1 (gd (ib 2 (mL M135 a121)) (st (setP M135 a121 (2 : Int32).toNatClampNeg n127) (fun M144 => gt (mT M144 x0) 9 (lp (mP M144 x0 0) (fun a148 => gt (mT M144 a148) 23 (nw M144 1 0 (fun M153 n154 => cl (f_X0_init M153 n154) (fun _ M162 => gd (decide (mN M ≤ mN M162)) (gt (mT M162 a148) 23 (gt (mT M162 n154) 1 (gd (ib 3 (mL M162 a148)) (st (setP M162 a148 (3 : Int32).toNatClampNeg n154) (fun M171 => gt (mT M171 x0) 9 (lp (mP M171 x0 0) (fun a175 => gt (mT M171 a175) 23 (nw M171 1 0 (fun M180 n181 => cl (f_X0_init M180 n181) (fun _ M189 => gd (decide (mN M ≤ mN M189)) (gt (mT M189 a175) 23 (gt (mT M189 n181) 1 (gd (ib 4 (mL M189 a175)) (st (setP M189 a175 (4 : Int32).toNatClampNeg n181) (fun M198 => gt (mT M198 x0) 9 (lp (mP M198 x0 0) (fun a202 => gt (mT M198 a202) 23 (nw M198 1 0 (fun M207 n208 => cl (f_X0_init M207 n208) (fun _ M216 => gd (decide (mN M ≤ mN M216)) (gt (mT M216 a202) 23 (gt (mT M216 n208) 1 (gd (ib 5 (mL M216 a202)) (st (setP M216 a202 (5 : Int32).toNatClampNeg n208) (fun M225 => gt (mT M225 x0) 9 (lp (mP M225 x0 0) (fun a229 => gt (mT M225 a229) 23 (nw M225 1 0 (fun M234 n235 => cl (f_X0_init M234 n235) (fun _ M243 => gd (decide (mN M ≤ mN M243)) (gt (mT M243 a229) 23 (gt (mT M243 n235) 1 (gd (ib 6 (mL M243 a229)) (st (setP M243 a229 (6 : Int32).toNatClampNeg n235) (fun M252 => gt (mT M252 x0) 9 (lp (mP M252 x0 0) (fun a256 => gt (mT M252 a256) 23 (nw M252 1 0 (fun M261 n262 => cl (f_X0_init M261 n262) (fun _ M270 => gd (decide (mN M ≤ mN M270)) (gt (mT M270 a256) 23 (gt (mT M270 n262) 1 (gd (ib 7 (mL M270 a256)) (st (setP M270 a256 (7 : Int32).toNatClampNeg n262) (fun M279 => gt (mT M279 x0) 9 (lp (mP M279 x0 2) (fun a283 => gt (mT M279 a283) 24 (nw M279 6 0 (fun M288 n289 => cl (f_X5_init M288 n289) (fun _ M297 => gd (decide (mN M ≤ mN M297)) (gt (mT M297 a283) 24 (gt (mT M297 n289) 6 (gd (ib 0 (mL M297 a283)) (st (setP M297 a283 (0 : Int32).toNatClampNeg n289) (fun M306 => gt (mT M306 x0) 9 (lp (mP M306 x0 2) (fun a310 => gt (mT M306 a310) 24 (nw M306 6 0 (fun M315 n316 => cl (f_X5_init M315 n316) (fun _ M324 => gd (decide (mN M ≤ mN M324)) (gt (mT M324 a310) 24 (gt (mT M324 n316) 6 (gd (ib 1 (mL M324 a310)) (st (setP M324 a310 (1 : Int32).toNatClampNeg n316) (fun M333 => gt (mT M333 x0) 9 (lp (mP M333 x0 2) (fun a337 => gt (mT M333 a337) 24 (nw M333 6 0 (fun M342 n343 => cl (f_X5_init M342 n343) (fun _ M351 => gd (decide (mN M ≤ mN M351)) (gt (mT M351 a337) 24 (gt (mT M351 n343) 6 (gd (ib 2 (mL M351 a337)) (st (setP M351 a337 (2 : Int32).toNatClampNeg n343) (fun M360 => gt (mT M360 x0) 9 (lp (mP M360 x0 2) (fun a364 => gt (mT M360 a364) 24 (nw M360 6 0 (fun M369 n370 => cl (f_X5_init M369 n370) (fun _ M378 => gd (decide (mN M ≤ mN M378)) (gt (mT M378 a364) 24 (gt (mT M378 n370) 6 (gd (ib 3 (mL M378 a364)) (st (setP M378 a364 (3 : Int32).toNatClampNeg n370) (fun M387 => gt (mT M387 x0) 9 (lp (mP M387 x0 2) (fun a391 => gt (mT M387 a391) 24 (nw M387 6 0 (fun M396 n397 => cl (f_X5_init M396 n397) (fun _ M405 => gd (decide (mN M ≤ mN M405)) (gt (mT M405 a391) 24 (gt (mT M405 n397) 6 (gd (ib 4 (mL M405 a391)) (st (setP M405 a391 (4 : Int32).toNatClampNeg n397) (fun M414 => gt (mT M414 x0) 9 (lp (mP M414 x0 2) (fun a418 => gt (mT M414 a418) 24 (nw M414 6 0 (fun M423 n424 => cl (f_X5_init M423 n424) (fun _ M432 => gd (decide (mN M ≤ mN M432)) (gt (mT M432 a418) 24 (gt (mT M432 n424) 6 (gd (ib 5 (mL M432 a418)) (st (setP M432 a418 (5 : Int32).toNatClampNeg n424) (fun M441 => gt (mT M441 x0) 9 (lp (mP M441 x0 2) (fun a445 => gt (mT M441 a445) 24 (nw M441 6 0 (fun M450 n451 => cl (f_X5_init M450 n451) (fun _ M459 => gd (decide (mN M ≤ mN M459)) (gt (mT M459 a445) 24 (gt (mT M459 n451) 6 (gd (ib 6 (mL M459 a445)) (st (setP M459 a445 (6 : Int32).toNatClampNeg n451) (fun M468 => gt (mT M468 x0) 9 (lp (mP M468 x0 2) (fun a472 => gt (mT M468 a472) 24 (nw M468 6 0 (fun M477 n478 => cl (f_X5_init M477 n478) (fun _ M486 => gd (decide (mN M ≤ mN M486)) (gt (mT M486 a472) 24 (gt (mT M486 n478) 6 (gd (ib 7 (mL M486 a472)) (st (setP M486 a472 (7 : Int32).toNatClampNeg n478) (fun M495 => gt (mT M495 x0) 9 (lp (mP M495 x0 2) (fun a499 => gt (mT M495 a499) 24 (nw M495 6 0 (fun M504 n505 => cl (f_X5_init M504 n505) (fun _ M513 => gd (decide (mN M ≤ mN M513)) (gt (mT M513 a499) 24 (gt (mT M513 n505) 6 (gd (ib 8 (mL M513 a499)) (st (setP M513 a499 (8 : Int32).toNatClampNeg n505) (fun M522 => gt (mT M522 x0) 9 (lp (mP M522 x0 2) (fun a526 => gt (mT M522 a526) 24 (nw M522 6 0 (fun M531 n532 => cl (f_X5_init M531 n532) (fun _ M540 => gd (decide (mN M ≤ mN M540)) (gt (mT M540 a526) 24 (gt (mT M540 n532) 6 (gd (ib 9 (mL M540 a526)) (st (setP M540 a526 (9 : Int32).toNatClampNeg n532) (fun M549 => some ((), M549))))))))))))))))))))))))))))))))))))))))))))))))))))))))))))))))))))))))))))))))))))))))))))))))))))))))))))))))))))))))))))))))))))))))))))))))))))))))))))))))))))))))))))))))))))))))))))))))))))))
set_option maxHeartbeats 40000000 in
set_option maxRecDepth 100000 in
theorem c_X8_init (l : Launch) (G : Gd) (A : Nat → Prop) (ad : Nat → Nat) {M : Mem} {x0 : Nat}  {M' : Mem} (hf : f_X8_init M x0 = some ((), M')) : Ct l yX8_init cX8_init 2 none rm_X8_init [.ref (ad x0)] G A ad M (QVa G A ad M M') 23 193 := by
  refine ct_start (by decide) (Nat.le_of_ble_eq_true rfl) ?_
  intro p e s m args below meth c ls C hin hw hl
  have C : Cx G A p s m args meth c RX8 cX8_init 2 none := C
  have hl : lv_has ls 2 [(0, .ref (ad x0))] := hl
  obtain ⟨hx, hb, -⟩ := id C
  rw [f_X8_init] at hf
  refine lv_aload_n hx hb dX8_init_0 rfl (lv_at hl 0 rfl) ?_
  refine r_obj C hl.1 mk_X8_3 ob_i ob_c (Nat.le_of_ble_eq_true rfl) (Nat.le_of_ble_eq_true rfl) dX8_init_1 ?_
  refine lv_aload_n hx hb dX8_init_4 rfl (lv_at hl 0 rfl) ?_
  refine lv_bipush (v := 8) hx hb dX8_init_5 (by decide) ?_
  obtain ⟨hT1, hf⟩ := gt_inv hf
  have lt2 := T_lt hw hT1 (by decide)
  obtain ⟨M3, n4, e5, en6, hf⟩ := nw_inv hf
  refine r_newq C hw 3 rfl (by decide) e5 en6 kl_X8_9 C.2.2.2.2.2.1.2.2.1.1 (by decide) (by decide) (Nat.le_of_ble_eq_true rfl) (Nat.le_of_ble_eq_true rfl) (Nat.le_of_ble_eq_true rfl) dX8_init_7 (fun ad8 H hk7 hw => ?_)
  rw [← hk7 x0 lt2] at hl
  rw [← hk7 x0 lt2]
  obtain ⟨M9, e10, hf⟩ := st_inv hf
  have g11 := sg_P e10
  refine r_putFP C (hin.trans rfl) hw cf8 0 (by decide) rfl (T_old e5 lt2 hT1) (T_ne (T_new e5 en6) (by decide)) e10 fk_X8_11 rfl rfl rfl rfl dX8_init_10 (fun H locs hw => ?_)
  refine lv_aload_n hx hb dX8_init_13 rfl (lv_at hl 0 rfl) ?_
  refine lv_bipush (v := 10) hx hb dX8_init_14 (by decide) ?_
  have lt12 := T_lt hw (T_of2 g11 (T_old e5 lt2 hT1)) (by decide)
  obtain ⟨M13, n14, e15, en16, hf⟩ := nw_inv hf
  refine r_newq C hw 4 rfl (by decide) e15 en16 kl_X8_17 C.2.2.2.2.2.1.2.2.1.2.1 (by decide) (by decide) (Nat.le_of_ble_eq_true rfl) (Nat.le_of_ble_eq_true rfl) (Nat.le_of_ble_eq_true rfl) dX8_init_16 (fun ad18 H hk17 hw => ?_)
  rw [← hk17 x0 lt12] at hl
  rw [← hk17 x0 lt12]
  obtain ⟨M19, e20, hf⟩ := st_inv hf
  have g21 := sg_P e20
  refine r_putFP C (hin.trans rfl) hw cf8 2 (by decide) rfl (T_old e15 lt12 (T_of2 g11 (T_old e5 lt2 hT1))) (T_ne (T_new e15 en16) (by decide)) e20 fk_X8_19 rfl rfl rfl rfl dX8_init_19 (fun H locs hw => ?_)
  refine lv_aload_n hx hb dX8_init_22 rfl (lv_at hl 0 rfl) ?_
  refine lv_iconst (v := 3) hx hb dX8_init_23 (by decide) ?_
  have lt22 := T_lt hw (T_of2 g21 (T_old e15 lt12 (T_of2 g11 (T_old e5 lt2 hT1)))) (by decide)
  obtain ⟨M23, n24, e25, en26, hf⟩ := nw_inv hf
  refine r_newa (atype := .int) (ty := .int) C hw 0 rfl rfl (by decide) rfl e25 en26 ar_int (by decide) (by decide) (Nat.le_of_ble_eq_true rfl) (Nat.le_of_ble_eq_true rfl) (Nat.le_of_ble_eq_true rfl) dX8_init_24 (fun ad28 H hk27 hw => ?_)
  rw [← hk27 x0 lt22] at hl
  rw [← hk27 x0 lt22]
  refine lv_dup hx hb dX8_init_26 rfl ?_
  refine lv_iconst (v := 0) hx hb dX8_init_27 (by decide) ?_
  refine lv_bipush (v := 10) hx hb dX8_init_28 (by decide) ?_
  obtain ⟨hg29, hf⟩ := gd_inv hf
  obtain ⟨M30, e31, hf⟩ := st_inv hf
  have g32 := sg_I e31
  refine r_iast C hw (T_new e25 en26) hg29 e31 dX8_init_30 (fun H locs hw => ?_)
  refine lv_dup hx hb dX8_init_31 rfl ?_
  refine lv_iconst (v := 1) hx hb dX8_init_32 (by decide) ?_
  refine lv_bipush (v := 30) hx hb dX8_init_33 (by decide) ?_
  obtain ⟨hg33, hf⟩ := gd_inv hf
  obtain ⟨M34, e35, hf⟩ := st_inv hf
  have g36 := sg_I e35
  refine r_iast C hw (T_of g32 (T_new e25 en26)) hg33 e35 dX8_init_35 (fun H locs hw => ?_)
  refine lv_dup hx hb dX8_init_36 rfl ?_
  refine lv_iconst (v := 2) hx hb dX8_init_37 (by decide) ?_
  refine lv_bipush (v := 20) hx hb dX8_init_38 (by decide) ?_
  obtain ⟨hg37, hf⟩ := gd_inv hf
  obtain ⟨M38, e39, hf⟩ := st_inv hf
  have g40 := sg_I e39
  refine r_iast C hw (T_of g36 (T_of g32 (T_new e25 en26))) hg37 e39 dX8_init_40 (fun H locs hw => ?_)
  obtain ⟨M41, e42, hf⟩ := st_inv hf
  have g43 := sg_P e42
  refine r_putFP C (hin.trans rfl) hw cf8 4 (by decide) rfl (T_of g40 (T_of g36 (T_of g32 (T_old e25 lt22 (T_of2 g21 (T_old e15 lt12 (T_of2 g11 (T_old e5 lt2 hT1)))))))) (T_ne (T_of g40 (T_of g36 (T_of g32 (T_new e25 en26)))) (by decide)) e42 fk_X8_23 rfl rfl rfl rfl dX8_init_41 (fun H locs hw => ?_)
  refine lv_aload_n hx hb dX8_init_44 rfl (lv_at hl 0 rfl) ?_
  refine lv_iconst (v := 1) hx hb dX8_init_45 (by decide) ?_
  obtain ⟨M44, e45, hf⟩ := st_inv hf
  have g46 := sg_I e45
  refine r_putI C hw cf8 6 (by decide) rfl (T_of2 g43 (T_of g40 (T_of g36 (T_of g32 (T_old e25 lt22 (T_of2 g21 (T_old e15 lt12 (T_of2 g11 (T_old e5 lt2 hT1))))))))) e45 fl_X8_27 rfl rfl rfl dX8_init_46 (fun H locs hw => ?_)
  refine lv_aload_n hx hb dX8_init_49 rfl (lv_at hl 0 rfl) ?_
  refine lv_bipush (v := 14) hx hb dX8_init_50 (by decide) ?_
  have lt47 := T_lt hw (T_of g46 (T_of2 g43 (T_of g40 (T_of g36 (T_of g32 (T_old e25 lt22 (T_of2 g21 (T_old e15 lt12 (T_of2 g11 (T_old e5 lt2 hT1)))))))))) (by decide)
  obtain ⟨M48, n49, e50, en51, hf⟩ := nw_inv hf
  refine r_newq C hw 5 rfl (by decide) e50 en51 kl_X8_31 C.2.2.2.2.2.1.2.2.1.2.2.1 (by decide) (by decide) (Nat.le_of_ble_eq_true rfl) (Nat.le_of_ble_eq_true rfl) (Nat.le_of_ble_eq_true rfl) dX8_init_52 (fun ad53 H hk52 hw => ?_)
  rw [← hk52 x0 lt47] at hl
  rw [← hk52 x0 lt47]
  obtain ⟨M54, e55, hf⟩ := st_inv hf
  have g56 := sg_P e55
  refine r_putFP C (hin.trans rfl) hw cf8 7 (by decide) rfl (T_old e50 lt47 (T_of g46 (T_of2 g43 (T_of g40 (T_of g36 (T_of g32 (T_old e25 lt22 (T_of2 g21 (T_old e15 lt12 (T_of2 g11 (T_old e5 lt2 hT1))))))))))) (T_ne (T_new e50 en51) (by decide)) e55 fk_X8_33 rfl rfl rfl rfl dX8_init_55 (fun H locs hw => ?_)
  refine lv_aload_n hx hb dX8_init_58 rfl (lv_at hl 0 rfl) ?_
  refine lv_bipush (v := 96) hx hb dX8_init_59 (by decide) ?_
  have lt57 := T_lt hw (T_of2 g56 (T_old e50 lt47 (T_of g46 (T_of2 g43 (T_of g40 (T_of g36 (T_of g32 (T_old e25 lt22 (T_of2 g21 (T_old e15 lt12 (T_of2 g11 (T_old e5 lt2 hT1)))))))))))) (by decide)
  obtain ⟨M58, n59, e60, en61, hf⟩ := nw_inv hf
  refine r_newa (atype := .int) (ty := .int) C hw 0 rfl rfl (by decide) rfl e60 en61 ar_int (by decide) (by decide) (Nat.le_of_ble_eq_true rfl) (Nat.le_of_ble_eq_true rfl) (Nat.le_of_ble_eq_true rfl) dX8_init_61 (fun ad63 H hk62 hw => ?_)
  rw [← hk62 x0 lt57] at hl
  rw [← hk62 x0 lt57]
  obtain ⟨M64, e65, hf⟩ := st_inv hf
  have g66 := sg_P e65
  refine r_putFP C (hin.trans rfl) hw cf8 9 (by decide) rfl (T_old e60 lt57 (T_of2 g56 (T_old e50 lt47 (T_of g46 (T_of2 g43 (T_of g40 (T_of g36 (T_of g32 (T_old e25 lt22 (T_of2 g21 (T_old e15 lt12 (T_of2 g11 (T_old e5 lt2 hT1))))))))))))) (T_ne (T_new e60 en61) (by decide)) e65 fk_X8_37 rfl rfl rfl rfl dX8_init_63 (fun H locs hw => ?_)
  refine lv_iconst (v := 0) hx hb dX8_init_66 (by decide) ?_
  refine lv_istore_n (lv' := [(1, .int 0), (0, .ref (ad63 x0))]) hx hb dX8_init_67 rfl hl (by decide) rfl (fun ls hl => ?_)
  refine lv_iload_n hx hb dX8_init_68 rfl (lv_at hl 0 rfl) ?_
  refine lv_bipush (v := 8) hx hb dX8_init_69 (by decide) ?_
  refine lv_icmp_ge (tgt := 93) hx hb dX8_init_71 (by decide) (fun hc => absurd hc (by decide)) (fun _ => ?_)
  refine lv_aload_n hx hb dX8_init_74 rfl (lv_at hl 1 rfl) ?_
  obtain ⟨a67, hP68, hf⟩ := lp_inv hf
  refine r_getP C hw cf8 0 (by decide) rfl (T_of2 g66 (T_old e60 lt57 (T_of2 g56 (T_old e50 lt47 (T_of g46 (T_of2 g43 (T_of g40 (T_of g36 (T_of g32 (T_old e25 lt22 (T_of2 g21 (T_old e15 lt12 (T_of2 g11 (T_old e5 lt2 hT1)))))))))))))) hP68 fl_X8_11 dX8_init_75 ?_
  refine lv_iload_n hx hb dX8_init_78 rfl (lv_at hl 0 rfl) ?_
  have lt69 := T_lt hw (T_of2 g66 (T_old e60 lt57 (T_of2 g56 (T_old e50 lt47 (T_of g46 (T_of2 g43 (T_of g40 (T_of g36 (T_of g32 (T_old e25 lt22 (T_of2 g21 (T_old e15 lt12 (T_of2 g11 (T_old e5 lt2 hT1)))))))))))))) (by decide)
  obtain ⟨hT70, hf⟩ := gt_inv hf
  have lt71 := T_lt hw hT70 (by decide)
  obtain ⟨M72, n73, e74, en75, hf⟩ := nw_inv hf
  refine r_new C hw cf0 df0 e74 en75 kl_X8_9 in0 ii0 (Nat.le_of_ble_eq_true rfl) (Nat.le_of_ble_eq_true rfl) dX8_init_79 (fun ad77 H hk76 hw => ?_)
  rw [← hk76 x0 lt69] at hl
  rw [← hk76 a67 lt71]
  refine lv_dup hx hb dX8_init_82 rfl ?_
  have lt78 := T_lt hw (T_old e74 lt69 (T_of2 g66 (T_old e60 lt57 (T_of2 g56 (T_old e50 lt47 (T_of g46 (T_of2 g43 (T_of g40 (T_of g36 (T_of g32 (T_old e25 lt22 (T_of2 g21 (T_old e15 lt12 (T_of2 g11 (T_old e5 lt2 hT1))))))))))))))) (by decide)
  have lt79 := T_lt hw (T_old e74 lt71 hT70) (by decide)
  have lt80 := T_lt hw (T_new e74 en75) (by decide)
  obtain ⟨⟨⟩, M81, hc82, hf⟩ := cl_inv hf
  refine fin_V (run_I C hw mf_X0_init mj_X0_init ml_X8_40 (c_X0_init l G A ad77 hc82) (As := []) (rest := [.ref (ad77 n73), .int 0, .ref (ad77 a67)]) hl.1 rfl rfl (Nat.le_of_ble_eq_true rfl) ⟨rfl, rfl, Nat.le_of_ble_eq_true rfl, Nat.le_of_ble_eq_true rfl⟩ ⟨Nat.le_of_ble_eq_true rfl, Nat.le_of_ble_eq_true rfl⟩ dX8_init_83) hw (fun H locs hw => ?_)
  obtain ⟨mo86, hf⟩ := gd_inv hf
  obtain ⟨hT87, hf⟩ := gt_inv hf
  obtain ⟨hT88, hf⟩ := gt_inv hf
  obtain ⟨hg89, hf⟩ := gd_inv hf
  obtain ⟨M90, e91, hf⟩ := st_inv hf
  have g92 := sg_P e91
  refine r_aast C hw 3 cf0 rfl (by decide) (by decide) hT87 hT88 hg89 e91 dX8_init_86 (fun H locs hw => ?_)
  refine lv_iinc (v := 1) (lv' := [(1, .int 1), (0, .ref (ad77 x0))]) hx hb dX8_init_87 hl (k := 0) rfl (by decide) (by decide) rfl (fun ls hl => ?_)
  refine lv_goto (tgt := 68) hx hb dX8_init_90 (by decide) ?_
  refine lv_iload_n hx hb dX8_init_68 rfl (lv_at hl 0 rfl) ?_
  refine lv_bipush (v := 8) hx hb dX8_init_69 (by decide) ?_
  refine lv_icmp_ge (tgt := 93) hx hb dX8_init_71 (by decide) (fun hc => absurd hc (by decide)) (fun _ => ?_)
  refine lv_aload_n hx hb dX8_init_74 rfl (lv_at hl 1 rfl) ?_
  obtain ⟨hT93, hf⟩ := gt_inv hf
  obtain ⟨a94, hP95, hf⟩ := lp_inv hf
  refine r_getP C hw cf8 0 (by decide) rfl hT93 hP95 fl_X8_11 dX8_init_75 ?_
  refine lv_iload_n hx hb dX8_init_78 rfl (lv_at hl 0 rfl) ?_
  have lt96 := T_lt hw hT93 (by decide)
  obtain ⟨hT97, hf⟩ := gt_inv hf
  have lt98 := T_lt hw hT97 (by decide)
  obtain ⟨M99, n100, e101, en102, hf⟩ := nw_inv hf
  refine r_new C hw cf0 df0 e101 en102 kl_X8_9 in0 ii0 (Nat.le_of_ble_eq_true rfl) (Nat.le_of_ble_eq_true rfl) dX8_init_79 (fun ad104 H hk103 hw => ?_)
  rw [← hk103 x0 lt96] at hl
  rw [← hk103 a94 lt98]
  refine lv_dup hx hb dX8_init_82 rfl ?_
  have lt105 := T_lt hw (T_old e101 lt96 hT93) (by decide)
  have lt106 := T_lt hw (T_old e101 lt98 hT97) (by decide)
  have lt107 := T_lt hw (T_new e101 en102) (by decide)
  obtain ⟨⟨⟩, M108, hc109, hf⟩ := cl_inv hf
  refine fin_V (run_I C hw mf_X0_init mj_X0_init ml_X8_40 (c_X0_init l G A ad104 hc109) (As := []) (rest := [.ref (ad104 n100), .int 1, .ref (ad104 a94)]) hl.1 rfl rfl (Nat.le_of_ble_eq_true rfl) ⟨rfl, rfl, Nat.le_of_ble_eq_true rfl, Nat.le_of_ble_eq_true rfl⟩ ⟨Nat.le_of_ble_eq_true rfl, Nat.le_of_ble_eq_true rfl⟩ dX8_init_83) hw (fun H locs hw => ?_)
  obtain ⟨mo113, hf⟩ := gd_inv hf
  obtain ⟨hT114, hf⟩ := gt_inv hf
  obtain ⟨hT115, hf⟩ := gt_inv hf
  obtain ⟨hg116, hf⟩ := gd_inv hf
  obtain ⟨M117, e118, hf⟩ := st_inv hf
  have g119 := sg_P e118
  refine r_aast C hw 3 cf0 rfl (by decide) (by decide) hT114 hT115 hg116 e118 dX8_init_86 (fun H locs hw => ?_)
  refine lv_iinc (v := 2) (lv' := [(1, .int 2), (0, .ref (ad104 x0))]) hx hb dX8_init_87 hl (k := 0) rfl (by decide) (by decide) rfl (fun ls hl => ?_)
  refine lv_goto (tgt := 68) hx hb dX8_init_90 (by decide) ?_
  refine lv_iload_n hx hb dX8_init_68 rfl (lv_at hl 0 rfl) ?_
  refine lv_bipush (v := 8) hx hb dX8_init_69 (by decide) ?_
  refine lv_icmp_ge (tgt := 93) hx hb dX8_init_71 (by decide) (fun hc => absurd hc (by decide)) (fun _ => ?_)
  refine lv_aload_n hx hb dX8_init_74 rfl (lv_at hl 1 rfl) ?_
  obtain ⟨hT120, hf⟩ := gt_inv hf
  obtain ⟨a121, hP122, hf⟩ := lp_inv hf
  refine r_getP C hw cf8 0 (by decide) rfl hT120 hP122 fl_X8_11 dX8_init_75 ?_
  refine lv_iload_n hx hb dX8_init_78 rfl (lv_at hl 0 rfl) ?_
  have lt123 := T_lt hw hT120 (by decide)
  obtain ⟨hT124, hf⟩ := gt_inv hf
  have lt125 := T_lt hw hT124 (by decide)
  obtain ⟨M126, n127, e128, en129, hf⟩ := nw_inv hf
  refine r_new C hw cf0 df0 e128 en129 kl_X8_9 in0 ii0 (Nat.le_of_ble_eq_true rfl) (Nat.le_of_ble_eq_true rfl) dX8_init_79 (fun ad131 H hk130 hw => ?_)
  rw [← hk130 x0 lt123] at hl
  rw [← hk130 a121 lt125]
  refine lv_dup hx hb dX8_init_82 rfl ?_
  have lt132 := T_lt hw (T_old e128 lt123 hT120) (by decide)
  have lt133 := T_lt hw (T_old e128 lt125 hT124) (by decide)
  have lt134 := T_lt hw (T_new e128 en129) (by decide)
  obtain ⟨⟨⟩, M135, hc136, hf⟩ := cl_inv hf
  refine fin_V (run_I C hw mf_X0_init mj_X0_init ml_X8_40 (c_X0_init l G A ad131 hc136) (As := []) (rest := [.ref (ad131 n127), .int 2, .ref (ad131 a121)]) hl.1 rfl rfl (Nat.le_of_ble_eq_true rfl) ⟨rfl, rfl, Nat.le_of_ble_eq_true rfl, Nat.le_of_ble_eq_true rfl⟩ ⟨Nat.le_of_ble_eq_true rfl, Nat.le_of_ble_eq_true rfl⟩ dX8_init_83) hw (fun H locs hw => ?_)
  obtain ⟨mo140, hf⟩ := gd_inv hf
  obtain ⟨hT141, hf⟩ := gt_inv hf
  obtain ⟨hT142, hf⟩ := gt_inv hf
  obtain ⟨hg143, hf⟩ := gd_inv hf
  obtain ⟨M144, e145, hf⟩ := st_inv hf
  have g146 := sg_P e145
  refine r_aast C hw 3 cf0 rfl (by decide) (by decide) hT141 hT142 hg143 e145 dX8_init_86 (fun H locs hw => ?_)
  refine lv_iinc (v := 3) (lv' := [(1, .int 3), (0, .ref (ad131 x0))]) hx hb dX8_init_87 hl (k := 0) rfl (by decide) (by decide) rfl (fun ls hl => ?_)
  refine lv_goto (tgt := 68) hx hb dX8_init_90 (by decide) ?_
  refine lv_iload_n hx hb dX8_init_68 rfl (lv_at hl 0 rfl) ?_
  refine lv_bipush (v := 8) hx hb dX8_init_69 (by decide) ?_
  refine lv_icmp_ge (tgt := 93) hx hb dX8_init_71 (by decide) (fun hc => absurd hc (by decide)) (fun _ => ?_)
  refine lv_aload_n hx hb dX8_init_74 rfl (lv_at hl 1 rfl) ?_
  obtain ⟨hT147, hf⟩ := gt_inv hf
  obtain ⟨a148, hP149, hf⟩ := lp_inv hf
  refine r_getP C hw cf8 0 (by decide) rfl hT147 hP149 fl_X8_11 dX8_init_75 ?_
  refine lv_iload_n hx hb dX8_init_78 rfl (lv_at hl 0 rfl) ?_
  have lt150 := T_lt hw hT147 (by decide)
  obtain ⟨hT151, hf⟩ := gt_inv hf
  have lt152 := T_lt hw hT151 (by decide)
  obtain ⟨M153, n154, e155, en156, hf⟩ := nw_inv hf
  refine r_new C hw cf0 df0 e155 en156 kl_X8_9 in0 ii0 (Nat.le_of_ble_eq_true rfl) (Nat.le_of_ble_eq_true rfl) dX8_init_79 (fun ad158 H hk157 hw => ?_)
  rw [← hk157 x0 lt150] at hl
  rw [← hk157 a148 lt152]
  refine lv_dup hx hb dX8_init_82 rfl ?_
  have lt159 := T_lt hw (T_old e155 lt150 hT147) (by decide)
  have lt160 := T_lt hw (T_old e155 lt152 hT151) (by decide)
  have lt161 := T_lt hw (T_new e155 en156) (by decide)
  obtain ⟨⟨⟩, M162, hc163, hf⟩ := cl_inv hf
  refine fin_V (run_I C hw mf_X0_init mj_X0_init ml_X8_40 (c_X0_init l G A ad158 hc163) (As := []) (rest := [.ref (ad158 n154), .int 3, .ref (ad158 a148)]) hl.1 rfl rfl (Nat.le_of_ble_eq_true rfl) ⟨rfl, rfl, Nat.le_of_ble_eq_true rfl, Nat.le_of_ble_eq_true rfl⟩ ⟨Nat.le_of_ble_eq_true rfl, Nat.le_of_ble_eq_true rfl⟩ dX8_init_83) hw (fun H locs hw => ?_)
  obtain ⟨mo167, hf⟩ := gd_inv hf
  obtain ⟨hT168, hf⟩ := gt_inv hf
  obtain ⟨hT169, hf⟩ := gt_inv hf
  obtain ⟨hg170, hf⟩ := gd_inv hf
  obtain ⟨M171, e172, hf⟩ := st_inv hf
  have g173 := sg_P e172
  refine r_aast C hw 3 cf0 rfl (by decide) (by decide) hT168 hT169 hg170 e172 dX8_init_86 (fun H locs hw => ?_)
  refine lv_iinc (v := 4) (lv' := [(1, .int 4), (0, .ref (ad158 x0))]) hx hb dX8_init_87 hl (k := 0) rfl (by decide) (by decide) rfl (fun ls hl => ?_)
  refine lv_goto (tgt := 68) hx hb dX8_init_90 (by decide) ?_
  refine lv_iload_n hx hb dX8_init_68 rfl (lv_at hl 0 rfl) ?_
  refine lv_bipush (v := 8) hx hb dX8_init_69 (by decide) ?_
  refine lv_icmp_ge (tgt := 93) hx hb dX8_init_71 (by decide) (fun hc => absurd hc (by decide)) (fun _ => ?_)
  refine lv_aload_n hx hb dX8_init_74 rfl (lv_at hl 1 rfl) ?_
  obtain ⟨hT174, hf⟩ := gt_inv hf
  obtain ⟨a175, hP176, hf⟩ := lp_inv hf
  refine r_getP C hw cf8 0 (by decide) rfl hT174 hP176 fl_X8_11 dX8_init_75 ?_
  refine lv_iload_n hx hb dX8_init_78 rfl (lv_at hl 0 rfl) ?_
  have lt177 := T_lt hw hT174 (by decide)
  obtain ⟨hT178, hf⟩ := gt_inv hf
  have lt179 := T_lt hw hT178 (by decide)
  obtain ⟨M180, n181, e182, en183, hf⟩ := nw_inv hf
  refine r_new C hw cf0 df0 e182 en183 kl_X8_9 in0 ii0 (Nat.le_of_ble_eq_true rfl) (Nat.le_of_ble_eq_true rfl) dX8_init_79 (fun ad185 H hk184 hw => ?_)
  rw [← hk184 x0 lt177] at hl
  rw [← hk184 a175 lt179]
  refine lv_dup hx hb dX8_init_82 rfl ?_
  have lt186 := T_lt hw (T_old e182 lt177 hT174) (by decide)
  have lt187 := T_lt hw (T_old e182 lt179 hT178) (by decide)
  have lt188 := T_lt hw (T_new e182 en183) (by decide)
  obtain ⟨⟨⟩, M189, hc190, hf⟩ := cl_inv hf
  refine fin_V (run_I C hw mf_X0_init mj_X0_init ml_X8_40 (c_X0_init l G A ad185 hc190) (As := []) (rest := [.ref (ad185 n181), .int 4, .ref (ad185 a175)]) hl.1 rfl rfl (Nat.le_of_ble_eq_true rfl) ⟨rfl, rfl, Nat.le_of_ble_eq_true rfl, Nat.le_of_ble_eq_true rfl⟩ ⟨Nat.le_of_ble_eq_true rfl, Nat.le_of_ble_eq_true rfl⟩ dX8_init_83) hw (fun H locs hw => ?_)
  obtain ⟨mo194, hf⟩ := gd_inv hf
  obtain ⟨hT195, hf⟩ := gt_inv hf
  obtain ⟨hT196, hf⟩ := gt_inv hf
  obtain ⟨hg197, hf⟩ := gd_inv hf
  obtain ⟨M198, e199, hf⟩ := st_inv hf
  have g200 := sg_P e199
  refine r_aast C hw 3 cf0 rfl (by decide) (by decide) hT195 hT196 hg197 e199 dX8_init_86 (fun H locs hw => ?_)
  refine lv_iinc (v := 5) (lv' := [(1, .int 5), (0, .ref (ad185 x0))]) hx hb dX8_init_87 hl (k := 0) rfl (by decide) (by decide) rfl (fun ls hl => ?_)
  refine lv_goto (tgt := 68) hx hb dX8_init_90 (by decide) ?_
  refine lv_iload_n hx hb dX8_init_68 rfl (lv_at hl 0 rfl) ?_
  refine lv_bipush (v := 8) hx hb dX8_init_69 (by decide) ?_
  refine lv_icmp_ge (tgt := 93) hx hb dX8_init_71 (by decide) (fun hc => absurd hc (by decide)) (fun _ => ?_)
  refine lv_aload_n hx hb dX8_init_74 rfl (lv_at hl 1 rfl) ?_
  obtain ⟨hT201, hf⟩ := gt_inv hf
  obtain ⟨a202, hP203, hf⟩ := lp_inv hf
  refine r_getP C hw cf8 0 (by decide) rfl hT201 hP203 fl_X8_11 dX8_init_75 ?_
  refine lv_iload_n hx hb dX8_init_78 rfl (lv_at hl 0 rfl) ?_
  have lt204 := T_lt hw hT201 (by decide)
  obtain ⟨hT205, hf⟩ := gt_inv hf
  have lt206 := T_lt hw hT205 (by decide)
  obtain ⟨M207, n208, e209, en210, hf⟩ := nw_inv hf
  refine r_new C hw cf0 df0 e209 en210 kl_X8_9 in0 ii0 (Nat.le_of_ble_eq_true rfl) (Nat.le_of_ble_eq_true rfl) dX8_init_79 (fun ad212 H hk211 hw => ?_)
  rw [← hk211 x0 lt204] at hl
  rw [← hk211 a202 lt206]
  refine lv_dup hx hb dX8_init_82 rfl ?_
  have lt213 := T_lt hw (T_old e209 lt204 hT201) (by decide)
  have lt214 := T_lt hw (T_old e209 lt206 hT205) (by decide)
  have lt215 := T_lt hw (T_new e209 en210) (by decide)
  obtain ⟨⟨⟩, M216, hc217, hf⟩ := cl_inv hf
  refine fin_V (run_I C hw mf_X0_init mj_X0_init ml_X8_40 (c_X0_init l G A ad212 hc217) (As := []) (rest := [.ref (ad212 n208), .int 5, .ref (ad212 a202)]) hl.1 rfl rfl (Nat.le_of_ble_eq_true rfl) ⟨rfl, rfl, Nat.le_of_ble_eq_true rfl, Nat.le_of_ble_eq_true rfl⟩ ⟨Nat.le_of_ble_eq_true rfl, Nat.le_of_ble_eq_true rfl⟩ dX8_init_83) hw (fun H locs hw => ?_)
  obtain ⟨mo221, hf⟩ := gd_inv hf
  obtain ⟨hT222, hf⟩ := gt_inv hf
  obtain ⟨hT223, hf⟩ := gt_inv hf
  obtain ⟨hg224, hf⟩ := gd_inv hf
  obtain ⟨M225, e226, hf⟩ := st_inv hf
  have g227 := sg_P e226
  refine r_aast C hw 3 cf0 rfl (by decide) (by decide) hT222 hT223 hg224 e226 dX8_init_86 (fun H locs hw => ?_)
  refine lv_iinc (v := 6) (lv' := [(1, .int 6), (0, .ref (ad212 x0))]) hx hb dX8_init_87 hl (k := 0) rfl (by decide) (by decide) rfl (fun ls hl => ?_)
  refine lv_goto (tgt := 68) hx hb dX8_init_90 (by decide) ?_
  refine lv_iload_n hx hb dX8_init_68 rfl (lv_at hl 0 rfl) ?_
  refine lv_bipush (v := 8) hx hb dX8_init_69 (by decide) ?_
  refine lv_icmp_ge (tgt := 93) hx hb dX8_init_71 (by decide) (fun hc => absurd hc (by decide)) (fun _ => ?_)
  refine lv_aload_n hx hb dX8_init_74 rfl (lv_at hl 1 rfl) ?_
  obtain ⟨hT228, hf⟩ := gt_inv hf
  obtain ⟨a229, hP230, hf⟩ := lp_inv hf
  refine r_getP C hw cf8 0 (by decide) rfl hT228 hP230 fl_X8_11 dX8_init_75 ?_
  refine lv_iload_n hx hb dX8_init_78 rfl (lv_at hl 0 rfl) ?_
  have lt231 := T_lt hw hT228 (by decide)
  obtain ⟨hT232, hf⟩ := gt_inv hf
  have lt233 := T_lt hw hT232 (by decide)
  obtain ⟨M234, n235, e236, en237, hf⟩ := nw_inv hf
  refine r_new C hw cf0 df0 e236 en237 kl_X8_9 in0 ii0 (Nat.le_of_ble_eq_true rfl) (Nat.le_of_ble_eq_true rfl) dX8_init_79 (fun ad239 H hk238 hw => ?_)
  rw [← hk238 x0 lt231] at hl
  rw [← hk238 a229 lt233]
  refine lv_dup hx hb dX8_init_82 rfl ?_
  have lt240 := T_lt hw (T_old e236 lt231 hT228) (by decide)
  have lt241 := T_lt hw (T_old e236 lt233 hT232) (by decide)
  have lt242 := T_lt hw (T_new e236 en237) (by decide)
  obtain ⟨⟨⟩, M243, hc244, hf⟩ := cl_inv hf
  refine fin_V (run_I C hw mf_X0_init mj_X0_init ml_X8_40 (c_X0_init l G A ad239 hc244) (As := []) (rest := [.ref (ad239 n235), .int 6, .ref (ad239 a229)]) hl.1 rfl rfl (Nat.le_of_ble_eq_true rfl) ⟨rfl, rfl, Nat.le_of_ble_eq_true rfl, Nat.le_of_ble_eq_true rfl⟩ ⟨Nat.le_of_ble_eq_true rfl, Nat.le_of_ble_eq_true rfl⟩ dX8_init_83) hw (fun H locs hw => ?_)
  obtain ⟨mo248, hf⟩ := gd_inv hf
  obtain ⟨hT249, hf⟩ := gt_inv hf
  obtain ⟨hT250, hf⟩ := gt_inv hf
  obtain ⟨hg251, hf⟩ := gd_inv hf
  obtain ⟨M252, e253, hf⟩ := st_inv hf
  have g254 := sg_P e253
  refine r_aast C hw 3 cf0 rfl (by decide) (by decide) hT249 hT250 hg251 e253 dX8_init_86 (fun H locs hw => ?_)
  refine lv_iinc (v := 7) (lv' := [(1, .int 7), (0, .ref (ad239 x0))]) hx hb dX8_init_87 hl (k := 0) rfl (by decide) (by decide) rfl (fun ls hl => ?_)
  refine lv_goto (tgt := 68) hx hb dX8_init_90 (by decide) ?_
  refine lv_iload_n hx hb dX8_init_68 rfl (lv_at hl 0 rfl) ?_
  refine lv_bipush (v := 8) hx hb dX8_init_69 (by decide) ?_
  refine lv_icmp_ge (tgt := 93) hx hb dX8_init_71 (by decide) (fun hc => absurd hc (by decide)) (fun _ => ?_)
  refine lv_aload_n hx hb dX8_init_74 rfl (lv_at hl 1 rfl) ?_
  obtain ⟨hT255, hf⟩ := gt_inv hf
  obtain ⟨a256, hP257, hf⟩ := lp_inv hf
  refine r_getP C hw cf8 0 (by decide) rfl hT255 hP257 fl_X8_11 dX8_init_75 ?_
  refine lv_iload_n hx hb dX8_init_78 rfl (lv_at hl 0 rfl) ?_
  have lt258 := T_lt hw hT255 (by decide)
  obtain ⟨hT259, hf⟩ := gt_inv hf
  have lt260 := T_lt hw hT259 (by decide)
  obtain ⟨M261, n262, e263, en264, hf⟩ := nw_inv hf
  refine r_new C hw cf0 df0 e263 en264 kl_X8_9 in0 ii0 (Nat.le_of_ble_eq_true rfl) (Nat.le_of_ble_eq_true rfl) dX8_init_79 (fun ad266 H hk265 hw => ?_)
  rw [← hk265 x0 lt258] at hl
  rw [← hk265 a256 lt260]
  refine lv_dup hx hb dX8_init_82 rfl ?_
  have lt267 := T_lt hw (T_old e263 lt258 hT255) (by decide)
  have lt268 := T_lt hw (T_old e263 lt260 hT259) (by decide)
  have lt269 := T_lt hw (T_new e263 en264) (by decide)
  obtain ⟨⟨⟩, M270, hc271, hf⟩ := cl_inv hf
  refine fin_V (run_I C hw mf_X0_init mj_X0_init ml_X8_40 (c_X0_init l G A ad266 hc271) (As := []) (rest := [.ref (ad266 n262), .int 7, .ref (ad266 a256)]) hl.1 rfl rfl (Nat.le_of_ble_eq_true rfl) ⟨rfl, rfl, Nat.le_of_ble_eq_true rfl, Nat.le_of_ble_eq_true rfl⟩ ⟨Nat.le_of_ble_eq_true rfl, Nat.le_of_ble_eq_true rfl⟩ dX8_init_83) hw (fun H locs hw => ?_)
  obtain ⟨mo275, hf⟩ := gd_inv hf
  obtain ⟨hT276, hf⟩ := gt_inv hf
  obtain ⟨hT277, hf⟩ := gt_inv hf
  obtain ⟨hg278, hf⟩ := gd_inv hf
  obtain ⟨M279, e280, hf⟩ := st_inv hf
  have g281 := sg_P e280
  refine r_aast C hw 3 cf0 rfl (by decide) (by decide) hT276 hT277 hg278 e280 dX8_init_86 (fun H locs hw => ?_)
  refine lv_iinc (v := 8) (lv' := [(1, .int 8), (0, .ref (ad266 x0))]) hx hb dX8_init_87 hl (k := 0) rfl (by decide) (by decide) rfl (fun ls hl => ?_)
  refine lv_goto (tgt := 68) hx hb dX8_init_90 (by decide) ?_
  refine lv_iload_n hx hb dX8_init_68 rfl (lv_at hl 0 rfl) ?_
  refine lv_bipush (v := 8) hx hb dX8_init_69 (by decide) ?_
  refine lv_icmp_ge (tgt := 93) hx hb dX8_init_71 (by decide) (fun _ => ?_) (fun hc => absurd (by decide) hc)
  refine lv_iconst (v := 0) hx hb dX8_init_93 (by decide) ?_
  refine lv_istore_n (lv' := [(1, .int 0), (0, .ref (ad266 x0))]) hx hb dX8_init_94 rfl hl (by decide) rfl (fun ls hl => ?_)
  refine lv_iload_n hx hb dX8_init_95 rfl (lv_at hl 0 rfl) ?_
  refine lv_bipush (v := 10) hx hb dX8_init_96 (by decide) ?_
  refine lv_icmp_ge (tgt := 120) hx hb dX8_init_98 (by decide) (fun hc => absurd hc (by decide)) (fun _ => ?_)
  refine lv_aload_n hx hb dX8_init_101 rfl (lv_at hl 1 rfl) ?_
  obtain ⟨hT282, hf⟩ := gt_inv hf
  obtain ⟨a283, hP284, hf⟩ := lp_inv hf
  refine r_getP C hw cf8 2 (by decide) rfl hT282 hP284 fl_X8_19 dX8_init_102 ?_
  refine lv_iload_n hx hb dX8_init_105 rfl (lv_at hl 0 rfl) ?_
  have lt285 := T_lt hw hT282 (by decide)
  obtain ⟨hT286, hf⟩ := gt_inv hf
  have lt287 := T_lt hw hT286 (by decide)
  obtain ⟨M288, n289, e290, en291, hf⟩ := nw_inv hf
  refine r_new C hw cf5 df5 e290 en291 kl_X8_17 in5 ii5 (Nat.le_of_ble_eq_true rfl) (Nat.le_of_ble_eq_true rfl) dX8_init_106 (fun ad293 H hk292 hw => ?_)
  rw [← hk292 x0 lt285] at hl
  rw [← hk292 a283 lt287]
  refine lv_dup hx hb dX8_init_109 rfl ?_
  have lt294 := T_lt hw (T_old e290 lt285 hT282) (by decide)
  have lt295 := T_lt hw (T_old e290 lt287 hT286) (by decide)
  have lt296 := T_lt hw (T_new e290 en291) (by decide)
  obtain ⟨⟨⟩, M297, hc298, hf⟩ := cl_inv hf
  refine fin_V (run_I C hw mf_X5_init mj_X5_init ml_X8_41 (c_X5_init l G A ad293 hc298) (As := []) (rest := [.ref (ad293 n289), .int 0, .ref (ad293 a283)]) hl.1 rfl rfl (Nat.le_of_ble_eq_true rfl) ⟨rfl, rfl, Nat.le_of_ble_eq_true rfl, Nat.le_of_ble_eq_true rfl⟩ ⟨Nat.le_of_ble_eq_true rfl, Nat.le_of_ble_eq_true rfl⟩ dX8_init_110) hw (fun H locs hw => ?_)
  obtain ⟨mo302, hf⟩ := gd_inv hf
  obtain ⟨hT303, hf⟩ := gt_inv hf
  obtain ⟨hT304, hf⟩ := gt_inv hf
  obtain ⟨hg305, hf⟩ := gd_inv hf
  obtain ⟨M306, e307, hf⟩ := st_inv hf
  have g308 := sg_P e307
  refine r_aast C hw 4 cf5 rfl (by decide) (by decide) hT303 hT304 hg305 e307 dX8_init_113 (fun H locs hw => ?_)
  refine lv_iinc (v := 1) (lv' := [(1, .int 1), (0, .ref (ad293 x0))]) hx hb dX8_init_114 hl (k := 0) rfl (by decide) (by decide) rfl (fun ls hl => ?_)
  refine lv_goto (tgt := 95) hx hb dX8_init_117 (by decide) ?_
  refine lv_iload_n hx hb dX8_init_95 rfl (lv_at hl 0 rfl) ?_
  refine lv_bipush (v := 10) hx hb dX8_init_96 (by decide) ?_
  refine lv_icmp_ge (tgt := 120) hx hb dX8_init_98 (by decide) (fun hc => absurd hc (by decide)) (fun _ => ?_)
  refine lv_aload_n hx hb dX8_init_101 rfl (lv_at hl 1 rfl) ?_
  obtain ⟨hT309, hf⟩ := gt_inv hf
  obtain ⟨a310, hP311, hf⟩ := lp_inv hf
  refine r_getP C hw cf8 2 (by decide) rfl hT309 hP311 fl_X8_19 dX8_init_102 ?_
  refine lv_iload_n hx hb dX8_init_105 rfl (lv_at hl 0 rfl) ?_
  have lt312 := T_lt hw hT309 (by decide)
  obtain ⟨hT313, hf⟩ := gt_inv hf
  have lt314 := T_lt hw hT313 (by decide)
  obtain ⟨M315, n316, e317, en318, hf⟩ := nw_inv hf
  refine r_new C hw cf5 df5 e317 en318 kl_X8_17 in5 ii5 (Nat.le_of_ble_eq_true rfl) (Nat.le_of_ble_eq_true rfl) dX8_init_106 (fun ad320 H hk319 hw => ?_)
  rw [← hk319 x0 lt312] at hl
  rw [← hk319 a310 lt314]
  refine lv_dup hx hb dX8_init_109 rfl ?_
  have lt321 := T_lt hw (T_old e317 lt312 hT309) (by decide)
  have lt322 := T_lt hw (T_old e317 lt314 hT313) (by decide)
  have lt323 := T_lt hw (T_new e317 en318) (by decide)
  obtain ⟨⟨⟩, M324, hc325, hf⟩ := cl_inv hf
  refine fin_V (run_I C hw mf_X5_init mj_X5_init ml_X8_41 (c_X5_init l G A ad320 hc325) (As := []) (rest := [.ref (ad320 n316), .int 1, .ref (ad320 a310)]) hl.1 rfl rfl (Nat.le_of_ble_eq_true rfl) ⟨rfl, rfl, Nat.le_of_ble_eq_true rfl, Nat.le_of_ble_eq_true rfl⟩ ⟨Nat.le_of_ble_eq_true rfl, Nat.le_of_ble_eq_true rfl⟩ dX8_init_110) hw (fun H locs hw => ?_)
  obtain ⟨mo329, hf⟩ := gd_inv hf
  obtain ⟨hT330, hf⟩ := gt_inv hf
  obtain ⟨hT331, hf⟩ := gt_inv hf
  obtain ⟨hg332, hf⟩ := gd_inv hf
  obtain ⟨M333, e334, hf⟩ := st_inv hf
  have g335 := sg_P e334
  refine r_aast C hw 4 cf5 rfl (by decide) (by decide) hT330 hT331 hg332 e334 dX8_init_113 (fun H locs hw => ?_)
  refine lv_iinc (v := 2) (lv' := [(1, .int 2), (0, .ref (ad320 x0))]) hx hb dX8_init_114 hl (k := 0) rfl (by decide) (by decide) rfl (fun ls hl => ?_)
  refine lv_goto (tgt := 95) hx hb dX8_init_117 (by decide) ?_
  refine lv_iload_n hx hb dX8_init_95 rfl (lv_at hl 0 rfl) ?_
  refine lv_bipush (v := 10) hx hb dX8_init_96 (by decide) ?_
  refine lv_icmp_ge (tgt := 120) hx hb dX8_init_98 (by decide) (fun hc => absurd hc (by decide)) (fun _ => ?_)
  refine lv_aload_n hx hb dX8_init_101 rfl (lv_at hl 1 rfl) ?_
  obtain ⟨hT336, hf⟩ := gt_inv hf
  obtain ⟨a337, hP338, hf⟩ := lp_inv hf
  refine r_getP C hw cf8 2 (by decide) rfl hT336 hP338 fl_X8_19 dX8_init_102 ?_
  refine lv_iload_n hx hb dX8_init_105 rfl (lv_at hl 0 rfl) ?_
  have lt339 := T_lt hw hT336 (by decide)
  obtain ⟨hT340, hf⟩ := gt_inv hf
  have lt341 := T_lt hw hT340 (by decide)
  obtain ⟨M342, n343, e344, en345, hf⟩ := nw_inv hf
  refine r_new C hw cf5 df5 e344 en345 kl_X8_17 in5 ii5 (Nat.le_of_ble_eq_true rfl) (Nat.le_of_ble_eq_true rfl) dX8_init_106 (fun ad347 H hk346 hw => ?_)
  rw [← hk346 x0 lt339] at hl
  rw [← hk346 a337 lt341]
  refine lv_dup hx hb dX8_init_109 rfl ?_
  have lt348 := T_lt hw (T_old e344 lt339 hT336) (by decide)
  have lt349 := T_lt hw (T_old e344 lt341 hT340) (by decide)
  have lt350 := T_lt hw (T_new e344 en345) (by decide)
  obtain ⟨⟨⟩, M351, hc352, hf⟩ := cl_inv hf
  refine fin_V (run_I C hw mf_X5_init mj_X5_init ml_X8_41 (c_X5_init l G A ad347 hc352) (As := []) (rest := [.ref (ad347 n343), .int 2, .ref (ad347 a337)]) hl.1 rfl rfl (Nat.le_of_ble_eq_true rfl) ⟨rfl, rfl, Nat.le_of_ble_eq_true rfl, Nat.le_of_ble_eq_true rfl⟩ ⟨Nat.le_of_ble_eq_true rfl, Nat.le_of_ble_eq_true rfl⟩ dX8_init_110) hw (fun H locs hw => ?_)
  obtain ⟨mo356, hf⟩ := gd_inv hf
  obtain ⟨hT357, hf⟩ := gt_inv hf
  obtain ⟨hT358, hf⟩ := gt_inv hf
  obtain ⟨hg359, hf⟩ := gd_inv hf
  obtain ⟨M360, e361, hf⟩ := st_inv hf
  have g362 := sg_P e361
  refine r_aast C hw 4 cf5 rfl (by decide) (by decide) hT357 hT358 hg359 e361 dX8_init_113 (fun H locs hw => ?_)
  refine lv_iinc (v := 3) (lv' := [(1, .int 3), (0, .ref (ad347 x0))]) hx hb dX8_init_114 hl (k := 0) rfl (by decide) (by decide) rfl (fun ls hl => ?_)
  refine lv_goto (tgt := 95) hx hb dX8_init_117 (by decide) ?_
  refine lv_iload_n hx hb dX8_init_95 rfl (lv_at hl 0 rfl) ?_
  refine lv_bipush (v := 10) hx hb dX8_init_96 (by decide) ?_
  refine lv_icmp_ge (tgt := 120) hx hb dX8_init_98 (by decide) (fun hc => absurd hc (by decide)) (fun _ => ?_)
  refine lv_aload_n hx hb dX8_init_101 rfl (lv_at hl 1 rfl) ?_
  obtain ⟨hT363, hf⟩ := gt_inv hf
  obtain ⟨a364, hP365, hf⟩ := lp_inv hf
  refine r_getP C hw cf8 2 (by decide) rfl hT363 hP365 fl_X8_19 dX8_init_102 ?_
  refine lv_iload_n hx hb dX8_init_105 rfl (lv_at hl 0 rfl) ?_
  have lt366 := T_lt hw hT363 (by decide)
  obtain ⟨hT367, hf⟩ := gt_inv hf
  have lt368 := T_lt hw hT367 (by decide)
  obtain ⟨M369, n370, e371, en372, hf⟩ := nw_inv hf
  refine r_new C hw cf5 df5 e371 en372 kl_X8_17 in5 ii5 (Nat.le_of_ble_eq_true rfl) (Nat.le_of_ble_eq_true rfl) dX8_init_106 (fun ad374 H hk373 hw => ?_)
  rw [← hk373 x0 lt366] at hl
  rw [← hk373 a364 lt368]
  refine lv_dup hx hb dX8_init_109 rfl ?_
  have lt375 := T_lt hw (T_old e371 lt366 hT363) (by decide)
  have lt376 := T_lt hw (T_old e371 lt368 hT367) (by decide)
  have lt377 := T_lt hw (T_new e371 en372) (by decide)
  obtain ⟨⟨⟩, M378, hc379, hf⟩ := cl_inv hf
  refine fin_V (run_I C hw mf_X5_init mj_X5_init ml_X8_41 (c_X5_init l G A ad374 hc379) (As := []) (rest := [.ref (ad374 n370), .int 3, .ref (ad374 a364)]) hl.1 rfl rfl (Nat.le_of_ble_eq_true rfl) ⟨rfl, rfl, Nat.le_of_ble_eq_true rfl, Nat.le_of_ble_eq_true rfl⟩ ⟨Nat.le_of_ble_eq_true rfl, Nat.le_of_ble_eq_true rfl⟩ dX8_init_110) hw (fun H locs hw => ?_)
  obtain ⟨mo383, hf⟩ := gd_inv hf
  obtain ⟨hT384, hf⟩ := gt_inv hf
  obtain ⟨hT385, hf⟩ := gt_inv hf
  obtain ⟨hg386, hf⟩ := gd_inv hf
  obtain ⟨M387, e388, hf⟩ := st_inv hf
  have g389 := sg_P e388
  refine r_aast C hw 4 cf5 rfl (by decide) (by decide) hT384 hT385 hg386 e388 dX8_init_113 (fun H locs hw => ?_)
  refine lv_iinc (v := 4) (lv' := [(1, .int 4), (0, .ref (ad374 x0))]) hx hb dX8_init_114 hl (k := 0) rfl (by decide) (by decide) rfl (fun ls hl => ?_)
  refine lv_goto (tgt := 95) hx hb dX8_init_117 (by decide) ?_
  refine lv_iload_n hx hb dX8_init_95 rfl (lv_at hl 0 rfl) ?_
  refine lv_bipush (v := 10) hx hb dX8_init_96 (by decide) ?_
  refine lv_icmp_ge (tgt := 120) hx hb dX8_init_98 (by decide) (fun hc => absurd hc (by decide)) (fun _ => ?_)
  refine lv_aload_n hx hb dX8_init_101 rfl (lv_at hl 1 rfl) ?_
  obtain ⟨hT390, hf⟩ := gt_inv hf
  obtain ⟨a391, hP392, hf⟩ := lp_inv hf
  refine r_getP C hw cf8 2 (by decide) rfl hT390 hP392 fl_X8_19 dX8_init_102 ?_
  refine lv_iload_n hx hb dX8_init_105 rfl (lv_at hl 0 rfl) ?_
  have lt393 := T_lt hw hT390 (by decide)
  obtain ⟨hT394, hf⟩ := gt_inv hf
  have lt395 := T_lt hw hT394 (by decide)
  obtain ⟨M396, n397, e398, en399, hf⟩ := nw_inv hf
  refine r_new C hw cf5 df5 e398 en399 kl_X8_17 in5 ii5 (Nat.le_of_ble_eq_true rfl) (Nat.le_of_ble_eq_true rfl) dX8_init_106 (fun ad401 H hk400 hw => ?_)
  rw [← hk400 x0 lt393] at hl
  rw [← hk400 a391 lt395]
  refine lv_dup hx hb dX8_init_109 rfl ?_
  have lt402 := T_lt hw (T_old e398 lt393 hT390) (by decide)
  have lt403 := T_lt hw (T_old e398 lt395 hT394) (by decide)
  have lt404 := T_lt hw (T_new e398 en399) (by decide)
  obtain ⟨⟨⟩, M405, hc406, hf⟩ := cl_inv hf
  refine fin_V (run_I C hw mf_X5_init mj_X5_init ml_X8_41 (c_X5_init l G A ad401 hc406) (As := []) (rest := [.ref (ad401 n397), .int 4, .ref (ad401 a391)]) hl.1 rfl rfl (Nat.le_of_ble_eq_true rfl) ⟨rfl, rfl, Nat.le_of_ble_eq_true rfl, Nat.le_of_ble_eq_true rfl⟩ ⟨Nat.le_of_ble_eq_true rfl, Nat.le_of_ble_eq_true rfl⟩ dX8_init_110) hw (fun H locs hw => ?_)
  obtain ⟨mo410, hf⟩ := gd_inv hf
  obtain ⟨hT411, hf⟩ := gt_inv hf
  obtain ⟨hT412, hf⟩ := gt_inv hf
  obtain ⟨hg413, hf⟩ := gd_inv hf
  obtain ⟨M414, e415, hf⟩ := st_inv hf
  have g416 := sg_P e415
  refine r_aast C hw 4 cf5 rfl (by decide) (by decide) hT411 hT412 hg413 e415 dX8_init_113 (fun H locs hw => ?_)
  refine lv_iinc (v := 5) (lv' := [(1, .int 5), (0, .ref (ad401 x0))]) hx hb dX8_init_114 hl (k := 0) rfl (by decide) (by decide) rfl (fun ls hl => ?_)
  refine lv_goto (tgt := 95) hx hb dX8_init_117 (by decide) ?_
  refine lv_iload_n hx hb dX8_init_95 rfl (lv_at hl 0 rfl) ?_
  refine lv_bipush (v := 10) hx hb dX8_init_96 (by decide) ?_
  refine lv_icmp_ge (tgt := 120) hx hb dX8_init_98 (by decide) (fun hc => absurd hc (by decide)) (fun _ => ?_)
  refine lv_aload_n hx hb dX8_init_101 rfl (lv_at hl 1 rfl) ?_
  obtain ⟨hT417, hf⟩ := gt_inv hf
  obtain ⟨a418, hP419, hf⟩ := lp_inv hf
  refine r_getP C hw cf8 2 (by decide) rfl hT417 hP419 fl_X8_19 dX8_init_102 ?_
  refine lv_iload_n hx hb dX8_init_105 rfl (lv_at hl 0 rfl) ?_
  have lt420 := T_lt hw hT417 (by decide)
  obtain ⟨hT421, hf⟩ := gt_inv hf
  have lt422 := T_lt hw hT421 (by decide)
  obtain ⟨M423, n424, e425, en426, hf⟩ := nw_inv hf
  refine r_new C hw cf5 df5 e425 en426 kl_X8_17 in5 ii5 (Nat.le_of_ble_eq_true rfl) (Nat.le_of_ble_eq_true rfl) dX8_init_106 (fun ad428 H hk427 hw => ?_)
  rw [← hk427 x0 lt420] at hl
  rw [← hk427 a418 lt422]
  refine lv_dup hx hb dX8_init_109 rfl ?_
  have lt429 := T_lt hw (T_old e425 lt420 hT417) (by decide)
  have lt430 := T_lt hw (T_old e425 lt422 hT421) (by decide)
  have lt431 := T_lt hw (T_new e425 en426) (by decide)
  obtain ⟨⟨⟩, M432, hc433, hf⟩ := cl_inv hf
  refine fin_V (run_I C hw mf_X5_init mj_X5_init ml_X8_41 (c_X5_init l G A ad428 hc433) (As := []) (rest := [.ref (ad428 n424), .int 5, .ref (ad428 a418)]) hl.1 rfl rfl (Nat.le_of_ble_eq_true rfl) ⟨rfl, rfl, Nat.le_of_ble_eq_true rfl, Nat.le_of_ble_eq_true rfl⟩ ⟨Nat.le_of_ble_eq_true rfl, Nat.le_of_ble_eq_true rfl⟩ dX8_init_110) hw (fun H locs hw => ?_)
  obtain ⟨mo437, hf⟩ := gd_inv hf
  obtain ⟨hT438, hf⟩ := gt_inv hf
  obtain ⟨hT439, hf⟩ := gt_inv hf
  obtain ⟨hg440, hf⟩ := gd_inv hf
  obtain ⟨M441, e442, hf⟩ := st_inv hf
  have g443 := sg_P e442
  refine r_aast C hw 4 cf5 rfl (by decide) (by decide) hT438 hT439 hg440 e442 dX8_init_113 (fun H locs hw => ?_)
  refine lv_iinc (v := 6) (lv' := [(1, .int 6), (0, .ref (ad428 x0))]) hx hb dX8_init_114 hl (k := 0) rfl (by decide) (by decide) rfl (fun ls hl => ?_)
  refine lv_goto (tgt := 95) hx hb dX8_init_117 (by decide) ?_
  refine lv_iload_n hx hb dX8_init_95 rfl (lv_at hl 0 rfl) ?_
  refine lv_bipush (v := 10) hx hb dX8_init_96 (by decide) ?_
  refine lv_icmp_ge (tgt := 120) hx hb dX8_init_98 (by decide) (fun hc => absurd hc (by decide)) (fun _ => ?_)
  refine lv_aload_n hx hb dX8_init_101 rfl (lv_at hl 1 rfl) ?_
  obtain ⟨hT444, hf⟩ := gt_inv hf
  obtain ⟨a445, hP446, hf⟩ := lp_inv hf
  refine r_getP C hw cf8 2 (by decide) rfl hT444 hP446 fl_X8_19 dX8_init_102 ?_
  refine lv_iload_n hx hb dX8_init_105 rfl (lv_at hl 0 rfl) ?_
  have lt447 := T_lt hw hT444 (by decide)
  obtain ⟨hT448, hf⟩ := gt_inv hf
  have lt449 := T_lt hw hT448 (by decide)
  obtain ⟨M450, n451, e452, en453, hf⟩ := nw_inv hf
  refine r_new C hw cf5 df5 e452 en453 kl_X8_17 in5 ii5 (Nat.le_of_ble_eq_true rfl) (Nat.le_of_ble_eq_true rfl) dX8_init_106 (fun ad455 H hk454 hw => ?_)
  rw [← hk454 x0 lt447] at hl
  rw [← hk454 a445 lt449]
  refine lv_dup hx hb dX8_init_109 rfl ?_
  have lt456 := T_lt hw (T_old e452 lt447 hT444) (by decide)
  have lt457 := T_lt hw (T_old e452 lt449 hT448) (by decide)
  have lt458 := T_lt hw (T_new e452 en453) (by decide)
  obtain ⟨⟨⟩, M459, hc460, hf⟩ := cl_inv hf
  refine fin_V (run_I C hw mf_X5_init mj_X5_init ml_X8_41 (c_X5_init l G A ad455 hc460) (As := []) (rest := [.ref (ad455 n451), .int 6, .ref (ad455 a445)]) hl.1 rfl rfl (Nat.le_of_ble_eq_true rfl) ⟨rfl, rfl, Nat.le_of_ble_eq_true rfl, Nat.le_of_ble_eq_true rfl⟩ ⟨Nat.le_of_ble_eq_true rfl, Nat.le_of_ble_eq_true rfl⟩ dX8_init_110) hw (fun H locs hw => ?_)
  obtain ⟨mo464, hf⟩ := gd_inv hf
  obtain ⟨hT465, hf⟩ := gt_inv hf
  obtain ⟨hT466, hf⟩ := gt_inv hf
  obtain ⟨hg467, hf⟩ := gd_inv hf
  obtain ⟨M468, e469, hf⟩ := st_inv hf
  have g470 := sg_P e469
  refine r_aast C hw 4 cf5 rfl (by decide) (by decide) hT465 hT466 hg467 e469 dX8_init_113 (fun H locs hw => ?_)
  refine lv_iinc (v := 7) (lv' := [(1, .int 7), (0, .ref (ad455 x0))]) hx hb dX8_init_114 hl (k := 0) rfl (by decide) (by decide) rfl (fun ls hl => ?_)
  refine lv_goto (tgt := 95) hx hb dX8_init_117 (by decide) ?_
  refine lv_iload_n hx hb dX8_init_95 rfl (lv_at hl 0 rfl) ?_
  refine lv_bipush (v := 10) hx hb dX8_init_96 (by decide) ?_
  refine lv_icmp_ge (tgt := 120) hx hb dX8_init_98 (by decide) (fun hc => absurd hc (by decide)) (fun _ => ?_)
  refine lv_aload_n hx hb dX8_init_101 rfl (lv_at hl 1 rfl) ?_
  obtain ⟨hT471, hf⟩ := gt_inv hf
  obtain ⟨a472, hP473, hf⟩ := lp_inv hf
  refine r_getP C hw cf8 2 (by decide) rfl hT471 hP473 fl_X8_19 dX8_init_102 ?_
  refine lv_iload_n hx hb dX8_init_105 rfl (lv_at hl 0 rfl) ?_
  have lt474 := T_lt hw hT471 (by decide)
  obtain ⟨hT475, hf⟩ := gt_inv hf
  have lt476 := T_lt hw hT475 (by decide)
  obtain ⟨M477, n478, e479, en480, hf⟩ := nw_inv hf
  refine r_new C hw cf5 df5 e479 en480 kl_X8_17 in5 ii5 (Nat.le_of_ble_eq_true rfl) (Nat.le_of_ble_eq_true rfl) dX8_init_106 (fun ad482 H hk481 hw => ?_)
  rw [← hk481 x0 lt474] at hl
  rw [← hk481 a472 lt476]
  refine lv_dup hx hb dX8_init_109 rfl ?_
  have lt483 := T_lt hw (T_old e479 lt474 hT471) (by decide)
  have lt484 := T_lt hw (T_old e479 lt476 hT475) (by decide)
  have lt485 := T_lt hw (T_new e479 en480) (by decide)
  obtain ⟨⟨⟩, M486, hc487, hf⟩ := cl_inv hf
  refine fin_V (run_I C hw mf_X5_init mj_X5_init ml_X8_41 (c_X5_init l G A ad482 hc487) (As := []) (rest := [.ref (ad482 n478), .int 7, .ref (ad482 a472)]) hl.1 rfl rfl (Nat.le_of_ble_eq_true rfl) ⟨rfl, rfl, Nat.le_of_ble_eq_true rfl, Nat.le_of_ble_eq_true rfl⟩ ⟨Nat.le_of_ble_eq_true rfl, Nat.le_of_ble_eq_true rfl⟩ dX8_init_110) hw (fun H locs hw => ?_)
  obtain ⟨mo491, hf⟩ := gd_inv hf
  obtain ⟨hT492, hf⟩ := gt_inv hf
  obtain ⟨hT493, hf⟩ := gt_inv hf
  obtain ⟨hg494, hf⟩ := gd_inv hf
  obtain ⟨M495, e496, hf⟩ := st_inv hf
  have g497 := sg_P e496
  refine r_aast C hw 4 cf5 rfl (by decide) (by decide) hT492 hT493 hg494 e496 dX8_init_113 (fun H locs hw => ?_)
  refine lv_iinc (v := 8) (lv' := [(1, .int 8), (0, .ref (ad482 x0))]) hx hb dX8_init_114 hl (k := 0) rfl (by decide) (by decide) rfl (fun ls hl => ?_)
  refine lv_goto (tgt := 95) hx hb dX8_init_117 (by decide) ?_
  refine lv_iload_n hx hb dX8_init_95 rfl (lv_at hl 0 rfl) ?_
  refine lv_bipush (v := 10) hx hb dX8_init_96 (by decide) ?_
  refine lv_icmp_ge (tgt := 120) hx hb dX8_init_98 (by decide) (fun hc => absurd hc (by decide)) (fun _ => ?_)
  refine lv_aload_n hx hb dX8_init_101 rfl (lv_at hl 1 rfl) ?_
  obtain ⟨hT498, hf⟩ := gt_inv hf
  obtain ⟨a499, hP500, hf⟩ := lp_inv hf
  refine r_getP C hw cf8 2 (by decide) rfl hT498 hP500 fl_X8_19 dX8_init_102 ?_
  refine lv_iload_n hx hb dX8_init_105 rfl (lv_at hl 0 rfl) ?_
  have lt501 := T_lt hw hT498 (by decide)
  obtain ⟨hT502, hf⟩ := gt_inv hf
  have lt503 := T_lt hw hT502 (by decide)
  obtain ⟨M504, n505, e506, en507, hf⟩ := nw_inv hf
  refine r_new C hw cf5 df5 e506 en507 kl_X8_17 in5 ii5 (Nat.le_of_ble_eq_true rfl) (Nat.le_of_ble_eq_true rfl) dX8_init_106 (fun ad509 H hk508 hw => ?_)
  rw [← hk508 x0 lt501] at hl
  rw [← hk508 a499 lt503]
  refine lv_dup hx hb dX8_init_109 rfl ?_
  have lt510 := T_lt hw (T_old e506 lt501 hT498) (by decide)
  have lt511 := T_lt hw (T_old e506 lt503 hT502) (by decide)
  have lt512 := T_lt hw (T_new e506 en507) (by decide)
  obtain ⟨⟨⟩, M513, hc514, hf⟩ := cl_inv hf
  refine fin_V (run_I C hw mf_X5_init mj_X5_init ml_X8_41 (c_X5_init l G A ad509 hc514) (As := []) (rest := [.ref (ad509 n505), .int 8, .ref (ad509 a499)]) hl.1 rfl rfl (Nat.le_of_ble_eq_true rfl) ⟨rfl, rfl, Nat.le_of_ble_eq_true rfl, Nat.le_of_ble_eq_true rfl⟩ ⟨Nat.le_of_ble_eq_true rfl, Nat.le_of_ble_eq_true rfl⟩ dX8_init_110) hw (fun H locs hw => ?_)
  obtain ⟨mo518, hf⟩ := gd_inv hf
  obtain ⟨hT519, hf⟩ := gt_inv hf
  obtain ⟨hT520, hf⟩ := gt_inv hf
  obtain ⟨hg521, hf⟩ := gd_inv hf
  obtain ⟨M522, e523, hf⟩ := st_inv hf
  have g524 := sg_P e523
  refine r_aast C hw 4 cf5 rfl (by decide) (by decide) hT519 hT520 hg521 e523 dX8_init_113 (fun H locs hw => ?_)
  refine lv_iinc (v := 9) (lv' := [(1, .int 9), (0, .ref (ad509 x0))]) hx hb dX8_init_114 hl (k := 0) rfl (by decide) (by decide) rfl (fun ls hl => ?_)
  refine lv_goto (tgt := 95) hx hb dX8_init_117 (by decide) ?_
  refine lv_iload_n hx hb dX8_init_95 rfl (lv_at hl 0 rfl) ?_
  refine lv_bipush (v := 10) hx hb dX8_init_96 (by decide) ?_
  refine lv_icmp_ge (tgt := 120) hx hb dX8_init_98 (by decide) (fun hc => absurd hc (by decide)) (fun _ => ?_)
  refine lv_aload_n hx hb dX8_init_101 rfl (lv_at hl 1 rfl) ?_
  obtain ⟨hT525, hf⟩ := gt_inv hf
  obtain ⟨a526, hP527, hf⟩ := lp_inv hf
  refine r_getP C hw cf8 2 (by decide) rfl hT525 hP527 fl_X8_19 dX8_init_102 ?_
  refine lv_iload_n hx hb dX8_init_105 rfl (lv_at hl 0 rfl) ?_
  have lt528 := T_lt hw hT525 (by decide)
  obtain ⟨hT529, hf⟩ := gt_inv hf
  have lt530 := T_lt hw hT529 (by decide)
  obtain ⟨M531, n532, e533, en534, hf⟩ := nw_inv hf
  refine r_new C hw cf5 df5 e533 en534 kl_X8_17 in5 ii5 (Nat.le_of_ble_eq_true rfl) (Nat.le_of_ble_eq_true rfl) dX8_init_106 (fun ad536 H hk535 hw => ?_)
  rw [← hk535 x0 lt528] at hl
  rw [← hk535 a526 lt530]
  refine lv_dup hx hb dX8_init_109 rfl ?_
  have lt537 := T_lt hw (T_old e533 lt528 hT525) (by decide)
  have lt538 := T_lt hw (T_old e533 lt530 hT529) (by decide)
  have lt539 := T_lt hw (T_new e533 en534) (by decide)
  obtain ⟨⟨⟩, M540, hc541, hf⟩ := cl_inv hf
  refine fin_V (run_I C hw mf_X5_init mj_X5_init ml_X8_41 (c_X5_init l G A ad536 hc541) (As := []) (rest := [.ref (ad536 n532), .int 9, .ref (ad536 a526)]) hl.1 rfl rfl (Nat.le_of_ble_eq_true rfl) ⟨rfl, rfl, Nat.le_of_ble_eq_true rfl, Nat.le_of_ble_eq_true rfl⟩ ⟨Nat.le_of_ble_eq_true rfl, Nat.le_of_ble_eq_true rfl⟩ dX8_init_110) hw (fun H locs hw => ?_)
  obtain ⟨mo545, hf⟩ := gd_inv hf
  obtain ⟨hT546, hf⟩ := gt_inv hf
  obtain ⟨hT547, hf⟩ := gt_inv hf
  obtain ⟨hg548, hf⟩ := gd_inv hf
  obtain ⟨M549, e550, hf⟩ := st_inv hf
  have g551 := sg_P e550
  refine r_aast C hw 4 cf5 rfl (by decide) (by decide) hT546 hT547 hg548 e550 dX8_init_113 (fun H locs hw => ?_)
  refine lv_iinc (v := 10) (lv' := [(1, .int 10), (0, .ref (ad536 x0))]) hx hb dX8_init_114 hl (k := 0) rfl (by decide) (by decide) rfl (fun ls hl => ?_)
  refine lv_goto (tgt := 95) hx hb dX8_init_117 (by decide) ?_
  refine lv_iload_n hx hb dX8_init_95 rfl (lv_at hl 0 rfl) ?_
  refine lv_bipush (v := 10) hx hb dX8_init_96 (by decide) ?_
  refine lv_icmp_ge (tgt := 120) hx hb dX8_init_98 (by decide) (fun _ => ?_) (fun hc => absurd (by decide) hc)
  refine W.widen (k := 23) (n := 193) (Nat.le_of_ble_eq_true rfl) (Nat.le_of_ble_eq_true rfl) ?_
  exact e_vretA C hw (Ag.tr (Ag.tr (Ag.tr (Ag.tr (Ag.tr (Ag.tr (Ag.tr (Ag.tr (Ag.tr (Ag.tr (Ag.tr (Ag.tr (Ag.tr (Ag.tr (Ag.tr (Ag.tr (Ag.tr (Ag.tr (Ag.tr (Ag.tr (Ag.tr (Ag.tr (Ag.tr Ag.rf hk7 (Nat.le_refl _)) hk17 (N_of2 g11 (Nat.le_trans (Nat.le_refl _) (N_new e5)))) hk27 (N_of2 g21 (Nat.le_trans (N_of2 g11 (Nat.le_trans (Nat.le_refl _) (N_new e5))) (N_new e15)))) hk52 (N_of1 g46 (N_of2 g43 (N_of1 g40 (N_of1 g36 (N_of1 g32 (Nat.le_trans (N_of2 g21 (Nat.le_trans (N_of2 g11 (Nat.le_trans (Nat.le_refl _) (N_new e5))) (N_new e15))) (N_new e25)))))))) hk62 (N_of2 g56 (Nat.le_trans (N_of1 g46 (N_of2 g43 (N_of1 g40 (N_of1 g36 (N_of1 g32 (Nat.le_trans (N_of2 g21 (Nat.le_trans (N_of2 g11 (Nat.le_trans (Nat.le_refl _) (N_new e5))) (N_new e15))) (N_new e25))))))) (N_new e50)))) hk76 (N_of2 g66 (Nat.le_trans (N_of2 g56 (Nat.le_trans (N_of1 g46 (N_of2 g43 (N_of1 g40 (N_of1 g36 (N_of1 g32 (Nat.le_trans (N_of2 g21 (Nat.le_trans (N_of2 g11 (Nat.le_trans (Nat.le_refl _) (N_new e5))) (N_new e15))) (N_new e25))))))) (N_new e50))) (N_new e60)))) hk103 (N_of2 g92 (of_decide_eq_true mo86))) hk130 (N_of2 g119 (of_decide_eq_true mo113))) hk157 (N_of2 g146 (of_decide_eq_true mo140))) hk184 (N_of2 g173 (of_decide_eq_true mo167))) hk211 (N_of2 g200 (of_decide_eq_true mo194))) hk238 (N_of2 g227 (of_decide_eq_true mo221))) hk265 (N_of2 g254 (of_decide_eq_true mo248))) hk292 (N_of2 g281 (of_decide_eq_true mo275))) hk319 (N_of2 g308 (of_decide_eq_true mo302))) hk346 (N_of2 g335 (of_decide_eq_true mo329))) hk373 (N_of2 g362 (of_decide_eq_true mo356))) hk400 (N_of2 g389 (of_decide_eq_true mo383))) hk427 (N_of2 g416 (of_decide_eq_true mo410))) hk454 (N_of2 g443 (of_decide_eq_true mo437))) hk481 (N_of2 g470 (of_decide_eq_true mo464))) hk508 (N_of2 g497 (of_decide_eq_true mo491))) hk535 (N_of2 g524 (of_decide_eq_true mo518))) hf dX8_init_120
/-! StorkVoteModel.<init>()V -/
abbrev rm_X10_init : Room := { frames := 1, cells := 24, slots := 5161, locals := 21 }
def f_X10_init (M : Mem) (x0 : Nat) : Option (Unit × Mem) := gt (mT M x0) 11 (nw M 20 1442 (fun M3 n4 => st (setP M3 x0 0 n4) (fun M9 => nw M9 20 1442 (fun M13 n14 => st (setP M13 x0 1 n14) (fun M19 => nw M19 20 1442 (fun M23 n24 => st (setP M23 x0 2 n24) (fun M29 => st (setI M29 x0 4 (-1)) (fun M32 => nw M32 20 8 (fun M36 n37 => st (setP M36 x0 5 n37) (fun M42 => nw M42 20 10 (fun M46 n47 => st (setP M46 x0 6 n47) (fun M52 => nw M52 21 10 (fun M56 n57 => st (setP M56 x0 7 n57) (fun M62 => nw M62 20 70 (fun M66 n67 => st (setP M66 x0 8 n67) (fun M72 => nw M72 20 96 (fun M76 n77 => st (setP M76 x0 9 n77) (fun M82 => nw M82 22 12 (fun M86 n87 => gd (ib 0 (mL M86 n87)) (st (setI M86 n87 (0 : Int32).toNatClampNeg 108) (fun M93 => gd (ib 1 (mL M93 n87)) (st (setI M93 n87 (1 : Int32).toNatClampNeg 105) (fun M97 => gd (ib 2 (mL M97 n87)) (st (setI M97 n87 (2 : Int32).toNatClampNeg 107) (fun M101 => gd (ib 3 (mL M101 n87)) (st (setI M101 n87 (3 : Int32).toNatClampNeg 101) (fun M105 => gd (ib 4 (mL M105 n87)) (st (setI M105 n87 (4 : Int32).toNatClampNeg 115) (fun M109 => gd (ib 5 (mL M109 n87)) (st (setI M109 n87 (5 : Int32).toNatClampNeg 101) (fun M113 => gd (ib 6 (mL M113 n87)) (st (setI M113 n87 (6 : Int32).toNatClampNeg 97) (fun M117 => gd (ib 7 (mL M117 n87)) (st (setI M117 n87 (7 : Int32).toNatClampNeg 116) (fun M121 => gd (ib 8 (mL M121 n87)) (st (setI M121 n87 (8 : Int32).toNatClampNeg 102) (fun M125 => gd (ib 9 (mL M125 n87)) (st (setI M125 n87 (9 : Int32).toNatClampNeg 105) (fun M129 => gd (ib 10 (mL M129 n87)) (st (setI M129 n87 (10 : Int32).toNatClampNeg 110) (fun M133 => gd (ib 11 (mL M133 n87)) (st (setI M133 n87 (11 : Int32).toNatClampNeg 101) (fun M137 => st (setP M137 x0 17 n87) (fun M140 => nw M140 20 4 (fun M144 n145 => gd (ib 0 (mL M144 n145)) (st (setI M144 n145 (0 : Int32).toNatClampNeg 0) (fun M151 => gd (ib 1 (mL M151 n145)) (st (setI M151 n145 (1 : Int32).toNatClampNeg 4) (fun M155 => gd (ib 2 (mL M155 n145)) (st (setI M155 n145 (2 : Int32).toNatClampNeg 8) (fun M159 => gd (ib 3 (mL M159 n145)) (st (setI M159 n145 (3 : Int32).toNatClampNeg 12) (fun M163 => st (setP M163 x0 18 n145) (fun M166 => nw M166 20 96 (fun M170 n171 => st (setP M170 x0 19 n171) (fun M176 => nw M176 20 96 (fun M180 n181 => st (setP M180 x0 22 n181) (fun M186 => nw M186 21 10 (fun M190 n191 => st (setP M190 x0 24 n191) (fun M196 => nw M196 20 96 (fun M200 n201 => st (setP M200 x0 25 n201) (fun M206 => nw M206 20 4 (fun M210 n211 => st (setP M210 x0 26 n211) (fun M216 => nw M216 20 4 (fun M220 n221 => gd (ib 0 (mL M220 n221)) (st (setI M220 n221 (0 : Int32).toNatClampNeg (-1)) (fun M227 => gd (ib 1 (mL M227 n221)) (st (setI M227 n221 (1 : Int32).toNatClampNeg (-1)) (fun M231 => gd (ib 2 (mL M231 n221)) (st (setI M231 n221 (2 : Int32).toNatClampNeg (-1)) (fun M235 => gd (ib 3 (mL M235 n221)) (st (setI M235 n221 (3 : Int32).toNatClampNeg (-1)) (fun M239 => st (setP M239 x0 27 n221) (fun M242 => nw M242 20 4 (fun M246 n247 => st (setP M246 x0 28 n247) (fun M252 => nw M252 20 96 (fun M256 n257 => st (setP M256 x0 29 n257) (fun M262 => nw M262 20 5 (fun M266 n267 => st (setP M266 x0 30 n267) (fun M272 => nw M272 20 5 (fun M276 n277 => st (setP M276 x0 31 n277) (fun M282 => nw M282 20 5 (fun M286 n287 => st (setP M286 x0 32 n287) (fun M292 => nw M292 20 120 (fun M296 n297 => st (setP M296 x0 33 n297) (fun M302 => nw M302 20 24 (fun M306 n307 => st (setP M306 x0 34 n307) (fun M312 => nw M312 20 60 (fun M316 n317 => st (setP M316 x0 35 n317) (fun M322 => lp (mP M322 x0 0) (fun a325 => gt (mT M322 a325) 20 (gd (ib 0 (mL M322 a325)) (st (setI M322 a325 (0 : Int32).toNatClampNeg 1) (fun M329 => gd (ib 4 (mL M329 a325)) (st (setI M329 a325 (4 : Int32).toNatClampNeg 10) (fun M333 => gd (ib 5 (mL M333 a325)) (st (setI M333 a325 (5 : Int32).toNatClampNeg 30) (fun M337 => gd (ib 6 (mL M337 a325)) (st (setI M337 a325 (6 : Int32).toNatClampNeg 20) (fun M341 => some ((), M341)))))))))))))))))))))))))))))))))))))))))))))))))))))))))))))))))))))))))))))))))))))))))))))))))))))
set_option maxHeartbeats 40000000 in
set_option maxRecDepth 100000 in
theorem c_X10_init (l : Launch) (G : Gd) (A : Nat → Prop) (ad : Nat → Nat) {M : Mem} {x0 : Nat}  {M' : Mem} (hf : f_X10_init M x0 = some ((), M')) : Ct l yX10_init cX10_init 1 none rm_X10_init [.ref (ad x0)] G A ad M (QVa G A ad M M') 24 5161 := by
  refine ct_start (by decide) (Nat.le_of_ble_eq_true rfl) ?_
  intro p e s m args below meth c ls C hin hw hl
  have C : Cx G A p s m args meth c RX10 cX10_init 1 none := C
  have hl : lv_has ls 1 [(0, .ref (ad x0))] := hl
  obtain ⟨hx, hb, -⟩ := id C
  rw [f_X10_init] at hf
  refine lv_aload_n hx hb dX10_init_0 rfl (lv_at hl 0 rfl) ?_
  refine r_obj C hl.1 mk_X10_1 ob_i ob_c (Nat.le_of_ble_eq_true rfl) (Nat.le_of_ble_eq_true rfl) dX10_init_1 ?_
  refine lv_aload_n hx hb dX10_init_4 rfl (lv_at hl 0 rfl) ?_
  refine lv_sipush (v := 1442) hx hb dX10_init_5 (by decide) ?_
  obtain ⟨hT1, hf⟩ := gt_inv hf
  have lt2 := T_lt hw hT1 (by decide)
  obtain ⟨M3, n4, e5, en6, hf⟩ := nw_inv hf
  refine r_newa (atype := .int) (ty := .int) C hw 0 rfl rfl (by decide) rfl e5 en6 ar_int (by decide) (by decide) (Nat.le_of_ble_eq_true rfl) (Nat.le_of_ble_eq_true rfl) (Nat.le_of_ble_eq_true rfl) dX10_init_8 (fun ad8 H hk7 hw => ?_)
  rw [← hk7 x0 lt2] at hl
  rw [← hk7 x0 lt2]
  obtain ⟨M9, e10, hf⟩ := st_inv hf
  have g11 := sg_P e10
  refine r_putFP C (hin.trans rfl) hw cf10 0 (by decide) rfl (T_old e5 lt2 hT1) (T_ne (T_new e5 en6) (by decide)) e10 fk_X10_9 rfl rfl rfl rfl dX10_init_10 (fun H locs hw => ?_)
  refine lv_aload_n hx hb dX10_init_13 rfl (lv_at hl 0 rfl) ?_
  refine lv_sipush (v := 1442) hx hb dX10_init_14 (by decide) ?_
  have lt12 := T_lt hw (T_of2 g11 (T_old e5 lt2 hT1)) (by decide)
  obtain ⟨M13, n14, e15, en16, hf⟩ := nw_inv hf
  refine r_newa (atype := .int) (ty := .int) C hw 0 rfl rfl (by decide) rfl e15 en16 ar_int (by decide) (by decide) (Nat.le_of_ble_eq_true rfl) (Nat.le_of_ble_eq_true rfl) (Nat.le_of_ble_eq_true rfl) dX10_init_17 (fun ad18 H hk17 hw => ?_)
  rw [← hk17 x0 lt12] at hl
  rw [← hk17 x0 lt12]
  obtain ⟨M19, e20, hf⟩ := st_inv hf
  have g21 := sg_P e20
  refine r_putFP C (hin.trans rfl) hw cf10 1 (by decide) rfl (T_old e15 lt12 (T_of2 g11 (T_old e5 lt2 hT1))) (T_ne (T_new e15 en16) (by decide)) e20 fk_X10_13 rfl rfl rfl rfl dX10_init_19 (fun H locs hw => ?_)
  refine lv_aload_n hx hb dX10_init_22 rfl (lv_at hl 0 rfl) ?_
  refine lv_sipush (v := 1442) hx hb dX10_init_23 (by decide) ?_
  have lt22 := T_lt hw (T_of2 g21 (T_old e15 lt12 (T_of2 g11 (T_old e5 lt2 hT1)))) (by decide)
  obtain ⟨M23, n24, e25, en26, hf⟩ := nw_inv hf
  refine r_newa (atype := .int) (ty := .int) C hw 0 rfl rfl (by decide) rfl e25 en26 ar_int (by decide) (by decide) (Nat.le_of_ble_eq_true rfl) (Nat.le_of_ble_eq_true rfl) (Nat.le_of_ble_eq_true rfl) dX10_init_26 (fun ad28 H hk27 hw => ?_)
  rw [← hk27 x0 lt22] at hl
  rw [← hk27 x0 lt22]
  obtain ⟨M29, e30, hf⟩ := st_inv hf
  have g31 := sg_P e30
  refine r_putFP C (hin.trans rfl) hw cf10 2 (by decide) rfl (T_old e25 lt22 (T_of2 g21 (T_old e15 lt12 (T_of2 g11 (T_old e5 lt2 hT1))))) (T_ne (T_new e25 en26) (by decide)) e30 fk_X10_16 rfl rfl rfl rfl dX10_init_28 (fun H locs hw => ?_)
  refine lv_aload_n hx hb dX10_init_31 rfl (lv_at hl 0 rfl) ?_
  refine lv_iconst (v := (-1)) hx hb dX10_init_32 (by decide) ?_
  obtain ⟨M32, e33, hf⟩ := st_inv hf
  have g34 := sg_I e33
  refine r_putI C hw cf10 4 (by decide) rfl (T_of2 g31 (T_old e25 lt22 (T_of2 g21 (T_old e15 lt12 (T_of2 g11 (T_old e5 lt2 hT1)))))) e33 fl_X10_19 rfl rfl rfl dX10_init_33 (fun H locs hw => ?_)
  refine lv_aload_n hx hb dX10_init_36 rfl (lv_at hl 0 rfl) ?_
  refine lv_bipush (v := 8) hx hb dX10_init_37 (by decide) ?_
  have lt35 := T_lt hw (T_of g34 (T_of2 g31 (T_old e25 lt22 (T_of2 g21 (T_old e15 lt12 (T_of2 g11 (T_old e5 lt2 hT1))))))) (by decide)
  obtain ⟨M36, n37, e38, en39, hf⟩ := nw_inv hf
  refine r_newa (atype := .int) (ty := .int) C hw 0 rfl rfl (by decide) rfl e38 en39 ar_int (by decide) (by decide) (Nat.le_of_ble_eq_true rfl) (Nat.le_of_ble_eq_true rfl) (Nat.le_of_ble_eq_true rfl) dX10_init_39 (fun ad41 H hk40 hw => ?_)
  rw [← hk40 x0 lt35] at hl
  rw [← hk40 x0 lt35]
  obtain ⟨M42, e43, hf⟩ := st_inv hf
  have g44 := sg_P e43
  refine r_putFP C (hin.trans rfl) hw cf10 5 (by decide) rfl (T_old e38 lt35 (T_of g34 (T_of2 g31 (T_old e25 lt22 (T_of2 g21 (T_old e15 lt12 (T_of2 g11 (T_old e5 lt2 hT1)))))))) (T_ne (T_new e38 en39) (by decide)) e43 fk_X10_23 rfl rfl rfl rfl dX10_init_41 (fun H locs hw => ?_)
  refine lv_aload_n hx hb dX10_init_44 rfl (lv_at hl 0 rfl) ?_
  refine lv_bipush (v := 10) hx hb dX10_init_45 (by decide) ?_
  have lt45 := T_lt hw (T_of2 g44 (T_old e38 lt35 (T_of g34 (T_of2 g31 (T_old e25 lt22 (T_of2 g21 (T_old e15 lt12 (T_of2 g11 (T_old e5 lt2 hT1))))))))) (by decide)
  obtain ⟨M46, n47, e48, en49, hf⟩ := nw_inv hf
  refine r_newa (atype := .int) (ty := .int) C hw 0 rfl rfl (by decide) rfl e48 en49 ar_int (by decide) (by decide) (Nat.le_of_ble_eq_true rfl) (Nat.le_of_ble_eq_true rfl) (Nat.le_of_ble_eq_true rfl) dX10_init_47 (fun ad51 H hk50 hw => ?_)
  rw [← hk50 x0 lt45] at hl
  rw [← hk50 x0 lt45]
  obtain ⟨M52, e53, hf⟩ := st_inv hf
  have g54 := sg_P e53
  refine r_putFP C (hin.trans rfl) hw cf10 6 (by decide) rfl (T_old e48 lt45 (T_of2 g44 (T_old e38 lt35 (T_of g34 (T_of2 g31 (T_old e25 lt22 (T_of2 g21 (T_old e15 lt12 (T_of2 g11 (T_old e5 lt2 hT1)))))))))) (T_ne (T_new e48 en49) (by decide)) e53 fk_X10_26 rfl rfl rfl rfl dX10_init_49 (fun H locs hw => ?_)
  refine lv_aload_n hx hb dX10_init_52 rfl (lv_at hl 0 rfl) ?_
  refine lv_bipush (v := 10) hx hb dX10_init_53 (by decide) ?_
  have lt55 := T_lt hw (T_of2 g54 (T_old e48 lt45 (T_of2 g44 (T_old e38 lt35 (T_of g34 (T_of2 g31 (T_old e25 lt22 (T_of2 g21 (T_old e15 lt12 (T_of2 g11 (T_old e5 lt2 hT1))))))))))) (by decide)
  obtain ⟨M56, n57, e58, en59, hf⟩ := nw_inv hf
  refine r_newa (atype := .boolean) (ty := .boolean) C hw 1 rfl rfl (by decide) rfl e58 en59 ar_boolean (by decide) (by decide) (Nat.le_of_ble_eq_true rfl) (Nat.le_of_ble_eq_true rfl) (Nat.le_of_ble_eq_true rfl) dX10_init_55 (fun ad61 H hk60 hw => ?_)
  rw [← hk60 x0 lt55] at hl
  rw [← hk60 x0 lt55]
  obtain ⟨M62, e63, hf⟩ := st_inv hf
  have g64 := sg_P e63
  refine r_putFP C (hin.trans rfl) hw cf10 7 (by decide) rfl (T_old e58 lt55 (T_of2 g54 (T_old e48 lt45 (T_of2 g44 (T_old e38 lt35 (T_of g34 (T_of2 g31 (T_old e25 lt22 (T_of2 g21 (T_old e15 lt12 (T_of2 g11 (T_old e5 lt2 hT1)))))))))))) (T_ne (T_new e58 en59) (by decide)) e63 fk_X10_29 rfl rfl rfl rfl dX10_init_57 (fun H locs hw => ?_)
  refine lv_aload_n hx hb dX10_init_60 rfl (lv_at hl 0 rfl) ?_
  refine lv_bipush (v := 70) hx hb dX10_init_61 (by decide) ?_
  have lt65 := T_lt hw (T_of2 g64 (T_old e58 lt55 (T_of2 g54 (T_old e48 lt45 (T_of2 g44 (T_old e38 lt35 (T_of g34 (T_of2 g31 (T_old e25 lt22 (T_of2 g21 (T_old e15 lt12 (T_of2 g11 (T_old e5 lt2 hT1))))))))))))) (by decide)
  obtain ⟨M66, n67, e68, en69, hf⟩ := nw_inv hf
  refine r_newa (atype := .int) (ty := .int) C hw 0 rfl rfl (by decide) rfl e68 en69 ar_int (by decide) (by decide) (Nat.le_of_ble_eq_true rfl) (Nat.le_of_ble_eq_true rfl) (Nat.le_of_ble_eq_true rfl) dX10_init_63 (fun ad71 H hk70 hw => ?_)
  rw [← hk70 x0 lt65] at hl
  rw [← hk70 x0 lt65]
  obtain ⟨M72, e73, hf⟩ := st_inv hf
  have g74 := sg_P e73
  refine r_putFP C (hin.trans rfl) hw cf10 8 (by decide) rfl (T_old e68 lt65 (T_of2 g64 (T_old e58 lt55 (T_of2 g54 (T_old e48 lt45 (T_of2 g44 (T_old e38 lt35 (T_of g34 (T_of2 g31 (T_old e25 lt22 (T_of2 g21 (T_old e15 lt12 (T_of2 g11 (T_old e5 lt2 hT1)))))))))))))) (T_ne (T_new e68 en69) (by decide)) e73 fk_X10_33 rfl rfl rfl rfl dX10_init_65 (fun H locs hw => ?_)
  refine lv_aload_n hx hb dX10_init_68 rfl (lv_at hl 0 rfl) ?_
  refine lv_bipush (v := 96) hx hb dX10_init_69 (by decide) ?_
  have lt75 := T_lt hw (T_of2 g74 (T_old e68 lt65 (T_of2 g64 (T_old e58 lt55 (T_of2 g54 (T_old e48 lt45 (T_of2 g44 (T_old e38 lt35 (T_of g34 (T_of2 g31 (T_old e25 lt22 (T_of2 g21 (T_old e15 lt12 (T_of2 g11 (T_old e5 lt2 hT1))))))))))))))) (by decide)
  obtain ⟨M76, n77, e78, en79, hf⟩ := nw_inv hf
  refine r_newa (atype := .int) (ty := .int) C hw 0 rfl rfl (by decide) rfl e78 en79 ar_int (by decide) (by decide) (Nat.le_of_ble_eq_true rfl) (Nat.le_of_ble_eq_true rfl) (Nat.le_of_ble_eq_true rfl) dX10_init_71 (fun ad81 H hk80 hw => ?_)
  rw [← hk80 x0 lt75] at hl
  rw [← hk80 x0 lt75]
  obtain ⟨M82, e83, hf⟩ := st_inv hf
  have g84 := sg_P e83
  refine r_putFP C (hin.trans rfl) hw cf10 9 (by decide) rfl (T_old e78 lt75 (T_of2 g74 (T_old e68 lt65 (T_of2 g64 (T_old e58 lt55 (T_of2 g54 (T_old e48 lt45 (T_of2 g44 (T_old e38 lt35 (T_of g34 (T_of2 g31 (T_old e25 lt22 (T_of2 g21 (T_old e15 lt12 (T_of2 g11 (T_old e5 lt2 hT1)))))))))))))))) (T_ne (T_new e78 en79) (by decide)) e83 fk_X10_36 rfl rfl rfl rfl dX10_init_73 (fun H locs hw => ?_)
  refine lv_aload_n hx hb dX10_init_76 rfl (lv_at hl 0 rfl) ?_
  refine lv_bipush (v := 12) hx hb dX10_init_77 (by decide) ?_
  have lt85 := T_lt hw (T_of2 g84 (T_old e78 lt75 (T_of2 g74 (T_old e68 lt65 (T_of2 g64 (T_old e58 lt55 (T_of2 g54 (T_old e48 lt45 (T_of2 g44 (T_old e38 lt35 (T_of g34 (T_of2 g31 (T_old e25 lt22 (T_of2 g21 (T_old e15 lt12 (T_of2 g11 (T_old e5 lt2 hT1))))))))))))))))) (by decide)
  obtain ⟨M86, n87, e88, en89, hf⟩ := nw_inv hf
  refine r_newa (atype := .char) (ty := .char) C hw 2 rfl rfl (by decide) rfl e88 en89 ar_char (by decide) (by decide) (Nat.le_of_ble_eq_true rfl) (Nat.le_of_ble_eq_true rfl) (Nat.le_of_ble_eq_true rfl) dX10_init_79 (fun ad91 H hk90 hw => ?_)
  rw [← hk90 x0 lt85] at hl
  rw [← hk90 x0 lt85]
  refine lv_dup hx hb dX10_init_81 rfl ?_
  refine lv_iconst (v := 0) hx hb dX10_init_82 (by decide) ?_
  refine lv_bipush (v := 108) hx hb dX10_init_83 (by decide) ?_
  obtain ⟨hg92, hf⟩ := gd_inv hf
  obtain ⟨M93, e94, hf⟩ := st_inv hf
  have g95 := sg_I e94
  refine r_cast C hw (T_new e88 en89) hg92 (by decide) e94 dX10_init_85 (fun H locs hw => ?_)
  refine lv_dup hx hb dX10_init_86 rfl ?_
  refine lv_iconst (v := 1) hx hb dX10_init_87 (by decide) ?_
  refine lv_bipush (v := 105) hx hb dX10_init_88 (by decide) ?_
  obtain ⟨hg96, hf⟩ := gd_inv hf
  obtain ⟨M97, e98, hf⟩ := st_inv hf
  have g99 := sg_I e98
  refine r_cast C hw (T_of g95 (T_new e88 en89)) hg96 (by decide) e98 dX10_init_90 (fun H locs hw => ?_)
  refine lv_dup hx hb dX10_init_91 rfl ?_
  refine lv_iconst (v := 2) hx hb dX10_init_92 (by decide) ?_
  refine lv_bipush (v := 107) hx hb dX10_init_93 (by decide) ?_
  obtain ⟨hg100, hf⟩ := gd_inv hf
  obtain ⟨M101, e102, hf⟩ := st_inv hf
  have g103 := sg_I e102
  refine r_cast C hw (T_of g99 (T_of g95 (T_new e88 en89))) hg100 (by decide) e102 dX10_init_95 (fun H locs hw => ?_)
  refine lv_dup hx hb dX10_init_96 rfl ?_
  refine lv_iconst (v := 3) hx hb dX10_init_97 (by decide) ?_
  refine lv_bipush (v := 101) hx hb dX10_init_98 (by decide) ?_
  obtain ⟨hg104, hf⟩ := gd_inv hf
  obtain ⟨M105, e106, hf⟩ := st_inv hf
  have g107 := sg_I e106
  refine r_cast C hw (T_of g103 (T_of g99 (T_of g95 (T_new e88 en89)))) hg104 (by decide) e106 dX10_init_100 (fun H locs hw => ?_)
  refine lv_dup hx hb dX10_init_101 rfl ?_
  refine lv_iconst (v := 4) hx hb dX10_init_102 (by decide) ?_
  refine lv_bipush (v := 115) hx hb dX10_init_103 (by decide) ?_
  obtain ⟨hg108, hf⟩ := gd_inv hf
  obtain ⟨M109, e110, hf⟩ := st_inv hf
  have g111 := sg_I e110
  refine r_cast C hw (T_of g107 (T_of g103 (T_of g99 (T_of g95 (T_new e88 en89))))) hg108 (by decide) e110 dX10_init_105 (fun H locs hw => ?_)
  refine lv_dup hx hb dX10_init_106 rfl ?_
  refine lv_iconst (v := 5) hx hb dX10_init_107 (by decide) ?_
  refine lv_bipush (v := 101) hx hb dX10_init_108 (by decide) ?_
  obtain ⟨hg112, hf⟩ := gd_inv hf
  obtain ⟨M113, e114, hf⟩ := st_inv hf
  have g115 := sg_I e114
  refine r_cast C hw (T_of g111 (T_of g107 (T_of g103 (T_of g99 (T_of g95 (T_new e88 en89)))))) hg112 (by decide) e114 dX10_init_110 (fun H locs hw => ?_)
  refine lv_dup hx hb dX10_init_111 rfl ?_
  refine lv_bipush (v := 6) hx hb dX10_init_112 (by decide) ?_
  refine lv_bipush (v := 97) hx hb dX10_init_114 (by decide) ?_
  obtain ⟨hg116, hf⟩ := gd_inv hf
  obtain ⟨M117, e118, hf⟩ := st_inv hf
  have g119 := sg_I e118
  refine r_cast C hw (T_of g115 (T_of g111 (T_of g107 (T_of g103 (T_of g99 (T_of g95 (T_new e88 en89))))))) hg116 (by decide) e118 dX10_init_116 (fun H locs hw => ?_)
  refine lv_dup hx hb dX10_init_117 rfl ?_
  refine lv_bipush (v := 7) hx hb dX10_init_118 (by decide) ?_
  refine lv_bipush (v := 116) hx hb dX10_init_120 (by decide) ?_
  obtain ⟨hg120, hf⟩ := gd_inv hf
  obtain ⟨M121, e122, hf⟩ := st_inv hf
  have g123 := sg_I e122
  refine r_cast C hw (T_of g119 (T_of g115 (T_of g111 (T_of g107 (T_of g103 (T_of g99 (T_of g95 (T_new e88 en89)))))))) hg120 (by decide) e122 dX10_init_122 (fun H locs hw => ?_)
  refine lv_dup hx hb dX10_init_123 rfl ?_
  refine lv_bipush (v := 8) hx hb dX10_init_124 (by decide) ?_
  refine lv_bipush (v := 102) hx hb dX10_init_126 (by decide) ?_
  obtain ⟨hg124, hf⟩ := gd_inv hf
  obtain ⟨M125, e126, hf⟩ := st_inv hf
  have g127 := sg_I e126
  refine r_cast C hw (T_of g123 (T_of g119 (T_of g115 (T_of g111 (T_of g107 (T_of g103 (T_of g99 (T_of g95 (T_new e88 en89))))))))) hg124 (by decide) e126 dX10_init_128 (fun H locs hw => ?_)
  refine lv_dup hx hb dX10_init_129 rfl ?_
  refine lv_bipush (v := 9) hx hb dX10_init_130 (by decide) ?_
  refine lv_bipush (v := 105) hx hb dX10_init_132 (by decide) ?_
  obtain ⟨hg128, hf⟩ := gd_inv hf
  obtain ⟨M129, e130, hf⟩ := st_inv hf
  have g131 := sg_I e130
  refine r_cast C hw (T_of g127 (T_of g123 (T_of g119 (T_of g115 (T_of g111 (T_of g107 (T_of g103 (T_of g99 (T_of g95 (T_new e88 en89)))))))))) hg128 (by decide) e130 dX10_init_134 (fun H locs hw => ?_)
  refine lv_dup hx hb dX10_init_135 rfl ?_
  refine lv_bipush (v := 10) hx hb dX10_init_136 (by decide) ?_
  refine lv_bipush (v := 110) hx hb dX10_init_138 (by decide) ?_
  obtain ⟨hg132, hf⟩ := gd_inv hf
  obtain ⟨M133, e134, hf⟩ := st_inv hf
  have g135 := sg_I e134
  refine r_cast C hw (T_of g131 (T_of g127 (T_of g123 (T_of g119 (T_of g115 (T_of g111 (T_of g107 (T_of g103 (T_of g99 (T_of g95 (T_new e88 en89))))))))))) hg132 (by decide) e134 dX10_init_140 (fun H locs hw => ?_)
  refine lv_dup hx hb dX10_init_141 rfl ?_
  refine lv_bipush (v := 11) hx hb dX10_init_142 (by decide) ?_
  refine lv_bipush (v := 101) hx hb dX10_init_144 (by decide) ?_
  obtain ⟨hg136, hf⟩ := gd_inv hf
  obtain ⟨M137, e138, hf⟩ := st_inv hf
  have g139 := sg_I e138
  refine r_cast C hw (T_of g135 (T_of g131 (T_of g127 (T_of g123 (T_of g119 (T_of g115 (T_of g111 (T_of g107 (T_of g103 (T_of g99 (T_of g95 (T_new e88 en89)))))))))))) hg136 (by decide) e138 dX10_init_146 (fun H locs hw => ?_)
  obtain ⟨M140, e141, hf⟩ := st_inv hf
  have g142 := sg_P e141
  refine r_putFP C (hin.trans rfl) hw cf10 17 (by decide) rfl (T_of g139 (T_of g135 (T_of g131 (T_of g127 (T_of g123 (T_of g119 (T_of g115 (T_of g111 (T_of g107 (T_of g103 (T_of g99 (T_of g95 (T_old e88 lt85 (T_of2 g84 (T_old e78 lt75 (T_of2 g74 (T_old e68 lt65 (T_of2 g64 (T_old e58 lt55 (T_of2 g54 (T_old e48 lt45 (T_of2 g44 (T_old e38 lt35 (T_of g34 (T_of2 g31 (T_old e25 lt22 (T_of2 g21 (T_old e15 lt12 (T_of2 g11 (T_old e5 lt2 hT1)))))))))))))))))))))))))))))) (T_ne (T_of g139 (T_of g135 (T_of g131 (T_of g127 (T_of g123 (T_of g119 (T_of g115 (T_of g111 (T_of g107 (T_of g103 (T_of g99 (T_of g95 (T_new e88 en89))))))))))))) (by decide)) e141 fk_X10_39 rfl rfl rfl rfl dX10_init_147 (fun H locs hw => ?_)
  refine lv_aload_n hx hb dX10_init_150 rfl (lv_at hl 0 rfl) ?_
  refine lv_iconst (v := 4) hx hb dX10_init_151 (by decide) ?_
  have lt143 := T_lt hw (T_of2 g142 (T_of g139 (T_of g135 (T_of g131 (T_of g127 (T_of g123 (T_of g119 (T_of g115 (T_of g111 (T_of g107 (T_of g103 (T_of g99 (T_of g95 (T_old e88 lt85 (T_of2 g84 (T_old e78 lt75 (T_of2 g74 (T_old e68 lt65 (T_of2 g64 (T_old e58 lt55 (T_of2 g54 (T_old e48 lt45 (T_of2 g44 (T_old e38 lt35 (T_of g34 (T_of2 g31 (T_old e25 lt22 (T_of2 g21 (T_old e15 lt12 (T_of2 g11 (T_old e5 lt2 hT1))))))))))))))))))))))))))))))) (by decide)
  obtain ⟨M144, n145, e146, en147, hf⟩ := nw_inv hf
  refine r_newa (atype := .int) (ty := .int) C hw 0 rfl rfl (by decide) rfl e146 en147 ar_int (by decide) (by decide) (Nat.le_of_ble_eq_true rfl) (Nat.le_of_ble_eq_true rfl) (Nat.le_of_ble_eq_true rfl) dX10_init_152 (fun ad149 H hk148 hw => ?_)
  rw [← hk148 x0 lt143] at hl
  rw [← hk148 x0 lt143]
  refine lv_dup hx hb dX10_init_154 rfl ?_
  refine lv_iconst (v := 0) hx hb dX10_init_155 (by decide) ?_
  refine lv_iconst (v := 0) hx hb dX10_init_156 (by decide) ?_
  obtain ⟨hg150, hf⟩ := gd_inv hf
  obtain ⟨M151, e152, hf⟩ := st_inv hf
  have g153 := sg_I e152
  refine r_iast C hw (T_new e146 en147) hg150 e152 dX10_init_157 (fun H locs hw => ?_)
  refine lv_dup hx hb dX10_init_158 rfl ?_
  refine lv_iconst (v := 1) hx hb dX10_init_159 (by decide) ?_
  refine lv_iconst (v := 4) hx hb dX10_init_160 (by decide) ?_
  obtain ⟨hg154, hf⟩ := gd_inv hf
  obtain ⟨M155, e156, hf⟩ := st_inv hf
  have g157 := sg_I e156
  refine r_iast C hw (T_of g153 (T_new e146 en147)) hg154 e156 dX10_init_161 (fun H locs hw => ?_)
  refine lv_dup hx hb dX10_init_162 rfl ?_
  refine lv_iconst (v := 2) hx hb dX10_init_163 (by decide) ?_
  refine lv_bipush (v := 8) hx hb dX10_init_164 (by decide) ?_
  obtain ⟨hg158, hf⟩ := gd_inv hf
  obtain ⟨M159, e160, hf⟩ := st_inv hf
  have g161 := sg_I e160
  refine r_iast C hw (T_of g157 (T_of g153 (T_new e146 en147))) hg158 e160 dX10_init_166 (fun H locs hw => ?_)
  refine lv_dup hx hb dX10_init_167 rfl ?_
  refine lv_iconst (v := 3) hx hb dX10_init_168 (by decide) ?_
  refine lv_bipush (v := 12) hx hb dX10_init_169 (by decide) ?_
  obtain ⟨hg162, hf⟩ := gd_inv hf
  obtain ⟨M163, e164, hf⟩ := st_inv hf
  have g165 := sg_I e164
  refine r_iast C hw (T_of g161 (T_of g157 (T_of g153 (T_new e146 en147)))) hg162 e164 dX10_init_171 (fun H locs hw => ?_)
  obtain ⟨M166, e167, hf⟩ := st_inv hf
  have g168 := sg_P e167
  refine r_putFP C (hin.trans rfl) hw cf10 18 (by decide) rfl (T_of g165 (T_of g161 (T_of g157 (T_of g153 (T_old e146 lt143 (T_of2 g142 (T_of g139 (T_of g135 (T_of g131 (T_of g127 (T_of g123 (T_of g119 (T_of g115 (T_of g111 (T_of g107 (T_of g103 (T_of g99 (T_of g95 (T_old e88 lt85 (T_of2 g84 (T_old e78 lt75 (T_of2 g74 (T_old e68 lt65 (T_of2 g64 (T_old e58 lt55 (T_of2 g54 (T_old e48 lt45 (T_of2 g44 (T_old e38 lt35 (T_of g34 (T_of2 g31 (T_old e25 lt22 (T_of2 g21 (T_old e15 lt12 (T_of2 g11 (T_old e5 lt2 hT1)))))))))))))))))))))))))))))))))))) (T_ne (T_of g165 (T_of g161 (T_of g157 (T_of g153 (T_new e146 en147))))) (by decide)) e167 fk_X10_43 rfl rfl rfl rfl dX10_init_172 (fun H locs hw => ?_)
  refine lv_aload_n hx hb dX10_init_175 rfl (lv_at hl 0 rfl) ?_
  refine lv_bipush (v := 96) hx hb dX10_init_176 (by decide) ?_
  have lt169 := T_lt hw (T_of2 g168 (T_of g165 (T_of g161 (T_of g157 (T_of g153 (T_old e146 lt143 (T_of2 g142 (T_of g139 (T_of g135 (T_of g131 (T_of g127 (T_of g123 (T_of g119 (T_of g115 (T_of g111 (T_of g107 (T_of g103 (T_of g99 (T_of g95 (T_old e88 lt85 (T_of2 g84 (T_old e78 lt75 (T_of2 g74 (T_old e68 lt65 (T_of2 g64 (T_old e58 lt55 (T_of2 g54 (T_old e48 lt45 (T_of2 g44 (T_old e38 lt35 (T_of g34 (T_of2 g31 (T_old e25 lt22 (T_of2 g21 (T_old e15 lt12 (T_of2 g11 (T_old e5 lt2 hT1))))))))))))))))))))))))))))))))))))) (by decide)
  obtain ⟨M170, n171, e172, en173, hf⟩ := nw_inv hf
  refine r_newa (atype := .int) (ty := .int) C hw 0 rfl rfl (by decide) rfl e172 en173 ar_int (by decide) (by decide) (Nat.le_of_ble_eq_true rfl) (Nat.le_of_ble_eq_true rfl) (Nat.le_of_ble_eq_true rfl) dX10_init_178 (fun ad175 H hk174 hw => ?_)
  rw [← hk174 x0 lt169] at hl
  rw [← hk174 x0 lt169]
  obtain ⟨M176, e177, hf⟩ := st_inv hf
  have g178 := sg_P e177
  refine r_putFP C (hin.trans rfl) hw cf10 19 (by decide) rfl (T_old e172 lt169 (T_of2 g168 (T_of g165 (T_of g161 (T_of g157 (T_of g153 (T_old e146 lt143 (T_of2 g142 (T_of g139 (T_of g135 (T_of g131 (T_of g127 (T_of g123 (T_of g119 (T_of g115 (T_of g111 (T_of g107 (T_of g103 (T_of g99 (T_of g95 (T_old e88 lt85 (T_of2 g84 (T_old e78 lt75 (T_of2 g74 (T_old e68 lt65 (T_of2 g64 (T_old e58 lt55 (T_of2 g54 (T_old e48 lt45 (T_of2 g44 (T_old e38 lt35 (T_of g34 (T_of2 g31 (T_old e25 lt22 (T_of2 g21 (T_old e15 lt12 (T_of2 g11 (T_old e5 lt2 hT1)))))))))))))))))))))))))))))))))))))) (T_ne (T_new e172 en173) (by decide)) e177 fk_X10_46 rfl rfl rfl rfl dX10_init_180 (fun H locs hw => ?_)
  refine lv_aload_n hx hb dX10_init_183 rfl (lv_at hl 0 rfl) ?_
  refine lv_bipush (v := 96) hx hb dX10_init_184 (by decide) ?_
  have lt179 := T_lt hw (T_of2 g178 (T_old e172 lt169 (T_of2 g168 (T_of g165 (T_of g161 (T_of g157 (T_of g153 (T_old e146 lt143 (T_of2 g142 (T_of g139 (T_of g135 (T_of g131 (T_of g127 (T_of g123 (T_of g119 (T_of g115 (T_of g111 (T_of g107 (T_of g103 (T_of g99 (T_of g95 (T_old e88 lt85 (T_of2 g84 (T_old e78 lt75 (T_of2 g74 (T_old e68 lt65 (T_of2 g64 (T_old e58 lt55 (T_of2 g54 (T_old e48 lt45 (T_of2 g44 (T_old e38 lt35 (T_of g34 (T_of2 g31 (T_old e25 lt22 (T_of2 g21 (T_old e15 lt12 (T_of2 g11 (T_old e5 lt2 hT1))))))))))))))))))))))))))))))))))))))) (by decide)
  obtain ⟨M180, n181, e182, en183, hf⟩ := nw_inv hf
  refine r_newa (atype := .int) (ty := .int) C hw 0 rfl rfl (by decide) rfl e182 en183 ar_int (by decide) (by decide) (Nat.le_of_ble_eq_true rfl) (Nat.le_of_ble_eq_true rfl) (Nat.le_of_ble_eq_true rfl) dX10_init_186 (fun ad185 H hk184 hw => ?_)
  rw [← hk184 x0 lt179] at hl
  rw [← hk184 x0 lt179]
  obtain ⟨M186, e187, hf⟩ := st_inv hf
  have g188 := sg_P e187
  refine r_putFP C (hin.trans rfl) hw cf10 22 (by decide) rfl (T_old e182 lt179 (T_of2 g178 (T_old e172 lt169 (T_of2 g168 (T_of g165 (T_of g161 (T_of g157 (T_of g153 (T_old e146 lt143 (T_of2 g142 (T_of g139 (T_of g135 (T_of g131 (T_of g127 (T_of g123 (T_of g119 (T_of g115 (T_of g111 (T_of g107 (T_of g103 (T_of g99 (T_of g95 (T_old e88 lt85 (T_of2 g84 (T_old e78 lt75 (T_of2 g74 (T_old e68 lt65 (T_of2 g64 (T_old e58 lt55 (T_of2 g54 (T_old e48 lt45 (T_of2 g44 (T_old e38 lt35 (T_of g34 (T_of2 g31 (T_old e25 lt22 (T_of2 g21 (T_old e15 lt12 (T_of2 g11 (T_old e5 lt2 hT1)))))))))))))))))))))))))))))))))))))))) (T_ne (T_new e182 en183) (by decide)) e187 fk_X10_49 rfl rfl rfl rfl dX10_init_188 (fun H locs hw => ?_)
  refine lv_aload_n hx hb dX10_init_191 rfl (lv_at hl 0 rfl) ?_
  refine lv_bipush (v := 10) hx hb dX10_init_192 (by decide) ?_
  have lt189 := T_lt hw (T_of2 g188 (T_old e182 lt179 (T_of2 g178 (T_old e172 lt169 (T_of2 g168 (T_of g165 (T_of g161 (T_of g157 (T_of g153 (T_old e146 lt143 (T_of2 g142 (T_of g139 (T_of g135 (T_of g131 (T_of g127 (T_of g123 (T_of g119 (T_of g115 (T_of g111 (T_of g107 (T_of g103 (T_of g99 (T_of g95 (T_old e88 lt85 (T_of2 g84 (T_old e78 lt75 (T_of2 g74 (T_old e68 lt65 (T_of2 g64 (T_old e58 lt55 (T_of2 g54 (T_old e48 lt45 (T_of2 g44 (T_old e38 lt35 (T_of g34 (T_of2 g31 (T_old e25 lt22 (T_of2 g21 (T_old e15 lt12 (T_of2 g11 (T_old e5 lt2 hT1))))))))))))))))))))))))))))))))))))))))) (by decide)
  obtain ⟨M190, n191, e192, en193, hf⟩ := nw_inv hf
  refine r_newa (atype := .boolean) (ty := .boolean) C hw 1 rfl rfl (by decide) rfl e192 en193 ar_boolean (by decide) (by decide) (Nat.le_of_ble_eq_true rfl) (Nat.le_of_ble_eq_true rfl) (Nat.le_of_ble_eq_true rfl) dX10_init_194 (fun ad195 H hk194 hw => ?_)
  rw [← hk194 x0 lt189] at hl
  rw [← hk194 x0 lt189]
  obtain ⟨M196, e197, hf⟩ := st_inv hf
  have g198 := sg_P e197
  refine r_putFP C (hin.trans rfl) hw cf10 24 (by decide) rfl (T_old e192 lt189 (T_of2 g188 (T_old e182 lt179 (T_of2 g178 (T_old e172 lt169 (T_of2 g168 (T_of g165 (T_of g161 (T_of g157 (T_of g153 (T_old e146 lt143 (T_of2 g142 (T_of g139 (T_of g135 (T_of g131 (T_of g127 (T_of g123 (T_of g119 (T_of g115 (T_of g111 (T_of g107 (T_of g103 (T_of g99 (T_of g95 (T_old e88 lt85 (T_of2 g84 (T_old e78 lt75 (T_of2 g74 (T_old e68 lt65 (T_of2 g64 (T_old e58 lt55 (T_of2 g54 (T_old e48 lt45 (T_of2 g44 (T_old e38 lt35 (T_of g34 (T_of2 g31 (T_old e25 lt22 (T_of2 g21 (T_old e15 lt12 (T_of2 g11 (T_old e5 lt2 hT1)))))))))))))))))))))))))))))))))))))))))) (T_ne (T_new e192 en193) (by decide)) e197 fk_X10_52 rfl rfl rfl rfl dX10_init_196 (fun H locs hw => ?_)
  refine lv_aload_n hx hb dX10_init_199 rfl (lv_at hl 0 rfl) ?_
  refine lv_bipush (v := 96) hx hb dX10_init_200 (by decide) ?_
  have lt199 := T_lt hw (T_of2 g198 (T_old e192 lt189 (T_of2 g188 (T_old e182 lt179 (T_of2 g178 (T_old e172 lt169 (T_of2 g168 (T_of g165 (T_of g161 (T_of g157 (T_of g153 (T_old e146 lt143 (T_of2 g142 (T_of g139 (T_of g135 (T_of g131 (T_of g127 (T_of g123 (T_of g119 (T_of g115 (T_of g111 (T_of g107 (T_of g103 (T_of g99 (T_of g95 (T_old e88 lt85 (T_of2 g84 (T_old e78 lt75 (T_of2 g74 (T_old e68 lt65 (T_of2 g64 (T_old e58 lt55 (T_of2 g54 (T_old e48 lt45 (T_of2 g44 (T_old e38 lt35 (T_of g34 (T_of2 g31 (T_old e25 lt22 (T_of2 g21 (T_old e15 lt12 (T_of2 g11 (T_old e5 lt2 hT1))))))))))))))))))))))))))))))))))))))))))) (by decide)
  obtain ⟨M200, n201, e202, en203, hf⟩ := nw_inv hf
  refine r_newa (atype := .int) (ty := .int) C hw 0 rfl rfl (by decide) rfl e202 en203 ar_int (by decide) (by decide) (Nat.le_of_ble_eq_true rfl) (Nat.le_of_ble_eq_true rfl) (Nat.le_of_ble_eq_true rfl) dX10_init_202 (fun ad205 H hk204 hw => ?_)
  rw [← hk204 x0 lt199] at hl
  rw [← hk204 x0 lt199]
  obtain ⟨M206, e207, hf⟩ := st_inv hf
  have g208 := sg_P e207
  refine r_putFP C (hin.trans rfl) hw cf10 25 (by decide) rfl (T_old e202 lt199 (T_of2 g198 (T_old e192 lt189 (T_of2 g188 (T_old e182 lt179 (T_of2 g178 (T_old e172 lt169 (T_of2 g168 (T_of g165 (T_of g161 (T_of g157 (T_of g153 (T_old e146 lt143 (T_of2 g142 (T_of g139 (T_of g135 (T_of g131 (T_of g127 (T_of g123 (T_of g119 (T_of g115 (T_of g111 (T_of g107 (T_of g103 (T_of g99 (T_of g95 (T_old e88 lt85 (T_of2 g84 (T_old e78 lt75 (T_of2 g74 (T_old e68 lt65 (T_of2 g64 (T_old e58 lt55 (T_of2 g54 (T_old e48 lt45 (T_of2 g44 (T_old e38 lt35 (T_of g34 (T_of2 g31 (T_old e25 lt22 (T_of2 g21 (T_old e15 lt12 (T_of2 g11 (T_old e5 lt2 hT1)))))))))))))))))))))))))))))))))))))))))))) (T_ne (T_new e202 en203) (by decide)) e207 fk_X10_55 rfl rfl rfl rfl dX10_init_204 (fun H locs hw => ?_)
  refine lv_aload_n hx hb dX10_init_207 rfl (lv_at hl 0 rfl) ?_
  refine lv_iconst (v := 4) hx hb dX10_init_208 (by decide) ?_
  have lt209 := T_lt hw (T_of2 g208 (T_old e202 lt199 (T_of2 g198 (T_old e192 lt189 (T_of2 g188 (T_old e182 lt179 (T_of2 g178 (T_old e172 lt169 (T_of2 g168 (T_of g165 (T_of g161 (T_of g157 (T_of g153 (T_old e146 lt143 (T_of2 g142 (T_of g139 (T_of g135 (T_of g131 (T_of g127 (T_of g123 (T_of g119 (T_of g115 (T_of g111 (T_of g107 (T_of g103 (T_of g99 (T_of g95 (T_old e88 lt85 (T_of2 g84 (T_old e78 lt75 (T_of2 g74 (T_old e68 lt65 (T_of2 g64 (T_old e58 lt55 (T_of2 g54 (T_old e48 lt45 (T_of2 g44 (T_old e38 lt35 (T_of g34 (T_of2 g31 (T_old e25 lt22 (T_of2 g21 (T_old e15 lt12 (T_of2 g11 (T_old e5 lt2 hT1))))))))))))))))))))))))))))))))))))))))))))) (by decide)
  obtain ⟨M210, n211, e212, en213, hf⟩ := nw_inv hf
  refine r_newa (atype := .int) (ty := .int) C hw 0 rfl rfl (by decide) rfl e212 en213 ar_int (by decide) (by decide) (Nat.le_of_ble_eq_true rfl) (Nat.le_of_ble_eq_true rfl) (Nat.le_of_ble_eq_true rfl) dX10_init_209 (fun ad215 H hk214 hw => ?_)
  rw [← hk214 x0 lt209] at hl
  rw [← hk214 x0 lt209]
  obtain ⟨M216, e217, hf⟩ := st_inv hf
  have g218 := sg_P e217
  refine r_putFP C (hin.trans rfl) hw cf10 26 (by decide) rfl (T_old e212 lt209 (T_of2 g208 (T_old e202 lt199 (T_of2 g198 (T_old e192 lt189 (T_of2 g188 (T_old e182 lt179 (T_of2 g178 (T_old e172 lt169 (T_of2 g168 (T_of g165 (T_of g161 (T_of g157 (T_of g153 (T_old e146 lt143 (T_of2 g142 (T_of g139 (T_of g135 (T_of g131 (T_of g127 (T_of g123 (T_of g119 (T_of g115 (T_of g111 (T_of g107 (T_of g103 (T_of g99 (T_of g95 (T_old e88 lt85 (T_of2 g84 (T_old e78 lt75 (T_of2 g74 (T_old e68 lt65 (T_of2 g64 (T_old e58 lt55 (T_of2 g54 (T_old e48 lt45 (T_of2 g44 (T_old e38 lt35 (T_of g34 (T_of2 g31 (T_old e25 lt22 (T_of2 g21 (T_old e15 lt12 (T_of2 g11 (T_old e5 lt2 hT1)))))))))))))))))))))))))))))))))))))))))))))) (T_ne (T_new e212 en213) (by decide)) e217 fk_X10_58 rfl rfl rfl rfl dX10_init_211 (fun H locs hw => ?_)
  refine lv_aload_n hx hb dX10_init_214 rfl (lv_at hl 0 rfl) ?_
  refine lv_iconst (v := 4) hx hb dX10_init_215 (by decide) ?_
  have lt219 := T_lt hw (T_of2 g218 (T_old e212 lt209 (T_of2 g208 (T_old e202 lt199 (T_of2 g198 (T_old e192 lt189 (T_of2 g188 (T_old e182 lt179 (T_of2 g178 (T_old e172 lt169 (T_of2 g168 (T_of g165 (T_of g161 (T_of g157 (T_of g153 (T_old e146 lt143 (T_of2 g142 (T_of g139 (T_of g135 (T_of g131 (T_of g127 (T_of g123 (T_of g119 (T_of g115 (T_of g111 (T_of g107 (T_of g103 (T_of g99 (T_of g95 (T_old e88 lt85 (T_of2 g84 (T_old e78 lt75 (T_of2 g74 (T_old e68 lt65 (T_of2 g64 (T_old e58 lt55 (T_of2 g54 (T_old e48 lt45 (T_of2 g44 (T_old e38 lt35 (T_of g34 (T_of2 g31 (T_old e25 lt22 (T_of2 g21 (T_old e15 lt12 (T_of2 g11 (T_old e5 lt2 hT1))))))))))))))))))))))))))))))))))))))))))))))) (by decide)
  obtain ⟨M220, n221, e222, en223, hf⟩ := nw_inv hf
  refine r_newa (atype := .int) (ty := .int) C hw 0 rfl rfl (by decide) rfl e222 en223 ar_int (by decide) (by decide) (Nat.le_of_ble_eq_true rfl) (Nat.le_of_ble_eq_true rfl) (Nat.le_of_ble_eq_true rfl) dX10_init_216 (fun ad225 H hk224 hw => ?_)
  rw [← hk224 x0 lt219] at hl
  rw [← hk224 x0 lt219]
  refine lv_dup hx hb dX10_init_218 rfl ?_
  refine lv_iconst (v := 0) hx hb dX10_init_219 (by decide) ?_
  refine lv_iconst (v := (-1)) hx hb dX10_init_220 (by decide) ?_
  obtain ⟨hg226, hf⟩ := gd_inv hf
  obtain ⟨M227, e228, hf⟩ := st_inv hf
  have g229 := sg_I e228
  refine r_iast C hw (T_new e222 en223) hg226 e228 dX10_init_221 (fun H locs hw => ?_)
  refine lv_dup hx hb dX10_init_222 rfl ?_
  refine lv_iconst (v := 1) hx hb dX10_init_223 (by decide) ?_
  refine lv_iconst (v := (-1)) hx hb dX10_init_224 (by decide) ?_
  obtain ⟨hg230, hf⟩ := gd_inv hf
  obtain ⟨M231, e232, hf⟩ := st_inv hf
  have g233 := sg_I e232
  refine r_iast C hw (T_of g229 (T_new e222 en223)) hg230 e232 dX10_init_225 (fun H locs hw => ?_)
  refine lv_dup hx hb dX10_init_226 rfl ?_
  refine lv_iconst (v := 2) hx hb dX10_init_227 (by decide) ?_
  refine lv_iconst (v := (-1)) hx hb dX10_init_228 (by decide) ?_
  obtain ⟨hg234, hf⟩ := gd_inv hf
  obtain ⟨M235, e236, hf⟩ := st_inv hf
  have g237 := sg_I e236
  refine r_iast C hw (T_of g233 (T_of g229 (T_new e222 en223))) hg234 e236 dX10_init_229 (fun H locs hw => ?_)
  refine lv_dup hx hb dX10_init_230 rfl ?_
  refine lv_iconst (v := 3) hx hb dX10_init_231 (by decide) ?_
  refine lv_iconst (v := (-1)) hx hb dX10_init_232 (by decide) ?_
  obtain ⟨hg238, hf⟩ := gd_inv hf
  obtain ⟨M239, e240, hf⟩ := st_inv hf
  have g241 := sg_I e240
  refine r_iast C hw (T_of g237 (T_of g233 (T_of g229 (T_new e222 en223)))) hg238 e240 dX10_init_233 (fun H locs hw => ?_)
  obtain ⟨M242, e243, hf⟩ := st_inv hf
  have g244 := sg_P e243
  refine r_putFP C (hin.trans rfl) hw cf10 27 (by decide) rfl (T_of g241 (T_of g237 (T_of g233 (T_of g229 (T_old e222 lt219 (T_of2 g218 (T_old e212 lt209 (T_of2 g208 (T_old e202 lt199 (T_of2 g198 (T_old e192 lt189 (T_of2 g188 (T_old e182 lt179 (T_of2 g178 (T_old e172 lt169 (T_of2 g168 (T_of g165 (T_of g161 (T_of g157 (T_of g153 (T_old e146 lt143 (T_of2 g142 (T_of g139 (T_of g135 (T_of g131 (T_of g127 (T_of g123 (T_of g119 (T_of g115 (T_of g111 (T_of g107 (T_of g103 (T_of g99 (T_of g95 (T_old e88 lt85 (T_of2 g84 (T_old e78 lt75 (T_of2 g74 (T_old e68 lt65 (T_of2 g64 (T_old e58 lt55 (T_of2 g54 (T_old e48 lt45 (T_of2 g44 (T_old e38 lt35 (T_of g34 (T_of2 g31 (T_old e25 lt22 (T_of2 g21 (T_old e15 lt12 (T_of2 g11 (T_old e5 lt2 hT1)))))))))))))))))))))))))))))))))))))))))))))))))))) (T_ne (T_of g241 (T_of g237 (T_of g233 (T_of g229 (T_new e222 en223))))) (by decide)) e243 fk_X10_61 rfl rfl rfl rfl dX10_init_234 (fun H locs hw => ?_)
  refine lv_aload_n hx hb dX10_init_237 rfl (lv_at hl 0 rfl) ?_
  refine lv_iconst (v := 4) hx hb dX10_init_238 (by decide) ?_
  have lt245 := T_lt hw (T_of2 g244 (T_of g241 (T_of g237 (T_of g233 (T_of g229 (T_old e222 lt219 (T_of2 g218 (T_old e212 lt209 (T_of2 g208 (T_old e202 lt199 (T_of2 g198 (T_old e192 lt189 (T_of2 g188 (T_old e182 lt179 (T_of2 g178 (T_old e172 lt169 (T_of2 g168 (T_of g165 (T_of g161 (T_of g157 (T_of g153 (T_old e146 lt143 (T_of2 g142 (T_of g139 (T_of g135 (T_of g131 (T_of g127 (T_of g123 (T_of g119 (T_of g115 (T_of g111 (T_of g107 (T_of g103 (T_of g99 (T_of g95 (T_old e88 lt85 (T_of2 g84 (T_old e78 lt75 (T_of2 g74 (T_old e68 lt65 (T_of2 g64 (T_old e58 lt55 (T_of2 g54 (T_old e48 lt45 (T_of2 g44 (T_old e38 lt35 (T_of g34 (T_of2 g31 (T_old e25 lt22 (T_of2 g21 (T_old e15 lt12 (T_of2 g11 (T_old e5 lt2 hT1))))))))))))))))))))))))))))))))))))))))))))))))))))) (by decide)
  obtain ⟨M246, n247, e248, en249, hf⟩ := nw_inv hf
  refine r_newa (atype := .int) (ty := .int) C hw 0 rfl rfl (by decide) rfl e248 en249 ar_int (by decide) (by decide) (Nat.le_of_ble_eq_true rfl) (Nat.le_of_ble_eq_true rfl) (Nat.le_of_ble_eq_true rfl) dX10_init_239 (fun ad251 H hk250 hw => ?_)
  rw [← hk250 x0 lt245] at hl
  rw [← hk250 x0 lt245]
  obtain ⟨M252, e253, hf⟩ := st_inv hf
  have g254 := sg_P e253
  refine r_putFP C (hin.trans rfl) hw cf10 28 (by decide) rfl (T_old e248 lt245 (T_of2 g244 (T_of g241 (T_of g237 (T_of g233 (T_of g229 (T_old e222 lt219 (T_of2 g218 (T_old e212 lt209 (T_of2 g208 (T_old e202 lt199 (T_of2 g198 (T_old e192 lt189 (T_of2 g188 (T_old e182 lt179 (T_of2 g178 (T_old e172 lt169 (T_of2 g168 (T_of g165 (T_of g161 (T_of g157 (T_of g153 (T_old e146 lt143 (T_of2 g142 (T_of g139 (T_of g135 (T_of g131 (T_of g127 (T_of g123 (T_of g119 (T_of g115 (T_of g111 (T_of g107 (T_of g103 (T_of g99 (T_of g95 (T_old e88 lt85 (T_of2 g84 (T_old e78 lt75 (T_of2 g74 (T_old e68 lt65 (T_of2 g64 (T_old e58 lt55 (T_of2 g54 (T_old e48 lt45 (T_of2 g44 (T_old e38 lt35 (T_of g34 (T_of2 g31 (T_old e25 lt22 (T_of2 g21 (T_old e15 lt12 (T_of2 g11 (T_old e5 lt2 hT1)))))))))))))))))))))))))))))))))))))))))))))))))))))) (T_ne (T_new e248 en249) (by decide)) e253 fk_X10_64 rfl rfl rfl rfl dX10_init_241 (fun H locs hw => ?_)
  refine lv_aload_n hx hb dX10_init_244 rfl (lv_at hl 0 rfl) ?_
  refine lv_bipush (v := 96) hx hb dX10_init_245 (by decide) ?_
  have lt255 := T_lt hw (T_of2 g254 (T_old e248 lt245 (T_of2 g244 (T_of g241 (T_of g237 (T_of g233 (T_of g229 (T_old e222 lt219 (T_of2 g218 (T_old e212 lt209 (T_of2 g208 (T_old e202 lt199 (T_of2 g198 (T_old e192 lt189 (T_of2 g188 (T_old e182 lt179 (T_of2 g178 (T_old e172 lt169 (T_of2 g168 (T_of g165 (T_of g161 (T_of g157 (T_of g153 (T_old e146 lt143 (T_of2 g142 (T_of g139 (T_of g135 (T_of g131 (T_of g127 (T_of g123 (T_of g119 (T_of g115 (T_of g111 (T_of g107 (T_of g103 (T_of g99 (T_of g95 (T_old e88 lt85 (T_of2 g84 (T_old e78 lt75 (T_of2 g74 (T_old e68 lt65 (T_of2 g64 (T_old e58 lt55 (T_of2 g54 (T_old e48 lt45 (T_of2 g44 (T_old e38 lt35 (T_of g34 (T_of2 g31 (T_old e25 lt22 (T_of2 g21 (T_old e15 lt12 (T_of2 g11 (T_old e5 lt2 hT1))))))))))))))))))))))))))))))))))))))))))))))))))))))) (by decide)
  obtain ⟨M256, n257, e258, en259, hf⟩ := nw_inv hf
  refine r_newa (atype := .int) (ty := .int) C hw 0 rfl rfl (by decide) rfl e258 en259 ar_int (by decide) (by decide) (Nat.le_of_ble_eq_true rfl) (Nat.le_of_ble_eq_true rfl) (Nat.le_of_ble_eq_true rfl) dX10_init_247 (fun ad261 H hk260 hw => ?_)
  rw [← hk260 x0 lt255] at hl
  rw [← hk260 x0 lt255]
  obtain ⟨M262, e263, hf⟩ := st_inv hf
  have g264 := sg_P e263
  refine r_putFP C (hin.trans rfl) hw cf10 29 (by decide) rfl (T_old e258 lt255 (T_of2 g254 (T_old e248 lt245 (T_of2 g244 (T_of g241 (T_of g237 (T_of g233 (T_of g229 (T_old e222 lt219 (T_of2 g218 (T_old e212 lt209 (T_of2 g208 (T_old e202 lt199 (T_of2 g198 (T_old e192 lt189 (T_of2 g188 (T_old e182 lt179 (T_of2 g178 (T_old e172 lt169 (T_of2 g168 (T_of g165 (T_of g161 (T_of g157 (T_of g153 (T_old e146 lt143 (T_of2 g142 (T_of g139 (T_of g135 (T_of g131 (T_of g127 (T_of g123 (T_of g119 (T_of g115 (T_of g111 (T_of g107 (T_of g103 (T_of g99 (T_of g95 (T_old e88 lt85 (T_of2 g84 (T_old e78 lt75 (T_of2 g74 (T_old e68 lt65 (T_of2 g64 (T_old e58 lt55 (T_of2 g54 (T_old e48 lt45 (T_of2 g44 (T_old e38 lt35 (T_of g34 (T_of2 g31 (T_old e25 lt22 (T_of2 g21 (T_old e15 lt12 (T_of2 g11 (T_old e5 lt2 hT1)))))))))))))))))))))))))))))))))))))))))))))))))))))))) (T_ne (T_new e258 en259) (by decide)) e263 fk_X10_67 rfl rfl rfl rfl dX10_init_249 (fun H locs hw => ?_)
  refine lv_aload_n hx hb dX10_init_252 rfl (lv_at hl 0 rfl) ?_
  refine lv_iconst (v := 5) hx hb dX10_init_253 (by decide) ?_
  have lt265 := T_lt hw (T_of2 g264 (T_old e258 lt255 (T_of2 g254 (T_old e248 lt245 (T_of2 g244 (T_of g241 (T_of g237 (T_of g233 (T_of g229 (T_old e222 lt219 (T_of2 g218 (T_old e212 lt209 (T_of2 g208 (T_old e202 lt199 (T_of2 g198 (T_old e192 lt189 (T_of2 g188 (T_old e182 lt179 (T_of2 g178 (T_old e172 lt169 (T_of2 g168 (T_of g165 (T_of g161 (T_of g157 (T_of g153 (T_old e146 lt143 (T_of2 g142 (T_of g139 (T_of g135 (T_of g131 (T_of g127 (T_of g123 (T_of g119 (T_of g115 (T_of g111 (T_of g107 (T_of g103 (T_of g99 (T_of g95 (T_old e88 lt85 (T_of2 g84 (T_old e78 lt75 (T_of2 g74 (T_old e68 lt65 (T_of2 g64 (T_old e58 lt55 (T_of2 g54 (T_old e48 lt45 (T_of2 g44 (T_old e38 lt35 (T_of g34 (T_of2 g31 (T_old e25 lt22 (T_of2 g21 (T_old e15 lt12 (T_of2 g11 (T_old e5 lt2 hT1))))))))))))))))))))))))))))))))))))))))))))))))))))))))) (by decide)
  obtain ⟨M266, n267, e268, en269, hf⟩ := nw_inv hf
  refine r_newa (atype := .int) (ty := .int) C hw 0 rfl rfl (by decide) rfl e268 en269 ar_int (by decide) (by decide) (Nat.le_of_ble_eq_true rfl) (Nat.le_of_ble_eq_true rfl) (Nat.le_of_ble_eq_true rfl) dX10_init_254 (fun ad271 H hk270 hw => ?_)
  rw [← hk270 x0 lt265] at hl
  rw [← hk270 x0 lt265]
  obtain ⟨M272, e273, hf⟩ := st_inv hf
  have g274 := sg_P e273
  refine r_putFP C (hin.trans rfl) hw cf10 30 (by decide) rfl (T_old e268 lt265 (T_of2 g264 (T_old e258 lt255 (T_of2 g254 (T_old e248 lt245 (T_of2 g244 (T_of g241 (T_of g237 (T_of g233 (T_of g229 (T_old e222 lt219 (T_of2 g218 (T_old e212 lt209 (T_of2 g208 (T_old e202 lt199 (T_of2 g198 (T_old e192 lt189 (T_of2 g188 (T_old e182 lt179 (T_of2 g178 (T_old e172 lt169 (T_of2 g168 (T_of g165 (T_of g161 (T_of g157 (T_of g153 (T_old e146 lt143 (T_of2 g142 (T_of g139 (T_of g135 (T_of g131 (T_of g127 (T_of g123 (T_of g119 (T_of g115 (T_of g111 (T_of g107 (T_of g103 (T_of g99 (T_of g95 (T_old e88 lt85 (T_of2 g84 (T_old e78 lt75 (T_of2 g74 (T_old e68 lt65 (T_of2 g64 (T_old e58 lt55 (T_of2 g54 (T_old e48 lt45 (T_of2 g44 (T_old e38 lt35 (T_of g34 (T_of2 g31 (T_old e25 lt22 (T_of2 g21 (T_old e15 lt12 (T_of2 g11 (T_old e5 lt2 hT1)))))))))))))))))))))))))))))))))))))))))))))))))))))))))) (T_ne (T_new e268 en269) (by decide)) e273 fk_X10_70 rfl rfl rfl rfl dX10_init_256 (fun H locs hw => ?_)
  refine lv_aload_n hx hb dX10_init_259 rfl (lv_at hl 0 rfl) ?_
  refine lv_iconst (v := 5) hx hb dX10_init_260 (by decide) ?_
  have lt275 := T_lt hw (T_of2 g274 (T_old e268 lt265 (T_of2 g264 (T_old e258 lt255 (T_of2 g254 (T_old e248 lt245 (T_of2 g244 (T_of g241 (T_of g237 (T_of g233 (T_of g229 (T_old e222 lt219 (T_of2 g218 (T_old e212 lt209 (T_of2 g208 (T_old e202 lt199 (T_of2 g198 (T_old e192 lt189 (T_of2 g188 (T_old e182 lt179 (T_of2 g178 (T_old e172 lt169 (T_of2 g168 (T_of g165 (T_of g161 (T_of g157 (T_of g153 (T_old e146 lt143 (T_of2 g142 (T_of g139 (T_of g135 (T_of g131 (T_of g127 (T_of g123 (T_of g119 (T_of g115 (T_of g111 (T_of g107 (T_of g103 (T_of g99 (T_of g95 (T_old e88 lt85 (T_of2 g84 (T_old e78 lt75 (T_of2 g74 (T_old e68 lt65 (T_of2 g64 (T_old e58 lt55 (T_of2 g54 (T_old e48 lt45 (T_of2 g44 (T_old e38 lt35 (T_of g34 (T_of2 g31 (T_old e25 lt22 (T_of2 g21 (T_old e15 lt12 (T_of2 g11 (T_old e5 lt2 hT1))))))))))))))))))))))))))))))))))))))))))))))))))))))))))) (by decide)
  obtain ⟨M276, n277, e278, en279, hf⟩ := nw_inv hf
  refine r_newa (atype := .int) (ty := .int) C hw 0 rfl rfl (by decide) rfl e278 en279 ar_int (by decide) (by decide) (Nat.le_of_ble_eq_true rfl) (Nat.le_of_ble_eq_true rfl) (Nat.le_of_ble_eq_true rfl) dX10_init_261 (fun ad281 H hk280 hw => ?_)
  rw [← hk280 x0 lt275] at hl
  rw [← hk280 x0 lt275]
  obtain ⟨M282, e283, hf⟩ := st_inv hf
  have g284 := sg_P e283
  refine r_putFP C (hin.trans rfl) hw cf10 31 (by decide) rfl (T_old e278 lt275 (T_of2 g274 (T_old e268 lt265 (T_of2 g264 (T_old e258 lt255 (T_of2 g254 (T_old e248 lt245 (T_of2 g244 (T_of g241 (T_of g237 (T_of g233 (T_of g229 (T_old e222 lt219 (T_of2 g218 (T_old e212 lt209 (T_of2 g208 (T_old e202 lt199 (T_of2 g198 (T_old e192 lt189 (T_of2 g188 (T_old e182 lt179 (T_of2 g178 (T_old e172 lt169 (T_of2 g168 (T_of g165 (T_of g161 (T_of g157 (T_of g153 (T_old e146 lt143 (T_of2 g142 (T_of g139 (T_of g135 (T_of g131 (T_of g127 (T_of g123 (T_of g119 (T_of g115 (T_of g111 (T_of g107 (T_of g103 (T_of g99 (T_of g95 (T_old e88 lt85 (T_of2 g84 (T_old e78 lt75 (T_of2 g74 (T_old e68 lt65 (T_of2 g64 (T_old e58 lt55 (T_of2 g54 (T_old e48 lt45 (T_of2 g44 (T_old e38 lt35 (T_of g34 (T_of2 g31 (T_old e25 lt22 (T_of2 g21 (T_old e15 lt12 (T_of2 g11 (T_old e5 lt2 hT1)))))))))))))))))))))))))))))))))))))))))))))))))))))))))))) (T_ne (T_new e278 en279) (by decide)) e283 fk_X10_73 rfl rfl rfl rfl dX10_init_263 (fun H locs hw => ?_)
  refine lv_aload_n hx hb dX10_init_266 rfl (lv_at hl 0 rfl) ?_
  refine lv_iconst (v := 5) hx hb dX10_init_267 (by decide) ?_
  have lt285 := T_lt hw (T_of2 g284 (T_old e278 lt275 (T_of2 g274 (T_old e268 lt265 (T_of2 g264 (T_old e258 lt255 (T_of2 g254 (T_old e248 lt245 (T_of2 g244 (T_of g241 (T_of g237 (T_of g233 (T_of g229 (T_old e222 lt219 (T_of2 g218 (T_old e212 lt209 (T_of2 g208 (T_old e202 lt199 (T_of2 g198 (T_old e192 lt189 (T_of2 g188 (T_old e182 lt179 (T_of2 g178 (T_old e172 lt169 (T_of2 g168 (T_of g165 (T_of g161 (T_of g157 (T_of g153 (T_old e146 lt143 (T_of2 g142 (T_of g139 (T_of g135 (T_of g131 (T_of g127 (T_of g123 (T_of g119 (T_of g115 (T_of g111 (T_of g107 (T_of g103 (T_of g99 (T_of g95 (T_old e88 lt85 (T_of2 g84 (T_old e78 lt75 (T_of2 g74 (T_old e68 lt65 (T_of2 g64 (T_old e58 lt55 (T_of2 g54 (T_old e48 lt45 (T_of2 g44 (T_old e38 lt35 (T_of g34 (T_of2 g31 (T_old e25 lt22 (T_of2 g21 (T_old e15 lt12 (T_of2 g11 (T_old e5 lt2 hT1))))))))))))))))))))))))))))))))))))))))))))))))))))))))))))) (by decide)
  obtain ⟨M286, n287, e288, en289, hf⟩ := nw_inv hf
  refine r_newa (atype := .int) (ty := .int) C hw 0 rfl rfl (by decide) rfl e288 en289 ar_int (by decide) (by decide) (Nat.le_of_ble_eq_true rfl) (Nat.le_of_ble_eq_true rfl) (Nat.le_of_ble_eq_true rfl) dX10_init_268 (fun ad291 H hk290 hw => ?_)
  rw [← hk290 x0 lt285] at hl
  rw [← hk290 x0 lt285]
  obtain ⟨M292, e293, hf⟩ := st_inv hf
  have g294 := sg_P e293
  refine r_putFP C (hin.trans rfl) hw cf10 32 (by decide) rfl (T_old e288 lt285 (T_of2 g284 (T_old e278 lt275 (T_of2 g274 (T_old e268 lt265 (T_of2 g264 (T_old e258 lt255 (T_of2 g254 (T_old e248 lt245 (T_of2 g244 (T_of g241 (T_of g237 (T_of g233 (T_of g229 (T_old e222 lt219 (T_of2 g218 (T_old e212 lt209 (T_of2 g208 (T_old e202 lt199 (T_of2 g198 (T_old e192 lt189 (T_of2 g188 (T_old e182 lt179 (T_of2 g178 (T_old e172 lt169 (T_of2 g168 (T_of g165 (T_of g161 (T_of g157 (T_of g153 (T_old e146 lt143 (T_of2 g142 (T_of g139 (T_of g135 (T_of g131 (T_of g127 (T_of g123 (T_of g119 (T_of g115 (T_of g111 (T_of g107 (T_of g103 (T_of g99 (T_of g95 (T_old e88 lt85 (T_of2 g84 (T_old e78 lt75 (T_of2 g74 (T_old e68 lt65 (T_of2 g64 (T_old e58 lt55 (T_of2 g54 (T_old e48 lt45 (T_of2 g44 (T_old e38 lt35 (T_of g34 (T_of2 g31 (T_old e25 lt22 (T_of2 g21 (T_old e15 lt12 (T_of2 g11 (T_old e5 lt2 hT1)))))))))))))))))))))))))))))))))))))))))))))))))))))))))))))) (T_ne (T_new e288 en289) (by decide)) e293 fk_X10_76 rfl rfl rfl rfl dX10_init_270 (fun H locs hw => ?_)
  refine lv_aload_n hx hb dX10_init_273 rfl (lv_at hl 0 rfl) ?_
  refine lv_bipush (v := 120) hx hb dX10_init_274 (by decide) ?_
  have lt295 := T_lt hw (T_of2 g294 (T_old e288 lt285 (T_of2 g284 (T_old e278 lt275 (T_of2 g274 (T_old e268 lt265 (T_of2 g264 (T_old e258 lt255 (T_of2 g254 (T_old e248 lt245 (T_of2 g244 (T_of g241 (T_of g237 (T_of g233 (T_of g229 (T_old e222 lt219 (T_of2 g218 (T_old e212 lt209 (T_of2 g208 (T_old e202 lt199 (T_of2 g198 (T_old e192 lt189 (T_of2 g188 (T_old e182 lt179 (T_of2 g178 (T_old e172 lt169 (T_of2 g168 (T_of g165 (T_of g161 (T_of g157 (T_of g153 (T_old e146 lt143 (T_of2 g142 (T_of g139 (T_of g135 (T_of g131 (T_of g127 (T_of g123 (T_of g119 (T_of g115 (T_of g111 (T_of g107 (T_of g103 (T_of g99 (T_of g95 (T_old e88 lt85 (T_of2 g84 (T_old e78 lt75 (T_of2 g74 (T_old e68 lt65 (T_of2 g64 (T_old e58 lt55 (T_of2 g54 (T_old e48 lt45 (T_of2 g44 (T_old e38 lt35 (T_of g34 (T_of2 g31 (T_old e25 lt22 (T_of2 g21 (T_old e15 lt12 (T_of2 g11 (T_old e5 lt2 hT1))))))))))))))))))))))))))))))))))))))))))))))))))))))))))))))) (by decide)
  obtain ⟨M296, n297, e298, en299, hf⟩ := nw_inv hf
  refine r_newa (atype := .int) (ty := .int) C hw 0 rfl rfl (by decide) rfl e298 en299 ar_int (by decide) (by decide) (Nat.le_of_ble_eq_true rfl) (Nat.le_of_ble_eq_true rfl) (Nat.le_of_ble_eq_true rfl) dX10_init_276 (fun ad301 H hk300 hw => ?_)
  rw [← hk300 x0 lt295] at hl
  rw [← hk300 x0 lt295]
  obtain ⟨M302, e303, hf⟩ := st_inv hf
  have g304 := sg_P e303
  refine r_putFP C (hin.trans rfl) hw cf10 33 (by decide) rfl (T_old e298 lt295 (T_of2 g294 (T_old e288 lt285 (T_of2 g284 (T_old e278 lt275 (T_of2 g274 (T_old e268 lt265 (T_of2 g264 (T_old e258 lt255 (T_of2 g254 (T_old e248 lt245 (T_of2 g244 (T_of g241 (T_of g237 (T_of g233 (T_of g229 (T_old e222 lt219 (T_of2 g218 (T_old e212 lt209 (T_of2 g208 (T_old e202 lt199 (T_of2 g198 (T_old e192 lt189 (T_of2 g188 (T_old e182 lt179 (T_of2 g178 (T_old e172 lt169 (T_of2 g168 (T_of g165 (T_of g161 (T_of g157 (T_of g153 (T_old e146 lt143 (T_of2 g142 (T_of g139 (T_of g135 (T_of g131 (T_of g127 (T_of g123 (T_of g119 (T_of g115 (T_of g111 (T_of g107 (T_of g103 (T_of g99 (T_of g95 (T_old e88 lt85 (T_of2 g84 (T_old e78 lt75 (T_of2 g74 (T_old e68 lt65 (T_of2 g64 (T_old e58 lt55 (T_of2 g54 (T_old e48 lt45 (T_of2 g44 (T_old e38 lt35 (T_of g34 (T_of2 g31 (T_old e25 lt22 (T_of2 g21 (T_old e15 lt12 (T_of2 g11 (T_old e5 lt2 hT1)))))))))))))))))))))))))))))))))))))))))))))))))))))))))))))))) (T_ne (T_new e298 en299) (by decide)) e303 fk_X10_79 rfl rfl rfl rfl dX10_init_278 (fun H locs hw => ?_)
  refine lv_aload_n hx hb dX10_init_281 rfl (lv_at hl 0 rfl) ?_
  refine lv_bipush (v := 24) hx hb dX10_init_282 (by decide) ?_
  have lt305 := T_lt hw (T_of2 g304 (T_old e298 lt295 (T_of2 g294 (T_old e288 lt285 (T_of2 g284 (T_old e278 lt275 (T_of2 g274 (T_old e268 lt265 (T_of2 g264 (T_old e258 lt255 (T_of2 g254 (T_old e248 lt245 (T_of2 g244 (T_of g241 (T_of g237 (T_of g233 (T_of g229 (T_old e222 lt219 (T_of2 g218 (T_old e212 lt209 (T_of2 g208 (T_old e202 lt199 (T_of2 g198 (T_old e192 lt189 (T_of2 g188 (T_old e182 lt179 (T_of2 g178 (T_old e172 lt169 (T_of2 g168 (T_of g165 (T_of g161 (T_of g157 (T_of g153 (T_old e146 lt143 (T_of2 g142 (T_of g139 (T_of g135 (T_of g131 (T_of g127 (T_of g123 (T_of g119 (T_of g115 (T_of g111 (T_of g107 (T_of g103 (T_of g99 (T_of g95 (T_old e88 lt85 (T_of2 g84 (T_old e78 lt75 (T_of2 g74 (T_old e68 lt65 (T_of2 g64 (T_old e58 lt55 (T_of2 g54 (T_old e48 lt45 (T_of2 g44 (T_old e38 lt35 (T_of g34 (T_of2 g31 (T_old e25 lt22 (T_of2 g21 (T_old e15 lt12 (T_of2 g11 (T_old e5 lt2 hT1))))))))))))))))))))))))))))))))))))))))))))))))))))))))))))))))) (by decide)
  obtain ⟨M306, n307, e308, en309, hf⟩ := nw_inv hf
  refine r_newa (atype := .int) (ty := .int) C hw 0 rfl rfl (by decide) rfl e308 en309 ar_int (by decide) (by decide) (Nat.le_of_ble_eq_true rfl) (Nat.le_of_ble_eq_true rfl) (Nat.le_of_ble_eq_true rfl) dX10_init_284 (fun ad311 H hk310 hw => ?_)
  rw [← hk310 x0 lt305] at hl
  rw [← hk310 x0 lt305]
  obtain ⟨M312, e313, hf⟩ := st_inv hf
  have g314 := sg_P e313
  refine r_putFP C (hin.trans rfl) hw cf10 34 (by decide) rfl (T_old e308 lt305 (T_of2 g304 (T_old e298 lt295 (T_of2 g294 (T_old e288 lt285 (T_of2 g284 (T_old e278 lt275 (T_of2 g274 (T_old e268 lt265 (T_of2 g264 (T_old e258 lt255 (T_of2 g254 (T_old e248 lt245 (T_of2 g244 (T_of g241 (T_of g237 (T_of g233 (T_of g229 (T_old e222 lt219 (T_of2 g218 (T_old e212 lt209 (T_of2 g208 (T_old e202 lt199 (T_of2 g198 (T_old e192 lt189 (T_of2 g188 (T_old e182 lt179 (T_of2 g178 (T_old e172 lt169 (T_of2 g168 (T_of g165 (T_of g161 (T_of g157 (T_of g153 (T_old e146 lt143 (T_of2 g142 (T_of g139 (T_of g135 (T_of g131 (T_of g127 (T_of g123 (T_of g119 (T_of g115 (T_of g111 (T_of g107 (T_of g103 (T_of g99 (T_of g95 (T_old e88 lt85 (T_of2 g84 (T_old e78 lt75 (T_of2 g74 (T_old e68 lt65 (T_of2 g64 (T_old e58 lt55 (T_of2 g54 (T_old e48 lt45 (T_of2 g44 (T_old e38 lt35 (T_of g34 (T_of2 g31 (T_old e25 lt22 (T_of2 g21 (T_old e15 lt12 (T_of2 g11 (T_old e5 lt2 hT1)))))))))))))))))))))))))))))))))))))))))))))))))))))))))))))))))) (T_ne (T_new e308 en309) (by decide)) e313 fk_X10_82 rfl rfl rfl rfl dX10_init_286 (fun H locs hw => ?_)
  refine lv_aload_n hx hb dX10_init_289 rfl (lv_at hl 0 rfl) ?_
  refine lv_bipush (v := 60) hx hb dX10_init_290 (by decide) ?_
  have lt315 := T_lt hw (T_of2 g314 (T_old e308 lt305 (T_of2 g304 (T_old e298 lt295 (T_of2 g294 (T_old e288 lt285 (T_of2 g284 (T_old e278 lt275 (T_of2 g274 (T_old e268 lt265 (T_of2 g264 (T_old e258 lt255 (T_of2 g254 (T_old e248 lt245 (T_of2 g244 (T_of g241 (T_of g237 (T_of g233 (T_of g229 (T_old e222 lt219 (T_of2 g218 (T_old e212 lt209 (T_of2 g208 (T_old e202 lt199 (T_of2 g198 (T_old e192 lt189 (T_of2 g188 (T_old e182 lt179 (T_of2 g178 (T_old e172 lt169 (T_of2 g168 (T_of g165 (T_of g161 (T_of g157 (T_of g153 (T_old e146 lt143 (T_of2 g142 (T_of g139 (T_of g135 (T_of g131 (T_of g127 (T_of g123 (T_of g119 (T_of g115 (T_of g111 (T_of g107 (T_of g103 (T_of g99 (T_of g95 (T_old e88 lt85 (T_of2 g84 (T_old e78 lt75 (T_of2 g74 (T_old e68 lt65 (T_of2 g64 (T_old e58 lt55 (T_of2 g54 (T_old e48 lt45 (T_of2 g44 (T_old e38 lt35 (T_of g34 (T_of2 g31 (T_old e25 lt22 (T_of2 g21 (T_old e15 lt12 (T_of2 g11 (T_old e5 lt2 hT1))))))))))))))))))))))))))))))))))))))))))))))))))))))))))))))))))) (by decide)
  obtain ⟨M316, n317, e318, en319, hf⟩ := nw_inv hf
  refine r_newa (atype := .int) (ty := .int) C hw 0 rfl rfl (by decide) rfl e318 en319 ar_int (by decide) (by decide) (Nat.le_of_ble_eq_true rfl) (Nat.le_of_ble_eq_true rfl) (Nat.le_of_ble_eq_true rfl) dX10_init_292 (fun ad321 H hk320 hw => ?_)
  rw [← hk320 x0 lt315] at hl
  rw [← hk320 x0 lt315]
  obtain ⟨M322, e323, hf⟩ := st_inv hf
  have g324 := sg_P e323
  refine r_putFP C (hin.trans rfl) hw cf10 35 (by decide) rfl (T_old e318 lt315 (T_of2 g314 (T_old e308 lt305 (T_of2 g304 (T_old e298 lt295 (T_of2 g294 (T_old e288 lt285 (T_of2 g284 (T_old e278 lt275 (T_of2 g274 (T_old e268 lt265 (T_of2 g264 (T_old e258 lt255 (T_of2 g254 (T_old e248 lt245 (T_of2 g244 (T_of g241 (T_of g237 (T_of g233 (T_of g229 (T_old e222 lt219 (T_of2 g218 (T_old e212 lt209 (T_of2 g208 (T_old e202 lt199 (T_of2 g198 (T_old e192 lt189 (T_of2 g188 (T_old e182 lt179 (T_of2 g178 (T_old e172 lt169 (T_of2 g168 (T_of g165 (T_of g161 (T_of g157 (T_of g153 (T_old e146 lt143 (T_of2 g142 (T_of g139 (T_of g135 (T_of g131 (T_of g127 (T_of g123 (T_of g119 (T_of g115 (T_of g111 (T_of g107 (T_of g103 (T_of g99 (T_of g95 (T_old e88 lt85 (T_of2 g84 (T_old e78 lt75 (T_of2 g74 (T_old e68 lt65 (T_of2 g64 (T_old e58 lt55 (T_of2 g54 (T_old e48 lt45 (T_of2 g44 (T_old e38 lt35 (T_of g34 (T_of2 g31 (T_old e25 lt22 (T_of2 g21 (T_old e15 lt12 (T_of2 g11 (T_old e5 lt2 hT1)))))))))))))))))))))))))))))))))))))))))))))))))))))))))))))))))))) (T_ne (T_new e318 en319) (by decide)) e323 fk_X10_85 rfl rfl rfl rfl dX10_init_294 (fun H locs hw => ?_)
  refine lv_aload_n hx hb dX10_init_297 rfl (lv_at hl 0 rfl) ?_
  obtain ⟨a325, hP326, hf⟩ := lp_inv hf
  refine r_getP C hw cf10 0 (by decide) rfl (T_of2 g324 (T_old e318 lt315 (T_of2 g314 (T_old e308 lt305 (T_of2 g304 (T_old e298 lt295 (T_of2 g294 (T_old e288 lt285 (T_of2 g284 (T_old e278 lt275 (T_of2 g274 (T_old e268 lt265 (T_of2 g264 (T_old e258 lt255 (T_of2 g254 (T_old e248 lt245 (T_of2 g244 (T_of g241 (T_of g237 (T_of g233 (T_of g229 (T_old e222 lt219 (T_of2 g218 (T_old e212 lt209 (T_of2 g208 (T_old e202 lt199 (T_of2 g198 (T_old e192 lt189 (T_of2 g188 (T_old e182 lt179 (T_of2 g178 (T_old e172 lt169 (T_of2 g168 (T_of g165 (T_of g161 (T_of g157 (T_of g153 (T_old e146 lt143 (T_of2 g142 (T_of g139 (T_of g135 (T_of g131 (T_of g127 (T_of g123 (T_of g119 (T_of g115 (T_of g111 (T_of g107 (T_of g103 (T_of g99 (T_of g95 (T_old e88 lt85 (T_of2 g84 (T_old e78 lt75 (T_of2 g74 (T_old e68 lt65 (T_of2 g64 (T_old e58 lt55 (T_of2 g54 (T_old e48 lt45 (T_of2 g44 (T_old e38 lt35 (T_of g34 (T_of2 g31 (T_old e25 lt22 (T_of2 g21 (T_old e15 lt12 (T_of2 g11 (T_old e5 lt2 hT1))))))))))))))))))))))))))))))))))))))))))))))))))))))))))))))))))))) hP326 fl_X10_9 dX10_init_298 ?_
  refine lv_iconst (v := 0) hx hb dX10_init_301 (by decide) ?_
  refine lv_iconst (v := 1) hx hb dX10_init_302 (by decide) ?_
  obtain ⟨hT327, hf⟩ := gt_inv hf
  obtain ⟨hg328, hf⟩ := gd_inv hf
  obtain ⟨M329, e330, hf⟩ := st_inv hf
  have g331 := sg_I e330
  refine r_iast C hw hT327 hg328 e330 dX10_init_303 (fun H locs hw => ?_)
  refine lv_aload_n hx hb dX10_init_304 rfl (lv_at hl 0 rfl) ?_
  refine r_getP C hw cf10 0 (by decide) rfl (T_of g331 (T_of2 g324 (T_old e318 lt315 (T_of2 g314 (T_old e308 lt305 (T_of2 g304 (T_old e298 lt295 (T_of2 g294 (T_old e288 lt285 (T_of2 g284 (T_old e278 lt275 (T_of2 g274 (T_old e268 lt265 (T_of2 g264 (T_old e258 lt255 (T_of2 g254 (T_old e248 lt245 (T_of2 g244 (T_of g241 (T_of g237 (T_of g233 (T_of g229 (T_old e222 lt219 (T_of2 g218 (T_old e212 lt209 (T_of2 g208 (T_old e202 lt199 (T_of2 g198 (T_old e192 lt189 (T_of2 g188 (T_old e182 lt179 (T_of2 g178 (T_old e172 lt169 (T_of2 g168 (T_of g165 (T_of g161 (T_of g157 (T_of g153 (T_old e146 lt143 (T_of2 g142 (T_of g139 (T_of g135 (T_of g131 (T_of g127 (T_of g123 (T_of g119 (T_of g115 (T_of g111 (T_of g107 (T_of g103 (T_of g99 (T_of g95 (T_old e88 lt85 (T_of2 g84 (T_old e78 lt75 (T_of2 g74 (T_old e68 lt65 (T_of2 g64 (T_old e58 lt55 (T_of2 g54 (T_old e48 lt45 (T_of2 g44 (T_old e38 lt35 (T_of g34 (T_of2 g31 (T_old e25 lt22 (T_of2 g21 (T_old e15 lt12 (T_of2 g11 (T_old e5 lt2 hT1)))))))))))))))))))))))))))))))))))))))))))))))))))))))))))))))))))))) (P_of g331 hP326) fl_X10_9 dX10_init_305 ?_
  refine lv_iconst (v := 4) hx hb dX10_init_308 (by decide) ?_
  refine lv_bipush (v := 10) hx hb dX10_init_309 (by decide) ?_
  obtain ⟨hg332, hf⟩ := gd_inv hf
  obtain ⟨M333, e334, hf⟩ := st_inv hf
  have g335 := sg_I e334
  refine r_iast C hw (T_of g331 hT327) hg332 e334 dX10_init_311 (fun H locs hw => ?_)
  refine lv_aload_n hx hb dX10_init_312 rfl (lv_at hl 0 rfl) ?_
  refine r_getP C hw cf10 0 (by decide) rfl (T_of g335 (T_of g331 (T_of2 g324 (T_old e318 lt315 (T_of2 g314 (T_old e308 lt305 (T_of2 g304 (T_old e298 lt295 (T_of2 g294 (T_old e288 lt285 (T_of2 g284 (T_old e278 lt275 (T_of2 g274 (T_old e268 lt265 (T_of2 g264 (T_old e258 lt255 (T_of2 g254 (T_old e248 lt245 (T_of2 g244 (T_of g241 (T_of g237 (T_of g233 (T_of g229 (T_old e222 lt219 (T_of2 g218 (T_old e212 lt209 (T_of2 g208 (T_old e202 lt199 (T_of2 g198 (T_old e192 lt189 (T_of2 g188 (T_old e182 lt179 (T_of2 g178 (T_old e172 lt169 (T_of2 g168 (T_of g165 (T_of g161 (T_of g157 (T_of g153 (T_old e146 lt143 (T_of2 g142 (T_of g139 (T_of g135 (T_of g131 (T_of g127 (T_of g123 (T_of g119 (T_of g115 (T_of g111 (T_of g107 (T_of g103 (T_of g99 (T_of g95 (T_old e88 lt85 (T_of2 g84 (T_old e78 lt75 (T_of2 g74 (T_old e68 lt65 (T_of2 g64 (T_old e58 lt55 (T_of2 g54 (T_old e48 lt45 (T_of2 g44 (T_old e38 lt35 (T_of g34 (T_of2 g31 (T_old e25 lt22 (T_of2 g21 (T_old e15 lt12 (T_of2 g11 (T_old e5 lt2 hT1))))))))))))))))))))))))))))))))))))))))))))))))))))))))))))))))))))))) (P_of g335 (P_of g331 hP326)) fl_X10_9 dX10_init_313 ?_
  refine lv_iconst (v := 5) hx hb dX10_init_316 (by decide) ?_
  refine lv_bipush (v := 30) hx hb dX10_init_317 (by decide) ?_
  obtain ⟨hg336, hf⟩ := gd_inv hf
  obtain ⟨M337, e338, hf⟩ := st_inv hf
  have g339 := sg_I e338
  refine r_iast C hw (T_of g335 (T_of g331 hT327)) hg336 e338 dX10_init_319 (fun H locs hw => ?_)
  refine lv_aload_n hx hb dX10_init_320 rfl (lv_at hl 0 rfl) ?_
  refine r_getP C hw cf10 0 (by decide) rfl (T_of g339 (T_of g335 (T_of g331 (T_of2 g324 (T_old e318 lt315 (T_of2 g314 (T_old e308 lt305 (T_of2 g304 (T_old e298 lt295 (T_of2 g294 (T_old e288 lt285 (T_of2 g284 (T_old e278 lt275 (T_of2 g274 (T_old e268 lt265 (T_of2 g264 (T_old e258 lt255 (T_of2 g254 (T_old e248 lt245 (T_of2 g244 (T_of g241 (T_of g237 (T_of g233 (T_of g229 (T_old e222 lt219 (T_of2 g218 (T_old e212 lt209 (T_of2 g208 (T_old e202 lt199 (T_of2 g198 (T_old e192 lt189 (T_of2 g188 (T_old e182 lt179 (T_of2 g178 (T_old e172 lt169 (T_of2 g168 (T_of g165 (T_of g161 (T_of g157 (T_of g153 (T_old e146 lt143 (T_of2 g142 (T_of g139 (T_of g135 (T_of g131 (T_of g127 (T_of g123 (T_of g119 (T_of g115 (T_of g111 (T_of g107 (T_of g103 (T_of g99 (T_of g95 (T_old e88 lt85 (T_of2 g84 (T_old e78 lt75 (T_of2 g74 (T_old e68 lt65 (T_of2 g64 (T_old e58 lt55 (T_of2 g54 (T_old e48 lt45 (T_of2 g44 (T_old e38 lt35 (T_of g34 (T_of2 g31 (T_old e25 lt22 (T_of2 g21 (T_old e15 lt12 (T_of2 g11 (T_old e5 lt2 hT1)))))))))))))))))))))))))))))))))))))))))))))))))))))))))))))))))))))))) (P_of g339 (P_of g335 (P_of g331 hP326))) fl_X10_9 dX10_init_321 ?_
  refine lv_bipush (v := 6) hx hb dX10_init_324 (by decide) ?_
  refine lv_bipush (v := 20) hx hb dX10_init_326 (by decide) ?_
  obtain ⟨hg340, hf⟩ := gd_inv hf
  obtain ⟨M341, e342, hf⟩ := st_inv hf
  have g343 := sg_I e342
  refine r_iast C hw (T_of g339 (T_of g335 (T_of g331 hT327))) hg340 e342 dX10_init_328 (fun H locs hw => ?_)
  refine W.widen (k := 24) (n := 5161) (Nat.le_of_ble_eq_true rfl) (Nat.le_of_ble_eq_true rfl) ?_
  exact e_vretA C hw (Ag.tr (Ag.tr (Ag.tr (Ag.tr (Ag.tr (Ag.tr (Ag.tr (Ag.tr (Ag.tr (Ag.tr (Ag.tr (Ag.tr (Ag.tr (Ag.tr (Ag.tr (Ag.tr (Ag.tr (Ag.tr (Ag.tr (Ag.tr (Ag.tr (Ag.tr (Ag.tr (Ag.tr Ag.rf hk7 (Nat.le_refl _)) hk17 (N_of2 g11 (Nat.le_trans (Nat.le_refl _) (N_new e5)))) hk27 (N_of2 g21 (Nat.le_trans (N_of2 g11 (Nat.le_trans (Nat.le_refl _) (N_new e5))) (N_new e15)))) hk40 (N_of1 g34 (N_of2 g31 (Nat.le_trans (N_of2 g21 (Nat.le_trans (N_of2 g11 (Nat.le_trans (Nat.le_refl _) (N_new e5))) (N_new e15))) (N_new e25))))) hk50 (N_of2 g44 (Nat.le_trans (N_of1 g34 (N_of2 g31 (Nat.le_trans (N_of2 g21 (Nat.le_trans (N_of2 g11 (Nat.le_trans (Nat.le_refl _) (N_new e5))) (N_new e15))) (N_new e25)))) (N_new e38)))) hk60 (N_of2 g54 (Nat.le_trans (N_of2 g44 (Nat.le_trans (N_of1 g34 (N_of2 g31 (Nat.le_trans (N_of2 g21 (Nat.le_trans (N_of2 g11 (Nat.le_trans (Nat.le_refl _) (N_new e5))) (N_new e15))) (N_new e25)))) (N_new e38))) (N_new e48)))) hk70 (N_of2 g64 (Nat.le_trans (N_of2 g54 (Nat.le_trans (N_of2 g44 (Nat.le_trans (N_of1 g34 (N_of2 g31 (Nat.le_trans (N_of2 g21 (Nat.le_trans (N_of2 g11 (Nat.le_trans (Nat.le_refl _) (N_new e5))) (N_new e15))) (N_new e25)))) (N_new e38))) (N_new e48))) (N_new e58)))) hk80 (N_of2 g74 (Nat.le_trans (N_of2 g64 (Nat.le_trans (N_of2 g54 (Nat.le_trans (N_of2 g44 (Nat.le_trans (N_of1 g34 (N_of2 g31 (Nat.le_trans (N_of2 g21 (Nat.le_trans (N_of2 g11 (Nat.le_trans (Nat.le_refl _) (N_new e5))) (N_new e15))) (N_new e25)))) (N_new e38))) (N_new e48))) (N_new e58))) (N_new e68)))) hk90 (N_of2 g84 (Nat.le_trans (N_of2 g74 (Nat.le_trans (N_of2 g64 (Nat.le_trans (N_of2 g54 (Nat.le_trans (N_of2 g44 (Nat.le_trans (N_of1 g34 (N_of2 g31 (Nat.le_trans (N_of2 g21 (Nat.le_trans (N_of2 g11 (Nat.le_trans (Nat.le_refl _) (N_new e5))) (N_new e15))) (N_new e25)))) (N_new e38))) (N_new e48))) (N_new e58))) (N_new e68))) (N_new e78)))) hk148 (N_of2 g142 (N_of1 g139 (N_of1 g135 (N_of1 g131 (N_of1 g127 (N_of1 g123 (N_of1 g119 (N_of1 g115 (N_of1 g111 (N_of1 g107 (N_of1 g103 (N_of1 g99 (N_of1 g95 (Nat.le_trans (N_of2 g84 (Nat.le_trans (N_of2 g74 (Nat.le_trans (N_of2 g64 (Nat.le_trans (N_of2 g54 (Nat.le_trans (N_of2 g44 (Nat.le_trans (N_of1 g34 (N_of2 g31 (Nat.le_trans (N_of2 g21 (Nat.le_trans (N_of2 g11 (Nat.le_trans (Nat.le_refl _) (N_new e5))) (N_new e15))) (N_new e25)))) (N_new e38))) (N_new e48))) (N_new e58))) (N_new e68))) (N_new e78))) (N_new e88)))))))))))))))) hk174 (N_of2 g168 (N_of1 g165 (N_of1 g161 (N_of1 g157 (N_of1 g153 (Nat.le_trans (N_of2 g142 (N_of1 g139 (N_of1 g135 (N_of1 g131 (N_of1 g127 (N_of1 g123 (N_of1 g119 (N_of1 g115 (N_of1 g111 (N_of1 g107 (N_of1 g103 (N_of1 g99 (N_of1 g95 (Nat.le_trans (N_of2 g84 (Nat.le_trans (N_of2 g74 (Nat.le_trans (N_of2 g64 (Nat.le_trans (N_of2 g54 (Nat.le_trans (N_of2 g44 (Nat.le_trans (N_of1 g34 (N_of2 g31 (Nat.le_trans (N_of2 g21 (Nat.le_trans (N_of2 g11 (Nat.le_trans (Nat.le_refl _) (N_new e5))) (N_new e15))) (N_new e25)))) (N_new e38))) (N_new e48))) (N_new e58))) (N_new e68))) (N_new e78))) (N_new e88))))))))))))))) (N_new e146)))))))) hk184 (N_of2 g178 (Nat.le_trans (N_of2 g168 (N_of1 g165 (N_of1 g161 (N_of1 g157 (N_of1 g153 (Nat.le_trans (N_of2 g142 (N_of1 g139 (N_of1 g135 (N_of1 g131 (N_of1 g127 (N_of1 g123 (N_of1 g119 (N_of1 g115 (N_of1 g111 (N_of1 g107 (N_of1 g103 (N_of1 g99 (N_of1 g95 (Nat.le_trans (N_of2 g84 (Nat.le_trans (N_of2 g74 (Nat.le_trans (N_of2 g64 (Nat.le_trans (N_of2 g54 (Nat.le_trans (N_of2 g44 (Nat.le_trans (N_of1 g34 (N_of2 g31 (Nat.le_trans (N_of2 g21 (Nat.le_trans (N_of2 g11 (Nat.le_trans (Nat.le_refl _) (N_new e5))) (N_new e15))) (N_new e25)))) (N_new e38))) (N_new e48))) (N_new e58))) (N_new e68))) (N_new e78))) (N_new e88))))))))))))))) (N_new e146))))))) (N_new e172)))) hk194 (N_of2 g188 (Nat.le_trans (N_of2 g178 (Nat.le_trans (N_of2 g168 (N_of1 g165 (N_of1 g161 (N_of1 g157 (N_of1 g153 (Nat.le_trans (N_of2 g142 (N_of1 g139 (N_of1 g135 (N_of1 g131 (N_of1 g127 (N_of1 g123 (N_of1 g119 (N_of1 g115 (N_of1 g111 (N_of1 g107 (N_of1 g103 (N_of1 g99 (N_of1 g95 (Nat.le_trans (N_of2 g84 (Nat.le_trans (N_of2 g74 (Nat.le_trans (N_of2 g64 (Nat.le_trans (N_of2 g54 (Nat.le_trans (N_of2 g44 (Nat.le_trans (N_of1 g34 (N_of2 g31 (Nat.le_trans (N_of2 g21 (Nat.le_trans (N_of2 g11 (Nat.le_trans (Nat.le_refl _) (N_new e5))) (N_new e15))) (N_new e25)))) (N_new e38))) (N_new e48))) (N_new e58))) (N_new e68))) (N_new e78))) (N_new e88))))))))))))))) (N_new e146))))))) (N_new e172))) (N_new e182)))) hk204 (N_of2 g198 (Nat.le_trans (N_of2 g188 (Nat.le_trans (N_of2 g178 (Nat.le_trans (N_of2 g168 (N_of1 g165 (N_of1 g161 (N_of1 g157 (N_of1 g153 (Nat.le_trans (N_of2 g142 (N_of1 g139 (N_of1 g135 (N_of1 g131 (N_of1 g127 (N_of1 g123 (N_of1 g119 (N_of1 g115 (N_of1 g111 (N_of1 g107 (N_of1 g103 (N_of1 g99 (N_of1 g95 (Nat.le_trans (N_of2 g84 (Nat.le_trans (N_of2 g74 (Nat.le_trans (N_of2 g64 (Nat.le_trans (N_of2 g54 (Nat.le_trans (N_of2 g44 (Nat.le_trans (N_of1 g34 (N_of2 g31 (Nat.le_trans (N_of2 g21 (Nat.le_trans (N_of2 g11 (Nat.le_trans (Nat.le_refl _) (N_new e5))) (N_new e15))) (N_new e25)))) (N_new e38))) (N_new e48))) (N_new e58))) (N_new e68))) (N_new e78))) (N_new e88))))))))))))))) (N_new e146))))))) (N_new e172))) (N_new e182))) (N_new e192)))) hk214 (N_of2 g208 (Nat.le_trans (N_of2 g198 (Nat.le_trans (N_of2 g188 (Nat.le_trans (N_of2 g178 (Nat.le_trans (N_of2 g168 (N_of1 g165 (N_of1 g161 (N_of1 g157 (N_of1 g153 (Nat.le_trans (N_of2 g142 (N_of1 g139 (N_of1 g135 (N_of1 g131 (N_of1 g127 (N_of1 g123 (N_of1 g119 (N_of1 g115 (N_of1 g111 (N_of1 g107 (N_of1 g103 (N_of1 g99 (N_of1 g95 (Nat.le_trans (N_of2 g84 (Nat.le_trans (N_of2 g74 (Nat.le_trans (N_of2 g64 (Nat.le_trans (N_of2 g54 (Nat.le_trans (N_of2 g44 (Nat.le_trans (N_of1 g34 (N_of2 g31 (Nat.le_trans (N_of2 g21 (Nat.le_trans (N_of2 g11 (Nat.le_trans (Nat.le_refl _) (N_new e5))) (N_new e15))) (N_new e25)))) (N_new e38))) (N_new e48))) (N_new e58))) (N_new e68))) (N_new e78))) (N_new e88))))))))))))))) (N_new e146))))))) (N_new e172))) (N_new e182))) (N_new e192))) (N_new e202)))) hk224 (N_of2 g218 (Nat.le_trans (N_of2 g208 (Nat.le_trans (N_of2 g198 (Nat.le_trans (N_of2 g188 (Nat.le_trans (N_of2 g178 (Nat.le_trans (N_of2 g168 (N_of1 g165 (N_of1 g161 (N_of1 g157 (N_of1 g153 (Nat.le_trans (N_of2 g142 (N_of1 g139 (N_of1 g135 (N_of1 g131 (N_of1 g127 (N_of1 g123 (N_of1 g119 (N_of1 g115 (N_of1 g111 (N_of1 g107 (N_of1 g103 (N_of1 g99 (N_of1 g95 (Nat.le_trans (N_of2 g84 (Nat.le_trans (N_of2 g74 (Nat.le_trans (N_of2 g64 (Nat.le_trans (N_of2 g54 (Nat.le_trans (N_of2 g44 (Nat.le_trans (N_of1 g34 (N_of2 g31 (Nat.le_trans (N_of2 g21 (Nat.le_trans (N_of2 g11 (Nat.le_trans (Nat.le_refl _) (N_new e5))) (N_new e15))) (N_new e25)))) (N_new e38))) (N_new e48))) (N_new e58))) (N_new e68))) (N_new e78))) (N_new e88))))))))))))))) (N_new e146))))))) (N_new e172))) (N_new e182))) (N_new e192))) (N_new e202))) (N_new e212)))) hk250 (N_of2 g244 (N_of1 g241 (N_of1 g237 (N_of1 g233 (N_of1 g229 (Nat.le_trans (N_of2 g218 (Nat.le_trans (N_of2 g208 (Nat.le_trans (N_of2 g198 (Nat.le_trans (N_of2 g188 (Nat.le_trans (N_of2 g178 (Nat.le_trans (N_of2 g168 (N_of1 g165 (N_of1 g161 (N_of1 g157 (N_of1 g153 (Nat.le_trans (N_of2 g142 (N_of1 g139 (N_of1 g135 (N_of1 g131 (N_of1 g127 (N_of1 g123 (N_of1 g119 (N_of1 g115 (N_of1 g111 (N_of1 g107 (N_of1 g103 (N_of1 g99 (N_of1 g95 (Nat.le_trans (N_of2 g84 (Nat.le_trans (N_of2 g74 (Nat.le_trans (N_of2 g64 (Nat.le_trans (N_of2 g54 (Nat.le_trans (N_of2 g44 (Nat.le_trans (N_of1 g34 (N_of2 g31 (Nat.le_trans (N_of2 g21 (Nat.le_trans (N_of2 g11 (Nat.le_trans (Nat.le_refl _) (N_new e5))) (N_new e15))) (N_new e25)))) (N_new e38))) (N_new e48))) (N_new e58))) (N_new e68))) (N_new e78))) (N_new e88))))))))))))))) (N_new e146))))))) (N_new e172))) (N_new e182))) (N_new e192))) (N_new e202))) (N_new e212))) (N_new e222)))))))) hk260 (N_of2 g254 (Nat.le_trans (N_of2 g244 (N_of1 g241 (N_of1 g237 (N_of1 g233 (N_of1 g229 (Nat.le_trans (N_of2 g218 (Nat.le_trans (N_of2 g208 (Nat.le_trans (N_of2 g198 (Nat.le_trans (N_of2 g188 (Nat.le_trans (N_of2 g178 (Nat.le_trans (N_of2 g168 (N_of1 g165 (N_of1 g161 (N_of1 g157 (N_of1 g153 (Nat.le_trans (N_of2 g142 (N_of1 g139 (N_of1 g135 (N_of1 g131 (N_of1 g127 (N_of1 g123 (N_of1 g119 (N_of1 g115 (N_of1 g111 (N_of1 g107 (N_of1 g103 (N_of1 g99 (N_of1 g95 (Nat.le_trans (N_of2 g84 (Nat.le_trans (N_of2 g74 (Nat.le_trans (N_of2 g64 (Nat.le_trans (N_of2 g54 (Nat.le_trans (N_of2 g44 (Nat.le_trans (N_of1 g34 (N_of2 g31 (Nat.le_trans (N_of2 g21 (Nat.le_trans (N_of2 g11 (Nat.le_trans (Nat.le_refl _) (N_new e5))) (N_new e15))) (N_new e25)))) (N_new e38))) (N_new e48))) (N_new e58))) (N_new e68))) (N_new e78))) (N_new e88))))))))))))))) (N_new e146))))))) (N_new e172))) (N_new e182))) (N_new e192))) (N_new e202))) (N_new e212))) (N_new e222))))))) (N_new e248)))) hk270 (N_of2 g264 (Nat.le_trans (N_of2 g254 (Nat.le_trans (N_of2 g244 (N_of1 g241 (N_of1 g237 (N_of1 g233 (N_of1 g229 (Nat.le_trans (N_of2 g218 (Nat.le_trans (N_of2 g208 (Nat.le_trans (N_of2 g198 (Nat.le_trans (N_of2 g188 (Nat.le_trans (N_of2 g178 (Nat.le_trans (N_of2 g168 (N_of1 g165 (N_of1 g161 (N_of1 g157 (N_of1 g153 (Nat.le_trans (N_of2 g142 (N_of1 g139 (N_of1 g135 (N_of1 g131 (N_of1 g127 (N_of1 g123 (N_of1 g119 (N_of1 g115 (N_of1 g111 (N_of1 g107 (N_of1 g103 (N_of1 g99 (N_of1 g95 (Nat.le_trans (N_of2 g84 (Nat.le_trans (N_of2 g74 (Nat.le_trans (N_of2 g64 (Nat.le_trans (N_of2 g54 (Nat.le_trans (N_of2 g44 (Nat.le_trans (N_of1 g34 (N_of2 g31 (Nat.le_trans (N_of2 g21 (Nat.le_trans (N_of2 g11 (Nat.le_trans (Nat.le_refl _) (N_new e5))) (N_new e15))) (N_new e25)))) (N_new e38))) (N_new e48))) (N_new e58))) (N_new e68))) (N_new e78))) (N_new e88))))))))))))))) (N_new e146))))))) (N_new e172))) (N_new e182))) (N_new e192))) (N_new e202))) (N_new e212))) (N_new e222))))))) (N_new e248))) (N_new e258)))) hk280 (N_of2 g274 (Nat.le_trans (N_of2 g264 (Nat.le_trans (N_of2 g254 (Nat.le_trans (N_of2 g244 (N_of1 g241 (N_of1 g237 (N_of1 g233 (N_of1 g229 (Nat.le_trans (N_of2 g218 (Nat.le_trans (N_of2 g208 (Nat.le_trans (N_of2 g198 (Nat.le_trans (N_of2 g188 (Nat.le_trans (N_of2 g178 (Nat.le_trans (N_of2 g168 (N_of1 g165 (N_of1 g161 (N_of1 g157 (N_of1 g153 (Nat.le_trans (N_of2 g142 (N_of1 g139 (N_of1 g135 (N_of1 g131 (N_of1 g127 (N_of1 g123 (N_of1 g119 (N_of1 g115 (N_of1 g111 (N_of1 g107 (N_of1 g103 (N_of1 g99 (N_of1 g95 (Nat.le_trans (N_of2 g84 (Nat.le_trans (N_of2 g74 (Nat.le_trans (N_of2 g64 (Nat.le_trans (N_of2 g54 (Nat.le_trans (N_of2 g44 (Nat.le_trans (N_of1 g34 (N_of2 g31 (Nat.le_trans (N_of2 g21 (Nat.le_trans (N_of2 g11 (Nat.le_trans (Nat.le_refl _) (N_new e5))) (N_new e15))) (N_new e25)))) (N_new e38))) (N_new e48))) (N_new e58))) (N_new e68))) (N_new e78))) (N_new e88))))))))))))))) (N_new e146))))))) (N_new e172))) (N_new e182))) (N_new e192))) (N_new e202))) (N_new e212))) (N_new e222))))))) (N_new e248))) (N_new e258))) (N_new e268)))) hk290 (N_of2 g284 (Nat.le_trans (N_of2 g274 (Nat.le_trans (N_of2 g264 (Nat.le_trans (N_of2 g254 (Nat.le_trans (N_of2 g244 (N_of1 g241 (N_of1 g237 (N_of1 g233 (N_of1 g229 (Nat.le_trans (N_of2 g218 (Nat.le_trans (N_of2 g208 (Nat.le_trans (N_of2 g198 (Nat.le_trans (N_of2 g188 (Nat.le_trans (N_of2 g178 (Nat.le_trans (N_of2 g168 (N_of1 g165 (N_of1 g161 (N_of1 g157 (N_of1 g153 (Nat.le_trans (N_of2 g142 (N_of1 g139 (N_of1 g135 (N_of1 g131 (N_of1 g127 (N_of1 g123 (N_of1 g119 (N_of1 g115 (N_of1 g111 (N_of1 g107 (N_of1 g103 (N_of1 g99 (N_of1 g95 (Nat.le_trans (N_of2 g84 (Nat.le_trans (N_of2 g74 (Nat.le_trans (N_of2 g64 (Nat.le_trans (N_of2 g54 (Nat.le_trans (N_of2 g44 (Nat.le_trans (N_of1 g34 (N_of2 g31 (Nat.le_trans (N_of2 g21 (Nat.le_trans (N_of2 g11 (Nat.le_trans (Nat.le_refl _) (N_new e5))) (N_new e15))) (N_new e25)))) (N_new e38))) (N_new e48))) (N_new e58))) (N_new e68))) (N_new e78))) (N_new e88))))))))))))))) (N_new e146))))))) (N_new e172))) (N_new e182))) (N_new e192))) (N_new e202))) (N_new e212))) (N_new e222))))))) (N_new e248))) (N_new e258))) (N_new e268))) (N_new e278)))) hk300 (N_of2 g294 (Nat.le_trans (N_of2 g284 (Nat.le_trans (N_of2 g274 (Nat.le_trans (N_of2 g264 (Nat.le_trans (N_of2 g254 (Nat.le_trans (N_of2 g244 (N_of1 g241 (N_of1 g237 (N_of1 g233 (N_of1 g229 (Nat.le_trans (N_of2 g218 (Nat.le_trans (N_of2 g208 (Nat.le_trans (N_of2 g198 (Nat.le_trans (N_of2 g188 (Nat.le_trans (N_of2 g178 (Nat.le_trans (N_of2 g168 (N_of1 g165 (N_of1 g161 (N_of1 g157 (N_of1 g153 (Nat.le_trans (N_of2 g142 (N_of1 g139 (N_of1 g135 (N_of1 g131 (N_of1 g127 (N_of1 g123 (N_of1 g119 (N_of1 g115 (N_of1 g111 (N_of1 g107 (N_of1 g103 (N_of1 g99 (N_of1 g95 (Nat.le_trans (N_of2 g84 (Nat.le_trans (N_of2 g74 (Nat.le_trans (N_of2 g64 (Nat.le_trans (N_of2 g54 (Nat.le_trans (N_of2 g44 (Nat.le_trans (N_of1 g34 (N_of2 g31 (Nat.le_trans (N_of2 g21 (Nat.le_trans (N_of2 g11 (Nat.le_trans (Nat.le_refl _) (N_new e5))) (N_new e15))) (N_new e25)))) (N_new e38))) (N_new e48))) (N_new e58))) (N_new e68))) (N_new e78))) (N_new e88))))))))))))))) (N_new e146))))))) (N_new e172))) (N_new e182))) (N_new e192))) (N_new e202))) (N_new e212))) (N_new e222))))))) (N_new e248))) (N_new e258))) (N_new e268))) (N_new e278))) (N_new e288)))) hk310 (N_of2 g304 (Nat.le_trans (N_of2 g294 (Nat.le_trans (N_of2 g284 (Nat.le_trans (N_of2 g274 (Nat.le_trans (N_of2 g264 (Nat.le_trans (N_of2 g254 (Nat.le_trans (N_of2 g244 (N_of1 g241 (N_of1 g237 (N_of1 g233 (N_of1 g229 (Nat.le_trans (N_of2 g218 (Nat.le_trans (N_of2 g208 (Nat.le_trans (N_of2 g198 (Nat.le_trans (N_of2 g188 (Nat.le_trans (N_of2 g178 (Nat.le_trans (N_of2 g168 (N_of1 g165 (N_of1 g161 (N_of1 g157 (N_of1 g153 (Nat.le_trans (N_of2 g142 (N_of1 g139 (N_of1 g135 (N_of1 g131 (N_of1 g127 (N_of1 g123 (N_of1 g119 (N_of1 g115 (N_of1 g111 (N_of1 g107 (N_of1 g103 (N_of1 g99 (N_of1 g95 (Nat.le_trans (N_of2 g84 (Nat.le_trans (N_of2 g74 (Nat.le_trans (N_of2 g64 (Nat.le_trans (N_of2 g54 (Nat.le_trans (N_of2 g44 (Nat.le_trans (N_of1 g34 (N_of2 g31 (Nat.le_trans (N_of2 g21 (Nat.le_trans (N_of2 g11 (Nat.le_trans (Nat.le_refl _) (N_new e5))) (N_new e15))) (N_new e25)))) (N_new e38))) (N_new e48))) (N_new e58))) (N_new e68))) (N_new e78))) (N_new e88))))))))))))))) (N_new e146))))))) (N_new e172))) (N_new e182))) (N_new e192))) (N_new e202))) (N_new e212))) (N_new e222))))))) (N_new e248))) (N_new e258))) (N_new e268))) (N_new e278))) (N_new e288))) (N_new e298)))) hk320 (N_of2 g314 (Nat.le_trans (N_of2 g304 (Nat.le_trans (N_of2 g294 (Nat.le_trans (N_of2 g284 (Nat.le_trans (N_of2 g274 (Nat.le_trans (N_of2 g264 (Nat.le_trans (N_of2 g254 (Nat.le_trans (N_of2 g244 (N_of1 g241 (N_of1 g237 (N_of1 g233 (N_of1 g229 (Nat.le_trans (N_of2 g218 (Nat.le_trans (N_of2 g208 (Nat.le_trans (N_of2 g198 (Nat.le_trans (N_of2 g188 (Nat.le_trans (N_of2 g178 (Nat.le_trans (N_of2 g168 (N_of1 g165 (N_of1 g161 (N_of1 g157 (N_of1 g153 (Nat.le_trans (N_of2 g142 (N_of1 g139 (N_of1 g135 (N_of1 g131 (N_of1 g127 (N_of1 g123 (N_of1 g119 (N_of1 g115 (N_of1 g111 (N_of1 g107 (N_of1 g103 (N_of1 g99 (N_of1 g95 (Nat.le_trans (N_of2 g84 (Nat.le_trans (N_of2 g74 (Nat.le_trans (N_of2 g64 (Nat.le_trans (N_of2 g54 (Nat.le_trans (N_of2 g44 (Nat.le_trans (N_of1 g34 (N_of2 g31 (Nat.le_trans (N_of2 g21 (Nat.le_trans (N_of2 g11 (Nat.le_trans (Nat.le_refl _) (N_new e5))) (N_new e15))) (N_new e25)))) (N_new e38))) (N_new e48))) (N_new e58))) (N_new e68))) (N_new e78))) (N_new e88))))))))))))))) (N_new e146))))))) (N_new e172))) (N_new e182))) (N_new e192))) (N_new e202))) (N_new e212))) (N_new e222))))))) (N_new e248))) (N_new e258))) (N_new e268))) (N_new e278))) (N_new e288))) (N_new e298))) (N_new e308)))) hf dX10_init_329
/-! StorkVote.<init>()V -/
abbrev rm_X9_init : Room := { frames := 3, cells := 113, slots := 1300, locals := 62 }
def f_X9_init (M : Mem) (x0 : Nat) : Option (Unit × Mem) := gt (mT M x0) 10 (nw M 9 0 (fun M3 n4 => cl (f_X8_init M3 n4) (fun _ M11 => gd (decide (mN M ≤ mN M11)) (gt (mT M11 x0) 10 (gt (mT M11 n4) 9 (st (setP M11 x0 0 n4) (fun M19 => nw M19 9 0 (fun M23 n24 => cl (f_X8_init M23 n24) (fun _ M31 => gd (decide (mN M ≤ mN M31)) (gt (mT M31 x0) 10 (gt (mT M31 n24) 9 (st (setP M31 x0 1 n24) (fun M39 => nw M39 9 0 (fun M43 n44 => cl (f_X8_init M43 n44) (fun _ M51 => gd (decide (mN M ≤ mN M51)) (gt (mT M51 x0) 10 (gt (mT M51 n44) 9 (st (setP M51 x0 2 n44) (fun M59 => nw M59 5 0 (fun M63 n64 => cl (f_X4_init M63 n64) (fun _ M71 => gd (decide (mN M ≤ mN M71)) (gt (mT M71 x0) 10 (gt (mT M71 n64) 5 (st (setP M71 x0 3 n64) (fun M79 => nw M79 7 0 (fun M83 n84 => cl (f_X6_init M83 n84) (fun _ M91 => gd (decide (mN M ≤ mN M91)) (gt (mT M91 x0) 10 (gt (mT M91 n84) 7 (st (setP M91 x0 4 n84) (fun M99 => nw M99 2 0 (fun M103 n104 => cl (f_X1_init M103 n104) (fun _ M111 => gd (decide (mN M ≤ mN M111)) (gt (mT M111 x0) 10 (gt (mT M111 n104) 2 (st (setP M111 x0 5 n104) (fun M119 => nw M119 26 4 (fun M123 n124 => st (setP M123 x0 6 n124) (fun M129 => nw M129 27 5 (fun M133 n134 => st (setP M133 x0 7 n134) (fun M139 => nw M139 20 60 (fun M143 n144 => st (setP M143 x0 8 n144) (fun M149 => lp (mP M149 x0 6) (fun a152 => gt (mT M149 a152) 26 (nw M149 3 0 (fun M157 n158 => cl (f_X2_init M157 n158) (fun _ M166 => gd (decide (mN M ≤ mN M166)) (gt (mT M166 a152) 26 (gt (mT M166 n158) 3 (gd (ib 0 (mL M166 a152)) (st (setP M166 a152 (0 : Int32).toNatClampNeg n158) (fun M175 => gt (mT M175 x0) 10 (lp (mP M175 x0 6) (fun a179 => gt (mT M175 a179) 26 (nw M175 3 0 (fun M184 n185 => cl (f_X2_init M184 n185) (fun _ M193 => gd (decide (mN M ≤ mN M193)) (gt (mT M193 a179) 26 (gt (mT M193 n185) 3 (gd (ib 1 (mL M193 a179)) (st (setP M193 a179 (1 : Int32).toNatClampNeg n185) (fun M202 => gt (mT M202 x0) 10 (lp (mP M202 x0 6) (fun a206 => gt (mT M202 a206) 26 (nw M202 3 0 (fun M211 n212 => cl (f_X2_init M211 n212) (fun _ M220 => gd (decide (mN M ≤ mN M220)) (gt (mT M220 a206) 26 (gt (mT M220 n212) 3 (gd (ib 2 (mL M220 a206)) (st (setP M220 a206 (2 : Int32).toNatClampNeg n212) (fun M229 => gt (mT M229 x0) 10 (lp (mP M229 x0 6) (fun a233 => gt (mT M229 a233) 26 (nw M229 3 0 (fun M238 n239 => cl (f_X2_init M238 n239) (fun _ M247 => gd (decide (mN M ≤ mN M247)) (gt (mT M247 a233) 26 (gt (mT M247 n239) 3 (gd (ib 3 (mL M247 a233)) (st (setP M247 a233 (3 : Int32).toNatClampNeg n239) (fun M256 => gt (mT M256 x0) 10 (lp (mP M256 x0 7) (fun a260 => gt (mT M256 a260) 27 (nw M256 4 0 (fun M265 n266 => cl (f_X3_init M265 n266) (fun _ M274 => gd (decide (mN M ≤ mN M274)) (gt (mT M274 a260) 27 (gt (mT M274 n266) 4 (gd (ib 0 (mL M274 a260)) (st (setP M274 a260 (0 : Int32).toNatClampNeg n266) (fun M283 => gt (mT M283 x0) 10 (lp (mP M283 x0 7) (fun a287 => gt (mT M283 a287) 27 (nw M283 4 0 (fun M292 n293 => cl (f_X3_init M292 n293) (fun _ M301 => gd (decide (mN M ≤ mN M301)) (gt (mT M301 a287) 27 (gt (mT M301 n293) 4 (gd (ib 1 (mL M301 a287)) (st (setP M301 a287 (1 : Int32).toNatClampNeg n293) (fun M310 => gt (mT M310 x0) 10 (lp (mP M310 x0 7) (fun a314 => gt (mT M310 a314) 27 (nw M310 4 0 (fun M319 n320 => cl (f_X3_init M319 n320) (fun _ M328 => gd (decide (mN M ≤ mN M328)) (gt (mT M328 a314) 27 (gt (mT M328 n320) 4 (gd (ib 2 (mL M328 a314)) (st (setP M328 a314 (2 : Int32).toNatClampNeg n320) (fun M337 => gt (mT M337 x0) 10 (lp (mP M337 x0 7) (fun a341 => gt (mT M337 a341) 27 (nw M337 4 0 (fun M346 n347 => cl (f_X3_init M346 n347) (fun _ M355 => gd (decide (mN M ≤ mN M355)) (gt (mT M355 a341) 27 (gt (mT M355 n347) 4 (gd (ib 3 (mL M355 a341)) (st (setP M355 a341 (3 : Int32).toNatClampNeg n347) (fun M364 => gt (mT M364 x0) 10 (lp (mP M364 x0 7) (fun a368 => gt (mT M364 a368) 27 (nw M364 4 0 (fun M373 n374 => cl (f_X3_init M373 n374) (fun _ M382 => gd (decide (mN M ≤ mN M382)) (gt (mT M382 a368) 27 (gt (mT M382 n374) 4 (gd (ib 4 (mL M382 a368)) (st (setP M382 a368 (4 : Int32).toNatClampNeg n374) (fun M391 => some ((), M391)))))))))))))))))))))))))))))))))))))))))))))))))))))))))))))))))))))))))))))))))))))))))))))))))))))))))))))))))))))))))))))))))))))
set_option maxHeartbeats 40000000 in
set_option maxRecDepth 100000 in
theorem c_X9_init (l : Launch) (G : Gd) (A : Nat → Prop) (ad : Nat → Nat) {M : Mem} {x0 : Nat}  {M' : Mem} (hf : f_X9_init M x0 = some ((), M')) : Ct l yX9_init cX9_init 2 none rm_X9_init [.ref (ad x0)] G A ad M (QVa G A ad M M') 113 1300 := by
  refine ct_start (by decide) (Nat.le_of_ble_eq_true rfl) ?_
  intro p e s m args below meth c ls C hin hw hl
  have C : Cx G A p s m args meth c RX9 cX9_init 2 none := C
  have hl : lv_has ls 2 [(0, .ref (ad x0))] := hl
  obtain ⟨hx, hb, -⟩ := id C
  rw [f_X9_init] at hf
  refine lv_aload_n hx hb dX9_init_0 rfl (lv_at hl 0 rfl) ?_
  refine r_obj C hl.1 mk_X9_1 ob_i ob_c (Nat.le_of_ble_eq_true rfl) (Nat.le_of_ble_eq_true rfl) dX9_init_1 ?_
  refine lv_aload_n hx hb dX9_init_4 rfl (lv_at hl 0 rfl) ?_
  obtain ⟨hT1, hf⟩ := gt_inv hf
  have lt2 := T_lt hw hT1 (by decide)
  obtain ⟨M3, n4, e5, en6, hf⟩ := nw_inv hf
  refine r_new C hw cf8 df8 e5 en6 kl_X9_7 in8 ii8 (Nat.le_of_ble_eq_true rfl) (Nat.le_of_ble_eq_true rfl) dX9_init_5 (fun ad8 H hk7 hw => ?_)
  rw [← hk7 x0 lt2] at hl
  rw [← hk7 x0 lt2]
  refine lv_dup hx hb dX9_init_8 rfl ?_
  have lt9 := T_lt hw (T_old e5 lt2 hT1) (by decide)
  have lt10 := T_lt hw (T_new e5 en6) (by decide)
  obtain ⟨⟨⟩, M11, hc12, hf⟩ := cl_inv hf
  refine fin_Va (run_I C hw mf_X8_init mj_X8_init ml_X9_9 (c_X8_init l G A ad8 hc12) (As := []) (rest := [.ref (ad8 n4), .ref (ad8 x0)]) hl.1 rfl rfl (Nat.le_of_ble_eq_true rfl) ⟨rfl, rfl, Nat.le_of_ble_eq_true rfl, Nat.le_of_ble_eq_true rfl⟩ ⟨Nat.le_of_ble_eq_true rfl, Nat.le_of_ble_eq_true rfl⟩ dX9_init_9) hw (fun ad15 H locs hk14 hw => ?_)
  rw [← hk14 x0 lt9] at hl
  rw [← hk14 x0 lt9]
  rw [← hk14 n4 lt10]
  obtain ⟨mo16, hf⟩ := gd_inv hf
  obtain ⟨hT17, hf⟩ := gt_inv hf
  obtain ⟨hT18, hf⟩ := gt_inv hf
  obtain ⟨M19, e20, hf⟩ := st_inv hf
  have g21 := sg_P e20
  refine r_putFP C (hin.trans rfl) hw cf9 0 (by decide) rfl hT17 (T_ne hT18 (by decide)) e20 fk_X9_10 rfl rfl rfl rfl dX9_init_12 (fun H locs hw => ?_)
  refine lv_aload_n hx hb dX9_init_15 rfl (lv_at hl 0 rfl) ?_
  have lt22 := T_lt hw (T_of2 g21 hT17) (by decide)
  obtain ⟨M23, n24, e25, en26, hf⟩ := nw_inv hf
  refine r_new C hw cf8 df8 e25 en26 kl_X9_7 in8 ii8 (Nat.le_of_ble_eq_true rfl) (Nat.le_of_ble_eq_true rfl) dX9_init_16 (fun ad28 H hk27 hw => ?_)
  rw [← hk27 x0 lt22] at hl
  rw [← hk27 x0 lt22]
  refine lv_dup hx hb dX9_init_19 rfl ?_
  have lt29 := T_lt hw (T_old e25 lt22 (T_of2 g21 hT17)) (by decide)
  have lt30 := T_lt hw (T_new e25 en26) (by decide)
  obtain ⟨⟨⟩, M31, hc32, hf⟩ := cl_inv hf
  refine fin_Va (run_I C hw mf_X8_init mj_X8_init ml_X9_9 (c_X8_init l G A ad28 hc32) (As := []) (rest := [.ref (ad28 n24), .ref (ad28 x0)]) hl.1 rfl rfl (Nat.le_of_ble_eq_true rfl) ⟨rfl, rfl, Nat.le_of_ble_eq_true rfl, Nat.le_of_ble_eq_true rfl⟩ ⟨Nat.le_of_ble_eq_true rfl, Nat.le_of_ble_eq_true rfl⟩ dX9_init_20) hw (fun ad35 H locs hk34 hw => ?_)
  rw [← hk34 x0 lt29] at hl
  rw [← hk34 x0 lt29]
  rw [← hk34 n24 lt30]
  obtain ⟨mo36, hf⟩ := gd_inv hf
  obtain ⟨hT37, hf⟩ := gt_inv hf
  obtain ⟨hT38, hf⟩ := gt_inv hf
  obtain ⟨M39, e40, hf⟩ := st_inv hf
  have g41 := sg_P e40
  refine r_putFP C (hin.trans rfl) hw cf9 1 (by decide) rfl hT37 (T_ne hT38 (by decide)) e40 fk_X9_16 rfl rfl rfl rfl dX9_init_23 (fun H locs hw => ?_)
  refine lv_aload_n hx hb dX9_init_26 rfl (lv_at hl 0 rfl) ?_
  have lt42 := T_lt hw (T_of2 g41 hT37) (by decide)
  obtain ⟨M43, n44, e45, en46, hf⟩ := nw_inv hf
  refine r_new C hw cf8 df8 e45 en46 kl_X9_7 in8 ii8 (Nat.le_of_ble_eq_true rfl) (Nat.le_of_ble_eq_true rfl) dX9_init_27 (fun ad48 H hk47 hw => ?_)
  rw [← hk47 x0 lt42] at hl
  rw [← hk47 x0 lt42]
  refine lv_dup hx hb dX9_init_30 rfl ?_
  have lt49 := T_lt hw (T_old e45 lt42 (T_of2 g41 hT37)) (by decide)
  have lt50 := T_lt hw (T_new e45 en46) (by decide)
  obtain ⟨⟨⟩, M51, hc52, hf⟩ := cl_inv hf
  refine fin_Va (run_I C hw mf_X8_init mj_X8_init ml_X9_9 (c_X8_init l G A ad48 hc52) (As := []) (rest := [.ref (ad48 n44), .ref (ad48 x0)]) hl.1 rfl rfl (Nat.le_of_ble_eq_true rfl) ⟨rfl, rfl, Nat.le_of_ble_eq_true rfl, Nat.le_of_ble_eq_true rfl⟩ ⟨Nat.le_of_ble_eq_true rfl, Nat.le_of_ble_eq_true rfl⟩ dX9_init_31) hw (fun ad55 H locs hk54 hw => ?_)
  rw [← hk54 x0 lt49] at hl
  rw [← hk54 x0 lt49]
  rw [← hk54 n44 lt50]
  obtain ⟨mo56, hf⟩ := gd_inv hf
  obtain ⟨hT57, hf⟩ := gt_inv hf
  obtain ⟨hT58, hf⟩ := gt_inv hf
  obtain ⟨M59, e60, hf⟩ := st_inv hf
  have g61 := sg_P e60
  refine r_putFP C (hin.trans rfl) hw cf9 2 (by decide) rfl hT57 (T_ne hT58 (by decide)) e60 fk_X9_19 rfl rfl rfl rfl dX9_init_34 (fun H locs hw => ?_)
  refine lv_aload_n hx hb dX9_init_37 rfl (lv_at hl 0 rfl) ?_
  have lt62 := T_lt hw (T_of2 g61 hT57) (by decide)
  obtain ⟨M63, n64, e65, en66, hf⟩ := nw_inv hf
  refine r_new C hw cf4 df4 e65 en66 kl_X9_22 in4 ii4 (Nat.le_of_ble_eq_true rfl) (Nat.le_of_ble_eq_true rfl) dX9_init_38 (fun ad68 H hk67 hw => ?_)
  rw [← hk67 x0 lt62] at hl
  rw [← hk67 x0 lt62]
  refine lv_dup hx hb dX9_init_41 rfl ?_
  have lt69 := T_lt hw (T_old e65 lt62 (T_of2 g61 hT57)) (by decide)
  have lt70 := T_lt hw (T_new e65 en66) (by decide)
  obtain ⟨⟨⟩, M71, hc72, hf⟩ := cl_inv hf
  refine fin_Va (run_I C hw mf_X4_init mj_X4_init ml_X9_24 (c_X4_init l G A ad68 hc72) (As := []) (rest := [.ref (ad68 n64), .ref (ad68 x0)]) hl.1 rfl rfl (Nat.le_of_ble_eq_true rfl) ⟨rfl, rfl, Nat.le_of_ble_eq_true rfl, Nat.le_of_ble_eq_true rfl⟩ ⟨Nat.le_of_ble_eq_true rfl, Nat.le_of_ble_eq_true rfl⟩ dX9_init_42) hw (fun ad75 H locs hk74 hw => ?_)
  rw [← hk74 x0 lt69] at hl
  rw [← hk74 x0 lt69]
  rw [← hk74 n64 lt70]
  obtain ⟨mo76, hf⟩ := gd_inv hf
  obtain ⟨hT77, hf⟩ := gt_inv hf
  obtain ⟨hT78, hf⟩ := gt_inv hf
  obtain ⟨M79, e80, hf⟩ := st_inv hf
  have g81 := sg_P e80
  refine r_putFP C (hin.trans rfl) hw cf9 3 (by decide) rfl hT77 (T_ne hT78 (by decide)) e80 fk_X9_25 rfl rfl rfl rfl dX9_init_45 (fun H locs hw => ?_)
  refine lv_aload_n hx hb dX9_init_48 rfl (lv_at hl 0 rfl) ?_
  have lt82 := T_lt hw (T_of2 g81 hT77) (by decide)
  obtain ⟨M83, n84, e85, en86, hf⟩ := nw_inv hf
  refine r_new C hw cf6 df6 e85 en86 kl_X9_29 in6 ii6 (Nat.le_of_ble_eq_true rfl) (Nat.le_of_ble_eq_true rfl) dX9_init_49 (fun ad88 H hk87 hw => ?_)
  rw [← hk87 x0 lt82] at hl
  rw [← hk87 x0 lt82]
  refine lv_dup hx hb dX9_init_52 rfl ?_
  have lt89 := T_lt hw (T_old e85 lt82 (T_of2 g81 hT77)) (by decide)
  have lt90 := T_lt hw (T_new e85 en86) (by decide)
  obtain ⟨⟨⟩, M91, hc92, hf⟩ := cl_inv hf
  refine fin_Va (run_I C hw mf_X6_init mj_X6_init ml_X9_31 (c_X6_init l G A ad88 hc92) (As := []) (rest := [.ref (ad88 n84), .ref (ad88 x0)]) hl.1 rfl rfl (Nat.le_of_ble_eq_true rfl) ⟨rfl, rfl, Nat.le_of_ble_eq_true rfl, Nat.le_of_ble_eq_true rfl⟩ ⟨Nat.le_of_ble_eq_true rfl, Nat.le_of_ble_eq_true rfl⟩ dX9_init_53) hw (fun ad95 H locs hk94 hw => ?_)
  rw [← hk94 x0 lt89] at hl
  rw [← hk94 x0 lt89]
  rw [← hk94 n84 lt90]
  obtain ⟨mo96, hf⟩ := gd_inv hf
  obtain ⟨hT97, hf⟩ := gt_inv hf
  obtain ⟨hT98, hf⟩ := gt_inv hf
  obtain ⟨M99, e100, hf⟩ := st_inv hf
  have g101 := sg_P e100
  refine r_putFP C (hin.trans rfl) hw cf9 4 (by decide) rfl hT97 (T_ne hT98 (by decide)) e100 fk_X9_32 rfl rfl rfl rfl dX9_init_56 (fun H locs hw => ?_)
  refine lv_aload_n hx hb dX9_init_59 rfl (lv_at hl 0 rfl) ?_
  have lt102 := T_lt hw (T_of2 g101 hT97) (by decide)
  obtain ⟨M103, n104, e105, en106, hf⟩ := nw_inv hf
  refine r_new C hw cf1 df1 e105 en106 kl_X9_36 in1 ii1 (Nat.le_of_ble_eq_true rfl) (Nat.le_of_ble_eq_true rfl) dX9_init_60 (fun ad108 H hk107 hw => ?_)
  rw [← hk107 x0 lt102] at hl
  rw [← hk107 x0 lt102]
  refine lv_dup hx hb dX9_init_63 rfl ?_
  have lt109 := T_lt hw (T_old e105 lt102 (T_of2 g101 hT97)) (by decide)
  have lt110 := T_lt hw (T_new e105 en106) (by decide)
  obtain ⟨⟨⟩, M111, hc112, hf⟩ := cl_inv hf
  refine fin_Va (run_I C hw mf_X1_init mj_X1_init ml_X9_38 (c_X1_init l G A ad108 hc112) (As := []) (rest := [.ref (ad108 n104), .ref (ad108 x0)]) hl.1 rfl rfl (Nat.le_of_ble_eq_true rfl) ⟨rfl, rfl, Nat.le_of_ble_eq_true rfl, Nat.le_of_ble_eq_true rfl⟩ ⟨Nat.le_of_ble_eq_true rfl, Nat.le_of_ble_eq_true rfl⟩ dX9_init_64) hw (fun ad115 H locs hk114 hw => ?_)
  rw [← hk114 x0 lt109] at hl
  rw [← hk114 x0 lt109]
  rw [← hk114 n104 lt110]
  obtain ⟨mo116, hf⟩ := gd_inv hf
  obtain ⟨hT117, hf⟩ := gt_inv hf
  obtain ⟨hT118, hf⟩ := gt_inv hf
  obtain ⟨M119, e120, hf⟩ := st_inv hf
  have g121 := sg_P e120
  refine r_putFP C (hin.trans rfl) hw cf9 5 (by decide) rfl hT117 (T_ne hT118 (by decide)) e120 fk_X9_39 rfl rfl rfl rfl dX9_init_67 (fun H locs hw => ?_)
  refine lv_aload_n hx hb dX9_init_70 rfl (lv_at hl 0 rfl) ?_
  refine lv_iconst (v := 4) hx hb dX9_init_71 (by decide) ?_
  have lt122 := T_lt hw (T_of2 g121 hT117) (by decide)
  obtain ⟨M123, n124, e125, en126, hf⟩ := nw_inv hf
  refine r_newq C hw 6 rfl (by decide) e125 en126 kl_X9_43 C.2.2.2.2.2.1.2.2.1.2.2.2.1 (by decide) (by decide) (Nat.le_of_ble_eq_true rfl) (Nat.le_of_ble_eq_true rfl) (Nat.le_of_ble_eq_true rfl) dX9_init_72 (fun ad128 H hk127 hw => ?_)
  rw [← hk127 x0 lt122] at hl
  rw [← hk127 x0 lt122]
  obtain ⟨M129, e130, hf⟩ := st_inv hf
  have g131 := sg_P e130
  refine r_putFP C (hin.trans rfl) hw cf9 6 (by decide) rfl (T_old e125 lt122 (T_of2 g121 hT117)) (T_ne (T_new e125 en126) (by decide)) e130 fk_X9_45 rfl rfl rfl rfl dX9_init_75 (fun H locs hw => ?_)
  refine lv_aload_n hx hb dX9_init_78 rfl (lv_at hl 0 rfl) ?_
  refine lv_iconst (v := 5) hx hb dX9_init_79 (by decide) ?_
  have lt132 := T_lt hw (T_of2 g131 (T_old e125 lt122 (T_of2 g121 hT117))) (by decide)
  obtain ⟨M133, n134, e135, en136, hf⟩ := nw_inv hf
  refine r_newq C hw 7 rfl (by decide) e135 en136 kl_X9_49 C.2.2.2.2.2.1.2.2.1.2.2.2.2.1 (by decide) (by decide) (Nat.le_of_ble_eq_true rfl) (Nat.le_of_ble_eq_true rfl) (Nat.le_of_ble_eq_true rfl) dX9_init_80 (fun ad138 H hk137 hw => ?_)
  rw [← hk137 x0 lt132] at hl
  rw [← hk137 x0 lt132]
  obtain ⟨M139, e140, hf⟩ := st_inv hf
  have g141 := sg_P e140
  refine r_putFP C (hin.trans rfl) hw cf9 7 (by decide) rfl (T_old e135 lt132 (T_of2 g131 (T_old e125 lt122 (T_of2 g121 hT117)))) (T_ne (T_new e135 en136) (by decide)) e140 fk_X9_51 rfl rfl rfl rfl dX9_init_83 (fun H locs hw => ?_)
  refine lv_aload_n hx hb dX9_init_86 rfl (lv_at hl 0 rfl) ?_
  refine lv_bipush (v := 60) hx hb dX9_init_87 (by decide) ?_
  have lt142 := T_lt hw (T_of2 g141 (T_old e135 lt132 (T_of2 g131 (T_old e125 lt122 (T_of2 g121 hT117))))) (by decide)
  obtain ⟨M143, n144, e145, en146, hf⟩ := nw_inv hf
  refine r_newa (atype := .int) (ty := .int) C hw 0 rfl rfl (by decide) rfl e145 en146 ar_int (by decide) (by decide) (Nat.le_of_ble_eq_true rfl) (Nat.le_of_ble_eq_true rfl) (Nat.le_of_ble_eq_true rfl) dX9_init_89 (fun ad148 H hk147 hw => ?_)
  rw [← hk147 x0 lt142] at hl
  rw [← hk147 x0 lt142]
  obtain ⟨M149, e150, hf⟩ := st_inv hf
  have g151 := sg_P e150
  refine r_putFP C (hin.trans rfl) hw cf9 8 (by decide) rfl (T_old e145 lt142 (T_of2 g141 (T_old e135 lt132 (T_of2 g131 (T_old e125 lt122 (T_of2 g121 hT117)))))) (T_ne (T_new e145 en146) (by decide)) e150 fk_X9_55 rfl rfl rfl rfl dX9_init_91 (fun H locs hw => ?_)
  refine lv_iconst (v := 0) hx hb dX9_init_94 (by decide) ?_
  refine lv_istore_n (lv' := [(1, .int 0), (0, .ref (ad148 x0))]) hx hb dX9_init_95 rfl hl (by decide) rfl (fun ls hl => ?_)
  refine lv_iload_n hx hb dX9_init_96 rfl (lv_at hl 0 rfl) ?_
  refine lv_iconst (v := 4) hx hb dX9_init_97 (by decide) ?_
  refine lv_icmp_ge (tgt := 120) hx hb dX9_init_98 (by decide) (fun hc => absurd hc (by decide)) (fun _ => ?_)
  refine lv_aload_n hx hb dX9_init_101 rfl (lv_at hl 1 rfl) ?_
  obtain ⟨a152, hP153, hf⟩ := lp_inv hf
  refine r_getP C hw cf9 6 (by decide) rfl (T_of2 g151 (T_old e145 lt142 (T_of2 g141 (T_old e135 lt132 (T_of2 g131 (T_old e125 lt122 (T_of2 g121 hT117))))))) hP153 fl_X9_45 dX9_init_102 ?_
  refine lv_iload_n hx hb dX9_init_105 rfl (lv_at hl 0 rfl) ?_
  have lt154 := T_lt hw (T_of2 g151 (T_old e145 lt142 (T_of2 g141 (T_old e135 lt132 (T_of2 g131 (T_old e125 lt122 (T_of2 g121 hT117))))))) (by decide)
  obtain ⟨hT155, hf⟩ := gt_inv hf
  have lt156 := T_lt hw hT155 (by decide)
  obtain ⟨M157, n158, e159, en160, hf⟩ := nw_inv hf
  refine r_new C hw cf2 df2 e159 en160 kl_X9_43 in2 ii2 (Nat.le_of_ble_eq_true rfl) (Nat.le_of_ble_eq_true rfl) dX9_init_106 (fun ad162 H hk161 hw => ?_)
  rw [← hk161 x0 lt154] at hl
  rw [← hk161 a152 lt156]
  refine lv_dup hx hb dX9_init_109 rfl ?_
  have lt163 := T_lt hw (T_old e159 lt154 (T_of2 g151 (T_old e145 lt142 (T_of2 g141 (T_old e135 lt132 (T_of2 g131 (T_old e125 lt122 (T_of2 g121 hT117)))))))) (by decide)
  have lt164 := T_lt hw (T_old e159 lt156 hT155) (by decide)
  have lt165 := T_lt hw (T_new e159 en160) (by decide)
  obtain ⟨⟨⟩, M166, hc167, hf⟩ := cl_inv hf
  refine fin_Va (run_I C hw mf_X2_init mj_X2_init ml_X9_59 (c_X2_init l G A ad162 hc167) (As := []) (rest := [.ref (ad162 n158), .int 0, .ref (ad162 a152)]) hl.1 rfl rfl (Nat.le_of_ble_eq_true rfl) ⟨rfl, rfl, Nat.le_of_ble_eq_true rfl, Nat.le_of_ble_eq_true rfl⟩ ⟨Nat.le_of_ble_eq_true rfl, Nat.le_of_ble_eq_true rfl⟩ dX9_init_110) hw (fun ad170 H locs hk169 hw => ?_)
  rw [← hk169 x0 lt163] at hl
  rw [← hk169 a152 lt164]
  rw [← hk169 n158 lt165]
  obtain ⟨mo171, hf⟩ := gd_inv hf
  obtain ⟨hT172, hf⟩ := gt_inv hf
  obtain ⟨hT173, hf⟩ := gt_inv hf
  obtain ⟨hg174, hf⟩ := gd_inv hf
  obtain ⟨M175, e176, hf⟩ := st_inv hf
  have g177 := sg_P e176
  refine r_aast C hw 6 cf2 rfl (by decide) (by decide) hT172 hT173 hg174 e176 dX9_init_113 (fun H locs hw => ?_)
  refine lv_iinc (v := 1) (lv' := [(1, .int 1), (0, .ref (ad170 x0))]) hx hb dX9_init_114 hl (k := 0) rfl (by decide) (by decide) rfl (fun ls hl => ?_)
  refine lv_goto (tgt := 96) hx hb dX9_init_117 (by decide) ?_
  refine lv_iload_n hx hb dX9_init_96 rfl (lv_at hl 0 rfl) ?_
  refine lv_iconst (v := 4) hx hb dX9_init_97 (by decide) ?_
  refine lv_icmp_ge (tgt := 120) hx hb dX9_init_98 (by decide) (fun hc => absurd hc (by decide)) (fun _ => ?_)
  refine lv_aload_n hx hb dX9_init_101 rfl (lv_at hl 1 rfl) ?_
  obtain ⟨hT178, hf⟩ := gt_inv hf
  obtain ⟨a179, hP180, hf⟩ := lp_inv hf
  refine r_getP C hw cf9 6 (by decide) rfl hT178 hP180 fl_X9_45 dX9_init_102 ?_
  refine lv_iload_n hx hb dX9_init_105 rfl (lv_at hl 0 rfl) ?_
  have lt181 := T_lt hw hT178 (by decide)
  obtain ⟨hT182, hf⟩ := gt_inv hf
  have lt183 := T_lt hw hT182 (by decide)
  obtain ⟨M184, n185, e186, en187, hf⟩ := nw_inv hf
  refine r_new C hw cf2 df2 e186 en187 kl_X9_43 in2 ii2 (Nat.le_of_ble_eq_true rfl) (Nat.le_of_ble_eq_true rfl) dX9_init_106 (fun ad189 H hk188 hw => ?_)
  rw [← hk188 x0 lt181] at hl
  rw [← hk188 a179 lt183]
  refine lv_dup hx hb dX9_init_109 rfl ?_
  have lt190 := T_lt hw (T_old e186 lt181 hT178) (by decide)
  have lt191 := T_lt hw (T_old e186 lt183 hT182) (by decide)
  have lt192 := T_lt hw (T_new e186 en187) (by decide)
  obtain ⟨⟨⟩, M193, hc194, hf⟩ := cl_inv hf
  refine fin_Va (run_I C hw mf_X2_init mj_X2_init ml_X9_59 (c_X2_init l G A ad189 hc194) (As := []) (rest := [.ref (ad189 n185), .int 1, .ref (ad189 a179)]) hl.1 rfl rfl (Nat.le_of_ble_eq_true rfl) ⟨rfl, rfl, Nat.le_of_ble_eq_true rfl, Nat.le_of_ble_eq_true rfl⟩ ⟨Nat.le_of_ble_eq_true rfl, Nat.le_of_ble_eq_true rfl⟩ dX9_init_110) hw (fun ad197 H locs hk196 hw => ?_)
  rw [← hk196 x0 lt190] at hl
  rw [← hk196 a179 lt191]
  rw [← hk196 n185 lt192]
  obtain ⟨mo198, hf⟩ := gd_inv hf
  obtain ⟨hT199, hf⟩ := gt_inv hf
  obtain ⟨hT200, hf⟩ := gt_inv hf
  obtain ⟨hg201, hf⟩ := gd_inv hf
  obtain ⟨M202, e203, hf⟩ := st_inv hf
  have g204 := sg_P e203
  refine r_aast C hw 6 cf2 rfl (by decide) (by decide) hT199 hT200 hg201 e203 dX9_init_113 (fun H locs hw => ?_)
  refine lv_iinc (v := 2) (lv' := [(1, .int 2), (0, .ref (ad197 x0))]) hx hb dX9_init_114 hl (k := 0) rfl (by decide) (by decide) rfl (fun ls hl => ?_)
  refine lv_goto (tgt := 96) hx hb dX9_init_117 (by decide) ?_
  refine lv_iload_n hx hb dX9_init_96 rfl (lv_at hl 0 rfl) ?_
  refine lv_iconst (v := 4) hx hb dX9_init_97 (by decide) ?_
  refine lv_icmp_ge (tgt := 120) hx hb dX9_init_98 (by decide) (fun hc => absurd hc (by decide)) (fun _ => ?_)
  refine lv_aload_n hx hb dX9_init_101 rfl (lv_at hl 1 rfl) ?_
  obtain ⟨hT205, hf⟩ := gt_inv hf
  obtain ⟨a206, hP207, hf⟩ := lp_inv hf
  refine r_getP C hw cf9 6 (by decide) rfl hT205 hP207 fl_X9_45 dX9_init_102 ?_
  refine lv_iload_n hx hb dX9_init_105 rfl (lv_at hl 0 rfl) ?_
  have lt208 := T_lt hw hT205 (by decide)
  obtain ⟨hT209, hf⟩ := gt_inv hf
  have lt210 := T_lt hw hT209 (by decide)
  obtain ⟨M211, n212, e213, en214, hf⟩ := nw_inv hf
  refine r_new C hw cf2 df2 e213 en214 kl_X9_43 in2 ii2 (Nat.le_of_ble_eq_true rfl) (Nat.le_of_ble_eq_true rfl) dX9_init_106 (fun ad216 H hk215 hw => ?_)
  rw [← hk215 x0 lt208] at hl
  rw [← hk215 a206 lt210]
  refine lv_dup hx hb dX9_init_109 rfl ?_
  have lt217 := T_lt hw (T_old e213 lt208 hT205) (by decide)
  have lt218 := T_lt hw (T_old e213 lt210 hT209) (by decide)
  have lt219 := T_lt hw (T_new e213 en214) (by decide)
  obtain ⟨⟨⟩, M220, hc221, hf⟩ := cl_inv hf
  refine fin_Va (run_I C hw mf_X2_init mj_X2_init ml_X9_59 (c_X2_init l G A ad216 hc221) (As := []) (rest := [.ref (ad216 n212), .int 2, .ref (ad216 a206)]) hl.1 rfl rfl (Nat.le_of_ble_eq_true rfl) ⟨rfl, rfl, Nat.le_of_ble_eq_true rfl, Nat.le_of_ble_eq_true rfl⟩ ⟨Nat.le_of_ble_eq_true rfl, Nat.le_of_ble_eq_true rfl⟩ dX9_init_110) hw (fun ad224 H locs hk223 hw => ?_)
  rw [← hk223 x0 lt217] at hl
  rw [← hk223 a206 lt218]
  rw [← hk223 n212 lt219]
  obtain ⟨mo225, hf⟩ := gd_inv hf
  obtain ⟨hT226, hf⟩ := gt_inv hf
  obtain ⟨hT227, hf⟩ := gt_inv hf
  obtain ⟨hg228, hf⟩ := gd_inv hf
  obtain ⟨M229, e230, hf⟩ := st_inv hf
  have g231 := sg_P e230
  refine r_aast C hw 6 cf2 rfl (by decide) (by decide) hT226 hT227 hg228 e230 dX9_init_113 (fun H locs hw => ?_)
  refine lv_iinc (v := 3) (lv' := [(1, .int 3), (0, .ref (ad224 x0))]) hx hb dX9_init_114 hl (k := 0) rfl (by decide) (by decide) rfl (fun ls hl => ?_)
  refine lv_goto (tgt := 96) hx hb dX9_init_117 (by decide) ?_
  refine lv_iload_n hx hb dX9_init_96 rfl (lv_at hl 0 rfl) ?_
  refine lv_iconst (v := 4) hx hb dX9_init_97 (by decide) ?_
  refine lv_icmp_ge (tgt := 120) hx hb dX9_init_98 (by decide) (fun hc => absurd hc (by decide)) (fun _ => ?_)
  refine lv_aload_n hx hb dX9_init_101 rfl (lv_at hl 1 rfl) ?_
  obtain ⟨hT232, hf⟩ := gt_inv hf
  obtain ⟨a233, hP234, hf⟩ := lp_inv hf
  refine r_getP C hw cf9 6 (by decide) rfl hT232 hP234 fl_X9_45 dX9_init_102 ?_
  refine lv_iload_n hx hb dX9_init_105 rfl (lv_at hl 0 rfl) ?_
  have lt235 := T_lt hw hT232 (by decide)
  obtain ⟨hT236, hf⟩ := gt_inv hf
  have lt237 := T_lt hw hT236 (by decide)
  obtain ⟨M238, n239, e240, en241, hf⟩ := nw_inv hf
  refine r_new C hw cf2 df2 e240 en241 kl_X9_43 in2 ii2 (Nat.le_of_ble_eq_true rfl) (Nat.le_of_ble_eq_true rfl) dX9_init_106 (fun ad243 H hk242 hw => ?_)
  rw [← hk242 x0 lt235] at hl
  rw [← hk242 a233 lt237]
  refine lv_dup hx hb dX9_init_109 rfl ?_
  have lt244 := T_lt hw (T_old e240 lt235 hT232) (by decide)
  have lt245 := T_lt hw (T_old e240 lt237 hT236) (by decide)
  have lt246 := T_lt hw (T_new e240 en241) (by decide)
  obtain ⟨⟨⟩, M247, hc248, hf⟩ := cl_inv hf
  refine fin_Va (run_I C hw mf_X2_init mj_X2_init ml_X9_59 (c_X2_init l G A ad243 hc248) (As := []) (rest := [.ref (ad243 n239), .int 3, .ref (ad243 a233)]) hl.1 rfl rfl (Nat.le_of_ble_eq_true rfl) ⟨rfl, rfl, Nat.le_of_ble_eq_true rfl, Nat.le_of_ble_eq_true rfl⟩ ⟨Nat.le_of_ble_eq_true rfl, Nat.le_of_ble_eq_true rfl⟩ dX9_init_110) hw (fun ad251 H locs hk250 hw => ?_)
  rw [← hk250 x0 lt244] at hl
  rw [← hk250 a233 lt245]
  rw [← hk250 n239 lt246]
  obtain ⟨mo252, hf⟩ := gd_inv hf
  obtain ⟨hT253, hf⟩ := gt_inv hf
  obtain ⟨hT254, hf⟩ := gt_inv hf
  obtain ⟨hg255, hf⟩ := gd_inv hf
  obtain ⟨M256, e257, hf⟩ := st_inv hf
  have g258 := sg_P e257
  refine r_aast C hw 6 cf2 rfl (by decide) (by decide) hT253 hT254 hg255 e257 dX9_init_113 (fun H locs hw => ?_)
  refine lv_iinc (v := 4) (lv' := [(1, .int 4), (0, .ref (ad251 x0))]) hx hb dX9_init_114 hl (k := 0) rfl (by decide) (by decide) rfl (fun ls hl => ?_)
  refine lv_goto (tgt := 96) hx hb dX9_init_117 (by decide) ?_
  refine lv_iload_n hx hb dX9_init_96 rfl (lv_at hl 0 rfl) ?_
  refine lv_iconst (v := 4) hx hb dX9_init_97 (by decide) ?_
  refine lv_icmp_ge (tgt := 120) hx hb dX9_init_98 (by decide) (fun _ => ?_) (fun hc => absurd (by decide) hc)
  refine lv_iconst (v := 0) hx hb dX9_init_120 (by decide) ?_
  refine lv_istore_n (lv' := [(1, .int 0), (0, .ref (ad251 x0))]) hx hb dX9_init_121 rfl hl (by decide) rfl (fun ls hl => ?_)
  refine lv_iload_n hx hb dX9_init_122 rfl (lv_at hl 0 rfl) ?_
  refine lv_iconst (v := 5) hx hb dX9_init_123 (by decide) ?_
  refine lv_icmp_ge (tgt := 146) hx hb dX9_init_124 (by decide) (fun hc => absurd hc (by decide)) (fun _ => ?_)
  refine lv_aload_n hx hb dX9_init_127 rfl (lv_at hl 1 rfl) ?_
  obtain ⟨hT259, hf⟩ := gt_inv hf
  obtain ⟨a260, hP261, hf⟩ := lp_inv hf
  refine r_getP C hw cf9 7 (by decide) rfl hT259 hP261 fl_X9_51 dX9_init_128 ?_
  refine lv_iload_n hx hb dX9_init_131 rfl (lv_at hl 0 rfl) ?_
  have lt262 := T_lt hw hT259 (by decide)
  obtain ⟨hT263, hf⟩ := gt_inv hf
  have lt264 := T_lt hw hT263 (by decide)
  obtain ⟨M265, n266, e267, en268, hf⟩ := nw_inv hf
  refine r_new C hw cf3 df3 e267 en268 kl_X9_49 in3 ii3 (Nat.le_of_ble_eq_true rfl) (Nat.le_of_ble_eq_true rfl) dX9_init_132 (fun ad270 H hk269 hw => ?_)
  rw [← hk269 x0 lt262] at hl
  rw [← hk269 a260 lt264]
  refine lv_dup hx hb dX9_init_135 rfl ?_
  have lt271 := T_lt hw (T_old e267 lt262 hT259) (by decide)
  have lt272 := T_lt hw (T_old e267 lt264 hT263) (by decide)
  have lt273 := T_lt hw (T_new e267 en268) (by decide)
  obtain ⟨⟨⟩, M274, hc275, hf⟩ := cl_inv hf
  refine fin_Va (run_I C hw mf_X3_init mj_X3_init ml_X9_60 (c_X3_init l G A ad270 hc275) (As := []) (rest := [.ref (ad270 n266), .int 0, .ref (ad270 a260)]) hl.1 rfl rfl (Nat.le_of_ble_eq_true rfl) ⟨rfl, rfl, Nat.le_of_ble_eq_true rfl, Nat.le_of_ble_eq_true rfl⟩ ⟨Nat.le_of_ble_eq_true rfl, Nat.le_of_ble_eq_true rfl⟩ dX9_init_136) hw (fun ad278 H locs hk277 hw => ?_)
  rw [← hk277 x0 lt271] at hl
  rw [← hk277 a260 lt272]
  rw [← hk277 n266 lt273]
  obtain ⟨mo279, hf⟩ := gd_inv hf
  obtain ⟨hT280, hf⟩ := gt_inv hf
  obtain ⟨hT281, hf⟩ := gt_inv hf
  obtain ⟨hg282, hf⟩ := gd_inv hf
  obtain ⟨M283, e284, hf⟩ := st_inv hf
  have g285 := sg_P e284
  refine r_aast C hw 7 cf3 rfl (by decide) (by decide) hT280 hT281 hg282 e284 dX9_init_139 (fun H locs hw => ?_)
  refine lv_iinc (v := 1) (lv' := [(1, .int 1), (0, .ref (ad278 x0))]) hx hb dX9_init_140 hl (k := 0) rfl (by decide) (by decide) rfl (fun ls hl => ?_)
  refine lv_goto (tgt := 122) hx hb dX9_init_143 (by decide) ?_
  refine lv_iload_n hx hb dX9_init_122 rfl (lv_at hl 0 rfl) ?_
  refine lv_iconst (v := 5) hx hb dX9_init_123 (by decide) ?_
  refine lv_icmp_ge (tgt := 146) hx hb dX9_init_124 (by decide) (fun hc => absurd hc (by decide)) (fun _ => ?_)
  refine lv_aload_n hx hb dX9_init_127 rfl (lv_at hl 1 rfl) ?_
  obtain ⟨hT286, hf⟩ := gt_inv hf
  obtain ⟨a287, hP288, hf⟩ := lp_inv hf
  refine r_getP C hw cf9 7 (by decide) rfl hT286 hP288 fl_X9_51 dX9_init_128 ?_
  refine lv_iload_n hx hb dX9_init_131 rfl (lv_at hl 0 rfl) ?_
  have lt289 := T_lt hw hT286 (by decide)
  obtain ⟨hT290, hf⟩ := gt_inv hf
  have lt291 := T_lt hw hT290 (by decide)
  obtain ⟨M292, n293, e294, en295, hf⟩ := nw_inv hf
  refine r_new C hw cf3 df3 e294 en295 kl_X9_49 in3 ii3 (Nat.le_of_ble_eq_true rfl) (Nat.le_of_ble_eq_true rfl) dX9_init_132 (fun ad297 H hk296 hw => ?_)
  rw [← hk296 x0 lt289] at hl
  rw [← hk296 a287 lt291]
  refine lv_dup hx hb dX9_init_135 rfl ?_
  have lt298 := T_lt hw (T_old e294 lt289 hT286) (by decide)
  have lt299 := T_lt hw (T_old e294 lt291 hT290) (by decide)
  have lt300 := T_lt hw (T_new e294 en295) (by decide)
  obtain ⟨⟨⟩, M301, hc302, hf⟩ := cl_inv hf
  refine fin_Va (run_I C hw mf_X3_init mj_X3_init ml_X9_60 (c_X3_init l G A ad297 hc302) (As := []) (rest := [.ref (ad297 n293), .int 1, .ref (ad297 a287)]) hl.1 rfl rfl (Nat.le_of_ble_eq_true rfl) ⟨rfl, rfl, Nat.le_of_ble_eq_true rfl, Nat.le_of_ble_eq_true rfl⟩ ⟨Nat.le_of_ble_eq_true rfl, Nat.le_of_ble_eq_true rfl⟩ dX9_init_136) hw (fun ad305 H locs hk304 hw => ?_)
  rw [← hk304 x0 lt298] at hl
  rw [← hk304 a287 lt299]
  rw [← hk304 n293 lt300]
  obtain ⟨mo306, hf⟩ := gd_inv hf
  obtain ⟨hT307, hf⟩ := gt_inv hf
  obtain ⟨hT308, hf⟩ := gt_inv hf
  obtain ⟨hg309, hf⟩ := gd_inv hf
  obtain ⟨M310, e311, hf⟩ := st_inv hf
  have g312 := sg_P e311
  refine r_aast C hw 7 cf3 rfl (by decide) (by decide) hT307 hT308 hg309 e311 dX9_init_139 (fun H locs hw => ?_)
  refine lv_iinc (v := 2) (lv' := [(1, .int 2), (0, .ref (ad305 x0))]) hx hb dX9_init_140 hl (k := 0) rfl (by decide) (by decide) rfl (fun ls hl => ?_)
  refine lv_goto (tgt := 122) hx hb dX9_init_143 (by decide) ?_
  refine lv_iload_n hx hb dX9_init_122 rfl (lv_at hl 0 rfl) ?_
  refine lv_iconst (v := 5) hx hb dX9_init_123 (by decide) ?_
  refine lv_icmp_ge (tgt := 146) hx hb dX9_init_124 (by decide) (fun hc => absurd hc (by decide)) (fun _ => ?_)
  refine lv_aload_n hx hb dX9_init_127 rfl (lv_at hl 1 rfl) ?_
  obtain ⟨hT313, hf⟩ := gt_inv hf
  obtain ⟨a314, hP315, hf⟩ := lp_inv hf
  refine r_getP C hw cf9 7 (by decide) rfl hT313 hP315 fl_X9_51 dX9_init_128 ?_
  refine lv_iload_n hx hb dX9_init_131 rfl (lv_at hl 0 rfl) ?_
  have lt316 := T_lt hw hT313 (by decide)
  obtain ⟨hT317, hf⟩ := gt_inv hf
  have lt318 := T_lt hw hT317 (by decide)
  obtain ⟨M319, n320, e321, en322, hf⟩ := nw_inv hf
  refine r_new C hw cf3 df3 e321 en322 kl_X9_49 in3 ii3 (Nat.le_of_ble_eq_true rfl) (Nat.le_of_ble_eq_true rfl) dX9_init_132 (fun ad324 H hk323 hw => ?_)
  rw [← hk323 x0 lt316] at hl
  rw [← hk323 a314 lt318]
  refine lv_dup hx hb dX9_init_135 rfl ?_
  have lt325 := T_lt hw (T_old e321 lt316 hT313) (by decide)
  have lt326 := T_lt hw (T_old e321 lt318 hT317) (by decide)
  have lt327 := T_lt hw (T_new e321 en322) (by decide)
  obtain ⟨⟨⟩, M328, hc329, hf⟩ := cl_inv hf
  refine fin_Va (run_I C hw mf_X3_init mj_X3_init ml_X9_60 (c_X3_init l G A ad324 hc329) (As := []) (rest := [.ref (ad324 n320), .int 2, .ref (ad324 a314)]) hl.1 rfl rfl (Nat.le_of_ble_eq_true rfl) ⟨rfl, rfl, Nat.le_of_ble_eq_true rfl, Nat.le_of_ble_eq_true rfl⟩ ⟨Nat.le_of_ble_eq_true rfl, Nat.le_of_ble_eq_true rfl⟩ dX9_init_136) hw (fun ad332 H locs hk331 hw => ?_)
  rw [← hk331 x0 lt325] at hl
  rw [← hk331 a314 lt326]
  rw [← hk331 n320 lt327]
  obtain ⟨mo333, hf⟩ := gd_inv hf
  obtain ⟨hT334, hf⟩ := gt_inv hf
  obtain ⟨hT335, hf⟩ := gt_inv hf
  obtain ⟨hg336, hf⟩ := gd_inv hf
  obtain ⟨M337, e338, hf⟩ := st_inv hf
  have g339 := sg_P e338
  refine r_aast C hw 7 cf3 rfl (by decide) (by decide) hT334 hT335 hg336 e338 dX9_init_139 (fun H locs hw => ?_)
  refine lv_iinc (v := 3) (lv' := [(1, .int 3), (0, .ref (ad332 x0))]) hx hb dX9_init_140 hl (k := 0) rfl (by decide) (by decide) rfl (fun ls hl => ?_)
  refine lv_goto (tgt := 122) hx hb dX9_init_143 (by decide) ?_
  refine lv_iload_n hx hb dX9_init_122 rfl (lv_at hl 0 rfl) ?_
  refine lv_iconst (v := 5) hx hb dX9_init_123 (by decide) ?_
  refine lv_icmp_ge (tgt := 146) hx hb dX9_init_124 (by decide) (fun hc => absurd hc (by decide)) (fun _ => ?_)
  refine lv_aload_n hx hb dX9_init_127 rfl (lv_at hl 1 rfl) ?_
  obtain ⟨hT340, hf⟩ := gt_inv hf
  obtain ⟨a341, hP342, hf⟩ := lp_inv hf
  refine r_getP C hw cf9 7 (by decide) rfl hT340 hP342 fl_X9_51 dX9_init_128 ?_
  refine lv_iload_n hx hb dX9_init_131 rfl (lv_at hl 0 rfl) ?_
  have lt343 := T_lt hw hT340 (by decide)
  obtain ⟨hT344, hf⟩ := gt_inv hf
  have lt345 := T_lt hw hT344 (by decide)
  obtain ⟨M346, n347, e348, en349, hf⟩ := nw_inv hf
  refine r_new C hw cf3 df3 e348 en349 kl_X9_49 in3 ii3 (Nat.le_of_ble_eq_true rfl) (Nat.le_of_ble_eq_true rfl) dX9_init_132 (fun ad351 H hk350 hw => ?_)
  rw [← hk350 x0 lt343] at hl
  rw [← hk350 a341 lt345]
  refine lv_dup hx hb dX9_init_135 rfl ?_
  have lt352 := T_lt hw (T_old e348 lt343 hT340) (by decide)
  have lt353 := T_lt hw (T_old e348 lt345 hT344) (by decide)
  have lt354 := T_lt hw (T_new e348 en349) (by decide)
  obtain ⟨⟨⟩, M355, hc356, hf⟩ := cl_inv hf
  refine fin_Va (run_I C hw mf_X3_init mj_X3_init ml_X9_60 (c_X3_init l G A ad351 hc356) (As := []) (rest := [.ref (ad351 n347), .int 3, .ref (ad351 a341)]) hl.1 rfl rfl (Nat.le_of_ble_eq_true rfl) ⟨rfl, rfl, Nat.le_of_ble_eq_true rfl, Nat.le_of_ble_eq_true rfl⟩ ⟨Nat.le_of_ble_eq_true rfl, Nat.le_of_ble_eq_true rfl⟩ dX9_init_136) hw (fun ad359 H locs hk358 hw => ?_)
  rw [← hk358 x0 lt352] at hl
  rw [← hk358 a341 lt353]
  rw [← hk358 n347 lt354]
  obtain ⟨mo360, hf⟩ := gd_inv hf
  obtain ⟨hT361, hf⟩ := gt_inv hf
  obtain ⟨hT362, hf⟩ := gt_inv hf
  obtain ⟨hg363, hf⟩ := gd_inv hf
  obtain ⟨M364, e365, hf⟩ := st_inv hf
  have g366 := sg_P e365
  refine r_aast C hw 7 cf3 rfl (by decide) (by decide) hT361 hT362 hg363 e365 dX9_init_139 (fun H locs hw => ?_)
  refine lv_iinc (v := 4) (lv' := [(1, .int 4), (0, .ref (ad359 x0))]) hx hb dX9_init_140 hl (k := 0) rfl (by decide) (by decide) rfl (fun ls hl => ?_)
  refine lv_goto (tgt := 122) hx hb dX9_init_143 (by decide) ?_
  refine lv_iload_n hx hb dX9_init_122 rfl (lv_at hl 0 rfl) ?_
  refine lv_iconst (v := 5) hx hb dX9_init_123 (by decide) ?_
  refine lv_icmp_ge (tgt := 146) hx hb dX9_init_124 (by decide) (fun hc => absurd hc (by decide)) (fun _ => ?_)
  refine lv_aload_n hx hb dX9_init_127 rfl (lv_at hl 1 rfl) ?_
  obtain ⟨hT367, hf⟩ := gt_inv hf
  obtain ⟨a368, hP369, hf⟩ := lp_inv hf
  refine r_getP C hw cf9 7 (by decide) rfl hT367 hP369 fl_X9_51 dX9_init_128 ?_
  refine lv_iload_n hx hb dX9_init_131 rfl (lv_at hl 0 rfl) ?_
  have lt370 := T_lt hw hT367 (by decide)
  obtain ⟨hT371, hf⟩ := gt_inv hf
  have lt372 := T_lt hw hT371 (by decide)
  obtain ⟨M373, n374, e375, en376, hf⟩ := nw_inv hf
  refine r_new C hw cf3 df3 e375 en376 kl_X9_49 in3 ii3 (Nat.le_of_ble_eq_true rfl) (Nat.le_of_ble_eq_true rfl) dX9_init_132 (fun ad378 H hk377 hw => ?_)
  rw [← hk377 x0 lt370] at hl
  rw [← hk377 a368 lt372]
  refine lv_dup hx hb dX9_init_135 rfl ?_
  have lt379 := T_lt hw (T_old e375 lt370 hT367) (by decide)
  have lt380 := T_lt hw (T_old e375 lt372 hT371) (by decide)
  have lt381 := T_lt hw (T_new e375 en376) (by decide)
  obtain ⟨⟨⟩, M382, hc383, hf⟩ := cl_inv hf
  refine fin_Va (run_I C hw mf_X3_init mj_X3_init ml_X9_60 (c_X3_init l G A ad378 hc383) (As := []) (rest := [.ref (ad378 n374), .int 4, .ref (ad378 a368)]) hl.1 rfl rfl (Nat.le_of_ble_eq_true rfl) ⟨rfl, rfl, Nat.le_of_ble_eq_true rfl, Nat.le_of_ble_eq_true rfl⟩ ⟨Nat.le_of_ble_eq_true rfl, Nat.le_of_ble_eq_true rfl⟩ dX9_init_136) hw (fun ad386 H locs hk385 hw => ?_)
  rw [← hk385 x0 lt379] at hl
  rw [← hk385 a368 lt380]
  rw [← hk385 n374 lt381]
  obtain ⟨mo387, hf⟩ := gd_inv hf
  obtain ⟨hT388, hf⟩ := gt_inv hf
  obtain ⟨hT389, hf⟩ := gt_inv hf
  obtain ⟨hg390, hf⟩ := gd_inv hf
  obtain ⟨M391, e392, hf⟩ := st_inv hf
  have g393 := sg_P e392
  refine r_aast C hw 7 cf3 rfl (by decide) (by decide) hT388 hT389 hg390 e392 dX9_init_139 (fun H locs hw => ?_)
  refine lv_iinc (v := 5) (lv' := [(1, .int 5), (0, .ref (ad386 x0))]) hx hb dX9_init_140 hl (k := 0) rfl (by decide) (by decide) rfl (fun ls hl => ?_)
  refine lv_goto (tgt := 122) hx hb dX9_init_143 (by decide) ?_
  refine lv_iload_n hx hb dX9_init_122 rfl (lv_at hl 0 rfl) ?_
  refine lv_iconst (v := 5) hx hb dX9_init_123 (by decide) ?_
  refine lv_icmp_ge (tgt := 146) hx hb dX9_init_124 (by decide) (fun _ => ?_) (fun hc => absurd (by decide) hc)
  refine W.widen (k := 113) (n := 1300) (Nat.le_of_ble_eq_true rfl) (Nat.le_of_ble_eq_true rfl) ?_
  exact e_vretA C hw (Ag.tr (Ag.tr (Ag.tr (Ag.tr (Ag.tr (Ag.tr (Ag.tr (Ag.tr (Ag.tr (Ag.tr (Ag.tr (Ag.tr (Ag.tr (Ag.tr (Ag.tr (Ag.tr (Ag.tr (Ag.tr (Ag.tr (Ag.tr (Ag.tr (Ag.tr (Ag.tr (Ag.tr (Ag.tr (Ag.tr (Ag.tr (Ag.tr (Ag.tr (Ag.tr (Ag.tr (Ag.tr (Ag.tr Ag.rf hk7 (Nat.le_refl _)) hk14 (Nat.le_trans (Nat.le_refl _) (N_new e5))) hk27 (N_of2 g21 (of_decide_eq_true mo16))) hk34 (Nat.le_trans (N_of2 g21 (of_decide_eq_true mo16)) (N_new e25))) hk47 (N_of2 g41 (of_decide_eq_true mo36))) hk54 (Nat.le_trans (N_of2 g41 (of_decide_eq_true mo36)) (N_new e45))) hk67 (N_of2 g61 (of_decide_eq_true mo56))) hk74 (Nat.le_trans (N_of2 g61 (of_decide_eq_true mo56)) (N_new e65))) hk87 (N_of2 g81 (of_decide_eq_true mo76))) hk94 (Nat.le_trans (N_of2 g81 (of_decide_eq_true mo76)) (N_new e85))) hk107 (N_of2 g101 (of_decide_eq_true mo96))) hk114 (Nat.le_trans (N_of2 g101 (of_decide_eq_true mo96)) (N_new e105))) hk127 (N_of2 g121 (of_decide_eq_true mo116))) hk137 (N_of2 g131 (Nat.le_trans (N_of2 g121 (of_decide_eq_true mo116)) (N_new e125)))) hk147 (N_of2 g141 (Nat.le_trans (N_of2 g131 (Nat.le_trans (N_of2 g121 (of_decide_eq_true mo116)) (N_new e125))) (N_new e135)))) hk161 (N_of2 g151 (Nat.le_trans (N_of2 g141 (Nat.le_trans (N_of2 g131 (Nat.le_trans (N_of2 g121 (of_decide_eq_true mo116)) (N_new e125))) (N_new e135))) (N_new e145)))) hk169 (Nat.le_trans (N_of2 g151 (Nat.le_trans (N_of2 g141 (Nat.le_trans (N_of2 g131 (Nat.le_trans (N_of2 g121 (of_decide_eq_true mo116)) (N_new e125))) (N_new e135))) (N_new e145))) (N_new e159))) hk188 (N_of2 g177 (of_decide_eq_true mo171))) hk196 (Nat.le_trans (N_of2 g177 (of_decide_eq_true mo171)) (N_new e186))) hk215 (N_of2 g204 (of_decide_eq_true mo198))) hk223 (Nat.le_trans (N_of2 g204 (of_decide_eq_true mo198)) (N_new e213))) hk242 (N_of2 g231 (of_decide_eq_true mo225))) hk250 (Nat.le_trans (N_of2 g231 (of_decide_eq_true mo225)) (N_new e240))) hk269 (N_of2 g258 (of_decide_eq_true mo252))) hk277 (Nat.le_trans (N_of2 g258 (of_decide_eq_true mo252)) (N_new e267))) hk296 (N_of2 g285 (of_decide_eq_true mo279))) hk304 (Nat.le_trans (N_of2 g285 (of_decide_eq_true mo279)) (N_new e294))) hk323 (N_of2 g312 (of_decide_eq_true mo306))) hk331 (Nat.le_trans (N_of2 g312 (of_decide_eq_true mo306)) (N_new e321))) hk350 (N_of2 g339 (of_decide_eq_true mo333))) hk358 (Nat.le_trans (N_of2 g339 (of_decide_eq_true mo333)) (N_new e348))) hk377 (N_of2 g366 (of_decide_eq_true mo360))) hk385 (Nat.le_trans (N_of2 g366 (of_decide_eq_true mo360)) (N_new e375))) hf dX9_init_146
/-! StorkVote$Text.<init>(II[I)V -/
abbrev rm_X7_init : Room := { frames := 1, cells := 0, slots := 0, locals := 21 }
def f_X7_init (M : Mem) (x0 : Nat) (x1 : Int32) (x2 : Int32) (x3 : Nat) : Option (Unit × Mem) := gt (mT M x0) 8 (st (setI M x0 0 x1) (fun M2 => st (setI M2 x0 1 x2) (fun M5 => gt (mT M5 x3) 20 (st (setP M5 x0 2 x3) (fun M9 => some ((), M9))))))
set_option maxHeartbeats 40000000 in
set_option maxRecDepth 100000 in
theorem c_X7_init (l : Launch) (G : Gd) (A : Nat → Prop) (ad : Nat → Nat) {M : Mem} {x0 : Nat} {x1 : Int32} {x2 : Int32} {x3 : Nat}  {M' : Mem} (hf : f_X7_init M x0 x1 x2 x3 = some ((), M')) : Ct l yX7_init cX7_init 4 none rm_X7_init [.ref (ad x0), .int x1, .int x2, .ref (ad x3)] G A ad M (QV G A ad M') 0 0 := by
  refine ct_start (by decide) (Nat.le_of_ble_eq_true rfl) ?_
  intro p e s m args below meth c ls C hin hw hl
  have C : Cx G A p s m args meth c RX7 cX7_init 4 none := C
  have hl : lv_has ls 4 [(0, .ref (ad x0)), (1, .int x1), (2, .int x2), (3, .ref (ad x3))] := hl
  obtain ⟨hx, hb, -⟩ := id C
  rw [f_X7_init] at hf
  refine lv_aload_n hx hb dX7_init_0 rfl (lv_at hl 0 rfl) ?_
  refine r_obj C hl.1 mk_X7_3 ob_i ob_c (Nat.le_of_ble_eq_true rfl) (Nat.le_of_ble_eq_true rfl) dX7_init_1 ?_
  refine lv_aload_n hx hb dX7_init_4 rfl (lv_at hl 0 rfl) ?_
  refine lv_iload_n hx hb dX7_init_5 rfl (lv_at hl 1 rfl) ?_
  obtain ⟨hT1, hf⟩ := gt_inv hf
  obtain ⟨M2, e3, hf⟩ := st_inv hf
  have g4 := sg_I e3
  refine r_putFI C (hin.trans rfl) hw cf7 0 (by decide) rfl hT1 e3 fk_X7_9 rfl rfl rfl rfl dX7_init_6 (fun H locs hw => ?_)
  refine lv_aload_n hx hb dX7_init_9 rfl (lv_at hl 0 rfl) ?_
  refine lv_iload_n hx hb dX7_init_10 rfl (lv_at hl 2 rfl) ?_
  obtain ⟨M5, e6, hf⟩ := st_inv hf
  have g7 := sg_I e6
  refine r_putFI C (hin.trans rfl) hw cf7 1 (by decide) rfl (T_of g4 hT1) e6 fk_X7_15 rfl rfl rfl rfl dX7_init_11 (fun H locs hw => ?_)
  refine lv_aload_n hx hb dX7_init_14 rfl (lv_at hl 0 rfl) ?_
  refine lv_aload_n hx hb dX7_init_15 rfl (lv_at hl 3 rfl) ?_
  obtain ⟨hT8, hf⟩ := gt_inv hf
  obtain ⟨M9, e10, hf⟩ := st_inv hf
  have g11 := sg_P e10
  refine r_putFP C (hin.trans rfl) hw cf7 2 (by decide) rfl (T_of g7 (T_of g4 hT1)) (T_ne hT8 (by decide)) e10 fk_X7_18 rfl rfl rfl rfl dX7_init_16 (fun H locs hw => ?_)
  refine W.widen (k := 0) (n := 0) (Nat.le_of_ble_eq_true rfl) (Nat.le_of_ble_eq_true rfl) ?_
  exact e_vret C hw hf dX7_init_19
/-! java/util/Arrays.copyOf([II)[I -/
abbrev rm_J7_copyOf_59c91 : Room := { frames := 1, cells := 1, slots := 96, locals := 26 }
def f_J7_copyOf_59c91 (M : Mem) (x0 : Nat) (x1 : Int32) : Option (Nat × Mem) := gt (mT M x0) 20 ((if x1 = (nI (mL M x0)) then none else gd ((decide (0 ≤ x1) && decide (x1.toNatClampNeg ≤ 96))) (nw M 20 x1.toNatClampNeg (fun M4 n5 => gd ((decide (0 ≤ (0 : Int32)) && decide (0 ≤ (0 : Int32)) && decide (0 ≤ (imin (nI (mL M4 x0)) x1)) && decide ((0 : Int32).toNatClampNeg + (imin (nI (mL M4 x0)) x1).toNatClampNeg ≤ mL M4 x0) && decide ((0 : Int32).toNatClampNeg + (imin (nI (mL M4 x0)) x1).toNatClampNeg ≤ mL M4 n5))) (st (setR M4 n5 (va_cpy (fun j => mI M4 x0 j) (fun j => mI M4 n5 j) (0 : Int32).toNatClampNeg (0 : Int32).toNatClampNeg (imin (nI (mL M4 x0)) x1).toNatClampNeg)) (fun M11 => some (n5, M11)))))))
set_option maxHeartbeats 40000000 in
set_option maxRecDepth 100000 in
theorem c_J7_copyOf_59c91 (l : Launch) (G : Gd) (A : Nat → Prop) (ad : Nat → Nat) {M : Mem} {x0 : Nat} {x1 : Int32}  {r : Nat} {M' : Mem} (hf : f_J7_copyOf_59c91 M x0 x1 = some (r, M')) : Ct l yJ7_copyOf_59c91 cJ7_copyOf_59c91 3 (some (.array .int)) rm_J7_copyOf_59c91 [.ref (ad x0), .int x1] G A ad M (QRa G A ad M r M') 1 96 := by
  refine ct_start (by decide) (Nat.le_of_ble_eq_true rfl) ?_
  intro p e s m args below meth c ls C hin hw hl
  have C : Cx G A p s m args meth c RJ7 cJ7_copyOf_59c91 3 (some (.array .int)) := C
  have hl : lv_has ls 3 [(0, .ref (ad x0)), (1, .int x1)] := hl
  obtain ⟨hx, hb, -⟩ := id C
  rw [f_J7_copyOf_59c91] at hf
  refine lv_iload_n hx hb dJ7_copyOf_59c91_0 rfl (lv_at hl 1 rfl) ?_
  refine lv_aload_n hx hb dJ7_copyOf_59c91_1 rfl (lv_at hl 0 rfl) ?_
  obtain ⟨hT1, hf⟩ := gt_inv hf
  refine r_alen C hw hT1 dJ7_copyOf_59c91_2 ?_
  refine lv_icmp_ne (tgt := 14) hx hb dJ7_copyOf_59c91_3 (by decide) (fun hc => ?_) (fun hc => ?_)
  · have hf := if_n hc hf
    refine lv_iload_n hx hb dJ7_copyOf_59c91_14 rfl (lv_at hl 1 rfl) ?_
    obtain ⟨hg2, hf⟩ := gd_inv hf
    simp only [Bool.and_eq_true, decide_eq_true_eq] at hg2
    have lt3 := T_lt hw hT1 (by decide)
    obtain ⟨M4, n5, e6, en7, hf⟩ := nw_inv hf
    refine r_newa (atype := .int) (ty := .int) C hw 0 rfl rfl (by decide) rfl e6 en7 ar_int (Int32.not_lt.mpr hg2.1) rfl (Nat.le_trans (Nat.mul_le_mul_right _ hg2.2) (Nat.le_of_ble_eq_true rfl)) (Nat.le_of_ble_eq_true rfl) (by have := hg2.2; show 0 + _ ≤ 96; omega) dJ7_copyOf_59c91_15 (fun ad9 H hk8 hw => ?_)
    refine W.widen (k := 1) (n := 96) (Nat.le_refl _) (by have := hg2.2; omega) ?_
    rw [← hk8 x0 lt3] at hl
    refine lv_astore_n (lv' := [(2, .ref (ad9 n5)), (0, .ref (ad9 x0)), (1, .int x1)]) hx hb dJ7_copyOf_59c91_17 rfl hl (by decide) rfl (fun ls hl => ?_)
    refine lv_aload_n hx hb dJ7_copyOf_59c91_18 rfl (lv_at hl 1 rfl) ?_
    refine lv_iconst (v := 0) hx hb dJ7_copyOf_59c91_19 (by decide) ?_
    refine lv_aload_n hx hb dJ7_copyOf_59c91_20 rfl (lv_at hl 0 rfl) ?_
    refine lv_iconst (v := 0) hx hb dJ7_copyOf_59c91_21 (by decide) ?_
    refine lv_aload_n hx hb dJ7_copyOf_59c91_22 rfl (lv_at hl 1 rfl) ?_
    refine r_alen C hw (T_old e6 lt3 hT1) dJ7_copyOf_59c91_23 ?_
    refine lv_iload_n hx hb dJ7_copyOf_59c91_24 rfl (lv_at hl 2 rfl) ?_
    refine r_min C hl.1 mk_J7_304 (Nat.le_of_ble_eq_true rfl) (Nat.le_of_ble_eq_true rfl) (Nat.le_of_ble_eq_true rfl) (Nat.le_of_ble_eq_true rfl) dJ7_copyOf_59c91_25 ?_
    obtain ⟨hg10, hf⟩ := gd_inv hf
    obtain ⟨M11, e12, hf⟩ := st_inv hf
    have g13 := sg_R e12
    refine r_copy C hw hl.1 (T_old e6 lt3 hT1) (T_new e6 en7) hg10 e12 mk_J7_150 cp_n cp_s cp_i (Nat.le_of_ble_eq_true rfl) (Nat.le_of_ble_eq_true rfl) dJ7_copyOf_59c91_28 (fun H locs hw => ?_)
    refine lv_aload_n hx hb dJ7_copyOf_59c91_31 rfl (lv_at hl 0 rfl) ?_
    refine W.widen (k := 1) (n := 96) (Nat.le_of_ble_eq_true rfl) (Nat.le_of_ble_eq_true rfl) ?_
    exact e_aretA C (Or.inr ⟨_, rfl⟩) hw (Ag.tr Ag.rf hk8 (Nat.le_refl _)) hf dJ7_copyOf_59c91_32
  · have hf := if_p hc hf
    refine lv_aload_n hx hb dJ7_copyOf_59c91_6 rfl (lv_at hl 0 rfl) ?_
    exact nomatch hf
/-! StorkVote$Reader.read()LStorkVote$Text; -/
abbrev rm_X1_read : Room := { frames := 2, cells := 2, slots := 99, locals := 48 }
def f_X1_read (M : Mem) (x0 : Nat) : Option (Nat × Mem) := gt (mT M x0) 2 (nw M 8 0 (fun M3 n4 => lp (mP M3 x0 0) (fun a9 => gt (mT M3 a9) 20 (cl (f_J7_copyOf_59c91 M3 a9 (mI M3 x0 1)) (fun r16 M14 => gd (decide (mN M ≤ mN M14)) (gt (mT M14 n4) 8 (gt (mT M14 r16) 20 (cl (f_X7_init M14 n4 (mI M3 x0 4) (mI M3 x0 5) r16) (fun _ M24 => gd (decide (mN M ≤ mN M24)) (some (n4, M24)))))))))))
set_option maxHeartbeats 40000000 in
set_option maxRecDepth 100000 in
theorem c_X1_read (l : Launch) (G : Gd) (A : Nat → Prop) (ad : Nat → Nat) {M : Mem} {x0 : Nat}  {r : Nat} {M' : Mem} (hf : f_X1_read M x0 = some (r, M')) : Ct l yX1_read cX1_read 1 (some (.object "StorkVote$Text")) rm_X1_read [.ref (ad x0)] G A ad M (QRa G A ad M r M') 2 99 := by
  refine ct_start (by decide) (Nat.le_of_ble_eq_true rfl) ?_
  intro p e s m args below meth c ls C hin hw hl
  have C : Cx G A p s m args meth c RX1 cX1_read 1 (some (.object "StorkVote$Text")) := C
  have hl : lv_has ls 1 [(0, .ref (ad x0))] := hl
  obtain ⟨hx, hb, -⟩ := id C
  rw [f_X1_read] at hf
  obtain ⟨hT1, hf⟩ := gt_inv hf
  have lt2 := T_lt hw hT1 (by decide)
  obtain ⟨M3, n4, e5, en6, hf⟩ := nw_inv hf
  refine r_new C hw cf7 df7 e5 en6 kl_X1_55 in7 ii7 (Nat.le_of_ble_eq_true rfl) (Nat.le_of_ble_eq_true rfl) dX1_read_0 (fun ad8 H hk7 hw => ?_)
  rw [← hk7 x0 lt2] at hl
  refine lv_dup hx hb dX1_read_3 rfl ?_
  refine lv_aload_n hx hb dX1_read_4 rfl (lv_at hl 0 rfl) ?_
  refine r_getI C hw cf1 4 (by decide) rfl (T_old e5 lt2 hT1) fl_X1_57 dX1_read_5 ?_
  refine lv_aload_n hx hb dX1_read_8 rfl (lv_at hl 0 rfl) ?_
  refine r_getI C hw cf1 5 (by decide) rfl (T_old e5 lt2 hT1) fl_X1_60 dX1_read_9 ?_
  refine lv_aload_n hx hb dX1_read_12 rfl (lv_at hl 0 rfl) ?_
  obtain ⟨a9, hP10, hf⟩ := lp_inv hf
  refine r_getP C hw cf1 0 (by decide) rfl (T_old e5 lt2 hT1) hP10 fl_X1_9 dX1_read_13 ?_
  refine lv_aload_n hx hb dX1_read_16 rfl (lv_at hl 0 rfl) ?_
  refine r_getI C hw cf1 1 (by decide) rfl (T_old e5 lt2 hT1) fl_X1_63 dX1_read_17 ?_
  have hl := lv_sub hl (l' := []) [] rfl
  have lt11 := T_lt hw (T_new e5 en6) (by decide)
  obtain ⟨hT12, hf⟩ := gt_inv hf
  have lt13 := T_lt hw hT12 (by decide)
  obtain ⟨r16, M14, hc15, hf⟩ := cl_inv hf
  refine fin_Ra (run_S C hw mf_J7_copyOf_59c91 ms_J7_copyOf_59c91 ml_X1_66 (c_J7_copyOf_59c91 l G A ad8 hc15) (As := [.ref (ad8 a9), .int (mI M3 x0 1)]) (rest := [.int (mI M3 x0 5), .int (mI M3 x0 4), .ref (ad8 n4), .ref (ad8 n4)]) hl.1 rfl rfl (Nat.le_of_ble_eq_true rfl) ⟨rfl, rfl, Nat.le_of_ble_eq_true rfl, Nat.le_of_ble_eq_true rfl⟩ ⟨Nat.le_of_ble_eq_true rfl, Nat.le_of_ble_eq_true rfl⟩ dX1_read_20) hw (fun ad18 H locs hk17 hw => ?_)
  rw [← hk17 n4 lt11]
  obtain ⟨mo19, hf⟩ := gd_inv hf
  obtain ⟨hT20, hf⟩ := gt_inv hf
  have lt21 := T_lt hw hT20 (by decide)
  obtain ⟨hT22, hf⟩ := gt_inv hf
  have lt23 := T_lt hw hT22 (by decide)
  obtain ⟨⟨⟩, M24, hc25, hf⟩ := cl_inv hf
  refine fin_V (run_I C hw mf_X7_init mj_X7_init ml_X1_72 (c_X7_init l G A ad18 hc25) (As := [.int (mI M3 x0 4), .int (mI M3 x0 5), .ref (ad18 r16)]) (rest := [.ref (ad18 n4)]) hl.1 rfl rfl (Nat.le_of_ble_eq_true rfl) ⟨rfl, rfl, Nat.le_of_ble_eq_true rfl, Nat.le_of_ble_eq_true rfl⟩ ⟨Nat.le_of_ble_eq_true rfl, Nat.le_of_ble_eq_true rfl⟩ dX1_read_23) hw (fun H locs hw => ?_)
  obtain ⟨mo29, hf⟩ := gd_inv hf
  refine W.widen (k := 2) (n := 99) (Nat.le_of_ble_eq_true rfl) (Nat.le_of_ble_eq_true rfl) ?_
  exact e_aretA C (Or.inl ⟨_, rfl⟩) hw (Ag.tr (Ag.tr Ag.rf hk7 (Nat.le_refl _)) hk17 (Nat.le_trans (Nat.le_refl _) (N_new e5))) hf dX1_read_26
/-! StorkVote.text()I -/
abbrev rm_X9_text : Room := { frames := 8, cells := 2, slots := 99, locals := 180 }
def f_X9_text (M : Mem) (x0 : Nat) : Option (Int32 × Mem) := gt (mT M x0) 10 (lp (mP M x0 5) (fun a2 => lp (mP M x0 4) (fun a4 => gt (mT M a2) 2 (cl (f_X1_fault M a2 a4) (fun r7 M6 => gd (decide (mN M ≤ mN M6)) (gt (mT M6 x0) 10 (lp (mP M6 x0 4) (fun a12 => gt (mT M6 a12) 7 (st (setI M6 a12 1 0) (fun M15 => (if r7 < 0 then lp (mP M15 x0 0) (fun a18 => gt (mT M15 a18) 9 ((if (mI M15 a18 8) < 14 then lp (mP M15 a18 7) (fun a21 => lp (mP M15 x0 5) (fun a23 => gt (mT M15 a21) 25 (gt (mT M15 a23) 2 (cl (f_X1_read M15 a23) (fun r32 M30 => gd (decide (mN M ≤ mN M30)) (gt (mT M30 a21) 25 (gt (mT M30 r32) 8 (gd (ib (mI M15 a18 8) (mL M30 a21)) (st (setX M30 a21 (mI M15 a18 8).toNatClampNeg r32) (fun M39 => gt (mT M39 x0) 10 (lp (mP M39 x0 0) (fun a43 => gt (mT M39 a43) 9 (st (setI M39 a43 8 ((mI M39 a43 8) + 1)) (fun M46 => some (((mI M46 a43 8) - 1), M46))))))))))))))) else some ((-1000000003), M15)))) else some (((-100) - r7), M15))))))))))))
set_option maxHeartbeats 40000000 in
set_option maxRecDepth 100000 in
theorem c_X9_text (l : Launch) (G : Gd) (A : Nat → Prop) (ad : Nat → Nat) {M : Mem} {x0 : Nat}  {r : Int32} {M' : Mem} (hf : f_X9_text M x0 = some (r, M')) : Ct l yX9_text cX9_text 2 (some .int) rm_X9_text [.ref (ad x0)] G A ad M (QIa G A ad M r M') 2 99 := by
  refine ct_start (by decide) (Nat.le_of_ble_eq_true rfl) ?_
  intro p e s m args below meth c ls C hin hw hl
  have C : Cx G A p s m args meth c RX9 cX9_text 2 (some .int) := C
  have hl : lv_has ls 2 [(0, .ref (ad x0))] := hl
  obtain ⟨hx, hb, -⟩ := id C
  rw [f_X9_text] at hf
  refine lv_aload_n hx hb dX9_text_0 rfl (lv_at hl 0 rfl) ?_
  obtain ⟨hT1, hf⟩ := gt_inv hf
  obtain ⟨a2, hP3, hf⟩ := lp_inv hf
  refine r_getP C hw cf9 5 (by decide) rfl hT1 hP3 fl_X9_39 dX9_text_1 ?_
  refine lv_aload_n hx hb dX9_text_4 rfl (lv_at hl 0 rfl) ?_
  obtain ⟨a4, hP5, hf⟩ := lp_inv hf
  refine r_getP C hw cf9 4 (by decide) rfl hT1 hP5 fl_X9_32 dX9_text_5 ?_
  obtain ⟨hT9, hf⟩ := gt_inv hf
  obtain ⟨r7, M6, hc8, hf⟩ := cl_inv hf
  refine fin_I (run_V C hw mf_X1_fault mv_X1_fault ml_X9_232 cf1 hT9 (c_X1_fault l G A ad hc8) (As := [.ref (ad a4)]) (rest := []) hl.1 rfl rfl (Nat.le_of_ble_eq_true rfl) ⟨rfl, rfl, Nat.le_of_ble_eq_true rfl, Nat.le_of_ble_eq_true rfl⟩ ⟨Nat.zero_le _, Nat.zero_le _⟩ dX9_text_8) hw (fun H locs hw => ?_)
  obtain ⟨mo10, hf⟩ := gd_inv hf
  refine lv_istore_n (lv' := [(1, .int r7), (0, .ref (ad x0))]) hx hb dX9_text_11 rfl hl (by decide) rfl (fun ls hl => ?_)
  refine lv_aload_n hx hb dX9_text_12 rfl (lv_at hl 1 rfl) ?_
  obtain ⟨hT11, hf⟩ := gt_inv hf
  obtain ⟨a12, hP13, hf⟩ := lp_inv hf
  refine r_getP C hw cf9 4 (by decide) rfl hT11 hP13 fl_X9_32 dX9_text_13 ?_
  refine lv_iconst (v := 0) hx hb dX9_text_16 (by decide) ?_
  obtain ⟨hT14, hf⟩ := gt_inv hf
  obtain ⟨M15, e16, hf⟩ := st_inv hf
  have g17 := sg_I e16
  refine r_putI C hw cf6 1 (by decide) rfl hT14 e16 fl_X9_224 rfl rfl rfl dX9_text_17 (fun H locs hw => ?_)
  refine lv_iload_n hx hb dX9_text_20 rfl (lv_at hl 0 rfl) ?_
  refine lv_if_lt (tgt := 29) hx hb dX9_text_21 (by decide) (fun hc => ?_) (fun hc => ?_)
  · have hf := if_p hc hf
    refine lv_aload_n hx hb dX9_text_29 rfl (lv_at hl 1 rfl) ?_
    obtain ⟨a18, hP19, hf⟩ := lp_inv hf
    refine r_getP C hw cf9 0 (by decide) rfl (T_of g17 hT11) hP19 fl_X9_10 dX9_text_30 ?_
    obtain ⟨hT20, hf⟩ := gt_inv hf
    refine r_getI C hw cf8 8 (by decide) rfl hT20 fl_X9_236 dX9_text_33 ?_
    refine lv_bipush (v := 14) hx hb dX9_text_36 (by decide) ?_
    refine lv_icmp_lt (tgt := 44) hx hb dX9_text_38 (by decide) (fun hc => ?_) (fun hc => ?_)
    · have hf := if_p hc hf
      refine lv_aload_n hx hb dX9_text_44 rfl (lv_at hl 1 rfl) ?_
      refine r_getP C hw cf9 0 (by decide) rfl (T_of g17 hT11) hP19 fl_X9_10 dX9_text_45 ?_
      obtain ⟨a21, hP22, hf⟩ := lp_inv hf
      refine r_getP C hw cf8 7 (by decide) rfl hT20 hP22 fl_X9_239 dX9_text_48 ?_
      refine lv_aload_n hx hb dX9_text_51 rfl (lv_at hl 1 rfl) ?_
      refine r_getP C hw cf9 0 (by decide) rfl (T_of g17 hT11) hP19 fl_X9_10 dX9_text_52 ?_
      refine r_getI C hw cf8 8 (by decide) rfl hT20 fl_X9_236 dX9_text_55 ?_
      refine lv_aload_n hx hb dX9_text_58 rfl (lv_at hl 1 rfl) ?_
      obtain ⟨a23, hP24, hf⟩ := lp_inv hf
      refine r_getP C hw cf9 5 (by decide) rfl (T_of g17 hT11) hP24 fl_X9_39 dX9_text_59 ?_
      have hl := lv_sub hl (l' := [(0, .ref (ad x0))]) [1] rfl
      have lt25 := T_lt hw (T_of g17 hT11) (by decide)
      obtain ⟨hT26, hf⟩ := gt_inv hf
      have lt27 := T_lt hw hT26 (by decide)
      obtain ⟨hT28, hf⟩ := gt_inv hf
      have lt29 := T_lt hw hT28 (by decide)
      obtain ⟨r32, M30, hc31, hf⟩ := cl_inv hf
      refine fin_Ra (run_V C hw mf_X1_read mv_X1_read ml_X9_243 cf1 hT28 (c_X1_read l G A ad hc31) (As := []) (rest := [.int (mI M15 a18 8), .ref (ad a21)]) hl.1 rfl rfl (Nat.le_of_ble_eq_true rfl) ⟨rfl, rfl, Nat.le_of_ble_eq_true rfl, Nat.le_of_ble_eq_true rfl⟩ ⟨Nat.le_of_ble_eq_true rfl, Nat.le_of_ble_eq_true rfl⟩ dX9_text_62) hw (fun ad34 H locs hk33 hw => ?_)
      rw [← hk33 x0 lt25] at hl
      rw [← hk33 a21 lt27]
      obtain ⟨mo35, hf⟩ := gd_inv hf
      obtain ⟨hT36, hf⟩ := gt_inv hf
      obtain ⟨hT37, hf⟩ := gt_inv hf
      obtain ⟨hg38, hf⟩ := gd_inv hf
      obtain ⟨M39, e40, hf⟩ := st_inv hf
      have g41 := sg_X e40
      refine r_xast C hw hT36 hT37 hg38 e40 dX9_text_65 (fun H locs hw => ?_)
      refine lv_aload_n hx hb dX9_text_66 rfl (lv_at hl 0 rfl) ?_
      obtain ⟨hT42, hf⟩ := gt_inv hf
      obtain ⟨a43, hP44, hf⟩ := lp_inv hf
      refine r_getP C hw cf9 0 (by decide) rfl hT42 hP44 fl_X9_10 dX9_text_67 ?_
      refine lv_dup hx hb dX9_text_70 rfl ?_
      obtain ⟨hT45, hf⟩ := gt_inv hf
      refine r_getI C hw cf8 8 (by decide) rfl hT45 fl_X9_236 dX9_text_71 ?_
      refine lv_iconst (v := 1) hx hb dX9_text_74 (by decide) ?_
      refine lv_iadd hx hb dX9_text_75 ?_
      obtain ⟨M46, e47, hf⟩ := st_inv hf
      have g48 := sg_I e47
      refine r_putI C hw cf8 8 (by decide) rfl hT45 e47 fl_X9_236 rfl rfl rfl dX9_text_76 (fun H locs hw => ?_)
      refine lv_aload_n hx hb dX9_text_79 rfl (lv_at hl 0 rfl) ?_
      refine r_getP C hw cf9 0 (by decide) rfl (T_of g48 hT42) (P_of g48 hP44) fl_X9_10 dX9_text_80 ?_
      refine r_getI C hw cf8 8 (by decide) rfl (T_of g48 hT45) fl_X9_236 dX9_text_83 ?_
      refine lv_iconst (v := 1) hx hb dX9_text_86 (by decide) ?_
      refine lv_isub hx hb dX9_text_87 ?_
      refine W.widen (k := 2) (n := 99) (Nat.le_of_ble_eq_true rfl) (Nat.le_of_ble_eq_true rfl) ?_
      exact e_iretA C hw (Ag.tr Ag.rf hk33 (N_of1 g17 (of_decide_eq_true mo10))) hf dX9_text_88
    · have hf := if_n hc hf
      refine lv_ldc hx hb C.2.2.2.1 (C.2.2.2.2.1 _ kc_X9_227) dX9_text_41 ?_
      refine W.widen (k := 2) (n := 99) (Nat.le_of_ble_eq_true rfl) (Nat.le_of_ble_eq_true rfl) ?_
      exact e_iretA C hw Ag.rf hf dX9_text_43
  · have hf := if_n hc hf
    refine lv_bipush (v := (-100)) hx hb dX9_text_24 (by decide) ?_
    refine lv_iload_n hx hb dX9_text_26 rfl (lv_at hl 0 rfl) ?_
    refine lv_isub hx hb dX9_text_27 ?_
    refine W.widen (k := 2) (n := 99) (Nat.le_of_ble_eq_true rfl) (Nat.le_of_ble_eq_true rfl) ?_
    exact e_iretA C hw Ag.rf hf dX9_text_28
