/-! StorkVoteModel.textTold(II)I -/
abbrev rm_X10_textTold : Room := { frames := 1, cells := 0, slots := 0, locals := 22 }
def f_X10_textTold (M : Mem) (x0 : Nat) (x1 : Int32) (x2 : Int32) : Option (Int32 × Mem) := gt (mT M x0) 11 (lp (mP M x0 0) (fun a2 => gt (mT M a2) 20 (gd (ib 7 (mL M a2)) (cl (f_X10_in M x1 0 ((mI M a2 (7 : Int32).toNatClampNeg) - 1)) (fun r7 M6 => (if r7 = 0 then some ((-1000000001), M6) else cl (f_X10_in M6 x2 0 1) (fun r10 M9 => (if r10 = 0 then some ((-1000000001), M9) else (if x2 = 0 then gt (mT M9 x0) 11 (lp (mP M9 x0 0) (fun a18 => gt (mT M9 a18) 20 (gd (ib (70 + (2 * x1)) (mL M9 a18)) (some (((mI M9 a18 (70 + (2 * x1)).toNatClampNeg) / 1000), M9))))) else gt (mT M9 x0) 11 (lp (mP M9 x0 0) (fun a13 => gt (mT M9 a13) 20 (gd (ib ((70 + (2 * x1)) + 1) (mL M9 a13)) (some ((mI M9 a13 ((70 + (2 * x1)) + 1).toNatClampNeg), M9))))))))))))))
set_option maxHeartbeats 4000000 in
set_option maxRecDepth 100000 in
theorem c_X10_textTold (l : Launch) (G : Gd) (A : Nat → Prop) (ad : Nat → Nat) {M : Mem} {x0 : Nat} {x1 : Int32} {x2 : Int32}  {r : Int32} {M' : Mem} (hf : f_X10_textTold M x0 x1 x2 = some (r, M')) : Ct l yX10_textTold cX10_textTold 3 (some .int) rm_X10_textTold [.ref (ad x0), .int x1, .int x2] G A ad M (QI G A ad r M') 0 0 := by
  refine ct_start (by decide) (Nat.le_of_ble_eq_true rfl) ?_
  intro p e s m args below meth c ls C hin hw hl
  have C : Cx G A p s m args meth c RX10 cX10_textTold 3 (some .int) := C
  have hl : lv_has ls 3 [(0, .ref (ad x0)), (1, .int x1), (2, .int x2)] := hl
  obtain ⟨hx, hb, -⟩ := id C
  rw [f_X10_textTold] at hf
  refine lv_iload_n hx hb dX10_textTold_0 rfl (lv_at hl 1 rfl) ?_
  refine lv_iconst (v := 0) hx hb dX10_textTold_1 (by decide) ?_
  refine lv_aload_n hx hb dX10_textTold_2 rfl (lv_at hl 0 rfl) ?_
  obtain ⟨hT1, hf⟩ := gt_inv hf
  obtain ⟨a2, hP3, hf⟩ := lp_inv hf
  refine r_getP C hw cf10 0 (by decide) rfl hT1 hP3 fl_X10_9 dX10_textTold_3 ?_
  refine lv_bipush (v := 7) hx hb dX10_textTold_6 (by decide) ?_
  obtain ⟨hT4, hf⟩ := gt_inv hf
  obtain ⟨hg5, hf⟩ := gd_inv hf
  refine r_iald C hw hT4 hg5 dX10_textTold_8 ?_
  refine lv_iconst (v := 1) hx hb dX10_textTold_9 (by decide) ?_
  refine lv_isub hx hb dX10_textTold_10 ?_
  obtain ⟨r7, M6, hc8, hf⟩ := cl_inv hf
  refine fin_I (run_S C hw mf_X10_in ms_X10_in ml_X10_89 (c_X10_in l G A ad hc8) (As := [.int x1, .int 0, .int ((mI M a2 (7 : Int32).toNatClampNeg) - 1)]) (rest := []) hl.1 rfl rfl (Nat.le_of_ble_eq_true rfl) ⟨rfl, rfl, Nat.le_of_ble_eq_true rfl, Nat.le_of_ble_eq_true rfl⟩ ⟨Nat.zero_le _, Nat.zero_le _⟩ dX10_textTold_11) hw (fun H locs hw => ?_)
  refine lv_if_eq (tgt := 26) hx hb dX10_textTold_14 (by decide) (fun hc => ?_) (fun hc => ?_)
  · have hf := if_p hc hf
    refine lv_ldc hx hb C.2.2.2.1 (C.2.2.2.2.1 _ kc_X10_97) dX10_textTold_26 ?_
    exact e_iret C hw hf dX10_textTold_28
  · have hf := if_n hc hf
    refine lv_iload_n hx hb dX10_textTold_17 rfl (lv_at hl 2 rfl) ?_
    refine lv_iconst (v := 0) hx hb dX10_textTold_18 (by decide) ?_
    refine lv_iconst (v := 1) hx hb dX10_textTold_19 (by decide) ?_
    obtain ⟨r10, M9, hc11, hf⟩ := cl_inv hf
    refine fin_I (run_S C hw mf_X10_in ms_X10_in ml_X10_89 (c_X10_in l G A ad hc11) (As := [.int x2, .int 0, .int 1]) (rest := []) hl.1 rfl rfl (Nat.le_of_ble_eq_true rfl) ⟨rfl, rfl, Nat.le_of_ble_eq_true rfl, Nat.le_of_ble_eq_true rfl⟩ ⟨Nat.zero_le _, Nat.zero_le _⟩ dX10_textTold_20) hw (fun H locs hw => ?_)
    refine lv_if_ne (tgt := 29) hx hb dX10_textTold_23 (by decide) (fun hc => ?_) (fun hc => ?_)
    · have hf := if_n hc hf
      refine lv_iload_n hx hb dX10_textTold_29 rfl (lv_at hl 2 rfl) ?_
      refine lv_if_ne (tgt := 51) hx hb dX10_textTold_30 (by decide) (fun hc => ?_) (fun hc => ?_)
      · have hf := if_n hc hf
        refine lv_aload_n hx hb dX10_textTold_51 rfl (lv_at hl 0 rfl) ?_
        obtain ⟨hT12, hf⟩ := gt_inv hf
        obtain ⟨a13, hP14, hf⟩ := lp_inv hf
        refine r_getP C hw cf10 0 (by decide) rfl hT12 hP14 fl_X10_9 dX10_textTold_52 ?_
        refine lv_bipush (v := 70) hx hb dX10_textTold_55 (by decide) ?_
        refine lv_iconst (v := 2) hx hb dX10_textTold_57 (by decide) ?_
        refine lv_iload_n hx hb dX10_textTold_58 rfl (lv_at hl 1 rfl) ?_
        refine lv_imul hx hb dX10_textTold_59 ?_
        refine lv_iadd hx hb dX10_textTold_60 ?_
        refine lv_iconst (v := 1) hx hb dX10_textTold_61 (by decide) ?_
        refine lv_iadd hx hb dX10_textTold_62 ?_
        obtain ⟨hT15, hf⟩ := gt_inv hf
        obtain ⟨hg16, hf⟩ := gd_inv hf
        refine r_iald C hw hT15 hg16 dX10_textTold_63 ?_
        exact e_iret C hw hf dX10_textTold_64
      · have hf := if_p hc hf
        refine lv_aload_n hx hb dX10_textTold_33 rfl (lv_at hl 0 rfl) ?_
        obtain ⟨hT17, hf⟩ := gt_inv hf
        obtain ⟨a18, hP19, hf⟩ := lp_inv hf
        refine r_getP C hw cf10 0 (by decide) rfl hT17 hP19 fl_X10_9 dX10_textTold_34 ?_
        refine lv_bipush (v := 70) hx hb dX10_textTold_37 (by decide) ?_
        refine lv_iconst (v := 2) hx hb dX10_textTold_39 (by decide) ?_
        refine lv_iload_n hx hb dX10_textTold_40 rfl (lv_at hl 1 rfl) ?_
        refine lv_imul hx hb dX10_textTold_41 ?_
        refine lv_iadd hx hb dX10_textTold_42 ?_
        obtain ⟨hT20, hf⟩ := gt_inv hf
        obtain ⟨hg21, hf⟩ := gd_inv hf
        refine r_iald C hw hT20 hg21 dX10_textTold_43 ?_
        refine lv_sipush (v := 1000) hx hb dX10_textTold_44 (by decide) ?_
        refine lv_idiv hx hb dX10_textTold_47 (by decide) ?_
        refine lv_goto (tgt := 64) hx hb dX10_textTold_48 (by decide) ?_
        exact e_iret C hw hf dX10_textTold_64
    · have hf := if_p hc hf
      refine lv_ldc hx hb C.2.2.2.1 (C.2.2.2.2.1 _ kc_X10_97) dX10_textTold_26 ?_
      exact e_iret C hw hf dX10_textTold_28
/-! StorkVoteModel.why(I)I -/
abbrev rm_X10_why : Room := { frames := 1, cells := 0, slots := 0, locals := 22 }
def f_X10_why (M : Mem) (x0 : Nat) (x1 : Int32) : Option (Int32 × Mem) := cl (f_X10_in M x1 0 2) (fun r2 M1 => (if r2 = 0 then some ((-1000000001), M1) else gt (mT M1 x0) 11 (cl (f_X10_counts M1 x0 x1) (fun r5 M4 => (if 0 ≤ r5 then some (r5, M4) else some ((-1000000005), M4))))))
set_option maxHeartbeats 4000000 in
set_option maxRecDepth 100000 in
theorem c_X10_why (l : Launch) (G : Gd) (A : Nat → Prop) (ad : Nat → Nat) {M : Mem} {x0 : Nat} {x1 : Int32}  {r : Int32} {M' : Mem} (hf : f_X10_why M x0 x1 = some (r, M')) : Ct l yX10_why cX10_why 3 (some .int) rm_X10_why [.ref (ad x0), .int x1] G A ad M (QI G A ad r M') 0 0 := by
  refine ct_start (by decide) (Nat.le_of_ble_eq_true rfl) ?_
  intro p e s m args below meth c ls C hin hw hl
  have C : Cx G A p s m args meth c RX10 cX10_why 3 (some .int) := C
  have hl : lv_has ls 3 [(0, .ref (ad x0)), (1, .int x1)] := hl
  obtain ⟨hx, hb, -⟩ := id C
  rw [f_X10_why] at hf
  refine lv_iload_n hx hb dX10_why_0 rfl (lv_at hl 1 rfl) ?_
  refine lv_iconst (v := 0) hx hb dX10_why_1 (by decide) ?_
  refine lv_iconst (v := 2) hx hb dX10_why_2 (by decide) ?_
  obtain ⟨r2, M1, hc3, hf⟩ := cl_inv hf
  refine fin_I (run_S C hw mf_X10_in ms_X10_in ml_X10_89 (c_X10_in l G A ad hc3) (As := [.int x1, .int 0, .int 2]) (rest := []) hl.1 rfl rfl (Nat.le_of_ble_eq_true rfl) ⟨rfl, rfl, Nat.le_of_ble_eq_true rfl, Nat.le_of_ble_eq_true rfl⟩ ⟨Nat.zero_le _, Nat.zero_le _⟩ dX10_why_3) hw (fun H locs hw => ?_)
  refine lv_if_ne (tgt := 12) hx hb dX10_why_6 (by decide) (fun hc => ?_) (fun hc => ?_)
  · have hf := if_n hc hf
    refine lv_aload_n hx hb dX10_why_12 rfl (lv_at hl 0 rfl) ?_
    refine lv_iload_n hx hb dX10_why_13 rfl (lv_at hl 1 rfl) ?_
    obtain ⟨hT7, hf⟩ := gt_inv hf
    obtain ⟨r5, M4, hc6, hf⟩ := cl_inv hf
    refine fin_I (run_V C hw mf_X10_counts mv_X10_counts ml_X10_134 cf10 hT7 (c_X10_counts l G A ad hc6) (As := [.int x1]) (rest := []) hl.1 rfl rfl (Nat.le_of_ble_eq_true rfl) ⟨rfl, rfl, Nat.le_of_ble_eq_true rfl, Nat.le_of_ble_eq_true rfl⟩ ⟨Nat.zero_le _, Nat.zero_le _⟩ dX10_why_14) hw (fun H locs hw => ?_)
    refine lv_istore_n (lv' := [(2, .int r5), (0, .ref (ad x0)), (1, .int x1)]) hx hb dX10_why_17 rfl hl (by decide) rfl (fun ls hl => ?_)
    refine lv_iload_n hx hb dX10_why_18 rfl (lv_at hl 0 rfl) ?_
    refine lv_if_ge (tgt := 27) hx hb dX10_why_19 (by decide) (fun hc => ?_) (fun hc => ?_)
    · have hf := if_p hc hf
      refine lv_iload_n hx hb dX10_why_27 rfl (lv_at hl 0 rfl) ?_
      exact e_iret C hw hf dX10_why_28
    · have hf := if_n hc hf
      refine lv_ldc hx hb C.2.2.2.1 (C.2.2.2.2.1 _ kc_X10_88) dX10_why_22 ?_
      refine lv_goto (tgt := 28) hx hb dX10_why_24 (by decide) ?_
      exact e_iret C hw hf dX10_why_28
  · have hf := if_p hc hf
    refine lv_ldc hx hb C.2.2.2.1 (C.2.2.2.2.1 _ kc_X10_97) dX10_why_9 ?_
    exact e_iret C hw hf dX10_why_11
/-! StorkVoteModel.isSlot(I)Z -/
abbrev rm_X10_isSlot : Room := { frames := 1, cells := 0, slots := 0, locals := 22 }
def f_X10_isSlot (M : Mem) (x0 : Int32) : Option (Int32 × Mem) := cl (f_X10_in M x0 0 4) (fun r2 M1 => gd (isB r2) (some (r2, M1)))
set_option maxHeartbeats 4000000 in
set_option maxRecDepth 100000 in
theorem c_X10_isSlot (l : Launch) (G : Gd) (A : Nat → Prop) (ad : Nat → Nat) {M : Mem} {x0 : Int32}  {r : Int32} {M' : Mem} (hf : f_X10_isSlot M x0 = some (r, M')) : Ct l yX10_isSlot cX10_isSlot 1 (some .boolean) rm_X10_isSlot [.int x0] G A ad M (QI G A ad r M') 0 0 := by
  refine ct_start (by decide) (Nat.le_of_ble_eq_true rfl) ?_
  intro p e s m args below meth c ls C hin hw hl
  have C : Cx G A p s m args meth c RX10 cX10_isSlot 1 (some .boolean) := C
  have hl : lv_has ls 1 [(0, .int x0)] := hl
  obtain ⟨hx, hb, -⟩ := id C
  rw [f_X10_isSlot] at hf
  refine lv_iload_n hx hb dX10_isSlot_0 rfl (lv_at hl 0 rfl) ?_
  refine lv_iconst (v := 0) hx hb dX10_isSlot_1 (by decide) ?_
  refine lv_iconst (v := 4) hx hb dX10_isSlot_2 (by decide) ?_
  obtain ⟨r2, M1, hc3, hf⟩ := cl_inv hf
  refine fin_I (run_S C hw mf_X10_in ms_X10_in ml_X10_89 (c_X10_in l G A ad hc3) (As := [.int x0, .int 0, .int 4]) (rest := []) hl.1 rfl rfl (Nat.le_of_ble_eq_true rfl) ⟨rfl, rfl, Nat.le_of_ble_eq_true rfl, Nat.le_of_ble_eq_true rfl⟩ ⟨Nat.zero_le _, Nat.zero_le _⟩ dX10_isSlot_3) hw (fun H locs hw => ?_)
  obtain ⟨hg4, hf⟩ := gd_inv hf
  exact e_zret C hw hg4 hf dX10_isSlot_6
/-! StorkVoteModel.sheet(III)I -/
abbrev rm_X10_sheet : Room := { frames := 2, cells := 0, slots := 0, locals := 42 }
def f_X10_sheet_66 : Nat → Mem → Nat → Int32 → Int32 → Option (Int32 × Mem)
  | 0, _, _, _, _ => none
  | n + 1, M, x0, x1, x4 => (if 24 ≤ x4 then gt (mT M x0) 11 (lp (mP M x0 28) (fun a2 => gt (mT M a2) 20 (gd (ib x1 (mL M a2)) (some ((mI M a2 x1.toNatClampNeg), M))))) else gt (mT M x0) 11 (lp (mP M x0 29) (fun a7 => gt (mT M a7) 20 (gd (ib ((24 * x1) + x4) (mL M a7)) (st (setI M a7 ((24 * x1) + x4).toNatClampNeg 0) (fun M11 => f_X10_sheet_66 n M11 x0 x1 (x4 + 1)))))))
set_option maxHeartbeats 4000000 in
set_option maxRecDepth 100000 in
theorem t_X10_sheet_66 {l : Launch} {p : Program} {e : Env} {s : State} {m : MethodId} {args : Array Value} {below : List Frame} {meth : Method} {c : Code} {G : Gd} {A : Nat → Prop} {ad : Nat → Nat} (C : Cx G A p s m args meth c RX10 cX10_sheet 5 (some .int)) {r : Int32} {M' : Mem} : ∀ (n : Nat) (M : Mem) (x0 : Nat) (x1 : Int32) (x4 : Int32) (H : Heap) (locs : List Loc) (ls : Array Slot), f_X10_sheet_66  n M x0 x1 x4 = some (r, M') → Wd G A ad s.heap M H locs → lv_has ls 5 [(0, .ref (ad x0)), (1, .int x1), (4, .int x4)] → W p l e rm_X10_sheet s m args below meth c H locs 0 0 (MQ below (QI G A ad r M') args s 0 0 A) (F0 m 66 ls []) := by
  obtain ⟨hx, hb, -⟩ := id C
  intro n
  induction n with
  | zero =>
    intro M x0 x1 x4 H locs ls hf
    rw [f_X10_sheet_66] at hf
    exact absurd hf (fun h => nomatch h)
  | succ n ih =>
    intro M x0 x1 x4 H locs ls hf hw hl
    rw [f_X10_sheet_66] at hf
    refine lv_iload hx hb dX10_sheet_66 (lv_at hl 2 rfl) ?_
    refine lv_bipush (v := 24) hx hb dX10_sheet_68 (by decide) ?_
    refine lv_icmp_ge (tgt := 92) hx hb dX10_sheet_70 (by decide) (fun hc => ?_) (fun hc => ?_)
    · have hf := if_p hc hf
      refine lv_aload_n hx hb dX10_sheet_92 rfl (lv_at hl 0 rfl) ?_
      obtain ⟨hT1, hf⟩ := gt_inv hf
      obtain ⟨a2, hP3, hf⟩ := lp_inv hf
      refine r_getP C hw cf10 28 (by decide) rfl hT1 hP3 fl_X10_64 dX10_sheet_93 ?_
      refine lv_iload_n hx hb dX10_sheet_96 rfl (lv_at hl 1 rfl) ?_
      obtain ⟨hT4, hf⟩ := gt_inv hf
      obtain ⟨hg5, hf⟩ := gd_inv hf
      refine r_iald C hw hT4 hg5 dX10_sheet_97 ?_
      exact e_iret C hw hf dX10_sheet_98
    · have hf := if_n hc hf
      refine lv_aload_n hx hb dX10_sheet_73 rfl (lv_at hl 0 rfl) ?_
      obtain ⟨hT6, hf⟩ := gt_inv hf
      obtain ⟨a7, hP8, hf⟩ := lp_inv hf
      refine r_getP C hw cf10 29 (by decide) rfl hT6 hP8 fl_X10_67 dX10_sheet_74 ?_
      refine lv_bipush (v := 24) hx hb dX10_sheet_77 (by decide) ?_
      refine lv_iload_n hx hb dX10_sheet_79 rfl (lv_at hl 1 rfl) ?_
      refine lv_imul hx hb dX10_sheet_80 ?_
      refine lv_iload hx hb dX10_sheet_81 (lv_at hl 2 rfl) ?_
      refine lv_iadd hx hb dX10_sheet_83 ?_
      refine lv_iconst (v := 0) hx hb dX10_sheet_84 (by decide) ?_
      obtain ⟨hT9, hf⟩ := gt_inv hf
      obtain ⟨hg10, hf⟩ := gd_inv hf
      obtain ⟨M11, e12, hf⟩ := st_inv hf
      have g13 := sg_I e12
      refine r_iast C hw hT9 hg10 e12 dX10_sheet_85 (fun H locs hw => ?_)
      refine lv_iinc (v := (x4 + 1)) (lv' := [(4, .int (x4 + 1)), (0, .ref (ad x0)), (1, .int x1)]) hx hb dX10_sheet_86 hl (k := 2) rfl rfl (by decide) rfl (fun ls hl => ?_)
      refine lv_goto (tgt := 66) hx hb dX10_sheet_89 (by decide) ?_
      exact ih M11 x0 x1 (x4 + 1) _ _ _ hf hw (lv_sub hl [1, 2, 0] rfl)
def f_X10_sheet_62 (M : Mem) (x0 : Nat) (x1 : Int32) (s0 : Nat) (s1 : Int32) (s2 : Int32) : Option (Int32 × Mem) := gt (mT M s0) 20 (gd (ib s1 (mL M s0)) (st (setI M s0 s1.toNatClampNeg s2) (fun M3 => f_X10_sheet_66 FU M3 x0 x1 0)))
set_option maxHeartbeats 4000000 in
set_option maxRecDepth 100000 in
theorem t_X10_sheet_62 {l : Launch} {p : Program} {e : Env} {s : State} {m : MethodId} {args : Array Value} {below : List Frame} {meth : Method} {c : Code} {G : Gd} {A : Nat → Prop} {ad : Nat → Nat} (C : Cx G A p s m args meth c RX10 cX10_sheet 5 (some .int)) {r : Int32} {M' : Mem} : ∀ (M : Mem) (x0 : Nat) (x1 : Int32) (s0 : Nat) (s1 : Int32) (s2 : Int32) (H : Heap) (locs : List Loc) (ls : Array Slot), f_X10_sheet_62  M x0 x1 s0 s1 s2 = some (r, M') → Wd G A ad s.heap M H locs → lv_has ls 5 [(0, .ref (ad x0)), (1, .int x1)] → W p l e rm_X10_sheet s m args below meth c H locs 0 0 (MQ below (QI G A ad r M') args s 0 0 A) (F0 m 62 ls [.int s2, .int s1, .ref (ad s0)]) := by
  obtain ⟨hx, hb, -⟩ := id C
  intro M x0 x1 s0 s1 s2 H locs ls hf hw hl
  rw [f_X10_sheet_62] at hf
  obtain ⟨hT1, hf⟩ := gt_inv hf
  obtain ⟨hg2, hf⟩ := gd_inv hf
  obtain ⟨M3, e4, hf⟩ := st_inv hf
  have g5 := sg_I e4
  refine r_iast C hw hT1 hg2 e4 dX10_sheet_62 (fun H locs hw => ?_)
  refine lv_iconst (v := 0) hx hb dX10_sheet_63 (by decide) ?_
  refine lv_istore (lv' := [(4, .int 0), (0, .ref (ad x0)), (1, .int x1)]) hx hb dX10_sheet_64 hl (by decide) rfl (fun ls hl => ?_)
  exact t_X10_sheet_66 C FU M3 x0 x1 0 _ _ _ hf hw (lv_sub hl [1, 2, 0] rfl)
def f_X10_sheet_41 (M : Mem) (x0 : Nat) (x1 : Int32) (x2 : Int32) (x3 : Int32) : Option (Int32 × Mem) := gt (mT M x0) 11 (lp (mP M x0 27) (fun a2 => gt (mT M a2) 20 (gd (ib x1 (mL M a2)) (st (setI M a2 x1.toNatClampNeg x2) (fun M6 => lp (mP M6 x0 28) (fun a9 => (if 0 ≤ x2 then f_X10_sheet_62 M6 x0 x1 a9 x1 x3 else f_X10_sheet_62 M6 x0 x1 a9 x1 0)))))))
set_option maxHeartbeats 4000000 in
set_option maxRecDepth 100000 in
theorem t_X10_sheet_41 {l : Launch} {p : Program} {e : Env} {s : State} {m : MethodId} {args : Array Value} {below : List Frame} {meth : Method} {c : Code} {G : Gd} {A : Nat → Prop} {ad : Nat → Nat} (C : Cx G A p s m args meth c RX10 cX10_sheet 5 (some .int)) {r : Int32} {M' : Mem} : ∀ (M : Mem) (x0 : Nat) (x1 : Int32) (x2 : Int32) (x3 : Int32) (H : Heap) (locs : List Loc) (ls : Array Slot), f_X10_sheet_41  M x0 x1 x2 x3 = some (r, M') → Wd G A ad s.heap M H locs → lv_has ls 5 [(0, .ref (ad x0)), (1, .int x1), (2, .int x2), (3, .int x3)] → W p l e rm_X10_sheet s m args below meth c H locs 0 0 (MQ below (QI G A ad r M') args s 0 0 A) (F0 m 41 ls []) := by
  obtain ⟨hx, hb, -⟩ := id C
  intro M x0 x1 x2 x3 H locs ls hf hw hl
  rw [f_X10_sheet_41] at hf
  refine lv_aload_n hx hb dX10_sheet_41 rfl (lv_at hl 0 rfl) ?_
  obtain ⟨hT1, hf⟩ := gt_inv hf
  obtain ⟨a2, hP3, hf⟩ := lp_inv hf
  refine r_getP C hw cf10 27 (by decide) rfl hT1 hP3 fl_X10_61 dX10_sheet_42 ?_
  refine lv_iload_n hx hb dX10_sheet_45 rfl (lv_at hl 1 rfl) ?_
  refine lv_iload_n hx hb dX10_sheet_46 rfl (lv_at hl 2 rfl) ?_
  obtain ⟨hT4, hf⟩ := gt_inv hf
  obtain ⟨hg5, hf⟩ := gd_inv hf
  obtain ⟨M6, e7, hf⟩ := st_inv hf
  have g8 := sg_I e7
  refine r_iast C hw hT4 hg5 e7 dX10_sheet_47 (fun H locs hw => ?_)
  refine lv_aload_n hx hb dX10_sheet_48 rfl (lv_at hl 0 rfl) ?_
  obtain ⟨a9, hP10, hf⟩ := lp_inv hf
  refine r_getP C hw cf10 28 (by decide) rfl (T_of g8 hT1) hP10 fl_X10_64 dX10_sheet_49 ?_
  refine lv_iload_n hx hb dX10_sheet_52 rfl (lv_at hl 1 rfl) ?_
  refine lv_iload_n hx hb dX10_sheet_53 rfl (lv_at hl 2 rfl) ?_
  refine lv_if_ge (tgt := 61) hx hb dX10_sheet_54 (by decide) (fun hc => ?_) (fun hc => ?_)
  · have hf := if_p hc hf
    refine lv_iload_n hx hb dX10_sheet_61 rfl (lv_at hl 3 rfl) ?_
    exact t_X10_sheet_62 C M6 x0 x1 a9 x1 x3 _ _ _ hf hw (lv_sub hl [0, 1] rfl)
  · have hf := if_n hc hf
    refine lv_iconst (v := 0) hx hb dX10_sheet_57 (by decide) ?_
    refine lv_goto (tgt := 62) hx hb dX10_sheet_58 (by decide) ?_
    exact t_X10_sheet_62 C M6 x0 x1 a9 x1 0 _ _ _ hf hw (lv_sub hl [0, 1] rfl)
def f_X10_sheet_29 (M : Mem) (x0 : Nat) (x1 : Int32) (x2 : Int32) (x3 : Int32) : Option (Int32 × Mem) := (if x2 < 0 then f_X10_sheet_41 M x0 x1 x2 x3 else (if 0 ≤ x3 then f_X10_sheet_41 M x0 x1 x2 x3 else some ((-1000000014), M)))
set_option maxHeartbeats 4000000 in
set_option maxRecDepth 100000 in
theorem t_X10_sheet_29 {l : Launch} {p : Program} {e : Env} {s : State} {m : MethodId} {args : Array Value} {below : List Frame} {meth : Method} {c : Code} {G : Gd} {A : Nat → Prop} {ad : Nat → Nat} (C : Cx G A p s m args meth c RX10 cX10_sheet 5 (some .int)) {r : Int32} {M' : Mem} : ∀ (M : Mem) (x0 : Nat) (x1 : Int32) (x2 : Int32) (x3 : Int32) (H : Heap) (locs : List Loc) (ls : Array Slot), f_X10_sheet_29  M x0 x1 x2 x3 = some (r, M') → Wd G A ad s.heap M H locs → lv_has ls 5 [(0, .ref (ad x0)), (1, .int x1), (2, .int x2), (3, .int x3)] → W p l e rm_X10_sheet s m args below meth c H locs 0 0 (MQ below (QI G A ad r M') args s 0 0 A) (F0 m 29 ls []) := by
  obtain ⟨hx, hb, -⟩ := id C
  intro M x0 x1 x2 x3 H locs ls hf hw hl
  rw [f_X10_sheet_29] at hf
  refine lv_iload_n hx hb dX10_sheet_29 rfl (lv_at hl 2 rfl) ?_
  refine lv_if_lt (tgt := 41) hx hb dX10_sheet_30 (by decide) (fun hc => ?_) (fun hc => ?_)
  · have hf := if_p hc hf
    exact t_X10_sheet_41 C M x0 x1 x2 x3 _ _ _ hf hw (lv_sub hl [0, 1, 2, 3] rfl)
  · have hf := if_n hc hf
    refine lv_iload_n hx hb dX10_sheet_33 rfl (lv_at hl 3 rfl) ?_
    refine lv_if_ge (tgt := 41) hx hb dX10_sheet_34 (by decide) (fun hc => ?_) (fun hc => ?_)
    · have hf := if_p hc hf
      exact t_X10_sheet_41 C M x0 x1 x2 x3 _ _ _ hf hw (lv_sub hl [0, 1, 2, 3] rfl)
    · have hf := if_n hc hf
      refine lv_ldcw hx hb C.2.2.2.1 (C.2.2.2.2.1 _ kc_X10_266) dX10_sheet_37 ?_
      exact e_iret C hw hf dX10_sheet_40
def f_X10_sheet (M : Mem) (x0 : Nat) (x1 : Int32) (x2 : Int32) (x3 : Int32) : Option (Int32 × Mem) := cl (f_X10_isSheet M x1) (fun r2 M1 => (if r2 = 0 then some ((-1000000001), M1) else cl (f_X10_in M1 x2 (-1) 1) (fun r5 M4 => (if r5 = 0 then some ((-1000000001), M4) else (if x2 < 0 then f_X10_sheet_29 M4 x0 x1 x2 x3 else (if x3 ≤ 24 then f_X10_sheet_29 M4 x0 x1 x2 x3 else some ((-1000000001), M4)))))))
set_option maxHeartbeats 4000000 in
set_option maxRecDepth 100000 in
theorem c_X10_sheet (l : Launch) (G : Gd) (A : Nat → Prop) (ad : Nat → Nat) {M : Mem} {x0 : Nat} {x1 : Int32} {x2 : Int32} {x3 : Int32}  {r : Int32} {M' : Mem} (hf : f_X10_sheet M x0 x1 x2 x3 = some (r, M')) : Ct l yX10_sheet cX10_sheet 5 (some .int) rm_X10_sheet [.ref (ad x0), .int x1, .int x2, .int x3] G A ad M (QI G A ad r M') 0 0 := by
  refine ct_start (by decide) (Nat.le_of_ble_eq_true rfl) ?_
  intro p e s m args below meth c ls C hin hw hl
  have C : Cx G A p s m args meth c RX10 cX10_sheet 5 (some .int) := C
  have hl : lv_has ls 5 [(0, .ref (ad x0)), (1, .int x1), (2, .int x2), (3, .int x3)] := hl
  obtain ⟨hx, hb, -⟩ := id C
  rw [f_X10_sheet] at hf
  refine lv_iload_n hx hb dX10_sheet_0 rfl (lv_at hl 1 rfl) ?_
  obtain ⟨r2, M1, hc3, hf⟩ := cl_inv hf
  refine fin_I (run_S C hw mf_X10_isSheet ms_X10_isSheet ml_X10_188 (c_X10_isSheet l G A ad hc3) (As := [.int x1]) (rest := []) hl.1 rfl rfl (Nat.le_of_ble_eq_true rfl) ⟨rfl, rfl, Nat.le_of_ble_eq_true rfl, Nat.le_of_ble_eq_true rfl⟩ ⟨Nat.zero_le _, Nat.zero_le _⟩ dX10_sheet_1) hw (fun H locs hw => ?_)
  refine lv_if_eq (tgt := 26) hx hb dX10_sheet_4 (by decide) (fun hc => ?_) (fun hc => ?_)
  · have hf := if_p hc hf
    refine lv_ldc hx hb C.2.2.2.1 (C.2.2.2.2.1 _ kc_X10_97) dX10_sheet_26 ?_
    exact e_iret C hw hf dX10_sheet_28
  · have hf := if_n hc hf
    refine lv_iload_n hx hb dX10_sheet_7 rfl (lv_at hl 2 rfl) ?_
    refine lv_iconst (v := (-1)) hx hb dX10_sheet_8 (by decide) ?_
    refine lv_iconst (v := 1) hx hb dX10_sheet_9 (by decide) ?_
    obtain ⟨r5, M4, hc6, hf⟩ := cl_inv hf
    refine fin_I (run_S C hw mf_X10_in ms_X10_in ml_X10_89 (c_X10_in l G A ad hc6) (As := [.int x2, .int (-1), .int 1]) (rest := []) hl.1 rfl rfl (Nat.le_of_ble_eq_true rfl) ⟨rfl, rfl, Nat.le_of_ble_eq_true rfl, Nat.le_of_ble_eq_true rfl⟩ ⟨Nat.zero_le _, Nat.zero_le _⟩ dX10_sheet_10) hw (fun H locs hw => ?_)
    refine lv_if_eq (tgt := 26) hx hb dX10_sheet_13 (by decide) (fun hc => ?_) (fun hc => ?_)
    · have hf := if_p hc hf
      refine lv_ldc hx hb C.2.2.2.1 (C.2.2.2.2.1 _ kc_X10_97) dX10_sheet_26 ?_
      exact e_iret C hw hf dX10_sheet_28
    · have hf := if_n hc hf
      refine lv_iload_n hx hb dX10_sheet_16 rfl (lv_at hl 2 rfl) ?_
      refine lv_if_lt (tgt := 29) hx hb dX10_sheet_17 (by decide) (fun hc => ?_) (fun hc => ?_)
      · have hf := if_p hc hf
        exact t_X10_sheet_29 C M4 x0 x1 x2 x3 _ _ _ hf hw (lv_sub hl [0, 1, 2, 3] rfl)
      · have hf := if_n hc hf
        refine lv_iload_n hx hb dX10_sheet_20 rfl (lv_at hl 3 rfl) ?_
        refine lv_bipush (v := 24) hx hb dX10_sheet_21 (by decide) ?_
        refine lv_icmp_le (tgt := 29) hx hb dX10_sheet_23 (by decide) (fun hc => ?_) (fun hc => ?_)
        · have hf := if_p hc hf
          exact t_X10_sheet_29 C M4 x0 x1 x2 x3 _ _ _ hf hw (lv_sub hl [0, 1, 2, 3] rfl)
        · have hf := if_n hc hf
          refine lv_ldc hx hb C.2.2.2.1 (C.2.2.2.2.1 _ kc_X10_97) dX10_sheet_26 ?_
          exact e_iret C hw hf dX10_sheet_28
/-! StorkVoteModel.mark(III)I -/
abbrev rm_X10_mark : Room := { frames := 2, cells := 0, slots := 0, locals := 42 }
def f_X10_mark_117 (M : Mem) (s0 : Nat) (s1 : Int32) (s2 : Int32) : Option (Int32 × Mem) := gt (mT M s0) 20 (gd (ib s1 (mL M s0)) (st (setI M s0 s1.toNatClampNeg s2) (fun M3 => some (1, M3))))
set_option maxHeartbeats 4000000 in
set_option maxRecDepth 100000 in
theorem t_X10_mark_117 {l : Launch} {p : Program} {e : Env} {s : State} {m : MethodId} {args : Array Value} {below : List Frame} {meth : Method} {c : Code} {G : Gd} {A : Nat → Prop} {ad : Nat → Nat} (C : Cx G A p s m args meth c RX10 cX10_mark 4 (some .int)) {r : Int32} {M' : Mem} : ∀ (M : Mem) (s0 : Nat) (s1 : Int32) (s2 : Int32) (H : Heap) (locs : List Loc) (ls : Array Slot), f_X10_mark_117  M s0 s1 s2 = some (r, M') → Wd G A ad s.heap M H locs → lv_has ls 4 [] → W p l e rm_X10_mark s m args below meth c H locs 0 0 (MQ below (QI G A ad r M') args s 0 0 A) (F0 m 117 ls [.int s2, .int s1, .ref (ad s0)]) := by
  obtain ⟨hx, hb, -⟩ := id C
  intro M s0 s1 s2 H locs ls hf hw hl
  rw [f_X10_mark_117] at hf
  obtain ⟨hT1, hf⟩ := gt_inv hf
  obtain ⟨hg2, hf⟩ := gd_inv hf
  obtain ⟨M3, e4, hf⟩ := st_inv hf
  have g5 := sg_I e4
  refine r_iast C hw hT1 hg2 e4 dX10_mark_117 (fun H locs hw => ?_)
  refine lv_iconst (v := 1) hx hb dX10_mark_118 (by decide) ?_
  exact e_iret C hw hf dX10_mark_119
def f_X10_mark_92 (M : Mem) (x0 : Nat) (x1 : Int32) (x2 : Int32) (x3 : Int32) : Option (Int32 × Mem) := gt (mT M x0) 11 (lp (mP M x0 29) (fun a2 => lp (mP M x0 27) (fun a4 => gt (mT M a4) 20 (gd (ib x1 (mL M a4)) ((if (mI M a4 x1.toNatClampNeg) = 0 then f_X10_mark_117 M a2 ((24 * x1) + x2) (s16 x3) else f_X10_mark_117 M a2 ((24 * x1) + x2) x3))))))
set_option maxHeartbeats 4000000 in
set_option maxRecDepth 100000 in
theorem t_X10_mark_92 {l : Launch} {p : Program} {e : Env} {s : State} {m : MethodId} {args : Array Value} {below : List Frame} {meth : Method} {c : Code} {G : Gd} {A : Nat → Prop} {ad : Nat → Nat} (C : Cx G A p s m args meth c RX10 cX10_mark 4 (some .int)) {r : Int32} {M' : Mem} : ∀ (M : Mem) (x0 : Nat) (x1 : Int32) (x2 : Int32) (x3 : Int32) (H : Heap) (locs : List Loc) (ls : Array Slot), f_X10_mark_92  M x0 x1 x2 x3 = some (r, M') → Wd G A ad s.heap M H locs → lv_has ls 4 [(0, .ref (ad x0)), (1, .int x1), (2, .int x2), (3, .int x3)] → W p l e rm_X10_mark s m args below meth c H locs 0 0 (MQ below (QI G A ad r M') args s 0 0 A) (F0 m 92 ls []) := by
  obtain ⟨hx, hb, -⟩ := id C
  intro M x0 x1 x2 x3 H locs ls hf hw hl
  rw [f_X10_mark_92] at hf
  refine lv_aload_n hx hb dX10_mark_92 rfl (lv_at hl 0 rfl) ?_
  obtain ⟨hT1, hf⟩ := gt_inv hf
  obtain ⟨a2, hP3, hf⟩ := lp_inv hf
  refine r_getP C hw cf10 29 (by decide) rfl hT1 hP3 fl_X10_67 dX10_mark_93 ?_
  refine lv_bipush (v := 24) hx hb dX10_mark_96 (by decide) ?_
  refine lv_iload_n hx hb dX10_mark_98 rfl (lv_at hl 1 rfl) ?_
  refine lv_imul hx hb dX10_mark_99 ?_
  refine lv_iload_n hx hb dX10_mark_100 rfl (lv_at hl 2 rfl) ?_
  refine lv_iadd hx hb dX10_mark_101 ?_
  refine lv_aload_n hx hb dX10_mark_102 rfl (lv_at hl 0 rfl) ?_
  obtain ⟨a4, hP5, hf⟩ := lp_inv hf
  refine r_getP C hw cf10 27 (by decide) rfl hT1 hP5 fl_X10_61 dX10_mark_103 ?_
  refine lv_iload_n hx hb dX10_mark_106 rfl (lv_at hl 1 rfl) ?_
  obtain ⟨hT6, hf⟩ := gt_inv hf
  obtain ⟨hg7, hf⟩ := gd_inv hf
  refine r_iald C hw hT6 hg7 dX10_mark_107 ?_
  refine lv_if_ne (tgt := 116) hx hb dX10_mark_108 (by decide) (fun hc => ?_) (fun hc => ?_)
  · have hf := if_n hc hf
    refine lv_iload_n hx hb dX10_mark_116 rfl (lv_at hl 3 rfl) ?_
    exact t_X10_mark_117 C M a2 ((24 * x1) + x2) x3 _ _ _ hf hw (lv_sub hl [] rfl)
  · have hf := if_p hc hf
    refine lv_iload_n hx hb dX10_mark_111 rfl (lv_at hl 3 rfl) ?_
    refine lv_i2s (v := s16 x3) hx hb dX10_mark_112 rfl ?_
    refine lv_goto (tgt := 117) hx hb dX10_mark_113 (by decide) ?_
    exact t_X10_mark_117 C M a2 ((24 * x1) + x2) (s16 x3) _ _ _ hf hw (lv_sub hl [] rfl)
def f_X10_mark_60 (M : Mem) (x0 : Nat) (x1 : Int32) (x2 : Int32) (x3 : Int32) : Option (Int32 × Mem) := gt (mT M x0) 11 (lp (mP M x0 27) (fun a2 => gt (mT M a2) 20 (gd (ib x1 (mL M a2)) ((if (mI M a2 x1.toNatClampNeg) = 1 then (if x3 = (-1000000005) then f_X10_mark_92 M x0 x1 x2 x3 else cl (f_X10_in M x3 (-99999) (99999)) (fun r7 M6 => (if r7 = 0 then some ((-1000000001), M6) else f_X10_mark_92 M6 x0 x1 x2 x3))) else f_X10_mark_92 M x0 x1 x2 x3)))))
set_option maxHeartbeats 4000000 in
set_option maxRecDepth 100000 in
theorem t_X10_mark_60 {l : Launch} {p : Program} {e : Env} {s : State} {m : MethodId} {args : Array Value} {below : List Frame} {meth : Method} {c : Code} {G : Gd} {A : Nat → Prop} {ad : Nat → Nat} (C : Cx G A p s m args meth c RX10 cX10_mark 4 (some .int)) {r : Int32} {M' : Mem} : ∀ (M : Mem) (x0 : Nat) (x1 : Int32) (x2 : Int32) (x3 : Int32) (H : Heap) (locs : List Loc) (ls : Array Slot), f_X10_mark_60  M x0 x1 x2 x3 = some (r, M') → Wd G A ad s.heap M H locs → lv_has ls 4 [(0, .ref (ad x0)), (1, .int x1), (2, .int x2), (3, .int x3)] → W p l e rm_X10_mark s m args below meth c H locs 0 0 (MQ below (QI G A ad r M') args s 0 0 A) (F0 m 60 ls []) := by
  obtain ⟨hx, hb, -⟩ := id C
  intro M x0 x1 x2 x3 H locs ls hf hw hl
  rw [f_X10_mark_60] at hf
  refine lv_aload_n hx hb dX10_mark_60 rfl (lv_at hl 0 rfl) ?_
  obtain ⟨hT1, hf⟩ := gt_inv hf
  obtain ⟨a2, hP3, hf⟩ := lp_inv hf
  refine r_getP C hw cf10 27 (by decide) rfl hT1 hP3 fl_X10_61 dX10_mark_61 ?_
  refine lv_iload_n hx hb dX10_mark_64 rfl (lv_at hl 1 rfl) ?_
  obtain ⟨hT4, hf⟩ := gt_inv hf
  obtain ⟨hg5, hf⟩ := gd_inv hf
  refine r_iald C hw hT4 hg5 dX10_mark_65 ?_
  refine lv_iconst (v := 1) hx hb dX10_mark_66 (by decide) ?_
  refine lv_icmp_ne (tgt := 92) hx hb dX10_mark_67 (by decide) (fun hc => ?_) (fun hc => ?_)
  · have hf := if_n hc hf
    exact t_X10_mark_92 C M x0 x1 x2 x3 _ _ _ hf hw (lv_sub hl [0, 1, 2, 3] rfl)
  · have hf := if_p hc hf
    refine lv_iload_n hx hb dX10_mark_70 rfl (lv_at hl 3 rfl) ?_
    refine lv_ldc hx hb C.2.2.2.1 (C.2.2.2.2.1 _ kc_X10_88) dX10_mark_71 ?_
    refine lv_icmp_eq (tgt := 92) hx hb dX10_mark_73 (by decide) (fun hc => ?_) (fun hc => ?_)
    · have hf := if_p hc hf
      exact t_X10_mark_92 C M x0 x1 x2 x3 _ _ _ hf hw (lv_sub hl [0, 1, 2, 3] rfl)
    · have hf := if_n hc hf
      refine lv_iload_n hx hb dX10_mark_76 rfl (lv_at hl 3 rfl) ?_
      refine lv_ldcw hx hb C.2.2.2.1 (C.2.2.2.2.1 _ kc_X10_268) dX10_mark_77 ?_
      refine lv_ldcw hx hb C.2.2.2.1 (C.2.2.2.2.1 _ kc_X10_269) dX10_mark_80 ?_
      obtain ⟨r7, M6, hc8, hf⟩ := cl_inv hf
      refine fin_I (run_S C hw mf_X10_in ms_X10_in ml_X10_89 (c_X10_in l G A ad hc8) (As := [.int x3, .int (-99999), .int (99999)]) (rest := []) hl.1 rfl rfl (Nat.le_of_ble_eq_true rfl) ⟨rfl, rfl, Nat.le_of_ble_eq_true rfl, Nat.le_of_ble_eq_true rfl⟩ ⟨Nat.zero_le _, Nat.zero_le _⟩ dX10_mark_83) hw (fun H locs hw => ?_)
      refine lv_if_ne (tgt := 92) hx hb dX10_mark_86 (by decide) (fun hc => ?_) (fun hc => ?_)
      · have hf := if_n hc hf
        exact t_X10_mark_92 C M6 x0 x1 x2 x3 _ _ _ hf hw (lv_sub hl [0, 1, 2, 3] rfl)
      · have hf := if_p hc hf
        refine lv_ldc hx hb C.2.2.2.1 (C.2.2.2.2.1 _ kc_X10_97) dX10_mark_89 ?_
        exact e_iret C hw hf dX10_mark_91
def f_X10_mark (M : Mem) (x0 : Nat) (x1 : Int32) (x2 : Int32) (x3 : Int32) : Option (Int32 × Mem) := cl (f_X10_isSheet M x1) (fun r2 M1 => (if r2 = 0 then some ((-1000000001), M1) else gt (mT M1 x0) 11 (lp (mP M1 x0 27) (fun a5 => gt (mT M1 a5) 20 (gd (ib x1 (mL M1 a5)) ((if 0 ≤ (mI M1 a5 x1.toNatClampNeg) then lp (mP M1 x0 28) (fun a9 => gt (mT M1 a9) 20 (gd (ib x1 (mL M1 a9)) (cl (f_X10_in M1 x2 0 ((mI M1 a9 x1.toNatClampNeg) - 1)) (fun r14 M13 => (if r14 = 0 then some ((-1000000013), M13) else gt (mT M13 x0) 11 (lp (mP M13 x0 27) (fun a17 => gt (mT M13 a17) 20 (gd (ib x1 (mL M13 a17)) ((if (mI M13 a17 x1.toNatClampNeg) = 0 then (if x3 = (-1000000005) then some ((-1000000012), M13) else f_X10_mark_60 M13 x0 x1 x2 x3) else f_X10_mark_60 M13 x0 x1 x2 x3)))))))))) else some ((-1000000011), M1))))))))
set_option maxHeartbeats 4000000 in
set_option maxRecDepth 100000 in
theorem c_X10_mark (l : Launch) (G : Gd) (A : Nat → Prop) (ad : Nat → Nat) {M : Mem} {x0 : Nat} {x1 : Int32} {x2 : Int32} {x3 : Int32}  {r : Int32} {M' : Mem} (hf : f_X10_mark M x0 x1 x2 x3 = some (r, M')) : Ct l yX10_mark cX10_mark 4 (some .int) rm_X10_mark [.ref (ad x0), .int x1, .int x2, .int x3] G A ad M (QI G A ad r M') 0 0 := by
  refine ct_start (by decide) (Nat.le_of_ble_eq_true rfl) ?_
  intro p e s m args below meth c ls C hin hw hl
  have C : Cx G A p s m args meth c RX10 cX10_mark 4 (some .int) := C
  have hl : lv_has ls 4 [(0, .ref (ad x0)), (1, .int x1), (2, .int x2), (3, .int x3)] := hl
  obtain ⟨hx, hb, -⟩ := id C
  rw [f_X10_mark] at hf
  refine lv_iload_n hx hb dX10_mark_0 rfl (lv_at hl 1 rfl) ?_
  obtain ⟨r2, M1, hc3, hf⟩ := cl_inv hf
  refine fin_I (run_S C hw mf_X10_isSheet ms_X10_isSheet ml_X10_188 (c_X10_isSheet l G A ad hc3) (As := [.int x1]) (rest := []) hl.1 rfl rfl (Nat.le_of_ble_eq_true rfl) ⟨rfl, rfl, Nat.le_of_ble_eq_true rfl, Nat.le_of_ble_eq_true rfl⟩ ⟨Nat.zero_le _, Nat.zero_le _⟩ dX10_mark_1) hw (fun H locs hw => ?_)
  refine lv_if_ne (tgt := 10) hx hb dX10_mark_4 (by decide) (fun hc => ?_) (fun hc => ?_)
  · have hf := if_n hc hf
    refine lv_aload_n hx hb dX10_mark_10 rfl (lv_at hl 0 rfl) ?_
    obtain ⟨hT4, hf⟩ := gt_inv hf
    obtain ⟨a5, hP6, hf⟩ := lp_inv hf
    refine r_getP C hw cf10 27 (by decide) rfl hT4 hP6 fl_X10_61 dX10_mark_11 ?_
    refine lv_iload_n hx hb dX10_mark_14 rfl (lv_at hl 1 rfl) ?_
    obtain ⟨hT7, hf⟩ := gt_inv hf
    obtain ⟨hg8, hf⟩ := gd_inv hf
    refine r_iald C hw hT7 hg8 dX10_mark_15 ?_
    refine lv_if_ge (tgt := 22) hx hb dX10_mark_16 (by decide) (fun hc => ?_) (fun hc => ?_)
    · have hf := if_p hc hf
      refine lv_iload_n hx hb dX10_mark_22 rfl (lv_at hl 2 rfl) ?_
      refine lv_iconst (v := 0) hx hb dX10_mark_23 (by decide) ?_
      refine lv_aload_n hx hb dX10_mark_24 rfl (lv_at hl 0 rfl) ?_
      obtain ⟨a9, hP10, hf⟩ := lp_inv hf
      refine r_getP C hw cf10 28 (by decide) rfl hT4 hP10 fl_X10_64 dX10_mark_25 ?_
      refine lv_iload_n hx hb dX10_mark_28 rfl (lv_at hl 1 rfl) ?_
      obtain ⟨hT11, hf⟩ := gt_inv hf
      obtain ⟨hg12, hf⟩ := gd_inv hf
      refine r_iald C hw hT11 hg12 dX10_mark_29 ?_
      refine lv_iconst (v := 1) hx hb dX10_mark_30 (by decide) ?_
      refine lv_isub hx hb dX10_mark_31 ?_
      obtain ⟨r14, M13, hc15, hf⟩ := cl_inv hf
      refine fin_I (run_S C hw mf_X10_in ms_X10_in ml_X10_89 (c_X10_in l G A ad hc15) (As := [.int x2, .int 0, .int ((mI M1 a9 x1.toNatClampNeg) - 1)]) (rest := []) hl.1 rfl rfl (Nat.le_of_ble_eq_true rfl) ⟨rfl, rfl, Nat.le_of_ble_eq_true rfl, Nat.le_of_ble_eq_true rfl⟩ ⟨Nat.zero_le _, Nat.zero_le _⟩ dX10_mark_32) hw (fun H locs hw => ?_)
      refine lv_if_ne (tgt := 42) hx hb dX10_mark_35 (by decide) (fun hc => ?_) (fun hc => ?_)
      · have hf := if_n hc hf
        refine lv_aload_n hx hb dX10_mark_42 rfl (lv_at hl 0 rfl) ?_
        obtain ⟨hT16, hf⟩ := gt_inv hf
        obtain ⟨a17, hP18, hf⟩ := lp_inv hf
        refine r_getP C hw cf10 27 (by decide) rfl hT16 hP18 fl_X10_61 dX10_mark_43 ?_
        refine lv_iload_n hx hb dX10_mark_46 rfl (lv_at hl 1 rfl) ?_
        obtain ⟨hT19, hf⟩ := gt_inv hf
        obtain ⟨hg20, hf⟩ := gd_inv hf
        refine r_iald C hw hT19 hg20 dX10_mark_47 ?_
        refine lv_if_ne (tgt := 60) hx hb dX10_mark_48 (by decide) (fun hc => ?_) (fun hc => ?_)
        · have hf := if_n hc hf
          exact t_X10_mark_60 C M13 x0 x1 x2 x3 _ _ _ hf hw (lv_sub hl [0, 1, 2, 3] rfl)
        · have hf := if_p hc hf
          refine lv_iload_n hx hb dX10_mark_51 rfl (lv_at hl 3 rfl) ?_
          refine lv_ldc hx hb C.2.2.2.1 (C.2.2.2.2.1 _ kc_X10_88) dX10_mark_52 ?_
          refine lv_icmp_ne (tgt := 60) hx hb dX10_mark_54 (by decide) (fun hc => ?_) (fun hc => ?_)
          · have hf := if_n hc hf
            exact t_X10_mark_60 C M13 x0 x1 x2 x3 _ _ _ hf hw (lv_sub hl [0, 1, 2, 3] rfl)
          · have hf := if_p hc hf
            refine lv_ldc hx hb C.2.2.2.1 (C.2.2.2.2.1 _ kc_X10_124) dX10_mark_57 ?_
            exact e_iret C hw hf dX10_mark_59
      · have hf := if_p hc hf
        refine lv_ldcw hx hb C.2.2.2.1 (C.2.2.2.2.1 _ kc_X10_267) dX10_mark_38 ?_
        exact e_iret C hw hf dX10_mark_41
    · have hf := if_n hc hf
      refine lv_ldc hx hb C.2.2.2.1 (C.2.2.2.2.1 _ kc_X10_191) dX10_mark_19 ?_
      exact e_iret C hw hf dX10_mark_21
  · have hf := if_p hc hf
    refine lv_ldc hx hb C.2.2.2.1 (C.2.2.2.2.1 _ kc_X10_97) dX10_mark_7 ?_
    exact e_iret C hw hf dX10_mark_9
/-! StorkVoteModel.pour(I)I -/
abbrev rm_X10_pour : Room := { frames := 2, cells := 0, slots := 0, locals := 42 }
def f_X10_pour_83 (K26 : Mem → Nat → Int32 → Int32 → Int32 → Option (Int32 × Mem)) (M : Mem) (x0 : Nat) (x1 : Int32) (x2 : Int32) (x3 : Int32) (s0 : Int32) : Option (Int32 × Mem) := gt (mT M x0) 11 (cl (f_X10_becomes M x0 ((38 + (4 * x3)) + 3) s0) (fun r2 M1 => (if r2 = s0 then K26 M1 x0 x1 (x2 + 0) (x3 + 1) else K26 M1 x0 x1 (x2 + 1) (x3 + 1))))
set_option maxHeartbeats 4000000 in
set_option maxRecDepth 100000 in
theorem t_X10_pour_83 {l : Launch} {p : Program} {e : Env} {s : State} {m : MethodId} {args : Array Value} {below : List Frame} {meth : Method} {c : Code} {G : Gd} {A : Nat → Prop} {ad : Nat → Nat} (C : Cx G A p s m args meth c RX10 cX10_pour 6 (some .int)) {r : Int32} {M' : Mem} {K26 : Mem → Nat → Int32 → Int32 → Int32 → Option (Int32 × Mem)} (hK26 : ∀ (M : Mem) (x0 : Nat) (x1 : Int32) (x2 : Int32) (x3 : Int32) (H : Heap) (locs : List Loc) (ls : Array Slot), K26 M x0 x1 x2 x3 = some (r, M') → Wd G A ad s.heap M H locs → lv_has ls 6 [(0, .ref (ad x0)), (1, .int x1), (2, .int x2), (3, .int x3)] → W p l e rm_X10_pour s m args below meth c H locs 0 0 (MQ below (QI G A ad r M') args s 0 0 A) (F0 m 26 ls [])) : ∀ (M : Mem) (x0 : Nat) (x1 : Int32) (x2 : Int32) (x3 : Int32) (s0 : Int32) (H : Heap) (locs : List Loc) (ls : Array Slot), f_X10_pour_83 K26 M x0 x1 x2 x3 s0 = some (r, M') → Wd G A ad s.heap M H locs → lv_has ls 6 [(0, .ref (ad x0)), (1, .int x1), (2, .int x2), (3, .int x3)] → W p l e rm_X10_pour s m args below meth c H locs 0 0 (MQ below (QI G A ad r M') args s 0 0 A) (F0 m 83 ls [.int s0]) := by
  obtain ⟨hx, hb, -⟩ := id C
  intro M x0 x1 x2 x3 s0 H locs ls hf hw hl
  rw [f_X10_pour_83] at hf
  refine lv_istore (lv' := [(5, .int s0), (0, .ref (ad x0)), (1, .int x1), (2, .int x2), (3, .int x3)]) hx hb dX10_pour_83 hl (by decide) rfl (fun ls hl => ?_)
  refine lv_iload_n hx hb dX10_pour_85 rfl (lv_at hl 3 rfl) ?_
  refine lv_aload_n hx hb dX10_pour_86 rfl (lv_at hl 1 rfl) ?_
  refine lv_bipush (v := 38) hx hb dX10_pour_87 (by decide) ?_
  refine lv_iconst (v := 4) hx hb dX10_pour_89 (by decide) ?_
  refine lv_iload_n hx hb dX10_pour_90 rfl (lv_at hl 4 rfl) ?_
  refine lv_imul hx hb dX10_pour_91 ?_
  refine lv_iadd hx hb dX10_pour_92 ?_
  refine lv_iconst (v := 3) hx hb dX10_pour_93 (by decide) ?_
  refine lv_iadd hx hb dX10_pour_94 ?_
  refine lv_iload hx hb dX10_pour_95 (lv_at hl 0 rfl) ?_
  obtain ⟨hT4, hf⟩ := gt_inv hf
  obtain ⟨r2, M1, hc3, hf⟩ := cl_inv hf
  refine fin_I (run_V C hw mf_X10_becomes mv_X10_becomes ml_X10_125 cf10 hT4 (c_X10_becomes l G A ad hc3) (As := [.int ((38 + (4 * x3)) + 3), .int s0]) (rest := [.int x2]) hl.1 rfl rfl (Nat.le_of_ble_eq_true rfl) ⟨rfl, rfl, Nat.le_of_ble_eq_true rfl, Nat.le_of_ble_eq_true rfl⟩ ⟨Nat.zero_le _, Nat.zero_le _⟩ dX10_pour_97) hw (fun H locs hw => ?_)
  refine lv_iload hx hb dX10_pour_100 (lv_at hl 0 rfl) ?_
  refine lv_icmp_ne (tgt := 109) hx hb dX10_pour_102 (by decide) (fun hc => ?_) (fun hc => ?_)
  · have hf := if_n hc hf
    refine lv_iconst (v := 1) hx hb dX10_pour_109 (by decide) ?_
    refine lv_iadd hx hb dX10_pour_110 ?_
    refine lv_istore_n (lv' := [(2, .int (x2 + 1)), (5, .int s0), (0, .ref (ad x0)), (1, .int x1), (3, .int x3)]) hx hb dX10_pour_111 rfl hl (by decide) rfl (fun ls hl => ?_)
    refine lv_iinc (v := (x3 + 1)) (lv' := [(3, .int (x3 + 1)), (2, .int (x2 + 1)), (5, .int s0), (0, .ref (ad x0)), (1, .int x1)]) hx hb dX10_pour_112 hl (k := 4) rfl rfl (by decide) rfl (fun ls hl => ?_)
    refine lv_goto (tgt := 26) hx hb dX10_pour_115 (by decide) ?_
    exact hK26 M1 x0 x1 (x2 + 1) (x3 + 1) _ _ _ hf hw (lv_sub hl [3, 4, 1, 0] rfl)
  · have hf := if_p hc hf
    refine lv_iconst (v := 0) hx hb dX10_pour_105 (by decide) ?_
    refine lv_goto (tgt := 110) hx hb dX10_pour_106 (by decide) ?_
    refine lv_iadd hx hb dX10_pour_110 ?_
    refine lv_istore_n (lv' := [(2, .int (x2 + 0)), (5, .int s0), (0, .ref (ad x0)), (1, .int x1), (3, .int x3)]) hx hb dX10_pour_111 rfl hl (by decide) rfl (fun ls hl => ?_)
    refine lv_iinc (v := (x3 + 1)) (lv' := [(3, .int (x3 + 1)), (2, .int (x2 + 0)), (5, .int s0), (0, .ref (ad x0)), (1, .int x1)]) hx hb dX10_pour_112 hl (k := 4) rfl rfl (by decide) rfl (fun ls hl => ?_)
    refine lv_goto (tgt := 26) hx hb dX10_pour_115 (by decide) ?_
    exact hK26 M1 x0 x1 (x2 + 0) (x3 + 1) _ _ _ hf hw (lv_sub hl [3, 4, 1, 0] rfl)
def f_X10_pour_26 : Nat → Mem → Nat → Int32 → Int32 → Int32 → Option (Int32 × Mem)
  | 0, _, _, _, _, _ => none
  | n + 1, M, x0, x1, x2, x3 => gt (mT M x0) 11 (lp (mP M x0 28) (fun a2 => gt (mT M a2) 20 (gd (ib x1 (mL M a2)) ((if (mI M a2 x1.toNatClampNeg) ≤ x3 then some (x2, M) else lp (mP M x0 0) (fun a6 => gt (mT M a6) 20 (gd (ib 1 (mL M a6)) ((if (mI M a6 (1 : Int32).toNatClampNeg) ≤ x3 then some (x2, M) else lp (mP M x0 29) (fun a10 => gt (mT M a10) 20 (gd (ib ((24 * x1) + x3) (mL M a10)) ((if (mI M a10 ((24 * x1) + x3).toNatClampNeg) = (-1000000005) then cl (f_X10_of M x0 x3 3) (fun r18 M17 => f_X10_pour_83 (f_X10_pour_26 n) M17 x0 x1 x2 x3 r18) else cl (f_X10_within M (mI M a10 ((24 * x1) + x3).toNatClampNeg) 0 99) (fun r15 M14 => f_X10_pour_83 (f_X10_pour_26 n) M14 x0 x1 x2 x3 r15))))))))))))))
set_option maxHeartbeats 4000000 in
set_option maxRecDepth 100000 in
theorem t_X10_pour_26 {l : Launch} {p : Program} {e : Env} {s : State} {m : MethodId} {args : Array Value} {below : List Frame} {meth : Method} {c : Code} {G : Gd} {A : Nat → Prop} {ad : Nat → Nat} (C : Cx G A p s m args meth c RX10 cX10_pour 6 (some .int)) {r : Int32} {M' : Mem} : ∀ (n : Nat) (M : Mem) (x0 : Nat) (x1 : Int32) (x2 : Int32) (x3 : Int32) (H : Heap) (locs : List Loc) (ls : Array Slot), f_X10_pour_26  n M x0 x1 x2 x3 = some (r, M') → Wd G A ad s.heap M H locs → lv_has ls 6 [(0, .ref (ad x0)), (1, .int x1), (2, .int x2), (3, .int x3)] → W p l e rm_X10_pour s m args below meth c H locs 0 0 (MQ below (QI G A ad r M') args s 0 0 A) (F0 m 26 ls []) := by
  obtain ⟨hx, hb, -⟩ := id C
  intro n
  induction n with
  | zero =>
    intro M x0 x1 x2 x3 H locs ls hf
    rw [f_X10_pour_26] at hf
    exact absurd hf (fun h => nomatch h)
  | succ n ih =>
    intro M x0 x1 x2 x3 H locs ls hf hw hl
    rw [f_X10_pour_26] at hf
    refine lv_iload_n hx hb dX10_pour_26 rfl (lv_at hl 3 rfl) ?_
    refine lv_aload_n hx hb dX10_pour_27 rfl (lv_at hl 0 rfl) ?_
    obtain ⟨hT1, hf⟩ := gt_inv hf
    obtain ⟨a2, hP3, hf⟩ := lp_inv hf
    refine r_getP C hw cf10 28 (by decide) rfl hT1 hP3 fl_X10_64 dX10_pour_28 ?_
    refine lv_iload_n hx hb dX10_pour_31 rfl (lv_at hl 1 rfl) ?_
    obtain ⟨hT4, hf⟩ := gt_inv hf
    obtain ⟨hg5, hf⟩ := gd_inv hf
    refine r_iald C hw hT4 hg5 dX10_pour_32 ?_
    refine lv_icmp_ge (tgt := 118) hx hb dX10_pour_33 (by decide) (fun hc => ?_) (fun hc => ?_)
    · have hf := if_p hc hf
      refine lv_iload_n hx hb dX10_pour_118 rfl (lv_at hl 2 rfl) ?_
      exact e_iret C hw hf dX10_pour_119
    · have hf := if_n hc hf
      refine lv_iload_n hx hb dX10_pour_36 rfl (lv_at hl 3 rfl) ?_
      refine lv_aload_n hx hb dX10_pour_37 rfl (lv_at hl 0 rfl) ?_
      obtain ⟨a6, hP7, hf⟩ := lp_inv hf
      refine r_getP C hw cf10 0 (by decide) rfl hT1 hP7 fl_X10_9 dX10_pour_38 ?_
      refine lv_iconst (v := 1) hx hb dX10_pour_41 (by decide) ?_
      obtain ⟨hT8, hf⟩ := gt_inv hf
      obtain ⟨hg9, hf⟩ := gd_inv hf
      refine r_iald C hw hT8 hg9 dX10_pour_42 ?_
      refine lv_icmp_ge (tgt := 118) hx hb dX10_pour_43 (by decide) (fun hc => ?_) (fun hc => ?_)
      · have hf := if_p hc hf
        refine lv_iload_n hx hb dX10_pour_118 rfl (lv_at hl 2 rfl) ?_
        exact e_iret C hw hf dX10_pour_119
      · have hf := if_n hc hf
        refine lv_aload_n hx hb dX10_pour_46 rfl (lv_at hl 0 rfl) ?_
        obtain ⟨a10, hP11, hf⟩ := lp_inv hf
        refine r_getP C hw cf10 29 (by decide) rfl hT1 hP11 fl_X10_67 dX10_pour_47 ?_
        refine lv_bipush (v := 24) hx hb dX10_pour_50 (by decide) ?_
        refine lv_iload_n hx hb dX10_pour_52 rfl (lv_at hl 1 rfl) ?_
        refine lv_imul hx hb dX10_pour_53 ?_
        refine lv_iload_n hx hb dX10_pour_54 rfl (lv_at hl 3 rfl) ?_
        refine lv_iadd hx hb dX10_pour_55 ?_
        obtain ⟨hT12, hf⟩ := gt_inv hf
        obtain ⟨hg13, hf⟩ := gd_inv hf
        refine r_iald C hw hT12 hg13 dX10_pour_56 ?_
        refine lv_istore (lv' := [(4, .int (mI M a10 ((24 * x1) + x3).toNatClampNeg)), (0, .ref (ad x0)), (1, .int x1), (2, .int x2), (3, .int x3)]) hx hb dX10_pour_57 hl (by decide) rfl (fun ls hl => ?_)
        refine lv_iload hx hb dX10_pour_59 (lv_at hl 0 rfl) ?_
        refine lv_ldc hx hb C.2.2.2.1 (C.2.2.2.2.1 _ kc_X10_88) dX10_pour_61 ?_
        refine lv_icmp_ne (tgt := 75) hx hb dX10_pour_63 (by decide) (fun hc => ?_) (fun hc => ?_)
        · have hf := if_n hc hf
          refine lv_iload hx hb dX10_pour_75 (lv_at hl 0 rfl) ?_
          refine lv_iconst (v := 0) hx hb dX10_pour_77 (by decide) ?_
          refine lv_bipush (v := 99) hx hb dX10_pour_78 (by decide) ?_
          obtain ⟨r15, M14, hc16, hf⟩ := cl_inv hf
          refine fin_I (run_S C hw mf_X10_within ms_X10_within ml_X10_140 (c_X10_within l G A ad hc16) (As := [.int (mI M a10 ((24 * x1) + x3).toNatClampNeg), .int 0, .int 99]) (rest := []) hl.1 rfl rfl (Nat.le_of_ble_eq_true rfl) ⟨rfl, rfl, Nat.le_of_ble_eq_true rfl, Nat.le_of_ble_eq_true rfl⟩ ⟨Nat.zero_le _, Nat.zero_le _⟩ dX10_pour_80) hw (fun H locs hw => ?_)
          exact t_X10_pour_83 C ih M14 x0 x1 x2 x3 r15 _ _ _ hf hw (lv_sub hl [1, 2, 3, 4] rfl)
        · have hf := if_p hc hf
          refine lv_aload_n hx hb dX10_pour_66 rfl (lv_at hl 1 rfl) ?_
          refine lv_iload_n hx hb dX10_pour_67 rfl (lv_at hl 4 rfl) ?_
          refine lv_iconst (v := 3) hx hb dX10_pour_68 (by decide) ?_
          obtain ⟨r18, M17, hc19, hf⟩ := cl_inv hf
          refine fin_I (run_V C hw mf_X10_of mv_X10_of ml_X10_103 cf10 hT1 (c_X10_of l G A ad hc19) (As := [.int x3, .int 3]) (rest := []) hl.1 rfl rfl (Nat.le_of_ble_eq_true rfl) ⟨rfl, rfl, Nat.le_of_ble_eq_true rfl, Nat.le_of_ble_eq_true rfl⟩ ⟨Nat.zero_le _, Nat.zero_le _⟩ dX10_pour_69) hw (fun H locs hw => ?_)
          refine lv_goto (tgt := 83) hx hb dX10_pour_72 (by decide) ?_
          exact t_X10_pour_83 C ih M17 x0 x1 x2 x3 r18 _ _ _ hf hw (lv_sub hl [1, 2, 3, 4] rfl)
def f_X10_pour (M : Mem) (x0 : Nat) (x1 : Int32) : Option (Int32 × Mem) := cl (f_X10_isSheet M x1) (fun r2 M1 => (if r2 = 0 then some ((-1000000001), M1) else gt (mT M1 x0) 11 (lp (mP M1 x0 27) (fun a5 => gt (mT M1 a5) 20 (gd (ib x1 (mL M1 a5)) ((if 0 ≤ (mI M1 a5 x1.toNatClampNeg) then f_X10_pour_26 FU M1 x0 x1 0 0 else some ((-1000000011), M1))))))))
set_option maxHeartbeats 4000000 in
set_option maxRecDepth 100000 in
theorem c_X10_pour (l : Launch) (G : Gd) (A : Nat → Prop) (ad : Nat → Nat) {M : Mem} {x0 : Nat} {x1 : Int32}  {r : Int32} {M' : Mem} (hf : f_X10_pour M x0 x1 = some (r, M')) : Ct l yX10_pour cX10_pour 6 (some .int) rm_X10_pour [.ref (ad x0), .int x1] G A ad M (QI G A ad r M') 0 0 := by
  refine ct_start (by decide) (Nat.le_of_ble_eq_true rfl) ?_
  intro p e s m args below meth c ls C hin hw hl
  have C : Cx G A p s m args meth c RX10 cX10_pour 6 (some .int) := C
  have hl : lv_has ls 6 [(0, .ref (ad x0)), (1, .int x1)] := hl
  obtain ⟨hx, hb, -⟩ := id C
  rw [f_X10_pour] at hf
  refine lv_iload_n hx hb dX10_pour_0 rfl (lv_at hl 1 rfl) ?_
  obtain ⟨r2, M1, hc3, hf⟩ := cl_inv hf
  refine fin_I (run_S C hw mf_X10_isSheet ms_X10_isSheet ml_X10_188 (c_X10_isSheet l G A ad hc3) (As := [.int x1]) (rest := []) hl.1 rfl rfl (Nat.le_of_ble_eq_true rfl) ⟨rfl, rfl, Nat.le_of_ble_eq_true rfl, Nat.le_of_ble_eq_true rfl⟩ ⟨Nat.zero_le _, Nat.zero_le _⟩ dX10_pour_1) hw (fun H locs hw => ?_)
  refine lv_if_ne (tgt := 10) hx hb dX10_pour_4 (by decide) (fun hc => ?_) (fun hc => ?_)
  · have hf := if_n hc hf
    refine lv_aload_n hx hb dX10_pour_10 rfl (lv_at hl 0 rfl) ?_
    obtain ⟨hT4, hf⟩ := gt_inv hf
    obtain ⟨a5, hP6, hf⟩ := lp_inv hf
    refine r_getP C hw cf10 27 (by decide) rfl hT4 hP6 fl_X10_61 dX10_pour_11 ?_
    refine lv_iload_n hx hb dX10_pour_14 rfl (lv_at hl 1 rfl) ?_
    obtain ⟨hT7, hf⟩ := gt_inv hf
    obtain ⟨hg8, hf⟩ := gd_inv hf
    refine r_iald C hw hT7 hg8 dX10_pour_15 ?_
    refine lv_if_ge (tgt := 22) hx hb dX10_pour_16 (by decide) (fun hc => ?_) (fun hc => ?_)
    · have hf := if_p hc hf
      refine lv_iconst (v := 0) hx hb dX10_pour_22 (by decide) ?_
      refine lv_istore_n (lv' := [(2, .int 0), (0, .ref (ad x0)), (1, .int x1)]) hx hb dX10_pour_23 rfl hl (by decide) rfl (fun ls hl => ?_)
      refine lv_iconst (v := 0) hx hb dX10_pour_24 (by decide) ?_
      refine lv_istore_n (lv' := [(3, .int 0), (2, .int 0), (0, .ref (ad x0)), (1, .int x1)]) hx hb dX10_pour_25 rfl hl (by decide) rfl (fun ls hl => ?_)
      exact t_X10_pour_26 C FU M1 x0 x1 0 0 _ _ _ hf hw (lv_sub hl [2, 3, 1, 0] rfl)
    · have hf := if_n hc hf
      refine lv_ldc hx hb C.2.2.2.1 (C.2.2.2.2.1 _ kc_X10_191) dX10_pour_19 ?_
      exact e_iret C hw hf dX10_pour_21
  · have hf := if_p hc hf
    refine lv_ldc hx hb C.2.2.2.1 (C.2.2.2.2.1 _ kc_X10_97) dX10_pour_7 ?_
    exact e_iret C hw hf dX10_pour_9
/-! StorkVoteModel.reads(I)I -/
abbrev rm_X10_reads : Room := { frames := 5, cells := 0, slots := 0, locals := 118 }
def f_X10_reads_28 : Nat → Mem → Nat → Int32 → Int32 → Option (Int32 × Mem)
  | 0, _, _, _, _ => none
  | n + 1, M, x0, x1, x2 => gt (mT M x0) 11 (lp (mP M x0 28) (fun a2 => gt (mT M a2) 20 (gd (ib x1 (mL M a2)) ((if (mI M a2 x1.toNatClampNeg) ≤ x2 then some ((-1000000005), M) else lp (mP M x0 29) (fun a6 => gt (mT M a6) 20 (gd (ib ((24 * x1) + x2) (mL M a6)) ((if (mI M a6 ((24 * x1) + x2).toNatClampNeg) = (-1000000005) then f_X10_reads_28 n M x0 x1 (x2 + 1) else cl (f_X10_isStork M x0 x2) (fun r11 M10 => (if r11 = 0 then some (x2, M10) else gt (mT M10 x0) 11 (lp (mP M10 x0 6) (fun a14 => gt (mT M10 a14) 20 (gd (ib x2 (mL M10 a14)) ((if (mI M a6 ((24 * x1) + x2).toNatClampNeg) = (mI M10 a14 x2.toNatClampNeg) then f_X10_reads_28 n M10 x0 x1 (x2 + 1) else some (x2, M10)))))))))))))))))
set_option maxHeartbeats 4000000 in
set_option maxRecDepth 100000 in
theorem t_X10_reads_28 {l : Launch} {p : Program} {e : Env} {s : State} {m : MethodId} {args : Array Value} {below : List Frame} {meth : Method} {c : Code} {G : Gd} {A : Nat → Prop} {ad : Nat → Nat} (C : Cx G A p s m args meth c RX10 cX10_reads 4 (some .int)) {r : Int32} {M' : Mem} : ∀ (n : Nat) (M : Mem) (x0 : Nat) (x1 : Int32) (x2 : Int32) (H : Heap) (locs : List Loc) (ls : Array Slot), f_X10_reads_28  n M x0 x1 x2 = some (r, M') → Wd G A ad s.heap M H locs → lv_has ls 4 [(0, .ref (ad x0)), (1, .int x1), (2, .int x2)] → W p l e rm_X10_reads s m args below meth c H locs 0 0 (MQ below (QI G A ad r M') args s 0 0 A) (F0 m 28 ls []) := by
  obtain ⟨hx, hb, -⟩ := id C
  intro n
  induction n with
  | zero =>
    intro M x0 x1 x2 H locs ls hf
    rw [f_X10_reads_28] at hf
    exact absurd hf (fun h => nomatch h)
  | succ n ih =>
    intro M x0 x1 x2 H locs ls hf hw hl
    rw [f_X10_reads_28] at hf
    refine lv_iload_n hx hb dX10_reads_28 rfl (lv_at hl 2 rfl) ?_
    refine lv_aload_n hx hb dX10_reads_29 rfl (lv_at hl 0 rfl) ?_
    obtain ⟨hT1, hf⟩ := gt_inv hf
    obtain ⟨a2, hP3, hf⟩ := lp_inv hf
    refine r_getP C hw cf10 28 (by decide) rfl hT1 hP3 fl_X10_64 dX10_reads_30 ?_
    refine lv_iload_n hx hb dX10_reads_33 rfl (lv_at hl 1 rfl) ?_
    obtain ⟨hT4, hf⟩ := gt_inv hf
    obtain ⟨hg5, hf⟩ := gd_inv hf
    refine r_iald C hw hT4 hg5 dX10_reads_34 ?_
    refine lv_icmp_ge (tgt := 82) hx hb dX10_reads_35 (by decide) (fun hc => ?_) (fun hc => ?_)
    · have hf := if_p hc hf
      refine lv_ldc hx hb C.2.2.2.1 (C.2.2.2.2.1 _ kc_X10_88) dX10_reads_82 ?_
      exact e_iret C hw hf dX10_reads_84
    · have hf := if_n hc hf
      refine lv_aload_n hx hb dX10_reads_38 rfl (lv_at hl 0 rfl) ?_
      obtain ⟨a6, hP7, hf⟩ := lp_inv hf
      refine r_getP C hw cf10 29 (by decide) rfl hT1 hP7 fl_X10_67 dX10_reads_39 ?_
      refine lv_bipush (v := 24) hx hb dX10_reads_42 (by decide) ?_
      refine lv_iload_n hx hb dX10_reads_44 rfl (lv_at hl 1 rfl) ?_
      refine lv_imul hx hb dX10_reads_45 ?_
      refine lv_iload_n hx hb dX10_reads_46 rfl (lv_at hl 2 rfl) ?_
      refine lv_iadd hx hb dX10_reads_47 ?_
      obtain ⟨hT8, hf⟩ := gt_inv hf
      obtain ⟨hg9, hf⟩ := gd_inv hf
      refine r_iald C hw hT8 hg9 dX10_reads_48 ?_
      refine lv_istore_n (lv' := [(3, .int (mI M a6 ((24 * x1) + x2).toNatClampNeg)), (0, .ref (ad x0)), (1, .int x1), (2, .int x2)]) hx hb dX10_reads_49 rfl hl (by decide) rfl (fun ls hl => ?_)
      refine lv_iload_n hx hb dX10_reads_50 rfl (lv_at hl 0 rfl) ?_
      refine lv_ldc hx hb C.2.2.2.1 (C.2.2.2.2.1 _ kc_X10_88) dX10_reads_51 ?_
      refine lv_icmp_eq (tgt := 76) hx hb dX10_reads_53 (by decide) (fun hc => ?_) (fun hc => ?_)
      · have hf := if_p hc hf
        refine lv_iinc (v := (x2 + 1)) (lv' := [(2, .int (x2 + 1)), (3, .int (mI M a6 ((24 * x1) + x2).toNatClampNeg)), (0, .ref (ad x0)), (1, .int x1)]) hx hb dX10_reads_76 hl (k := 3) rfl rfl (by decide) rfl (fun ls hl => ?_)
        refine lv_goto (tgt := 28) hx hb dX10_reads_79 (by decide) ?_
        exact ih M x0 x1 (x2 + 1) _ _ _ hf hw (lv_sub hl [2, 3, 0] rfl)
      · have hf := if_n hc hf
        refine lv_aload_n hx hb dX10_reads_56 rfl (lv_at hl 1 rfl) ?_
        refine lv_iload_n hx hb dX10_reads_57 rfl (lv_at hl 3 rfl) ?_
        obtain ⟨r11, M10, hc12, hf⟩ := cl_inv hf
        refine fin_I (run_V C hw mf_X10_isStork mv_X10_isStork ml_X10_131 cf10 hT1 (c_X10_isStork l G A ad hc12) (As := [.int x2]) (rest := []) hl.1 rfl rfl (Nat.le_of_ble_eq_true rfl) ⟨rfl, rfl, Nat.le_of_ble_eq_true rfl, Nat.le_of_ble_eq_true rfl⟩ ⟨Nat.zero_le _, Nat.zero_le _⟩ dX10_reads_58) hw (fun H locs hw => ?_)
        refine lv_if_eq (tgt := 74) hx hb dX10_reads_61 (by decide) (fun hc => ?_) (fun hc => ?_)
        · have hf := if_p hc hf
          refine lv_iload_n hx hb dX10_reads_74 rfl (lv_at hl 3 rfl) ?_
          exact e_iret C hw hf dX10_reads_75
        · have hf := if_n hc hf
          refine lv_iload_n hx hb dX10_reads_64 rfl (lv_at hl 0 rfl) ?_
          refine lv_aload_n hx hb dX10_reads_65 rfl (lv_at hl 1 rfl) ?_
          obtain ⟨hT13, hf⟩ := gt_inv hf
          obtain ⟨a14, hP15, hf⟩ := lp_inv hf
          refine r_getP C hw cf10 6 (by decide) rfl hT13 hP15 fl_X10_26 dX10_reads_66 ?_
          refine lv_iload_n hx hb dX10_reads_69 rfl (lv_at hl 3 rfl) ?_
          obtain ⟨hT16, hf⟩ := gt_inv hf
          obtain ⟨hg17, hf⟩ := gd_inv hf
          refine r_iald C hw hT16 hg17 dX10_reads_70 ?_
          refine lv_icmp_eq (tgt := 76) hx hb dX10_reads_71 (by decide) (fun hc => ?_) (fun hc => ?_)
          · have hf := if_p hc hf
            refine lv_iinc (v := (x2 + 1)) (lv' := [(2, .int (x2 + 1)), (3, .int (mI M a6 ((24 * x1) + x2).toNatClampNeg)), (0, .ref (ad x0)), (1, .int x1)]) hx hb dX10_reads_76 hl (k := 3) rfl rfl (by decide) rfl (fun ls hl => ?_)
            refine lv_goto (tgt := 28) hx hb dX10_reads_79 (by decide) ?_
            exact ih M10 x0 x1 (x2 + 1) _ _ _ hf hw (lv_sub hl [2, 3, 0] rfl)
          · have hf := if_n hc hf
            refine lv_iload_n hx hb dX10_reads_74 rfl (lv_at hl 3 rfl) ?_
            exact e_iret C hw hf dX10_reads_75
def f_X10_reads (M : Mem) (x0 : Nat) (x1 : Int32) : Option (Int32 × Mem) := cl (f_X10_isSheet M x1) (fun r2 M1 => (if r2 = 0 then some ((-1000000001), M1) else gt (mT M1 x0) 11 (lp (mP M1 x0 27) (fun a5 => gt (mT M1 a5) 20 (gd (ib x1 (mL M1 a5)) ((if 0 ≤ (mI M1 a5 x1.toNatClampNeg) then cl (f_X10_spring M1 x0) (fun _ M9 => f_X10_reads_28 FU M9 x0 x1 0) else some ((-1000000011), M1))))))))
set_option maxHeartbeats 4000000 in
set_option maxRecDepth 100000 in
theorem c_X10_reads (l : Launch) (G : Gd) (A : Nat → Prop) (ad : Nat → Nat) {M : Mem} {x0 : Nat} {x1 : Int32}  {r : Int32} {M' : Mem} (hf : f_X10_reads M x0 x1 = some (r, M')) : Ct l yX10_reads cX10_reads 4 (some .int) rm_X10_reads [.ref (ad x0), .int x1] G A ad M (QI G A ad r M') 0 0 := by
  refine ct_start (by decide) (Nat.le_of_ble_eq_true rfl) ?_
  intro p e s m args below meth c ls C hin hw hl
  have C : Cx G A p s m args meth c RX10 cX10_reads 4 (some .int) := C
  have hl : lv_has ls 4 [(0, .ref (ad x0)), (1, .int x1)] := hl
  obtain ⟨hx, hb, -⟩ := id C
  rw [f_X10_reads] at hf
  refine lv_iload_n hx hb dX10_reads_0 rfl (lv_at hl 1 rfl) ?_
  obtain ⟨r2, M1, hc3, hf⟩ := cl_inv hf
  refine fin_I (run_S C hw mf_X10_isSheet ms_X10_isSheet ml_X10_188 (c_X10_isSheet l G A ad hc3) (As := [.int x1]) (rest := []) hl.1 rfl rfl (Nat.le_of_ble_eq_true rfl) ⟨rfl, rfl, Nat.le_of_ble_eq_true rfl, Nat.le_of_ble_eq_true rfl⟩ ⟨Nat.zero_le _, Nat.zero_le _⟩ dX10_reads_1) hw (fun H locs hw => ?_)
  refine lv_if_ne (tgt := 10) hx hb dX10_reads_4 (by decide) (fun hc => ?_) (fun hc => ?_)
  · have hf := if_n hc hf
    refine lv_aload_n hx hb dX10_reads_10 rfl (lv_at hl 0 rfl) ?_
    obtain ⟨hT4, hf⟩ := gt_inv hf
    obtain ⟨a5, hP6, hf⟩ := lp_inv hf
    refine r_getP C hw cf10 27 (by decide) rfl hT4 hP6 fl_X10_61 dX10_reads_11 ?_
    refine lv_iload_n hx hb dX10_reads_14 rfl (lv_at hl 1 rfl) ?_
    obtain ⟨hT7, hf⟩ := gt_inv hf
    obtain ⟨hg8, hf⟩ := gd_inv hf
    refine r_iald C hw hT7 hg8 dX10_reads_15 ?_
    refine lv_if_ge (tgt := 22) hx hb dX10_reads_16 (by decide) (fun hc => ?_) (fun hc => ?_)
    · have hf := if_p hc hf
      refine lv_aload_n hx hb dX10_reads_22 rfl (lv_at hl 0 rfl) ?_
      obtain ⟨⟨⟩, M9, hc11, hf⟩ := cl_inv hf
      refine fin_V (run_V C hw mf_X10_spring mv_X10_spring ml_X10_114 cf10 hT4 (c_X10_spring l G A ad hc11) (As := []) (rest := []) hl.1 rfl rfl (Nat.le_of_ble_eq_true rfl) ⟨rfl, rfl, Nat.le_of_ble_eq_true rfl, Nat.le_of_ble_eq_true rfl⟩ ⟨Nat.zero_le _, Nat.zero_le _⟩ dX10_reads_23) hw (fun H locs hw => ?_)
      refine lv_iconst (v := 0) hx hb dX10_reads_26 (by decide) ?_
      refine lv_istore_n (lv' := [(2, .int 0), (0, .ref (ad x0)), (1, .int x1)]) hx hb dX10_reads_27 rfl hl (by decide) rfl (fun ls hl => ?_)
      exact t_X10_reads_28 C FU M9 x0 x1 0 _ _ _ hf hw (lv_sub hl [1, 2, 0] rfl)
    · have hf := if_n hc hf
      refine lv_ldc hx hb C.2.2.2.1 (C.2.2.2.2.1 _ kc_X10_191) dX10_reads_19 ?_
      exact e_iret C hw hf dX10_reads_21
  · have hf := if_p hc hf
    refine lv_ldc hx hb C.2.2.2.1 (C.2.2.2.2.1 _ kc_X10_97) dX10_reads_7 ?_
    exact e_iret C hw hf dX10_reads_9
/-! StorkVoteModel.copy(IIIII)I -/
abbrev rm_X10_copy : Room := { frames := 2, cells := 0, slots := 0, locals := 42 }
def f_X10_copy_141 : Nat → Mem → Nat → Int32 → Int32 → Int32 → Int32 → Option (Int32 × Mem)
  | 0, _, _, _, _, _, _ => none
  | n + 1, M, x0, x3, x4, x5, x6 => (if x5 ≤ x6 then some (x5, M) else gt (mT M x0) 11 (lp (mP M x0 29) (fun a2 => lp (mP M x0 34) (fun a4 => gt (mT M a4) 20 (gd (ib x6 (mL M a4)) (gt (mT M a2) 20 (gd (ib (((24 * x3) + x4) + x6) (mL M a2)) (st (setI M a2 (((24 * x3) + x4) + x6).toNatClampNeg (mI M a4 x6.toNatClampNeg)) (fun M10 => f_X10_copy_141 n M10 x0 x3 x4 x5 (x6 + 1))))))))))
set_option maxHeartbeats 4000000 in
set_option maxRecDepth 100000 in
theorem t_X10_copy_141 {l : Launch} {p : Program} {e : Env} {s : State} {m : MethodId} {args : Array Value} {below : List Frame} {meth : Method} {c : Code} {G : Gd} {A : Nat → Prop} {ad : Nat → Nat} (C : Cx G A p s m args meth c RX10 cX10_copy 7 (some .int)) {r : Int32} {M' : Mem} : ∀ (n : Nat) (M : Mem) (x0 : Nat) (x3 : Int32) (x4 : Int32) (x5 : Int32) (x6 : Int32) (H : Heap) (locs : List Loc) (ls : Array Slot), f_X10_copy_141  n M x0 x3 x4 x5 x6 = some (r, M') → Wd G A ad s.heap M H locs → lv_has ls 7 [(0, .ref (ad x0)), (3, .int x3), (4, .int x4), (5, .int x5), (6, .int x6)] → W p l e rm_X10_copy s m args below meth c H locs 0 0 (MQ below (QI G A ad r M') args s 0 0 A) (F0 m 141 ls []) := by
  obtain ⟨hx, hb, -⟩ := id C
  intro n
  induction n with
  | zero =>
    intro M x0 x3 x4 x5 x6 H locs ls hf
    rw [f_X10_copy_141] at hf
    exact absurd hf (fun h => nomatch h)
  | succ n ih =>
    intro M x0 x3 x4 x5 x6 H locs ls hf hw hl
    rw [f_X10_copy_141] at hf
    refine lv_iload hx hb dX10_copy_141 (lv_at hl 4 rfl) ?_
    refine lv_iload hx hb dX10_copy_143 (lv_at hl 3 rfl) ?_
    refine lv_icmp_ge (tgt := 176) hx hb dX10_copy_145 (by decide) (fun hc => ?_) (fun hc => ?_)
    · have hf := if_p hc hf
      refine lv_iload hx hb dX10_copy_176 (lv_at hl 3 rfl) ?_
      exact e_iret C hw hf dX10_copy_178
    · have hf := if_n hc hf
      refine lv_aload_n hx hb dX10_copy_148 rfl (lv_at hl 0 rfl) ?_
      obtain ⟨hT1, hf⟩ := gt_inv hf
      obtain ⟨a2, hP3, hf⟩ := lp_inv hf
      refine r_getP C hw cf10 29 (by decide) rfl hT1 hP3 fl_X10_67 dX10_copy_149 ?_
      refine lv_bipush (v := 24) hx hb dX10_copy_152 (by decide) ?_
      refine lv_iload_n hx hb dX10_copy_154 rfl (lv_at hl 1 rfl) ?_
      refine lv_imul hx hb dX10_copy_155 ?_
      refine lv_iload hx hb dX10_copy_156 (lv_at hl 2 rfl) ?_
      refine lv_iadd hx hb dX10_copy_158 ?_
      refine lv_iload hx hb dX10_copy_159 (lv_at hl 4 rfl) ?_
      refine lv_iadd hx hb dX10_copy_161 ?_
      refine lv_aload_n hx hb dX10_copy_162 rfl (lv_at hl 0 rfl) ?_
      obtain ⟨a4, hP5, hf⟩ := lp_inv hf
      refine r_getP C hw cf10 34 (by decide) rfl hT1 hP5 fl_X10_82 dX10_copy_163 ?_
      refine lv_iload hx hb dX10_copy_166 (lv_at hl 4 rfl) ?_
      obtain ⟨hT6, hf⟩ := gt_inv hf
      obtain ⟨hg7, hf⟩ := gd_inv hf
      refine r_iald C hw hT6 hg7 dX10_copy_168 ?_
      obtain ⟨hT8, hf⟩ := gt_inv hf
      obtain ⟨hg9, hf⟩ := gd_inv hf
      obtain ⟨M10, e11, hf⟩ := st_inv hf
      have g12 := sg_I e11
      refine r_iast C hw hT8 hg9 e11 dX10_copy_169 (fun H locs hw => ?_)
      refine lv_iinc (v := (x6 + 1)) (lv' := [(6, .int (x6 + 1)), (0, .ref (ad x0)), (3, .int x3), (4, .int x4), (5, .int x5)]) hx hb dX10_copy_170 hl (k := 4) rfl rfl (by decide) rfl (fun ls hl => ?_)
      refine lv_goto (tgt := 141) hx hb dX10_copy_173 (by decide) ?_
      exact ih M10 x0 x3 x4 x5 (x6 + 1) _ _ _ hf hw (lv_sub hl [1, 2, 3, 4, 0] rfl)
def f_X10_copy_104 : Nat → Mem → Nat → Int32 → Int32 → Int32 → Int32 → Int32 → Int32 → Option (Int32 × Mem)
  | 0, _, _, _, _, _, _, _, _ => none
  | n + 1, M, x0, x1, x2, x3, x4, x5, x6 => (if x5 ≤ x6 then f_X10_copy_141 FU M x0 x3 x4 x5 0 else gt (mT M x0) 11 (lp (mP M x0 34) (fun a2 => lp (mP M x0 29) (fun a4 => gt (mT M a4) 20 (gd (ib (((24 * x1) + x2) + x6) (mL M a4)) (gt (mT M a2) 20 (gd (ib x6 (mL M a2)) (st (setI M a2 x6.toNatClampNeg (mI M a4 (((24 * x1) + x2) + x6).toNatClampNeg)) (fun M10 => f_X10_copy_104 n M10 x0 x1 x2 x3 x4 x5 (x6 + 1))))))))))
set_option maxHeartbeats 4000000 in
set_option maxRecDepth 100000 in
theorem t_X10_copy_104 {l : Launch} {p : Program} {e : Env} {s : State} {m : MethodId} {args : Array Value} {below : List Frame} {meth : Method} {c : Code} {G : Gd} {A : Nat → Prop} {ad : Nat → Nat} (C : Cx G A p s m args meth c RX10 cX10_copy 7 (some .int)) {r : Int32} {M' : Mem} : ∀ (n : Nat) (M : Mem) (x0 : Nat) (x1 : Int32) (x2 : Int32) (x3 : Int32) (x4 : Int32) (x5 : Int32) (x6 : Int32) (H : Heap) (locs : List Loc) (ls : Array Slot), f_X10_copy_104  n M x0 x1 x2 x3 x4 x5 x6 = some (r, M') → Wd G A ad s.heap M H locs → lv_has ls 7 [(0, .ref (ad x0)), (1, .int x1), (2, .int x2), (3, .int x3), (4, .int x4), (5, .int x5), (6, .int x6)] → W p l e rm_X10_copy s m args below meth c H locs 0 0 (MQ below (QI G A ad r M') args s 0 0 A) (F0 m 104 ls []) := by
  obtain ⟨hx, hb, -⟩ := id C
  intro n
  induction n with
  | zero =>
    intro M x0 x1 x2 x3 x4 x5 x6 H locs ls hf
    rw [f_X10_copy_104] at hf
    exact absurd hf (fun h => nomatch h)
  | succ n ih =>
    intro M x0 x1 x2 x3 x4 x5 x6 H locs ls hf hw hl
    rw [f_X10_copy_104] at hf
    refine lv_iload hx hb dX10_copy_104 (lv_at hl 6 rfl) ?_
    refine lv_iload hx hb dX10_copy_106 (lv_at hl 5 rfl) ?_
    refine lv_icmp_ge (tgt := 138) hx hb dX10_copy_108 (by decide) (fun hc => ?_) (fun hc => ?_)
    · have hf := if_p hc hf
      refine lv_iconst (v := 0) hx hb dX10_copy_138 (by decide) ?_
      refine lv_istore (lv' := [(6, .int 0), (0, .ref (ad x0)), (1, .int x1), (2, .int x2), (3, .int x3), (4, .int x4), (5, .int x5)]) hx hb dX10_copy_139 hl (by decide) rfl (fun ls hl => ?_)
      exact t_X10_copy_141 C FU M x0 x3 x4 x5 0 _ _ _ hf hw (lv_sub hl [1, 4, 5, 6, 0] rfl)
    · have hf := if_n hc hf
      refine lv_aload_n hx hb dX10_copy_111 rfl (lv_at hl 0 rfl) ?_
      obtain ⟨hT1, hf⟩ := gt_inv hf
      obtain ⟨a2, hP3, hf⟩ := lp_inv hf
      refine r_getP C hw cf10 34 (by decide) rfl hT1 hP3 fl_X10_82 dX10_copy_112 ?_
      refine lv_iload hx hb dX10_copy_115 (lv_at hl 6 rfl) ?_
      refine lv_aload_n hx hb dX10_copy_117 rfl (lv_at hl 0 rfl) ?_
      obtain ⟨a4, hP5, hf⟩ := lp_inv hf
      refine r_getP C hw cf10 29 (by decide) rfl hT1 hP5 fl_X10_67 dX10_copy_118 ?_
      refine lv_bipush (v := 24) hx hb dX10_copy_121 (by decide) ?_
      refine lv_iload_n hx hb dX10_copy_123 rfl (lv_at hl 1 rfl) ?_
      refine lv_imul hx hb dX10_copy_124 ?_
      refine lv_iload_n hx hb dX10_copy_125 rfl (lv_at hl 2 rfl) ?_
      refine lv_iadd hx hb dX10_copy_126 ?_
      refine lv_iload hx hb dX10_copy_127 (lv_at hl 6 rfl) ?_
      refine lv_iadd hx hb dX10_copy_129 ?_
      obtain ⟨hT6, hf⟩ := gt_inv hf
      obtain ⟨hg7, hf⟩ := gd_inv hf
      refine r_iald C hw hT6 hg7 dX10_copy_130 ?_
      obtain ⟨hT8, hf⟩ := gt_inv hf
      obtain ⟨hg9, hf⟩ := gd_inv hf
      obtain ⟨M10, e11, hf⟩ := st_inv hf
      have g12 := sg_I e11
      refine r_iast C hw hT8 hg9 e11 dX10_copy_131 (fun H locs hw => ?_)
      refine lv_iinc (v := (x6 + 1)) (lv' := [(6, .int (x6 + 1)), (0, .ref (ad x0)), (1, .int x1), (2, .int x2), (3, .int x3), (4, .int x4), (5, .int x5)]) hx hb dX10_copy_132 hl (k := 6) rfl rfl (by decide) rfl (fun ls hl => ?_)
      refine lv_goto (tgt := 104) hx hb dX10_copy_135 (by decide) ?_
      exact ih M10 x0 x1 x2 x3 x4 x5 (x6 + 1) _ _ _ hf hw (lv_sub hl [1, 2, 3, 4, 5, 6, 0] rfl)
def f_X10_copy (M : Mem) (x0 : Nat) (x1 : Int32) (x2 : Int32) (x3 : Int32) (x4 : Int32) (x5 : Int32) : Option (Int32 × Mem) := cl (f_X10_isSheet M x1) (fun r2 M1 => (if r2 = 0 then some ((-1000000001), M1) else cl (f_X10_isSheet M1 x3) (fun r5 M4 => (if r5 = 0 then some ((-1000000001), M4) else gt (mT M4 x0) 11 (lp (mP M4 x0 27) (fun a8 => gt (mT M4 a8) 20 (gd (ib x1 (mL M4 a8)) ((if (mI M4 a8 x1.toNatClampNeg) < 0 then some ((-1000000011), M4) else gd (ib x3 (mL M4 a8)) ((if 0 ≤ (mI M4 a8 x3.toNatClampNeg) then gd (ib x1 (mL M4 a8)) (gd (ib x3 (mL M4 a8)) ((if (mI M4 a8 x1.toNatClampNeg) = (mI M4 a8 x3.toNatClampNeg) then (if x2 < 0 then some ((-1000000013), M4) else (if x4 < 0 then some ((-1000000013), M4) else (if x5 < 0 then some ((-1000000013), M4) else lp (mP M4 x0 28) (fun a15 => gt (mT M4 a15) 20 (gd (ib x1 (mL M4 a15)) ((if ((mI M4 a15 x1.toNatClampNeg) - x5) < x2 then some ((-1000000013), M4) else gd (ib x3 (mL M4 a15)) ((if x4 ≤ ((mI M4 a15 x3.toNatClampNeg) - x5) then f_X10_copy_104 FU M4 x0 x1 x2 x3 x4 x5 0 else some ((-1000000013), M4)))))))))) else some ((-1000000012), M4)))) else some ((-1000000011), M4))))))))))))
set_option maxHeartbeats 4000000 in
set_option maxRecDepth 100000 in
theorem c_X10_copy (l : Launch) (G : Gd) (A : Nat → Prop) (ad : Nat → Nat) {M : Mem} {x0 : Nat} {x1 : Int32} {x2 : Int32} {x3 : Int32} {x4 : Int32} {x5 : Int32}  {r : Int32} {M' : Mem} (hf : f_X10_copy M x0 x1 x2 x3 x4 x5 = some (r, M')) : Ct l yX10_copy cX10_copy 7 (some .int) rm_X10_copy [.ref (ad x0), .int x1, .int x2, .int x3, .int x4, .int x5] G A ad M (QI G A ad r M') 0 0 := by
  refine ct_start (by decide) (Nat.le_of_ble_eq_true rfl) ?_
  intro p e s m args below meth c ls C hin hw hl
  have C : Cx G A p s m args meth c RX10 cX10_copy 7 (some .int) := C
  have hl : lv_has ls 7 [(0, .ref (ad x0)), (1, .int x1), (2, .int x2), (3, .int x3), (4, .int x4), (5, .int x5)] := hl
  obtain ⟨hx, hb, -⟩ := id C
  rw [f_X10_copy] at hf
  refine lv_iload_n hx hb dX10_copy_0 rfl (lv_at hl 1 rfl) ?_
  obtain ⟨r2, M1, hc3, hf⟩ := cl_inv hf
  refine fin_I (run_S C hw mf_X10_isSheet ms_X10_isSheet ml_X10_188 (c_X10_isSheet l G A ad hc3) (As := [.int x1]) (rest := []) hl.1 rfl rfl (Nat.le_of_ble_eq_true rfl) ⟨rfl, rfl, Nat.le_of_ble_eq_true rfl, Nat.le_of_ble_eq_true rfl⟩ ⟨Nat.zero_le _, Nat.zero_le _⟩ dX10_copy_1) hw (fun H locs hw => ?_)
  refine lv_if_eq (tgt := 14) hx hb dX10_copy_4 (by decide) (fun hc => ?_) (fun hc => ?_)
  · have hf := if_p hc hf
    refine lv_ldc hx hb C.2.2.2.1 (C.2.2.2.2.1 _ kc_X10_97) dX10_copy_14 ?_
    exact e_iret C hw hf dX10_copy_16
  · have hf := if_n hc hf
    refine lv_iload_n hx hb dX10_copy_7 rfl (lv_at hl 3 rfl) ?_
    obtain ⟨r5, M4, hc6, hf⟩ := cl_inv hf
    refine fin_I (run_S C hw mf_X10_isSheet ms_X10_isSheet ml_X10_188 (c_X10_isSheet l G A ad hc6) (As := [.int x3]) (rest := []) hl.1 rfl rfl (Nat.le_of_ble_eq_true rfl) ⟨rfl, rfl, Nat.le_of_ble_eq_true rfl, Nat.le_of_ble_eq_true rfl⟩ ⟨Nat.zero_le _, Nat.zero_le _⟩ dX10_copy_8) hw (fun H locs hw => ?_)
    refine lv_if_ne (tgt := 17) hx hb dX10_copy_11 (by decide) (fun hc => ?_) (fun hc => ?_)
    · have hf := if_n hc hf
      refine lv_aload_n hx hb dX10_copy_17 rfl (lv_at hl 0 rfl) ?_
      obtain ⟨hT7, hf⟩ := gt_inv hf
      obtain ⟨a8, hP9, hf⟩ := lp_inv hf
      refine r_getP C hw cf10 27 (by decide) rfl hT7 hP9 fl_X10_61 dX10_copy_18 ?_
      refine lv_iload_n hx hb dX10_copy_21 rfl (lv_at hl 1 rfl) ?_
      obtain ⟨hT10, hf⟩ := gt_inv hf
      obtain ⟨hg11, hf⟩ := gd_inv hf
      refine r_iald C hw hT10 hg11 dX10_copy_22 ?_
      refine lv_if_lt (tgt := 35) hx hb dX10_copy_23 (by decide) (fun hc => ?_) (fun hc => ?_)
      · have hf := if_p hc hf
        refine lv_ldc hx hb C.2.2.2.1 (C.2.2.2.2.1 _ kc_X10_191) dX10_copy_35 ?_
        exact e_iret C hw hf dX10_copy_37
      · have hf := if_n hc hf
        refine lv_aload_n hx hb dX10_copy_26 rfl (lv_at hl 0 rfl) ?_
        refine r_getP C hw cf10 27 (by decide) rfl hT7 hP9 fl_X10_61 dX10_copy_27 ?_
        refine lv_iload_n hx hb dX10_copy_30 rfl (lv_at hl 3 rfl) ?_
        obtain ⟨hg12, hf⟩ := gd_inv hf
        refine r_iald C hw hT10 hg12 dX10_copy_31 ?_
        refine lv_if_ge (tgt := 38) hx hb dX10_copy_32 (by decide) (fun hc => ?_) (fun hc => ?_)
        · have hf := if_p hc hf
          refine lv_aload_n hx hb dX10_copy_38 rfl (lv_at hl 0 rfl) ?_
          refine r_getP C hw cf10 27 (by decide) rfl hT7 hP9 fl_X10_61 dX10_copy_39 ?_
          refine lv_iload_n hx hb dX10_copy_42 rfl (lv_at hl 1 rfl) ?_
          obtain ⟨hg13, hf⟩ := gd_inv hf
          refine r_iald C hw hT10 hg13 dX10_copy_43 ?_
          refine lv_aload_n hx hb dX10_copy_44 rfl (lv_at hl 0 rfl) ?_
          refine r_getP C hw cf10 27 (by decide) rfl hT7 hP9 fl_X10_61 dX10_copy_45 ?_
          refine lv_iload_n hx hb dX10_copy_48 rfl (lv_at hl 3 rfl) ?_
          obtain ⟨hg14, hf⟩ := gd_inv hf
          refine r_iald C hw hT10 hg14 dX10_copy_49 ?_
          refine lv_icmp_eq (tgt := 56) hx hb dX10_copy_50 (by decide) (fun hc => ?_) (fun hc => ?_)
          · have hf := if_p hc hf
            refine lv_iload_n hx hb dX10_copy_56 rfl (lv_at hl 2 rfl) ?_
            refine lv_if_lt (tgt := 97) hx hb dX10_copy_57 (by decide) (fun hc => ?_) (fun hc => ?_)
            · have hf := if_p hc hf
              refine lv_ldcw hx hb C.2.2.2.1 (C.2.2.2.2.1 _ kc_X10_267) dX10_copy_97 ?_
              exact e_iret C hw hf dX10_copy_100
            · have hf := if_n hc hf
              refine lv_iload hx hb dX10_copy_60 (lv_at hl 4 rfl) ?_
              refine lv_if_lt (tgt := 97) hx hb dX10_copy_62 (by decide) (fun hc => ?_) (fun hc => ?_)
              · have hf := if_p hc hf
                refine lv_ldcw hx hb C.2.2.2.1 (C.2.2.2.2.1 _ kc_X10_267) dX10_copy_97 ?_
                exact e_iret C hw hf dX10_copy_100
              · have hf := if_n hc hf
                refine lv_iload hx hb dX10_copy_65 (lv_at hl 5 rfl) ?_
                refine lv_if_lt (tgt := 97) hx hb dX10_copy_67 (by decide) (fun hc => ?_) (fun hc => ?_)
                · have hf := if_p hc hf
                  refine lv_ldcw hx hb C.2.2.2.1 (C.2.2.2.2.1 _ kc_X10_267) dX10_copy_97 ?_
                  exact e_iret C hw hf dX10_copy_100
                · have hf := if_n hc hf
                  refine lv_iload_n hx hb dX10_copy_70 rfl (lv_at hl 2 rfl) ?_
                  refine lv_aload_n hx hb dX10_copy_71 rfl (lv_at hl 0 rfl) ?_
                  obtain ⟨a15, hP16, hf⟩ := lp_inv hf
                  refine r_getP C hw cf10 28 (by decide) rfl hT7 hP16 fl_X10_64 dX10_copy_72 ?_
                  refine lv_iload_n hx hb dX10_copy_75 rfl (lv_at hl 1 rfl) ?_
                  obtain ⟨hT17, hf⟩ := gt_inv hf
                  obtain ⟨hg18, hf⟩ := gd_inv hf
                  refine r_iald C hw hT17 hg18 dX10_copy_76 ?_
                  refine lv_iload hx hb dX10_copy_77 (lv_at hl 5 rfl) ?_
                  refine lv_isub hx hb dX10_copy_79 ?_
                  refine lv_icmp_gt (tgt := 97) hx hb dX10_copy_80 (by decide) (fun hc => ?_) (fun hc => ?_)
                  · have hf := if_p hc hf
                    refine lv_ldcw hx hb C.2.2.2.1 (C.2.2.2.2.1 _ kc_X10_267) dX10_copy_97 ?_
                    exact e_iret C hw hf dX10_copy_100
                  · have hf := if_n hc hf
                    refine lv_iload hx hb dX10_copy_83 (lv_at hl 4 rfl) ?_
                    refine lv_aload_n hx hb dX10_copy_85 rfl (lv_at hl 0 rfl) ?_
                    refine r_getP C hw cf10 28 (by decide) rfl hT7 hP16 fl_X10_64 dX10_copy_86 ?_
                    refine lv_iload_n hx hb dX10_copy_89 rfl (lv_at hl 3 rfl) ?_
                    obtain ⟨hg19, hf⟩ := gd_inv hf
                    refine r_iald C hw hT17 hg19 dX10_copy_90 ?_
                    refine lv_iload hx hb dX10_copy_91 (lv_at hl 5 rfl) ?_
                    refine lv_isub hx hb dX10_copy_93 ?_
                    refine lv_icmp_le (tgt := 101) hx hb dX10_copy_94 (by decide) (fun hc => ?_) (fun hc => ?_)
                    · have hf := if_p hc hf
                      refine lv_iconst (v := 0) hx hb dX10_copy_101 (by decide) ?_
                      refine lv_istore (lv' := [(6, .int 0), (0, .ref (ad x0)), (1, .int x1), (2, .int x2), (3, .int x3), (4, .int x4), (5, .int x5)]) hx hb dX10_copy_102 hl (by decide) rfl (fun ls hl => ?_)
                      exact t_X10_copy_104 C FU M4 x0 x1 x2 x3 x4 x5 0 _ _ _ hf hw (lv_sub hl [1, 2, 3, 4, 5, 6, 0] rfl)
                    · have hf := if_n hc hf
                      refine lv_ldcw hx hb C.2.2.2.1 (C.2.2.2.2.1 _ kc_X10_267) dX10_copy_97 ?_
                      exact e_iret C hw hf dX10_copy_100
          · have hf := if_n hc hf
            refine lv_ldc hx hb C.2.2.2.1 (C.2.2.2.2.1 _ kc_X10_124) dX10_copy_53 ?_
            exact e_iret C hw hf dX10_copy_55
        · have hf := if_n hc hf
          refine lv_ldc hx hb C.2.2.2.1 (C.2.2.2.2.1 _ kc_X10_191) dX10_copy_35 ?_
          exact e_iret C hw hf dX10_copy_37
    · have hf := if_p hc hf
      refine lv_ldc hx hb C.2.2.2.1 (C.2.2.2.2.1 _ kc_X10_97) dX10_copy_14 ?_
      exact e_iret C hw hf dX10_copy_16
/-! StorkVoteModel.lay(III)I -/
abbrev rm_X10_lay : Room := { frames := 2, cells := 0, slots := 0, locals := 44 }
def f_X10_lay_134 : Nat → Mem → Nat → Int32 → Int32 → Int32 → Int32 → Int32 → Option (Int32 × Mem)
  | 0, _, _, _, _, _, _, _ => none
  | n + 1, M, x0, x1, x2, x3, x4, x5 => (if 24 ≤ x5 then some (x4, M) else (if x2 = 2 then gt (mT M x0) 11 (lp (mP M x0 33) (fun a2 => lp (mP M x0 29) (fun a4 => gt (mT M a4) 20 (gd (ib ((24 * x3) + x5) (mL M a4)) (gt (mT M a2) 20 (gd (ib ((24 * x1) + x5) (mL M a2)) (st (setI M a2 ((24 * x1) + x5).toNatClampNeg (mI M a4 ((24 * x3) + x5).toNatClampNeg)) (fun M10 => f_X10_lay_134 n M10 x0 x1 x2 x3 x4 (x5 + 1))))))))) else some (x4, M)))
set_option maxHeartbeats 4000000 in
set_option maxRecDepth 100000 in
theorem t_X10_lay_134 {l : Launch} {p : Program} {e : Env} {s : State} {m : MethodId} {args : Array Value} {below : List Frame} {meth : Method} {c : Code} {G : Gd} {A : Nat → Prop} {ad : Nat → Nat} (C : Cx G A p s m args meth c RX10 cX10_lay 6 (some .int)) {r : Int32} {M' : Mem} : ∀ (n : Nat) (M : Mem) (x0 : Nat) (x1 : Int32) (x2 : Int32) (x3 : Int32) (x4 : Int32) (x5 : Int32) (H : Heap) (locs : List Loc) (ls : Array Slot), f_X10_lay_134  n M x0 x1 x2 x3 x4 x5 = some (r, M') → Wd G A ad s.heap M H locs → lv_has ls 6 [(0, .ref (ad x0)), (1, .int x1), (2, .int x2), (3, .int x3), (4, .int x4), (5, .int x5)] → W p l e rm_X10_lay s m args below meth c H locs 0 0 (MQ below (QI G A ad r M') args s 0 0 A) (F0 m 134 ls []) := by
  obtain ⟨hx, hb, -⟩ := id C
  intro n
  induction n with
  | zero =>
    intro M x0 x1 x2 x3 x4 x5 H locs ls hf
    rw [f_X10_lay_134] at hf
    exact absurd hf (fun h => nomatch h)
  | succ n ih =>
    intro M x0 x1 x2 x3 x4 x5 H locs ls hf hw hl
    rw [f_X10_lay_134] at hf
    refine lv_iload hx hb dX10_lay_134 (lv_at hl 5 rfl) ?_
    refine lv_bipush (v := 24) hx hb dX10_lay_136 (by decide) ?_
    refine lv_icmp_ge (tgt := 176) hx hb dX10_lay_138 (by decide) (fun hc => ?_) (fun hc => ?_)
    · have hf := if_p hc hf
      refine lv_iload hx hb dX10_lay_176 (lv_at hl 4 rfl) ?_
      exact e_iret C hw hf dX10_lay_178
    · have hf := if_n hc hf
      refine lv_iload_n hx hb dX10_lay_141 rfl (lv_at hl 2 rfl) ?_
      refine lv_iconst (v := 2) hx hb dX10_lay_142 (by decide) ?_
      refine lv_icmp_ne (tgt := 176) hx hb dX10_lay_143 (by decide) (fun hc => ?_) (fun hc => ?_)
      · have hf := if_n hc hf
        refine lv_iload hx hb dX10_lay_176 (lv_at hl 4 rfl) ?_
        exact e_iret C hw hf dX10_lay_178
      · have hf := if_p hc hf
        refine lv_aload_n hx hb dX10_lay_146 rfl (lv_at hl 0 rfl) ?_
        obtain ⟨hT1, hf⟩ := gt_inv hf
        obtain ⟨a2, hP3, hf⟩ := lp_inv hf
        refine r_getP C hw cf10 33 (by decide) rfl hT1 hP3 fl_X10_79 dX10_lay_147 ?_
        refine lv_bipush (v := 24) hx hb dX10_lay_150 (by decide) ?_
        refine lv_iload_n hx hb dX10_lay_152 rfl (lv_at hl 1 rfl) ?_
        refine lv_imul hx hb dX10_lay_153 ?_
        refine lv_iload hx hb dX10_lay_154 (lv_at hl 5 rfl) ?_
        refine lv_iadd hx hb dX10_lay_156 ?_
        refine lv_aload_n hx hb dX10_lay_157 rfl (lv_at hl 0 rfl) ?_
        obtain ⟨a4, hP5, hf⟩ := lp_inv hf
        refine r_getP C hw cf10 29 (by decide) rfl hT1 hP5 fl_X10_67 dX10_lay_158 ?_
        refine lv_bipush (v := 24) hx hb dX10_lay_161 (by decide) ?_
        refine lv_iload_n hx hb dX10_lay_163 rfl (lv_at hl 3 rfl) ?_
        refine lv_imul hx hb dX10_lay_164 ?_
        refine lv_iload hx hb dX10_lay_165 (lv_at hl 5 rfl) ?_
        refine lv_iadd hx hb dX10_lay_167 ?_
        obtain ⟨hT6, hf⟩ := gt_inv hf
        obtain ⟨hg7, hf⟩ := gd_inv hf
        refine r_iald C hw hT6 hg7 dX10_lay_168 ?_
        obtain ⟨hT8, hf⟩ := gt_inv hf
        obtain ⟨hg9, hf⟩ := gd_inv hf
        obtain ⟨M10, e11, hf⟩ := st_inv hf
        have g12 := sg_I e11
        refine r_iast C hw hT8 hg9 e11 dX10_lay_169 (fun H locs hw => ?_)
        refine lv_iinc (v := (x5 + 1)) (lv' := [(5, .int (x5 + 1)), (0, .ref (ad x0)), (1, .int x1), (2, .int x2), (3, .int x3), (4, .int x4)]) hx hb dX10_lay_170 hl (k := 5) rfl rfl (by decide) rfl (fun ls hl => ?_)
        refine lv_goto (tgt := 134) hx hb dX10_lay_173 (by decide) ?_
        exact ih M10 x0 x1 x2 x3 x4 (x5 + 1) _ _ _ hf hw (lv_sub hl [1, 2, 3, 4, 5, 0] rfl)
def f_X10_lay_130 (M : Mem) (x0 : Nat) (x1 : Int32) (x2 : Int32) (x3 : Int32) (x4 : Int32) (s0 : Nat) (s1 : Int32) (s2 : Int32) : Option (Int32 × Mem) := gt (mT M s0) 20 (gd (ib s1 (mL M s0)) (st (setI M s0 s1.toNatClampNeg s2) (fun M3 => f_X10_lay_134 FU M3 x0 x1 x2 x3 x4 0)))
set_option maxHeartbeats 4000000 in
set_option maxRecDepth 100000 in
theorem t_X10_lay_130 {l : Launch} {p : Program} {e : Env} {s : State} {m : MethodId} {args : Array Value} {below : List Frame} {meth : Method} {c : Code} {G : Gd} {A : Nat → Prop} {ad : Nat → Nat} (C : Cx G A p s m args meth c RX10 cX10_lay 6 (some .int)) {r : Int32} {M' : Mem} : ∀ (M : Mem) (x0 : Nat) (x1 : Int32) (x2 : Int32) (x3 : Int32) (x4 : Int32) (s0 : Nat) (s1 : Int32) (s2 : Int32) (H : Heap) (locs : List Loc) (ls : Array Slot), f_X10_lay_130  M x0 x1 x2 x3 x4 s0 s1 s2 = some (r, M') → Wd G A ad s.heap M H locs → lv_has ls 6 [(0, .ref (ad x0)), (1, .int x1), (2, .int x2), (3, .int x3), (4, .int x4)] → W p l e rm_X10_lay s m args below meth c H locs 0 0 (MQ below (QI G A ad r M') args s 0 0 A) (F0 m 130 ls [.int s2, .int s1, .ref (ad s0)]) := by
  obtain ⟨hx, hb, -⟩ := id C
  intro M x0 x1 x2 x3 x4 s0 s1 s2 H locs ls hf hw hl
  rw [f_X10_lay_130] at hf
  obtain ⟨hT1, hf⟩ := gt_inv hf
  obtain ⟨hg2, hf⟩ := gd_inv hf
  obtain ⟨M3, e4, hf⟩ := st_inv hf
  have g5 := sg_I e4
  refine r_iast C hw hT1 hg2 e4 dX10_lay_130 (fun H locs hw => ?_)
  refine lv_iconst (v := 0) hx hb dX10_lay_131 (by decide) ?_
  refine lv_istore (lv' := [(5, .int 0), (0, .ref (ad x0)), (1, .int x1), (2, .int x2), (3, .int x3), (4, .int x4)]) hx hb dX10_lay_132 hl (by decide) rfl (fun ls hl => ?_)
  exact t_X10_lay_134 C FU M3 x0 x1 x2 x3 x4 0 _ _ _ hf hw (lv_sub hl [1, 2, 3, 4, 5, 0] rfl)
def f_X10_lay_110 (M : Mem) (x0 : Nat) (x1 : Int32) (x2 : Int32) (x3 : Int32) (x4 : Int32) (s0 : Nat) (s1 : Int32) (s2 : Int32) : Option (Int32 × Mem) := gt (mT M s0) 20 (gd (ib s1 (mL M s0)) (st (setI M s0 s1.toNatClampNeg s2) (fun M3 => gt (mT M3 x0) 11 (lp (mP M3 x0 32) (fun a7 => (if x2 = 1 then cl (f_X10_worthOf M3 x0 x3) (fun r10 M9 => f_X10_lay_130 M9 x0 x1 x2 x3 x4 a7 x1 r10) else f_X10_lay_130 M3 x0 x1 x2 x3 x4 a7 x1 0))))))
set_option maxHeartbeats 4000000 in
set_option maxRecDepth 100000 in
theorem t_X10_lay_110 {l : Launch} {p : Program} {e : Env} {s : State} {m : MethodId} {args : Array Value} {below : List Frame} {meth : Method} {c : Code} {G : Gd} {A : Nat → Prop} {ad : Nat → Nat} (C : Cx G A p s m args meth c RX10 cX10_lay 6 (some .int)) {r : Int32} {M' : Mem} : ∀ (M : Mem) (x0 : Nat) (x1 : Int32) (x2 : Int32) (x3 : Int32) (x4 : Int32) (s0 : Nat) (s1 : Int32) (s2 : Int32) (H : Heap) (locs : List Loc) (ls : Array Slot), f_X10_lay_110  M x0 x1 x2 x3 x4 s0 s1 s2 = some (r, M') → Wd G A ad s.heap M H locs → lv_has ls 6 [(0, .ref (ad x0)), (1, .int x1), (2, .int x2), (3, .int x3), (4, .int x4)] → W p l e rm_X10_lay s m args below meth c H locs 0 0 (MQ below (QI G A ad r M') args s 0 0 A) (F0 m 110 ls [.int s2, .int s1, .ref (ad s0)]) := by
  obtain ⟨hx, hb, -⟩ := id C
  intro M x0 x1 x2 x3 x4 s0 s1 s2 H locs ls hf hw hl
  rw [f_X10_lay_110] at hf
  obtain ⟨hT1, hf⟩ := gt_inv hf
  obtain ⟨hg2, hf⟩ := gd_inv hf
  obtain ⟨M3, e4, hf⟩ := st_inv hf
  have g5 := sg_I e4
  refine r_iast C hw hT1 hg2 e4 dX10_lay_110 (fun H locs hw => ?_)
  refine lv_aload_n hx hb dX10_lay_111 rfl (lv_at hl 0 rfl) ?_
  obtain ⟨hT6, hf⟩ := gt_inv hf
  obtain ⟨a7, hP8, hf⟩ := lp_inv hf
  refine r_getP C hw cf10 32 (by decide) rfl hT6 hP8 fl_X10_76 dX10_lay_112 ?_
  refine lv_iload_n hx hb dX10_lay_115 rfl (lv_at hl 1 rfl) ?_
  refine lv_iload_n hx hb dX10_lay_116 rfl (lv_at hl 2 rfl) ?_
  refine lv_iconst (v := 1) hx hb dX10_lay_117 (by decide) ?_
  refine lv_icmp_ne (tgt := 129) hx hb dX10_lay_118 (by decide) (fun hc => ?_) (fun hc => ?_)
  · have hf := if_n hc hf
    refine lv_iconst (v := 0) hx hb dX10_lay_129 (by decide) ?_
    exact t_X10_lay_130 C M3 x0 x1 x2 x3 x4 a7 x1 0 _ _ _ hf hw (lv_sub hl [0, 1, 2, 3, 4] rfl)
  · have hf := if_p hc hf
    refine lv_aload_n hx hb dX10_lay_121 rfl (lv_at hl 0 rfl) ?_
    refine lv_iload_n hx hb dX10_lay_122 rfl (lv_at hl 3 rfl) ?_
    obtain ⟨r10, M9, hc11, hf⟩ := cl_inv hf
    refine fin_I (run_V C hw mf_X10_worthOf mv_X10_worthOf ml_X10_110 cf10 hT6 (c_X10_worthOf l G A ad hc11) (As := [.int x3]) (rest := [.int x1, .ref (ad a7)]) hl.1 rfl rfl (Nat.le_of_ble_eq_true rfl) ⟨rfl, rfl, Nat.le_of_ble_eq_true rfl, Nat.le_of_ble_eq_true rfl⟩ ⟨Nat.zero_le _, Nat.zero_le _⟩ dX10_lay_123) hw (fun H locs hw => ?_)
    refine lv_goto (tgt := 130) hx hb dX10_lay_126 (by decide) ?_
    exact t_X10_lay_130 C M9 x0 x1 x2 x3 x4 a7 x1 r10 _ _ _ hf hw (lv_sub hl [0, 1, 2, 3, 4] rfl)
def f_X10_lay_61 (M : Mem) (x0 : Nat) (x1 : Int32) (x2 : Int32) (x3 : Int32) : Option (Int32 × Mem) := gt (mT M x0) 11 (lp (mP M x0 30) (fun a2 => gt (mT M a2) 20 (gd (ib x1 (mL M a2)) (gd (ib x1 (mL M a2)) (st (setI M a2 x1.toNatClampNeg x2) (fun M7 => lp (mP M7 x0 31) (fun a10 => (if x2 = 1 then cl (f_X10_of M7 x0 x3 0) (fun r17 M16 => f_X10_lay_110 M16 x0 x1 x2 x3 (mI M a2 x1.toNatClampNeg) a10 x1 r17) else (if x2 = 2 then lp (mP M7 x0 28) (fun a12 => gt (mT M7 a12) 20 (gd (ib x3 (mL M7 a12)) (f_X10_lay_110 M7 x0 x1 x2 x3 (mI M a2 x1.toNatClampNeg) a10 x1 (mI M7 a12 x3.toNatClampNeg)))) else f_X10_lay_110 M7 x0 x1 x2 x3 (mI M a2 x1.toNatClampNeg) a10 x1 x3)))))))))
set_option maxHeartbeats 4000000 in
set_option maxRecDepth 100000 in
theorem t_X10_lay_61 {l : Launch} {p : Program} {e : Env} {s : State} {m : MethodId} {args : Array Value} {below : List Frame} {meth : Method} {c : Code} {G : Gd} {A : Nat → Prop} {ad : Nat → Nat} (C : Cx G A p s m args meth c RX10 cX10_lay 6 (some .int)) {r : Int32} {M' : Mem} : ∀ (M : Mem) (x0 : Nat) (x1 : Int32) (x2 : Int32) (x3 : Int32) (H : Heap) (locs : List Loc) (ls : Array Slot), f_X10_lay_61  M x0 x1 x2 x3 = some (r, M') → Wd G A ad s.heap M H locs → lv_has ls 6 [(0, .ref (ad x0)), (1, .int x1), (2, .int x2), (3, .int x3)] → W p l e rm_X10_lay s m args below meth c H locs 0 0 (MQ below (QI G A ad r M') args s 0 0 A) (F0 m 61 ls []) := by
  obtain ⟨hx, hb, -⟩ := id C
  intro M x0 x1 x2 x3 H locs ls hf hw hl
  rw [f_X10_lay_61] at hf
  refine lv_aload_n hx hb dX10_lay_61 rfl (lv_at hl 0 rfl) ?_
  obtain ⟨hT1, hf⟩ := gt_inv hf
  obtain ⟨a2, hP3, hf⟩ := lp_inv hf
  refine r_getP C hw cf10 30 (by decide) rfl hT1 hP3 fl_X10_70 dX10_lay_62 ?_
  refine lv_iload_n hx hb dX10_lay_65 rfl (lv_at hl 1 rfl) ?_
  obtain ⟨hT4, hf⟩ := gt_inv hf
  obtain ⟨hg5, hf⟩ := gd_inv hf
  refine r_iald C hw hT4 hg5 dX10_lay_66 ?_
  refine lv_istore (lv' := [(4, .int (mI M a2 x1.toNatClampNeg)), (0, .ref (ad x0)), (1, .int x1), (2, .int x2), (3, .int x3)]) hx hb dX10_lay_67 hl (by decide) rfl (fun ls hl => ?_)
  refine lv_aload_n hx hb dX10_lay_69 rfl (lv_at hl 1 rfl) ?_
  refine r_getP C hw cf10 30 (by decide) rfl hT1 hP3 fl_X10_70 dX10_lay_70 ?_
  refine lv_iload_n hx hb dX10_lay_73 rfl (lv_at hl 2 rfl) ?_
  refine lv_iload_n hx hb dX10_lay_74 rfl (lv_at hl 3 rfl) ?_
  obtain ⟨hg6, hf⟩ := gd_inv hf
  obtain ⟨M7, e8, hf⟩ := st_inv hf
  have g9 := sg_I e8
  refine r_iast C hw hT4 hg6 e8 dX10_lay_75 (fun H locs hw => ?_)
  refine lv_aload_n hx hb dX10_lay_76 rfl (lv_at hl 1 rfl) ?_
  obtain ⟨a10, hP11, hf⟩ := lp_inv hf
  refine r_getP C hw cf10 31 (by decide) rfl (T_of g9 hT1) hP11 fl_X10_73 dX10_lay_77 ?_
  refine lv_iload_n hx hb dX10_lay_80 rfl (lv_at hl 2 rfl) ?_
  refine lv_iload_n hx hb dX10_lay_81 rfl (lv_at hl 3 rfl) ?_
  refine lv_iconst (v := 1) hx hb dX10_lay_82 (by decide) ?_
  refine lv_icmp_ne (tgt := 95) hx hb dX10_lay_83 (by decide) (fun hc => ?_) (fun hc => ?_)
  · have hf := if_n hc hf
    refine lv_iload_n hx hb dX10_lay_95 rfl (lv_at hl 3 rfl) ?_
    refine lv_iconst (v := 2) hx hb dX10_lay_96 (by decide) ?_
    refine lv_icmp_ne (tgt := 109) hx hb dX10_lay_97 (by decide) (fun hc => ?_) (fun hc => ?_)
    · have hf := if_n hc hf
      refine lv_iload_n hx hb dX10_lay_109 rfl (lv_at hl 4 rfl) ?_
      exact t_X10_lay_110 C M7 x0 x1 x2 x3 (mI M a2 x1.toNatClampNeg) a10 x1 x3 _ _ _ hf hw (lv_sub hl [1, 2, 3, 4, 0] rfl)
    · have hf := if_p hc hf
      refine lv_aload_n hx hb dX10_lay_100 rfl (lv_at hl 1 rfl) ?_
      obtain ⟨a12, hP13, hf⟩ := lp_inv hf
      refine r_getP C hw cf10 28 (by decide) rfl (T_of g9 hT1) hP13 fl_X10_64 dX10_lay_101 ?_
      refine lv_iload_n hx hb dX10_lay_104 rfl (lv_at hl 4 rfl) ?_
      obtain ⟨hT14, hf⟩ := gt_inv hf
      obtain ⟨hg15, hf⟩ := gd_inv hf
      refine r_iald C hw hT14 hg15 dX10_lay_105 ?_
      refine lv_goto (tgt := 110) hx hb dX10_lay_106 (by decide) ?_
      exact t_X10_lay_110 C M7 x0 x1 x2 x3 (mI M a2 x1.toNatClampNeg) a10 x1 (mI M7 a12 x3.toNatClampNeg) _ _ _ hf hw (lv_sub hl [1, 2, 3, 4, 0] rfl)
  · have hf := if_p hc hf
    refine lv_aload_n hx hb dX10_lay_86 rfl (lv_at hl 1 rfl) ?_
    refine lv_iload_n hx hb dX10_lay_87 rfl (lv_at hl 4 rfl) ?_
    refine lv_iconst (v := 0) hx hb dX10_lay_88 (by decide) ?_
    obtain ⟨r17, M16, hc18, hf⟩ := cl_inv hf
    refine fin_I (run_V C hw mf_X10_of mv_X10_of ml_X10_103 cf10 (T_of g9 hT1) (c_X10_of l G A ad hc18) (As := [.int x3, .int 0]) (rest := [.int x1, .ref (ad a10)]) hl.1 rfl rfl (Nat.le_of_ble_eq_true rfl) ⟨rfl, rfl, Nat.le_of_ble_eq_true rfl, Nat.le_of_ble_eq_true rfl⟩ ⟨Nat.zero_le _, Nat.zero_le _⟩ dX10_lay_89) hw (fun H locs hw => ?_)
    refine lv_goto (tgt := 110) hx hb dX10_lay_92 (by decide) ?_
    exact t_X10_lay_110 C M16 x0 x1 x2 x3 (mI M a2 x1.toNatClampNeg) a10 x1 r17 _ _ _ hf hw (lv_sub hl [1, 2, 3, 4, 0] rfl)
def f_X10_lay_44 (M : Mem) (x0 : Nat) (x1 : Int32) (x2 : Int32) (x3 : Int32) : Option (Int32 × Mem) := (if x2 = 2 then gt (mT M x0) 11 (lp (mP M x0 27) (fun a2 => gt (mT M a2) 20 (gd (ib x3 (mL M a2)) ((if 0 ≤ (mI M a2 x3.toNatClampNeg) then f_X10_lay_61 M x0 x1 x2 x3 else some ((-1000000011), M)))))) else f_X10_lay_61 M x0 x1 x2 x3)
set_option maxHeartbeats 4000000 in
set_option maxRecDepth 100000 in
theorem t_X10_lay_44 {l : Launch} {p : Program} {e : Env} {s : State} {m : MethodId} {args : Array Value} {below : List Frame} {meth : Method} {c : Code} {G : Gd} {A : Nat → Prop} {ad : Nat → Nat} (C : Cx G A p s m args meth c RX10 cX10_lay 6 (some .int)) {r : Int32} {M' : Mem} : ∀ (M : Mem) (x0 : Nat) (x1 : Int32) (x2 : Int32) (x3 : Int32) (H : Heap) (locs : List Loc) (ls : Array Slot), f_X10_lay_44  M x0 x1 x2 x3 = some (r, M') → Wd G A ad s.heap M H locs → lv_has ls 6 [(0, .ref (ad x0)), (1, .int x1), (2, .int x2), (3, .int x3)] → W p l e rm_X10_lay s m args below meth c H locs 0 0 (MQ below (QI G A ad r M') args s 0 0 A) (F0 m 44 ls []) := by
  obtain ⟨hx, hb, -⟩ := id C
  intro M x0 x1 x2 x3 H locs ls hf hw hl
  rw [f_X10_lay_44] at hf
  refine lv_iload_n hx hb dX10_lay_44 rfl (lv_at hl 2 rfl) ?_
  refine lv_iconst (v := 2) hx hb dX10_lay_45 (by decide) ?_
  refine lv_icmp_ne (tgt := 61) hx hb dX10_lay_46 (by decide) (fun hc => ?_) (fun hc => ?_)
  · have hf := if_n hc hf
    exact t_X10_lay_61 C M x0 x1 x2 x3 _ _ _ hf hw (lv_sub hl [0, 1, 2, 3] rfl)
  · have hf := if_p hc hf
    refine lv_aload_n hx hb dX10_lay_49 rfl (lv_at hl 0 rfl) ?_
    obtain ⟨hT1, hf⟩ := gt_inv hf
    obtain ⟨a2, hP3, hf⟩ := lp_inv hf
    refine r_getP C hw cf10 27 (by decide) rfl hT1 hP3 fl_X10_61 dX10_lay_50 ?_
    refine lv_iload_n hx hb dX10_lay_53 rfl (lv_at hl 3 rfl) ?_
    obtain ⟨hT4, hf⟩ := gt_inv hf
    obtain ⟨hg5, hf⟩ := gd_inv hf
    refine r_iald C hw hT4 hg5 dX10_lay_54 ?_
    refine lv_if_ge (tgt := 61) hx hb dX10_lay_55 (by decide) (fun hc => ?_) (fun hc => ?_)
    · have hf := if_p hc hf
      exact t_X10_lay_61 C M x0 x1 x2 x3 _ _ _ hf hw (lv_sub hl [0, 1, 2, 3] rfl)
    · have hf := if_n hc hf
      refine lv_ldc hx hb C.2.2.2.1 (C.2.2.2.2.1 _ kc_X10_191) dX10_lay_58 ?_
      exact e_iret C hw hf dX10_lay_60
def f_X10_lay_29 (M : Mem) (x0 : Nat) (x1 : Int32) (x2 : Int32) (x3 : Int32) : Option (Int32 × Mem) := (if x2 = 2 then cl (f_X10_isSheet M x3) (fun r2 M1 => (if r2 = 0 then some ((-1000000001), M1) else f_X10_lay_44 M1 x0 x1 x2 x3)) else f_X10_lay_44 M x0 x1 x2 x3)
set_option maxHeartbeats 4000000 in
set_option maxRecDepth 100000 in
theorem t_X10_lay_29 {l : Launch} {p : Program} {e : Env} {s : State} {m : MethodId} {args : Array Value} {below : List Frame} {meth : Method} {c : Code} {G : Gd} {A : Nat → Prop} {ad : Nat → Nat} (C : Cx G A p s m args meth c RX10 cX10_lay 6 (some .int)) {r : Int32} {M' : Mem} : ∀ (M : Mem) (x0 : Nat) (x1 : Int32) (x2 : Int32) (x3 : Int32) (H : Heap) (locs : List Loc) (ls : Array Slot), f_X10_lay_29  M x0 x1 x2 x3 = some (r, M') → Wd G A ad s.heap M H locs → lv_has ls 6 [(0, .ref (ad x0)), (1, .int x1), (2, .int x2), (3, .int x3)] → W p l e rm_X10_lay s m args below meth c H locs 0 0 (MQ below (QI G A ad r M') args s 0 0 A) (F0 m 29 ls []) := by
  obtain ⟨hx, hb, -⟩ := id C
  intro M x0 x1 x2 x3 H locs ls hf hw hl
  rw [f_X10_lay_29] at hf
  refine lv_iload_n hx hb dX10_lay_29 rfl (lv_at hl 2 rfl) ?_
  refine lv_iconst (v := 2) hx hb dX10_lay_30 (by decide) ?_
  refine lv_icmp_ne (tgt := 44) hx hb dX10_lay_31 (by decide) (fun hc => ?_) (fun hc => ?_)
  · have hf := if_n hc hf
    exact t_X10_lay_44 C M x0 x1 x2 x3 _ _ _ hf hw (lv_sub hl [0, 1, 2, 3] rfl)
  · have hf := if_p hc hf
    refine lv_iload_n hx hb dX10_lay_34 rfl (lv_at hl 3 rfl) ?_
    obtain ⟨r2, M1, hc3, hf⟩ := cl_inv hf
    refine fin_I (run_S C hw mf_X10_isSheet ms_X10_isSheet ml_X10_188 (c_X10_isSheet l G A ad hc3) (As := [.int x3]) (rest := []) hl.1 rfl rfl (Nat.le_of_ble_eq_true rfl) ⟨rfl, rfl, Nat.le_of_ble_eq_true rfl, Nat.le_of_ble_eq_true rfl⟩ ⟨Nat.zero_le _, Nat.zero_le _⟩ dX10_lay_35) hw (fun H locs hw => ?_)
    refine lv_if_ne (tgt := 44) hx hb dX10_lay_38 (by decide) (fun hc => ?_) (fun hc => ?_)
    · have hf := if_n hc hf
      exact t_X10_lay_44 C M1 x0 x1 x2 x3 _ _ _ hf hw (lv_sub hl [0, 1, 2, 3] rfl)
    · have hf := if_p hc hf
      refine lv_ldc hx hb C.2.2.2.1 (C.2.2.2.2.1 _ kc_X10_97) dX10_lay_41 ?_
      exact e_iret C hw hf dX10_lay_43
def f_X10_lay (M : Mem) (x0 : Nat) (x1 : Int32) (x2 : Int32) (x3 : Int32) : Option (Int32 × Mem) := cl (f_X10_isSlot M x1) (fun r2 M1 => (if r2 = 0 then some ((-1000000001), M1) else cl (f_X10_in M1 x2 0 3) (fun r5 M4 => (if r5 = 0 then some ((-1000000001), M4) else (if x2 = 1 then gt (mT M4 x0) 11 (cl (f_X10_isChimney M4 x0 x3) (fun r8 M7 => (if r8 = 0 then some ((-1000000001), M7) else f_X10_lay_29 M7 x0 x1 x2 x3))) else f_X10_lay_29 M4 x0 x1 x2 x3)))))
set_option maxHeartbeats 4000000 in
set_option maxRecDepth 100000 in
theorem c_X10_lay (l : Launch) (G : Gd) (A : Nat → Prop) (ad : Nat → Nat) {M : Mem} {x0 : Nat} {x1 : Int32} {x2 : Int32} {x3 : Int32}  {r : Int32} {M' : Mem} (hf : f_X10_lay M x0 x1 x2 x3 = some (r, M')) : Ct l yX10_lay cX10_lay 6 (some .int) rm_X10_lay [.ref (ad x0), .int x1, .int x2, .int x3] G A ad M (QI G A ad r M') 0 0 := by
  refine ct_start (by decide) (Nat.le_of_ble_eq_true rfl) ?_
  intro p e s m args below meth c ls C hin hw hl
  have C : Cx G A p s m args meth c RX10 cX10_lay 6 (some .int) := C
  have hl : lv_has ls 6 [(0, .ref (ad x0)), (1, .int x1), (2, .int x2), (3, .int x3)] := hl
  obtain ⟨hx, hb, -⟩ := id C
  rw [f_X10_lay] at hf
  refine lv_iload_n hx hb dX10_lay_0 rfl (lv_at hl 1 rfl) ?_
  obtain ⟨r2, M1, hc3, hf⟩ := cl_inv hf
  refine fin_I (run_S C hw mf_X10_isSlot ms_X10_isSlot ml_X10_270 (c_X10_isSlot l G A ad hc3) (As := [.int x1]) (rest := []) hl.1 rfl rfl (Nat.le_of_ble_eq_true rfl) ⟨rfl, rfl, Nat.le_of_ble_eq_true rfl, Nat.le_of_ble_eq_true rfl⟩ ⟨Nat.zero_le _, Nat.zero_le _⟩ dX10_lay_1) hw (fun H locs hw => ?_)
  refine lv_if_eq (tgt := 41) hx hb dX10_lay_4 (by decide) (fun hc => ?_) (fun hc => ?_)
  · have hf := if_p hc hf
    refine lv_ldc hx hb C.2.2.2.1 (C.2.2.2.2.1 _ kc_X10_97) dX10_lay_41 ?_
    exact e_iret C hw hf dX10_lay_43
  · have hf := if_n hc hf
    refine lv_iload_n hx hb dX10_lay_7 rfl (lv_at hl 2 rfl) ?_
    refine lv_iconst (v := 0) hx hb dX10_lay_8 (by decide) ?_
    refine lv_iconst (v := 3) hx hb dX10_lay_9 (by decide) ?_
    obtain ⟨r5, M4, hc6, hf⟩ := cl_inv hf
    refine fin_I (run_S C hw mf_X10_in ms_X10_in ml_X10_89 (c_X10_in l G A ad hc6) (As := [.int x2, .int 0, .int 3]) (rest := []) hl.1 rfl rfl (Nat.le_of_ble_eq_true rfl) ⟨rfl, rfl, Nat.le_of_ble_eq_true rfl, Nat.le_of_ble_eq_true rfl⟩ ⟨Nat.zero_le _, Nat.zero_le _⟩ dX10_lay_10) hw (fun H locs hw => ?_)
    refine lv_if_eq (tgt := 41) hx hb dX10_lay_13 (by decide) (fun hc => ?_) (fun hc => ?_)
    · have hf := if_p hc hf
      refine lv_ldc hx hb C.2.2.2.1 (C.2.2.2.2.1 _ kc_X10_97) dX10_lay_41 ?_
      exact e_iret C hw hf dX10_lay_43
    · have hf := if_n hc hf
      refine lv_iload_n hx hb dX10_lay_16 rfl (lv_at hl 2 rfl) ?_
      refine lv_iconst (v := 1) hx hb dX10_lay_17 (by decide) ?_
      refine lv_icmp_ne (tgt := 29) hx hb dX10_lay_18 (by decide) (fun hc => ?_) (fun hc => ?_)
      · have hf := if_n hc hf
        exact t_X10_lay_29 C M4 x0 x1 x2 x3 _ _ _ hf hw (lv_sub hl [0, 1, 2, 3] rfl)
      · have hf := if_p hc hf
        refine lv_aload_n hx hb dX10_lay_21 rfl (lv_at hl 0 rfl) ?_
        refine lv_iload_n hx hb dX10_lay_22 rfl (lv_at hl 3 rfl) ?_
        obtain ⟨hT10, hf⟩ := gt_inv hf
        obtain ⟨r8, M7, hc9, hf⟩ := cl_inv hf
        refine fin_I (run_V C hw mf_X10_isChimney mv_X10_isChimney ml_X10_107 cf10 hT10 (c_X10_isChimney l G A ad hc9) (As := [.int x3]) (rest := []) hl.1 rfl rfl (Nat.le_of_ble_eq_true rfl) ⟨rfl, rfl, Nat.le_of_ble_eq_true rfl, Nat.le_of_ble_eq_true rfl⟩ ⟨Nat.zero_le _, Nat.zero_le _⟩ dX10_lay_23) hw (fun H locs hw => ?_)
        refine lv_if_eq (tgt := 41) hx hb dX10_lay_26 (by decide) (fun hc => ?_) (fun hc => ?_)
        · have hf := if_p hc hf
          refine lv_ldc hx hb C.2.2.2.1 (C.2.2.2.2.1 _ kc_X10_97) dX10_lay_41 ?_
          exact e_iret C hw hf dX10_lay_43
        · have hf := if_n hc hf
          exact t_X10_lay_29 C M7 x0 x1 x2 x3 _ _ _ hf hw (lv_sub hl [0, 1, 2, 3] rfl)
/-! StorkVoteModel.ask(II)I -/
abbrev rm_X10_ask : Room := { frames := 2, cells := 0, slots := 0, locals := 42 }
def f_X10_ask (M : Mem) (x0 : Nat) (x1 : Int32) (x2 : Int32) : Option (Int32 × Mem) := cl (f_X10_isSlot M x1) (fun r2 M1 => (if r2 = 0 then some ((-1000000001), M1) else cl (f_X10_in M1 x2 0 5) (fun r5 M4 => (if r5 = 0 then some ((-1000000001), M4) else gt (mT M4 x0) 11 (lp (mP M4 x0 30) (fun a8 => gt (mT M4 a8) 20 (gd (ib x1 (mL M4 a8)) ((if (mI M4 a8 x1.toNatClampNeg) = 0 then some ((-1000000011), M4) else gd (ib x1 (mL M4 a8)) ((if (mI M4 a8 x1.toNatClampNeg) = 1 then lp (mP M4 x0 31) (fun a13 => gt (mT M4 a13) 20 (gd (ib x1 (mL M4 a13)) (cl (f_X10_isUnder M4 (mI M4 a13 x1.toNatClampNeg) x2) (fun r18 M17 => (if r18 = 0 then some ((-1000000012), M17) else gt (mT M17 x0) 11 (lp (mP M17 x0 32) (fun a21 => gt (mT M17 a21) 20 (gd (ib x1 (mL M17 a21)) (some ((mI M17 a21 x1.toNatClampNeg), M17)))))))))) else some ((-1000000012), M4))))))))))))
set_option maxHeartbeats 4000000 in
set_option maxRecDepth 100000 in
theorem c_X10_ask (l : Launch) (G : Gd) (A : Nat → Prop) (ad : Nat → Nat) {M : Mem} {x0 : Nat} {x1 : Int32} {x2 : Int32}  {r : Int32} {M' : Mem} (hf : f_X10_ask M x0 x1 x2 = some (r, M')) : Ct l yX10_ask cX10_ask 3 (some .int) rm_X10_ask [.ref (ad x0), .int x1, .int x2] G A ad M (QI G A ad r M') 0 0 := by
  refine ct_start (by decide) (Nat.le_of_ble_eq_true rfl) ?_
  intro p e s m args below meth c ls C hin hw hl
  have C : Cx G A p s m args meth c RX10 cX10_ask 3 (some .int) := C
  have hl : lv_has ls 3 [(0, .ref (ad x0)), (1, .int x1), (2, .int x2)] := hl
  obtain ⟨hx, hb, -⟩ := id C
  rw [f_X10_ask] at hf
  refine lv_iload_n hx hb dX10_ask_0 rfl (lv_at hl 1 rfl) ?_
  obtain ⟨r2, M1, hc3, hf⟩ := cl_inv hf
  refine fin_I (run_S C hw mf_X10_isSlot ms_X10_isSlot ml_X10_270 (c_X10_isSlot l G A ad hc3) (As := [.int x1]) (rest := []) hl.1 rfl rfl (Nat.le_of_ble_eq_true rfl) ⟨rfl, rfl, Nat.le_of_ble_eq_true rfl, Nat.le_of_ble_eq_true rfl⟩ ⟨Nat.zero_le _, Nat.zero_le _⟩ dX10_ask_1) hw (fun H locs hw => ?_)
  refine lv_if_eq (tgt := 16) hx hb dX10_ask_4 (by decide) (fun hc => ?_) (fun hc => ?_)
  · have hf := if_p hc hf
    refine lv_ldc hx hb C.2.2.2.1 (C.2.2.2.2.1 _ kc_X10_97) dX10_ask_16 ?_
    exact e_iret C hw hf dX10_ask_18
  · have hf := if_n hc hf
    refine lv_iload_n hx hb dX10_ask_7 rfl (lv_at hl 2 rfl) ?_
    refine lv_iconst (v := 0) hx hb dX10_ask_8 (by decide) ?_
    refine lv_iconst (v := 5) hx hb dX10_ask_9 (by decide) ?_
    obtain ⟨r5, M4, hc6, hf⟩ := cl_inv hf
    refine fin_I (run_S C hw mf_X10_in ms_X10_in ml_X10_89 (c_X10_in l G A ad hc6) (As := [.int x2, .int 0, .int 5]) (rest := []) hl.1 rfl rfl (Nat.le_of_ble_eq_true rfl) ⟨rfl, rfl, Nat.le_of_ble_eq_true rfl, Nat.le_of_ble_eq_true rfl⟩ ⟨Nat.zero_le _, Nat.zero_le _⟩ dX10_ask_10) hw (fun H locs hw => ?_)
    refine lv_if_ne (tgt := 19) hx hb dX10_ask_13 (by decide) (fun hc => ?_) (fun hc => ?_)
    · have hf := if_n hc hf
      refine lv_aload_n hx hb dX10_ask_19 rfl (lv_at hl 0 rfl) ?_
      obtain ⟨hT7, hf⟩ := gt_inv hf
      obtain ⟨a8, hP9, hf⟩ := lp_inv hf
      refine r_getP C hw cf10 30 (by decide) rfl hT7 hP9 fl_X10_70 dX10_ask_20 ?_
      refine lv_iload_n hx hb dX10_ask_23 rfl (lv_at hl 1 rfl) ?_
      obtain ⟨hT10, hf⟩ := gt_inv hf
      obtain ⟨hg11, hf⟩ := gd_inv hf
      refine r_iald C hw hT10 hg11 dX10_ask_24 ?_
      refine lv_if_ne (tgt := 31) hx hb dX10_ask_25 (by decide) (fun hc => ?_) (fun hc => ?_)
      · have hf := if_n hc hf
        refine lv_aload_n hx hb dX10_ask_31 rfl (lv_at hl 0 rfl) ?_
        refine r_getP C hw cf10 30 (by decide) rfl hT7 hP9 fl_X10_70 dX10_ask_32 ?_
        refine lv_iload_n hx hb dX10_ask_35 rfl (lv_at hl 1 rfl) ?_
        obtain ⟨hg12, hf⟩ := gd_inv hf
        refine r_iald C hw hT10 hg12 dX10_ask_36 ?_
        refine lv_iconst (v := 1) hx hb dX10_ask_37 (by decide) ?_
        refine lv_icmp_ne (tgt := 63) hx hb dX10_ask_38 (by decide) (fun hc => ?_) (fun hc => ?_)
        · have hf := if_n hc hf
          refine lv_ldc hx hb C.2.2.2.1 (C.2.2.2.2.1 _ kc_X10_124) dX10_ask_63 ?_
          exact e_iret C hw hf dX10_ask_65
        · have hf := if_p hc hf
          refine lv_aload_n hx hb dX10_ask_41 rfl (lv_at hl 0 rfl) ?_
          obtain ⟨a13, hP14, hf⟩ := lp_inv hf
          refine r_getP C hw cf10 31 (by decide) rfl hT7 hP14 fl_X10_73 dX10_ask_42 ?_
          refine lv_iload_n hx hb dX10_ask_45 rfl (lv_at hl 1 rfl) ?_
          obtain ⟨hT15, hf⟩ := gt_inv hf
          obtain ⟨hg16, hf⟩ := gd_inv hf
          refine r_iald C hw hT15 hg16 dX10_ask_46 ?_
          refine lv_iload_n hx hb dX10_ask_47 rfl (lv_at hl 2 rfl) ?_
          obtain ⟨r18, M17, hc19, hf⟩ := cl_inv hf
          refine fin_I (run_S C hw mf_X10_isUnder ms_X10_isUnder ml_X10_120 (c_X10_isUnder l G A ad hc19) (As := [.int (mI M4 a13 x1.toNatClampNeg), .int x2]) (rest := []) hl.1 rfl rfl (Nat.le_of_ble_eq_true rfl) ⟨rfl, rfl, Nat.le_of_ble_eq_true rfl, Nat.le_of_ble_eq_true rfl⟩ ⟨Nat.zero_le _, Nat.zero_le _⟩ dX10_ask_48) hw (fun H locs hw => ?_)
          refine lv_if_eq (tgt := 63) hx hb dX10_ask_51 (by decide) (fun hc => ?_) (fun hc => ?_)
          · have hf := if_p hc hf
            refine lv_ldc hx hb C.2.2.2.1 (C.2.2.2.2.1 _ kc_X10_124) dX10_ask_63 ?_
            exact e_iret C hw hf dX10_ask_65
          · have hf := if_n hc hf
            refine lv_aload_n hx hb dX10_ask_54 rfl (lv_at hl 0 rfl) ?_
            obtain ⟨hT20, hf⟩ := gt_inv hf
            obtain ⟨a21, hP22, hf⟩ := lp_inv hf
            refine r_getP C hw cf10 32 (by decide) rfl hT20 hP22 fl_X10_76 dX10_ask_55 ?_
            refine lv_iload_n hx hb dX10_ask_58 rfl (lv_at hl 1 rfl) ?_
            obtain ⟨hT23, hf⟩ := gt_inv hf
            obtain ⟨hg24, hf⟩ := gd_inv hf
            refine r_iald C hw hT23 hg24 dX10_ask_59 ?_
            refine lv_goto (tgt := 65) hx hb dX10_ask_60 (by decide) ?_
            exact e_iret C hw hf dX10_ask_65
      · have hf := if_p hc hf
        refine lv_ldc hx hb C.2.2.2.1 (C.2.2.2.2.1 _ kc_X10_191) dX10_ask_28 ?_
        exact e_iret C hw hf dX10_ask_30
    · have hf := if_p hc hf
      refine lv_ldc hx hb C.2.2.2.1 (C.2.2.2.2.1 _ kc_X10_97) dX10_ask_16 ?_
      exact e_iret C hw hf dX10_ask_18
/-! StorkVoteModel.item(II)I -/
abbrev rm_X10_item : Room := { frames := 2, cells := 0, slots := 0, locals := 42 }
def f_X10_item (M : Mem) (x0 : Nat) (x1 : Int32) (x2 : Int32) : Option (Int32 × Mem) := cl (f_X10_isSlot M x1) (fun r2 M1 => (if r2 = 0 then some ((-1000000001), M1) else gt (mT M1 x0) 11 (lp (mP M1 x0 30) (fun a5 => gt (mT M1 a5) 20 (gd (ib x1 (mL M1 a5)) ((if (mI M1 a5 x1.toNatClampNeg) = 0 then some ((-1000000011), M1) else gd (ib x1 (mL M1 a5)) ((if (mI M1 a5 x1.toNatClampNeg) = 2 then lp (mP M1 x0 31) (fun a10 => gt (mT M1 a10) 20 (gd (ib x1 (mL M1 a10)) (cl (f_X10_in M1 x2 0 ((mI M1 a10 x1.toNatClampNeg) - 1)) (fun r15 M14 => (if r15 = 0 then some ((-1000000013), M14) else gt (mT M14 x0) 11 (lp (mP M14 x0 33) (fun a18 => gt (mT M14 a18) 20 (gd (ib ((24 * x1) + x2) (mL M14 a18)) ((if (mI M14 a18 ((24 * x1) + x2).toNatClampNeg) = (-1000000005) then some ((-1000000012), M14) else some ((mI M14 a18 ((24 * x1) + x2).toNatClampNeg), M14))))))))))) else some ((-1000000012), M1))))))))))
set_option maxHeartbeats 4000000 in
set_option maxRecDepth 100000 in
theorem c_X10_item (l : Launch) (G : Gd) (A : Nat → Prop) (ad : Nat → Nat) {M : Mem} {x0 : Nat} {x1 : Int32} {x2 : Int32}  {r : Int32} {M' : Mem} (hf : f_X10_item M x0 x1 x2 = some (r, M')) : Ct l yX10_item cX10_item 4 (some .int) rm_X10_item [.ref (ad x0), .int x1, .int x2] G A ad M (QI G A ad r M') 0 0 := by
  refine ct_start (by decide) (Nat.le_of_ble_eq_true rfl) ?_
  intro p e s m args below meth c ls C hin hw hl
  have C : Cx G A p s m args meth c RX10 cX10_item 4 (some .int) := C
  have hl : lv_has ls 4 [(0, .ref (ad x0)), (1, .int x1), (2, .int x2)] := hl
  obtain ⟨hx, hb, -⟩ := id C
  rw [f_X10_item] at hf
  refine lv_iload_n hx hb dX10_item_0 rfl (lv_at hl 1 rfl) ?_
  obtain ⟨r2, M1, hc3, hf⟩ := cl_inv hf
  refine fin_I (run_S C hw mf_X10_isSlot ms_X10_isSlot ml_X10_270 (c_X10_isSlot l G A ad hc3) (As := [.int x1]) (rest := []) hl.1 rfl rfl (Nat.le_of_ble_eq_true rfl) ⟨rfl, rfl, Nat.le_of_ble_eq_true rfl, Nat.le_of_ble_eq_true rfl⟩ ⟨Nat.zero_le _, Nat.zero_le _⟩ dX10_item_1) hw (fun H locs hw => ?_)
  refine lv_if_ne (tgt := 10) hx hb dX10_item_4 (by decide) (fun hc => ?_) (fun hc => ?_)
  · have hf := if_n hc hf
    refine lv_aload_n hx hb dX10_item_10 rfl (lv_at hl 0 rfl) ?_
    obtain ⟨hT4, hf⟩ := gt_inv hf
    obtain ⟨a5, hP6, hf⟩ := lp_inv hf
    refine r_getP C hw cf10 30 (by decide) rfl hT4 hP6 fl_X10_70 dX10_item_11 ?_
    refine lv_iload_n hx hb dX10_item_14 rfl (lv_at hl 1 rfl) ?_
    obtain ⟨hT7, hf⟩ := gt_inv hf
    obtain ⟨hg8, hf⟩ := gd_inv hf
    refine r_iald C hw hT7 hg8 dX10_item_15 ?_
    refine lv_if_ne (tgt := 22) hx hb dX10_item_16 (by decide) (fun hc => ?_) (fun hc => ?_)
    · have hf := if_n hc hf
      refine lv_aload_n hx hb dX10_item_22 rfl (lv_at hl 0 rfl) ?_
      refine r_getP C hw cf10 30 (by decide) rfl hT4 hP6 fl_X10_70 dX10_item_23 ?_
      refine lv_iload_n hx hb dX10_item_26 rfl (lv_at hl 1 rfl) ?_
      obtain ⟨hg9, hf⟩ := gd_inv hf
      refine r_iald C hw hT7 hg9 dX10_item_27 ?_
      refine lv_iconst (v := 2) hx hb dX10_item_28 (by decide) ?_
      refine lv_icmp_eq (tgt := 35) hx hb dX10_item_29 (by decide) (fun hc => ?_) (fun hc => ?_)
      · have hf := if_p hc hf
        refine lv_iload_n hx hb dX10_item_35 rfl (lv_at hl 2 rfl) ?_
        refine lv_iconst (v := 0) hx hb dX10_item_36 (by decide) ?_
        refine lv_aload_n hx hb dX10_item_37 rfl (lv_at hl 0 rfl) ?_
        obtain ⟨a10, hP11, hf⟩ := lp_inv hf
        refine r_getP C hw cf10 31 (by decide) rfl hT4 hP11 fl_X10_73 dX10_item_38 ?_
        refine lv_iload_n hx hb dX10_item_41 rfl (lv_at hl 1 rfl) ?_
        obtain ⟨hT12, hf⟩ := gt_inv hf
        obtain ⟨hg13, hf⟩ := gd_inv hf
        refine r_iald C hw hT12 hg13 dX10_item_42 ?_
        refine lv_iconst (v := 1) hx hb dX10_item_43 (by decide) ?_
        refine lv_isub hx hb dX10_item_44 ?_
        obtain ⟨r15, M14, hc16, hf⟩ := cl_inv hf
        refine fin_I (run_S C hw mf_X10_in ms_X10_in ml_X10_89 (c_X10_in l G A ad hc16) (As := [.int x2, .int 0, .int ((mI M1 a10 x1.toNatClampNeg) - 1)]) (rest := []) hl.1 rfl rfl (Nat.le_of_ble_eq_true rfl) ⟨rfl, rfl, Nat.le_of_ble_eq_true rfl, Nat.le_of_ble_eq_true rfl⟩ ⟨Nat.zero_le _, Nat.zero_le _⟩ dX10_item_45) hw (fun H locs hw => ?_)
        refine lv_if_ne (tgt := 55) hx hb dX10_item_48 (by decide) (fun hc => ?_) (fun hc => ?_)
        · have hf := if_n hc hf
          refine lv_aload_n hx hb dX10_item_55 rfl (lv_at hl 0 rfl) ?_
          obtain ⟨hT17, hf⟩ := gt_inv hf
          obtain ⟨a18, hP19, hf⟩ := lp_inv hf
          refine r_getP C hw cf10 33 (by decide) rfl hT17 hP19 fl_X10_79 dX10_item_56 ?_
          refine lv_bipush (v := 24) hx hb dX10_item_59 (by decide) ?_
          refine lv_iload_n hx hb dX10_item_61 rfl (lv_at hl 1 rfl) ?_
          refine lv_imul hx hb dX10_item_62 ?_
          refine lv_iload_n hx hb dX10_item_63 rfl (lv_at hl 2 rfl) ?_
          refine lv_iadd hx hb dX10_item_64 ?_
          obtain ⟨hT20, hf⟩ := gt_inv hf
          obtain ⟨hg21, hf⟩ := gd_inv hf
          refine r_iald C hw hT20 hg21 dX10_item_65 ?_
          refine lv_istore_n (lv' := [(3, .int (mI M14 a18 ((24 * x1) + x2).toNatClampNeg)), (0, .ref (ad x0)), (1, .int x1), (2, .int x2)]) hx hb dX10_item_66 rfl hl (by decide) rfl (fun ls hl => ?_)
          refine lv_iload_n hx hb dX10_item_67 rfl (lv_at hl 0 rfl) ?_
          refine lv_ldc hx hb C.2.2.2.1 (C.2.2.2.2.1 _ kc_X10_88) dX10_item_68 ?_
          refine lv_icmp_ne (tgt := 78) hx hb dX10_item_70 (by decide) (fun hc => ?_) (fun hc => ?_)
          · have hf := if_n hc hf
            refine lv_iload_n hx hb dX10_item_78 rfl (lv_at hl 0 rfl) ?_
            exact e_iret C hw hf dX10_item_79
          · have hf := if_p hc hf
            refine lv_ldc hx hb C.2.2.2.1 (C.2.2.2.2.1 _ kc_X10_124) dX10_item_73 ?_
            refine lv_goto (tgt := 79) hx hb dX10_item_75 (by decide) ?_
            exact e_iret C hw hf dX10_item_79
        · have hf := if_p hc hf
          refine lv_ldcw hx hb C.2.2.2.1 (C.2.2.2.2.1 _ kc_X10_267) dX10_item_51 ?_
          exact e_iret C hw hf dX10_item_54
      · have hf := if_n hc hf
        refine lv_ldc hx hb C.2.2.2.1 (C.2.2.2.2.1 _ kc_X10_124) dX10_item_32 ?_
        exact e_iret C hw hf dX10_item_34
    · have hf := if_p hc hf
      refine lv_ldc hx hb C.2.2.2.1 (C.2.2.2.2.1 _ kc_X10_191) dX10_item_19 ?_
      exact e_iret C hw hf dX10_item_21
  · have hf := if_p hc hf
    refine lv_ldc hx hb C.2.2.2.1 (C.2.2.2.2.1 _ kc_X10_97) dX10_item_7 ?_
    exact e_iret C hw hf dX10_item_9
/-! StorkVoteModel.rest(II)I -/
abbrev rm_X10_rest : Room := { frames := 2, cells := 0, slots := 0, locals := 42 }
def f_X10_rest (M : Mem) (x0 : Nat) (x1 : Int32) (x2 : Int32) : Option (Int32 × Mem) := cl (f_X10_isSlot M x1) (fun r2 M1 => (if r2 = 0 then some ((-1000000001), M1) else gt (mT M1 x0) 11 (lp (mP M1 x0 30) (fun a5 => gt (mT M1 a5) 20 (gd (ib x1 (mL M1 a5)) ((if (mI M1 a5 x1.toNatClampNeg) = 0 then some ((-1000000011), M1) else gd (ib x1 (mL M1 a5)) ((if (mI M1 a5 x1.toNatClampNeg) = 3 then (if x2 = 0 then some ((-1000000002), M1) else (if x2 = (-1) then some (0, M1) else lp (mP M1 x0 31) (fun a10 => gt (mT M1 a10) 20 (gd (ib x1 (mL M1 a10)) (gz x2 (some ((irm (mI M1 a10 x1.toNatClampNeg) x2), M1))))))) else some ((-1000000012), M1))))))))))
set_option maxHeartbeats 4000000 in
set_option maxRecDepth 100000 in
theorem c_X10_rest (l : Launch) (G : Gd) (A : Nat → Prop) (ad : Nat → Nat) {M : Mem} {x0 : Nat} {x1 : Int32} {x2 : Int32}  {r : Int32} {M' : Mem} (hf : f_X10_rest M x0 x1 x2 = some (r, M')) : Ct l yX10_rest cX10_rest 3 (some .int) rm_X10_rest [.ref (ad x0), .int x1, .int x2] G A ad M (QI G A ad r M') 0 0 := by
  refine ct_start (by decide) (Nat.le_of_ble_eq_true rfl) ?_
  intro p e s m args below meth c ls C hin hw hl
  have C : Cx G A p s m args meth c RX10 cX10_rest 3 (some .int) := C
  have hl : lv_has ls 3 [(0, .ref (ad x0)), (1, .int x1), (2, .int x2)] := hl
  obtain ⟨hx, hb, -⟩ := id C
  rw [f_X10_rest] at hf
  refine lv_iload_n hx hb dX10_rest_0 rfl (lv_at hl 1 rfl) ?_
  obtain ⟨r2, M1, hc3, hf⟩ := cl_inv hf
  refine fin_I (run_S C hw mf_X10_isSlot ms_X10_isSlot ml_X10_270 (c_X10_isSlot l G A ad hc3) (As := [.int x1]) (rest := []) hl.1 rfl rfl (Nat.le_of_ble_eq_true rfl) ⟨rfl, rfl, Nat.le_of_ble_eq_true rfl, Nat.le_of_ble_eq_true rfl⟩ ⟨Nat.zero_le _, Nat.zero_le _⟩ dX10_rest_1) hw (fun H locs hw => ?_)
  refine lv_if_ne (tgt := 10) hx hb dX10_rest_4 (by decide) (fun hc => ?_) (fun hc => ?_)
  · have hf := if_n hc hf
    refine lv_aload_n hx hb dX10_rest_10 rfl (lv_at hl 0 rfl) ?_
    obtain ⟨hT4, hf⟩ := gt_inv hf
    obtain ⟨a5, hP6, hf⟩ := lp_inv hf
    refine r_getP C hw cf10 30 (by decide) rfl hT4 hP6 fl_X10_70 dX10_rest_11 ?_
    refine lv_iload_n hx hb dX10_rest_14 rfl (lv_at hl 1 rfl) ?_
    obtain ⟨hT7, hf⟩ := gt_inv hf
    obtain ⟨hg8, hf⟩ := gd_inv hf
    refine r_iald C hw hT7 hg8 dX10_rest_15 ?_
    refine lv_if_ne (tgt := 22) hx hb dX10_rest_16 (by decide) (fun hc => ?_) (fun hc => ?_)
    · have hf := if_n hc hf
      refine lv_aload_n hx hb dX10_rest_22 rfl (lv_at hl 0 rfl) ?_
      refine r_getP C hw cf10 30 (by decide) rfl hT4 hP6 fl_X10_70 dX10_rest_23 ?_
      refine lv_iload_n hx hb dX10_rest_26 rfl (lv_at hl 1 rfl) ?_
      obtain ⟨hg9, hf⟩ := gd_inv hf
      refine r_iald C hw hT7 hg9 dX10_rest_27 ?_
      refine lv_iconst (v := 3) hx hb dX10_rest_28 (by decide) ?_
      refine lv_icmp_eq (tgt := 35) hx hb dX10_rest_29 (by decide) (fun hc => ?_) (fun hc => ?_)
      · have hf := if_p hc hf
        refine lv_iload_n hx hb dX10_rest_35 rfl (lv_at hl 2 rfl) ?_
        refine lv_if_ne (tgt := 45) hx hb dX10_rest_36 (by decide) (fun hc => ?_) (fun hc => ?_)
        · have hf := if_n hc hf
          refine lv_iload_n hx hb dX10_rest_45 rfl (lv_at hl 2 rfl) ?_
          refine lv_iconst (v := (-1)) hx hb dX10_rest_46 (by decide) ?_
          refine lv_icmp_ne (tgt := 54) hx hb dX10_rest_47 (by decide) (fun hc => ?_) (fun hc => ?_)
          · have hf := if_n hc hf
            refine lv_aload_n hx hb dX10_rest_54 rfl (lv_at hl 0 rfl) ?_
            obtain ⟨a10, hP11, hf⟩ := lp_inv hf
            refine r_getP C hw cf10 31 (by decide) rfl hT4 hP11 fl_X10_73 dX10_rest_55 ?_
            refine lv_iload_n hx hb dX10_rest_58 rfl (lv_at hl 1 rfl) ?_
            obtain ⟨hT12, hf⟩ := gt_inv hf
            obtain ⟨hg13, hf⟩ := gd_inv hf
            refine r_iald C hw hT12 hg13 dX10_rest_59 ?_
            refine lv_iload_n hx hb dX10_rest_60 rfl (lv_at hl 2 rfl) ?_
            obtain ⟨hz14, hf⟩ := gz_inv hf
            refine lv_irem hx hb dX10_rest_61 hz14 ?_
            exact e_iret C hw hf dX10_rest_62
          · have hf := if_p hc hf
            refine lv_iconst (v := 0) hx hb dX10_rest_50 (by decide) ?_
            refine lv_goto (tgt := 62) hx hb dX10_rest_51 (by decide) ?_
            exact e_iret C hw hf dX10_rest_62
        · have hf := if_p hc hf
          refine lv_ldcw hx hb C.2.2.2.1 (C.2.2.2.2.1 _ kc_X10_273) dX10_rest_39 ?_
          refine lv_goto (tgt := 62) hx hb dX10_rest_42 (by decide) ?_
          exact e_iret C hw hf dX10_rest_62
      · have hf := if_n hc hf
        refine lv_ldc hx hb C.2.2.2.1 (C.2.2.2.2.1 _ kc_X10_124) dX10_rest_32 ?_
        exact e_iret C hw hf dX10_rest_34
    · have hf := if_p hc hf
      refine lv_ldc hx hb C.2.2.2.1 (C.2.2.2.2.1 _ kc_X10_191) dX10_rest_19 ?_
      exact e_iret C hw hf dX10_rest_21
  · have hf := if_p hc hf
    refine lv_ldc hx hb C.2.2.2.1 (C.2.2.2.2.1 _ kc_X10_97) dX10_rest_7 ?_
    exact e_iret C hw hf dX10_rest_9
/-! StorkVoteModel.tell(I)I -/
abbrev rm_X10_tell : Room := { frames := 0, cells := 0, slots := 0, locals := 0 }
def f_X10_tell (M : Mem) (x0 : Nat) (x1 : Int32) : Option (Int32 × Mem) := gt (mT M x0) 11 ((if (mI M x0 36) = 60 then some ((-1000000003), M) else lp (mP M x0 35) (fun a2 => gt (mT M a2) 20 (gd (ib (mI M x0 36) (mL M a2)) (st (setI M a2 (mI M x0 36).toNatClampNeg x1) (fun M6 => st (setI M6 x0 36 ((mI M6 x0 36) + 1)) (fun M9 => some ((mI M9 x0 36), M9))))))))
set_option maxHeartbeats 4000000 in
set_option maxRecDepth 100000 in
theorem c_X10_tell (l : Launch) (G : Gd) (A : Nat → Prop) (ad : Nat → Nat) {M : Mem} {x0 : Nat} {x1 : Int32}  {r : Int32} {M' : Mem} (hf : f_X10_tell M x0 x1 = some (r, M')) : Ct l yX10_tell cX10_tell 2 (some .int) rm_X10_tell [.ref (ad x0), .int x1] G A ad M (QI G A ad r M') 0 0 := by
  refine ct_start (by decide) (Nat.le_of_ble_eq_true rfl) ?_
  intro p e s m args below meth c ls C hin hw hl
  have C : Cx G A p s m args meth c RX10 cX10_tell 2 (some .int) := C
  have hl : lv_has ls 2 [(0, .ref (ad x0)), (1, .int x1)] := hl
  obtain ⟨hx, hb, -⟩ := id C
  rw [f_X10_tell] at hf
  refine lv_aload_n hx hb dX10_tell_0 rfl (lv_at hl 0 rfl) ?_
  obtain ⟨hT1, hf⟩ := gt_inv hf
  refine r_getI C hw cf10 36 (by decide) rfl hT1 fl_X10_274 dX10_tell_1 ?_
  refine lv_bipush (v := 60) hx hb dX10_tell_4 (by decide) ?_
  refine lv_icmp_ne (tgt := 12) hx hb dX10_tell_6 (by decide) (fun hc => ?_) (fun hc => ?_)
  · have hf := if_n hc hf
    refine lv_aload_n hx hb dX10_tell_12 rfl (lv_at hl 0 rfl) ?_
    obtain ⟨a2, hP3, hf⟩ := lp_inv hf
    refine r_getP C hw cf10 35 (by decide) rfl hT1 hP3 fl_X10_85 dX10_tell_13 ?_
    refine lv_aload_n hx hb dX10_tell_16 rfl (lv_at hl 0 rfl) ?_
    refine r_getI C hw cf10 36 (by decide) rfl hT1 fl_X10_274 dX10_tell_17 ?_
    refine lv_iload_n hx hb dX10_tell_20 rfl (lv_at hl 1 rfl) ?_
    obtain ⟨hT4, hf⟩ := gt_inv hf
    obtain ⟨hg5, hf⟩ := gd_inv hf
    obtain ⟨M6, e7, hf⟩ := st_inv hf
    have g8 := sg_I e7
    refine r_iast C hw hT4 hg5 e7 dX10_tell_21 (fun H locs hw => ?_)
    refine lv_aload_n hx hb dX10_tell_22 rfl (lv_at hl 0 rfl) ?_
    refine lv_dup hx hb dX10_tell_23 rfl ?_
    refine r_getI C hw cf10 36 (by decide) rfl (T_of g8 hT1) fl_X10_274 dX10_tell_24 ?_
    refine lv_iconst (v := 1) hx hb dX10_tell_27 (by decide) ?_
    refine lv_iadd hx hb dX10_tell_28 ?_
    obtain ⟨M9, e10, hf⟩ := st_inv hf
    have g11 := sg_I e10
    refine r_putI C hw cf10 36 (by decide) rfl (T_of g8 hT1) e10 fl_X10_274 rfl rfl rfl dX10_tell_29 (fun H locs hw => ?_)
    refine lv_aload_n hx hb dX10_tell_32 rfl (lv_at hl 0 rfl) ?_
    refine r_getI C hw cf10 36 (by decide) rfl (T_of g11 (T_of g8 hT1)) fl_X10_274 dX10_tell_33 ?_
    exact e_iret C hw hf dX10_tell_36
  · have hf := if_p hc hf
    refine lv_ldc hx hb C.2.2.2.1 (C.2.2.2.2.1 _ kc_X10_98) dX10_tell_9 ?_
    exact e_iret C hw hf dX10_tell_11
/-! StorkVoteModel.check(I)I -/
abbrev rm_X10_check : Room := { frames := 6, cells := 0, slots := 0, locals := 143 }
def f_X10_check_180 (M : Mem) (x0 : Nat) (x2 : Int32) (x3 : Int32) (x4 : Int32) : Option (Int32 × Mem) := gt (mT M x0) 11 (lp (mP M x0 2) (fun a2 => lp (mP M x0 0) (fun a4 => cl (f_X10_copyAll M a2 a4) (fun _ M6 => (if x4 = x2 then (if x4 = x3 then some (0, M6) else some ((1 + x4), M6)) else some ((1 + x4), M6))))))
set_option maxHeartbeats 4000000 in
set_option maxRecDepth 100000 in
theorem t_X10_check_180 {l : Launch} {p : Program} {e : Env} {s : State} {m : MethodId} {args : Array Value} {below : List Frame} {meth : Method} {c : Code} {G : Gd} {A : Nat → Prop} {ad : Nat → Nat} (C : Cx G A p s m args meth c RX10 cX10_check 7 (some .int)) {r : Int32} {M' : Mem} : ∀ (M : Mem) (x0 : Nat) (x2 : Int32) (x3 : Int32) (x4 : Int32) (H : Heap) (locs : List Loc) (ls : Array Slot), f_X10_check_180  M x0 x2 x3 x4 = some (r, M') → Wd G A ad s.heap M H locs → lv_has ls 7 [(0, .ref (ad x0)), (2, .int x2), (3, .int x3), (4, .int x4)] → W p l e rm_X10_check s m args below meth c H locs 0 0 (MQ below (QI G A ad r M') args s 0 0 A) (F0 m 180 ls []) := by
  obtain ⟨hx, hb, -⟩ := id C
  intro M x0 x2 x3 x4 H locs ls hf hw hl
  rw [f_X10_check_180] at hf
  refine lv_aload_n hx hb dX10_check_180 rfl (lv_at hl 0 rfl) ?_
  obtain ⟨hT1, hf⟩ := gt_inv hf
  obtain ⟨a2, hP3, hf⟩ := lp_inv hf
  refine r_getP C hw cf10 2 (by decide) rfl hT1 hP3 fl_X10_16 dX10_check_181 ?_
  refine lv_aload_n hx hb dX10_check_184 rfl (lv_at hl 0 rfl) ?_
  obtain ⟨a4, hP5, hf⟩ := lp_inv hf
  refine r_getP C hw cf10 0 (by decide) rfl hT1 hP5 fl_X10_9 dX10_check_185 ?_
  obtain ⟨⟨⟩, M6, hc8, hf⟩ := cl_inv hf
  refine fin_V (run_S C hw mf_X10_copyAll ms_X10_copyAll ml_X10_281 (c_X10_copyAll l G A ad hc8) (As := [.ref (ad a2), .ref (ad a4)]) (rest := []) hl.1 rfl rfl (Nat.le_of_ble_eq_true rfl) ⟨rfl, rfl, Nat.le_of_ble_eq_true rfl, Nat.le_of_ble_eq_true rfl⟩ ⟨Nat.zero_le _, Nat.zero_le _⟩ dX10_check_188) hw (fun H locs hw => ?_)
  refine lv_iload hx hb dX10_check_191 (lv_at hl 3 rfl) ?_
  refine lv_iload_n hx hb dX10_check_193 rfl (lv_at hl 1 rfl) ?_
  refine lv_icmp_ne (tgt := 207) hx hb dX10_check_194 (by decide) (fun hc => ?_) (fun hc => ?_)
  · have hf := if_n hc hf
    refine lv_iconst (v := 1) hx hb dX10_check_207 (by decide) ?_
    refine lv_iload hx hb dX10_check_208 (lv_at hl 3 rfl) ?_
    refine lv_iadd hx hb dX10_check_210 ?_
    exact e_iret C hw hf dX10_check_211
  · have hf := if_p hc hf
    refine lv_iload hx hb dX10_check_197 (lv_at hl 3 rfl) ?_
    refine lv_iload_n hx hb dX10_check_199 rfl (lv_at hl 2 rfl) ?_
    refine lv_icmp_ne (tgt := 207) hx hb dX10_check_200 (by decide) (fun hc => ?_) (fun hc => ?_)
    · have hf := if_n hc hf
      refine lv_iconst (v := 1) hx hb dX10_check_207 (by decide) ?_
      refine lv_iload hx hb dX10_check_208 (lv_at hl 3 rfl) ?_
      refine lv_iadd hx hb dX10_check_210 ?_
      exact e_iret C hw hf dX10_check_211
    · have hf := if_p hc hf
      refine lv_iconst (v := 0) hx hb dX10_check_203 (by decide) ?_
      refine lv_goto (tgt := 211) hx hb dX10_check_204 (by decide) ?_
      exact e_iret C hw hf dX10_check_211
def f_X10_check_130 (K80 : Mem → Nat → Int32 → Int32 → Int32 → Int32 → Option (Int32 × Mem)) (M : Mem) (x0 : Nat) (x2 : Int32) (x3 : Int32) (x5 : Int32) (s0 : Int32) (s1 : Int32) : Option (Int32 × Mem) := (if (s0 + s1) = ((2 * x5) + 1) then (if x2 ≤ (s0 + s1) then K80 M x0 x2 x3 ((s0 + s1) + 0) (x5 + 1) else gt (mT M x0) 11 (lp (mP M x0 35) (fun a2 => gt (mT M a2) 20 (gd (ib (s0 + s1) (mL M a2)) (cl (f_X10_hereMany M x0) (fun r7 M6 => (if (mI M a2 (s0 + s1).toNatClampNeg) = r7 then K80 M6 x0 x2 x3 ((s0 + s1) + 1) (x5 + 1) else K80 M6 x0 x2 x3 ((s0 + s1) + 0) (x5 + 1)))))))) else K80 M x0 x2 x3 ((s0 + s1) + 0) (x5 + 1))
set_option maxHeartbeats 4000000 in
set_option maxRecDepth 100000 in
theorem t_X10_check_130 {l : Launch} {p : Program} {e : Env} {s : State} {m : MethodId} {args : Array Value} {below : List Frame} {meth : Method} {c : Code} {G : Gd} {A : Nat → Prop} {ad : Nat → Nat} (C : Cx G A p s m args meth c RX10 cX10_check 7 (some .int)) {r : Int32} {M' : Mem} {K80 : Mem → Nat → Int32 → Int32 → Int32 → Int32 → Option (Int32 × Mem)} (hK80 : ∀ (M : Mem) (x0 : Nat) (x2 : Int32) (x3 : Int32) (x4 : Int32) (x5 : Int32) (H : Heap) (locs : List Loc) (ls : Array Slot), K80 M x0 x2 x3 x4 x5 = some (r, M') → Wd G A ad s.heap M H locs → lv_has ls 7 [(0, .ref (ad x0)), (2, .int x2), (3, .int x3), (4, .int x4), (5, .int x5)] → W p l e rm_X10_check s m args below meth c H locs 0 0 (MQ below (QI G A ad r M') args s 0 0 A) (F0 m 80 ls [])) : ∀ (M : Mem) (x0 : Nat) (x2 : Int32) (x3 : Int32) (x5 : Int32) (s0 : Int32) (s1 : Int32) (H : Heap) (locs : List Loc) (ls : Array Slot), f_X10_check_130 K80 M x0 x2 x3 x5 s0 s1 = some (r, M') → Wd G A ad s.heap M H locs → lv_has ls 7 [(0, .ref (ad x0)), (2, .int x2), (3, .int x3), (5, .int x5)] → W p l e rm_X10_check s m args below meth c H locs 0 0 (MQ below (QI G A ad r M') args s 0 0 A) (F0 m 130 ls [.int s1, .int s0]) := by
  obtain ⟨hx, hb, -⟩ := id C
  intro M x0 x2 x3 x5 s0 s1 H locs ls hf hw hl
  rw [f_X10_check_130] at hf
  refine lv_iadd hx hb dX10_check_130 ?_
  refine lv_istore (lv' := [(4, .int (s0 + s1)), (0, .ref (ad x0)), (2, .int x2), (3, .int x3), (5, .int x5)]) hx hb dX10_check_131 hl (by decide) rfl (fun ls hl => ?_)
  refine lv_iload hx hb dX10_check_133 (lv_at hl 0 rfl) ?_
  refine lv_iload hx hb dX10_check_135 (lv_at hl 0 rfl) ?_
  refine lv_iconst (v := 2) hx hb dX10_check_137 (by decide) ?_
  refine lv_iload hx hb dX10_check_138 (lv_at hl 4 rfl) ?_
  refine lv_imul hx hb dX10_check_140 ?_
  refine lv_iconst (v := 1) hx hb dX10_check_141 (by decide) ?_
  refine lv_iadd hx hb dX10_check_142 ?_
  refine lv_icmp_ne (tgt := 170) hx hb dX10_check_143 (by decide) (fun hc => ?_) (fun hc => ?_)
  · have hf := if_n hc hf
    refine lv_iconst (v := 0) hx hb dX10_check_170 (by decide) ?_
    refine lv_iadd hx hb dX10_check_171 ?_
    refine lv_istore (lv' := [(4, .int ((s0 + s1) + 0)), (0, .ref (ad x0)), (2, .int x2), (3, .int x3), (5, .int x5)]) hx hb dX10_check_172 hl (by decide) rfl (fun ls hl => ?_)
    refine lv_iinc (v := (x5 + 1)) (lv' := [(5, .int (x5 + 1)), (4, .int ((s0 + s1) + 0)), (0, .ref (ad x0)), (2, .int x2), (3, .int x3)]) hx hb dX10_check_174 hl (k := 4) rfl rfl (by decide) rfl (fun ls hl => ?_)
    refine lv_goto (tgt := 80) hx hb dX10_check_177 (by decide) ?_
    exact hK80 M x0 x2 x3 ((s0 + s1) + 0) (x5 + 1) _ _ _ hf hw (lv_sub hl [2, 3, 4, 1, 0] rfl)
  · have hf := if_p hc hf
    refine lv_iload hx hb dX10_check_146 (lv_at hl 0 rfl) ?_
    refine lv_iload_n hx hb dX10_check_148 rfl (lv_at hl 2 rfl) ?_
    refine lv_icmp_ge (tgt := 170) hx hb dX10_check_149 (by decide) (fun hc => ?_) (fun hc => ?_)
    · have hf := if_p hc hf
      refine lv_iconst (v := 0) hx hb dX10_check_170 (by decide) ?_
      refine lv_iadd hx hb dX10_check_171 ?_
      refine lv_istore (lv' := [(4, .int ((s0 + s1) + 0)), (0, .ref (ad x0)), (2, .int x2), (3, .int x3), (5, .int x5)]) hx hb dX10_check_172 hl (by decide) rfl (fun ls hl => ?_)
      refine lv_iinc (v := (x5 + 1)) (lv' := [(5, .int (x5 + 1)), (4, .int ((s0 + s1) + 0)), (0, .ref (ad x0)), (2, .int x2), (3, .int x3)]) hx hb dX10_check_174 hl (k := 4) rfl rfl (by decide) rfl (fun ls hl => ?_)
      refine lv_goto (tgt := 80) hx hb dX10_check_177 (by decide) ?_
      exact hK80 M x0 x2 x3 ((s0 + s1) + 0) (x5 + 1) _ _ _ hf hw (lv_sub hl [2, 3, 4, 1, 0] rfl)
    · have hf := if_n hc hf
      refine lv_aload_n hx hb dX10_check_152 rfl (lv_at hl 1 rfl) ?_
      obtain ⟨hT1, hf⟩ := gt_inv hf
      obtain ⟨a2, hP3, hf⟩ := lp_inv hf
      refine r_getP C hw cf10 35 (by decide) rfl hT1 hP3 fl_X10_85 dX10_check_153 ?_
      refine lv_iload hx hb dX10_check_156 (lv_at hl 0 rfl) ?_
      obtain ⟨hT4, hf⟩ := gt_inv hf
      obtain ⟨hg5, hf⟩ := gd_inv hf
      refine r_iald C hw hT4 hg5 dX10_check_158 ?_
      refine lv_aload_n hx hb dX10_check_159 rfl (lv_at hl 1 rfl) ?_
      obtain ⟨r7, M6, hc8, hf⟩ := cl_inv hf
      refine fin_I (run_V C hw mf_X10_hereMany mv_X10_hereMany ml_X10_185 cf10 hT1 (c_X10_hereMany l G A ad hc8) (As := []) (rest := [.int (mI M a2 (s0 + s1).toNatClampNeg), .int (s0 + s1)]) hl.1 rfl rfl (Nat.le_of_ble_eq_true rfl) ⟨rfl, rfl, Nat.le_of_ble_eq_true rfl, Nat.le_of_ble_eq_true rfl⟩ ⟨Nat.zero_le _, Nat.zero_le _⟩ dX10_check_160) hw (fun H locs hw => ?_)
      refine lv_icmp_ne (tgt := 170) hx hb dX10_check_163 (by decide) (fun hc => ?_) (fun hc => ?_)
      · have hf := if_n hc hf
        refine lv_iconst (v := 0) hx hb dX10_check_170 (by decide) ?_
        refine lv_iadd hx hb dX10_check_171 ?_
        refine lv_istore (lv' := [(4, .int ((s0 + s1) + 0)), (0, .ref (ad x0)), (2, .int x2), (3, .int x3), (5, .int x5)]) hx hb dX10_check_172 hl (by decide) rfl (fun ls hl => ?_)
        refine lv_iinc (v := (x5 + 1)) (lv' := [(5, .int (x5 + 1)), (4, .int ((s0 + s1) + 0)), (0, .ref (ad x0)), (2, .int x2), (3, .int x3)]) hx hb dX10_check_174 hl (k := 4) rfl rfl (by decide) rfl (fun ls hl => ?_)
        refine lv_goto (tgt := 80) hx hb dX10_check_177 (by decide) ?_
        exact hK80 M6 x0 x2 x3 ((s0 + s1) + 0) (x5 + 1) _ _ _ hf hw (lv_sub hl [2, 3, 4, 1, 0] rfl)
      · have hf := if_p hc hf
        refine lv_iconst (v := 1) hx hb dX10_check_166 (by decide) ?_
        refine lv_goto (tgt := 171) hx hb dX10_check_167 (by decide) ?_
        refine lv_iadd hx hb dX10_check_171 ?_
        refine lv_istore (lv' := [(4, .int ((s0 + s1) + 1)), (0, .ref (ad x0)), (2, .int x2), (3, .int x3), (5, .int x5)]) hx hb dX10_check_172 hl (by decide) rfl (fun ls hl => ?_)
        refine lv_iinc (v := (x5 + 1)) (lv' := [(5, .int (x5 + 1)), (4, .int ((s0 + s1) + 1)), (0, .ref (ad x0)), (2, .int x2), (3, .int x3)]) hx hb dX10_check_174 hl (k := 4) rfl rfl (by decide) rfl (fun ls hl => ?_)
        refine lv_goto (tgt := 80) hx hb dX10_check_177 (by decide) ?_
        exact hK80 M6 x0 x2 x3 ((s0 + s1) + 1) (x5 + 1) _ _ _ hf hw (lv_sub hl [2, 3, 4, 1, 0] rfl)
def f_X10_check_80 : Nat → Mem → Nat → Int32 → Int32 → Int32 → Int32 → Option (Int32 × Mem)
  | 0, _, _, _, _, _, _ => none
  | n + 1, M, x0, x2, x3, x4, x5 => (if x3 ≤ (2 * x5) then f_X10_check_180 M x0 x2 x3 x4 else (if x4 = (2 * x5) then gt (mT M x0) 11 (cl (f_X10_year M x0) (fun r2 M1 => (if x2 ≤ x4 then f_X10_check_130 (f_X10_check_80 n) M1 x0 x2 x3 x5 x4 0 else gt (mT M1 x0) 11 (lp (mP M1 x0 35) (fun a6 => gt (mT M1 a6) 20 (gd (ib x4 (mL M1 a6)) (cl (f_X10_electedNow M1 x0) (fun r11 M10 => (if (mI M1 a6 x4.toNatClampNeg) = r11 then f_X10_check_130 (f_X10_check_80 n) M10 x0 x2 x3 x5 x4 1 else f_X10_check_130 (f_X10_check_80 n) M10 x0 x2 x3 x5 x4 0))))))))) else f_X10_check_180 M x0 x2 x3 x4))
set_option maxHeartbeats 4000000 in
set_option maxRecDepth 100000 in
theorem t_X10_check_80 {l : Launch} {p : Program} {e : Env} {s : State} {m : MethodId} {args : Array Value} {below : List Frame} {meth : Method} {c : Code} {G : Gd} {A : Nat → Prop} {ad : Nat → Nat} (C : Cx G A p s m args meth c RX10 cX10_check 7 (some .int)) {r : Int32} {M' : Mem} : ∀ (n : Nat) (M : Mem) (x0 : Nat) (x2 : Int32) (x3 : Int32) (x4 : Int32) (x5 : Int32) (H : Heap) (locs : List Loc) (ls : Array Slot), f_X10_check_80  n M x0 x2 x3 x4 x5 = some (r, M') → Wd G A ad s.heap M H locs → lv_has ls 7 [(0, .ref (ad x0)), (2, .int x2), (3, .int x3), (4, .int x4), (5, .int x5)] → W p l e rm_X10_check s m args below meth c H locs 0 0 (MQ below (QI G A ad r M') args s 0 0 A) (F0 m 80 ls []) := by
  obtain ⟨hx, hb, -⟩ := id C
  intro n
  induction n with
  | zero =>
    intro M x0 x2 x3 x4 x5 H locs ls hf
    rw [f_X10_check_80] at hf
    exact absurd hf (fun h => nomatch h)
  | succ n ih =>
    intro M x0 x2 x3 x4 x5 H locs ls hf hw hl
    rw [f_X10_check_80] at hf
    refine lv_iconst (v := 2) hx hb dX10_check_80 (by decide) ?_
    refine lv_iload hx hb dX10_check_81 (lv_at hl 4 rfl) ?_
    refine lv_imul hx hb dX10_check_83 ?_
    refine lv_iload_n hx hb dX10_check_84 rfl (lv_at hl 2 rfl) ?_
    refine lv_icmp_ge (tgt := 180) hx hb dX10_check_85 (by decide) (fun hc => ?_) (fun hc => ?_)
    · have hf := if_p hc hf
      exact t_X10_check_180 C M x0 x2 x3 x4 _ _ _ hf hw (lv_sub hl [0, 1, 2, 3] rfl)
    · have hf := if_n hc hf
      refine lv_iload hx hb dX10_check_88 (lv_at hl 3 rfl) ?_
      refine lv_iconst (v := 2) hx hb dX10_check_90 (by decide) ?_
      refine lv_iload hx hb dX10_check_91 (lv_at hl 4 rfl) ?_
      refine lv_imul hx hb dX10_check_93 ?_
      refine lv_icmp_ne (tgt := 180) hx hb dX10_check_94 (by decide) (fun hc => ?_) (fun hc => ?_)
      · have hf := if_n hc hf
        exact t_X10_check_180 C M x0 x2 x3 x4 _ _ _ hf hw (lv_sub hl [0, 1, 2, 3] rfl)
      · have hf := if_p hc hf
        refine lv_aload_n hx hb dX10_check_97 rfl (lv_at hl 0 rfl) ?_
        obtain ⟨hT4, hf⟩ := gt_inv hf
        obtain ⟨r2, M1, hc3, hf⟩ := cl_inv hf
        refine fin_I (run_V C hw mf_X10_year mv_X10_year ml_X10_173 cf10 hT4 (c_X10_year l G A ad hc3) (As := []) (rest := []) hl.1 rfl rfl (Nat.le_of_ble_eq_true rfl) ⟨rfl, rfl, Nat.le_of_ble_eq_true rfl, Nat.le_of_ble_eq_true rfl⟩ ⟨Nat.zero_le _, Nat.zero_le _⟩ dX10_check_98) hw (fun H locs hw => ?_)
        refine lv_istore (lv' := [(6, .int r2), (0, .ref (ad x0)), (2, .int x2), (3, .int x3), (4, .int x4), (5, .int x5)]) hx hb dX10_check_101 hl (by decide) rfl (fun ls hl => ?_)
        refine lv_iload hx hb dX10_check_103 (lv_at hl 4 rfl) ?_
        refine lv_iload hx hb dX10_check_105 (lv_at hl 4 rfl) ?_
        refine lv_iload_n hx hb dX10_check_107 rfl (lv_at hl 2 rfl) ?_
        refine lv_icmp_ge (tgt := 129) hx hb dX10_check_108 (by decide) (fun hc => ?_) (fun hc => ?_)
        · have hf := if_p hc hf
          refine lv_iconst (v := 0) hx hb dX10_check_129 (by decide) ?_
          exact t_X10_check_130 C ih M1 x0 x2 x3 x5 x4 0 _ _ _ hf hw (lv_sub hl [1, 2, 3, 5] rfl)
        · have hf := if_n hc hf
          refine lv_aload_n hx hb dX10_check_111 rfl (lv_at hl 1 rfl) ?_
          obtain ⟨hT5, hf⟩ := gt_inv hf
          obtain ⟨a6, hP7, hf⟩ := lp_inv hf
          refine r_getP C hw cf10 35 (by decide) rfl hT5 hP7 fl_X10_85 dX10_check_112 ?_
          refine lv_iload hx hb dX10_check_115 (lv_at hl 4 rfl) ?_
          obtain ⟨hT8, hf⟩ := gt_inv hf
          obtain ⟨hg9, hf⟩ := gd_inv hf
          refine r_iald C hw hT8 hg9 dX10_check_117 ?_
          refine lv_aload_n hx hb dX10_check_118 rfl (lv_at hl 1 rfl) ?_
          obtain ⟨r11, M10, hc12, hf⟩ := cl_inv hf
          refine fin_I (run_V C hw mf_X10_electedNow mv_X10_electedNow ml_X10_170 cf10 hT5 (c_X10_electedNow l G A ad hc12) (As := []) (rest := [.int (mI M1 a6 x4.toNatClampNeg), .int x4]) hl.1 rfl rfl (Nat.le_of_ble_eq_true rfl) ⟨rfl, rfl, Nat.le_of_ble_eq_true rfl, Nat.le_of_ble_eq_true rfl⟩ ⟨Nat.zero_le _, Nat.zero_le _⟩ dX10_check_119) hw (fun H locs hw => ?_)
          refine lv_icmp_ne (tgt := 129) hx hb dX10_check_122 (by decide) (fun hc => ?_) (fun hc => ?_)
          · have hf := if_n hc hf
            refine lv_iconst (v := 0) hx hb dX10_check_129 (by decide) ?_
            exact t_X10_check_130 C ih M10 x0 x2 x3 x5 x4 0 _ _ _ hf hw (lv_sub hl [1, 2, 3, 5] rfl)
          · have hf := if_p hc hf
            refine lv_iconst (v := 1) hx hb dX10_check_125 (by decide) ?_
            refine lv_goto (tgt := 130) hx hb dX10_check_126 (by decide) ?_
            exact t_X10_check_130 C ih M10 x0 x2 x3 x5 x4 1 _ _ _ hf hw (lv_sub hl [1, 2, 3, 5] rfl)
def f_X10_check (M : Mem) (x0 : Nat) (x1 : Int32) : Option (Int32 × Mem) := gt (mT M x0) 11 (st (setI M x0 36 0) (fun M2 => cl (f_X10_in M2 x1 1 30) (fun r6 M5 => (if r6 = 0 then some ((-1000000001), M5) else gt (mT M5 x0) 11 ((if (mI M5 x0 3) = 0 then some ((-1000000002), M5) else lp (mP M5 x0 0) (fun a9 => lp (mP M5 x0 2) (fun a11 => cl (f_X10_copyAll M5 a9 a11) (fun _ M13 => gt (mT M13 x0) 11 (lp (mP M13 x0 1) (fun a17 => lp (mP M13 x0 0) (fun a19 => cl (f_X10_copyAll M13 a17 a19) (fun _ M21 => gt (mT M21 x0) 11 (lp (mP M21 x0 0) (fun a25 => gt (mT M21 a25) 20 (gd (ib 3 (mL M21 a25)) (cl (f_X10_within M21 (999 - (mI M21 a25 (3 : Int32).toNatClampNeg)) 0 x1) (fun r30 M29 => f_X10_check_80 FU M29 x0 (mI M x0 36) (2 * r30) 0 0))))))))))))))))))
set_option maxHeartbeats 4000000 in
set_option maxRecDepth 100000 in
theorem c_X10_check (l : Launch) (G : Gd) (A : Nat → Prop) (ad : Nat → Nat) {M : Mem} {x0 : Nat} {x1 : Int32}  {r : Int32} {M' : Mem} (hf : f_X10_check M x0 x1 = some (r, M')) : Ct l yX10_check cX10_check 7 (some .int) rm_X10_check [.ref (ad x0), .int x1] G A ad M (QI G A ad r M') 0 0 := by
  refine ct_start (by decide) (Nat.le_of_ble_eq_true rfl) ?_
  intro p e s m args below meth c ls C hin hw hl
  have C : Cx G A p s m args meth c RX10 cX10_check 7 (some .int) := C
  have hl : lv_has ls 7 [(0, .ref (ad x0)), (1, .int x1)] := hl
  obtain ⟨hx, hb, -⟩ := id C
  rw [f_X10_check] at hf
  refine lv_aload_n hx hb dX10_check_0 rfl (lv_at hl 0 rfl) ?_
  obtain ⟨hT1, hf⟩ := gt_inv hf
  refine r_getI C hw cf10 36 (by decide) rfl hT1 fl_X10_274 dX10_check_1 ?_
  refine lv_istore_n (lv' := [(2, .int (mI M x0 36)), (0, .ref (ad x0)), (1, .int x1)]) hx hb dX10_check_4 rfl hl (by decide) rfl (fun ls hl => ?_)
  refine lv_aload_n hx hb dX10_check_5 rfl (lv_at hl 1 rfl) ?_
  refine lv_iconst (v := 0) hx hb dX10_check_6 (by decide) ?_
  obtain ⟨M2, e3, hf⟩ := st_inv hf
  have g4 := sg_I e3
  refine r_putI C hw cf10 36 (by decide) rfl hT1 e3 fl_X10_274 rfl rfl rfl dX10_check_7 (fun H locs hw => ?_)
  refine lv_iload_n hx hb dX10_check_10 rfl (lv_at hl 2 rfl) ?_
  refine lv_iconst (v := 1) hx hb dX10_check_11 (by decide) ?_
  refine lv_bipush (v := 30) hx hb dX10_check_12 (by decide) ?_
  obtain ⟨r6, M5, hc7, hf⟩ := cl_inv hf
  refine fin_I (run_S C hw mf_X10_in ms_X10_in ml_X10_89 (c_X10_in l G A ad hc7) (As := [.int x1, .int 1, .int 30]) (rest := []) hl.1 rfl rfl (Nat.le_of_ble_eq_true rfl) ⟨rfl, rfl, Nat.le_of_ble_eq_true rfl, Nat.le_of_ble_eq_true rfl⟩ ⟨Nat.zero_le _, Nat.zero_le _⟩ dX10_check_14) hw (fun H locs hw => ?_)
  refine lv_if_ne (tgt := 23) hx hb dX10_check_17 (by decide) (fun hc => ?_) (fun hc => ?_)
  · have hf := if_n hc hf
    refine lv_aload_n hx hb dX10_check_23 rfl (lv_at hl 1 rfl) ?_
    obtain ⟨hT8, hf⟩ := gt_inv hf
    refine r_getI C hw cf10 3 (by decide) rfl hT8 fl_X10_277 dX10_check_24 ?_
    refine lv_if_ne (tgt := 34) hx hb dX10_check_27 (by decide) (fun hc => ?_) (fun hc => ?_)
    · have hf := if_n hc hf
      refine lv_aload_n hx hb dX10_check_34 rfl (lv_at hl 1 rfl) ?_
      obtain ⟨a9, hP10, hf⟩ := lp_inv hf
      refine r_getP C hw cf10 0 (by decide) rfl hT8 hP10 fl_X10_9 dX10_check_35 ?_
      refine lv_aload_n hx hb dX10_check_38 rfl (lv_at hl 1 rfl) ?_
      obtain ⟨a11, hP12, hf⟩ := lp_inv hf
      refine r_getP C hw cf10 2 (by decide) rfl hT8 hP12 fl_X10_16 dX10_check_39 ?_
      obtain ⟨⟨⟩, M13, hc15, hf⟩ := cl_inv hf
      refine fin_V (run_S C hw mf_X10_copyAll ms_X10_copyAll ml_X10_281 (c_X10_copyAll l G A ad hc15) (As := [.ref (ad a9), .ref (ad a11)]) (rest := []) hl.1 rfl rfl (Nat.le_of_ble_eq_true rfl) ⟨rfl, rfl, Nat.le_of_ble_eq_true rfl, Nat.le_of_ble_eq_true rfl⟩ ⟨Nat.zero_le _, Nat.zero_le _⟩ dX10_check_42) hw (fun H locs hw => ?_)
      refine lv_aload_n hx hb dX10_check_45 rfl (lv_at hl 1 rfl) ?_
      obtain ⟨hT16, hf⟩ := gt_inv hf
      obtain ⟨a17, hP18, hf⟩ := lp_inv hf
      refine r_getP C hw cf10 1 (by decide) rfl hT16 hP18 fl_X10_13 dX10_check_46 ?_
      refine lv_aload_n hx hb dX10_check_49 rfl (lv_at hl 1 rfl) ?_
      obtain ⟨a19, hP20, hf⟩ := lp_inv hf
      refine r_getP C hw cf10 0 (by decide) rfl hT16 hP20 fl_X10_9 dX10_check_50 ?_
      obtain ⟨⟨⟩, M21, hc23, hf⟩ := cl_inv hf
      refine fin_V (run_S C hw mf_X10_copyAll ms_X10_copyAll ml_X10_281 (c_X10_copyAll l G A ad hc23) (As := [.ref (ad a17), .ref (ad a19)]) (rest := []) hl.1 rfl rfl (Nat.le_of_ble_eq_true rfl) ⟨rfl, rfl, Nat.le_of_ble_eq_true rfl, Nat.le_of_ble_eq_true rfl⟩ ⟨Nat.zero_le _, Nat.zero_le _⟩ dX10_check_53) hw (fun H locs hw => ?_)
      refine lv_iconst (v := 2) hx hb dX10_check_56 (by decide) ?_
      refine lv_sipush (v := 999) hx hb dX10_check_57 (by decide) ?_
      refine lv_aload_n hx hb dX10_check_60 rfl (lv_at hl 1 rfl) ?_
      obtain ⟨hT24, hf⟩ := gt_inv hf
      obtain ⟨a25, hP26, hf⟩ := lp_inv hf
      refine r_getP C hw cf10 0 (by decide) rfl hT24 hP26 fl_X10_9 dX10_check_61 ?_
      refine lv_iconst (v := 3) hx hb dX10_check_64 (by decide) ?_
      obtain ⟨hT27, hf⟩ := gt_inv hf
      obtain ⟨hg28, hf⟩ := gd_inv hf
      refine r_iald C hw hT27 hg28 dX10_check_65 ?_
      refine lv_isub hx hb dX10_check_66 ?_
      refine lv_iconst (v := 0) hx hb dX10_check_67 (by decide) ?_
      refine lv_iload_n hx hb dX10_check_68 rfl (lv_at hl 2 rfl) ?_
      obtain ⟨r30, M29, hc31, hf⟩ := cl_inv hf
      refine fin_I (run_S C hw mf_X10_within ms_X10_within ml_X10_140 (c_X10_within l G A ad hc31) (As := [.int (999 - (mI M21 a25 (3 : Int32).toNatClampNeg)), .int 0, .int x1]) (rest := [.int 2]) hl.1 rfl rfl (Nat.le_of_ble_eq_true rfl) ⟨rfl, rfl, Nat.le_of_ble_eq_true rfl, Nat.le_of_ble_eq_true rfl⟩ ⟨Nat.zero_le _, Nat.zero_le _⟩ dX10_check_69) hw (fun H locs hw => ?_)
      refine lv_imul hx hb dX10_check_72 ?_
      refine lv_istore_n (lv' := [(3, .int (2 * r30)), (2, .int (mI M x0 36)), (0, .ref (ad x0)), (1, .int x1)]) hx hb dX10_check_73 rfl hl (by decide) rfl (fun ls hl => ?_)
      refine lv_iconst (v := 0) hx hb dX10_check_74 (by decide) ?_
      refine lv_istore (lv' := [(4, .int 0), (3, .int (2 * r30)), (2, .int (mI M x0 36)), (0, .ref (ad x0)), (1, .int x1)]) hx hb dX10_check_75 hl (by decide) rfl (fun ls hl => ?_)
      refine lv_iconst (v := 0) hx hb dX10_check_77 (by decide) ?_
      refine lv_istore (lv' := [(5, .int 0), (4, .int 0), (3, .int (2 * r30)), (2, .int (mI M x0 36)), (0, .ref (ad x0)), (1, .int x1)]) hx hb dX10_check_78 hl (by decide) rfl (fun ls hl => ?_)
      exact t_X10_check_80 C FU M29 x0 (mI M x0 36) (2 * r30) 0 0 _ _ _ hf hw (lv_sub hl [4, 3, 2, 1, 0] rfl)
    · have hf := if_p hc hf
      refine lv_ldcw hx hb C.2.2.2.1 (C.2.2.2.2.1 _ kc_X10_273) dX10_check_30 ?_
      exact e_iret C hw hf dX10_check_33
  · have hf := if_p hc hf
    refine lv_ldc hx hb C.2.2.2.1 (C.2.2.2.2.1 _ kc_X10_97) dX10_check_20 ?_
    exact e_iret C hw hf dX10_check_22
/-! StorkVoteModel.keep()I -/
abbrev rm_X10_keep : Room := { frames := 1, cells := 0, slots := 0, locals := 22 }
def f_X10_keep (M : Mem) (x0 : Nat) : Option (Int32 × Mem) := gt (mT M x0) 11 (lp (mP M x0 0) (fun a2 => lp (mP M x0 1) (fun a4 => cl (f_X10_copyAll M a2 a4) (fun _ M6 => gt (mT M6 x0) 11 (st (setI M6 x0 3 1) (fun M10 => lp (mP M10 x0 0) (fun a13 => gt (mT M10 a13) 20 (gd (ib 1 (mL M10 a13)) (some ((mI M10 a13 (1 : Int32).toNatClampNeg), M10))))))))))
set_option maxHeartbeats 4000000 in
set_option maxRecDepth 100000 in
theorem c_X10_keep (l : Launch) (G : Gd) (A : Nat → Prop) (ad : Nat → Nat) {M : Mem} {x0 : Nat}  {r : Int32} {M' : Mem} (hf : f_X10_keep M x0 = some (r, M')) : Ct l yX10_keep cX10_keep 1 (some .int) rm_X10_keep [.ref (ad x0)] G A ad M (QI G A ad r M') 0 0 := by
  refine ct_start (by decide) (Nat.le_of_ble_eq_true rfl) ?_
  intro p e s m args below meth c ls C hin hw hl
  have C : Cx G A p s m args meth c RX10 cX10_keep 1 (some .int) := C
  have hl : lv_has ls 1 [(0, .ref (ad x0))] := hl
  obtain ⟨hx, hb, -⟩ := id C
  rw [f_X10_keep] at hf
  refine lv_aload_n hx hb dX10_keep_0 rfl (lv_at hl 0 rfl) ?_
  obtain ⟨hT1, hf⟩ := gt_inv hf
  obtain ⟨a2, hP3, hf⟩ := lp_inv hf
  refine r_getP C hw cf10 0 (by decide) rfl hT1 hP3 fl_X10_9 dX10_keep_1 ?_
  refine lv_aload_n hx hb dX10_keep_4 rfl (lv_at hl 0 rfl) ?_
  obtain ⟨a4, hP5, hf⟩ := lp_inv hf
  refine r_getP C hw cf10 1 (by decide) rfl hT1 hP5 fl_X10_13 dX10_keep_5 ?_
  obtain ⟨⟨⟩, M6, hc8, hf⟩ := cl_inv hf
  refine fin_V (run_S C hw mf_X10_copyAll ms_X10_copyAll ml_X10_281 (c_X10_copyAll l G A ad hc8) (As := [.ref (ad a2), .ref (ad a4)]) (rest := []) hl.1 rfl rfl (Nat.le_of_ble_eq_true rfl) ⟨rfl, rfl, Nat.le_of_ble_eq_true rfl, Nat.le_of_ble_eq_true rfl⟩ ⟨Nat.zero_le _, Nat.zero_le _⟩ dX10_keep_8) hw (fun H locs hw => ?_)
  refine lv_aload_n hx hb dX10_keep_11 rfl (lv_at hl 0 rfl) ?_
  refine lv_iconst (v := 1) hx hb dX10_keep_12 (by decide) ?_
  obtain ⟨hT9, hf⟩ := gt_inv hf
  obtain ⟨M10, e11, hf⟩ := st_inv hf
  have g12 := sg_I e11
  refine r_putI C hw cf10 3 (by decide) rfl hT9 e11 fl_X10_277 rfl rfl rfl dX10_keep_13 (fun H locs hw => ?_)
  refine lv_aload_n hx hb dX10_keep_16 rfl (lv_at hl 0 rfl) ?_
  obtain ⟨a13, hP14, hf⟩ := lp_inv hf
  refine r_getP C hw cf10 0 (by decide) rfl (T_of g12 hT9) hP14 fl_X10_9 dX10_keep_17 ?_
  refine lv_iconst (v := 1) hx hb dX10_keep_20 (by decide) ?_
  obtain ⟨hT15, hf⟩ := gt_inv hf
  obtain ⟨hg16, hf⟩ := gd_inv hf
  refine r_iald C hw hT15 hg16 dX10_keep_21 ?_
  exact e_iret C hw hf dX10_keep_22
/-! StorkVoteModel.back()I -/
abbrev rm_X10_back : Room := { frames := 1, cells := 0, slots := 0, locals := 22 }
def f_X10_back (M : Mem) (x0 : Nat) : Option (Int32 × Mem) := gt (mT M x0) 11 ((if (mI M x0 3) = 0 then some ((-1000000002), M) else lp (mP M x0 1) (fun a2 => lp (mP M x0 0) (fun a4 => cl (f_X10_copyAll M a2 a4) (fun _ M6 => gt (mT M6 x0) 11 (lp (mP M6 x0 0) (fun a10 => gt (mT M6 a10) 20 (gd (ib 1 (mL M6 a10)) (some ((mI M6 a10 (1 : Int32).toNatClampNeg), M6))))))))))
set_option maxHeartbeats 4000000 in
set_option maxRecDepth 100000 in
theorem c_X10_back (l : Launch) (G : Gd) (A : Nat → Prop) (ad : Nat → Nat) {M : Mem} {x0 : Nat}  {r : Int32} {M' : Mem} (hf : f_X10_back M x0 = some (r, M')) : Ct l yX10_back cX10_back 1 (some .int) rm_X10_back [.ref (ad x0)] G A ad M (QI G A ad r M') 0 0 := by
  refine ct_start (by decide) (Nat.le_of_ble_eq_true rfl) ?_
  intro p e s m args below meth c ls C hin hw hl
  have C : Cx G A p s m args meth c RX10 cX10_back 1 (some .int) := C
  have hl : lv_has ls 1 [(0, .ref (ad x0))] := hl
  obtain ⟨hx, hb, -⟩ := id C
  rw [f_X10_back] at hf
  refine lv_aload_n hx hb dX10_back_0 rfl (lv_at hl 0 rfl) ?_
  obtain ⟨hT1, hf⟩ := gt_inv hf
  refine r_getI C hw cf10 3 (by decide) rfl hT1 fl_X10_277 dX10_back_1 ?_
  refine lv_if_ne (tgt := 11) hx hb dX10_back_4 (by decide) (fun hc => ?_) (fun hc => ?_)
  · have hf := if_n hc hf
    refine lv_aload_n hx hb dX10_back_11 rfl (lv_at hl 0 rfl) ?_
    obtain ⟨a2, hP3, hf⟩ := lp_inv hf
    refine r_getP C hw cf10 1 (by decide) rfl hT1 hP3 fl_X10_13 dX10_back_12 ?_
    refine lv_aload_n hx hb dX10_back_15 rfl (lv_at hl 0 rfl) ?_
    obtain ⟨a4, hP5, hf⟩ := lp_inv hf
    refine r_getP C hw cf10 0 (by decide) rfl hT1 hP5 fl_X10_9 dX10_back_16 ?_
    obtain ⟨⟨⟩, M6, hc8, hf⟩ := cl_inv hf
    refine fin_V (run_S C hw mf_X10_copyAll ms_X10_copyAll ml_X10_281 (c_X10_copyAll l G A ad hc8) (As := [.ref (ad a2), .ref (ad a4)]) (rest := []) hl.1 rfl rfl (Nat.le_of_ble_eq_true rfl) ⟨rfl, rfl, Nat.le_of_ble_eq_true rfl, Nat.le_of_ble_eq_true rfl⟩ ⟨Nat.zero_le _, Nat.zero_le _⟩ dX10_back_19) hw (fun H locs hw => ?_)
    refine lv_aload_n hx hb dX10_back_22 rfl (lv_at hl 0 rfl) ?_
    obtain ⟨hT9, hf⟩ := gt_inv hf
    obtain ⟨a10, hP11, hf⟩ := lp_inv hf
    refine r_getP C hw cf10 0 (by decide) rfl hT9 hP11 fl_X10_9 dX10_back_23 ?_
    refine lv_iconst (v := 1) hx hb dX10_back_26 (by decide) ?_
    obtain ⟨hT12, hf⟩ := gt_inv hf
    obtain ⟨hg13, hf⟩ := gd_inv hf
    refine r_iald C hw hT12 hg13 dX10_back_27 ?_
    exact e_iret C hw hf dX10_back_28
  · have hf := if_p hc hf
    refine lv_ldcw hx hb C.2.2.2.1 (C.2.2.2.2.1 _ kc_X10_273) dX10_back_7 ?_
    exact e_iret C hw hf dX10_back_10
/-! StorkVoteModel.nestsAll()I -/
abbrev rm_X10_nestsAll : Room := { frames := 5, cells := 0, slots := 0, locals := 118 }
def f_X10_nestsAll (M : Mem) (x0 : Nat) : Option (Int32 × Mem) := gt (mT M x0) 11 (cl (f_X10_spring M x0) (fun _ M1 => gt (mT M1 x0) 11 (cl (f_X10_nestsIn M1 x0 0) (fun r6 M5 => gt (mT M5 x0) 11 (cl (f_X10_nestsIn M5 x0 1) (fun r10 M9 => gt (mT M9 x0) 11 (cl (f_X10_nestsIn M9 x0 2) (fun r14 M13 => gt (mT M13 x0) 11 (cl (f_X10_nestsIn M13 x0 3) (fun r18 M17 => some ((((r6 + r10) + r14) + r18), M17)))))))))))
set_option maxHeartbeats 4000000 in
set_option maxRecDepth 100000 in
theorem c_X10_nestsAll (l : Launch) (G : Gd) (A : Nat → Prop) (ad : Nat → Nat) {M : Mem} {x0 : Nat}  {r : Int32} {M' : Mem} (hf : f_X10_nestsAll M x0 = some (r, M')) : Ct l yX10_nestsAll cX10_nestsAll 1 (some .int) rm_X10_nestsAll [.ref (ad x0)] G A ad M (QI G A ad r M') 0 0 := by
  refine ct_start (by decide) (Nat.le_of_ble_eq_true rfl) ?_
  intro p e s m args below meth c ls C hin hw hl
  have C : Cx G A p s m args meth c RX10 cX10_nestsAll 1 (some .int) := C
  have hl : lv_has ls 1 [(0, .ref (ad x0))] := hl
  obtain ⟨hx, hb, -⟩ := id C
  rw [f_X10_nestsAll] at hf
  refine lv_aload_n hx hb dX10_nestsAll_0 rfl (lv_at hl 0 rfl) ?_
  obtain ⟨hT4, hf⟩ := gt_inv hf
  obtain ⟨⟨⟩, M1, hc3, hf⟩ := cl_inv hf
  refine fin_V (run_V C hw mf_X10_spring mv_X10_spring ml_X10_114 cf10 hT4 (c_X10_spring l G A ad hc3) (As := []) (rest := []) hl.1 rfl rfl (Nat.le_of_ble_eq_true rfl) ⟨rfl, rfl, Nat.le_of_ble_eq_true rfl, Nat.le_of_ble_eq_true rfl⟩ ⟨Nat.zero_le _, Nat.zero_le _⟩ dX10_nestsAll_1) hw (fun H locs hw => ?_)
  refine lv_aload_n hx hb dX10_nestsAll_4 rfl (lv_at hl 0 rfl) ?_
  refine lv_iconst (v := 0) hx hb dX10_nestsAll_5 (by decide) ?_
  obtain ⟨hT8, hf⟩ := gt_inv hf
  obtain ⟨r6, M5, hc7, hf⟩ := cl_inv hf
  refine fin_I (run_V C hw mf_X10_nestsIn mv_X10_nestsIn ml_X10_164 cf10 hT8 (c_X10_nestsIn l G A ad hc7) (As := [.int 0]) (rest := []) hl.1 rfl rfl (Nat.le_of_ble_eq_true rfl) ⟨rfl, rfl, Nat.le_of_ble_eq_true rfl, Nat.le_of_ble_eq_true rfl⟩ ⟨Nat.zero_le _, Nat.zero_le _⟩ dX10_nestsAll_6) hw (fun H locs hw => ?_)
  refine lv_aload_n hx hb dX10_nestsAll_9 rfl (lv_at hl 0 rfl) ?_
  refine lv_iconst (v := 1) hx hb dX10_nestsAll_10 (by decide) ?_
  obtain ⟨hT12, hf⟩ := gt_inv hf
  obtain ⟨r10, M9, hc11, hf⟩ := cl_inv hf
  refine fin_I (run_V C hw mf_X10_nestsIn mv_X10_nestsIn ml_X10_164 cf10 hT12 (c_X10_nestsIn l G A ad hc11) (As := [.int 1]) (rest := [.int r6]) hl.1 rfl rfl (Nat.le_of_ble_eq_true rfl) ⟨rfl, rfl, Nat.le_of_ble_eq_true rfl, Nat.le_of_ble_eq_true rfl⟩ ⟨Nat.zero_le _, Nat.zero_le _⟩ dX10_nestsAll_11) hw (fun H locs hw => ?_)
  refine lv_iadd hx hb dX10_nestsAll_14 ?_
  refine lv_aload_n hx hb dX10_nestsAll_15 rfl (lv_at hl 0 rfl) ?_
  refine lv_iconst (v := 2) hx hb dX10_nestsAll_16 (by decide) ?_
  obtain ⟨hT16, hf⟩ := gt_inv hf
  obtain ⟨r14, M13, hc15, hf⟩ := cl_inv hf
  refine fin_I (run_V C hw mf_X10_nestsIn mv_X10_nestsIn ml_X10_164 cf10 hT16 (c_X10_nestsIn l G A ad hc15) (As := [.int 2]) (rest := [.int (r6 + r10)]) hl.1 rfl rfl (Nat.le_of_ble_eq_true rfl) ⟨rfl, rfl, Nat.le_of_ble_eq_true rfl, Nat.le_of_ble_eq_true rfl⟩ ⟨Nat.zero_le _, Nat.zero_le _⟩ dX10_nestsAll_17) hw (fun H locs hw => ?_)
  refine lv_iadd hx hb dX10_nestsAll_20 ?_
  refine lv_aload_n hx hb dX10_nestsAll_21 rfl (lv_at hl 0 rfl) ?_
  refine lv_iconst (v := 3) hx hb dX10_nestsAll_22 (by decide) ?_
  obtain ⟨hT20, hf⟩ := gt_inv hf
  obtain ⟨r18, M17, hc19, hf⟩ := cl_inv hf
  refine fin_I (run_V C hw mf_X10_nestsIn mv_X10_nestsIn ml_X10_164 cf10 hT20 (c_X10_nestsIn l G A ad hc19) (As := [.int 3]) (rest := [.int ((r6 + r10) + r14)]) hl.1 rfl rfl (Nat.le_of_ble_eq_true rfl) ⟨rfl, rfl, Nat.le_of_ble_eq_true rfl, Nat.le_of_ble_eq_true rfl⟩ ⟨Nat.zero_le _, Nat.zero_le _⟩ dX10_nestsAll_23) hw (fun H locs hw => ?_)
  refine lv_iadd hx hb dX10_nestsAll_26 ?_
  exact e_iret C hw hf dX10_nestsAll_27
/-! StorkVoteModel.count(I)I -/
abbrev rm_X10_count : Room := { frames := 6, cells := 0, slots := 0, locals := 138 }
def f_X10_count (M : Mem) (x0 : Nat) (x1 : Int32) : Option (Int32 × Mem) := (if x1 = 0 then gt (mT M x0) 11 (lp (mP M x0 0) (fun a3 => gt (mT M a3) 20 (gd (ib 1 (mL M a3)) (some ((mI M a3 (1 : Int32).toNatClampNeg), M))))) else if x1 = 1 then gt (mT M x0) 11 (lp (mP M x0 0) (fun a9 => gt (mT M a9) 20 (gd (ib 2 (mL M a9)) (some ((mI M a9 (2 : Int32).toNatClampNeg), M))))) else if x1 = 2 then gt (mT M x0) 11 (cl (f_X10_hereMany M x0) (fun r15 M14 => some (r15, M14))) else if x1 = 3 then gt (mT M x0) 11 (lp (mP M x0 0) (fun a20 => gt (mT M a20) 20 (gd (ib (0 + x1) (mL M a20)) (some ((mI M a20 (0 + x1).toNatClampNeg), M))))) else if x1 = 4 then gt (mT M x0) 11 (lp (mP M x0 0) (fun a26 => gt (mT M a26) 20 (gd (ib (0 + x1) (mL M a26)) (some ((mI M a26 (0 + x1).toNatClampNeg), M))))) else if x1 = 5 then gt (mT M x0) 11 (lp (mP M x0 0) (fun a32 => gt (mT M a32) 20 (gd (ib (0 + x1) (mL M a32)) (some ((mI M a32 (0 + x1).toNatClampNeg), M))))) else if x1 = 6 then gt (mT M x0) 11 (lp (mP M x0 0) (fun a38 => gt (mT M a38) 20 (gd (ib (0 + x1) (mL M a38)) (some ((mI M a38 (0 + x1).toNatClampNeg), M))))) else if x1 = 7 then gt (mT M x0) 11 (cl (f_X10_nestsAll M x0) (fun r44 M43 => some (r44, M43))) else if x1 = 8 then gt (mT M x0) 11 (lp (mP M x0 0) (fun a49 => gt (mT M a49) 20 (gd (ib 7 (mL M a49)) (some ((mI M a49 (7 : Int32).toNatClampNeg), M))))) else if x1 = 9 then gt (mT M x0) 11 (some ((mI M x0 36), M)) else if x1 = 10 then gt (mT M x0) 11 (some ((mI M x0 10), M)) else if x1 = 11 then gt (mT M x0) 11 (lp (mP M x0 0) (fun a59 => gt (mT M a59) 20 (gd (ib 0 (mL M a59)) (some ((mI M a59 (0 : Int32).toNatClampNeg), M))))) else some ((-1000000001), M))
set_option maxHeartbeats 4000000 in
set_option maxRecDepth 100000 in
theorem c_X10_count (l : Launch) (G : Gd) (A : Nat → Prop) (ad : Nat → Nat) {M : Mem} {x0 : Nat} {x1 : Int32}  {r : Int32} {M' : Mem} (hf : f_X10_count M x0 x1 = some (r, M')) : Ct l yX10_count cX10_count 2 (some .int) rm_X10_count [.ref (ad x0), .int x1] G A ad M (QI G A ad r M') 0 0 := by
  refine ct_start (by decide) (Nat.le_of_ble_eq_true rfl) ?_
  intro p e s m args below meth c ls C hin hw hl
  have C : Cx G A p s m args meth c RX10 cX10_count 2 (some .int) := C
  have hl : lv_has ls 2 [(0, .ref (ad x0)), (1, .int x1)] := hl
  obtain ⟨hx, hb, -⟩ := id C
  rw [f_X10_count] at hf
  refine lv_iload_n hx hb dX10_count_0 rfl (lv_at hl 1 rfl) ?_
  by_cases hc1 : x1 = 0
  · have hf := if_p hc1 hf
    refine r_tabIn 0 hc1 hx hb dX10_count_1 (by decide) (by decide) rfl (tgt := 64) (by decide) ?_
    refine lv_aload_n hx hb dX10_count_64 rfl (lv_at hl 0 rfl) ?_
    obtain ⟨hT2, hf⟩ := gt_inv hf
    obtain ⟨a3, hP4, hf⟩ := lp_inv hf
    refine r_getP C hw cf10 0 (by decide) rfl hT2 hP4 fl_X10_9 dX10_count_65 ?_
    refine lv_iconst (v := 1) hx hb dX10_count_68 (by decide) ?_
    obtain ⟨hT5, hf⟩ := gt_inv hf
    obtain ⟨hg6, hf⟩ := gd_inv hf
    refine r_iald C hw hT5 hg6 dX10_count_69 ?_
    exact e_iret C hw hf dX10_count_70
  · have hf := if_n hc1 hf
    by_cases hc7 : x1 = 1
    · have hf := if_p hc7 hf
      refine r_tabIn 1 hc7 hx hb dX10_count_1 (by decide) (by decide) rfl (tgt := 71) (by decide) ?_
      refine lv_aload_n hx hb dX10_count_71 rfl (lv_at hl 0 rfl) ?_
      obtain ⟨hT8, hf⟩ := gt_inv hf
      obtain ⟨a9, hP10, hf⟩ := lp_inv hf
      refine r_getP C hw cf10 0 (by decide) rfl hT8 hP10 fl_X10_9 dX10_count_72 ?_
      refine lv_iconst (v := 2) hx hb dX10_count_75 (by decide) ?_
      obtain ⟨hT11, hf⟩ := gt_inv hf
      obtain ⟨hg12, hf⟩ := gd_inv hf
      refine r_iald C hw hT11 hg12 dX10_count_76 ?_
      exact e_iret C hw hf dX10_count_77
    · have hf := if_n hc7 hf
      by_cases hc13 : x1 = 2
      · have hf := if_p hc13 hf
        refine r_tabIn 2 hc13 hx hb dX10_count_1 (by decide) (by decide) rfl (tgt := 78) (by decide) ?_
        refine lv_aload_n hx hb dX10_count_78 rfl (lv_at hl 0 rfl) ?_
        obtain ⟨hT17, hf⟩ := gt_inv hf
        obtain ⟨r15, M14, hc16, hf⟩ := cl_inv hf
        refine fin_I (run_V C hw mf_X10_hereMany mv_X10_hereMany ml_X10_185 cf10 hT17 (c_X10_hereMany l G A ad hc16) (As := []) (rest := []) hl.1 rfl rfl (Nat.le_of_ble_eq_true rfl) ⟨rfl, rfl, Nat.le_of_ble_eq_true rfl, Nat.le_of_ble_eq_true rfl⟩ ⟨Nat.zero_le _, Nat.zero_le _⟩ dX10_count_79) hw (fun H locs hw => ?_)
        exact e_iret C hw hf dX10_count_82
      · have hf := if_n hc13 hf
        by_cases hc18 : x1 = 3
        · have hf := if_p hc18 hf
          refine r_tabIn 3 hc18 hx hb dX10_count_1 (by decide) (by decide) rfl (tgt := 83) (by decide) ?_
          refine lv_aload_n hx hb dX10_count_83 rfl (lv_at hl 0 rfl) ?_
          obtain ⟨hT19, hf⟩ := gt_inv hf
          obtain ⟨a20, hP21, hf⟩ := lp_inv hf
          refine r_getP C hw cf10 0 (by decide) rfl hT19 hP21 fl_X10_9 dX10_count_84 ?_
          refine lv_iconst (v := 0) hx hb dX10_count_87 (by decide) ?_
          refine lv_iload_n hx hb dX10_count_88 rfl (lv_at hl 1 rfl) ?_
          refine lv_iadd hx hb dX10_count_89 ?_
          obtain ⟨hT22, hf⟩ := gt_inv hf
          obtain ⟨hg23, hf⟩ := gd_inv hf
          refine r_iald C hw hT22 hg23 dX10_count_90 ?_
          exact e_iret C hw hf dX10_count_91
        · have hf := if_n hc18 hf
          by_cases hc24 : x1 = 4
          · have hf := if_p hc24 hf
            refine r_tabIn 4 hc24 hx hb dX10_count_1 (by decide) (by decide) rfl (tgt := 83) (by decide) ?_
            refine lv_aload_n hx hb dX10_count_83 rfl (lv_at hl 0 rfl) ?_
            obtain ⟨hT25, hf⟩ := gt_inv hf
            obtain ⟨a26, hP27, hf⟩ := lp_inv hf
            refine r_getP C hw cf10 0 (by decide) rfl hT25 hP27 fl_X10_9 dX10_count_84 ?_
            refine lv_iconst (v := 0) hx hb dX10_count_87 (by decide) ?_
            refine lv_iload_n hx hb dX10_count_88 rfl (lv_at hl 1 rfl) ?_
            refine lv_iadd hx hb dX10_count_89 ?_
            obtain ⟨hT28, hf⟩ := gt_inv hf
            obtain ⟨hg29, hf⟩ := gd_inv hf
            refine r_iald C hw hT28 hg29 dX10_count_90 ?_
            exact e_iret C hw hf dX10_count_91
          · have hf := if_n hc24 hf
            by_cases hc30 : x1 = 5
            · have hf := if_p hc30 hf
              refine r_tabIn 5 hc30 hx hb dX10_count_1 (by decide) (by decide) rfl (tgt := 83) (by decide) ?_
              refine lv_aload_n hx hb dX10_count_83 rfl (lv_at hl 0 rfl) ?_
              obtain ⟨hT31, hf⟩ := gt_inv hf
              obtain ⟨a32, hP33, hf⟩ := lp_inv hf
              refine r_getP C hw cf10 0 (by decide) rfl hT31 hP33 fl_X10_9 dX10_count_84 ?_
              refine lv_iconst (v := 0) hx hb dX10_count_87 (by decide) ?_
              refine lv_iload_n hx hb dX10_count_88 rfl (lv_at hl 1 rfl) ?_
              refine lv_iadd hx hb dX10_count_89 ?_
              obtain ⟨hT34, hf⟩ := gt_inv hf
              obtain ⟨hg35, hf⟩ := gd_inv hf
              refine r_iald C hw hT34 hg35 dX10_count_90 ?_
              exact e_iret C hw hf dX10_count_91
            · have hf := if_n hc30 hf
              by_cases hc36 : x1 = 6
              · have hf := if_p hc36 hf
                refine r_tabIn 6 hc36 hx hb dX10_count_1 (by decide) (by decide) rfl (tgt := 83) (by decide) ?_
                refine lv_aload_n hx hb dX10_count_83 rfl (lv_at hl 0 rfl) ?_
                obtain ⟨hT37, hf⟩ := gt_inv hf
                obtain ⟨a38, hP39, hf⟩ := lp_inv hf
                refine r_getP C hw cf10 0 (by decide) rfl hT37 hP39 fl_X10_9 dX10_count_84 ?_
                refine lv_iconst (v := 0) hx hb dX10_count_87 (by decide) ?_
                refine lv_iload_n hx hb dX10_count_88 rfl (lv_at hl 1 rfl) ?_
                refine lv_iadd hx hb dX10_count_89 ?_
                obtain ⟨hT40, hf⟩ := gt_inv hf
                obtain ⟨hg41, hf⟩ := gd_inv hf
                refine r_iald C hw hT40 hg41 dX10_count_90 ?_
                exact e_iret C hw hf dX10_count_91
              · have hf := if_n hc36 hf
                by_cases hc42 : x1 = 7
                · have hf := if_p hc42 hf
                  refine r_tabIn 7 hc42 hx hb dX10_count_1 (by decide) (by decide) rfl (tgt := 92) (by decide) ?_
                  refine lv_aload_n hx hb dX10_count_92 rfl (lv_at hl 0 rfl) ?_
                  obtain ⟨hT46, hf⟩ := gt_inv hf
                  obtain ⟨r44, M43, hc45, hf⟩ := cl_inv hf
                  refine fin_I (run_V C hw mf_X10_nestsAll mv_X10_nestsAll ml_X10_285 cf10 hT46 (c_X10_nestsAll l G A ad hc45) (As := []) (rest := []) hl.1 rfl rfl (Nat.le_of_ble_eq_true rfl) ⟨rfl, rfl, Nat.le_of_ble_eq_true rfl, Nat.le_of_ble_eq_true rfl⟩ ⟨Nat.zero_le _, Nat.zero_le _⟩ dX10_count_93) hw (fun H locs hw => ?_)
                  exact e_iret C hw hf dX10_count_96
                · have hf := if_n hc42 hf
                  by_cases hc47 : x1 = 8
                  · have hf := if_p hc47 hf
                    refine r_tabIn 8 hc47 hx hb dX10_count_1 (by decide) (by decide) rfl (tgt := 97) (by decide) ?_
                    refine lv_aload_n hx hb dX10_count_97 rfl (lv_at hl 0 rfl) ?_
                    obtain ⟨hT48, hf⟩ := gt_inv hf
                    obtain ⟨a49, hP50, hf⟩ := lp_inv hf
                    refine r_getP C hw cf10 0 (by decide) rfl hT48 hP50 fl_X10_9 dX10_count_98 ?_
                    refine lv_bipush (v := 7) hx hb dX10_count_101 (by decide) ?_
                    obtain ⟨hT51, hf⟩ := gt_inv hf
                    obtain ⟨hg52, hf⟩ := gd_inv hf
                    refine r_iald C hw hT51 hg52 dX10_count_103 ?_
                    exact e_iret C hw hf dX10_count_104
                  · have hf := if_n hc47 hf
                    by_cases hc53 : x1 = 9
                    · have hf := if_p hc53 hf
                      refine r_tabIn 9 hc53 hx hb dX10_count_1 (by decide) (by decide) rfl (tgt := 105) (by decide) ?_
                      refine lv_aload_n hx hb dX10_count_105 rfl (lv_at hl 0 rfl) ?_
                      obtain ⟨hT54, hf⟩ := gt_inv hf
                      refine r_getI C hw cf10 36 (by decide) rfl hT54 fl_X10_274 dX10_count_106 ?_
                      exact e_iret C hw hf dX10_count_109
                    · have hf := if_n hc53 hf
                      by_cases hc55 : x1 = 10
                      · have hf := if_p hc55 hf
                        refine r_tabIn 10 hc55 hx hb dX10_count_1 (by decide) (by decide) rfl (tgt := 110) (by decide) ?_
                        refine lv_aload_n hx hb dX10_count_110 rfl (lv_at hl 0 rfl) ?_
                        obtain ⟨hT56, hf⟩ := gt_inv hf
                        refine r_getI C hw cf10 10 (by decide) rfl hT56 fl_X10_199 dX10_count_111 ?_
                        exact e_iret C hw hf dX10_count_114
                      · have hf := if_n hc55 hf
                        by_cases hc57 : x1 = 11
                        · have hf := if_p hc57 hf
                          refine r_tabIn 11 hc57 hx hb dX10_count_1 (by decide) (by decide) rfl (tgt := 115) (by decide) ?_
                          refine lv_aload_n hx hb dX10_count_115 rfl (lv_at hl 0 rfl) ?_
                          obtain ⟨hT58, hf⟩ := gt_inv hf
                          obtain ⟨a59, hP60, hf⟩ := lp_inv hf
                          refine r_getP C hw cf10 0 (by decide) rfl hT58 hP60 fl_X10_9 dX10_count_116 ?_
                          refine lv_iconst (v := 0) hx hb dX10_count_119 (by decide) ?_
                          obtain ⟨hT61, hf⟩ := gt_inv hf
                          obtain ⟨hg62, hf⟩ := gd_inv hf
                          refine r_iald C hw hT61 hg62 dX10_count_120 ?_
                          exact e_iret C hw hf dX10_count_121
                        · have hf := if_n hc57 hf
                          refine r_tabOut hx hb dX10_count_1 (by have n0 := sw_nei (k := 0) (by decide) hc1; have n1 := sw_nei (k := 1) (by decide) hc7; have n2 := sw_nei (k := 2) (by decide) hc13; have n3 := sw_nei (k := 3) (by decide) hc18; have n4 := sw_nei (k := 4) (by decide) hc24; have n5 := sw_nei (k := 5) (by decide) hc30; have n6 := sw_nei (k := 6) (by decide) hc36; have n7 := sw_nei (k := 7) (by decide) hc42; have n8 := sw_nei (k := 8) (by decide) hc47; have n9 := sw_nei (k := 9) (by decide) hc53; have n10 := sw_nei (k := 10) (by decide) hc55; have n11 := sw_nei (k := 11) (by decide) hc57; omega) (tgt := 122) (by decide) ?_
                          refine lv_ldc hx hb C.2.2.2.1 (C.2.2.2.2.1 _ kc_X10_97) dX10_count_122 ?_
                          exact e_iret C hw hf dX10_count_124
