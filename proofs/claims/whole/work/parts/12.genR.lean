/-! StorkVoteModel.storkTold(II)I -/
abbrev rm_X10_storkTold : Room := { frames := 5, cells := 0, slots := 0, locals := 118 }
def f_X10_storkTold (M : Mem) (x0 : Nat) (x1 : Int32) (x2 : Int32) : Option (Int32 × Mem) := gt (mT M x0) 11 (cl (f_X10_isStork M x0 x1) (fun r2 M1 => (if r2 = 0 then some ((-1000000001), M1) else cl (f_X10_in M1 x2 0 3) (fun r6 M5 => (if r6 = 0 then some ((-1000000001), M5) else (if x2 = 3 then gt (mT M5 x0) 11 (cl (f_X10_spring M5 x0) (fun _ M16 => gt (mT M16 x0) 11 (lp (mP M16 x0 6) (fun a21 => gt (mT M16 a21) 20 (gd (ib x1 (mL M16 a21)) (cl (f_X10_told0 M16 (mI M16 a21 x1.toNatClampNeg)) (fun r26 M25 => some (r26, M25)))))))) else gt (mT M5 x0) 11 (lp (mP M5 x0 0) (fun a9 => gt (mT M5 a9) 20 (gd (ib ((8 + (3 * x1)) + x2) (mL M5 a9)) (cl (f_X10_told0 M5 (mI M5 a9 ((8 + (3 * x1)) + x2).toNatClampNeg)) (fun r14 M13 => some (r14, M13))))))))))))
set_option maxHeartbeats 4000000 in
set_option maxRecDepth 100000 in
theorem c_X10_storkTold (l : Launch) (G : Gd) (A : Nat → Prop) (ad : Nat → Nat) {M : Mem} {x0 : Nat} {x1 : Int32} {x2 : Int32}  {r : Int32} {M' : Mem} (hf : f_X10_storkTold M x0 x1 x2 = some (r, M')) : Ct l yX10_storkTold cX10_storkTold 3 (some .int) rm_X10_storkTold [.ref (ad x0), .int x1, .int x2] G A ad M (QI G A ad r M') 0 0 := by
  refine ct_start (by decide) (Nat.le_of_ble_eq_true rfl) ?_
  intro p e s m args below meth c ls C hin hw hl
  have C : Cx G A p s m args meth c RX10 cX10_storkTold 3 (some .int) := C
  have hl : lv_has ls 3 [(0, .ref (ad x0)), (1, .int x1), (2, .int x2)] := hl
  obtain ⟨hx, hb, -⟩ := id C
  rw [f_X10_storkTold] at hf
  refine lv_aload_n hx hb dX10_storkTold_0 rfl (lv_at hl 0 rfl) ?_
  refine lv_iload_n hx hb dX10_storkTold_1 rfl (lv_at hl 1 rfl) ?_
  obtain ⟨hT4, hf⟩ := gt_inv hf
  obtain ⟨r2, M1, hc3, hf⟩ := cl_inv hf
  refine fin_I (run_V C hw mf_X10_isStork mv_X10_isStork ml_X10_131 cf10 hT4 (c_X10_isStork l G A ad hc3) (As := [.int x1]) (rest := []) hl.1 rfl rfl (Nat.le_of_ble_eq_true rfl) ⟨rfl, rfl, Nat.le_of_ble_eq_true rfl, Nat.le_of_ble_eq_true rfl⟩ ⟨Nat.zero_le _, Nat.zero_le _⟩ dX10_storkTold_2) hw (fun H locs hw => ?_)
  refine lv_if_eq (tgt := 17) hx hb dX10_storkTold_5 (by decide) (fun hc => ?_) (fun hc => ?_)
  · have hf := if_p hc hf
    refine lv_ldc hx hb C.2.2.2.1 (C.2.2.2.2.1 _ kc_X10_97) dX10_storkTold_17 ?_
    exact e_iret C hw hf dX10_storkTold_19
  · have hf := if_n hc hf
    refine lv_iload_n hx hb dX10_storkTold_8 rfl (lv_at hl 2 rfl) ?_
    refine lv_iconst (v := 0) hx hb dX10_storkTold_9 (by decide) ?_
    refine lv_iconst (v := 3) hx hb dX10_storkTold_10 (by decide) ?_
    obtain ⟨r6, M5, hc7, hf⟩ := cl_inv hf
    refine fin_I (run_S C hw mf_X10_in ms_X10_in ml_X10_89 (c_X10_in l G A ad hc7) (As := [.int x2, .int 0, .int 3]) (rest := []) hl.1 rfl rfl (Nat.le_of_ble_eq_true rfl) ⟨rfl, rfl, Nat.le_of_ble_eq_true rfl, Nat.le_of_ble_eq_true rfl⟩ ⟨Nat.zero_le _, Nat.zero_le _⟩ dX10_storkTold_11) hw (fun H locs hw => ?_)
    refine lv_if_ne (tgt := 20) hx hb dX10_storkTold_14 (by decide) (fun hc => ?_) (fun hc => ?_)
    · have hf := if_n hc hf
      refine lv_iload_n hx hb dX10_storkTold_20 rfl (lv_at hl 2 rfl) ?_
      refine lv_iconst (v := 3) hx hb dX10_storkTold_21 (by decide) ?_
      refine lv_icmp_ne (tgt := 39) hx hb dX10_storkTold_22 (by decide) (fun hc => ?_) (fun hc => ?_)
      · have hf := if_n hc hf
        refine lv_aload_n hx hb dX10_storkTold_39 rfl (lv_at hl 0 rfl) ?_
        obtain ⟨hT8, hf⟩ := gt_inv hf
        obtain ⟨a9, hP10, hf⟩ := lp_inv hf
        refine r_getP C hw cf10 0 (by decide) rfl hT8 hP10 fl_X10_9 dX10_storkTold_40 ?_
        refine lv_bipush (v := 8) hx hb dX10_storkTold_43 (by decide) ?_
        refine lv_iconst (v := 3) hx hb dX10_storkTold_45 (by decide) ?_
        refine lv_iload_n hx hb dX10_storkTold_46 rfl (lv_at hl 1 rfl) ?_
        refine lv_imul hx hb dX10_storkTold_47 ?_
        refine lv_iadd hx hb dX10_storkTold_48 ?_
        refine lv_iload_n hx hb dX10_storkTold_49 rfl (lv_at hl 2 rfl) ?_
        refine lv_iadd hx hb dX10_storkTold_50 ?_
        obtain ⟨hT11, hf⟩ := gt_inv hf
        obtain ⟨hg12, hf⟩ := gd_inv hf
        refine r_iald C hw hT11 hg12 dX10_storkTold_51 ?_
        obtain ⟨r14, M13, hc15, hf⟩ := cl_inv hf
        refine fin_I (run_S C hw mf_X10_told0 ms_X10_told0 ml_X10_117 (c_X10_told0 l G A ad hc15) (As := [.int (mI M5 a9 ((8 + (3 * x1)) + x2).toNatClampNeg)]) (rest := []) hl.1 rfl rfl (Nat.le_of_ble_eq_true rfl) ⟨rfl, rfl, Nat.le_of_ble_eq_true rfl, Nat.le_of_ble_eq_true rfl⟩ ⟨Nat.zero_le _, Nat.zero_le _⟩ dX10_storkTold_52) hw (fun H locs hw => ?_)
        exact e_iret C hw hf dX10_storkTold_55
      · have hf := if_p hc hf
        refine lv_aload_n hx hb dX10_storkTold_25 rfl (lv_at hl 0 rfl) ?_
        obtain ⟨hT19, hf⟩ := gt_inv hf
        obtain ⟨⟨⟩, M16, hc18, hf⟩ := cl_inv hf
        refine fin_V (run_V C hw mf_X10_spring mv_X10_spring ml_X10_114 cf10 hT19 (c_X10_spring l G A ad hc18) (As := []) (rest := []) hl.1 rfl rfl (Nat.le_of_ble_eq_true rfl) ⟨rfl, rfl, Nat.le_of_ble_eq_true rfl, Nat.le_of_ble_eq_true rfl⟩ ⟨Nat.zero_le _, Nat.zero_le _⟩ dX10_storkTold_26) hw (fun H locs hw => ?_)
        refine lv_aload_n hx hb dX10_storkTold_29 rfl (lv_at hl 0 rfl) ?_
        obtain ⟨hT20, hf⟩ := gt_inv hf
        obtain ⟨a21, hP22, hf⟩ := lp_inv hf
        refine r_getP C hw cf10 6 (by decide) rfl hT20 hP22 fl_X10_26 dX10_storkTold_30 ?_
        refine lv_iload_n hx hb dX10_storkTold_33 rfl (lv_at hl 1 rfl) ?_
        obtain ⟨hT23, hf⟩ := gt_inv hf
        obtain ⟨hg24, hf⟩ := gd_inv hf
        refine r_iald C hw hT23 hg24 dX10_storkTold_34 ?_
        obtain ⟨r26, M25, hc27, hf⟩ := cl_inv hf
        refine fin_I (run_S C hw mf_X10_told0 ms_X10_told0 ml_X10_117 (c_X10_told0 l G A ad hc27) (As := [.int (mI M16 a21 x1.toNatClampNeg)]) (rest := []) hl.1 rfl rfl (Nat.le_of_ble_eq_true rfl) ⟨rfl, rfl, Nat.le_of_ble_eq_true rfl, Nat.le_of_ble_eq_true rfl⟩ ⟨Nat.zero_le _, Nat.zero_le _⟩ dX10_storkTold_35) hw (fun H locs hw => ?_)
        exact e_iret C hw hf dX10_storkTold_38
    · have hf := if_p hc hf
      refine lv_ldc hx hb C.2.2.2.1 (C.2.2.2.2.1 _ kc_X10_97) dX10_storkTold_17 ?_
      exact e_iret C hw hf dX10_storkTold_19
/-! StorkVoteModel.away(II)I -/
abbrev rm_X10_away : Room := { frames := 2, cells := 0, slots := 0, locals := 43 }
def f_X10_away (M : Mem) (x0 : Nat) (x1 : Int32) (x2 : Int32) : Option (Int32 × Mem) := gt (mT M x0) 11 (cl (f_X10_isStork M x0 x1) (fun r2 M1 => (if r2 = 0 then some ((-1000000001), M1) else cl (f_X10_in M1 x2 0 1) (fun r6 M5 => (if r6 = 0 then some ((-1000000001), M5) else gt (mT M5 x0) 11 (cl (f_X10_becomes M5 x0 ((8 + (3 * x1)) + 2) x2) (fun r9 M8 => some (r9, M8))))))))
set_option maxHeartbeats 4000000 in
set_option maxRecDepth 100000 in
theorem c_X10_away (l : Launch) (G : Gd) (A : Nat → Prop) (ad : Nat → Nat) {M : Mem} {x0 : Nat} {x1 : Int32} {x2 : Int32}  {r : Int32} {M' : Mem} (hf : f_X10_away M x0 x1 x2 = some (r, M')) : Ct l yX10_away cX10_away 3 (some .int) rm_X10_away [.ref (ad x0), .int x1, .int x2] G A ad M (QI G A ad r M') 0 0 := by
  refine ct_start (by decide) (Nat.le_of_ble_eq_true rfl) ?_
  intro p e s m args below meth c ls C hin hw hl
  have C : Cx G A p s m args meth c RX10 cX10_away 3 (some .int) := C
  have hl : lv_has ls 3 [(0, .ref (ad x0)), (1, .int x1), (2, .int x2)] := hl
  obtain ⟨hx, hb, -⟩ := id C
  rw [f_X10_away] at hf
  refine lv_aload_n hx hb dX10_away_0 rfl (lv_at hl 0 rfl) ?_
  refine lv_iload_n hx hb dX10_away_1 rfl (lv_at hl 1 rfl) ?_
  obtain ⟨hT4, hf⟩ := gt_inv hf
  obtain ⟨r2, M1, hc3, hf⟩ := cl_inv hf
  refine fin_I (run_V C hw mf_X10_isStork mv_X10_isStork ml_X10_131 cf10 hT4 (c_X10_isStork l G A ad hc3) (As := [.int x1]) (rest := []) hl.1 rfl rfl (Nat.le_of_ble_eq_true rfl) ⟨rfl, rfl, Nat.le_of_ble_eq_true rfl, Nat.le_of_ble_eq_true rfl⟩ ⟨Nat.zero_le _, Nat.zero_le _⟩ dX10_away_2) hw (fun H locs hw => ?_)
  refine lv_if_eq (tgt := 33) hx hb dX10_away_5 (by decide) (fun hc => ?_) (fun hc => ?_)
  · have hf := if_p hc hf
    refine lv_ldc hx hb C.2.2.2.1 (C.2.2.2.2.1 _ kc_X10_97) dX10_away_33 ?_
    exact e_iret C hw hf dX10_away_35
  · have hf := if_n hc hf
    refine lv_iload_n hx hb dX10_away_8 rfl (lv_at hl 2 rfl) ?_
    refine lv_iconst (v := 0) hx hb dX10_away_9 (by decide) ?_
    refine lv_iconst (v := 1) hx hb dX10_away_10 (by decide) ?_
    obtain ⟨r6, M5, hc7, hf⟩ := cl_inv hf
    refine fin_I (run_S C hw mf_X10_in ms_X10_in ml_X10_89 (c_X10_in l G A ad hc7) (As := [.int x2, .int 0, .int 1]) (rest := []) hl.1 rfl rfl (Nat.le_of_ble_eq_true rfl) ⟨rfl, rfl, Nat.le_of_ble_eq_true rfl, Nat.le_of_ble_eq_true rfl⟩ ⟨Nat.zero_le _, Nat.zero_le _⟩ dX10_away_11) hw (fun H locs hw => ?_)
    refine lv_if_eq (tgt := 33) hx hb dX10_away_14 (by decide) (fun hc => ?_) (fun hc => ?_)
    · have hf := if_p hc hf
      refine lv_ldc hx hb C.2.2.2.1 (C.2.2.2.2.1 _ kc_X10_97) dX10_away_33 ?_
      exact e_iret C hw hf dX10_away_35
    · have hf := if_n hc hf
      refine lv_aload_n hx hb dX10_away_17 rfl (lv_at hl 0 rfl) ?_
      refine lv_bipush (v := 8) hx hb dX10_away_18 (by decide) ?_
      refine lv_iconst (v := 3) hx hb dX10_away_20 (by decide) ?_
      refine lv_iload_n hx hb dX10_away_21 rfl (lv_at hl 1 rfl) ?_
      refine lv_imul hx hb dX10_away_22 ?_
      refine lv_iadd hx hb dX10_away_23 ?_
      refine lv_iconst (v := 2) hx hb dX10_away_24 (by decide) ?_
      refine lv_iadd hx hb dX10_away_25 ?_
      refine lv_iload_n hx hb dX10_away_26 rfl (lv_at hl 2 rfl) ?_
      obtain ⟨hT11, hf⟩ := gt_inv hf
      obtain ⟨r9, M8, hc10, hf⟩ := cl_inv hf
      refine fin_I (run_V C hw mf_X10_becomes mv_X10_becomes ml_X10_125 cf10 hT11 (c_X10_becomes l G A ad hc10) (As := [.int ((8 + (3 * x1)) + 2), .int x2]) (rest := []) hl.1 rfl rfl (Nat.le_of_ble_eq_true rfl) ⟨rfl, rfl, Nat.le_of_ble_eq_true rfl, Nat.le_of_ble_eq_true rfl⟩ ⟨Nat.zero_le _, Nat.zero_le _⟩ dX10_away_27) hw (fun H locs hw => ?_)
      refine lv_goto (tgt := 35) hx hb dX10_away_30 (by decide) ?_
      exact e_iret C hw hf dX10_away_35
/-! StorkVoteModel.likes(II)I -/
abbrev rm_X10_likes : Room := { frames := 3, cells := 0, slots := 0, locals := 72 }
def f_X10_likes (M : Mem) (x0 : Nat) (x1 : Int32) (x2 : Int32) : Option (Int32 × Mem) := gt (mT M x0) 11 (cl (f_X10_isStork M x0 x1) (fun r2 M1 => (if r2 = 0 then some ((-1000000001), M1) else gt (mT M1 x0) 11 (cl (f_X10_isChimney M1 x0 x2) (fun r6 M5 => (if r6 = 0 then some ((-1000000001), M5) else gt (mT M5 x0) 11 (cl (f_X10_likesOf M5 x0 x1 x2) (fun r10 M9 => some (r10, M9)))))))))
set_option maxHeartbeats 4000000 in
set_option maxRecDepth 100000 in
theorem c_X10_likes (l : Launch) (G : Gd) (A : Nat → Prop) (ad : Nat → Nat) {M : Mem} {x0 : Nat} {x1 : Int32} {x2 : Int32}  {r : Int32} {M' : Mem} (hf : f_X10_likes M x0 x1 x2 = some (r, M')) : Ct l yX10_likes cX10_likes 3 (some .int) rm_X10_likes [.ref (ad x0), .int x1, .int x2] G A ad M (QI G A ad r M') 0 0 := by
  refine ct_start (by decide) (Nat.le_of_ble_eq_true rfl) ?_
  intro p e s m args below meth c ls C hin hw hl
  have C : Cx G A p s m args meth c RX10 cX10_likes 3 (some .int) := C
  have hl : lv_has ls 3 [(0, .ref (ad x0)), (1, .int x1), (2, .int x2)] := hl
  obtain ⟨hx, hb, -⟩ := id C
  rw [f_X10_likes] at hf
  refine lv_aload_n hx hb dX10_likes_0 rfl (lv_at hl 0 rfl) ?_
  refine lv_iload_n hx hb dX10_likes_1 rfl (lv_at hl 1 rfl) ?_
  obtain ⟨hT4, hf⟩ := gt_inv hf
  obtain ⟨r2, M1, hc3, hf⟩ := cl_inv hf
  refine fin_I (run_V C hw mf_X10_isStork mv_X10_isStork ml_X10_131 cf10 hT4 (c_X10_isStork l G A ad hc3) (As := [.int x1]) (rest := []) hl.1 rfl rfl (Nat.le_of_ble_eq_true rfl) ⟨rfl, rfl, Nat.le_of_ble_eq_true rfl, Nat.le_of_ble_eq_true rfl⟩ ⟨Nat.zero_le _, Nat.zero_le _⟩ dX10_likes_2) hw (fun H locs hw => ?_)
  refine lv_if_eq (tgt := 25) hx hb dX10_likes_5 (by decide) (fun hc => ?_) (fun hc => ?_)
  · have hf := if_p hc hf
    refine lv_ldc hx hb C.2.2.2.1 (C.2.2.2.2.1 _ kc_X10_97) dX10_likes_25 ?_
    exact e_iret C hw hf dX10_likes_27
  · have hf := if_n hc hf
    refine lv_aload_n hx hb dX10_likes_8 rfl (lv_at hl 0 rfl) ?_
    refine lv_iload_n hx hb dX10_likes_9 rfl (lv_at hl 2 rfl) ?_
    obtain ⟨hT8, hf⟩ := gt_inv hf
    obtain ⟨r6, M5, hc7, hf⟩ := cl_inv hf
    refine fin_I (run_V C hw mf_X10_isChimney mv_X10_isChimney ml_X10_107 cf10 hT8 (c_X10_isChimney l G A ad hc7) (As := [.int x2]) (rest := []) hl.1 rfl rfl (Nat.le_of_ble_eq_true rfl) ⟨rfl, rfl, Nat.le_of_ble_eq_true rfl, Nat.le_of_ble_eq_true rfl⟩ ⟨Nat.zero_le _, Nat.zero_le _⟩ dX10_likes_10) hw (fun H locs hw => ?_)
    refine lv_if_eq (tgt := 25) hx hb dX10_likes_13 (by decide) (fun hc => ?_) (fun hc => ?_)
    · have hf := if_p hc hf
      refine lv_ldc hx hb C.2.2.2.1 (C.2.2.2.2.1 _ kc_X10_97) dX10_likes_25 ?_
      exact e_iret C hw hf dX10_likes_27
    · have hf := if_n hc hf
      refine lv_aload_n hx hb dX10_likes_16 rfl (lv_at hl 0 rfl) ?_
      refine lv_iload_n hx hb dX10_likes_17 rfl (lv_at hl 1 rfl) ?_
      refine lv_iload_n hx hb dX10_likes_18 rfl (lv_at hl 2 rfl) ?_
      obtain ⟨hT12, hf⟩ := gt_inv hf
      obtain ⟨r10, M9, hc11, hf⟩ := cl_inv hf
      refine fin_I (run_V C hw mf_X10_likesOf mv_X10_likesOf ml_X10_144 cf10 hT12 (c_X10_likesOf l G A ad hc11) (As := [.int x1, .int x2]) (rest := []) hl.1 rfl rfl (Nat.le_of_ble_eq_true rfl) ⟨rfl, rfl, Nat.le_of_ble_eq_true rfl, Nat.le_of_ble_eq_true rfl⟩ ⟨Nat.zero_le _, Nat.zero_le _⟩ dX10_likes_19) hw (fun H locs hw => ?_)
      refine lv_goto (tgt := 27) hx hb dX10_likes_22 (by decide) ?_
      exact e_iret C hw hf dX10_likes_27
/-! StorkVoteModel.rule(II)I -/
abbrev rm_X10_rule : Room := { frames := 1, cells := 0, slots := 0, locals := 23 }
def f_X10_rule_23 (M : Mem) (x0 : Nat) (x1 : Int32) (x2 : Int32) (s0 : Int32) (s1 : Int32) (s2 : Int32) : Option (Int32 × Mem) := cl (f_X10_in M s0 s1 s2) (fun r2 M1 => (if r2 = 0 then some ((-1000000001), M1) else gt (mT M1 x0) 11 (cl (f_X10_becomes M1 x0 (4 + x1) x2) (fun r5 M4 => some (r5, M4)))))
set_option maxHeartbeats 4000000 in
set_option maxRecDepth 100000 in
theorem t_X10_rule_23 {l : Launch} {p : Program} {e : Env} {s : State} {m : MethodId} {args : Array Value} {below : List Frame} {meth : Method} {c : Code} {G : Gd} {A : Nat → Prop} {ad : Nat → Nat} (C : Cx G A p s m args meth c RX10 cX10_rule 3 (some .int)) {r : Int32} {M' : Mem} : ∀ (M : Mem) (x0 : Nat) (x1 : Int32) (x2 : Int32) (s0 : Int32) (s1 : Int32) (s2 : Int32) (H : Heap) (locs : List Loc) (ls : Array Slot), f_X10_rule_23  M x0 x1 x2 s0 s1 s2 = some (r, M') → Wd G A ad s.heap M H locs → lv_has ls 3 [(0, .ref (ad x0)), (1, .int x1), (2, .int x2)] → W p l e rm_X10_rule s m args below meth c H locs 0 0 (MQ below (QI G A ad r M') args s 0 0 A) (F0 m 23 ls [.int s2, .int s1, .int s0]) := by
  obtain ⟨hx, hb, -⟩ := id C
  intro M x0 x1 x2 s0 s1 s2 H locs ls hf hw hl
  rw [f_X10_rule_23] at hf
  obtain ⟨r2, M1, hc3, hf⟩ := cl_inv hf
  refine fin_I (run_S C hw mf_X10_in ms_X10_in ml_X10_89 (c_X10_in l G A ad hc3) (As := [.int s0, .int s1, .int s2]) (rest := []) hl.1 rfl rfl (Nat.le_of_ble_eq_true rfl) ⟨rfl, rfl, Nat.le_of_ble_eq_true rfl, Nat.le_of_ble_eq_true rfl⟩ ⟨Nat.zero_le _, Nat.zero_le _⟩ dX10_rule_23) hw (fun H locs hw => ?_)
  refine lv_if_eq (tgt := 40) hx hb dX10_rule_26 (by decide) (fun hc => ?_) (fun hc => ?_)
  · have hf := if_p hc hf
    refine lv_ldc hx hb C.2.2.2.1 (C.2.2.2.2.1 _ kc_X10_97) dX10_rule_40 ?_
    exact e_iret C hw hf dX10_rule_42
  · have hf := if_n hc hf
    refine lv_aload_n hx hb dX10_rule_29 rfl (lv_at hl 0 rfl) ?_
    refine lv_iconst (v := 4) hx hb dX10_rule_30 (by decide) ?_
    refine lv_iload_n hx hb dX10_rule_31 rfl (lv_at hl 1 rfl) ?_
    refine lv_iadd hx hb dX10_rule_32 ?_
    refine lv_iload_n hx hb dX10_rule_33 rfl (lv_at hl 2 rfl) ?_
    obtain ⟨hT7, hf⟩ := gt_inv hf
    obtain ⟨r5, M4, hc6, hf⟩ := cl_inv hf
    refine fin_I (run_V C hw mf_X10_becomes mv_X10_becomes ml_X10_125 cf10 hT7 (c_X10_becomes l G A ad hc6) (As := [.int (4 + x1), .int x2]) (rest := []) hl.1 rfl rfl (Nat.le_of_ble_eq_true rfl) ⟨rfl, rfl, Nat.le_of_ble_eq_true rfl, Nat.le_of_ble_eq_true rfl⟩ ⟨Nat.zero_le _, Nat.zero_le _⟩ dX10_rule_34) hw (fun H locs hw => ?_)
    refine lv_goto (tgt := 42) hx hb dX10_rule_37 (by decide) ?_
    exact e_iret C hw hf dX10_rule_42
def f_X10_rule (M : Mem) (x0 : Nat) (x1 : Int32) (x2 : Int32) : Option (Int32 × Mem) := cl (f_X10_in M x1 0 2) (fun r2 M1 => (if r2 = 0 then some ((-1000000001), M1) else (if x1 = 0 then f_X10_rule_23 M1 x0 x1 x2 x2 0 999 else f_X10_rule_23 M1 x0 x1 x2 x2 0 100)))
set_option maxHeartbeats 4000000 in
set_option maxRecDepth 100000 in
theorem c_X10_rule (l : Launch) (G : Gd) (A : Nat → Prop) (ad : Nat → Nat) {M : Mem} {x0 : Nat} {x1 : Int32} {x2 : Int32}  {r : Int32} {M' : Mem} (hf : f_X10_rule M x0 x1 x2 = some (r, M')) : Ct l yX10_rule cX10_rule 3 (some .int) rm_X10_rule [.ref (ad x0), .int x1, .int x2] G A ad M (QI G A ad r M') 0 0 := by
  refine ct_start (by decide) (Nat.le_of_ble_eq_true rfl) ?_
  intro p e s m args below meth c ls C hin hw hl
  have C : Cx G A p s m args meth c RX10 cX10_rule 3 (some .int) := C
  have hl : lv_has ls 3 [(0, .ref (ad x0)), (1, .int x1), (2, .int x2)] := hl
  obtain ⟨hx, hb, -⟩ := id C
  rw [f_X10_rule] at hf
  refine lv_iload_n hx hb dX10_rule_0 rfl (lv_at hl 1 rfl) ?_
  refine lv_iconst (v := 0) hx hb dX10_rule_1 (by decide) ?_
  refine lv_iconst (v := 2) hx hb dX10_rule_2 (by decide) ?_
  obtain ⟨r2, M1, hc3, hf⟩ := cl_inv hf
  refine fin_I (run_S C hw mf_X10_in ms_X10_in ml_X10_89 (c_X10_in l G A ad hc3) (As := [.int x1, .int 0, .int 2]) (rest := []) hl.1 rfl rfl (Nat.le_of_ble_eq_true rfl) ⟨rfl, rfl, Nat.le_of_ble_eq_true rfl, Nat.le_of_ble_eq_true rfl⟩ ⟨Nat.zero_le _, Nat.zero_le _⟩ dX10_rule_3) hw (fun H locs hw => ?_)
  refine lv_if_eq (tgt := 40) hx hb dX10_rule_6 (by decide) (fun hc => ?_) (fun hc => ?_)
  · have hf := if_p hc hf
    refine lv_ldc hx hb C.2.2.2.1 (C.2.2.2.2.1 _ kc_X10_97) dX10_rule_40 ?_
    exact e_iret C hw hf dX10_rule_42
  · have hf := if_n hc hf
    refine lv_iload_n hx hb dX10_rule_9 rfl (lv_at hl 2 rfl) ?_
    refine lv_iconst (v := 0) hx hb dX10_rule_10 (by decide) ?_
    refine lv_iload_n hx hb dX10_rule_11 rfl (lv_at hl 1 rfl) ?_
    refine lv_if_ne (tgt := 21) hx hb dX10_rule_12 (by decide) (fun hc => ?_) (fun hc => ?_)
    · have hf := if_n hc hf
      refine lv_bipush (v := 100) hx hb dX10_rule_21 (by decide) ?_
      exact t_X10_rule_23 C M1 x0 x1 x2 x2 0 100 _ _ _ hf hw (lv_sub hl [0, 1, 2] rfl)
    · have hf := if_p hc hf
      refine lv_sipush (v := 999) hx hb dX10_rule_15 (by decide) ?_
      refine lv_goto (tgt := 23) hx hb dX10_rule_18 (by decide) ?_
      exact t_X10_rule_23 C M1 x0 x1 x2 x2 0 999 _ _ _ hf hw (lv_sub hl [0, 1, 2] rfl)
/-! StorkVoteModel.draw()I -/
abbrev rm_X10_draw : Room := { frames := 0, cells := 0, slots := 0, locals := 0 }
def f_X10_draw (M : Mem) (x0 : Nat) : Option (Int32 × Mem) := gt (mT M x0) 11 (lp (mP M x0 0) (fun a2 => gt (mT M a2) 20 (gd (ib 0 (mL M a2)) (gd (ib 0 (mL M a2)) (st (setI M a2 (0 : Int32).toNatClampNeg (((mI M a2 (0 : Int32).toNatClampNeg) * (1103515245)) + 12345)) (fun M7 => gd (ib 0 (mL M7 a2)) (some ((ushr (mI M7 a2 (0 : Int32).toNatClampNeg) 8), M7))))))))
set_option maxHeartbeats 4000000 in
set_option maxRecDepth 100000 in
theorem c_X10_draw (l : Launch) (G : Gd) (A : Nat → Prop) (ad : Nat → Nat) {M : Mem} {x0 : Nat}  {r : Int32} {M' : Mem} (hf : f_X10_draw M x0 = some (r, M')) : Ct l yX10_draw cX10_draw 1 (some .int) rm_X10_draw [.ref (ad x0)] G A ad M (QI G A ad r M') 0 0 := by
  refine ct_start (by decide) (Nat.le_of_ble_eq_true rfl) ?_
  intro p e s m args below meth c ls C hin hw hl
  have C : Cx G A p s m args meth c RX10 cX10_draw 1 (some .int) := C
  have hl : lv_has ls 1 [(0, .ref (ad x0))] := hl
  obtain ⟨hx, hb, -⟩ := id C
  rw [f_X10_draw] at hf
  refine lv_aload_n hx hb dX10_draw_0 rfl (lv_at hl 0 rfl) ?_
  obtain ⟨hT1, hf⟩ := gt_inv hf
  obtain ⟨a2, hP3, hf⟩ := lp_inv hf
  refine r_getP C hw cf10 0 (by decide) rfl hT1 hP3 fl_X10_9 dX10_draw_1 ?_
  refine lv_iconst (v := 0) hx hb dX10_draw_4 (by decide) ?_
  refine lv_aload_n hx hb dX10_draw_5 rfl (lv_at hl 0 rfl) ?_
  refine r_getP C hw cf10 0 (by decide) rfl hT1 hP3 fl_X10_9 dX10_draw_6 ?_
  refine lv_iconst (v := 0) hx hb dX10_draw_9 (by decide) ?_
  obtain ⟨hT4, hf⟩ := gt_inv hf
  obtain ⟨hg5, hf⟩ := gd_inv hf
  refine r_iald C hw hT4 hg5 dX10_draw_10 ?_
  refine lv_ldc hx hb C.2.2.2.1 (C.2.2.2.2.1 _ kc_X10_147) dX10_draw_11 ?_
  refine lv_imul hx hb dX10_draw_13 ?_
  refine lv_sipush (v := 12345) hx hb dX10_draw_14 (by decide) ?_
  refine lv_iadd hx hb dX10_draw_17 ?_
  obtain ⟨hg6, hf⟩ := gd_inv hf
  obtain ⟨M7, e8, hf⟩ := st_inv hf
  have g9 := sg_I e8
  refine r_iast C hw hT4 hg6 e8 dX10_draw_18 (fun H locs hw => ?_)
  refine lv_aload_n hx hb dX10_draw_19 rfl (lv_at hl 0 rfl) ?_
  refine r_getP C hw cf10 0 (by decide) rfl (T_of g9 hT1) (P_of g9 hP3) fl_X10_9 dX10_draw_20 ?_
  refine lv_iconst (v := 0) hx hb dX10_draw_23 (by decide) ?_
  obtain ⟨hg10, hf⟩ := gd_inv hf
  refine r_iald C hw (T_of g9 hT4) hg10 dX10_draw_24 ?_
  refine lv_bipush (v := 8) hx hb dX10_draw_25 (by decide) ?_
  refine lv_iushr (v := ushr (mI M7 a2 (0 : Int32).toNatClampNeg) 8) hx hb dX10_draw_27 rfl ?_
  exact e_iret C hw hf dX10_draw_28
/-! StorkVoteModel.deal(I)I -/
abbrev rm_X10_deal : Room := { frames := 1, cells := 0, slots := 0, locals := 25 }
def f_X10_deal_15 : Nat → Mem → Nat → Int32 → Int32 → Option (Int32 × Mem)
  | 0, _, _, _, _ => none
  | n + 1, M, x0, x1, x2 => (if x1 ≤ x2 then some (x2, M) else gt (mT M x0) 11 (lp (mP M x0 0) (fun a2 => gt (mT M a2) 20 (gd (ib 1 (mL M a2)) ((if 8 ≤ (mI M a2 (1 : Int32).toNatClampNeg) then some (x2, M) else cl (f_X10_draw M x0) (fun r7 M6 => gt (mT M6 x0) 11 (cl (f_X10_draw M6 x0) (fun r10 M9 => gt (mT M9 x0) 11 (cl (f_X10_draw M9 x0) (fun r14 M13 => gt (mT M13 x0) 11 (cl (f_X10_draw M13 x0) (fun r18 M17 => gt (mT M17 x0) 11 (cl (f_X10_comes M17 x0 (irm r7 6) (irm r10 4) (irm r14 60) (irm r18 60)) (fun r22 M21 => f_X10_deal_15 n M21 x0 x1 (x2 + 1))))))))))))))))
set_option maxHeartbeats 4000000 in
set_option maxRecDepth 100000 in
theorem t_X10_deal_15 {l : Launch} {p : Program} {e : Env} {s : State} {m : MethodId} {args : Array Value} {below : List Frame} {meth : Method} {c : Code} {G : Gd} {A : Nat → Prop} {ad : Nat → Nat} (C : Cx G A p s m args meth c RX10 cX10_deal 7 (some .int)) {r : Int32} {M' : Mem} : ∀ (n : Nat) (M : Mem) (x0 : Nat) (x1 : Int32) (x2 : Int32) (H : Heap) (locs : List Loc) (ls : Array Slot), f_X10_deal_15  n M x0 x1 x2 = some (r, M') → Wd G A ad s.heap M H locs → lv_has ls 7 [(0, .ref (ad x0)), (1, .int x1), (2, .int x2)] → W p l e rm_X10_deal s m args below meth c H locs 0 0 (MQ below (QI G A ad r M') args s 0 0 A) (F0 m 15 ls []) := by
  obtain ⟨hx, hb, -⟩ := id C
  intro n
  induction n with
  | zero =>
    intro M x0 x1 x2 H locs ls hf
    rw [f_X10_deal_15] at hf
    exact absurd hf (fun h => nomatch h)
  | succ n ih =>
    intro M x0 x1 x2 H locs ls hf hw hl
    rw [f_X10_deal_15] at hf
    refine lv_iload_n hx hb dX10_deal_15 rfl (lv_at hl 2 rfl) ?_
    refine lv_iload_n hx hb dX10_deal_16 rfl (lv_at hl 1 rfl) ?_
    refine lv_icmp_ge (tgt := 80) hx hb dX10_deal_17 (by decide) (fun hc => ?_) (fun hc => ?_)
    · have hf := if_p hc hf
      refine lv_iload_n hx hb dX10_deal_80 rfl (lv_at hl 2 rfl) ?_
      exact e_iret C hw hf dX10_deal_81
    · have hf := if_n hc hf
      refine lv_aload_n hx hb dX10_deal_20 rfl (lv_at hl 0 rfl) ?_
      obtain ⟨hT1, hf⟩ := gt_inv hf
      obtain ⟨a2, hP3, hf⟩ := lp_inv hf
      refine r_getP C hw cf10 0 (by decide) rfl hT1 hP3 fl_X10_9 dX10_deal_21 ?_
      refine lv_iconst (v := 1) hx hb dX10_deal_24 (by decide) ?_
      obtain ⟨hT4, hf⟩ := gt_inv hf
      obtain ⟨hg5, hf⟩ := gd_inv hf
      refine r_iald C hw hT4 hg5 dX10_deal_25 ?_
      refine lv_bipush (v := 8) hx hb dX10_deal_26 (by decide) ?_
      refine lv_icmp_ge (tgt := 80) hx hb dX10_deal_28 (by decide) (fun hc => ?_) (fun hc => ?_)
      · have hf := if_p hc hf
        refine lv_iload_n hx hb dX10_deal_80 rfl (lv_at hl 2 rfl) ?_
        exact e_iret C hw hf dX10_deal_81
      · have hf := if_n hc hf
        refine lv_aload_n hx hb dX10_deal_31 rfl (lv_at hl 0 rfl) ?_
        obtain ⟨r7, M6, hc8, hf⟩ := cl_inv hf
        refine fin_I (run_V C hw mf_X10_draw mv_X10_draw ml_X10_148 cf10 hT1 (c_X10_draw l G A ad hc8) (As := []) (rest := []) hl.1 rfl rfl (Nat.le_of_ble_eq_true rfl) ⟨rfl, rfl, Nat.le_of_ble_eq_true rfl, Nat.le_of_ble_eq_true rfl⟩ ⟨Nat.zero_le _, Nat.zero_le _⟩ dX10_deal_32) hw (fun H locs hw => ?_)
        refine lv_bipush (v := 6) hx hb dX10_deal_35 (by decide) ?_
        refine lv_irem hx hb dX10_deal_37 (by decide) ?_
        refine lv_istore_n (lv' := [(3, .int (irm r7 6)), (0, .ref (ad x0)), (1, .int x1), (2, .int x2)]) hx hb dX10_deal_38 rfl hl (by decide) rfl (fun ls hl => ?_)
        refine lv_aload_n hx hb dX10_deal_39 rfl (lv_at hl 1 rfl) ?_
        obtain ⟨hT12, hf⟩ := gt_inv hf
        obtain ⟨r10, M9, hc11, hf⟩ := cl_inv hf
        refine fin_I (run_V C hw mf_X10_draw mv_X10_draw ml_X10_148 cf10 hT12 (c_X10_draw l G A ad hc11) (As := []) (rest := []) hl.1 rfl rfl (Nat.le_of_ble_eq_true rfl) ⟨rfl, rfl, Nat.le_of_ble_eq_true rfl, Nat.le_of_ble_eq_true rfl⟩ ⟨Nat.zero_le _, Nat.zero_le _⟩ dX10_deal_40) hw (fun H locs hw => ?_)
        refine lv_iconst (v := 4) hx hb dX10_deal_43 (by decide) ?_
        refine lv_irem hx hb dX10_deal_44 (by decide) ?_
        refine lv_istore (lv' := [(4, .int (irm r10 4)), (3, .int (irm r7 6)), (0, .ref (ad x0)), (1, .int x1), (2, .int x2)]) hx hb dX10_deal_45 hl (by decide) rfl (fun ls hl => ?_)
        refine lv_aload_n hx hb dX10_deal_47 rfl (lv_at hl 2 rfl) ?_
        obtain ⟨hT16, hf⟩ := gt_inv hf
        obtain ⟨r14, M13, hc15, hf⟩ := cl_inv hf
        refine fin_I (run_V C hw mf_X10_draw mv_X10_draw ml_X10_148 cf10 hT16 (c_X10_draw l G A ad hc15) (As := []) (rest := []) hl.1 rfl rfl (Nat.le_of_ble_eq_true rfl) ⟨rfl, rfl, Nat.le_of_ble_eq_true rfl, Nat.le_of_ble_eq_true rfl⟩ ⟨Nat.zero_le _, Nat.zero_le _⟩ dX10_deal_48) hw (fun H locs hw => ?_)
        refine lv_bipush (v := 60) hx hb dX10_deal_51 (by decide) ?_
        refine lv_irem hx hb dX10_deal_53 (by decide) ?_
        refine lv_istore (lv' := [(5, .int (irm r14 60)), (4, .int (irm r10 4)), (3, .int (irm r7 6)), (0, .ref (ad x0)), (1, .int x1), (2, .int x2)]) hx hb dX10_deal_54 hl (by decide) rfl (fun ls hl => ?_)
        refine lv_aload_n hx hb dX10_deal_56 rfl (lv_at hl 3 rfl) ?_
        refine lv_iload_n hx hb dX10_deal_57 rfl (lv_at hl 2 rfl) ?_
        refine lv_iload hx hb dX10_deal_58 (lv_at hl 1 rfl) ?_
        refine lv_iload hx hb dX10_deal_60 (lv_at hl 0 rfl) ?_
        refine lv_aload_n hx hb dX10_deal_62 rfl (lv_at hl 3 rfl) ?_
        obtain ⟨hT20, hf⟩ := gt_inv hf
        obtain ⟨r18, M17, hc19, hf⟩ := cl_inv hf
        refine fin_I (run_V C hw mf_X10_draw mv_X10_draw ml_X10_148 cf10 hT20 (c_X10_draw l G A ad hc19) (As := []) (rest := [.int (irm r14 60), .int (irm r10 4), .int (irm r7 6), .ref (ad x0)]) hl.1 rfl rfl (Nat.le_of_ble_eq_true rfl) ⟨rfl, rfl, Nat.le_of_ble_eq_true rfl, Nat.le_of_ble_eq_true rfl⟩ ⟨Nat.zero_le _, Nat.zero_le _⟩ dX10_deal_63) hw (fun H locs hw => ?_)
        refine lv_bipush (v := 60) hx hb dX10_deal_66 (by decide) ?_
        refine lv_irem hx hb dX10_deal_68 (by decide) ?_
        obtain ⟨hT24, hf⟩ := gt_inv hf
        obtain ⟨r22, M21, hc23, hf⟩ := cl_inv hf
        refine fin_I (run_V C hw mf_X10_comes mv_X10_comes ml_X10_99 cf10 hT24 (c_X10_comes l G A ad hc23) (As := [.int (irm r7 6), .int (irm r10 4), .int (irm r14 60), .int (irm r18 60)]) (rest := []) hl.1 rfl rfl (Nat.le_of_ble_eq_true rfl) ⟨rfl, rfl, Nat.le_of_ble_eq_true rfl, Nat.le_of_ble_eq_true rfl⟩ ⟨Nat.zero_le _, Nat.zero_le _⟩ dX10_deal_69) hw (fun H locs hw => ?_)
        refine lv_istore (lv' := [(6, .int r22), (5, .int (irm r14 60)), (4, .int (irm r10 4)), (3, .int (irm r7 6)), (0, .ref (ad x0)), (1, .int x1), (2, .int x2)]) hx hb dX10_deal_72 hl (by decide) rfl (fun ls hl => ?_)
        refine lv_iinc (v := (x2 + 1)) (lv' := [(2, .int (x2 + 1)), (6, .int r22), (5, .int (irm r14 60)), (4, .int (irm r10 4)), (3, .int (irm r7 6)), (0, .ref (ad x0)), (1, .int x1)]) hx hb dX10_deal_74 hl (k := 6) rfl rfl (by decide) rfl (fun ls hl => ?_)
        refine lv_goto (tgt := 15) hx hb dX10_deal_77 (by decide) ?_
        exact ih M21 x0 x1 (x2 + 1) _ _ _ hf hw (lv_sub hl [5, 6, 0] rfl)
def f_X10_deal (M : Mem) (x0 : Nat) (x1 : Int32) : Option (Int32 × Mem) := cl (f_X10_in M x1 1 8) (fun r2 M1 => (if r2 = 0 then some ((-1000000001), M1) else f_X10_deal_15 FU M1 x0 x1 0))
set_option maxHeartbeats 4000000 in
set_option maxRecDepth 100000 in
theorem c_X10_deal (l : Launch) (G : Gd) (A : Nat → Prop) (ad : Nat → Nat) {M : Mem} {x0 : Nat} {x1 : Int32}  {r : Int32} {M' : Mem} (hf : f_X10_deal M x0 x1 = some (r, M')) : Ct l yX10_deal cX10_deal 7 (some .int) rm_X10_deal [.ref (ad x0), .int x1] G A ad M (QI G A ad r M') 0 0 := by
  refine ct_start (by decide) (Nat.le_of_ble_eq_true rfl) ?_
  intro p e s m args below meth c ls C hin hw hl
  have C : Cx G A p s m args meth c RX10 cX10_deal 7 (some .int) := C
  have hl : lv_has ls 7 [(0, .ref (ad x0)), (1, .int x1)] := hl
  obtain ⟨hx, hb, -⟩ := id C
  rw [f_X10_deal] at hf
  refine lv_iload_n hx hb dX10_deal_0 rfl (lv_at hl 1 rfl) ?_
  refine lv_iconst (v := 1) hx hb dX10_deal_1 (by decide) ?_
  refine lv_bipush (v := 8) hx hb dX10_deal_2 (by decide) ?_
  obtain ⟨r2, M1, hc3, hf⟩ := cl_inv hf
  refine fin_I (run_S C hw mf_X10_in ms_X10_in ml_X10_89 (c_X10_in l G A ad hc3) (As := [.int x1, .int 1, .int 8]) (rest := []) hl.1 rfl rfl (Nat.le_of_ble_eq_true rfl) ⟨rfl, rfl, Nat.le_of_ble_eq_true rfl, Nat.le_of_ble_eq_true rfl⟩ ⟨Nat.zero_le _, Nat.zero_le _⟩ dX10_deal_4) hw (fun H locs hw => ?_)
  refine lv_if_ne (tgt := 13) hx hb dX10_deal_7 (by decide) (fun hc => ?_) (fun hc => ?_)
  · have hf := if_n hc hf
    refine lv_iconst (v := 0) hx hb dX10_deal_13 (by decide) ?_
    refine lv_istore_n (lv' := [(2, .int 0), (0, .ref (ad x0)), (1, .int x1)]) hx hb dX10_deal_14 rfl hl (by decide) rfl (fun ls hl => ?_)
    exact t_X10_deal_15 C FU M1 x0 x1 0 _ _ _ hf hw (lv_sub hl [1, 2, 0] rfl)
  · have hf := if_p hc hf
    refine lv_ldc hx hb C.2.2.2.1 (C.2.2.2.2.1 _ kc_X10_97) dX10_deal_10 ?_
    exact e_iret C hw hf dX10_deal_12
/-! StorkVoteModel.seed(I)I -/
abbrev rm_X10_seed : Room := { frames := 1, cells := 0, slots := 0, locals := 23 }
def f_X10_seed (M : Mem) (x0 : Nat) (x1 : Int32) : Option (Int32 × Mem) := gt (mT M x0) 11 (cl (f_X10_becomes M x0 0 x1) (fun r2 M1 => some (r2, M1)))
set_option maxHeartbeats 4000000 in
set_option maxRecDepth 100000 in
theorem c_X10_seed (l : Launch) (G : Gd) (A : Nat → Prop) (ad : Nat → Nat) {M : Mem} {x0 : Nat} {x1 : Int32}  {r : Int32} {M' : Mem} (hf : f_X10_seed M x0 x1 = some (r, M')) : Ct l yX10_seed cX10_seed 2 (some .int) rm_X10_seed [.ref (ad x0), .int x1] G A ad M (QI G A ad r M') 0 0 := by
  refine ct_start (by decide) (Nat.le_of_ble_eq_true rfl) ?_
  intro p e s m args below meth c ls C hin hw hl
  have C : Cx G A p s m args meth c RX10 cX10_seed 2 (some .int) := C
  have hl : lv_has ls 2 [(0, .ref (ad x0)), (1, .int x1)] := hl
  obtain ⟨hx, hb, -⟩ := id C
  rw [f_X10_seed] at hf
  refine lv_aload_n hx hb dX10_seed_0 rfl (lv_at hl 0 rfl) ?_
  refine lv_iconst (v := 0) hx hb dX10_seed_1 (by decide) ?_
  refine lv_iload_n hx hb dX10_seed_2 rfl (lv_at hl 1 rfl) ?_
  obtain ⟨hT4, hf⟩ := gt_inv hf
  obtain ⟨r2, M1, hc3, hf⟩ := cl_inv hf
  refine fin_I (run_V C hw mf_X10_becomes mv_X10_becomes ml_X10_125 cf10 hT4 (c_X10_becomes l G A ad hc3) (As := [.int 0, .int x1]) (rest := []) hl.1 rfl rfl (Nat.le_of_ble_eq_true rfl) ⟨rfl, rfl, Nat.le_of_ble_eq_true rfl, Nat.le_of_ble_eq_true rfl⟩ ⟨Nat.zero_le _, Nat.zero_le _⟩ dX10_seed_3) hw (fun H locs hw => ?_)
  exact e_iret C hw hf dX10_seed_6
/-! StorkVoteModel.nestsIn(I)I -/
abbrev rm_X10_nestsIn : Room := { frames := 1, cells := 0, slots := 0, locals := 22 }
def f_X10_nestsIn_4 : Nat → Mem → Nat → Int32 → Int32 → Int32 → Option (Int32 × Mem)
  | 0, _, _, _, _, _ => none
  | n + 1, M, x0, x1, x2, x3 => gt (mT M x0) 11 (lp (mP M x0 0) (fun a2 => gt (mT M a2) 20 (gd (ib 1 (mL M a2)) ((if (mI M a2 (1 : Int32).toNatClampNeg) ≤ x3 then some (x2, M) else cl (f_X10_of M x0 x3 1) (fun r7 M6 => (if r7 = x1 then gt (mT M6 x0) 11 (lp (mP M6 x0 5) (fun a10 => gt (mT M6 a10) 20 (gd (ib x3 (mL M6 a10)) ((if (mI M6 a10 x3.toNatClampNeg) < 0 then f_X10_nestsIn_4 n M6 x0 x1 (x2 + 0) (x3 + 1) else f_X10_nestsIn_4 n M6 x0 x1 (x2 + 1) (x3 + 1)))))) else f_X10_nestsIn_4 n M6 x0 x1 (x2 + 0) (x3 + 1))))))))
set_option maxHeartbeats 4000000 in
set_option maxRecDepth 100000 in
theorem t_X10_nestsIn_4 {l : Launch} {p : Program} {e : Env} {s : State} {m : MethodId} {args : Array Value} {below : List Frame} {meth : Method} {c : Code} {G : Gd} {A : Nat → Prop} {ad : Nat → Nat} (C : Cx G A p s m args meth c RX10 cX10_nestsIn 4 (some .int)) {r : Int32} {M' : Mem} : ∀ (n : Nat) (M : Mem) (x0 : Nat) (x1 : Int32) (x2 : Int32) (x3 : Int32) (H : Heap) (locs : List Loc) (ls : Array Slot), f_X10_nestsIn_4  n M x0 x1 x2 x3 = some (r, M') → Wd G A ad s.heap M H locs → lv_has ls 4 [(0, .ref (ad x0)), (1, .int x1), (2, .int x2), (3, .int x3)] → W p l e rm_X10_nestsIn s m args below meth c H locs 0 0 (MQ below (QI G A ad r M') args s 0 0 A) (F0 m 4 ls []) := by
  obtain ⟨hx, hb, -⟩ := id C
  intro n
  induction n with
  | zero =>
    intro M x0 x1 x2 x3 H locs ls hf
    rw [f_X10_nestsIn_4] at hf
    exact absurd hf (fun h => nomatch h)
  | succ n ih =>
    intro M x0 x1 x2 x3 H locs ls hf hw hl
    rw [f_X10_nestsIn_4] at hf
    refine lv_iload_n hx hb dX10_nestsIn_4 rfl (lv_at hl 3 rfl) ?_
    refine lv_aload_n hx hb dX10_nestsIn_5 rfl (lv_at hl 0 rfl) ?_
    obtain ⟨hT1, hf⟩ := gt_inv hf
    obtain ⟨a2, hP3, hf⟩ := lp_inv hf
    refine r_getP C hw cf10 0 (by decide) rfl hT1 hP3 fl_X10_9 dX10_nestsIn_6 ?_
    refine lv_iconst (v := 1) hx hb dX10_nestsIn_9 (by decide) ?_
    obtain ⟨hT4, hf⟩ := gt_inv hf
    obtain ⟨hg5, hf⟩ := gd_inv hf
    refine r_iald C hw hT4 hg5 dX10_nestsIn_10 ?_
    refine lv_icmp_ge (tgt := 47) hx hb dX10_nestsIn_11 (by decide) (fun hc => ?_) (fun hc => ?_)
    · have hf := if_p hc hf
      refine lv_iload_n hx hb dX10_nestsIn_47 rfl (lv_at hl 2 rfl) ?_
      exact e_iret C hw hf dX10_nestsIn_48
    · have hf := if_n hc hf
      refine lv_iload_n hx hb dX10_nestsIn_14 rfl (lv_at hl 2 rfl) ?_
      refine lv_aload_n hx hb dX10_nestsIn_15 rfl (lv_at hl 0 rfl) ?_
      refine lv_iload_n hx hb dX10_nestsIn_16 rfl (lv_at hl 3 rfl) ?_
      refine lv_iconst (v := 1) hx hb dX10_nestsIn_17 (by decide) ?_
      obtain ⟨r7, M6, hc8, hf⟩ := cl_inv hf
      refine fin_I (run_V C hw mf_X10_of mv_X10_of ml_X10_103 cf10 hT1 (c_X10_of l G A ad hc8) (As := [.int x3, .int 1]) (rest := [.int x2]) hl.1 rfl rfl (Nat.le_of_ble_eq_true rfl) ⟨rfl, rfl, Nat.le_of_ble_eq_true rfl, Nat.le_of_ble_eq_true rfl⟩ ⟨Nat.zero_le _, Nat.zero_le _⟩ dX10_nestsIn_18) hw (fun H locs hw => ?_)
      refine lv_iload_n hx hb dX10_nestsIn_21 rfl (lv_at hl 1 rfl) ?_
      refine lv_icmp_ne (tgt := 38) hx hb dX10_nestsIn_22 (by decide) (fun hc => ?_) (fun hc => ?_)
      · have hf := if_n hc hf
        refine lv_iconst (v := 0) hx hb dX10_nestsIn_38 (by decide) ?_
        refine lv_iadd hx hb dX10_nestsIn_39 ?_
        refine lv_istore_n (lv' := [(2, .int (x2 + 0)), (0, .ref (ad x0)), (1, .int x1), (3, .int x3)]) hx hb dX10_nestsIn_40 rfl hl (by decide) rfl (fun ls hl => ?_)
        refine lv_iinc (v := (x3 + 1)) (lv' := [(3, .int (x3 + 1)), (2, .int (x2 + 0)), (0, .ref (ad x0)), (1, .int x1)]) hx hb dX10_nestsIn_41 hl (k := 3) rfl rfl (by decide) rfl (fun ls hl => ?_)
        refine lv_goto (tgt := 4) hx hb dX10_nestsIn_44 (by decide) ?_
        exact ih M6 x0 x1 (x2 + 0) (x3 + 1) _ _ _ hf hw (lv_sub hl [2, 3, 1, 0] rfl)
      · have hf := if_p hc hf
        refine lv_aload_n hx hb dX10_nestsIn_25 rfl (lv_at hl 0 rfl) ?_
        obtain ⟨hT9, hf⟩ := gt_inv hf
        obtain ⟨a10, hP11, hf⟩ := lp_inv hf
        refine r_getP C hw cf10 5 (by decide) rfl hT9 hP11 fl_X10_23 dX10_nestsIn_26 ?_
        refine lv_iload_n hx hb dX10_nestsIn_29 rfl (lv_at hl 3 rfl) ?_
        obtain ⟨hT12, hf⟩ := gt_inv hf
        obtain ⟨hg13, hf⟩ := gd_inv hf
        refine r_iald C hw hT12 hg13 dX10_nestsIn_30 ?_
        refine lv_if_lt (tgt := 38) hx hb dX10_nestsIn_31 (by decide) (fun hc => ?_) (fun hc => ?_)
        · have hf := if_p hc hf
          refine lv_iconst (v := 0) hx hb dX10_nestsIn_38 (by decide) ?_
          refine lv_iadd hx hb dX10_nestsIn_39 ?_
          refine lv_istore_n (lv' := [(2, .int (x2 + 0)), (0, .ref (ad x0)), (1, .int x1), (3, .int x3)]) hx hb dX10_nestsIn_40 rfl hl (by decide) rfl (fun ls hl => ?_)
          refine lv_iinc (v := (x3 + 1)) (lv' := [(3, .int (x3 + 1)), (2, .int (x2 + 0)), (0, .ref (ad x0)), (1, .int x1)]) hx hb dX10_nestsIn_41 hl (k := 3) rfl rfl (by decide) rfl (fun ls hl => ?_)
          refine lv_goto (tgt := 4) hx hb dX10_nestsIn_44 (by decide) ?_
          exact ih M6 x0 x1 (x2 + 0) (x3 + 1) _ _ _ hf hw (lv_sub hl [2, 3, 1, 0] rfl)
        · have hf := if_n hc hf
          refine lv_iconst (v := 1) hx hb dX10_nestsIn_34 (by decide) ?_
          refine lv_goto (tgt := 39) hx hb dX10_nestsIn_35 (by decide) ?_
          refine lv_iadd hx hb dX10_nestsIn_39 ?_
          refine lv_istore_n (lv' := [(2, .int (x2 + 1)), (0, .ref (ad x0)), (1, .int x1), (3, .int x3)]) hx hb dX10_nestsIn_40 rfl hl (by decide) rfl (fun ls hl => ?_)
          refine lv_iinc (v := (x3 + 1)) (lv' := [(3, .int (x3 + 1)), (2, .int (x2 + 1)), (0, .ref (ad x0)), (1, .int x1)]) hx hb dX10_nestsIn_41 hl (k := 3) rfl rfl (by decide) rfl (fun ls hl => ?_)
          refine lv_goto (tgt := 4) hx hb dX10_nestsIn_44 (by decide) ?_
          exact ih M6 x0 x1 (x2 + 1) (x3 + 1) _ _ _ hf hw (lv_sub hl [2, 3, 1, 0] rfl)
def f_X10_nestsIn (M : Mem) (x0 : Nat) (x1 : Int32) : Option (Int32 × Mem) := f_X10_nestsIn_4 FU M x0 x1 0 0
set_option maxHeartbeats 4000000 in
set_option maxRecDepth 100000 in
theorem c_X10_nestsIn (l : Launch) (G : Gd) (A : Nat → Prop) (ad : Nat → Nat) {M : Mem} {x0 : Nat} {x1 : Int32}  {r : Int32} {M' : Mem} (hf : f_X10_nestsIn M x0 x1 = some (r, M')) : Ct l yX10_nestsIn cX10_nestsIn 4 (some .int) rm_X10_nestsIn [.ref (ad x0), .int x1] G A ad M (QI G A ad r M') 0 0 := by
  refine ct_start (by decide) (Nat.le_of_ble_eq_true rfl) ?_
  intro p e s m args below meth c ls C hin hw hl
  have C : Cx G A p s m args meth c RX10 cX10_nestsIn 4 (some .int) := C
  have hl : lv_has ls 4 [(0, .ref (ad x0)), (1, .int x1)] := hl
  obtain ⟨hx, hb, -⟩ := id C
  rw [f_X10_nestsIn] at hf
  refine lv_iconst (v := 0) hx hb dX10_nestsIn_0 (by decide) ?_
  refine lv_istore_n (lv' := [(2, .int 0), (0, .ref (ad x0)), (1, .int x1)]) hx hb dX10_nestsIn_1 rfl hl (by decide) rfl (fun ls hl => ?_)
  refine lv_iconst (v := 0) hx hb dX10_nestsIn_2 (by decide) ?_
  refine lv_istore_n (lv' := [(3, .int 0), (2, .int 0), (0, .ref (ad x0)), (1, .int x1)]) hx hb dX10_nestsIn_3 rfl hl (by decide) rfl (fun ls hl => ?_)
  exact t_X10_nestsIn_4 C FU M x0 x1 0 0 _ _ _ hf hw (lv_sub hl [2, 3, 1, 0] rfl)
/-! StorkVoteModel.seatsOf(I)I -/
abbrev rm_X10_seatsOf : Room := { frames := 2, cells := 0, slots := 0, locals := 47 }
def f_X10_seatsOf (M : Mem) (x0 : Nat) (x1 : Int32) : Option (Int32 × Mem) := gt (mT M x0) 11 (cl (f_X10_nestsIn M x0 x1) (fun r2 M1 => gt (mT M1 x0) 11 (cl (f_X10_counts M1 x0 1) (fun r6 M5 => gt (mT M5 x0) 11 (lp (mP M5 x0 26) (fun a10 => gt (mT M5 a10) 20 (gd (ib 0 (mL M5 a10)) (st (setI M5 a10 (0 : Int32).toNatClampNeg r2) (fun M14 => gd (ib 1 (mL M14 a10)) (st (setI M14 a10 (1 : Int32).toNatClampNeg x1) (fun M18 => (if 0 ≤ r6 then cl (f_X10_worksOut M18 x0 r6) (fun r22 M21 => cl (f_X10_within M21 r22 0 999) (fun r25 M24 => some (r25, M24))) else some (r2, M18)))))))))))))
set_option maxHeartbeats 4000000 in
set_option maxRecDepth 100000 in
theorem c_X10_seatsOf (l : Launch) (G : Gd) (A : Nat → Prop) (ad : Nat → Nat) {M : Mem} {x0 : Nat} {x1 : Int32}  {r : Int32} {M' : Mem} (hf : f_X10_seatsOf M x0 x1 = some (r, M')) : Ct l yX10_seatsOf cX10_seatsOf 4 (some .int) rm_X10_seatsOf [.ref (ad x0), .int x1] G A ad M (QI G A ad r M') 0 0 := by
  refine ct_start (by decide) (Nat.le_of_ble_eq_true rfl) ?_
  intro p e s m args below meth c ls C hin hw hl
  have C : Cx G A p s m args meth c RX10 cX10_seatsOf 4 (some .int) := C
  have hl : lv_has ls 4 [(0, .ref (ad x0)), (1, .int x1)] := hl
  obtain ⟨hx, hb, -⟩ := id C
  rw [f_X10_seatsOf] at hf
  refine lv_aload_n hx hb dX10_seatsOf_0 rfl (lv_at hl 0 rfl) ?_
  refine lv_iload_n hx hb dX10_seatsOf_1 rfl (lv_at hl 1 rfl) ?_
  obtain ⟨hT4, hf⟩ := gt_inv hf
  obtain ⟨r2, M1, hc3, hf⟩ := cl_inv hf
  refine fin_I (run_V C hw mf_X10_nestsIn mv_X10_nestsIn ml_X10_164 cf10 hT4 (c_X10_nestsIn l G A ad hc3) (As := [.int x1]) (rest := []) hl.1 rfl rfl (Nat.le_of_ble_eq_true rfl) ⟨rfl, rfl, Nat.le_of_ble_eq_true rfl, Nat.le_of_ble_eq_true rfl⟩ ⟨Nat.zero_le _, Nat.zero_le _⟩ dX10_seatsOf_2) hw (fun H locs hw => ?_)
  refine lv_istore_n (lv' := [(2, .int r2), (0, .ref (ad x0)), (1, .int x1)]) hx hb dX10_seatsOf_5 rfl hl (by decide) rfl (fun ls hl => ?_)
  refine lv_aload_n hx hb dX10_seatsOf_6 rfl (lv_at hl 1 rfl) ?_
  refine lv_iconst (v := 1) hx hb dX10_seatsOf_7 (by decide) ?_
  obtain ⟨hT8, hf⟩ := gt_inv hf
  obtain ⟨r6, M5, hc7, hf⟩ := cl_inv hf
  refine fin_I (run_V C hw mf_X10_counts mv_X10_counts ml_X10_134 cf10 hT8 (c_X10_counts l G A ad hc7) (As := [.int 1]) (rest := []) hl.1 rfl rfl (Nat.le_of_ble_eq_true rfl) ⟨rfl, rfl, Nat.le_of_ble_eq_true rfl, Nat.le_of_ble_eq_true rfl⟩ ⟨Nat.zero_le _, Nat.zero_le _⟩ dX10_seatsOf_8) hw (fun H locs hw => ?_)
  refine lv_istore_n (lv' := [(3, .int r6), (2, .int r2), (0, .ref (ad x0)), (1, .int x1)]) hx hb dX10_seatsOf_11 rfl hl (by decide) rfl (fun ls hl => ?_)
  refine lv_aload_n hx hb dX10_seatsOf_12 rfl (lv_at hl 2 rfl) ?_
  obtain ⟨hT9, hf⟩ := gt_inv hf
  obtain ⟨a10, hP11, hf⟩ := lp_inv hf
  refine r_getP C hw cf10 26 (by decide) rfl hT9 hP11 fl_X10_58 dX10_seatsOf_13 ?_
  refine lv_iconst (v := 0) hx hb dX10_seatsOf_16 (by decide) ?_
  refine lv_iload_n hx hb dX10_seatsOf_17 rfl (lv_at hl 1 rfl) ?_
  obtain ⟨hT12, hf⟩ := gt_inv hf
  obtain ⟨hg13, hf⟩ := gd_inv hf
  obtain ⟨M14, e15, hf⟩ := st_inv hf
  have g16 := sg_I e15
  refine r_iast C hw hT12 hg13 e15 dX10_seatsOf_18 (fun H locs hw => ?_)
  refine lv_aload_n hx hb dX10_seatsOf_19 rfl (lv_at hl 2 rfl) ?_
  refine r_getP C hw cf10 26 (by decide) rfl (T_of g16 hT9) (P_of g16 hP11) fl_X10_58 dX10_seatsOf_20 ?_
  refine lv_iconst (v := 1) hx hb dX10_seatsOf_23 (by decide) ?_
  refine lv_iload_n hx hb dX10_seatsOf_24 rfl (lv_at hl 3 rfl) ?_
  obtain ⟨hg17, hf⟩ := gd_inv hf
  obtain ⟨M18, e19, hf⟩ := st_inv hf
  have g20 := sg_I e19
  refine r_iast C hw (T_of g16 hT12) hg17 e19 dX10_seatsOf_25 (fun H locs hw => ?_)
  refine lv_iload_n hx hb dX10_seatsOf_26 rfl (lv_at hl 0 rfl) ?_
  refine lv_if_ge (tgt := 34) hx hb dX10_seatsOf_27 (by decide) (fun hc => ?_) (fun hc => ?_)
  · have hf := if_p hc hf
    refine lv_aload_n hx hb dX10_seatsOf_34 rfl (lv_at hl 2 rfl) ?_
    refine lv_iload_n hx hb dX10_seatsOf_35 rfl (lv_at hl 0 rfl) ?_
    obtain ⟨r22, M21, hc23, hf⟩ := cl_inv hf
    refine fin_I (run_V C hw mf_X10_worksOut mv_X10_worksOut ml_X10_137 cf10 (T_of g20 (T_of g16 hT9)) (c_X10_worksOut l G A ad hc23) (As := [.int r6]) (rest := []) hl.1 rfl rfl (Nat.le_of_ble_eq_true rfl) ⟨rfl, rfl, Nat.le_of_ble_eq_true rfl, Nat.le_of_ble_eq_true rfl⟩ ⟨Nat.zero_le _, Nat.zero_le _⟩ dX10_seatsOf_36) hw (fun H locs hw => ?_)
    refine lv_iconst (v := 0) hx hb dX10_seatsOf_39 (by decide) ?_
    refine lv_sipush (v := 999) hx hb dX10_seatsOf_40 (by decide) ?_
    obtain ⟨r25, M24, hc26, hf⟩ := cl_inv hf
    refine fin_I (run_S C hw mf_X10_within ms_X10_within ml_X10_140 (c_X10_within l G A ad hc26) (As := [.int r22, .int 0, .int 999]) (rest := []) hl.1 rfl rfl (Nat.le_of_ble_eq_true rfl) ⟨rfl, rfl, Nat.le_of_ble_eq_true rfl, Nat.le_of_ble_eq_true rfl⟩ ⟨Nat.zero_le _, Nat.zero_le _⟩ dX10_seatsOf_43) hw (fun H locs hw => ?_)
    exact e_iret C hw hf dX10_seatsOf_46
  · have hf := if_n hc hf
    refine lv_iload_n hx hb dX10_seatsOf_30 rfl (lv_at hl 1 rfl) ?_
    refine lv_goto (tgt := 46) hx hb dX10_seatsOf_31 (by decide) ?_
    exact e_iret C hw hf dX10_seatsOf_46
/-! StorkVoteModel.electedNow()I -/
abbrev rm_X10_electedNow : Room := { frames := 5, cells := 0, slots := 0, locals := 118 }
def f_X10_electedNow_37 (K14 : Mem → Nat → Int32 → Int32 → Int32 → Option (Int32 × Mem)) (M : Mem) (x0 : Nat) (x2 : Int32) (x3 : Int32) (x4 : Int32) (s0 : Int32) : Option (Int32 × Mem) := (if x4 ≤ x2 then K14 M x0 s0 x2 (x3 + 1) else K14 M x0 s0 x4 (x3 + 1))
set_option maxHeartbeats 4000000 in
set_option maxRecDepth 100000 in
theorem t_X10_electedNow_37 {l : Launch} {p : Program} {e : Env} {s : State} {m : MethodId} {args : Array Value} {below : List Frame} {meth : Method} {c : Code} {G : Gd} {A : Nat → Prop} {ad : Nat → Nat} (C : Cx G A p s m args meth c RX10 cX10_electedNow 5 (some .int)) {r : Int32} {M' : Mem} {K14 : Mem → Nat → Int32 → Int32 → Int32 → Option (Int32 × Mem)} (hK14 : ∀ (M : Mem) (x0 : Nat) (x1 : Int32) (x2 : Int32) (x3 : Int32) (H : Heap) (locs : List Loc) (ls : Array Slot), K14 M x0 x1 x2 x3 = some (r, M') → Wd G A ad s.heap M H locs → lv_has ls 5 [(0, .ref (ad x0)), (1, .int x1), (2, .int x2), (3, .int x3)] → W p l e rm_X10_electedNow s m args below meth c H locs 0 0 (MQ below (QI G A ad r M') args s 0 0 A) (F0 m 14 ls [])) : ∀ (M : Mem) (x0 : Nat) (x2 : Int32) (x3 : Int32) (x4 : Int32) (s0 : Int32) (H : Heap) (locs : List Loc) (ls : Array Slot), f_X10_electedNow_37 K14 M x0 x2 x3 x4 s0 = some (r, M') → Wd G A ad s.heap M H locs → lv_has ls 5 [(0, .ref (ad x0)), (2, .int x2), (3, .int x3), (4, .int x4)] → W p l e rm_X10_electedNow s m args below meth c H locs 0 0 (MQ below (QI G A ad r M') args s 0 0 A) (F0 m 37 ls [.int s0]) := by
  obtain ⟨hx, hb, -⟩ := id C
  intro M x0 x2 x3 x4 s0 H locs ls hf hw hl
  rw [f_X10_electedNow_37] at hf
  refine lv_istore_n (lv' := [(1, .int s0), (0, .ref (ad x0)), (2, .int x2), (3, .int x3), (4, .int x4)]) hx hb dX10_electedNow_37 rfl hl (by decide) rfl (fun ls hl => ?_)
  refine lv_iload hx hb dX10_electedNow_38 (lv_at hl 4 rfl) ?_
  refine lv_iload_n hx hb dX10_electedNow_40 rfl (lv_at hl 2 rfl) ?_
  refine lv_icmp_le (tgt := 49) hx hb dX10_electedNow_41 (by decide) (fun hc => ?_) (fun hc => ?_)
  · have hf := if_p hc hf
    refine lv_iload_n hx hb dX10_electedNow_49 rfl (lv_at hl 2 rfl) ?_
    refine lv_istore_n (lv' := [(2, .int x2), (1, .int s0), (0, .ref (ad x0)), (3, .int x3), (4, .int x4)]) hx hb dX10_electedNow_50 rfl hl (by decide) rfl (fun ls hl => ?_)
    refine lv_iinc (v := (x3 + 1)) (lv' := [(3, .int (x3 + 1)), (2, .int x2), (1, .int s0), (0, .ref (ad x0)), (4, .int x4)]) hx hb dX10_electedNow_51 hl (k := 3) rfl rfl (by decide) rfl (fun ls hl => ?_)
    refine lv_goto (tgt := 14) hx hb dX10_electedNow_54 (by decide) ?_
    exact hK14 M x0 s0 x2 (x3 + 1) _ _ _ hf hw (lv_sub hl [3, 2, 1, 0] rfl)
  · have hf := if_n hc hf
    refine lv_iload hx hb dX10_electedNow_44 (lv_at hl 4 rfl) ?_
    refine lv_goto (tgt := 50) hx hb dX10_electedNow_46 (by decide) ?_
    refine lv_istore_n (lv' := [(2, .int x4), (1, .int s0), (0, .ref (ad x0)), (3, .int x3), (4, .int x4)]) hx hb dX10_electedNow_50 rfl hl (by decide) rfl (fun ls hl => ?_)
    refine lv_iinc (v := (x3 + 1)) (lv' := [(3, .int (x3 + 1)), (2, .int x4), (1, .int s0), (0, .ref (ad x0)), (4, .int x4)]) hx hb dX10_electedNow_51 hl (k := 3) rfl rfl (by decide) rfl (fun ls hl => ?_)
    refine lv_goto (tgt := 14) hx hb dX10_electedNow_54 (by decide) ?_
    exact hK14 M x0 s0 x4 (x3 + 1) _ _ _ hf hw (lv_sub hl [3, 2, 1, 0] rfl)
def f_X10_electedNow_14 : Nat → Mem → Nat → Int32 → Int32 → Int32 → Option (Int32 × Mem)
  | 0, _, _, _, _, _ => none
  | n + 1, M, x0, x1, x2, x3 => (if 4 ≤ x3 then some (x1, M) else gt (mT M x0) 11 (cl (f_X10_seatsOf M x0 x3) (fun r2 M1 => (if r2 ≤ x2 then f_X10_electedNow_37 (f_X10_electedNow_14 n) M1 x0 x2 x3 r2 x1 else f_X10_electedNow_37 (f_X10_electedNow_14 n) M1 x0 x2 x3 r2 x3))))
set_option maxHeartbeats 4000000 in
set_option maxRecDepth 100000 in
theorem t_X10_electedNow_14 {l : Launch} {p : Program} {e : Env} {s : State} {m : MethodId} {args : Array Value} {below : List Frame} {meth : Method} {c : Code} {G : Gd} {A : Nat → Prop} {ad : Nat → Nat} (C : Cx G A p s m args meth c RX10 cX10_electedNow 5 (some .int)) {r : Int32} {M' : Mem} : ∀ (n : Nat) (M : Mem) (x0 : Nat) (x1 : Int32) (x2 : Int32) (x3 : Int32) (H : Heap) (locs : List Loc) (ls : Array Slot), f_X10_electedNow_14  n M x0 x1 x2 x3 = some (r, M') → Wd G A ad s.heap M H locs → lv_has ls 5 [(0, .ref (ad x0)), (1, .int x1), (2, .int x2), (3, .int x3)] → W p l e rm_X10_electedNow s m args below meth c H locs 0 0 (MQ below (QI G A ad r M') args s 0 0 A) (F0 m 14 ls []) := by
  obtain ⟨hx, hb, -⟩ := id C
  intro n
  induction n with
  | zero =>
    intro M x0 x1 x2 x3 H locs ls hf
    rw [f_X10_electedNow_14] at hf
    exact absurd hf (fun h => nomatch h)
  | succ n ih =>
    intro M x0 x1 x2 x3 H locs ls hf hw hl
    rw [f_X10_electedNow_14] at hf
    refine lv_iload_n hx hb dX10_electedNow_14 rfl (lv_at hl 3 rfl) ?_
    refine lv_iconst (v := 4) hx hb dX10_electedNow_15 (by decide) ?_
    refine lv_icmp_ge (tgt := 57) hx hb dX10_electedNow_16 (by decide) (fun hc => ?_) (fun hc => ?_)
    · have hf := if_p hc hf
      refine lv_iload_n hx hb dX10_electedNow_57 rfl (lv_at hl 1 rfl) ?_
      exact e_iret C hw hf dX10_electedNow_58
    · have hf := if_n hc hf
      refine lv_aload_n hx hb dX10_electedNow_19 rfl (lv_at hl 0 rfl) ?_
      refine lv_iload_n hx hb dX10_electedNow_20 rfl (lv_at hl 3 rfl) ?_
      obtain ⟨hT4, hf⟩ := gt_inv hf
      obtain ⟨r2, M1, hc3, hf⟩ := cl_inv hf
      refine fin_I (run_V C hw mf_X10_seatsOf mv_X10_seatsOf ml_X10_167 cf10 hT4 (c_X10_seatsOf l G A ad hc3) (As := [.int x3]) (rest := []) hl.1 rfl rfl (Nat.le_of_ble_eq_true rfl) ⟨rfl, rfl, Nat.le_of_ble_eq_true rfl, Nat.le_of_ble_eq_true rfl⟩ ⟨Nat.zero_le _, Nat.zero_le _⟩ dX10_electedNow_21) hw (fun H locs hw => ?_)
      refine lv_istore (lv' := [(4, .int r2), (0, .ref (ad x0)), (1, .int x1), (2, .int x2), (3, .int x3)]) hx hb dX10_electedNow_24 hl (by decide) rfl (fun ls hl => ?_)
      refine lv_iload hx hb dX10_electedNow_26 (lv_at hl 0 rfl) ?_
      refine lv_iload_n hx hb dX10_electedNow_28 rfl (lv_at hl 3 rfl) ?_
      refine lv_icmp_le (tgt := 36) hx hb dX10_electedNow_29 (by decide) (fun hc => ?_) (fun hc => ?_)
      · have hf := if_p hc hf
        refine lv_iload_n hx hb dX10_electedNow_36 rfl (lv_at hl 2 rfl) ?_
        exact t_X10_electedNow_37 C ih M1 x0 x2 x3 r2 x1 _ _ _ hf hw (lv_sub hl [1, 3, 4, 0] rfl)
      · have hf := if_n hc hf
        refine lv_iload_n hx hb dX10_electedNow_32 rfl (lv_at hl 4 rfl) ?_
        refine lv_goto (tgt := 37) hx hb dX10_electedNow_33 (by decide) ?_
        exact t_X10_electedNow_37 C ih M1 x0 x2 x3 r2 x3 _ _ _ hf hw (lv_sub hl [1, 3, 4, 0] rfl)
def f_X10_electedNow (M : Mem) (x0 : Nat) : Option (Int32 × Mem) := gt (mT M x0) 11 (cl (f_X10_spring M x0) (fun _ M1 => gt (mT M1 x0) 11 (cl (f_X10_seatsOf M1 x0 0) (fun r6 M5 => f_X10_electedNow_14 FU M5 x0 0 r6 1))))
set_option maxHeartbeats 4000000 in
set_option maxRecDepth 100000 in
theorem c_X10_electedNow (l : Launch) (G : Gd) (A : Nat → Prop) (ad : Nat → Nat) {M : Mem} {x0 : Nat}  {r : Int32} {M' : Mem} (hf : f_X10_electedNow M x0 = some (r, M')) : Ct l yX10_electedNow cX10_electedNow 5 (some .int) rm_X10_electedNow [.ref (ad x0)] G A ad M (QI G A ad r M') 0 0 := by
  refine ct_start (by decide) (Nat.le_of_ble_eq_true rfl) ?_
  intro p e s m args below meth c ls C hin hw hl
  have C : Cx G A p s m args meth c RX10 cX10_electedNow 5 (some .int) := C
  have hl : lv_has ls 5 [(0, .ref (ad x0))] := hl
  obtain ⟨hx, hb, -⟩ := id C
  rw [f_X10_electedNow] at hf
  refine lv_aload_n hx hb dX10_electedNow_0 rfl (lv_at hl 0 rfl) ?_
  obtain ⟨hT4, hf⟩ := gt_inv hf
  obtain ⟨⟨⟩, M1, hc3, hf⟩ := cl_inv hf
  refine fin_V (run_V C hw mf_X10_spring mv_X10_spring ml_X10_114 cf10 hT4 (c_X10_spring l G A ad hc3) (As := []) (rest := []) hl.1 rfl rfl (Nat.le_of_ble_eq_true rfl) ⟨rfl, rfl, Nat.le_of_ble_eq_true rfl, Nat.le_of_ble_eq_true rfl⟩ ⟨Nat.zero_le _, Nat.zero_le _⟩ dX10_electedNow_1) hw (fun H locs hw => ?_)
  refine lv_iconst (v := 0) hx hb dX10_electedNow_4 (by decide) ?_
  refine lv_istore_n (lv' := [(1, .int 0), (0, .ref (ad x0))]) hx hb dX10_electedNow_5 rfl hl (by decide) rfl (fun ls hl => ?_)
  refine lv_aload_n hx hb dX10_electedNow_6 rfl (lv_at hl 1 rfl) ?_
  refine lv_iconst (v := 0) hx hb dX10_electedNow_7 (by decide) ?_
  obtain ⟨hT8, hf⟩ := gt_inv hf
  obtain ⟨r6, M5, hc7, hf⟩ := cl_inv hf
  refine fin_I (run_V C hw mf_X10_seatsOf mv_X10_seatsOf ml_X10_167 cf10 hT8 (c_X10_seatsOf l G A ad hc7) (As := [.int 0]) (rest := []) hl.1 rfl rfl (Nat.le_of_ble_eq_true rfl) ⟨rfl, rfl, Nat.le_of_ble_eq_true rfl, Nat.le_of_ble_eq_true rfl⟩ ⟨Nat.zero_le _, Nat.zero_le _⟩ dX10_electedNow_8) hw (fun H locs hw => ?_)
  refine lv_istore_n (lv' := [(2, .int r6), (1, .int 0), (0, .ref (ad x0))]) hx hb dX10_electedNow_11 rfl hl (by decide) rfl (fun ls hl => ?_)
  refine lv_iconst (v := 1) hx hb dX10_electedNow_12 (by decide) ?_
  refine lv_istore_n (lv' := [(3, .int 1), (2, .int r6), (1, .int 0), (0, .ref (ad x0))]) hx hb dX10_electedNow_13 rfl hl (by decide) rfl (fun ls hl => ?_)
  exact t_X10_electedNow_14 C FU M5 x0 0 r6 1 _ _ _ hf hw (lv_sub hl [3, 2, 1, 0] rfl)
/-! StorkVoteModel.ward(II)I -/
abbrev rm_X10_ward : Room := { frames := 5, cells := 0, slots := 0, locals := 118 }
def f_X10_ward (M : Mem) (x0 : Nat) (x1 : Int32) (x2 : Int32) : Option (Int32 × Mem) := cl (f_X10_isWard M x1) (fun r2 M1 => (if r2 = 0 then some ((-1000000001), M1) else cl (f_X10_in M1 x2 0 1) (fun r5 M4 => (if r5 = 0 then some ((-1000000001), M4) else gt (mT M4 x0) 11 (cl (f_X10_spring M4 x0) (fun _ M7 => (if x2 = 0 then gt (mT M7 x0) 11 (cl (f_X10_nestsIn M7 x0 x1) (fun r16 M15 => some (r16, M15))) else gt (mT M7 x0) 11 (cl (f_X10_seatsOf M7 x0 x1) (fun r12 M11 => some (r12, M11))))))))))
set_option maxHeartbeats 4000000 in
set_option maxRecDepth 100000 in
theorem c_X10_ward (l : Launch) (G : Gd) (A : Nat → Prop) (ad : Nat → Nat) {M : Mem} {x0 : Nat} {x1 : Int32} {x2 : Int32}  {r : Int32} {M' : Mem} (hf : f_X10_ward M x0 x1 x2 = some (r, M')) : Ct l yX10_ward cX10_ward 3 (some .int) rm_X10_ward [.ref (ad x0), .int x1, .int x2] G A ad M (QI G A ad r M') 0 0 := by
  refine ct_start (by decide) (Nat.le_of_ble_eq_true rfl) ?_
  intro p e s m args below meth c ls C hin hw hl
  have C : Cx G A p s m args meth c RX10 cX10_ward 3 (some .int) := C
  have hl : lv_has ls 3 [(0, .ref (ad x0)), (1, .int x1), (2, .int x2)] := hl
  obtain ⟨hx, hb, -⟩ := id C
  rw [f_X10_ward] at hf
  refine lv_iload_n hx hb dX10_ward_0 rfl (lv_at hl 1 rfl) ?_
  obtain ⟨r2, M1, hc3, hf⟩ := cl_inv hf
  refine fin_I (run_S C hw mf_X10_isWard ms_X10_isWard ml_X10_93 (c_X10_isWard l G A ad hc3) (As := [.int x1]) (rest := []) hl.1 rfl rfl (Nat.le_of_ble_eq_true rfl) ⟨rfl, rfl, Nat.le_of_ble_eq_true rfl, Nat.le_of_ble_eq_true rfl⟩ ⟨Nat.zero_le _, Nat.zero_le _⟩ dX10_ward_1) hw (fun H locs hw => ?_)
  refine lv_if_eq (tgt := 16) hx hb dX10_ward_4 (by decide) (fun hc => ?_) (fun hc => ?_)
  · have hf := if_p hc hf
    refine lv_ldc hx hb C.2.2.2.1 (C.2.2.2.2.1 _ kc_X10_97) dX10_ward_16 ?_
    exact e_iret C hw hf dX10_ward_18
  · have hf := if_n hc hf
    refine lv_iload_n hx hb dX10_ward_7 rfl (lv_at hl 2 rfl) ?_
    refine lv_iconst (v := 0) hx hb dX10_ward_8 (by decide) ?_
    refine lv_iconst (v := 1) hx hb dX10_ward_9 (by decide) ?_
    obtain ⟨r5, M4, hc6, hf⟩ := cl_inv hf
    refine fin_I (run_S C hw mf_X10_in ms_X10_in ml_X10_89 (c_X10_in l G A ad hc6) (As := [.int x2, .int 0, .int 1]) (rest := []) hl.1 rfl rfl (Nat.le_of_ble_eq_true rfl) ⟨rfl, rfl, Nat.le_of_ble_eq_true rfl, Nat.le_of_ble_eq_true rfl⟩ ⟨Nat.zero_le _, Nat.zero_le _⟩ dX10_ward_10) hw (fun H locs hw => ?_)
    refine lv_if_ne (tgt := 19) hx hb dX10_ward_13 (by decide) (fun hc => ?_) (fun hc => ?_)
    · have hf := if_n hc hf
      refine lv_aload_n hx hb dX10_ward_19 rfl (lv_at hl 0 rfl) ?_
      obtain ⟨hT10, hf⟩ := gt_inv hf
      obtain ⟨⟨⟩, M7, hc9, hf⟩ := cl_inv hf
      refine fin_V (run_V C hw mf_X10_spring mv_X10_spring ml_X10_114 cf10 hT10 (c_X10_spring l G A ad hc9) (As := []) (rest := []) hl.1 rfl rfl (Nat.le_of_ble_eq_true rfl) ⟨rfl, rfl, Nat.le_of_ble_eq_true rfl, Nat.le_of_ble_eq_true rfl⟩ ⟨Nat.zero_le _, Nat.zero_le _⟩ dX10_ward_20) hw (fun H locs hw => ?_)
      refine lv_iload_n hx hb dX10_ward_23 rfl (lv_at hl 2 rfl) ?_
      refine lv_if_ne (tgt := 35) hx hb dX10_ward_24 (by decide) (fun hc => ?_) (fun hc => ?_)
      · have hf := if_n hc hf
        refine lv_aload_n hx hb dX10_ward_35 rfl (lv_at hl 0 rfl) ?_
        refine lv_iload_n hx hb dX10_ward_36 rfl (lv_at hl 1 rfl) ?_
        obtain ⟨hT14, hf⟩ := gt_inv hf
        obtain ⟨r12, M11, hc13, hf⟩ := cl_inv hf
        refine fin_I (run_V C hw mf_X10_seatsOf mv_X10_seatsOf ml_X10_167 cf10 hT14 (c_X10_seatsOf l G A ad hc13) (As := [.int x1]) (rest := []) hl.1 rfl rfl (Nat.le_of_ble_eq_true rfl) ⟨rfl, rfl, Nat.le_of_ble_eq_true rfl, Nat.le_of_ble_eq_true rfl⟩ ⟨Nat.zero_le _, Nat.zero_le _⟩ dX10_ward_37) hw (fun H locs hw => ?_)
        exact e_iret C hw hf dX10_ward_40
      · have hf := if_p hc hf
        refine lv_aload_n hx hb dX10_ward_27 rfl (lv_at hl 0 rfl) ?_
        refine lv_iload_n hx hb dX10_ward_28 rfl (lv_at hl 1 rfl) ?_
        obtain ⟨hT18, hf⟩ := gt_inv hf
        obtain ⟨r16, M15, hc17, hf⟩ := cl_inv hf
        refine fin_I (run_V C hw mf_X10_nestsIn mv_X10_nestsIn ml_X10_164 cf10 hT18 (c_X10_nestsIn l G A ad hc17) (As := [.int x1]) (rest := []) hl.1 rfl rfl (Nat.le_of_ble_eq_true rfl) ⟨rfl, rfl, Nat.le_of_ble_eq_true rfl, Nat.le_of_ble_eq_true rfl⟩ ⟨Nat.zero_le _, Nat.zero_le _⟩ dX10_ward_29) hw (fun H locs hw => ?_)
        refine lv_goto (tgt := 40) hx hb dX10_ward_32 (by decide) ?_
        exact e_iret C hw hf dX10_ward_40
    · have hf := if_p hc hf
      refine lv_ldc hx hb C.2.2.2.1 (C.2.2.2.2.1 _ kc_X10_97) dX10_ward_16 ?_
      exact e_iret C hw hf dX10_ward_18
/-! StorkVoteModel.elected()I -/
abbrev rm_X10_elected : Room := { frames := 6, cells := 0, slots := 0, locals := 142 }
def f_X10_elected (M : Mem) (x0 : Nat) : Option (Int32 × Mem) := gt (mT M x0) 11 (cl (f_X10_electedNow M x0) (fun r2 M1 => some (r2, M1)))
set_option maxHeartbeats 4000000 in
set_option maxRecDepth 100000 in
theorem c_X10_elected (l : Launch) (G : Gd) (A : Nat → Prop) (ad : Nat → Nat) {M : Mem} {x0 : Nat}  {r : Int32} {M' : Mem} (hf : f_X10_elected M x0 = some (r, M')) : Ct l yX10_elected cX10_elected 1 (some .int) rm_X10_elected [.ref (ad x0)] G A ad M (QI G A ad r M') 0 0 := by
  refine ct_start (by decide) (Nat.le_of_ble_eq_true rfl) ?_
  intro p e s m args below meth c ls C hin hw hl
  have C : Cx G A p s m args meth c RX10 cX10_elected 1 (some .int) := C
  have hl : lv_has ls 1 [(0, .ref (ad x0))] := hl
  obtain ⟨hx, hb, -⟩ := id C
  rw [f_X10_elected] at hf
  refine lv_aload_n hx hb dX10_elected_0 rfl (lv_at hl 0 rfl) ?_
  obtain ⟨hT4, hf⟩ := gt_inv hf
  obtain ⟨r2, M1, hc3, hf⟩ := cl_inv hf
  refine fin_I (run_V C hw mf_X10_electedNow mv_X10_electedNow ml_X10_170 cf10 hT4 (c_X10_electedNow l G A ad hc3) (As := []) (rest := []) hl.1 rfl rfl (Nat.le_of_ble_eq_true rfl) ⟨rfl, rfl, Nat.le_of_ble_eq_true rfl, Nat.le_of_ble_eq_true rfl⟩ ⟨Nat.zero_le _, Nat.zero_le _⟩ dX10_elected_1) hw (fun H locs hw => ?_)
  exact e_iret C hw hf dX10_elected_4
/-! StorkVoteModel.year()I -/
abbrev rm_X10_year : Room := { frames := 5, cells := 0, slots := 0, locals := 118 }
def f_X10_year_78 (K15 : Mem → Nat → Int32 → Int32 → Int32 → Option (Int32 × Mem)) (M : Mem) (x0 : Nat) (x1 : Int32) (x2 : Int32) (x3 : Int32) (s0 : Nat) (s1 : Int32) (s2 : Int32) : Option (Int32 × Mem) := gt (mT M s0) 20 (gd (ib s1 (mL M s0)) (st (setI M s0 s1.toNatClampNeg s2) (fun M3 => K15 M3 x0 x1 x2 (x3 + 1))))
set_option maxHeartbeats 4000000 in
set_option maxRecDepth 100000 in
theorem t_X10_year_78 {l : Launch} {p : Program} {e : Env} {s : State} {m : MethodId} {args : Array Value} {below : List Frame} {meth : Method} {c : Code} {G : Gd} {A : Nat → Prop} {ad : Nat → Nat} (C : Cx G A p s m args meth c RX10 cX10_year 6 (some .int)) {r : Int32} {M' : Mem} {K15 : Mem → Nat → Int32 → Int32 → Int32 → Option (Int32 × Mem)} (hK15 : ∀ (M : Mem) (x0 : Nat) (x1 : Int32) (x2 : Int32) (x3 : Int32) (H : Heap) (locs : List Loc) (ls : Array Slot), K15 M x0 x1 x2 x3 = some (r, M') → Wd G A ad s.heap M H locs → lv_has ls 6 [(0, .ref (ad x0)), (1, .int x1), (2, .int x2), (3, .int x3)] → W p l e rm_X10_year s m args below meth c H locs 0 0 (MQ below (QI G A ad r M') args s 0 0 A) (F0 m 15 ls [])) : ∀ (M : Mem) (x0 : Nat) (x1 : Int32) (x2 : Int32) (x3 : Int32) (s0 : Nat) (s1 : Int32) (s2 : Int32) (H : Heap) (locs : List Loc) (ls : Array Slot), f_X10_year_78 K15 M x0 x1 x2 x3 s0 s1 s2 = some (r, M') → Wd G A ad s.heap M H locs → lv_has ls 6 [(0, .ref (ad x0)), (1, .int x1), (2, .int x2), (3, .int x3)] → W p l e rm_X10_year s m args below meth c H locs 0 0 (MQ below (QI G A ad r M') args s 0 0 A) (F0 m 78 ls [.int s2, .int s1, .ref (ad s0)]) := by
  obtain ⟨hx, hb, -⟩ := id C
  intro M x0 x1 x2 x3 s0 s1 s2 H locs ls hf hw hl
  rw [f_X10_year_78] at hf
  obtain ⟨hT1, hf⟩ := gt_inv hf
  obtain ⟨hg2, hf⟩ := gd_inv hf
  obtain ⟨M3, e4, hf⟩ := st_inv hf
  have g5 := sg_I e4
  refine r_iast C hw hT1 hg2 e4 dX10_year_78 (fun H locs hw => ?_)
  refine lv_goto (tgt := 128) hx hb dX10_year_79 (by decide) ?_
  refine lv_iinc (v := (x3 + 1)) (lv' := [(3, .int (x3 + 1)), (0, .ref (ad x0)), (1, .int x1), (2, .int x2)]) hx hb dX10_year_128 hl (k := 3) rfl rfl (by decide) rfl (fun ls hl => ?_)
  refine lv_goto (tgt := 15) hx hb dX10_year_131 (by decide) ?_
  exact hK15 M3 x0 x1 x2 (x3 + 1) _ _ _ hf hw (lv_sub hl [1, 2, 3, 0] rfl)
def f_X10_year_15 : Nat → Mem → Nat → Int32 → Int32 → Int32 → Option (Int32 × Mem)
  | 0, _, _, _, _, _ => none
  | n + 1, M, x0, x1, x2, x3 => (if x1 ≤ x3 then gt (mT M x0) 11 (lp (mP M x0 0) (fun a2 => gt (mT M a2) 20 (gd (ib 3 (mL M a2)) (gd (ib 3 (mL M a2)) (st (setI M a2 (3 : Int32).toNatClampNeg ((mI M a2 (3 : Int32).toNatClampNeg) + 1)) (fun M7 => some (x2, M7))))))) else gt (mT M x0) 11 (cl (f_X10_isAway M x0 x3) (fun r11 M10 => (if r11 = 0 then gt (mT M10 x0) 11 (cl (f_X10_draw M10 x0) (fun r15 M14 => gt (mT M14 x0) 11 (lp (mP M14 x0 6) (fun a19 => gt (mT M14 a19) 20 (gd (ib x3 (mL M14 a19)) ((if 0 ≤ (mI M14 a19 x3.toNatClampNeg) then lp (mP M14 x0 0) (fun a23 => gt (mT M14 a23) 20 (gd (ib 5 (mL M14 a23)) ((if (mI M14 a23 (5 : Int32).toNatClampNeg) ≤ (irm r15 100) then f_X10_year_15 n M14 x0 x1 x2 (x3 + 1) else gd (ib 2 (mL M14 a23)) ((if 10 ≤ (mI M14 a23 (2 : Int32).toNatClampNeg) then f_X10_year_15 n M14 x0 x1 x2 (x3 + 1) else cl (f_X10_draw M14 x0) (fun r29 M28 => gt (mT M28 x0) 11 (lp (mP M28 x0 6) (fun a32 => gt (mT M28 a32) 20 (gd (ib x3 (mL M28 a32)) (cl (f_X10_hatches M28 x0 (1 + (irm r29 20)) (mI M28 a32 x3.toNatClampNeg)) (fun r37 M36 => f_X10_year_15 n M36 x0 x1 (x2 + 1) (x3 + 1))))))))))))) else lp (mP M14 x0 0) (fun a39 => gt (mT M14 a39) 20 (gd (ib 6 (mL M14 a39)) ((if (mI M14 a39 (6 : Int32).toNatClampNeg) ≤ (irm r15 100) then f_X10_year_78 (f_X10_year_15 n) M14 x0 x1 x2 x3 a39 ((8 + (3 * x3)) + 2) 0 else f_X10_year_78 (f_X10_year_15 n) M14 x0 x1 x2 x3 a39 ((8 + (3 * x3)) + 2) 1))))))))))) else f_X10_year_15 n M10 x0 x1 x2 (x3 + 1)))))
set_option maxHeartbeats 4000000 in
set_option maxRecDepth 100000 in
theorem t_X10_year_15 {l : Launch} {p : Program} {e : Env} {s : State} {m : MethodId} {args : Array Value} {below : List Frame} {meth : Method} {c : Code} {G : Gd} {A : Nat → Prop} {ad : Nat → Nat} (C : Cx G A p s m args meth c RX10 cX10_year 6 (some .int)) {r : Int32} {M' : Mem} : ∀ (n : Nat) (M : Mem) (x0 : Nat) (x1 : Int32) (x2 : Int32) (x3 : Int32) (H : Heap) (locs : List Loc) (ls : Array Slot), f_X10_year_15  n M x0 x1 x2 x3 = some (r, M') → Wd G A ad s.heap M H locs → lv_has ls 6 [(0, .ref (ad x0)), (1, .int x1), (2, .int x2), (3, .int x3)] → W p l e rm_X10_year s m args below meth c H locs 0 0 (MQ below (QI G A ad r M') args s 0 0 A) (F0 m 15 ls []) := by
  obtain ⟨hx, hb, -⟩ := id C
  intro n
  induction n with
  | zero =>
    intro M x0 x1 x2 x3 H locs ls hf
    rw [f_X10_year_15] at hf
    exact absurd hf (fun h => nomatch h)
  | succ n ih =>
    intro M x0 x1 x2 x3 H locs ls hf hw hl
    rw [f_X10_year_15] at hf
    refine lv_iload_n hx hb dX10_year_15 rfl (lv_at hl 3 rfl) ?_
    refine lv_iload_n hx hb dX10_year_16 rfl (lv_at hl 1 rfl) ?_
    refine lv_icmp_ge (tgt := 134) hx hb dX10_year_17 (by decide) (fun hc => ?_) (fun hc => ?_)
    · have hf := if_p hc hf
      refine lv_aload_n hx hb dX10_year_134 rfl (lv_at hl 0 rfl) ?_
      obtain ⟨hT1, hf⟩ := gt_inv hf
      obtain ⟨a2, hP3, hf⟩ := lp_inv hf
      refine r_getP C hw cf10 0 (by decide) rfl hT1 hP3 fl_X10_9 dX10_year_135 ?_
      refine lv_iconst (v := 3) hx hb dX10_year_138 (by decide) ?_
      refine lv_dup2_11 hx hb dX10_year_139 rfl rfl ?_
      obtain ⟨hT4, hf⟩ := gt_inv hf
      obtain ⟨hg5, hf⟩ := gd_inv hf
      refine r_iald C hw hT4 hg5 dX10_year_140 ?_
      refine lv_iconst (v := 1) hx hb dX10_year_141 (by decide) ?_
      refine lv_iadd hx hb dX10_year_142 ?_
      obtain ⟨hg6, hf⟩ := gd_inv hf
      obtain ⟨M7, e8, hf⟩ := st_inv hf
      have g9 := sg_I e8
      refine r_iast C hw hT4 hg6 e8 dX10_year_143 (fun H locs hw => ?_)
      refine lv_iload_n hx hb dX10_year_144 rfl (lv_at hl 2 rfl) ?_
      exact e_iret C hw hf dX10_year_145
    · have hf := if_n hc hf
      refine lv_aload_n hx hb dX10_year_20 rfl (lv_at hl 0 rfl) ?_
      refine lv_iload_n hx hb dX10_year_21 rfl (lv_at hl 3 rfl) ?_
      obtain ⟨hT13, hf⟩ := gt_inv hf
      obtain ⟨r11, M10, hc12, hf⟩ := cl_inv hf
      refine fin_I (run_V C hw mf_X10_isAway mv_X10_isAway ml_X10_152 cf10 hT13 (c_X10_isAway l G A ad hc12) (As := [.int x3]) (rest := []) hl.1 rfl rfl (Nat.le_of_ble_eq_true rfl) ⟨rfl, rfl, Nat.le_of_ble_eq_true rfl, Nat.le_of_ble_eq_true rfl⟩ ⟨Nat.zero_le _, Nat.zero_le _⟩ dX10_year_22) hw (fun H locs hw => ?_)
      refine lv_if_eq (tgt := 31) hx hb dX10_year_25 (by decide) (fun hc => ?_) (fun hc => ?_)
      · have hf := if_p hc hf
        refine lv_aload_n hx hb dX10_year_31 rfl (lv_at hl 0 rfl) ?_
        obtain ⟨hT17, hf⟩ := gt_inv hf
        obtain ⟨r15, M14, hc16, hf⟩ := cl_inv hf
        refine fin_I (run_V C hw mf_X10_draw mv_X10_draw ml_X10_148 cf10 hT17 (c_X10_draw l G A ad hc16) (As := []) (rest := []) hl.1 rfl rfl (Nat.le_of_ble_eq_true rfl) ⟨rfl, rfl, Nat.le_of_ble_eq_true rfl, Nat.le_of_ble_eq_true rfl⟩ ⟨Nat.zero_le _, Nat.zero_le _⟩ dX10_year_32) hw (fun H locs hw => ?_)
        refine lv_bipush (v := 100) hx hb dX10_year_35 (by decide) ?_
        refine lv_irem hx hb dX10_year_37 (by decide) ?_
        refine lv_istore (lv' := [(4, .int (irm r15 100)), (0, .ref (ad x0)), (1, .int x1), (2, .int x2), (3, .int x3)]) hx hb dX10_year_38 hl (by decide) rfl (fun ls hl => ?_)
        refine lv_aload_n hx hb dX10_year_40 rfl (lv_at hl 1 rfl) ?_
        obtain ⟨hT18, hf⟩ := gt_inv hf
        obtain ⟨a19, hP20, hf⟩ := lp_inv hf
        refine r_getP C hw cf10 6 (by decide) rfl hT18 hP20 fl_X10_26 dX10_year_41 ?_
        refine lv_iload_n hx hb dX10_year_44 rfl (lv_at hl 4 rfl) ?_
        obtain ⟨hT21, hf⟩ := gt_inv hf
        obtain ⟨hg22, hf⟩ := gd_inv hf
        refine r_iald C hw hT21 hg22 dX10_year_45 ?_
        refine lv_if_ge (tgt := 82) hx hb dX10_year_46 (by decide) (fun hc => ?_) (fun hc => ?_)
        · have hf := if_p hc hf
          refine lv_iload hx hb dX10_year_82 (lv_at hl 0 rfl) ?_
          refine lv_aload_n hx hb dX10_year_84 rfl (lv_at hl 1 rfl) ?_
          obtain ⟨a23, hP24, hf⟩ := lp_inv hf
          refine r_getP C hw cf10 0 (by decide) rfl hT18 hP24 fl_X10_9 dX10_year_85 ?_
          refine lv_iconst (v := 5) hx hb dX10_year_88 (by decide) ?_
          obtain ⟨hT25, hf⟩ := gt_inv hf
          obtain ⟨hg26, hf⟩ := gd_inv hf
          refine r_iald C hw hT25 hg26 dX10_year_89 ?_
          refine lv_icmp_ge (tgt := 128) hx hb dX10_year_90 (by decide) (fun hc => ?_) (fun hc => ?_)
          · have hf := if_p hc hf
            refine lv_iinc (v := (x3 + 1)) (lv' := [(3, .int (x3 + 1)), (4, .int (irm r15 100)), (0, .ref (ad x0)), (1, .int x1), (2, .int x2)]) hx hb dX10_year_128 hl (k := 4) rfl rfl (by decide) rfl (fun ls hl => ?_)
            refine lv_goto (tgt := 15) hx hb dX10_year_131 (by decide) ?_
            exact ih M14 x0 x1 x2 (x3 + 1) _ _ _ hf hw (lv_sub hl [2, 3, 4, 0] rfl)
          · have hf := if_n hc hf
            refine lv_aload_n hx hb dX10_year_93 rfl (lv_at hl 1 rfl) ?_
            refine r_getP C hw cf10 0 (by decide) rfl hT18 hP24 fl_X10_9 dX10_year_94 ?_
            refine lv_iconst (v := 2) hx hb dX10_year_97 (by decide) ?_
            obtain ⟨hg27, hf⟩ := gd_inv hf
            refine r_iald C hw hT25 hg27 dX10_year_98 ?_
            refine lv_bipush (v := 10) hx hb dX10_year_99 (by decide) ?_
            refine lv_icmp_ge (tgt := 128) hx hb dX10_year_101 (by decide) (fun hc => ?_) (fun hc => ?_)
            · have hf := if_p hc hf
              refine lv_iinc (v := (x3 + 1)) (lv' := [(3, .int (x3 + 1)), (4, .int (irm r15 100)), (0, .ref (ad x0)), (1, .int x1), (2, .int x2)]) hx hb dX10_year_128 hl (k := 4) rfl rfl (by decide) rfl (fun ls hl => ?_)
              refine lv_goto (tgt := 15) hx hb dX10_year_131 (by decide) ?_
              exact ih M14 x0 x1 x2 (x3 + 1) _ _ _ hf hw (lv_sub hl [2, 3, 4, 0] rfl)
            · have hf := if_n hc hf
              refine lv_aload_n hx hb dX10_year_104 rfl (lv_at hl 1 rfl) ?_
              refine lv_iconst (v := 1) hx hb dX10_year_105 (by decide) ?_
              refine lv_aload_n hx hb dX10_year_106 rfl (lv_at hl 1 rfl) ?_
              obtain ⟨r29, M28, hc30, hf⟩ := cl_inv hf
              refine fin_I (run_V C hw mf_X10_draw mv_X10_draw ml_X10_148 cf10 hT18 (c_X10_draw l G A ad hc30) (As := []) (rest := [.int 1, .ref (ad x0)]) hl.1 rfl rfl (Nat.le_of_ble_eq_true rfl) ⟨rfl, rfl, Nat.le_of_ble_eq_true rfl, Nat.le_of_ble_eq_true rfl⟩ ⟨Nat.zero_le _, Nat.zero_le _⟩ dX10_year_107) hw (fun H locs hw => ?_)
              refine lv_bipush (v := 20) hx hb dX10_year_110 (by decide) ?_
              refine lv_irem hx hb dX10_year_112 (by decide) ?_
              refine lv_iadd hx hb dX10_year_113 ?_
              refine lv_aload_n hx hb dX10_year_114 rfl (lv_at hl 1 rfl) ?_
              obtain ⟨hT31, hf⟩ := gt_inv hf
              obtain ⟨a32, hP33, hf⟩ := lp_inv hf
              refine r_getP C hw cf10 6 (by decide) rfl hT31 hP33 fl_X10_26 dX10_year_115 ?_
              refine lv_iload_n hx hb dX10_year_118 rfl (lv_at hl 4 rfl) ?_
              obtain ⟨hT34, hf⟩ := gt_inv hf
              obtain ⟨hg35, hf⟩ := gd_inv hf
              refine r_iald C hw hT34 hg35 dX10_year_119 ?_
              obtain ⟨r37, M36, hc38, hf⟩ := cl_inv hf
              refine fin_I (run_V C hw mf_X10_hatches mv_X10_hatches ml_X10_128 cf10 hT31 (c_X10_hatches l G A ad hc38) (As := [.int (1 + (irm r29 20)), .int (mI M28 a32 x3.toNatClampNeg)]) (rest := []) hl.1 rfl rfl (Nat.le_of_ble_eq_true rfl) ⟨rfl, rfl, Nat.le_of_ble_eq_true rfl, Nat.le_of_ble_eq_true rfl⟩ ⟨Nat.zero_le _, Nat.zero_le _⟩ dX10_year_120) hw (fun H locs hw => ?_)
              refine lv_istore (lv' := [(5, .int r37), (4, .int (irm r15 100)), (0, .ref (ad x0)), (1, .int x1), (2, .int x2), (3, .int x3)]) hx hb dX10_year_123 hl (by decide) rfl (fun ls hl => ?_)
              refine lv_iinc (v := (x2 + 1)) (lv' := [(2, .int (x2 + 1)), (5, .int r37), (4, .int (irm r15 100)), (0, .ref (ad x0)), (1, .int x1), (3, .int x3)]) hx hb dX10_year_125 hl (k := 4) rfl rfl (by decide) rfl (fun ls hl => ?_)
              refine lv_iinc (v := (x3 + 1)) (lv' := [(3, .int (x3 + 1)), (2, .int (x2 + 1)), (5, .int r37), (4, .int (irm r15 100)), (0, .ref (ad x0)), (1, .int x1)]) hx hb dX10_year_128 hl (k := 5) rfl rfl (by decide) rfl (fun ls hl => ?_)
              refine lv_goto (tgt := 15) hx hb dX10_year_131 (by decide) ?_
              exact ih M36 x0 x1 (x2 + 1) (x3 + 1) _ _ _ hf hw (lv_sub hl [4, 5, 1, 0] rfl)
        · have hf := if_n hc hf
          refine lv_aload_n hx hb dX10_year_49 rfl (lv_at hl 1 rfl) ?_
          obtain ⟨a39, hP40, hf⟩ := lp_inv hf
          refine r_getP C hw cf10 0 (by decide) rfl hT18 hP40 fl_X10_9 dX10_year_50 ?_
          refine lv_bipush (v := 8) hx hb dX10_year_53 (by decide) ?_
          refine lv_iconst (v := 3) hx hb dX10_year_55 (by decide) ?_
          refine lv_iload_n hx hb dX10_year_56 rfl (lv_at hl 4 rfl) ?_
          refine lv_imul hx hb dX10_year_57 ?_
          refine lv_iadd hx hb dX10_year_58 ?_
          refine lv_iconst (v := 2) hx hb dX10_year_59 (by decide) ?_
          refine lv_iadd hx hb dX10_year_60 ?_
          refine lv_iload hx hb dX10_year_61 (lv_at hl 0 rfl) ?_
          refine lv_aload_n hx hb dX10_year_63 rfl (lv_at hl 1 rfl) ?_
          refine r_getP C hw cf10 0 (by decide) rfl hT18 hP40 fl_X10_9 dX10_year_64 ?_
          refine lv_bipush (v := 6) hx hb dX10_year_67 (by decide) ?_
          obtain ⟨hT41, hf⟩ := gt_inv hf
          obtain ⟨hg42, hf⟩ := gd_inv hf
          refine r_iald C hw hT41 hg42 dX10_year_69 ?_
          refine lv_icmp_ge (tgt := 77) hx hb dX10_year_70 (by decide) (fun hc => ?_) (fun hc => ?_)
          · have hf := if_p hc hf
            refine lv_iconst (v := 0) hx hb dX10_year_77 (by decide) ?_
            exact t_X10_year_78 C ih M14 x0 x1 x2 x3 a39 ((8 + (3 * x3)) + 2) 0 _ _ _ hf hw (lv_sub hl [1, 2, 3, 4] rfl)
          · have hf := if_n hc hf
            refine lv_iconst (v := 1) hx hb dX10_year_73 (by decide) ?_
            refine lv_goto (tgt := 78) hx hb dX10_year_74 (by decide) ?_
            exact t_X10_year_78 C ih M14 x0 x1 x2 x3 a39 ((8 + (3 * x3)) + 2) 1 _ _ _ hf hw (lv_sub hl [1, 2, 3, 4] rfl)
      · have hf := if_n hc hf
        refine lv_goto (tgt := 128) hx hb dX10_year_28 (by decide) ?_
        refine lv_iinc (v := (x3 + 1)) (lv' := [(3, .int (x3 + 1)), (0, .ref (ad x0)), (1, .int x1), (2, .int x2)]) hx hb dX10_year_128 hl (k := 3) rfl rfl (by decide) rfl (fun ls hl => ?_)
        refine lv_goto (tgt := 15) hx hb dX10_year_131 (by decide) ?_
        exact ih M10 x0 x1 x2 (x3 + 1) _ _ _ hf hw (lv_sub hl [1, 2, 3, 0] rfl)
def f_X10_year (M : Mem) (x0 : Nat) : Option (Int32 × Mem) := gt (mT M x0) 11 (cl (f_X10_spring M x0) (fun _ M1 => gt (mT M1 x0) 11 (lp (mP M1 x0 0) (fun a6 => gt (mT M1 a6) 20 (gd (ib 2 (mL M1 a6)) (f_X10_year_15 FU M1 x0 (mI M1 a6 (2 : Int32).toNatClampNeg) 0 0))))))
set_option maxHeartbeats 4000000 in
set_option maxRecDepth 100000 in
theorem c_X10_year (l : Launch) (G : Gd) (A : Nat → Prop) (ad : Nat → Nat) {M : Mem} {x0 : Nat}  {r : Int32} {M' : Mem} (hf : f_X10_year M x0 = some (r, M')) : Ct l yX10_year cX10_year 6 (some .int) rm_X10_year [.ref (ad x0)] G A ad M (QI G A ad r M') 0 0 := by
  refine ct_start (by decide) (Nat.le_of_ble_eq_true rfl) ?_
  intro p e s m args below meth c ls C hin hw hl
  have C : Cx G A p s m args meth c RX10 cX10_year 6 (some .int) := C
  have hl : lv_has ls 6 [(0, .ref (ad x0))] := hl
  obtain ⟨hx, hb, -⟩ := id C
  rw [f_X10_year] at hf
  refine lv_aload_n hx hb dX10_year_0 rfl (lv_at hl 0 rfl) ?_
  obtain ⟨hT4, hf⟩ := gt_inv hf
  obtain ⟨⟨⟩, M1, hc3, hf⟩ := cl_inv hf
  refine fin_V (run_V C hw mf_X10_spring mv_X10_spring ml_X10_114 cf10 hT4 (c_X10_spring l G A ad hc3) (As := []) (rest := []) hl.1 rfl rfl (Nat.le_of_ble_eq_true rfl) ⟨rfl, rfl, Nat.le_of_ble_eq_true rfl, Nat.le_of_ble_eq_true rfl⟩ ⟨Nat.zero_le _, Nat.zero_le _⟩ dX10_year_1) hw (fun H locs hw => ?_)
  refine lv_aload_n hx hb dX10_year_4 rfl (lv_at hl 0 rfl) ?_
  obtain ⟨hT5, hf⟩ := gt_inv hf
  obtain ⟨a6, hP7, hf⟩ := lp_inv hf
  refine r_getP C hw cf10 0 (by decide) rfl hT5 hP7 fl_X10_9 dX10_year_5 ?_
  refine lv_iconst (v := 2) hx hb dX10_year_8 (by decide) ?_
  obtain ⟨hT8, hf⟩ := gt_inv hf
  obtain ⟨hg9, hf⟩ := gd_inv hf
  refine r_iald C hw hT8 hg9 dX10_year_9 ?_
  refine lv_istore_n (lv' := [(1, .int (mI M1 a6 (2 : Int32).toNatClampNeg)), (0, .ref (ad x0))]) hx hb dX10_year_10 rfl hl (by decide) rfl (fun ls hl => ?_)
  refine lv_iconst (v := 0) hx hb dX10_year_11 (by decide) ?_
  refine lv_istore_n (lv' := [(2, .int 0), (1, .int (mI M1 a6 (2 : Int32).toNatClampNeg)), (0, .ref (ad x0))]) hx hb dX10_year_12 rfl hl (by decide) rfl (fun ls hl => ?_)
  refine lv_iconst (v := 0) hx hb dX10_year_13 (by decide) ?_
  refine lv_istore_n (lv' := [(3, .int 0), (2, .int 0), (1, .int (mI M1 a6 (2 : Int32).toNatClampNeg)), (0, .ref (ad x0))]) hx hb dX10_year_14 rfl hl (by decide) rfl (fun ls hl => ?_)
  exact t_X10_year_15 C FU M1 x0 (mI M1 a6 (2 : Int32).toNatClampNeg) 0 0 _ _ _ hf hw (lv_sub hl [3, 2, 1, 0] rfl)
/-! StorkVoteModel.goesOn(I)I -/
abbrev rm_X10_goesOn : Room := { frames := 6, cells := 0, slots := 0, locals := 143 }
def f_X10_goesOn_4 : Nat → Mem → Nat → Int32 → Int32 → Int32 → Option (Int32 × Mem)
  | 0, _, _, _, _, _ => none
  | n + 1, M, x0, x1, x2, x3 => (if x1 ≤ x3 then some (x2, M) else gt (mT M x0) 11 (cl (f_X10_year M x0) (fun r2 M1 => f_X10_goesOn_4 n M1 x0 x1 (x2 + r2) (x3 + 1))))
set_option maxHeartbeats 4000000 in
set_option maxRecDepth 100000 in
theorem t_X10_goesOn_4 {l : Launch} {p : Program} {e : Env} {s : State} {m : MethodId} {args : Array Value} {below : List Frame} {meth : Method} {c : Code} {G : Gd} {A : Nat → Prop} {ad : Nat → Nat} (C : Cx G A p s m args meth c RX10 cX10_goesOn 4 (some .int)) {r : Int32} {M' : Mem} : ∀ (n : Nat) (M : Mem) (x0 : Nat) (x1 : Int32) (x2 : Int32) (x3 : Int32) (H : Heap) (locs : List Loc) (ls : Array Slot), f_X10_goesOn_4  n M x0 x1 x2 x3 = some (r, M') → Wd G A ad s.heap M H locs → lv_has ls 4 [(0, .ref (ad x0)), (1, .int x1), (2, .int x2), (3, .int x3)] → W p l e rm_X10_goesOn s m args below meth c H locs 0 0 (MQ below (QI G A ad r M') args s 0 0 A) (F0 m 4 ls []) := by
  obtain ⟨hx, hb, -⟩ := id C
  intro n
  induction n with
  | zero =>
    intro M x0 x1 x2 x3 H locs ls hf
    rw [f_X10_goesOn_4] at hf
    exact absurd hf (fun h => nomatch h)
  | succ n ih =>
    intro M x0 x1 x2 x3 H locs ls hf hw hl
    rw [f_X10_goesOn_4] at hf
    refine lv_iload_n hx hb dX10_goesOn_4 rfl (lv_at hl 3 rfl) ?_
    refine lv_iload_n hx hb dX10_goesOn_5 rfl (lv_at hl 1 rfl) ?_
    refine lv_icmp_ge (tgt := 22) hx hb dX10_goesOn_6 (by decide) (fun hc => ?_) (fun hc => ?_)
    · have hf := if_p hc hf
      refine lv_iload_n hx hb dX10_goesOn_22 rfl (lv_at hl 2 rfl) ?_
      exact e_iret C hw hf dX10_goesOn_23
    · have hf := if_n hc hf
      refine lv_iload_n hx hb dX10_goesOn_9 rfl (lv_at hl 2 rfl) ?_
      refine lv_aload_n hx hb dX10_goesOn_10 rfl (lv_at hl 0 rfl) ?_
      obtain ⟨hT4, hf⟩ := gt_inv hf
      obtain ⟨r2, M1, hc3, hf⟩ := cl_inv hf
      refine fin_I (run_V C hw mf_X10_year mv_X10_year ml_X10_173 cf10 hT4 (c_X10_year l G A ad hc3) (As := []) (rest := [.int x2]) hl.1 rfl rfl (Nat.le_of_ble_eq_true rfl) ⟨rfl, rfl, Nat.le_of_ble_eq_true rfl, Nat.le_of_ble_eq_true rfl⟩ ⟨Nat.zero_le _, Nat.zero_le _⟩ dX10_goesOn_11) hw (fun H locs hw => ?_)
      refine lv_iadd hx hb dX10_goesOn_14 ?_
      refine lv_istore_n (lv' := [(2, .int (x2 + r2)), (0, .ref (ad x0)), (1, .int x1), (3, .int x3)]) hx hb dX10_goesOn_15 rfl hl (by decide) rfl (fun ls hl => ?_)
      refine lv_iinc (v := (x3 + 1)) (lv' := [(3, .int (x3 + 1)), (2, .int (x2 + r2)), (0, .ref (ad x0)), (1, .int x1)]) hx hb dX10_goesOn_16 hl (k := 3) rfl rfl (by decide) rfl (fun ls hl => ?_)
      refine lv_goto (tgt := 4) hx hb dX10_goesOn_19 (by decide) ?_
      exact ih M1 x0 x1 (x2 + r2) (x3 + 1) _ _ _ hf hw (lv_sub hl [2, 3, 1, 0] rfl)
def f_X10_goesOn (M : Mem) (x0 : Nat) (x1 : Int32) : Option (Int32 × Mem) := f_X10_goesOn_4 FU M x0 x1 0 0
set_option maxHeartbeats 4000000 in
set_option maxRecDepth 100000 in
theorem c_X10_goesOn (l : Launch) (G : Gd) (A : Nat → Prop) (ad : Nat → Nat) {M : Mem} {x0 : Nat} {x1 : Int32}  {r : Int32} {M' : Mem} (hf : f_X10_goesOn M x0 x1 = some (r, M')) : Ct l yX10_goesOn cX10_goesOn 4 (some .int) rm_X10_goesOn [.ref (ad x0), .int x1] G A ad M (QI G A ad r M') 0 0 := by
  refine ct_start (by decide) (Nat.le_of_ble_eq_true rfl) ?_
  intro p e s m args below meth c ls C hin hw hl
  have C : Cx G A p s m args meth c RX10 cX10_goesOn 4 (some .int) := C
  have hl : lv_has ls 4 [(0, .ref (ad x0)), (1, .int x1)] := hl
  obtain ⟨hx, hb, -⟩ := id C
  rw [f_X10_goesOn] at hf
  refine lv_iconst (v := 0) hx hb dX10_goesOn_0 (by decide) ?_
  refine lv_istore_n (lv' := [(2, .int 0), (0, .ref (ad x0)), (1, .int x1)]) hx hb dX10_goesOn_1 rfl hl (by decide) rfl (fun ls hl => ?_)
  refine lv_iconst (v := 0) hx hb dX10_goesOn_2 (by decide) ?_
  refine lv_istore_n (lv' := [(3, .int 0), (2, .int 0), (0, .ref (ad x0)), (1, .int x1)]) hx hb dX10_goesOn_3 rfl hl (by decide) rfl (fun ls hl => ?_)
  exact t_X10_goesOn_4 C FU M x0 x1 0 0 _ _ _ hf hw (lv_sub hl [2, 3, 1, 0] rfl)
/-! StorkVoteModel.years(I)I -/
abbrev rm_X10_years : Room := { frames := 7, cells := 0, slots := 0, locals := 166 }
def f_X10_years (M : Mem) (x0 : Nat) (x1 : Int32) : Option (Int32 × Mem) := cl (f_X10_in M x1 1 60) (fun r2 M1 => (if r2 = 0 then some ((-1000000001), M1) else gt (mT M1 x0) 11 (lp (mP M1 x0 0) (fun a5 => gt (mT M1 a5) 20 (gd (ib 3 (mL M1 a5)) (cl (f_X10_within M1 (999 - (mI M1 a5 (3 : Int32).toNatClampNeg)) 0 x1) (fun r10 M9 => gt (mT M9 x0) 11 (cl (f_X10_goesOn M9 x0 r10) (fun r13 M12 => some (r13, M12))))))))))
set_option maxHeartbeats 4000000 in
set_option maxRecDepth 100000 in
theorem c_X10_years (l : Launch) (G : Gd) (A : Nat → Prop) (ad : Nat → Nat) {M : Mem} {x0 : Nat} {x1 : Int32}  {r : Int32} {M' : Mem} (hf : f_X10_years M x0 x1 = some (r, M')) : Ct l yX10_years cX10_years 2 (some .int) rm_X10_years [.ref (ad x0), .int x1] G A ad M (QI G A ad r M') 0 0 := by
  refine ct_start (by decide) (Nat.le_of_ble_eq_true rfl) ?_
  intro p e s m args below meth c ls C hin hw hl
  have C : Cx G A p s m args meth c RX10 cX10_years 2 (some .int) := C
  have hl : lv_has ls 2 [(0, .ref (ad x0)), (1, .int x1)] := hl
  obtain ⟨hx, hb, -⟩ := id C
  rw [f_X10_years] at hf
  refine lv_iload_n hx hb dX10_years_0 rfl (lv_at hl 1 rfl) ?_
  refine lv_iconst (v := 1) hx hb dX10_years_1 (by decide) ?_
  refine lv_bipush (v := 60) hx hb dX10_years_2 (by decide) ?_
  obtain ⟨r2, M1, hc3, hf⟩ := cl_inv hf
  refine fin_I (run_S C hw mf_X10_in ms_X10_in ml_X10_89 (c_X10_in l G A ad hc3) (As := [.int x1, .int 1, .int 60]) (rest := []) hl.1 rfl rfl (Nat.le_of_ble_eq_true rfl) ⟨rfl, rfl, Nat.le_of_ble_eq_true rfl, Nat.le_of_ble_eq_true rfl⟩ ⟨Nat.zero_le _, Nat.zero_le _⟩ dX10_years_4) hw (fun H locs hw => ?_)
  refine lv_if_eq (tgt := 32) hx hb dX10_years_7 (by decide) (fun hc => ?_) (fun hc => ?_)
  · have hf := if_p hc hf
    refine lv_ldc hx hb C.2.2.2.1 (C.2.2.2.2.1 _ kc_X10_97) dX10_years_32 ?_
    exact e_iret C hw hf dX10_years_34
  · have hf := if_n hc hf
    refine lv_aload_n hx hb dX10_years_10 rfl (lv_at hl 0 rfl) ?_
    refine lv_sipush (v := 999) hx hb dX10_years_11 (by decide) ?_
    refine lv_aload_n hx hb dX10_years_14 rfl (lv_at hl 0 rfl) ?_
    obtain ⟨hT4, hf⟩ := gt_inv hf
    obtain ⟨a5, hP6, hf⟩ := lp_inv hf
    refine r_getP C hw cf10 0 (by decide) rfl hT4 hP6 fl_X10_9 dX10_years_15 ?_
    refine lv_iconst (v := 3) hx hb dX10_years_18 (by decide) ?_
    obtain ⟨hT7, hf⟩ := gt_inv hf
    obtain ⟨hg8, hf⟩ := gd_inv hf
    refine r_iald C hw hT7 hg8 dX10_years_19 ?_
    refine lv_isub hx hb dX10_years_20 ?_
    refine lv_iconst (v := 0) hx hb dX10_years_21 (by decide) ?_
    refine lv_iload_n hx hb dX10_years_22 rfl (lv_at hl 1 rfl) ?_
    obtain ⟨r10, M9, hc11, hf⟩ := cl_inv hf
    refine fin_I (run_S C hw mf_X10_within ms_X10_within ml_X10_140 (c_X10_within l G A ad hc11) (As := [.int (999 - (mI M1 a5 (3 : Int32).toNatClampNeg)), .int 0, .int x1]) (rest := [.ref (ad x0)]) hl.1 rfl rfl (Nat.le_of_ble_eq_true rfl) ⟨rfl, rfl, Nat.le_of_ble_eq_true rfl, Nat.le_of_ble_eq_true rfl⟩ ⟨Nat.zero_le _, Nat.zero_le _⟩ dX10_years_23) hw (fun H locs hw => ?_)
    obtain ⟨hT15, hf⟩ := gt_inv hf
    obtain ⟨r13, M12, hc14, hf⟩ := cl_inv hf
    refine fin_I (run_V C hw mf_X10_goesOn mv_X10_goesOn ml_X10_176 cf10 hT15 (c_X10_goesOn l G A ad hc14) (As := [.int r10]) (rest := []) hl.1 rfl rfl (Nat.le_of_ble_eq_true rfl) ⟨rfl, rfl, Nat.le_of_ble_eq_true rfl, Nat.le_of_ble_eq_true rfl⟩ ⟨Nat.zero_le _, Nat.zero_le _⟩ dX10_years_26) hw (fun H locs hw => ?_)
    refine lv_goto (tgt := 34) hx hb dX10_years_29 (by decide) ?_
    exact e_iret C hw hf dX10_years_34
/-! StorkVoteModel.thinks()V -/
abbrev rm_X10_thinks : Room := { frames := 0, cells := 0, slots := 0, locals := 0 }
def f_X10_thinks_2 : Nat → Mem → Nat → Int32 → Option (Unit × Mem)
  | 0, _, _, _ => none
  | n + 1, M, x0, x1 => (if 70 ≤ x1 then some ((), M) else gt (mT M x0) 11 (lp (mP M x0 8) (fun a2 => lp (mP M x0 0) (fun a4 => gt (mT M a4) 20 (gd (ib x1 (mL M a4)) (gt (mT M a2) 20 (gd (ib x1 (mL M a2)) (st (setI M a2 x1.toNatClampNeg (mI M a4 x1.toNatClampNeg)) (fun M10 => f_X10_thinks_2 n M10 x0 (x1 + 1))))))))))
set_option maxHeartbeats 4000000 in
set_option maxRecDepth 100000 in
theorem t_X10_thinks_2 {l : Launch} {p : Program} {e : Env} {s : State} {m : MethodId} {args : Array Value} {below : List Frame} {meth : Method} {c : Code} {G : Gd} {A : Nat → Prop} {ad : Nat → Nat} (C : Cx G A p s m args meth c RX10 cX10_thinks 2 none) {M' : Mem} : ∀ (n : Nat) (M : Mem) (x0 : Nat) (x1 : Int32) (H : Heap) (locs : List Loc) (ls : Array Slot), f_X10_thinks_2  n M x0 x1 = some ((), M') → Wd G A ad s.heap M H locs → lv_has ls 2 [(0, .ref (ad x0)), (1, .int x1)] → W p l e rm_X10_thinks s m args below meth c H locs 0 0 (MQ below (QV G A ad M') args s 0 0 A) (F0 m 2 ls []) := by
  obtain ⟨hx, hb, -⟩ := id C
  intro n
  induction n with
  | zero =>
    intro M x0 x1 H locs ls hf
    rw [f_X10_thinks_2] at hf
    exact absurd hf (fun h => nomatch h)
  | succ n ih =>
    intro M x0 x1 H locs ls hf hw hl
    rw [f_X10_thinks_2] at hf
    refine lv_iload_n hx hb dX10_thinks_2 rfl (lv_at hl 1 rfl) ?_
    refine lv_bipush (v := 70) hx hb dX10_thinks_3 (by decide) ?_
    refine lv_icmp_ge (tgt := 26) hx hb dX10_thinks_5 (by decide) (fun hc => ?_) (fun hc => ?_)
    · have hf := if_p hc hf
      exact e_vret C hw hf dX10_thinks_26
    · have hf := if_n hc hf
      refine lv_aload_n hx hb dX10_thinks_8 rfl (lv_at hl 0 rfl) ?_
      obtain ⟨hT1, hf⟩ := gt_inv hf
      obtain ⟨a2, hP3, hf⟩ := lp_inv hf
      refine r_getP C hw cf10 8 (by decide) rfl hT1 hP3 fl_X10_33 dX10_thinks_9 ?_
      refine lv_iload_n hx hb dX10_thinks_12 rfl (lv_at hl 1 rfl) ?_
      refine lv_aload_n hx hb dX10_thinks_13 rfl (lv_at hl 0 rfl) ?_
      obtain ⟨a4, hP5, hf⟩ := lp_inv hf
      refine r_getP C hw cf10 0 (by decide) rfl hT1 hP5 fl_X10_9 dX10_thinks_14 ?_
      refine lv_iload_n hx hb dX10_thinks_17 rfl (lv_at hl 1 rfl) ?_
      obtain ⟨hT6, hf⟩ := gt_inv hf
      obtain ⟨hg7, hf⟩ := gd_inv hf
      refine r_iald C hw hT6 hg7 dX10_thinks_18 ?_
      obtain ⟨hT8, hf⟩ := gt_inv hf
      obtain ⟨hg9, hf⟩ := gd_inv hf
      obtain ⟨M10, e11, hf⟩ := st_inv hf
      have g12 := sg_I e11
      refine r_iast C hw hT8 hg9 e11 dX10_thinks_19 (fun H locs hw => ?_)
      refine lv_iinc (v := (x1 + 1)) (lv' := [(1, .int (x1 + 1)), (0, .ref (ad x0))]) hx hb dX10_thinks_20 hl (k := 1) rfl rfl (by decide) rfl (fun ls hl => ?_)
      refine lv_goto (tgt := 2) hx hb dX10_thinks_23 (by decide) ?_
      exact ih M10 x0 (x1 + 1) _ _ _ hf hw (lv_sub hl [1, 0] rfl)
def f_X10_thinks (M : Mem) (x0 : Nat) : Option (Unit × Mem) := f_X10_thinks_2 FU M x0 0
set_option maxHeartbeats 4000000 in
set_option maxRecDepth 100000 in
theorem c_X10_thinks (l : Launch) (G : Gd) (A : Nat → Prop) (ad : Nat → Nat) {M : Mem} {x0 : Nat}  {M' : Mem} (hf : f_X10_thinks M x0 = some ((), M')) : Ct l yX10_thinks cX10_thinks 2 none rm_X10_thinks [.ref (ad x0)] G A ad M (QV G A ad M') 0 0 := by
  refine ct_start (by decide) (Nat.le_of_ble_eq_true rfl) ?_
  intro p e s m args below meth c ls C hin hw hl
  have C : Cx G A p s m args meth c RX10 cX10_thinks 2 none := C
  have hl : lv_has ls 2 [(0, .ref (ad x0))] := hl
  obtain ⟨hx, hb, -⟩ := id C
  rw [f_X10_thinks] at hf
  refine lv_iconst (v := 0) hx hb dX10_thinks_0 (by decide) ?_
  refine lv_istore_n (lv' := [(1, .int 0), (0, .ref (ad x0))]) hx hb dX10_thinks_1 rfl hl (by decide) rfl (fun ls hl => ?_)
  exact t_X10_thinks_2 C FU M x0 0 _ _ _ hf hw (lv_sub hl [1, 0] rfl)
/-! StorkVoteModel.putsBack()V -/
abbrev rm_X10_putsBack : Room := { frames := 0, cells := 0, slots := 0, locals := 0 }
def f_X10_putsBack_2 : Nat → Mem → Nat → Int32 → Option (Unit × Mem)
  | 0, _, _, _ => none
  | n + 1, M, x0, x1 => (if 70 ≤ x1 then some ((), M) else gt (mT M x0) 11 (lp (mP M x0 0) (fun a2 => lp (mP M x0 8) (fun a4 => gt (mT M a4) 20 (gd (ib x1 (mL M a4)) (gt (mT M a2) 20 (gd (ib x1 (mL M a2)) (st (setI M a2 x1.toNatClampNeg (mI M a4 x1.toNatClampNeg)) (fun M10 => f_X10_putsBack_2 n M10 x0 (x1 + 1))))))))))
set_option maxHeartbeats 4000000 in
set_option maxRecDepth 100000 in
theorem t_X10_putsBack_2 {l : Launch} {p : Program} {e : Env} {s : State} {m : MethodId} {args : Array Value} {below : List Frame} {meth : Method} {c : Code} {G : Gd} {A : Nat → Prop} {ad : Nat → Nat} (C : Cx G A p s m args meth c RX10 cX10_putsBack 2 none) {M' : Mem} : ∀ (n : Nat) (M : Mem) (x0 : Nat) (x1 : Int32) (H : Heap) (locs : List Loc) (ls : Array Slot), f_X10_putsBack_2  n M x0 x1 = some ((), M') → Wd G A ad s.heap M H locs → lv_has ls 2 [(0, .ref (ad x0)), (1, .int x1)] → W p l e rm_X10_putsBack s m args below meth c H locs 0 0 (MQ below (QV G A ad M') args s 0 0 A) (F0 m 2 ls []) := by
  obtain ⟨hx, hb, -⟩ := id C
  intro n
  induction n with
  | zero =>
    intro M x0 x1 H locs ls hf
    rw [f_X10_putsBack_2] at hf
    exact absurd hf (fun h => nomatch h)
  | succ n ih =>
    intro M x0 x1 H locs ls hf hw hl
    rw [f_X10_putsBack_2] at hf
    refine lv_iload_n hx hb dX10_putsBack_2 rfl (lv_at hl 1 rfl) ?_
    refine lv_bipush (v := 70) hx hb dX10_putsBack_3 (by decide) ?_
    refine lv_icmp_ge (tgt := 26) hx hb dX10_putsBack_5 (by decide) (fun hc => ?_) (fun hc => ?_)
    · have hf := if_p hc hf
      exact e_vret C hw hf dX10_putsBack_26
    · have hf := if_n hc hf
      refine lv_aload_n hx hb dX10_putsBack_8 rfl (lv_at hl 0 rfl) ?_
      obtain ⟨hT1, hf⟩ := gt_inv hf
      obtain ⟨a2, hP3, hf⟩ := lp_inv hf
      refine r_getP C hw cf10 0 (by decide) rfl hT1 hP3 fl_X10_9 dX10_putsBack_9 ?_
      refine lv_iload_n hx hb dX10_putsBack_12 rfl (lv_at hl 1 rfl) ?_
      refine lv_aload_n hx hb dX10_putsBack_13 rfl (lv_at hl 0 rfl) ?_
      obtain ⟨a4, hP5, hf⟩ := lp_inv hf
      refine r_getP C hw cf10 8 (by decide) rfl hT1 hP5 fl_X10_33 dX10_putsBack_14 ?_
      refine lv_iload_n hx hb dX10_putsBack_17 rfl (lv_at hl 1 rfl) ?_
      obtain ⟨hT6, hf⟩ := gt_inv hf
      obtain ⟨hg7, hf⟩ := gd_inv hf
      refine r_iald C hw hT6 hg7 dX10_putsBack_18 ?_
      obtain ⟨hT8, hf⟩ := gt_inv hf
      obtain ⟨hg9, hf⟩ := gd_inv hf
      obtain ⟨M10, e11, hf⟩ := st_inv hf
      have g12 := sg_I e11
      refine r_iast C hw hT8 hg9 e11 dX10_putsBack_19 (fun H locs hw => ?_)
      refine lv_iinc (v := (x1 + 1)) (lv' := [(1, .int (x1 + 1)), (0, .ref (ad x0))]) hx hb dX10_putsBack_20 hl (k := 1) rfl rfl (by decide) rfl (fun ls hl => ?_)
      refine lv_goto (tgt := 2) hx hb dX10_putsBack_23 (by decide) ?_
      exact ih M10 x0 (x1 + 1) _ _ _ hf hw (lv_sub hl [1, 0] rfl)
def f_X10_putsBack (M : Mem) (x0 : Nat) : Option (Unit × Mem) := f_X10_putsBack_2 FU M x0 0
set_option maxHeartbeats 4000000 in
set_option maxRecDepth 100000 in
theorem c_X10_putsBack (l : Launch) (G : Gd) (A : Nat → Prop) (ad : Nat → Nat) {M : Mem} {x0 : Nat}  {M' : Mem} (hf : f_X10_putsBack M x0 = some ((), M')) : Ct l yX10_putsBack cX10_putsBack 2 none rm_X10_putsBack [.ref (ad x0)] G A ad M (QV G A ad M') 0 0 := by
  refine ct_start (by decide) (Nat.le_of_ble_eq_true rfl) ?_
  intro p e s m args below meth c ls C hin hw hl
  have C : Cx G A p s m args meth c RX10 cX10_putsBack 2 none := C
  have hl : lv_has ls 2 [(0, .ref (ad x0))] := hl
  obtain ⟨hx, hb, -⟩ := id C
  rw [f_X10_putsBack] at hf
  refine lv_iconst (v := 0) hx hb dX10_putsBack_0 (by decide) ?_
  refine lv_istore_n (lv' := [(1, .int 0), (0, .ref (ad x0))]) hx hb dX10_putsBack_1 rfl hl (by decide) rfl (fun ls hl => ?_)
  exact t_X10_putsBack_2 C FU M x0 0 _ _ _ hf hw (lv_sub hl [1, 0] rfl)
/-! StorkVoteModel.frogs(II)I -/
abbrev rm_X10_frogs : Room := { frames := 6, cells := 0, slots := 0, locals := 142 }
def f_X10_frogs_84 (M : Mem) (x0 : Nat) (x3 : Int32) : Option (Int32 × Mem) := gt (mT M x0) 11 (cl (f_X10_putsBack M x0) (fun _ M1 => some (x3, M1)))
set_option maxHeartbeats 4000000 in
set_option maxRecDepth 100000 in
theorem t_X10_frogs_84 {l : Launch} {p : Program} {e : Env} {s : State} {m : MethodId} {args : Array Value} {below : List Frame} {meth : Method} {c : Code} {G : Gd} {A : Nat → Prop} {ad : Nat → Nat} (C : Cx G A p s m args meth c RX10 cX10_frogs 5 (some .int)) {r : Int32} {M' : Mem} : ∀ (M : Mem) (x0 : Nat) (x3 : Int32) (H : Heap) (locs : List Loc) (ls : Array Slot), f_X10_frogs_84  M x0 x3 = some (r, M') → Wd G A ad s.heap M H locs → lv_has ls 5 [(0, .ref (ad x0)), (3, .int x3)] → W p l e rm_X10_frogs s m args below meth c H locs 0 0 (MQ below (QI G A ad r M') args s 0 0 A) (F0 m 84 ls []) := by
  obtain ⟨hx, hb, -⟩ := id C
  intro M x0 x3 H locs ls hf hw hl
  rw [f_X10_frogs_84] at hf
  refine lv_aload_n hx hb dX10_frogs_84 rfl (lv_at hl 0 rfl) ?_
  obtain ⟨hT4, hf⟩ := gt_inv hf
  obtain ⟨⟨⟩, M1, hc3, hf⟩ := cl_inv hf
  refine fin_V (run_V C hw mf_X10_putsBack mv_X10_putsBack ml_X10_182 cf10 hT4 (c_X10_putsBack l G A ad hc3) (As := []) (rest := []) hl.1 rfl rfl (Nat.le_of_ble_eq_true rfl) ⟨rfl, rfl, Nat.le_of_ble_eq_true rfl, Nat.le_of_ble_eq_true rfl⟩ ⟨Nat.zero_le _, Nat.zero_le _⟩ dX10_frogs_85) hw (fun H locs hw => ?_)
  refine lv_iload_n hx hb dX10_frogs_88 rfl (lv_at hl 1 rfl) ?_
  exact e_iret C hw hf dX10_frogs_89
def f_X10_frogs_60 (K28 : Mem → Nat → Int32 → Int32 → Int32 → Int32 → Option (Int32 × Mem)) (M : Mem) (x0 : Nat) (x1 : Int32) (x2 : Int32) (x4 : Int32) (s0 : Int32) : Option (Int32 × Mem) := gt (mT M x0) 11 (lp (mP M x0 0) (fun a2 => gt (mT M a2) 20 (gd (ib ((38 + (4 * x1)) + 3) (mL M a2)) (gd (ib ((38 + (4 * x1)) + 3) (mL M a2)) (st (setI M a2 ((38 + (4 * x1)) + 3).toNatClampNeg ((mI M a2 ((38 + (4 * x1)) + 3).toNatClampNeg) + 1)) (fun M7 => K28 M7 x0 x1 x2 s0 (x4 + 1)))))))
set_option maxHeartbeats 4000000 in
set_option maxRecDepth 100000 in
theorem t_X10_frogs_60 {l : Launch} {p : Program} {e : Env} {s : State} {m : MethodId} {args : Array Value} {below : List Frame} {meth : Method} {c : Code} {G : Gd} {A : Nat → Prop} {ad : Nat → Nat} (C : Cx G A p s m args meth c RX10 cX10_frogs 5 (some .int)) {r : Int32} {M' : Mem} {K28 : Mem → Nat → Int32 → Int32 → Int32 → Int32 → Option (Int32 × Mem)} (hK28 : ∀ (M : Mem) (x0 : Nat) (x1 : Int32) (x2 : Int32) (x3 : Int32) (x4 : Int32) (H : Heap) (locs : List Loc) (ls : Array Slot), K28 M x0 x1 x2 x3 x4 = some (r, M') → Wd G A ad s.heap M H locs → lv_has ls 5 [(0, .ref (ad x0)), (1, .int x1), (2, .int x2), (3, .int x3), (4, .int x4)] → W p l e rm_X10_frogs s m args below meth c H locs 0 0 (MQ below (QI G A ad r M') args s 0 0 A) (F0 m 28 ls [])) : ∀ (M : Mem) (x0 : Nat) (x1 : Int32) (x2 : Int32) (x4 : Int32) (s0 : Int32) (H : Heap) (locs : List Loc) (ls : Array Slot), f_X10_frogs_60 K28 M x0 x1 x2 x4 s0 = some (r, M') → Wd G A ad s.heap M H locs → lv_has ls 5 [(0, .ref (ad x0)), (1, .int x1), (2, .int x2), (4, .int x4)] → W p l e rm_X10_frogs s m args below meth c H locs 0 0 (MQ below (QI G A ad r M') args s 0 0 A) (F0 m 60 ls [.int s0]) := by
  obtain ⟨hx, hb, -⟩ := id C
  intro M x0 x1 x2 x4 s0 H locs ls hf hw hl
  rw [f_X10_frogs_60] at hf
  refine lv_istore_n (lv' := [(3, .int s0), (0, .ref (ad x0)), (1, .int x1), (2, .int x2), (4, .int x4)]) hx hb dX10_frogs_60 rfl hl (by decide) rfl (fun ls hl => ?_)
  refine lv_aload_n hx hb dX10_frogs_61 rfl (lv_at hl 1 rfl) ?_
  obtain ⟨hT1, hf⟩ := gt_inv hf
  obtain ⟨a2, hP3, hf⟩ := lp_inv hf
  refine r_getP C hw cf10 0 (by decide) rfl hT1 hP3 fl_X10_9 dX10_frogs_62 ?_
  refine lv_bipush (v := 38) hx hb dX10_frogs_65 (by decide) ?_
  refine lv_iconst (v := 4) hx hb dX10_frogs_67 (by decide) ?_
  refine lv_iload_n hx hb dX10_frogs_68 rfl (lv_at hl 2 rfl) ?_
  refine lv_imul hx hb dX10_frogs_69 ?_
  refine lv_iadd hx hb dX10_frogs_70 ?_
  refine lv_iconst (v := 3) hx hb dX10_frogs_71 (by decide) ?_
  refine lv_iadd hx hb dX10_frogs_72 ?_
  refine lv_dup2_11 hx hb dX10_frogs_73 rfl rfl ?_
  obtain ⟨hT4, hf⟩ := gt_inv hf
  obtain ⟨hg5, hf⟩ := gd_inv hf
  refine r_iald C hw hT4 hg5 dX10_frogs_74 ?_
  refine lv_iconst (v := 1) hx hb dX10_frogs_75 (by decide) ?_
  refine lv_iadd hx hb dX10_frogs_76 ?_
  obtain ⟨hg6, hf⟩ := gd_inv hf
  obtain ⟨M7, e8, hf⟩ := st_inv hf
  have g9 := sg_I e8
  refine r_iast C hw hT4 hg6 e8 dX10_frogs_77 (fun H locs hw => ?_)
  refine lv_iinc (v := (x4 + 1)) (lv' := [(4, .int (x4 + 1)), (3, .int s0), (0, .ref (ad x0)), (1, .int x1), (2, .int x2)]) hx hb dX10_frogs_78 hl (k := 4) rfl rfl (by decide) rfl (fun ls hl => ?_)
  refine lv_goto (tgt := 28) hx hb dX10_frogs_81 (by decide) ?_
  exact hK28 M7 x0 x1 x2 s0 (x4 + 1) _ _ _ hf hw (lv_sub hl [2, 3, 4, 1, 0] rfl)
def f_X10_frogs_28 : Nat → Mem → Nat → Int32 → Int32 → Int32 → Int32 → Option (Int32 × Mem)
  | 0, _, _, _, _, _, _ => none
  | n + 1, M, x0, x1, x2, x3, x4 => gt (mT M x0) 11 (cl (f_X10_of M x0 x1 3) (fun r2 M1 => (if 99 < r2 then f_X10_frogs_84 M1 x0 x3 else (if x3 = (-1000000005) then gt (mT M1 x0) 11 (cl (f_X10_electedNow M1 x0) (fun r6 M5 => (if r6 = x2 then f_X10_frogs_60 (f_X10_frogs_28 n) M5 x0 x1 x2 x4 x4 else f_X10_frogs_60 (f_X10_frogs_28 n) M5 x0 x1 x2 x4 (-1000000005)))) else f_X10_frogs_84 M1 x0 x3))))
set_option maxHeartbeats 4000000 in
set_option maxRecDepth 100000 in
theorem t_X10_frogs_28 {l : Launch} {p : Program} {e : Env} {s : State} {m : MethodId} {args : Array Value} {below : List Frame} {meth : Method} {c : Code} {G : Gd} {A : Nat → Prop} {ad : Nat → Nat} (C : Cx G A p s m args meth c RX10 cX10_frogs 5 (some .int)) {r : Int32} {M' : Mem} : ∀ (n : Nat) (M : Mem) (x0 : Nat) (x1 : Int32) (x2 : Int32) (x3 : Int32) (x4 : Int32) (H : Heap) (locs : List Loc) (ls : Array Slot), f_X10_frogs_28  n M x0 x1 x2 x3 x4 = some (r, M') → Wd G A ad s.heap M H locs → lv_has ls 5 [(0, .ref (ad x0)), (1, .int x1), (2, .int x2), (3, .int x3), (4, .int x4)] → W p l e rm_X10_frogs s m args below meth c H locs 0 0 (MQ below (QI G A ad r M') args s 0 0 A) (F0 m 28 ls []) := by
  obtain ⟨hx, hb, -⟩ := id C
  intro n
  induction n with
  | zero =>
    intro M x0 x1 x2 x3 x4 H locs ls hf
    rw [f_X10_frogs_28] at hf
    exact absurd hf (fun h => nomatch h)
  | succ n ih =>
    intro M x0 x1 x2 x3 x4 H locs ls hf hw hl
    rw [f_X10_frogs_28] at hf
    refine lv_aload_n hx hb dX10_frogs_28 rfl (lv_at hl 0 rfl) ?_
    refine lv_iload_n hx hb dX10_frogs_29 rfl (lv_at hl 1 rfl) ?_
    refine lv_iconst (v := 3) hx hb dX10_frogs_30 (by decide) ?_
    obtain ⟨hT4, hf⟩ := gt_inv hf
    obtain ⟨r2, M1, hc3, hf⟩ := cl_inv hf
    refine fin_I (run_V C hw mf_X10_of mv_X10_of ml_X10_103 cf10 hT4 (c_X10_of l G A ad hc3) (As := [.int x1, .int 3]) (rest := []) hl.1 rfl rfl (Nat.le_of_ble_eq_true rfl) ⟨rfl, rfl, Nat.le_of_ble_eq_true rfl, Nat.le_of_ble_eq_true rfl⟩ ⟨Nat.zero_le _, Nat.zero_le _⟩ dX10_frogs_31) hw (fun H locs hw => ?_)
    refine lv_bipush (v := 99) hx hb dX10_frogs_34 (by decide) ?_
    refine lv_icmp_gt (tgt := 84) hx hb dX10_frogs_36 (by decide) (fun hc => ?_) (fun hc => ?_)
    · have hf := if_p hc hf
      exact t_X10_frogs_84 C M1 x0 x3 _ _ _ hf hw (lv_sub hl [0, 3] rfl)
    · have hf := if_n hc hf
      refine lv_iload_n hx hb dX10_frogs_39 rfl (lv_at hl 3 rfl) ?_
      refine lv_ldc hx hb C.2.2.2.1 (C.2.2.2.2.1 _ kc_X10_88) dX10_frogs_40 ?_
      refine lv_icmp_ne (tgt := 84) hx hb dX10_frogs_42 (by decide) (fun hc => ?_) (fun hc => ?_)
      · have hf := if_n hc hf
        exact t_X10_frogs_84 C M1 x0 x3 _ _ _ hf hw (lv_sub hl [0, 3] rfl)
      · have hf := if_p hc hf
        refine lv_aload_n hx hb dX10_frogs_45 rfl (lv_at hl 0 rfl) ?_
        obtain ⟨hT8, hf⟩ := gt_inv hf
        obtain ⟨r6, M5, hc7, hf⟩ := cl_inv hf
        refine fin_I (run_V C hw mf_X10_electedNow mv_X10_electedNow ml_X10_170 cf10 hT8 (c_X10_electedNow l G A ad hc7) (As := []) (rest := []) hl.1 rfl rfl (Nat.le_of_ble_eq_true rfl) ⟨rfl, rfl, Nat.le_of_ble_eq_true rfl, Nat.le_of_ble_eq_true rfl⟩ ⟨Nat.zero_le _, Nat.zero_le _⟩ dX10_frogs_46) hw (fun H locs hw => ?_)
        refine lv_iload_n hx hb dX10_frogs_49 rfl (lv_at hl 2 rfl) ?_
        refine lv_icmp_ne (tgt := 58) hx hb dX10_frogs_50 (by decide) (fun hc => ?_) (fun hc => ?_)
        · have hf := if_n hc hf
          refine lv_ldc hx hb C.2.2.2.1 (C.2.2.2.2.1 _ kc_X10_88) dX10_frogs_58 ?_
          exact t_X10_frogs_60 C ih M5 x0 x1 x2 x4 (-1000000005) _ _ _ hf hw (lv_sub hl [0, 1, 2, 4] rfl)
        · have hf := if_p hc hf
          refine lv_iload hx hb dX10_frogs_53 (lv_at hl 4 rfl) ?_
          refine lv_goto (tgt := 60) hx hb dX10_frogs_55 (by decide) ?_
          exact t_X10_frogs_60 C ih M5 x0 x1 x2 x4 x4 _ _ _ hf hw (lv_sub hl [0, 1, 2, 4] rfl)
def f_X10_frogs (M : Mem) (x0 : Nat) (x1 : Int32) (x2 : Int32) : Option (Int32 × Mem) := gt (mT M x0) 11 (cl (f_X10_isChimney M x0 x1) (fun r2 M1 => (if r2 = 0 then some ((-1000000001), M1) else cl (f_X10_isWard M1 x2) (fun r6 M5 => (if r6 = 0 then some ((-1000000001), M5) else gt (mT M5 x0) 11 (cl (f_X10_thinks M5 x0) (fun _ M8 => f_X10_frogs_28 FU M8 x0 x1 x2 (-1000000005) 0)))))))
set_option maxHeartbeats 4000000 in
set_option maxRecDepth 100000 in
theorem c_X10_frogs (l : Launch) (G : Gd) (A : Nat → Prop) (ad : Nat → Nat) {M : Mem} {x0 : Nat} {x1 : Int32} {x2 : Int32}  {r : Int32} {M' : Mem} (hf : f_X10_frogs M x0 x1 x2 = some (r, M')) : Ct l yX10_frogs cX10_frogs 5 (some .int) rm_X10_frogs [.ref (ad x0), .int x1, .int x2] G A ad M (QI G A ad r M') 0 0 := by
  refine ct_start (by decide) (Nat.le_of_ble_eq_true rfl) ?_
  intro p e s m args below meth c ls C hin hw hl
  have C : Cx G A p s m args meth c RX10 cX10_frogs 5 (some .int) := C
  have hl : lv_has ls 5 [(0, .ref (ad x0)), (1, .int x1), (2, .int x2)] := hl
  obtain ⟨hx, hb, -⟩ := id C
  rw [f_X10_frogs] at hf
  refine lv_aload_n hx hb dX10_frogs_0 rfl (lv_at hl 0 rfl) ?_
  refine lv_iload_n hx hb dX10_frogs_1 rfl (lv_at hl 1 rfl) ?_
  obtain ⟨hT4, hf⟩ := gt_inv hf
  obtain ⟨r2, M1, hc3, hf⟩ := cl_inv hf
  refine fin_I (run_V C hw mf_X10_isChimney mv_X10_isChimney ml_X10_107 cf10 hT4 (c_X10_isChimney l G A ad hc3) (As := [.int x1]) (rest := []) hl.1 rfl rfl (Nat.le_of_ble_eq_true rfl) ⟨rfl, rfl, Nat.le_of_ble_eq_true rfl, Nat.le_of_ble_eq_true rfl⟩ ⟨Nat.zero_le _, Nat.zero_le _⟩ dX10_frogs_2) hw (fun H locs hw => ?_)
  refine lv_if_eq (tgt := 15) hx hb dX10_frogs_5 (by decide) (fun hc => ?_) (fun hc => ?_)
  · have hf := if_p hc hf
    refine lv_ldc hx hb C.2.2.2.1 (C.2.2.2.2.1 _ kc_X10_97) dX10_frogs_15 ?_
    exact e_iret C hw hf dX10_frogs_17
  · have hf := if_n hc hf
    refine lv_iload_n hx hb dX10_frogs_8 rfl (lv_at hl 2 rfl) ?_
    obtain ⟨r6, M5, hc7, hf⟩ := cl_inv hf
    refine fin_I (run_S C hw mf_X10_isWard ms_X10_isWard ml_X10_93 (c_X10_isWard l G A ad hc7) (As := [.int x2]) (rest := []) hl.1 rfl rfl (Nat.le_of_ble_eq_true rfl) ⟨rfl, rfl, Nat.le_of_ble_eq_true rfl, Nat.le_of_ble_eq_true rfl⟩ ⟨Nat.zero_le _, Nat.zero_le _⟩ dX10_frogs_9) hw (fun H locs hw => ?_)
    refine lv_if_ne (tgt := 18) hx hb dX10_frogs_12 (by decide) (fun hc => ?_) (fun hc => ?_)
    · have hf := if_n hc hf
      refine lv_aload_n hx hb dX10_frogs_18 rfl (lv_at hl 0 rfl) ?_
      obtain ⟨hT11, hf⟩ := gt_inv hf
      obtain ⟨⟨⟩, M8, hc10, hf⟩ := cl_inv hf
      refine fin_V (run_V C hw mf_X10_thinks mv_X10_thinks ml_X10_179 cf10 hT11 (c_X10_thinks l G A ad hc10) (As := []) (rest := []) hl.1 rfl rfl (Nat.le_of_ble_eq_true rfl) ⟨rfl, rfl, Nat.le_of_ble_eq_true rfl, Nat.le_of_ble_eq_true rfl⟩ ⟨Nat.zero_le _, Nat.zero_le _⟩ dX10_frogs_19) hw (fun H locs hw => ?_)
      refine lv_ldc hx hb C.2.2.2.1 (C.2.2.2.2.1 _ kc_X10_88) dX10_frogs_22 ?_
      refine lv_istore_n (lv' := [(3, .int (-1000000005)), (0, .ref (ad x0)), (1, .int x1), (2, .int x2)]) hx hb dX10_frogs_24 rfl hl (by decide) rfl (fun ls hl => ?_)
      refine lv_iconst (v := 0) hx hb dX10_frogs_25 (by decide) ?_
      refine lv_istore (lv' := [(4, .int 0), (3, .int (-1000000005)), (0, .ref (ad x0)), (1, .int x1), (2, .int x2)]) hx hb dX10_frogs_26 hl (by decide) rfl (fun ls hl => ?_)
      exact t_X10_frogs_28 C FU M8 x0 x1 x2 (-1000000005) 0 _ _ _ hf hw (lv_sub hl [2, 3, 4, 1, 0] rfl)
    · have hf := if_p hc hf
      refine lv_ldc hx hb C.2.2.2.1 (C.2.2.2.2.1 _ kc_X10_97) dX10_frogs_15 ?_
      exact e_iret C hw hf dX10_frogs_17
/-! StorkVoteModel.driven(I)I -/
abbrev rm_X10_driven : Room := { frames := 6, cells := 0, slots := 0, locals := 142 }
def f_X10_driven_63 (K19 : Mem → Nat → Int32 → Int32 → Int32 → Option (Int32 × Mem)) (M : Mem) (x0 : Nat) (x1 : Int32) (x3 : Int32) (s0 : Int32) : Option (Int32 × Mem) := gt (mT M x0) 11 (cl (f_X10_putsBack M x0) (fun _ M1 => K19 M1 x0 x1 s0 (x3 + 1)))
set_option maxHeartbeats 4000000 in
set_option maxRecDepth 100000 in
theorem t_X10_driven_63 {l : Launch} {p : Program} {e : Env} {s : State} {m : MethodId} {args : Array Value} {below : List Frame} {meth : Method} {c : Code} {G : Gd} {A : Nat → Prop} {ad : Nat → Nat} (C : Cx G A p s m args meth c RX10 cX10_driven 4 (some .int)) {r : Int32} {M' : Mem} {K19 : Mem → Nat → Int32 → Int32 → Int32 → Option (Int32 × Mem)} (hK19 : ∀ (M : Mem) (x0 : Nat) (x1 : Int32) (x2 : Int32) (x3 : Int32) (H : Heap) (locs : List Loc) (ls : Array Slot), K19 M x0 x1 x2 x3 = some (r, M') → Wd G A ad s.heap M H locs → lv_has ls 4 [(0, .ref (ad x0)), (1, .int x1), (2, .int x2), (3, .int x3)] → W p l e rm_X10_driven s m args below meth c H locs 0 0 (MQ below (QI G A ad r M') args s 0 0 A) (F0 m 19 ls [])) : ∀ (M : Mem) (x0 : Nat) (x1 : Int32) (x3 : Int32) (s0 : Int32) (H : Heap) (locs : List Loc) (ls : Array Slot), f_X10_driven_63 K19 M x0 x1 x3 s0 = some (r, M') → Wd G A ad s.heap M H locs → lv_has ls 4 [(0, .ref (ad x0)), (1, .int x1), (3, .int x3)] → W p l e rm_X10_driven s m args below meth c H locs 0 0 (MQ below (QI G A ad r M') args s 0 0 A) (F0 m 63 ls [.int s0]) := by
  obtain ⟨hx, hb, -⟩ := id C
  intro M x0 x1 x3 s0 H locs ls hf hw hl
  rw [f_X10_driven_63] at hf
  refine lv_istore_n (lv' := [(2, .int s0), (0, .ref (ad x0)), (1, .int x1), (3, .int x3)]) hx hb dX10_driven_63 rfl hl (by decide) rfl (fun ls hl => ?_)
  refine lv_aload_n hx hb dX10_driven_64 rfl (lv_at hl 1 rfl) ?_
  obtain ⟨hT4, hf⟩ := gt_inv hf
  obtain ⟨⟨⟩, M1, hc3, hf⟩ := cl_inv hf
  refine fin_V (run_V C hw mf_X10_putsBack mv_X10_putsBack ml_X10_182 cf10 hT4 (c_X10_putsBack l G A ad hc3) (As := []) (rest := []) hl.1 rfl rfl (Nat.le_of_ble_eq_true rfl) ⟨rfl, rfl, Nat.le_of_ble_eq_true rfl, Nat.le_of_ble_eq_true rfl⟩ ⟨Nat.zero_le _, Nat.zero_le _⟩ dX10_driven_65) hw (fun H locs hw => ?_)
  refine lv_iinc (v := (x3 + 1)) (lv' := [(3, .int (x3 + 1)), (2, .int s0), (0, .ref (ad x0)), (1, .int x1)]) hx hb dX10_driven_68 hl (k := 3) rfl rfl (by decide) rfl (fun ls hl => ?_)
  refine lv_goto (tgt := 19) hx hb dX10_driven_71 (by decide) ?_
  exact hK19 M1 x0 x1 s0 (x3 + 1) _ _ _ hf hw (lv_sub hl [2, 3, 1, 0] rfl)
def f_X10_driven_19 : Nat → Mem → Nat → Int32 → Int32 → Int32 → Option (Int32 × Mem)
  | 0, _, _, _, _, _ => none
  | n + 1, M, x0, x1, x2, x3 => gt (mT M x0) 11 (lp (mP M x0 0) (fun a2 => gt (mT M a2) 20 (gd (ib 2 (mL M a2)) ((if (mI M a2 (2 : Int32).toNatClampNeg) ≤ x3 then some (x2, M) else (if x2 = (-1000000005) then gd (ib ((8 + (3 * x3)) + 2) (mL M a2)) (st (setI M a2 ((8 + (3 * x3)) + 2).toNatClampNeg 1) (fun M7 => cl (f_X10_electedNow M7 x0) (fun r11 M10 => (if r11 = x1 then f_X10_driven_63 (f_X10_driven_19 n) M10 x0 x1 x3 x3 else f_X10_driven_63 (f_X10_driven_19 n) M10 x0 x1 x3 (-1000000005))))) else some (x2, M)))))))
set_option maxHeartbeats 4000000 in
set_option maxRecDepth 100000 in
theorem t_X10_driven_19 {l : Launch} {p : Program} {e : Env} {s : State} {m : MethodId} {args : Array Value} {below : List Frame} {meth : Method} {c : Code} {G : Gd} {A : Nat → Prop} {ad : Nat → Nat} (C : Cx G A p s m args meth c RX10 cX10_driven 4 (some .int)) {r : Int32} {M' : Mem} : ∀ (n : Nat) (M : Mem) (x0 : Nat) (x1 : Int32) (x2 : Int32) (x3 : Int32) (H : Heap) (locs : List Loc) (ls : Array Slot), f_X10_driven_19  n M x0 x1 x2 x3 = some (r, M') → Wd G A ad s.heap M H locs → lv_has ls 4 [(0, .ref (ad x0)), (1, .int x1), (2, .int x2), (3, .int x3)] → W p l e rm_X10_driven s m args below meth c H locs 0 0 (MQ below (QI G A ad r M') args s 0 0 A) (F0 m 19 ls []) := by
  obtain ⟨hx, hb, -⟩ := id C
  intro n
  induction n with
  | zero =>
    intro M x0 x1 x2 x3 H locs ls hf
    rw [f_X10_driven_19] at hf
    exact absurd hf (fun h => nomatch h)
  | succ n ih =>
    intro M x0 x1 x2 x3 H locs ls hf hw hl
    rw [f_X10_driven_19] at hf
    refine lv_iload_n hx hb dX10_driven_19 rfl (lv_at hl 3 rfl) ?_
    refine lv_aload_n hx hb dX10_driven_20 rfl (lv_at hl 0 rfl) ?_
    obtain ⟨hT1, hf⟩ := gt_inv hf
    obtain ⟨a2, hP3, hf⟩ := lp_inv hf
    refine r_getP C hw cf10 0 (by decide) rfl hT1 hP3 fl_X10_9 dX10_driven_21 ?_
    refine lv_iconst (v := 2) hx hb dX10_driven_24 (by decide) ?_
    obtain ⟨hT4, hf⟩ := gt_inv hf
    obtain ⟨hg5, hf⟩ := gd_inv hf
    refine r_iald C hw hT4 hg5 dX10_driven_25 ?_
    refine lv_icmp_ge (tgt := 74) hx hb dX10_driven_26 (by decide) (fun hc => ?_) (fun hc => ?_)
    · have hf := if_p hc hf
      refine lv_iload_n hx hb dX10_driven_74 rfl (lv_at hl 2 rfl) ?_
      exact e_iret C hw hf dX10_driven_75
    · have hf := if_n hc hf
      refine lv_iload_n hx hb dX10_driven_29 rfl (lv_at hl 2 rfl) ?_
      refine lv_ldc hx hb C.2.2.2.1 (C.2.2.2.2.1 _ kc_X10_88) dX10_driven_30 ?_
      refine lv_icmp_ne (tgt := 74) hx hb dX10_driven_32 (by decide) (fun hc => ?_) (fun hc => ?_)
      · have hf := if_n hc hf
        refine lv_iload_n hx hb dX10_driven_74 rfl (lv_at hl 2 rfl) ?_
        exact e_iret C hw hf dX10_driven_75
      · have hf := if_p hc hf
        refine lv_aload_n hx hb dX10_driven_35 rfl (lv_at hl 0 rfl) ?_
        refine r_getP C hw cf10 0 (by decide) rfl hT1 hP3 fl_X10_9 dX10_driven_36 ?_
        refine lv_bipush (v := 8) hx hb dX10_driven_39 (by decide) ?_
        refine lv_iconst (v := 3) hx hb dX10_driven_41 (by decide) ?_
        refine lv_iload_n hx hb dX10_driven_42 rfl (lv_at hl 3 rfl) ?_
        refine lv_imul hx hb dX10_driven_43 ?_
        refine lv_iadd hx hb dX10_driven_44 ?_
        refine lv_iconst (v := 2) hx hb dX10_driven_45 (by decide) ?_
        refine lv_iadd hx hb dX10_driven_46 ?_
        refine lv_iconst (v := 1) hx hb dX10_driven_47 (by decide) ?_
        obtain ⟨hg6, hf⟩ := gd_inv hf
        obtain ⟨M7, e8, hf⟩ := st_inv hf
        have g9 := sg_I e8
        refine r_iast C hw hT4 hg6 e8 dX10_driven_48 (fun H locs hw => ?_)
        refine lv_aload_n hx hb dX10_driven_49 rfl (lv_at hl 0 rfl) ?_
        obtain ⟨r11, M10, hc12, hf⟩ := cl_inv hf
        refine fin_I (run_V C hw mf_X10_electedNow mv_X10_electedNow ml_X10_170 cf10 (T_of g9 hT1) (c_X10_electedNow l G A ad hc12) (As := []) (rest := []) hl.1 rfl rfl (Nat.le_of_ble_eq_true rfl) ⟨rfl, rfl, Nat.le_of_ble_eq_true rfl, Nat.le_of_ble_eq_true rfl⟩ ⟨Nat.zero_le _, Nat.zero_le _⟩ dX10_driven_50) hw (fun H locs hw => ?_)
        refine lv_iload_n hx hb dX10_driven_53 rfl (lv_at hl 1 rfl) ?_
        refine lv_icmp_ne (tgt := 61) hx hb dX10_driven_54 (by decide) (fun hc => ?_) (fun hc => ?_)
        · have hf := if_n hc hf
          refine lv_ldc hx hb C.2.2.2.1 (C.2.2.2.2.1 _ kc_X10_88) dX10_driven_61 ?_
          exact t_X10_driven_63 C ih M10 x0 x1 x3 (-1000000005) _ _ _ hf hw (lv_sub hl [0, 1, 3] rfl)
        · have hf := if_p hc hf
          refine lv_iload_n hx hb dX10_driven_57 rfl (lv_at hl 3 rfl) ?_
          refine lv_goto (tgt := 63) hx hb dX10_driven_58 (by decide) ?_
          exact t_X10_driven_63 C ih M10 x0 x1 x3 x3 _ _ _ hf hw (lv_sub hl [0, 1, 3] rfl)
def f_X10_driven (M : Mem) (x0 : Nat) (x1 : Int32) : Option (Int32 × Mem) := cl (f_X10_isWard M x1) (fun r2 M1 => (if r2 = 0 then some ((-1000000001), M1) else gt (mT M1 x0) 11 (cl (f_X10_thinks M1 x0) (fun _ M4 => f_X10_driven_19 FU M4 x0 x1 (-1000000005) 0))))
set_option maxHeartbeats 4000000 in
set_option maxRecDepth 100000 in
theorem c_X10_driven (l : Launch) (G : Gd) (A : Nat → Prop) (ad : Nat → Nat) {M : Mem} {x0 : Nat} {x1 : Int32}  {r : Int32} {M' : Mem} (hf : f_X10_driven M x0 x1 = some (r, M')) : Ct l yX10_driven cX10_driven 4 (some .int) rm_X10_driven [.ref (ad x0), .int x1] G A ad M (QI G A ad r M') 0 0 := by
  refine ct_start (by decide) (Nat.le_of_ble_eq_true rfl) ?_
  intro p e s m args below meth c ls C hin hw hl
  have C : Cx G A p s m args meth c RX10 cX10_driven 4 (some .int) := C
  have hl : lv_has ls 4 [(0, .ref (ad x0)), (1, .int x1)] := hl
  obtain ⟨hx, hb, -⟩ := id C
  rw [f_X10_driven] at hf
  refine lv_iload_n hx hb dX10_driven_0 rfl (lv_at hl 1 rfl) ?_
  obtain ⟨r2, M1, hc3, hf⟩ := cl_inv hf
  refine fin_I (run_S C hw mf_X10_isWard ms_X10_isWard ml_X10_93 (c_X10_isWard l G A ad hc3) (As := [.int x1]) (rest := []) hl.1 rfl rfl (Nat.le_of_ble_eq_true rfl) ⟨rfl, rfl, Nat.le_of_ble_eq_true rfl, Nat.le_of_ble_eq_true rfl⟩ ⟨Nat.zero_le _, Nat.zero_le _⟩ dX10_driven_1) hw (fun H locs hw => ?_)
  refine lv_if_ne (tgt := 10) hx hb dX10_driven_4 (by decide) (fun hc => ?_) (fun hc => ?_)
  · have hf := if_n hc hf
    refine lv_aload_n hx hb dX10_driven_10 rfl (lv_at hl 0 rfl) ?_
    obtain ⟨hT7, hf⟩ := gt_inv hf
    obtain ⟨⟨⟩, M4, hc6, hf⟩ := cl_inv hf
    refine fin_V (run_V C hw mf_X10_thinks mv_X10_thinks ml_X10_179 cf10 hT7 (c_X10_thinks l G A ad hc6) (As := []) (rest := []) hl.1 rfl rfl (Nat.le_of_ble_eq_true rfl) ⟨rfl, rfl, Nat.le_of_ble_eq_true rfl, Nat.le_of_ble_eq_true rfl⟩ ⟨Nat.zero_le _, Nat.zero_le _⟩ dX10_driven_11) hw (fun H locs hw => ?_)
    refine lv_ldc hx hb C.2.2.2.1 (C.2.2.2.2.1 _ kc_X10_88) dX10_driven_14 ?_
    refine lv_istore_n (lv' := [(2, .int (-1000000005)), (0, .ref (ad x0)), (1, .int x1)]) hx hb dX10_driven_16 rfl hl (by decide) rfl (fun ls hl => ?_)
    refine lv_iconst (v := 0) hx hb dX10_driven_17 (by decide) ?_
    refine lv_istore_n (lv' := [(3, .int 0), (2, .int (-1000000005)), (0, .ref (ad x0)), (1, .int x1)]) hx hb dX10_driven_18 rfl hl (by decide) rfl (fun ls hl => ?_)
    exact t_X10_driven_19 C FU M4 x0 x1 (-1000000005) 0 _ _ _ hf hw (lv_sub hl [2, 3, 1, 0] rfl)
  · have hf := if_p hc hf
    refine lv_ldc hx hb C.2.2.2.1 (C.2.2.2.2.1 _ kc_X10_97) dX10_driven_7 ?_
    exact e_iret C hw hf dX10_driven_9
/-! StorkVoteModel.brings(I)I -/
abbrev rm_X10_brings : Room := { frames := 5, cells := 0, slots := 0, locals := 118 }
def f_X10_brings (M : Mem) (x0 : Nat) (x1 : Int32) : Option (Int32 × Mem) := gt (mT M x0) 11 (cl (f_X10_isChimney M x0 x1) (fun r2 M1 => (if r2 = 0 then some ((-1000000001), M1) else gt (mT M1 x0) 11 (cl (f_X10_spring M1 x0) (fun _ M5 => gt (mT M5 x0) 11 (cl (f_X10_of M5 x0 x1 1) (fun r10 M9 => gt (mT M9 x0) 11 (cl (f_X10_seatsOf M9 x0 r10) (fun r14 M13 => gt (mT M13 x0) 11 (st (setI M13 x0 4 x1) (fun M18 => cl (f_X10_spring M18 x0) (fun _ M21 => gt (mT M21 x0) 11 (st (setI M21 x0 4 (-1)) (fun M25 => cl (f_X10_of M25 x0 x1 1) (fun r29 M28 => gt (mT M28 x0) 11 (cl (f_X10_seatsOf M28 x0 r29) (fun r32 M31 => some ((r14 - r32), M31))))))))))))))))))
set_option maxHeartbeats 4000000 in
set_option maxRecDepth 100000 in
theorem c_X10_brings (l : Launch) (G : Gd) (A : Nat → Prop) (ad : Nat → Nat) {M : Mem} {x0 : Nat} {x1 : Int32}  {r : Int32} {M' : Mem} (hf : f_X10_brings M x0 x1 = some (r, M')) : Ct l yX10_brings cX10_brings 3 (some .int) rm_X10_brings [.ref (ad x0), .int x1] G A ad M (QI G A ad r M') 0 0 := by
  refine ct_start (by decide) (Nat.le_of_ble_eq_true rfl) ?_
  intro p e s m args below meth c ls C hin hw hl
  have C : Cx G A p s m args meth c RX10 cX10_brings 3 (some .int) := C
  have hl : lv_has ls 3 [(0, .ref (ad x0)), (1, .int x1)] := hl
  obtain ⟨hx, hb, -⟩ := id C
  rw [f_X10_brings] at hf
  refine lv_aload_n hx hb dX10_brings_0 rfl (lv_at hl 0 rfl) ?_
  refine lv_iload_n hx hb dX10_brings_1 rfl (lv_at hl 1 rfl) ?_
  obtain ⟨hT4, hf⟩ := gt_inv hf
  obtain ⟨r2, M1, hc3, hf⟩ := cl_inv hf
  refine fin_I (run_V C hw mf_X10_isChimney mv_X10_isChimney ml_X10_107 cf10 hT4 (c_X10_isChimney l G A ad hc3) (As := [.int x1]) (rest := []) hl.1 rfl rfl (Nat.le_of_ble_eq_true rfl) ⟨rfl, rfl, Nat.le_of_ble_eq_true rfl, Nat.le_of_ble_eq_true rfl⟩ ⟨Nat.zero_le _, Nat.zero_le _⟩ dX10_brings_2) hw (fun H locs hw => ?_)
  refine lv_if_ne (tgt := 11) hx hb dX10_brings_5 (by decide) (fun hc => ?_) (fun hc => ?_)
  · have hf := if_n hc hf
    refine lv_aload_n hx hb dX10_brings_11 rfl (lv_at hl 0 rfl) ?_
    obtain ⟨hT8, hf⟩ := gt_inv hf
    obtain ⟨⟨⟩, M5, hc7, hf⟩ := cl_inv hf
    refine fin_V (run_V C hw mf_X10_spring mv_X10_spring ml_X10_114 cf10 hT8 (c_X10_spring l G A ad hc7) (As := []) (rest := []) hl.1 rfl rfl (Nat.le_of_ble_eq_true rfl) ⟨rfl, rfl, Nat.le_of_ble_eq_true rfl, Nat.le_of_ble_eq_true rfl⟩ ⟨Nat.zero_le _, Nat.zero_le _⟩ dX10_brings_12) hw (fun H locs hw => ?_)
    refine lv_aload_n hx hb dX10_brings_15 rfl (lv_at hl 0 rfl) ?_
    refine lv_aload_n hx hb dX10_brings_16 rfl (lv_at hl 0 rfl) ?_
    refine lv_iload_n hx hb dX10_brings_17 rfl (lv_at hl 1 rfl) ?_
    refine lv_iconst (v := 1) hx hb dX10_brings_18 (by decide) ?_
    obtain ⟨hT12, hf⟩ := gt_inv hf
    obtain ⟨r10, M9, hc11, hf⟩ := cl_inv hf
    refine fin_I (run_V C hw mf_X10_of mv_X10_of ml_X10_103 cf10 hT12 (c_X10_of l G A ad hc11) (As := [.int x1, .int 1]) (rest := [.ref (ad x0)]) hl.1 rfl rfl (Nat.le_of_ble_eq_true rfl) ⟨rfl, rfl, Nat.le_of_ble_eq_true rfl, Nat.le_of_ble_eq_true rfl⟩ ⟨Nat.zero_le _, Nat.zero_le _⟩ dX10_brings_19) hw (fun H locs hw => ?_)
    obtain ⟨hT16, hf⟩ := gt_inv hf
    obtain ⟨r14, M13, hc15, hf⟩ := cl_inv hf
    refine fin_I (run_V C hw mf_X10_seatsOf mv_X10_seatsOf ml_X10_167 cf10 hT16 (c_X10_seatsOf l G A ad hc15) (As := [.int r10]) (rest := []) hl.1 rfl rfl (Nat.le_of_ble_eq_true rfl) ⟨rfl, rfl, Nat.le_of_ble_eq_true rfl, Nat.le_of_ble_eq_true rfl⟩ ⟨Nat.zero_le _, Nat.zero_le _⟩ dX10_brings_22) hw (fun H locs hw => ?_)
    refine lv_istore_n (lv' := [(2, .int r14), (0, .ref (ad x0)), (1, .int x1)]) hx hb dX10_brings_25 rfl hl (by decide) rfl (fun ls hl => ?_)
    refine lv_aload_n hx hb dX10_brings_26 rfl (lv_at hl 1 rfl) ?_
    refine lv_iload_n hx hb dX10_brings_27 rfl (lv_at hl 2 rfl) ?_
    obtain ⟨hT17, hf⟩ := gt_inv hf
    obtain ⟨M18, e19, hf⟩ := st_inv hf
    have g20 := sg_I e19
    refine r_putI C hw cf10 4 (by decide) rfl hT17 e19 fl_X10_19 rfl rfl rfl dX10_brings_28 (fun H locs hw => ?_)
    refine lv_aload_n hx hb dX10_brings_31 rfl (lv_at hl 1 rfl) ?_
    obtain ⟨⟨⟩, M21, hc23, hf⟩ := cl_inv hf
    refine fin_V (run_V C hw mf_X10_spring mv_X10_spring ml_X10_114 cf10 (T_of g20 hT17) (c_X10_spring l G A ad hc23) (As := []) (rest := []) hl.1 rfl rfl (Nat.le_of_ble_eq_true rfl) ⟨rfl, rfl, Nat.le_of_ble_eq_true rfl, Nat.le_of_ble_eq_true rfl⟩ ⟨Nat.zero_le _, Nat.zero_le _⟩ dX10_brings_32) hw (fun H locs hw => ?_)
    refine lv_aload_n hx hb dX10_brings_35 rfl (lv_at hl 1 rfl) ?_
    refine lv_iconst (v := (-1)) hx hb dX10_brings_36 (by decide) ?_
    obtain ⟨hT24, hf⟩ := gt_inv hf
    obtain ⟨M25, e26, hf⟩ := st_inv hf
    have g27 := sg_I e26
    refine r_putI C hw cf10 4 (by decide) rfl hT24 e26 fl_X10_19 rfl rfl rfl dX10_brings_37 (fun H locs hw => ?_)
    refine lv_iload_n hx hb dX10_brings_40 rfl (lv_at hl 0 rfl) ?_
    refine lv_aload_n hx hb dX10_brings_41 rfl (lv_at hl 1 rfl) ?_
    refine lv_aload_n hx hb dX10_brings_42 rfl (lv_at hl 1 rfl) ?_
    refine lv_iload_n hx hb dX10_brings_43 rfl (lv_at hl 2 rfl) ?_
    refine lv_iconst (v := 1) hx hb dX10_brings_44 (by decide) ?_
    obtain ⟨r29, M28, hc30, hf⟩ := cl_inv hf
    refine fin_I (run_V C hw mf_X10_of mv_X10_of ml_X10_103 cf10 (T_of g27 hT24) (c_X10_of l G A ad hc30) (As := [.int x1, .int 1]) (rest := [.ref (ad x0), .int r14]) hl.1 rfl rfl (Nat.le_of_ble_eq_true rfl) ⟨rfl, rfl, Nat.le_of_ble_eq_true rfl, Nat.le_of_ble_eq_true rfl⟩ ⟨Nat.zero_le _, Nat.zero_le _⟩ dX10_brings_45) hw (fun H locs hw => ?_)
    obtain ⟨hT34, hf⟩ := gt_inv hf
    obtain ⟨r32, M31, hc33, hf⟩ := cl_inv hf
    refine fin_I (run_V C hw mf_X10_seatsOf mv_X10_seatsOf ml_X10_167 cf10 hT34 (c_X10_seatsOf l G A ad hc33) (As := [.int r29]) (rest := [.int r14]) hl.1 rfl rfl (Nat.le_of_ble_eq_true rfl) ⟨rfl, rfl, Nat.le_of_ble_eq_true rfl, Nat.le_of_ble_eq_true rfl⟩ ⟨Nat.zero_le _, Nat.zero_le _⟩ dX10_brings_48) hw (fun H locs hw => ?_)
    refine lv_isub hx hb dX10_brings_51 ?_
    exact e_iret C hw hf dX10_brings_52
  · have hf := if_p hc hf
    refine lv_ldc hx hb C.2.2.2.1 (C.2.2.2.2.1 _ kc_X10_97) dX10_brings_8 ?_
    exact e_iret C hw hf dX10_brings_10
/-! StorkVoteModel.hereMany()I -/
abbrev rm_X10_hereMany : Room := { frames := 1, cells := 0, slots := 0, locals := 21 }
def f_X10_hereMany_4 : Nat → Mem → Nat → Int32 → Int32 → Option (Int32 × Mem)
  | 0, _, _, _, _ => none
  | n + 1, M, x0, x1, x2 => gt (mT M x0) 11 (lp (mP M x0 0) (fun a2 => gt (mT M a2) 20 (gd (ib 2 (mL M a2)) ((if (mI M a2 (2 : Int32).toNatClampNeg) ≤ x2 then some (x1, M) else cl (f_X10_isAway M x0 x2) (fun r7 M6 => (if r7 = 0 then f_X10_hereMany_4 n M6 x0 (x1 + 1) (x2 + 1) else f_X10_hereMany_4 n M6 x0 (x1 + 0) (x2 + 1))))))))
set_option maxHeartbeats 4000000 in
set_option maxRecDepth 100000 in
theorem t_X10_hereMany_4 {l : Launch} {p : Program} {e : Env} {s : State} {m : MethodId} {args : Array Value} {below : List Frame} {meth : Method} {c : Code} {G : Gd} {A : Nat → Prop} {ad : Nat → Nat} (C : Cx G A p s m args meth c RX10 cX10_hereMany 3 (some .int)) {r : Int32} {M' : Mem} : ∀ (n : Nat) (M : Mem) (x0 : Nat) (x1 : Int32) (x2 : Int32) (H : Heap) (locs : List Loc) (ls : Array Slot), f_X10_hereMany_4  n M x0 x1 x2 = some (r, M') → Wd G A ad s.heap M H locs → lv_has ls 3 [(0, .ref (ad x0)), (1, .int x1), (2, .int x2)] → W p l e rm_X10_hereMany s m args below meth c H locs 0 0 (MQ below (QI G A ad r M') args s 0 0 A) (F0 m 4 ls []) := by
  obtain ⟨hx, hb, -⟩ := id C
  intro n
  induction n with
  | zero =>
    intro M x0 x1 x2 H locs ls hf
    rw [f_X10_hereMany_4] at hf
    exact absurd hf (fun h => nomatch h)
  | succ n ih =>
    intro M x0 x1 x2 H locs ls hf hw hl
    rw [f_X10_hereMany_4] at hf
    refine lv_iload_n hx hb dX10_hereMany_4 rfl (lv_at hl 2 rfl) ?_
    refine lv_aload_n hx hb dX10_hereMany_5 rfl (lv_at hl 0 rfl) ?_
    obtain ⟨hT1, hf⟩ := gt_inv hf
    obtain ⟨a2, hP3, hf⟩ := lp_inv hf
    refine r_getP C hw cf10 0 (by decide) rfl hT1 hP3 fl_X10_9 dX10_hereMany_6 ?_
    refine lv_iconst (v := 2) hx hb dX10_hereMany_9 (by decide) ?_
    obtain ⟨hT4, hf⟩ := gt_inv hf
    obtain ⟨hg5, hf⟩ := gd_inv hf
    refine r_iald C hw hT4 hg5 dX10_hereMany_10 ?_
    refine lv_icmp_ge (tgt := 36) hx hb dX10_hereMany_11 (by decide) (fun hc => ?_) (fun hc => ?_)
    · have hf := if_p hc hf
      refine lv_iload_n hx hb dX10_hereMany_36 rfl (lv_at hl 1 rfl) ?_
      exact e_iret C hw hf dX10_hereMany_37
    · have hf := if_n hc hf
      refine lv_iload_n hx hb dX10_hereMany_14 rfl (lv_at hl 1 rfl) ?_
      refine lv_aload_n hx hb dX10_hereMany_15 rfl (lv_at hl 0 rfl) ?_
      refine lv_iload_n hx hb dX10_hereMany_16 rfl (lv_at hl 2 rfl) ?_
      obtain ⟨r7, M6, hc8, hf⟩ := cl_inv hf
      refine fin_I (run_V C hw mf_X10_isAway mv_X10_isAway ml_X10_152 cf10 hT1 (c_X10_isAway l G A ad hc8) (As := [.int x2]) (rest := [.int x1]) hl.1 rfl rfl (Nat.le_of_ble_eq_true rfl) ⟨rfl, rfl, Nat.le_of_ble_eq_true rfl, Nat.le_of_ble_eq_true rfl⟩ ⟨Nat.zero_le _, Nat.zero_le _⟩ dX10_hereMany_17) hw (fun H locs hw => ?_)
      refine lv_if_eq (tgt := 27) hx hb dX10_hereMany_20 (by decide) (fun hc => ?_) (fun hc => ?_)
      · have hf := if_p hc hf
        refine lv_iconst (v := 1) hx hb dX10_hereMany_27 (by decide) ?_
        refine lv_iadd hx hb dX10_hereMany_28 ?_
        refine lv_istore_n (lv' := [(1, .int (x1 + 1)), (0, .ref (ad x0)), (2, .int x2)]) hx hb dX10_hereMany_29 rfl hl (by decide) rfl (fun ls hl => ?_)
        refine lv_iinc (v := (x2 + 1)) (lv' := [(2, .int (x2 + 1)), (1, .int (x1 + 1)), (0, .ref (ad x0))]) hx hb dX10_hereMany_30 hl (k := 2) rfl rfl (by decide) rfl (fun ls hl => ?_)
        refine lv_goto (tgt := 4) hx hb dX10_hereMany_33 (by decide) ?_
        exact ih M6 x0 (x1 + 1) (x2 + 1) _ _ _ hf hw (lv_sub hl [2, 1, 0] rfl)
      · have hf := if_n hc hf
        refine lv_iconst (v := 0) hx hb dX10_hereMany_23 (by decide) ?_
        refine lv_goto (tgt := 28) hx hb dX10_hereMany_24 (by decide) ?_
        refine lv_iadd hx hb dX10_hereMany_28 ?_
        refine lv_istore_n (lv' := [(1, .int (x1 + 0)), (0, .ref (ad x0)), (2, .int x2)]) hx hb dX10_hereMany_29 rfl hl (by decide) rfl (fun ls hl => ?_)
        refine lv_iinc (v := (x2 + 1)) (lv' := [(2, .int (x2 + 1)), (1, .int (x1 + 0)), (0, .ref (ad x0))]) hx hb dX10_hereMany_30 hl (k := 2) rfl rfl (by decide) rfl (fun ls hl => ?_)
        refine lv_goto (tgt := 4) hx hb dX10_hereMany_33 (by decide) ?_
        exact ih M6 x0 (x1 + 0) (x2 + 1) _ _ _ hf hw (lv_sub hl [2, 1, 0] rfl)
def f_X10_hereMany (M : Mem) (x0 : Nat) : Option (Int32 × Mem) := f_X10_hereMany_4 FU M x0 0 0
set_option maxHeartbeats 4000000 in
set_option maxRecDepth 100000 in
theorem c_X10_hereMany (l : Launch) (G : Gd) (A : Nat → Prop) (ad : Nat → Nat) {M : Mem} {x0 : Nat}  {r : Int32} {M' : Mem} (hf : f_X10_hereMany M x0 = some (r, M')) : Ct l yX10_hereMany cX10_hereMany 3 (some .int) rm_X10_hereMany [.ref (ad x0)] G A ad M (QI G A ad r M') 0 0 := by
  refine ct_start (by decide) (Nat.le_of_ble_eq_true rfl) ?_
  intro p e s m args below meth c ls C hin hw hl
  have C : Cx G A p s m args meth c RX10 cX10_hereMany 3 (some .int) := C
  have hl : lv_has ls 3 [(0, .ref (ad x0))] := hl
  obtain ⟨hx, hb, -⟩ := id C
  rw [f_X10_hereMany] at hf
  refine lv_iconst (v := 0) hx hb dX10_hereMany_0 (by decide) ?_
  refine lv_istore_n (lv' := [(1, .int 0), (0, .ref (ad x0))]) hx hb dX10_hereMany_1 rfl hl (by decide) rfl (fun ls hl => ?_)
  refine lv_iconst (v := 0) hx hb dX10_hereMany_2 (by decide) ?_
  refine lv_istore_n (lv' := [(2, .int 0), (1, .int 0), (0, .ref (ad x0))]) hx hb dX10_hereMany_3 rfl hl (by decide) rfl (fun ls hl => ?_)
  exact t_X10_hereMany_4 C FU M x0 0 0 _ _ _ hf hw (lv_sub hl [2, 1, 0] rfl)
/-! StorkVoteModel.behind(II)I -/
abbrev rm_X10_behind : Room := { frames := 7, cells := 0, slots := 0, locals := 166 }
def f_X10_behind_82 (M : Mem) (x0 : Nat) (s0 : Int32) : Option (Int32 × Mem) := gt (mT M x0) 11 (cl (f_X10_putsBack M x0) (fun _ M1 => some (s0, M1)))
set_option maxHeartbeats 4000000 in
set_option maxRecDepth 100000 in
theorem t_X10_behind_82 {l : Launch} {p : Program} {e : Env} {s : State} {m : MethodId} {args : Array Value} {below : List Frame} {meth : Method} {c : Code} {G : Gd} {A : Nat → Prop} {ad : Nat → Nat} (C : Cx G A p s m args meth c RX10 cX10_behind 6 (some .int)) {r : Int32} {M' : Mem} : ∀ (M : Mem) (x0 : Nat) (s0 : Int32) (H : Heap) (locs : List Loc) (ls : Array Slot), f_X10_behind_82  M x0 s0 = some (r, M') → Wd G A ad s.heap M H locs → lv_has ls 6 [(0, .ref (ad x0))] → W p l e rm_X10_behind s m args below meth c H locs 0 0 (MQ below (QI G A ad r M') args s 0 0 A) (F0 m 82 ls [.int s0]) := by
  obtain ⟨hx, hb, -⟩ := id C
  intro M x0 s0 H locs ls hf hw hl
  rw [f_X10_behind_82] at hf
  refine lv_istore (lv' := [(5, .int s0), (0, .ref (ad x0))]) hx hb dX10_behind_82 hl (by decide) rfl (fun ls hl => ?_)
  refine lv_aload_n hx hb dX10_behind_84 rfl (lv_at hl 1 rfl) ?_
  obtain ⟨hT4, hf⟩ := gt_inv hf
  obtain ⟨⟨⟩, M1, hc3, hf⟩ := cl_inv hf
  refine fin_V (run_V C hw mf_X10_putsBack mv_X10_putsBack ml_X10_182 cf10 hT4 (c_X10_putsBack l G A ad hc3) (As := []) (rest := []) hl.1 rfl rfl (Nat.le_of_ble_eq_true rfl) ⟨rfl, rfl, Nat.le_of_ble_eq_true rfl, Nat.le_of_ble_eq_true rfl⟩ ⟨Nat.zero_le _, Nat.zero_le _⟩ dX10_behind_85) hw (fun H locs hw => ?_)
  refine lv_iload hx hb dX10_behind_88 (lv_at hl 0 rfl) ?_
  exact e_iret C hw hf dX10_behind_90
def f_X10_behind (M : Mem) (x0 : Nat) (x1 : Int32) (x2 : Int32) : Option (Int32 × Mem) := cl (f_X10_in M x1 0 60) (fun r2 M1 => (if r2 = 0 then some ((-1000000001), M1) else cl (f_X10_in M1 x2 0 2) (fun r5 M4 => (if r5 = 0 then some ((-1000000001), M4) else gt (mT M4 x0) 11 (cl (f_X10_thinks M4 x0) (fun _ M7 => gt (mT M7 x0) 11 (cl (f_X10_goesOn M7 x0 x1) (fun r12 M11 => gt (mT M11 x0) 11 (cl (f_X10_electedNow M11 x0) (fun r16 M15 => (if x2 = 0 then f_X10_behind_82 M15 x0 r16 else (if x2 = 1 then gt (mT M15 x0) 11 (cl (f_X10_hereMany M15 x0) (fun r36 M35 => f_X10_behind_82 M35 x0 r36)) else gt (mT M15 x0) 11 (cl (f_X10_seatsOf M15 x0 0) (fun r20 M19 => gt (mT M19 x0) 11 (cl (f_X10_seatsOf M19 x0 1) (fun r24 M23 => gt (mT M23 x0) 11 (cl (f_X10_seatsOf M23 x0 2) (fun r28 M27 => gt (mT M27 x0) 11 (cl (f_X10_seatsOf M27 x0 3) (fun r32 M31 => f_X10_behind_82 M31 x0 (((r20 + r24) + r28) + r32)))))))))))))))))))))
set_option maxHeartbeats 4000000 in
set_option maxRecDepth 100000 in
theorem c_X10_behind (l : Launch) (G : Gd) (A : Nat → Prop) (ad : Nat → Nat) {M : Mem} {x0 : Nat} {x1 : Int32} {x2 : Int32}  {r : Int32} {M' : Mem} (hf : f_X10_behind M x0 x1 x2 = some (r, M')) : Ct l yX10_behind cX10_behind 6 (some .int) rm_X10_behind [.ref (ad x0), .int x1, .int x2] G A ad M (QI G A ad r M') 0 0 := by
  refine ct_start (by decide) (Nat.le_of_ble_eq_true rfl) ?_
  intro p e s m args below meth c ls C hin hw hl
  have C : Cx G A p s m args meth c RX10 cX10_behind 6 (some .int) := C
  have hl : lv_has ls 6 [(0, .ref (ad x0)), (1, .int x1), (2, .int x2)] := hl
  obtain ⟨hx, hb, -⟩ := id C
  rw [f_X10_behind] at hf
  refine lv_iload_n hx hb dX10_behind_0 rfl (lv_at hl 1 rfl) ?_
  refine lv_iconst (v := 0) hx hb dX10_behind_1 (by decide) ?_
  refine lv_bipush (v := 60) hx hb dX10_behind_2 (by decide) ?_
  obtain ⟨r2, M1, hc3, hf⟩ := cl_inv hf
  refine fin_I (run_S C hw mf_X10_in ms_X10_in ml_X10_89 (c_X10_in l G A ad hc3) (As := [.int x1, .int 0, .int 60]) (rest := []) hl.1 rfl rfl (Nat.le_of_ble_eq_true rfl) ⟨rfl, rfl, Nat.le_of_ble_eq_true rfl, Nat.le_of_ble_eq_true rfl⟩ ⟨Nat.zero_le _, Nat.zero_le _⟩ dX10_behind_4) hw (fun H locs hw => ?_)
  refine lv_if_eq (tgt := 19) hx hb dX10_behind_7 (by decide) (fun hc => ?_) (fun hc => ?_)
  · have hf := if_p hc hf
    refine lv_ldc hx hb C.2.2.2.1 (C.2.2.2.2.1 _ kc_X10_97) dX10_behind_19 ?_
    exact e_iret C hw hf dX10_behind_21
  · have hf := if_n hc hf
    refine lv_iload_n hx hb dX10_behind_10 rfl (lv_at hl 2 rfl) ?_
    refine lv_iconst (v := 0) hx hb dX10_behind_11 (by decide) ?_
    refine lv_iconst (v := 2) hx hb dX10_behind_12 (by decide) ?_
    obtain ⟨r5, M4, hc6, hf⟩ := cl_inv hf
    refine fin_I (run_S C hw mf_X10_in ms_X10_in ml_X10_89 (c_X10_in l G A ad hc6) (As := [.int x2, .int 0, .int 2]) (rest := []) hl.1 rfl rfl (Nat.le_of_ble_eq_true rfl) ⟨rfl, rfl, Nat.le_of_ble_eq_true rfl, Nat.le_of_ble_eq_true rfl⟩ ⟨Nat.zero_le _, Nat.zero_le _⟩ dX10_behind_13) hw (fun H locs hw => ?_)
    refine lv_if_ne (tgt := 22) hx hb dX10_behind_16 (by decide) (fun hc => ?_) (fun hc => ?_)
    · have hf := if_n hc hf
      refine lv_aload_n hx hb dX10_behind_22 rfl (lv_at hl 0 rfl) ?_
      obtain ⟨hT10, hf⟩ := gt_inv hf
      obtain ⟨⟨⟩, M7, hc9, hf⟩ := cl_inv hf
      refine fin_V (run_V C hw mf_X10_thinks mv_X10_thinks ml_X10_179 cf10 hT10 (c_X10_thinks l G A ad hc9) (As := []) (rest := []) hl.1 rfl rfl (Nat.le_of_ble_eq_true rfl) ⟨rfl, rfl, Nat.le_of_ble_eq_true rfl, Nat.le_of_ble_eq_true rfl⟩ ⟨Nat.zero_le _, Nat.zero_le _⟩ dX10_behind_23) hw (fun H locs hw => ?_)
      refine lv_aload_n hx hb dX10_behind_26 rfl (lv_at hl 0 rfl) ?_
      refine lv_iload_n hx hb dX10_behind_27 rfl (lv_at hl 1 rfl) ?_
      obtain ⟨hT14, hf⟩ := gt_inv hf
      obtain ⟨r12, M11, hc13, hf⟩ := cl_inv hf
      refine fin_I (run_V C hw mf_X10_goesOn mv_X10_goesOn ml_X10_176 cf10 hT14 (c_X10_goesOn l G A ad hc13) (As := [.int x1]) (rest := []) hl.1 rfl rfl (Nat.le_of_ble_eq_true rfl) ⟨rfl, rfl, Nat.le_of_ble_eq_true rfl, Nat.le_of_ble_eq_true rfl⟩ ⟨Nat.zero_le _, Nat.zero_le _⟩ dX10_behind_28) hw (fun H locs hw => ?_)
      refine lv_istore_n (lv' := [(3, .int r12), (0, .ref (ad x0)), (1, .int x1), (2, .int x2)]) hx hb dX10_behind_31 rfl hl (by decide) rfl (fun ls hl => ?_)
      refine lv_aload_n hx hb dX10_behind_32 rfl (lv_at hl 1 rfl) ?_
      obtain ⟨hT18, hf⟩ := gt_inv hf
      obtain ⟨r16, M15, hc17, hf⟩ := cl_inv hf
      refine fin_I (run_V C hw mf_X10_electedNow mv_X10_electedNow ml_X10_170 cf10 hT18 (c_X10_electedNow l G A ad hc17) (As := []) (rest := []) hl.1 rfl rfl (Nat.le_of_ble_eq_true rfl) ⟨rfl, rfl, Nat.le_of_ble_eq_true rfl, Nat.le_of_ble_eq_true rfl⟩ ⟨Nat.zero_le _, Nat.zero_le _⟩ dX10_behind_33) hw (fun H locs hw => ?_)
      refine lv_istore (lv' := [(4, .int r16), (3, .int r12), (0, .ref (ad x0)), (1, .int x1), (2, .int x2)]) hx hb dX10_behind_36 hl (by decide) rfl (fun ls hl => ?_)
      refine lv_iload_n hx hb dX10_behind_38 rfl (lv_at hl 4 rfl) ?_
      refine lv_if_ne (tgt := 47) hx hb dX10_behind_39 (by decide) (fun hc => ?_) (fun hc => ?_)
      · have hf := if_n hc hf
        refine lv_iload_n hx hb dX10_behind_47 rfl (lv_at hl 4 rfl) ?_
        refine lv_iconst (v := 1) hx hb dX10_behind_48 (by decide) ?_
        refine lv_icmp_ne (tgt := 59) hx hb dX10_behind_49 (by decide) (fun hc => ?_) (fun hc => ?_)
        · have hf := if_n hc hf
          refine lv_aload_n hx hb dX10_behind_59 rfl (lv_at hl 2 rfl) ?_
          refine lv_iconst (v := 0) hx hb dX10_behind_60 (by decide) ?_
          obtain ⟨hT22, hf⟩ := gt_inv hf
          obtain ⟨r20, M19, hc21, hf⟩ := cl_inv hf
          refine fin_I (run_V C hw mf_X10_seatsOf mv_X10_seatsOf ml_X10_167 cf10 hT22 (c_X10_seatsOf l G A ad hc21) (As := [.int 0]) (rest := []) hl.1 rfl rfl (Nat.le_of_ble_eq_true rfl) ⟨rfl, rfl, Nat.le_of_ble_eq_true rfl, Nat.le_of_ble_eq_true rfl⟩ ⟨Nat.zero_le _, Nat.zero_le _⟩ dX10_behind_61) hw (fun H locs hw => ?_)
          refine lv_aload_n hx hb dX10_behind_64 rfl (lv_at hl 2 rfl) ?_
          refine lv_iconst (v := 1) hx hb dX10_behind_65 (by decide) ?_
          obtain ⟨hT26, hf⟩ := gt_inv hf
          obtain ⟨r24, M23, hc25, hf⟩ := cl_inv hf
          refine fin_I (run_V C hw mf_X10_seatsOf mv_X10_seatsOf ml_X10_167 cf10 hT26 (c_X10_seatsOf l G A ad hc25) (As := [.int 1]) (rest := [.int r20]) hl.1 rfl rfl (Nat.le_of_ble_eq_true rfl) ⟨rfl, rfl, Nat.le_of_ble_eq_true rfl, Nat.le_of_ble_eq_true rfl⟩ ⟨Nat.zero_le _, Nat.zero_le _⟩ dX10_behind_66) hw (fun H locs hw => ?_)
          refine lv_iadd hx hb dX10_behind_69 ?_
          refine lv_aload_n hx hb dX10_behind_70 rfl (lv_at hl 2 rfl) ?_
          refine lv_iconst (v := 2) hx hb dX10_behind_71 (by decide) ?_
          obtain ⟨hT30, hf⟩ := gt_inv hf
          obtain ⟨r28, M27, hc29, hf⟩ := cl_inv hf
          refine fin_I (run_V C hw mf_X10_seatsOf mv_X10_seatsOf ml_X10_167 cf10 hT30 (c_X10_seatsOf l G A ad hc29) (As := [.int 2]) (rest := [.int (r20 + r24)]) hl.1 rfl rfl (Nat.le_of_ble_eq_true rfl) ⟨rfl, rfl, Nat.le_of_ble_eq_true rfl, Nat.le_of_ble_eq_true rfl⟩ ⟨Nat.zero_le _, Nat.zero_le _⟩ dX10_behind_72) hw (fun H locs hw => ?_)
          refine lv_iadd hx hb dX10_behind_75 ?_
          refine lv_aload_n hx hb dX10_behind_76 rfl (lv_at hl 2 rfl) ?_
          refine lv_iconst (v := 3) hx hb dX10_behind_77 (by decide) ?_
          obtain ⟨hT34, hf⟩ := gt_inv hf
          obtain ⟨r32, M31, hc33, hf⟩ := cl_inv hf
          refine fin_I (run_V C hw mf_X10_seatsOf mv_X10_seatsOf ml_X10_167 cf10 hT34 (c_X10_seatsOf l G A ad hc33) (As := [.int 3]) (rest := [.int ((r20 + r24) + r28)]) hl.1 rfl rfl (Nat.le_of_ble_eq_true rfl) ⟨rfl, rfl, Nat.le_of_ble_eq_true rfl, Nat.le_of_ble_eq_true rfl⟩ ⟨Nat.zero_le _, Nat.zero_le _⟩ dX10_behind_78) hw (fun H locs hw => ?_)
          refine lv_iadd hx hb dX10_behind_81 ?_
          exact t_X10_behind_82 C M31 x0 (((r20 + r24) + r28) + r32) _ _ _ hf hw (lv_sub hl [2] rfl)
        · have hf := if_p hc hf
          refine lv_aload_n hx hb dX10_behind_52 rfl (lv_at hl 2 rfl) ?_
          obtain ⟨hT38, hf⟩ := gt_inv hf
          obtain ⟨r36, M35, hc37, hf⟩ := cl_inv hf
          refine fin_I (run_V C hw mf_X10_hereMany mv_X10_hereMany ml_X10_185 cf10 hT38 (c_X10_hereMany l G A ad hc37) (As := []) (rest := []) hl.1 rfl rfl (Nat.le_of_ble_eq_true rfl) ⟨rfl, rfl, Nat.le_of_ble_eq_true rfl, Nat.le_of_ble_eq_true rfl⟩ ⟨Nat.zero_le _, Nat.zero_le _⟩ dX10_behind_53) hw (fun H locs hw => ?_)
          refine lv_goto (tgt := 82) hx hb dX10_behind_56 (by decide) ?_
          exact t_X10_behind_82 C M35 x0 r36 _ _ _ hf hw (lv_sub hl [2] rfl)
      · have hf := if_p hc hf
        refine lv_iload hx hb dX10_behind_42 (lv_at hl 0 rfl) ?_
        refine lv_goto (tgt := 82) hx hb dX10_behind_44 (by decide) ?_
        exact t_X10_behind_82 C M15 x0 r16 _ _ _ hf hw (lv_sub hl [2] rfl)
    · have hf := if_p hc hf
      refine lv_ldc hx hb C.2.2.2.1 (C.2.2.2.2.1 _ kc_X10_97) dX10_behind_19 ?_
      exact e_iret C hw hf dX10_behind_21
/-! StorkVoteModel.nestsBy(I)V -/
abbrev rm_X10_nestsBy : Room := { frames := 2, cells := 0, slots := 0, locals := 43 }
def f_X10_nestsBy_106 (K23 : Mem → Nat → Int32 → Int32 → Option (Unit × Mem)) (M : Mem) (x0 : Nat) (x1 : Int32) (x2 : Int32) (x3 : Int32) (x4 : Int32) (s0 : Nat) (s1 : Int32) (s2 : Int32) : Option (Unit × Mem) := gt (mT M s0) 20 (gd (ib s1 (mL M s0)) (st (setI M s0 s1.toNatClampNeg s2) (fun M3 => (if x4 = 0 then K23 M3 x0 x1 (x2 + 1) else gt (mT M3 x0) 11 (lp (mP M3 x0 5) (fun a7 => gt (mT M3 a7) 20 (gd (ib x3 (mL M3 a7)) (st (setI M3 a7 x3.toNatClampNeg x2) (fun M11 => K23 M11 x0 x1 (x2 + 1))))))))))
set_option maxHeartbeats 4000000 in
set_option maxRecDepth 100000 in
theorem t_X10_nestsBy_106 {l : Launch} {p : Program} {e : Env} {s : State} {m : MethodId} {args : Array Value} {below : List Frame} {meth : Method} {c : Code} {G : Gd} {A : Nat → Prop} {ad : Nat → Nat} (C : Cx G A p s m args meth c RX10 cX10_nestsBy 5 none) {M' : Mem} {K23 : Mem → Nat → Int32 → Int32 → Option (Unit × Mem)} (hK23 : ∀ (M : Mem) (x0 : Nat) (x1 : Int32) (x2 : Int32) (H : Heap) (locs : List Loc) (ls : Array Slot), K23 M x0 x1 x2 = some ((), M') → Wd G A ad s.heap M H locs → lv_has ls 5 [(0, .ref (ad x0)), (1, .int x1), (2, .int x2)] → W p l e rm_X10_nestsBy s m args below meth c H locs 0 0 (MQ below (QV G A ad M') args s 0 0 A) (F0 m 23 ls [])) : ∀ (M : Mem) (x0 : Nat) (x1 : Int32) (x2 : Int32) (x3 : Int32) (x4 : Int32) (s0 : Nat) (s1 : Int32) (s2 : Int32) (H : Heap) (locs : List Loc) (ls : Array Slot), f_X10_nestsBy_106 K23 M x0 x1 x2 x3 x4 s0 s1 s2 = some ((), M') → Wd G A ad s.heap M H locs → lv_has ls 5 [(0, .ref (ad x0)), (1, .int x1), (2, .int x2), (3, .int x3), (4, .int x4)] → W p l e rm_X10_nestsBy s m args below meth c H locs 0 0 (MQ below (QV G A ad M') args s 0 0 A) (F0 m 106 ls [.int s2, .int s1, .ref (ad s0)]) := by
  obtain ⟨hx, hb, -⟩ := id C
  intro M x0 x1 x2 x3 x4 s0 s1 s2 H locs ls hf hw hl
  rw [f_X10_nestsBy_106] at hf
  obtain ⟨hT1, hf⟩ := gt_inv hf
  obtain ⟨hg2, hf⟩ := gd_inv hf
  obtain ⟨M3, e4, hf⟩ := st_inv hf
  have g5 := sg_I e4
  refine r_iast C hw hT1 hg2 e4 dX10_nestsBy_106 (fun H locs hw => ?_)
  refine lv_iload hx hb dX10_nestsBy_107 (lv_at hl 4 rfl) ?_
  refine lv_if_eq (tgt := 119) hx hb dX10_nestsBy_109 (by decide) (fun hc => ?_) (fun hc => ?_)
  · have hf := if_p hc hf
    refine lv_iinc (v := (x2 + 1)) (lv' := [(2, .int (x2 + 1)), (0, .ref (ad x0)), (1, .int x1), (3, .int x3), (4, .int x4)]) hx hb dX10_nestsBy_119 hl (k := 2) rfl rfl (by decide) rfl (fun ls hl => ?_)
    refine lv_goto (tgt := 23) hx hb dX10_nestsBy_122 (by decide) ?_
    exact hK23 M3 x0 x1 (x2 + 1) _ _ _ hf hw (lv_sub hl [1, 2, 0] rfl)
  · have hf := if_n hc hf
    refine lv_aload_n hx hb dX10_nestsBy_112 rfl (lv_at hl 0 rfl) ?_
    obtain ⟨hT6, hf⟩ := gt_inv hf
    obtain ⟨a7, hP8, hf⟩ := lp_inv hf
    refine r_getP C hw cf10 5 (by decide) rfl hT6 hP8 fl_X10_23 dX10_nestsBy_113 ?_
    refine lv_iload_n hx hb dX10_nestsBy_116 rfl (lv_at hl 3 rfl) ?_
    refine lv_iload_n hx hb dX10_nestsBy_117 rfl (lv_at hl 2 rfl) ?_
    obtain ⟨hT9, hf⟩ := gt_inv hf
    obtain ⟨hg10, hf⟩ := gd_inv hf
    obtain ⟨M11, e12, hf⟩ := st_inv hf
    have g13 := sg_I e12
    refine r_iast C hw hT9 hg10 e12 dX10_nestsBy_118 (fun H locs hw => ?_)
    refine lv_iinc (v := (x2 + 1)) (lv' := [(2, .int (x2 + 1)), (0, .ref (ad x0)), (1, .int x1), (3, .int x3), (4, .int x4)]) hx hb dX10_nestsBy_119 hl (k := 2) rfl rfl (by decide) rfl (fun ls hl => ?_)
    refine lv_goto (tgt := 23) hx hb dX10_nestsBy_122 (by decide) ?_
    exact hK23 M11 x0 x1 (x2 + 1) _ _ _ hf hw (lv_sub hl [1, 2, 0] rfl)
def f_X10_nestsBy_89 (K23 : Mem → Nat → Int32 → Int32 → Option (Unit × Mem)) (M : Mem) (x0 : Nat) (x1 : Int32) (x2 : Int32) (x3 : Int32) (s0 : Int32) : Option (Unit × Mem) := gt (mT M x0) 11 (lp (mP M x0 6) (fun a2 => (if s0 = 0 then f_X10_nestsBy_106 K23 M x0 x1 x2 x3 s0 a2 x2 (-1) else f_X10_nestsBy_106 K23 M x0 x1 x2 x3 s0 a2 x2 x3)))
set_option maxHeartbeats 4000000 in
set_option maxRecDepth 100000 in
theorem t_X10_nestsBy_89 {l : Launch} {p : Program} {e : Env} {s : State} {m : MethodId} {args : Array Value} {below : List Frame} {meth : Method} {c : Code} {G : Gd} {A : Nat → Prop} {ad : Nat → Nat} (C : Cx G A p s m args meth c RX10 cX10_nestsBy 5 none) {M' : Mem} {K23 : Mem → Nat → Int32 → Int32 → Option (Unit × Mem)} (hK23 : ∀ (M : Mem) (x0 : Nat) (x1 : Int32) (x2 : Int32) (H : Heap) (locs : List Loc) (ls : Array Slot), K23 M x0 x1 x2 = some ((), M') → Wd G A ad s.heap M H locs → lv_has ls 5 [(0, .ref (ad x0)), (1, .int x1), (2, .int x2)] → W p l e rm_X10_nestsBy s m args below meth c H locs 0 0 (MQ below (QV G A ad M') args s 0 0 A) (F0 m 23 ls [])) : ∀ (M : Mem) (x0 : Nat) (x1 : Int32) (x2 : Int32) (x3 : Int32) (s0 : Int32) (H : Heap) (locs : List Loc) (ls : Array Slot), f_X10_nestsBy_89 K23 M x0 x1 x2 x3 s0 = some ((), M') → Wd G A ad s.heap M H locs → lv_has ls 5 [(0, .ref (ad x0)), (1, .int x1), (2, .int x2), (3, .int x3)] → W p l e rm_X10_nestsBy s m args below meth c H locs 0 0 (MQ below (QV G A ad M') args s 0 0 A) (F0 m 89 ls [.int s0]) := by
  obtain ⟨hx, hb, -⟩ := id C
  intro M x0 x1 x2 x3 s0 H locs ls hf hw hl
  rw [f_X10_nestsBy_89] at hf
  refine lv_istore (lv' := [(4, .int s0), (0, .ref (ad x0)), (1, .int x1), (2, .int x2), (3, .int x3)]) hx hb dX10_nestsBy_89 hl (by decide) rfl (fun ls hl => ?_)
  refine lv_aload_n hx hb dX10_nestsBy_91 rfl (lv_at hl 1 rfl) ?_
  obtain ⟨hT1, hf⟩ := gt_inv hf
  obtain ⟨a2, hP3, hf⟩ := lp_inv hf
  refine r_getP C hw cf10 6 (by decide) rfl hT1 hP3 fl_X10_26 dX10_nestsBy_92 ?_
  refine lv_iload_n hx hb dX10_nestsBy_95 rfl (lv_at hl 3 rfl) ?_
  refine lv_iload hx hb dX10_nestsBy_96 (lv_at hl 0 rfl) ?_
  refine lv_if_eq (tgt := 105) hx hb dX10_nestsBy_98 (by decide) (fun hc => ?_) (fun hc => ?_)
  · have hf := if_p hc hf
    refine lv_iconst (v := (-1)) hx hb dX10_nestsBy_105 (by decide) ?_
    exact t_X10_nestsBy_106 C hK23 M x0 x1 x2 x3 s0 a2 x2 (-1) _ _ _ hf hw (lv_sub hl [1, 2, 3, 4, 0] rfl)
  · have hf := if_n hc hf
    refine lv_iload_n hx hb dX10_nestsBy_101 rfl (lv_at hl 4 rfl) ?_
    refine lv_goto (tgt := 106) hx hb dX10_nestsBy_102 (by decide) ?_
    exact t_X10_nestsBy_106 C hK23 M x0 x1 x2 x3 s0 a2 x2 x3 _ _ _ hf hw (lv_sub hl [1, 2, 3, 4, 0] rfl)
def f_X10_nestsBy_58 (K23 : Mem → Nat → Int32 → Int32 → Option (Unit × Mem)) (M : Mem) (x0 : Nat) (x1 : Int32) (x2 : Int32) (s0 : Int32) : Option (Unit × Mem) := gt (mT M x0) 11 (cl (f_X10_isChimney M x0 s0) (fun r2 M1 => (if r2 = 0 then f_X10_nestsBy_89 K23 M1 x0 x1 x2 s0 0 else gt (mT M1 x0) 11 (cl (f_X10_isAway M1 x0 x2) (fun r6 M5 => (if r6 = 0 then gt (mT M5 x0) 11 (lp (mP M5 x0 5) (fun a10 => gt (mT M5 a10) 20 (gd (ib s0 (mL M5 a10)) ((if 0 ≤ (mI M5 a10 s0.toNatClampNeg) then f_X10_nestsBy_89 K23 M5 x0 x1 x2 s0 0 else f_X10_nestsBy_89 K23 M5 x0 x1 x2 s0 1))))) else f_X10_nestsBy_89 K23 M5 x0 x1 x2 s0 0))))))
set_option maxHeartbeats 4000000 in
set_option maxRecDepth 100000 in
theorem t_X10_nestsBy_58 {l : Launch} {p : Program} {e : Env} {s : State} {m : MethodId} {args : Array Value} {below : List Frame} {meth : Method} {c : Code} {G : Gd} {A : Nat → Prop} {ad : Nat → Nat} (C : Cx G A p s m args meth c RX10 cX10_nestsBy 5 none) {M' : Mem} {K23 : Mem → Nat → Int32 → Int32 → Option (Unit × Mem)} (hK23 : ∀ (M : Mem) (x0 : Nat) (x1 : Int32) (x2 : Int32) (H : Heap) (locs : List Loc) (ls : Array Slot), K23 M x0 x1 x2 = some ((), M') → Wd G A ad s.heap M H locs → lv_has ls 5 [(0, .ref (ad x0)), (1, .int x1), (2, .int x2)] → W p l e rm_X10_nestsBy s m args below meth c H locs 0 0 (MQ below (QV G A ad M') args s 0 0 A) (F0 m 23 ls [])) : ∀ (M : Mem) (x0 : Nat) (x1 : Int32) (x2 : Int32) (s0 : Int32) (H : Heap) (locs : List Loc) (ls : Array Slot), f_X10_nestsBy_58 K23 M x0 x1 x2 s0 = some ((), M') → Wd G A ad s.heap M H locs → lv_has ls 5 [(0, .ref (ad x0)), (1, .int x1), (2, .int x2)] → W p l e rm_X10_nestsBy s m args below meth c H locs 0 0 (MQ below (QV G A ad M') args s 0 0 A) (F0 m 58 ls [.int s0]) := by
  obtain ⟨hx, hb, -⟩ := id C
  intro M x0 x1 x2 s0 H locs ls hf hw hl
  rw [f_X10_nestsBy_58] at hf
  refine lv_istore_n (lv' := [(3, .int s0), (0, .ref (ad x0)), (1, .int x1), (2, .int x2)]) hx hb dX10_nestsBy_58 rfl hl (by decide) rfl (fun ls hl => ?_)
  refine lv_aload_n hx hb dX10_nestsBy_59 rfl (lv_at hl 1 rfl) ?_
  refine lv_iload_n hx hb dX10_nestsBy_60 rfl (lv_at hl 0 rfl) ?_
  obtain ⟨hT4, hf⟩ := gt_inv hf
  obtain ⟨r2, M1, hc3, hf⟩ := cl_inv hf
  refine fin_I (run_V C hw mf_X10_isChimney mv_X10_isChimney ml_X10_107 cf10 hT4 (c_X10_isChimney l G A ad hc3) (As := [.int s0]) (rest := []) hl.1 rfl rfl (Nat.le_of_ble_eq_true rfl) ⟨rfl, rfl, Nat.le_of_ble_eq_true rfl, Nat.le_of_ble_eq_true rfl⟩ ⟨Nat.zero_le _, Nat.zero_le _⟩ dX10_nestsBy_61) hw (fun H locs hw => ?_)
  refine lv_if_eq (tgt := 88) hx hb dX10_nestsBy_64 (by decide) (fun hc => ?_) (fun hc => ?_)
  · have hf := if_p hc hf
    refine lv_iconst (v := 0) hx hb dX10_nestsBy_88 (by decide) ?_
    exact t_X10_nestsBy_89 C hK23 M1 x0 x1 x2 s0 0 _ _ _ hf hw (lv_sub hl [1, 2, 3, 0] rfl)
  · have hf := if_n hc hf
    refine lv_aload_n hx hb dX10_nestsBy_67 rfl (lv_at hl 1 rfl) ?_
    refine lv_iload_n hx hb dX10_nestsBy_68 rfl (lv_at hl 3 rfl) ?_
    obtain ⟨hT8, hf⟩ := gt_inv hf
    obtain ⟨r6, M5, hc7, hf⟩ := cl_inv hf
    refine fin_I (run_V C hw mf_X10_isAway mv_X10_isAway ml_X10_152 cf10 hT8 (c_X10_isAway l G A ad hc7) (As := [.int x2]) (rest := []) hl.1 rfl rfl (Nat.le_of_ble_eq_true rfl) ⟨rfl, rfl, Nat.le_of_ble_eq_true rfl, Nat.le_of_ble_eq_true rfl⟩ ⟨Nat.zero_le _, Nat.zero_le _⟩ dX10_nestsBy_69) hw (fun H locs hw => ?_)
    refine lv_if_ne (tgt := 88) hx hb dX10_nestsBy_72 (by decide) (fun hc => ?_) (fun hc => ?_)
    · have hf := if_n hc hf
      refine lv_iconst (v := 0) hx hb dX10_nestsBy_88 (by decide) ?_
      exact t_X10_nestsBy_89 C hK23 M5 x0 x1 x2 s0 0 _ _ _ hf hw (lv_sub hl [1, 2, 3, 0] rfl)
    · have hf := if_p hc hf
      refine lv_aload_n hx hb dX10_nestsBy_75 rfl (lv_at hl 1 rfl) ?_
      obtain ⟨hT9, hf⟩ := gt_inv hf
      obtain ⟨a10, hP11, hf⟩ := lp_inv hf
      refine r_getP C hw cf10 5 (by decide) rfl hT9 hP11 fl_X10_23 dX10_nestsBy_76 ?_
      refine lv_iload_n hx hb dX10_nestsBy_79 rfl (lv_at hl 0 rfl) ?_
      obtain ⟨hT12, hf⟩ := gt_inv hf
      obtain ⟨hg13, hf⟩ := gd_inv hf
      refine r_iald C hw hT12 hg13 dX10_nestsBy_80 ?_
      refine lv_if_ge (tgt := 88) hx hb dX10_nestsBy_81 (by decide) (fun hc => ?_) (fun hc => ?_)
      · have hf := if_p hc hf
        refine lv_iconst (v := 0) hx hb dX10_nestsBy_88 (by decide) ?_
        exact t_X10_nestsBy_89 C hK23 M5 x0 x1 x2 s0 0 _ _ _ hf hw (lv_sub hl [1, 2, 3, 0] rfl)
      · have hf := if_n hc hf
        refine lv_iconst (v := 1) hx hb dX10_nestsBy_84 (by decide) ?_
        refine lv_goto (tgt := 89) hx hb dX10_nestsBy_85 (by decide) ?_
        exact t_X10_nestsBy_89 C hK23 M5 x0 x1 x2 s0 1 _ _ _ hf hw (lv_sub hl [1, 2, 3, 0] rfl)
def f_X10_nestsBy_23 : Nat → Mem → Nat → Int32 → Int32 → Option (Unit × Mem)
  | 0, _, _, _, _ => none
  | n + 1, M, x0, x1, x2 => gt (mT M x0) 11 (lp (mP M x0 0) (fun a2 => gt (mT M a2) 20 (gd (ib 2 (mL M a2)) ((if (mI M a2 (2 : Int32).toNatClampNeg) ≤ x2 then some ((), M) else lp (mP M x0 28) (fun a6 => gt (mT M a6) 20 (gd (ib x1 (mL M a6)) ((if (mI M a6 x1.toNatClampNeg) ≤ x2 then f_X10_nestsBy_58 (f_X10_nestsBy_23 n) M x0 x1 x2 (-1) else lp (mP M x0 29) (fun a10 => gt (mT M a10) 20 (gd (ib ((24 * x1) + x2) (mL M a10)) (f_X10_nestsBy_58 (f_X10_nestsBy_23 n) M x0 x1 x2 (mI M a10 ((24 * x1) + x2).toNatClampNeg)))))))))))))
set_option maxHeartbeats 4000000 in
set_option maxRecDepth 100000 in
theorem t_X10_nestsBy_23 {l : Launch} {p : Program} {e : Env} {s : State} {m : MethodId} {args : Array Value} {below : List Frame} {meth : Method} {c : Code} {G : Gd} {A : Nat → Prop} {ad : Nat → Nat} (C : Cx G A p s m args meth c RX10 cX10_nestsBy 5 none) {M' : Mem} : ∀ (n : Nat) (M : Mem) (x0 : Nat) (x1 : Int32) (x2 : Int32) (H : Heap) (locs : List Loc) (ls : Array Slot), f_X10_nestsBy_23  n M x0 x1 x2 = some ((), M') → Wd G A ad s.heap M H locs → lv_has ls 5 [(0, .ref (ad x0)), (1, .int x1), (2, .int x2)] → W p l e rm_X10_nestsBy s m args below meth c H locs 0 0 (MQ below (QV G A ad M') args s 0 0 A) (F0 m 23 ls []) := by
  obtain ⟨hx, hb, -⟩ := id C
  intro n
  induction n with
  | zero =>
    intro M x0 x1 x2 H locs ls hf
    rw [f_X10_nestsBy_23] at hf
    exact absurd hf (fun h => nomatch h)
  | succ n ih =>
    intro M x0 x1 x2 H locs ls hf hw hl
    rw [f_X10_nestsBy_23] at hf
    refine lv_iload_n hx hb dX10_nestsBy_23 rfl (lv_at hl 2 rfl) ?_
    refine lv_aload_n hx hb dX10_nestsBy_24 rfl (lv_at hl 0 rfl) ?_
    obtain ⟨hT1, hf⟩ := gt_inv hf
    obtain ⟨a2, hP3, hf⟩ := lp_inv hf
    refine r_getP C hw cf10 0 (by decide) rfl hT1 hP3 fl_X10_9 dX10_nestsBy_25 ?_
    refine lv_iconst (v := 2) hx hb dX10_nestsBy_28 (by decide) ?_
    obtain ⟨hT4, hf⟩ := gt_inv hf
    obtain ⟨hg5, hf⟩ := gd_inv hf
    refine r_iald C hw hT4 hg5 dX10_nestsBy_29 ?_
    refine lv_icmp_ge (tgt := 125) hx hb dX10_nestsBy_30 (by decide) (fun hc => ?_) (fun hc => ?_)
    · have hf := if_p hc hf
      exact e_vret C hw hf dX10_nestsBy_125
    · have hf := if_n hc hf
      refine lv_iload_n hx hb dX10_nestsBy_33 rfl (lv_at hl 2 rfl) ?_
      refine lv_aload_n hx hb dX10_nestsBy_34 rfl (lv_at hl 0 rfl) ?_
      obtain ⟨a6, hP7, hf⟩ := lp_inv hf
      refine r_getP C hw cf10 28 (by decide) rfl hT1 hP7 fl_X10_64 dX10_nestsBy_35 ?_
      refine lv_iload_n hx hb dX10_nestsBy_38 rfl (lv_at hl 1 rfl) ?_
      obtain ⟨hT8, hf⟩ := gt_inv hf
      obtain ⟨hg9, hf⟩ := gd_inv hf
      refine r_iald C hw hT8 hg9 dX10_nestsBy_39 ?_
      refine lv_icmp_ge (tgt := 57) hx hb dX10_nestsBy_40 (by decide) (fun hc => ?_) (fun hc => ?_)
      · have hf := if_p hc hf
        refine lv_iconst (v := (-1)) hx hb dX10_nestsBy_57 (by decide) ?_
        exact t_X10_nestsBy_58 C ih M x0 x1 x2 (-1) _ _ _ hf hw (lv_sub hl [0, 1, 2] rfl)
      · have hf := if_n hc hf
        refine lv_aload_n hx hb dX10_nestsBy_43 rfl (lv_at hl 0 rfl) ?_
        obtain ⟨a10, hP11, hf⟩ := lp_inv hf
        refine r_getP C hw cf10 29 (by decide) rfl hT1 hP11 fl_X10_67 dX10_nestsBy_44 ?_
        refine lv_bipush (v := 24) hx hb dX10_nestsBy_47 (by decide) ?_
        refine lv_iload_n hx hb dX10_nestsBy_49 rfl (lv_at hl 1 rfl) ?_
        refine lv_imul hx hb dX10_nestsBy_50 ?_
        refine lv_iload_n hx hb dX10_nestsBy_51 rfl (lv_at hl 2 rfl) ?_
        refine lv_iadd hx hb dX10_nestsBy_52 ?_
        obtain ⟨hT12, hf⟩ := gt_inv hf
        obtain ⟨hg13, hf⟩ := gd_inv hf
        refine r_iald C hw hT12 hg13 dX10_nestsBy_53 ?_
        refine lv_goto (tgt := 58) hx hb dX10_nestsBy_54 (by decide) ?_
        exact t_X10_nestsBy_58 C ih M x0 x1 x2 (mI M a10 ((24 * x1) + x2).toNatClampNeg) _ _ _ hf hw (lv_sub hl [0, 1, 2] rfl)
def f_X10_nestsBy_2 : Nat → Mem → Nat → Int32 → Int32 → Option (Unit × Mem)
  | 0, _, _, _, _ => none
  | n + 1, M, x0, x1, x2 => (if 8 ≤ x2 then f_X10_nestsBy_23 FU M x0 x1 0 else gt (mT M x0) 11 (lp (mP M x0 5) (fun a2 => gt (mT M a2) 20 (gd (ib x2 (mL M a2)) (st (setI M a2 x2.toNatClampNeg (-1)) (fun M6 => f_X10_nestsBy_2 n M6 x0 x1 (x2 + 1)))))))
set_option maxHeartbeats 4000000 in
set_option maxRecDepth 100000 in
theorem t_X10_nestsBy_2 {l : Launch} {p : Program} {e : Env} {s : State} {m : MethodId} {args : Array Value} {below : List Frame} {meth : Method} {c : Code} {G : Gd} {A : Nat → Prop} {ad : Nat → Nat} (C : Cx G A p s m args meth c RX10 cX10_nestsBy 5 none) {M' : Mem} : ∀ (n : Nat) (M : Mem) (x0 : Nat) (x1 : Int32) (x2 : Int32) (H : Heap) (locs : List Loc) (ls : Array Slot), f_X10_nestsBy_2  n M x0 x1 x2 = some ((), M') → Wd G A ad s.heap M H locs → lv_has ls 5 [(0, .ref (ad x0)), (1, .int x1), (2, .int x2)] → W p l e rm_X10_nestsBy s m args below meth c H locs 0 0 (MQ below (QV G A ad M') args s 0 0 A) (F0 m 2 ls []) := by
  obtain ⟨hx, hb, -⟩ := id C
  intro n
  induction n with
  | zero =>
    intro M x0 x1 x2 H locs ls hf
    rw [f_X10_nestsBy_2] at hf
    exact absurd hf (fun h => nomatch h)
  | succ n ih =>
    intro M x0 x1 x2 H locs ls hf hw hl
    rw [f_X10_nestsBy_2] at hf
    refine lv_iload_n hx hb dX10_nestsBy_2 rfl (lv_at hl 2 rfl) ?_
    refine lv_bipush (v := 8) hx hb dX10_nestsBy_3 (by decide) ?_
    refine lv_icmp_ge (tgt := 21) hx hb dX10_nestsBy_5 (by decide) (fun hc => ?_) (fun hc => ?_)
    · have hf := if_p hc hf
      refine lv_iconst (v := 0) hx hb dX10_nestsBy_21 (by decide) ?_
      refine lv_istore_n (lv' := [(2, .int 0), (0, .ref (ad x0)), (1, .int x1)]) hx hb dX10_nestsBy_22 rfl hl (by decide) rfl (fun ls hl => ?_)
      exact t_X10_nestsBy_23 C FU M x0 x1 0 _ _ _ hf hw (lv_sub hl [1, 2, 0] rfl)
    · have hf := if_n hc hf
      refine lv_aload_n hx hb dX10_nestsBy_8 rfl (lv_at hl 0 rfl) ?_
      obtain ⟨hT1, hf⟩ := gt_inv hf
      obtain ⟨a2, hP3, hf⟩ := lp_inv hf
      refine r_getP C hw cf10 5 (by decide) rfl hT1 hP3 fl_X10_23 dX10_nestsBy_9 ?_
      refine lv_iload_n hx hb dX10_nestsBy_12 rfl (lv_at hl 2 rfl) ?_
      refine lv_iconst (v := (-1)) hx hb dX10_nestsBy_13 (by decide) ?_
      obtain ⟨hT4, hf⟩ := gt_inv hf
      obtain ⟨hg5, hf⟩ := gd_inv hf
      obtain ⟨M6, e7, hf⟩ := st_inv hf
      have g8 := sg_I e7
      refine r_iast C hw hT4 hg5 e7 dX10_nestsBy_14 (fun H locs hw => ?_)
      refine lv_iinc (v := (x2 + 1)) (lv' := [(2, .int (x2 + 1)), (0, .ref (ad x0)), (1, .int x1)]) hx hb dX10_nestsBy_15 hl (k := 2) rfl rfl (by decide) rfl (fun ls hl => ?_)
      refine lv_goto (tgt := 2) hx hb dX10_nestsBy_18 (by decide) ?_
      exact ih M6 x0 x1 (x2 + 1) _ _ _ hf hw (lv_sub hl [1, 2, 0] rfl)
def f_X10_nestsBy (M : Mem) (x0 : Nat) (x1 : Int32) : Option (Unit × Mem) := f_X10_nestsBy_2 FU M x0 x1 0
set_option maxHeartbeats 4000000 in
set_option maxRecDepth 100000 in
theorem c_X10_nestsBy (l : Launch) (G : Gd) (A : Nat → Prop) (ad : Nat → Nat) {M : Mem} {x0 : Nat} {x1 : Int32}  {M' : Mem} (hf : f_X10_nestsBy M x0 x1 = some ((), M')) : Ct l yX10_nestsBy cX10_nestsBy 5 none rm_X10_nestsBy [.ref (ad x0), .int x1] G A ad M (QV G A ad M') 0 0 := by
  refine ct_start (by decide) (Nat.le_of_ble_eq_true rfl) ?_
  intro p e s m args below meth c ls C hin hw hl
  have C : Cx G A p s m args meth c RX10 cX10_nestsBy 5 none := C
  have hl : lv_has ls 5 [(0, .ref (ad x0)), (1, .int x1)] := hl
  obtain ⟨hx, hb, -⟩ := id C
  rw [f_X10_nestsBy] at hf
  refine lv_iconst (v := 0) hx hb dX10_nestsBy_0 (by decide) ?_
  refine lv_istore_n (lv' := [(2, .int 0), (0, .ref (ad x0)), (1, .int x1)]) hx hb dX10_nestsBy_1 rfl hl (by decide) rfl (fun ls hl => ?_)
  exact t_X10_nestsBy_2 C FU M x0 x1 0 _ _ _ hf hw (lv_sub hl [1, 2, 0] rfl)
/-! StorkVoteModel.wouldRather(II)Z -/
abbrev rm_X10_wouldRather : Room := { frames := 3, cells := 0, slots := 0, locals := 72 }
def f_X10_wouldRather_48 (M : Mem) (x0 : Nat) (x1 : Int32) (x2 : Int32) : Option (Int32 × Mem) := gt (mT M x0) 11 (lp (mP M x0 5) (fun a2 => gt (mT M a2) 20 (gd (ib x2 (mL M a2)) ((if (mI M a2 x2.toNatClampNeg) < 0 then some (1, M) else cl (f_X10_strong M x0 x1) (fun r7 M6 => gt (mT M6 x0) 11 (cl (f_X10_strong M6 x0 (mI M a2 x2.toNatClampNeg)) (fun r10 M9 => (if r10 < r7 then some (1, M9) else gt (mT M9 x0) 11 (cl (f_X10_strong M9 x0 x1) (fun r14 M13 => gt (mT M13 x0) 11 (cl (f_X10_strong M13 x0 (mI M a2 x2.toNatClampNeg)) (fun r18 M17 => (if r14 = r18 then (if (mI M a2 x2.toNatClampNeg) ≤ x1 then some (0, M17) else some (1, M17)) else some (0, M17)))))))))))))))
set_option maxHeartbeats 4000000 in
set_option maxRecDepth 100000 in
theorem t_X10_wouldRather_48 {l : Launch} {p : Program} {e : Env} {s : State} {m : MethodId} {args : Array Value} {below : List Frame} {meth : Method} {c : Code} {G : Gd} {A : Nat → Prop} {ad : Nat → Nat} (C : Cx G A p s m args meth c RX10 cX10_wouldRather 6 (some .boolean)) {r : Int32} {M' : Mem} : ∀ (M : Mem) (x0 : Nat) (x1 : Int32) (x2 : Int32) (H : Heap) (locs : List Loc) (ls : Array Slot), f_X10_wouldRather_48  M x0 x1 x2 = some (r, M') → Wd G A ad s.heap M H locs → lv_has ls 6 [(0, .ref (ad x0)), (1, .int x1), (2, .int x2)] → W p l e rm_X10_wouldRather s m args below meth c H locs 0 0 (MQ below (QI G A ad r M') args s 0 0 A) (F0 m 48 ls []) := by
  obtain ⟨hx, hb, -⟩ := id C
  intro M x0 x1 x2 H locs ls hf hw hl
  rw [f_X10_wouldRather_48] at hf
  refine lv_aload_n hx hb dX10_wouldRather_48 rfl (lv_at hl 0 rfl) ?_
  obtain ⟨hT1, hf⟩ := gt_inv hf
  obtain ⟨a2, hP3, hf⟩ := lp_inv hf
  refine r_getP C hw cf10 5 (by decide) rfl hT1 hP3 fl_X10_23 dX10_wouldRather_49 ?_
  refine lv_iload_n hx hb dX10_wouldRather_52 rfl (lv_at hl 2 rfl) ?_
  obtain ⟨hT4, hf⟩ := gt_inv hf
  obtain ⟨hg5, hf⟩ := gd_inv hf
  refine r_iald C hw hT4 hg5 dX10_wouldRather_53 ?_
  refine lv_istore (lv' := [(5, .int (mI M a2 x2.toNatClampNeg)), (0, .ref (ad x0)), (1, .int x1), (2, .int x2)]) hx hb dX10_wouldRather_54 hl (by decide) rfl (fun ls hl => ?_)
  refine lv_iload hx hb dX10_wouldRather_56 (lv_at hl 0 rfl) ?_
  refine lv_if_lt (tgt := 95) hx hb dX10_wouldRather_58 (by decide) (fun hc => ?_) (fun hc => ?_)
  · have hf := if_p hc hf
    refine lv_iconst (v := 1) hx hb dX10_wouldRather_95 (by decide) ?_
    refine lv_goto (tgt := 100) hx hb dX10_wouldRather_96 (by decide) ?_
    exact e_zret C hw rfl hf dX10_wouldRather_100
  · have hf := if_n hc hf
    refine lv_aload_n hx hb dX10_wouldRather_61 rfl (lv_at hl 1 rfl) ?_
    refine lv_iload_n hx hb dX10_wouldRather_62 rfl (lv_at hl 2 rfl) ?_
    obtain ⟨r7, M6, hc8, hf⟩ := cl_inv hf
    refine fin_I (run_V C hw mf_X10_strong mv_X10_strong ml_X10_155 cf10 hT1 (c_X10_strong l G A ad hc8) (As := [.int x1]) (rest := []) hl.1 rfl rfl (Nat.le_of_ble_eq_true rfl) ⟨rfl, rfl, Nat.le_of_ble_eq_true rfl, Nat.le_of_ble_eq_true rfl⟩ ⟨Nat.zero_le _, Nat.zero_le _⟩ dX10_wouldRather_63) hw (fun H locs hw => ?_)
    refine lv_aload_n hx hb dX10_wouldRather_66 rfl (lv_at hl 1 rfl) ?_
    refine lv_iload hx hb dX10_wouldRather_67 (lv_at hl 0 rfl) ?_
    obtain ⟨hT12, hf⟩ := gt_inv hf
    obtain ⟨r10, M9, hc11, hf⟩ := cl_inv hf
    refine fin_I (run_V C hw mf_X10_strong mv_X10_strong ml_X10_155 cf10 hT12 (c_X10_strong l G A ad hc11) (As := [.int (mI M a2 x2.toNatClampNeg)]) (rest := [.int r7]) hl.1 rfl rfl (Nat.le_of_ble_eq_true rfl) ⟨rfl, rfl, Nat.le_of_ble_eq_true rfl, Nat.le_of_ble_eq_true rfl⟩ ⟨Nat.zero_le _, Nat.zero_le _⟩ dX10_wouldRather_69) hw (fun H locs hw => ?_)
    refine lv_icmp_gt (tgt := 95) hx hb dX10_wouldRather_72 (by decide) (fun hc => ?_) (fun hc => ?_)
    · have hf := if_p hc hf
      refine lv_iconst (v := 1) hx hb dX10_wouldRather_95 (by decide) ?_
      refine lv_goto (tgt := 100) hx hb dX10_wouldRather_96 (by decide) ?_
      exact e_zret C hw rfl hf dX10_wouldRather_100
    · have hf := if_n hc hf
      refine lv_aload_n hx hb dX10_wouldRather_75 rfl (lv_at hl 1 rfl) ?_
      refine lv_iload_n hx hb dX10_wouldRather_76 rfl (lv_at hl 2 rfl) ?_
      obtain ⟨hT16, hf⟩ := gt_inv hf
      obtain ⟨r14, M13, hc15, hf⟩ := cl_inv hf
      refine fin_I (run_V C hw mf_X10_strong mv_X10_strong ml_X10_155 cf10 hT16 (c_X10_strong l G A ad hc15) (As := [.int x1]) (rest := []) hl.1 rfl rfl (Nat.le_of_ble_eq_true rfl) ⟨rfl, rfl, Nat.le_of_ble_eq_true rfl, Nat.le_of_ble_eq_true rfl⟩ ⟨Nat.zero_le _, Nat.zero_le _⟩ dX10_wouldRather_77) hw (fun H locs hw => ?_)
      refine lv_aload_n hx hb dX10_wouldRather_80 rfl (lv_at hl 1 rfl) ?_
      refine lv_iload hx hb dX10_wouldRather_81 (lv_at hl 0 rfl) ?_
      obtain ⟨hT20, hf⟩ := gt_inv hf
      obtain ⟨r18, M17, hc19, hf⟩ := cl_inv hf
      refine fin_I (run_V C hw mf_X10_strong mv_X10_strong ml_X10_155 cf10 hT20 (c_X10_strong l G A ad hc19) (As := [.int (mI M a2 x2.toNatClampNeg)]) (rest := [.int r14]) hl.1 rfl rfl (Nat.le_of_ble_eq_true rfl) ⟨rfl, rfl, Nat.le_of_ble_eq_true rfl, Nat.le_of_ble_eq_true rfl⟩ ⟨Nat.zero_le _, Nat.zero_le _⟩ dX10_wouldRather_83) hw (fun H locs hw => ?_)
      refine lv_icmp_ne (tgt := 99) hx hb dX10_wouldRather_86 (by decide) (fun hc => ?_) (fun hc => ?_)
      · have hf := if_n hc hf
        refine lv_iconst (v := 0) hx hb dX10_wouldRather_99 (by decide) ?_
        exact e_zret C hw rfl hf dX10_wouldRather_100
      · have hf := if_p hc hf
        refine lv_iload_n hx hb dX10_wouldRather_89 rfl (lv_at hl 2 rfl) ?_
        refine lv_iload hx hb dX10_wouldRather_90 (lv_at hl 0 rfl) ?_
        refine lv_icmp_ge (tgt := 99) hx hb dX10_wouldRather_92 (by decide) (fun hc => ?_) (fun hc => ?_)
        · have hf := if_p hc hf
          refine lv_iconst (v := 0) hx hb dX10_wouldRather_99 (by decide) ?_
          exact e_zret C hw rfl hf dX10_wouldRather_100
        · have hf := if_n hc hf
          refine lv_iconst (v := 1) hx hb dX10_wouldRather_95 (by decide) ?_
          refine lv_goto (tgt := 100) hx hb dX10_wouldRather_96 (by decide) ?_
          exact e_zret C hw rfl hf dX10_wouldRather_100
def f_X10_wouldRather (M : Mem) (x0 : Nat) (x1 : Int32) (x2 : Int32) : Option (Int32 × Mem) := gt (mT M x0) 11 (lp (mP M x0 6) (fun a2 => gt (mT M a2) 20 (gd (ib x1 (mL M a2)) (cl (f_X10_likesOf M x0 x1 x2) (fun r7 M6 => (if (mI M a2 x1.toNatClampNeg) = x2 then some (0, M6) else gt (mT M6 x0) 11 (lp (mP M6 x0 0) (fun a10 => gt (mT M6 a10) 20 (gd (ib 4 (mL M6 a10)) ((if r7 < (mI M6 a10 (4 : Int32).toNatClampNeg) then some (0, M6) else (if (mI M a2 x1.toNatClampNeg) < 0 then f_X10_wouldRather_48 M6 x0 x1 x2 else cl (f_X10_likesOf M6 x0 x1 (mI M a2 x1.toNatClampNeg)) (fun r15 M14 => (if r15 < r7 then f_X10_wouldRather_48 M14 x0 x1 x2 else some (0, M14)))))))))))))))
set_option maxHeartbeats 4000000 in
set_option maxRecDepth 100000 in
theorem c_X10_wouldRather (l : Launch) (G : Gd) (A : Nat → Prop) (ad : Nat → Nat) {M : Mem} {x0 : Nat} {x1 : Int32} {x2 : Int32}  {r : Int32} {M' : Mem} (hf : f_X10_wouldRather M x0 x1 x2 = some (r, M')) : Ct l yX10_wouldRather cX10_wouldRather 6 (some .boolean) rm_X10_wouldRather [.ref (ad x0), .int x1, .int x2] G A ad M (QI G A ad r M') 0 0 := by
  refine ct_start (by decide) (Nat.le_of_ble_eq_true rfl) ?_
  intro p e s m args below meth c ls C hin hw hl
  have C : Cx G A p s m args meth c RX10 cX10_wouldRather 6 (some .boolean) := C
  have hl : lv_has ls 6 [(0, .ref (ad x0)), (1, .int x1), (2, .int x2)] := hl
  obtain ⟨hx, hb, -⟩ := id C
  rw [f_X10_wouldRather] at hf
  refine lv_aload_n hx hb dX10_wouldRather_0 rfl (lv_at hl 0 rfl) ?_
  obtain ⟨hT1, hf⟩ := gt_inv hf
  obtain ⟨a2, hP3, hf⟩ := lp_inv hf
  refine r_getP C hw cf10 6 (by decide) rfl hT1 hP3 fl_X10_26 dX10_wouldRather_1 ?_
  refine lv_iload_n hx hb dX10_wouldRather_4 rfl (lv_at hl 1 rfl) ?_
  obtain ⟨hT4, hf⟩ := gt_inv hf
  obtain ⟨hg5, hf⟩ := gd_inv hf
  refine r_iald C hw hT4 hg5 dX10_wouldRather_5 ?_
  refine lv_istore_n (lv' := [(3, .int (mI M a2 x1.toNatClampNeg)), (0, .ref (ad x0)), (1, .int x1), (2, .int x2)]) hx hb dX10_wouldRather_6 rfl hl (by decide) rfl (fun ls hl => ?_)
  refine lv_aload_n hx hb dX10_wouldRather_7 rfl (lv_at hl 1 rfl) ?_
  refine lv_iload_n hx hb dX10_wouldRather_8 rfl (lv_at hl 2 rfl) ?_
  refine lv_iload_n hx hb dX10_wouldRather_9 rfl (lv_at hl 3 rfl) ?_
  obtain ⟨r7, M6, hc8, hf⟩ := cl_inv hf
  refine fin_I (run_V C hw mf_X10_likesOf mv_X10_likesOf ml_X10_144 cf10 hT1 (c_X10_likesOf l G A ad hc8) (As := [.int x1, .int x2]) (rest := []) hl.1 rfl rfl (Nat.le_of_ble_eq_true rfl) ⟨rfl, rfl, Nat.le_of_ble_eq_true rfl, Nat.le_of_ble_eq_true rfl⟩ ⟨Nat.zero_le _, Nat.zero_le _⟩ dX10_wouldRather_10) hw (fun H locs hw => ?_)
  refine lv_istore (lv' := [(4, .int r7), (3, .int (mI M a2 x1.toNatClampNeg)), (0, .ref (ad x0)), (1, .int x1), (2, .int x2)]) hx hb dX10_wouldRather_13 hl (by decide) rfl (fun ls hl => ?_)
  refine lv_iload_n hx hb dX10_wouldRather_15 rfl (lv_at hl 1 rfl) ?_
  refine lv_iload_n hx hb dX10_wouldRather_16 rfl (lv_at hl 4 rfl) ?_
  refine lv_icmp_eq (tgt := 46) hx hb dX10_wouldRather_17 (by decide) (fun hc => ?_) (fun hc => ?_)
  · have hf := if_p hc hf
    refine lv_iconst (v := 0) hx hb dX10_wouldRather_46 (by decide) ?_
    exact e_zret C hw rfl hf dX10_wouldRather_47
  · have hf := if_n hc hf
    refine lv_iload hx hb dX10_wouldRather_20 (lv_at hl 0 rfl) ?_
    refine lv_aload_n hx hb dX10_wouldRather_22 rfl (lv_at hl 2 rfl) ?_
    obtain ⟨hT9, hf⟩ := gt_inv hf
    obtain ⟨a10, hP11, hf⟩ := lp_inv hf
    refine r_getP C hw cf10 0 (by decide) rfl hT9 hP11 fl_X10_9 dX10_wouldRather_23 ?_
    refine lv_iconst (v := 4) hx hb dX10_wouldRather_26 (by decide) ?_
    obtain ⟨hT12, hf⟩ := gt_inv hf
    obtain ⟨hg13, hf⟩ := gd_inv hf
    refine r_iald C hw hT12 hg13 dX10_wouldRather_27 ?_
    refine lv_icmp_lt (tgt := 46) hx hb dX10_wouldRather_28 (by decide) (fun hc => ?_) (fun hc => ?_)
    · have hf := if_p hc hf
      refine lv_iconst (v := 0) hx hb dX10_wouldRather_46 (by decide) ?_
      exact e_zret C hw rfl hf dX10_wouldRather_47
    · have hf := if_n hc hf
      refine lv_iload_n hx hb dX10_wouldRather_31 rfl (lv_at hl 1 rfl) ?_
      refine lv_if_lt (tgt := 48) hx hb dX10_wouldRather_32 (by decide) (fun hc => ?_) (fun hc => ?_)
      · have hf := if_p hc hf
        exact t_X10_wouldRather_48 C M6 x0 x1 x2 _ _ _ hf hw (lv_sub hl [2, 3, 4] rfl)
      · have hf := if_n hc hf
        refine lv_iload hx hb dX10_wouldRather_35 (lv_at hl 0 rfl) ?_
        refine lv_aload_n hx hb dX10_wouldRather_37 rfl (lv_at hl 2 rfl) ?_
        refine lv_iload_n hx hb dX10_wouldRather_38 rfl (lv_at hl 3 rfl) ?_
        refine lv_iload_n hx hb dX10_wouldRather_39 rfl (lv_at hl 1 rfl) ?_
        obtain ⟨r15, M14, hc16, hf⟩ := cl_inv hf
        refine fin_I (run_V C hw mf_X10_likesOf mv_X10_likesOf ml_X10_144 cf10 hT9 (c_X10_likesOf l G A ad hc16) (As := [.int x1, .int (mI M a2 x1.toNatClampNeg)]) (rest := [.int r7]) hl.1 rfl rfl (Nat.le_of_ble_eq_true rfl) ⟨rfl, rfl, Nat.le_of_ble_eq_true rfl, Nat.le_of_ble_eq_true rfl⟩ ⟨Nat.zero_le _, Nat.zero_le _⟩ dX10_wouldRather_40) hw (fun H locs hw => ?_)
        refine lv_icmp_gt (tgt := 48) hx hb dX10_wouldRather_43 (by decide) (fun hc => ?_) (fun hc => ?_)
        · have hf := if_p hc hf
          exact t_X10_wouldRather_48 C M14 x0 x1 x2 _ _ _ hf hw (lv_sub hl [2, 3, 4] rfl)
        · have hf := if_n hc hf
          refine lv_iconst (v := 0) hx hb dX10_wouldRather_46 (by decide) ?_
          exact e_zret C hw rfl hf dX10_wouldRather_47
/-! StorkVoteModel.isSheet(I)Z -/
abbrev rm_X10_isSheet : Room := { frames := 1, cells := 0, slots := 0, locals := 22 }
def f_X10_isSheet (M : Mem) (x0 : Int32) : Option (Int32 × Mem) := cl (f_X10_in M x0 0 3) (fun r2 M1 => gd (isB r2) (some (r2, M1)))
set_option maxHeartbeats 4000000 in
set_option maxRecDepth 100000 in
theorem c_X10_isSheet (l : Launch) (G : Gd) (A : Nat → Prop) (ad : Nat → Nat) {M : Mem} {x0 : Int32}  {r : Int32} {M' : Mem} (hf : f_X10_isSheet M x0 = some (r, M')) : Ct l yX10_isSheet cX10_isSheet 1 (some .boolean) rm_X10_isSheet [.int x0] G A ad M (QI G A ad r M') 0 0 := by
  refine ct_start (by decide) (Nat.le_of_ble_eq_true rfl) ?_
  intro p e s m args below meth c ls C hin hw hl
  have C : Cx G A p s m args meth c RX10 cX10_isSheet 1 (some .boolean) := C
  have hl : lv_has ls 1 [(0, .int x0)] := hl
  obtain ⟨hx, hb, -⟩ := id C
  rw [f_X10_isSheet] at hf
  refine lv_iload_n hx hb dX10_isSheet_0 rfl (lv_at hl 0 rfl) ?_
  refine lv_iconst (v := 0) hx hb dX10_isSheet_1 (by decide) ?_
  refine lv_iconst (v := 3) hx hb dX10_isSheet_2 (by decide) ?_
  obtain ⟨r2, M1, hc3, hf⟩ := cl_inv hf
  refine fin_I (run_S C hw mf_X10_in ms_X10_in ml_X10_89 (c_X10_in l G A ad hc3) (As := [.int x0, .int 0, .int 3]) (rest := []) hl.1 rfl rfl (Nat.le_of_ble_eq_true rfl) ⟨rfl, rfl, Nat.le_of_ble_eq_true rfl, Nat.le_of_ble_eq_true rfl⟩ ⟨Nat.zero_le _, Nat.zero_le _⟩ dX10_isSheet_3) hw (fun H locs hw => ?_)
  obtain ⟨hg4, hf⟩ := gd_inv hf
  exact e_zret C hw hg4 hf dX10_isSheet_6
/-! StorkVoteModel.rather(I)I -/
abbrev rm_X10_rather : Room := { frames := 4, cells := 0, slots := 0, locals := 97 }
def f_X10_rather_41 (K29 : Mem → Nat → Int32 → Option (Int32 × Mem)) : Nat → Mem → Nat → Int32 → Int32 → Option (Int32 × Mem)
  | 0, _, _, _, _ => none
  | n + 1, M, x0, x2, x3 => gt (mT M x0) 11 (lp (mP M x0 0) (fun a2 => gt (mT M a2) 20 (gd (ib 1 (mL M a2)) ((if (mI M a2 (1 : Int32).toNatClampNeg) ≤ x3 then K29 M x0 (x2 + 1) else cl (f_X10_isAway M x0 x2) (fun r7 M6 => (if r7 = 0 then gt (mT M6 x0) 11 (cl (f_X10_wouldRather M6 x0 x2 x3) (fun r10 M9 => (if r10 = 0 then f_X10_rather_41 K29 n M9 x0 x2 (x3 + 1) else some (((10 * x2) + x3), M9)))) else K29 M6 x0 (x2 + 1))))))))
set_option maxHeartbeats 4000000 in
set_option maxRecDepth 100000 in
theorem t_X10_rather_41 {l : Launch} {p : Program} {e : Env} {s : State} {m : MethodId} {args : Array Value} {below : List Frame} {meth : Method} {c : Code} {G : Gd} {A : Nat → Prop} {ad : Nat → Nat} (C : Cx G A p s m args meth c RX10 cX10_rather 4 (some .int)) {r : Int32} {M' : Mem} {K29 : Mem → Nat → Int32 → Option (Int32 × Mem)} (hK29 : ∀ (M : Mem) (x0 : Nat) (x2 : Int32) (H : Heap) (locs : List Loc) (ls : Array Slot), K29 M x0 x2 = some (r, M') → Wd G A ad s.heap M H locs → lv_has ls 4 [(0, .ref (ad x0)), (2, .int x2)] → W p l e rm_X10_rather s m args below meth c H locs 0 0 (MQ below (QI G A ad r M') args s 0 0 A) (F0 m 29 ls [])) : ∀ (n : Nat) (M : Mem) (x0 : Nat) (x2 : Int32) (x3 : Int32) (H : Heap) (locs : List Loc) (ls : Array Slot), f_X10_rather_41 K29 n M x0 x2 x3 = some (r, M') → Wd G A ad s.heap M H locs → lv_has ls 4 [(0, .ref (ad x0)), (2, .int x2), (3, .int x3)] → W p l e rm_X10_rather s m args below meth c H locs 0 0 (MQ below (QI G A ad r M') args s 0 0 A) (F0 m 41 ls []) := by
  obtain ⟨hx, hb, -⟩ := id C
  intro n
  induction n with
  | zero =>
    intro M x0 x2 x3 H locs ls hf
    rw [f_X10_rather_41] at hf
    exact absurd hf (fun h => nomatch h)
  | succ n ih =>
    intro M x0 x2 x3 H locs ls hf hw hl
    rw [f_X10_rather_41] at hf
    refine lv_iload_n hx hb dX10_rather_41 rfl (lv_at hl 2 rfl) ?_
    refine lv_aload_n hx hb dX10_rather_42 rfl (lv_at hl 0 rfl) ?_
    obtain ⟨hT1, hf⟩ := gt_inv hf
    obtain ⟨a2, hP3, hf⟩ := lp_inv hf
    refine r_getP C hw cf10 0 (by decide) rfl hT1 hP3 fl_X10_9 dX10_rather_43 ?_
    refine lv_iconst (v := 1) hx hb dX10_rather_46 (by decide) ?_
    obtain ⟨hT4, hf⟩ := gt_inv hf
    obtain ⟨hg5, hf⟩ := gd_inv hf
    refine r_iald C hw hT4 hg5 dX10_rather_47 ?_
    refine lv_icmp_ge (tgt := 81) hx hb dX10_rather_48 (by decide) (fun hc => ?_) (fun hc => ?_)
    · have hf := if_p hc hf
      refine lv_iinc (v := (x2 + 1)) (lv' := [(2, .int (x2 + 1)), (0, .ref (ad x0)), (3, .int x3)]) hx hb dX10_rather_81 hl (k := 1) rfl rfl (by decide) rfl (fun ls hl => ?_)
      refine lv_goto (tgt := 29) hx hb dX10_rather_84 (by decide) ?_
      exact hK29 M x0 (x2 + 1) _ _ _ hf hw (lv_sub hl [1, 0] rfl)
    · have hf := if_n hc hf
      refine lv_aload_n hx hb dX10_rather_51 rfl (lv_at hl 0 rfl) ?_
      refine lv_iload_n hx hb dX10_rather_52 rfl (lv_at hl 1 rfl) ?_
      obtain ⟨r7, M6, hc8, hf⟩ := cl_inv hf
      refine fin_I (run_V C hw mf_X10_isAway mv_X10_isAway ml_X10_152 cf10 hT1 (c_X10_isAway l G A ad hc8) (As := [.int x2]) (rest := []) hl.1 rfl rfl (Nat.le_of_ble_eq_true rfl) ⟨rfl, rfl, Nat.le_of_ble_eq_true rfl, Nat.le_of_ble_eq_true rfl⟩ ⟨Nat.zero_le _, Nat.zero_le _⟩ dX10_rather_53) hw (fun H locs hw => ?_)
      refine lv_if_ne (tgt := 81) hx hb dX10_rather_56 (by decide) (fun hc => ?_) (fun hc => ?_)
      · have hf := if_n hc hf
        refine lv_iinc (v := (x2 + 1)) (lv' := [(2, .int (x2 + 1)), (0, .ref (ad x0)), (3, .int x3)]) hx hb dX10_rather_81 hl (k := 1) rfl rfl (by decide) rfl (fun ls hl => ?_)
        refine lv_goto (tgt := 29) hx hb dX10_rather_84 (by decide) ?_
        exact hK29 M6 x0 (x2 + 1) _ _ _ hf hw (lv_sub hl [1, 0] rfl)
      · have hf := if_p hc hf
        refine lv_aload_n hx hb dX10_rather_59 rfl (lv_at hl 0 rfl) ?_
        refine lv_iload_n hx hb dX10_rather_60 rfl (lv_at hl 1 rfl) ?_
        refine lv_iload_n hx hb dX10_rather_61 rfl (lv_at hl 2 rfl) ?_
        obtain ⟨hT12, hf⟩ := gt_inv hf
        obtain ⟨r10, M9, hc11, hf⟩ := cl_inv hf
        refine fin_I (run_V C hw mf_X10_wouldRather mv_X10_wouldRather ml_X10_196 cf10 hT12 (c_X10_wouldRather l G A ad hc11) (As := [.int x2, .int x3]) (rest := []) hl.1 rfl rfl (Nat.le_of_ble_eq_true rfl) ⟨rfl, rfl, Nat.le_of_ble_eq_true rfl, Nat.le_of_ble_eq_true rfl⟩ ⟨Nat.zero_le _, Nat.zero_le _⟩ dX10_rather_62) hw (fun H locs hw => ?_)
        refine lv_if_eq (tgt := 75) hx hb dX10_rather_65 (by decide) (fun hc => ?_) (fun hc => ?_)
        · have hf := if_p hc hf
          refine lv_iinc (v := (x3 + 1)) (lv' := [(3, .int (x3 + 1)), (0, .ref (ad x0)), (2, .int x2)]) hx hb dX10_rather_75 hl (k := 2) rfl rfl (by decide) rfl (fun ls hl => ?_)
          refine lv_goto (tgt := 41) hx hb dX10_rather_78 (by decide) ?_
          exact ih M9 x0 x2 (x3 + 1) _ _ _ hf hw (lv_sub hl [1, 2, 0] rfl)
        · have hf := if_n hc hf
          refine lv_bipush (v := 10) hx hb dX10_rather_68 (by decide) ?_
          refine lv_iload_n hx hb dX10_rather_70 rfl (lv_at hl 1 rfl) ?_
          refine lv_imul hx hb dX10_rather_71 ?_
          refine lv_iload_n hx hb dX10_rather_72 rfl (lv_at hl 2 rfl) ?_
          refine lv_iadd hx hb dX10_rather_73 ?_
          exact e_iret C hw hf dX10_rather_74
def f_X10_rather_29 : Nat → Mem → Nat → Int32 → Option (Int32 × Mem)
  | 0, _, _, _ => none
  | n + 1, M, x0, x2 => gt (mT M x0) 11 (lp (mP M x0 0) (fun a2 => gt (mT M a2) 20 (gd (ib 2 (mL M a2)) ((if (mI M a2 (2 : Int32).toNatClampNeg) ≤ x2 then some ((-1000000005), M) else f_X10_rather_41 (f_X10_rather_29 n) FU M x0 x2 0)))))
set_option maxHeartbeats 4000000 in
set_option maxRecDepth 100000 in
theorem t_X10_rather_29 {l : Launch} {p : Program} {e : Env} {s : State} {m : MethodId} {args : Array Value} {below : List Frame} {meth : Method} {c : Code} {G : Gd} {A : Nat → Prop} {ad : Nat → Nat} (C : Cx G A p s m args meth c RX10 cX10_rather 4 (some .int)) {r : Int32} {M' : Mem} : ∀ (n : Nat) (M : Mem) (x0 : Nat) (x2 : Int32) (H : Heap) (locs : List Loc) (ls : Array Slot), f_X10_rather_29  n M x0 x2 = some (r, M') → Wd G A ad s.heap M H locs → lv_has ls 4 [(0, .ref (ad x0)), (2, .int x2)] → W p l e rm_X10_rather s m args below meth c H locs 0 0 (MQ below (QI G A ad r M') args s 0 0 A) (F0 m 29 ls []) := by
  obtain ⟨hx, hb, -⟩ := id C
  intro n
  induction n with
  | zero =>
    intro M x0 x2 H locs ls hf
    rw [f_X10_rather_29] at hf
    exact absurd hf (fun h => nomatch h)
  | succ n ih =>
    intro M x0 x2 H locs ls hf hw hl
    rw [f_X10_rather_29] at hf
    refine lv_iload_n hx hb dX10_rather_29 rfl (lv_at hl 1 rfl) ?_
    refine lv_aload_n hx hb dX10_rather_30 rfl (lv_at hl 0 rfl) ?_
    obtain ⟨hT1, hf⟩ := gt_inv hf
    obtain ⟨a2, hP3, hf⟩ := lp_inv hf
    refine r_getP C hw cf10 0 (by decide) rfl hT1 hP3 fl_X10_9 dX10_rather_31 ?_
    refine lv_iconst (v := 2) hx hb dX10_rather_34 (by decide) ?_
    obtain ⟨hT4, hf⟩ := gt_inv hf
    obtain ⟨hg5, hf⟩ := gd_inv hf
    refine r_iald C hw hT4 hg5 dX10_rather_35 ?_
    refine lv_icmp_ge (tgt := 87) hx hb dX10_rather_36 (by decide) (fun hc => ?_) (fun hc => ?_)
    · have hf := if_p hc hf
      refine lv_ldc hx hb C.2.2.2.1 (C.2.2.2.2.1 _ kc_X10_88) dX10_rather_87 ?_
      exact e_iret C hw hf dX10_rather_89
    · have hf := if_n hc hf
      refine lv_iconst (v := 0) hx hb dX10_rather_39 (by decide) ?_
      refine lv_istore_n (lv' := [(3, .int 0), (0, .ref (ad x0)), (2, .int x2)]) hx hb dX10_rather_40 rfl hl (by decide) rfl (fun ls hl => ?_)
      exact t_X10_rather_41 C ih FU M x0 x2 0 _ _ _ hf hw (lv_sub hl [1, 2, 0] rfl)
def f_X10_rather (M : Mem) (x0 : Nat) (x1 : Int32) : Option (Int32 × Mem) := cl (f_X10_isSheet M x1) (fun r2 M1 => (if r2 = 0 then some ((-1000000001), M1) else gt (mT M1 x0) 11 (lp (mP M1 x0 27) (fun a5 => gt (mT M1 a5) 20 (gd (ib x1 (mL M1 a5)) ((if 0 ≤ (mI M1 a5 x1.toNatClampNeg) then cl (f_X10_nestsBy M1 x0 x1) (fun _ M9 => f_X10_rather_29 FU M9 x0 0) else some ((-1000000011), M1))))))))
set_option maxHeartbeats 4000000 in
set_option maxRecDepth 100000 in
theorem c_X10_rather (l : Launch) (G : Gd) (A : Nat → Prop) (ad : Nat → Nat) {M : Mem} {x0 : Nat} {x1 : Int32}  {r : Int32} {M' : Mem} (hf : f_X10_rather M x0 x1 = some (r, M')) : Ct l yX10_rather cX10_rather 4 (some .int) rm_X10_rather [.ref (ad x0), .int x1] G A ad M (QI G A ad r M') 0 0 := by
  refine ct_start (by decide) (Nat.le_of_ble_eq_true rfl) ?_
  intro p e s m args below meth c ls C hin hw hl
  have C : Cx G A p s m args meth c RX10 cX10_rather 4 (some .int) := C
  have hl : lv_has ls 4 [(0, .ref (ad x0)), (1, .int x1)] := hl
  obtain ⟨hx, hb, -⟩ := id C
  rw [f_X10_rather] at hf
  refine lv_iload_n hx hb dX10_rather_0 rfl (lv_at hl 1 rfl) ?_
  obtain ⟨r2, M1, hc3, hf⟩ := cl_inv hf
  refine fin_I (run_S C hw mf_X10_isSheet ms_X10_isSheet ml_X10_188 (c_X10_isSheet l G A ad hc3) (As := [.int x1]) (rest := []) hl.1 rfl rfl (Nat.le_of_ble_eq_true rfl) ⟨rfl, rfl, Nat.le_of_ble_eq_true rfl, Nat.le_of_ble_eq_true rfl⟩ ⟨Nat.zero_le _, Nat.zero_le _⟩ dX10_rather_1) hw (fun H locs hw => ?_)
  refine lv_if_ne (tgt := 10) hx hb dX10_rather_4 (by decide) (fun hc => ?_) (fun hc => ?_)
  · have hf := if_n hc hf
    refine lv_aload_n hx hb dX10_rather_10 rfl (lv_at hl 0 rfl) ?_
    obtain ⟨hT4, hf⟩ := gt_inv hf
    obtain ⟨a5, hP6, hf⟩ := lp_inv hf
    refine r_getP C hw cf10 27 (by decide) rfl hT4 hP6 fl_X10_61 dX10_rather_11 ?_
    refine lv_iload_n hx hb dX10_rather_14 rfl (lv_at hl 1 rfl) ?_
    obtain ⟨hT7, hf⟩ := gt_inv hf
    obtain ⟨hg8, hf⟩ := gd_inv hf
    refine r_iald C hw hT7 hg8 dX10_rather_15 ?_
    refine lv_if_ge (tgt := 22) hx hb dX10_rather_16 (by decide) (fun hc => ?_) (fun hc => ?_)
    · have hf := if_p hc hf
      refine lv_aload_n hx hb dX10_rather_22 rfl (lv_at hl 0 rfl) ?_
      refine lv_iload_n hx hb dX10_rather_23 rfl (lv_at hl 1 rfl) ?_
      obtain ⟨⟨⟩, M9, hc11, hf⟩ := cl_inv hf
      refine fin_V (run_V C hw mf_X10_nestsBy mv_X10_nestsBy ml_X10_192 cf10 hT4 (c_X10_nestsBy l G A ad hc11) (As := [.int x1]) (rest := []) hl.1 rfl rfl (Nat.le_of_ble_eq_true rfl) ⟨rfl, rfl, Nat.le_of_ble_eq_true rfl, Nat.le_of_ble_eq_true rfl⟩ ⟨Nat.zero_le _, Nat.zero_le _⟩ dX10_rather_24) hw (fun H locs hw => ?_)
      refine lv_iconst (v := 0) hx hb dX10_rather_27 (by decide) ?_
      refine lv_istore_n (lv' := [(2, .int 0), (0, .ref (ad x0)), (1, .int x1)]) hx hb dX10_rather_28 rfl hl (by decide) rfl (fun ls hl => ?_)
      exact t_X10_rather_29 C FU M9 x0 0 _ _ _ hf hw (lv_sub hl [1, 0] rfl)
    · have hf := if_n hc hf
      refine lv_ldc hx hb C.2.2.2.1 (C.2.2.2.2.1 _ kc_X10_191) dX10_rather_19 ?_
      exact e_iret C hw hf dX10_rather_21
  · have hf := if_p hc hf
    refine lv_ldc hx hb C.2.2.2.1 (C.2.2.2.2.1 _ kc_X10_97) dX10_rather_7 ?_
    exact e_iret C hw hf dX10_rather_9
/-! StorkVoteModel.fine()I -/
abbrev rm_X10_fine : Room := { frames := 2, cells := 0, slots := 0, locals := 47 }
def f_X10_fine (M : Mem) (x0 : Nat) : Option (Int32 × Mem) := gt (mT M x0) 11 (cl (f_X10_counts M x0 2) (fun r2 M1 => gt (mT M1 x0) 11 (lp (mP M1 x0 26) (fun a6 => lp (mP M1 x0 0) (fun a8 => gt (mT M1 a8) 20 (gd (ib 3 (mL M1 a8)) (gt (mT M1 a6) 20 (gd (ib 0 (mL M1 a6)) (st (setI M1 a6 (0 : Int32).toNatClampNeg (mI M1 a8 (3 : Int32).toNatClampNeg)) (fun M14 => cl (f_X10_hereMany M14 x0) (fun r18 M17 => gt (mT M17 a6) 20 (gd (ib 1 (mL M17 a6)) (st (setI M17 a6 (1 : Int32).toNatClampNeg r18) (fun M22 => (if 0 ≤ r2 then gt (mT M22 x0) 11 (cl (f_X10_worksOut M22 x0 r2) (fun r26 M25 => some (r26, M25))) else some (0, M22))))))))))))))))
set_option maxHeartbeats 4000000 in
set_option maxRecDepth 100000 in
theorem c_X10_fine (l : Launch) (G : Gd) (A : Nat → Prop) (ad : Nat → Nat) {M : Mem} {x0 : Nat}  {r : Int32} {M' : Mem} (hf : f_X10_fine M x0 = some (r, M')) : Ct l yX10_fine cX10_fine 2 (some .int) rm_X10_fine [.ref (ad x0)] G A ad M (QI G A ad r M') 0 0 := by
  refine ct_start (by decide) (Nat.le_of_ble_eq_true rfl) ?_
  intro p e s m args below meth c ls C hin hw hl
  have C : Cx G A p s m args meth c RX10 cX10_fine 2 (some .int) := C
  have hl : lv_has ls 2 [(0, .ref (ad x0))] := hl
  obtain ⟨hx, hb, -⟩ := id C
  rw [f_X10_fine] at hf
  refine lv_aload_n hx hb dX10_fine_0 rfl (lv_at hl 0 rfl) ?_
  refine lv_iconst (v := 2) hx hb dX10_fine_1 (by decide) ?_
  obtain ⟨hT4, hf⟩ := gt_inv hf
  obtain ⟨r2, M1, hc3, hf⟩ := cl_inv hf
  refine fin_I (run_V C hw mf_X10_counts mv_X10_counts ml_X10_134 cf10 hT4 (c_X10_counts l G A ad hc3) (As := [.int 2]) (rest := []) hl.1 rfl rfl (Nat.le_of_ble_eq_true rfl) ⟨rfl, rfl, Nat.le_of_ble_eq_true rfl, Nat.le_of_ble_eq_true rfl⟩ ⟨Nat.zero_le _, Nat.zero_le _⟩ dX10_fine_2) hw (fun H locs hw => ?_)
  refine lv_istore_n (lv' := [(1, .int r2), (0, .ref (ad x0))]) hx hb dX10_fine_5 rfl hl (by decide) rfl (fun ls hl => ?_)
  refine lv_aload_n hx hb dX10_fine_6 rfl (lv_at hl 1 rfl) ?_
  obtain ⟨hT5, hf⟩ := gt_inv hf
  obtain ⟨a6, hP7, hf⟩ := lp_inv hf
  refine r_getP C hw cf10 26 (by decide) rfl hT5 hP7 fl_X10_58 dX10_fine_7 ?_
  refine lv_iconst (v := 0) hx hb dX10_fine_10 (by decide) ?_
  refine lv_aload_n hx hb dX10_fine_11 rfl (lv_at hl 1 rfl) ?_
  obtain ⟨a8, hP9, hf⟩ := lp_inv hf
  refine r_getP C hw cf10 0 (by decide) rfl hT5 hP9 fl_X10_9 dX10_fine_12 ?_
  refine lv_iconst (v := 3) hx hb dX10_fine_15 (by decide) ?_
  obtain ⟨hT10, hf⟩ := gt_inv hf
  obtain ⟨hg11, hf⟩ := gd_inv hf
  refine r_iald C hw hT10 hg11 dX10_fine_16 ?_
  obtain ⟨hT12, hf⟩ := gt_inv hf
  obtain ⟨hg13, hf⟩ := gd_inv hf
  obtain ⟨M14, e15, hf⟩ := st_inv hf
  have g16 := sg_I e15
  refine r_iast C hw hT12 hg13 e15 dX10_fine_17 (fun H locs hw => ?_)
  refine lv_aload_n hx hb dX10_fine_18 rfl (lv_at hl 1 rfl) ?_
  refine r_getP C hw cf10 26 (by decide) rfl (T_of g16 hT5) (P_of g16 hP7) fl_X10_58 dX10_fine_19 ?_
  refine lv_iconst (v := 1) hx hb dX10_fine_22 (by decide) ?_
  refine lv_aload_n hx hb dX10_fine_23 rfl (lv_at hl 1 rfl) ?_
  obtain ⟨r18, M17, hc19, hf⟩ := cl_inv hf
  refine fin_I (run_V C hw mf_X10_hereMany mv_X10_hereMany ml_X10_185 cf10 (T_of g16 hT5) (c_X10_hereMany l G A ad hc19) (As := []) (rest := [.int 1, .ref (ad a6)]) hl.1 rfl rfl (Nat.le_of_ble_eq_true rfl) ⟨rfl, rfl, Nat.le_of_ble_eq_true rfl, Nat.le_of_ble_eq_true rfl⟩ ⟨Nat.zero_le _, Nat.zero_le _⟩ dX10_fine_24) hw (fun H locs hw => ?_)
  obtain ⟨hT20, hf⟩ := gt_inv hf
  obtain ⟨hg21, hf⟩ := gd_inv hf
  obtain ⟨M22, e23, hf⟩ := st_inv hf
  have g24 := sg_I e23
  refine r_iast C hw hT20 hg21 e23 dX10_fine_27 (fun H locs hw => ?_)
  refine lv_iload_n hx hb dX10_fine_28 rfl (lv_at hl 0 rfl) ?_
  refine lv_if_ge (tgt := 36) hx hb dX10_fine_29 (by decide) (fun hc => ?_) (fun hc => ?_)
  · have hf := if_p hc hf
    refine lv_aload_n hx hb dX10_fine_36 rfl (lv_at hl 1 rfl) ?_
    refine lv_iload_n hx hb dX10_fine_37 rfl (lv_at hl 0 rfl) ?_
    obtain ⟨hT28, hf⟩ := gt_inv hf
    obtain ⟨r26, M25, hc27, hf⟩ := cl_inv hf
    refine fin_I (run_V C hw mf_X10_worksOut mv_X10_worksOut ml_X10_137 cf10 hT28 (c_X10_worksOut l G A ad hc27) (As := [.int r2]) (rest := []) hl.1 rfl rfl (Nat.le_of_ble_eq_true rfl) ⟨rfl, rfl, Nat.le_of_ble_eq_true rfl, Nat.le_of_ble_eq_true rfl⟩ ⟨Nat.zero_le _, Nat.zero_le _⟩ dX10_fine_38) hw (fun H locs hw => ?_)
    exact e_iret C hw hf dX10_fine_41
  · have hf := if_n hc hf
    refine lv_iconst (v := 0) hx hb dX10_fine_32 (by decide) ?_
    refine lv_goto (tgt := 41) hx hb dX10_fine_33 (by decide) ?_
    exact e_iret C hw hf dX10_fine_41
