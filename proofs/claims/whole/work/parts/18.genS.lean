/-! java/lang/String.coder()B -/
abbrev rm_J0_coder_7d493 : Room := { frames := 0, cells := 0, slots := 0, locals := 0 }
def f_J0_coder_7d493 (M : Mem) (x0 : Nat) : Option (Int32 × Mem) := (if (1 : Int32) = 0 then some (1, M) else gd (decide (x0 < 6)) (some (0, M)))
set_option maxHeartbeats 4000000 in
set_option maxRecDepth 100000 in
theorem c_J0_coder_7d493 (l : Launch) (G : Gd) (A : Nat → Prop) (ad : Nat → Nat) {M : Mem} {x0 : Nat}  {r : Int32} {M' : Mem} (hf : f_J0_coder_7d493 M x0 = some (r, M')) : Ct l yJ0_coder_7d493 cJ0_coder_7d493 1 (some .byte) rm_J0_coder_7d493 [.ref (G.2.2.2.2.1 x0)] G A ad M (QI G A ad r M') 0 0 := by
  refine ct_start (by decide) (Nat.le_of_ble_eq_true rfl) ?_
  intro p e s m args below meth c ls C hin hw hl
  have C : Cx G A p s m args meth c RJ0 cJ0_coder_7d493 1 (some .byte) := C
  have hl : lv_has ls 1 [(0, .ref (G.2.2.2.2.1 x0))] := hl
  obtain ⟨hx, hb, -⟩ := id C
  rw [f_J0_coder_7d493] at hf
  refine r_cs C hw fk_J0_38 dJ0_coder_7d493_0 ?_
  refine lv_if_eq (tgt := 13) hx hb dJ0_coder_7d493_3 (by decide) (fun hc => ?_) (fun hc => ?_)
  · have hf := if_p hc hf
    refine lv_iconst (v := 1) hx hb dJ0_coder_7d493_13 (by decide) ?_
    exact e_nret C hw rfl hf dJ0_coder_7d493_14
  · have hf := if_n hc hf
    refine lv_aload_n hx hb dJ0_coder_7d493_6 rfl (lv_at hl 0 rfl) ?_
    obtain ⟨hg1, hf⟩ := gd_inv hf
    refine r_scod C hw (of_decide_eq_true hg1) fk_J0_15 dJ0_coder_7d493_7 ?_
    refine lv_goto (tgt := 14) hx hb dJ0_coder_7d493_10 (by decide) ?_
    exact e_nret C hw rfl hf dJ0_coder_7d493_14
/-! java/lang/String.isLatin1()Z -/
abbrev rm_J0_isLatin1_aae02 : Room := { frames := 0, cells := 0, slots := 0, locals := 0 }
def f_J0_isLatin1_aae02 (M : Mem) (x0 : Nat) : Option (Int32 × Mem) := (if (1 : Int32) = 0 then some (0, M) else gd (decide (x0 < 6)) ((if (0 : Int32) = 0 then some (1, M) else some (0, M))))
set_option maxHeartbeats 4000000 in
set_option maxRecDepth 100000 in
theorem c_J0_isLatin1_aae02 (l : Launch) (G : Gd) (A : Nat → Prop) (ad : Nat → Nat) {M : Mem} {x0 : Nat}  {r : Int32} {M' : Mem} (hf : f_J0_isLatin1_aae02 M x0 = some (r, M')) : Ct l yJ0_isLatin1_aae02 cJ0_isLatin1_aae02 1 (some .boolean) rm_J0_isLatin1_aae02 [.ref (G.2.2.2.2.1 x0)] G A ad M (QI G A ad r M') 0 0 := by
  refine ct_start (by decide) (Nat.le_of_ble_eq_true rfl) ?_
  intro p e s m args below meth c ls C hin hw hl
  have C : Cx G A p s m args meth c RJ0 cJ0_isLatin1_aae02 1 (some .boolean) := C
  have hl : lv_has ls 1 [(0, .ref (G.2.2.2.2.1 x0))] := hl
  obtain ⟨hx, hb, -⟩ := id C
  rw [f_J0_isLatin1_aae02] at hf
  refine r_cs C hw fk_J0_38 dJ0_isLatin1_aae02_0 ?_
  refine lv_if_eq (tgt := 17) hx hb dJ0_isLatin1_aae02_3 (by decide) (fun hc => ?_) (fun hc => ?_)
  · have hf := if_p hc hf
    refine lv_iconst (v := 0) hx hb dJ0_isLatin1_aae02_17 (by decide) ?_
    exact e_zret C hw rfl hf dJ0_isLatin1_aae02_18
  · have hf := if_n hc hf
    refine lv_aload_n hx hb dJ0_isLatin1_aae02_6 rfl (lv_at hl 0 rfl) ?_
    obtain ⟨hg1, hf⟩ := gd_inv hf
    refine r_scod C hw (of_decide_eq_true hg1) fk_J0_15 dJ0_isLatin1_aae02_7 ?_
    refine lv_if_ne (tgt := 17) hx hb dJ0_isLatin1_aae02_10 (by decide) (fun hc => ?_) (fun hc => ?_)
    · have hf := if_n hc hf
      refine lv_iconst (v := 0) hx hb dJ0_isLatin1_aae02_17 (by decide) ?_
      exact e_zret C hw rfl hf dJ0_isLatin1_aae02_18
    · have hf := if_p hc hf
      refine lv_iconst (v := 1) hx hb dJ0_isLatin1_aae02_13 (by decide) ?_
      refine lv_goto (tgt := 18) hx hb dJ0_isLatin1_aae02_14 (by decide) ?_
      exact e_zret C hw rfl hf dJ0_isLatin1_aae02_18
/-! java/lang/String.length()I -/
abbrev rm_J0_length_8abf5 : Room := { frames := 1, cells := 0, slots := 0, locals := 20 }
def f_J0_length_8abf5 (M : Mem) (x0 : Nat) : Option (Int32 × Mem) := gd (decide (x0 < 6)) (gd (decide (x0 < 6)) (gd (decide (x0 < 6)) (cl (f_J0_coder_7d493 M x0) (fun r4 M3 => some (((nI (sLen.getD x0 0)) >>> (r4 &&& 31)), M3)))))
set_option maxHeartbeats 4000000 in
set_option maxRecDepth 100000 in
theorem c_J0_length_8abf5 (l : Launch) (G : Gd) (A : Nat → Prop) (ad : Nat → Nat) {M : Mem} {x0 : Nat}  {r : Int32} {M' : Mem} (hf : f_J0_length_8abf5 M x0 = some (r, M')) : Ct l yJ0_length_8abf5 cJ0_length_8abf5 1 (some .int) rm_J0_length_8abf5 [.ref (G.2.2.2.2.1 x0)] G A ad M (QI G A ad r M') 0 0 := by
  refine ct_start (by decide) (Nat.le_of_ble_eq_true rfl) ?_
  intro p e s m args below meth c ls C hin hw hl
  have C : Cx G A p s m args meth c RJ0 cJ0_length_8abf5 1 (some .int) := C
  have hl : lv_has ls 1 [(0, .ref (G.2.2.2.2.1 x0))] := hl
  obtain ⟨hx, hb, -⟩ := id C
  rw [f_J0_length_8abf5] at hf
  refine lv_aload_n hx hb dJ0_length_8abf5_0 rfl (lv_at hl 0 rfl) ?_
  obtain ⟨hg1, hf⟩ := gd_inv hf
  refine r_sval C hw (of_decide_eq_true hg1) fk_J0_9 dJ0_length_8abf5_1 ?_
  obtain ⟨hg2, hf⟩ := gd_inv hf
  refine r_slen C hw (of_decide_eq_true hg2) dJ0_length_8abf5_4 ?_
  refine lv_aload_n hx hb dJ0_length_8abf5_5 rfl (lv_at hl 0 rfl) ?_
  obtain ⟨hg6, hf⟩ := gd_inv hf
  obtain ⟨r4, M3, hc5, hf⟩ := cl_inv hf
  refine fin_I (run_T C hw mf_J0_coder_7d493 mv_J0_coder_7d493 mk_J0_335 rfl (of_decide_eq_true hg6) (c_J0_coder_7d493 l G A ad hc5) (As := []) (rest := [.int (nI (sLen.getD x0 0))]) hl.1 rfl rfl (Nat.le_of_ble_eq_true rfl) ⟨rfl, rfl, Nat.le_of_ble_eq_true rfl, Nat.le_of_ble_eq_true rfl⟩ ⟨Nat.zero_le _, Nat.zero_le _⟩ dJ0_length_8abf5_6) hw (fun H locs hw => ?_)
  refine lv_ishr hx hb dJ0_length_8abf5_9 ?_
  exact e_iret C hw hf dJ0_length_8abf5_10
/-! jdk/internal/util/Preconditions.checkIndex(IILjava/util/function/BiFunction;)I -/
abbrev rm_J3_checkIndex_8e157 : Room := { frames := 0, cells := 0, slots := 0, locals := 0 }
def f_J3_checkIndex_8e157 (M : Mem) (x0 : Int32) (x1 : Int32) : Option (Int32 × Mem) := (if x0 < 0 then none else (if x0 < x1 then some (x0, M) else none))
set_option maxHeartbeats 4000000 in
set_option maxRecDepth 100000 in
theorem c_J3_checkIndex_8e157 (l : Launch) (G : Gd) (A : Nat → Prop) (ad : Nat → Nat) (fm : Option Nat) {M : Mem} {x0 : Int32} {x1 : Int32}  {r : Int32} {M' : Mem} (hf : f_J3_checkIndex_8e157 M x0 x1 = some (r, M')) : Ct l yJ3_checkIndex_8e157 cJ3_checkIndex_8e157 3 (some .int) rm_J3_checkIndex_8e157 [.int x0, .int x1, va_rf fm] G A ad M (QI G A ad r M') 0 0 := by
  cases fm
  all_goals
    refine ct_start (by decide) (Nat.le_of_ble_eq_true rfl) ?_
    intro p e s m args below meth c ls C hin hw hl
    have C : Cx G A p s m args meth c RJ3 cJ3_checkIndex_8e157 3 (some .int) := C
    have hl := lv_sub hl (l' := [(0, .int x0), (1, .int x1)]) [0, 1] rfl
    obtain ⟨hx, hb, -⟩ := id C
    rw [f_J3_checkIndex_8e157] at hf
    refine lv_iload_n hx hb dJ3_checkIndex_8e157_0 rfl (lv_at hl 0 rfl) ?_
    refine lv_if_lt (tgt := 9) hx hb dJ3_checkIndex_8e157_1 (by decide) (fun hc => ?_) (fun hc => ?_)
    · have hf := if_p hc hf
      exact nomatch hf
    · have hf := if_n hc hf
      refine lv_iload_n hx hb dJ3_checkIndex_8e157_4 rfl (lv_at hl 0 rfl) ?_
      refine lv_iload_n hx hb dJ3_checkIndex_8e157_5 rfl (lv_at hl 1 rfl) ?_
      refine lv_icmp_lt (tgt := 16) hx hb dJ3_checkIndex_8e157_6 (by decide) (fun hc => ?_) (fun hc => ?_)
      · have hf := if_p hc hf
        refine lv_iload_n hx hb dJ3_checkIndex_8e157_16 rfl (lv_at hl 0 rfl) ?_
        exact e_iret C hw hf dJ3_checkIndex_8e157_17
      · have hf := if_n hc hf
        exact nomatch hf
/-! java/lang/String.checkIndex(II)V -/
abbrev rm_J0_checkIndex_df160 : Room := { frames := 1, cells := 0, slots := 0, locals := 22 }
def f_J0_checkIndex_df160 (M : Mem) (x0 : Int32) (x1 : Int32) : Option (Unit × Mem) := cl (f_J3_checkIndex_8e157 M x0 x1) (fun r2 M1 => some ((), M1))
set_option maxHeartbeats 4000000 in
set_option maxRecDepth 100000 in
theorem c_J0_checkIndex_df160 (l : Launch) (G : Gd) (A : Nat → Prop) (ad : Nat → Nat) {M : Mem} {x0 : Int32} {x1 : Int32}  {M' : Mem} (hf : f_J0_checkIndex_df160 M x0 x1 = some ((), M')) : Ct l yJ0_checkIndex_df160 cJ0_checkIndex_df160 2 none rm_J0_checkIndex_df160 [.int x0, .int x1] G A ad M (QV G A ad M') 0 0 := by
  refine ct_start (by decide) (Nat.le_of_ble_eq_true rfl) ?_
  intro p e s m args below meth c ls C hin hw hl
  have C : Cx G A p s m args meth c RJ0 cJ0_checkIndex_df160 2 none := C
  have hl : lv_has ls 2 [(0, .int x0), (1, .int x1)] := hl
  obtain ⟨hx, hb, -⟩ := id C
  rw [f_J0_checkIndex_df160] at hf
  refine lv_iload_n hx hb dJ0_checkIndex_df160_0 rfl (lv_at hl 0 rfl) ?_
  refine lv_iload_n hx hb dJ0_checkIndex_df160_1 rfl (lv_at hl 1 rfl) ?_
  refine r_fm C hw fk_J0_1053 dJ0_checkIndex_df160_2 ?_
  obtain ⟨r2, M1, hc3, hf⟩ := cl_inv hf
  refine fin_I (run_S C hw mf_J3_checkIndex_8e157 ms_J3_checkIndex_8e157 ml_J0_1059 (c_J3_checkIndex_8e157 l G A ad G.2.2.2.2.2.2 hc3) (As := [.int x0, .int x1, va_rf G.2.2.2.2.2.2]) (rest := []) hl.1 rfl rfl (Nat.le_of_ble_eq_true rfl) ⟨rfl, rfl, Nat.le_of_ble_eq_true rfl, Nat.le_of_ble_eq_true rfl⟩ ⟨Nat.zero_le _, Nat.zero_le _⟩ dJ0_checkIndex_df160_5) hw (fun H locs hw => ?_)
  refine lv_pop hx hb dJ0_checkIndex_df160_8 rfl ?_
  exact e_vret C hw hf dJ0_checkIndex_df160_9
/-! java/lang/StringLatin1.charAt([BI)C -/
abbrev rm_J1_charAt_3b067 : Room := { frames := 2, cells := 0, slots := 0, locals := 43 }
def f_J1_charAt_3b067 (M : Mem) (x0 : Nat) (x1 : Int32) : Option (Int32 × Mem) := gd (decide (x0 < 6)) (cl (f_J0_checkIndex_df160 M x1 (nI (sLen.getD x0 0))) (fun _ M2 => gd (decide (x0 < 6)) (gd (ib x1 (sLen.getD x0 0)) (gd (isC (c16 (((sByt.getD x0 []).getD x1.toNatClampNeg 0) &&& 255))) (some ((c16 (((sByt.getD x0 []).getD x1.toNatClampNeg 0) &&& 255)), M2))))))
set_option maxHeartbeats 4000000 in
set_option maxRecDepth 100000 in
theorem c_J1_charAt_3b067 (l : Launch) (G : Gd) (A : Nat → Prop) (ad : Nat → Nat) {M : Mem} {x0 : Nat} {x1 : Int32}  {r : Int32} {M' : Mem} (hf : f_J1_charAt_3b067 M x0 x1 = some (r, M')) : Ct l yJ1_charAt_3b067 cJ1_charAt_3b067 2 (some .char) rm_J1_charAt_3b067 [.ref (G.2.2.2.2.2.1 x0), .int x1] G A ad M (QI G A ad r M') 0 0 := by
  refine ct_start (by decide) (Nat.le_of_ble_eq_true rfl) ?_
  intro p e s m args below meth c ls C hin hw hl
  have C : Cx G A p s m args meth c RJ1 cJ1_charAt_3b067 2 (some .char) := C
  have hl : lv_has ls 2 [(0, .ref (G.2.2.2.2.2.1 x0)), (1, .int x1)] := hl
  obtain ⟨hx, hb, -⟩ := id C
  rw [f_J1_charAt_3b067] at hf
  refine lv_iload_n hx hb dJ1_charAt_3b067_0 rfl (lv_at hl 1 rfl) ?_
  refine lv_aload_n hx hb dJ1_charAt_3b067_1 rfl (lv_at hl 0 rfl) ?_
  obtain ⟨hg1, hf⟩ := gd_inv hf
  refine r_slen C hw (of_decide_eq_true hg1) dJ1_charAt_3b067_2 ?_
  obtain ⟨⟨⟩, M2, hc4, hf⟩ := cl_inv hf
  refine fin_V (run_S C hw mf_J0_checkIndex_df160 ms_J0_checkIndex_df160 ml_J1_9 (c_J0_checkIndex_df160 l G A ad hc4) (As := [.int x1, .int (nI (sLen.getD x0 0))]) (rest := []) hl.1 rfl rfl (Nat.le_of_ble_eq_true rfl) ⟨rfl, rfl, Nat.le_of_ble_eq_true rfl, Nat.le_of_ble_eq_true rfl⟩ ⟨Nat.zero_le _, Nat.zero_le _⟩ dJ1_charAt_3b067_3) hw (fun H locs hw => ?_)
  refine lv_aload_n hx hb dJ1_charAt_3b067_6 rfl (lv_at hl 0 rfl) ?_
  refine lv_iload_n hx hb dJ1_charAt_3b067_7 rfl (lv_at hl 1 rfl) ?_
  obtain ⟨hg5, hf⟩ := gd_inv hf
  obtain ⟨hg6, hf⟩ := gd_inv hf
  refine r_sbald C hw (of_decide_eq_true hg5) hg6 dJ1_charAt_3b067_8 ?_
  refine lv_sipush (v := 255) hx hb dJ1_charAt_3b067_9 (by decide) ?_
  refine lv_iand hx hb dJ1_charAt_3b067_12 ?_
  refine lv_i2c (v := c16 (((sByt.getD x0 []).getD x1.toNatClampNeg 0) &&& 255)) hx hb dJ1_charAt_3b067_13 rfl ?_
  obtain ⟨hg7, hf⟩ := gd_inv hf
  exact e_nret C hw (isC_nar hg7) hf dJ1_charAt_3b067_14
/-! java/lang/String.charAt(I)C -/
abbrev rm_J0_charAt_5068e : Room := { frames := 3, cells := 0, slots := 0, locals := 64 }
def f_J0_charAt_5068e (M : Mem) (x0 : Nat) (x1 : Int32) : Option (Int32 × Mem) := gd (decide (x0 < 6)) (cl (f_J0_isLatin1_aae02 M x0) (fun r2 M1 => (if r2 = 0 then gd (decide (x0 < 6)) (none) else gd (decide (x0 < 6)) (cl (f_J1_charAt_3b067 M1 x0 x1) (fun r8 M7 => gd (isC r8) (some (r8, M7)))))))
set_option maxHeartbeats 4000000 in
set_option maxRecDepth 100000 in
theorem c_J0_charAt_5068e (l : Launch) (G : Gd) (A : Nat → Prop) (ad : Nat → Nat) {M : Mem} {x0 : Nat} {x1 : Int32}  {r : Int32} {M' : Mem} (hf : f_J0_charAt_5068e M x0 x1 = some (r, M')) : Ct l yJ0_charAt_5068e cJ0_charAt_5068e 2 (some .char) rm_J0_charAt_5068e [.ref (G.2.2.2.2.1 x0), .int x1] G A ad M (QI G A ad r M') 0 0 := by
  refine ct_start (by decide) (Nat.le_of_ble_eq_true rfl) ?_
  intro p e s m args below meth c ls C hin hw hl
  have C : Cx G A p s m args meth c RJ0 cJ0_charAt_5068e 2 (some .char) := C
  have hl : lv_has ls 2 [(0, .ref (G.2.2.2.2.1 x0)), (1, .int x1)] := hl
  obtain ⟨hx, hb, -⟩ := id C
  rw [f_J0_charAt_5068e] at hf
  refine lv_aload_n hx hb dJ0_charAt_5068e_0 rfl (lv_at hl 0 rfl) ?_
  obtain ⟨hg4, hf⟩ := gd_inv hf
  obtain ⟨r2, M1, hc3, hf⟩ := cl_inv hf
  refine fin_I (run_T C hw mf_J0_isLatin1_aae02 mv_J0_isLatin1_aae02 mk_J0_492 rfl (of_decide_eq_true hg4) (c_J0_isLatin1_aae02 l G A ad hc3) (As := []) (rest := []) hl.1 rfl rfl (Nat.le_of_ble_eq_true rfl) ⟨rfl, rfl, Nat.le_of_ble_eq_true rfl, Nat.le_of_ble_eq_true rfl⟩ ⟨Nat.zero_le _, Nat.zero_le _⟩ dJ0_charAt_5068e_1) hw (fun H locs hw => ?_)
  refine lv_if_eq (tgt := 16) hx hb dJ0_charAt_5068e_4 (by decide) (fun hc => ?_) (fun hc => ?_)
  · have hf := if_p hc hf
    refine lv_aload_n hx hb dJ0_charAt_5068e_16 rfl (lv_at hl 0 rfl) ?_
    obtain ⟨hg5, hf⟩ := gd_inv hf
    refine r_sval C hw (of_decide_eq_true hg5) fk_J0_9 dJ0_charAt_5068e_17 ?_
    refine lv_iload_n hx hb dJ0_charAt_5068e_20 rfl (lv_at hl 1 rfl) ?_
    exact nomatch hf
  · have hf := if_n hc hf
    refine lv_aload_n hx hb dJ0_charAt_5068e_7 rfl (lv_at hl 0 rfl) ?_
    obtain ⟨hg6, hf⟩ := gd_inv hf
    refine r_sval C hw (of_decide_eq_true hg6) fk_J0_9 dJ0_charAt_5068e_8 ?_
    refine lv_iload_n hx hb dJ0_charAt_5068e_11 rfl (lv_at hl 1 rfl) ?_
    obtain ⟨r8, M7, hc9, hf⟩ := cl_inv hf
    refine fin_I (run_S C hw mf_J1_charAt_3b067 ms_J1_charAt_3b067 ml_J0_495 (c_J1_charAt_3b067 l G A ad hc9) (As := [.ref (G.2.2.2.2.2.1 x0), .int x1]) (rest := []) hl.1 rfl rfl (Nat.le_of_ble_eq_true rfl) ⟨rfl, rfl, Nat.le_of_ble_eq_true rfl, Nat.le_of_ble_eq_true rfl⟩ ⟨Nat.zero_le _, Nat.zero_le _⟩ dJ0_charAt_5068e_12) hw (fun H locs hw => ?_)
    obtain ⟨hg10, hf⟩ := gd_inv hf
    exact e_nret C hw (isC_nar hg10) hf dJ0_charAt_5068e_15
/-! java/lang/StringLatin1.canEncode(I)Z -/
abbrev rm_J1_canEncode_9a6ad : Room := { frames := 0, cells := 0, slots := 0, locals := 0 }
def f_J1_canEncode_9a6ad (M : Mem) (x0 : Int32) : Option (Int32 × Mem) := (if x0 < 0 then some (0, M) else (if 255 < x0 then some (0, M) else some (1, M)))
set_option maxHeartbeats 4000000 in
set_option maxRecDepth 100000 in
theorem c_J1_canEncode_9a6ad (l : Launch) (G : Gd) (A : Nat → Prop) (ad : Nat → Nat) {M : Mem} {x0 : Int32}  {r : Int32} {M' : Mem} (hf : f_J1_canEncode_9a6ad M x0 = some (r, M')) : Ct l yJ1_canEncode_9a6ad cJ1_canEncode_9a6ad 1 (some .boolean) rm_J1_canEncode_9a6ad [.int x0] G A ad M (QI G A ad r M') 0 0 := by
  refine ct_start (by decide) (Nat.le_of_ble_eq_true rfl) ?_
  intro p e s m args below meth c ls C hin hw hl
  have C : Cx G A p s m args meth c RJ1 cJ1_canEncode_9a6ad 1 (some .boolean) := C
  have hl : lv_has ls 1 [(0, .int x0)] := hl
  obtain ⟨hx, hb, -⟩ := id C
  rw [f_J1_canEncode_9a6ad] at hf
  refine lv_iload_n hx hb dJ1_canEncode_9a6ad_0 rfl (lv_at hl 0 rfl) ?_
  refine lv_if_lt (tgt := 15) hx hb dJ1_canEncode_9a6ad_1 (by decide) (fun hc => ?_) (fun hc => ?_)
  · have hf := if_p hc hf
    refine lv_iconst (v := 0) hx hb dJ1_canEncode_9a6ad_15 (by decide) ?_
    exact e_zret C hw rfl hf dJ1_canEncode_9a6ad_16
  · have hf := if_n hc hf
    refine lv_iload_n hx hb dJ1_canEncode_9a6ad_4 rfl (lv_at hl 0 rfl) ?_
    refine lv_sipush (v := 255) hx hb dJ1_canEncode_9a6ad_5 (by decide) ?_
    refine lv_icmp_gt (tgt := 15) hx hb dJ1_canEncode_9a6ad_8 (by decide) (fun hc => ?_) (fun hc => ?_)
    · have hf := if_p hc hf
      refine lv_iconst (v := 0) hx hb dJ1_canEncode_9a6ad_15 (by decide) ?_
      exact e_zret C hw rfl hf dJ1_canEncode_9a6ad_16
    · have hf := if_n hc hf
      refine lv_iconst (v := 1) hx hb dJ1_canEncode_9a6ad_11 (by decide) ?_
      refine lv_goto (tgt := 16) hx hb dJ1_canEncode_9a6ad_12 (by decide) ?_
      exact e_zret C hw rfl hf dJ1_canEncode_9a6ad_16
/-! java/lang/StringLatin1.indexOfChar([BIII)I -/
abbrev rm_J1_indexOfChar_4cfef : Room := { frames := 0, cells := 0, slots := 0, locals := 0 }
def f_J1_indexOfChar_4cfef_7 : Nat → Mem → Nat → Int32 → Int32 → Int32 → Option (Int32 × Mem)
  | 0, _, _, _, _, _ => none
  | n + 1, M, x0, x3, x4, x5 => (if x3 ≤ x5 then some ((-1), M) else gd (decide (x0 < 6)) (gd (ib x5 (sLen.getD x0 0)) ((if ((sByt.getD x0 []).getD x5.toNatClampNeg 0) = x4 then some (x5, M) else f_J1_indexOfChar_4cfef_7 n M x0 x3 x4 (x5 + 1)))))
set_option maxHeartbeats 4000000 in
set_option maxRecDepth 100000 in
theorem t_J1_indexOfChar_4cfef_7 {l : Launch} {p : Program} {e : Env} {s : State} {m : MethodId} {args : Array Value} {below : List Frame} {meth : Method} {c : Code} {G : Gd} {A : Nat → Prop} {ad : Nat → Nat} (C : Cx G A p s m args meth c RJ1 cJ1_indexOfChar_4cfef 6 (some .int)) {r : Int32} {M' : Mem} : ∀ (n : Nat) (M : Mem) (x0 : Nat) (x3 : Int32) (x4 : Int32) (x5 : Int32) (H : Heap) (locs : List Loc) (ls : Array Slot), f_J1_indexOfChar_4cfef_7  n M x0 x3 x4 x5 = some (r, M') → Wd G A ad s.heap M H locs → lv_has ls 6 [(0, .ref (G.2.2.2.2.2.1 x0)), (3, .int x3), (4, .int x4), (5, .int x5)] → W p l e rm_J1_indexOfChar_4cfef s m args below meth c H locs 0 0 (MQ below (QI G A ad r M') args s 0 0 A) (F0 m 7 ls []) := by
  obtain ⟨hx, hb, -⟩ := id C
  intro n
  induction n with
  | zero =>
    intro M x0 x3 x4 x5 H locs ls hf
    rw [f_J1_indexOfChar_4cfef_7] at hf
    exact absurd hf (fun h => nomatch h)
  | succ n ih =>
    intro M x0 x3 x4 x5 H locs ls hf hw hl
    rw [f_J1_indexOfChar_4cfef_7] at hf
    refine lv_iload hx hb dJ1_indexOfChar_4cfef_7 (lv_at hl 3 rfl) ?_
    refine lv_iload_n hx hb dJ1_indexOfChar_4cfef_9 rfl (lv_at hl 1 rfl) ?_
    refine lv_icmp_ge (tgt := 31) hx hb dJ1_indexOfChar_4cfef_10 (by decide) (fun hc => ?_) (fun hc => ?_)
    · have hf := if_p hc hf
      refine lv_iconst (v := (-1)) hx hb dJ1_indexOfChar_4cfef_31 (by decide) ?_
      exact e_iret C hw hf dJ1_indexOfChar_4cfef_32
    · have hf := if_n hc hf
      refine lv_aload_n hx hb dJ1_indexOfChar_4cfef_13 rfl (lv_at hl 0 rfl) ?_
      refine lv_iload hx hb dJ1_indexOfChar_4cfef_14 (lv_at hl 3 rfl) ?_
      obtain ⟨hg1, hf⟩ := gd_inv hf
      obtain ⟨hg2, hf⟩ := gd_inv hf
      refine r_sbald C hw (of_decide_eq_true hg1) hg2 dJ1_indexOfChar_4cfef_16 ?_
      refine lv_iload hx hb dJ1_indexOfChar_4cfef_17 (lv_at hl 2 rfl) ?_
      refine lv_icmp_ne (tgt := 25) hx hb dJ1_indexOfChar_4cfef_19 (by decide) (fun hc => ?_) (fun hc => ?_)
      · have hf := if_n hc hf
        refine lv_iinc (v := (x5 + 1)) (lv' := [(5, .int (x5 + 1)), (0, .ref (G.2.2.2.2.2.1 x0)), (3, .int x3), (4, .int x4)]) hx hb dJ1_indexOfChar_4cfef_25 hl (k := 3) rfl rfl (by decide) rfl (fun ls hl => ?_)
        refine lv_goto (tgt := 7) hx hb dJ1_indexOfChar_4cfef_28 (by decide) ?_
        exact ih M x0 x3 x4 (x5 + 1) _ _ _ hf hw (lv_sub hl [1, 2, 3, 0] rfl)
      · have hf := if_p hc hf
        refine lv_iload hx hb dJ1_indexOfChar_4cfef_22 (lv_at hl 3 rfl) ?_
        exact e_iret C hw hf dJ1_indexOfChar_4cfef_24
def f_J1_indexOfChar_4cfef (M : Mem) (x0 : Nat) (x1 : Int32) (x2 : Int32) (x3 : Int32) : Option (Int32 × Mem) := f_J1_indexOfChar_4cfef_7 FU M x0 x3 (s8 x1) x2
set_option maxHeartbeats 4000000 in
set_option maxRecDepth 100000 in
theorem c_J1_indexOfChar_4cfef (l : Launch) (G : Gd) (A : Nat → Prop) (ad : Nat → Nat) {M : Mem} {x0 : Nat} {x1 : Int32} {x2 : Int32} {x3 : Int32}  {r : Int32} {M' : Mem} (hf : f_J1_indexOfChar_4cfef M x0 x1 x2 x3 = some (r, M')) : Ct l yJ1_indexOfChar_4cfef cJ1_indexOfChar_4cfef 6 (some .int) rm_J1_indexOfChar_4cfef [.ref (G.2.2.2.2.2.1 x0), .int x1, .int x2, .int x3] G A ad M (QI G A ad r M') 0 0 := by
  refine ct_start (by decide) (Nat.le_of_ble_eq_true rfl) ?_
  intro p e s m args below meth c ls C hin hw hl
  have C : Cx G A p s m args meth c RJ1 cJ1_indexOfChar_4cfef 6 (some .int) := C
  have hl : lv_has ls 6 [(0, .ref (G.2.2.2.2.2.1 x0)), (1, .int x1), (2, .int x2), (3, .int x3)] := hl
  obtain ⟨hx, hb, -⟩ := id C
  rw [f_J1_indexOfChar_4cfef] at hf
  refine lv_iload_n hx hb dJ1_indexOfChar_4cfef_0 rfl (lv_at hl 1 rfl) ?_
  refine lv_i2b (v := s8 x1) hx hb dJ1_indexOfChar_4cfef_1 rfl ?_
  refine lv_istore (lv' := [(4, .int (s8 x1)), (0, .ref (G.2.2.2.2.2.1 x0)), (1, .int x1), (2, .int x2), (3, .int x3)]) hx hb dJ1_indexOfChar_4cfef_2 hl (by decide) rfl (fun ls hl => ?_)
  refine lv_iload_n hx hb dJ1_indexOfChar_4cfef_4 rfl (lv_at hl 3 rfl) ?_
  refine lv_istore (lv' := [(5, .int x2), (4, .int (s8 x1)), (0, .ref (G.2.2.2.2.2.1 x0)), (1, .int x1), (2, .int x2), (3, .int x3)]) hx hb dJ1_indexOfChar_4cfef_5 hl (by decide) rfl (fun ls hl => ?_)
  exact t_J1_indexOfChar_4cfef_7 C FU M x0 x3 (s8 x1) x2 _ _ _ hf hw (lv_sub hl [2, 5, 1, 0] rfl)
/-! java/lang/StringLatin1.indexOf([BIII)I -/
abbrev rm_J1_indexOf_4cfef : Room := { frames := 1, cells := 0, slots := 0, locals := 25 }
def f_J1_indexOf_4cfef (M : Mem) (x0 : Nat) (x1 : Int32) (x2 : Int32) (x3 : Int32) : Option (Int32 × Mem) := cl (f_J1_canEncode_9a6ad M x1) (fun r2 M1 => (if r2 = 0 then some ((-1), M1) else gd (decide (x0 < 6)) ((if (imax x2 0) < (imin x3 (nI (sLen.getD x0 0))) then cl (f_J1_indexOfChar_4cfef M1 x0 x1 (imax x2 0) (imin x3 (nI (sLen.getD x0 0)))) (fun r6 M5 => some (r6, M5)) else some ((-1), M1)))))
set_option maxHeartbeats 4000000 in
set_option maxRecDepth 100000 in
theorem c_J1_indexOf_4cfef (l : Launch) (G : Gd) (A : Nat → Prop) (ad : Nat → Nat) {M : Mem} {x0 : Nat} {x1 : Int32} {x2 : Int32} {x3 : Int32}  {r : Int32} {M' : Mem} (hf : f_J1_indexOf_4cfef M x0 x1 x2 x3 = some (r, M')) : Ct l yJ1_indexOf_4cfef cJ1_indexOf_4cfef 4 (some .int) rm_J1_indexOf_4cfef [.ref (G.2.2.2.2.2.1 x0), .int x1, .int x2, .int x3] G A ad M (QI G A ad r M') 0 0 := by
  refine ct_start (by decide) (Nat.le_of_ble_eq_true rfl) ?_
  intro p e s m args below meth c ls C hin hw hl
  have C : Cx G A p s m args meth c RJ1 cJ1_indexOf_4cfef 4 (some .int) := C
  have hl : lv_has ls 4 [(0, .ref (G.2.2.2.2.2.1 x0)), (1, .int x1), (2, .int x2), (3, .int x3)] := hl
  obtain ⟨hx, hb, -⟩ := id C
  rw [f_J1_indexOf_4cfef] at hf
  refine lv_iload_n hx hb dJ1_indexOf_4cfef_0 rfl (lv_at hl 1 rfl) ?_
  obtain ⟨r2, M1, hc3, hf⟩ := cl_inv hf
  refine fin_I (run_S C hw mf_J1_canEncode_9a6ad ms_J1_canEncode_9a6ad ml_J1_88 (c_J1_canEncode_9a6ad l G A ad hc3) (As := [.int x1]) (rest := []) hl.1 rfl rfl (Nat.le_of_ble_eq_true rfl) ⟨rfl, rfl, Nat.le_of_ble_eq_true rfl, Nat.le_of_ble_eq_true rfl⟩ ⟨Nat.zero_le _, Nat.zero_le _⟩ dJ1_indexOf_4cfef_1) hw (fun H locs hw => ?_)
  refine lv_if_ne (tgt := 9) hx hb dJ1_indexOf_4cfef_4 (by decide) (fun hc => ?_) (fun hc => ?_)
  · have hf := if_n hc hf
    refine lv_iload_n hx hb dJ1_indexOf_4cfef_9 rfl (lv_at hl 2 rfl) ?_
    refine lv_iconst (v := 0) hx hb dJ1_indexOf_4cfef_10 (by decide) ?_
    refine r_max C hl.1 mk_J1_92 (Nat.le_of_ble_eq_true rfl) (Nat.le_of_ble_eq_true rfl) (Nat.le_of_ble_eq_true rfl) (Nat.le_of_ble_eq_true rfl) dJ1_indexOf_4cfef_11 ?_
    refine lv_istore_n (lv' := [(2, .int (imax x2 0)), (0, .ref (G.2.2.2.2.2.1 x0)), (1, .int x1), (3, .int x3)]) hx hb dJ1_indexOf_4cfef_14 rfl hl (by decide) rfl (fun ls hl => ?_)
    refine lv_iload_n hx hb dJ1_indexOf_4cfef_15 rfl (lv_at hl 3 rfl) ?_
    refine lv_aload_n hx hb dJ1_indexOf_4cfef_16 rfl (lv_at hl 1 rfl) ?_
    obtain ⟨hg4, hf⟩ := gd_inv hf
    refine r_slen C hw (of_decide_eq_true hg4) dJ1_indexOf_4cfef_17 ?_
    refine r_min C hl.1 mk_J1_38 (Nat.le_of_ble_eq_true rfl) (Nat.le_of_ble_eq_true rfl) (Nat.le_of_ble_eq_true rfl) (Nat.le_of_ble_eq_true rfl) dJ1_indexOf_4cfef_18 ?_
    refine lv_istore_n (lv' := [(3, .int (imin x3 (nI (sLen.getD x0 0)))), (2, .int (imax x2 0)), (0, .ref (G.2.2.2.2.2.1 x0)), (1, .int x1)]) hx hb dJ1_indexOf_4cfef_21 rfl hl (by decide) rfl (fun ls hl => ?_)
    refine lv_iload_n hx hb dJ1_indexOf_4cfef_22 rfl (lv_at hl 1 rfl) ?_
    refine lv_iload_n hx hb dJ1_indexOf_4cfef_23 rfl (lv_at hl 0 rfl) ?_
    refine lv_icmp_lt (tgt := 29) hx hb dJ1_indexOf_4cfef_24 (by decide) (fun hc => ?_) (fun hc => ?_)
    · have hf := if_p hc hf
      refine lv_aload_n hx hb dJ1_indexOf_4cfef_29 rfl (lv_at hl 2 rfl) ?_
      refine lv_iload_n hx hb dJ1_indexOf_4cfef_30 rfl (lv_at hl 3 rfl) ?_
      refine lv_iload_n hx hb dJ1_indexOf_4cfef_31 rfl (lv_at hl 1 rfl) ?_
      refine lv_iload_n hx hb dJ1_indexOf_4cfef_32 rfl (lv_at hl 0 rfl) ?_
      obtain ⟨r6, M5, hc7, hf⟩ := cl_inv hf
      refine fin_I (run_S C hw mf_J1_indexOfChar_4cfef ms_J1_indexOfChar_4cfef ml_J1_95 (c_J1_indexOfChar_4cfef l G A ad hc7) (As := [.ref (G.2.2.2.2.2.1 x0), .int x1, .int (imax x2 0), .int (imin x3 (nI (sLen.getD x0 0)))]) (rest := []) hl.1 rfl rfl (Nat.le_of_ble_eq_true rfl) ⟨rfl, rfl, Nat.le_of_ble_eq_true rfl, Nat.le_of_ble_eq_true rfl⟩ ⟨Nat.zero_le _, Nat.zero_le _⟩ dJ1_indexOf_4cfef_33) hw (fun H locs hw => ?_)
      exact e_iret C hw hf dJ1_indexOf_4cfef_36
    · have hf := if_n hc hf
      refine lv_iconst (v := (-1)) hx hb dJ1_indexOf_4cfef_27 (by decide) ?_
      exact e_iret C hw hf dJ1_indexOf_4cfef_28
  · have hf := if_p hc hf
    refine lv_iconst (v := (-1)) hx hb dJ1_indexOf_4cfef_7 (by decide) ?_
    exact e_iret C hw hf dJ1_indexOf_4cfef_8
/-! java/lang/String.indexOf(II)I -/
abbrev rm_J0_indexOf_7cf53 : Room := { frames := 2, cells := 0, slots := 0, locals := 48 }
def f_J0_indexOf_7cf53 (M : Mem) (x0 : Nat) (x1 : Int32) (x2 : Int32) : Option (Int32 × Mem) := gd (decide (x0 < 6)) (cl (f_J0_isLatin1_aae02 M x0) (fun r2 M1 => (if r2 = 0 then gd (decide (x0 < 6)) (gd (decide (x0 < 6)) (cl (f_J0_length_8abf5 M1 x0) (fun r7 M6 => none))) else gd (decide (x0 < 6)) (gd (decide (x0 < 6)) (cl (f_J0_length_8abf5 M1 x0) (fun r12 M11 => cl (f_J1_indexOf_4cfef M11 x0 x1 x2 r12) (fun r16 M15 => some (r16, M15))))))))
set_option maxHeartbeats 4000000 in
set_option maxRecDepth 100000 in
theorem c_J0_indexOf_7cf53 (l : Launch) (G : Gd) (A : Nat → Prop) (ad : Nat → Nat) {M : Mem} {x0 : Nat} {x1 : Int32} {x2 : Int32}  {r : Int32} {M' : Mem} (hf : f_J0_indexOf_7cf53 M x0 x1 x2 = some (r, M')) : Ct l yJ0_indexOf_7cf53 cJ0_indexOf_7cf53 3 (some .int) rm_J0_indexOf_7cf53 [.ref (G.2.2.2.2.1 x0), .int x1, .int x2] G A ad M (QI G A ad r M') 0 0 := by
  refine ct_start (by decide) (Nat.le_of_ble_eq_true rfl) ?_
  intro p e s m args below meth c ls C hin hw hl
  have C : Cx G A p s m args meth c RJ0 cJ0_indexOf_7cf53 3 (some .int) := C
  have hl : lv_has ls 3 [(0, .ref (G.2.2.2.2.1 x0)), (1, .int x1), (2, .int x2)] := hl
  obtain ⟨hx, hb, -⟩ := id C
  rw [f_J0_indexOf_7cf53] at hf
  refine lv_aload_n hx hb dJ0_indexOf_7cf53_0 rfl (lv_at hl 0 rfl) ?_
  obtain ⟨hg4, hf⟩ := gd_inv hf
  obtain ⟨r2, M1, hc3, hf⟩ := cl_inv hf
  refine fin_I (run_T C hw mf_J0_isLatin1_aae02 mv_J0_isLatin1_aae02 mk_J0_492 rfl (of_decide_eq_true hg4) (c_J0_isLatin1_aae02 l G A ad hc3) (As := []) (rest := []) hl.1 rfl rfl (Nat.le_of_ble_eq_true rfl) ⟨rfl, rfl, Nat.le_of_ble_eq_true rfl, Nat.le_of_ble_eq_true rfl⟩ ⟨Nat.zero_le _, Nat.zero_le _⟩ dJ0_indexOf_7cf53_1) hw (fun H locs hw => ?_)
  refine lv_if_eq (tgt := 23) hx hb dJ0_indexOf_7cf53_4 (by decide) (fun hc => ?_) (fun hc => ?_)
  · have hf := if_p hc hf
    refine lv_aload_n hx hb dJ0_indexOf_7cf53_23 rfl (lv_at hl 0 rfl) ?_
    obtain ⟨hg5, hf⟩ := gd_inv hf
    refine r_sval C hw (of_decide_eq_true hg5) fk_J0_9 dJ0_indexOf_7cf53_24 ?_
    refine lv_iload_n hx hb dJ0_indexOf_7cf53_27 rfl (lv_at hl 1 rfl) ?_
    refine lv_iload_n hx hb dJ0_indexOf_7cf53_28 rfl (lv_at hl 2 rfl) ?_
    refine lv_aload_n hx hb dJ0_indexOf_7cf53_29 rfl (lv_at hl 0 rfl) ?_
    obtain ⟨hg9, hf⟩ := gd_inv hf
    obtain ⟨r7, M6, hc8, hf⟩ := cl_inv hf
    refine fin_I (run_T C hw mf_J0_length_8abf5 mv_J0_length_8abf5 mk_J0_505 rfl (of_decide_eq_true hg9) (c_J0_length_8abf5 l G A ad hc8) (As := []) (rest := [.int x2, .int x1, .ref (G.2.2.2.2.2.1 x0)]) hl.1 rfl rfl (Nat.le_of_ble_eq_true rfl) ⟨rfl, rfl, Nat.le_of_ble_eq_true rfl, Nat.le_of_ble_eq_true rfl⟩ ⟨Nat.zero_le _, Nat.zero_le _⟩ dJ0_indexOf_7cf53_30) hw (fun H locs hw => ?_)
    exact nomatch hf
  · have hf := if_n hc hf
    refine lv_aload_n hx hb dJ0_indexOf_7cf53_7 rfl (lv_at hl 0 rfl) ?_
    obtain ⟨hg10, hf⟩ := gd_inv hf
    refine r_sval C hw (of_decide_eq_true hg10) fk_J0_9 dJ0_indexOf_7cf53_8 ?_
    refine lv_iload_n hx hb dJ0_indexOf_7cf53_11 rfl (lv_at hl 1 rfl) ?_
    refine lv_iload_n hx hb dJ0_indexOf_7cf53_12 rfl (lv_at hl 2 rfl) ?_
    refine lv_aload_n hx hb dJ0_indexOf_7cf53_13 rfl (lv_at hl 0 rfl) ?_
    obtain ⟨hg14, hf⟩ := gd_inv hf
    obtain ⟨r12, M11, hc13, hf⟩ := cl_inv hf
    refine fin_I (run_T C hw mf_J0_length_8abf5 mv_J0_length_8abf5 mk_J0_505 rfl (of_decide_eq_true hg14) (c_J0_length_8abf5 l G A ad hc13) (As := []) (rest := [.int x2, .int x1, .ref (G.2.2.2.2.2.1 x0)]) hl.1 rfl rfl (Nat.le_of_ble_eq_true rfl) ⟨rfl, rfl, Nat.le_of_ble_eq_true rfl, Nat.le_of_ble_eq_true rfl⟩ ⟨Nat.zero_le _, Nat.zero_le _⟩ dJ0_indexOf_7cf53_14) hw (fun H locs hw => ?_)
    obtain ⟨r16, M15, hc17, hf⟩ := cl_inv hf
    refine fin_I (run_S C hw mf_J1_indexOf_4cfef ms_J1_indexOf_4cfef ml_J0_637 (c_J1_indexOf_4cfef l G A ad hc17) (As := [.ref (G.2.2.2.2.2.1 x0), .int x1, .int x2, .int r12]) (rest := []) hl.1 rfl rfl (Nat.le_of_ble_eq_true rfl) ⟨rfl, rfl, Nat.le_of_ble_eq_true rfl, Nat.le_of_ble_eq_true rfl⟩ ⟨Nat.zero_le _, Nat.zero_le _⟩ dJ0_indexOf_7cf53_17) hw (fun H locs hw => ?_)
    refine lv_goto (tgt := 36) hx hb dJ0_indexOf_7cf53_20 (by decide) ?_
    exact e_iret C hw hf dJ0_indexOf_7cf53_36
/-! java/lang/String.indexOf(I)I -/
abbrev rm_J0_indexOf_0f7a4 : Room := { frames := 3, cells := 0, slots := 0, locals := 70 }
def f_J0_indexOf_0f7a4 (M : Mem) (x0 : Nat) (x1 : Int32) : Option (Int32 × Mem) := gd (decide (x0 < 6)) (cl (f_J0_indexOf_7cf53 M x0 x1 0) (fun r2 M1 => some (r2, M1)))
set_option maxHeartbeats 4000000 in
set_option maxRecDepth 100000 in
theorem c_J0_indexOf_0f7a4 (l : Launch) (G : Gd) (A : Nat → Prop) (ad : Nat → Nat) {M : Mem} {x0 : Nat} {x1 : Int32}  {r : Int32} {M' : Mem} (hf : f_J0_indexOf_0f7a4 M x0 x1 = some (r, M')) : Ct l yJ0_indexOf_0f7a4 cJ0_indexOf_0f7a4 2 (some .int) rm_J0_indexOf_0f7a4 [.ref (G.2.2.2.2.1 x0), .int x1] G A ad M (QI G A ad r M') 0 0 := by
  refine ct_start (by decide) (Nat.le_of_ble_eq_true rfl) ?_
  intro p e s m args below meth c ls C hin hw hl
  have C : Cx G A p s m args meth c RJ0 cJ0_indexOf_0f7a4 2 (some .int) := C
  have hl : lv_has ls 2 [(0, .ref (G.2.2.2.2.1 x0)), (1, .int x1)] := hl
  obtain ⟨hx, hb, -⟩ := id C
  rw [f_J0_indexOf_0f7a4] at hf
  refine lv_aload_n hx hb dJ0_indexOf_0f7a4_0 rfl (lv_at hl 0 rfl) ?_
  refine lv_iload_n hx hb dJ0_indexOf_0f7a4_1 rfl (lv_at hl 1 rfl) ?_
  refine lv_iconst (v := 0) hx hb dJ0_indexOf_0f7a4_2 (by decide) ?_
  obtain ⟨hg4, hf⟩ := gd_inv hf
  obtain ⟨r2, M1, hc3, hf⟩ := cl_inv hf
  refine fin_I (run_T C hw mf_J0_indexOf_7cf53 mv_J0_indexOf_7cf53 mk_J0_633 rfl (of_decide_eq_true hg4) (c_J0_indexOf_7cf53 l G A ad hc3) (As := [.int x1, .int 0]) (rest := []) hl.1 rfl rfl (Nat.le_of_ble_eq_true rfl) ⟨rfl, rfl, Nat.le_of_ble_eq_true rfl, Nat.le_of_ble_eq_true rfl⟩ ⟨Nat.zero_le _, Nat.zero_le _⟩ dJ0_indexOf_0f7a4_3) hw (fun H locs hw => ?_)
  exact e_iret C hw hf dJ0_indexOf_0f7a4_6
/-! StorkVote$Tape.isWord(IILjava/lang/String;)Z -/
abbrev rm_X6_isWord : Room := { frames := 4, cells := 0, slots := 0, locals := 85 }
def f_X6_isWord_15 : Nat → Mem → Nat → Int32 → Nat → Int32 → Option (Int32 × Mem)
  | 0, _, _, _, _, _ => none
  | n + 1, M, x0, x1, x3, x4 => gd (decide (x3 < 6)) (cl (f_J0_length_8abf5 M x3) (fun r2 M1 => (if r2 ≤ x4 then some (1, M1) else gt (mT M1 x0) 7 (lp (mP M1 x0 0) (fun a6 => gt (mT M1 a6) 20 (gd (ib (x1 + x4) (mL M1 a6)) (gd (decide (x3 < 6)) (cl (f_J0_charAt_5068e M1 x3 x4) (fun r11 M10 => (if (mI M1 a6 (x1 + x4).toNatClampNeg) = r11 then f_X6_isWord_15 n M10 x0 x1 x3 (x4 + 1) else some (0, M10)))))))))))
set_option maxHeartbeats 4000000 in
set_option maxRecDepth 100000 in
theorem t_X6_isWord_15 {l : Launch} {p : Program} {e : Env} {s : State} {m : MethodId} {args : Array Value} {below : List Frame} {meth : Method} {c : Code} {G : Gd} {A : Nat → Prop} {ad : Nat → Nat} (C : Cx G A p s m args meth c RX6 cX6_isWord 5 (some .boolean)) {r : Int32} {M' : Mem} : ∀ (n : Nat) (M : Mem) (x0 : Nat) (x1 : Int32) (x3 : Nat) (x4 : Int32) (H : Heap) (locs : List Loc) (ls : Array Slot), f_X6_isWord_15  n M x0 x1 x3 x4 = some (r, M') → Wd G A ad s.heap M H locs → lv_has ls 5 [(0, .ref (ad x0)), (1, .int x1), (3, .ref (G.2.2.2.2.1 x3)), (4, .int x4)] → W p l e rm_X6_isWord s m args below meth c H locs 0 0 (MQ below (QI G A ad r M') args s 0 0 A) (F0 m 15 ls []) := by
  obtain ⟨hx, hb, -⟩ := id C
  intro n
  induction n with
  | zero =>
    intro M x0 x1 x3 x4 H locs ls hf
    rw [f_X6_isWord_15] at hf
    exact absurd hf (fun h => nomatch h)
  | succ n ih =>
    intro M x0 x1 x3 x4 H locs ls hf hw hl
    rw [f_X6_isWord_15] at hf
    refine lv_iload hx hb dX6_isWord_15 (lv_at hl 3 rfl) ?_
    refine lv_aload_n hx hb dX6_isWord_17 rfl (lv_at hl 2 rfl) ?_
    obtain ⟨hg4, hf⟩ := gd_inv hf
    obtain ⟨r2, M1, hc3, hf⟩ := cl_inv hf
    refine fin_I (run_T C hw mf_J0_length_8abf5 mv_J0_length_8abf5 mk_X6_26 rfl (of_decide_eq_true hg4) (c_J0_length_8abf5 l G A ad hc3) (As := []) (rest := [.int x4]) hl.1 rfl rfl (Nat.le_of_ble_eq_true rfl) ⟨rfl, rfl, Nat.le_of_ble_eq_true rfl, Nat.le_of_ble_eq_true rfl⟩ ⟨Nat.zero_le _, Nat.zero_le _⟩ dX6_isWord_18) hw (fun H locs hw => ?_)
    refine lv_icmp_ge (tgt := 50) hx hb dX6_isWord_21 (by decide) (fun hc => ?_) (fun hc => ?_)
    · have hf := if_p hc hf
      refine lv_iconst (v := 1) hx hb dX6_isWord_50 (by decide) ?_
      exact e_zret C hw rfl hf dX6_isWord_51
    · have hf := if_n hc hf
      refine lv_aload_n hx hb dX6_isWord_24 rfl (lv_at hl 0 rfl) ?_
      obtain ⟨hT5, hf⟩ := gt_inv hf
      obtain ⟨a6, hP7, hf⟩ := lp_inv hf
      refine r_getP C hw cf6 0 (by decide) rfl hT5 hP7 fl_X6_9 dX6_isWord_25 ?_
      refine lv_iload_n hx hb dX6_isWord_28 rfl (lv_at hl 1 rfl) ?_
      refine lv_iload hx hb dX6_isWord_29 (lv_at hl 3 rfl) ?_
      refine lv_iadd hx hb dX6_isWord_31 ?_
      obtain ⟨hT8, hf⟩ := gt_inv hf
      obtain ⟨hg9, hf⟩ := gd_inv hf
      refine r_iald C hw hT8 hg9 dX6_isWord_32 ?_
      refine lv_aload_n hx hb dX6_isWord_33 rfl (lv_at hl 2 rfl) ?_
      refine lv_iload hx hb dX6_isWord_34 (lv_at hl 3 rfl) ?_
      obtain ⟨hg13, hf⟩ := gd_inv hf
      obtain ⟨r11, M10, hc12, hf⟩ := cl_inv hf
      refine fin_I (run_T C hw mf_J0_charAt_5068e mv_J0_charAt_5068e mk_X6_32 rfl (of_decide_eq_true hg13) (c_J0_charAt_5068e l G A ad hc12) (As := [.int x4]) (rest := [.int (mI M1 a6 (x1 + x4).toNatClampNeg)]) hl.1 rfl rfl (Nat.le_of_ble_eq_true rfl) ⟨rfl, rfl, Nat.le_of_ble_eq_true rfl, Nat.le_of_ble_eq_true rfl⟩ ⟨Nat.zero_le _, Nat.zero_le _⟩ dX6_isWord_36) hw (fun H locs hw => ?_)
      refine lv_icmp_eq (tgt := 44) hx hb dX6_isWord_39 (by decide) (fun hc => ?_) (fun hc => ?_)
      · have hf := if_p hc hf
        refine lv_iinc (v := (x4 + 1)) (lv' := [(4, .int (x4 + 1)), (0, .ref (ad x0)), (1, .int x1), (3, .ref (G.2.2.2.2.1 x3))]) hx hb dX6_isWord_44 hl (k := 3) rfl rfl (by decide) rfl (fun ls hl => ?_)
        refine lv_goto (tgt := 15) hx hb dX6_isWord_47 (by decide) ?_
        exact ih M10 x0 x1 x3 (x4 + 1) _ _ _ hf hw (lv_sub hl [1, 2, 3, 0] rfl)
      · have hf := if_n hc hf
        refine lv_iconst (v := 0) hx hb dX6_isWord_42 (by decide) ?_
        exact e_zret C hw rfl hf dX6_isWord_43
def f_X6_isWord (M : Mem) (x0 : Nat) (x1 : Int32) (x2 : Int32) (x3 : Nat) : Option (Int32 × Mem) := gd (decide (x3 < 6)) (cl (f_J0_length_8abf5 M x3) (fun r2 M1 => (if (x2 - x1) = r2 then f_X6_isWord_15 FU M1 x0 x1 x3 0 else some (0, M1))))
set_option maxHeartbeats 4000000 in
set_option maxRecDepth 100000 in
theorem c_X6_isWord (l : Launch) (G : Gd) (A : Nat → Prop) (ad : Nat → Nat) {M : Mem} {x0 : Nat} {x1 : Int32} {x2 : Int32} {x3 : Nat}  {r : Int32} {M' : Mem} (hf : f_X6_isWord M x0 x1 x2 x3 = some (r, M')) : Ct l yX6_isWord cX6_isWord 5 (some .boolean) rm_X6_isWord [.ref (ad x0), .int x1, .int x2, .ref (G.2.2.2.2.1 x3)] G A ad M (QI G A ad r M') 0 0 := by
  refine ct_start (by decide) (Nat.le_of_ble_eq_true rfl) ?_
  intro p e s m args below meth c ls C hin hw hl
  have C : Cx G A p s m args meth c RX6 cX6_isWord 5 (some .boolean) := C
  have hl : lv_has ls 5 [(0, .ref (ad x0)), (1, .int x1), (2, .int x2), (3, .ref (G.2.2.2.2.1 x3))] := hl
  obtain ⟨hx, hb, -⟩ := id C
  rw [f_X6_isWord] at hf
  refine lv_iload_n hx hb dX6_isWord_0 rfl (lv_at hl 2 rfl) ?_
  refine lv_iload_n hx hb dX6_isWord_1 rfl (lv_at hl 1 rfl) ?_
  refine lv_isub hx hb dX6_isWord_2 ?_
  refine lv_aload_n hx hb dX6_isWord_3 rfl (lv_at hl 3 rfl) ?_
  obtain ⟨hg4, hf⟩ := gd_inv hf
  obtain ⟨r2, M1, hc3, hf⟩ := cl_inv hf
  refine fin_I (run_T C hw mf_J0_length_8abf5 mv_J0_length_8abf5 mk_X6_26 rfl (of_decide_eq_true hg4) (c_J0_length_8abf5 l G A ad hc3) (As := []) (rest := [.int (x2 - x1)]) hl.1 rfl rfl (Nat.le_of_ble_eq_true rfl) ⟨rfl, rfl, Nat.le_of_ble_eq_true rfl, Nat.le_of_ble_eq_true rfl⟩ ⟨Nat.zero_le _, Nat.zero_le _⟩ dX6_isWord_4) hw (fun H locs hw => ?_)
  refine lv_icmp_eq (tgt := 12) hx hb dX6_isWord_7 (by decide) (fun hc => ?_) (fun hc => ?_)
  · have hf := if_p hc hf
    refine lv_iconst (v := 0) hx hb dX6_isWord_12 (by decide) ?_
    refine lv_istore (lv' := [(4, .int 0), (0, .ref (ad x0)), (1, .int x1), (2, .int x2), (3, .ref (G.2.2.2.2.1 x3))]) hx hb dX6_isWord_13 hl (by decide) rfl (fun ls hl => ?_)
    exact t_X6_isWord_15 C FU M1 x0 x1 x3 0 _ _ _ hf hw (lv_sub hl [1, 2, 4, 0] rfl)
  · have hf := if_n hc hf
    refine lv_iconst (v := 0) hx hb dX6_isWord_10 (by decide) ?_
    exact e_zret C hw rfl hf dX6_isWord_11
/-! StorkVote$Reader.keyAt(LStorkVote$Tape;II)I -/
abbrev rm_X1_keyAt : Room := { frames := 5, cells := 0, slots := 0, locals := 109 }
def f_X1_keyAt (M : Mem) (x0 : Nat) (x1 : Int32) (x2 : Int32) : Option (Int32 × Mem) := gt (mT M x0) 7 (cl (f_X6_isWord M x0 x1 x2 0) (fun r2 M1 => (if r2 = 0 then gt (mT M1 x0) 7 (cl (f_X6_isWord M1 x0 x1 x2 1) (fun r6 M5 => (if r6 = 0 then gt (mT M5 x0) 7 (cl (f_X6_isWord M5 x0 x1 x2 2) (fun r10 M9 => (if r10 = 0 then some ((-1000000005), M9) else some (2, M9)))) else some (1, M5)))) else some (0, M1))))
set_option maxHeartbeats 4000000 in
set_option maxRecDepth 100000 in
theorem c_X1_keyAt (l : Launch) (G : Gd) (A : Nat → Prop) (ad : Nat → Nat) {M : Mem} {x0 : Nat} {x1 : Int32} {x2 : Int32}  {r : Int32} {M' : Mem} (hf : f_X1_keyAt M x0 x1 x2 = some (r, M')) : Ct l yX1_keyAt cX1_keyAt 3 (some .int) rm_X1_keyAt [.ref (ad x0), .int x1, .int x2] G A ad M (QI G A ad r M') 0 0 := by
  refine ct_start (by decide) (Nat.le_of_ble_eq_true rfl) ?_
  intro p e s m args below meth c ls C hin hw hl
  have C : Cx G A p s m args meth c RX1 cX1_keyAt 3 (some .int) := C
  have hl : lv_has ls 3 [(0, .ref (ad x0)), (1, .int x1), (2, .int x2)] := hl
  obtain ⟨hx, hb, -⟩ := id C
  rw [f_X1_keyAt] at hf
  refine lv_aload_n hx hb dX1_keyAt_0 rfl (lv_at hl 0 rfl) ?_
  refine lv_iload_n hx hb dX1_keyAt_1 rfl (lv_at hl 1 rfl) ?_
  refine lv_iload_n hx hb dX1_keyAt_2 rfl (lv_at hl 2 rfl) ?_
  refine va_ldcS hx hb C.2.2.2.1 (Et_s0 C) dX1_keyAt_3 ?_
  obtain ⟨hT4, hf⟩ := gt_inv hf
  obtain ⟨r2, M1, hc3, hf⟩ := cl_inv hf
  refine fin_I (run_V C hw mf_X6_isWord mv_X6_isWord ml_X1_129 cf6 hT4 (c_X6_isWord l G A ad hc3) (As := [.int x1, .int x2, .ref (G.2.2.2.2.1 0)]) (rest := []) hl.1 rfl rfl (Nat.le_of_ble_eq_true rfl) ⟨rfl, rfl, Nat.le_of_ble_eq_true rfl, Nat.le_of_ble_eq_true rfl⟩ ⟨Nat.zero_le _, Nat.zero_le _⟩ dX1_keyAt_5) hw (fun H locs hw => ?_)
  refine lv_if_eq (tgt := 13) hx hb dX1_keyAt_8 (by decide) (fun hc => ?_) (fun hc => ?_)
  · have hf := if_p hc hf
    refine lv_aload_n hx hb dX1_keyAt_13 rfl (lv_at hl 0 rfl) ?_
    refine lv_iload_n hx hb dX1_keyAt_14 rfl (lv_at hl 1 rfl) ?_
    refine lv_iload_n hx hb dX1_keyAt_15 rfl (lv_at hl 2 rfl) ?_
    refine va_ldcS hx hb C.2.2.2.1 (Et_s1 C) dX1_keyAt_16 ?_
    obtain ⟨hT8, hf⟩ := gt_inv hf
    obtain ⟨r6, M5, hc7, hf⟩ := cl_inv hf
    refine fin_I (run_V C hw mf_X6_isWord mv_X6_isWord ml_X1_129 cf6 hT8 (c_X6_isWord l G A ad hc7) (As := [.int x1, .int x2, .ref (G.2.2.2.2.1 1)]) (rest := []) hl.1 rfl rfl (Nat.le_of_ble_eq_true rfl) ⟨rfl, rfl, Nat.le_of_ble_eq_true rfl, Nat.le_of_ble_eq_true rfl⟩ ⟨Nat.zero_le _, Nat.zero_le _⟩ dX1_keyAt_18) hw (fun H locs hw => ?_)
    refine lv_if_eq (tgt := 26) hx hb dX1_keyAt_21 (by decide) (fun hc => ?_) (fun hc => ?_)
    · have hf := if_p hc hf
      refine lv_aload_n hx hb dX1_keyAt_26 rfl (lv_at hl 0 rfl) ?_
      refine lv_iload_n hx hb dX1_keyAt_27 rfl (lv_at hl 1 rfl) ?_
      refine lv_iload_n hx hb dX1_keyAt_28 rfl (lv_at hl 2 rfl) ?_
      refine va_ldcS hx hb C.2.2.2.1 (Et_s2 C) dX1_keyAt_29 ?_
      obtain ⟨hT12, hf⟩ := gt_inv hf
      obtain ⟨r10, M9, hc11, hf⟩ := cl_inv hf
      refine fin_I (run_V C hw mf_X6_isWord mv_X6_isWord ml_X1_129 cf6 hT12 (c_X6_isWord l G A ad hc11) (As := [.int x1, .int x2, .ref (G.2.2.2.2.1 2)]) (rest := []) hl.1 rfl rfl (Nat.le_of_ble_eq_true rfl) ⟨rfl, rfl, Nat.le_of_ble_eq_true rfl, Nat.le_of_ble_eq_true rfl⟩ ⟨Nat.zero_le _, Nat.zero_le _⟩ dX1_keyAt_31) hw (fun H locs hw => ?_)
      refine lv_if_eq (tgt := 41) hx hb dX1_keyAt_34 (by decide) (fun hc => ?_) (fun hc => ?_)
      · have hf := if_p hc hf
        refine lv_ldc hx hb C.2.2.2.1 (C.2.2.2.2.1 _ kc_X1_78) dX1_keyAt_41 ?_
        exact e_iret C hw hf dX1_keyAt_43
      · have hf := if_n hc hf
        refine lv_iconst (v := 2) hx hb dX1_keyAt_37 (by decide) ?_
        refine lv_goto (tgt := 43) hx hb dX1_keyAt_38 (by decide) ?_
        exact e_iret C hw hf dX1_keyAt_43
    · have hf := if_n hc hf
      refine lv_iconst (v := 1) hx hb dX1_keyAt_24 (by decide) ?_
      exact e_iret C hw hf dX1_keyAt_25
  · have hf := if_n hc hf
    refine lv_iconst (v := 0) hx hb dX1_keyAt_11 (by decide) ?_
    exact e_iret C hw hf dX1_keyAt_12
/-! StorkVote$Reader.goesOn(LStorkVote$Tape;II)Z -/
abbrev rm_X1_goesOn : Room := { frames := 6, cells := 0, slots := 0, locals := 131 }
def f_X1_goesOn_56 (M : Mem) (x0 : Nat) (x1 : Nat) (x2 : Int32) (x3 : Int32) (x4 : Int32) : Option (Int32 × Mem) := gt (mT M x0) 2 ((if (mI M x0 4) = (-1000000005) then cl (f_X1_keyAt M x1 x2 x3) (fun r46 M45 => gt (mT M45 x0) 2 (st (setI M45 x0 4 r46) (fun M49 => (if (mI M49 x0 4) = (-1000000005) then some (0, M49) else some (1, M49))))) else (if (mI M x0 7) = 0 then (if x4 = 41 then cl (f_X1_closes M x0) (fun r42 M41 => gd (isB r42) (some (r42, M41))) else cl (f_X1_joins M x0 x4) (fun r38 M37 => gd (isB r38) (some (r38, M37)))) else cl (f_X9_isDigit M x4) (fun r3 M2 => (if r3 = 0 then cl (f_X9_isLetter M2 x4) (fun r6 M5 => (if r6 = 0 then (if x4 = 40 then gt (mT M5 x0) 2 (cl (f_X1_opens M5 x0) (fun r13 M12 => gd (isB r13) (some (r13, M12)))) else (if x4 = 33 then gt (mT M5 x0) 2 (cl (f_X1_negates M5 x0) (fun r9 M8 => (if r9 = 0 then some (0, M8) else some (1, M8)))) else some (0, M5))) else gt (mT M5 x0) 2 (cl (f_X1_names M5 x0) (fun r18 M17 => gd (decide (r18 < 6)) (cl (f_J0_indexOf_0f7a4 M17 r18 (c16 x4)) (fun r22 M21 => (if (x3 - x2) = 1 then (if r22 < 0 then some (0, M21) else gt (mT M21 x0) 2 (cl (f_X1_isPiece M21 x0 (10000 + r22)) (fun r26 M25 => (if r26 = 0 then some (0, M25) else some (1, M25))))) else some (0, M21)))))))) else (if 4 < (x3 - x2) then some (0, M2) else gt (mT M2 x1) 7 (cl (f_X6_number M2 x1 x2 x3) (fun r30 M29 => gt (mT M29 x0) 2 (cl (f_X1_isPiece M29 x0 r30) (fun r34 M33 => (if r34 = 0 then some (0, M33) else some (1, M33))))))))))))
set_option maxHeartbeats 4000000 in
set_option maxRecDepth 100000 in
theorem t_X1_goesOn_56 {l : Launch} {p : Program} {e : Env} {s : State} {m : MethodId} {args : Array Value} {below : List Frame} {meth : Method} {c : Code} {G : Gd} {A : Nat → Prop} {ad : Nat → Nat} (C : Cx G A p s m args meth c RX1 cX1_goesOn 7 (some .boolean)) {r : Int32} {M' : Mem} : ∀ (M : Mem) (x0 : Nat) (x1 : Nat) (x2 : Int32) (x3 : Int32) (x4 : Int32) (H : Heap) (locs : List Loc) (ls : Array Slot), f_X1_goesOn_56  M x0 x1 x2 x3 x4 = some (r, M') → Wd G A ad s.heap M H locs → lv_has ls 7 [(0, .ref (ad x0)), (1, .ref (ad x1)), (2, .int x2), (3, .int x3), (4, .int x4)] → W p l e rm_X1_goesOn s m args below meth c H locs 0 0 (MQ below (QI G A ad r M') args s 0 0 A) (F0 m 56 ls []) := by
  obtain ⟨hx, hb, -⟩ := id C
  intro M x0 x1 x2 x3 x4 H locs ls hf hw hl
  rw [f_X1_goesOn_56] at hf
  refine lv_aload_n hx hb dX1_goesOn_56 rfl (lv_at hl 0 rfl) ?_
  obtain ⟨hT1, hf⟩ := gt_inv hf
  refine r_getI C hw cf1 4 (by decide) rfl hT1 fl_X1_57 dX1_goesOn_57 ?_
  refine lv_ldc hx hb C.2.2.2.1 (C.2.2.2.2.1 _ kc_X1_78) dX1_goesOn_60 ?_
  refine lv_icmp_ne (tgt := 90) hx hb dX1_goesOn_62 (by decide) (fun hc => ?_) (fun hc => ?_)
  · have hf := if_n hc hf
    refine lv_aload_n hx hb dX1_goesOn_90 rfl (lv_at hl 0 rfl) ?_
    refine r_getI C hw cf1 7 (by decide) rfl hT1 fl_X1_44 dX1_goesOn_91 ?_
    refine lv_if_ne (tgt := 118) hx hb dX1_goesOn_94 (by decide) (fun hc => ?_) (fun hc => ?_)
    · have hf := if_n hc hf
      refine lv_iload hx hb dX1_goesOn_118 (lv_at hl 4 rfl) ?_
      obtain ⟨r3, M2, hc4, hf⟩ := cl_inv hf
      refine fin_I (run_S C hw mf_X9_isDigit ms_X9_isDigit ml_X1_92 (c_X9_isDigit l G A ad hc4) (As := [.int x4]) (rest := []) hl.1 rfl rfl (Nat.le_of_ble_eq_true rfl) ⟨rfl, rfl, Nat.le_of_ble_eq_true rfl, Nat.le_of_ble_eq_true rfl⟩ ⟨Nat.zero_le _, Nat.zero_le _⟩ dX1_goesOn_120) hw (fun H locs hw => ?_)
      refine lv_if_eq (tgt := 152) hx hb dX1_goesOn_123 (by decide) (fun hc => ?_) (fun hc => ?_)
      · have hf := if_p hc hf
        refine lv_iload hx hb dX1_goesOn_152 (lv_at hl 4 rfl) ?_
        obtain ⟨r6, M5, hc7, hf⟩ := cl_inv hf
        refine fin_I (run_S C hw mf_X9_isLetter ms_X9_isLetter ml_X1_88 (c_X9_isLetter l G A ad hc7) (As := [.int x4]) (rest := []) hl.1 rfl rfl (Nat.le_of_ble_eq_true rfl) ⟨rfl, rfl, Nat.le_of_ble_eq_true rfl, Nat.le_of_ble_eq_true rfl⟩ ⟨Nat.zero_le _, Nat.zero_le _⟩ dX1_goesOn_154) hw (fun H locs hw => ?_)
        refine lv_if_eq (tgt := 203) hx hb dX1_goesOn_157 (by decide) (fun hc => ?_) (fun hc => ?_)
        · have hf := if_p hc hf
          refine lv_iload hx hb dX1_goesOn_203 (lv_at hl 4 rfl) ?_
          refine lv_bipush (v := 40) hx hb dX1_goesOn_205 (by decide) ?_
          refine lv_icmp_ne (tgt := 217) hx hb dX1_goesOn_207 (by decide) (fun hc => ?_) (fun hc => ?_)
          · have hf := if_n hc hf
            refine lv_iload hx hb dX1_goesOn_217 (lv_at hl 4 rfl) ?_
            refine lv_bipush (v := 33) hx hb dX1_goesOn_219 (by decide) ?_
            refine lv_icmp_ne (tgt := 235) hx hb dX1_goesOn_221 (by decide) (fun hc => ?_) (fun hc => ?_)
            · have hf := if_n hc hf
              refine lv_iconst (v := 0) hx hb dX1_goesOn_235 (by decide) ?_
              exact e_zret C hw rfl hf dX1_goesOn_236
            · have hf := if_p hc hf
              refine lv_aload_n hx hb dX1_goesOn_224 rfl (lv_at hl 0 rfl) ?_
              obtain ⟨hT11, hf⟩ := gt_inv hf
              obtain ⟨r9, M8, hc10, hf⟩ := cl_inv hf
              refine fin_I (run_V C hw mf_X1_negates mv_X1_negates ml_X1_124 cf1 hT11 (c_X1_negates l G A ad hc10) (As := []) (rest := []) hl.1 rfl rfl (Nat.le_of_ble_eq_true rfl) ⟨rfl, rfl, Nat.le_of_ble_eq_true rfl, Nat.le_of_ble_eq_true rfl⟩ ⟨Nat.zero_le _, Nat.zero_le _⟩ dX1_goesOn_225) hw (fun H locs hw => ?_)
              refine lv_if_eq (tgt := 235) hx hb dX1_goesOn_228 (by decide) (fun hc => ?_) (fun hc => ?_)
              · have hf := if_p hc hf
                refine lv_iconst (v := 0) hx hb dX1_goesOn_235 (by decide) ?_
                exact e_zret C hw rfl hf dX1_goesOn_236
              · have hf := if_n hc hf
                refine lv_iconst (v := 1) hx hb dX1_goesOn_231 (by decide) ?_
                refine lv_goto (tgt := 236) hx hb dX1_goesOn_232 (by decide) ?_
                exact e_zret C hw rfl hf dX1_goesOn_236
          · have hf := if_p hc hf
            refine lv_aload_n hx hb dX1_goesOn_210 rfl (lv_at hl 0 rfl) ?_
            obtain ⟨hT15, hf⟩ := gt_inv hf
            obtain ⟨r13, M12, hc14, hf⟩ := cl_inv hf
            refine fin_I (run_V C hw mf_X1_opens mv_X1_opens ml_X1_121 cf1 hT15 (c_X1_opens l G A ad hc14) (As := []) (rest := []) hl.1 rfl rfl (Nat.le_of_ble_eq_true rfl) ⟨rfl, rfl, Nat.le_of_ble_eq_true rfl, Nat.le_of_ble_eq_true rfl⟩ ⟨Nat.zero_le _, Nat.zero_le _⟩ dX1_goesOn_211) hw (fun H locs hw => ?_)
            refine lv_goto (tgt := 236) hx hb dX1_goesOn_214 (by decide) ?_
            obtain ⟨hg16, hf⟩ := gd_inv hf
            exact e_zret C hw hg16 hf dX1_goesOn_236
        · have hf := if_n hc hf
          refine lv_aload_n hx hb dX1_goesOn_160 rfl (lv_at hl 0 rfl) ?_
          obtain ⟨hT20, hf⟩ := gt_inv hf
          obtain ⟨r18, M17, hc19, hf⟩ := cl_inv hf
          refine fin_T (run_V C hw mf_X1_names mv_X1_names ml_X1_112 cf1 hT20 (c_X1_names l G A ad hc19) (As := []) (rest := []) hl.1 rfl rfl (Nat.le_of_ble_eq_true rfl) ⟨rfl, rfl, Nat.le_of_ble_eq_true rfl, Nat.le_of_ble_eq_true rfl⟩ ⟨Nat.zero_le _, Nat.zero_le _⟩ dX1_goesOn_161) hw (fun H locs hw => ?_)
          refine lv_iload hx hb dX1_goesOn_164 (lv_at hl 4 rfl) ?_
          refine lv_i2c (v := c16 x4) hx hb dX1_goesOn_166 rfl ?_
          obtain ⟨hg24, hf⟩ := gd_inv hf
          obtain ⟨r22, M21, hc23, hf⟩ := cl_inv hf
          refine fin_I (run_T C hw mf_J0_indexOf_0f7a4 mv_J0_indexOf_0f7a4 mk_X1_116 rfl (of_decide_eq_true hg24) (c_J0_indexOf_0f7a4 l G A ad hc23) (As := [.int (c16 x4)]) (rest := []) hl.1 rfl rfl (Nat.le_of_ble_eq_true rfl) ⟨rfl, rfl, Nat.le_of_ble_eq_true rfl, Nat.le_of_ble_eq_true rfl⟩ ⟨Nat.zero_le _, Nat.zero_le _⟩ dX1_goesOn_167) hw (fun H locs hw => ?_)
          refine lv_istore (lv' := [(6, .int r22), (0, .ref (ad x0)), (1, .ref (ad x1)), (2, .int x2), (3, .int x3), (4, .int x4)]) hx hb dX1_goesOn_170 hl (by decide) rfl (fun ls hl => ?_)
          refine lv_iload_n hx hb dX1_goesOn_172 rfl (lv_at hl 4 rfl) ?_
          refine lv_iload_n hx hb dX1_goesOn_173 rfl (lv_at hl 3 rfl) ?_
          refine lv_isub hx hb dX1_goesOn_174 ?_
          refine lv_iconst (v := 1) hx hb dX1_goesOn_175 (by decide) ?_
          refine lv_icmp_ne (tgt := 201) hx hb dX1_goesOn_176 (by decide) (fun hc => ?_) (fun hc => ?_)
          · have hf := if_n hc hf
            refine lv_iconst (v := 0) hx hb dX1_goesOn_201 (by decide) ?_
            exact e_zret C hw rfl hf dX1_goesOn_202
          · have hf := if_p hc hf
            refine lv_iload hx hb dX1_goesOn_179 (lv_at hl 0 rfl) ?_
            refine lv_if_lt (tgt := 201) hx hb dX1_goesOn_181 (by decide) (fun hc => ?_) (fun hc => ?_)
            · have hf := if_p hc hf
              refine lv_iconst (v := 0) hx hb dX1_goesOn_201 (by decide) ?_
              exact e_zret C hw rfl hf dX1_goesOn_202
            · have hf := if_n hc hf
              refine lv_aload_n hx hb dX1_goesOn_184 rfl (lv_at hl 1 rfl) ?_
              refine lv_sipush (v := 10000) hx hb dX1_goesOn_185 (by decide) ?_
              refine lv_iload hx hb dX1_goesOn_188 (lv_at hl 0 rfl) ?_
              refine lv_iadd hx hb dX1_goesOn_190 ?_
              obtain ⟨hT28, hf⟩ := gt_inv hf
              obtain ⟨r26, M25, hc27, hf⟩ := cl_inv hf
              refine fin_I (run_V C hw mf_X1_isPiece mv_X1_isPiece ml_X1_109 cf1 hT28 (c_X1_isPiece l G A ad hc27) (As := [.int (10000 + r22)]) (rest := []) hl.1 rfl rfl (Nat.le_of_ble_eq_true rfl) ⟨rfl, rfl, Nat.le_of_ble_eq_true rfl, Nat.le_of_ble_eq_true rfl⟩ ⟨Nat.zero_le _, Nat.zero_le _⟩ dX1_goesOn_191) hw (fun H locs hw => ?_)
              refine lv_if_eq (tgt := 201) hx hb dX1_goesOn_194 (by decide) (fun hc => ?_) (fun hc => ?_)
              · have hf := if_p hc hf
                refine lv_iconst (v := 0) hx hb dX1_goesOn_201 (by decide) ?_
                exact e_zret C hw rfl hf dX1_goesOn_202
              · have hf := if_n hc hf
                refine lv_iconst (v := 1) hx hb dX1_goesOn_197 (by decide) ?_
                refine lv_goto (tgt := 202) hx hb dX1_goesOn_198 (by decide) ?_
                exact e_zret C hw rfl hf dX1_goesOn_202
      · have hf := if_n hc hf
        refine lv_iload_n hx hb dX1_goesOn_126 rfl (lv_at hl 3 rfl) ?_
        refine lv_iload_n hx hb dX1_goesOn_127 rfl (lv_at hl 2 rfl) ?_
        refine lv_isub hx hb dX1_goesOn_128 ?_
        refine lv_iconst (v := 4) hx hb dX1_goesOn_129 (by decide) ?_
        refine lv_icmp_gt (tgt := 150) hx hb dX1_goesOn_130 (by decide) (fun hc => ?_) (fun hc => ?_)
        · have hf := if_p hc hf
          refine lv_iconst (v := 0) hx hb dX1_goesOn_150 (by decide) ?_
          exact e_zret C hw rfl hf dX1_goesOn_151
        · have hf := if_n hc hf
          refine lv_aload_n hx hb dX1_goesOn_133 rfl (lv_at hl 0 rfl) ?_
          refine lv_aload_n hx hb dX1_goesOn_134 rfl (lv_at hl 1 rfl) ?_
          refine lv_iload_n hx hb dX1_goesOn_135 rfl (lv_at hl 2 rfl) ?_
          refine lv_iload_n hx hb dX1_goesOn_136 rfl (lv_at hl 3 rfl) ?_
          obtain ⟨hT32, hf⟩ := gt_inv hf
          obtain ⟨r30, M29, hc31, hf⟩ := cl_inv hf
          refine fin_I (run_V C hw mf_X6_number mv_X6_number ml_X1_106 cf6 hT32 (c_X6_number l G A ad hc31) (As := [.int x2, .int x3]) (rest := [.ref (ad x0)]) hl.1 rfl rfl (Nat.le_of_ble_eq_true rfl) ⟨rfl, rfl, Nat.le_of_ble_eq_true rfl, Nat.le_of_ble_eq_true rfl⟩ ⟨Nat.zero_le _, Nat.zero_le _⟩ dX1_goesOn_137) hw (fun H locs hw => ?_)
          obtain ⟨hT36, hf⟩ := gt_inv hf
          obtain ⟨r34, M33, hc35, hf⟩ := cl_inv hf
          refine fin_I (run_V C hw mf_X1_isPiece mv_X1_isPiece ml_X1_109 cf1 hT36 (c_X1_isPiece l G A ad hc35) (As := [.int r30]) (rest := []) hl.1 rfl rfl (Nat.le_of_ble_eq_true rfl) ⟨rfl, rfl, Nat.le_of_ble_eq_true rfl, Nat.le_of_ble_eq_true rfl⟩ ⟨Nat.zero_le _, Nat.zero_le _⟩ dX1_goesOn_140) hw (fun H locs hw => ?_)
          refine lv_if_eq (tgt := 150) hx hb dX1_goesOn_143 (by decide) (fun hc => ?_) (fun hc => ?_)
          · have hf := if_p hc hf
            refine lv_iconst (v := 0) hx hb dX1_goesOn_150 (by decide) ?_
            exact e_zret C hw rfl hf dX1_goesOn_151
          · have hf := if_n hc hf
            refine lv_iconst (v := 1) hx hb dX1_goesOn_146 (by decide) ?_
            refine lv_goto (tgt := 151) hx hb dX1_goesOn_147 (by decide) ?_
            exact e_zret C hw rfl hf dX1_goesOn_151
    · have hf := if_p hc hf
      refine lv_iload hx hb dX1_goesOn_97 (lv_at hl 4 rfl) ?_
      refine lv_bipush (v := 41) hx hb dX1_goesOn_99 (by decide) ?_
      refine lv_icmp_ne (tgt := 111) hx hb dX1_goesOn_101 (by decide) (fun hc => ?_) (fun hc => ?_)
      · have hf := if_n hc hf
        refine lv_aload_n hx hb dX1_goesOn_111 rfl (lv_at hl 0 rfl) ?_
        refine lv_iload hx hb dX1_goesOn_112 (lv_at hl 4 rfl) ?_
        obtain ⟨r38, M37, hc39, hf⟩ := cl_inv hf
        refine fin_I (run_V C hw mf_X1_joins mv_X1_joins ml_X1_103 cf1 hT1 (c_X1_joins l G A ad hc39) (As := [.int x4]) (rest := []) hl.1 rfl rfl (Nat.le_of_ble_eq_true rfl) ⟨rfl, rfl, Nat.le_of_ble_eq_true rfl, Nat.le_of_ble_eq_true rfl⟩ ⟨Nat.zero_le _, Nat.zero_le _⟩ dX1_goesOn_114) hw (fun H locs hw => ?_)
        obtain ⟨hg40, hf⟩ := gd_inv hf
        exact e_zret C hw hg40 hf dX1_goesOn_117
      · have hf := if_p hc hf
        refine lv_aload_n hx hb dX1_goesOn_104 rfl (lv_at hl 0 rfl) ?_
        obtain ⟨r42, M41, hc43, hf⟩ := cl_inv hf
        refine fin_I (run_V C hw mf_X1_closes mv_X1_closes ml_X1_99 cf1 hT1 (c_X1_closes l G A ad hc43) (As := []) (rest := []) hl.1 rfl rfl (Nat.le_of_ble_eq_true rfl) ⟨rfl, rfl, Nat.le_of_ble_eq_true rfl, Nat.le_of_ble_eq_true rfl⟩ ⟨Nat.zero_le _, Nat.zero_le _⟩ dX1_goesOn_105) hw (fun H locs hw => ?_)
        refine lv_goto (tgt := 117) hx hb dX1_goesOn_108 (by decide) ?_
        obtain ⟨hg44, hf⟩ := gd_inv hf
        exact e_zret C hw hg44 hf dX1_goesOn_117
  · have hf := if_p hc hf
    refine lv_aload_n hx hb dX1_goesOn_65 rfl (lv_at hl 0 rfl) ?_
    refine lv_aload_n hx hb dX1_goesOn_66 rfl (lv_at hl 1 rfl) ?_
    refine lv_iload_n hx hb dX1_goesOn_67 rfl (lv_at hl 2 rfl) ?_
    refine lv_iload_n hx hb dX1_goesOn_68 rfl (lv_at hl 3 rfl) ?_
    obtain ⟨r46, M45, hc47, hf⟩ := cl_inv hf
    refine fin_I (run_S C hw mf_X1_keyAt ms_X1_keyAt ml_X1_95 (c_X1_keyAt l G A ad hc47) (As := [.ref (ad x1), .int x2, .int x3]) (rest := [.ref (ad x0)]) hl.1 rfl rfl (Nat.le_of_ble_eq_true rfl) ⟨rfl, rfl, Nat.le_of_ble_eq_true rfl, Nat.le_of_ble_eq_true rfl⟩ ⟨Nat.zero_le _, Nat.zero_le _⟩ dX1_goesOn_69) hw (fun H locs hw => ?_)
    obtain ⟨hT48, hf⟩ := gt_inv hf
    obtain ⟨M49, e50, hf⟩ := st_inv hf
    have g51 := sg_I e50
    refine r_putI C hw cf1 4 (by decide) rfl hT48 e50 fl_X1_57 rfl rfl rfl dX1_goesOn_72 (fun H locs hw => ?_)
    refine lv_aload_n hx hb dX1_goesOn_75 rfl (lv_at hl 0 rfl) ?_
    refine r_getI C hw cf1 4 (by decide) rfl (T_of g51 hT48) fl_X1_57 dX1_goesOn_76 ?_
    refine lv_ldc hx hb C.2.2.2.1 (C.2.2.2.2.1 _ kc_X1_78) dX1_goesOn_79 ?_
    refine lv_icmp_eq (tgt := 88) hx hb dX1_goesOn_81 (by decide) (fun hc => ?_) (fun hc => ?_)
    · have hf := if_p hc hf
      refine lv_iconst (v := 0) hx hb dX1_goesOn_88 (by decide) ?_
      exact e_zret C hw rfl hf dX1_goesOn_89
    · have hf := if_n hc hf
      refine lv_iconst (v := 1) hx hb dX1_goesOn_84 (by decide) ?_
      refine lv_goto (tgt := 89) hx hb dX1_goesOn_85 (by decide) ?_
      exact e_zret C hw rfl hf dX1_goesOn_89
def f_X1_goesOn_46 (M : Mem) (x0 : Nat) (x1 : Nat) (x2 : Int32) (x3 : Int32) (x4 : Int32) (x5 : Int32) : Option (Int32 × Mem) := (if x5 = 0 then f_X1_goesOn_56 M x0 x1 x2 x3 x4 else gt (mT M x0) 2 (st (setI M x0 6 x3) (fun M2 => f_X1_goesOn_56 M2 x0 x1 x2 x3 x4)))
set_option maxHeartbeats 4000000 in
set_option maxRecDepth 100000 in
theorem t_X1_goesOn_46 {l : Launch} {p : Program} {e : Env} {s : State} {m : MethodId} {args : Array Value} {below : List Frame} {meth : Method} {c : Code} {G : Gd} {A : Nat → Prop} {ad : Nat → Nat} (C : Cx G A p s m args meth c RX1 cX1_goesOn 7 (some .boolean)) {r : Int32} {M' : Mem} : ∀ (M : Mem) (x0 : Nat) (x1 : Nat) (x2 : Int32) (x3 : Int32) (x4 : Int32) (x5 : Int32) (H : Heap) (locs : List Loc) (ls : Array Slot), f_X1_goesOn_46  M x0 x1 x2 x3 x4 x5 = some (r, M') → Wd G A ad s.heap M H locs → lv_has ls 7 [(0, .ref (ad x0)), (1, .ref (ad x1)), (2, .int x2), (3, .int x3), (4, .int x4), (5, .int x5)] → W p l e rm_X1_goesOn s m args below meth c H locs 0 0 (MQ below (QI G A ad r M') args s 0 0 A) (F0 m 46 ls []) := by
  obtain ⟨hx, hb, -⟩ := id C
  intro M x0 x1 x2 x3 x4 x5 H locs ls hf hw hl
  rw [f_X1_goesOn_46] at hf
  refine lv_iload hx hb dX1_goesOn_46 (lv_at hl 5 rfl) ?_
  refine lv_if_eq (tgt := 56) hx hb dX1_goesOn_48 (by decide) (fun hc => ?_) (fun hc => ?_)
  · have hf := if_p hc hf
    exact t_X1_goesOn_56 C M x0 x1 x2 x3 x4 _ _ _ hf hw (lv_sub hl [0, 1, 2, 3, 4] rfl)
  · have hf := if_n hc hf
    refine lv_aload_n hx hb dX1_goesOn_51 rfl (lv_at hl 0 rfl) ?_
    refine lv_iload_n hx hb dX1_goesOn_52 rfl (lv_at hl 3 rfl) ?_
    obtain ⟨hT1, hf⟩ := gt_inv hf
    obtain ⟨M2, e3, hf⟩ := st_inv hf
    have g4 := sg_I e3
    refine r_putI C hw cf1 6 (by decide) rfl hT1 e3 fl_X1_79 rfl rfl rfl dX1_goesOn_53 (fun H locs hw => ?_)
    exact t_X1_goesOn_56 C M2 x0 x1 x2 x3 x4 _ _ _ hf hw (lv_sub hl [0, 1, 2, 3, 4] rfl)
def f_X1_goesOn_29 (M : Mem) (x0 : Nat) (x1 : Nat) (x2 : Int32) (x3 : Int32) (x4 : Int32) (s0 : Int32) : Option (Int32 × Mem) := (if s0 = 0 then f_X1_goesOn_46 M x0 x1 x2 x3 x4 s0 else gt (mT M x0) 2 ((if x2 = (mI M x0 6) then some (0, M) else f_X1_goesOn_46 M x0 x1 x2 x3 x4 s0)))
set_option maxHeartbeats 4000000 in
set_option maxRecDepth 100000 in
theorem t_X1_goesOn_29 {l : Launch} {p : Program} {e : Env} {s : State} {m : MethodId} {args : Array Value} {below : List Frame} {meth : Method} {c : Code} {G : Gd} {A : Nat → Prop} {ad : Nat → Nat} (C : Cx G A p s m args meth c RX1 cX1_goesOn 7 (some .boolean)) {r : Int32} {M' : Mem} : ∀ (M : Mem) (x0 : Nat) (x1 : Nat) (x2 : Int32) (x3 : Int32) (x4 : Int32) (s0 : Int32) (H : Heap) (locs : List Loc) (ls : Array Slot), f_X1_goesOn_29  M x0 x1 x2 x3 x4 s0 = some (r, M') → Wd G A ad s.heap M H locs → lv_has ls 7 [(0, .ref (ad x0)), (1, .ref (ad x1)), (2, .int x2), (3, .int x3), (4, .int x4)] → W p l e rm_X1_goesOn s m args below meth c H locs 0 0 (MQ below (QI G A ad r M') args s 0 0 A) (F0 m 29 ls [.int s0]) := by
  obtain ⟨hx, hb, -⟩ := id C
  intro M x0 x1 x2 x3 x4 s0 H locs ls hf hw hl
  rw [f_X1_goesOn_29] at hf
  refine lv_istore (lv' := [(5, .int s0), (0, .ref (ad x0)), (1, .ref (ad x1)), (2, .int x2), (3, .int x3), (4, .int x4)]) hx hb dX1_goesOn_29 hl (by decide) rfl (fun ls hl => ?_)
  refine lv_iload hx hb dX1_goesOn_31 (lv_at hl 0 rfl) ?_
  refine lv_if_eq (tgt := 46) hx hb dX1_goesOn_33 (by decide) (fun hc => ?_) (fun hc => ?_)
  · have hf := if_p hc hf
    exact t_X1_goesOn_46 C M x0 x1 x2 x3 x4 s0 _ _ _ hf hw (lv_sub hl [1, 2, 3, 4, 5, 0] rfl)
  · have hf := if_n hc hf
    refine lv_iload_n hx hb dX1_goesOn_36 rfl (lv_at hl 3 rfl) ?_
    refine lv_aload_n hx hb dX1_goesOn_37 rfl (lv_at hl 1 rfl) ?_
    obtain ⟨hT1, hf⟩ := gt_inv hf
    refine r_getI C hw cf1 6 (by decide) rfl hT1 fl_X1_79 dX1_goesOn_38 ?_
    refine lv_icmp_ne (tgt := 46) hx hb dX1_goesOn_41 (by decide) (fun hc => ?_) (fun hc => ?_)
    · have hf := if_n hc hf
      exact t_X1_goesOn_46 C M x0 x1 x2 x3 x4 s0 _ _ _ hf hw (lv_sub hl [1, 2, 3, 4, 5, 0] rfl)
    · have hf := if_p hc hf
      refine lv_iconst (v := 0) hx hb dX1_goesOn_44 (by decide) ?_
      exact e_zret C hw rfl hf dX1_goesOn_45
def f_X1_goesOn (M : Mem) (x0 : Nat) (x1 : Nat) (x2 : Int32) (x3 : Int32) : Option (Int32 × Mem) := gt (mT M x1) 7 (lp (mP M x1 0) (fun a2 => gt (mT M a2) 20 (gd (ib x2 (mL M a2)) (cl (f_X9_isLetter M (mI M a2 x2.toNatClampNeg)) (fun r7 M6 => (if r7 = 0 then cl (f_X9_isDigit M6 (mI M a2 x2.toNatClampNeg)) (fun r10 M9 => (if r10 = 0 then f_X1_goesOn_29 M9 x0 x1 x2 x3 (mI M a2 x2.toNatClampNeg) 0 else f_X1_goesOn_29 M9 x0 x1 x2 x3 (mI M a2 x2.toNatClampNeg) 1)) else f_X1_goesOn_29 M6 x0 x1 x2 x3 (mI M a2 x2.toNatClampNeg) 1))))))
set_option maxHeartbeats 4000000 in
set_option maxRecDepth 100000 in
theorem c_X1_goesOn (l : Launch) (G : Gd) (A : Nat → Prop) (ad : Nat → Nat) {M : Mem} {x0 : Nat} {x1 : Nat} {x2 : Int32} {x3 : Int32}  {r : Int32} {M' : Mem} (hf : f_X1_goesOn M x0 x1 x2 x3 = some (r, M')) : Ct l yX1_goesOn cX1_goesOn 7 (some .boolean) rm_X1_goesOn [.ref (ad x0), .ref (ad x1), .int x2, .int x3] G A ad M (QI G A ad r M') 0 0 := by
  refine ct_start (by decide) (Nat.le_of_ble_eq_true rfl) ?_
  intro p e s m args below meth c ls C hin hw hl
  have C : Cx G A p s m args meth c RX1 cX1_goesOn 7 (some .boolean) := C
  have hl : lv_has ls 7 [(0, .ref (ad x0)), (1, .ref (ad x1)), (2, .int x2), (3, .int x3)] := hl
  obtain ⟨hx, hb, -⟩ := id C
  rw [f_X1_goesOn] at hf
  refine lv_aload_n hx hb dX1_goesOn_0 rfl (lv_at hl 1 rfl) ?_
  obtain ⟨hT1, hf⟩ := gt_inv hf
  obtain ⟨a2, hP3, hf⟩ := lp_inv hf
  refine r_getP C hw cf6 0 (by decide) rfl hT1 hP3 fl_X1_27 dX1_goesOn_1 ?_
  refine lv_iload_n hx hb dX1_goesOn_4 rfl (lv_at hl 2 rfl) ?_
  obtain ⟨hT4, hf⟩ := gt_inv hf
  obtain ⟨hg5, hf⟩ := gd_inv hf
  refine r_iald C hw hT4 hg5 dX1_goesOn_5 ?_
  refine lv_istore (lv' := [(4, .int (mI M a2 x2.toNatClampNeg)), (0, .ref (ad x0)), (1, .ref (ad x1)), (2, .int x2), (3, .int x3)]) hx hb dX1_goesOn_6 hl (by decide) rfl (fun ls hl => ?_)
  refine lv_iload hx hb dX1_goesOn_8 (lv_at hl 0 rfl) ?_
  obtain ⟨r7, M6, hc8, hf⟩ := cl_inv hf
  refine fin_I (run_S C hw mf_X9_isLetter ms_X9_isLetter ml_X1_88 (c_X9_isLetter l G A ad hc8) (As := [.int (mI M a2 x2.toNatClampNeg)]) (rest := []) hl.1 rfl rfl (Nat.le_of_ble_eq_true rfl) ⟨rfl, rfl, Nat.le_of_ble_eq_true rfl, Nat.le_of_ble_eq_true rfl⟩ ⟨Nat.zero_le _, Nat.zero_le _⟩ dX1_goesOn_10) hw (fun H locs hw => ?_)
  refine lv_if_ne (tgt := 24) hx hb dX1_goesOn_13 (by decide) (fun hc => ?_) (fun hc => ?_)
  · have hf := if_n hc hf
    refine lv_iconst (v := 1) hx hb dX1_goesOn_24 (by decide) ?_
    refine lv_goto (tgt := 29) hx hb dX1_goesOn_25 (by decide) ?_
    exact t_X1_goesOn_29 C M6 x0 x1 x2 x3 (mI M a2 x2.toNatClampNeg) 1 _ _ _ hf hw (lv_sub hl [1, 2, 3, 4, 0] rfl)
  · have hf := if_p hc hf
    refine lv_iload hx hb dX1_goesOn_16 (lv_at hl 0 rfl) ?_
    obtain ⟨r10, M9, hc11, hf⟩ := cl_inv hf
    refine fin_I (run_S C hw mf_X9_isDigit ms_X9_isDigit ml_X1_92 (c_X9_isDigit l G A ad hc11) (As := [.int (mI M a2 x2.toNatClampNeg)]) (rest := []) hl.1 rfl rfl (Nat.le_of_ble_eq_true rfl) ⟨rfl, rfl, Nat.le_of_ble_eq_true rfl, Nat.le_of_ble_eq_true rfl⟩ ⟨Nat.zero_le _, Nat.zero_le _⟩ dX1_goesOn_18) hw (fun H locs hw => ?_)
    refine lv_if_eq (tgt := 28) hx hb dX1_goesOn_21 (by decide) (fun hc => ?_) (fun hc => ?_)
    · have hf := if_p hc hf
      refine lv_iconst (v := 0) hx hb dX1_goesOn_28 (by decide) ?_
      exact t_X1_goesOn_29 C M9 x0 x1 x2 x3 (mI M a2 x2.toNatClampNeg) 0 _ _ _ hf hw (lv_sub hl [1, 2, 3, 4, 0] rfl)
    · have hf := if_n hc hf
      refine lv_iconst (v := 1) hx hb dX1_goesOn_24 (by decide) ?_
      refine lv_goto (tgt := 29) hx hb dX1_goesOn_25 (by decide) ?_
      exact t_X1_goesOn_29 C M9 x0 x1 x2 x3 (mI M a2 x2.toNatClampNeg) 1 _ _ _ hf hw (lv_sub hl [1, 2, 3, 4, 0] rfl)
/-! StorkVote$Reader.fault(LStorkVote$Tape;)I -/
abbrev rm_X1_fault : Room := { frames := 7, cells := 0, slots := 0, locals := 157 }
def f_X1_fault_74 (M : Mem) (x1 : Nat) : Option (Int32 × Mem) := gt (mT M x1) 7 (some ((mI M x1 1), M))
set_option maxHeartbeats 4000000 in
set_option maxRecDepth 100000 in
theorem t_X1_fault_74 {l : Launch} {p : Program} {e : Env} {s : State} {m : MethodId} {args : Array Value} {below : List Frame} {meth : Method} {c : Code} {G : Gd} {A : Nat → Prop} {ad : Nat → Nat} (C : Cx G A p s m args meth c RX1 cX1_fault 4 (some .int)) {r : Int32} {M' : Mem} : ∀ (M : Mem) (x1 : Nat) (H : Heap) (locs : List Loc) (ls : Array Slot), f_X1_fault_74  M x1 = some (r, M') → Wd G A ad s.heap M H locs → lv_has ls 4 [(1, .ref (ad x1))] → W p l e rm_X1_fault s m args below meth c H locs 0 0 (MQ below (QI G A ad r M') args s 0 0 A) (F0 m 74 ls []) := by
  obtain ⟨hx, hb, -⟩ := id C
  intro M x1 H locs ls hf hw hl
  rw [f_X1_fault_74] at hf
  refine lv_aload_n hx hb dX1_fault_74 rfl (lv_at hl 0 rfl) ?_
  obtain ⟨hT1, hf⟩ := gt_inv hf
  refine r_getI C hw cf6 1 (by decide) rfl hT1 fl_X1_21 dX1_fault_75 ?_
  exact e_iret C hw hf dX1_fault_78
def f_X1_fault_6 : Nat → Mem → Nat → Nat → Int32 → Option (Int32 × Mem)
  | 0, _, _, _, _ => none
  | n + 1, M, x0, x1, x2 => gt (mT M x1) 7 ((if (mI M x1 1) ≤ x2 then gt (mT M x0) 2 ((if (mI M x0 7) = 0 then (if (mI M x0 8) ≤ 0 then cl (f_X1_joinDownTo M x0 1) (fun _ M3 => some ((-1), M3)) else f_X1_fault_74 M x1) else f_X1_fault_74 M x1)) else lp (mP M x1 0) (fun a6 => gt (mT M a6) 20 (gd (ib x2 (mL M a6)) ((if (mI M a6 x2.toNatClampNeg) = 32 then f_X1_fault_6 n M x0 x1 (x2 + 1) else cl (f_X6_endOf M x1 x2) (fun r11 M10 => gt (mT M10 x0) 2 (cl (f_X1_goesOn M10 x0 x1 x2 r11) (fun r14 M13 => (if r14 = 0 then some (x2, M13) else f_X1_fault_6 n M13 x0 x1 (imax (x2 + 1) r11)))))))))))
set_option maxHeartbeats 4000000 in
set_option maxRecDepth 100000 in
theorem t_X1_fault_6 {l : Launch} {p : Program} {e : Env} {s : State} {m : MethodId} {args : Array Value} {below : List Frame} {meth : Method} {c : Code} {G : Gd} {A : Nat → Prop} {ad : Nat → Nat} (C : Cx G A p s m args meth c RX1 cX1_fault 4 (some .int)) {r : Int32} {M' : Mem} : ∀ (n : Nat) (M : Mem) (x0 : Nat) (x1 : Nat) (x2 : Int32) (H : Heap) (locs : List Loc) (ls : Array Slot), f_X1_fault_6  n M x0 x1 x2 = some (r, M') → Wd G A ad s.heap M H locs → lv_has ls 4 [(0, .ref (ad x0)), (1, .ref (ad x1)), (2, .int x2)] → W p l e rm_X1_fault s m args below meth c H locs 0 0 (MQ below (QI G A ad r M') args s 0 0 A) (F0 m 6 ls []) := by
  obtain ⟨hx, hb, -⟩ := id C
  intro n
  induction n with
  | zero =>
    intro M x0 x1 x2 H locs ls hf
    rw [f_X1_fault_6] at hf
    exact absurd hf (fun h => nomatch h)
  | succ n ih =>
    intro M x0 x1 x2 H locs ls hf hw hl
    rw [f_X1_fault_6] at hf
    refine lv_iload_n hx hb dX1_fault_6 rfl (lv_at hl 2 rfl) ?_
    refine lv_aload_n hx hb dX1_fault_7 rfl (lv_at hl 1 rfl) ?_
    obtain ⟨hT1, hf⟩ := gt_inv hf
    refine r_getI C hw cf6 1 (by decide) rfl hT1 fl_X1_21 dX1_fault_8 ?_
    refine lv_icmp_ge (tgt := 60) hx hb dX1_fault_11 (by decide) (fun hc => ?_) (fun hc => ?_)
    · have hf := if_p hc hf
      refine lv_aload_n hx hb dX1_fault_60 rfl (lv_at hl 0 rfl) ?_
      obtain ⟨hT2, hf⟩ := gt_inv hf
      refine r_getI C hw cf1 7 (by decide) rfl hT2 fl_X1_44 dX1_fault_61 ?_
      refine lv_if_ne (tgt := 74) hx hb dX1_fault_64 (by decide) (fun hc => ?_) (fun hc => ?_)
      · have hf := if_n hc hf
        exact t_X1_fault_74 C M x1 _ _ _ hf hw (lv_sub hl [1] rfl)
      · have hf := if_p hc hf
        refine lv_aload_n hx hb dX1_fault_67 rfl (lv_at hl 0 rfl) ?_
        refine r_getI C hw cf1 8 (by decide) rfl hT2 fl_X1_48 dX1_fault_68 ?_
        refine lv_if_le (tgt := 79) hx hb dX1_fault_71 (by decide) (fun hc => ?_) (fun hc => ?_)
        · have hf := if_p hc hf
          refine lv_aload_n hx hb dX1_fault_79 rfl (lv_at hl 0 rfl) ?_
          refine lv_iconst (v := 1) hx hb dX1_fault_80 (by decide) ?_
          obtain ⟨⟨⟩, M3, hc5, hf⟩ := cl_inv hf
          refine fin_V (run_V C hw mf_X1_joinDownTo mv_X1_joinDownTo ml_X1_51 cf1 hT2 (c_X1_joinDownTo l G A ad hc5) (As := [.int 1]) (rest := []) hl.1 rfl rfl (Nat.le_of_ble_eq_true rfl) ⟨rfl, rfl, Nat.le_of_ble_eq_true rfl, Nat.le_of_ble_eq_true rfl⟩ ⟨Nat.zero_le _, Nat.zero_le _⟩ dX1_fault_81) hw (fun H locs hw => ?_)
          refine lv_iconst (v := (-1)) hx hb dX1_fault_84 (by decide) ?_
          exact e_iret C hw hf dX1_fault_85
        · have hf := if_n hc hf
          exact t_X1_fault_74 C M x1 _ _ _ hf hw (lv_sub hl [1] rfl)
    · have hf := if_n hc hf
      refine lv_aload_n hx hb dX1_fault_14 rfl (lv_at hl 1 rfl) ?_
      obtain ⟨a6, hP7, hf⟩ := lp_inv hf
      refine r_getP C hw cf6 0 (by decide) rfl hT1 hP7 fl_X1_27 dX1_fault_15 ?_
      refine lv_iload_n hx hb dX1_fault_18 rfl (lv_at hl 2 rfl) ?_
      obtain ⟨hT8, hf⟩ := gt_inv hf
      obtain ⟨hg9, hf⟩ := gd_inv hf
      refine r_iald C hw hT8 hg9 dX1_fault_19 ?_
      refine lv_bipush (v := 32) hx hb dX1_fault_20 (by decide) ?_
      refine lv_icmp_ne (tgt := 31) hx hb dX1_fault_22 (by decide) (fun hc => ?_) (fun hc => ?_)
      · have hf := if_n hc hf
        refine lv_aload_n hx hb dX1_fault_31 rfl (lv_at hl 1 rfl) ?_
        refine lv_iload_n hx hb dX1_fault_32 rfl (lv_at hl 2 rfl) ?_
        obtain ⟨r11, M10, hc12, hf⟩ := cl_inv hf
        refine fin_I (run_V C hw mf_X6_endOf mv_X6_endOf ml_X1_30 cf6 hT1 (c_X6_endOf l G A ad hc12) (As := [.int x2]) (rest := []) hl.1 rfl rfl (Nat.le_of_ble_eq_true rfl) ⟨rfl, rfl, Nat.le_of_ble_eq_true rfl, Nat.le_of_ble_eq_true rfl⟩ ⟨Nat.zero_le _, Nat.zero_le _⟩ dX1_fault_33) hw (fun H locs hw => ?_)
        refine lv_istore_n (lv' := [(3, .int r11), (0, .ref (ad x0)), (1, .ref (ad x1)), (2, .int x2)]) hx hb dX1_fault_36 rfl hl (by decide) rfl (fun ls hl => ?_)
        refine lv_aload_n hx hb dX1_fault_37 rfl (lv_at hl 1 rfl) ?_
        refine lv_aload_n hx hb dX1_fault_38 rfl (lv_at hl 2 rfl) ?_
        refine lv_iload_n hx hb dX1_fault_39 rfl (lv_at hl 3 rfl) ?_
        refine lv_iload_n hx hb dX1_fault_40 rfl (lv_at hl 0 rfl) ?_
        obtain ⟨hT16, hf⟩ := gt_inv hf
        obtain ⟨r14, M13, hc15, hf⟩ := cl_inv hf
        refine fin_I (run_V C hw mf_X1_goesOn mv_X1_goesOn ml_X1_34 cf1 hT16 (c_X1_goesOn l G A ad hc15) (As := [.ref (ad x1), .int x2, .int r11]) (rest := []) hl.1 rfl rfl (Nat.le_of_ble_eq_true rfl) ⟨rfl, rfl, Nat.le_of_ble_eq_true rfl, Nat.le_of_ble_eq_true rfl⟩ ⟨Nat.zero_le _, Nat.zero_le _⟩ dX1_fault_41) hw (fun H locs hw => ?_)
        refine lv_if_ne (tgt := 49) hx hb dX1_fault_44 (by decide) (fun hc => ?_) (fun hc => ?_)
        · have hf := if_n hc hf
          refine lv_iload_n hx hb dX1_fault_49 rfl (lv_at hl 3 rfl) ?_
          refine lv_iconst (v := 1) hx hb dX1_fault_50 (by decide) ?_
          refine lv_iadd hx hb dX1_fault_51 ?_
          refine lv_iload_n hx hb dX1_fault_52 rfl (lv_at hl 0 rfl) ?_
          refine r_max C hl.1 mk_X1_38 (Nat.le_of_ble_eq_true rfl) (Nat.le_of_ble_eq_true rfl) (Nat.le_of_ble_eq_true rfl) (Nat.le_of_ble_eq_true rfl) dX1_fault_53 ?_
          refine lv_istore_n (lv' := [(2, .int (imax (x2 + 1) r11)), (3, .int r11), (0, .ref (ad x0)), (1, .ref (ad x1))]) hx hb dX1_fault_56 rfl hl (by decide) rfl (fun ls hl => ?_)
          refine lv_goto (tgt := 6) hx hb dX1_fault_57 (by decide) ?_
          exact ih M13 x0 x1 (imax (x2 + 1) r11) _ _ _ hf hw (lv_sub hl [2, 3, 0] rfl)
        · have hf := if_p hc hf
          refine lv_iload_n hx hb dX1_fault_47 rfl (lv_at hl 3 rfl) ?_
          exact e_iret C hw hf dX1_fault_48
      · have hf := if_p hc hf
        refine lv_iinc (v := (x2 + 1)) (lv' := [(2, .int (x2 + 1)), (0, .ref (ad x0)), (1, .ref (ad x1))]) hx hb dX1_fault_25 hl (k := 2) rfl rfl (by decide) rfl (fun ls hl => ?_)
        refine lv_goto (tgt := 6) hx hb dX1_fault_28 (by decide) ?_
        exact ih M x0 x1 (x2 + 1) _ _ _ hf hw (lv_sub hl [1, 2, 0] rfl)
def f_X1_fault (M : Mem) (x0 : Nat) (x1 : Nat) : Option (Int32 × Mem) := gt (mT M x0) 2 (cl (f_X1_begin M x0) (fun _ M1 => f_X1_fault_6 FU M1 x0 x1 0))
set_option maxHeartbeats 4000000 in
set_option maxRecDepth 100000 in
theorem c_X1_fault (l : Launch) (G : Gd) (A : Nat → Prop) (ad : Nat → Nat) {M : Mem} {x0 : Nat} {x1 : Nat}  {r : Int32} {M' : Mem} (hf : f_X1_fault M x0 x1 = some (r, M')) : Ct l yX1_fault cX1_fault 4 (some .int) rm_X1_fault [.ref (ad x0), .ref (ad x1)] G A ad M (QI G A ad r M') 0 0 := by
  refine ct_start (by decide) (Nat.le_of_ble_eq_true rfl) ?_
  intro p e s m args below meth c ls C hin hw hl
  have C : Cx G A p s m args meth c RX1 cX1_fault 4 (some .int) := C
  have hl : lv_has ls 4 [(0, .ref (ad x0)), (1, .ref (ad x1))] := hl
  obtain ⟨hx, hb, -⟩ := id C
  rw [f_X1_fault] at hf
  refine lv_aload_n hx hb dX1_fault_0 rfl (lv_at hl 0 rfl) ?_
  obtain ⟨hT4, hf⟩ := gt_inv hf
  obtain ⟨⟨⟩, M1, hc3, hf⟩ := cl_inv hf
  refine fin_V (run_V C hw mf_X1_begin mv_X1_begin ml_X1_18 cf1 hT4 (c_X1_begin l G A ad hc3) (As := []) (rest := []) hl.1 rfl rfl (Nat.le_of_ble_eq_true rfl) ⟨rfl, rfl, Nat.le_of_ble_eq_true rfl, Nat.le_of_ble_eq_true rfl⟩ ⟨Nat.zero_le _, Nat.zero_le _⟩ dX1_fault_1) hw (fun H locs hw => ?_)
  refine lv_iconst (v := 0) hx hb dX1_fault_4 (by decide) ?_
  refine lv_istore_n (lv' := [(2, .int 0), (0, .ref (ad x0)), (1, .ref (ad x1))]) hx hb dX1_fault_5 rfl hl (by decide) rfl (fun ls hl => ?_)
  exact t_X1_fault_6 C FU M1 x0 x1 0 _ _ _ hf hw (lv_sub hl [1, 2, 0] rfl)
