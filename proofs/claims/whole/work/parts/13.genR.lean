/-! StorkVoteModel.feed(III)I -/
abbrev rm_X10_feed : Room := { frames := 0, cells := 0, slots := 0, locals := 0 }
def f_X10_feed_47 (K18 : Mem → Nat → Int32 → Int32 → Int32 → Int32 → Option (Int32 × Mem)) (M : Mem) (x0 : Nat) (x1 : Int32) (x2 : Int32) (x3 : Int32) (x4 : Int32) (s0 : Int32) : Option (Int32 × Mem) := gt (mT M x0) 11 (lp (mP M x0 9) (fun a2 => gt (mT M a2) 20 (gd (ib ((mI M x0 10) + x4) (mL M a2)) (st (setI M a2 ((mI M x0 10) + x4).toNatClampNeg ((s0 >>> ((24 - (8 * (irm x4 4))) &&& 31)) &&& 255)) (fun M6 => K18 M6 x0 x1 x2 x3 (x4 + 1))))))
set_option maxHeartbeats 4000000 in
set_option maxRecDepth 100000 in
theorem t_X10_feed_47 {l : Launch} {p : Program} {e : Env} {s : State} {m : MethodId} {args : Array Value} {below : List Frame} {meth : Method} {c : Code} {G : Gd} {A : Nat → Prop} {ad : Nat → Nat} (C : Cx G A p s m args meth c RX10 cX10_feed 6 (some .int)) {r : Int32} {M' : Mem} {K18 : Mem → Nat → Int32 → Int32 → Int32 → Int32 → Option (Int32 × Mem)} (hK18 : ∀ (M : Mem) (x0 : Nat) (x1 : Int32) (x2 : Int32) (x3 : Int32) (x4 : Int32) (H : Heap) (locs : List Loc) (ls : Array Slot), K18 M x0 x1 x2 x3 x4 = some (r, M') → Wd G A ad s.heap M H locs → lv_has ls 6 [(0, .ref (ad x0)), (1, .int x1), (2, .int x2), (3, .int x3), (4, .int x4)] → W p l e rm_X10_feed s m args below meth c H locs 0 0 (MQ below (QI G A ad r M') args s 0 0 A) (F0 m 18 ls [])) : ∀ (M : Mem) (x0 : Nat) (x1 : Int32) (x2 : Int32) (x3 : Int32) (x4 : Int32) (s0 : Int32) (H : Heap) (locs : List Loc) (ls : Array Slot), f_X10_feed_47 K18 M x0 x1 x2 x3 x4 s0 = some (r, M') → Wd G A ad s.heap M H locs → lv_has ls 6 [(0, .ref (ad x0)), (1, .int x1), (2, .int x2), (3, .int x3), (4, .int x4)] → W p l e rm_X10_feed s m args below meth c H locs 0 0 (MQ below (QI G A ad r M') args s 0 0 A) (F0 m 47 ls [.int s0]) := by
  obtain ⟨hx, hb, -⟩ := id C
  intro M x0 x1 x2 x3 x4 s0 H locs ls hf hw hl
  rw [f_X10_feed_47] at hf
  refine lv_istore (lv' := [(5, .int s0), (0, .ref (ad x0)), (1, .int x1), (2, .int x2), (3, .int x3), (4, .int x4)]) hx hb dX10_feed_47 hl (by decide) rfl (fun ls hl => ?_)
  refine lv_aload_n hx hb dX10_feed_49 rfl (lv_at hl 1 rfl) ?_
  obtain ⟨hT1, hf⟩ := gt_inv hf
  obtain ⟨a2, hP3, hf⟩ := lp_inv hf
  refine r_getP C hw cf10 9 (by decide) rfl hT1 hP3 fl_X10_36 dX10_feed_50 ?_
  refine lv_aload_n hx hb dX10_feed_53 rfl (lv_at hl 1 rfl) ?_
  refine r_getI C hw cf10 10 (by decide) rfl hT1 fl_X10_199 dX10_feed_54 ?_
  refine lv_iload hx hb dX10_feed_57 (lv_at hl 5 rfl) ?_
  refine lv_iadd hx hb dX10_feed_59 ?_
  refine lv_iload hx hb dX10_feed_60 (lv_at hl 0 rfl) ?_
  refine lv_bipush (v := 24) hx hb dX10_feed_62 (by decide) ?_
  refine lv_bipush (v := 8) hx hb dX10_feed_64 (by decide) ?_
  refine lv_iload hx hb dX10_feed_66 (lv_at hl 5 rfl) ?_
  refine lv_iconst (v := 4) hx hb dX10_feed_68 (by decide) ?_
  refine lv_irem hx hb dX10_feed_69 (by decide) ?_
  refine lv_imul hx hb dX10_feed_70 ?_
  refine lv_isub hx hb dX10_feed_71 ?_
  refine lv_ishr hx hb dX10_feed_72 ?_
  refine lv_sipush (v := 255) hx hb dX10_feed_73 (by decide) ?_
  refine lv_iand hx hb dX10_feed_76 ?_
  obtain ⟨hT4, hf⟩ := gt_inv hf
  obtain ⟨hg5, hf⟩ := gd_inv hf
  obtain ⟨M6, e7, hf⟩ := st_inv hf
  have g8 := sg_I e7
  refine r_iast C hw hT4 hg5 e7 dX10_feed_77 (fun H locs hw => ?_)
  refine lv_iinc (v := (x4 + 1)) (lv' := [(4, .int (x4 + 1)), (5, .int s0), (0, .ref (ad x0)), (1, .int x1), (2, .int x2), (3, .int x3)]) hx hb dX10_feed_78 hl (k := 5) rfl rfl (by decide) rfl (fun ls hl => ?_)
  refine lv_goto (tgt := 18) hx hb dX10_feed_81 (by decide) ?_
  exact hK18 M6 x0 x1 x2 x3 (x4 + 1) _ _ _ hf hw (lv_sub hl [2, 3, 4, 5, 0] rfl)
def f_X10_feed_18 : Nat → Mem → Nat → Int32 → Int32 → Int32 → Int32 → Option (Int32 × Mem)
  | 0, _, _, _, _, _, _ => none
  | n + 1, M, x0, x1, x2, x3, x4 => (if 12 ≤ x4 then gt (mT M x0) 11 (st (setI M x0 10 ((mI M x0 10) + 12)) (fun M2 => some ((mI M2 x0 10), M2))) else (if 4 ≤ x4 then (if 8 ≤ x4 then f_X10_feed_47 (f_X10_feed_18 n) M x0 x1 x2 x3 x4 x3 else f_X10_feed_47 (f_X10_feed_18 n) M x0 x1 x2 x3 x4 x2) else f_X10_feed_47 (f_X10_feed_18 n) M x0 x1 x2 x3 x4 x1))
set_option maxHeartbeats 4000000 in
set_option maxRecDepth 100000 in
theorem t_X10_feed_18 {l : Launch} {p : Program} {e : Env} {s : State} {m : MethodId} {args : Array Value} {below : List Frame} {meth : Method} {c : Code} {G : Gd} {A : Nat → Prop} {ad : Nat → Nat} (C : Cx G A p s m args meth c RX10 cX10_feed 6 (some .int)) {r : Int32} {M' : Mem} : ∀ (n : Nat) (M : Mem) (x0 : Nat) (x1 : Int32) (x2 : Int32) (x3 : Int32) (x4 : Int32) (H : Heap) (locs : List Loc) (ls : Array Slot), f_X10_feed_18  n M x0 x1 x2 x3 x4 = some (r, M') → Wd G A ad s.heap M H locs → lv_has ls 6 [(0, .ref (ad x0)), (1, .int x1), (2, .int x2), (3, .int x3), (4, .int x4)] → W p l e rm_X10_feed s m args below meth c H locs 0 0 (MQ below (QI G A ad r M') args s 0 0 A) (F0 m 18 ls []) := by
  obtain ⟨hx, hb, -⟩ := id C
  intro n
  induction n with
  | zero =>
    intro M x0 x1 x2 x3 x4 H locs ls hf
    rw [f_X10_feed_18] at hf
    exact absurd hf (fun h => nomatch h)
  | succ n ih =>
    intro M x0 x1 x2 x3 x4 H locs ls hf hw hl
    rw [f_X10_feed_18] at hf
    refine lv_iload hx hb dX10_feed_18 (lv_at hl 4 rfl) ?_
    refine lv_bipush (v := 12) hx hb dX10_feed_20 (by decide) ?_
    refine lv_icmp_ge (tgt := 84) hx hb dX10_feed_22 (by decide) (fun hc => ?_) (fun hc => ?_)
    · have hf := if_p hc hf
      refine lv_aload_n hx hb dX10_feed_84 rfl (lv_at hl 0 rfl) ?_
      refine lv_dup hx hb dX10_feed_85 rfl ?_
      obtain ⟨hT1, hf⟩ := gt_inv hf
      refine r_getI C hw cf10 10 (by decide) rfl hT1 fl_X10_199 dX10_feed_86 ?_
      refine lv_bipush (v := 12) hx hb dX10_feed_89 (by decide) ?_
      refine lv_iadd hx hb dX10_feed_91 ?_
      obtain ⟨M2, e3, hf⟩ := st_inv hf
      have g4 := sg_I e3
      refine r_putI C hw cf10 10 (by decide) rfl hT1 e3 fl_X10_199 rfl rfl rfl dX10_feed_92 (fun H locs hw => ?_)
      refine lv_aload_n hx hb dX10_feed_95 rfl (lv_at hl 0 rfl) ?_
      refine r_getI C hw cf10 10 (by decide) rfl (T_of g4 hT1) fl_X10_199 dX10_feed_96 ?_
      exact e_iret C hw hf dX10_feed_99
    · have hf := if_n hc hf
      refine lv_iload hx hb dX10_feed_25 (lv_at hl 4 rfl) ?_
      refine lv_iconst (v := 4) hx hb dX10_feed_27 (by decide) ?_
      refine lv_icmp_ge (tgt := 35) hx hb dX10_feed_28 (by decide) (fun hc => ?_) (fun hc => ?_)
      · have hf := if_p hc hf
        refine lv_iload hx hb dX10_feed_35 (lv_at hl 4 rfl) ?_
        refine lv_bipush (v := 8) hx hb dX10_feed_37 (by decide) ?_
        refine lv_icmp_ge (tgt := 46) hx hb dX10_feed_39 (by decide) (fun hc => ?_) (fun hc => ?_)
        · have hf := if_p hc hf
          refine lv_iload_n hx hb dX10_feed_46 rfl (lv_at hl 3 rfl) ?_
          exact t_X10_feed_47 C ih M x0 x1 x2 x3 x4 x3 _ _ _ hf hw (lv_sub hl [0, 1, 2, 3, 4] rfl)
        · have hf := if_n hc hf
          refine lv_iload_n hx hb dX10_feed_42 rfl (lv_at hl 2 rfl) ?_
          refine lv_goto (tgt := 47) hx hb dX10_feed_43 (by decide) ?_
          exact t_X10_feed_47 C ih M x0 x1 x2 x3 x4 x2 _ _ _ hf hw (lv_sub hl [0, 1, 2, 3, 4] rfl)
      · have hf := if_n hc hf
        refine lv_iload_n hx hb dX10_feed_31 rfl (lv_at hl 1 rfl) ?_
        refine lv_goto (tgt := 47) hx hb dX10_feed_32 (by decide) ?_
        exact t_X10_feed_47 C ih M x0 x1 x2 x3 x4 x1 _ _ _ hf hw (lv_sub hl [0, 1, 2, 3, 4] rfl)
def f_X10_feed (M : Mem) (x0 : Nat) (x1 : Int32) (x2 : Int32) (x3 : Int32) : Option (Int32 × Mem) := gt (mT M x0) 11 ((if ((mI M x0 10) + 12) ≤ 96 then f_X10_feed_18 FU M x0 x1 x2 x3 0 else some ((-1000000003), M)))
set_option maxHeartbeats 4000000 in
set_option maxRecDepth 100000 in
theorem c_X10_feed (l : Launch) (G : Gd) (A : Nat → Prop) (ad : Nat → Nat) {M : Mem} {x0 : Nat} {x1 : Int32} {x2 : Int32} {x3 : Int32}  {r : Int32} {M' : Mem} (hf : f_X10_feed M x0 x1 x2 x3 = some (r, M')) : Ct l yX10_feed cX10_feed 6 (some .int) rm_X10_feed [.ref (ad x0), .int x1, .int x2, .int x3] G A ad M (QI G A ad r M') 0 0 := by
  refine ct_start (by decide) (Nat.le_of_ble_eq_true rfl) ?_
  intro p e s m args below meth c ls C hin hw hl
  have C : Cx G A p s m args meth c RX10 cX10_feed 6 (some .int) := C
  have hl : lv_has ls 6 [(0, .ref (ad x0)), (1, .int x1), (2, .int x2), (3, .int x3)] := hl
  obtain ⟨hx, hb, -⟩ := id C
  rw [f_X10_feed] at hf
  refine lv_aload_n hx hb dX10_feed_0 rfl (lv_at hl 0 rfl) ?_
  obtain ⟨hT1, hf⟩ := gt_inv hf
  refine r_getI C hw cf10 10 (by decide) rfl hT1 fl_X10_199 dX10_feed_1 ?_
  refine lv_bipush (v := 12) hx hb dX10_feed_4 (by decide) ?_
  refine lv_iadd hx hb dX10_feed_6 ?_
  refine lv_bipush (v := 96) hx hb dX10_feed_7 (by decide) ?_
  refine lv_icmp_le (tgt := 15) hx hb dX10_feed_9 (by decide) (fun hc => ?_) (fun hc => ?_)
  · have hf := if_p hc hf
    refine lv_iconst (v := 0) hx hb dX10_feed_15 (by decide) ?_
    refine lv_istore (lv' := [(4, .int 0), (0, .ref (ad x0)), (1, .int x1), (2, .int x2), (3, .int x3)]) hx hb dX10_feed_16 hl (by decide) rfl (fun ls hl => ?_)
    exact t_X10_feed_18 C FU M x0 x1 x2 x3 0 _ _ _ hf hw (lv_sub hl [1, 2, 3, 4, 0] rfl)
  · have hf := if_n hc hf
    refine lv_ldc hx hb C.2.2.2.1 (C.2.2.2.2.1 _ kc_X10_98) dX10_feed_12 ?_
    exact e_iret C hw hf dX10_feed_14
/-! StorkVoteModel.trim(I)I -/
abbrev rm_X10_trim : Room := { frames := 1, cells := 0, slots := 0, locals := 22 }
def f_X10_trim (M : Mem) (x0 : Nat) (x1 : Int32) : Option (Int32 × Mem) := gt (mT M x0) 11 (cl (f_X10_in M x1 0 (mI M x0 10)) (fun r3 M2 => (if r3 = 0 then some ((-1000000001), M2) else gt (mT M2 x0) 11 (st (setI M2 x0 10 x1) (fun M6 => some (x1, M6))))))
set_option maxHeartbeats 4000000 in
set_option maxRecDepth 100000 in
theorem c_X10_trim (l : Launch) (G : Gd) (A : Nat → Prop) (ad : Nat → Nat) {M : Mem} {x0 : Nat} {x1 : Int32}  {r : Int32} {M' : Mem} (hf : f_X10_trim M x0 x1 = some (r, M')) : Ct l yX10_trim cX10_trim 2 (some .int) rm_X10_trim [.ref (ad x0), .int x1] G A ad M (QI G A ad r M') 0 0 := by
  refine ct_start (by decide) (Nat.le_of_ble_eq_true rfl) ?_
  intro p e s m args below meth c ls C hin hw hl
  have C : Cx G A p s m args meth c RX10 cX10_trim 2 (some .int) := C
  have hl : lv_has ls 2 [(0, .ref (ad x0)), (1, .int x1)] := hl
  obtain ⟨hx, hb, -⟩ := id C
  rw [f_X10_trim] at hf
  refine lv_iload_n hx hb dX10_trim_0 rfl (lv_at hl 1 rfl) ?_
  refine lv_iconst (v := 0) hx hb dX10_trim_1 (by decide) ?_
  refine lv_aload_n hx hb dX10_trim_2 rfl (lv_at hl 0 rfl) ?_
  obtain ⟨hT1, hf⟩ := gt_inv hf
  refine r_getI C hw cf10 10 (by decide) rfl hT1 fl_X10_199 dX10_trim_3 ?_
  obtain ⟨r3, M2, hc4, hf⟩ := cl_inv hf
  refine fin_I (run_S C hw mf_X10_in ms_X10_in ml_X10_89 (c_X10_in l G A ad hc4) (As := [.int x1, .int 0, .int (mI M x0 10)]) (rest := []) hl.1 rfl rfl (Nat.le_of_ble_eq_true rfl) ⟨rfl, rfl, Nat.le_of_ble_eq_true rfl, Nat.le_of_ble_eq_true rfl⟩ ⟨Nat.zero_le _, Nat.zero_le _⟩ dX10_trim_6) hw (fun H locs hw => ?_)
  refine lv_if_ne (tgt := 15) hx hb dX10_trim_9 (by decide) (fun hc => ?_) (fun hc => ?_)
  · have hf := if_n hc hf
    refine lv_aload_n hx hb dX10_trim_15 rfl (lv_at hl 0 rfl) ?_
    refine lv_iload_n hx hb dX10_trim_16 rfl (lv_at hl 1 rfl) ?_
    obtain ⟨hT5, hf⟩ := gt_inv hf
    obtain ⟨M6, e7, hf⟩ := st_inv hf
    have g8 := sg_I e7
    refine r_putI C hw cf10 10 (by decide) rfl hT5 e7 fl_X10_199 rfl rfl rfl dX10_trim_17 (fun H locs hw => ?_)
    refine lv_iload_n hx hb dX10_trim_20 rfl (lv_at hl 1 rfl) ?_
    exact e_iret C hw hf dX10_trim_21
  · have hf := if_p hc hf
    refine lv_ldc hx hb C.2.2.2.1 (C.2.2.2.2.1 _ kc_X10_97) dX10_trim_12 ?_
    exact e_iret C hw hf dX10_trim_14
/-! StorkVoteModel.isLetter(I)Z -/
abbrev rm_X10_isLetter : Room := { frames := 0, cells := 0, slots := 0, locals := 0 }
def f_X10_isLetter (M : Mem) (x0 : Nat) (x1 : Int32) : Option (Int32 × Mem) := gt (mT M x0) 11 ((if (mI M x0 10) ≤ x1 then some (0, M) else lp (mP M x0 9) (fun a2 => gt (mT M a2) 20 (gd (ib x1 (mL M a2)) ((if (mI M a2 x1.toNatClampNeg) < 97 then some (0, M) else gd (ib x1 (mL M a2)) ((if 122 < (mI M a2 x1.toNatClampNeg) then some (0, M) else some (1, M)))))))))
set_option maxHeartbeats 4000000 in
set_option maxRecDepth 100000 in
theorem c_X10_isLetter (l : Launch) (G : Gd) (A : Nat → Prop) (ad : Nat → Nat) {M : Mem} {x0 : Nat} {x1 : Int32}  {r : Int32} {M' : Mem} (hf : f_X10_isLetter M x0 x1 = some (r, M')) : Ct l yX10_isLetter cX10_isLetter 2 (some .boolean) rm_X10_isLetter [.ref (ad x0), .int x1] G A ad M (QI G A ad r M') 0 0 := by
  refine ct_start (by decide) (Nat.le_of_ble_eq_true rfl) ?_
  intro p e s m args below meth c ls C hin hw hl
  have C : Cx G A p s m args meth c RX10 cX10_isLetter 2 (some .boolean) := C
  have hl : lv_has ls 2 [(0, .ref (ad x0)), (1, .int x1)] := hl
  obtain ⟨hx, hb, -⟩ := id C
  rw [f_X10_isLetter] at hf
  refine lv_iload_n hx hb dX10_isLetter_0 rfl (lv_at hl 1 rfl) ?_
  refine lv_aload_n hx hb dX10_isLetter_1 rfl (lv_at hl 0 rfl) ?_
  obtain ⟨hT1, hf⟩ := gt_inv hf
  refine r_getI C hw cf10 10 (by decide) rfl hT1 fl_X10_199 dX10_isLetter_2 ?_
  refine lv_icmp_ge (tgt := 34) hx hb dX10_isLetter_5 (by decide) (fun hc => ?_) (fun hc => ?_)
  · have hf := if_p hc hf
    refine lv_iconst (v := 0) hx hb dX10_isLetter_34 (by decide) ?_
    exact e_zret C hw rfl hf dX10_isLetter_35
  · have hf := if_n hc hf
    refine lv_aload_n hx hb dX10_isLetter_8 rfl (lv_at hl 0 rfl) ?_
    obtain ⟨a2, hP3, hf⟩ := lp_inv hf
    refine r_getP C hw cf10 9 (by decide) rfl hT1 hP3 fl_X10_36 dX10_isLetter_9 ?_
    refine lv_iload_n hx hb dX10_isLetter_12 rfl (lv_at hl 1 rfl) ?_
    obtain ⟨hT4, hf⟩ := gt_inv hf
    obtain ⟨hg5, hf⟩ := gd_inv hf
    refine r_iald C hw hT4 hg5 dX10_isLetter_13 ?_
    refine lv_bipush (v := 97) hx hb dX10_isLetter_14 (by decide) ?_
    refine lv_icmp_lt (tgt := 34) hx hb dX10_isLetter_16 (by decide) (fun hc => ?_) (fun hc => ?_)
    · have hf := if_p hc hf
      refine lv_iconst (v := 0) hx hb dX10_isLetter_34 (by decide) ?_
      exact e_zret C hw rfl hf dX10_isLetter_35
    · have hf := if_n hc hf
      refine lv_aload_n hx hb dX10_isLetter_19 rfl (lv_at hl 0 rfl) ?_
      refine r_getP C hw cf10 9 (by decide) rfl hT1 hP3 fl_X10_36 dX10_isLetter_20 ?_
      refine lv_iload_n hx hb dX10_isLetter_23 rfl (lv_at hl 1 rfl) ?_
      obtain ⟨hg6, hf⟩ := gd_inv hf
      refine r_iald C hw hT4 hg6 dX10_isLetter_24 ?_
      refine lv_bipush (v := 122) hx hb dX10_isLetter_25 (by decide) ?_
      refine lv_icmp_gt (tgt := 34) hx hb dX10_isLetter_27 (by decide) (fun hc => ?_) (fun hc => ?_)
      · have hf := if_p hc hf
        refine lv_iconst (v := 0) hx hb dX10_isLetter_34 (by decide) ?_
        exact e_zret C hw rfl hf dX10_isLetter_35
      · have hf := if_n hc hf
        refine lv_iconst (v := 1) hx hb dX10_isLetter_30 (by decide) ?_
        refine lv_goto (tgt := 35) hx hb dX10_isLetter_31 (by decide) ?_
        exact e_zret C hw rfl hf dX10_isLetter_35
/-! StorkVoteModel.isFigure(I)Z -/
abbrev rm_X10_isFigure : Room := { frames := 0, cells := 0, slots := 0, locals := 0 }
def f_X10_isFigure (M : Mem) (x0 : Nat) (x1 : Int32) : Option (Int32 × Mem) := gt (mT M x0) 11 ((if (mI M x0 10) ≤ x1 then some (0, M) else lp (mP M x0 9) (fun a2 => gt (mT M a2) 20 (gd (ib x1 (mL M a2)) ((if (mI M a2 x1.toNatClampNeg) < 48 then some (0, M) else gd (ib x1 (mL M a2)) ((if 57 < (mI M a2 x1.toNatClampNeg) then some (0, M) else some (1, M)))))))))
set_option maxHeartbeats 4000000 in
set_option maxRecDepth 100000 in
theorem c_X10_isFigure (l : Launch) (G : Gd) (A : Nat → Prop) (ad : Nat → Nat) {M : Mem} {x0 : Nat} {x1 : Int32}  {r : Int32} {M' : Mem} (hf : f_X10_isFigure M x0 x1 = some (r, M')) : Ct l yX10_isFigure cX10_isFigure 2 (some .boolean) rm_X10_isFigure [.ref (ad x0), .int x1] G A ad M (QI G A ad r M') 0 0 := by
  refine ct_start (by decide) (Nat.le_of_ble_eq_true rfl) ?_
  intro p e s m args below meth c ls C hin hw hl
  have C : Cx G A p s m args meth c RX10 cX10_isFigure 2 (some .boolean) := C
  have hl : lv_has ls 2 [(0, .ref (ad x0)), (1, .int x1)] := hl
  obtain ⟨hx, hb, -⟩ := id C
  rw [f_X10_isFigure] at hf
  refine lv_iload_n hx hb dX10_isFigure_0 rfl (lv_at hl 1 rfl) ?_
  refine lv_aload_n hx hb dX10_isFigure_1 rfl (lv_at hl 0 rfl) ?_
  obtain ⟨hT1, hf⟩ := gt_inv hf
  refine r_getI C hw cf10 10 (by decide) rfl hT1 fl_X10_199 dX10_isFigure_2 ?_
  refine lv_icmp_ge (tgt := 34) hx hb dX10_isFigure_5 (by decide) (fun hc => ?_) (fun hc => ?_)
  · have hf := if_p hc hf
    refine lv_iconst (v := 0) hx hb dX10_isFigure_34 (by decide) ?_
    exact e_zret C hw rfl hf dX10_isFigure_35
  · have hf := if_n hc hf
    refine lv_aload_n hx hb dX10_isFigure_8 rfl (lv_at hl 0 rfl) ?_
    obtain ⟨a2, hP3, hf⟩ := lp_inv hf
    refine r_getP C hw cf10 9 (by decide) rfl hT1 hP3 fl_X10_36 dX10_isFigure_9 ?_
    refine lv_iload_n hx hb dX10_isFigure_12 rfl (lv_at hl 1 rfl) ?_
    obtain ⟨hT4, hf⟩ := gt_inv hf
    obtain ⟨hg5, hf⟩ := gd_inv hf
    refine r_iald C hw hT4 hg5 dX10_isFigure_13 ?_
    refine lv_bipush (v := 48) hx hb dX10_isFigure_14 (by decide) ?_
    refine lv_icmp_lt (tgt := 34) hx hb dX10_isFigure_16 (by decide) (fun hc => ?_) (fun hc => ?_)
    · have hf := if_p hc hf
      refine lv_iconst (v := 0) hx hb dX10_isFigure_34 (by decide) ?_
      exact e_zret C hw rfl hf dX10_isFigure_35
    · have hf := if_n hc hf
      refine lv_aload_n hx hb dX10_isFigure_19 rfl (lv_at hl 0 rfl) ?_
      refine r_getP C hw cf10 9 (by decide) rfl hT1 hP3 fl_X10_36 dX10_isFigure_20 ?_
      refine lv_iload_n hx hb dX10_isFigure_23 rfl (lv_at hl 1 rfl) ?_
      obtain ⟨hg6, hf⟩ := gd_inv hf
      refine r_iald C hw hT4 hg6 dX10_isFigure_24 ?_
      refine lv_bipush (v := 57) hx hb dX10_isFigure_25 (by decide) ?_
      refine lv_icmp_gt (tgt := 34) hx hb dX10_isFigure_27 (by decide) (fun hc => ?_) (fun hc => ?_)
      · have hf := if_p hc hf
        refine lv_iconst (v := 0) hx hb dX10_isFigure_34 (by decide) ?_
        exact e_zret C hw rfl hf dX10_isFigure_35
      · have hf := if_n hc hf
        refine lv_iconst (v := 1) hx hb dX10_isFigure_30 (by decide) ?_
        refine lv_goto (tgt := 35) hx hb dX10_isFigure_31 (by decide) ?_
        exact e_zret C hw rfl hf dX10_isFigure_35
/-! StorkVoteModel.go()V -/
abbrev rm_X10_go : Room := { frames := 1, cells := 0, slots := 0, locals := 21 }
def f_X10_go_261 (M : Mem) (x0 : Nat) (s0 : Nat) (s1 : Int32) : Option (Unit × Mem) := gt (mT M s0) 11 (st (setI M s0 13 s1) (fun M2 => gt (mT M2 x0) 11 (st (setI M2 x0 15 (mI M2 x0 11)) (fun M6 => some ((), M6)))))
set_option maxHeartbeats 4000000 in
set_option maxRecDepth 100000 in
theorem t_X10_go_261 {l : Launch} {p : Program} {e : Env} {s : State} {m : MethodId} {args : Array Value} {below : List Frame} {meth : Method} {c : Code} {G : Gd} {A : Nat → Prop} {ad : Nat → Nat} (C : Cx G A p s m args meth c RX10 cX10_go 2 none) {M' : Mem} : ∀ (M : Mem) (x0 : Nat) (s0 : Nat) (s1 : Int32) (H : Heap) (locs : List Loc) (ls : Array Slot), f_X10_go_261  M x0 s0 s1 = some ((), M') → Wd G A ad s.heap M H locs → lv_has ls 2 [(0, .ref (ad x0))] → W p l e rm_X10_go s m args below meth c H locs 0 0 (MQ below (QV G A ad M') args s 0 0 A) (F0 m 261 ls [.int s1, .ref (ad s0)]) := by
  obtain ⟨hx, hb, -⟩ := id C
  intro M x0 s0 s1 H locs ls hf hw hl
  rw [f_X10_go_261] at hf
  obtain ⟨hT1, hf⟩ := gt_inv hf
  obtain ⟨M2, e3, hf⟩ := st_inv hf
  have g4 := sg_I e3
  refine r_putI C hw cf10 13 (by decide) rfl hT1 e3 fl_X10_211 rfl rfl rfl dX10_go_261 (fun H locs hw => ?_)
  refine lv_aload_n hx hb dX10_go_264 rfl (lv_at hl 0 rfl) ?_
  refine lv_aload_n hx hb dX10_go_265 rfl (lv_at hl 0 rfl) ?_
  obtain ⟨hT5, hf⟩ := gt_inv hf
  refine r_getI C hw cf10 11 (by decide) rfl hT5 fl_X10_202 dX10_go_266 ?_
  obtain ⟨M6, e7, hf⟩ := st_inv hf
  have g8 := sg_I e7
  refine r_putI C hw cf10 15 (by decide) rfl hT5 e7 fl_X10_208 rfl rfl rfl dX10_go_269 (fun H locs hw => ?_)
  refine lv_goto (tgt := 303) hx hb dX10_go_272 (by decide) ?_
  exact e_vret C hw hf dX10_go_303
def f_X10_go_222 (K170 : Mem → Nat → Int32 → Option (Unit × Mem)) (M : Mem) (x0 : Nat) (x1 : Int32) (s0 : Nat) (s1 : Int32) : Option (Unit × Mem) := gt (mT M s0) 11 (st (setI M s0 14 s1) (fun M2 => gt (mT M2 x0) 11 (st (setI M2 x0 11 ((mI M2 x0 11) + 1)) (fun M6 => K170 M6 x0 x1))))
set_option maxHeartbeats 4000000 in
set_option maxRecDepth 100000 in
theorem t_X10_go_222 {l : Launch} {p : Program} {e : Env} {s : State} {m : MethodId} {args : Array Value} {below : List Frame} {meth : Method} {c : Code} {G : Gd} {A : Nat → Prop} {ad : Nat → Nat} (C : Cx G A p s m args meth c RX10 cX10_go 2 none) {M' : Mem} {K170 : Mem → Nat → Int32 → Option (Unit × Mem)} (hK170 : ∀ (M : Mem) (x0 : Nat) (x1 : Int32) (H : Heap) (locs : List Loc) (ls : Array Slot), K170 M x0 x1 = some ((), M') → Wd G A ad s.heap M H locs → lv_has ls 2 [(0, .ref (ad x0)), (1, .int x1)] → W p l e rm_X10_go s m args below meth c H locs 0 0 (MQ below (QV G A ad M') args s 0 0 A) (F0 m 170 ls [])) : ∀ (M : Mem) (x0 : Nat) (x1 : Int32) (s0 : Nat) (s1 : Int32) (H : Heap) (locs : List Loc) (ls : Array Slot), f_X10_go_222 K170 M x0 x1 s0 s1 = some ((), M') → Wd G A ad s.heap M H locs → lv_has ls 2 [(0, .ref (ad x0)), (1, .int x1)] → W p l e rm_X10_go s m args below meth c H locs 0 0 (MQ below (QV G A ad M') args s 0 0 A) (F0 m 222 ls [.int s1, .ref (ad s0)]) := by
  obtain ⟨hx, hb, -⟩ := id C
  intro M x0 x1 s0 s1 H locs ls hf hw hl
  rw [f_X10_go_222] at hf
  obtain ⟨hT1, hf⟩ := gt_inv hf
  obtain ⟨M2, e3, hf⟩ := st_inv hf
  have g4 := sg_I e3
  refine r_putI C hw cf10 14 (by decide) rfl hT1 e3 fl_X10_217 rfl rfl rfl dX10_go_222 (fun H locs hw => ?_)
  refine lv_aload_n hx hb dX10_go_225 rfl (lv_at hl 0 rfl) ?_
  refine lv_dup hx hb dX10_go_226 rfl ?_
  obtain ⟨hT5, hf⟩ := gt_inv hf
  refine r_getI C hw cf10 11 (by decide) rfl hT5 fl_X10_202 dX10_go_227 ?_
  refine lv_iconst (v := 1) hx hb dX10_go_230 (by decide) ?_
  refine lv_iadd hx hb dX10_go_231 ?_
  obtain ⟨M6, e7, hf⟩ := st_inv hf
  have g8 := sg_I e7
  refine r_putI C hw cf10 11 (by decide) rfl hT5 e7 fl_X10_202 rfl rfl rfl dX10_go_232 (fun H locs hw => ?_)
  refine lv_goto (tgt := 170) hx hb dX10_go_235 (by decide) ?_
  exact hK170 M6 x0 x1 _ _ _ hf hw (lv_sub hl [0, 1] rfl)
def f_X10_go_170 : Nat → Mem → Nat → Int32 → Option (Unit × Mem)
  | 0, _, _, _ => none
  | n + 1, M, x0, x1 => gt (mT M x0) 11 (cl (f_X10_isFigure M x0 (mI M x0 11)) (fun r3 M2 => (if r3 = 0 then (if x1 = 0 then gt (mT M2 x0) 11 ((if ((mI M2 x0 11) - (mI M2 x0 12)) ≤ 4 then f_X10_go_261 M2 x0 x0 2 else f_X10_go_261 M2 x0 x0 4)) else f_X10_go_261 M2 x0 x0 4) else gt (mT M2 x0) 11 ((if 4 ≤ ((mI M2 x0 11) - (mI M2 x0 12)) then f_X10_go_222 (f_X10_go_170 n) M2 x0 x1 x0 (mI M2 x0 14) else lp (mP M2 x0 9) (fun a7 => gt (mT M2 a7) 20 (gd (ib (mI M2 x0 11) (mL M2 a7)) (f_X10_go_222 (f_X10_go_170 n) M2 x0 x1 x0 (((10 * (mI M2 x0 14)) + (mI M2 a7 (mI M2 x0 11).toNatClampNeg)) - 48)))))))))
set_option maxHeartbeats 4000000 in
set_option maxRecDepth 100000 in
theorem t_X10_go_170 {l : Launch} {p : Program} {e : Env} {s : State} {m : MethodId} {args : Array Value} {below : List Frame} {meth : Method} {c : Code} {G : Gd} {A : Nat → Prop} {ad : Nat → Nat} (C : Cx G A p s m args meth c RX10 cX10_go 2 none) {M' : Mem} : ∀ (n : Nat) (M : Mem) (x0 : Nat) (x1 : Int32) (H : Heap) (locs : List Loc) (ls : Array Slot), f_X10_go_170  n M x0 x1 = some ((), M') → Wd G A ad s.heap M H locs → lv_has ls 2 [(0, .ref (ad x0)), (1, .int x1)] → W p l e rm_X10_go s m args below meth c H locs 0 0 (MQ below (QV G A ad M') args s 0 0 A) (F0 m 170 ls []) := by
  obtain ⟨hx, hb, -⟩ := id C
  intro n
  induction n with
  | zero =>
    intro M x0 x1 H locs ls hf
    rw [f_X10_go_170] at hf
    exact absurd hf (fun h => nomatch h)
  | succ n ih =>
    intro M x0 x1 H locs ls hf hw hl
    rw [f_X10_go_170] at hf
    refine lv_aload_n hx hb dX10_go_170 rfl (lv_at hl 0 rfl) ?_
    refine lv_aload_n hx hb dX10_go_171 rfl (lv_at hl 0 rfl) ?_
    obtain ⟨hT1, hf⟩ := gt_inv hf
    refine r_getI C hw cf10 11 (by decide) rfl hT1 fl_X10_202 dX10_go_172 ?_
    obtain ⟨r3, M2, hc4, hf⟩ := cl_inv hf
    refine fin_I (run_V C hw mf_X10_isFigure mv_X10_isFigure ml_X10_220 cf10 hT1 (c_X10_isFigure l G A ad hc4) (As := [.int (mI M x0 11)]) (rest := []) hl.1 rfl rfl (Nat.le_of_ble_eq_true rfl) ⟨rfl, rfl, Nat.le_of_ble_eq_true rfl, Nat.le_of_ble_eq_true rfl⟩ ⟨Nat.zero_le _, Nat.zero_le _⟩ dX10_go_175) hw (fun H locs hw => ?_)
    refine lv_if_eq (tgt := 238) hx hb dX10_go_178 (by decide) (fun hc => ?_) (fun hc => ?_)
    · have hf := if_p hc hf
      refine lv_aload_n hx hb dX10_go_238 rfl (lv_at hl 0 rfl) ?_
      refine lv_iload_n hx hb dX10_go_239 rfl (lv_at hl 1 rfl) ?_
      refine lv_if_ne (tgt := 256) hx hb dX10_go_240 (by decide) (fun hc => ?_) (fun hc => ?_)
      · have hf := if_n hc hf
        refine lv_iconst (v := 4) hx hb dX10_go_256 (by decide) ?_
        refine lv_goto (tgt := 261) hx hb dX10_go_257 (by decide) ?_
        exact t_X10_go_261 C M2 x0 x0 4 _ _ _ hf hw (lv_sub hl [0] rfl)
      · have hf := if_p hc hf
        refine lv_aload_n hx hb dX10_go_243 rfl (lv_at hl 0 rfl) ?_
        obtain ⟨hT5, hf⟩ := gt_inv hf
        refine r_getI C hw cf10 11 (by decide) rfl hT5 fl_X10_202 dX10_go_244 ?_
        refine lv_aload_n hx hb dX10_go_247 rfl (lv_at hl 0 rfl) ?_
        refine r_getI C hw cf10 12 (by decide) rfl hT5 fl_X10_205 dX10_go_248 ?_
        refine lv_isub hx hb dX10_go_251 ?_
        refine lv_iconst (v := 4) hx hb dX10_go_252 (by decide) ?_
        refine lv_icmp_le (tgt := 260) hx hb dX10_go_253 (by decide) (fun hc => ?_) (fun hc => ?_)
        · have hf := if_p hc hf
          refine lv_iconst (v := 2) hx hb dX10_go_260 (by decide) ?_
          exact t_X10_go_261 C M2 x0 x0 2 _ _ _ hf hw (lv_sub hl [0] rfl)
        · have hf := if_n hc hf
          refine lv_iconst (v := 4) hx hb dX10_go_256 (by decide) ?_
          refine lv_goto (tgt := 261) hx hb dX10_go_257 (by decide) ?_
          exact t_X10_go_261 C M2 x0 x0 4 _ _ _ hf hw (lv_sub hl [0] rfl)
    · have hf := if_n hc hf
      refine lv_aload_n hx hb dX10_go_181 rfl (lv_at hl 0 rfl) ?_
      refine lv_aload_n hx hb dX10_go_182 rfl (lv_at hl 0 rfl) ?_
      obtain ⟨hT6, hf⟩ := gt_inv hf
      refine r_getI C hw cf10 11 (by decide) rfl hT6 fl_X10_202 dX10_go_183 ?_
      refine lv_aload_n hx hb dX10_go_186 rfl (lv_at hl 0 rfl) ?_
      refine r_getI C hw cf10 12 (by decide) rfl hT6 fl_X10_205 dX10_go_187 ?_
      refine lv_isub hx hb dX10_go_190 ?_
      refine lv_iconst (v := 4) hx hb dX10_go_191 (by decide) ?_
      refine lv_icmp_ge (tgt := 218) hx hb dX10_go_192 (by decide) (fun hc => ?_) (fun hc => ?_)
      · have hf := if_p hc hf
        refine lv_aload_n hx hb dX10_go_218 rfl (lv_at hl 0 rfl) ?_
        refine r_getI C hw cf10 14 (by decide) rfl hT6 fl_X10_217 dX10_go_219 ?_
        exact t_X10_go_222 C ih M2 x0 x1 x0 (mI M2 x0 14) _ _ _ hf hw (lv_sub hl [0, 1] rfl)
      · have hf := if_n hc hf
        refine lv_bipush (v := 10) hx hb dX10_go_195 (by decide) ?_
        refine lv_aload_n hx hb dX10_go_197 rfl (lv_at hl 0 rfl) ?_
        refine r_getI C hw cf10 14 (by decide) rfl hT6 fl_X10_217 dX10_go_198 ?_
        refine lv_imul hx hb dX10_go_201 ?_
        refine lv_aload_n hx hb dX10_go_202 rfl (lv_at hl 0 rfl) ?_
        obtain ⟨a7, hP8, hf⟩ := lp_inv hf
        refine r_getP C hw cf10 9 (by decide) rfl hT6 hP8 fl_X10_36 dX10_go_203 ?_
        refine lv_aload_n hx hb dX10_go_206 rfl (lv_at hl 0 rfl) ?_
        refine r_getI C hw cf10 11 (by decide) rfl hT6 fl_X10_202 dX10_go_207 ?_
        obtain ⟨hT9, hf⟩ := gt_inv hf
        obtain ⟨hg10, hf⟩ := gd_inv hf
        refine r_iald C hw hT9 hg10 dX10_go_210 ?_
        refine lv_iadd hx hb dX10_go_211 ?_
        refine lv_bipush (v := 48) hx hb dX10_go_212 (by decide) ?_
        refine lv_isub hx hb dX10_go_214 ?_
        refine lv_goto (tgt := 222) hx hb dX10_go_215 (by decide) ?_
        exact t_X10_go_222 C ih M2 x0 x1 x0 (((10 * (mI M2 x0 14)) + (mI M2 a7 (mI M2 x0 11).toNatClampNeg)) - 48) _ _ _ hf hw (lv_sub hl [0, 1] rfl)
def f_X10_go_127 (M : Mem) (x0 : Nat) (s0 : Nat) (s1 : Int32) : Option (Unit × Mem) := gt (mT M s0) 11 (st (setI M s0 13 s1) (fun M2 => gt (mT M2 x0) 11 (lp (mP M2 x0 9) (fun a6 => gt (mT M2 a6) 20 (gd (ib (mI M2 x0 12) (mL M2 a6)) (st (setI M2 x0 14 (mI M2 a6 (mI M2 x0 12).toNatClampNeg)) (fun M10 => st (setI M10 x0 15 (mI M10 x0 11)) (fun M13 => some ((), M13)))))))))
set_option maxHeartbeats 4000000 in
set_option maxRecDepth 100000 in
theorem t_X10_go_127 {l : Launch} {p : Program} {e : Env} {s : State} {m : MethodId} {args : Array Value} {below : List Frame} {meth : Method} {c : Code} {G : Gd} {A : Nat → Prop} {ad : Nat → Nat} (C : Cx G A p s m args meth c RX10 cX10_go 2 none) {M' : Mem} : ∀ (M : Mem) (x0 : Nat) (s0 : Nat) (s1 : Int32) (H : Heap) (locs : List Loc) (ls : Array Slot), f_X10_go_127  M x0 s0 s1 = some ((), M') → Wd G A ad s.heap M H locs → lv_has ls 2 [(0, .ref (ad x0))] → W p l e rm_X10_go s m args below meth c H locs 0 0 (MQ below (QV G A ad M') args s 0 0 A) (F0 m 127 ls [.int s1, .ref (ad s0)]) := by
  obtain ⟨hx, hb, -⟩ := id C
  intro M x0 s0 s1 H locs ls hf hw hl
  rw [f_X10_go_127] at hf
  obtain ⟨hT1, hf⟩ := gt_inv hf
  obtain ⟨M2, e3, hf⟩ := st_inv hf
  have g4 := sg_I e3
  refine r_putI C hw cf10 13 (by decide) rfl hT1 e3 fl_X10_211 rfl rfl rfl dX10_go_127 (fun H locs hw => ?_)
  refine lv_aload_n hx hb dX10_go_130 rfl (lv_at hl 0 rfl) ?_
  refine lv_aload_n hx hb dX10_go_131 rfl (lv_at hl 0 rfl) ?_
  obtain ⟨hT5, hf⟩ := gt_inv hf
  obtain ⟨a6, hP7, hf⟩ := lp_inv hf
  refine r_getP C hw cf10 9 (by decide) rfl hT5 hP7 fl_X10_36 dX10_go_132 ?_
  refine lv_aload_n hx hb dX10_go_135 rfl (lv_at hl 0 rfl) ?_
  refine r_getI C hw cf10 12 (by decide) rfl hT5 fl_X10_205 dX10_go_136 ?_
  obtain ⟨hT8, hf⟩ := gt_inv hf
  obtain ⟨hg9, hf⟩ := gd_inv hf
  refine r_iald C hw hT8 hg9 dX10_go_139 ?_
  obtain ⟨M10, e11, hf⟩ := st_inv hf
  have g12 := sg_I e11
  refine r_putI C hw cf10 14 (by decide) rfl hT5 e11 fl_X10_217 rfl rfl rfl dX10_go_140 (fun H locs hw => ?_)
  refine lv_aload_n hx hb dX10_go_143 rfl (lv_at hl 0 rfl) ?_
  refine lv_aload_n hx hb dX10_go_144 rfl (lv_at hl 0 rfl) ?_
  refine r_getI C hw cf10 11 (by decide) rfl (T_of g12 hT5) fl_X10_202 dX10_go_145 ?_
  obtain ⟨M13, e14, hf⟩ := st_inv hf
  have g15 := sg_I e14
  refine r_putI C hw cf10 15 (by decide) rfl (T_of g12 hT5) e14 fl_X10_208 rfl rfl rfl dX10_go_148 (fun H locs hw => ?_)
  refine lv_goto (tgt := 303) hx hb dX10_go_151 (by decide) ?_
  exact e_vret C hw hf dX10_go_303
def f_X10_go_93 : Nat → Mem → Nat → Int32 → Option (Unit × Mem)
  | 0, _, _, _ => none
  | n + 1, M, x0, x1 => gt (mT M x0) 11 (cl (f_X10_isLetter M x0 (mI M x0 11)) (fun r3 M2 => (if r3 = 0 then (if x1 = 0 then f_X10_go_127 M2 x0 x0 1 else f_X10_go_127 M2 x0 x0 4) else gt (mT M2 x0) 11 (st (setI M2 x0 11 ((mI M2 x0 11) + 1)) (fun M6 => f_X10_go_93 n M6 x0 x1)))))
set_option maxHeartbeats 4000000 in
set_option maxRecDepth 100000 in
theorem t_X10_go_93 {l : Launch} {p : Program} {e : Env} {s : State} {m : MethodId} {args : Array Value} {below : List Frame} {meth : Method} {c : Code} {G : Gd} {A : Nat → Prop} {ad : Nat → Nat} (C : Cx G A p s m args meth c RX10 cX10_go 2 none) {M' : Mem} : ∀ (n : Nat) (M : Mem) (x0 : Nat) (x1 : Int32) (H : Heap) (locs : List Loc) (ls : Array Slot), f_X10_go_93  n M x0 x1 = some ((), M') → Wd G A ad s.heap M H locs → lv_has ls 2 [(0, .ref (ad x0)), (1, .int x1)] → W p l e rm_X10_go s m args below meth c H locs 0 0 (MQ below (QV G A ad M') args s 0 0 A) (F0 m 93 ls []) := by
  obtain ⟨hx, hb, -⟩ := id C
  intro n
  induction n with
  | zero =>
    intro M x0 x1 H locs ls hf
    rw [f_X10_go_93] at hf
    exact absurd hf (fun h => nomatch h)
  | succ n ih =>
    intro M x0 x1 H locs ls hf hw hl
    rw [f_X10_go_93] at hf
    refine lv_aload_n hx hb dX10_go_93 rfl (lv_at hl 0 rfl) ?_
    refine lv_aload_n hx hb dX10_go_94 rfl (lv_at hl 0 rfl) ?_
    obtain ⟨hT1, hf⟩ := gt_inv hf
    refine r_getI C hw cf10 11 (by decide) rfl hT1 fl_X10_202 dX10_go_95 ?_
    obtain ⟨r3, M2, hc4, hf⟩ := cl_inv hf
    refine fin_I (run_V C hw mf_X10_isLetter mv_X10_isLetter ml_X10_214 cf10 hT1 (c_X10_isLetter l G A ad hc4) (As := [.int (mI M x0 11)]) (rest := []) hl.1 rfl rfl (Nat.le_of_ble_eq_true rfl) ⟨rfl, rfl, Nat.le_of_ble_eq_true rfl, Nat.le_of_ble_eq_true rfl⟩ ⟨Nat.zero_le _, Nat.zero_le _⟩ dX10_go_98) hw (fun H locs hw => ?_)
    refine lv_if_eq (tgt := 117) hx hb dX10_go_101 (by decide) (fun hc => ?_) (fun hc => ?_)
    · have hf := if_p hc hf
      refine lv_aload_n hx hb dX10_go_117 rfl (lv_at hl 0 rfl) ?_
      refine lv_iload_n hx hb dX10_go_118 rfl (lv_at hl 1 rfl) ?_
      refine lv_if_eq (tgt := 126) hx hb dX10_go_119 (by decide) (fun hc => ?_) (fun hc => ?_)
      · have hf := if_p hc hf
        refine lv_iconst (v := 1) hx hb dX10_go_126 (by decide) ?_
        exact t_X10_go_127 C M2 x0 x0 1 _ _ _ hf hw (lv_sub hl [0] rfl)
      · have hf := if_n hc hf
        refine lv_iconst (v := 4) hx hb dX10_go_122 (by decide) ?_
        refine lv_goto (tgt := 127) hx hb dX10_go_123 (by decide) ?_
        exact t_X10_go_127 C M2 x0 x0 4 _ _ _ hf hw (lv_sub hl [0] rfl)
    · have hf := if_n hc hf
      refine lv_aload_n hx hb dX10_go_104 rfl (lv_at hl 0 rfl) ?_
      refine lv_dup hx hb dX10_go_105 rfl ?_
      obtain ⟨hT5, hf⟩ := gt_inv hf
      refine r_getI C hw cf10 11 (by decide) rfl hT5 fl_X10_202 dX10_go_106 ?_
      refine lv_iconst (v := 1) hx hb dX10_go_109 (by decide) ?_
      refine lv_iadd hx hb dX10_go_110 ?_
      obtain ⟨M6, e7, hf⟩ := st_inv hf
      have g8 := sg_I e7
      refine r_putI C hw cf10 11 (by decide) rfl hT5 e7 fl_X10_202 rfl rfl rfl dX10_go_111 (fun H locs hw => ?_)
      refine lv_goto (tgt := 93) hx hb dX10_go_114 (by decide) ?_
      exact ih M6 x0 x1 _ _ _ hf hw (lv_sub hl [0, 1] rfl)
def f_X10_go_62 (M : Mem) (x0 : Nat) (s0 : Int32) : Option (Unit × Mem) := gt (mT M x0) 11 ((if (mI M x0 12) = (mI M x0 10) then st (setI M x0 13 0) (fun M27 => some ((), M27)) else cl (f_X10_isLetter M x0 (mI M x0 12)) (fun r3 M2 => (if r3 = 0 then gt (mT M2 x0) 11 (cl (f_X10_isFigure M2 x0 (mI M2 x0 12)) (fun r7 M6 => (if r7 = 0 then gt (mT M6 x0) 11 (st (setI M6 x0 13 3) (fun M10 => lp (mP M10 x0 9) (fun a13 => gt (mT M10 a13) 20 (gd (ib (mI M10 x0 12) (mL M10 a13)) (st (setI M10 x0 14 (mI M10 a13 (mI M10 x0 12).toNatClampNeg)) (fun M17 => st (setI M17 x0 11 ((mI M17 x0 11) + 1)) (fun M20 => some ((), M20)))))))) else gt (mT M6 x0) 11 (st (setI M6 x0 14 0) (fun M24 => f_X10_go_170 FU M24 x0 s0))))) else f_X10_go_93 FU M2 x0 s0))))
set_option maxHeartbeats 4000000 in
set_option maxRecDepth 100000 in
theorem t_X10_go_62 {l : Launch} {p : Program} {e : Env} {s : State} {m : MethodId} {args : Array Value} {below : List Frame} {meth : Method} {c : Code} {G : Gd} {A : Nat → Prop} {ad : Nat → Nat} (C : Cx G A p s m args meth c RX10 cX10_go 2 none) {M' : Mem} : ∀ (M : Mem) (x0 : Nat) (s0 : Int32) (H : Heap) (locs : List Loc) (ls : Array Slot), f_X10_go_62  M x0 s0 = some ((), M') → Wd G A ad s.heap M H locs → lv_has ls 2 [(0, .ref (ad x0))] → W p l e rm_X10_go s m args below meth c H locs 0 0 (MQ below (QV G A ad M') args s 0 0 A) (F0 m 62 ls [.int s0]) := by
  obtain ⟨hx, hb, -⟩ := id C
  intro M x0 s0 H locs ls hf hw hl
  rw [f_X10_go_62] at hf
  refine lv_istore_n (lv' := [(1, .int s0), (0, .ref (ad x0))]) hx hb dX10_go_62 rfl hl (by decide) rfl (fun ls hl => ?_)
  refine lv_aload_n hx hb dX10_go_63 rfl (lv_at hl 1 rfl) ?_
  obtain ⟨hT1, hf⟩ := gt_inv hf
  refine r_getI C hw cf10 12 (by decide) rfl hT1 fl_X10_205 dX10_go_64 ?_
  refine lv_aload_n hx hb dX10_go_67 rfl (lv_at hl 1 rfl) ?_
  refine r_getI C hw cf10 10 (by decide) rfl hT1 fl_X10_199 dX10_go_68 ?_
  refine lv_icmp_ne (tgt := 82) hx hb dX10_go_71 (by decide) (fun hc => ?_) (fun hc => ?_)
  · have hf := if_n hc hf
    refine lv_aload_n hx hb dX10_go_82 rfl (lv_at hl 1 rfl) ?_
    refine lv_aload_n hx hb dX10_go_83 rfl (lv_at hl 1 rfl) ?_
    refine r_getI C hw cf10 12 (by decide) rfl hT1 fl_X10_205 dX10_go_84 ?_
    obtain ⟨r3, M2, hc4, hf⟩ := cl_inv hf
    refine fin_I (run_V C hw mf_X10_isLetter mv_X10_isLetter ml_X10_214 cf10 hT1 (c_X10_isLetter l G A ad hc4) (As := [.int (mI M x0 12)]) (rest := []) hl.1 rfl rfl (Nat.le_of_ble_eq_true rfl) ⟨rfl, rfl, Nat.le_of_ble_eq_true rfl, Nat.le_of_ble_eq_true rfl⟩ ⟨Nat.zero_le _, Nat.zero_le _⟩ dX10_go_87) hw (fun H locs hw => ?_)
    refine lv_if_eq (tgt := 154) hx hb dX10_go_90 (by decide) (fun hc => ?_) (fun hc => ?_)
    · have hf := if_p hc hf
      refine lv_aload_n hx hb dX10_go_154 rfl (lv_at hl 1 rfl) ?_
      refine lv_aload_n hx hb dX10_go_155 rfl (lv_at hl 1 rfl) ?_
      obtain ⟨hT5, hf⟩ := gt_inv hf
      refine r_getI C hw cf10 12 (by decide) rfl hT5 fl_X10_205 dX10_go_156 ?_
      obtain ⟨r7, M6, hc8, hf⟩ := cl_inv hf
      refine fin_I (run_V C hw mf_X10_isFigure mv_X10_isFigure ml_X10_220 cf10 hT5 (c_X10_isFigure l G A ad hc8) (As := [.int (mI M2 x0 12)]) (rest := []) hl.1 rfl rfl (Nat.le_of_ble_eq_true rfl) ⟨rfl, rfl, Nat.le_of_ble_eq_true rfl, Nat.le_of_ble_eq_true rfl⟩ ⟨Nat.zero_le _, Nat.zero_le _⟩ dX10_go_159) hw (fun H locs hw => ?_)
      refine lv_if_eq (tgt := 275) hx hb dX10_go_162 (by decide) (fun hc => ?_) (fun hc => ?_)
      · have hf := if_p hc hf
        refine lv_aload_n hx hb dX10_go_275 rfl (lv_at hl 1 rfl) ?_
        refine lv_iconst (v := 3) hx hb dX10_go_276 (by decide) ?_
        obtain ⟨hT9, hf⟩ := gt_inv hf
        obtain ⟨M10, e11, hf⟩ := st_inv hf
        have g12 := sg_I e11
        refine r_putI C hw cf10 13 (by decide) rfl hT9 e11 fl_X10_211 rfl rfl rfl dX10_go_277 (fun H locs hw => ?_)
        refine lv_aload_n hx hb dX10_go_280 rfl (lv_at hl 1 rfl) ?_
        refine lv_aload_n hx hb dX10_go_281 rfl (lv_at hl 1 rfl) ?_
        obtain ⟨a13, hP14, hf⟩ := lp_inv hf
        refine r_getP C hw cf10 9 (by decide) rfl (T_of g12 hT9) hP14 fl_X10_36 dX10_go_282 ?_
        refine lv_aload_n hx hb dX10_go_285 rfl (lv_at hl 1 rfl) ?_
        refine r_getI C hw cf10 12 (by decide) rfl (T_of g12 hT9) fl_X10_205 dX10_go_286 ?_
        obtain ⟨hT15, hf⟩ := gt_inv hf
        obtain ⟨hg16, hf⟩ := gd_inv hf
        refine r_iald C hw hT15 hg16 dX10_go_289 ?_
        obtain ⟨M17, e18, hf⟩ := st_inv hf
        have g19 := sg_I e18
        refine r_putI C hw cf10 14 (by decide) rfl (T_of g12 hT9) e18 fl_X10_217 rfl rfl rfl dX10_go_290 (fun H locs hw => ?_)
        refine lv_aload_n hx hb dX10_go_293 rfl (lv_at hl 1 rfl) ?_
        refine lv_dup hx hb dX10_go_294 rfl ?_
        refine r_getI C hw cf10 11 (by decide) rfl (T_of g19 (T_of g12 hT9)) fl_X10_202 dX10_go_295 ?_
        refine lv_iconst (v := 1) hx hb dX10_go_298 (by decide) ?_
        refine lv_iadd hx hb dX10_go_299 ?_
        obtain ⟨M20, e21, hf⟩ := st_inv hf
        have g22 := sg_I e21
        refine r_putI C hw cf10 11 (by decide) rfl (T_of g19 (T_of g12 hT9)) e21 fl_X10_202 rfl rfl rfl dX10_go_300 (fun H locs hw => ?_)
        exact e_vret C hw hf dX10_go_303
      · have hf := if_n hc hf
        refine lv_aload_n hx hb dX10_go_165 rfl (lv_at hl 1 rfl) ?_
        refine lv_iconst (v := 0) hx hb dX10_go_166 (by decide) ?_
        obtain ⟨hT23, hf⟩ := gt_inv hf
        obtain ⟨M24, e25, hf⟩ := st_inv hf
        have g26 := sg_I e25
        refine r_putI C hw cf10 14 (by decide) rfl hT23 e25 fl_X10_217 rfl rfl rfl dX10_go_167 (fun H locs hw => ?_)
        exact t_X10_go_170 C FU M24 x0 s0 _ _ _ hf hw (lv_sub hl [1, 0] rfl)
    · have hf := if_n hc hf
      exact t_X10_go_93 C FU M2 x0 s0 _ _ _ hf hw (lv_sub hl [1, 0] rfl)
  · have hf := if_p hc hf
    refine lv_aload_n hx hb dX10_go_74 rfl (lv_at hl 1 rfl) ?_
    refine lv_iconst (v := 0) hx hb dX10_go_75 (by decide) ?_
    obtain ⟨M27, e28, hf⟩ := st_inv hf
    have g29 := sg_I e28
    refine r_putI C hw cf10 13 (by decide) rfl hT1 e28 fl_X10_211 rfl rfl rfl dX10_go_76 (fun H locs hw => ?_)
    refine lv_goto (tgt := 303) hx hb dX10_go_79 (by decide) ?_
    exact e_vret C hw hf dX10_go_303
def f_X10_go_38 (M : Mem) (x0 : Nat) : Option (Unit × Mem) := gt (mT M x0) 11 (st (setI M x0 12 (mI M x0 11)) (fun M2 => (if (mI M2 x0 12) = (mI M2 x0 15) then f_X10_go_62 M2 x0 1 else f_X10_go_62 M2 x0 0)))
set_option maxHeartbeats 4000000 in
set_option maxRecDepth 100000 in
theorem t_X10_go_38 {l : Launch} {p : Program} {e : Env} {s : State} {m : MethodId} {args : Array Value} {below : List Frame} {meth : Method} {c : Code} {G : Gd} {A : Nat → Prop} {ad : Nat → Nat} (C : Cx G A p s m args meth c RX10 cX10_go 2 none) {M' : Mem} : ∀ (M : Mem) (x0 : Nat) (H : Heap) (locs : List Loc) (ls : Array Slot), f_X10_go_38  M x0 = some ((), M') → Wd G A ad s.heap M H locs → lv_has ls 2 [(0, .ref (ad x0))] → W p l e rm_X10_go s m args below meth c H locs 0 0 (MQ below (QV G A ad M') args s 0 0 A) (F0 m 38 ls []) := by
  obtain ⟨hx, hb, -⟩ := id C
  intro M x0 H locs ls hf hw hl
  rw [f_X10_go_38] at hf
  refine lv_aload_n hx hb dX10_go_38 rfl (lv_at hl 0 rfl) ?_
  refine lv_aload_n hx hb dX10_go_39 rfl (lv_at hl 0 rfl) ?_
  obtain ⟨hT1, hf⟩ := gt_inv hf
  refine r_getI C hw cf10 11 (by decide) rfl hT1 fl_X10_202 dX10_go_40 ?_
  obtain ⟨M2, e3, hf⟩ := st_inv hf
  have g4 := sg_I e3
  refine r_putI C hw cf10 12 (by decide) rfl hT1 e3 fl_X10_205 rfl rfl rfl dX10_go_43 (fun H locs hw => ?_)
  refine lv_aload_n hx hb dX10_go_46 rfl (lv_at hl 0 rfl) ?_
  refine r_getI C hw cf10 12 (by decide) rfl (T_of g4 hT1) fl_X10_205 dX10_go_47 ?_
  refine lv_aload_n hx hb dX10_go_50 rfl (lv_at hl 0 rfl) ?_
  refine r_getI C hw cf10 15 (by decide) rfl (T_of g4 hT1) fl_X10_208 dX10_go_51 ?_
  refine lv_icmp_ne (tgt := 61) hx hb dX10_go_54 (by decide) (fun hc => ?_) (fun hc => ?_)
  · have hf := if_n hc hf
    refine lv_iconst (v := 0) hx hb dX10_go_61 (by decide) ?_
    exact t_X10_go_62 C M2 x0 0 _ _ _ hf hw (lv_sub hl [0] rfl)
  · have hf := if_p hc hf
    refine lv_iconst (v := 1) hx hb dX10_go_57 (by decide) ?_
    refine lv_goto (tgt := 62) hx hb dX10_go_58 (by decide) ?_
    exact t_X10_go_62 C M2 x0 1 _ _ _ hf hw (lv_sub hl [0] rfl)
def f_X10_go_0 : Nat → Mem → Nat → Option (Unit × Mem)
  | 0, _, _ => none
  | n + 1, M, x0 => gt (mT M x0) 11 ((if (mI M x0 10) ≤ (mI M x0 11) then f_X10_go_38 M x0 else lp (mP M x0 9) (fun a2 => gt (mT M a2) 20 (gd (ib (mI M x0 11) (mL M a2)) ((if (mI M a2 (mI M x0 11).toNatClampNeg) = 32 then st (setI M x0 11 ((mI M x0 11) + 1)) (fun M6 => f_X10_go_0 n M6 x0) else f_X10_go_38 M x0))))))
set_option maxHeartbeats 4000000 in
set_option maxRecDepth 100000 in
theorem t_X10_go_0 {l : Launch} {p : Program} {e : Env} {s : State} {m : MethodId} {args : Array Value} {below : List Frame} {meth : Method} {c : Code} {G : Gd} {A : Nat → Prop} {ad : Nat → Nat} (C : Cx G A p s m args meth c RX10 cX10_go 2 none) {M' : Mem} : ∀ (n : Nat) (M : Mem) (x0 : Nat) (H : Heap) (locs : List Loc) (ls : Array Slot), f_X10_go_0  n M x0 = some ((), M') → Wd G A ad s.heap M H locs → lv_has ls 2 [(0, .ref (ad x0))] → W p l e rm_X10_go s m args below meth c H locs 0 0 (MQ below (QV G A ad M') args s 0 0 A) (F0 m 0 ls []) := by
  obtain ⟨hx, hb, -⟩ := id C
  intro n
  induction n with
  | zero =>
    intro M x0 H locs ls hf
    rw [f_X10_go_0] at hf
    exact absurd hf (fun h => nomatch h)
  | succ n ih =>
    intro M x0 H locs ls hf hw hl
    rw [f_X10_go_0] at hf
    refine lv_aload_n hx hb dX10_go_0 rfl (lv_at hl 0 rfl) ?_
    obtain ⟨hT1, hf⟩ := gt_inv hf
    refine r_getI C hw cf10 11 (by decide) rfl hT1 fl_X10_202 dX10_go_1 ?_
    refine lv_aload_n hx hb dX10_go_4 rfl (lv_at hl 0 rfl) ?_
    refine r_getI C hw cf10 10 (by decide) rfl hT1 fl_X10_199 dX10_go_5 ?_
    refine lv_icmp_ge (tgt := 38) hx hb dX10_go_8 (by decide) (fun hc => ?_) (fun hc => ?_)
    · have hf := if_p hc hf
      exact t_X10_go_38 C M x0 _ _ _ hf hw (lv_sub hl [0] rfl)
    · have hf := if_n hc hf
      refine lv_aload_n hx hb dX10_go_11 rfl (lv_at hl 0 rfl) ?_
      obtain ⟨a2, hP3, hf⟩ := lp_inv hf
      refine r_getP C hw cf10 9 (by decide) rfl hT1 hP3 fl_X10_36 dX10_go_12 ?_
      refine lv_aload_n hx hb dX10_go_15 rfl (lv_at hl 0 rfl) ?_
      refine r_getI C hw cf10 11 (by decide) rfl hT1 fl_X10_202 dX10_go_16 ?_
      obtain ⟨hT4, hf⟩ := gt_inv hf
      obtain ⟨hg5, hf⟩ := gd_inv hf
      refine r_iald C hw hT4 hg5 dX10_go_19 ?_
      refine lv_bipush (v := 32) hx hb dX10_go_20 (by decide) ?_
      refine lv_icmp_ne (tgt := 38) hx hb dX10_go_22 (by decide) (fun hc => ?_) (fun hc => ?_)
      · have hf := if_n hc hf
        exact t_X10_go_38 C M x0 _ _ _ hf hw (lv_sub hl [0] rfl)
      · have hf := if_p hc hf
        refine lv_aload_n hx hb dX10_go_25 rfl (lv_at hl 0 rfl) ?_
        refine lv_dup hx hb dX10_go_26 rfl ?_
        refine r_getI C hw cf10 11 (by decide) rfl hT1 fl_X10_202 dX10_go_27 ?_
        refine lv_iconst (v := 1) hx hb dX10_go_30 (by decide) ?_
        refine lv_iadd hx hb dX10_go_31 ?_
        obtain ⟨M6, e7, hf⟩ := st_inv hf
        have g8 := sg_I e7
        refine r_putI C hw cf10 11 (by decide) rfl hT1 e7 fl_X10_202 rfl rfl rfl dX10_go_32 (fun H locs hw => ?_)
        refine lv_goto (tgt := 0) hx hb dX10_go_35 (by decide) ?_
        exact ih M6 x0 _ _ _ hf hw (lv_sub hl [0] rfl)
def f_X10_go (M : Mem) (x0 : Nat) : Option (Unit × Mem) := f_X10_go_0 FU M x0
set_option maxHeartbeats 4000000 in
set_option maxRecDepth 100000 in
theorem c_X10_go (l : Launch) (G : Gd) (A : Nat → Prop) (ad : Nat → Nat) {M : Mem} {x0 : Nat}  {M' : Mem} (hf : f_X10_go M x0 = some ((), M')) : Ct l yX10_go cX10_go 2 none rm_X10_go [.ref (ad x0)] G A ad M (QV G A ad M') 0 0 := by
  refine ct_start (by decide) (Nat.le_of_ble_eq_true rfl) ?_
  intro p e s m args below meth c ls C hin hw hl
  have C : Cx G A p s m args meth c RX10 cX10_go 2 none := C
  have hl : lv_has ls 2 [(0, .ref (ad x0))] := hl
  obtain ⟨hx, hb, -⟩ := id C
  rw [f_X10_go] at hf
  exact t_X10_go_0 C FU M x0 _ _ _ hf hw (lv_sub hl [0] rfl)
/-! StorkVoteModel.takesKey()Z -/
abbrev rm_X10_takesKey : Room := { frames := 2, cells := 0, slots := 0, locals := 42 }
def f_X10_takesKey_106 (K12 : Mem → Nat → Int32 → Option (Int32 × Mem)) (M : Mem) (x0 : Nat) (x1 : Int32) (x3 : Int32) : Option (Int32 × Mem) := (if x3 = 0 then K12 M x0 (x1 + 1) else gt (mT M x0) 11 (st (setI M x0 16 x1) (fun M2 => cl (f_X10_go M2 x0) (fun _ M5 => some (1, M5)))))
set_option maxHeartbeats 4000000 in
set_option maxRecDepth 100000 in
theorem t_X10_takesKey_106 {l : Launch} {p : Program} {e : Env} {s : State} {m : MethodId} {args : Array Value} {below : List Frame} {meth : Method} {c : Code} {G : Gd} {A : Nat → Prop} {ad : Nat → Nat} (C : Cx G A p s m args meth c RX10 cX10_takesKey 5 (some .boolean)) {r : Int32} {M' : Mem} {K12 : Mem → Nat → Int32 → Option (Int32 × Mem)} (hK12 : ∀ (M : Mem) (x0 : Nat) (x1 : Int32) (H : Heap) (locs : List Loc) (ls : Array Slot), K12 M x0 x1 = some (r, M') → Wd G A ad s.heap M H locs → lv_has ls 5 [(0, .ref (ad x0)), (1, .int x1)] → W p l e rm_X10_takesKey s m args below meth c H locs 0 0 (MQ below (QI G A ad r M') args s 0 0 A) (F0 m 12 ls [])) : ∀ (M : Mem) (x0 : Nat) (x1 : Int32) (x3 : Int32) (H : Heap) (locs : List Loc) (ls : Array Slot), f_X10_takesKey_106 K12 M x0 x1 x3 = some (r, M') → Wd G A ad s.heap M H locs → lv_has ls 5 [(0, .ref (ad x0)), (1, .int x1), (3, .int x3)] → W p l e rm_X10_takesKey s m args below meth c H locs 0 0 (MQ below (QI G A ad r M') args s 0 0 A) (F0 m 106 ls []) := by
  obtain ⟨hx, hb, -⟩ := id C
  intro M x0 x1 x3 H locs ls hf hw hl
  rw [f_X10_takesKey_106] at hf
  refine lv_iload_n hx hb dX10_takesKey_106 rfl (lv_at hl 2 rfl) ?_
  refine lv_if_eq (tgt := 121) hx hb dX10_takesKey_107 (by decide) (fun hc => ?_) (fun hc => ?_)
  · have hf := if_p hc hf
    refine lv_iinc (v := (x1 + 1)) (lv' := [(1, .int (x1 + 1)), (0, .ref (ad x0)), (3, .int x3)]) hx hb dX10_takesKey_121 hl (k := 1) rfl rfl (by decide) rfl (fun ls hl => ?_)
    refine lv_goto (tgt := 12) hx hb dX10_takesKey_124 (by decide) ?_
    exact hK12 M x0 (x1 + 1) _ _ _ hf hw (lv_sub hl [1, 0] rfl)
  · have hf := if_n hc hf
    refine lv_aload_n hx hb dX10_takesKey_110 rfl (lv_at hl 0 rfl) ?_
    refine lv_iload_n hx hb dX10_takesKey_111 rfl (lv_at hl 1 rfl) ?_
    obtain ⟨hT1, hf⟩ := gt_inv hf
    obtain ⟨M2, e3, hf⟩ := st_inv hf
    have g4 := sg_I e3
    refine r_putI C hw cf10 16 (by decide) rfl hT1 e3 fl_X10_223 rfl rfl rfl dX10_takesKey_112 (fun H locs hw => ?_)
    refine lv_aload_n hx hb dX10_takesKey_115 rfl (lv_at hl 0 rfl) ?_
    obtain ⟨⟨⟩, M5, hc7, hf⟩ := cl_inv hf
    refine fin_V (run_V C hw mf_X10_go mv_X10_go ml_X10_226 cf10 (T_of g4 hT1) (c_X10_go l G A ad hc7) (As := []) (rest := []) hl.1 rfl rfl (Nat.le_of_ble_eq_true rfl) ⟨rfl, rfl, Nat.le_of_ble_eq_true rfl, Nat.le_of_ble_eq_true rfl⟩ ⟨Nat.zero_le _, Nat.zero_le _⟩ dX10_takesKey_116) hw (fun H locs hw => ?_)
    refine lv_iconst (v := 1) hx hb dX10_takesKey_119 (by decide) ?_
    exact e_zret C hw rfl hf dX10_takesKey_120
def f_X10_takesKey_55 (K12 : Mem → Nat → Int32 → Option (Int32 × Mem)) : Nat → Mem → Nat → Int32 → Int32 → Int32 → Int32 → Option (Int32 × Mem)
  | 0, _, _, _, _, _, _ => none
  | n + 1, M, x0, x1, x2, x3, x4 => (if x2 ≤ x4 then f_X10_takesKey_106 K12 M x0 x1 x3 else (if x3 = 0 then f_X10_takesKey_106 K12 M x0 x1 x3 else gt (mT M x0) 11 (lp (mP M x0 9) (fun a2 => gt (mT M a2) 20 (gd (ib ((mI M x0 12) + x4) (mL M a2)) (lp (mP M x0 17) (fun a6 => lp (mP M x0 18) (fun a8 => gt (mT M a8) 20 (gd (ib x1 (mL M a8)) (gt (mT M a6) 22 (gd (ib ((mI M a8 x1.toNatClampNeg) + x4) (mL M a6)) ((if (mI M a2 ((mI M x0 12) + x4).toNatClampNeg) = (mI M a6 ((mI M a8 x1.toNatClampNeg) + x4).toNatClampNeg) then f_X10_takesKey_55 K12 n M x0 x1 x2 1 (x4 + 1) else f_X10_takesKey_55 K12 n M x0 x1 x2 0 (x4 + 1))))))))))))))
set_option maxHeartbeats 4000000 in
set_option maxRecDepth 100000 in
theorem t_X10_takesKey_55 {l : Launch} {p : Program} {e : Env} {s : State} {m : MethodId} {args : Array Value} {below : List Frame} {meth : Method} {c : Code} {G : Gd} {A : Nat → Prop} {ad : Nat → Nat} (C : Cx G A p s m args meth c RX10 cX10_takesKey 5 (some .boolean)) {r : Int32} {M' : Mem} {K12 : Mem → Nat → Int32 → Option (Int32 × Mem)} (hK12 : ∀ (M : Mem) (x0 : Nat) (x1 : Int32) (H : Heap) (locs : List Loc) (ls : Array Slot), K12 M x0 x1 = some (r, M') → Wd G A ad s.heap M H locs → lv_has ls 5 [(0, .ref (ad x0)), (1, .int x1)] → W p l e rm_X10_takesKey s m args below meth c H locs 0 0 (MQ below (QI G A ad r M') args s 0 0 A) (F0 m 12 ls [])) : ∀ (n : Nat) (M : Mem) (x0 : Nat) (x1 : Int32) (x2 : Int32) (x3 : Int32) (x4 : Int32) (H : Heap) (locs : List Loc) (ls : Array Slot), f_X10_takesKey_55 K12 n M x0 x1 x2 x3 x4 = some (r, M') → Wd G A ad s.heap M H locs → lv_has ls 5 [(0, .ref (ad x0)), (1, .int x1), (2, .int x2), (3, .int x3), (4, .int x4)] → W p l e rm_X10_takesKey s m args below meth c H locs 0 0 (MQ below (QI G A ad r M') args s 0 0 A) (F0 m 55 ls []) := by
  obtain ⟨hx, hb, -⟩ := id C
  intro n
  induction n with
  | zero =>
    intro M x0 x1 x2 x3 x4 H locs ls hf
    rw [f_X10_takesKey_55] at hf
    exact absurd hf (fun h => nomatch h)
  | succ n ih =>
    intro M x0 x1 x2 x3 x4 H locs ls hf hw hl
    rw [f_X10_takesKey_55] at hf
    refine lv_iload hx hb dX10_takesKey_55 (lv_at hl 4 rfl) ?_
    refine lv_iload_n hx hb dX10_takesKey_57 rfl (lv_at hl 2 rfl) ?_
    refine lv_icmp_ge (tgt := 106) hx hb dX10_takesKey_58 (by decide) (fun hc => ?_) (fun hc => ?_)
    · have hf := if_p hc hf
      exact t_X10_takesKey_106 C hK12 M x0 x1 x3 _ _ _ hf hw (lv_sub hl [0, 1, 3] rfl)
    · have hf := if_n hc hf
      refine lv_iload_n hx hb dX10_takesKey_61 rfl (lv_at hl 3 rfl) ?_
      refine lv_if_eq (tgt := 106) hx hb dX10_takesKey_62 (by decide) (fun hc => ?_) (fun hc => ?_)
      · have hf := if_p hc hf
        exact t_X10_takesKey_106 C hK12 M x0 x1 x3 _ _ _ hf hw (lv_sub hl [0, 1, 3] rfl)
      · have hf := if_n hc hf
        refine lv_aload_n hx hb dX10_takesKey_65 rfl (lv_at hl 0 rfl) ?_
        obtain ⟨hT1, hf⟩ := gt_inv hf
        obtain ⟨a2, hP3, hf⟩ := lp_inv hf
        refine r_getP C hw cf10 9 (by decide) rfl hT1 hP3 fl_X10_36 dX10_takesKey_66 ?_
        refine lv_aload_n hx hb dX10_takesKey_69 rfl (lv_at hl 0 rfl) ?_
        refine r_getI C hw cf10 12 (by decide) rfl hT1 fl_X10_205 dX10_takesKey_70 ?_
        refine lv_iload hx hb dX10_takesKey_73 (lv_at hl 4 rfl) ?_
        refine lv_iadd hx hb dX10_takesKey_75 ?_
        obtain ⟨hT4, hf⟩ := gt_inv hf
        obtain ⟨hg5, hf⟩ := gd_inv hf
        refine r_iald C hw hT4 hg5 dX10_takesKey_76 ?_
        refine lv_aload_n hx hb dX10_takesKey_77 rfl (lv_at hl 0 rfl) ?_
        obtain ⟨a6, hP7, hf⟩ := lp_inv hf
        refine r_getP C hw cf10 17 (by decide) rfl hT1 hP7 fl_X10_39 dX10_takesKey_78 ?_
        refine lv_aload_n hx hb dX10_takesKey_81 rfl (lv_at hl 0 rfl) ?_
        obtain ⟨a8, hP9, hf⟩ := lp_inv hf
        refine r_getP C hw cf10 18 (by decide) rfl hT1 hP9 fl_X10_43 dX10_takesKey_82 ?_
        refine lv_iload_n hx hb dX10_takesKey_85 rfl (lv_at hl 1 rfl) ?_
        obtain ⟨hT10, hf⟩ := gt_inv hf
        obtain ⟨hg11, hf⟩ := gd_inv hf
        refine r_iald C hw hT10 hg11 dX10_takesKey_86 ?_
        refine lv_iload hx hb dX10_takesKey_87 (lv_at hl 4 rfl) ?_
        refine lv_iadd hx hb dX10_takesKey_89 ?_
        obtain ⟨hT12, hf⟩ := gt_inv hf
        obtain ⟨hg13, hf⟩ := gd_inv hf
        refine r_cald C hw hT12 hg13 dX10_takesKey_90 ?_
        refine lv_icmp_ne (tgt := 98) hx hb dX10_takesKey_91 (by decide) (fun hc => ?_) (fun hc => ?_)
        · have hf := if_n hc hf
          refine lv_iconst (v := 0) hx hb dX10_takesKey_98 (by decide) ?_
          refine lv_istore_n (lv' := [(3, .int 0), (0, .ref (ad x0)), (1, .int x1), (2, .int x2), (4, .int x4)]) hx hb dX10_takesKey_99 rfl hl (by decide) rfl (fun ls hl => ?_)
          refine lv_iinc (v := (x4 + 1)) (lv' := [(4, .int (x4 + 1)), (3, .int 0), (0, .ref (ad x0)), (1, .int x1), (2, .int x2)]) hx hb dX10_takesKey_100 hl (k := 4) rfl rfl (by decide) rfl (fun ls hl => ?_)
          refine lv_goto (tgt := 55) hx hb dX10_takesKey_103 (by decide) ?_
          exact ih M x0 x1 x2 0 (x4 + 1) _ _ _ hf hw (lv_sub hl [2, 3, 4, 1, 0] rfl)
        · have hf := if_p hc hf
          refine lv_iconst (v := 1) hx hb dX10_takesKey_94 (by decide) ?_
          refine lv_goto (tgt := 99) hx hb dX10_takesKey_95 (by decide) ?_
          refine lv_istore_n (lv' := [(3, .int 1), (0, .ref (ad x0)), (1, .int x1), (2, .int x2), (4, .int x4)]) hx hb dX10_takesKey_99 rfl hl (by decide) rfl (fun ls hl => ?_)
          refine lv_iinc (v := (x4 + 1)) (lv' := [(4, .int (x4 + 1)), (3, .int 1), (0, .ref (ad x0)), (1, .int x1), (2, .int x2)]) hx hb dX10_takesKey_100 hl (k := 4) rfl rfl (by decide) rfl (fun ls hl => ?_)
          refine lv_goto (tgt := 55) hx hb dX10_takesKey_103 (by decide) ?_
          exact ih M x0 x1 x2 1 (x4 + 1) _ _ _ hf hw (lv_sub hl [2, 3, 4, 1, 0] rfl)
def f_X10_takesKey_12 : Nat → Mem → Nat → Int32 → Option (Int32 × Mem)
  | 0, _, _, _ => none
  | n + 1, M, x0, x1 => (if 3 ≤ x1 then some (0, M) else gt (mT M x0) 11 (lp (mP M x0 18) (fun a2 => gt (mT M a2) 20 (gd (ib (x1 + 1) (mL M a2)) (gd (ib x1 (mL M a2)) ((if ((mI M a2 (x1 + 1).toNatClampNeg) - (mI M a2 x1.toNatClampNeg)) = ((mI M x0 11) - (mI M x0 12)) then f_X10_takesKey_55 (f_X10_takesKey_12 n) FU M x0 x1 ((mI M a2 (x1 + 1).toNatClampNeg) - (mI M a2 x1.toNatClampNeg)) 1 0 else f_X10_takesKey_55 (f_X10_takesKey_12 n) FU M x0 x1 ((mI M a2 (x1 + 1).toNatClampNeg) - (mI M a2 x1.toNatClampNeg)) 0 0)))))))
set_option maxHeartbeats 4000000 in
set_option maxRecDepth 100000 in
theorem t_X10_takesKey_12 {l : Launch} {p : Program} {e : Env} {s : State} {m : MethodId} {args : Array Value} {below : List Frame} {meth : Method} {c : Code} {G : Gd} {A : Nat → Prop} {ad : Nat → Nat} (C : Cx G A p s m args meth c RX10 cX10_takesKey 5 (some .boolean)) {r : Int32} {M' : Mem} : ∀ (n : Nat) (M : Mem) (x0 : Nat) (x1 : Int32) (H : Heap) (locs : List Loc) (ls : Array Slot), f_X10_takesKey_12  n M x0 x1 = some (r, M') → Wd G A ad s.heap M H locs → lv_has ls 5 [(0, .ref (ad x0)), (1, .int x1)] → W p l e rm_X10_takesKey s m args below meth c H locs 0 0 (MQ below (QI G A ad r M') args s 0 0 A) (F0 m 12 ls []) := by
  obtain ⟨hx, hb, -⟩ := id C
  intro n
  induction n with
  | zero =>
    intro M x0 x1 H locs ls hf
    rw [f_X10_takesKey_12] at hf
    exact absurd hf (fun h => nomatch h)
  | succ n ih =>
    intro M x0 x1 H locs ls hf hw hl
    rw [f_X10_takesKey_12] at hf
    refine lv_iload_n hx hb dX10_takesKey_12 rfl (lv_at hl 1 rfl) ?_
    refine lv_iconst (v := 3) hx hb dX10_takesKey_13 (by decide) ?_
    refine lv_icmp_ge (tgt := 127) hx hb dX10_takesKey_14 (by decide) (fun hc => ?_) (fun hc => ?_)
    · have hf := if_p hc hf
      refine lv_iconst (v := 0) hx hb dX10_takesKey_127 (by decide) ?_
      exact e_zret C hw rfl hf dX10_takesKey_128
    · have hf := if_n hc hf
      refine lv_aload_n hx hb dX10_takesKey_17 rfl (lv_at hl 0 rfl) ?_
      obtain ⟨hT1, hf⟩ := gt_inv hf
      obtain ⟨a2, hP3, hf⟩ := lp_inv hf
      refine r_getP C hw cf10 18 (by decide) rfl hT1 hP3 fl_X10_43 dX10_takesKey_18 ?_
      refine lv_iload_n hx hb dX10_takesKey_21 rfl (lv_at hl 1 rfl) ?_
      refine lv_iconst (v := 1) hx hb dX10_takesKey_22 (by decide) ?_
      refine lv_iadd hx hb dX10_takesKey_23 ?_
      obtain ⟨hT4, hf⟩ := gt_inv hf
      obtain ⟨hg5, hf⟩ := gd_inv hf
      refine r_iald C hw hT4 hg5 dX10_takesKey_24 ?_
      refine lv_aload_n hx hb dX10_takesKey_25 rfl (lv_at hl 0 rfl) ?_
      refine r_getP C hw cf10 18 (by decide) rfl hT1 hP3 fl_X10_43 dX10_takesKey_26 ?_
      refine lv_iload_n hx hb dX10_takesKey_29 rfl (lv_at hl 1 rfl) ?_
      obtain ⟨hg6, hf⟩ := gd_inv hf
      refine r_iald C hw hT4 hg6 dX10_takesKey_30 ?_
      refine lv_isub hx hb dX10_takesKey_31 ?_
      refine lv_istore_n (lv' := [(2, .int ((mI M a2 (x1 + 1).toNatClampNeg) - (mI M a2 x1.toNatClampNeg))), (0, .ref (ad x0)), (1, .int x1)]) hx hb dX10_takesKey_32 rfl hl (by decide) rfl (fun ls hl => ?_)
      refine lv_iload_n hx hb dX10_takesKey_33 rfl (lv_at hl 0 rfl) ?_
      refine lv_aload_n hx hb dX10_takesKey_34 rfl (lv_at hl 1 rfl) ?_
      refine r_getI C hw cf10 11 (by decide) rfl hT1 fl_X10_202 dX10_takesKey_35 ?_
      refine lv_aload_n hx hb dX10_takesKey_38 rfl (lv_at hl 1 rfl) ?_
      refine r_getI C hw cf10 12 (by decide) rfl hT1 fl_X10_205 dX10_takesKey_39 ?_
      refine lv_isub hx hb dX10_takesKey_42 ?_
      refine lv_icmp_ne (tgt := 50) hx hb dX10_takesKey_43 (by decide) (fun hc => ?_) (fun hc => ?_)
      · have hf := if_n hc hf
        refine lv_iconst (v := 0) hx hb dX10_takesKey_50 (by decide) ?_
        refine lv_istore_n (lv' := [(3, .int 0), (2, .int ((mI M a2 (x1 + 1).toNatClampNeg) - (mI M a2 x1.toNatClampNeg))), (0, .ref (ad x0)), (1, .int x1)]) hx hb dX10_takesKey_51 rfl hl (by decide) rfl (fun ls hl => ?_)
        refine lv_iconst (v := 0) hx hb dX10_takesKey_52 (by decide) ?_
        refine lv_istore (lv' := [(4, .int 0), (3, .int 0), (2, .int ((mI M a2 (x1 + 1).toNatClampNeg) - (mI M a2 x1.toNatClampNeg))), (0, .ref (ad x0)), (1, .int x1)]) hx hb dX10_takesKey_53 hl (by decide) rfl (fun ls hl => ?_)
        exact t_X10_takesKey_55 C ih FU M x0 x1 ((mI M a2 (x1 + 1).toNatClampNeg) - (mI M a2 x1.toNatClampNeg)) 0 0 _ _ _ hf hw (lv_sub hl [3, 4, 2, 1, 0] rfl)
      · have hf := if_p hc hf
        refine lv_iconst (v := 1) hx hb dX10_takesKey_46 (by decide) ?_
        refine lv_goto (tgt := 51) hx hb dX10_takesKey_47 (by decide) ?_
        refine lv_istore_n (lv' := [(3, .int 1), (2, .int ((mI M a2 (x1 + 1).toNatClampNeg) - (mI M a2 x1.toNatClampNeg))), (0, .ref (ad x0)), (1, .int x1)]) hx hb dX10_takesKey_51 rfl hl (by decide) rfl (fun ls hl => ?_)
        refine lv_iconst (v := 0) hx hb dX10_takesKey_52 (by decide) ?_
        refine lv_istore (lv' := [(4, .int 0), (3, .int 1), (2, .int ((mI M a2 (x1 + 1).toNatClampNeg) - (mI M a2 x1.toNatClampNeg))), (0, .ref (ad x0)), (1, .int x1)]) hx hb dX10_takesKey_53 hl (by decide) rfl (fun ls hl => ?_)
        exact t_X10_takesKey_55 C ih FU M x0 x1 ((mI M a2 (x1 + 1).toNatClampNeg) - (mI M a2 x1.toNatClampNeg)) 1 0 _ _ _ hf hw (lv_sub hl [3, 4, 2, 1, 0] rfl)
def f_X10_takesKey (M : Mem) (x0 : Nat) : Option (Int32 × Mem) := gt (mT M x0) 11 ((if (mI M x0 13) = 1 then f_X10_takesKey_12 FU M x0 0 else some (0, M)))
set_option maxHeartbeats 4000000 in
set_option maxRecDepth 100000 in
theorem c_X10_takesKey (l : Launch) (G : Gd) (A : Nat → Prop) (ad : Nat → Nat) {M : Mem} {x0 : Nat}  {r : Int32} {M' : Mem} (hf : f_X10_takesKey M x0 = some (r, M')) : Ct l yX10_takesKey cX10_takesKey 5 (some .boolean) rm_X10_takesKey [.ref (ad x0)] G A ad M (QI G A ad r M') 0 0 := by
  refine ct_start (by decide) (Nat.le_of_ble_eq_true rfl) ?_
  intro p e s m args below meth c ls C hin hw hl
  have C : Cx G A p s m args meth c RX10 cX10_takesKey 5 (some .boolean) := C
  have hl : lv_has ls 5 [(0, .ref (ad x0))] := hl
  obtain ⟨hx, hb, -⟩ := id C
  rw [f_X10_takesKey] at hf
  refine lv_aload_n hx hb dX10_takesKey_0 rfl (lv_at hl 0 rfl) ?_
  obtain ⟨hT1, hf⟩ := gt_inv hf
  refine r_getI C hw cf10 13 (by decide) rfl hT1 fl_X10_211 dX10_takesKey_1 ?_
  refine lv_iconst (v := 1) hx hb dX10_takesKey_4 (by decide) ?_
  refine lv_icmp_eq (tgt := 10) hx hb dX10_takesKey_5 (by decide) (fun hc => ?_) (fun hc => ?_)
  · have hf := if_p hc hf
    refine lv_iconst (v := 0) hx hb dX10_takesKey_10 (by decide) ?_
    refine lv_istore_n (lv' := [(1, .int 0), (0, .ref (ad x0))]) hx hb dX10_takesKey_11 rfl hl (by decide) rfl (fun ls hl => ?_)
    exact t_X10_takesKey_12 C FU M x0 0 _ _ _ hf hw (lv_sub hl [1, 0] rfl)
  · have hf := if_n hc hf
    refine lv_iconst (v := 0) hx hb dX10_takesKey_8 (by decide) ?_
    exact e_zret C hw rfl hf dX10_takesKey_9
/-! StorkVoteModel.nameOf(I)I -/
abbrev rm_X10_nameOf : Room := { frames := 0, cells := 0, slots := 0, locals := 0 }
def f_X10_nameOf (M : Mem) (x0 : Nat) (x1 : Int32) : Option (Int32 × Mem) := gt (mT M x0) 11 ((if (mI M x0 16) = 0 then (if x1 = 119 then some (0, M) else (if x1 = 102 then some (1, M) else (if x1 = 104 then some (2, M) else some ((-1), M)))) else if (mI M x0 16) = 1 then (if x1 = 110 then some (0, M) else (if x1 = 119 then some (1, M) else some ((-1), M))) else (if x1 = 121 then some (0, M) else (if x1 = 115 then some (1, M) else some ((-1), M)))))
set_option maxHeartbeats 4000000 in
set_option maxRecDepth 100000 in
theorem c_X10_nameOf (l : Launch) (G : Gd) (A : Nat → Prop) (ad : Nat → Nat) {M : Mem} {x0 : Nat} {x1 : Int32}  {r : Int32} {M' : Mem} (hf : f_X10_nameOf M x0 x1 = some (r, M')) : Ct l yX10_nameOf cX10_nameOf 2 (some .int) rm_X10_nameOf [.ref (ad x0), .int x1] G A ad M (QI G A ad r M') 0 0 := by
  refine ct_start (by decide) (Nat.le_of_ble_eq_true rfl) ?_
  intro p e s m args below meth c ls C hin hw hl
  have C : Cx G A p s m args meth c RX10 cX10_nameOf 2 (some .int) := C
  have hl : lv_has ls 2 [(0, .ref (ad x0)), (1, .int x1)] := hl
  obtain ⟨hx, hb, -⟩ := id C
  rw [f_X10_nameOf] at hf
  refine lv_aload_n hx hb dX10_nameOf_0 rfl (lv_at hl 0 rfl) ?_
  obtain ⟨hT1, hf⟩ := gt_inv hf
  refine r_getI C hw cf10 16 (by decide) rfl hT1 fl_X10_223 dX10_nameOf_1 ?_
  by_cases hc2 : (mI M x0 16) = 0
  · have hf := if_p hc2 hf
    refine r_lookIn (off := 28) 0 hc2 hx hb dX10_nameOf_4 (by decide) (by decide) (tgt := 32) (by decide) ?_
    refine lv_iload_n hx hb dX10_nameOf_32 rfl (lv_at hl 1 rfl) ?_
    refine lv_bipush (v := 119) hx hb dX10_nameOf_33 (by decide) ?_
    refine lv_icmp_ne (tgt := 42) hx hb dX10_nameOf_35 (by decide) (fun hc => ?_) (fun hc => ?_)
    · have hf := if_n hc hf
      refine lv_iload_n hx hb dX10_nameOf_42 rfl (lv_at hl 1 rfl) ?_
      refine lv_bipush (v := 102) hx hb dX10_nameOf_43 (by decide) ?_
      refine lv_icmp_ne (tgt := 52) hx hb dX10_nameOf_45 (by decide) (fun hc => ?_) (fun hc => ?_)
      · have hf := if_n hc hf
        refine lv_iload_n hx hb dX10_nameOf_52 rfl (lv_at hl 1 rfl) ?_
        refine lv_bipush (v := 104) hx hb dX10_nameOf_53 (by decide) ?_
        refine lv_icmp_ne (tgt := 62) hx hb dX10_nameOf_55 (by decide) (fun hc => ?_) (fun hc => ?_)
        · have hf := if_n hc hf
          refine lv_iconst (v := (-1)) hx hb dX10_nameOf_62 (by decide) ?_
          exact e_iret C hw hf dX10_nameOf_63
        · have hf := if_p hc hf
          refine lv_iconst (v := 2) hx hb dX10_nameOf_58 (by decide) ?_
          refine lv_goto (tgt := 63) hx hb dX10_nameOf_59 (by decide) ?_
          exact e_iret C hw hf dX10_nameOf_63
      · have hf := if_p hc hf
        refine lv_iconst (v := 1) hx hb dX10_nameOf_48 (by decide) ?_
        refine lv_goto (tgt := 63) hx hb dX10_nameOf_49 (by decide) ?_
        exact e_iret C hw hf dX10_nameOf_63
    · have hf := if_p hc hf
      refine lv_iconst (v := 0) hx hb dX10_nameOf_38 (by decide) ?_
      refine lv_goto (tgt := 63) hx hb dX10_nameOf_39 (by decide) ?_
      exact e_iret C hw hf dX10_nameOf_63
  · have hf := if_n hc2 hf
    by_cases hc3 : (mI M x0 16) = 1
    · have hf := if_p hc3 hf
      refine r_lookIn (off := 60) 1 hc3 hx hb dX10_nameOf_4 (by decide) (by decide) (tgt := 64) (by decide) ?_
      refine lv_iload_n hx hb dX10_nameOf_64 rfl (lv_at hl 1 rfl) ?_
      refine lv_bipush (v := 110) hx hb dX10_nameOf_65 (by decide) ?_
      refine lv_icmp_ne (tgt := 74) hx hb dX10_nameOf_67 (by decide) (fun hc => ?_) (fun hc => ?_)
      · have hf := if_n hc hf
        refine lv_iload_n hx hb dX10_nameOf_74 rfl (lv_at hl 1 rfl) ?_
        refine lv_bipush (v := 119) hx hb dX10_nameOf_75 (by decide) ?_
        refine lv_icmp_ne (tgt := 84) hx hb dX10_nameOf_77 (by decide) (fun hc => ?_) (fun hc => ?_)
        · have hf := if_n hc hf
          refine lv_iconst (v := (-1)) hx hb dX10_nameOf_84 (by decide) ?_
          exact e_iret C hw hf dX10_nameOf_85
        · have hf := if_p hc hf
          refine lv_iconst (v := 1) hx hb dX10_nameOf_80 (by decide) ?_
          refine lv_goto (tgt := 85) hx hb dX10_nameOf_81 (by decide) ?_
          exact e_iret C hw hf dX10_nameOf_85
      · have hf := if_p hc hf
        refine lv_iconst (v := 0) hx hb dX10_nameOf_70 (by decide) ?_
        refine lv_goto (tgt := 85) hx hb dX10_nameOf_71 (by decide) ?_
        exact e_iret C hw hf dX10_nameOf_85
    · have hf := if_n hc3 hf
      refine r_lookOut hx hb dX10_nameOf_4 (by decide) (offs_c (by decide) hc2 (offs_c (by decide) hc3 rfl)) (tgt := 86) (by decide) ?_
      refine lv_iload_n hx hb dX10_nameOf_86 rfl (lv_at hl 1 rfl) ?_
      refine lv_bipush (v := 121) hx hb dX10_nameOf_87 (by decide) ?_
      refine lv_icmp_ne (tgt := 96) hx hb dX10_nameOf_89 (by decide) (fun hc => ?_) (fun hc => ?_)
      · have hf := if_n hc hf
        refine lv_iload_n hx hb dX10_nameOf_96 rfl (lv_at hl 1 rfl) ?_
        refine lv_bipush (v := 115) hx hb dX10_nameOf_97 (by decide) ?_
        refine lv_icmp_ne (tgt := 106) hx hb dX10_nameOf_99 (by decide) (fun hc => ?_) (fun hc => ?_)
        · have hf := if_n hc hf
          refine lv_iconst (v := (-1)) hx hb dX10_nameOf_106 (by decide) ?_
          exact e_iret C hw hf dX10_nameOf_107
        · have hf := if_p hc hf
          refine lv_iconst (v := 1) hx hb dX10_nameOf_102 (by decide) ?_
          refine lv_goto (tgt := 107) hx hb dX10_nameOf_103 (by decide) ?_
          exact e_iret C hw hf dX10_nameOf_107
      · have hf := if_p hc hf
        refine lv_iconst (v := 0) hx hb dX10_nameOf_92 (by decide) ?_
        refine lv_goto (tgt := 107) hx hb dX10_nameOf_93 (by decide) ?_
        exact e_iret C hw hf dX10_nameOf_107
/-! StorkVoteModel.rank(I)I -/
abbrev rm_X10_rank : Room := { frames := 0, cells := 0, slots := 0, locals := 0 }
def f_X10_rank (M : Mem) (x0 : Int32) : Option (Int32 × Mem) := (if x0 = (-1) then some (1, M) else (if x0 = (-2) then some (2, M) else (if x0 < (-5) then (if x0 < (-7) then (if x0 < (-9) then some (6, M) else some (5, M)) else some (4, M)) else some (3, M))))
set_option maxHeartbeats 4000000 in
set_option maxRecDepth 100000 in
theorem c_X10_rank (l : Launch) (G : Gd) (A : Nat → Prop) (ad : Nat → Nat) {M : Mem} {x0 : Int32}  {r : Int32} {M' : Mem} (hf : f_X10_rank M x0 = some (r, M')) : Ct l yX10_rank cX10_rank 1 (some .int) rm_X10_rank [.int x0] G A ad M (QI G A ad r M') 0 0 := by
  refine ct_start (by decide) (Nat.le_of_ble_eq_true rfl) ?_
  intro p e s m args below meth c ls C hin hw hl
  have C : Cx G A p s m args meth c RX10 cX10_rank 1 (some .int) := C
  have hl : lv_has ls 1 [(0, .int x0)] := hl
  obtain ⟨hx, hb, -⟩ := id C
  rw [f_X10_rank] at hf
  refine lv_iload_n hx hb dX10_rank_0 rfl (lv_at hl 0 rfl) ?_
  refine lv_iconst (v := (-1)) hx hb dX10_rank_1 (by decide) ?_
  refine lv_icmp_ne (tgt := 9) hx hb dX10_rank_2 (by decide) (fun hc => ?_) (fun hc => ?_)
  · have hf := if_n hc hf
    refine lv_iload_n hx hb dX10_rank_9 rfl (lv_at hl 0 rfl) ?_
    refine lv_bipush (v := (-2)) hx hb dX10_rank_10 (by decide) ?_
    refine lv_icmp_ne (tgt := 19) hx hb dX10_rank_12 (by decide) (fun hc => ?_) (fun hc => ?_)
    · have hf := if_n hc hf
      refine lv_iload_n hx hb dX10_rank_19 rfl (lv_at hl 0 rfl) ?_
      refine lv_bipush (v := (-5)) hx hb dX10_rank_20 (by decide) ?_
      refine lv_icmp_lt (tgt := 29) hx hb dX10_rank_22 (by decide) (fun hc => ?_) (fun hc => ?_)
      · have hf := if_p hc hf
        refine lv_iload_n hx hb dX10_rank_29 rfl (lv_at hl 0 rfl) ?_
        refine lv_bipush (v := (-7)) hx hb dX10_rank_30 (by decide) ?_
        refine lv_icmp_lt (tgt := 39) hx hb dX10_rank_32 (by decide) (fun hc => ?_) (fun hc => ?_)
        · have hf := if_p hc hf
          refine lv_iload_n hx hb dX10_rank_39 rfl (lv_at hl 0 rfl) ?_
          refine lv_bipush (v := (-9)) hx hb dX10_rank_40 (by decide) ?_
          refine lv_icmp_lt (tgt := 49) hx hb dX10_rank_42 (by decide) (fun hc => ?_) (fun hc => ?_)
          · have hf := if_p hc hf
            refine lv_bipush (v := 6) hx hb dX10_rank_49 (by decide) ?_
            exact e_iret C hw hf dX10_rank_51
          · have hf := if_n hc hf
            refine lv_iconst (v := 5) hx hb dX10_rank_45 (by decide) ?_
            refine lv_goto (tgt := 51) hx hb dX10_rank_46 (by decide) ?_
            exact e_iret C hw hf dX10_rank_51
        · have hf := if_n hc hf
          refine lv_iconst (v := 4) hx hb dX10_rank_35 (by decide) ?_
          refine lv_goto (tgt := 51) hx hb dX10_rank_36 (by decide) ?_
          exact e_iret C hw hf dX10_rank_51
      · have hf := if_n hc hf
        refine lv_iconst (v := 3) hx hb dX10_rank_25 (by decide) ?_
        refine lv_goto (tgt := 51) hx hb dX10_rank_26 (by decide) ?_
        exact e_iret C hw hf dX10_rank_51
    · have hf := if_p hc hf
      refine lv_iconst (v := 2) hx hb dX10_rank_15 (by decide) ?_
      refine lv_goto (tgt := 51) hx hb dX10_rank_16 (by decide) ?_
      exact e_iret C hw hf dX10_rank_51
  · have hf := if_p hc hf
    refine lv_iconst (v := 1) hx hb dX10_rank_5 (by decide) ?_
    refine lv_goto (tgt := 51) hx hb dX10_rank_6 (by decide) ?_
    exact e_iret C hw hf dX10_rank_51
/-! StorkVoteModel.settle(I)V -/
abbrev rm_X10_settle : Room := { frames := 1, cells := 0, slots := 0, locals := 20 }
def f_X10_settle_0 : Nat → Mem → Nat → Int32 → Option (Unit × Mem)
  | 0, _, _, _ => none
  | n + 1, M, x0, x1 => gt (mT M x0) 11 ((if (mI M x0 23) ≤ 0 then some ((), M) else lp (mP M x0 22) (fun a2 => gt (mT M a2) 20 (gd (ib ((mI M x0 23) - 1) (mL M a2)) ((if (mI M a2 ((mI M x0 23) - 1).toNatClampNeg) = (-11) then some ((), M) else gd (ib ((mI M x0 23) - 1) (mL M a2)) (cl (f_X10_rank M (mI M a2 ((mI M x0 23) - 1).toNatClampNeg)) (fun r8 M7 => (if r8 < x1 then some ((), M7) else gt (mT M7 x0) 11 (st (setI M7 x0 23 ((mI M7 x0 23) - 1)) (fun M11 => lp (mP M11 x0 19) (fun a14 => lp (mP M11 x0 22) (fun a16 => gt (mT M11 a16) 20 (gd (ib (mI M11 x0 23) (mL M11 a16)) (gt (mT M11 a14) 20 (gd (ib (mI M11 x0 20) (mL M11 a14)) (st (setI M11 a14 (mI M11 x0 20).toNatClampNeg (mI M11 a16 (mI M11 x0 23).toNatClampNeg)) (fun M22 => st (setI M22 x0 20 ((mI M22 x0 20) + 1)) (fun M25 => f_X10_settle_0 n M25 x0 x1)))))))))))))))))))
set_option maxHeartbeats 4000000 in
set_option maxRecDepth 100000 in
theorem t_X10_settle_0 {l : Launch} {p : Program} {e : Env} {s : State} {m : MethodId} {args : Array Value} {below : List Frame} {meth : Method} {c : Code} {G : Gd} {A : Nat → Prop} {ad : Nat → Nat} (C : Cx G A p s m args meth c RX10 cX10_settle 2 none) {M' : Mem} : ∀ (n : Nat) (M : Mem) (x0 : Nat) (x1 : Int32) (H : Heap) (locs : List Loc) (ls : Array Slot), f_X10_settle_0  n M x0 x1 = some ((), M') → Wd G A ad s.heap M H locs → lv_has ls 2 [(0, .ref (ad x0)), (1, .int x1)] → W p l e rm_X10_settle s m args below meth c H locs 0 0 (MQ below (QV G A ad M') args s 0 0 A) (F0 m 0 ls []) := by
  obtain ⟨hx, hb, -⟩ := id C
  intro n
  induction n with
  | zero =>
    intro M x0 x1 H locs ls hf
    rw [f_X10_settle_0] at hf
    exact absurd hf (fun h => nomatch h)
  | succ n ih =>
    intro M x0 x1 H locs ls hf hw hl
    rw [f_X10_settle_0] at hf
    refine lv_aload_n hx hb dX10_settle_0 rfl (lv_at hl 0 rfl) ?_
    obtain ⟨hT1, hf⟩ := gt_inv hf
    refine r_getI C hw cf10 23 (by decide) rfl hT1 fl_X10_229 dX10_settle_1 ?_
    refine lv_if_le (tgt := 82) hx hb dX10_settle_4 (by decide) (fun hc => ?_) (fun hc => ?_)
    · have hf := if_p hc hf
      exact e_vret C hw hf dX10_settle_82
    · have hf := if_n hc hf
      refine lv_aload_n hx hb dX10_settle_7 rfl (lv_at hl 0 rfl) ?_
      obtain ⟨a2, hP3, hf⟩ := lp_inv hf
      refine r_getP C hw cf10 22 (by decide) rfl hT1 hP3 fl_X10_49 dX10_settle_8 ?_
      refine lv_aload_n hx hb dX10_settle_11 rfl (lv_at hl 0 rfl) ?_
      refine r_getI C hw cf10 23 (by decide) rfl hT1 fl_X10_229 dX10_settle_12 ?_
      refine lv_iconst (v := 1) hx hb dX10_settle_15 (by decide) ?_
      refine lv_isub hx hb dX10_settle_16 ?_
      obtain ⟨hT4, hf⟩ := gt_inv hf
      obtain ⟨hg5, hf⟩ := gd_inv hf
      refine r_iald C hw hT4 hg5 dX10_settle_17 ?_
      refine lv_bipush (v := (-11)) hx hb dX10_settle_18 (by decide) ?_
      refine lv_icmp_eq (tgt := 82) hx hb dX10_settle_20 (by decide) (fun hc => ?_) (fun hc => ?_)
      · have hf := if_p hc hf
        exact e_vret C hw hf dX10_settle_82
      · have hf := if_n hc hf
        refine lv_aload_n hx hb dX10_settle_23 rfl (lv_at hl 0 rfl) ?_
        refine r_getP C hw cf10 22 (by decide) rfl hT1 hP3 fl_X10_49 dX10_settle_24 ?_
        refine lv_aload_n hx hb dX10_settle_27 rfl (lv_at hl 0 rfl) ?_
        refine r_getI C hw cf10 23 (by decide) rfl hT1 fl_X10_229 dX10_settle_28 ?_
        refine lv_iconst (v := 1) hx hb dX10_settle_31 (by decide) ?_
        refine lv_isub hx hb dX10_settle_32 ?_
        obtain ⟨hg6, hf⟩ := gd_inv hf
        refine r_iald C hw hT4 hg6 dX10_settle_33 ?_
        obtain ⟨r8, M7, hc9, hf⟩ := cl_inv hf
        refine fin_I (run_S C hw mf_X10_rank ms_X10_rank ml_X10_232 (c_X10_rank l G A ad hc9) (As := [.int (mI M a2 ((mI M x0 23) - 1).toNatClampNeg)]) (rest := []) hl.1 rfl rfl (Nat.le_of_ble_eq_true rfl) ⟨rfl, rfl, Nat.le_of_ble_eq_true rfl, Nat.le_of_ble_eq_true rfl⟩ ⟨Nat.zero_le _, Nat.zero_le _⟩ dX10_settle_34) hw (fun H locs hw => ?_)
        refine lv_iload_n hx hb dX10_settle_37 rfl (lv_at hl 1 rfl) ?_
        refine lv_icmp_lt (tgt := 82) hx hb dX10_settle_38 (by decide) (fun hc => ?_) (fun hc => ?_)
        · have hf := if_p hc hf
          exact e_vret C hw hf dX10_settle_82
        · have hf := if_n hc hf
          refine lv_aload_n hx hb dX10_settle_41 rfl (lv_at hl 0 rfl) ?_
          refine lv_dup hx hb dX10_settle_42 rfl ?_
          obtain ⟨hT10, hf⟩ := gt_inv hf
          refine r_getI C hw cf10 23 (by decide) rfl hT10 fl_X10_229 dX10_settle_43 ?_
          refine lv_iconst (v := 1) hx hb dX10_settle_46 (by decide) ?_
          refine lv_isub hx hb dX10_settle_47 ?_
          obtain ⟨M11, e12, hf⟩ := st_inv hf
          have g13 := sg_I e12
          refine r_putI C hw cf10 23 (by decide) rfl hT10 e12 fl_X10_229 rfl rfl rfl dX10_settle_48 (fun H locs hw => ?_)
          refine lv_aload_n hx hb dX10_settle_51 rfl (lv_at hl 0 rfl) ?_
          obtain ⟨a14, hP15, hf⟩ := lp_inv hf
          refine r_getP C hw cf10 19 (by decide) rfl (T_of g13 hT10) hP15 fl_X10_46 dX10_settle_52 ?_
          refine lv_aload_n hx hb dX10_settle_55 rfl (lv_at hl 0 rfl) ?_
          refine r_getI C hw cf10 20 (by decide) rfl (T_of g13 hT10) fl_X10_235 dX10_settle_56 ?_
          refine lv_aload_n hx hb dX10_settle_59 rfl (lv_at hl 0 rfl) ?_
          obtain ⟨a16, hP17, hf⟩ := lp_inv hf
          refine r_getP C hw cf10 22 (by decide) rfl (T_of g13 hT10) hP17 fl_X10_49 dX10_settle_60 ?_
          refine lv_aload_n hx hb dX10_settle_63 rfl (lv_at hl 0 rfl) ?_
          refine r_getI C hw cf10 23 (by decide) rfl (T_of g13 hT10) fl_X10_229 dX10_settle_64 ?_
          obtain ⟨hT18, hf⟩ := gt_inv hf
          obtain ⟨hg19, hf⟩ := gd_inv hf
          refine r_iald C hw hT18 hg19 dX10_settle_67 ?_
          obtain ⟨hT20, hf⟩ := gt_inv hf
          obtain ⟨hg21, hf⟩ := gd_inv hf
          obtain ⟨M22, e23, hf⟩ := st_inv hf
          have g24 := sg_I e23
          refine r_iast C hw hT20 hg21 e23 dX10_settle_68 (fun H locs hw => ?_)
          refine lv_aload_n hx hb dX10_settle_69 rfl (lv_at hl 0 rfl) ?_
          refine lv_dup hx hb dX10_settle_70 rfl ?_
          refine r_getI C hw cf10 20 (by decide) rfl (T_of g24 (T_of g13 hT10)) fl_X10_235 dX10_settle_71 ?_
          refine lv_iconst (v := 1) hx hb dX10_settle_74 (by decide) ?_
          refine lv_iadd hx hb dX10_settle_75 ?_
          obtain ⟨M25, e26, hf⟩ := st_inv hf
          have g27 := sg_I e26
          refine r_putI C hw cf10 20 (by decide) rfl (T_of g24 (T_of g13 hT10)) e26 fl_X10_235 rfl rfl rfl dX10_settle_76 (fun H locs hw => ?_)
          refine lv_goto (tgt := 0) hx hb dX10_settle_79 (by decide) ?_
          exact ih M25 x0 x1 _ _ _ hf hw (lv_sub hl [0, 1] rfl)
def f_X10_settle (M : Mem) (x0 : Nat) (x1 : Int32) : Option (Unit × Mem) := f_X10_settle_0 FU M x0 x1
set_option maxHeartbeats 4000000 in
set_option maxRecDepth 100000 in
theorem c_X10_settle (l : Launch) (G : Gd) (A : Nat → Prop) (ad : Nat → Nat) {M : Mem} {x0 : Nat} {x1 : Int32}  {M' : Mem} (hf : f_X10_settle M x0 x1 = some ((), M')) : Ct l yX10_settle cX10_settle 2 none rm_X10_settle [.ref (ad x0), .int x1] G A ad M (QV G A ad M') 0 0 := by
  refine ct_start (by decide) (Nat.le_of_ble_eq_true rfl) ?_
  intro p e s m args below meth c ls C hin hw hl
  have C : Cx G A p s m args meth c RX10 cX10_settle 2 none := C
  have hl : lv_has ls 2 [(0, .ref (ad x0)), (1, .int x1)] := hl
  obtain ⟨hx, hb, -⟩ := id C
  rw [f_X10_settle] at hf
  exact t_X10_settle_0 C FU M x0 x1 _ _ _ hf hw (lv_sub hl [0, 1] rfl)
/-! StorkVoteModel.signHere()I -/
abbrev rm_X10_signHere : Room := { frames := 0, cells := 0, slots := 0, locals := 0 }
def f_X10_signHere (M : Mem) (x0 : Nat) : Option (Int32 × Mem) := gt (mT M x0) 11 ((if (mI M x0 13) = 3 then (if (mI M x0 14) = 38 then some ((-2), M) else if (mI M x0 14) = 42 then some ((-8), M) else if (mI M x0 14) = 43 then some ((-6), M) else if (mI M x0 14) = 45 then some ((-7), M) else if (mI M x0 14) = 47 then some ((-9), M) else if (mI M x0 14) = 60 then some ((-3), M) else if (mI M x0 14) = 61 then some ((-4), M) else if (mI M x0 14) = 62 then some ((-5), M) else if (mI M x0 14) = 124 then some ((-1), M) else some (0, M)) else some (0, M)))
set_option maxHeartbeats 4000000 in
set_option maxRecDepth 100000 in
theorem c_X10_signHere (l : Launch) (G : Gd) (A : Nat → Prop) (ad : Nat → Nat) {M : Mem} {x0 : Nat}  {r : Int32} {M' : Mem} (hf : f_X10_signHere M x0 = some (r, M')) : Ct l yX10_signHere cX10_signHere 1 (some .int) rm_X10_signHere [.ref (ad x0)] G A ad M (QI G A ad r M') 0 0 := by
  refine ct_start (by decide) (Nat.le_of_ble_eq_true rfl) ?_
  intro p e s m args below meth c ls C hin hw hl
  have C : Cx G A p s m args meth c RX10 cX10_signHere 1 (some .int) := C
  have hl : lv_has ls 1 [(0, .ref (ad x0))] := hl
  obtain ⟨hx, hb, -⟩ := id C
  rw [f_X10_signHere] at hf
  refine lv_aload_n hx hb dX10_signHere_0 rfl (lv_at hl 0 rfl) ?_
  obtain ⟨hT1, hf⟩ := gt_inv hf
  refine r_getI C hw cf10 13 (by decide) rfl hT1 fl_X10_211 dX10_signHere_1 ?_
  refine lv_iconst (v := 3) hx hb dX10_signHere_4 (by decide) ?_
  refine lv_icmp_eq (tgt := 10) hx hb dX10_signHere_5 (by decide) (fun hc => ?_) (fun hc => ?_)
  · have hf := if_p hc hf
    refine lv_aload_n hx hb dX10_signHere_10 rfl (lv_at hl 0 rfl) ?_
    refine r_getI C hw cf10 14 (by decide) rfl hT1 fl_X10_217 dX10_signHere_11 ?_
    by_cases hc2 : (mI M x0 14) = 38
    · have hf := if_p hc2 hf
      refine r_lookIn (off := 84) 38 hc2 hx hb dX10_signHere_14 (by decide) (by decide) (tgt := 98) (by decide) ?_
      refine lv_bipush (v := (-2)) hx hb dX10_signHere_98 (by decide) ?_
      exact e_iret C hw hf dX10_signHere_100
    · have hf := if_n hc2 hf
      by_cases hc3 : (mI M x0 14) = 42
      · have hf := if_p hc3 hf
        refine r_lookIn (off := 102) 42 hc3 hx hb dX10_signHere_14 (by decide) (by decide) (tgt := 116) (by decide) ?_
        refine lv_bipush (v := (-8)) hx hb dX10_signHere_116 (by decide) ?_
        exact e_iret C hw hf dX10_signHere_118
      · have hf := if_n hc3 hf
        by_cases hc4 : (mI M x0 14) = 43
        · have hf := if_p hc4 hf
          refine r_lookIn (off := 96) 43 hc4 hx hb dX10_signHere_14 (by decide) (by decide) (tgt := 110) (by decide) ?_
          refine lv_bipush (v := (-6)) hx hb dX10_signHere_110 (by decide) ?_
          exact e_iret C hw hf dX10_signHere_112
        · have hf := if_n hc4 hf
          by_cases hc5 : (mI M x0 14) = 45
          · have hf := if_p hc5 hf
            refine r_lookIn (off := 99) 45 hc5 hx hb dX10_signHere_14 (by decide) (by decide) (tgt := 113) (by decide) ?_
            refine lv_bipush (v := (-7)) hx hb dX10_signHere_113 (by decide) ?_
            exact e_iret C hw hf dX10_signHere_115
          · have hf := if_n hc5 hf
            by_cases hc6 : (mI M x0 14) = 47
            · have hf := if_p hc6 hf
              refine r_lookIn (off := 105) 47 hc6 hx hb dX10_signHere_14 (by decide) (by decide) (tgt := 119) (by decide) ?_
              refine lv_bipush (v := (-9)) hx hb dX10_signHere_119 (by decide) ?_
              exact e_iret C hw hf dX10_signHere_121
            · have hf := if_n hc6 hf
              by_cases hc7 : (mI M x0 14) = 60
              · have hf := if_p hc7 hf
                refine r_lookIn (off := 87) 60 hc7 hx hb dX10_signHere_14 (by decide) (by decide) (tgt := 101) (by decide) ?_
                refine lv_bipush (v := (-3)) hx hb dX10_signHere_101 (by decide) ?_
                exact e_iret C hw hf dX10_signHere_103
              · have hf := if_n hc7 hf
                by_cases hc8 : (mI M x0 14) = 61
                · have hf := if_p hc8 hf
                  refine r_lookIn (off := 90) 61 hc8 hx hb dX10_signHere_14 (by decide) (by decide) (tgt := 104) (by decide) ?_
                  refine lv_bipush (v := (-4)) hx hb dX10_signHere_104 (by decide) ?_
                  exact e_iret C hw hf dX10_signHere_106
                · have hf := if_n hc8 hf
                  by_cases hc9 : (mI M x0 14) = 62
                  · have hf := if_p hc9 hf
                    refine r_lookIn (off := 93) 62 hc9 hx hb dX10_signHere_14 (by decide) (by decide) (tgt := 107) (by decide) ?_
                    refine lv_bipush (v := (-5)) hx hb dX10_signHere_107 (by decide) ?_
                    exact e_iret C hw hf dX10_signHere_109
                  · have hf := if_n hc9 hf
                    by_cases hc10 : (mI M x0 14) = 124
                    · have hf := if_p hc10 hf
                      refine r_lookIn (off := 82) 124 hc10 hx hb dX10_signHere_14 (by decide) (by decide) (tgt := 96) (by decide) ?_
                      refine lv_iconst (v := (-1)) hx hb dX10_signHere_96 (by decide) ?_
                      exact e_iret C hw hf dX10_signHere_97
                    · have hf := if_n hc10 hf
                      refine r_lookOut hx hb dX10_signHere_14 (by decide) (offs_c (by decide) hc2 (offs_c (by decide) hc3 (offs_c (by decide) hc4 (offs_c (by decide) hc5 (offs_c (by decide) hc6 (offs_c (by decide) hc7 (offs_c (by decide) hc8 (offs_c (by decide) hc9 (offs_c (by decide) hc10 rfl))))))))) (tgt := 122) (by decide) ?_
                      refine lv_iconst (v := 0) hx hb dX10_signHere_122 (by decide) ?_
                      exact e_iret C hw hf dX10_signHere_123
  · have hf := if_n hc hf
    refine lv_iconst (v := 0) hx hb dX10_signHere_8 (by decide) ?_
    exact e_iret C hw hf dX10_signHere_9
/-! StorkVoteModel.takesPart()Z -/
abbrev rm_X10_takesPart : Room := { frames := 2, cells := 0, slots := 0, locals := 42 }
def f_X10_takesPart_87 (M : Mem) (x0 : Nat) (s0 : Nat) (s1 : Int32) (s2 : Int32) : Option (Int32 × Mem) := gt (mT M s0) 20 (gd (ib s1 (mL M s0)) (st (setI M s0 s1.toNatClampNeg s2) (fun M3 => gt (mT M3 x0) 11 (st (setI M3 x0 20 ((mI M3 x0 20) + 1)) (fun M7 => st (setI M7 x0 21 ((mI M7 x0 21) + 1)) (fun M10 => cl (f_X10_settle M10 x0 6) (fun _ M13 => gt (mT M13 x0) 11 (cl (f_X10_go M13 x0) (fun _ M16 => some (1, M16))))))))))
set_option maxHeartbeats 4000000 in
set_option maxRecDepth 100000 in
theorem t_X10_takesPart_87 {l : Launch} {p : Program} {e : Env} {s : State} {m : MethodId} {args : Array Value} {below : List Frame} {meth : Method} {c : Code} {G : Gd} {A : Nat → Prop} {ad : Nat → Nat} (C : Cx G A p s m args meth c RX10 cX10_takesPart 2 (some .boolean)) {r : Int32} {M' : Mem} : ∀ (M : Mem) (x0 : Nat) (s0 : Nat) (s1 : Int32) (s2 : Int32) (H : Heap) (locs : List Loc) (ls : Array Slot), f_X10_takesPart_87  M x0 s0 s1 s2 = some (r, M') → Wd G A ad s.heap M H locs → lv_has ls 2 [(0, .ref (ad x0))] → W p l e rm_X10_takesPart s m args below meth c H locs 0 0 (MQ below (QI G A ad r M') args s 0 0 A) (F0 m 87 ls [.int s2, .int s1, .ref (ad s0)]) := by
  obtain ⟨hx, hb, -⟩ := id C
  intro M x0 s0 s1 s2 H locs ls hf hw hl
  rw [f_X10_takesPart_87] at hf
  obtain ⟨hT1, hf⟩ := gt_inv hf
  obtain ⟨hg2, hf⟩ := gd_inv hf
  obtain ⟨M3, e4, hf⟩ := st_inv hf
  have g5 := sg_I e4
  refine r_iast C hw hT1 hg2 e4 dX10_takesPart_87 (fun H locs hw => ?_)
  refine lv_aload_n hx hb dX10_takesPart_88 rfl (lv_at hl 0 rfl) ?_
  refine lv_dup hx hb dX10_takesPart_89 rfl ?_
  obtain ⟨hT6, hf⟩ := gt_inv hf
  refine r_getI C hw cf10 20 (by decide) rfl hT6 fl_X10_235 dX10_takesPart_90 ?_
  refine lv_iconst (v := 1) hx hb dX10_takesPart_93 (by decide) ?_
  refine lv_iadd hx hb dX10_takesPart_94 ?_
  obtain ⟨M7, e8, hf⟩ := st_inv hf
  have g9 := sg_I e8
  refine r_putI C hw cf10 20 (by decide) rfl hT6 e8 fl_X10_235 rfl rfl rfl dX10_takesPart_95 (fun H locs hw => ?_)
  refine lv_aload_n hx hb dX10_takesPart_98 rfl (lv_at hl 0 rfl) ?_
  refine lv_dup hx hb dX10_takesPart_99 rfl ?_
  refine r_getI C hw cf10 21 (by decide) rfl (T_of g9 hT6) fl_X10_241 dX10_takesPart_100 ?_
  refine lv_iconst (v := 1) hx hb dX10_takesPart_103 (by decide) ?_
  refine lv_iadd hx hb dX10_takesPart_104 ?_
  obtain ⟨M10, e11, hf⟩ := st_inv hf
  have g12 := sg_I e11
  refine r_putI C hw cf10 21 (by decide) rfl (T_of g9 hT6) e11 fl_X10_241 rfl rfl rfl dX10_takesPart_105 (fun H locs hw => ?_)
  refine lv_aload_n hx hb dX10_takesPart_108 rfl (lv_at hl 0 rfl) ?_
  refine lv_bipush (v := 6) hx hb dX10_takesPart_109 (by decide) ?_
  obtain ⟨⟨⟩, M13, hc15, hf⟩ := cl_inv hf
  refine fin_V (run_V C hw mf_X10_settle mv_X10_settle ml_X10_244 cf10 (T_of g12 (T_of g9 hT6)) (c_X10_settle l G A ad hc15) (As := [.int 6]) (rest := []) hl.1 rfl rfl (Nat.le_of_ble_eq_true rfl) ⟨rfl, rfl, Nat.le_of_ble_eq_true rfl, Nat.le_of_ble_eq_true rfl⟩ ⟨Nat.zero_le _, Nat.zero_le _⟩ dX10_takesPart_111) hw (fun H locs hw => ?_)
  refine lv_aload_n hx hb dX10_takesPart_114 rfl (lv_at hl 0 rfl) ?_
  obtain ⟨hT19, hf⟩ := gt_inv hf
  obtain ⟨⟨⟩, M16, hc18, hf⟩ := cl_inv hf
  refine fin_V (run_V C hw mf_X10_go mv_X10_go ml_X10_226 cf10 hT19 (c_X10_go l G A ad hc18) (As := []) (rest := []) hl.1 rfl rfl (Nat.le_of_ble_eq_true rfl) ⟨rfl, rfl, Nat.le_of_ble_eq_true rfl, Nat.le_of_ble_eq_true rfl⟩ ⟨Nat.zero_le _, Nat.zero_le _⟩ dX10_takesPart_115) hw (fun H locs hw => ?_)
  refine lv_iconst (v := 1) hx hb dX10_takesPart_118 (by decide) ?_
  exact e_zret C hw rfl hf dX10_takesPart_119
def f_X10_takesPart_52 (M : Mem) (x0 : Nat) : Option (Int32 × Mem) := gt (mT M x0) 11 (lp (mP M x0 19) (fun a2 => (if (mI M x0 13) = 2 then f_X10_takesPart_87 M x0 a2 (mI M x0 20) (mI M x0 14) else cl (f_X10_nameOf M x0 (mI M x0 14)) (fun r5 M4 => f_X10_takesPart_87 M4 x0 a2 (mI M x0 20) (10000 + r5)))))
set_option maxHeartbeats 4000000 in
set_option maxRecDepth 100000 in
theorem t_X10_takesPart_52 {l : Launch} {p : Program} {e : Env} {s : State} {m : MethodId} {args : Array Value} {below : List Frame} {meth : Method} {c : Code} {G : Gd} {A : Nat → Prop} {ad : Nat → Nat} (C : Cx G A p s m args meth c RX10 cX10_takesPart 2 (some .boolean)) {r : Int32} {M' : Mem} : ∀ (M : Mem) (x0 : Nat) (H : Heap) (locs : List Loc) (ls : Array Slot), f_X10_takesPart_52  M x0 = some (r, M') → Wd G A ad s.heap M H locs → lv_has ls 2 [(0, .ref (ad x0))] → W p l e rm_X10_takesPart s m args below meth c H locs 0 0 (MQ below (QI G A ad r M') args s 0 0 A) (F0 m 52 ls []) := by
  obtain ⟨hx, hb, -⟩ := id C
  intro M x0 H locs ls hf hw hl
  rw [f_X10_takesPart_52] at hf
  refine lv_aload_n hx hb dX10_takesPart_52 rfl (lv_at hl 0 rfl) ?_
  obtain ⟨hT1, hf⟩ := gt_inv hf
  obtain ⟨a2, hP3, hf⟩ := lp_inv hf
  refine r_getP C hw cf10 19 (by decide) rfl hT1 hP3 fl_X10_46 dX10_takesPart_53 ?_
  refine lv_aload_n hx hb dX10_takesPart_56 rfl (lv_at hl 0 rfl) ?_
  refine r_getI C hw cf10 20 (by decide) rfl hT1 fl_X10_235 dX10_takesPart_57 ?_
  refine lv_aload_n hx hb dX10_takesPart_60 rfl (lv_at hl 0 rfl) ?_
  refine r_getI C hw cf10 13 (by decide) rfl hT1 fl_X10_211 dX10_takesPart_61 ?_
  refine lv_iconst (v := 2) hx hb dX10_takesPart_64 (by decide) ?_
  refine lv_icmp_ne (tgt := 75) hx hb dX10_takesPart_65 (by decide) (fun hc => ?_) (fun hc => ?_)
  · have hf := if_n hc hf
    refine lv_sipush (v := 10000) hx hb dX10_takesPart_75 (by decide) ?_
    refine lv_aload_n hx hb dX10_takesPart_78 rfl (lv_at hl 0 rfl) ?_
    refine lv_aload_n hx hb dX10_takesPart_79 rfl (lv_at hl 0 rfl) ?_
    refine r_getI C hw cf10 14 (by decide) rfl hT1 fl_X10_217 dX10_takesPart_80 ?_
    obtain ⟨r5, M4, hc6, hf⟩ := cl_inv hf
    refine fin_I (run_V C hw mf_X10_nameOf mv_X10_nameOf ml_X10_238 cf10 hT1 (c_X10_nameOf l G A ad hc6) (As := [.int (mI M x0 14)]) (rest := [.int 10000, .int (mI M x0 20), .ref (ad a2)]) hl.1 rfl rfl (Nat.le_of_ble_eq_true rfl) ⟨rfl, rfl, Nat.le_of_ble_eq_true rfl, Nat.le_of_ble_eq_true rfl⟩ ⟨Nat.zero_le _, Nat.zero_le _⟩ dX10_takesPart_83) hw (fun H locs hw => ?_)
    refine lv_iadd hx hb dX10_takesPart_86 ?_
    exact t_X10_takesPart_87 C M4 x0 a2 (mI M x0 20) (10000 + r5) _ _ _ hf hw (lv_sub hl [0] rfl)
  · have hf := if_p hc hf
    refine lv_aload_n hx hb dX10_takesPart_68 rfl (lv_at hl 0 rfl) ?_
    refine r_getI C hw cf10 14 (by decide) rfl hT1 fl_X10_217 dX10_takesPart_69 ?_
    refine lv_goto (tgt := 87) hx hb dX10_takesPart_72 (by decide) ?_
    exact t_X10_takesPart_87 C M x0 a2 (mI M x0 20) (mI M x0 14) _ _ _ hf hw (lv_sub hl [0] rfl)
def f_X10_takesPart_37 (M : Mem) (x0 : Nat) (s0 : Int32) : Option (Int32 × Mem) := gt (mT M x0) 11 ((if (mI M x0 13) = 2 then f_X10_takesPart_52 M x0 else (if s0 = 0 then some (0, M) else f_X10_takesPart_52 M x0)))
set_option maxHeartbeats 4000000 in
set_option maxRecDepth 100000 in
theorem t_X10_takesPart_37 {l : Launch} {p : Program} {e : Env} {s : State} {m : MethodId} {args : Array Value} {below : List Frame} {meth : Method} {c : Code} {G : Gd} {A : Nat → Prop} {ad : Nat → Nat} (C : Cx G A p s m args meth c RX10 cX10_takesPart 2 (some .boolean)) {r : Int32} {M' : Mem} : ∀ (M : Mem) (x0 : Nat) (s0 : Int32) (H : Heap) (locs : List Loc) (ls : Array Slot), f_X10_takesPart_37  M x0 s0 = some (r, M') → Wd G A ad s.heap M H locs → lv_has ls 2 [(0, .ref (ad x0))] → W p l e rm_X10_takesPart s m args below meth c H locs 0 0 (MQ below (QI G A ad r M') args s 0 0 A) (F0 m 37 ls [.int s0]) := by
  obtain ⟨hx, hb, -⟩ := id C
  intro M x0 s0 H locs ls hf hw hl
  rw [f_X10_takesPart_37] at hf
  refine lv_istore_n (lv' := [(1, .int s0), (0, .ref (ad x0))]) hx hb dX10_takesPart_37 rfl hl (by decide) rfl (fun ls hl => ?_)
  refine lv_aload_n hx hb dX10_takesPart_38 rfl (lv_at hl 1 rfl) ?_
  obtain ⟨hT1, hf⟩ := gt_inv hf
  refine r_getI C hw cf10 13 (by decide) rfl hT1 fl_X10_211 dX10_takesPart_39 ?_
  refine lv_iconst (v := 2) hx hb dX10_takesPart_42 (by decide) ?_
  refine lv_icmp_eq (tgt := 52) hx hb dX10_takesPart_43 (by decide) (fun hc => ?_) (fun hc => ?_)
  · have hf := if_p hc hf
    exact t_X10_takesPart_52 C M x0 _ _ _ hf hw (lv_sub hl [1] rfl)
  · have hf := if_n hc hf
    refine lv_iload_n hx hb dX10_takesPart_46 rfl (lv_at hl 0 rfl) ?_
    refine lv_if_ne (tgt := 52) hx hb dX10_takesPart_47 (by decide) (fun hc => ?_) (fun hc => ?_)
    · have hf := if_n hc hf
      exact t_X10_takesPart_52 C M x0 _ _ _ hf hw (lv_sub hl [1] rfl)
    · have hf := if_p hc hf
      refine lv_iconst (v := 0) hx hb dX10_takesPart_50 (by decide) ?_
      exact e_zret C hw rfl hf dX10_takesPart_51
def f_X10_takesPart (M : Mem) (x0 : Nat) : Option (Int32 × Mem) := gt (mT M x0) 11 ((if (mI M x0 13) = 1 then (if ((mI M x0 11) - (mI M x0 12)) = 1 then cl (f_X10_nameOf M x0 (mI M x0 14)) (fun r3 M2 => (if r3 < 0 then f_X10_takesPart_37 M2 x0 0 else f_X10_takesPart_37 M2 x0 1)) else f_X10_takesPart_37 M x0 0) else f_X10_takesPart_37 M x0 0))
set_option maxHeartbeats 4000000 in
set_option maxRecDepth 100000 in
theorem c_X10_takesPart (l : Launch) (G : Gd) (A : Nat → Prop) (ad : Nat → Nat) {M : Mem} {x0 : Nat}  {r : Int32} {M' : Mem} (hf : f_X10_takesPart M x0 = some (r, M')) : Ct l yX10_takesPart cX10_takesPart 2 (some .boolean) rm_X10_takesPart [.ref (ad x0)] G A ad M (QI G A ad r M') 0 0 := by
  refine ct_start (by decide) (Nat.le_of_ble_eq_true rfl) ?_
  intro p e s m args below meth c ls C hin hw hl
  have C : Cx G A p s m args meth c RX10 cX10_takesPart 2 (some .boolean) := C
  have hl : lv_has ls 2 [(0, .ref (ad x0))] := hl
  obtain ⟨hx, hb, -⟩ := id C
  rw [f_X10_takesPart] at hf
  refine lv_aload_n hx hb dX10_takesPart_0 rfl (lv_at hl 0 rfl) ?_
  obtain ⟨hT1, hf⟩ := gt_inv hf
  refine r_getI C hw cf10 13 (by decide) rfl hT1 fl_X10_211 dX10_takesPart_1 ?_
  refine lv_iconst (v := 1) hx hb dX10_takesPart_4 (by decide) ?_
  refine lv_icmp_ne (tgt := 36) hx hb dX10_takesPart_5 (by decide) (fun hc => ?_) (fun hc => ?_)
  · have hf := if_n hc hf
    refine lv_iconst (v := 0) hx hb dX10_takesPart_36 (by decide) ?_
    exact t_X10_takesPart_37 C M x0 0 _ _ _ hf hw (lv_sub hl [0] rfl)
  · have hf := if_p hc hf
    refine lv_aload_n hx hb dX10_takesPart_8 rfl (lv_at hl 0 rfl) ?_
    refine r_getI C hw cf10 11 (by decide) rfl hT1 fl_X10_202 dX10_takesPart_9 ?_
    refine lv_aload_n hx hb dX10_takesPart_12 rfl (lv_at hl 0 rfl) ?_
    refine r_getI C hw cf10 12 (by decide) rfl hT1 fl_X10_205 dX10_takesPart_13 ?_
    refine lv_isub hx hb dX10_takesPart_16 ?_
    refine lv_iconst (v := 1) hx hb dX10_takesPart_17 (by decide) ?_
    refine lv_icmp_ne (tgt := 36) hx hb dX10_takesPart_18 (by decide) (fun hc => ?_) (fun hc => ?_)
    · have hf := if_n hc hf
      refine lv_iconst (v := 0) hx hb dX10_takesPart_36 (by decide) ?_
      exact t_X10_takesPart_37 C M x0 0 _ _ _ hf hw (lv_sub hl [0] rfl)
    · have hf := if_p hc hf
      refine lv_aload_n hx hb dX10_takesPart_21 rfl (lv_at hl 0 rfl) ?_
      refine lv_aload_n hx hb dX10_takesPart_22 rfl (lv_at hl 0 rfl) ?_
      refine r_getI C hw cf10 14 (by decide) rfl hT1 fl_X10_217 dX10_takesPart_23 ?_
      obtain ⟨r3, M2, hc4, hf⟩ := cl_inv hf
      refine fin_I (run_V C hw mf_X10_nameOf mv_X10_nameOf ml_X10_238 cf10 hT1 (c_X10_nameOf l G A ad hc4) (As := [.int (mI M x0 14)]) (rest := []) hl.1 rfl rfl (Nat.le_of_ble_eq_true rfl) ⟨rfl, rfl, Nat.le_of_ble_eq_true rfl, Nat.le_of_ble_eq_true rfl⟩ ⟨Nat.zero_le _, Nat.zero_le _⟩ dX10_takesPart_26) hw (fun H locs hw => ?_)
      refine lv_if_lt (tgt := 36) hx hb dX10_takesPart_29 (by decide) (fun hc => ?_) (fun hc => ?_)
      · have hf := if_p hc hf
        refine lv_iconst (v := 0) hx hb dX10_takesPart_36 (by decide) ?_
        exact t_X10_takesPart_37 C M2 x0 0 _ _ _ hf hw (lv_sub hl [0] rfl)
      · have hf := if_n hc hf
        refine lv_iconst (v := 1) hx hb dX10_takesPart_32 (by decide) ?_
        refine lv_goto (tgt := 37) hx hb dX10_takesPart_33 (by decide) ?_
        exact t_X10_takesPart_37 C M2 x0 1 _ _ _ hf hw (lv_sub hl [0] rfl)
/-! StorkVoteModel.notsOpen()I -/
abbrev rm_X10_notsOpen : Room := { frames := 0, cells := 0, slots := 0, locals := 0 }
def f_X10_notsOpen_4 : Nat → Mem → Nat → Int32 → Int32 → Option (Int32 × Mem)
  | 0, _, _, _, _ => none
  | n + 1, M, x0, x1, x2 => gt (mT M x0) 11 ((if (mI M x0 23) ≤ x2 then some (x1, M) else lp (mP M x0 22) (fun a2 => gt (mT M a2) 20 (gd (ib x2 (mL M a2)) ((if (mI M a2 x2.toNatClampNeg) = (-10) then f_X10_notsOpen_4 n M x0 (x1 + 1) (x2 + 1) else f_X10_notsOpen_4 n M x0 (x1 + 0) (x2 + 1)))))))
set_option maxHeartbeats 4000000 in
set_option maxRecDepth 100000 in
theorem t_X10_notsOpen_4 {l : Launch} {p : Program} {e : Env} {s : State} {m : MethodId} {args : Array Value} {below : List Frame} {meth : Method} {c : Code} {G : Gd} {A : Nat → Prop} {ad : Nat → Nat} (C : Cx G A p s m args meth c RX10 cX10_notsOpen 3 (some .int)) {r : Int32} {M' : Mem} : ∀ (n : Nat) (M : Mem) (x0 : Nat) (x1 : Int32) (x2 : Int32) (H : Heap) (locs : List Loc) (ls : Array Slot), f_X10_notsOpen_4  n M x0 x1 x2 = some (r, M') → Wd G A ad s.heap M H locs → lv_has ls 3 [(0, .ref (ad x0)), (1, .int x1), (2, .int x2)] → W p l e rm_X10_notsOpen s m args below meth c H locs 0 0 (MQ below (QI G A ad r M') args s 0 0 A) (F0 m 4 ls []) := by
  obtain ⟨hx, hb, -⟩ := id C
  intro n
  induction n with
  | zero =>
    intro M x0 x1 x2 H locs ls hf
    rw [f_X10_notsOpen_4] at hf
    exact absurd hf (fun h => nomatch h)
  | succ n ih =>
    intro M x0 x1 x2 H locs ls hf hw hl
    rw [f_X10_notsOpen_4] at hf
    refine lv_iload_n hx hb dX10_notsOpen_4 rfl (lv_at hl 2 rfl) ?_
    refine lv_aload_n hx hb dX10_notsOpen_5 rfl (lv_at hl 0 rfl) ?_
    obtain ⟨hT1, hf⟩ := gt_inv hf
    refine r_getI C hw cf10 23 (by decide) rfl hT1 fl_X10_229 dX10_notsOpen_6 ?_
    refine lv_icmp_ge (tgt := 37) hx hb dX10_notsOpen_9 (by decide) (fun hc => ?_) (fun hc => ?_)
    · have hf := if_p hc hf
      refine lv_iload_n hx hb dX10_notsOpen_37 rfl (lv_at hl 1 rfl) ?_
      exact e_iret C hw hf dX10_notsOpen_38
    · have hf := if_n hc hf
      refine lv_iload_n hx hb dX10_notsOpen_12 rfl (lv_at hl 1 rfl) ?_
      refine lv_aload_n hx hb dX10_notsOpen_13 rfl (lv_at hl 0 rfl) ?_
      obtain ⟨a2, hP3, hf⟩ := lp_inv hf
      refine r_getP C hw cf10 22 (by decide) rfl hT1 hP3 fl_X10_49 dX10_notsOpen_14 ?_
      refine lv_iload_n hx hb dX10_notsOpen_17 rfl (lv_at hl 2 rfl) ?_
      obtain ⟨hT4, hf⟩ := gt_inv hf
      obtain ⟨hg5, hf⟩ := gd_inv hf
      refine r_iald C hw hT4 hg5 dX10_notsOpen_18 ?_
      refine lv_bipush (v := (-10)) hx hb dX10_notsOpen_19 (by decide) ?_
      refine lv_icmp_ne (tgt := 28) hx hb dX10_notsOpen_21 (by decide) (fun hc => ?_) (fun hc => ?_)
      · have hf := if_n hc hf
        refine lv_iconst (v := 0) hx hb dX10_notsOpen_28 (by decide) ?_
        refine lv_iadd hx hb dX10_notsOpen_29 ?_
        refine lv_istore_n (lv' := [(1, .int (x1 + 0)), (0, .ref (ad x0)), (2, .int x2)]) hx hb dX10_notsOpen_30 rfl hl (by decide) rfl (fun ls hl => ?_)
        refine lv_iinc (v := (x2 + 1)) (lv' := [(2, .int (x2 + 1)), (1, .int (x1 + 0)), (0, .ref (ad x0))]) hx hb dX10_notsOpen_31 hl (k := 2) rfl rfl (by decide) rfl (fun ls hl => ?_)
        refine lv_goto (tgt := 4) hx hb dX10_notsOpen_34 (by decide) ?_
        exact ih M x0 (x1 + 0) (x2 + 1) _ _ _ hf hw (lv_sub hl [2, 1, 0] rfl)
      · have hf := if_p hc hf
        refine lv_iconst (v := 1) hx hb dX10_notsOpen_24 (by decide) ?_
        refine lv_goto (tgt := 29) hx hb dX10_notsOpen_25 (by decide) ?_
        refine lv_iadd hx hb dX10_notsOpen_29 ?_
        refine lv_istore_n (lv' := [(1, .int (x1 + 1)), (0, .ref (ad x0)), (2, .int x2)]) hx hb dX10_notsOpen_30 rfl hl (by decide) rfl (fun ls hl => ?_)
        refine lv_iinc (v := (x2 + 1)) (lv' := [(2, .int (x2 + 1)), (1, .int (x1 + 1)), (0, .ref (ad x0))]) hx hb dX10_notsOpen_31 hl (k := 2) rfl rfl (by decide) rfl (fun ls hl => ?_)
        refine lv_goto (tgt := 4) hx hb dX10_notsOpen_34 (by decide) ?_
        exact ih M x0 (x1 + 1) (x2 + 1) _ _ _ hf hw (lv_sub hl [2, 1, 0] rfl)
def f_X10_notsOpen (M : Mem) (x0 : Nat) : Option (Int32 × Mem) := f_X10_notsOpen_4 FU M x0 0 0
set_option maxHeartbeats 4000000 in
set_option maxRecDepth 100000 in
theorem c_X10_notsOpen (l : Launch) (G : Gd) (A : Nat → Prop) (ad : Nat → Nat) {M : Mem} {x0 : Nat}  {r : Int32} {M' : Mem} (hf : f_X10_notsOpen M x0 = some (r, M')) : Ct l yX10_notsOpen cX10_notsOpen 3 (some .int) rm_X10_notsOpen [.ref (ad x0)] G A ad M (QI G A ad r M') 0 0 := by
  refine ct_start (by decide) (Nat.le_of_ble_eq_true rfl) ?_
  intro p e s m args below meth c ls C hin hw hl
  have C : Cx G A p s m args meth c RX10 cX10_notsOpen 3 (some .int) := C
  have hl : lv_has ls 3 [(0, .ref (ad x0))] := hl
  obtain ⟨hx, hb, -⟩ := id C
  rw [f_X10_notsOpen] at hf
  refine lv_iconst (v := 0) hx hb dX10_notsOpen_0 (by decide) ?_
  refine lv_istore_n (lv' := [(1, .int 0), (0, .ref (ad x0))]) hx hb dX10_notsOpen_1 rfl hl (by decide) rfl (fun ls hl => ?_)
  refine lv_iconst (v := 0) hx hb dX10_notsOpen_2 (by decide) ?_
  refine lv_istore_n (lv' := [(2, .int 0), (1, .int 0), (0, .ref (ad x0))]) hx hb dX10_notsOpen_3 rfl hl (by decide) rfl (fun ls hl => ?_)
  exact t_X10_notsOpen_4 C FU M x0 0 0 _ _ _ hf hw (lv_sub hl [2, 1, 0] rfl)
/-! StorkVoteModel.takesE()Z -/
abbrev rm_X10_takesE : Room := { frames := 3, cells := 0, slots := 0, locals := 63 }
def f_X10_takesE_305 (K28 : Mem → Nat → Int32 → Int32 → Int32 → Option (Int32 × Mem)) (M : Mem) (x0 : Nat) (x1 : Int32) (x2 : Int32) (x4 : Int32) (s0 : Nat) (s1 : Int32) (s2 : Int32) : Option (Int32 × Mem) := gt (mT M s0) 21 (gd (ib s1 (mL M s0)) (gd (isB s2) (st (setI M s0 s1.toNatClampNeg s2) (fun M4 => cl (f_X10_rank M4 x4) (fun r8 M7 => gt (mT M7 x0) 11 (cl (f_X10_settle M7 x0 r8) (fun _ M10 => gt (mT M10 x0) 11 (lp (mP M10 x0 22) (fun a15 => gt (mT M10 a15) 20 (gd (ib (mI M10 x0 23) (mL M10 a15)) (st (setI M10 a15 (mI M10 x0 23).toNatClampNeg x4) (fun M19 => st (setI M19 x0 23 ((mI M19 x0 23) + 1)) (fun M22 => cl (f_X10_go M22 x0) (fun _ M25 => K28 M25 x0 x1 x2 1))))))))))))))
set_option maxHeartbeats 4000000 in
set_option maxRecDepth 100000 in
theorem t_X10_takesE_305 {l : Launch} {p : Program} {e : Env} {s : State} {m : MethodId} {args : Array Value} {below : List Frame} {meth : Method} {c : Code} {G : Gd} {A : Nat → Prop} {ad : Nat → Nat} (C : Cx G A p s m args meth c RX10 cX10_takesE 5 (some .boolean)) {r : Int32} {M' : Mem} {K28 : Mem → Nat → Int32 → Int32 → Int32 → Option (Int32 × Mem)} (hK28 : ∀ (M : Mem) (x0 : Nat) (x1 : Int32) (x2 : Int32) (x3 : Int32) (H : Heap) (locs : List Loc) (ls : Array Slot), K28 M x0 x1 x2 x3 = some (r, M') → Wd G A ad s.heap M H locs → lv_has ls 5 [(0, .ref (ad x0)), (1, .int x1), (2, .int x2), (3, .int x3)] → W p l e rm_X10_takesE s m args below meth c H locs 0 0 (MQ below (QI G A ad r M') args s 0 0 A) (F0 m 28 ls [])) : ∀ (M : Mem) (x0 : Nat) (x1 : Int32) (x2 : Int32) (x4 : Int32) (s0 : Nat) (s1 : Int32) (s2 : Int32) (H : Heap) (locs : List Loc) (ls : Array Slot), f_X10_takesE_305 K28 M x0 x1 x2 x4 s0 s1 s2 = some (r, M') → Wd G A ad s.heap M H locs → lv_has ls 5 [(0, .ref (ad x0)), (1, .int x1), (2, .int x2), (4, .int x4)] → W p l e rm_X10_takesE s m args below meth c H locs 0 0 (MQ below (QI G A ad r M') args s 0 0 A) (F0 m 305 ls [.int s2, .int s1, .ref (ad s0)]) := by
  obtain ⟨hx, hb, -⟩ := id C
  intro M x0 x1 x2 x4 s0 s1 s2 H locs ls hf hw hl
  rw [f_X10_takesE_305] at hf
  obtain ⟨hT1, hf⟩ := gt_inv hf
  obtain ⟨hg2, hf⟩ := gd_inv hf
  obtain ⟨hg3, hf⟩ := gd_inv hf
  obtain ⟨M4, e5, hf⟩ := st_inv hf
  have g6 := sg_I e5
  refine r_zast C hw hT1 hg2 hg3 e5 dX10_takesE_305 (fun H locs hw => ?_)
  refine lv_aload_n hx hb dX10_takesE_306 rfl (lv_at hl 0 rfl) ?_
  refine lv_iload hx hb dX10_takesE_307 (lv_at hl 3 rfl) ?_
  obtain ⟨r8, M7, hc9, hf⟩ := cl_inv hf
  refine fin_I (run_S C hw mf_X10_rank ms_X10_rank ml_X10_232 (c_X10_rank l G A ad hc9) (As := [.int x4]) (rest := [.ref (ad x0)]) hl.1 rfl rfl (Nat.le_of_ble_eq_true rfl) ⟨rfl, rfl, Nat.le_of_ble_eq_true rfl, Nat.le_of_ble_eq_true rfl⟩ ⟨Nat.zero_le _, Nat.zero_le _⟩ dX10_takesE_309) hw (fun H locs hw => ?_)
  obtain ⟨hT13, hf⟩ := gt_inv hf
  obtain ⟨⟨⟩, M10, hc12, hf⟩ := cl_inv hf
  refine fin_V (run_V C hw mf_X10_settle mv_X10_settle ml_X10_244 cf10 hT13 (c_X10_settle l G A ad hc12) (As := [.int r8]) (rest := []) hl.1 rfl rfl (Nat.le_of_ble_eq_true rfl) ⟨rfl, rfl, Nat.le_of_ble_eq_true rfl, Nat.le_of_ble_eq_true rfl⟩ ⟨Nat.zero_le _, Nat.zero_le _⟩ dX10_takesE_312) hw (fun H locs hw => ?_)
  refine lv_aload_n hx hb dX10_takesE_315 rfl (lv_at hl 0 rfl) ?_
  obtain ⟨hT14, hf⟩ := gt_inv hf
  obtain ⟨a15, hP16, hf⟩ := lp_inv hf
  refine r_getP C hw cf10 22 (by decide) rfl hT14 hP16 fl_X10_49 dX10_takesE_316 ?_
  refine lv_aload_n hx hb dX10_takesE_319 rfl (lv_at hl 0 rfl) ?_
  refine r_getI C hw cf10 23 (by decide) rfl hT14 fl_X10_229 dX10_takesE_320 ?_
  refine lv_iload hx hb dX10_takesE_323 (lv_at hl 3 rfl) ?_
  obtain ⟨hT17, hf⟩ := gt_inv hf
  obtain ⟨hg18, hf⟩ := gd_inv hf
  obtain ⟨M19, e20, hf⟩ := st_inv hf
  have g21 := sg_I e20
  refine r_iast C hw hT17 hg18 e20 dX10_takesE_325 (fun H locs hw => ?_)
  refine lv_aload_n hx hb dX10_takesE_326 rfl (lv_at hl 0 rfl) ?_
  refine lv_dup hx hb dX10_takesE_327 rfl ?_
  refine r_getI C hw cf10 23 (by decide) rfl (T_of g21 hT14) fl_X10_229 dX10_takesE_328 ?_
  refine lv_iconst (v := 1) hx hb dX10_takesE_331 (by decide) ?_
  refine lv_iadd hx hb dX10_takesE_332 ?_
  obtain ⟨M22, e23, hf⟩ := st_inv hf
  have g24 := sg_I e23
  refine r_putI C hw cf10 23 (by decide) rfl (T_of g21 hT14) e23 fl_X10_229 rfl rfl rfl dX10_takesE_333 (fun H locs hw => ?_)
  refine lv_iconst (v := 1) hx hb dX10_takesE_336 (by decide) ?_
  refine lv_istore_n (lv' := [(3, .int 1), (0, .ref (ad x0)), (1, .int x1), (2, .int x2), (4, .int x4)]) hx hb dX10_takesE_337 rfl hl (by decide) rfl (fun ls hl => ?_)
  refine lv_aload_n hx hb dX10_takesE_338 rfl (lv_at hl 1 rfl) ?_
  obtain ⟨⟨⟩, M25, hc27, hf⟩ := cl_inv hf
  refine fin_V (run_V C hw mf_X10_go mv_X10_go ml_X10_226 cf10 (T_of g24 (T_of g21 hT14)) (c_X10_go l G A ad hc27) (As := []) (rest := []) hl.1 rfl rfl (Nat.le_of_ble_eq_true rfl) ⟨rfl, rfl, Nat.le_of_ble_eq_true rfl, Nat.le_of_ble_eq_true rfl⟩ ⟨Nat.zero_le _, Nat.zero_le _⟩ dX10_takesE_339) hw (fun H locs hw => ?_)
  refine lv_goto (tgt := 28) hx hb dX10_takesE_342 (by decide) ?_
  exact hK28 M25 x0 x1 x2 1 _ _ _ hf hw (lv_sub hl [1, 2, 3, 0] rfl)
def f_X10_takesE_268 (K28 : Mem → Nat → Int32 → Int32 → Int32 → Option (Int32 × Mem)) (M : Mem) (x0 : Nat) (x1 : Int32) (x2 : Int32) (x4 : Int32) : Option (Int32 × Mem) := gt (mT M x0) 11 (lp (mP M x0 24) (fun a2 => cl (f_X10_rank M x4) (fun r5 M4 => (if r5 = 3 then f_X10_takesE_305 K28 M4 x0 x1 x2 x4 a2 x1 1 else cl (f_X10_rank M4 x4) (fun r8 M7 => (if r8 ≤ 3 then f_X10_takesE_305 K28 M7 x0 x1 x2 x4 a2 x1 0 else gt (mT M7 x0) 11 (lp (mP M7 x0 24) (fun a11 => gt (mT M7 a11) 21 (gd (ib x1 (mL M7 a11)) ((if (mI M7 a11 x1.toNatClampNeg) = 0 then f_X10_takesE_305 K28 M7 x0 x1 x2 x4 a2 x1 0 else f_X10_takesE_305 K28 M7 x0 x1 x2 x4 a2 x1 1)))))))))))
set_option maxHeartbeats 4000000 in
set_option maxRecDepth 100000 in
theorem t_X10_takesE_268 {l : Launch} {p : Program} {e : Env} {s : State} {m : MethodId} {args : Array Value} {below : List Frame} {meth : Method} {c : Code} {G : Gd} {A : Nat → Prop} {ad : Nat → Nat} (C : Cx G A p s m args meth c RX10 cX10_takesE 5 (some .boolean)) {r : Int32} {M' : Mem} {K28 : Mem → Nat → Int32 → Int32 → Int32 → Option (Int32 × Mem)} (hK28 : ∀ (M : Mem) (x0 : Nat) (x1 : Int32) (x2 : Int32) (x3 : Int32) (H : Heap) (locs : List Loc) (ls : Array Slot), K28 M x0 x1 x2 x3 = some (r, M') → Wd G A ad s.heap M H locs → lv_has ls 5 [(0, .ref (ad x0)), (1, .int x1), (2, .int x2), (3, .int x3)] → W p l e rm_X10_takesE s m args below meth c H locs 0 0 (MQ below (QI G A ad r M') args s 0 0 A) (F0 m 28 ls [])) : ∀ (M : Mem) (x0 : Nat) (x1 : Int32) (x2 : Int32) (x4 : Int32) (H : Heap) (locs : List Loc) (ls : Array Slot), f_X10_takesE_268 K28 M x0 x1 x2 x4 = some (r, M') → Wd G A ad s.heap M H locs → lv_has ls 5 [(0, .ref (ad x0)), (1, .int x1), (2, .int x2), (4, .int x4)] → W p l e rm_X10_takesE s m args below meth c H locs 0 0 (MQ below (QI G A ad r M') args s 0 0 A) (F0 m 268 ls []) := by
  obtain ⟨hx, hb, -⟩ := id C
  intro M x0 x1 x2 x4 H locs ls hf hw hl
  rw [f_X10_takesE_268] at hf
  refine lv_aload_n hx hb dX10_takesE_268 rfl (lv_at hl 0 rfl) ?_
  obtain ⟨hT1, hf⟩ := gt_inv hf
  obtain ⟨a2, hP3, hf⟩ := lp_inv hf
  refine r_getP C hw cf10 24 (by decide) rfl hT1 hP3 fl_X10_52 dX10_takesE_269 ?_
  refine lv_iload_n hx hb dX10_takesE_272 rfl (lv_at hl 1 rfl) ?_
  refine lv_iload hx hb dX10_takesE_273 (lv_at hl 3 rfl) ?_
  obtain ⟨r5, M4, hc6, hf⟩ := cl_inv hf
  refine fin_I (run_S C hw mf_X10_rank ms_X10_rank ml_X10_232 (c_X10_rank l G A ad hc6) (As := [.int x4]) (rest := [.int x1, .ref (ad a2)]) hl.1 rfl rfl (Nat.le_of_ble_eq_true rfl) ⟨rfl, rfl, Nat.le_of_ble_eq_true rfl, Nat.le_of_ble_eq_true rfl⟩ ⟨Nat.zero_le _, Nat.zero_le _⟩ dX10_takesE_275) hw (fun H locs hw => ?_)
  refine lv_iconst (v := 3) hx hb dX10_takesE_278 (by decide) ?_
  refine lv_icmp_eq (tgt := 300) hx hb dX10_takesE_279 (by decide) (fun hc => ?_) (fun hc => ?_)
  · have hf := if_p hc hf
    refine lv_iconst (v := 1) hx hb dX10_takesE_300 (by decide) ?_
    refine lv_goto (tgt := 305) hx hb dX10_takesE_301 (by decide) ?_
    exact t_X10_takesE_305 C hK28 M4 x0 x1 x2 x4 a2 x1 1 _ _ _ hf hw (lv_sub hl [0, 1, 2, 3] rfl)
  · have hf := if_n hc hf
    refine lv_iload hx hb dX10_takesE_282 (lv_at hl 3 rfl) ?_
    obtain ⟨r8, M7, hc9, hf⟩ := cl_inv hf
    refine fin_I (run_S C hw mf_X10_rank ms_X10_rank ml_X10_232 (c_X10_rank l G A ad hc9) (As := [.int x4]) (rest := [.int x1, .ref (ad a2)]) hl.1 rfl rfl (Nat.le_of_ble_eq_true rfl) ⟨rfl, rfl, Nat.le_of_ble_eq_true rfl, Nat.le_of_ble_eq_true rfl⟩ ⟨Nat.zero_le _, Nat.zero_le _⟩ dX10_takesE_284) hw (fun H locs hw => ?_)
    refine lv_iconst (v := 3) hx hb dX10_takesE_287 (by decide) ?_
    refine lv_icmp_le (tgt := 304) hx hb dX10_takesE_288 (by decide) (fun hc => ?_) (fun hc => ?_)
    · have hf := if_p hc hf
      refine lv_iconst (v := 0) hx hb dX10_takesE_304 (by decide) ?_
      exact t_X10_takesE_305 C hK28 M7 x0 x1 x2 x4 a2 x1 0 _ _ _ hf hw (lv_sub hl [0, 1, 2, 3] rfl)
    · have hf := if_n hc hf
      refine lv_aload_n hx hb dX10_takesE_291 rfl (lv_at hl 0 rfl) ?_
      obtain ⟨hT10, hf⟩ := gt_inv hf
      obtain ⟨a11, hP12, hf⟩ := lp_inv hf
      refine r_getP C hw cf10 24 (by decide) rfl hT10 hP12 fl_X10_52 dX10_takesE_292 ?_
      refine lv_iload_n hx hb dX10_takesE_295 rfl (lv_at hl 1 rfl) ?_
      obtain ⟨hT13, hf⟩ := gt_inv hf
      obtain ⟨hg14, hf⟩ := gd_inv hf
      refine r_zald C hw hT13 hg14 dX10_takesE_296 ?_
      refine lv_if_eq (tgt := 304) hx hb dX10_takesE_297 (by decide) (fun hc => ?_) (fun hc => ?_)
      · have hf := if_p hc hf
        refine lv_iconst (v := 0) hx hb dX10_takesE_304 (by decide) ?_
        exact t_X10_takesE_305 C hK28 M7 x0 x1 x2 x4 a2 x1 0 _ _ _ hf hw (lv_sub hl [0, 1, 2, 3] rfl)
      · have hf := if_n hc hf
        refine lv_iconst (v := 1) hx hb dX10_takesE_300 (by decide) ?_
        refine lv_goto (tgt := 305) hx hb dX10_takesE_301 (by decide) ?_
        exact t_X10_takesE_305 C hK28 M7 x0 x1 x2 x4 a2 x1 1 _ _ _ hf hw (lv_sub hl [0, 1, 2, 3] rfl)
def f_X10_takesE_237 (K28 : Mem → Nat → Int32 → Int32 → Int32 → Option (Int32 × Mem)) (M : Mem) (x0 : Nat) (x1 : Int32) (x2 : Int32) : Option (Int32 × Mem) := gt (mT M x0) 11 (cl (f_X10_signHere M x0) (fun r2 M1 => (if r2 = 0 then some (0, M1) else cl (f_X10_rank M1 r2) (fun r6 M5 => (if r6 = 3 then gt (mT M5 x0) 11 (lp (mP M5 x0 24) (fun a9 => gt (mT M5 a9) 21 (gd (ib x1 (mL M5 a9)) ((if (mI M5 a9 x1.toNatClampNeg) = 0 then f_X10_takesE_268 K28 M5 x0 x1 x2 r2 else some (0, M5)))))) else f_X10_takesE_268 K28 M5 x0 x1 x2 r2)))))
set_option maxHeartbeats 4000000 in
set_option maxRecDepth 100000 in
theorem t_X10_takesE_237 {l : Launch} {p : Program} {e : Env} {s : State} {m : MethodId} {args : Array Value} {below : List Frame} {meth : Method} {c : Code} {G : Gd} {A : Nat → Prop} {ad : Nat → Nat} (C : Cx G A p s m args meth c RX10 cX10_takesE 5 (some .boolean)) {r : Int32} {M' : Mem} {K28 : Mem → Nat → Int32 → Int32 → Int32 → Option (Int32 × Mem)} (hK28 : ∀ (M : Mem) (x0 : Nat) (x1 : Int32) (x2 : Int32) (x3 : Int32) (H : Heap) (locs : List Loc) (ls : Array Slot), K28 M x0 x1 x2 x3 = some (r, M') → Wd G A ad s.heap M H locs → lv_has ls 5 [(0, .ref (ad x0)), (1, .int x1), (2, .int x2), (3, .int x3)] → W p l e rm_X10_takesE s m args below meth c H locs 0 0 (MQ below (QI G A ad r M') args s 0 0 A) (F0 m 28 ls [])) : ∀ (M : Mem) (x0 : Nat) (x1 : Int32) (x2 : Int32) (H : Heap) (locs : List Loc) (ls : Array Slot), f_X10_takesE_237 K28 M x0 x1 x2 = some (r, M') → Wd G A ad s.heap M H locs → lv_has ls 5 [(0, .ref (ad x0)), (1, .int x1), (2, .int x2)] → W p l e rm_X10_takesE s m args below meth c H locs 0 0 (MQ below (QI G A ad r M') args s 0 0 A) (F0 m 237 ls []) := by
  obtain ⟨hx, hb, -⟩ := id C
  intro M x0 x1 x2 H locs ls hf hw hl
  rw [f_X10_takesE_237] at hf
  refine lv_aload_n hx hb dX10_takesE_237 rfl (lv_at hl 0 rfl) ?_
  obtain ⟨hT4, hf⟩ := gt_inv hf
  obtain ⟨r2, M1, hc3, hf⟩ := cl_inv hf
  refine fin_I (run_V C hw mf_X10_signHere mv_X10_signHere ml_X10_254 cf10 hT4 (c_X10_signHere l G A ad hc3) (As := []) (rest := []) hl.1 rfl rfl (Nat.le_of_ble_eq_true rfl) ⟨rfl, rfl, Nat.le_of_ble_eq_true rfl, Nat.le_of_ble_eq_true rfl⟩ ⟨Nat.zero_le _, Nat.zero_le _⟩ dX10_takesE_238) hw (fun H locs hw => ?_)
  refine lv_istore (lv' := [(4, .int r2), (0, .ref (ad x0)), (1, .int x1), (2, .int x2)]) hx hb dX10_takesE_241 hl (by decide) rfl (fun ls hl => ?_)
  refine lv_iload hx hb dX10_takesE_243 (lv_at hl 0 rfl) ?_
  refine lv_if_eq (tgt := 266) hx hb dX10_takesE_245 (by decide) (fun hc => ?_) (fun hc => ?_)
  · have hf := if_p hc hf
    refine lv_iconst (v := 0) hx hb dX10_takesE_266 (by decide) ?_
    exact e_zret C hw rfl hf dX10_takesE_267
  · have hf := if_n hc hf
    refine lv_iload hx hb dX10_takesE_248 (lv_at hl 0 rfl) ?_
    obtain ⟨r6, M5, hc7, hf⟩ := cl_inv hf
    refine fin_I (run_S C hw mf_X10_rank ms_X10_rank ml_X10_232 (c_X10_rank l G A ad hc7) (As := [.int r2]) (rest := []) hl.1 rfl rfl (Nat.le_of_ble_eq_true rfl) ⟨rfl, rfl, Nat.le_of_ble_eq_true rfl, Nat.le_of_ble_eq_true rfl⟩ ⟨Nat.zero_le _, Nat.zero_le _⟩ dX10_takesE_250) hw (fun H locs hw => ?_)
    refine lv_iconst (v := 3) hx hb dX10_takesE_253 (by decide) ?_
    refine lv_icmp_ne (tgt := 268) hx hb dX10_takesE_254 (by decide) (fun hc => ?_) (fun hc => ?_)
    · have hf := if_n hc hf
      exact t_X10_takesE_268 C hK28 M5 x0 x1 x2 r2 _ _ _ hf hw (lv_sub hl [1, 2, 3, 0] rfl)
    · have hf := if_p hc hf
      refine lv_aload_n hx hb dX10_takesE_257 rfl (lv_at hl 1 rfl) ?_
      obtain ⟨hT8, hf⟩ := gt_inv hf
      obtain ⟨a9, hP10, hf⟩ := lp_inv hf
      refine r_getP C hw cf10 24 (by decide) rfl hT8 hP10 fl_X10_52 dX10_takesE_258 ?_
      refine lv_iload_n hx hb dX10_takesE_261 rfl (lv_at hl 2 rfl) ?_
      obtain ⟨hT11, hf⟩ := gt_inv hf
      obtain ⟨hg12, hf⟩ := gd_inv hf
      refine r_zald C hw hT11 hg12 dX10_takesE_262 ?_
      refine lv_if_eq (tgt := 268) hx hb dX10_takesE_263 (by decide) (fun hc => ?_) (fun hc => ?_)
      · have hf := if_p hc hf
        exact t_X10_takesE_268 C hK28 M5 x0 x1 x2 r2 _ _ _ hf hw (lv_sub hl [1, 2, 3, 0] rfl)
      · have hf := if_n hc hf
        refine lv_iconst (v := 0) hx hb dX10_takesE_266 (by decide) ?_
        exact e_zret C hw rfl hf dX10_takesE_267
def f_X10_takesE_172 (K28 : Mem → Nat → Int32 → Int32 → Int32 → Option (Int32 × Mem)) (M : Mem) (x0 : Nat) (x1 : Int32) (x3 : Int32) : Option (Int32 × Mem) := gt (mT M x0) 11 (cl (f_X10_notsOpen M x0) (fun r2 M1 => K28 M1 x0 x1 r2 x3))
set_option maxHeartbeats 4000000 in
set_option maxRecDepth 100000 in
theorem t_X10_takesE_172 {l : Launch} {p : Program} {e : Env} {s : State} {m : MethodId} {args : Array Value} {below : List Frame} {meth : Method} {c : Code} {G : Gd} {A : Nat → Prop} {ad : Nat → Nat} (C : Cx G A p s m args meth c RX10 cX10_takesE 5 (some .boolean)) {r : Int32} {M' : Mem} {K28 : Mem → Nat → Int32 → Int32 → Int32 → Option (Int32 × Mem)} (hK28 : ∀ (M : Mem) (x0 : Nat) (x1 : Int32) (x2 : Int32) (x3 : Int32) (H : Heap) (locs : List Loc) (ls : Array Slot), K28 M x0 x1 x2 x3 = some (r, M') → Wd G A ad s.heap M H locs → lv_has ls 5 [(0, .ref (ad x0)), (1, .int x1), (2, .int x2), (3, .int x3)] → W p l e rm_X10_takesE s m args below meth c H locs 0 0 (MQ below (QI G A ad r M') args s 0 0 A) (F0 m 28 ls [])) : ∀ (M : Mem) (x0 : Nat) (x1 : Int32) (x3 : Int32) (H : Heap) (locs : List Loc) (ls : Array Slot), f_X10_takesE_172 K28 M x0 x1 x3 = some (r, M') → Wd G A ad s.heap M H locs → lv_has ls 5 [(0, .ref (ad x0)), (1, .int x1), (3, .int x3)] → W p l e rm_X10_takesE s m args below meth c H locs 0 0 (MQ below (QI G A ad r M') args s 0 0 A) (F0 m 172 ls []) := by
  obtain ⟨hx, hb, -⟩ := id C
  intro M x0 x1 x3 H locs ls hf hw hl
  rw [f_X10_takesE_172] at hf
  refine lv_aload_n hx hb dX10_takesE_172 rfl (lv_at hl 0 rfl) ?_
  obtain ⟨hT4, hf⟩ := gt_inv hf
  obtain ⟨r2, M1, hc3, hf⟩ := cl_inv hf
  refine fin_I (run_V C hw mf_X10_notsOpen mv_X10_notsOpen ml_X10_251 cf10 hT4 (c_X10_notsOpen l G A ad hc3) (As := []) (rest := []) hl.1 rfl rfl (Nat.le_of_ble_eq_true rfl) ⟨rfl, rfl, Nat.le_of_ble_eq_true rfl, Nat.le_of_ble_eq_true rfl⟩ ⟨Nat.zero_le _, Nat.zero_le _⟩ dX10_takesE_173) hw (fun H locs hw => ?_)
  refine lv_istore_n (lv' := [(2, .int r2), (0, .ref (ad x0)), (1, .int x1), (3, .int x3)]) hx hb dX10_takesE_176 rfl hl (by decide) rfl (fun ls hl => ?_)
  refine lv_goto (tgt := 28) hx hb dX10_takesE_177 (by decide) ?_
  exact hK28 M1 x0 x1 r2 x3 _ _ _ hf hw (lv_sub hl [1, 2, 0, 3] rfl)
def f_X10_takesE_158 (K28 : Mem → Nat → Int32 → Int32 → Int32 → Option (Int32 × Mem)) (M : Mem) (x0 : Nat) (x1 : Int32) : Option (Int32 × Mem) := gt (mT M x0) 11 (cl (f_X10_takesPart M x0) (fun r2 M1 => (if r2 = 0 then some (0, M1) else f_X10_takesE_172 K28 M1 x0 x1 0)))
set_option maxHeartbeats 4000000 in
set_option maxRecDepth 100000 in
theorem t_X10_takesE_158 {l : Launch} {p : Program} {e : Env} {s : State} {m : MethodId} {args : Array Value} {below : List Frame} {meth : Method} {c : Code} {G : Gd} {A : Nat → Prop} {ad : Nat → Nat} (C : Cx G A p s m args meth c RX10 cX10_takesE 5 (some .boolean)) {r : Int32} {M' : Mem} {K28 : Mem → Nat → Int32 → Int32 → Int32 → Option (Int32 × Mem)} (hK28 : ∀ (M : Mem) (x0 : Nat) (x1 : Int32) (x2 : Int32) (x3 : Int32) (H : Heap) (locs : List Loc) (ls : Array Slot), K28 M x0 x1 x2 x3 = some (r, M') → Wd G A ad s.heap M H locs → lv_has ls 5 [(0, .ref (ad x0)), (1, .int x1), (2, .int x2), (3, .int x3)] → W p l e rm_X10_takesE s m args below meth c H locs 0 0 (MQ below (QI G A ad r M') args s 0 0 A) (F0 m 28 ls [])) : ∀ (M : Mem) (x0 : Nat) (x1 : Int32) (H : Heap) (locs : List Loc) (ls : Array Slot), f_X10_takesE_158 K28 M x0 x1 = some (r, M') → Wd G A ad s.heap M H locs → lv_has ls 5 [(0, .ref (ad x0)), (1, .int x1)] → W p l e rm_X10_takesE s m args below meth c H locs 0 0 (MQ below (QI G A ad r M') args s 0 0 A) (F0 m 158 ls []) := by
  obtain ⟨hx, hb, -⟩ := id C
  intro M x0 x1 H locs ls hf hw hl
  rw [f_X10_takesE_158] at hf
  refine lv_aload_n hx hb dX10_takesE_158 rfl (lv_at hl 0 rfl) ?_
  obtain ⟨hT4, hf⟩ := gt_inv hf
  obtain ⟨r2, M1, hc3, hf⟩ := cl_inv hf
  refine fin_I (run_V C hw mf_X10_takesPart mv_X10_takesPart ml_X10_247 cf10 hT4 (c_X10_takesPart l G A ad hc3) (As := []) (rest := []) hl.1 rfl rfl (Nat.le_of_ble_eq_true rfl) ⟨rfl, rfl, Nat.le_of_ble_eq_true rfl, Nat.le_of_ble_eq_true rfl⟩ ⟨Nat.zero_le _, Nat.zero_le _⟩ dX10_takesE_159) hw (fun H locs hw => ?_)
  refine lv_if_eq (tgt := 170) hx hb dX10_takesE_162 (by decide) (fun hc => ?_) (fun hc => ?_)
  · have hf := if_p hc hf
    refine lv_iconst (v := 0) hx hb dX10_takesE_170 (by decide) ?_
    exact e_zret C hw rfl hf dX10_takesE_171
  · have hf := if_n hc hf
    refine lv_iconst (v := 0) hx hb dX10_takesE_165 (by decide) ?_
    refine lv_istore_n (lv' := [(3, .int 0), (0, .ref (ad x0)), (1, .int x1)]) hx hb dX10_takesE_166 rfl hl (by decide) rfl (fun ls hl => ?_)
    refine lv_goto (tgt := 172) hx hb dX10_takesE_167 (by decide) ?_
    exact t_X10_takesE_172 C hK28 M1 x0 x1 0 _ _ _ hf hw (lv_sub hl [1, 2, 0] rfl)
def f_X10_takesE_97 (K28 : Mem → Nat → Int32 → Int32 → Int32 → Option (Int32 × Mem)) (M : Mem) (x0 : Nat) (x1 : Int32) (x3 : Int32) : Option (Int32 × Mem) := gt (mT M x0) 11 ((if (mI M x0 13) = 3 then (if (mI M x0 14) = 40 then (if 8 ≤ x1 then f_X10_takesE_158 K28 M x0 x1 else lp (mP M x0 22) (fun a2 => gt (mT M a2) 20 (gd (ib (mI M x0 23) (mL M a2)) (st (setI M a2 (mI M x0 23).toNatClampNeg (-11)) (fun M6 => st (setI M6 x0 23 ((mI M6 x0 23) + 1)) (fun M9 => lp (mP M9 x0 24) (fun a12 => gt (mT M9 a12) 21 (gd (ib (x1 + 1) (mL M9 a12)) (st (setI M9 a12 (x1 + 1).toNatClampNeg 0) (fun M16 => cl (f_X10_go M16 x0) (fun _ M19 => f_X10_takesE_172 K28 M19 x0 (x1 + 1) x3))))))))))) else f_X10_takesE_158 K28 M x0 x1) else f_X10_takesE_158 K28 M x0 x1))
set_option maxHeartbeats 4000000 in
set_option maxRecDepth 100000 in
theorem t_X10_takesE_97 {l : Launch} {p : Program} {e : Env} {s : State} {m : MethodId} {args : Array Value} {below : List Frame} {meth : Method} {c : Code} {G : Gd} {A : Nat → Prop} {ad : Nat → Nat} (C : Cx G A p s m args meth c RX10 cX10_takesE 5 (some .boolean)) {r : Int32} {M' : Mem} {K28 : Mem → Nat → Int32 → Int32 → Int32 → Option (Int32 × Mem)} (hK28 : ∀ (M : Mem) (x0 : Nat) (x1 : Int32) (x2 : Int32) (x3 : Int32) (H : Heap) (locs : List Loc) (ls : Array Slot), K28 M x0 x1 x2 x3 = some (r, M') → Wd G A ad s.heap M H locs → lv_has ls 5 [(0, .ref (ad x0)), (1, .int x1), (2, .int x2), (3, .int x3)] → W p l e rm_X10_takesE s m args below meth c H locs 0 0 (MQ below (QI G A ad r M') args s 0 0 A) (F0 m 28 ls [])) : ∀ (M : Mem) (x0 : Nat) (x1 : Int32) (x3 : Int32) (H : Heap) (locs : List Loc) (ls : Array Slot), f_X10_takesE_97 K28 M x0 x1 x3 = some (r, M') → Wd G A ad s.heap M H locs → lv_has ls 5 [(0, .ref (ad x0)), (1, .int x1), (3, .int x3)] → W p l e rm_X10_takesE s m args below meth c H locs 0 0 (MQ below (QI G A ad r M') args s 0 0 A) (F0 m 97 ls []) := by
  obtain ⟨hx, hb, -⟩ := id C
  intro M x0 x1 x3 H locs ls hf hw hl
  rw [f_X10_takesE_97] at hf
  refine lv_aload_n hx hb dX10_takesE_97 rfl (lv_at hl 0 rfl) ?_
  obtain ⟨hT1, hf⟩ := gt_inv hf
  refine r_getI C hw cf10 13 (by decide) rfl hT1 fl_X10_211 dX10_takesE_98 ?_
  refine lv_iconst (v := 3) hx hb dX10_takesE_101 (by decide) ?_
  refine lv_icmp_ne (tgt := 158) hx hb dX10_takesE_102 (by decide) (fun hc => ?_) (fun hc => ?_)
  · have hf := if_n hc hf
    exact t_X10_takesE_158 C hK28 M x0 x1 _ _ _ hf hw (lv_sub hl [0, 1] rfl)
  · have hf := if_p hc hf
    refine lv_aload_n hx hb dX10_takesE_105 rfl (lv_at hl 0 rfl) ?_
    refine r_getI C hw cf10 14 (by decide) rfl hT1 fl_X10_217 dX10_takesE_106 ?_
    refine lv_bipush (v := 40) hx hb dX10_takesE_109 (by decide) ?_
    refine lv_icmp_ne (tgt := 158) hx hb dX10_takesE_111 (by decide) (fun hc => ?_) (fun hc => ?_)
    · have hf := if_n hc hf
      exact t_X10_takesE_158 C hK28 M x0 x1 _ _ _ hf hw (lv_sub hl [0, 1] rfl)
    · have hf := if_p hc hf
      refine lv_iload_n hx hb dX10_takesE_114 rfl (lv_at hl 1 rfl) ?_
      refine lv_bipush (v := 8) hx hb dX10_takesE_115 (by decide) ?_
      refine lv_icmp_ge (tgt := 158) hx hb dX10_takesE_117 (by decide) (fun hc => ?_) (fun hc => ?_)
      · have hf := if_p hc hf
        exact t_X10_takesE_158 C hK28 M x0 x1 _ _ _ hf hw (lv_sub hl [0, 1] rfl)
      · have hf := if_n hc hf
        refine lv_aload_n hx hb dX10_takesE_120 rfl (lv_at hl 0 rfl) ?_
        obtain ⟨a2, hP3, hf⟩ := lp_inv hf
        refine r_getP C hw cf10 22 (by decide) rfl hT1 hP3 fl_X10_49 dX10_takesE_121 ?_
        refine lv_aload_n hx hb dX10_takesE_124 rfl (lv_at hl 0 rfl) ?_
        refine r_getI C hw cf10 23 (by decide) rfl hT1 fl_X10_229 dX10_takesE_125 ?_
        refine lv_bipush (v := (-11)) hx hb dX10_takesE_128 (by decide) ?_
        obtain ⟨hT4, hf⟩ := gt_inv hf
        obtain ⟨hg5, hf⟩ := gd_inv hf
        obtain ⟨M6, e7, hf⟩ := st_inv hf
        have g8 := sg_I e7
        refine r_iast C hw hT4 hg5 e7 dX10_takesE_130 (fun H locs hw => ?_)
        refine lv_aload_n hx hb dX10_takesE_131 rfl (lv_at hl 0 rfl) ?_
        refine lv_dup hx hb dX10_takesE_132 rfl ?_
        refine r_getI C hw cf10 23 (by decide) rfl (T_of g8 hT1) fl_X10_229 dX10_takesE_133 ?_
        refine lv_iconst (v := 1) hx hb dX10_takesE_136 (by decide) ?_
        refine lv_iadd hx hb dX10_takesE_137 ?_
        obtain ⟨M9, e10, hf⟩ := st_inv hf
        have g11 := sg_I e10
        refine r_putI C hw cf10 23 (by decide) rfl (T_of g8 hT1) e10 fl_X10_229 rfl rfl rfl dX10_takesE_138 (fun H locs hw => ?_)
        refine lv_iinc (v := (x1 + 1)) (lv' := [(1, .int (x1 + 1)), (0, .ref (ad x0)), (3, .int x3)]) hx hb dX10_takesE_141 hl (k := 1) rfl rfl (by decide) rfl (fun ls hl => ?_)
        refine lv_aload_n hx hb dX10_takesE_144 rfl (lv_at hl 1 rfl) ?_
        obtain ⟨a12, hP13, hf⟩ := lp_inv hf
        refine r_getP C hw cf10 24 (by decide) rfl (T_of g11 (T_of g8 hT1)) hP13 fl_X10_52 dX10_takesE_145 ?_
        refine lv_iload_n hx hb dX10_takesE_148 rfl (lv_at hl 0 rfl) ?_
        refine lv_iconst (v := 0) hx hb dX10_takesE_149 (by decide) ?_
        obtain ⟨hT14, hf⟩ := gt_inv hf
        obtain ⟨hg15, hf⟩ := gd_inv hf
        obtain ⟨M16, e17, hf⟩ := st_inv hf
        have g18 := sg_I e17
        refine r_zast C hw hT14 hg15 rfl e17 dX10_takesE_150 (fun H locs hw => ?_)
        refine lv_aload_n hx hb dX10_takesE_151 rfl (lv_at hl 1 rfl) ?_
        obtain ⟨⟨⟩, M19, hc21, hf⟩ := cl_inv hf
        refine fin_V (run_V C hw mf_X10_go mv_X10_go ml_X10_226 cf10 (T_of g18 (T_of g11 (T_of g8 hT1))) (c_X10_go l G A ad hc21) (As := []) (rest := []) hl.1 rfl rfl (Nat.le_of_ble_eq_true rfl) ⟨rfl, rfl, Nat.le_of_ble_eq_true rfl, Nat.le_of_ble_eq_true rfl⟩ ⟨Nat.zero_le _, Nat.zero_le _⟩ dX10_takesE_152) hw (fun H locs hw => ?_)
        refine lv_goto (tgt := 172) hx hb dX10_takesE_155 (by decide) ?_
        exact t_X10_takesE_172 C hK28 M19 x0 (x1 + 1) x3 _ _ _ hf hw (lv_sub hl [1, 0, 2] rfl)
def f_X10_takesE_39 (K28 : Mem → Nat → Int32 → Int32 → Int32 → Option (Int32 × Mem)) (M : Mem) (x0 : Nat) (x1 : Int32) (x2 : Int32) (x3 : Int32) : Option (Int32 × Mem) := (if x3 = 0 then gt (mT M x0) 11 ((if (mI M x0 13) = 3 then (if (mI M x0 14) = 41 then (if x1 ≤ 0 then f_X10_takesE_237 K28 M x0 x1 x2 else cl (f_X10_settle M x0 0) (fun _ M2 => gt (mT M2 x0) 11 (st (setI M2 x0 23 ((mI M2 x0 23) - 1)) (fun M6 => cl (f_X10_settle M6 x0 6) (fun _ M9 => gt (mT M9 x0) 11 (cl (f_X10_notsOpen M9 x0) (fun r13 M12 => gt (mT M12 x0) 11 (cl (f_X10_go M12 x0) (fun _ M16 => K28 M16 x0 (x1 + (-1)) r13 x3))))))))) else f_X10_takesE_237 K28 M x0 x1 x2) else f_X10_takesE_237 K28 M x0 x1 x2)) else gt (mT M x0) 11 ((if (mI M x0 13) = 3 then (if (mI M x0 14) = 33 then (if 8 ≤ x2 then f_X10_takesE_97 K28 M x0 x1 x3 else lp (mP M x0 22) (fun a21 => gt (mT M a21) 20 (gd (ib (mI M x0 23) (mL M a21)) (st (setI M a21 (mI M x0 23).toNatClampNeg (-10)) (fun M25 => st (setI M25 x0 23 ((mI M25 x0 23) + 1)) (fun M28 => cl (f_X10_go M28 x0) (fun _ M31 => f_X10_takesE_172 K28 M31 x0 x1 x3))))))) else f_X10_takesE_97 K28 M x0 x1 x3) else f_X10_takesE_97 K28 M x0 x1 x3)))
set_option maxHeartbeats 4000000 in
set_option maxRecDepth 100000 in
theorem t_X10_takesE_39 {l : Launch} {p : Program} {e : Env} {s : State} {m : MethodId} {args : Array Value} {below : List Frame} {meth : Method} {c : Code} {G : Gd} {A : Nat → Prop} {ad : Nat → Nat} (C : Cx G A p s m args meth c RX10 cX10_takesE 5 (some .boolean)) {r : Int32} {M' : Mem} {K28 : Mem → Nat → Int32 → Int32 → Int32 → Option (Int32 × Mem)} (hK28 : ∀ (M : Mem) (x0 : Nat) (x1 : Int32) (x2 : Int32) (x3 : Int32) (H : Heap) (locs : List Loc) (ls : Array Slot), K28 M x0 x1 x2 x3 = some (r, M') → Wd G A ad s.heap M H locs → lv_has ls 5 [(0, .ref (ad x0)), (1, .int x1), (2, .int x2), (3, .int x3)] → W p l e rm_X10_takesE s m args below meth c H locs 0 0 (MQ below (QI G A ad r M') args s 0 0 A) (F0 m 28 ls [])) : ∀ (M : Mem) (x0 : Nat) (x1 : Int32) (x2 : Int32) (x3 : Int32) (H : Heap) (locs : List Loc) (ls : Array Slot), f_X10_takesE_39 K28 M x0 x1 x2 x3 = some (r, M') → Wd G A ad s.heap M H locs → lv_has ls 5 [(0, .ref (ad x0)), (1, .int x1), (2, .int x2), (3, .int x3)] → W p l e rm_X10_takesE s m args below meth c H locs 0 0 (MQ below (QI G A ad r M') args s 0 0 A) (F0 m 39 ls []) := by
  obtain ⟨hx, hb, -⟩ := id C
  intro M x0 x1 x2 x3 H locs ls hf hw hl
  rw [f_X10_takesE_39] at hf
  refine lv_iload_n hx hb dX10_takesE_39 rfl (lv_at hl 3 rfl) ?_
  refine lv_if_eq (tgt := 180) hx hb dX10_takesE_40 (by decide) (fun hc => ?_) (fun hc => ?_)
  · have hf := if_p hc hf
    refine lv_aload_n hx hb dX10_takesE_180 rfl (lv_at hl 0 rfl) ?_
    obtain ⟨hT1, hf⟩ := gt_inv hf
    refine r_getI C hw cf10 13 (by decide) rfl hT1 fl_X10_211 dX10_takesE_181 ?_
    refine lv_iconst (v := 3) hx hb dX10_takesE_184 (by decide) ?_
    refine lv_icmp_ne (tgt := 237) hx hb dX10_takesE_185 (by decide) (fun hc => ?_) (fun hc => ?_)
    · have hf := if_n hc hf
      exact t_X10_takesE_237 C hK28 M x0 x1 x2 _ _ _ hf hw (lv_sub hl [0, 1, 2] rfl)
    · have hf := if_p hc hf
      refine lv_aload_n hx hb dX10_takesE_188 rfl (lv_at hl 0 rfl) ?_
      refine r_getI C hw cf10 14 (by decide) rfl hT1 fl_X10_217 dX10_takesE_189 ?_
      refine lv_bipush (v := 41) hx hb dX10_takesE_192 (by decide) ?_
      refine lv_icmp_ne (tgt := 237) hx hb dX10_takesE_194 (by decide) (fun hc => ?_) (fun hc => ?_)
      · have hf := if_n hc hf
        exact t_X10_takesE_237 C hK28 M x0 x1 x2 _ _ _ hf hw (lv_sub hl [0, 1, 2] rfl)
      · have hf := if_p hc hf
        refine lv_iload_n hx hb dX10_takesE_197 rfl (lv_at hl 1 rfl) ?_
        refine lv_if_le (tgt := 237) hx hb dX10_takesE_198 (by decide) (fun hc => ?_) (fun hc => ?_)
        · have hf := if_p hc hf
          exact t_X10_takesE_237 C hK28 M x0 x1 x2 _ _ _ hf hw (lv_sub hl [0, 1, 2] rfl)
        · have hf := if_n hc hf
          refine lv_aload_n hx hb dX10_takesE_201 rfl (lv_at hl 0 rfl) ?_
          refine lv_iconst (v := 0) hx hb dX10_takesE_202 (by decide) ?_
          obtain ⟨⟨⟩, M2, hc4, hf⟩ := cl_inv hf
          refine fin_V (run_V C hw mf_X10_settle mv_X10_settle ml_X10_244 cf10 hT1 (c_X10_settle l G A ad hc4) (As := [.int 0]) (rest := []) hl.1 rfl rfl (Nat.le_of_ble_eq_true rfl) ⟨rfl, rfl, Nat.le_of_ble_eq_true rfl, Nat.le_of_ble_eq_true rfl⟩ ⟨Nat.zero_le _, Nat.zero_le _⟩ dX10_takesE_203) hw (fun H locs hw => ?_)
          refine lv_aload_n hx hb dX10_takesE_206 rfl (lv_at hl 0 rfl) ?_
          refine lv_dup hx hb dX10_takesE_207 rfl ?_
          obtain ⟨hT5, hf⟩ := gt_inv hf
          refine r_getI C hw cf10 23 (by decide) rfl hT5 fl_X10_229 dX10_takesE_208 ?_
          refine lv_iconst (v := 1) hx hb dX10_takesE_211 (by decide) ?_
          refine lv_isub hx hb dX10_takesE_212 ?_
          obtain ⟨M6, e7, hf⟩ := st_inv hf
          have g8 := sg_I e7
          refine r_putI C hw cf10 23 (by decide) rfl hT5 e7 fl_X10_229 rfl rfl rfl dX10_takesE_213 (fun H locs hw => ?_)
          refine lv_iinc (v := (x1 + (-1))) (lv' := [(1, .int (x1 + (-1))), (0, .ref (ad x0)), (2, .int x2), (3, .int x3)]) hx hb dX10_takesE_216 hl (k := 1) rfl rfl (by decide) rfl (fun ls hl => ?_)
          refine lv_aload_n hx hb dX10_takesE_219 rfl (lv_at hl 1 rfl) ?_
          refine lv_bipush (v := 6) hx hb dX10_takesE_220 (by decide) ?_
          obtain ⟨⟨⟩, M9, hc11, hf⟩ := cl_inv hf
          refine fin_V (run_V C hw mf_X10_settle mv_X10_settle ml_X10_244 cf10 (T_of g8 hT5) (c_X10_settle l G A ad hc11) (As := [.int 6]) (rest := []) hl.1 rfl rfl (Nat.le_of_ble_eq_true rfl) ⟨rfl, rfl, Nat.le_of_ble_eq_true rfl, Nat.le_of_ble_eq_true rfl⟩ ⟨Nat.zero_le _, Nat.zero_le _⟩ dX10_takesE_222) hw (fun H locs hw => ?_)
          refine lv_aload_n hx hb dX10_takesE_225 rfl (lv_at hl 1 rfl) ?_
          obtain ⟨hT15, hf⟩ := gt_inv hf
          obtain ⟨r13, M12, hc14, hf⟩ := cl_inv hf
          refine fin_I (run_V C hw mf_X10_notsOpen mv_X10_notsOpen ml_X10_251 cf10 hT15 (c_X10_notsOpen l G A ad hc14) (As := []) (rest := []) hl.1 rfl rfl (Nat.le_of_ble_eq_true rfl) ⟨rfl, rfl, Nat.le_of_ble_eq_true rfl, Nat.le_of_ble_eq_true rfl⟩ ⟨Nat.zero_le _, Nat.zero_le _⟩ dX10_takesE_226) hw (fun H locs hw => ?_)
          refine lv_istore_n (lv' := [(2, .int r13), (1, .int (x1 + (-1))), (0, .ref (ad x0)), (3, .int x3)]) hx hb dX10_takesE_229 rfl hl (by decide) rfl (fun ls hl => ?_)
          refine lv_aload_n hx hb dX10_takesE_230 rfl (lv_at hl 2 rfl) ?_
          obtain ⟨hT19, hf⟩ := gt_inv hf
          obtain ⟨⟨⟩, M16, hc18, hf⟩ := cl_inv hf
          refine fin_V (run_V C hw mf_X10_go mv_X10_go ml_X10_226 cf10 hT19 (c_X10_go l G A ad hc18) (As := []) (rest := []) hl.1 rfl rfl (Nat.le_of_ble_eq_true rfl) ⟨rfl, rfl, Nat.le_of_ble_eq_true rfl, Nat.le_of_ble_eq_true rfl⟩ ⟨Nat.zero_le _, Nat.zero_le _⟩ dX10_takesE_231) hw (fun H locs hw => ?_)
          refine lv_goto (tgt := 28) hx hb dX10_takesE_234 (by decide) ?_
          exact hK28 M16 x0 (x1 + (-1)) r13 x3 _ _ _ hf hw (lv_sub hl [2, 1, 0, 3] rfl)
  · have hf := if_n hc hf
    refine lv_aload_n hx hb dX10_takesE_43 rfl (lv_at hl 0 rfl) ?_
    obtain ⟨hT20, hf⟩ := gt_inv hf
    refine r_getI C hw cf10 13 (by decide) rfl hT20 fl_X10_211 dX10_takesE_44 ?_
    refine lv_iconst (v := 3) hx hb dX10_takesE_47 (by decide) ?_
    refine lv_icmp_ne (tgt := 97) hx hb dX10_takesE_48 (by decide) (fun hc => ?_) (fun hc => ?_)
    · have hf := if_n hc hf
      exact t_X10_takesE_97 C hK28 M x0 x1 x3 _ _ _ hf hw (lv_sub hl [0, 1, 3] rfl)
    · have hf := if_p hc hf
      refine lv_aload_n hx hb dX10_takesE_51 rfl (lv_at hl 0 rfl) ?_
      refine r_getI C hw cf10 14 (by decide) rfl hT20 fl_X10_217 dX10_takesE_52 ?_
      refine lv_bipush (v := 33) hx hb dX10_takesE_55 (by decide) ?_
      refine lv_icmp_ne (tgt := 97) hx hb dX10_takesE_57 (by decide) (fun hc => ?_) (fun hc => ?_)
      · have hf := if_n hc hf
        exact t_X10_takesE_97 C hK28 M x0 x1 x3 _ _ _ hf hw (lv_sub hl [0, 1, 3] rfl)
      · have hf := if_p hc hf
        refine lv_iload_n hx hb dX10_takesE_60 rfl (lv_at hl 2 rfl) ?_
        refine lv_bipush (v := 8) hx hb dX10_takesE_61 (by decide) ?_
        refine lv_icmp_ge (tgt := 97) hx hb dX10_takesE_63 (by decide) (fun hc => ?_) (fun hc => ?_)
        · have hf := if_p hc hf
          exact t_X10_takesE_97 C hK28 M x0 x1 x3 _ _ _ hf hw (lv_sub hl [0, 1, 3] rfl)
        · have hf := if_n hc hf
          refine lv_aload_n hx hb dX10_takesE_66 rfl (lv_at hl 0 rfl) ?_
          obtain ⟨a21, hP22, hf⟩ := lp_inv hf
          refine r_getP C hw cf10 22 (by decide) rfl hT20 hP22 fl_X10_49 dX10_takesE_67 ?_
          refine lv_aload_n hx hb dX10_takesE_70 rfl (lv_at hl 0 rfl) ?_
          refine r_getI C hw cf10 23 (by decide) rfl hT20 fl_X10_229 dX10_takesE_71 ?_
          refine lv_bipush (v := (-10)) hx hb dX10_takesE_74 (by decide) ?_
          obtain ⟨hT23, hf⟩ := gt_inv hf
          obtain ⟨hg24, hf⟩ := gd_inv hf
          obtain ⟨M25, e26, hf⟩ := st_inv hf
          have g27 := sg_I e26
          refine r_iast C hw hT23 hg24 e26 dX10_takesE_76 (fun H locs hw => ?_)
          refine lv_aload_n hx hb dX10_takesE_77 rfl (lv_at hl 0 rfl) ?_
          refine lv_dup hx hb dX10_takesE_78 rfl ?_
          refine r_getI C hw cf10 23 (by decide) rfl (T_of g27 hT20) fl_X10_229 dX10_takesE_79 ?_
          refine lv_iconst (v := 1) hx hb dX10_takesE_82 (by decide) ?_
          refine lv_iadd hx hb dX10_takesE_83 ?_
          obtain ⟨M28, e29, hf⟩ := st_inv hf
          have g30 := sg_I e29
          refine r_putI C hw cf10 23 (by decide) rfl (T_of g27 hT20) e29 fl_X10_229 rfl rfl rfl dX10_takesE_84 (fun H locs hw => ?_)
          refine lv_iinc (v := (x2 + 1)) (lv' := [(2, .int (x2 + 1)), (0, .ref (ad x0)), (1, .int x1), (3, .int x3)]) hx hb dX10_takesE_87 hl (k := 2) rfl rfl (by decide) rfl (fun ls hl => ?_)
          refine lv_aload_n hx hb dX10_takesE_90 rfl (lv_at hl 1 rfl) ?_
          obtain ⟨⟨⟩, M31, hc33, hf⟩ := cl_inv hf
          refine fin_V (run_V C hw mf_X10_go mv_X10_go ml_X10_226 cf10 (T_of g30 (T_of g27 hT20)) (c_X10_go l G A ad hc33) (As := []) (rest := []) hl.1 rfl rfl (Nat.le_of_ble_eq_true rfl) ⟨rfl, rfl, Nat.le_of_ble_eq_true rfl, Nat.le_of_ble_eq_true rfl⟩ ⟨Nat.zero_le _, Nat.zero_le _⟩ dX10_takesE_91) hw (fun H locs hw => ?_)
          refine lv_goto (tgt := 172) hx hb dX10_takesE_94 (by decide) ?_
          exact t_X10_takesE_172 C hK28 M31 x0 x1 x3 _ _ _ hf hw (lv_sub hl [1, 2, 3] rfl)
def f_X10_takesE_28 : Nat → Mem → Nat → Int32 → Int32 → Int32 → Option (Int32 × Mem)
  | 0, _, _, _, _, _ => none
  | n + 1, M, x0, x1, x2, x3 => (if x3 = 0 then gt (mT M x0) 11 ((if (mI M x0 13) = 0 then cl (f_X10_settle M x0 0) (fun _ M2 => (if x1 = 0 then some (1, M2) else some (0, M2))) else f_X10_takesE_39 (f_X10_takesE_28 n) M x0 x1 x2 x3)) else f_X10_takesE_39 (f_X10_takesE_28 n) M x0 x1 x2 x3)
set_option maxHeartbeats 4000000 in
set_option maxRecDepth 100000 in
theorem t_X10_takesE_28 {l : Launch} {p : Program} {e : Env} {s : State} {m : MethodId} {args : Array Value} {below : List Frame} {meth : Method} {c : Code} {G : Gd} {A : Nat → Prop} {ad : Nat → Nat} (C : Cx G A p s m args meth c RX10 cX10_takesE 5 (some .boolean)) {r : Int32} {M' : Mem} : ∀ (n : Nat) (M : Mem) (x0 : Nat) (x1 : Int32) (x2 : Int32) (x3 : Int32) (H : Heap) (locs : List Loc) (ls : Array Slot), f_X10_takesE_28  n M x0 x1 x2 x3 = some (r, M') → Wd G A ad s.heap M H locs → lv_has ls 5 [(0, .ref (ad x0)), (1, .int x1), (2, .int x2), (3, .int x3)] → W p l e rm_X10_takesE s m args below meth c H locs 0 0 (MQ below (QI G A ad r M') args s 0 0 A) (F0 m 28 ls []) := by
  obtain ⟨hx, hb, -⟩ := id C
  intro n
  induction n with
  | zero =>
    intro M x0 x1 x2 x3 H locs ls hf
    rw [f_X10_takesE_28] at hf
    exact absurd hf (fun h => nomatch h)
  | succ n ih =>
    intro M x0 x1 x2 x3 H locs ls hf hw hl
    rw [f_X10_takesE_28] at hf
    refine lv_iload_n hx hb dX10_takesE_28 rfl (lv_at hl 3 rfl) ?_
    refine lv_if_ne (tgt := 39) hx hb dX10_takesE_29 (by decide) (fun hc => ?_) (fun hc => ?_)
    · have hf := if_n hc hf
      exact t_X10_takesE_39 C ih M x0 x1 x2 x3 _ _ _ hf hw (lv_sub hl [0, 1, 2, 3] rfl)
    · have hf := if_p hc hf
      refine lv_aload_n hx hb dX10_takesE_32 rfl (lv_at hl 0 rfl) ?_
      obtain ⟨hT1, hf⟩ := gt_inv hf
      refine r_getI C hw cf10 13 (by decide) rfl hT1 fl_X10_211 dX10_takesE_33 ?_
      refine lv_if_eq (tgt := 345) hx hb dX10_takesE_36 (by decide) (fun hc => ?_) (fun hc => ?_)
      · have hf := if_p hc hf
        refine lv_aload_n hx hb dX10_takesE_345 rfl (lv_at hl 0 rfl) ?_
        refine lv_iconst (v := 0) hx hb dX10_takesE_346 (by decide) ?_
        obtain ⟨⟨⟩, M2, hc4, hf⟩ := cl_inv hf
        refine fin_V (run_V C hw mf_X10_settle mv_X10_settle ml_X10_244 cf10 hT1 (c_X10_settle l G A ad hc4) (As := [.int 0]) (rest := []) hl.1 rfl rfl (Nat.le_of_ble_eq_true rfl) ⟨rfl, rfl, Nat.le_of_ble_eq_true rfl, Nat.le_of_ble_eq_true rfl⟩ ⟨Nat.zero_le _, Nat.zero_le _⟩ dX10_takesE_347) hw (fun H locs hw => ?_)
        refine lv_iload_n hx hb dX10_takesE_350 rfl (lv_at hl 1 rfl) ?_
        refine lv_if_ne (tgt := 358) hx hb dX10_takesE_351 (by decide) (fun hc => ?_) (fun hc => ?_)
        · have hf := if_n hc hf
          refine lv_iconst (v := 0) hx hb dX10_takesE_358 (by decide) ?_
          exact e_zret C hw rfl hf dX10_takesE_359
        · have hf := if_p hc hf
          refine lv_iconst (v := 1) hx hb dX10_takesE_354 (by decide) ?_
          refine lv_goto (tgt := 359) hx hb dX10_takesE_355 (by decide) ?_
          exact e_zret C hw rfl hf dX10_takesE_359
      · have hf := if_n hc hf
        exact t_X10_takesE_39 C ih M x0 x1 x2 x3 _ _ _ hf hw (lv_sub hl [0, 1, 2, 3] rfl)
def f_X10_takesE (M : Mem) (x0 : Nat) : Option (Int32 × Mem) := gt (mT M x0) 11 (st (setI M x0 20 0) (fun M2 => st (setI M2 x0 21 0) (fun M5 => st (setI M5 x0 23 0) (fun M8 => lp (mP M8 x0 24) (fun a11 => gt (mT M8 a11) 21 (gd (ib 0 (mL M8 a11)) (st (setI M8 a11 (0 : Int32).toNatClampNeg 0) (fun M15 => f_X10_takesE_28 FU M15 x0 0 0 1))))))))
set_option maxHeartbeats 4000000 in
set_option maxRecDepth 100000 in
theorem c_X10_takesE (l : Launch) (G : Gd) (A : Nat → Prop) (ad : Nat → Nat) {M : Mem} {x0 : Nat}  {r : Int32} {M' : Mem} (hf : f_X10_takesE M x0 = some (r, M')) : Ct l yX10_takesE cX10_takesE 5 (some .boolean) rm_X10_takesE [.ref (ad x0)] G A ad M (QI G A ad r M') 0 0 := by
  refine ct_start (by decide) (Nat.le_of_ble_eq_true rfl) ?_
  intro p e s m args below meth c ls C hin hw hl
  have C : Cx G A p s m args meth c RX10 cX10_takesE 5 (some .boolean) := C
  have hl : lv_has ls 5 [(0, .ref (ad x0))] := hl
  obtain ⟨hx, hb, -⟩ := id C
  rw [f_X10_takesE] at hf
  refine lv_iconst (v := 0) hx hb dX10_takesE_0 (by decide) ?_
  refine lv_istore_n (lv' := [(1, .int 0), (0, .ref (ad x0))]) hx hb dX10_takesE_1 rfl hl (by decide) rfl (fun ls hl => ?_)
  refine lv_iconst (v := 0) hx hb dX10_takesE_2 (by decide) ?_
  refine lv_istore_n (lv' := [(2, .int 0), (1, .int 0), (0, .ref (ad x0))]) hx hb dX10_takesE_3 rfl hl (by decide) rfl (fun ls hl => ?_)
  refine lv_iconst (v := 1) hx hb dX10_takesE_4 (by decide) ?_
  refine lv_istore_n (lv' := [(3, .int 1), (2, .int 0), (1, .int 0), (0, .ref (ad x0))]) hx hb dX10_takesE_5 rfl hl (by decide) rfl (fun ls hl => ?_)
  refine lv_aload_n hx hb dX10_takesE_6 rfl (lv_at hl 3 rfl) ?_
  refine lv_iconst (v := 0) hx hb dX10_takesE_7 (by decide) ?_
  obtain ⟨hT1, hf⟩ := gt_inv hf
  obtain ⟨M2, e3, hf⟩ := st_inv hf
  have g4 := sg_I e3
  refine r_putI C hw cf10 20 (by decide) rfl hT1 e3 fl_X10_235 rfl rfl rfl dX10_takesE_8 (fun H locs hw => ?_)
  refine lv_aload_n hx hb dX10_takesE_11 rfl (lv_at hl 3 rfl) ?_
  refine lv_iconst (v := 0) hx hb dX10_takesE_12 (by decide) ?_
  obtain ⟨M5, e6, hf⟩ := st_inv hf
  have g7 := sg_I e6
  refine r_putI C hw cf10 21 (by decide) rfl (T_of g4 hT1) e6 fl_X10_241 rfl rfl rfl dX10_takesE_13 (fun H locs hw => ?_)
  refine lv_aload_n hx hb dX10_takesE_16 rfl (lv_at hl 3 rfl) ?_
  refine lv_iconst (v := 0) hx hb dX10_takesE_17 (by decide) ?_
  obtain ⟨M8, e9, hf⟩ := st_inv hf
  have g10 := sg_I e9
  refine r_putI C hw cf10 23 (by decide) rfl (T_of g7 (T_of g4 hT1)) e9 fl_X10_229 rfl rfl rfl dX10_takesE_18 (fun H locs hw => ?_)
  refine lv_aload_n hx hb dX10_takesE_21 rfl (lv_at hl 3 rfl) ?_
  obtain ⟨a11, hP12, hf⟩ := lp_inv hf
  refine r_getP C hw cf10 24 (by decide) rfl (T_of g10 (T_of g7 (T_of g4 hT1))) hP12 fl_X10_52 dX10_takesE_22 ?_
  refine lv_iconst (v := 0) hx hb dX10_takesE_25 (by decide) ?_
  refine lv_iconst (v := 0) hx hb dX10_takesE_26 (by decide) ?_
  obtain ⟨hT13, hf⟩ := gt_inv hf
  obtain ⟨hg14, hf⟩ := gd_inv hf
  obtain ⟨M15, e16, hf⟩ := st_inv hf
  have g17 := sg_I e16
  refine r_zast C hw hT13 hg14 rfl e16 dX10_takesE_27 (fun H locs hw => ?_)
  exact t_X10_takesE_28 C FU M15 x0 0 0 1 _ _ _ hf hw (lv_sub hl [3, 2, 1, 0] rfl)
/-! StorkVoteModel.text()I -/
abbrev rm_X10_text : Room := { frames := 4, cells := 0, slots := 0, locals := 87 }
def f_X10_text_117 : Nat → Mem → Nat → Int32 → Int32 → Option (Int32 × Mem)
  | 0, _, _, _, _ => none
  | n + 1, M, x0, x2, x3 => gt (mT M x0) 11 ((if (mI M x0 20) ≤ x3 then lp (mP M x0 0) (fun a2 => gt (mT M a2) 20 (gd (ib 7 (mL M a2)) (gd (ib 7 (mL M a2)) (st (setI M a2 (7 : Int32).toNatClampNeg ((mI M a2 (7 : Int32).toNatClampNeg) + 1)) (fun M7 => some (x2, M7)))))) else lp (mP M x0 0) (fun a10 => lp (mP M x0 19) (fun a12 => gt (mT M a12) 20 (gd (ib x3 (mL M a12)) (gt (mT M a10) 20 (gd (ib ((98 + (96 * x2)) + x3) (mL M a10)) (st (setI M a10 ((98 + (96 * x2)) + x3).toNatClampNeg (mI M a12 x3.toNatClampNeg)) (fun M18 => f_X10_text_117 n M18 x0 x2 (x3 + 1))))))))))
set_option maxHeartbeats 4000000 in
set_option maxRecDepth 100000 in
theorem t_X10_text_117 {l : Launch} {p : Program} {e : Env} {s : State} {m : MethodId} {args : Array Value} {below : List Frame} {meth : Method} {c : Code} {G : Gd} {A : Nat → Prop} {ad : Nat → Nat} (C : Cx G A p s m args meth c RX10 cX10_text 4 (some .int)) {r : Int32} {M' : Mem} : ∀ (n : Nat) (M : Mem) (x0 : Nat) (x2 : Int32) (x3 : Int32) (H : Heap) (locs : List Loc) (ls : Array Slot), f_X10_text_117  n M x0 x2 x3 = some (r, M') → Wd G A ad s.heap M H locs → lv_has ls 4 [(0, .ref (ad x0)), (2, .int x2), (3, .int x3)] → W p l e rm_X10_text s m args below meth c H locs 0 0 (MQ below (QI G A ad r M') args s 0 0 A) (F0 m 117 ls []) := by
  obtain ⟨hx, hb, -⟩ := id C
  intro n
  induction n with
  | zero =>
    intro M x0 x2 x3 H locs ls hf
    rw [f_X10_text_117] at hf
    exact absurd hf (fun h => nomatch h)
  | succ n ih =>
    intro M x0 x2 x3 H locs ls hf hw hl
    rw [f_X10_text_117] at hf
    refine lv_iload_n hx hb dX10_text_117 rfl (lv_at hl 2 rfl) ?_
    refine lv_aload_n hx hb dX10_text_118 rfl (lv_at hl 0 rfl) ?_
    obtain ⟨hT1, hf⟩ := gt_inv hf
    refine r_getI C hw cf10 20 (by decide) rfl hT1 fl_X10_235 dX10_text_119 ?_
    refine lv_icmp_ge (tgt := 151) hx hb dX10_text_122 (by decide) (fun hc => ?_) (fun hc => ?_)
    · have hf := if_p hc hf
      refine lv_aload_n hx hb dX10_text_151 rfl (lv_at hl 0 rfl) ?_
      obtain ⟨a2, hP3, hf⟩ := lp_inv hf
      refine r_getP C hw cf10 0 (by decide) rfl hT1 hP3 fl_X10_9 dX10_text_152 ?_
      refine lv_bipush (v := 7) hx hb dX10_text_155 (by decide) ?_
      refine lv_dup2_11 hx hb dX10_text_157 rfl rfl ?_
      obtain ⟨hT4, hf⟩ := gt_inv hf
      obtain ⟨hg5, hf⟩ := gd_inv hf
      refine r_iald C hw hT4 hg5 dX10_text_158 ?_
      refine lv_iconst (v := 1) hx hb dX10_text_159 (by decide) ?_
      refine lv_iadd hx hb dX10_text_160 ?_
      obtain ⟨hg6, hf⟩ := gd_inv hf
      obtain ⟨M7, e8, hf⟩ := st_inv hf
      have g9 := sg_I e8
      refine r_iast C hw hT4 hg6 e8 dX10_text_161 (fun H locs hw => ?_)
      refine lv_iload_n hx hb dX10_text_162 rfl (lv_at hl 1 rfl) ?_
      exact e_iret C hw hf dX10_text_163
    · have hf := if_n hc hf
      refine lv_aload_n hx hb dX10_text_125 rfl (lv_at hl 0 rfl) ?_
      obtain ⟨a10, hP11, hf⟩ := lp_inv hf
      refine r_getP C hw cf10 0 (by decide) rfl hT1 hP11 fl_X10_9 dX10_text_126 ?_
      refine lv_bipush (v := 98) hx hb dX10_text_129 (by decide) ?_
      refine lv_bipush (v := 96) hx hb dX10_text_131 (by decide) ?_
      refine lv_iload_n hx hb dX10_text_133 rfl (lv_at hl 1 rfl) ?_
      refine lv_imul hx hb dX10_text_134 ?_
      refine lv_iadd hx hb dX10_text_135 ?_
      refine lv_iload_n hx hb dX10_text_136 rfl (lv_at hl 2 rfl) ?_
      refine lv_iadd hx hb dX10_text_137 ?_
      refine lv_aload_n hx hb dX10_text_138 rfl (lv_at hl 0 rfl) ?_
      obtain ⟨a12, hP13, hf⟩ := lp_inv hf
      refine r_getP C hw cf10 19 (by decide) rfl hT1 hP13 fl_X10_46 dX10_text_139 ?_
      refine lv_iload_n hx hb dX10_text_142 rfl (lv_at hl 2 rfl) ?_
      obtain ⟨hT14, hf⟩ := gt_inv hf
      obtain ⟨hg15, hf⟩ := gd_inv hf
      refine r_iald C hw hT14 hg15 dX10_text_143 ?_
      obtain ⟨hT16, hf⟩ := gt_inv hf
      obtain ⟨hg17, hf⟩ := gd_inv hf
      obtain ⟨M18, e19, hf⟩ := st_inv hf
      have g20 := sg_I e19
      refine r_iast C hw hT16 hg17 e19 dX10_text_144 (fun H locs hw => ?_)
      refine lv_iinc (v := (x3 + 1)) (lv' := [(3, .int (x3 + 1)), (0, .ref (ad x0)), (2, .int x2)]) hx hb dX10_text_145 hl (k := 2) rfl rfl (by decide) rfl (fun ls hl => ?_)
      refine lv_goto (tgt := 117) hx hb dX10_text_148 (by decide) ?_
      exact ih M18 x0 x2 (x3 + 1) _ _ _ hf hw (lv_sub hl [1, 2, 0] rfl)
def f_X10_text_33 (M : Mem) (x0 : Nat) (s0 : Int32) : Option (Int32 × Mem) := gt (mT M x0) 11 (st (setI M x0 10 0) (fun M2 => (if s0 = 0 then some (((-100) - (mI M2 x0 12)), M2) else lp (mP M2 x0 0) (fun a5 => gt (mT M2 a5) 20 (gd (ib 7 (mL M2 a5)) ((if (mI M2 a5 (7 : Int32).toNatClampNeg) = 14 then some ((-1000000003), M2) else gd (ib 7 (mL M2 a5)) (gd (ib (70 + (2 * (mI M2 a5 (7 : Int32).toNatClampNeg))) (mL M2 a5)) (st (setI M2 a5 (70 + (2 * (mI M2 a5 (7 : Int32).toNatClampNeg))).toNatClampNeg ((1000 * (mI M2 x0 16)) + (mI M2 x0 20))) (fun M11 => gd (ib ((70 + (2 * (mI M2 a5 (7 : Int32).toNatClampNeg))) + 1) (mL M11 a5)) (st (setI M11 a5 ((70 + (2 * (mI M2 a5 (7 : Int32).toNatClampNeg))) + 1).toNatClampNeg (mI M11 x0 21)) (fun M15 => f_X10_text_117 FU M15 x0 (mI M2 a5 (7 : Int32).toNatClampNeg) 0))))))))))))
set_option maxHeartbeats 4000000 in
set_option maxRecDepth 100000 in
theorem t_X10_text_33 {l : Launch} {p : Program} {e : Env} {s : State} {m : MethodId} {args : Array Value} {below : List Frame} {meth : Method} {c : Code} {G : Gd} {A : Nat → Prop} {ad : Nat → Nat} (C : Cx G A p s m args meth c RX10 cX10_text 4 (some .int)) {r : Int32} {M' : Mem} : ∀ (M : Mem) (x0 : Nat) (s0 : Int32) (H : Heap) (locs : List Loc) (ls : Array Slot), f_X10_text_33  M x0 s0 = some (r, M') → Wd G A ad s.heap M H locs → lv_has ls 4 [(0, .ref (ad x0))] → W p l e rm_X10_text s m args below meth c H locs 0 0 (MQ below (QI G A ad r M') args s 0 0 A) (F0 m 33 ls [.int s0]) := by
  obtain ⟨hx, hb, -⟩ := id C
  intro M x0 s0 H locs ls hf hw hl
  rw [f_X10_text_33] at hf
  refine lv_istore_n (lv' := [(1, .int s0), (0, .ref (ad x0))]) hx hb dX10_text_33 rfl hl (by decide) rfl (fun ls hl => ?_)
  refine lv_aload_n hx hb dX10_text_34 rfl (lv_at hl 1 rfl) ?_
  refine lv_iconst (v := 0) hx hb dX10_text_35 (by decide) ?_
  obtain ⟨hT1, hf⟩ := gt_inv hf
  obtain ⟨M2, e3, hf⟩ := st_inv hf
  have g4 := sg_I e3
  refine r_putI C hw cf10 10 (by decide) rfl hT1 e3 fl_X10_199 rfl rfl rfl dX10_text_36 (fun H locs hw => ?_)
  refine lv_iload_n hx hb dX10_text_39 rfl (lv_at hl 0 rfl) ?_
  refine lv_if_ne (tgt := 51) hx hb dX10_text_40 (by decide) (fun hc => ?_) (fun hc => ?_)
  · have hf := if_n hc hf
    refine lv_aload_n hx hb dX10_text_51 rfl (lv_at hl 1 rfl) ?_
    obtain ⟨a5, hP6, hf⟩ := lp_inv hf
    refine r_getP C hw cf10 0 (by decide) rfl (T_of g4 hT1) hP6 fl_X10_9 dX10_text_52 ?_
    refine lv_bipush (v := 7) hx hb dX10_text_55 (by decide) ?_
    obtain ⟨hT7, hf⟩ := gt_inv hf
    obtain ⟨hg8, hf⟩ := gd_inv hf
    refine r_iald C hw hT7 hg8 dX10_text_57 ?_
    refine lv_bipush (v := 14) hx hb dX10_text_58 (by decide) ?_
    refine lv_icmp_ne (tgt := 66) hx hb dX10_text_60 (by decide) (fun hc => ?_) (fun hc => ?_)
    · have hf := if_n hc hf
      refine lv_aload_n hx hb dX10_text_66 rfl (lv_at hl 1 rfl) ?_
      refine r_getP C hw cf10 0 (by decide) rfl (T_of g4 hT1) hP6 fl_X10_9 dX10_text_67 ?_
      refine lv_bipush (v := 7) hx hb dX10_text_70 (by decide) ?_
      obtain ⟨hg9, hf⟩ := gd_inv hf
      refine r_iald C hw hT7 hg9 dX10_text_72 ?_
      refine lv_istore_n (lv' := [(2, .int (mI M2 a5 (7 : Int32).toNatClampNeg)), (1, .int s0), (0, .ref (ad x0))]) hx hb dX10_text_73 rfl hl (by decide) rfl (fun ls hl => ?_)
      refine lv_aload_n hx hb dX10_text_74 rfl (lv_at hl 2 rfl) ?_
      refine r_getP C hw cf10 0 (by decide) rfl (T_of g4 hT1) hP6 fl_X10_9 dX10_text_75 ?_
      refine lv_bipush (v := 70) hx hb dX10_text_78 (by decide) ?_
      refine lv_iconst (v := 2) hx hb dX10_text_80 (by decide) ?_
      refine lv_iload_n hx hb dX10_text_81 rfl (lv_at hl 0 rfl) ?_
      refine lv_imul hx hb dX10_text_82 ?_
      refine lv_iadd hx hb dX10_text_83 ?_
      refine lv_sipush (v := 1000) hx hb dX10_text_84 (by decide) ?_
      refine lv_aload_n hx hb dX10_text_87 rfl (lv_at hl 2 rfl) ?_
      refine r_getI C hw cf10 16 (by decide) rfl (T_of g4 hT1) fl_X10_223 dX10_text_88 ?_
      refine lv_imul hx hb dX10_text_91 ?_
      refine lv_aload_n hx hb dX10_text_92 rfl (lv_at hl 2 rfl) ?_
      refine r_getI C hw cf10 20 (by decide) rfl (T_of g4 hT1) fl_X10_235 dX10_text_93 ?_
      refine lv_iadd hx hb dX10_text_96 ?_
      obtain ⟨hg10, hf⟩ := gd_inv hf
      obtain ⟨M11, e12, hf⟩ := st_inv hf
      have g13 := sg_I e12
      refine r_iast C hw hT7 hg10 e12 dX10_text_97 (fun H locs hw => ?_)
      refine lv_aload_n hx hb dX10_text_98 rfl (lv_at hl 2 rfl) ?_
      refine r_getP C hw cf10 0 (by decide) rfl (T_of g13 (T_of g4 hT1)) (P_of g13 hP6) fl_X10_9 dX10_text_99 ?_
      refine lv_bipush (v := 70) hx hb dX10_text_102 (by decide) ?_
      refine lv_iconst (v := 2) hx hb dX10_text_104 (by decide) ?_
      refine lv_iload_n hx hb dX10_text_105 rfl (lv_at hl 0 rfl) ?_
      refine lv_imul hx hb dX10_text_106 ?_
      refine lv_iadd hx hb dX10_text_107 ?_
      refine lv_iconst (v := 1) hx hb dX10_text_108 (by decide) ?_
      refine lv_iadd hx hb dX10_text_109 ?_
      refine lv_aload_n hx hb dX10_text_110 rfl (lv_at hl 2 rfl) ?_
      refine r_getI C hw cf10 21 (by decide) rfl (T_of g13 (T_of g4 hT1)) fl_X10_241 dX10_text_111 ?_
      obtain ⟨hg14, hf⟩ := gd_inv hf
      obtain ⟨M15, e16, hf⟩ := st_inv hf
      have g17 := sg_I e16
      refine r_iast C hw (T_of g13 hT7) hg14 e16 dX10_text_114 (fun H locs hw => ?_)
      refine lv_iconst (v := 0) hx hb dX10_text_115 (by decide) ?_
      refine lv_istore_n (lv' := [(3, .int 0), (2, .int (mI M2 a5 (7 : Int32).toNatClampNeg)), (1, .int s0), (0, .ref (ad x0))]) hx hb dX10_text_116 rfl hl (by decide) rfl (fun ls hl => ?_)
      exact t_X10_text_117 C FU M15 x0 (mI M2 a5 (7 : Int32).toNatClampNeg) 0 _ _ _ hf hw (lv_sub hl [3, 1, 0] rfl)
    · have hf := if_p hc hf
      refine lv_ldc hx hb C.2.2.2.1 (C.2.2.2.2.1 _ kc_X10_98) dX10_text_63 ?_
      exact e_iret C hw hf dX10_text_65
  · have hf := if_p hc hf
    refine lv_bipush (v := (-100)) hx hb dX10_text_43 (by decide) ?_
    refine lv_aload_n hx hb dX10_text_45 rfl (lv_at hl 1 rfl) ?_
    refine r_getI C hw cf10 12 (by decide) rfl (T_of g4 hT1) fl_X10_205 dX10_text_46 ?_
    refine lv_isub hx hb dX10_text_49 ?_
    exact e_iret C hw hf dX10_text_50
def f_X10_text (M : Mem) (x0 : Nat) : Option (Int32 × Mem) := gt (mT M x0) 11 (st (setI M x0 11 0) (fun M2 => st (setI M2 x0 15 (-1)) (fun M5 => cl (f_X10_go M5 x0) (fun _ M8 => gt (mT M8 x0) 11 (cl (f_X10_takesKey M8 x0) (fun r12 M11 => (if r12 = 0 then f_X10_text_33 M11 x0 0 else gt (mT M11 x0) 11 (cl (f_X10_takesE M11 x0) (fun r16 M15 => (if r16 = 0 then f_X10_text_33 M15 x0 0 else f_X10_text_33 M15 x0 1))))))))))
set_option maxHeartbeats 4000000 in
set_option maxRecDepth 100000 in
theorem c_X10_text (l : Launch) (G : Gd) (A : Nat → Prop) (ad : Nat → Nat) {M : Mem} {x0 : Nat}  {r : Int32} {M' : Mem} (hf : f_X10_text M x0 = some (r, M')) : Ct l yX10_text cX10_text 4 (some .int) rm_X10_text [.ref (ad x0)] G A ad M (QI G A ad r M') 0 0 := by
  refine ct_start (by decide) (Nat.le_of_ble_eq_true rfl) ?_
  intro p e s m args below meth c ls C hin hw hl
  have C : Cx G A p s m args meth c RX10 cX10_text 4 (some .int) := C
  have hl : lv_has ls 4 [(0, .ref (ad x0))] := hl
  obtain ⟨hx, hb, -⟩ := id C
  rw [f_X10_text] at hf
  refine lv_aload_n hx hb dX10_text_0 rfl (lv_at hl 0 rfl) ?_
  refine lv_iconst (v := 0) hx hb dX10_text_1 (by decide) ?_
  obtain ⟨hT1, hf⟩ := gt_inv hf
  obtain ⟨M2, e3, hf⟩ := st_inv hf
  have g4 := sg_I e3
  refine r_putI C hw cf10 11 (by decide) rfl hT1 e3 fl_X10_202 rfl rfl rfl dX10_text_2 (fun H locs hw => ?_)
  refine lv_aload_n hx hb dX10_text_5 rfl (lv_at hl 0 rfl) ?_
  refine lv_iconst (v := (-1)) hx hb dX10_text_6 (by decide) ?_
  obtain ⟨M5, e6, hf⟩ := st_inv hf
  have g7 := sg_I e6
  refine r_putI C hw cf10 15 (by decide) rfl (T_of g4 hT1) e6 fl_X10_208 rfl rfl rfl dX10_text_7 (fun H locs hw => ?_)
  refine lv_aload_n hx hb dX10_text_10 rfl (lv_at hl 0 rfl) ?_
  obtain ⟨⟨⟩, M8, hc10, hf⟩ := cl_inv hf
  refine fin_V (run_V C hw mf_X10_go mv_X10_go ml_X10_226 cf10 (T_of g7 (T_of g4 hT1)) (c_X10_go l G A ad hc10) (As := []) (rest := []) hl.1 rfl rfl (Nat.le_of_ble_eq_true rfl) ⟨rfl, rfl, Nat.le_of_ble_eq_true rfl, Nat.le_of_ble_eq_true rfl⟩ ⟨Nat.zero_le _, Nat.zero_le _⟩ dX10_text_11) hw (fun H locs hw => ?_)
  refine lv_aload_n hx hb dX10_text_14 rfl (lv_at hl 0 rfl) ?_
  obtain ⟨hT14, hf⟩ := gt_inv hf
  obtain ⟨r12, M11, hc13, hf⟩ := cl_inv hf
  refine fin_I (run_V C hw mf_X10_takesKey mv_X10_takesKey ml_X10_257 cf10 hT14 (c_X10_takesKey l G A ad hc13) (As := []) (rest := []) hl.1 rfl rfl (Nat.le_of_ble_eq_true rfl) ⟨rfl, rfl, Nat.le_of_ble_eq_true rfl, Nat.le_of_ble_eq_true rfl⟩ ⟨Nat.zero_le _, Nat.zero_le _⟩ dX10_text_15) hw (fun H locs hw => ?_)
  refine lv_if_eq (tgt := 32) hx hb dX10_text_18 (by decide) (fun hc => ?_) (fun hc => ?_)
  · have hf := if_p hc hf
    refine lv_iconst (v := 0) hx hb dX10_text_32 (by decide) ?_
    exact t_X10_text_33 C M11 x0 0 _ _ _ hf hw (lv_sub hl [0] rfl)
  · have hf := if_n hc hf
    refine lv_aload_n hx hb dX10_text_21 rfl (lv_at hl 0 rfl) ?_
    obtain ⟨hT18, hf⟩ := gt_inv hf
    obtain ⟨r16, M15, hc17, hf⟩ := cl_inv hf
    refine fin_I (run_V C hw mf_X10_takesE mv_X10_takesE ml_X10_260 cf10 hT18 (c_X10_takesE l G A ad hc17) (As := []) (rest := []) hl.1 rfl rfl (Nat.le_of_ble_eq_true rfl) ⟨rfl, rfl, Nat.le_of_ble_eq_true rfl, Nat.le_of_ble_eq_true rfl⟩ ⟨Nat.zero_le _, Nat.zero_le _⟩ dX10_text_22) hw (fun H locs hw => ?_)
    refine lv_if_eq (tgt := 32) hx hb dX10_text_25 (by decide) (fun hc => ?_) (fun hc => ?_)
    · have hf := if_p hc hf
      refine lv_iconst (v := 0) hx hb dX10_text_32 (by decide) ?_
      exact t_X10_text_33 C M15 x0 0 _ _ _ hf hw (lv_sub hl [0] rfl)
    · have hf := if_n hc hf
      refine lv_iconst (v := 1) hx hb dX10_text_28 (by decide) ?_
      refine lv_goto (tgt := 33) hx hb dX10_text_29 (by decide) ?_
      exact t_X10_text_33 C M15 x0 1 _ _ _ hf hw (lv_sub hl [0] rfl)
