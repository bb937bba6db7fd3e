/-! THE LAW, printed by program: its calls 20 to 39, its switch -/
section LawB
variable {p : Program} {l : Launch} {e : Env} {s : State} {m : MethodId} {below : List Frame} {meth : Method} {c : Code} {H : Heap} {locs : List Loc} {cells slots : Nat} {Q : State → Prop} {G : Gd} {ax ay : Nat → Nat} {ls : Array Slot} {b L j : Nat} {xs : Nat → Int32} {I : Nat → Nat → Int32} {X : Nat → Nat → Option Nat} {S : Sta} {J : Nat → Nat → Int32} {nc ns nt : Nat}
theorem lawc_20 (C : Cx G (fun q => s.heap.size ≤ q) p s m #[Value.ref b] meth c R_law cL_law 4 (some .boolean)) (hX : va_X b L xs s s.heap) (hbl : b < s.heap.size) (hL : L ≤ 384) (hj : j + 6 ≤ L) (h : Sm I X S J nc ns nt) (hw : LW G (fun q => s.heap.size ≤ q) ax ay s.heap (I, X, S) (J, YZ) H locs) (hl : lv_has ls 4 [(3, .int (nI j)), (0, .ref b), (1, .ref (ax 0)), (2, .ref (ay 0))]) (hc : cells + 2 ≤ 600000) (hs : slots + 99 ≤ 7302250) (KK : LKont p l e s m b below meth c Q G ay (ax 0) ls cells slots) : W p l e room_1 s m #[Value.ref b] below meth c H locs cells slots Q (F0 m 818 ls []) := by
  have hbA : ¬ (fun q : Nat => s.heap.size ≤ q) b := Nat.not_le.mpr hbl
  refine lv_aload_n C.1 C.2.1 dL_law_818 rfl (lv_at hl 2 rfl) ?_
  obtain ⟨r, I1, X1, S1, J1, nc1, ns1, nt1, e1, e2, h1⟩ := op_fine h 
  refine law_call C hw mf_X9_fine mv_X9_fine ml_L_98 cf9 (xT0 h.rs.la) (fun A => c_X9_fine l G A ax e1) (As := []) (rest := []) hl.1 rfl rfl (Nat.le_of_ble_eq_true rfl) ⟨rfl, rfl, Nat.le_of_ble_eq_true rfl, Nat.le_of_ble_eq_true rfl⟩ ⟨by show cells ≤ 600000; omega, by show slots ≤ 7302250; omega⟩ dL_law_819 (fun H locs hw => ?_)
  refine lv_aload_n C.1 C.2.1 dL_law_822 rfl (lv_at hl 3 rfl) ?_
  refine law_call C hw.swap mf_X10_fine mv_X10_fine ml_L_101 cf10 (yT0 _) (fun A => c_X10_fine l G A ay e2) (As := []) (rest := [.int r]) hl.1 rfl rfl (Nat.le_of_ble_eq_true rfl) ⟨rfl, rfl, Nat.le_of_ble_eq_true rfl, Nat.le_of_ble_eq_true rfl⟩ ⟨by show _ ≤ 600000; omega, by show _ ≤ 7302250; omega⟩ dL_law_823 (fun H locs hw => ?_)
  refine lv_icmp_eq (tgt := 1398) C.1 C.2.1 dL_law_826 (by decide) (fun _ => ?_) (fun hne => absurd rfl hne)
  exact KK ax I1 X1 S1 J1 nc1 ns1 nt1 H locs _ _ rfl h1 hw.swap (by omega) (by omega)
theorem lawc_21 (C : Cx G (fun q => s.heap.size ≤ q) p s m #[Value.ref b] meth c R_law cL_law 4 (some .boolean)) (hX : va_X b L xs s s.heap) (hbl : b < s.heap.size) (hL : L ≤ 384) (hj : j + 6 ≤ L) (h : Sm I X S J nc ns nt) (hw : LW G (fun q => s.heap.size ≤ q) ax ay s.heap (I, X, S) (J, YZ) H locs) (hl : lv_has ls 4 [(3, .int (nI j)), (0, .ref b), (1, .ref (ax 0)), (2, .ref (ay 0))]) (hc : cells + 2 ≤ 600000) (hs : slots + 99 ≤ 7302250) (KK : LKont p l e s m b below meth c Q G ay (ax 0) ls cells slots) : W p l e room_1 s m #[Value.ref b] below meth c H locs cells slots Q (F0 m 831 ls []) := by
  have hbA : ¬ (fun q : Nat => s.heap.size ≤ q) b := Nat.not_le.mpr hbl
  refine lv_aload_n C.1 C.2.1 dL_law_831 rfl (lv_at hl 2 rfl) ?_
  refine law_arg (k := 1) C hw hX hbl hbA hl (by decide) (by omega) hL dL_law_832 dL_law_833 dL_law_834 dL_law_835 dL_law_836 ?_
  refine law_arg (k := 2) C hw hX hbl hbA hl (by decide) (by omega) hL dL_law_837 dL_law_838 dL_law_839 dL_law_840 dL_law_841 ?_
  refine law_arg (k := 3) C hw hX hbl hbA hl (by decide) (by omega) hL dL_law_842 dL_law_843 dL_law_844 dL_law_845 dL_law_846 ?_
  obtain ⟨r, I1, X1, S1, J1, nc1, ns1, nt1, e1, e2, h1⟩ := op_feed h (xs (j + 1)) (xs (j + 2)) (xs (j + 3))
  refine law_call C hw mf_X9_feed mv_X9_feed ml_L_102 cf9 (xT0 h.rs.la) (fun A => c_X9_feed l G A ax e1) (As := [.int (xs (j + 1)), .int (xs (j + 2)), .int (xs (j + 3))]) (rest := []) hl.1 rfl rfl (Nat.le_of_ble_eq_true rfl) ⟨rfl, rfl, Nat.le_of_ble_eq_true rfl, Nat.le_of_ble_eq_true rfl⟩ ⟨by show cells ≤ 600000; omega, by show slots ≤ 7302250; omega⟩ dL_law_847 (fun H locs hw => ?_)
  refine lv_aload_n C.1 C.2.1 dL_law_850 rfl (lv_at hl 3 rfl) ?_
  refine law_arg (k := 1) C hw hX hbl hbA hl (by decide) (by omega) hL dL_law_851 dL_law_852 dL_law_853 dL_law_854 dL_law_855 ?_
  refine law_arg (k := 2) C hw hX hbl hbA hl (by decide) (by omega) hL dL_law_856 dL_law_857 dL_law_858 dL_law_859 dL_law_860 ?_
  refine law_arg (k := 3) C hw hX hbl hbA hl (by decide) (by omega) hL dL_law_861 dL_law_862 dL_law_863 dL_law_864 dL_law_865 ?_
  refine law_call C hw.swap mf_X10_feed mv_X10_feed ml_L_105 cf10 (yT0 _) (fun A => c_X10_feed l G A ay e2) (As := [.int (xs (j + 1)), .int (xs (j + 2)), .int (xs (j + 3))]) (rest := [.int r]) hl.1 rfl rfl (Nat.le_of_ble_eq_true rfl) ⟨rfl, rfl, Nat.le_of_ble_eq_true rfl, Nat.le_of_ble_eq_true rfl⟩ ⟨by show _ ≤ 600000; omega, by show _ ≤ 7302250; omega⟩ dL_law_866 (fun H locs hw => ?_)
  refine lv_icmp_eq (tgt := 1398) C.1 C.2.1 dL_law_869 (by decide) (fun _ => ?_) (fun hne => absurd rfl hne)
  exact KK ax I1 X1 S1 J1 nc1 ns1 nt1 H locs _ _ rfl h1 hw.swap (by omega) (by omega)
theorem lawc_22 (C : Cx G (fun q => s.heap.size ≤ q) p s m #[Value.ref b] meth c R_law cL_law 4 (some .boolean)) (hX : va_X b L xs s s.heap) (hbl : b < s.heap.size) (hL : L ≤ 384) (hj : j + 6 ≤ L) (h : Sm I X S J nc ns nt) (hw : LW G (fun q => s.heap.size ≤ q) ax ay s.heap (I, X, S) (J, YZ) H locs) (hl : lv_has ls 4 [(3, .int (nI j)), (0, .ref b), (1, .ref (ax 0)), (2, .ref (ay 0))]) (hc : cells + 2 ≤ 600000) (hs : slots + 99 ≤ 7302250) (KK : LKont p l e s m b below meth c Q G ay (ax 0) ls cells slots) : W p l e room_1 s m #[Value.ref b] below meth c H locs cells slots Q (F0 m 874 ls []) := by
  have hbA : ¬ (fun q : Nat => s.heap.size ≤ q) b := Nat.not_le.mpr hbl
  refine lv_aload_n C.1 C.2.1 dL_law_874 rfl (lv_at hl 2 rfl) ?_
  refine law_arg (k := 1) C hw hX hbl hbA hl (by decide) (by omega) hL dL_law_875 dL_law_876 dL_law_877 dL_law_878 dL_law_879 ?_
  obtain ⟨r, I1, X1, S1, J1, nc1, ns1, nt1, e1, e2, h1⟩ := op_trim h (xs (j + 1))
  refine law_call C hw mf_X9_trim mv_X9_trim ml_L_106 cf9 (xT0 h.rs.la) (fun A => c_X9_trim l G A ax e1) (As := [.int (xs (j + 1))]) (rest := []) hl.1 rfl rfl (Nat.le_of_ble_eq_true rfl) ⟨rfl, rfl, Nat.le_of_ble_eq_true rfl, Nat.le_of_ble_eq_true rfl⟩ ⟨by show cells ≤ 600000; omega, by show slots ≤ 7302250; omega⟩ dL_law_880 (fun H locs hw => ?_)
  refine lv_aload_n C.1 C.2.1 dL_law_883 rfl (lv_at hl 3 rfl) ?_
  refine law_arg (k := 1) C hw hX hbl hbA hl (by decide) (by omega) hL dL_law_884 dL_law_885 dL_law_886 dL_law_887 dL_law_888 ?_
  refine law_call C hw.swap mf_X10_trim mv_X10_trim ml_L_109 cf10 (yT0 _) (fun A => c_X10_trim l G A ay e2) (As := [.int (xs (j + 1))]) (rest := [.int r]) hl.1 rfl rfl (Nat.le_of_ble_eq_true rfl) ⟨rfl, rfl, Nat.le_of_ble_eq_true rfl, Nat.le_of_ble_eq_true rfl⟩ ⟨by show _ ≤ 600000; omega, by show _ ≤ 7302250; omega⟩ dL_law_889 (fun H locs hw => ?_)
  refine lv_icmp_eq (tgt := 1398) C.1 C.2.1 dL_law_892 (by decide) (fun _ => ?_) (fun hne => absurd rfl hne)
  exact KK ax I1 X1 S1 J1 nc1 ns1 nt1 H locs _ _ rfl h1 hw.swap (by omega) (by omega)
theorem lawc_23 (C : Cx G (fun q => s.heap.size ≤ q) p s m #[Value.ref b] meth c R_law cL_law 4 (some .boolean)) (hX : va_X b L xs s s.heap) (hbl : b < s.heap.size) (hL : L ≤ 384) (hj : j + 6 ≤ L) (h : Sm I X S J nc ns nt) (hw : LW G (fun q => s.heap.size ≤ q) ax ay s.heap (I, X, S) (J, YZ) H locs) (hl : lv_has ls 4 [(3, .int (nI j)), (0, .ref b), (1, .ref (ax 0)), (2, .ref (ay 0))]) (hc : cells + 2 ≤ 600000) (hs : slots + 99 ≤ 7302250) (KK : LKont p l e s m b below meth c Q G ay (ax 0) ls cells slots) : W p l e room_1 s m #[Value.ref b] below meth c H locs cells slots Q (F0 m 897 ls []) := by
  have hbA : ¬ (fun q : Nat => s.heap.size ≤ q) b := Nat.not_le.mpr hbl
  refine lv_aload_n C.1 C.2.1 dL_law_897 rfl (lv_at hl 2 rfl) ?_
  obtain ⟨r, I1, X1, S1, J1, nc1, ns1, nt1, e1, e2, h1⟩ := op_text h 
  refine law_callA (mc := 2) (ms := 99) C hw mf_X9_text mv_X9_text ml_L_110 cf9 (xT0 h.rs.la) (fun A => c_X9_text l G A ax e1) (As := []) (rest := []) hl.1 rfl rfl (Nat.le_of_ble_eq_true rfl) ⟨rfl, rfl, Nat.le_of_ble_eq_true rfl, Nat.le_of_ble_eq_true rfl⟩ ⟨hc, hs⟩ dL_law_898 (fun ax1 H locs hax hw => ?_)
  refine lv_aload_n C.1 C.2.1 dL_law_901 rfl (lv_at hl 3 rfl) ?_
  refine law_call C hw.swap mf_X10_text mv_X10_text ml_L_113 cf10 (yT0 _) (fun A => c_X10_text l G A ay e2) (As := []) (rest := [.int r]) hl.1 rfl rfl (Nat.le_of_ble_eq_true rfl) ⟨rfl, rfl, Nat.le_of_ble_eq_true rfl, Nat.le_of_ble_eq_true rfl⟩ ⟨by show _ ≤ 600000; omega, by show _ ≤ 7302250; omega⟩ dL_law_902 (fun H locs hw => ?_)
  refine lv_icmp_eq (tgt := 1398) C.1 C.2.1 dL_law_905 (by decide) (fun _ => ?_) (fun hne => absurd rfl hne)
  exact KK ax1 I1 X1 S1 J1 nc1 ns1 nt1 H locs _ _ hax h1 hw.swap (Nat.le_refl _) (Nat.le_refl _)
theorem lawc_24 (C : Cx G (fun q => s.heap.size ≤ q) p s m #[Value.ref b] meth c R_law cL_law 4 (some .boolean)) (hX : va_X b L xs s s.heap) (hbl : b < s.heap.size) (hL : L ≤ 384) (hj : j + 6 ≤ L) (h : Sm I X S J nc ns nt) (hw : LW G (fun q => s.heap.size ≤ q) ax ay s.heap (I, X, S) (J, YZ) H locs) (hl : lv_has ls 4 [(3, .int (nI j)), (0, .ref b), (1, .ref (ax 0)), (2, .ref (ay 0))]) (hc : cells + 2 ≤ 600000) (hs : slots + 99 ≤ 7302250) (KK : LKont p l e s m b below meth c Q G ay (ax 0) ls cells slots) : W p l e room_1 s m #[Value.ref b] below meth c H locs cells slots Q (F0 m 910 ls []) := by
  have hbA : ¬ (fun q : Nat => s.heap.size ≤ q) b := Nat.not_le.mpr hbl
  refine lv_aload_n C.1 C.2.1 dL_law_910 rfl (lv_at hl 2 rfl) ?_
  refine law_arg (k := 1) C hw hX hbl hbA hl (by decide) (by omega) hL dL_law_911 dL_law_912 dL_law_913 dL_law_914 dL_law_915 ?_
  refine law_arg (k := 2) C hw hX hbl hbA hl (by decide) (by omega) hL dL_law_916 dL_law_917 dL_law_918 dL_law_919 dL_law_920 ?_
  obtain ⟨r, I1, X1, S1, J1, nc1, ns1, nt1, e1, e2, h1⟩ := op_textTold h (xs (j + 1)) (xs (j + 2))
  refine law_call C hw mf_X9_textTold mv_X9_textTold ml_L_114 cf9 (xT0 h.rs.la) (fun A => c_X9_textTold l G A ax e1) (As := [.int (xs (j + 1)), .int (xs (j + 2))]) (rest := []) hl.1 rfl rfl (Nat.le_of_ble_eq_true rfl) ⟨rfl, rfl, Nat.le_of_ble_eq_true rfl, Nat.le_of_ble_eq_true rfl⟩ ⟨by show cells ≤ 600000; omega, by show slots ≤ 7302250; omega⟩ dL_law_921 (fun H locs hw => ?_)
  refine lv_aload_n C.1 C.2.1 dL_law_924 rfl (lv_at hl 3 rfl) ?_
  refine law_arg (k := 1) C hw hX hbl hbA hl (by decide) (by omega) hL dL_law_925 dL_law_926 dL_law_927 dL_law_928 dL_law_929 ?_
  refine law_arg (k := 2) C hw hX hbl hbA hl (by decide) (by omega) hL dL_law_930 dL_law_931 dL_law_932 dL_law_933 dL_law_934 ?_
  refine law_call C hw.swap mf_X10_textTold mv_X10_textTold ml_L_117 cf10 (yT0 _) (fun A => c_X10_textTold l G A ay e2) (As := [.int (xs (j + 1)), .int (xs (j + 2))]) (rest := [.int r]) hl.1 rfl rfl (Nat.le_of_ble_eq_true rfl) ⟨rfl, rfl, Nat.le_of_ble_eq_true rfl, Nat.le_of_ble_eq_true rfl⟩ ⟨by show _ ≤ 600000; omega, by show _ ≤ 7302250; omega⟩ dL_law_935 (fun H locs hw => ?_)
  refine lv_icmp_eq (tgt := 1398) C.1 C.2.1 dL_law_938 (by decide) (fun _ => ?_) (fun hne => absurd rfl hne)
  exact KK ax I1 X1 S1 J1 nc1 ns1 nt1 H locs _ _ rfl h1 hw.swap (by omega) (by omega)
theorem lawc_25 (C : Cx G (fun q => s.heap.size ≤ q) p s m #[Value.ref b] meth c R_law cL_law 4 (some .boolean)) (hX : va_X b L xs s s.heap) (hbl : b < s.heap.size) (hL : L ≤ 384) (hj : j + 6 ≤ L) (h : Sm I X S J nc ns nt) (hw : LW G (fun q => s.heap.size ≤ q) ax ay s.heap (I, X, S) (J, YZ) H locs) (hl : lv_has ls 4 [(3, .int (nI j)), (0, .ref b), (1, .ref (ax 0)), (2, .ref (ay 0))]) (hc : cells + 2 ≤ 600000) (hs : slots + 99 ≤ 7302250) (KK : LKont p l e s m b below meth c Q G ay (ax 0) ls cells slots) : W p l e room_1 s m #[Value.ref b] below meth c H locs cells slots Q (F0 m 943 ls []) := by
  have hbA : ¬ (fun q : Nat => s.heap.size ≤ q) b := Nat.not_le.mpr hbl
  refine lv_aload_n C.1 C.2.1 dL_law_943 rfl (lv_at hl 2 rfl) ?_
  refine law_arg (k := 1) C hw hX hbl hbA hl (by decide) (by omega) hL dL_law_944 dL_law_945 dL_law_946 dL_law_947 dL_law_948 ?_
  obtain ⟨r, I1, X1, S1, J1, nc1, ns1, nt1, e1, e2, h1⟩ := op_why h (xs (j + 1))
  refine law_call C hw mf_X9_why mv_X9_why ml_L_118 cf9 (xT0 h.rs.la) (fun A => c_X9_why l G A ax e1) (As := [.int (xs (j + 1))]) (rest := []) hl.1 rfl rfl (Nat.le_of_ble_eq_true rfl) ⟨rfl, rfl, Nat.le_of_ble_eq_true rfl, Nat.le_of_ble_eq_true rfl⟩ ⟨by show cells ≤ 600000; omega, by show slots ≤ 7302250; omega⟩ dL_law_949 (fun H locs hw => ?_)
  refine lv_aload_n C.1 C.2.1 dL_law_952 rfl (lv_at hl 3 rfl) ?_
  refine law_arg (k := 1) C hw hX hbl hbA hl (by decide) (by omega) hL dL_law_953 dL_law_954 dL_law_955 dL_law_956 dL_law_957 ?_
  refine law_call C hw.swap mf_X10_why mv_X10_why ml_L_121 cf10 (yT0 _) (fun A => c_X10_why l G A ay e2) (As := [.int (xs (j + 1))]) (rest := [.int r]) hl.1 rfl rfl (Nat.le_of_ble_eq_true rfl) ⟨rfl, rfl, Nat.le_of_ble_eq_true rfl, Nat.le_of_ble_eq_true rfl⟩ ⟨by show _ ≤ 600000; omega, by show _ ≤ 7302250; omega⟩ dL_law_958 (fun H locs hw => ?_)
  refine lv_icmp_eq (tgt := 1398) C.1 C.2.1 dL_law_961 (by decide) (fun _ => ?_) (fun hne => absurd rfl hne)
  exact KK ax I1 X1 S1 J1 nc1 ns1 nt1 H locs _ _ rfl h1 hw.swap (by omega) (by omega)
theorem lawc_26 (C : Cx G (fun q => s.heap.size ≤ q) p s m #[Value.ref b] meth c R_law cL_law 4 (some .boolean)) (hX : va_X b L xs s s.heap) (hbl : b < s.heap.size) (hL : L ≤ 384) (hj : j + 6 ≤ L) (h : Sm I X S J nc ns nt) (hw : LW G (fun q => s.heap.size ≤ q) ax ay s.heap (I, X, S) (J, YZ) H locs) (hl : lv_has ls 4 [(3, .int (nI j)), (0, .ref b), (1, .ref (ax 0)), (2, .ref (ay 0))]) (hc : cells + 2 ≤ 600000) (hs : slots + 99 ≤ 7302250) (KK : LKont p l e s m b below meth c Q G ay (ax 0) ls cells slots) : W p l e room_1 s m #[Value.ref b] below meth c H locs cells slots Q (F0 m 966 ls []) := by
  have hbA : ¬ (fun q : Nat => s.heap.size ≤ q) b := Nat.not_le.mpr hbl
  refine lv_aload_n C.1 C.2.1 dL_law_966 rfl (lv_at hl 2 rfl) ?_
  refine law_arg (k := 1) C hw hX hbl hbA hl (by decide) (by omega) hL dL_law_967 dL_law_968 dL_law_969 dL_law_970 dL_law_971 ?_
  refine law_arg (k := 2) C hw hX hbl hbA hl (by decide) (by omega) hL dL_law_972 dL_law_973 dL_law_974 dL_law_975 dL_law_976 ?_
  refine law_arg (k := 3) C hw hX hbl hbA hl (by decide) (by omega) hL dL_law_977 dL_law_978 dL_law_979 dL_law_980 dL_law_981 ?_
  obtain ⟨r, I1, X1, S1, J1, nc1, ns1, nt1, e1, e2, h1⟩ := op_sheet h (xs (j + 1)) (xs (j + 2)) (xs (j + 3))
  refine law_call C hw mf_X9_sheet mv_X9_sheet ml_L_122 cf9 (xT0 h.rs.la) (fun A => c_X9_sheet l G A ax e1) (As := [.int (xs (j + 1)), .int (xs (j + 2)), .int (xs (j + 3))]) (rest := []) hl.1 rfl rfl (Nat.le_of_ble_eq_true rfl) ⟨rfl, rfl, Nat.le_of_ble_eq_true rfl, Nat.le_of_ble_eq_true rfl⟩ ⟨by show cells ≤ 600000; omega, by show slots ≤ 7302250; omega⟩ dL_law_982 (fun H locs hw => ?_)
  refine lv_aload_n C.1 C.2.1 dL_law_985 rfl (lv_at hl 3 rfl) ?_
  refine law_arg (k := 1) C hw hX hbl hbA hl (by decide) (by omega) hL dL_law_986 dL_law_987 dL_law_988 dL_law_989 dL_law_990 ?_
  refine law_arg (k := 2) C hw hX hbl hbA hl (by decide) (by omega) hL dL_law_991 dL_law_992 dL_law_993 dL_law_994 dL_law_995 ?_
  refine law_arg (k := 3) C hw hX hbl hbA hl (by decide) (by omega) hL dL_law_996 dL_law_997 dL_law_998 dL_law_999 dL_law_1000 ?_
  refine law_call C hw.swap mf_X10_sheet mv_X10_sheet ml_L_125 cf10 (yT0 _) (fun A => c_X10_sheet l G A ay e2) (As := [.int (xs (j + 1)), .int (xs (j + 2)), .int (xs (j + 3))]) (rest := [.int r]) hl.1 rfl rfl (Nat.le_of_ble_eq_true rfl) ⟨rfl, rfl, Nat.le_of_ble_eq_true rfl, Nat.le_of_ble_eq_true rfl⟩ ⟨by show _ ≤ 600000; omega, by show _ ≤ 7302250; omega⟩ dL_law_1001 (fun H locs hw => ?_)
  refine lv_icmp_eq (tgt := 1398) C.1 C.2.1 dL_law_1004 (by decide) (fun _ => ?_) (fun hne => absurd rfl hne)
  exact KK ax I1 X1 S1 J1 nc1 ns1 nt1 H locs _ _ rfl h1 hw.swap (by omega) (by omega)
theorem lawc_27 (C : Cx G (fun q => s.heap.size ≤ q) p s m #[Value.ref b] meth c R_law cL_law 4 (some .boolean)) (hX : va_X b L xs s s.heap) (hbl : b < s.heap.size) (hL : L ≤ 384) (hj : j + 6 ≤ L) (h : Sm I X S J nc ns nt) (hw : LW G (fun q => s.heap.size ≤ q) ax ay s.heap (I, X, S) (J, YZ) H locs) (hl : lv_has ls 4 [(3, .int (nI j)), (0, .ref b), (1, .ref (ax 0)), (2, .ref (ay 0))]) (hc : cells + 2 ≤ 600000) (hs : slots + 99 ≤ 7302250) (KK : LKont p l e s m b below meth c Q G ay (ax 0) ls cells slots) : W p l e room_1 s m #[Value.ref b] below meth c H locs cells slots Q (F0 m 1009 ls []) := by
  have hbA : ¬ (fun q : Nat => s.heap.size ≤ q) b := Nat.not_le.mpr hbl
  refine lv_aload_n C.1 C.2.1 dL_law_1009 rfl (lv_at hl 2 rfl) ?_
  refine law_arg (k := 1) C hw hX hbl hbA hl (by decide) (by omega) hL dL_law_1010 dL_law_1011 dL_law_1012 dL_law_1013 dL_law_1014 ?_
  refine law_arg (k := 2) C hw hX hbl hbA hl (by decide) (by omega) hL dL_law_1015 dL_law_1016 dL_law_1017 dL_law_1018 dL_law_1019 ?_
  refine law_arg (k := 3) C hw hX hbl hbA hl (by decide) (by omega) hL dL_law_1020 dL_law_1021 dL_law_1022 dL_law_1023 dL_law_1024 ?_
  obtain ⟨r, I1, X1, S1, J1, nc1, ns1, nt1, e1, e2, h1⟩ := op_mark h (xs (j + 1)) (xs (j + 2)) (xs (j + 3))
  refine law_call C hw mf_X9_mark mv_X9_mark ml_L_126 cf9 (xT0 h.rs.la) (fun A => c_X9_mark l G A ax e1) (As := [.int (xs (j + 1)), .int (xs (j + 2)), .int (xs (j + 3))]) (rest := []) hl.1 rfl rfl (Nat.le_of_ble_eq_true rfl) ⟨rfl, rfl, Nat.le_of_ble_eq_true rfl, Nat.le_of_ble_eq_true rfl⟩ ⟨by show cells ≤ 600000; omega, by show slots ≤ 7302250; omega⟩ dL_law_1025 (fun H locs hw => ?_)
  refine lv_aload_n C.1 C.2.1 dL_law_1028 rfl (lv_at hl 3 rfl) ?_
  refine law_arg (k := 1) C hw hX hbl hbA hl (by decide) (by omega) hL dL_law_1029 dL_law_1030 dL_law_1031 dL_law_1032 dL_law_1033 ?_
  refine law_arg (k := 2) C hw hX hbl hbA hl (by decide) (by omega) hL dL_law_1034 dL_law_1035 dL_law_1036 dL_law_1037 dL_law_1038 ?_
  refine law_arg (k := 3) C hw hX hbl hbA hl (by decide) (by omega) hL dL_law_1039 dL_law_1040 dL_law_1041 dL_law_1042 dL_law_1043 ?_
  refine law_call C hw.swap mf_X10_mark mv_X10_mark ml_L_129 cf10 (yT0 _) (fun A => c_X10_mark l G A ay e2) (As := [.int (xs (j + 1)), .int (xs (j + 2)), .int (xs (j + 3))]) (rest := [.int r]) hl.1 rfl rfl (Nat.le_of_ble_eq_true rfl) ⟨rfl, rfl, Nat.le_of_ble_eq_true rfl, Nat.le_of_ble_eq_true rfl⟩ ⟨by show _ ≤ 600000; omega, by show _ ≤ 7302250; omega⟩ dL_law_1044 (fun H locs hw => ?_)
  refine lv_icmp_eq (tgt := 1398) C.1 C.2.1 dL_law_1047 (by decide) (fun _ => ?_) (fun hne => absurd rfl hne)
  exact KK ax I1 X1 S1 J1 nc1 ns1 nt1 H locs _ _ rfl h1 hw.swap (by omega) (by omega)
theorem lawc_28 (C : Cx G (fun q => s.heap.size ≤ q) p s m #[Value.ref b] meth c R_law cL_law 4 (some .boolean)) (hX : va_X b L xs s s.heap) (hbl : b < s.heap.size) (hL : L ≤ 384) (hj : j + 6 ≤ L) (h : Sm I X S J nc ns nt) (hw : LW G (fun q => s.heap.size ≤ q) ax ay s.heap (I, X, S) (J, YZ) H locs) (hl : lv_has ls 4 [(3, .int (nI j)), (0, .ref b), (1, .ref (ax 0)), (2, .ref (ay 0))]) (hc : cells + 2 ≤ 600000) (hs : slots + 99 ≤ 7302250) (KK : LKont p l e s m b below meth c Q G ay (ax 0) ls cells slots) : W p l e room_1 s m #[Value.ref b] below meth c H locs cells slots Q (F0 m 1052 ls []) := by
  have hbA : ¬ (fun q : Nat => s.heap.size ≤ q) b := Nat.not_le.mpr hbl
  refine lv_aload_n C.1 C.2.1 dL_law_1052 rfl (lv_at hl 2 rfl) ?_
  refine law_arg (k := 1) C hw hX hbl hbA hl (by decide) (by omega) hL dL_law_1053 dL_law_1054 dL_law_1055 dL_law_1056 dL_law_1057 ?_
  obtain ⟨r, I1, X1, S1, J1, nc1, ns1, nt1, e1, e2, h1⟩ := op_pour h (xs (j + 1))
  refine law_call C hw mf_X9_pour mv_X9_pour ml_L_130 cf9 (xT0 h.rs.la) (fun A => c_X9_pour l G A ax e1) (As := [.int (xs (j + 1))]) (rest := []) hl.1 rfl rfl (Nat.le_of_ble_eq_true rfl) ⟨rfl, rfl, Nat.le_of_ble_eq_true rfl, Nat.le_of_ble_eq_true rfl⟩ ⟨by show cells ≤ 600000; omega, by show slots ≤ 7302250; omega⟩ dL_law_1058 (fun H locs hw => ?_)
  refine lv_aload_n C.1 C.2.1 dL_law_1061 rfl (lv_at hl 3 rfl) ?_
  refine law_arg (k := 1) C hw hX hbl hbA hl (by decide) (by omega) hL dL_law_1062 dL_law_1063 dL_law_1064 dL_law_1065 dL_law_1066 ?_
  refine law_call C hw.swap mf_X10_pour mv_X10_pour ml_L_133 cf10 (yT0 _) (fun A => c_X10_pour l G A ay e2) (As := [.int (xs (j + 1))]) (rest := [.int r]) hl.1 rfl rfl (Nat.le_of_ble_eq_true rfl) ⟨rfl, rfl, Nat.le_of_ble_eq_true rfl, Nat.le_of_ble_eq_true rfl⟩ ⟨by show _ ≤ 600000; omega, by show _ ≤ 7302250; omega⟩ dL_law_1067 (fun H locs hw => ?_)
  refine lv_icmp_eq (tgt := 1398) C.1 C.2.1 dL_law_1070 (by decide) (fun _ => ?_) (fun hne => absurd rfl hne)
  exact KK ax I1 X1 S1 J1 nc1 ns1 nt1 H locs _ _ rfl h1 hw.swap (by omega) (by omega)
theorem lawc_29 (C : Cx G (fun q => s.heap.size ≤ q) p s m #[Value.ref b] meth c R_law cL_law 4 (some .boolean)) (hX : va_X b L xs s s.heap) (hbl : b < s.heap.size) (hL : L ≤ 384) (hj : j + 6 ≤ L) (h : Sm I X S J nc ns nt) (hw : LW G (fun q => s.heap.size ≤ q) ax ay s.heap (I, X, S) (J, YZ) H locs) (hl : lv_has ls 4 [(3, .int (nI j)), (0, .ref b), (1, .ref (ax 0)), (2, .ref (ay 0))]) (hc : cells + 2 ≤ 600000) (hs : slots + 99 ≤ 7302250) (KK : LKont p l e s m b below meth c Q G ay (ax 0) ls cells slots) : W p l e room_1 s m #[Value.ref b] below meth c H locs cells slots Q (F0 m 1075 ls []) := by
  have hbA : ¬ (fun q : Nat => s.heap.size ≤ q) b := Nat.not_le.mpr hbl
  refine lv_aload_n C.1 C.2.1 dL_law_1075 rfl (lv_at hl 2 rfl) ?_
  refine law_arg (k := 1) C hw hX hbl hbA hl (by decide) (by omega) hL dL_law_1076 dL_law_1077 dL_law_1078 dL_law_1079 dL_law_1080 ?_
  obtain ⟨r, I1, X1, S1, J1, nc1, ns1, nt1, e1, e2, h1⟩ := op_reads h (xs (j + 1))
  refine law_call C hw mf_X9_reads mv_X9_reads ml_L_134 cf9 (xT0 h.rs.la) (fun A => c_X9_reads l G A ax e1) (As := [.int (xs (j + 1))]) (rest := []) hl.1 rfl rfl (Nat.le_of_ble_eq_true rfl) ⟨rfl, rfl, Nat.le_of_ble_eq_true rfl, Nat.le_of_ble_eq_true rfl⟩ ⟨by show cells ≤ 600000; omega, by show slots ≤ 7302250; omega⟩ dL_law_1081 (fun H locs hw => ?_)
  refine lv_aload_n C.1 C.2.1 dL_law_1084 rfl (lv_at hl 3 rfl) ?_
  refine law_arg (k := 1) C hw hX hbl hbA hl (by decide) (by omega) hL dL_law_1085 dL_law_1086 dL_law_1087 dL_law_1088 dL_law_1089 ?_
  refine law_call C hw.swap mf_X10_reads mv_X10_reads ml_L_137 cf10 (yT0 _) (fun A => c_X10_reads l G A ay e2) (As := [.int (xs (j + 1))]) (rest := [.int r]) hl.1 rfl rfl (Nat.le_of_ble_eq_true rfl) ⟨rfl, rfl, Nat.le_of_ble_eq_true rfl, Nat.le_of_ble_eq_true rfl⟩ ⟨by show _ ≤ 600000; omega, by show _ ≤ 7302250; omega⟩ dL_law_1090 (fun H locs hw => ?_)
  refine lv_icmp_eq (tgt := 1398) C.1 C.2.1 dL_law_1093 (by decide) (fun _ => ?_) (fun hne => absurd rfl hne)
  exact KK ax I1 X1 S1 J1 nc1 ns1 nt1 H locs _ _ rfl h1 hw.swap (by omega) (by omega)
theorem lawc_30 (C : Cx G (fun q => s.heap.size ≤ q) p s m #[Value.ref b] meth c R_law cL_law 4 (some .boolean)) (hX : va_X b L xs s s.heap) (hbl : b < s.heap.size) (hL : L ≤ 384) (hj : j + 6 ≤ L) (h : Sm I X S J nc ns nt) (hw : LW G (fun q => s.heap.size ≤ q) ax ay s.heap (I, X, S) (J, YZ) H locs) (hl : lv_has ls 4 [(3, .int (nI j)), (0, .ref b), (1, .ref (ax 0)), (2, .ref (ay 0))]) (hc : cells + 2 ≤ 600000) (hs : slots + 99 ≤ 7302250) (KK : LKont p l e s m b below meth c Q G ay (ax 0) ls cells slots) : W p l e room_1 s m #[Value.ref b] below meth c H locs cells slots Q (F0 m 1098 ls []) := by
  have hbA : ¬ (fun q : Nat => s.heap.size ≤ q) b := Nat.not_le.mpr hbl
  refine lv_aload_n C.1 C.2.1 dL_law_1098 rfl (lv_at hl 2 rfl) ?_
  refine law_arg (k := 1) C hw hX hbl hbA hl (by decide) (by omega) hL dL_law_1099 dL_law_1100 dL_law_1101 dL_law_1102 dL_law_1103 ?_
  refine law_arg (k := 2) C hw hX hbl hbA hl (by decide) (by omega) hL dL_law_1104 dL_law_1105 dL_law_1106 dL_law_1107 dL_law_1108 ?_
  refine law_arg (k := 3) C hw hX hbl hbA hl (by decide) (by omega) hL dL_law_1109 dL_law_1110 dL_law_1111 dL_law_1112 dL_law_1113 ?_
  refine law_arg (k := 4) C hw hX hbl hbA hl (by decide) (by omega) hL dL_law_1114 dL_law_1115 dL_law_1116 dL_law_1117 dL_law_1118 ?_
  refine law_arg (k := 5) C hw hX hbl hbA hl (by decide) (by omega) hL dL_law_1119 dL_law_1120 dL_law_1121 dL_law_1122 dL_law_1123 ?_
  obtain ⟨r, I1, X1, S1, J1, nc1, ns1, nt1, e1, e2, h1⟩ := op_copy h (xs (j + 1)) (xs (j + 2)) (xs (j + 3)) (xs (j + 4)) (xs (j + 5))
  refine law_call C hw mf_X9_copy mv_X9_copy ml_L_138 cf9 (xT0 h.rs.la) (fun A => c_X9_copy l G A ax e1) (As := [.int (xs (j + 1)), .int (xs (j + 2)), .int (xs (j + 3)), .int (xs (j + 4)), .int (xs (j + 5))]) (rest := []) hl.1 rfl rfl (Nat.le_of_ble_eq_true rfl) ⟨rfl, rfl, Nat.le_of_ble_eq_true rfl, Nat.le_of_ble_eq_true rfl⟩ ⟨by show cells ≤ 600000; omega, by show slots ≤ 7302250; omega⟩ dL_law_1124 (fun H locs hw => ?_)
  refine lv_aload_n C.1 C.2.1 dL_law_1127 rfl (lv_at hl 3 rfl) ?_
  refine law_arg (k := 1) C hw hX hbl hbA hl (by decide) (by omega) hL dL_law_1128 dL_law_1129 dL_law_1130 dL_law_1131 dL_law_1132 ?_
  refine law_arg (k := 2) C hw hX hbl hbA hl (by decide) (by omega) hL dL_law_1133 dL_law_1134 dL_law_1135 dL_law_1136 dL_law_1137 ?_
  refine law_arg (k := 3) C hw hX hbl hbA hl (by decide) (by omega) hL dL_law_1138 dL_law_1139 dL_law_1140 dL_law_1141 dL_law_1142 ?_
  refine law_arg (k := 4) C hw hX hbl hbA hl (by decide) (by omega) hL dL_law_1143 dL_law_1144 dL_law_1145 dL_law_1146 dL_law_1147 ?_
  refine law_arg (k := 5) C hw hX hbl hbA hl (by decide) (by omega) hL dL_law_1148 dL_law_1149 dL_law_1150 dL_law_1151 dL_law_1152 ?_
  refine law_call C hw.swap mf_X10_copy mv_X10_copy ml_L_142 cf10 (yT0 _) (fun A => c_X10_copy l G A ay e2) (As := [.int (xs (j + 1)), .int (xs (j + 2)), .int (xs (j + 3)), .int (xs (j + 4)), .int (xs (j + 5))]) (rest := [.int r]) hl.1 rfl rfl (Nat.le_of_ble_eq_true rfl) ⟨rfl, rfl, Nat.le_of_ble_eq_true rfl, Nat.le_of_ble_eq_true rfl⟩ ⟨by show _ ≤ 600000; omega, by show _ ≤ 7302250; omega⟩ dL_law_1153 (fun H locs hw => ?_)
  refine lv_icmp_eq (tgt := 1398) C.1 C.2.1 dL_law_1156 (by decide) (fun _ => ?_) (fun hne => absurd rfl hne)
  exact KK ax I1 X1 S1 J1 nc1 ns1 nt1 H locs _ _ rfl h1 hw.swap (by omega) (by omega)
theorem lawc_31 (C : Cx G (fun q => s.heap.size ≤ q) p s m #[Value.ref b] meth c R_law cL_law 4 (some .boolean)) (hX : va_X b L xs s s.heap) (hbl : b < s.heap.size) (hL : L ≤ 384) (hj : j + 6 ≤ L) (h : Sm I X S J nc ns nt) (hw : LW G (fun q => s.heap.size ≤ q) ax ay s.heap (I, X, S) (J, YZ) H locs) (hl : lv_has ls 4 [(3, .int (nI j)), (0, .ref b), (1, .ref (ax 0)), (2, .ref (ay 0))]) (hc : cells + 2 ≤ 600000) (hs : slots + 99 ≤ 7302250) (KK : LKont p l e s m b below meth c Q G ay (ax 0) ls cells slots) : W p l e room_1 s m #[Value.ref b] below meth c H locs cells slots Q (F0 m 1161 ls []) := by
  have hbA : ¬ (fun q : Nat => s.heap.size ≤ q) b := Nat.not_le.mpr hbl
  refine lv_aload_n C.1 C.2.1 dL_law_1161 rfl (lv_at hl 2 rfl) ?_
  refine law_arg (k := 1) C hw hX hbl hbA hl (by decide) (by omega) hL dL_law_1162 dL_law_1163 dL_law_1164 dL_law_1165 dL_law_1166 ?_
  refine law_arg (k := 2) C hw hX hbl hbA hl (by decide) (by omega) hL dL_law_1167 dL_law_1168 dL_law_1169 dL_law_1170 dL_law_1171 ?_
  refine law_arg (k := 3) C hw hX hbl hbA hl (by decide) (by omega) hL dL_law_1172 dL_law_1173 dL_law_1174 dL_law_1175 dL_law_1176 ?_
  obtain ⟨r, I1, X1, S1, J1, nc1, ns1, nt1, e1, e2, h1⟩ := op_lay h (xs (j + 1)) (xs (j + 2)) (xs (j + 3))
  refine law_call C hw mf_X9_lay mv_X9_lay ml_L_143 cf9 (xT0 h.rs.la) (fun A => c_X9_lay l G A ax e1) (As := [.int (xs (j + 1)), .int (xs (j + 2)), .int (xs (j + 3))]) (rest := []) hl.1 rfl rfl (Nat.le_of_ble_eq_true rfl) ⟨rfl, rfl, Nat.le_of_ble_eq_true rfl, Nat.le_of_ble_eq_true rfl⟩ ⟨by show cells ≤ 600000; omega, by show slots ≤ 7302250; omega⟩ dL_law_1177 (fun H locs hw => ?_)
  refine lv_aload_n C.1 C.2.1 dL_law_1180 rfl (lv_at hl 3 rfl) ?_
  refine law_arg (k := 1) C hw hX hbl hbA hl (by decide) (by omega) hL dL_law_1181 dL_law_1182 dL_law_1183 dL_law_1184 dL_law_1185 ?_
  refine law_arg (k := 2) C hw hX hbl hbA hl (by decide) (by omega) hL dL_law_1186 dL_law_1187 dL_law_1188 dL_law_1189 dL_law_1190 ?_
  refine law_arg (k := 3) C hw hX hbl hbA hl (by decide) (by omega) hL dL_law_1191 dL_law_1192 dL_law_1193 dL_law_1194 dL_law_1195 ?_
  refine law_call C hw.swap mf_X10_lay mv_X10_lay ml_L_146 cf10 (yT0 _) (fun A => c_X10_lay l G A ay e2) (As := [.int (xs (j + 1)), .int (xs (j + 2)), .int (xs (j + 3))]) (rest := [.int r]) hl.1 rfl rfl (Nat.le_of_ble_eq_true rfl) ⟨rfl, rfl, Nat.le_of_ble_eq_true rfl, Nat.le_of_ble_eq_true rfl⟩ ⟨by show _ ≤ 600000; omega, by show _ ≤ 7302250; omega⟩ dL_law_1196 (fun H locs hw => ?_)
  refine lv_icmp_eq (tgt := 1398) C.1 C.2.1 dL_law_1199 (by decide) (fun _ => ?_) (fun hne => absurd rfl hne)
  exact KK ax I1 X1 S1 J1 nc1 ns1 nt1 H locs _ _ rfl h1 hw.swap (by omega) (by omega)
theorem lawc_32 (C : Cx G (fun q => s.heap.size ≤ q) p s m #[Value.ref b] meth c R_law cL_law 4 (some .boolean)) (hX : va_X b L xs s s.heap) (hbl : b < s.heap.size) (hL : L ≤ 384) (hj : j + 6 ≤ L) (h : Sm I X S J nc ns nt) (hw : LW G (fun q => s.heap.size ≤ q) ax ay s.heap (I, X, S) (J, YZ) H locs) (hl : lv_has ls 4 [(3, .int (nI j)), (0, .ref b), (1, .ref (ax 0)), (2, .ref (ay 0))]) (hc : cells + 2 ≤ 600000) (hs : slots + 99 ≤ 7302250) (KK : LKont p l e s m b below meth c Q G ay (ax 0) ls cells slots) : W p l e room_1 s m #[Value.ref b] below meth c H locs cells slots Q (F0 m 1204 ls []) := by
  have hbA : ¬ (fun q : Nat => s.heap.size ≤ q) b := Nat.not_le.mpr hbl
  refine lv_aload_n C.1 C.2.1 dL_law_1204 rfl (lv_at hl 2 rfl) ?_
  refine law_arg (k := 1) C hw hX hbl hbA hl (by decide) (by omega) hL dL_law_1205 dL_law_1206 dL_law_1207 dL_law_1208 dL_law_1209 ?_
  refine law_arg (k := 2) C hw hX hbl hbA hl (by decide) (by omega) hL dL_law_1210 dL_law_1211 dL_law_1212 dL_law_1213 dL_law_1214 ?_
  obtain ⟨r, I1, X1, S1, J1, nc1, ns1, nt1, e1, e2, h1⟩ := op_ask h (xs (j + 1)) (xs (j + 2))
  refine law_call C hw mf_X9_ask mv_X9_ask ml_L_147 cf9 (xT0 h.rs.la) (fun A => c_X9_ask l G A ax e1) (As := [.int (xs (j + 1)), .int (xs (j + 2))]) (rest := []) hl.1 rfl rfl (Nat.le_of_ble_eq_true rfl) ⟨rfl, rfl, Nat.le_of_ble_eq_true rfl, Nat.le_of_ble_eq_true rfl⟩ ⟨by show cells ≤ 600000; omega, by show slots ≤ 7302250; omega⟩ dL_law_1215 (fun H locs hw => ?_)
  refine lv_aload_n C.1 C.2.1 dL_law_1218 rfl (lv_at hl 3 rfl) ?_
  refine law_arg (k := 1) C hw hX hbl hbA hl (by decide) (by omega) hL dL_law_1219 dL_law_1220 dL_law_1221 dL_law_1222 dL_law_1223 ?_
  refine law_arg (k := 2) C hw hX hbl hbA hl (by decide) (by omega) hL dL_law_1224 dL_law_1225 dL_law_1226 dL_law_1227 dL_law_1228 ?_
  refine law_call C hw.swap mf_X10_ask mv_X10_ask ml_L_150 cf10 (yT0 _) (fun A => c_X10_ask l G A ay e2) (As := [.int (xs (j + 1)), .int (xs (j + 2))]) (rest := [.int r]) hl.1 rfl rfl (Nat.le_of_ble_eq_true rfl) ⟨rfl, rfl, Nat.le_of_ble_eq_true rfl, Nat.le_of_ble_eq_true rfl⟩ ⟨by show _ ≤ 600000; omega, by show _ ≤ 7302250; omega⟩ dL_law_1229 (fun H locs hw => ?_)
  refine lv_icmp_eq (tgt := 1398) C.1 C.2.1 dL_law_1232 (by decide) (fun _ => ?_) (fun hne => absurd rfl hne)
  exact KK ax I1 X1 S1 J1 nc1 ns1 nt1 H locs _ _ rfl h1 hw.swap (by omega) (by omega)
theorem lawc_33 (C : Cx G (fun q => s.heap.size ≤ q) p s m #[Value.ref b] meth c R_law cL_law 4 (some .boolean)) (hX : va_X b L xs s s.heap) (hbl : b < s.heap.size) (hL : L ≤ 384) (hj : j + 6 ≤ L) (h : Sm I X S J nc ns nt) (hw : LW G (fun q => s.heap.size ≤ q) ax ay s.heap (I, X, S) (J, YZ) H locs) (hl : lv_has ls 4 [(3, .int (nI j)), (0, .ref b), (1, .ref (ax 0)), (2, .ref (ay 0))]) (hc : cells + 2 ≤ 600000) (hs : slots + 99 ≤ 7302250) (KK : LKont p l e s m b below meth c Q G ay (ax 0) ls cells slots) : W p l e room_1 s m #[Value.ref b] below meth c H locs cells slots Q (F0 m 1237 ls []) := by
  have hbA : ¬ (fun q : Nat => s.heap.size ≤ q) b := Nat.not_le.mpr hbl
  refine lv_aload_n C.1 C.2.1 dL_law_1237 rfl (lv_at hl 2 rfl) ?_
  refine law_arg (k := 1) C hw hX hbl hbA hl (by decide) (by omega) hL dL_law_1238 dL_law_1239 dL_law_1240 dL_law_1241 dL_law_1242 ?_
  refine law_arg (k := 2) C hw hX hbl hbA hl (by decide) (by omega) hL dL_law_1243 dL_law_1244 dL_law_1245 dL_law_1246 dL_law_1247 ?_
  obtain ⟨r, I1, X1, S1, J1, nc1, ns1, nt1, e1, e2, h1⟩ := op_item h (xs (j + 1)) (xs (j + 2))
  refine law_call C hw mf_X9_item mv_X9_item ml_L_151 cf9 (xT0 h.rs.la) (fun A => c_X9_item l G A ax e1) (As := [.int (xs (j + 1)), .int (xs (j + 2))]) (rest := []) hl.1 rfl rfl (Nat.le_of_ble_eq_true rfl) ⟨rfl, rfl, Nat.le_of_ble_eq_true rfl, Nat.le_of_ble_eq_true rfl⟩ ⟨by show cells ≤ 600000; omega, by show slots ≤ 7302250; omega⟩ dL_law_1248 (fun H locs hw => ?_)
  refine lv_aload_n C.1 C.2.1 dL_law_1251 rfl (lv_at hl 3 rfl) ?_
  refine law_arg (k := 1) C hw hX hbl hbA hl (by decide) (by omega) hL dL_law_1252 dL_law_1253 dL_law_1254 dL_law_1255 dL_law_1256 ?_
  refine law_arg (k := 2) C hw hX hbl hbA hl (by decide) (by omega) hL dL_law_1257 dL_law_1258 dL_law_1259 dL_law_1260 dL_law_1261 ?_
  refine law_call C hw.swap mf_X10_item mv_X10_item ml_L_154 cf10 (yT0 _) (fun A => c_X10_item l G A ay e2) (As := [.int (xs (j + 1)), .int (xs (j + 2))]) (rest := [.int r]) hl.1 rfl rfl (Nat.le_of_ble_eq_true rfl) ⟨rfl, rfl, Nat.le_of_ble_eq_true rfl, Nat.le_of_ble_eq_true rfl⟩ ⟨by show _ ≤ 600000; omega, by show _ ≤ 7302250; omega⟩ dL_law_1262 (fun H locs hw => ?_)
  refine lv_icmp_eq (tgt := 1398) C.1 C.2.1 dL_law_1265 (by decide) (fun _ => ?_) (fun hne => absurd rfl hne)
  exact KK ax I1 X1 S1 J1 nc1 ns1 nt1 H locs _ _ rfl h1 hw.swap (by omega) (by omega)
theorem lawc_34 (C : Cx G (fun q => s.heap.size ≤ q) p s m #[Value.ref b] meth c R_law cL_law 4 (some .boolean)) (hX : va_X b L xs s s.heap) (hbl : b < s.heap.size) (hL : L ≤ 384) (hj : j + 6 ≤ L) (h : Sm I X S J nc ns nt) (hw : LW G (fun q => s.heap.size ≤ q) ax ay s.heap (I, X, S) (J, YZ) H locs) (hl : lv_has ls 4 [(3, .int (nI j)), (0, .ref b), (1, .ref (ax 0)), (2, .ref (ay 0))]) (hc : cells + 2 ≤ 600000) (hs : slots + 99 ≤ 7302250) (KK : LKont p l e s m b below meth c Q G ay (ax 0) ls cells slots) : W p l e room_1 s m #[Value.ref b] below meth c H locs cells slots Q (F0 m 1270 ls []) := by
  have hbA : ¬ (fun q : Nat => s.heap.size ≤ q) b := Nat.not_le.mpr hbl
  refine lv_aload_n C.1 C.2.1 dL_law_1270 rfl (lv_at hl 2 rfl) ?_
  refine law_arg (k := 1) C hw hX hbl hbA hl (by decide) (by omega) hL dL_law_1271 dL_law_1272 dL_law_1273 dL_law_1274 dL_law_1275 ?_
  refine law_arg (k := 2) C hw hX hbl hbA hl (by decide) (by omega) hL dL_law_1276 dL_law_1277 dL_law_1278 dL_law_1279 dL_law_1280 ?_
  obtain ⟨r, I1, X1, S1, J1, nc1, ns1, nt1, e1, e2, h1⟩ := op_rest h (xs (j + 1)) (xs (j + 2))
  refine law_call C hw mf_X9_rest mv_X9_rest ml_L_155 cf9 (xT0 h.rs.la) (fun A => c_X9_rest l G A ax e1) (As := [.int (xs (j + 1)), .int (xs (j + 2))]) (rest := []) hl.1 rfl rfl (Nat.le_of_ble_eq_true rfl) ⟨rfl, rfl, Nat.le_of_ble_eq_true rfl, Nat.le_of_ble_eq_true rfl⟩ ⟨by show cells ≤ 600000; omega, by show slots ≤ 7302250; omega⟩ dL_law_1281 (fun H locs hw => ?_)
  refine lv_aload_n C.1 C.2.1 dL_law_1284 rfl (lv_at hl 3 rfl) ?_
  refine law_arg (k := 1) C hw hX hbl hbA hl (by decide) (by omega) hL dL_law_1285 dL_law_1286 dL_law_1287 dL_law_1288 dL_law_1289 ?_
  refine law_arg (k := 2) C hw hX hbl hbA hl (by decide) (by omega) hL dL_law_1290 dL_law_1291 dL_law_1292 dL_law_1293 dL_law_1294 ?_
  refine law_call C hw.swap mf_X10_rest mv_X10_rest ml_L_158 cf10 (yT0 _) (fun A => c_X10_rest l G A ay e2) (As := [.int (xs (j + 1)), .int (xs (j + 2))]) (rest := [.int r]) hl.1 rfl rfl (Nat.le_of_ble_eq_true rfl) ⟨rfl, rfl, Nat.le_of_ble_eq_true rfl, Nat.le_of_ble_eq_true rfl⟩ ⟨by show _ ≤ 600000; omega, by show _ ≤ 7302250; omega⟩ dL_law_1295 (fun H locs hw => ?_)
  refine lv_icmp_eq (tgt := 1398) C.1 C.2.1 dL_law_1298 (by decide) (fun _ => ?_) (fun hne => absurd rfl hne)
  exact KK ax I1 X1 S1 J1 nc1 ns1 nt1 H locs _ _ rfl h1 hw.swap (by omega) (by omega)
theorem lawc_35 (C : Cx G (fun q => s.heap.size ≤ q) p s m #[Value.ref b] meth c R_law cL_law 4 (some .boolean)) (hX : va_X b L xs s s.heap) (hbl : b < s.heap.size) (hL : L ≤ 384) (hj : j + 6 ≤ L) (h : Sm I X S J nc ns nt) (hw : LW G (fun q => s.heap.size ≤ q) ax ay s.heap (I, X, S) (J, YZ) H locs) (hl : lv_has ls 4 [(3, .int (nI j)), (0, .ref b), (1, .ref (ax 0)), (2, .ref (ay 0))]) (hc : cells + 2 ≤ 600000) (hs : slots + 99 ≤ 7302250) (KK : LKont p l e s m b below meth c Q G ay (ax 0) ls cells slots) : W p l e room_1 s m #[Value.ref b] below meth c H locs cells slots Q (F0 m 1303 ls []) := by
  have hbA : ¬ (fun q : Nat => s.heap.size ≤ q) b := Nat.not_le.mpr hbl
  refine lv_aload_n C.1 C.2.1 dL_law_1303 rfl (lv_at hl 2 rfl) ?_
  refine law_arg (k := 1) C hw hX hbl hbA hl (by decide) (by omega) hL dL_law_1304 dL_law_1305 dL_law_1306 dL_law_1307 dL_law_1308 ?_
  obtain ⟨r, I1, X1, S1, J1, nc1, ns1, nt1, e1, e2, h1⟩ := op_tell h (xs (j + 1))
  refine law_call C hw mf_X9_tell mv_X9_tell ml_L_159 cf9 (xT0 h.rs.la) (fun A => c_X9_tell l G A ax e1) (As := [.int (xs (j + 1))]) (rest := []) hl.1 rfl rfl (Nat.le_of_ble_eq_true rfl) ⟨rfl, rfl, Nat.le_of_ble_eq_true rfl, Nat.le_of_ble_eq_true rfl⟩ ⟨by show cells ≤ 600000; omega, by show slots ≤ 7302250; omega⟩ dL_law_1309 (fun H locs hw => ?_)
  refine lv_aload_n C.1 C.2.1 dL_law_1312 rfl (lv_at hl 3 rfl) ?_
  refine law_arg (k := 1) C hw hX hbl hbA hl (by decide) (by omega) hL dL_law_1313 dL_law_1314 dL_law_1315 dL_law_1316 dL_law_1317 ?_
  refine law_call C hw.swap mf_X10_tell mv_X10_tell ml_L_162 cf10 (yT0 _) (fun A => c_X10_tell l G A ay e2) (As := [.int (xs (j + 1))]) (rest := [.int r]) hl.1 rfl rfl (Nat.le_of_ble_eq_true rfl) ⟨rfl, rfl, Nat.le_of_ble_eq_true rfl, Nat.le_of_ble_eq_true rfl⟩ ⟨by show _ ≤ 600000; omega, by show _ ≤ 7302250; omega⟩ dL_law_1318 (fun H locs hw => ?_)
  refine lv_icmp_eq (tgt := 1398) C.1 C.2.1 dL_law_1321 (by decide) (fun _ => ?_) (fun hne => absurd rfl hne)
  exact KK ax I1 X1 S1 J1 nc1 ns1 nt1 H locs _ _ rfl h1 hw.swap (by omega) (by omega)
theorem lawc_36 (C : Cx G (fun q => s.heap.size ≤ q) p s m #[Value.ref b] meth c R_law cL_law 4 (some .boolean)) (hX : va_X b L xs s s.heap) (hbl : b < s.heap.size) (hL : L ≤ 384) (hj : j + 6 ≤ L) (h : Sm I X S J nc ns nt) (hw : LW G (fun q => s.heap.size ≤ q) ax ay s.heap (I, X, S) (J, YZ) H locs) (hl : lv_has ls 4 [(3, .int (nI j)), (0, .ref b), (1, .ref (ax 0)), (2, .ref (ay 0))]) (hc : cells + 2 ≤ 600000) (hs : slots + 99 ≤ 7302250) (KK : LKont p l e s m b below meth c Q G ay (ax 0) ls cells slots) : W p l e room_1 s m #[Value.ref b] below meth c H locs cells slots Q (F0 m 1326 ls []) := by
  have hbA : ¬ (fun q : Nat => s.heap.size ≤ q) b := Nat.not_le.mpr hbl
  refine lv_aload_n C.1 C.2.1 dL_law_1326 rfl (lv_at hl 2 rfl) ?_
  refine law_arg (k := 1) C hw hX hbl hbA hl (by decide) (by omega) hL dL_law_1327 dL_law_1328 dL_law_1329 dL_law_1330 dL_law_1331 ?_
  obtain ⟨r, I1, X1, S1, J1, nc1, ns1, nt1, e1, e2, h1⟩ := op_check h (xs (j + 1))
  refine law_call C hw mf_X9_check mv_X9_check ml_L_163 cf9 (xT0 h.rs.la) (fun A => c_X9_check l G A ax e1) (As := [.int (xs (j + 1))]) (rest := []) hl.1 rfl rfl (Nat.le_of_ble_eq_true rfl) ⟨rfl, rfl, Nat.le_of_ble_eq_true rfl, Nat.le_of_ble_eq_true rfl⟩ ⟨by show cells ≤ 600000; omega, by show slots ≤ 7302250; omega⟩ dL_law_1332 (fun H locs hw => ?_)
  refine lv_aload_n C.1 C.2.1 dL_law_1335 rfl (lv_at hl 3 rfl) ?_
  refine law_arg (k := 1) C hw hX hbl hbA hl (by decide) (by omega) hL dL_law_1336 dL_law_1337 dL_law_1338 dL_law_1339 dL_law_1340 ?_
  refine law_call C hw.swap mf_X10_check mv_X10_check ml_L_166 cf10 (yT0 _) (fun A => c_X10_check l G A ay e2) (As := [.int (xs (j + 1))]) (rest := [.int r]) hl.1 rfl rfl (Nat.le_of_ble_eq_true rfl) ⟨rfl, rfl, Nat.le_of_ble_eq_true rfl, Nat.le_of_ble_eq_true rfl⟩ ⟨by show _ ≤ 600000; omega, by show _ ≤ 7302250; omega⟩ dL_law_1341 (fun H locs hw => ?_)
  refine lv_icmp_eq (tgt := 1398) C.1 C.2.1 dL_law_1344 (by decide) (fun _ => ?_) (fun hne => absurd rfl hne)
  exact KK ax I1 X1 S1 J1 nc1 ns1 nt1 H locs _ _ rfl h1 hw.swap (by omega) (by omega)
theorem lawc_37 (C : Cx G (fun q => s.heap.size ≤ q) p s m #[Value.ref b] meth c R_law cL_law 4 (some .boolean)) (hX : va_X b L xs s s.heap) (hbl : b < s.heap.size) (hL : L ≤ 384) (hj : j + 6 ≤ L) (h : Sm I X S J nc ns nt) (hw : LW G (fun q => s.heap.size ≤ q) ax ay s.heap (I, X, S) (J, YZ) H locs) (hl : lv_has ls 4 [(3, .int (nI j)), (0, .ref b), (1, .ref (ax 0)), (2, .ref (ay 0))]) (hc : cells + 2 ≤ 600000) (hs : slots + 99 ≤ 7302250) (KK : LKont p l e s m b below meth c Q G ay (ax 0) ls cells slots) : W p l e room_1 s m #[Value.ref b] below meth c H locs cells slots Q (F0 m 1349 ls []) := by
  have hbA : ¬ (fun q : Nat => s.heap.size ≤ q) b := Nat.not_le.mpr hbl
  refine lv_aload_n C.1 C.2.1 dL_law_1349 rfl (lv_at hl 2 rfl) ?_
  obtain ⟨r, I1, X1, S1, J1, nc1, ns1, nt1, e1, e2, h1⟩ := op_keep h 
  refine law_call C hw mf_X9_keep mv_X9_keep ml_L_167 cf9 (xT0 h.rs.la) (fun A => c_X9_keep l G A ax e1) (As := []) (rest := []) hl.1 rfl rfl (Nat.le_of_ble_eq_true rfl) ⟨rfl, rfl, Nat.le_of_ble_eq_true rfl, Nat.le_of_ble_eq_true rfl⟩ ⟨by show cells ≤ 600000; omega, by show slots ≤ 7302250; omega⟩ dL_law_1350 (fun H locs hw => ?_)
  refine lv_aload_n C.1 C.2.1 dL_law_1353 rfl (lv_at hl 3 rfl) ?_
  refine law_call C hw.swap mf_X10_keep mv_X10_keep ml_L_170 cf10 (yT0 _) (fun A => c_X10_keep l G A ay e2) (As := []) (rest := [.int r]) hl.1 rfl rfl (Nat.le_of_ble_eq_true rfl) ⟨rfl, rfl, Nat.le_of_ble_eq_true rfl, Nat.le_of_ble_eq_true rfl⟩ ⟨by show _ ≤ 600000; omega, by show _ ≤ 7302250; omega⟩ dL_law_1354 (fun H locs hw => ?_)
  refine lv_icmp_eq (tgt := 1398) C.1 C.2.1 dL_law_1357 (by decide) (fun _ => ?_) (fun hne => absurd rfl hne)
  exact KK ax I1 X1 S1 J1 nc1 ns1 nt1 H locs _ _ rfl h1 hw.swap (by omega) (by omega)
theorem lawc_38 (C : Cx G (fun q => s.heap.size ≤ q) p s m #[Value.ref b] meth c R_law cL_law 4 (some .boolean)) (hX : va_X b L xs s s.heap) (hbl : b < s.heap.size) (hL : L ≤ 384) (hj : j + 6 ≤ L) (h : Sm I X S J nc ns nt) (hw : LW G (fun q => s.heap.size ≤ q) ax ay s.heap (I, X, S) (J, YZ) H locs) (hl : lv_has ls 4 [(3, .int (nI j)), (0, .ref b), (1, .ref (ax 0)), (2, .ref (ay 0))]) (hc : cells + 2 ≤ 600000) (hs : slots + 99 ≤ 7302250) (KK : LKont p l e s m b below meth c Q G ay (ax 0) ls cells slots) : W p l e room_1 s m #[Value.ref b] below meth c H locs cells slots Q (F0 m 1362 ls []) := by
  have hbA : ¬ (fun q : Nat => s.heap.size ≤ q) b := Nat.not_le.mpr hbl
  refine lv_aload_n C.1 C.2.1 dL_law_1362 rfl (lv_at hl 2 rfl) ?_
  obtain ⟨r, I1, X1, S1, J1, nc1, ns1, nt1, e1, e2, h1⟩ := op_back h 
  refine law_call C hw mf_X9_back mv_X9_back ml_L_171 cf9 (xT0 h.rs.la) (fun A => c_X9_back l G A ax e1) (As := []) (rest := []) hl.1 rfl rfl (Nat.le_of_ble_eq_true rfl) ⟨rfl, rfl, Nat.le_of_ble_eq_true rfl, Nat.le_of_ble_eq_true rfl⟩ ⟨by show cells ≤ 600000; omega, by show slots ≤ 7302250; omega⟩ dL_law_1363 (fun H locs hw => ?_)
  refine lv_aload_n C.1 C.2.1 dL_law_1366 rfl (lv_at hl 3 rfl) ?_
  refine law_call C hw.swap mf_X10_back mv_X10_back ml_L_174 cf10 (yT0 _) (fun A => c_X10_back l G A ay e2) (As := []) (rest := [.int r]) hl.1 rfl rfl (Nat.le_of_ble_eq_true rfl) ⟨rfl, rfl, Nat.le_of_ble_eq_true rfl, Nat.le_of_ble_eq_true rfl⟩ ⟨by show _ ≤ 600000; omega, by show _ ≤ 7302250; omega⟩ dL_law_1367 (fun H locs hw => ?_)
  refine lv_icmp_eq (tgt := 1398) C.1 C.2.1 dL_law_1370 (by decide) (fun _ => ?_) (fun hne => absurd rfl hne)
  exact KK ax I1 X1 S1 J1 nc1 ns1 nt1 H locs _ _ rfl h1 hw.swap (by omega) (by omega)
theorem lawc_39 (C : Cx G (fun q => s.heap.size ≤ q) p s m #[Value.ref b] meth c R_law cL_law 4 (some .boolean)) (hX : va_X b L xs s s.heap) (hbl : b < s.heap.size) (hL : L ≤ 384) (hj : j + 6 ≤ L) (h : Sm I X S J nc ns nt) (hw : LW G (fun q => s.heap.size ≤ q) ax ay s.heap (I, X, S) (J, YZ) H locs) (hl : lv_has ls 4 [(3, .int (nI j)), (0, .ref b), (1, .ref (ax 0)), (2, .ref (ay 0))]) (hc : cells + 2 ≤ 600000) (hs : slots + 99 ≤ 7302250) (KK : LKont p l e s m b below meth c Q G ay (ax 0) ls cells slots) : W p l e room_1 s m #[Value.ref b] below meth c H locs cells slots Q (F0 m 1375 ls []) := by
  have hbA : ¬ (fun q : Nat => s.heap.size ≤ q) b := Nat.not_le.mpr hbl
  refine lv_aload_n C.1 C.2.1 dL_law_1375 rfl (lv_at hl 2 rfl) ?_
  refine law_arg (k := 1) C hw hX hbl hbA hl (by decide) (by omega) hL dL_law_1376 dL_law_1377 dL_law_1378 dL_law_1379 dL_law_1380 ?_
  obtain ⟨r, I1, X1, S1, J1, nc1, ns1, nt1, e1, e2, h1⟩ := op_count h (xs (j + 1))
  refine law_call C hw mf_X9_count mv_X9_count ml_L_175 cf9 (xT0 h.rs.la) (fun A => c_X9_count l G A ax e1) (As := [.int (xs (j + 1))]) (rest := []) hl.1 rfl rfl (Nat.le_of_ble_eq_true rfl) ⟨rfl, rfl, Nat.le_of_ble_eq_true rfl, Nat.le_of_ble_eq_true rfl⟩ ⟨by show cells ≤ 600000; omega, by show slots ≤ 7302250; omega⟩ dL_law_1381 (fun H locs hw => ?_)
  refine lv_aload_n C.1 C.2.1 dL_law_1384 rfl (lv_at hl 3 rfl) ?_
  refine law_arg (k := 1) C hw hX hbl hbA hl (by decide) (by omega) hL dL_law_1385 dL_law_1386 dL_law_1387 dL_law_1388 dL_law_1389 ?_
  refine law_call C hw.swap mf_X10_count mv_X10_count ml_L_178 cf10 (yT0 _) (fun A => c_X10_count l G A ay e2) (As := [.int (xs (j + 1))]) (rest := [.int r]) hl.1 rfl rfl (Nat.le_of_ble_eq_true rfl) ⟨rfl, rfl, Nat.le_of_ble_eq_true rfl, Nat.le_of_ble_eq_true rfl⟩ ⟨by show _ ≤ 600000; omega, by show _ ≤ 7302250; omega⟩ dL_law_1390 (fun H locs hw => ?_)
  refine lv_icmp_eq (tgt := 1398) C.1 C.2.1 dL_law_1393 (by decide) (fun _ => ?_) (fun hne => absurd rfl hne)
  exact KK ax I1 X1 S1 J1 nc1 ns1 nt1 H locs _ _ rfl h1 hw.swap (by omega) (by omega)
theorem law_at (C : Cx G (fun q => s.heap.size ≤ q) p s m #[Value.ref b] meth c R_law cL_law 4 (some .boolean)) (hX : va_X b L xs s s.heap) (hbl : b < s.heap.size) (hL : L ≤ 384) (hj : j + 6 ≤ L) (h : Sm I X S J nc ns nt) (hw : LW G (fun q => s.heap.size ≤ q) ax ay s.heap (I, X, S) (J, YZ) H locs) (hl : lv_has ls 4 [(3, .int (nI j)), (0, .ref b), (1, .ref (ax 0)), (2, .ref (ay 0))]) (hc : cells + 2 ≤ 600000) (hs : slots + 99 ≤ 7302250) (KK : LKont p l e s m b below meth c Q G ay (ax 0) ls cells slots) {n : Nat} (hn : n < 40) (hx : xs j &&& 63 = nI n) : W p l e room_1 s m #[Value.ref b] below meth c H locs cells slots Q (F0 m 33 ls [.int (xs j &&& 63)]) := by
  match n, hn, hx with
  | 0, _, hx => exact r_tabIn (nI 0) hx C.1 C.2.1 dL_law_33 (by decide) (by decide) (off := 175) (by decide +kernel) (tgt := 208) (by decide) (lawc_0 C hX hbl hL hj h hw hl hc hs KK)
  | 1, _, hx => exact r_tabIn (nI 1) hx C.1 C.2.1 dL_law_33 (by decide) (by decide) (off := 228) (by decide +kernel) (tgt := 261) (by decide) (lawc_1 C hX hbl hL hj h hw hl hc hs KK)
  | 2, _, hx => exact r_tabIn (nI 2) hx C.1 C.2.1 dL_law_33 (by decide) (by decide) (off := 261) (by decide +kernel) (tgt := 294) (by decide) (lawc_2 C hX hbl hL hj h hw hl hc hs KK)
  | 3, _, hx => exact r_tabIn (nI 3) hx C.1 C.2.1 dL_law_33 (by decide) (by decide) (off := 294) (by decide +kernel) (tgt := 327) (by decide) (lawc_3 C hX hbl hL hj h hw hl hc hs KK)
  | 4, _, hx => exact r_tabIn (nI 4) hx C.1 C.2.1 dL_law_33 (by decide) (by decide) (off := 327) (by decide +kernel) (tgt := 360) (by decide) (lawc_4 C hX hbl hL hj h hw hl hc hs KK)
  | 5, _, hx => exact r_tabIn (nI 5) hx C.1 C.2.1 dL_law_33 (by decide) (by decide) (off := 370) (by decide +kernel) (tgt := 403) (by decide) (lawc_5 C hX hbl hL hj h hw hl hc hs KK)
  | 6, _, hx => exact r_tabIn (nI 6) hx C.1 C.2.1 dL_law_33 (by decide) (by decide) (off := 403) (by decide +kernel) (tgt := 436) (by decide) (lawc_6 C hX hbl hL hj h hw hl hc hs KK)
  | 7, _, hx => exact r_tabIn (nI 7) hx C.1 C.2.1 dL_law_33 (by decide) (by decide) (off := 436) (by decide +kernel) (tgt := 469) (by decide) (lawc_7 C hX hbl hL hj h hw hl hc hs KK)
  | 8, _, hx => exact r_tabIn (nI 8) hx C.1 C.2.1 dL_law_33 (by decide) (by decide) (off := 469) (by decide +kernel) (tgt := 502) (by decide) (lawc_8 C hX hbl hL hj h hw hl hc hs KK)
  | 9, _, hx => exact r_tabIn (nI 9) hx C.1 C.2.1 dL_law_33 (by decide) (by decide) (off := 502) (by decide +kernel) (tgt := 535) (by decide) (lawc_9 C hX hbl hL hj h hw hl hc hs KK)
  | 10, _, hx => exact r_tabIn (nI 10) hx C.1 C.2.1 dL_law_33 (by decide) (by decide) (off := 535) (by decide +kernel) (tgt := 568) (by decide) (lawc_10 C hX hbl hL hj h hw hl hc hs KK)
  | 11, _, hx => exact r_tabIn (nI 11) hx C.1 C.2.1 dL_law_33 (by decide) (by decide) (off := 558) (by decide +kernel) (tgt := 591) (by decide) (lawc_11 C hX hbl hL hj h hw hl hc hs KK)
  | 12, _, hx => exact r_tabIn (nI 12) hx C.1 C.2.1 dL_law_33 (by decide) (by decide) (off := 581) (by decide +kernel) (tgt := 614) (by decide) (lawc_12 C hX hbl hL hj h hw hl hc hs KK)
  | 13, _, hx => exact r_tabIn (nI 13) hx C.1 C.2.1 dL_law_33 (by decide) (by decide) (off := 614) (by decide +kernel) (tgt := 647) (by decide) (lawc_13 C hX hbl hL hj h hw hl hc hs KK)
  | 14, _, hx => exact r_tabIn (nI 14) hx C.1 C.2.1 dL_law_33 (by decide) (by decide) (off := 627) (by decide +kernel) (tgt := 660) (by decide) (lawc_14 C hX hbl hL hj h hw hl hc hs KK)
  | 15, _, hx => exact r_tabIn (nI 15) hx C.1 C.2.1 dL_law_33 (by decide) (by decide) (off := 650) (by decide +kernel) (tgt := 683) (by decide) (lawc_15 C hX hbl hL hj h hw hl hc hs KK)
  | 16, _, hx => exact r_tabIn (nI 16) hx C.1 C.2.1 dL_law_33 (by decide) (by decide) (off := 683) (by decide +kernel) (tgt := 716) (by decide) (lawc_16 C hX hbl hL hj h hw hl hc hs KK)
  | 17, _, hx => exact r_tabIn (nI 17) hx C.1 C.2.1 dL_law_33 (by decide) (by decide) (off := 706) (by decide +kernel) (tgt := 739) (by decide) (lawc_17 C hX hbl hL hj h hw hl hc hs KK)
  | 18, _, hx => exact r_tabIn (nI 18) hx C.1 C.2.1 dL_law_33 (by decide) (by decide) (off := 729) (by decide +kernel) (tgt := 762) (by decide) (lawc_18 C hX hbl hL hj h hw hl hc hs KK)
  | 19, _, hx => exact r_tabIn (nI 19) hx C.1 C.2.1 dL_law_33 (by decide) (by decide) (off := 762) (by decide +kernel) (tgt := 795) (by decide) (lawc_19 C hX hbl hL hj h hw hl hc hs KK)
  | 20, _, hx => exact r_tabIn (nI 20) hx C.1 C.2.1 dL_law_33 (by decide) (by decide) (off := 785) (by decide +kernel) (tgt := 818) (by decide) (lawc_20 C hX hbl hL hj h hw hl hc hs KK)
  | 21, _, hx => exact r_tabIn (nI 21) hx C.1 C.2.1 dL_law_33 (by decide) (by decide) (off := 798) (by decide +kernel) (tgt := 831) (by decide) (lawc_21 C hX hbl hL hj h hw hl hc hs KK)
  | 22, _, hx => exact r_tabIn (nI 22) hx C.1 C.2.1 dL_law_33 (by decide) (by decide) (off := 841) (by decide +kernel) (tgt := 874) (by decide) (lawc_22 C hX hbl hL hj h hw hl hc hs KK)
  | 23, _, hx => exact r_tabIn (nI 23) hx C.1 C.2.1 dL_law_33 (by decide) (by decide) (off := 864) (by decide +kernel) (tgt := 897) (by decide) (lawc_23 C hX hbl hL hj h hw hl hc hs KK)
  | 24, _, hx => exact r_tabIn (nI 24) hx C.1 C.2.1 dL_law_33 (by decide) (by decide) (off := 877) (by decide +kernel) (tgt := 910) (by decide) (lawc_24 C hX hbl hL hj h hw hl hc hs KK)
  | 25, _, hx => exact r_tabIn (nI 25) hx C.1 C.2.1 dL_law_33 (by decide) (by decide) (off := 910) (by decide +kernel) (tgt := 943) (by decide) (lawc_25 C hX hbl hL hj h hw hl hc hs KK)
  | 26, _, hx => exact r_tabIn (nI 26) hx C.1 C.2.1 dL_law_33 (by decide) (by decide) (off := 933) (by decide +kernel) (tgt := 966) (by decide) (lawc_26 C hX hbl hL hj h hw hl hc hs KK)
  | 27, _, hx => exact r_tabIn (nI 27) hx C.1 C.2.1 dL_law_33 (by decide) (by decide) (off := 976) (by decide +kernel) (tgt := 1009) (by decide) (lawc_27 C hX hbl hL hj h hw hl hc hs KK)
  | 28, _, hx => exact r_tabIn (nI 28) hx C.1 C.2.1 dL_law_33 (by decide) (by decide) (off := 1019) (by decide +kernel) (tgt := 1052) (by decide) (lawc_28 C hX hbl hL hj h hw hl hc hs KK)
  | 29, _, hx => exact r_tabIn (nI 29) hx C.1 C.2.1 dL_law_33 (by decide) (by decide) (off := 1042) (by decide +kernel) (tgt := 1075) (by decide) (lawc_29 C hX hbl hL hj h hw hl hc hs KK)
  | 30, _, hx => exact r_tabIn (nI 30) hx C.1 C.2.1 dL_law_33 (by decide) (by decide) (off := 1065) (by decide +kernel) (tgt := 1098) (by decide) (lawc_30 C hX hbl hL hj h hw hl hc hs KK)
  | 31, _, hx => exact r_tabIn (nI 31) hx C.1 C.2.1 dL_law_33 (by decide) (by decide) (off := 1128) (by decide +kernel) (tgt := 1161) (by decide) (lawc_31 C hX hbl hL hj h hw hl hc hs KK)
  | 32, _, hx => exact r_tabIn (nI 32) hx C.1 C.2.1 dL_law_33 (by decide) (by decide) (off := 1171) (by decide +kernel) (tgt := 1204) (by decide) (lawc_32 C hX hbl hL hj h hw hl hc hs KK)
  | 33, _, hx => exact r_tabIn (nI 33) hx C.1 C.2.1 dL_law_33 (by decide) (by decide) (off := 1204) (by decide +kernel) (tgt := 1237) (by decide) (lawc_33 C hX hbl hL hj h hw hl hc hs KK)
  | 34, _, hx => exact r_tabIn (nI 34) hx C.1 C.2.1 dL_law_33 (by decide) (by decide) (off := 1237) (by decide +kernel) (tgt := 1270) (by decide) (lawc_34 C hX hbl hL hj h hw hl hc hs KK)
  | 35, _, hx => exact r_tabIn (nI 35) hx C.1 C.2.1 dL_law_33 (by decide) (by decide) (off := 1270) (by decide +kernel) (tgt := 1303) (by decide) (lawc_35 C hX hbl hL hj h hw hl hc hs KK)
  | 36, _, hx => exact r_tabIn (nI 36) hx C.1 C.2.1 dL_law_33 (by decide) (by decide) (off := 1293) (by decide +kernel) (tgt := 1326) (by decide) (lawc_36 C hX hbl hL hj h hw hl hc hs KK)
  | 37, _, hx => exact r_tabIn (nI 37) hx C.1 C.2.1 dL_law_33 (by decide) (by decide) (off := 1316) (by decide +kernel) (tgt := 1349) (by decide) (lawc_37 C hX hbl hL hj h hw hl hc hs KK)
  | 38, _, hx => exact r_tabIn (nI 38) hx C.1 C.2.1 dL_law_33 (by decide) (by decide) (off := 1329) (by decide +kernel) (tgt := 1362) (by decide) (lawc_38 C hX hbl hL hj h hw hl hc hs KK)
  | 39, _, hx => exact r_tabIn (nI 39) hx C.1 C.2.1 dL_law_33 (by decide) (by decide) (off := 1342) (by decide +kernel) (tgt := 1375) (by decide) (lawc_39 C hX hbl hL hj h hw hl hc hs KK)
  | k + 40, hn, _ => exact absurd hn (by omega)
theorem law_switch (C : Cx G (fun q => s.heap.size ≤ q) p s m #[Value.ref b] meth c R_law cL_law 4 (some .boolean)) (hX : va_X b L xs s s.heap) (hbl : b < s.heap.size) (hL : L ≤ 384) (hj : j + 6 ≤ L) (h : Sm I X S J nc ns nt) (hw : LW G (fun q => s.heap.size ≤ q) ax ay s.heap (I, X, S) (J, YZ) H locs) (hl : lv_has ls 4 [(3, .int (nI j)), (0, .ref b), (1, .ref (ax 0)), (2, .ref (ay 0))]) (hc : cells + 2 ≤ 600000) (hs : slots + 99 ≤ 7302250) (KK : LKont p l e s m b below meth c Q G ay (ax 0) ls cells slots) : W p l e room_1 s m #[Value.ref b] below meth c H locs cells slots Q (F0 m 33 ls [.int (xs j &&& 63)]) := by
  by_cases q : 0 ≤ (xs j &&& 63).toInt ∧ (xs j &&& 63).toInt ≤ 39
  · obtain ⟨n, hn, e⟩ : ∃ n : Nat, n < 40 ∧ xs j &&& 63 = nI n := by
      refine ⟨(xs j &&& 63).toInt.toNat, by omega, ?_⟩
      apply Int32.toInt_inj.mp
      rw [nI_toInt (by omega)]
      omega
    exact law_at C hX hbl hL hj h hw hl hc hs KK hn e
  · refine r_tabOut C.1 C.2.1 dL_law_33 (by omega) (tgt := 1398) (by decide) ?_
    exact KK ax I X S J nc ns nt H locs _ _ rfl h hw (by omega) (by omega)
end LawB
