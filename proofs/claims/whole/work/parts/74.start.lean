/-! WHAT IS KNOWN at the law's entry -/
def skT (i : Nat) : Term := .string RX1 ([127, 133, 135, 137, 139, 141].getD i 0)
def tyL : List FieldType := [.int, .boolean, .char, .object RX0, .object RX5, .object RX7, .object RX2, .object RX3]
theorem sTy_at {cy : Nat → ClassId} {k : Nat} {q : ClassId × FieldType} (h : (sTy cy)[k]? = some q) : q.1 = cy k ∧ tyL[k]? = some q.2 := by
  match k, h with
  | 0, h => cases h; exact ⟨rfl, rfl⟩
  | 1, h => cases h; exact ⟨rfl, rfl⟩
  | 2, h => cases h; exact ⟨rfl, rfl⟩
  | 3, h => cases h; exact ⟨rfl, rfl⟩
  | 4, h => cases h; exact ⟨rfl, rfl⟩
  | 5, h => cases h; exact ⟨rfl, rfl⟩
  | 6, h => cases h; exact ⟨rfl, rfl⟩
  | 7, h => cases h; exact ⟨rfl, rfl⟩
  | k + 8, h => simp [sTy] at h
theorem gw_len : Cond.eq (.length (.static "StorkVote" "KIND_ABOVE" "[I")) (.int (Int32.ofNat 6)) ∈ flatC (Jvm.Cond.and given_1 narrow_1) := by decide +kernel
theorem gw_arr : Cond.arrayOf (.static "StorkVote" "KIND_ABOVE" "[I") .int ∈ flatC (Jvm.Cond.and given_1 narrow_1) := by decide +kernel
theorem gw_el : ∀ j, j < 6 → Cond.eq (.elem (.static "StorkVote" "KIND_ABOVE" "[I") (.int (Int32.ofNat j))) (.int (kaF.getD j 0)) ∈ flatC (Jvm.Cond.and given_1 narrow_1) := by decide +kernel
theorem gw_cs : Cond.eq (.static "java/lang/String" "COMPACT_STRINGS" "Z") (.int 1) ∈ flatC (Jvm.Cond.and given_1 narrow_1) := by decide +kernel
theorem gw_fm : Cond.isRef (.static "jdk/internal/util/Preconditions" "SIOOBE_FORMATTER" "Ljava/util/function/BiFunction;") ∈ flatC (Jvm.Cond.and given_1 narrow_1) := by decide +kernel
theorem gs_ex : ∀ i, i < 6 → Cond.exactly (skT i) "java/lang/String" ∈ flatC (Jvm.Cond.and given_1 narrow_1) := by decide +kernel
theorem gs_co : ∀ i, i < 6 → Cond.eq (.field (skT i) "java/lang/String" "coder" "B") (.int 0) ∈ flatC (Jvm.Cond.and given_1 narrow_1) := by decide +kernel
theorem gs_ar : ∀ i, i < 6 → Cond.arrayOf (.field (skT i) "java/lang/String" "value" "[B") .byte ∈ flatC (Jvm.Cond.and given_1 narrow_1) := by decide +kernel
theorem gs_le : ∀ i, i < 6 → Cond.eq (.length (.field (skT i) "java/lang/String" "value" "[B")) (.int (Int32.ofNat (sLen.getD i 0))) ∈ flatC (Jvm.Cond.and given_1 narrow_1) := by decide +kernel
theorem gs_el : ∀ i, i < 6 → ∀ j, j < sLen.getD i 0 → Cond.eq (.elem (.field (skT i) "java/lang/String" "value" "[B") (.int (Int32.ofNat j))) (.int ((sByt.getD i []).getD j 0)) ∈ flatC (Jvm.Cond.and given_1 narrow_1) := by decide +kernel
theorem gs_ne : ∀ i, i < 6 → ∀ j, j < 6 → i ≠ j → Cond.not (Cond.eq (skT i) (skT j)) ∈ flatC (Jvm.Cond.and given_1 narrow_1) ∨ Cond.not (Cond.eq (skT j) (skT i)) ∈ flatC (Jvm.Cond.and given_1 narrow_1) := by decide +kernel
theorem gs_n : ∀ i, i < 6 → sLen.getD i 0 < 2 ^ 31 := by decide +kernel
theorem tb_t {w : Cond} (i : Nat) (h : tables_1[i]? = some w) : w ∈ lw_tbl := List.mem_append_right _ (List.mem_of_getElem? h)
section Start
variable {p : Program} {s : State} {m : MethodId} {meth : Method} {c : Code} {b L : Nat} {xs : Nat → Int32}
theorem prim_K {args : Array Value} {ty : FieldType} (h : (Cond.arrayClass ty).before args s = true) (hr : ∀ cA, s.vm.findClass ("[" ++ ty.toString) = some cA → va_RA s cA ty) : ∃ cA, ArrOfT s cA ty ∧ va_RA s cA ty := by
  obtain ⟨cA, kA, comp, h1, h2, h3⟩ := Cond.arrayClass_spec h
  exact ⟨cA, fun n z => ⟨fun k h => (by cases h), kA, h2, comp, h3⟩, hr cA h1⟩
theorem obj_K {args : Array Value} {C : String} (h : (Cond.arrayOver (.object C)).before args s = true) : ∃ cA, ArrOfT s cA (.object C) ∧ va_RA s cA (.object C) := by
  obtain ⟨comp, cA, kA, h1, _, h3, h4, h5⟩ := Cond.arrayOver_spec h
  exact ⟨cA, fun n z => ⟨fun k h => (by cases h), kA, h3, comp, h4⟩, kA, comp, h3, h4, h1, h5⟩
theorem startK (C0 : lw_At p s m meth c b L xs) : ∃ G : Gd, Kn G (fun q => s.heap.size ≤ q) s := by
  obtain ⟨hx, hb, hr, hml, hown, hts, hX, hbl, hlocks, hgv⟩ := id C0
  have hg := flat_of_before _ hgv
  have hT : ∀ w ∈ TBW, w.before #[Value.ref b] s = true := fun w hw => hts w (tbw_lw hw)
  have hA : ∀ a : Nat, a < s.heap.size → ¬ (fun q : Nat => s.heap.size ≤ q) a := fun a h => Nat.not_le.mpr h
  have hcl : ∀ k : Nat, ∃ q : ClassId × (Nat → Nat), ∀ x : vw_C, vwCl[k]? = some x → u_Kn s x.1 x.2.1 x.2.2 q.1 q.2 := by
    intro k
    have one : ∀ {C : String} {T : u_T} {N : Nat} (hin : ∀ w ∈ u_ws C T N, w ∈ TBW) (hi : Cond.instantiable C N ∈ TBW), vwCl[k]? = some (C, T, N) → ∃ q : ClassId × (Nat → Nat), ∀ x : vw_C, vwCl[k]? = some x → u_Kn s x.1 x.2.1 x.2.2 q.1 q.2 := by
      intro C T N hin hi e
      obtain ⟨cC, iS, hK⟩ := u_known (n := N) hT hin (hT _ hi)
      refine ⟨(cC, iS), fun x hx => ?_⟩
      rw [e] at hx
      cases hx
      exact hK
    match k with
    | 0 => exact one inX0 in0 cf0.1
    | 1 => exact one inX1 in1 cf1.1
    | 2 => exact one inX2 in2 cf2.1
    | 3 => exact one inX3 in3 cf3.1
    | 4 => exact one inX4 in4 cf4.1
    | 5 => exact one inX5 in5 cf5.1
    | 6 => exact one inX6 in6 cf6.1
    | 7 => exact one inX7 in7 cf7.1
    | 8 => exact one inX8 in8 cf8.1
    | 9 => exact one inX9 in9 cf9.1
    | 10 => exact one inX10 in10 cf10.1
    | k + 11 => exact ⟨(0, fun _ => 0), fun x hx => by simp [vwCl] at hx⟩
  obtain ⟨fc, hfc⟩ := Classical.skolem.mp hcl
  have hty : ∀ k : Nat, ∃ cA : ClassId, ∀ ty : FieldType, tyL[k]? = some ty → ArrOfT s cA ty ∧ va_RA s cA ty := by
    intro k
    have one : ∀ {ty : FieldType}, tyL[k]? = some ty → (∃ cA, ArrOfT s cA ty ∧ va_RA s cA ty) → ∃ cA : ClassId, ∀ ty : FieldType, tyL[k]? = some ty → ArrOfT s cA ty ∧ va_RA s cA ty := by
      intro ty e ⟨cA, h⟩
      refine ⟨cA, fun t ht => ?_⟩
      rw [e] at ht
      cases ht
      exact h
    match k with
    | 0 => exact one rfl (prim_K (hT _ ar_int) (fun _ h => h))
    | 1 => exact one rfl (prim_K (hT _ ar_boolean) (fun _ h => h))
    | 2 => exact one rfl (prim_K (hT _ ar_char) (fun _ h => h))
    | 3 => exact one rfl (obj_K (hts _ (tb_t (w := Cond.arrayOver (.object RX0)) 35 (by decide +kernel))))
    | 4 => exact one rfl (obj_K (hts _ (tb_t (w := Cond.arrayOver (.object RX5)) 37 (by decide +kernel))))
    | 5 => exact one rfl (obj_K (hts _ (tb_t (w := Cond.arrayOver (.object RX7)) 39 (by decide +kernel))))
    | 6 => exact one rfl (obj_K (hts _ (tb_t (w := Cond.arrayOver (.object RX2)) 213 (by decide +kernel))))
    | 7 => exact one rfl (obj_K (hts _ (tb_t (w := Cond.arrayOver (.object RX3)) 215 (by decide +kernel))))
    | k + 8 => exact ⟨0, fun x hx => by simp [tyL] at hx⟩
  obtain ⟨cy, hcy⟩ := Classical.skolem.mp hty
  obtain ⟨t, et, hTt⟩ := va_Tof (ty := .int) (N := 6) (f := fun j => .int (kaF.getD j 0)) (by decide) (hg _ gw_arr) (va_eqt (hg _ gw_len)) (fun j hj => va_eqt (hg _ (gw_el j hj))) hA
  obtain ⟨adK, adV, hS, eS⟩ := vk_Sof (N := 6) (tm := skT) (len := sLen) (byt := sByt) gs_n (fun i hi => hg _ (gs_ex i hi)) (fun i hi => hg _ (gs_co i hi)) (fun i hi => hg _ (gs_ar i hi)) (fun i hi => hg _ (gs_le i hi)) (fun i hi j hj => hg _ (gs_el i hi j hj)) (fun i j hi hj hne => (gs_ne i hi j hj hne).imp (hg _) (hg _)) hA
  have hZq := va_Zqof (hts _ (tb_t (w := Cond.laysStatic "jdk/internal/util/Preconditions" "SIOOBE_FORMATTER" "Ljava/util/function/BiFunction;") 658 (by decide +kernel))) (hts _ (tb_t (w := Cond.initialized "jdk/internal/util/Preconditions") 17 (by decide +kernel))) (hg _ gw_fm) hA
  have hfm : ∃ o : Option Nat, va_Z "jdk/internal/util/Preconditions" "SIOOBE_FORMATTER" "Ljava/util/function/BiFunction;" (va_rf o) (fun q => s.heap.size ≤ q) s s.heap := by
    rcases hZq with h | ⟨t, h⟩
    · exact ⟨none, h⟩
    · exact ⟨some t, h⟩
  obtain ⟨o, hfm⟩ := hfm
  have hsr : ∀ {k : Nat} {tx : String} {a : Nat}, Cond.stringRef RX1 k tx ∈ lw_tbl → (Term.string RX1 k).eval #[Value.ref b] s none [] s = some (.ref a) → vk_R RX1 k tx a s := fun h1 h2 => vk_R.of (hts _ h1) h2
  refine ⟨(fun k => (fc k).1, fun k => (fc k).2, cy, t, adK, adV, o), ⟨fun k q hq => hfc k q hq, fun k q hq => ?_⟩, fun w hw => va_Nw.of (nst_tabs hw) (hts w (nst_lw hw)), ⟨?_, ?_, ?_, ?_, ?_, ?_, ?_, ?_, ?_, ?_, ?_⟩, va_Zref (hts _ (tb_t (w := Cond.laysStatic "StorkVote" "KIND_ABOVE" "[I") 417 (by decide +kernel))) (hts _ (tb_t (w := Cond.initialized "StorkVote") 1 (by decide +kernel))) et hA, hTt, hS, va_Zof (hts _ (tb_t (w := Cond.laysStatic "java/lang/String" "COMPACT_STRINGS" "Z") 642 (by decide +kernel))) (hts _ (tb_t (w := Cond.initialized "java/lang/String") 15 (by decide +kernel))) (va_eqt (hg _ gw_cs)) hA, hfm⟩
  · obtain ⟨e1, e2⟩ := sTy_at hq
    rw [e1]
    exact hcy k q.2 e2
  · exact va_AO.of (hts _ (tb_t (w := Cond.arrayOver (.object RX0)) 35 (by decide +kernel)))
  · exact va_AO.of (hts _ (tb_t (w := Cond.arrayOver (.object RX5)) 37 (by decide +kernel)))
  · exact va_AO.of (hts _ (tb_t (w := Cond.arrayOver (.object RX7)) 39 (by decide +kernel)))
  · exact va_AO.of (hts _ (tb_t (w := Cond.arrayOver (.object RX2)) 213 (by decide +kernel)))
  · exact va_AO.of (hts _ (tb_t (w := Cond.arrayOver (.object RX3)) 215 (by decide +kernel)))
  · exact hsr (tb_t (w := Cond.stringRef RX1 127 "like") 628 (by decide +kernel)) (eS 0 (by decide))
  · exact hsr (tb_t (w := Cond.stringRef RX1 133 "seat") 681 (by decide +kernel)) (eS 1 (by decide))
  · exact hsr (tb_t (w := Cond.stringRef RX1 135 "fine") 682 (by decide +kernel)) (eS 2 (by decide))
  · exact hsr (tb_t (w := Cond.stringRef RX1 137 "wfh") 723 (by decide +kernel)) (eS 3 (by decide))
  · exact hsr (tb_t (w := Cond.stringRef RX1 139 "nw") 724 (by decide +kernel)) (eS 4 (by decide))
  · exact hsr (tb_t (w := Cond.stringRef RX1 141 "ys") 725 (by decide +kernel)) (eS 5 (by decide))
end Start
