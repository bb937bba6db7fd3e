/-! THE PARSER: the reference's signs that wait -/
def YSt (J J' : Nat → Nat → Int32) (R : (Nat × (Nat → Int32)) × List Int32) : Prop := J' 0 20 = nI R.1.1 ∧ J' 11 = R.1.2 ∧ J' 0 23 = nI R.2.length ∧ (∀ j, j ≠ 20 → j ≠ 23 → J' 0 j = J 0 j) ∧ ∀ a, a ≠ 0 → a ≠ 11 → J' a = J a
theorem rk_le6 : ∀ g ∈ gL, rkM g ≤ 6 := by decide +kernel
section RSigns
theorem RsetL {least : Nat} (hl : least ≤ 6) : ∀ (st : List Int32) (m fu : Nat) (cd : Nat → Int32) (J : Nat → Nat → Int32), (∀ g ∈ st, g ∈ gL) → st.length < fu → m + st.length ≤ 96 → J 0 20 = nI m → J 11 = cd → J 0 23 = nI st.length → Stk (J 12) st →
    ∃ J', f_X10_settle_0 fu (J, YZ) 0 (nI least) = some ((), (J', YZ)) ∧ YSt J J' (stl least (m, cd) st) := by
  intro st
  induction st with
  | nil =>
    intro m fu cd J hv hf hm h1 hc h3 hk
    obtain ⟨fu, rfl⟩ : ∃ q, fu = q + 1 := ⟨fu - 1, by omega⟩
    rw [f_X10_settle_0]
    simp only [gt_self, gd_t, lp_some, st_d, nm_d, on_none, on_some, cl_some, mI_mk, mX_mk, setI_mk, u2_row, rowS_s, rowU_s, yT0, yP0, yT1, yL1, yP1, yT2, yL2, yP2, yT3, yL3, yP5, yT4, yL4, yP6, yT5, yL5, yP7, yT6, yL6, yP8, yT7, yL7, yP9, yT8, yL8, yP17, yT9, yL9, yP18, yT10, yL10, yP19, yT11, yL11, yP22, yT12, yL12, yP24, yT13, yL13, yP25, yT14, yL14, yP26, yT15, yL15, yP27, yT16, yL16, yP28, yT17, yL17, yP29, yT18, yL18, yP30, yT19, yL19, yP31, yT20, yL20, yP32, yT21, yL21, yP33, yT22, yL22, yP34, yT23, yL23, yP35, yT24, yL24]
    rw [h3, if_pos (show nI ([] : List Int32).length ≤ 0 by decide)]
    exact ⟨J, rfl, h1, hc, h3, fun _ _ _ => rfl, fun _ _ _ => rfl⟩
  | cons g st ih =>
    intro m fu cd J hv hf hm h1 hc h3 hk
    rw [List.length_cons] at hf hm h3
    obtain ⟨fu, rfl⟩ : ∃ q, fu = q + 1 := ⟨fu - 1, by omega⟩
    have hk0 : J 12 st.length = g := hk.1
    have hgv := hv g List.mem_cons_self
    rw [f_X10_settle_0]
    simp only [gt_self, gd_t, lp_some, st_d, nm_d, on_none, on_some, cl_some, mI_mk, mX_mk, setI_mk, u2_row, rowS_s, rowU_s, yT0, yP0, yT1, yL1, yP1, yT2, yL2, yP2, yT3, yL3, yP5, yT4, yL4, yP6, yT5, yL5, yP7, yT6, yL6, yP8, yT7, yL7, yP9, yT8, yL8, yP17, yT9, yL9, yP18, yT10, yL10, yP19, yT11, yL11, yP22, yT12, yL12, yP24, yT13, yL13, yP25, yT14, yL14, yP26, yT15, yL15, yP27, yT16, yL16, yP28, yT17, yL17, yP29, yT18, yL18, yP30, yT19, yL19, yP31, yT20, yL20, yP32, yT21, yL21, yP33, yT22, yL22, yP34, yT23, yL23, yP35, yT24, yL24]
    rw [h3, if_neg (show ¬ nI (st.length + 1) ≤ 0 from nI_nle (by omega) (by omega)), nI_s1, gd_ok (ib_nI (by omega) (by decide)), nI_clamp (by omega), hk0]
    rw [stl_s]
    by_cases e11 : g = -11
    · rw [if_pos e11, if_pos (Or.inl e11)]
      exact ⟨J, rfl, h1, hc, by rw [List.length_cons]; exact h3, fun _ _ _ => rfl, fun _ _ _ => rfl⟩
    · rw [if_neg e11, gd_ok (ib_nI (by omega) (by decide)), Rrank]
      simp only [cl_some]
      have hr6 := rk_le6 g hgv
      by_cases e : rkM g < least
      · rw [if_pos (nI_lt e (by omega)), if_pos (Or.inr e)]
        exact ⟨J, rfl, h1, hc, by rw [List.length_cons]; exact h3, fun _ _ _ => rfl, fun _ _ _ => rfl⟩
      · rw [if_neg (nI_nlt (by omega) (by omega)), if_neg (fun q => q.elim e11 e)]
        simp only [gt_self, gd_t, lp_some, st_d, nm_d, on_none, on_some, cl_some, mI_mk, mX_mk, setI_mk, u2_row, rowS_s, rowU_s, yT0, yP0, yT1, yL1, yP1, yT2, yL2, yP2, yT3, yL3, yP5, yT4, yL4, yP6, yT5, yL5, yP7, yT6, yL6, yP8, yT7, yL7, yP9, yT8, yL8, yP17, yT9, yL9, yP18, yT10, yL10, yP19, yT11, yL11, yP22, yT12, yL12, yP24, yT13, yL13, yP25, yT14, yL14, yP26, yT15, yL15, yP27, yT16, yL16, yP28, yT17, yL17, yP29, yT18, yL18, yP30, yT19, yL19, yP31, yT20, yL20, yP32, yT21, yL21, yP33, yT22, yL22, yP34, yT23, yL23, yP35, yT24, yL24, rowS_n (show (12 : Nat) ≠ 0 by decide), rowU_n (show (20 : Nat) ≠ 23 by decide)]
        rw [h3, nI_s1, gd_ok (ib_nI (by omega) (by decide)), nI_clamp (by omega), h1, gd_ok (ib_nI (by omega) (by decide)), nI_clamp (by omega), hk0]
        simp only [rowS_s, rowS_n (show (0 : Nat) ≠ 11 by decide), rowS_n (show (11 : Nat) ≠ 0 by decide), rowU_n (show (20 : Nat) ≠ 23 by decide)]
        rw [h1, nI_1, hc]
        obtain ⟨J', e1, z1, z2, z3, z4, z5⟩ := ih (m + 1) fu (rowU cd m g) (rowS (rowS (rowS J 0 (rowU (J 0) 23 (nI st.length))) 11 (rowU cd m g)) 0 (rowU (rowU (J 0) 23 (nI st.length)) 20 (nI (m + 1)))) (fun x hx => hv x (List.mem_cons_of_mem _ hx)) (by omega) (by omega) (by rw [rowS_s, rowU_s]) (by rw [rowS_n (by decide), rowS_s]) (by rw [rowS_s, rowU_n (by decide), rowU_s]) (by rw [rowS_n (by decide), rowS_n (by decide), rowS_n (by decide)]; exact hk.2)
        exact ⟨J', e1, z1, z2, z3, fun j j1 j2 => by rw [z4 j j1 j2, rowS_s, rowU_n j1, rowU_n j2], fun a a1 a2 => by rw [z5 a a1 a2, rowS_n a1, rowS_n a2, rowS_n a1]⟩
theorem Rsettle {least : Nat} (hl : least ≤ 6) {st : List Int32} {m : Nat} {J : Nat → Nat → Int32} (hv : ∀ g ∈ st, g ∈ gL) (hm : m + st.length ≤ 96) (h1 : J 0 20 = nI m) (h3 : J 0 23 = nI st.length) (hk : Stk (J 12) st) :
    ∃ J', f_X10_settle (J, YZ) 0 (nI least) = some ((), (J', YZ)) ∧ YSt J J' (stl least (m, J 11) st) := by
  rw [f_X10_settle]
  exact RsetL hl st m FU (J 11) J hv (FU_ge (by omega)) hm h1 rfl h3 hk
def cNf (q : Nat → Int32) : Nat → Nat
  | 0 => 0
  | k + 1 => cNf q k + (if q k = -10 then 1 else 0)
theorem cNf_eq {q : Nat → Int32} : ∀ {st : List Int32}, Stk q st → cNf q st.length = cN st
  | [], _ => rfl
  | g :: r, h => by
    show cNf q r.length + (if q r.length = -10 then 1 else 0) = cN r + (if g = -10 then 1 else 0)
    rw [cNf_eq h.2, h.1]
theorem cNf_le (q : Nat → Int32) : ∀ k, cNf q k ≤ k
  | 0 => Nat.le_refl _
  | k + 1 => by have := cNf_le q k; unfold cNf; split <;> omega
theorem RnotsL {J : Nat → Nat → Int32} {h : Nat} (hh : h ≤ 96) (h3 : J 0 23 = nI h) : ∀ (d k fu : Nat), k + d = h → d < fu → f_X10_notsOpen_4 fu (J, YZ) 0 (nI (cNf (J 12) k)) (nI k) = some (nI (cNf (J 12) h), (J, YZ)) := by
  intro d
  induction d with
  | zero =>
    intro k fu hk hf
    obtain ⟨fu, rfl⟩ : ∃ q, fu = q + 1 := ⟨fu - 1, by omega⟩
    rw [f_X10_notsOpen_4]
    simp only [gt_self, gd_t, lp_some, st_d, nm_d, on_none, on_some, cl_some, mI_mk, mX_mk, setI_mk, u2_row, rowS_s, rowU_s, yT0, yP0, yT1, yL1, yP1, yT2, yL2, yP2, yT3, yL3, yP5, yT4, yL4, yP6, yT5, yL5, yP7, yT6, yL6, yP8, yT7, yL7, yP9, yT8, yL8, yP17, yT9, yL9, yP18, yT10, yL10, yP19, yT11, yL11, yP22, yT12, yL12, yP24, yT13, yL13, yP25, yT14, yL14, yP26, yT15, yL15, yP27, yT16, yL16, yP28, yT17, yL17, yP29, yT18, yL18, yP30, yT19, yL19, yP31, yT20, yL20, yP32, yT21, yL21, yP33, yT22, yL22, yP34, yT23, yL23, yP35, yT24, yL24]
    rw [h3, if_pos (nI_le (show h ≤ k by omega) (by omega)), show k = h by omega]
  | succ d ih =>
    intro k fu hk hf
    obtain ⟨fu, rfl⟩ : ∃ q, fu = q + 1 := ⟨fu - 1, by omega⟩
    have ih := ih (k + 1) fu (by omega) (by omega)
    rw [f_X10_notsOpen_4]
    simp only [gt_self, gd_t, lp_some, st_d, nm_d, on_none, on_some, cl_some, mI_mk, mX_mk, setI_mk, u2_row, rowS_s, rowU_s, yT0, yP0, yT1, yL1, yP1, yT2, yL2, yP2, yT3, yL3, yP5, yT4, yL4, yP6, yT5, yL5, yP7, yT6, yL6, yP8, yT7, yL7, yP9, yT8, yL8, yP17, yT9, yL9, yP18, yT10, yL10, yP19, yT11, yL11, yP22, yT12, yL12, yP24, yT13, yL13, yP25, yT14, yL14, yP26, yT15, yL15, yP27, yT16, yL16, yP28, yT17, yL17, yP29, yT18, yL18, yP30, yT19, yL19, yP31, yT20, yL20, yP32, yT21, yL21, yP33, yT22, yL22, yP34, yT23, yL23, yP35, yT24, yL24]
    rw [h3, if_neg (nI_ge (show k < h by omega) (by omega)), gd_ok (ib_nI (by omega) (by decide)), nI_clamp (by omega), nI_1, nI_1, nI_z, ← ih]
    show _ = f_X10_notsOpen_4 fu (J, YZ) 0 (nI (cNf (J 12) k + (if J 12 k = -10 then 1 else 0))) (nI (k + 1))
    by_cases e : J 12 k = -10
    · rw [if_pos e, if_pos e]
    · rw [if_neg e, if_neg e]; rfl
theorem RnotsOpen {J : Nat → Nat → Int32} {st : List Int32} (hh : st.length ≤ 96) (h3 : J 0 23 = nI st.length) (hk : Stk (J 12) st) : f_X10_notsOpen (J, YZ) 0 = some (nI (cN st), (J, YZ)) := by
  rw [f_X10_notsOpen, ← cNf_eq hk]
  exact RnotsL hh h3 st.length 0 FU (by omega) (FU_ge (by omega))
end RSigns
