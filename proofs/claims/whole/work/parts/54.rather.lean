/-! rather: nests as a sheet tells them -/
def tdM (N : Nat → Int32) (nc n : Nat) (cell : Nat → Int32) : Nat → (Nat → Option Nat) × (Nat → Option Nat)
  | 0 => (fun _ => none, fun _ => none)
  | i + 1 => if i < n ∧ hasB (cell i) nc = true ∧ awayN N i = false ∧ (tdM N nc n cell i).2 (cell i).toNatClampNeg = none then (fun s => if s = i then some (cell i).toNatClampNeg else (tdM N nc n cell i).1 s, fun c => if c = (cell i).toNatClampNeg then some i else (tdM N nc n cell i).2 c) else tdM N nc n cell i
theorem tdM_s (N : Nat → Int32) (nc n : Nat) (cell : Nat → Int32) (i : Nat) : tdM N nc n cell (i + 1) = if i < n ∧ hasB (cell i) nc = true ∧ awayN N i = false ∧ (tdM N nc n cell i).2 (cell i).toNatClampNeg = none then (fun s => if s = i then some (cell i).toNatClampNeg else (tdM N nc n cell i).1 s, fun c => if c = (cell i).toNatClampNeg then some i else (tdM N nc n cell i).2 c) else tdM N nc n cell i := Eq.trans rfl rfl
theorem td_ok (N : Nat → Int32) {nc n : Nat} (h8 : nc ≤ 8) (cell : Nat → Int32) : ∀ i, (∀ s c, (tdM N nc n cell i).1 s = some c → c < nc ∧ s < i) ∧ ∀ c s, (tdM N nc n cell i).2 c = some s → s < i
  | 0 => ⟨fun s c h => by simp [tdM] at h, fun c s h => by simp [tdM] at h⟩
  | i + 1 => by
    have ih := td_ok N (n := n) h8 cell i
    rw [tdM_s]
    split
    · rename_i q
      refine ⟨fun s c h => ?_, fun c s h => ?_⟩
      · dsimp only at h
        by_cases e : s = i
        · rw [if_pos e] at h
          obtain ⟨k, hk, ek⟩ := hasB_t q.2.1 (by omega)
          rw [ek, nI_clamp (by omega)] at h
          have := Option.some.inj h
          omega
        · rw [if_neg e] at h
          have := ih.1 s c h
          omega
      · dsimp only at h
        by_cases e : c = (cell i).toNatClampNeg
        · rw [if_pos e] at h
          have := Option.some.inj h
          omega
        · rw [if_neg e] at h
          have := ih.2 c s h
          omega
    · exact ⟨fun s c h => by have := ih.1 s c h; omega, fun c s h => by have := ih.2 c s h; omega⟩
section Rath
variable {I : Nat → Nat → Int32} {X : Nat → Nat → Option Nat} {S : Sta} {w : Nat} {N : Nat → Int32} {nc ns nt : Nat}
theorem XtoldL (hS : LaS S) (hw : isW w) (hG : GN N nc ns nt) (hr : GR N nc ns) {k n : Nat} (hk : k < 4) (hn : n ≤ 24) {cell : Nat → Int32} : ∀ (d i fu : Nat) (L : Nat → Nat → Int32), i + d = ns → d < fu → RelW L X S w N nc ns nt → L (86 + 2 * k) 1 = nI n → (∀ j, j < 24 → L (87 + 2 * k) j = cell j) → (∀ s, s < 10 → L 74 s = encC ((tdM N nc n cell i).1 s)) → (∀ c, c < 8 → L 75 c = encC ((tdM N nc n cell i).2 c)) →
    ∃ L', f_X4_nestsTold_20 fu (L, X, S) 73 w (86 + 2 * k) (nI i) = some ((), (L', X, S)) ∧ (∀ s, s < 10 → L' 74 s = encC ((tdM N nc n cell ns).1 s)) ∧ (∀ c, c < 8 → L' 75 c = encC ((tdM N nc n cell ns).2 c)) ∧ ∀ a, a ≠ 74 → a ≠ 75 → L' a = L a := by
  have hlt := hw.lt
  have h8 := hG.2.1
  have h10 := hG.2.2.2.1
  have stuck : ∀ d i, n ≤ i → tdM N nc n cell (i + d) = tdM N nc n cell i := by
    intro d
    induction d with
    | zero => intro i _; rfl
    | succ d ih =>
      intro i hi
      rw [show i + (d + 1) = (i + d) + 1 by omega, tdM_s, if_neg (fun q => by omega)]
      exact ih i hi
  intro d
  induction d with
  | zero =>
    intro i fu L hi hf hR hs hc h74 h75
    obtain ⟨fu, rfl⟩ : ∃ m, fu = m + 1 := ⟨fu - 1, by omega⟩
    have hi : i = ns := by omega
    subst hi
    rw [f_X4_nestsTold_20]
    simp only [gt_self, gd_t, lp_some, st_d, nm_d, on_none, on_some, cl_some, mI_mk, mX_mk, setI_mk, u2_row, rowS_s, rowU_s, xT0 hS, xP0_0 hS, xP0_1 hS, xP0_2 hS, xP0_3 hS, xP0_4 hS, xP0_5 hS, xP0_6 hS, xP0_7 hS, xP0_8 hS, xT73 hS, xP73_0 hS, xT74 hS, xL74 hS, xP73_1 hS, xT75 hS, xL75 hS, xP73_2 hS, xT76 hS, xL76 hS, xP73_3 hS, xT77 hS, xL77 hS, xT78 hS, xP78_0 hS, xT79 hS, xL79 hS, xT80 hS, xP80_0 hS, xP80_2 hS, xT81 hS, xL81 hS, xT82 hS, xL82 hS, xT83 hS, xL83 hS, xT84 hS, xL84 hS, xT85 hS, xL85 hS, wT hS hw, wP0 hS hw, wP2 hS hw, wP4 hS hw, wP7 hS hw, wP9 hS hw, wT1 hS hw, wL1 hS hw, wT2 hS hw, wL2 hS hw, wT3 hS hw, wL3 hS hw, wT4 hS hw, wL4 hS hw, wT5 hS hw, wL5 hS hw]
    rw [hR.1.2.2.1, hG.2.2.1, if_pos (nI_le (Nat.le_refl i) (by omega))]
    exact ⟨L, rfl, h74, h75, fun _ _ _ => rfl⟩
  | succ d ih =>
    intro i fu L hi hf hR hs hc h74 h75
    obtain ⟨fu, rfl⟩ : ∃ m, fu = m + 1 := ⟨fu - 1, by omega⟩
    rw [f_X4_nestsTold_20]
    simp only [gt_self, gd_t, lp_some, st_d, nm_d, on_none, on_some, cl_some, mI_mk, mX_mk, setI_mk, u2_row, rowS_s, rowU_s, xT0 hS, xP0_0 hS, xP0_1 hS, xP0_2 hS, xP0_3 hS, xP0_4 hS, xP0_5 hS, xP0_6 hS, xP0_7 hS, xP0_8 hS, xT73 hS, xP73_0 hS, xT74 hS, xL74 hS, xP73_1 hS, xT75 hS, xL75 hS, xP73_2 hS, xT76 hS, xL76 hS, xP73_3 hS, xT77 hS, xL77 hS, xT78 hS, xP78_0 hS, xT79 hS, xL79 hS, xT80 hS, xP80_0 hS, xP80_2 hS, xT81 hS, xL81 hS, xT82 hS, xL82 hS, xT83 hS, xL83 hS, xT84 hS, xL84 hS, xT85 hS, xL85 hS, wT hS hw, wP0 hS hw, wP2 hS hw, wP4 hS hw, wP7 hS hw, wP9 hS hw, wT1 hS hw, wL1 hS hw, wT2 hS hw, wL2 hS hw, wT3 hS hw, wL3 hS hw, wT4 hS hw, wL4 hS hw, wT5 hS hw, wL5 hS hw, shT hS hk, shPp hS hk, shTp hS hk, shLp hS hk]
    rw [hR.1.2.2.1, hG.2.2.1, if_neg (nI_ge (show i < ns by omega) (by omega)), hs]
    by_cases e : n ≤ i
    · rw [if_pos (nI_le e (by omega))]
      have := stuck (d + 1) i e
      rw [hi] at this
      rw [← this] at h74 h75
      exact ⟨L, rfl, h74, h75, fun _ _ _ => rfl⟩
    rw [if_neg (nI_ge (show i < n by omega) (by omega))]
    have go := fun L' => ih (i + 1) fu L' (by omega) (by omega)
    simp only [gd_ok (ib_nI (show i < 24 by omega) (show 24 < 2 ^ 31 by decide)), gd_ok (ib_nI (show i < 10 by omega) (show 10 < 2 ^ 31 by decide)), nI_clamp (show i < 2 ^ 31 by omega), wPs hS hw (show i < 10 by omega), wTs hS hw (show i < 10 by omega), gt_self, gd_t, lp_some, st_d, nm_d, on_none, on_some, cl_some, mI_mk, mX_mk, setI_mk, u2_row, rowS_s, rowU_s, xT0 hS, xP0_0 hS, xP0_1 hS, xP0_2 hS, xP0_3 hS, xP0_4 hS, xP0_5 hS, xP0_6 hS, xP0_7 hS, xP0_8 hS, xT73 hS, xP73_0 hS, xT74 hS, xL74 hS, xP73_1 hS, xT75 hS, xL75 hS, xP73_2 hS, xT76 hS, xL76 hS, xP73_3 hS, xT77 hS, xL77 hS, xT78 hS, xP78_0 hS, xT79 hS, xL79 hS, xT80 hS, xP80_0 hS, xP80_2 hS, xT81 hS, xL81 hS, xT82 hS, xL82 hS, xT83 hS, xL83 hS, xT84 hS, xL84 hS, xT85 hS, xL85 hS, wT hS hw, wP0 hS hw, wP2 hS hw, wP4 hS hw, wP7 hS hw, wP9 hS hw, wT1 hS hw, wL1 hS hw, wT2 hS hw, wL2 hS hw, wT3 hS hw, wL3 hS hw, wT4 hS hw, wL4 hS hw, wT5 hS hw, wL5 hS hw, nI_1]
    rw [hc i (by omega), (hR.2.2.1 i (by omega)).2.2]
    have ha : awayN N i = decide (N (8 + 3 * i + 2) = 1) := rfl
    rw [tdM_s] at go
    rcases (hr.2 i (by omega)).2.2 with q | q
    · rw [q] at ha
      have ha : awayN N i = false := by rw [ha]; rfl
      rw [if_pos q, XhasC hS hw hR hG]
      simp only [cl_some, ifB, gt_self, gd_t, lp_some, st_d, nm_d, on_none, on_some, cl_some, mI_mk, mX_mk, setI_mk, u2_row, rowS_s, rowU_s, xT0 hS, xP0_0 hS, xP0_1 hS, xP0_2 hS, xP0_3 hS, xP0_4 hS, xP0_5 hS, xP0_6 hS, xP0_7 hS, xP0_8 hS, xT73 hS, xP73_0 hS, xT74 hS, xL74 hS, xP73_1 hS, xT75 hS, xL75 hS, xP73_2 hS, xT76 hS, xL76 hS, xP73_3 hS, xT77 hS, xL77 hS, xT78 hS, xP78_0 hS, xT79 hS, xL79 hS, xT80 hS, xP80_0 hS, xP80_2 hS, xT81 hS, xL81 hS, xT82 hS, xL82 hS, xT83 hS, xL83 hS, xT84 hS, xL84 hS, xT85 hS, xL85 hS, wT hS hw, wP0 hS hw, wP2 hS hw, wP4 hS hw, wP7 hS hw, wP9 hS hw, wT1 hS hw, wL1 hS hw, wT2 hS hw, wL2 hS hw, wT3 hS hw, wL3 hS hw, wT4 hS hw, wL4 hS hw, wT5 hS hw, wL5 hS hw]
      by_cases e2 : hasB (cell i) nc = true
      · rw [if_pos e2]
        obtain ⟨c, hcc, ec⟩ := hasB_t e2 (by omega)
        rw [ec] at e2 go ⊢
        rw [nI_clamp (by omega)] at go
        rw [gd_ok (ib_nI (by omega) (by decide)), nI_clamp (by omega), h75 c (by omega)]
        cases hg : (tdM N nc n cell i).2 c with
        | none =>
          rw [if_pos (show i < n ∧ hasB (nI c) nc = true ∧ awayN N i = false ∧ (tdM N nc n cell i).2 c = none from ⟨by omega, e2, ha, hg⟩)] at go
          rw [if_pos (encC_no rfl), f_X4_move]
          simp only [gt_self, gd_t, lp_some, st_d, nm_d, on_none, on_some, cl_some, mI_mk, mX_mk, setI_mk, u2_row, rowS_s, rowU_s, xT0 hS, xP0_0 hS, xP0_1 hS, xP0_2 hS, xP0_3 hS, xP0_4 hS, xP0_5 hS, xP0_6 hS, xP0_7 hS, xP0_8 hS, xT73 hS, xP73_0 hS, xT74 hS, xL74 hS, xP73_1 hS, xT75 hS, xL75 hS, xP73_2 hS, xT76 hS, xL76 hS, xP73_3 hS, xT77 hS, xL77 hS, xT78 hS, xP78_0 hS, xT79 hS, xL79 hS, xT80 hS, xP80_0 hS, xP80_2 hS, xT81 hS, xL81 hS, xT82 hS, xL82 hS, xT83 hS, xL83 hS, xT84 hS, xL84 hS, xT85 hS, xL85 hS, wT hS hw, wP0 hS hw, wP2 hS hw, wP4 hS hw, wP7 hS hw, wP9 hS hw, wT1 hS hw, wL1 hS hw, wT2 hS hw, wL2 hS hw, wT3 hS hw, wL3 hS hw, wT4 hS hw, wL4 hS hw, wT5 hS hw, wL5 hS hw, gd_ok (ib_nI (show i < 10 by omega) (show 10 < 2 ^ 31 by decide)), gd_ok (ib_nI (show c < 8 by omega) (show 8 < 2 ^ 31 by decide)), nI_clamp (show i < 2 ^ 31 by omega), nI_clamp (show c < 2 ^ 31 by omega), rowS_n (show (75 : Nat) ≠ 74 by decide)]
          obtain ⟨L', e, z1, z2, z3⟩ := go (rowS (rowS L 74 (rowU (L 74) i (nI c))) 75 (rowU (L 75) c (nI i))) (hR.same h8 h10 (fun a ha => by unfold ownW at ha; rw [rowS_n (by omega), rowS_n (by omega)])) (by rw [rowS_n (by omega), rowS_n (by omega)]; exact hs) (fun j hj => by rw [rowS_n (by omega), rowS_n (by omega)]; exact hc j hj) (fun s hs => by
            rw [rowS_n (by decide), rowS_s]
            dsimp only
            by_cases e : s = i
            · rw [e, rowU_s, if_pos rfl]; rfl
            · rw [rowU_n e, if_neg e]; exact h74 s hs) (fun x hx => by
            rw [rowS_s]
            dsimp only
            by_cases e : x = c
            · rw [e, rowU_s, if_pos rfl]; rfl
            · rw [rowU_n e, if_neg e]; exact h75 x hx)
          exact ⟨L', e, z1, z2, fun a a1 a2 => by rw [z3 a a1 a2, rowS_n a2, rowS_n a1]⟩
        | some g =>
          rw [if_neg (fun q => by rw [hg] at q; exact nomatch q.2.2.2)] at go
          rw [if_neg (encC_pos rfl (by have := (td_ok N (n := n) h8 cell i).2 c g hg; omega))]
          exact go L hR hs hc h74 h75
      · rw [if_neg e2]
        rw [if_neg (fun q => e2 q.2.1)] at go
        exact go L hR hs hc h74 h75
    · rw [q] at ha
      have ha : awayN N i = true := by rw [ha]; rfl
      rw [if_neg (show ¬ N (8 + 3 * i + 2) = 0 by rw [q]; decide)]
      rw [if_neg (fun q => by rw [ha] at q; exact nomatch q.2.2.1)] at go
      exact go L hR hs hc h74 h75
end Rath
