/-! rather: nests as a sheet tells them -/
def tdM (N : Nat → Int32) (nc n : Nat) (cell : Nat → Int32) : Nat → (Nat → Option Nat) × (Nat → Option Nat)
  | 0 => (fun _ => none, fun _ => none)
  | i + 1 => if i < n ∧ hasB (cell i) nc = true ∧ awayN N i = false ∧ (tdM N nc n cell i).2 (cell i).toNatClampNeg = none then (fun s => if s = i then some (cell i).toNatClampNeg else (tdM N nc n cell i).1 s, fun c => if c = (cell i).toNatClampNeg then some i else (tdM N nc n cell i).2 c) else tdM N nc n cell i
theorem tdM_s (N : Nat → Int32) (nc n : Nat) (cell : Nat → Int32) (i : Nat) : tdM N nc n cell (i + 1) = if i < n ∧ hasB (cell i) nc = true ∧ awayN N i = false ∧ (tdM N nc n cell i).2 (cell i).toNatClampNeg = none then (fun s => if s = i then some (cell i).toNatClampNeg else (tdM N nc n cell i).1 s, fun c => if c = (cell i).toNatClampNeg then some i else (tdM N nc n cell i).2 c) else tdM N nc n cell i := Eq.trans rfl rfl
theorem td_ok (N : Nat → Int32) {nc n : Nat} (h8 : nc ≤ 8) (cell : Nat → Int32) : ∀ i, (∀ s c, (tdM N nc n cell i).1 s = some c → c < nc ∧ s < i) ∧ ∀ c s, (tdM N nc n cell i).2 c = some s → s < i
  | 0 => ⟨fun s c h => nomatch h, fun c s h => nomatch h⟩
  | i + 1 => by
    have ih := td_ok N (n := n) h8 cell i
    rw [tdM_s]
    split
    · rename_i q
      refine ⟨fun s c h => ?_, fun c s h => ?_⟩
      · dsimp only at h
        by_cases e : s = i
        · rw [if_pos e] at h
          obtain ⟨k, hk, ek⟩ := hasB_t q.2.1 (by omega)
          rw [ek, nI_clamp (by omega)] at h
          have := Option.some.inj h
          omega
        · rw [if_neg e] at h
          have := ih.1 s c h
          omega
      · dsimp only at h
        by_cases e : c = (cell i).toNatClampNeg
        · rw [if_pos e] at h
          have := Option.some.inj h
          omega
        · rw [if_neg e] at h
          have := ih.2 c s h
          omega
    · exact ⟨fun s c h => by have := ih.1 s c h; omega, fun c s h => by have := ih.2 c s h; omega⟩
