/-! AT THE BEGINNING both agree -/
theorem b0_num : (X0.1 1 6 = Y0.1 1 0 ∧ X0.1 1 1 = Y0.1 1 1 ∧ X0.1 1 3 = Y0.1 1 2 ∧ X0.1 1 5 = Y0.1 1 3 ∧ X0.1 4 0 = Y0.1 1 4 ∧ X0.1 4 1 = Y0.1 1 5 ∧ X0.1 4 2 = Y0.1 1 6 ∧ X0.1 1 8 = Y0.1 1 7) ∧ (Y0.1 1 1 = nI 0 ∧ Y0.1 1 2 = nI 0 ∧ Y0.1 1 7 = nI 0 ∧ Y0.1 1 3 = nI 0) ∧ (X0.1 0 10 = Y0.1 0 3 ∧ Y0.1 0 3 = 0 ∧ Y0.1 0 4 = -1) ∧ (X0.1 78 1 = nI 0 ∧ Y0.1 0 10 = nI 0 ∧ X0.1 0 9 = nI 0 ∧ Y0.1 0 36 = nI 0) := by decide +kernel
theorem b0_sh : ∀ k, k < 4 → X0.1 (86 + 2 * k) 0 = -1 ∧ Y0.1 16 k = -1 ∧ X0.1 (86 + 2 * k) 1 = nI 0 ∧ Y0.1 17 k = nI 0 ∧ ∀ j, j < 24 → X0.1 (87 + 2 * k) j = Y0.1 18 (24 * k + j) := by decide +kernel
theorem b0_sl : ∀ k, k < 5 → Y0.1 19 k = 0 ∧ X0.1 (94 + 4 * k) 0 = 0 := by decide +kernel
theorem b0 : Sm X0.1 X0.2.1 X0.2.2 Y0.1 0 0 0 := by
  obtain ⟨g, n, i, t⟩ := b0_num
  refine ⟨⟨⟨g, fun c hc => absurd hc (Nat.not_lt_zero c), fun c hc => absurd hc (Nat.not_lt_zero c), fun c hc => absurd hc (Nat.not_lt_zero c)⟩, ⟨n.1, by decide, n.2.1, by decide, n.2.2.1, by decide, fun c hc => absurd hc (Nat.not_lt_zero c)⟩, ⟨fun c hc => absurd hc (Nat.not_lt_zero c), fun c hc => absurd hc (Nat.not_lt_zero c)⟩, ⟨0, by decide, n.2.2.2⟩, fun c hc => absurd hc (Nat.not_lt_zero c)⟩, ⟨fun k _ => ⟨rfl, rfl, fun _ => rfl⟩, ?_⟩, ⟨i.1, Or.inl i.2.1⟩, i.2.2, rfl, rfl, ⟨0, by decide, t.1, t.2.1, fun c hc => absurd hc (Nat.not_lt_zero c)⟩, ⟨0, by decide, t.2.2.1, t.2.2.2, fun c hc => absurd hc (Nat.not_lt_zero c)⟩, fun k hk => ?_, fun k hk => ?_⟩
  · show 114 ≤ mN X0
    rw [x0_n]
    exact Nat.le_refl _
  · obtain ⟨s1, s2, s3, s4, s5⟩ := b0_sh k hk
    exact ⟨Or.inl s1, s2.trans s1.symm, 0, by decide, s3, s4, s5⟩
  · obtain ⟨s1, s2⟩ := b0_sl k hk
    refine ⟨s1.trans s2.symm, ⟨0, by decide, s2⟩, fun q => ?_, fun q => ?_, fun q => ?_⟩
    · rw [s2] at q; exact absurd q (by decide)
    · rw [s2] at q; exact absurd q (by decide)
    · rw [s2] at q; exact absurd q (by decide)
