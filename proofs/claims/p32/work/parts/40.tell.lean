/-! ===== what a text tells, on ===== -/
theorem GG_buy {M X : qM} (h : GG M) (hf : M 84 13 = 0) (hw : X 84 13 = 0 → X 84 15 = 0 → M 84 15 = 0) (e19 : X 84 19 = M 84 19) (e103 : X 103 (M 84 19) = M 103 (M 84 19) + 1) (e104 : ∀ j, j ≠ 12 * M 84 19 + M 103 (M 84 19) → X 104 j = M 104 j) (e105 : ∀ j, j ≠ 12 * M 84 19 + M 103 (M 84 19) → X 105 j = M 105 j)
    (e : ∀ b : Nat, ([95, 96, 97, 98, 100, 101, 102, 106, 107, 108] : List Nat).contains b = true → X b = M b)
    (new : X 84 13 = 0 → X 84 15 = 0 → 0 ≤ X 104 (12 * M 84 19 + M 103 (M 84 19)) ∧ X 104 (12 * M 84 19 + M 103 (M 84 19)) < 6 ∧ 0 ≤ X 105 (12 * M 84 19 + M 103 (M 84 19)) ∧ X 105 (12 * M 84 19 + M 103 (M 84 19)) < 5) : GG X := by
  intro h0 h00
  obtain ⟨a, b, c, d⟩ := h hf (hw h0 h00)
  rw [e19, e 95 rfl, e 96 rfl, e 97 rfl, e 98 rfl, e 100 rfl, e 101 rfl, e 102 rfl, e 106 rfl, e 107 rfl, e 108 rfl]
  refine ⟨a, b, fun i h1 h2 => ?_, d⟩
  rw [e103] at h2
  by_cases hi : i = M 103 (M 84 19)
  · subst hi; exact new h0 h00
  · rw [e104 _ (by omega), e105 _ (by omega)]
    exact c i h1 (by omega)
theorem GG_want {M X : qM} (h : GG M) (hf : M 84 13 = 0) (hw : X 84 13 = 0 → X 84 15 = 0 → M 84 15 = 0) (e19 : X 84 19 = M 84 19) (e106 : X 106 (M 84 19) = M 106 (M 84 19) + 1) (e107 : ∀ j, j ≠ 12 * M 84 19 + M 106 (M 84 19) → X 107 j = M 107 j) (e108 : ∀ j, j ≠ 12 * M 84 19 + M 106 (M 84 19) → X 108 j = M 108 j)
    (e : ∀ b : Nat, ([95, 96, 97, 98, 100, 101, 102, 103, 104, 105] : List Nat).contains b = true → X b = M b)
    (new : X 84 13 = 0 → X 84 15 = 0 → 0 ≤ X 107 (12 * M 84 19 + M 106 (M 84 19)) ∧ X 107 (12 * M 84 19 + M 106 (M 84 19)) < 6 ∧ 0 ≤ X 108 (12 * M 84 19 + M 106 (M 84 19)) ∧ X 108 (12 * M 84 19 + M 106 (M 84 19)) < 5) : GG X := by
  intro h0 h00
  obtain ⟨a, b, c, d⟩ := h hf (hw h0 h00)
  rw [e19, e 95 rfl, e 96 rfl, e 97 rfl, e 98 rfl, e 100 rfl, e 101 rfl, e 102 rfl, e 103 rfl, e 104 rfl, e 105 rfl]
  refine ⟨a, b, c, fun i h1 h2 => ?_⟩
  rw [e106] at h2
  by_cases hi : i = M 106 (M 84 19)
  · subst hi; exact new h0 h00
  · rw [e107 _ (by omega), e108 _ (by omega)]
    exact d i h1 (by omega)
