/-! ===== what a text tells ===== -/
theorem NA_put {M X1 X2 X3 X4 : qM} {i1 v1 a2 a3 : Int} (h : NA M) (e1 : X1 = stM M 92 i1 v1) (e2 : X2 = stM X1 93 (X1 84 20) a2) (e3 : X3 = stM X2 94 (X2 84 20) a3) (e4 : X4 = stM X3 84 20 (X3 84 20 + 1)) (hc : a2 = 1 → a3 < 5) : NA X4 := by
  have c1 : X1 84 20 = M 84 20 := stM_k e1 84 20 (Or.inl (by decide))
  have c2 : X2 84 20 = M 84 20 := by rw [stM_k e2 84 20 (Or.inl (by decide)), c1]
  have c3 : X3 84 20 = M 84 20 := by rw [stM_k e3 84 20 (Or.inl (by decide)), c2]
  have c4 : X4 84 20 = M 84 20 + 1 := by rw [stM_g e4, c3]
  have d3 : ∀ i, X4 93 i = X2 93 i := fun i => by rw [stM_k e4 93 i (Or.inl (by decide)), stM_k e3 93 i (Or.inl (by decide))]
  have d4 : ∀ i, X4 94 i = X3 94 i := fun i => by rw [stM_k e4 94 i (Or.inl (by decide))]
  intro i h1 h2 h3
  rw [c4] at h2
  rw [d3] at h3
  rw [d4]
  by_cases hi : i = M 84 20
  · subst hi
    have g3 := stM_g e3
    rw [c2] at g3
    have g2 := stM_g e2
    rw [c1] at g2
    rw [g3]
    rw [g2] at h3
    exact hc h3
  · rw [stM_k e3 94 i (Or.inr (by omega)), stM_k e2 94 i (Or.inl (by decide)), stM_k e1 94 i (Or.inl (by decide))]
    rw [stM_k e2 93 i (Or.inr (by omega)), stM_k e1 93 i (Or.inl (by decide))] at h3
    exact h i h1 (by omega) h3
theorem GG_man {M X : qM} (h : GG M) (hf : M 84 13 = 0) (hw : X 84 13 = 0 → X 84 15 = 0 → M 84 15 = 0) (e19 : X 84 19 = M 84 19) (e95 : X 95 (M 84 19) = M 95 (M 84 19) + 1) (e96 : ∀ j, j ≠ 6 * M 84 19 + M 95 (M 84 19) → X 96 j = M 96 j) (e97 : ∀ j, j ≠ 6 * M 84 19 + M 95 (M 84 19) → X 97 j = M 97 j) (e98 : ∀ j, j ≠ 6 * M 84 19 + M 95 (M 84 19) → X 98 j = M 98 j)
    (e : ∀ b : Nat, ([100, 101, 102, 103, 104, 105, 106, 107, 108] : List Nat).contains b = true → X b = M b)
    (new : X 84 13 = 0 → X 84 15 = 0 → 1 ≤ X 98 (6 * M 84 19 + M 95 (M 84 19)) ∧ X 98 (6 * M 84 19 + M 95 (M 84 19)) ≤ 9 ∧ 0 ≤ X 96 (6 * M 84 19 + M 95 (M 84 19)) ∧ X 96 (6 * M 84 19 + M 95 (M 84 19)) ≤ 9999 ∧ 0 ≤ X 97 (6 * M 84 19 + M 95 (M 84 19)) ∧ X 97 (6 * M 84 19 + M 95 (M 84 19)) ≤ 9999) : GG X := by
  intro h0 h00
  obtain ⟨a, b, c, d⟩ := h hf (hw h0 h00)
  rw [e19, e 100 rfl, e 101 rfl, e 102 rfl, e 103 rfl, e 104 rfl, e 105 rfl, e 106 rfl, e 107 rfl, e 108 rfl]
  refine ⟨fun i h1 h2 => ?_, b, c, d⟩
  rw [e95] at h2
  by_cases hi : i = M 95 (M 84 19)
  · subst hi; exact new h0 h00
  · rw [e96 _ (by omega), e97 _ (by omega), e98 _ (by omega)]
    exact a i h1 (by omega)
theorem GG_good {M X : qM} (h : GG M) (hf : M 84 13 = 0) (hw : X 84 13 = 0 → X 84 15 = 0 → M 84 15 = 0) (e19 : X 84 19 = M 84 19) (e100 : X 100 (M 84 19) = M 100 (M 84 19) + 1) (e101 : ∀ j, j ≠ 5 * M 84 19 + M 100 (M 84 19) → X 101 j = M 101 j) (e102 : ∀ j, j ≠ 5 * M 84 19 + M 100 (M 84 19) → X 102 j = M 102 j)
    (e : ∀ b : Nat, ([95, 96, 97, 98, 103, 104, 105, 106, 107, 108] : List Nat).contains b = true → X b = M b)
    (new : X 84 13 = 0 → X 84 15 = 0 → 1 ≤ X 101 (5 * M 84 19 + M 100 (M 84 19)) ∧ X 101 (5 * M 84 19 + M 100 (M 84 19)) ≤ 9 ∧ 0 ≤ X 102 (5 * M 84 19 + M 100 (M 84 19)) ∧ X 102 (5 * M 84 19 + M 100 (M 84 19)) ≤ 999) : GG X := by
  intro h0 h00
  obtain ⟨a, b, c, d⟩ := h hf (hw h0 h00)
  rw [e19, e 95 rfl, e 96 rfl, e 97 rfl, e 98 rfl, e 103 rfl, e 104 rfl, e 105 rfl, e 106 rfl, e 107 rfl, e 108 rfl]
  refine ⟨a, fun i h1 h2 => ?_, c, d⟩
  rw [e100] at h2
  by_cases hi : i = M 100 (M 84 19)
  · subst hi; exact new h0 h00
  · rw [e101 _ (by omega), e102 _ (by omega)]
    exact b i h1 (by omega)
theorem stM_s {X N : qM} {a : Nat} {i v : Int} (e : X = stM N a i v) : qSm [(a, none)] N X := by
  intro b j h
  refine stM_k e b j ?_
  by_cases hb : b = a
  · subst hb
    exfalso
    have : qHit [(b, none)] b j = true := by
      unfold qHit
      rw [List.any_cons, Nat.beq_refl]
      rfl
    rw [this] at h
    exact Bool.noConfusion h
  · exact Or.inl hb
