/-! ===== the grammar of the class ===== -/
theorem pe_ne {N : qM} (h : INC N) {j : Int} (hj : 0 ≤ j ∧ j < 4) : N 1200 j ≠ 22 := by
  have h0 : (21 : Int) ≤ N 1200 0 ∧ N 1200 0 ≤ (21 : Int) := h 1200 0
  have h1 : (27 : Int) ≤ N 1200 1 ∧ N 1200 1 ≤ (27 : Int) := h 1200 1
  have h2 : (12 : Int) ≤ N 1200 2 ∧ N 1200 2 ≤ (12 : Int) := h 1200 2
  have h3 : (13 : Int) ≤ N 1200 3 ∧ N 1200 3 ≤ (13 : Int) := h 1200 3
  have hc : j = 0 ∨ j = 1 ∨ j = 2 ∨ j = 3 := by omega
  rcases hc with rfl | rfl | rfl | rfl <;> omega
/-- one token on: mode, form and place in it -/
def GT (md f s k md' f' s' : Int) : Prop := (md = 0 ∧ 3 ≤ k ∧ k ≤ 10 ∧ md' = 1 ∧ s' = 0 ∧ (k = 5 ∨ k = 6 → f' = 1006) ∧ (k = 7 ∨ k = 8 → f' = 1007) ∧ (k ≠ 5 ∧ k ≠ 6 ∧ k ≠ 7 ∧ k ≠ 8 → f' ≠ 1006 ∧ f' ≠ 1007) ∧ 1004 ≤ f') ∨ (md = 1 ∧ ((md' = 1 ∧ s' = s + 1 ∧ f' = f ∧ ((f = 1006 ∧ s = 0 ∧ k = 1) ∨ (f = 1007 ∧ s ≤ 1 ∧ k = 1) ∨ (f ≠ 1006 ∧ f ≠ 1007 ∧ k ≠ 22 ∧ s ≤ 5))) ∨ (md' = 2 ∧ k = 22 ∧ ((f = 1006 ∧ s = 1) ∨ (f = 1007 ∧ s = 2))) ∨ (md' = 0 ∧ k = 21))) ∨ (md ≠ 0 ∧ md ≠ 1 ∧ k ≠ 22 ∧ md' ≠ 1)
def GPt (K : Int → Int) (i md f s : Int) : Prop := md = 1 → (s ≤ 6 ∧ 1004 ≤ f ∧ (f = 1006 → (s = 0 ∧ 1 ≤ i ∧ (K (i - 1) = 5 ∨ K (i - 1) = 6)) ∨ (s = 1 ∧ 2 ≤ i ∧ (K (i - 2) = 5 ∨ K (i - 2) = 6) ∧ K (i - 1) = 1)) ∧ (f = 1007 → (s = 0 ∧ 1 ≤ i ∧ (K (i - 1) = 7 ∨ K (i - 1) = 8)) ∨ (s = 1 ∧ 2 ≤ i ∧ (K (i - 2) = 7 ∨ K (i - 2) = 8) ∧ K (i - 1) = 1) ∨ (s = 2 ∧ 3 ≤ i ∧ (K (i - 3) = 7 ∨ K (i - 3) = 8) ∧ K (i - 2) = 1 ∧ K (i - 1) = 1)))
def PAT (K : Int → Int) (j : Int) : Prop := (2 ≤ j ∧ K (j - 1) = 1 ∧ (K (j - 2) = 5 ∨ K (j - 2) = 6)) ∨ (3 ≤ j ∧ K (j - 1) = 1 ∧ K (j - 2) = 1 ∧ (K (j - 3) = 7 ∨ K (j - 3) = 8))
theorem GPt_on {K : Int → Int} {i md f s md' f' s' : Int} (hi : 0 ≤ i) (hs : 0 ≤ s) (h : GPt K i md f s) (t : GT md f s (K i) md' f' s') : GPt K (i + 1) md' f' s' ∧ (K i = 22 → PAT K i) := by
  unfold GPt PAT at *
  unfold GT at t
  rw [show i + 1 - 1 = i by omega, show i + 1 - 2 = i - 1 by omega, show i + 1 - 3 = i - 2 by omega]
  refine ⟨fun hm => ?_, fun hk => ?_⟩
  · rcases t with ⟨a, b, c, d, e, g1, g2, g3, g4⟩ | ⟨a, t⟩ | ⟨a, b, c, d⟩
    · refine ⟨by omega, g4, fun hf => Or.inl ⟨e, by omega, ?_⟩, fun hf => Or.inl ⟨e, by omega, ?_⟩⟩
      · by_cases h5 : K i = 5 ∨ K i = 6
        · exact h5
        · exfalso
          by_cases h7 : K i = 7 ∨ K i = 8
          · have := g2 h7; omega
          · have := g3 (by omega); omega
      · by_cases h7 : K i = 7 ∨ K i = 8
        · exact h7
        · exfalso
          by_cases h5 : K i = 5 ∨ K i = 6
          · have := g1 h5; omega
          · have := g3 (by omega); omega
    · have hh := h a
      rcases t with ⟨b, c, d, e⟩ | ⟨b, c, d⟩ | ⟨b, c⟩
      · refine ⟨by omega, by omega, fun hf => Or.inr ?_, fun hf => Or.inr ?_⟩
        · have h6 := hh.2.2.1 (by omega)
          rcases e with e | e | e
          · rcases h6 with h6 | h6
            · exact ⟨by omega, by omega, h6.2.2, e.2.2⟩
            · omega
          · omega
          · omega
        · have h6 := hh.2.2.2 (by omega)
          rcases e with e | e | e
          · omega
          · rcases h6 with h6 | h6 | h6
            · exact Or.inl ⟨by omega, by omega, h6.2.2, e.2.2⟩
            · exact Or.inr ⟨by omega, by omega, h6.2.2.1, h6.2.2.2, e.2.2⟩
            · omega
          · omega
      · omega
      · omega
    · omega
  · rcases t with ⟨a, b, c, d, e, g1, g2, g3, g4⟩ | ⟨a, t⟩ | ⟨a, b, c, d⟩
    · omega
    · have hh := h a
      rcases t with ⟨b, c, d, e⟩ | ⟨b, c, d⟩ | ⟨b, c⟩
      · omega
      · rcases d with d | d
        · have h6 := hh.2.2.1 d.1
          rcases h6 with h6 | h6
          · omega
          · exact Or.inl ⟨h6.2.1, h6.2.2.2, h6.2.2.1⟩
        · have h6 := hh.2.2.2 d.1
          rcases h6 with h6 | h6 | h6
          · omega
          · omega
          · exact Or.inr ⟨h6.2.1, h6.2.2.2.2, h6.2.2.2.1, h6.2.2.1⟩
      · omega
    · omega
