/-! ===== the class's grammar ===== -/
/-! ### the class's grammar: what its methods do with its fields -/
def CT (M : qM) : Prop := ∀ j, 0 ≤ j → j < 11 → 0 ≤ M 11 j ∧ M 11 j ≤ 1000
def MST (k : Int) : Int := if k = 3 then 6 else if k = 4 then 5 else if k = 7 ∨ k = 8 then 12 else 400
theorem MST_sp (k : Int) : (k = 3 ∧ MST k = 6) ∨ (k = 4 ∧ MST k = 5) ∨ ((k = 7 ∨ k = 8) ∧ MST k = 12) ∨ (k ≠ 3 ∧ k ≠ 4 ∧ k ≠ 7 ∧ k ≠ 8 ∧ MST k = 400) := by
  unfold MST
  repeat' split
  all_goals omega
def FRM (k f : Int) : Prop := (k = 3 ∧ f = 1004) ∨ (k = 4 ∧ f = 1005) ∨ ((k = 5 ∨ k = 6) ∧ f = 1006) ∨ ((k = 7 ∨ k = 8) ∧ f = 1007) ∨ ((k = 9 ∨ k = 10) ∧ f = 1008)
def BTL (k : Int) (M X : qM) (z : Int) : Prop := (z = 0 ∧ ¬ (3 ≤ k ∧ k ≤ 10)) ∨ (z = 1 ∧ 3 ≤ k ∧ k ≤ 10 ∧ X 11 k = M 11 k + 1 ∧ (∀ j, j ≠ k → X 11 j = M 11 j) ∧ X 10 1 = 1 ∧ X 10 3 = 0 ∧ FRM k (X 10 2) ∧ ((X 10 8 = 1 ∧ MST k < M 11 k + 1) ∨ (X 10 8 = 0 ∧ M 11 k + 1 ≤ MST k)))
def DUE (f y d : Int) : Prop := (f = 1004 ∧ ((y = 0 ∧ d = 1) ∨ (1 ≤ y ∧ y ≤ 4 ∧ d = 2) ∨ (5 ≤ y ∧ d = 21))) ∨ (f = 1005 ∧ ((y = 0 ∧ d = 1) ∨ (1 ≤ y ∧ y ≤ 2 ∧ d = 2) ∨ (3 ≤ y ∧ d = 21))) ∨ (f = 1006 ∧ ((y = 0 ∧ d = 1) ∨ (y = 1 ∧ d = 22) ∨ (2 ≤ y ∧ d = 21))) ∨ (f = 1007 ∧ ((0 ≤ y ∧ y ≤ 1 ∧ d = 1) ∨ (y = 2 ∧ d = 22) ∨ (3 ≤ y ∧ d = 21))) ∨ (f = 1008 ∧ ((y = 0 ∧ d = 2) ∨ (1 ≤ y ∧ d = 21)))
def DUC (f y c : Int) : Prop := (f = 1004 ∧ ((y = 0 ∧ c = 110) ∨ (1 ≤ y ∧ y ≤ 4 ∧ c = 105) ∨ (5 ≤ y ∧ c = 59))) ∨ (f = 1005 ∧ ((y = 0 ∧ c = 110) ∨ (1 ≤ y ∧ y ≤ 2 ∧ c = 105) ∨ (3 ≤ y ∧ c = 59))) ∨ (f = 1006 ∧ ((y = 0 ∧ c = 110) ∨ (y = 1 ∧ c = 61) ∨ (2 ≤ y ∧ c = 59))) ∨ (f = 1007 ∧ ((0 ≤ y ∧ y ≤ 1 ∧ c = 110) ∨ (y = 2 ∧ c = 61) ∨ (3 ≤ y ∧ c = 59))) ∨ (f = 1008 ∧ ((y = 0 ∧ c = 105) ∨ (1 ≤ y ∧ c = 59)))
theorem DUC_3 {f y z : Int} (hf : f = 1004) (h0 : 0 ≤ y) (hl : y < 6) (h : (y = 0 → z = 110) ∧ (y = 1 → z = 105) ∧ (y = 2 → z = 105) ∧ (y = 3 → z = 105) ∧ (y = 4 → z = 105) ∧ (y = 5 → z = 59)) : DUC f y z := by
  refine Or.inl ⟨hf, ?_⟩
  rcases (show y = 0 ∨ y = 1 ∨ y = 2 ∨ y = 3 ∨ y = 4 ∨ y = 5 by omega) with h9 | h9 | h9 | h9 | h9 | h9
  · have := h.1 h9
    omega
  · have := h.2.1 h9
    omega
  · have := h.2.2.1 h9
    omega
  · have := h.2.2.2.1 h9
    omega
  · have := h.2.2.2.2.1 h9
    omega
  · have := h.2.2.2.2.2 h9
    omega
theorem DUC_e3 {f y z : Int} (hf : f = 1004) (hy : 6 ≤ y) (hz : z = 59) : DUC f y z := Or.inl ⟨hf, by omega⟩
theorem DUC_4 {f y z : Int} (hf : f = 1005) (h0 : 0 ≤ y) (hl : y < 4) (h : (y = 0 → z = 110) ∧ (y = 1 → z = 105) ∧ (y = 2 → z = 105) ∧ (y = 3 → z = 59)) : DUC f y z := by
  refine Or.inr (Or.inl ⟨hf, ?_⟩)
  rcases (show y = 0 ∨ y = 1 ∨ y = 2 ∨ y = 3 by omega) with h9 | h9 | h9 | h9
  · have := h.1 h9
    omega
  · have := h.2.1 h9
    omega
  · have := h.2.2.1 h9
    omega
  · have := h.2.2.2 h9
    omega
theorem DUC_e4 {f y z : Int} (hf : f = 1005) (hy : 4 ≤ y) (hz : z = 59) : DUC f y z := Or.inr (Or.inl ⟨hf, by omega⟩)
theorem DUC_5 {f y z : Int} (hf : f = 1006) (h0 : 0 ≤ y) (hl : y < 2) (h : (y = 0 → z = 110) ∧ (y = 1 → z = 61)) : DUC f y z := by
  refine Or.inr (Or.inr (Or.inl ⟨hf, ?_⟩))
  rcases (show y = 0 ∨ y = 1 by omega) with h9 | h9
  · have := h.1 h9
    omega
  · have := h.2 h9
    omega
theorem DUC_e5 {f y z : Int} (hf : f = 1006) (hy : 2 ≤ y) (hz : z = 59) : DUC f y z := Or.inr (Or.inr (Or.inl ⟨hf, by omega⟩))
theorem DUC_6 {f y z : Int} (hf : f = 1007) (h0 : 0 ≤ y) (hl : y < 3) (h : (y = 0 → z = 110) ∧ (y = 1 → z = 110) ∧ (y = 2 → z = 61)) : DUC f y z := by
  refine Or.inr (Or.inr (Or.inr (Or.inl ⟨hf, ?_⟩)))
  rcases (show y = 0 ∨ y = 1 ∨ y = 2 by omega) with h9 | h9 | h9
  · have := h.1 h9
    omega
  · have := h.2.1 h9
    omega
  · have := h.2.2 h9
    omega
theorem DUC_e6 {f y z : Int} (hf : f = 1007) (hy : 3 ≤ y) (hz : z = 59) : DUC f y z := Or.inr (Or.inr (Or.inr (Or.inl ⟨hf, by omega⟩)))
theorem DUC_7 {f y z : Int} (hf : f = 1008) (h0 : 0 ≤ y) (hl : y < 2) (h : (y = 0 → z = 105) ∧ (y = 1 → z = 59)) : DUC f y z := by
  refine Or.inr (Or.inr (Or.inr (Or.inr ⟨hf, ?_⟩)))
  rcases (show y = 0 ∨ y = 1 by omega) with h9 | h9
  · have := h.1 h9
    omega
  · have := h.2 h9
    omega
theorem DUC_e7 {f y z : Int} (hf : f = 1008) (hy : 2 ≤ y) (hz : z = 59) : DUC f y z := Or.inr (Or.inr (Or.inr (Or.inr ⟨hf, by omega⟩)))
theorem DUC_a {f y c : Int} (h : DUC f y c) (hc : c = 110) : DUE f y 1 := by
  rcases h with ⟨f0, h⟩ | ⟨f0, h⟩ | ⟨f0, h⟩ | ⟨f0, h⟩ | ⟨f0, h⟩
  · exact Or.inl ⟨f0, by omega⟩
  · exact Or.inr (Or.inl ⟨f0, by omega⟩)
  · exact Or.inr (Or.inr (Or.inl ⟨f0, by omega⟩))
  · exact Or.inr (Or.inr (Or.inr (Or.inl ⟨f0, by omega⟩)))
  · exact Or.inr (Or.inr (Or.inr (Or.inr ⟨f0, by omega⟩)))
theorem DUC_b {f y c : Int} (h : DUC f y c) (hc : c = 105) : DUE f y 2 := by
  rcases h with ⟨f0, h⟩ | ⟨f0, h⟩ | ⟨f0, h⟩ | ⟨f0, h⟩ | ⟨f0, h⟩
  · exact Or.inl ⟨f0, by omega⟩
  · exact Or.inr (Or.inl ⟨f0, by omega⟩)
  · exact Or.inr (Or.inr (Or.inl ⟨f0, by omega⟩))
  · exact Or.inr (Or.inr (Or.inr (Or.inl ⟨f0, by omega⟩)))
  · exact Or.inr (Or.inr (Or.inr (Or.inr ⟨f0, by omega⟩)))
theorem DUC_c {f y c : Int} (h : DUC f y c) (hc : c = 61) : DUE f y 22 := by
  rcases h with ⟨f0, h⟩ | ⟨f0, h⟩ | ⟨f0, h⟩ | ⟨f0, h⟩ | ⟨f0, h⟩
  · exact Or.inl ⟨f0, by omega⟩
  · exact Or.inr (Or.inl ⟨f0, by omega⟩)
  · exact Or.inr (Or.inr (Or.inl ⟨f0, by omega⟩))
  · exact Or.inr (Or.inr (Or.inr (Or.inl ⟨f0, by omega⟩)))
  · exact Or.inr (Or.inr (Or.inr (Or.inr ⟨f0, by omega⟩)))
theorem DUC_d {f y c : Int} (h : DUC f y c) (hc : c ≠ 110 ∧ c ≠ 105 ∧ c ≠ 61) : DUE f y 21 := by
  rcases h with ⟨f0, h⟩ | ⟨f0, h⟩ | ⟨f0, h⟩ | ⟨f0, h⟩ | ⟨f0, h⟩
  · exact Or.inl ⟨f0, by omega⟩
  · exact Or.inr (Or.inl ⟨f0, by omega⟩)
  · exact Or.inr (Or.inr (Or.inl ⟨f0, by omega⟩))
  · exact Or.inr (Or.inr (Or.inr (Or.inl ⟨f0, by omega⟩)))
  · exact Or.inr (Or.inr (Or.inr (Or.inr ⟨f0, by omega⟩)))
/-- what the old contract asks of the sign that is due -/
theorem DUC_o {f y c : Int} (h : DUC f y c) : (c = 61 → (f = 1006 ∧ y = 1) ∨ (f = 1007 ∧ y = 2)) ∧ (c = 110 ∨ c = 105 → (f = 1006 ∧ y = 0 ∧ c = 110) ∨ (f = 1007 ∧ y ≤ 1 ∧ c = 110) ∨ (f ≠ 1006 ∧ f ≠ 1007 ∧ y ≤ 5)) := by
  rcases h with ⟨f0, h⟩ | ⟨f0, h⟩ | ⟨f0, h⟩ | ⟨f0, h⟩ | ⟨f0, h⟩
  · subst f0; exact ⟨fun h9 => by omega, fun h9 => Or.inr (Or.inr ⟨by decide, by decide, by omega⟩)⟩
  · subst f0; exact ⟨fun h9 => by omega, fun h9 => Or.inr (Or.inr ⟨by decide, by decide, by omega⟩)⟩
  · exact ⟨fun h9 => Or.inl ⟨f0, by omega⟩, fun h9 => Or.inl ⟨f0, by omega, by omega⟩⟩
  · exact ⟨fun h9 => Or.inr ⟨f0, by omega⟩, fun h9 => Or.inr (Or.inl ⟨f0, by omega, by omega⟩)⟩
  · subst f0; exact ⟨fun h9 => by omega, fun h9 => Or.inr (Or.inr ⟨by decide, by decide, by omega⟩)⟩
def FFW (k : Int) (M X : qM) (z : Int) : Prop := ∃ d, DUE (M 10 2) (M 10 3) d ∧ ((z = 0 ∧ k ≠ d) ∨ (z = 1 ∧ k = d ∧ X 10 8 = M 10 8 ∧ ((d = 21 ∧ X 10 1 = 0) ∨ (d = 22 ∧ X 10 1 = 2 ∧ X 10 4 = 0 ∧ X 10 5 = 0 ∧ X 10 6 = 0 ∧ X 10 7 = 1) ∨ ((d = 1 ∨ d = 2) ∧ X 10 1 = M 10 1 ∧ X 10 2 = M 10 2 ∧ X 10 3 = M 10 3 + 1))))
def TUN (k : Int) (M X : qM) (z : Int) : Prop := (z = 1 ∧ (k = 2 ∨ (14 ≤ k ∧ k ≤ 20)) ∧ X 10 1 = 3 ∧ X 10 4 = M 10 4 ∧ X 10 5 = M 10 5 ∧ X 10 6 = M 10 6 ∧ X 10 7 = 0 ∧ X 10 8 = M 10 8) ∨ (z = 1 ∧ k = 28 ∧ X 10 1 = M 10 1 ∧ X 10 4 = M 10 4 ∧ X 10 5 = M 10 5 ∧ X 10 6 = M 10 6 + 1 ∧ X 10 7 = 0 ∧ ((X 10 8 = 1 ∧ 6 < M 10 6 + 1) ∨ (X 10 8 = 0 ∧ M 10 6 + 1 ≤ 6))) ∨ (z = 1 ∧ k = 11 ∧ M 10 7 ≠ 0 ∧ X 10 1 = M 10 1 ∧ X 10 4 = 1 ∧ X 10 5 = M 10 5 + 1 ∧ X 10 6 = M 10 6 ∧ X 10 7 = 0 ∧ ((X 10 8 = 1 ∧ 4 < M 10 5 + 1) ∨ (X 10 8 = 0 ∧ M 10 5 + 1 ≤ 4))) ∨ (z = 0 ∧ k ≠ 2 ∧ ¬ (14 ≤ k ∧ k ≤ 20) ∧ k ≠ 28 ∧ ¬ (k = 11 ∧ M 10 7 ≠ 0))
def TBU (k : Int) (M X : qM) (z : Int) : Prop := (z = 1 ∧ 23 ≤ k ∧ k ≤ 26 ∧ X 10 1 = 2 ∧ X 10 4 = M 10 4 ∧ X 10 5 = M 10 5 ∧ X 10 6 = M 10 6 ∧ X 10 7 = M 10 7 ∧ X 10 8 = M 10 8) ∨ (¬ (23 ≤ k ∧ k ≤ 26) ∧ ((0 < M 10 6 ∧ ((z = 0 ∧ k ≠ 29) ∨ (z = 1 ∧ k = 29 ∧ X 10 1 = M 10 1 ∧ X 10 4 = M 10 4 ∧ X 10 5 = M 10 5 ∧ X 10 6 = M 10 6 - 1 ∧ X 10 7 = M 10 7 ∧ X 10 8 = M 10 8))) ∨ (M 10 6 ≤ 0 ∧ ((z = 0 ∧ ¬ ((M 10 4 = 0 ∧ k = 21) ∨ (M 10 4 = 1 ∧ k = 27) ∨ (M 10 4 = 2 ∧ k = 12) ∨ (M 10 4 = 3 ∧ k = 13))) ∨ (z = 1 ∧ M 10 4 = 0 ∧ k = 21 ∧ X 10 1 = 0 ∧ X 10 8 = M 10 8) ∨ (z = 1 ∧ ((M 10 4 = 1 ∧ k = 27 ∧ X 10 4 = 2 ∧ X 10 7 = 0) ∨ (M 10 4 = 2 ∧ k = 12 ∧ X 10 4 = 3 ∧ X 10 7 = 0) ∨ (M 10 4 = 3 ∧ k = 13 ∧ X 10 4 = 0 ∧ X 10 7 = 1)) ∧ X 10 1 = 2 ∧ X 10 5 = M 10 5 ∧ X 10 6 = M 10 6 ∧ X 10 8 = M 10 8)))))
theorem pe_v {N : qM} (h : INC N) {j : Int} (hj : 0 ≤ j ∧ j < 4) : (j = 0 ∧ N 1200 j = 21) ∨ (j = 1 ∧ N 1200 j = 27) ∨ (j = 2 ∧ N 1200 j = 12) ∨ (j = 3 ∧ N 1200 j = 13) := by
  have h0 : (21 : Int) ≤ N 1200 0 ∧ N 1200 0 ≤ (21 : Int) := h 1200 0
  have h1 : (27 : Int) ≤ N 1200 1 ∧ N 1200 1 ≤ (27 : Int) := h 1200 1
  have h2 : (12 : Int) ≤ N 1200 2 ∧ N 1200 2 ≤ (12 : Int) := h 1200 2
  have h3 : (13 : Int) ≤ N 1200 3 ∧ N 1200 3 ≤ (13 : Int) := h 1200 3
  have hc : j = 0 ∨ j = 1 ∨ j = 2 ∨ j = 3 := by omega
  rcases hc with rfl | rfl | rfl | rfl <;> omega
theorem tm4 {p : Int} (h : 0 ≤ p ∧ p ≤ 3) : (p = 3 ∧ Int.tmod (p + 1) 4 = 0) ∨ (p < 3 ∧ Int.tmod (p + 1) 4 = p + 1) := by
  rcases (show p = 0 ∨ p = 1 ∨ p = 2 ∨ p = 3 by omega) with rfl | rfl | rfl | rfl <;> decide
def GOC (k : Int) (M X : qM) (z : Int) : Prop := (M 10 1 = 0 ∧ BTL k M X z) ∨ (M 10 1 = 1 ∧ FFW k M X z ∧ X 11 = M 11) ∨ (M 10 1 = 2 ∧ TUN k M X z ∧ X 11 = M 11) ∨ (M 10 1 ≠ 0 ∧ M 10 1 ≠ 1 ∧ M 10 1 ≠ 2 ∧ TBU k M X z ∧ X 11 = M 11)
def YB (q y : Int) : Prop := 0 ≤ y ∧ ((q = 3 ∧ y ≤ 5) ∨ (q = 4 ∧ y ≤ 3) ∨ ((q = 5 ∨ q = 6) ∧ y ≤ 1) ∨ ((q = 7 ∨ q = 8) ∧ y ≤ 2) ∨ ((q = 9 ∨ q = 10) ∧ y ≤ 1))
/-- the class's fields stand for the machine's state -/
def CG (N : qM) (s : gSt) : Prop := N 10 1 = s.1 ∧ (s.1 = 0 ∨ (s.1 = 1 ∧ FRM s.2.1 (N 10 2) ∧ N 10 3 = s.2.2.1 ∧ YB s.2.1 s.2.2.1) ∨ (s.1 = 2 ∧ N 10 4 = s.2.1 ∧ N 10 5 = s.2.2.1 ∧ N 10 6 = s.2.2.2.1 ∧ N 10 7 = s.2.2.2.2.1 ∧ (s.2.2.2.2.1 = 0 ∨ s.2.2.2.2.1 = 1) ∧ 0 ≤ s.2.1 ∧ s.2.1 ≤ 3 ∧ 0 ≤ s.2.2.1 ∧ s.2.2.1 ≤ 4 ∧ 0 ≤ s.2.2.2.1 ∧ s.2.2.2.1 ≤ 6) ∨ (s.1 = 3 ∧ N 10 4 = s.2.1 ∧ N 10 5 = s.2.2.1 ∧ N 10 6 = s.2.2.2.1 ∧ N 10 7 = 0 ∧ 0 ≤ s.2.1 ∧ s.2.1 ≤ 3 ∧ 0 ≤ s.2.2.1 ∧ s.2.2.1 ≤ 4 ∧ 0 ≤ s.2.2.2.1 ∧ s.2.2.2.1 ≤ 6)) ∧ N 11 3 = s.2.2.2.2.2.1 ∧ N 11 4 = s.2.2.2.2.2.2.1 ∧ N 11 7 = s.2.2.2.2.2.2.2.1 ∧ N 11 8 = s.2.2.2.2.2.2.2.2 ∧ N 10 8 = 0
theorem DUE_g {q y f d : Int} (hf : FRM q f) (hy : YB q y) (h : DUE f y d) : d = gDue q y := by
  unfold FRM at hf
  unfold DUE at h
  unfold YB at hy
  unfold gDue
  repeat' split
  all_goals omega
theorem gDue_c {q y : Int} (hy : YB q y) : (gDue q y = 1 ∧ YB q (y + 1)) ∨ (gDue q y = 2 ∧ YB q (y + 1)) ∨ gDue q y = 21 ∨ gDue q y = 22 := by
  unfold YB at hy ⊢
  unfold gDue
  repeat' split
  all_goals omega
theorem CG_rng {N : qM} {s : gSt} (h : CG N s) : (N 10 1 = 2 ∨ N 10 1 = 3 → 0 ≤ N 10 5 ∧ N 10 5 ≤ 1000 ∧ 0 ≤ N 10 6 ∧ N 10 6 ≤ 1000 ∧ 0 ≤ N 10 4 ∧ N 10 4 ≤ 3) ∧ 0 ≤ N 10 1 ∧ N 10 1 ≤ 3 := by
  obtain ⟨h0, h1, -⟩ := h
  rcases h1 with h1 | h1 | h1 | h1 <;> omega

theorem gFu_0c {x y d r a b e w : Int} {k : Int} : gFu (0, x, y, d, r, a, b, e, w) k ↔ ((k = 3 ∧ 6 ≤ a) ∨ (k = 4 ∧ 5 ≤ b) ∨ (k = 7 ∧ 12 ≤ e) ∨ (k = 8 ∧ 12 ≤ w)) := by
  unfold gFu
  rw [if_pos rfl]

theorem GS_on0_3 {M X : qM} {x y d r a b e w : Int} (h3 : M 11 3 = a) (h4 : M 11 4 = b) (h7 : M 11 7 = e) (h8 : M 11 8 = w) (e1 : X 11 3 = M 11 3 + 1) (e2 : ∀ j, j ≠ 3 → X 11 j = M 11 j) (e3 : X 10 1 = 1) (e4 : X 10 3 = 0) (e5 : FRM 3 (X 10 2)) (e6 : (X 10 8 = 1 ∧ MST 3 < M 11 3 + 1) ∨ (X 10 8 = 0 ∧ M 11 3 + 1 ≤ MST 3)) : (X 10 8 = 0 ∧ ¬ gFu (0, x, y, d, r, a, b, e, w) 3 ∧ CG X (gTo (0, x, y, d, r, a, b, e, w) 3)) ∨ (X 10 8 ≠ 0 ∧ (gFu (0, x, y, d, r, a, b, e, w) 3 ∨ (3 ≤ (3 : Int) ∧ (3 : Int) ≤ 10 ∧ 400 ≤ M 11 3))) := by
  have hst : MST 3 = 6 := by decide
  rw [hst] at e6
  have c4 : X 11 4 = M 11 4 := e2 4 (by decide)
  have c7 : X 11 7 = M 11 7 := e2 7 (by decide)
  have c8 : X 11 8 = M 11 8 := e2 8 (by decide)
  rcases e6 with ⟨q1, q2⟩ | ⟨q1, q2⟩
  · exact Or.inr ⟨by omega, Or.inl (gFu_0c.mpr (Or.inl ⟨rfl, by omega⟩))⟩
  · refine Or.inl ⟨q1, fun hf => ?_, ?_⟩
    · rcases gFu_0c.mp hf with ⟨u, v⟩ | ⟨u, v⟩ | ⟨u, v⟩ | ⟨u, v⟩
      · omega
      · exact absurd u (by decide)
      · exact absurd u (by decide)
      · exact absurd u (by decide)
    · show CG X (if (0 : Int) = 0 then _ else _)
      rw [if_pos rfl]
      refine ⟨e3, Or.inr (Or.inl ⟨rfl, e5, e4, ?_⟩), ?_, ?_, ?_, ?_, q1⟩
      · show YB 3 0
        unfold YB
        omega
      · show X 11 3 = if (3 : Int) = 3 then a + 1 else a
        rw [if_pos rfl]
        omega
      · show X 11 4 = if (3 : Int) = 4 then b + 1 else b
        rw [if_neg (by decide)]
        omega
      · show X 11 7 = if (3 : Int) = 7 then e + 1 else e
        rw [if_neg (by decide)]
        omega
      · show X 11 8 = if (3 : Int) = 8 then w + 1 else w
        rw [if_neg (by decide)]
        omega
theorem GS_on0_4 {M X : qM} {x y d r a b e w : Int} (h3 : M 11 3 = a) (h4 : M 11 4 = b) (h7 : M 11 7 = e) (h8 : M 11 8 = w) (e1 : X 11 4 = M 11 4 + 1) (e2 : ∀ j, j ≠ 4 → X 11 j = M 11 j) (e3 : X 10 1 = 1) (e4 : X 10 3 = 0) (e5 : FRM 4 (X 10 2)) (e6 : (X 10 8 = 1 ∧ MST 4 < M 11 4 + 1) ∨ (X 10 8 = 0 ∧ M 11 4 + 1 ≤ MST 4)) : (X 10 8 = 0 ∧ ¬ gFu (0, x, y, d, r, a, b, e, w) 4 ∧ CG X (gTo (0, x, y, d, r, a, b, e, w) 4)) ∨ (X 10 8 ≠ 0 ∧ (gFu (0, x, y, d, r, a, b, e, w) 4 ∨ (3 ≤ (4 : Int) ∧ (4 : Int) ≤ 10 ∧ 400 ≤ M 11 4))) := by
  have hst : MST 4 = 5 := by decide
  rw [hst] at e6
  have c3 : X 11 3 = M 11 3 := e2 3 (by decide)
  have c7 : X 11 7 = M 11 7 := e2 7 (by decide)
  have c8 : X 11 8 = M 11 8 := e2 8 (by decide)
  rcases e6 with ⟨q1, q2⟩ | ⟨q1, q2⟩
  · exact Or.inr ⟨by omega, Or.inl (gFu_0c.mpr (Or.inr (Or.inl ⟨rfl, by omega⟩)))⟩
  · refine Or.inl ⟨q1, fun hf => ?_, ?_⟩
    · rcases gFu_0c.mp hf with ⟨u, v⟩ | ⟨u, v⟩ | ⟨u, v⟩ | ⟨u, v⟩
      · exact absurd u (by decide)
      · omega
      · exact absurd u (by decide)
      · exact absurd u (by decide)
    · show CG X (if (0 : Int) = 0 then _ else _)
      rw [if_pos rfl]
      refine ⟨e3, Or.inr (Or.inl ⟨rfl, e5, e4, ?_⟩), ?_, ?_, ?_, ?_, q1⟩
      · show YB 4 0
        unfold YB
        omega
      · show X 11 3 = if (4 : Int) = 3 then a + 1 else a
        rw [if_neg (by decide)]
        omega
      · show X 11 4 = if (4 : Int) = 4 then b + 1 else b
        rw [if_pos rfl]
        omega
      · show X 11 7 = if (4 : Int) = 7 then e + 1 else e
        rw [if_neg (by decide)]
        omega
      · show X 11 8 = if (4 : Int) = 8 then w + 1 else w
        rw [if_neg (by decide)]
        omega
theorem GS_on0_5 {M X : qM} {x y d r a b e w : Int} (h3 : M 11 3 = a) (h4 : M 11 4 = b) (h7 : M 11 7 = e) (h8 : M 11 8 = w) (e1 : X 11 5 = M 11 5 + 1) (e2 : ∀ j, j ≠ 5 → X 11 j = M 11 j) (e3 : X 10 1 = 1) (e4 : X 10 3 = 0) (e5 : FRM 5 (X 10 2)) (e6 : (X 10 8 = 1 ∧ MST 5 < M 11 5 + 1) ∨ (X 10 8 = 0 ∧ M 11 5 + 1 ≤ MST 5)) : (X 10 8 = 0 ∧ ¬ gFu (0, x, y, d, r, a, b, e, w) 5 ∧ CG X (gTo (0, x, y, d, r, a, b, e, w) 5)) ∨ (X 10 8 ≠ 0 ∧ (gFu (0, x, y, d, r, a, b, e, w) 5 ∨ (3 ≤ (5 : Int) ∧ (5 : Int) ≤ 10 ∧ 400 ≤ M 11 5))) := by
  have hst : MST 5 = 400 := by decide
  rw [hst] at e6
  have c3 : X 11 3 = M 11 3 := e2 3 (by decide)
  have c4 : X 11 4 = M 11 4 := e2 4 (by decide)
  have c7 : X 11 7 = M 11 7 := e2 7 (by decide)
  have c8 : X 11 8 = M 11 8 := e2 8 (by decide)
  rcases e6 with ⟨q1, q2⟩ | ⟨q1, q2⟩
  · exact Or.inr ⟨by omega, Or.inr ⟨by decide, by decide, by omega⟩⟩
  · refine Or.inl ⟨q1, fun hf => ?_, ?_⟩
    · rcases gFu_0c.mp hf with ⟨u, v⟩ | ⟨u, v⟩ | ⟨u, v⟩ | ⟨u, v⟩
      · exact absurd u (by decide)
      · exact absurd u (by decide)
      · exact absurd u (by decide)
      · exact absurd u (by decide)
    · show CG X (if (0 : Int) = 0 then _ else _)
      rw [if_pos rfl]
      refine ⟨e3, Or.inr (Or.inl ⟨rfl, e5, e4, ?_⟩), ?_, ?_, ?_, ?_, q1⟩
      · show YB 5 0
        unfold YB
        omega
      · show X 11 3 = if (5 : Int) = 3 then a + 1 else a
        rw [if_neg (by decide)]
        omega
      · show X 11 4 = if (5 : Int) = 4 then b + 1 else b
        rw [if_neg (by decide)]
        omega
      · show X 11 7 = if (5 : Int) = 7 then e + 1 else e
        rw [if_neg (by decide)]
        omega
      · show X 11 8 = if (5 : Int) = 8 then w + 1 else w
        rw [if_neg (by decide)]
        omega
theorem GS_on0_6 {M X : qM} {x y d r a b e w : Int} (h3 : M 11 3 = a) (h4 : M 11 4 = b) (h7 : M 11 7 = e) (h8 : M 11 8 = w) (e1 : X 11 6 = M 11 6 + 1) (e2 : ∀ j, j ≠ 6 → X 11 j = M 11 j) (e3 : X 10 1 = 1) (e4 : X 10 3 = 0) (e5 : FRM 6 (X 10 2)) (e6 : (X 10 8 = 1 ∧ MST 6 < M 11 6 + 1) ∨ (X 10 8 = 0 ∧ M 11 6 + 1 ≤ MST 6)) : (X 10 8 = 0 ∧ ¬ gFu (0, x, y, d, r, a, b, e, w) 6 ∧ CG X (gTo (0, x, y, d, r, a, b, e, w) 6)) ∨ (X 10 8 ≠ 0 ∧ (gFu (0, x, y, d, r, a, b, e, w) 6 ∨ (3 ≤ (6 : Int) ∧ (6 : Int) ≤ 10 ∧ 400 ≤ M 11 6))) := by
  have hst : MST 6 = 400 := by decide
  rw [hst] at e6
  have c3 : X 11 3 = M 11 3 := e2 3 (by decide)
  have c4 : X 11 4 = M 11 4 := e2 4 (by decide)
  have c7 : X 11 7 = M 11 7 := e2 7 (by decide)
  have c8 : X 11 8 = M 11 8 := e2 8 (by decide)
  rcases e6 with ⟨q1, q2⟩ | ⟨q1, q2⟩
  · exact Or.inr ⟨by omega, Or.inr ⟨by decide, by decide, by omega⟩⟩
  · refine Or.inl ⟨q1, fun hf => ?_, ?_⟩
    · rcases gFu_0c.mp hf with ⟨u, v⟩ | ⟨u, v⟩ | ⟨u, v⟩ | ⟨u, v⟩
      · exact absurd u (by decide)
      · exact absurd u (by decide)
      · exact absurd u (by decide)
      · exact absurd u (by decide)
    · show CG X (if (0 : Int) = 0 then _ else _)
      rw [if_pos rfl]
      refine ⟨e3, Or.inr (Or.inl ⟨rfl, e5, e4, ?_⟩), ?_, ?_, ?_, ?_, q1⟩
      · show YB 6 0
        unfold YB
        omega
      · show X 11 3 = if (6 : Int) = 3 then a + 1 else a
        rw [if_neg (by decide)]
        omega
      · show X 11 4 = if (6 : Int) = 4 then b + 1 else b
        rw [if_neg (by decide)]
        omega
      · show X 11 7 = if (6 : Int) = 7 then e + 1 else e
        rw [if_neg (by decide)]
        omega
      · show X 11 8 = if (6 : Int) = 8 then w + 1 else w
        rw [if_neg (by decide)]
        omega
theorem GS_on0_7 {M X : qM} {x y d r a b e w : Int} (h3 : M 11 3 = a) (h4 : M 11 4 = b) (h7 : M 11 7 = e) (h8 : M 11 8 = w) (e1 : X 11 7 = M 11 7 + 1) (e2 : ∀ j, j ≠ 7 → X 11 j = M 11 j) (e3 : X 10 1 = 1) (e4 : X 10 3 = 0) (e5 : FRM 7 (X 10 2)) (e6 : (X 10 8 = 1 ∧ MST 7 < M 11 7 + 1) ∨ (X 10 8 = 0 ∧ M 11 7 + 1 ≤ MST 7)) : (X 10 8 = 0 ∧ ¬ gFu (0, x, y, d, r, a, b, e, w) 7 ∧ CG X (gTo (0, x, y, d, r, a, b, e, w) 7)) ∨ (X 10 8 ≠ 0 ∧ (gFu (0, x, y, d, r, a, b, e, w) 7 ∨ (3 ≤ (7 : Int) ∧ (7 : Int) ≤ 10 ∧ 400 ≤ M 11 7))) := by
  have hst : MST 7 = 12 := by decide
  rw [hst] at e6
  have c3 : X 11 3 = M 11 3 := e2 3 (by decide)
  have c4 : X 11 4 = M 11 4 := e2 4 (by decide)
  have c8 : X 11 8 = M 11 8 := e2 8 (by decide)
  rcases e6 with ⟨q1, q2⟩ | ⟨q1, q2⟩
  · exact Or.inr ⟨by omega, Or.inl (gFu_0c.mpr (Or.inr (Or.inr (Or.inl ⟨rfl, by omega⟩))))⟩
  · refine Or.inl ⟨q1, fun hf => ?_, ?_⟩
    · rcases gFu_0c.mp hf with ⟨u, v⟩ | ⟨u, v⟩ | ⟨u, v⟩ | ⟨u, v⟩
      · exact absurd u (by decide)
      · exact absurd u (by decide)
      · omega
      · exact absurd u (by decide)
    · show CG X (if (0 : Int) = 0 then _ else _)
      rw [if_pos rfl]
      refine ⟨e3, Or.inr (Or.inl ⟨rfl, e5, e4, ?_⟩), ?_, ?_, ?_, ?_, q1⟩
      · show YB 7 0
        unfold YB
        omega
      · show X 11 3 = if (7 : Int) = 3 then a + 1 else a
        rw [if_neg (by decide)]
        omega
      · show X 11 4 = if (7 : Int) = 4 then b + 1 else b
        rw [if_neg (by decide)]
        omega
      · show X 11 7 = if (7 : Int) = 7 then e + 1 else e
        rw [if_pos rfl]
        omega
      · show X 11 8 = if (7 : Int) = 8 then w + 1 else w
        rw [if_neg (by decide)]
        omega
theorem GS_on0_8 {M X : qM} {x y d r a b e w : Int} (h3 : M 11 3 = a) (h4 : M 11 4 = b) (h7 : M 11 7 = e) (h8 : M 11 8 = w) (e1 : X 11 8 = M 11 8 + 1) (e2 : ∀ j, j ≠ 8 → X 11 j = M 11 j) (e3 : X 10 1 = 1) (e4 : X 10 3 = 0) (e5 : FRM 8 (X 10 2)) (e6 : (X 10 8 = 1 ∧ MST 8 < M 11 8 + 1) ∨ (X 10 8 = 0 ∧ M 11 8 + 1 ≤ MST 8)) : (X 10 8 = 0 ∧ ¬ gFu (0, x, y, d, r, a, b, e, w) 8 ∧ CG X (gTo (0, x, y, d, r, a, b, e, w) 8)) ∨ (X 10 8 ≠ 0 ∧ (gFu (0, x, y, d, r, a, b, e, w) 8 ∨ (3 ≤ (8 : Int) ∧ (8 : Int) ≤ 10 ∧ 400 ≤ M 11 8))) := by
  have hst : MST 8 = 12 := by decide
  rw [hst] at e6
  have c3 : X 11 3 = M 11 3 := e2 3 (by decide)
  have c4 : X 11 4 = M 11 4 := e2 4 (by decide)
  have c7 : X 11 7 = M 11 7 := e2 7 (by decide)
  rcases e6 with ⟨q1, q2⟩ | ⟨q1, q2⟩
  · exact Or.inr ⟨by omega, Or.inl (gFu_0c.mpr (Or.inr (Or.inr (Or.inr ⟨rfl, by omega⟩))))⟩
  · refine Or.inl ⟨q1, fun hf => ?_, ?_⟩
    · rcases gFu_0c.mp hf with ⟨u, v⟩ | ⟨u, v⟩ | ⟨u, v⟩ | ⟨u, v⟩
      · exact absurd u (by decide)
      · exact absurd u (by decide)
      · exact absurd u (by decide)
      · omega
    · show CG X (if (0 : Int) = 0 then _ else _)
      rw [if_pos rfl]
      refine ⟨e3, Or.inr (Or.inl ⟨rfl, e5, e4, ?_⟩), ?_, ?_, ?_, ?_, q1⟩
      · show YB 8 0
        unfold YB
        omega
      · show X 11 3 = if (8 : Int) = 3 then a + 1 else a
        rw [if_neg (by decide)]
        omega
      · show X 11 4 = if (8 : Int) = 4 then b + 1 else b
        rw [if_neg (by decide)]
        omega
      · show X 11 7 = if (8 : Int) = 7 then e + 1 else e
        rw [if_neg (by decide)]
        omega
      · show X 11 8 = if (8 : Int) = 8 then w + 1 else w
        rw [if_pos rfl]
        omega
theorem GS_on0_9 {M X : qM} {x y d r a b e w : Int} (h3 : M 11 3 = a) (h4 : M 11 4 = b) (h7 : M 11 7 = e) (h8 : M 11 8 = w) (e1 : X 11 9 = M 11 9 + 1) (e2 : ∀ j, j ≠ 9 → X 11 j = M 11 j) (e3 : X 10 1 = 1) (e4 : X 10 3 = 0) (e5 : FRM 9 (X 10 2)) (e6 : (X 10 8 = 1 ∧ MST 9 < M 11 9 + 1) ∨ (X 10 8 = 0 ∧ M 11 9 + 1 ≤ MST 9)) : (X 10 8 = 0 ∧ ¬ gFu (0, x, y, d, r, a, b, e, w) 9 ∧ CG X (gTo (0, x, y, d, r, a, b, e, w) 9)) ∨ (X 10 8 ≠ 0 ∧ (gFu (0, x, y, d, r, a, b, e, w) 9 ∨ (3 ≤ (9 : Int) ∧ (9 : Int) ≤ 10 ∧ 400 ≤ M 11 9))) := by
  have hst : MST 9 = 400 := by decide
  rw [hst] at e6
  have c3 : X 11 3 = M 11 3 := e2 3 (by decide)
  have c4 : X 11 4 = M 11 4 := e2 4 (by decide)
  have c7 : X 11 7 = M 11 7 := e2 7 (by decide)
  have c8 : X 11 8 = M 11 8 := e2 8 (by decide)
  rcases e6 with ⟨q1, q2⟩ | ⟨q1, q2⟩
  · exact Or.inr ⟨by omega, Or.inr ⟨by decide, by decide, by omega⟩⟩
  · refine Or.inl ⟨q1, fun hf => ?_, ?_⟩
    · rcases gFu_0c.mp hf with ⟨u, v⟩ | ⟨u, v⟩ | ⟨u, v⟩ | ⟨u, v⟩
      · exact absurd u (by decide)
      · exact absurd u (by decide)
      · exact absurd u (by decide)
      · exact absurd u (by decide)
    · show CG X (if (0 : Int) = 0 then _ else _)
      rw [if_pos rfl]
      refine ⟨e3, Or.inr (Or.inl ⟨rfl, e5, e4, ?_⟩), ?_, ?_, ?_, ?_, q1⟩
      · show YB 9 0
        unfold YB
        omega
      · show X 11 3 = if (9 : Int) = 3 then a + 1 else a
        rw [if_neg (by decide)]
        omega
      · show X 11 4 = if (9 : Int) = 4 then b + 1 else b
        rw [if_neg (by decide)]
        omega
      · show X 11 7 = if (9 : Int) = 7 then e + 1 else e
        rw [if_neg (by decide)]
        omega
      · show X 11 8 = if (9 : Int) = 8 then w + 1 else w
        rw [if_neg (by decide)]
        omega
theorem GS_on0_10 {M X : qM} {x y d r a b e w : Int} (h3 : M 11 3 = a) (h4 : M 11 4 = b) (h7 : M 11 7 = e) (h8 : M 11 8 = w) (e1 : X 11 10 = M 11 10 + 1) (e2 : ∀ j, j ≠ 10 → X 11 j = M 11 j) (e3 : X 10 1 = 1) (e4 : X 10 3 = 0) (e5 : FRM 10 (X 10 2)) (e6 : (X 10 8 = 1 ∧ MST 10 < M 11 10 + 1) ∨ (X 10 8 = 0 ∧ M 11 10 + 1 ≤ MST 10)) : (X 10 8 = 0 ∧ ¬ gFu (0, x, y, d, r, a, b, e, w) 10 ∧ CG X (gTo (0, x, y, d, r, a, b, e, w) 10)) ∨ (X 10 8 ≠ 0 ∧ (gFu (0, x, y, d, r, a, b, e, w) 10 ∨ (3 ≤ (10 : Int) ∧ (10 : Int) ≤ 10 ∧ 400 ≤ M 11 10))) := by
  have hst : MST 10 = 400 := by decide
  rw [hst] at e6
  have c3 : X 11 3 = M 11 3 := e2 3 (by decide)
  have c4 : X 11 4 = M 11 4 := e2 4 (by decide)
  have c7 : X 11 7 = M 11 7 := e2 7 (by decide)
  have c8 : X 11 8 = M 11 8 := e2 8 (by decide)
  rcases e6 with ⟨q1, q2⟩ | ⟨q1, q2⟩
  · exact Or.inr ⟨by omega, Or.inr ⟨by decide, by decide, by omega⟩⟩
  · refine Or.inl ⟨q1, fun hf => ?_, ?_⟩
    · rcases gFu_0c.mp hf with ⟨u, v⟩ | ⟨u, v⟩ | ⟨u, v⟩ | ⟨u, v⟩
      · exact absurd u (by decide)
      · exact absurd u (by decide)
      · exact absurd u (by decide)
      · exact absurd u (by decide)
    · show CG X (if (0 : Int) = 0 then _ else _)
      rw [if_pos rfl]
      refine ⟨e3, Or.inr (Or.inl ⟨rfl, e5, e4, ?_⟩), ?_, ?_, ?_, ?_, q1⟩
      · show YB 10 0
        unfold YB
        omega
      · show X 11 3 = if (10 : Int) = 3 then a + 1 else a
        rw [if_neg (by decide)]
        omega
      · show X 11 4 = if (10 : Int) = 4 then b + 1 else b
        rw [if_neg (by decide)]
        omega
      · show X 11 7 = if (10 : Int) = 7 then e + 1 else e
        rw [if_neg (by decide)]
        omega
      · show X 11 8 = if (10 : Int) = 8 then w + 1 else w
        rw [if_neg (by decide)]
        omega
theorem GS_on0 {M X : qM} {x y d r a b e w : Int} {k z : Int} (h3 : M 11 3 = a) (h4 : M 11 4 = b) (h7 : M 11 7 = e) (h8 : M 11 8 = w) (g : BTL k M X z) : (z = 1 ∧ gGo (0, x, y, d, r, a, b, e, w) k ∧ ((X 10 8 = 0 ∧ ¬ gFu (0, x, y, d, r, a, b, e, w) k ∧ CG X (gTo (0, x, y, d, r, a, b, e, w) k)) ∨ (X 10 8 ≠ 0 ∧ (gFu (0, x, y, d, r, a, b, e, w) k ∨ (3 ≤ k ∧ k ≤ 10 ∧ 400 ≤ M 11 k))))) ∨ (z = 0 ∧ ¬ gGo (0, x, y, d, r, a, b, e, w) k) := by
  rcases g with ⟨z0, gk⟩ | ⟨z1, k1, k2, e1, e2, e3, e4, e5, e6⟩
  · exact Or.inr ⟨z0, fun h => gk (gGo_0.mp h)⟩
  · refine Or.inl ⟨z1, gGo_0.mpr ⟨k1, k2⟩, ?_⟩
    rcases (show k = 3 ∨ k = 4 ∨ k = 5 ∨ k = 6 ∨ k = 7 ∨ k = 8 ∨ k = 9 ∨ k = 10 by omega) with rfl | rfl | rfl | rfl | rfl | rfl | rfl | rfl
    · exact GS_on0_3 h3 h4 h7 h8 e1 e2 e3 e4 e5 e6
    · exact GS_on0_4 h3 h4 h7 h8 e1 e2 e3 e4 e5 e6
    · exact GS_on0_5 h3 h4 h7 h8 e1 e2 e3 e4 e5 e6
    · exact GS_on0_6 h3 h4 h7 h8 e1 e2 e3 e4 e5 e6
    · exact GS_on0_7 h3 h4 h7 h8 e1 e2 e3 e4 e5 e6
    · exact GS_on0_8 h3 h4 h7 h8 e1 e2 e3 e4 e5 e6
    · exact GS_on0_9 h3 h4 h7 h8 e1 e2 e3 e4 e5 e6
    · exact GS_on0_10 h3 h4 h7 h8 e1 e2 e3 e4 e5 e6
theorem GS_on1 {M X : qM} {x y d r a b e w : Int} {k z : Int} (h0 : M 10 1 = 1) (h1 : FRM x (M 10 2) ∧ M 10 3 = y ∧ YB x y) (h3 : M 11 3 = a) (h4 : M 11 4 = b) (h7 : M 11 7 = e) (h8 : M 11 8 = w) (h9 : M 10 8 = 0) (g : FFW k M X z) (f11 : X 11 = M 11) : (z = 1 ∧ gGo (1, x, y, d, r, a, b, e, w) k ∧ ((X 10 8 = 0 ∧ ¬ gFu (1, x, y, d, r, a, b, e, w) k ∧ CG X (gTo (1, x, y, d, r, a, b, e, w) k)) ∨ (X 10 8 ≠ 0 ∧ (gFu (1, x, y, d, r, a, b, e, w) k ∨ (3 ≤ k ∧ k ≤ 10 ∧ 400 ≤ M 11 k))))) ∨ (z = 0 ∧ ¬ gGo (1, x, y, d, r, a, b, e, w) k) := by
  obtain ⟨f1, f2, f3⟩ := h1
  obtain ⟨due, u1, u2⟩ := g
  rw [f2] at u1
  have hd := DUE_g f1 f3 u1
  rcases u2 with ⟨z0, nk⟩ | ⟨z1, ek, e8, u3⟩
  · exact Or.inr ⟨z0, fun h => nk (by have := gGo_1.mp h; omega)⟩
  · refine Or.inl ⟨z1, gGo_1.mpr (by omega), Or.inl ⟨by omega, gFu_1, ?_⟩⟩
    rw [gTo_1]
    rcases u3 with ⟨u3, u4⟩ | ⟨u3, u4, u5, u6, u7, u8⟩ | ⟨u3, u4, u5, u6⟩
    · rw [if_neg (by omega), if_pos (by omega)]
      exact ⟨u4, Or.inl rfl, by rw [f11]; exact h3, by rw [f11]; exact h4, by rw [f11]; exact h7, by rw [f11]; exact h8, by first | omega | (dsimp only; omega)⟩
    · rw [if_pos (by omega)]
      exact ⟨u4, Or.inr (Or.inr (Or.inl ⟨rfl, u5, u6, u7, u8, Or.inr rfl, Int.le_refl 0, show (0 : Int) ≤ 3 by decide, Int.le_refl 0, show (0 : Int) ≤ 4 by decide, Int.le_refl 0, show (0 : Int) ≤ 6 by decide⟩)), by rw [f11]; exact h3, by rw [f11]; exact h4, by rw [f11]; exact h7, by rw [f11]; exact h8, by first | omega | (dsimp only; omega)⟩
    · rw [if_neg (by omega), if_neg (by omega)]
      refine ⟨by rw [u4]; exact h0, Or.inr (Or.inl ⟨rfl, by rw [u5]; exact f1, by rw [u6, f2], ?_⟩), by rw [f11]; exact h3, by rw [f11]; exact h4, by rw [f11]; exact h7, by rw [f11]; exact h8, by omega⟩
      have := gDue_c f3
      show YB x (y + 1)
      rcases this with t | t | t | t
      · exact t.2
      · exact t.2
      · omega
      · omega
theorem GS_on2 {M X : qM} {x y d r a b e w : Int} {k z : Int} (h0 : M 10 1 = 2) (h1 : M 10 4 = x ∧ M 10 5 = y ∧ M 10 6 = d ∧ M 10 7 = r ∧ (r = 0 ∨ r = 1) ∧ 0 ≤ x ∧ x ≤ 3 ∧ 0 ≤ y ∧ y ≤ 4 ∧ 0 ≤ d ∧ d ≤ 6) (h3 : M 11 3 = a) (h4 : M 11 4 = b) (h7 : M 11 7 = e) (h8 : M 11 8 = w) (h9 : M 10 8 = 0) (g : TUN k M X z) (f11 : X 11 = M 11) : (z = 1 ∧ gGo (2, x, y, d, r, a, b, e, w) k ∧ ((X 10 8 = 0 ∧ ¬ gFu (2, x, y, d, r, a, b, e, w) k ∧ CG X (gTo (2, x, y, d, r, a, b, e, w) k)) ∨ (X 10 8 ≠ 0 ∧ (gFu (2, x, y, d, r, a, b, e, w) k ∨ (3 ≤ k ∧ k ≤ 10 ∧ 400 ≤ M 11 k))))) ∨ (z = 0 ∧ ¬ gGo (2, x, y, d, r, a, b, e, w) k) := by
  obtain ⟨v1, v2, v3, v4, v5, v6, v7, v8, v9, v10, v11⟩ := h1
  rcases g with ⟨z1, gk, a1, a2, a3, a4, a7, a5⟩ | ⟨z1, gk, a1, a2, a3, a4, a5, a6⟩ | ⟨z1, gk, g7, a1, a2, a3, a4, a5, a6⟩ | ⟨z0, b1, b2, b3, b4⟩
  · refine Or.inl ⟨z1, gGo_2.mpr (by omega), Or.inl ⟨by omega, fun h => by have := gFu_2.mp h; omega, ?_⟩⟩
    rw [gTo_2, if_neg (by omega), if_neg (by omega)]
    exact ⟨a1, Or.inr (Or.inr (Or.inr ⟨rfl, by first | omega | (dsimp only; omega), by first | omega | (dsimp only; omega), by first | omega | (dsimp only; omega), a7, v6, v7, v8, v9, v10, v11⟩)), by rw [f11]; exact h3, by rw [f11]; exact h4, by rw [f11]; exact h7, by rw [f11]; exact h8, by first | omega | (dsimp only; omega)⟩
  · refine Or.inl ⟨z1, gGo_2.mpr (by omega), ?_⟩
    rcases a6 with ⟨q1, q2⟩ | ⟨q1, q2⟩
    · exact Or.inr ⟨by omega, Or.inl (gFu_2.mpr (by omega))⟩
    · refine Or.inl ⟨q1, fun h => by have := gFu_2.mp h; omega, ?_⟩
      rw [gTo_2, if_pos gk]
      exact ⟨by first | omega | (dsimp only; omega), Or.inr (Or.inr (Or.inl ⟨rfl, by first | omega | (dsimp only; omega), by first | omega | (dsimp only; omega), by show X 10 6 = d + 1; omega, a5, Or.inl rfl, v6, v7, v8, v9, by show 0 ≤ d + 1; omega, by show d + 1 ≤ 6; omega⟩)), by rw [f11]; exact h3, by rw [f11]; exact h4, by rw [f11]; exact h7, by rw [f11]; exact h8, q1⟩
  · refine Or.inl ⟨z1, gGo_2.mpr (by omega), ?_⟩
    rcases a6 with ⟨q1, q2⟩ | ⟨q1, q2⟩
    · exact Or.inr ⟨by omega, Or.inl (gFu_2.mpr (by omega))⟩
    · refine Or.inl ⟨q1, fun h => by have := gFu_2.mp h; omega, ?_⟩
      rw [gTo_2, if_neg (by omega), if_pos gk]
      exact ⟨by first | omega | (dsimp only; omega), Or.inr (Or.inr (Or.inl ⟨rfl, a2, by show X 10 5 = y + 1; omega, by first | omega | (dsimp only; omega), a5, Or.inl rfl, by show (0 : Int) ≤ 1; decide, by show (1 : Int) ≤ 3; decide, by show 0 ≤ y + 1; omega, by show y + 1 ≤ 4; omega, v10, v11⟩)), by rw [f11]; exact h3, by rw [f11]; exact h4, by rw [f11]; exact h7, by rw [f11]; exact h8, q1⟩
  · exact Or.inr ⟨z0, fun h => by have := gGo_2.mp h; omega⟩
theorem GS_on3 {M X : qM} {x y d r a b e w : Int} {k z : Int} (h0 : M 10 1 = 3) (h1 : M 10 4 = x ∧ M 10 5 = y ∧ M 10 6 = d ∧ M 10 7 = 0 ∧ 0 ≤ x ∧ x ≤ 3 ∧ 0 ≤ y ∧ y ≤ 4 ∧ 0 ≤ d ∧ d ≤ 6) (h3 : M 11 3 = a) (h4 : M 11 4 = b) (h7 : M 11 7 = e) (h8 : M 11 8 = w) (h9 : M 10 8 = 0) (g : TBU k M X z) (f11 : X 11 = M 11) : (z = 1 ∧ gGo (3, x, y, d, r, a, b, e, w) k ∧ ((X 10 8 = 0 ∧ ¬ gFu (3, x, y, d, r, a, b, e, w) k ∧ CG X (gTo (3, x, y, d, r, a, b, e, w) k)) ∨ (X 10 8 ≠ 0 ∧ (gFu (3, x, y, d, r, a, b, e, w) k ∨ (3 ≤ k ∧ k ≤ 10 ∧ 400 ≤ M 11 k))))) ∨ (z = 0 ∧ ¬ gGo (3, x, y, d, r, a, b, e, w) k) := by
  obtain ⟨v1, v2, v3, v5, v6, v7, v8, v9, v10, v11⟩ := h1
  rcases g with ⟨z1, k1, k2, a1, a2, a3, a4, a5, a6⟩ | ⟨nk, g⟩
  · refine Or.inl ⟨z1, gGo_3.mpr (by omega), Or.inl ⟨by omega, gFu_3, ?_⟩⟩
    rw [gTo_3, if_pos ⟨k1, k2⟩]
    exact ⟨a1, Or.inr (Or.inr (Or.inl ⟨rfl, by first | omega | (dsimp only; omega), by first | omega | (dsimp only; omega), by first | omega | (dsimp only; omega), by show X 10 7 = 0; omega, Or.inl rfl, v6, v7, v8, v9, v10, v11⟩)), by rw [f11]; exact h3, by rw [f11]; exact h4, by rw [f11]; exact h7, by rw [f11]; exact h8, by first | omega | (dsimp only; omega)⟩
  · rcases g with ⟨dp, g⟩ | ⟨dp, g⟩
    · have dz : 0 < d := by omega
      rcases g with ⟨z0, n29⟩ | ⟨z1, k29, a1, a2, a3, a4, a5, a6⟩
      · exact Or.inr ⟨z0, fun h => by have := gGo_3.mp h; omega⟩
      · refine Or.inl ⟨z1, gGo_3.mpr (by omega), Or.inl ⟨by omega, gFu_3, ?_⟩⟩
        rw [gTo_3, if_neg nk, if_pos dz]
        exact ⟨by first | omega | (dsimp only; omega), Or.inr (Or.inr (Or.inr ⟨rfl, by first | omega | (dsimp only; omega), by first | omega | (dsimp only; omega), by show X 10 6 = d - 1; omega, by first | omega | (dsimp only; omega), v6, v7, v8, v9, by show 0 ≤ d - 1; omega, by show d - 1 ≤ 6; omega⟩)), by rw [f11]; exact h3, by rw [f11]; exact h4, by rw [f11]; exact h7, by rw [f11]; exact h8, by first | omega | (dsimp only; omega)⟩
    · have dz : ¬ 0 < d := by omega
      rcases g with ⟨z0, nn⟩ | ⟨z1, p0, k21, a1, a2⟩ | ⟨z1, pp, a1, a2, a3, a4⟩
      · exact Or.inr ⟨z0, fun h => by have := gGo_3.mp h; omega⟩
      · refine Or.inl ⟨z1, gGo_3.mpr (by omega), Or.inl ⟨by omega, gFu_3, ?_⟩⟩
        rw [gTo_3, if_neg nk, if_neg dz, if_pos (by omega)]
        exact ⟨a1, Or.inl rfl, by rw [f11]; exact h3, by rw [f11]; exact h4, by rw [f11]; exact h7, by rw [f11]; exact h8, by first | omega | (dsimp only; omega)⟩
      · refine Or.inl ⟨z1, gGo_3.mpr (by omega), Or.inl ⟨by omega, gFu_3, ?_⟩⟩
        rw [gTo_3, if_neg nk, if_neg dz, if_neg (by omega)]
        by_cases p3 : x = 3
        · rw [if_pos p3]
          exact ⟨a1, Or.inr (Or.inr (Or.inl ⟨rfl, by show X 10 4 = 0; omega, by first | omega | (dsimp only; omega), by show X 10 6 = 0; omega, by show X 10 7 = 1; omega, Or.inr rfl, Int.le_refl 0, show (0 : Int) ≤ 3 by decide, v8, v9, Int.le_refl 0, show (0 : Int) ≤ 6 by decide⟩)), by rw [f11]; exact h3, by rw [f11]; exact h4, by rw [f11]; exact h7, by rw [f11]; exact h8, by first | omega | (dsimp only; omega)⟩
        · rw [if_neg p3]
          exact ⟨a1, Or.inr (Or.inr (Or.inl ⟨rfl, by show X 10 4 = x + 1; omega, by first | omega | (dsimp only; omega), by show X 10 6 = 0; omega, by show X 10 7 = 0; omega, Or.inl rfl, by show 0 ≤ x + 1; omega, by show x + 1 ≤ 3; omega, v8, v9, Int.le_refl 0, show (0 : Int) ≤ 6 by decide⟩)), by rw [f11]; exact h3, by rw [f11]; exact h4, by rw [f11]; exact h7, by rw [f11]; exact h8, by first | omega | (dsimp only; omega)⟩
/-- one token: the class goes on just where the machine does -/
theorem GS_on {M X : qM} {s : gSt} {k z : Int} (h : CG M s) (g : GOC k M X z) (_ct : ∀ j, 0 ≤ j → j < 11 → 0 ≤ M 11 j) : (z = 1 ∧ gGo s k ∧ ((X 10 8 = 0 ∧ ¬ gFu s k ∧ CG X (gTo s k)) ∨ (X 10 8 ≠ 0 ∧ (gFu s k ∨ (3 ≤ k ∧ k ≤ 10 ∧ 400 ≤ M 11 k))))) ∨ (z = 0 ∧ ¬ gGo s k) := by
  obtain ⟨m, x, y, d, r, a, b, e, w⟩ := s
  obtain ⟨h0, h1, h3, h4, h7, h8, h9⟩ := h
  simp only at h0 h1 h3 h4 h7 h8
  rcases g with ⟨g0, g⟩ | ⟨g0, g, f11⟩ | ⟨g0, g, f11⟩ | ⟨g0, g1, g2, g, f11⟩
  · have em : m = 0 := by omega
    subst em
    exact GS_on0 h3 h4 h7 h8 g
  · have em : m = 1 := by omega
    subst em
    rcases h1 with h1 | ⟨-, h1⟩ | ⟨h1, -⟩ | ⟨h1, -⟩
    · exact absurd h1 (by decide)
    · exact GS_on1 g0 h1 h3 h4 h7 h8 h9 g f11
    · exact absurd h1 (by decide)
    · exact absurd h1 (by decide)
  · have em : m = 2 := by omega
    subst em
    rcases h1 with h1 | ⟨h1, -⟩ | ⟨-, h1⟩ | ⟨h1, -⟩
    · exact absurd h1 (by decide)
    · exact absurd h1 (by decide)
    · exact GS_on2 g0 h1 h3 h4 h7 h8 h9 g f11
    · exact absurd h1 (by decide)
  · have em : m = 3 := by
      rcases h1 with h1 | ⟨h1, -⟩ | ⟨h1, -⟩ | ⟨h1, -⟩ <;> omega
    subst em
    rcases h1 with h1 | ⟨h1, -⟩ | ⟨h1, -⟩ | ⟨-, h1⟩
    · exact absurd h1 (by decide)
    · exact absurd h1 (by decide)
    · exact absurd h1 (by decide)
    · exact GS_on3 h0 h1 h3 h4 h7 h8 h9 g f11
