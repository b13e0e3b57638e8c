/-! ===== what a text tells, on ===== -/
theorem GG_buy {M X : qM} (h : GG M) (hf : M 84 13 = 0) (hw : X 84 13 = 0 → X 84 15 = 0 → M 84 15 = 0) (e19 : X 84 19 = M 84 19) (e103 : X 103 (M 84 19) = M 103 (M 84 19) + 1) (e104 : ∀ j, j ≠ 12 * M 84 19 + M 103 (M 84 19) → X 104 j = M 104 j) (e105 : ∀ j, j ≠ 12 * M 84 19 + M 103 (M 84 19) → X 105 j = M 105 j)
    (e : ∀ b : Nat, ([95, 96, 97, 98, 100, 101, 102, 106, 107, 108] : List Nat).contains b = true → X b = M b)
    (new : X 84 13 = 0 → X 84 15 = 0 → 0 ≤ X 104 (12 * M 84 19 + M 103 (M 84 19)) ∧ X 104 (12 * M 84 19 + M 103 (M 84 19)) < 6 ∧ 0 ≤ X 105 (12 * M 84 19 + M 103 (M 84 19)) ∧ X 105 (12 * M 84 19 + M 103 (M 84 19)) < 5) : GG X := by
  intro h0 h00
  obtain ⟨a, b, c, d⟩ := h hf (hw h0 h00)
  rw [e19, e 95 rfl, e 96 rfl, e 97 rfl, e 98 rfl, e 100 rfl, e 101 rfl, e 102 rfl, e 106 rfl, e 107 rfl, e 108 rfl]
  refine ⟨a, b, fun i h1 h2 => ?_, d⟩
  rw [e103] at h2
  by_cases hi : i = M 103 (M 84 19)
  · subst hi; exact new h0 h00
  · rw [e104 _ (by omega), e105 _ (by omega)]
    exact c i h1 (by omega)
theorem GG_want {M X : qM} (h : GG M) (hf : M 84 13 = 0) (hw : X 84 13 = 0 → X 84 15 = 0 → M 84 15 = 0) (e19 : X 84 19 = M 84 19) (e106 : X 106 (M 84 19) = M 106 (M 84 19) + 1) (e107 : ∀ j, j ≠ 12 * M 84 19 + M 106 (M 84 19) → X 107 j = M 107 j) (e108 : ∀ j, j ≠ 12 * M 84 19 + M 106 (M 84 19) → X 108 j = M 108 j)
    (e : ∀ b : Nat, ([95, 96, 97, 98, 100, 101, 102, 103, 104, 105] : List Nat).contains b = true → X b = M b)
    (new : X 84 13 = 0 → X 84 15 = 0 → 0 ≤ X 107 (12 * M 84 19 + M 106 (M 84 19)) ∧ X 107 (12 * M 84 19 + M 106 (M 84 19)) < 6 ∧ 0 ≤ X 108 (12 * M 84 19 + M 106 (M 84 19)) ∧ X 108 (12 * M 84 19 + M 106 (M 84 19)) < 5) : GG X := by
  intro h0 h00
  obtain ⟨a, b, c, d⟩ := h hf (hw h0 h00)
  rw [e19, e 95 rfl, e 96 rfl, e 97 rfl, e 98 rfl, e 100 rfl, e 101 rfl, e 102 rfl, e 103 rfl, e 104 rfl, e 105 rfl]
  refine ⟨a, b, c, fun i h1 h2 => ?_⟩
  rw [e106] at h2
  by_cases hi : i = M 106 (M 84 19)
  · subst hi; exact new h0 h00
  · rw [e107 _ (by omega), e108 _ (by omega)]
    exact d i h1 (by omega)
set_option maxRecDepth 100000 in
theorem s_X12_tell_0 {M : qM} {Q : qV → qS → qM → Prop} (T : qTabOk) (h : ((0 : Int) ≤ M 84 11 ∧ M 84 11 < (403 : Int)) ∧ ((((M 87 (M 84 11) : Int) = 20 → ((0 : Int) ≤ M 84 19 ∧ M 84 19 < (2 : Int)) ∧ (True ∧ CV fzR 149 [qR 84, qI (M 95 (M 84 19)), qI 6] SH M (fun M34 => (¬ (M34 84 13 : Int) = (0 : Int) → Q qU SH M34) ∧ (¬ (¬ (M34 84 13 : Int) = (0 : Int)) → True ∧ CV fzR 155 [qR 84] SH M34 (fun M35 => Q qU SH M35))))) ∧ (((M 87 (M 84 11) : Int) = 21 → ((0 : Int) ≤ M 84 19 ∧ M 84 19 < (2 : Int)) ∧ (True ∧ CV fzR 149 [qR 84, qI (M 100 (M 84 19)), qI 5] SH M (fun M32 => (¬ (M32 84 13 : Int) = (0 : Int) → Q qU SH M32) ∧ (¬ (¬ (M32 84 13 : Int) = (0 : Int)) → True ∧ CV fzR 156 [qR 84] SH M32 (fun M33 => Q qU SH M33))))) ∧ (((M 87 (M 84 11) : Int) = 22 → True ∧ CV fzR 144 [qR 84] SH M (fun M29 => True ∧ CI fzR 153 [qR 84, qI 1] SH M29 (fun r30 M30 => True ∧ CV fzR 157 [qR 84, qI r30] SH M30 (fun M31 => Q qU SH M31)))) ∧ (((M 87 (M 84 11) : Int) = 23 → True ∧ CV fzR 144 [qR 84] SH M (fun M25 => True ∧ CI fzR 153 [qR 84, qI 0] SH M25 (fun r26 M26 => ((0 : Int) ≤ (r26 : Int) → ((-2147483648 : Int) ≤ 8 + r26 ∧ 8 + r26 < (2147483648 : Int)) ∧ (True ∧ CV fzR 157 [qR 84, qI (8 + r26)] SH M26 (fun M27 => Q qU SH M27))) ∧ (¬ ((0 : Int) ≤ (r26 : Int)) → True ∧ CV fzR 157 [qR 84, qI (-1)] SH M26 (fun M28 => Q qU SH M28))))) ∧ (((M 87 (M 84 11) : Int) = 24 → ((0 : Int) ≤ M 84 19 ∧ M 84 19 < (2 : Int)) ∧ (True ∧ CV fzR 149 [qR 84, qI (M 103 (M 84 19)), qI 12] SH M (fun M16 => ((-2147483648 : Int) ≤ 12 * (M16 84 19) ∧ 12 * (M16 84 19) < (2147483648 : Int)) ∧ (((0 : Int) ≤ M16 84 19 ∧ M16 84 19 < (2 : Int)) ∧ (((12 : Int) ≤ (M16 103 (M16 84 19) : Int) → ((-2147483648 : Int) ≤ (12 * (M16 84 19)) + 0 ∧ (12 * (M16 84 19)) + 0 < (2147483648 : Int)) ∧ (True ∧ CI fzR 153 [qR 84, qI 0] SH M16 (fun r17 M17 => ((0 : Int) ≤ ((12 * (M16 84 19)) + 0) ∧ ((12 * (M16 84 19)) + 0) < (24 : Int)) ∧ (True ∧ CI fzR 153 [qR 84, qI 1] SH (stM M17 104 ((12 * (M16 84 19)) + 0) r17) (fun r18 M18 => ((0 : Int) ≤ ((12 * (M16 84 19)) + 0) ∧ ((12 * (M16 84 19)) + 0) < (24 : Int)) ∧ (((0 : Int) ≤ (stM M18 105 ((12 * (M16 84 19)) + 0) r18) 84 19 ∧ (stM M18 105 ((12 * (M16 84 19)) + 0) r18) 84 19 < (2 : Int)) ∧ (((12 : Int) ≤ ((stM M18 105 ((12 * (M16 84 19)) + 0) r18) 103 ((stM M18 105 ((12 * (M16 84 19)) + 0) r18) 84 19) : Int) → ((-2147483648 : Int) ≤ 16 + 0 ∧ 16 + 0 < (2147483648 : Int)) ∧ (True ∧ CV fzR 157 [qR 84, qI (16 + 0)] SH (stM M18 105 ((12 * (M16 84 19)) + 0) r18) (fun M19 => (¬ (M19 84 13 : Int) = (0 : Int) → Q qU SH M19) ∧ (¬ (¬ (M19 84 13 : Int) = (0 : Int)) → ((0 : Int) ≤ M19 84 19 ∧ M19 84 19 < (2 : Int)) ∧ (((-2147483648 : Int) ≤ (M19 103 (M19 84 19)) + 1 ∧ (M19 103 (M19 84 19)) + 1 < (2147483648 : Int)) ∧ (((0 : Int) ≤ M19 84 19 ∧ M19 84 19 < (2 : Int)) ∧ (Q qU SH (stM M19 103 (M19 84 19) ((M19 103 (M19 84 19)) + 1))))))))) ∧ (¬ ((12 : Int) ≤ ((stM M18 105 ((12 * (M16 84 19)) + 0) r18) 103 ((stM M18 105 ((12 * (M16 84 19)) + 0) r18) 84 19) : Int)) → ((0 : Int) ≤ (stM M18 105 ((12 * (M16 84 19)) + 0) r18) 84 19 ∧ (stM M18 105 ((12 * (M16 84 19)) + 0) r18) 84 19 < (2 : Int)) ∧ (((-2147483648 : Int) ≤ 16 + ((stM M18 105 ((12 * (M16 84 19)) + 0) r18) 103 ((stM M18 105 ((12 * (M16 84 19)) + 0) r18) 84 19)) ∧ 16 + ((stM M18 105 ((12 * (M16 84 19)) + 0) r18) 103 ((stM M18 105 ((12 * (M16 84 19)) + 0) r18) 84 19)) < (2147483648 : Int)) ∧ (True ∧ CV fzR 157 [qR 84, qI (16 + ((stM M18 105 ((12 * (M16 84 19)) + 0) r18) 103 ((stM M18 105 ((12 * (M16 84 19)) + 0) r18) 84 19)))] SH (stM M18 105 ((12 * (M16 84 19)) + 0) r18) (fun M20 => (¬ (M20 84 13 : Int) = (0 : Int) → Q qU SH M20) ∧ (¬ (¬ (M20 84 13 : Int) = (0 : Int)) → ((0 : Int) ≤ M20 84 19 ∧ M20 84 19 < (2 : Int)) ∧ (((-2147483648 : Int) ≤ (M20 103 (M20 84 19)) + 1 ∧ (M20 103 (M20 84 19)) + 1 < (2147483648 : Int)) ∧ (((0 : Int) ≤ M20 84 19 ∧ M20 84 19 < (2 : Int)) ∧ (Q qU SH (stM M20 103 (M20 84 19) ((M20 103 (M20 84 19)) + 1))))))))))))))))) ∧ (¬ ((12 : Int) ≤ (M16 103 (M16 84 19) : Int)) → ((0 : Int) ≤ M16 84 19 ∧ M16 84 19 < (2 : Int)) ∧ (((-2147483648 : Int) ≤ (12 * (M16 84 19)) + (M16 103 (M16 84 19)) ∧ (12 * (M16 84 19)) + (M16 103 (M16 84 19)) < (2147483648 : Int)) ∧ (True ∧ CI fzR 153 [qR 84, qI 0] SH M16 (fun r21 M21 => ((0 : Int) ≤ ((12 * (M16 84 19)) + (M16 103 (M16 84 19))) ∧ ((12 * (M16 84 19)) + (M16 103 (M16 84 19))) < (24 : Int)) ∧ (True ∧ CI fzR 153 [qR 84, qI 1] SH (stM M21 104 ((12 * (M16 84 19)) + (M16 103 (M16 84 19))) r21) (fun r22 M22 => ((0 : Int) ≤ ((12 * (M16 84 19)) + (M16 103 (M16 84 19))) ∧ ((12 * (M16 84 19)) + (M16 103 (M16 84 19))) < (24 : Int)) ∧ (((0 : Int) ≤ (stM M22 105 ((12 * (M16 84 19)) + (M16 103 (M16 84 19))) r22) 84 19 ∧ (stM M22 105 ((12 * (M16 84 19)) + (M16 103 (M16 84 19))) r22) 84 19 < (2 : Int)) ∧ (((12 : Int) ≤ ((stM M22 105 ((12 * (M16 84 19)) + (M16 103 (M16 84 19))) r22) 103 ((stM M22 105 ((12 * (M16 84 19)) + (M16 103 (M16 84 19))) r22) 84 19) : Int) → ((-2147483648 : Int) ≤ 16 + 0 ∧ 16 + 0 < (2147483648 : Int)) ∧ (True ∧ CV fzR 157 [qR 84, qI (16 + 0)] SH (stM M22 105 ((12 * (M16 84 19)) + (M16 103 (M16 84 19))) r22) (fun M23 => (¬ (M23 84 13 : Int) = (0 : Int) → Q qU SH M23) ∧ (¬ (¬ (M23 84 13 : Int) = (0 : Int)) → ((0 : Int) ≤ M23 84 19 ∧ M23 84 19 < (2 : Int)) ∧ (((-2147483648 : Int) ≤ (M23 103 (M23 84 19)) + 1 ∧ (M23 103 (M23 84 19)) + 1 < (2147483648 : Int)) ∧ (((0 : Int) ≤ M23 84 19 ∧ M23 84 19 < (2 : Int)) ∧ (Q qU SH (stM M23 103 (M23 84 19) ((M23 103 (M23 84 19)) + 1))))))))) ∧ (¬ ((12 : Int) ≤ ((stM M22 105 ((12 * (M16 84 19)) + (M16 103 (M16 84 19))) r22) 103 ((stM M22 105 ((12 * (M16 84 19)) + (M16 103 (M16 84 19))) r22) 84 19) : Int)) → ((0 : Int) ≤ (stM M22 105 ((12 * (M16 84 19)) + (M16 103 (M16 84 19))) r22) 84 19 ∧ (stM M22 105 ((12 * (M16 84 19)) + (M16 103 (M16 84 19))) r22) 84 19 < (2 : Int)) ∧ (((-2147483648 : Int) ≤ 16 + ((stM M22 105 ((12 * (M16 84 19)) + (M16 103 (M16 84 19))) r22) 103 ((stM M22 105 ((12 * (M16 84 19)) + (M16 103 (M16 84 19))) r22) 84 19)) ∧ 16 + ((stM M22 105 ((12 * (M16 84 19)) + (M16 103 (M16 84 19))) r22) 103 ((stM M22 105 ((12 * (M16 84 19)) + (M16 103 (M16 84 19))) r22) 84 19)) < (2147483648 : Int)) ∧ (True ∧ CV fzR 157 [qR 84, qI (16 + ((stM M22 105 ((12 * (M16 84 19)) + (M16 103 (M16 84 19))) r22) 103 ((stM M22 105 ((12 * (M16 84 19)) + (M16 103 (M16 84 19))) r22) 84 19)))] SH (stM M22 105 ((12 * (M16 84 19)) + (M16 103 (M16 84 19))) r22) (fun M24 => (¬ (M24 84 13 : Int) = (0 : Int) → Q qU SH M24) ∧ (¬ (¬ (M24 84 13 : Int) = (0 : Int)) → ((0 : Int) ≤ M24 84 19 ∧ M24 84 19 < (2 : Int)) ∧ (((-2147483648 : Int) ≤ (M24 103 (M24 84 19)) + 1 ∧ (M24 103 (M24 84 19)) + 1 < (2147483648 : Int)) ∧ (((0 : Int) ≤ M24 84 19 ∧ M24 84 19 < (2 : Int)) ∧ (Q qU SH (stM M24 103 (M24 84 19) ((M24 103 (M24 84 19)) + 1))))))))))))))))))))))) ∧ (((M 87 (M 84 11) : Int) = 25 → ((0 : Int) ≤ M 84 19 ∧ M 84 19 < (2 : Int)) ∧ (True ∧ CV fzR 149 [qR 84, qI (M 106 (M 84 19)), qI 12] SH M (fun M7 => ((-2147483648 : Int) ≤ 12 * (M7 84 19) ∧ 12 * (M7 84 19) < (2147483648 : Int)) ∧ (((0 : Int) ≤ M7 84 19 ∧ M7 84 19 < (2 : Int)) ∧ (((12 : Int) ≤ (M7 106 (M7 84 19) : Int) → ((-2147483648 : Int) ≤ (12 * (M7 84 19)) + 0 ∧ (12 * (M7 84 19)) + 0 < (2147483648 : Int)) ∧ (True ∧ CI fzR 153 [qR 84, qI 0] SH M7 (fun r8 M8 => ((0 : Int) ≤ ((12 * (M7 84 19)) + 0) ∧ ((12 * (M7 84 19)) + 0) < (24 : Int)) ∧ (True ∧ CI fzR 153 [qR 84, qI 1] SH (stM M8 107 ((12 * (M7 84 19)) + 0) r8) (fun r9 M9 => ((0 : Int) ≤ ((12 * (M7 84 19)) + 0) ∧ ((12 * (M7 84 19)) + 0) < (24 : Int)) ∧ (((0 : Int) ≤ (stM M9 108 ((12 * (M7 84 19)) + 0) r9) 84 19 ∧ (stM M9 108 ((12 * (M7 84 19)) + 0) r9) 84 19 < (2 : Int)) ∧ (((12 : Int) ≤ ((stM M9 108 ((12 * (M7 84 19)) + 0) r9) 106 ((stM M9 108 ((12 * (M7 84 19)) + 0) r9) 84 19) : Int) → ((-2147483648 : Int) ≤ 28 + 0 ∧ 28 + 0 < (2147483648 : Int)) ∧ (True ∧ CV fzR 157 [qR 84, qI (28 + 0)] SH (stM M9 108 ((12 * (M7 84 19)) + 0) r9) (fun M10 => (¬ (M10 84 13 : Int) = (0 : Int) → Q qU SH M10) ∧ (¬ (¬ (M10 84 13 : Int) = (0 : Int)) → ((0 : Int) ≤ M10 84 19 ∧ M10 84 19 < (2 : Int)) ∧ (((-2147483648 : Int) ≤ (M10 106 (M10 84 19)) + 1 ∧ (M10 106 (M10 84 19)) + 1 < (2147483648 : Int)) ∧ (((0 : Int) ≤ M10 84 19 ∧ M10 84 19 < (2 : Int)) ∧ (Q qU SH (stM M10 106 (M10 84 19) ((M10 106 (M10 84 19)) + 1))))))))) ∧ (¬ ((12 : Int) ≤ ((stM M9 108 ((12 * (M7 84 19)) + 0) r9) 106 ((stM M9 108 ((12 * (M7 84 19)) + 0) r9) 84 19) : Int)) → ((0 : Int) ≤ (stM M9 108 ((12 * (M7 84 19)) + 0) r9) 84 19 ∧ (stM M9 108 ((12 * (M7 84 19)) + 0) r9) 84 19 < (2 : Int)) ∧ (((-2147483648 : Int) ≤ 28 + ((stM M9 108 ((12 * (M7 84 19)) + 0) r9) 106 ((stM M9 108 ((12 * (M7 84 19)) + 0) r9) 84 19)) ∧ 28 + ((stM M9 108 ((12 * (M7 84 19)) + 0) r9) 106 ((stM M9 108 ((12 * (M7 84 19)) + 0) r9) 84 19)) < (2147483648 : Int)) ∧ (True ∧ CV fzR 157 [qR 84, qI (28 + ((stM M9 108 ((12 * (M7 84 19)) + 0) r9) 106 ((stM M9 108 ((12 * (M7 84 19)) + 0) r9) 84 19)))] SH (stM M9 108 ((12 * (M7 84 19)) + 0) r9) (fun M11 => (¬ (M11 84 13 : Int) = (0 : Int) → Q qU SH M11) ∧ (¬ (¬ (M11 84 13 : Int) = (0 : Int)) → ((0 : Int) ≤ M11 84 19 ∧ M11 84 19 < (2 : Int)) ∧ (((-2147483648 : Int) ≤ (M11 106 (M11 84 19)) + 1 ∧ (M11 106 (M11 84 19)) + 1 < (2147483648 : Int)) ∧ (((0 : Int) ≤ M11 84 19 ∧ M11 84 19 < (2 : Int)) ∧ (Q qU SH (stM M11 106 (M11 84 19) ((M11 106 (M11 84 19)) + 1))))))))))))))))) ∧ (¬ ((12 : Int) ≤ (M7 106 (M7 84 19) : Int)) → ((0 : Int) ≤ M7 84 19 ∧ M7 84 19 < (2 : Int)) ∧ (((-2147483648 : Int) ≤ (12 * (M7 84 19)) + (M7 106 (M7 84 19)) ∧ (12 * (M7 84 19)) + (M7 106 (M7 84 19)) < (2147483648 : Int)) ∧ (True ∧ CI fzR 153 [qR 84, qI 0] SH M7 (fun r12 M12 => ((0 : Int) ≤ ((12 * (M7 84 19)) + (M7 106 (M7 84 19))) ∧ ((12 * (M7 84 19)) + (M7 106 (M7 84 19))) < (24 : Int)) ∧ (True ∧ CI fzR 153 [qR 84, qI 1] SH (stM M12 107 ((12 * (M7 84 19)) + (M7 106 (M7 84 19))) r12) (fun r13 M13 => ((0 : Int) ≤ ((12 * (M7 84 19)) + (M7 106 (M7 84 19))) ∧ ((12 * (M7 84 19)) + (M7 106 (M7 84 19))) < (24 : Int)) ∧ (((0 : Int) ≤ (stM M13 108 ((12 * (M7 84 19)) + (M7 106 (M7 84 19))) r13) 84 19 ∧ (stM M13 108 ((12 * (M7 84 19)) + (M7 106 (M7 84 19))) r13) 84 19 < (2 : Int)) ∧ (((12 : Int) ≤ ((stM M13 108 ((12 * (M7 84 19)) + (M7 106 (M7 84 19))) r13) 106 ((stM M13 108 ((12 * (M7 84 19)) + (M7 106 (M7 84 19))) r13) 84 19) : Int) → ((-2147483648 : Int) ≤ 28 + 0 ∧ 28 + 0 < (2147483648 : Int)) ∧ (True ∧ CV fzR 157 [qR 84, qI (28 + 0)] SH (stM M13 108 ((12 * (M7 84 19)) + (M7 106 (M7 84 19))) r13) (fun M14 => (¬ (M14 84 13 : Int) = (0 : Int) → Q qU SH M14) ∧ (¬ (¬ (M14 84 13 : Int) = (0 : Int)) → ((0 : Int) ≤ M14 84 19 ∧ M14 84 19 < (2 : Int)) ∧ (((-2147483648 : Int) ≤ (M14 106 (M14 84 19)) + 1 ∧ (M14 106 (M14 84 19)) + 1 < (2147483648 : Int)) ∧ (((0 : Int) ≤ M14 84 19 ∧ M14 84 19 < (2 : Int)) ∧ (Q qU SH (stM M14 106 (M14 84 19) ((M14 106 (M14 84 19)) + 1))))))))) ∧ (¬ ((12 : Int) ≤ ((stM M13 108 ((12 * (M7 84 19)) + (M7 106 (M7 84 19))) r13) 106 ((stM M13 108 ((12 * (M7 84 19)) + (M7 106 (M7 84 19))) r13) 84 19) : Int)) → ((0 : Int) ≤ (stM M13 108 ((12 * (M7 84 19)) + (M7 106 (M7 84 19))) r13) 84 19 ∧ (stM M13 108 ((12 * (M7 84 19)) + (M7 106 (M7 84 19))) r13) 84 19 < (2 : Int)) ∧ (((-2147483648 : Int) ≤ 28 + ((stM M13 108 ((12 * (M7 84 19)) + (M7 106 (M7 84 19))) r13) 106 ((stM M13 108 ((12 * (M7 84 19)) + (M7 106 (M7 84 19))) r13) 84 19)) ∧ 28 + ((stM M13 108 ((12 * (M7 84 19)) + (M7 106 (M7 84 19))) r13) 106 ((stM M13 108 ((12 * (M7 84 19)) + (M7 106 (M7 84 19))) r13) 84 19)) < (2147483648 : Int)) ∧ (True ∧ CV fzR 157 [qR 84, qI (28 + ((stM M13 108 ((12 * (M7 84 19)) + (M7 106 (M7 84 19))) r13) 106 ((stM M13 108 ((12 * (M7 84 19)) + (M7 106 (M7 84 19))) r13) 84 19)))] SH (stM M13 108 ((12 * (M7 84 19)) + (M7 106 (M7 84 19))) r13) (fun M15 => (¬ (M15 84 13 : Int) = (0 : Int) → Q qU SH M15) ∧ (¬ (¬ (M15 84 13 : Int) = (0 : Int)) → ((0 : Int) ≤ M15 84 19 ∧ M15 84 19 < (2 : Int)) ∧ (((-2147483648 : Int) ≤ (M15 106 (M15 84 19)) + 1 ∧ (M15 106 (M15 84 19)) + 1 < (2147483648 : Int)) ∧ (((0 : Int) ≤ M15 84 19 ∧ M15 84 19 < (2 : Int)) ∧ (Q qU SH (stM M15 106 (M15 84 19) ((M15 106 (M15 84 19)) + 1))))))))))))))))))))))) ∧ (((M 87 (M 84 11) : Int) = 26 → True ∧ CV fzR 144 [qR 84] SH M (fun M4 => True ∧ CI fzR 154 [qR 84, qI 0, qI 100] SH M4 (fun r5 M5 => ((0 : Int) ≤ M4 84 19 ∧ M4 84 19 < (2 : Int)) ∧ (True ∧ CV fzR 145 [qR 84, qI 4] SH (stM M5 109 (M4 84 19) r5) (fun M6 => Q qU SH M6))))) ∧ (((M 87 (M 84 11) : Int) = 27 → True ∧ CV fzR 144 [qR 84] SH M (fun M1 => True ∧ CI fzR 154 [qR 84, qI 0, qI 9] SH M1 (fun r2 M2 => ((0 : Int) ≤ M1 84 19 ∧ M1 84 19 < (2 : Int)) ∧ (True ∧ CV fzR 145 [qR 84, qI 4] SH (stM M2 110 (M1 84 19) r2) (fun M3 => Q qU SH M3))))) ∧ (True))))))))) ∧ (((M 87 (M 84 11) : Int) < 20 ∨ 27 < (M 87 (M 84 11) : Int)) → True ∧ CV fzR 142 [qR 84, qI 1] SH M (fun M36 => Q qU SH M36)))) : RB fzR 150 0 [qR 84, qU] [] SH M 0 0 Q := RB_wp T 78 (fun p => none) (fun p => false) h
set_option maxHeartbeats 20000000 in
theorem c_X12_tell (T : qTabOk) {M : qM} {S : Int} (hIM : INV S M) (p1 : M 84 19 = 1 - M 84 18) (p2 : M 84 13 = 0) (p3 : M 84 12 = 0) (p4 : 420 * M 84 19 ≤ M 84 48) (p5 : M 84 48 - 420 * M 84 19 ≤ M 84 11) (p6 : 130 * M 84 19 ≤ M 84 42) (p7 : 4 * (M 84 42 - 130 * M 84 19) ≤ M 84 11) (p8 : M 84 20 = M 95 (M 84 19) + M 100 (M 84 19)) (p9 : GH M) (p10 : NA M) (p11 : GG M) : CV fzR 150 [qR 84] SH M (fun M' => (INV S M') ∧ (qSm [(84, some 11), (84, some 12), (84, some 13), (84, some 14), (84, some 15), (84, some 16), (84, some 20), (84, some 42), (84, some 48), (84, some 52), (92, none), (93, none), (94, none), (95, none), (96, none), (97, none), (98, none), (99, none), (100, none), (101, none), (102, none), (103, none), (104, none), (105, none), (106, none), (107, none), (108, none), (109, none), (110, none), (111, none), (112, none), (113, none), (114, none), (115, none), (116, none), (117, none), (118, none), (119, none), (120, none)] M M') ∧ (M 84 11 ≤ M' 84 11) ∧ (0 < M' 84 13 ∨ M 84 11 + 1 ≤ M' 84 11) ∧ (M' 84 13 = 0 → M' 84 12 = 0 ∧ 420 * M 84 19 ≤ M' 84 48 ∧ M' 84 48 - 420 * M 84 19 ≤ M' 84 11 ∧ 130 * M 84 19 ≤ M' 84 42 ∧ 4 * (M' 84 42 - 130 * M 84 19) ≤ M' 84 11) ∧ (M' 84 13 = 0 → M' 84 20 = M' 95 (M 84 19) + M' 100 (M 84 19)) ∧ (GH M') ∧ (M' 84 13 = 0 → NA M') ∧ (GG M')) := by
  refine s_X12_tell_0 T ?_
  have hr1 : (0 : Int) ≤ M 84 19 ∧ M 84 19 ≤ (1 : Int) := hIM.1 84 19
  have hr2 : (0 : Int) ≤ M 84 18 ∧ M 84 18 ≤ (1 : Int) := hIM.1 84 18
  have hr3 : (0 : Int) ≤ M 84 13 ∧ M 84 13 ≤ (5 : Int) := hIM.1 84 13
  have hr4 : (0 : Int) ≤ M 84 12 ∧ M 84 12 ≤ (7 : Int) := hIM.1 84 12
  have hr5 : (0 : Int) ≤ M 84 11 ∧ M 84 11 ≤ (400 : Int) := hIM.1 84 11
  have hr6 : (0 : Int) ≤ M 84 20 ∧ M 84 20 ≤ (11 : Int) := hIM.1 84 20
  have hr7 : (0 : Int) ≤ M 84 11 ∧ M 84 11 ≤ (400 : Int) := hIM.1 84 11
  have hr8 : (0 : Int) ≤ M 84 12 ∧ M 84 12 ≤ (7 : Int) := hIM.1 84 12
  have hr9 : (0 : Int) ≤ M 84 13 ∧ M 84 13 ≤ (5 : Int) := hIM.1 84 13
  have hr10 : (0 : Int) ≤ M 84 15 ∧ M 84 15 ≤ (5 : Int) := hIM.1 84 15
  have hr11 : (0 : Int) ≤ M 84 18 ∧ M 84 18 ≤ (1 : Int) := hIM.1 84 18
  have hr12 : (0 : Int) ≤ M 84 19 ∧ M 84 19 ≤ (1 : Int) := hIM.1 84 19
  have hr13 : (0 : Int) ≤ M 84 20 ∧ M 84 20 ≤ (11 : Int) := hIM.1 84 20
  have hr14 : (0 : Int) ≤ M 95 (M 84 19) ∧ M 95 (M 84 19) ≤ (6 : Int) := hIM.1 95 (M 84 19)
  have hr15 : (0 : Int) ≤ M 100 (M 84 19) ∧ M 100 (M 84 19) ≤ (5 : Int) := hIM.1 100 (M 84 19)
  have hr16 : (0 : Int) ≤ M 84 11 ∧ M 84 11 ≤ (400 : Int) := hIM.1 84 11
  refine ⟨by omega, ?_⟩
  refine ⟨⟨fun hb17 => ?_, fun hb17 => ?_, fun hb17 => ?_, fun hb17 => ?_, fun hb17 => ?_, fun hb17 => ?_, fun hb17 => ?_, fun hb17 => ?_, trivial⟩, fun hb17 => ?_⟩
  · have hr18 : (0 : Int) ≤ M 84 19 ∧ M 84 19 ≤ (1 : Int) := hIM.1 84 19
    refine ⟨by omega, ?_⟩
    have hr19 : (0 : Int) ≤ M 95 (M 84 19) ∧ M 95 (M 84 19) ≤ (6 : Int) := hIM.1 95 (M 84 19)
    refine ⟨trivial, ?_⟩
    have hr23 : (0 : Int) ≤ M 84 11 ∧ M 84 11 ≤ (400 : Int) := hIM.1 84 11
    have hr24 : (0 : Int) ≤ M 84 13 ∧ M 84 13 ≤ (5 : Int) := hIM.1 84 13
    refine CV_mono (c_X12_roomFor T (hIM)) (fun N21 hp22 => ?_)
    obtain ⟨hIN21, hk25, hp22⟩ := hp22
    have hr26 : (0 : Int) ≤ N21 84 13 ∧ N21 84 13 ≤ (5 : Int) := hIN21.1 84 13
    refine ⟨fun hb27 => ?_, fun hb27 => ?_⟩
    · have hr28 : (0 : Int) ≤ N21 84 11 ∧ N21 84 11 ≤ (400 : Int) := hIN21.1 84 11
      have hr29 : (0 : Int) ≤ N21 84 13 ∧ N21 84 13 ≤ (5 : Int) := hIN21.1 84 13
      have hr30 : (0 : Int) ≤ N21 84 12 ∧ N21 84 12 ≤ (7 : Int) := hIN21.1 84 12
      have hc31 : N21 84 12 = M 84 12 := hk25 84 12 rfl
      have hc32 : N21 84 48 = M 84 48 := hk25 84 48 rfl
      have hc33 : N21 84 42 = M 84 42 := hk25 84 42 rfl
      have hr34 : (0 : Int) ≤ N21 84 20 ∧ N21 84 20 ≤ (11 : Int) := hIN21.1 84 20
      have hc35 : N21 84 20 = M 84 20 := hk25 84 20 rfl
      have hsm : qSm [(84, some 11), (84, some 12), (84, some 13), (84, some 14), (84, some 15), (84, some 16), (84, some 20), (84, some 42), (84, some 48), (84, some 52), (92, none), (93, none), (94, none), (95, none), (96, none), (97, none), (98, none), (99, none), (100, none), (101, none), (102, none), (103, none), (104, none), (105, none), (106, none), (107, none), (108, none), (109, none), (110, none), (111, none), (112, none), (113, none), (114, none), (115, none), (116, none), (117, none), (118, none), (119, none), (120, none)] M N21 := by
        intro b j hbj
        rw [hk25 b j (qSm_sub hbj rfl)]
      exact ⟨rfl, rfl, hIN21, hsm, by omega, by omega, by omega, by first | exact hNM | exact fun h1 => absurd h1 (by omega), by first | exact hGH | exact fun h1 => absurd h1 (by omega), by first | exact hNA | exact fun h1 => absurd h1 (by omega), by first | exact hGG | exact fun h1 _ => absurd h1 (by omega)⟩
    · have hr36 : (0 : Int) ≤ N21 84 11 ∧ N21 84 11 ≤ (400 : Int) := hIN21.1 84 11
      have hr37 : (0 : Int) ≤ N21 84 12 ∧ N21 84 12 ≤ (7 : Int) := hIN21.1 84 12
      have hc38 : N21 84 12 = M 84 12 := hk25 84 12 rfl
      have hr39 : (0 : Int) ≤ N21 84 13 ∧ N21 84 13 ≤ (5 : Int) := hIN21.1 84 13
      have hr40 : (0 : Int) ≤ N21 84 15 ∧ N21 84 15 ≤ (5 : Int) := hIN21.1 84 15
      have hc41 : N21 84 15 = M 84 15 := hk25 84 15 rfl
      have hr42 : (0 : Int) ≤ N21 84 18 ∧ N21 84 18 ≤ (1 : Int) := hIN21.1 84 18
      have hc43 : N21 84 18 = M 84 18 := hk25 84 18 rfl
      have hr44 : (0 : Int) ≤ N21 84 19 ∧ N21 84 19 ≤ (1 : Int) := hIN21.1 84 19
      have hc45 : N21 84 19 = M 84 19 := hk25 84 19 rfl
      have hr46 : (0 : Int) ≤ N21 84 20 ∧ N21 84 20 ≤ (11 : Int) := hIN21.1 84 20
      have hc47 : N21 84 20 = M 84 20 := hk25 84 20 rfl
      have hc48 : N21 84 42 = M 84 42 := hk25 84 42 rfl
      have hc49 : N21 84 48 = M 84 48 := hk25 84 48 rfl
      have s95 : N21 95 (N21 84 19) = M 95 (M 84 19) := by rw [hk25 84 19 rfl]; exact hk25 95 _ rfl
      have s100 : N21 100 (N21 84 19) = M 100 (M 84 19) := by rw [hk25 84 19 rfl]; exact hk25 100 _ rfl
      have hna : NA N21 := NA_fr p10 hk25 rfl
      have hgg : GG N21 := GG_fr p11 hk25 rfl (fun _ => by omega) (fun _ _ => by omega)
      refine ⟨trivial, ?_⟩
      have hr53 : (0 : Int) ≤ N21 84 19 ∧ N21 84 19 ≤ (1 : Int) := hIN21.1 84 19
      have hc54 : N21 84 19 = M 84 19 := hk25 84 19 rfl
      have hr55 : (0 : Int) ≤ N21 84 18 ∧ N21 84 18 ≤ (1 : Int) := hIN21.1 84 18
      have hc56 : N21 84 18 = M 84 18 := hk25 84 18 rfl
      have hr57 : (0 : Int) ≤ N21 84 13 ∧ N21 84 13 ≤ (5 : Int) := hIN21.1 84 13
      have hr58 : (0 : Int) ≤ N21 84 20 ∧ N21 84 20 ≤ (11 : Int) := hIN21.1 84 20
      have hc59 : N21 84 20 = M 84 20 := hk25 84 20 rfl
      have hr60 : (0 : Int) ≤ N21 84 11 ∧ N21 84 11 ≤ (400 : Int) := hIN21.1 84 11
      refine CV_mono (c_X12_tellMan T (hIN21) (show N21 84 19 = 1 - N21 84 18 by omega) (show N21 84 13 = 0 by omega) (show N21 95 (N21 84 19) < 6 by omega) (show N21 84 20 = N21 95 (N21 84 19) + N21 100 (N21 84 19) by omega) (by assumption) (by assumption)) (fun N51 hp52 => ?_)
      obtain ⟨hIN51, hk61, hj62, hj63, hj64, hp52⟩ := hp52
      have hr65 : (0 : Int) ≤ N51 84 11 ∧ N51 84 11 ≤ (400 : Int) := hIN51.1 84 11
      have hr66 : (0 : Int) ≤ N51 84 12 ∧ N51 84 12 ≤ (7 : Int) := hIN51.1 84 12
      have hc67 : N51 84 12 = N21 84 12 := hk61 84 12 rfl
      have hc68 : N21 84 12 = M 84 12 := hk25 84 12 rfl
      have hr69 : (0 : Int) ≤ N51 84 13 ∧ N51 84 13 ≤ (5 : Int) := hIN51.1 84 13
      have hr70 : (0 : Int) ≤ N51 84 15 ∧ N51 84 15 ≤ (5 : Int) := hIN51.1 84 15
      have hr71 : (0 : Int) ≤ N51 84 18 ∧ N51 84 18 ≤ (1 : Int) := hIN51.1 84 18
      have hc72 : N51 84 18 = N21 84 18 := hk61 84 18 rfl
      have hc73 : N21 84 18 = M 84 18 := hk25 84 18 rfl
      have hr74 : (0 : Int) ≤ N51 84 19 ∧ N51 84 19 ≤ (1 : Int) := hIN51.1 84 19
      have hc75 : N51 84 19 = N21 84 19 := hk61 84 19 rfl
      have hc76 : N21 84 19 = M 84 19 := hk25 84 19 rfl
      have hr77 : (0 : Int) ≤ N51 84 20 ∧ N51 84 20 ≤ (11 : Int) := hIN51.1 84 20
      have hc78 : N51 84 42 = N21 84 42 := hk61 84 42 rfl
      have hc79 : N21 84 42 = M 84 42 := hk25 84 42 rfl
      have hc80 : N51 84 48 = N21 84 48 := hk61 84 48 rfl
      have hc81 : N21 84 48 = M 84 48 := hk25 84 48 rfl
      have hGH : GH N51 := GH_fr (GH_fr p9 hk25 rfl (fun _ => by omega)) hk61 rfl (fun _ => by omega)
      have hNA := hp52.2.2.2.1
      have hGG := hp52.2.2.2.2
      have hNM : N51 84 13 = 0 → N51 84 20 = N51 95 (M 84 19) + N51 100 (M 84 19) := fun h => by have h9 := hp52.2.2.1 h; rw [hk25 84 19 rfl] at h9; exact h9
      have hr82 : (0 : Int) ≤ N51 84 11 ∧ N51 84 11 ≤ (400 : Int) := hIN51.1 84 11
      have hr83 : (0 : Int) ≤ N51 84 13 ∧ N51 84 13 ≤ (5 : Int) := hIN51.1 84 13
      have hr84 : (0 : Int) ≤ N51 84 12 ∧ N51 84 12 ≤ (7 : Int) := hIN51.1 84 12
      have hc85 : N51 84 12 = N21 84 12 := hk61 84 12 rfl
      have hc86 : N21 84 12 = M 84 12 := hk25 84 12 rfl
      have hc87 : N51 84 48 = N21 84 48 := hk61 84 48 rfl
      have hc88 : N21 84 48 = M 84 48 := hk25 84 48 rfl
      have hc89 : N51 84 42 = N21 84 42 := hk61 84 42 rfl
      have hc90 : N21 84 42 = M 84 42 := hk25 84 42 rfl
      have hr91 : (0 : Int) ≤ N51 84 20 ∧ N51 84 20 ≤ (11 : Int) := hIN51.1 84 20
      have hsm : qSm [(84, some 11), (84, some 12), (84, some 13), (84, some 14), (84, some 15), (84, some 16), (84, some 20), (84, some 42), (84, some 48), (84, some 52), (92, none), (93, none), (94, none), (95, none), (96, none), (97, none), (98, none), (99, none), (100, none), (101, none), (102, none), (103, none), (104, none), (105, none), (106, none), (107, none), (108, none), (109, none), (110, none), (111, none), (112, none), (113, none), (114, none), (115, none), (116, none), (117, none), (118, none), (119, none), (120, none)] M N51 := by
        intro b j hbj
        rw [hk61 b j (qSm_sub hbj rfl), hk25 b j (qSm_sub hbj rfl)]
      exact ⟨rfl, rfl, hIN51, hsm, by omega, by omega, by omega, by first | exact hNM | exact fun h1 => absurd h1 (by omega), by first | exact hGH | exact fun h1 => absurd h1 (by omega), by first | exact hNA | exact fun h1 => absurd h1 (by omega), by first | exact hGG | exact fun h1 _ => absurd h1 (by omega)⟩
  · have hr92 : (0 : Int) ≤ M 84 19 ∧ M 84 19 ≤ (1 : Int) := hIM.1 84 19
    refine ⟨by omega, ?_⟩
    have hr93 : (0 : Int) ≤ M 100 (M 84 19) ∧ M 100 (M 84 19) ≤ (5 : Int) := hIM.1 100 (M 84 19)
    refine ⟨trivial, ?_⟩
    have hr97 : (0 : Int) ≤ M 84 11 ∧ M 84 11 ≤ (400 : Int) := hIM.1 84 11
    have hr98 : (0 : Int) ≤ M 84 13 ∧ M 84 13 ≤ (5 : Int) := hIM.1 84 13
    refine CV_mono (c_X12_roomFor T (hIM)) (fun N95 hp96 => ?_)
    obtain ⟨hIN95, hk99, hp96⟩ := hp96
    have hr100 : (0 : Int) ≤ N95 84 13 ∧ N95 84 13 ≤ (5 : Int) := hIN95.1 84 13
    refine ⟨fun hb101 => ?_, fun hb101 => ?_⟩
    · have hr102 : (0 : Int) ≤ N95 84 11 ∧ N95 84 11 ≤ (400 : Int) := hIN95.1 84 11
      have hr103 : (0 : Int) ≤ N95 84 13 ∧ N95 84 13 ≤ (5 : Int) := hIN95.1 84 13
      have hr104 : (0 : Int) ≤ N95 84 12 ∧ N95 84 12 ≤ (7 : Int) := hIN95.1 84 12
      have hc105 : N95 84 12 = M 84 12 := hk99 84 12 rfl
      have hc106 : N95 84 48 = M 84 48 := hk99 84 48 rfl
      have hc107 : N95 84 42 = M 84 42 := hk99 84 42 rfl
      have hr108 : (0 : Int) ≤ N95 84 20 ∧ N95 84 20 ≤ (11 : Int) := hIN95.1 84 20
      have hc109 : N95 84 20 = M 84 20 := hk99 84 20 rfl
      have hsm : qSm [(84, some 11), (84, some 12), (84, some 13), (84, some 14), (84, some 15), (84, some 16), (84, some 20), (84, some 42), (84, some 48), (84, some 52), (92, none), (93, none), (94, none), (95, none), (96, none), (97, none), (98, none), (99, none), (100, none), (101, none), (102, none), (103, none), (104, none), (105, none), (106, none), (107, none), (108, none), (109, none), (110, none), (111, none), (112, none), (113, none), (114, none), (115, none), (116, none), (117, none), (118, none), (119, none), (120, none)] M N95 := by
        intro b j hbj
        rw [hk99 b j (qSm_sub hbj rfl)]
      exact ⟨rfl, rfl, hIN95, hsm, by omega, by omega, by omega, by first | exact hNM | exact fun h1 => absurd h1 (by omega), by first | exact hGH | exact fun h1 => absurd h1 (by omega), by first | exact hNA | exact fun h1 => absurd h1 (by omega), by first | exact hGG | exact fun h1 _ => absurd h1 (by omega)⟩
    · have hr110 : (0 : Int) ≤ N95 84 11 ∧ N95 84 11 ≤ (400 : Int) := hIN95.1 84 11
      have hr111 : (0 : Int) ≤ N95 84 12 ∧ N95 84 12 ≤ (7 : Int) := hIN95.1 84 12
      have hc112 : N95 84 12 = M 84 12 := hk99 84 12 rfl
      have hr113 : (0 : Int) ≤ N95 84 13 ∧ N95 84 13 ≤ (5 : Int) := hIN95.1 84 13
      have hr114 : (0 : Int) ≤ N95 84 15 ∧ N95 84 15 ≤ (5 : Int) := hIN95.1 84 15
      have hc115 : N95 84 15 = M 84 15 := hk99 84 15 rfl
      have hr116 : (0 : Int) ≤ N95 84 18 ∧ N95 84 18 ≤ (1 : Int) := hIN95.1 84 18
      have hc117 : N95 84 18 = M 84 18 := hk99 84 18 rfl
      have hr118 : (0 : Int) ≤ N95 84 19 ∧ N95 84 19 ≤ (1 : Int) := hIN95.1 84 19
      have hc119 : N95 84 19 = M 84 19 := hk99 84 19 rfl
      have hr120 : (0 : Int) ≤ N95 84 20 ∧ N95 84 20 ≤ (11 : Int) := hIN95.1 84 20
      have hc121 : N95 84 20 = M 84 20 := hk99 84 20 rfl
      have hc122 : N95 84 42 = M 84 42 := hk99 84 42 rfl
      have hc123 : N95 84 48 = M 84 48 := hk99 84 48 rfl
      have s95 : N95 95 (N95 84 19) = M 95 (M 84 19) := by rw [hk99 84 19 rfl]; exact hk99 95 _ rfl
      have s100 : N95 100 (N95 84 19) = M 100 (M 84 19) := by rw [hk99 84 19 rfl]; exact hk99 100 _ rfl
      have hna : NA N95 := NA_fr p10 hk99 rfl
      have hgg : GG N95 := GG_fr p11 hk99 rfl (fun _ => by omega) (fun _ _ => by omega)
      refine ⟨trivial, ?_⟩
      have hr127 : (0 : Int) ≤ N95 84 19 ∧ N95 84 19 ≤ (1 : Int) := hIN95.1 84 19
      have hc128 : N95 84 19 = M 84 19 := hk99 84 19 rfl
      have hr129 : (0 : Int) ≤ N95 84 18 ∧ N95 84 18 ≤ (1 : Int) := hIN95.1 84 18
      have hc130 : N95 84 18 = M 84 18 := hk99 84 18 rfl
      have hr131 : (0 : Int) ≤ N95 84 13 ∧ N95 84 13 ≤ (5 : Int) := hIN95.1 84 13
      have hr132 : (0 : Int) ≤ N95 84 20 ∧ N95 84 20 ≤ (11 : Int) := hIN95.1 84 20
      have hc133 : N95 84 20 = M 84 20 := hk99 84 20 rfl
      have hr134 : (0 : Int) ≤ N95 84 11 ∧ N95 84 11 ≤ (400 : Int) := hIN95.1 84 11
      refine CV_mono (c_X12_tellGood T (hIN95) (show N95 84 19 = 1 - N95 84 18 by omega) (show N95 84 13 = 0 by omega) (show N95 100 (N95 84 19) < 5 by omega) (show N95 84 20 = N95 95 (N95 84 19) + N95 100 (N95 84 19) by omega) (by assumption) (by assumption)) (fun N125 hp126 => ?_)
      obtain ⟨hIN125, hk135, hj136, hj137, hp126⟩ := hp126
      have hr138 : (0 : Int) ≤ N125 84 11 ∧ N125 84 11 ≤ (400 : Int) := hIN125.1 84 11
      have hr139 : (0 : Int) ≤ N125 84 12 ∧ N125 84 12 ≤ (7 : Int) := hIN125.1 84 12
      have hc140 : N125 84 12 = N95 84 12 := hk135 84 12 rfl
      have hc141 : N95 84 12 = M 84 12 := hk99 84 12 rfl
      have hr142 : (0 : Int) ≤ N125 84 13 ∧ N125 84 13 ≤ (5 : Int) := hIN125.1 84 13
      have hr143 : (0 : Int) ≤ N125 84 15 ∧ N125 84 15 ≤ (5 : Int) := hIN125.1 84 15
      have hr144 : (0 : Int) ≤ N125 84 18 ∧ N125 84 18 ≤ (1 : Int) := hIN125.1 84 18
      have hc145 : N125 84 18 = N95 84 18 := hk135 84 18 rfl
      have hc146 : N95 84 18 = M 84 18 := hk99 84 18 rfl
      have hr147 : (0 : Int) ≤ N125 84 19 ∧ N125 84 19 ≤ (1 : Int) := hIN125.1 84 19
      have hc148 : N125 84 19 = N95 84 19 := hk135 84 19 rfl
      have hc149 : N95 84 19 = M 84 19 := hk99 84 19 rfl
      have hr150 : (0 : Int) ≤ N125 84 20 ∧ N125 84 20 ≤ (11 : Int) := hIN125.1 84 20
      have hc151 : N125 84 42 = N95 84 42 := hk135 84 42 rfl
      have hc152 : N95 84 42 = M 84 42 := hk99 84 42 rfl
      have hc153 : N125 84 48 = N95 84 48 := hk135 84 48 rfl
      have hc154 : N95 84 48 = M 84 48 := hk99 84 48 rfl
      have hGH : GH N125 := GH_fr (GH_fr p9 hk99 rfl (fun _ => by omega)) hk135 rfl (fun _ => by omega)
      have hNA := hp126.2.2.2.1
      have hGG := hp126.2.2.2.2
      have hNM : N125 84 13 = 0 → N125 84 20 = N125 95 (M 84 19) + N125 100 (M 84 19) := fun h => by have h9 := hp126.2.2.1 h; rw [hk99 84 19 rfl] at h9; exact h9
      have hr155 : (0 : Int) ≤ N125 84 11 ∧ N125 84 11 ≤ (400 : Int) := hIN125.1 84 11
      have hr156 : (0 : Int) ≤ N125 84 13 ∧ N125 84 13 ≤ (5 : Int) := hIN125.1 84 13
      have hr157 : (0 : Int) ≤ N125 84 12 ∧ N125 84 12 ≤ (7 : Int) := hIN125.1 84 12
      have hc158 : N125 84 12 = N95 84 12 := hk135 84 12 rfl
      have hc159 : N95 84 12 = M 84 12 := hk99 84 12 rfl
      have hc160 : N125 84 48 = N95 84 48 := hk135 84 48 rfl
      have hc161 : N95 84 48 = M 84 48 := hk99 84 48 rfl
      have hc162 : N125 84 42 = N95 84 42 := hk135 84 42 rfl
      have hc163 : N95 84 42 = M 84 42 := hk99 84 42 rfl
      have hr164 : (0 : Int) ≤ N125 84 20 ∧ N125 84 20 ≤ (11 : Int) := hIN125.1 84 20
      have hsm : qSm [(84, some 11), (84, some 12), (84, some 13), (84, some 14), (84, some 15), (84, some 16), (84, some 20), (84, some 42), (84, some 48), (84, some 52), (92, none), (93, none), (94, none), (95, none), (96, none), (97, none), (98, none), (99, none), (100, none), (101, none), (102, none), (103, none), (104, none), (105, none), (106, none), (107, none), (108, none), (109, none), (110, none), (111, none), (112, none), (113, none), (114, none), (115, none), (116, none), (117, none), (118, none), (119, none), (120, none)] M N125 := by
        intro b j hbj
        rw [hk135 b j (qSm_sub hbj rfl), hk99 b j (qSm_sub hbj rfl)]
      exact ⟨rfl, rfl, hIN125, hsm, by omega, by omega, by omega, by first | exact hNM | exact fun h1 => absurd h1 (by omega), by first | exact hGH | exact fun h1 => absurd h1 (by omega), by first | exact hNA | exact fun h1 => absurd h1 (by omega), by first | exact hGG | exact fun h1 _ => absurd h1 (by omega)⟩
  · refine ⟨trivial, ?_⟩
    have hr168 : (0 : Int) ≤ M 84 11 ∧ M 84 11 ≤ (400 : Int) := hIM.1 84 11
    have hr169 : (0 : Int) ≤ M 84 13 ∧ M 84 13 ≤ (5 : Int) := hIM.1 84 13
    refine CV_mono (c_X12_goesOn T (hIM)) (fun N166 hp167 => ?_)
    obtain ⟨hIN166, hk170, hp167⟩ := hp167
    have hna : NA N166 := NA_fr p10 hk170 rfl
    refine ⟨trivial, ?_⟩
    have hr174 : (0 : Int) ≤ N166 84 11 ∧ N166 84 11 ≤ (400 : Int) := hIN166.1 84 11
    have hr175 : (0 : Int) ≤ N166 84 13 ∧ N166 84 13 ≤ (5 : Int) := hIN166.1 84 13
    have hr176 : (0 : Int) ≤ N166 84 15 ∧ N166 84 15 ≤ (5 : Int) := hIN166.1 84 15
    have hc177 : N166 84 15 = M 84 15 := hk170 84 15 rfl
    refine CI_mono (c_X12_known T (hIN166) (by assumption)) (fun z171 N172 hp173 => ?_)
    obtain ⟨hIN172, hk178, hp173⟩ := hp173
    have hr179 : (0 : Int) ≤ N172 84 11 ∧ N172 84 11 ≤ (400 : Int) := hIN172.1 84 11
    have hr180 : (0 : Int) ≤ N172 84 12 ∧ N172 84 12 ≤ (7 : Int) := hIN172.1 84 12
    have hc181 : N172 84 12 = N166 84 12 := hk178 84 12 rfl
    have hc182 : N166 84 12 = M 84 12 := hk170 84 12 rfl
    have hr183 : (0 : Int) ≤ N172 84 13 ∧ N172 84 13 ≤ (5 : Int) := hIN172.1 84 13
    have hr184 : (0 : Int) ≤ N172 84 15 ∧ N172 84 15 ≤ (5 : Int) := hIN172.1 84 15
    have hr185 : (0 : Int) ≤ N172 84 18 ∧ N172 84 18 ≤ (1 : Int) := hIN172.1 84 18
    have hc186 : N172 84 18 = N166 84 18 := hk178 84 18 rfl
    have hc187 : N166 84 18 = M 84 18 := hk170 84 18 rfl
    have hr188 : (0 : Int) ≤ N172 84 19 ∧ N172 84 19 ≤ (1 : Int) := hIN172.1 84 19
    have hc189 : N172 84 19 = N166 84 19 := hk178 84 19 rfl
    have hc190 : N166 84 19 = M 84 19 := hk170 84 19 rfl
    have hr191 : (0 : Int) ≤ N172 84 20 ∧ N172 84 20 ≤ (11 : Int) := hIN172.1 84 20
    have hc192 : N172 84 20 = N166 84 20 := hk178 84 20 rfl
    have hc193 : N166 84 20 = M 84 20 := hk170 84 20 rfl
    have hc194 : N172 84 42 = N166 84 42 := hk178 84 42 rfl
    have hc195 : N166 84 42 = M 84 42 := hk170 84 42 rfl
    have hc196 : N172 84 48 = N166 84 48 := hk178 84 48 rfl
    have hc197 : N166 84 48 = M 84 48 := hk170 84 48 rfl
    have hgh : GH N172 := GH_fr (GH_fr p9 hk170 rfl (fun _ => by omega)) hk178 rfl (fun _ => by omega)
    refine ⟨trivial, ?_⟩
    have hr201 : (0 : Int) ≤ N172 84 19 ∧ N172 84 19 ≤ (1 : Int) := hIN172.1 84 19
    have hc202 : N172 84 19 = N166 84 19 := hk178 84 19 rfl
    have hc203 : N166 84 19 = M 84 19 := hk170 84 19 rfl
    have hr204 : (0 : Int) ≤ N172 84 18 ∧ N172 84 18 ≤ (1 : Int) := hIN172.1 84 18
    have hc205 : N172 84 18 = N166 84 18 := hk178 84 18 rfl
    have hc206 : N166 84 18 = M 84 18 := hk170 84 18 rfl
    have hc207 : N172 84 48 = N166 84 48 := hk178 84 48 rfl
    have hc208 : N166 84 48 = M 84 48 := hk170 84 48 rfl
    have hr209 : (0 : Int) ≤ N172 84 11 ∧ N172 84 11 ≤ (400 : Int) := hIN172.1 84 11
    have hr210 : (0 : Int) ≤ N172 84 13 ∧ N172 84 13 ≤ (5 : Int) := hIN172.1 84 13
    have hr211 : (0 : Int) ≤ N172 84 12 ∧ N172 84 12 ≤ (7 : Int) := hIN172.1 84 12
    have hc212 : N172 84 12 = N166 84 12 := hk178 84 12 rfl
    have hc213 : N166 84 12 = M 84 12 := hk170 84 12 rfl
    have hc214 : N172 84 42 = N166 84 42 := hk178 84 42 rfl
    have hc215 : N166 84 42 = M 84 42 := hk170 84 42 rfl
    refine CV_mono (c_X12_tellLaw T (hIN172) (show N172 84 19 = 1 - N172 84 18 by omega) (by assumption) (show (z171 : Int) < 40 by omega) (show 420 * N172 84 19 ≤ N172 84 48 by omega) (show N172 84 48 - 420 * N172 84 19 ≤ N172 84 11 + 2 by omega) (show N172 84 13 = 0 → N172 84 12 = 0 ∧ N172 84 48 - 420 * N172 84 19 ≤ N172 84 11 ∧ 4 * (N172 84 42 - 130 * N172 84 19) + 2 ≤ N172 84 11 by omega) (show 130 * N172 84 19 ≤ N172 84 42 by omega) (show N172 84 42 ≤ 130 * N172 84 19 + 100 by omega)) (fun N199 hp200 => ?_)
    obtain ⟨hIN199, hk216, hj217, hj218, hp200⟩ := hp200
    have hr219 : (0 : Int) ≤ N199 84 11 ∧ N199 84 11 ≤ (400 : Int) := hIN199.1 84 11
    have hr220 : (0 : Int) ≤ N199 84 12 ∧ N199 84 12 ≤ (7 : Int) := hIN199.1 84 12
    have hr221 : (0 : Int) ≤ N199 84 13 ∧ N199 84 13 ≤ (5 : Int) := hIN199.1 84 13
    have hr222 : (0 : Int) ≤ N199 84 15 ∧ N199 84 15 ≤ (5 : Int) := hIN199.1 84 15
    have hc223 : N199 84 15 = N172 84 15 := hk216 84 15 rfl
    have hr224 : (0 : Int) ≤ N199 84 18 ∧ N199 84 18 ≤ (1 : Int) := hIN199.1 84 18
    have hc225 : N199 84 18 = N172 84 18 := hk216 84 18 rfl
    have hc226 : N172 84 18 = N166 84 18 := hk178 84 18 rfl
    have hc227 : N166 84 18 = M 84 18 := hk170 84 18 rfl
    have hr228 : (0 : Int) ≤ N199 84 19 ∧ N199 84 19 ≤ (1 : Int) := hIN199.1 84 19
    have hc229 : N199 84 19 = N172 84 19 := hk216 84 19 rfl
    have hc230 : N172 84 19 = N166 84 19 := hk178 84 19 rfl
    have hc231 : N166 84 19 = M 84 19 := hk170 84 19 rfl
    have hr232 : (0 : Int) ≤ N199 84 20 ∧ N199 84 20 ≤ (11 : Int) := hIN199.1 84 20
    have hc233 : N199 84 20 = N172 84 20 := hk216 84 20 rfl
    have hc234 : N172 84 20 = N166 84 20 := hk178 84 20 rfl
    have hc235 : N166 84 20 = M 84 20 := hk170 84 20 rfl
    have hGH := hp200.2.2.2.2.2.2
    have hNA : N199 84 13 = 0 → NA N199 := fun _ => NA_fr (NA_fr (NA_fr p10 hk170 rfl) hk178 rfl) hk216 rfl
    have hGG : GG N199 := GG_fr (GG_fr (GG_fr p11 hk170 rfl (fun _ => by omega) (fun _ _ => by omega)) hk178 rfl (fun _ => by omega) (fun _ _ => by omega)) hk216 rfl (fun _ => by omega) (fun _ _ => by omega)
    have hNM : N199 84 13 = 0 → N199 84 20 = N199 95 (M 84 19) + N199 100 (M 84 19) := fun h => by rw [hk216 84 20 rfl, hk178 84 20 rfl, hk170 84 20 rfl, hk216 95 _ rfl, hk178 95 _ rfl, hk170 95 _ rfl, hk216 100 _ rfl, hk178 100 _ rfl, hk170 100 _ rfl]; exact p8
    have hr236 : (0 : Int) ≤ N199 84 11 ∧ N199 84 11 ≤ (400 : Int) := hIN199.1 84 11
    have hr237 : (0 : Int) ≤ N199 84 13 ∧ N199 84 13 ≤ (5 : Int) := hIN199.1 84 13
    have hr238 : (0 : Int) ≤ N199 84 12 ∧ N199 84 12 ≤ (7 : Int) := hIN199.1 84 12
    have hr239 : (0 : Int) ≤ N199 84 20 ∧ N199 84 20 ≤ (11 : Int) := hIN199.1 84 20
    have hc240 : N199 84 20 = N172 84 20 := hk216 84 20 rfl
    have hc241 : N172 84 20 = N166 84 20 := hk178 84 20 rfl
    have hc242 : N166 84 20 = M 84 20 := hk170 84 20 rfl
    have hsm : qSm [(84, some 11), (84, some 12), (84, some 13), (84, some 14), (84, some 15), (84, some 16), (84, some 20), (84, some 42), (84, some 48), (84, some 52), (92, none), (93, none), (94, none), (95, none), (96, none), (97, none), (98, none), (99, none), (100, none), (101, none), (102, none), (103, none), (104, none), (105, none), (106, none), (107, none), (108, none), (109, none), (110, none), (111, none), (112, none), (113, none), (114, none), (115, none), (116, none), (117, none), (118, none), (119, none), (120, none)] M N199 := by
      intro b j hbj
      rw [hk216 b j (qSm_sub hbj rfl), hk178 b j (qSm_sub hbj rfl), hk170 b j (qSm_sub hbj rfl)]
    exact ⟨rfl, rfl, hIN199, hsm, by omega, by omega, by omega, by first | exact hNM | exact fun h1 => absurd h1 (by omega), by first | exact hGH | exact fun h1 => absurd h1 (by omega), by first | exact hNA | exact fun h1 => absurd h1 (by omega), by first | exact hGG | exact fun h1 _ => absurd h1 (by omega)⟩
  · refine ⟨trivial, ?_⟩
    have hr246 : (0 : Int) ≤ M 84 11 ∧ M 84 11 ≤ (400 : Int) := hIM.1 84 11
    have hr247 : (0 : Int) ≤ M 84 13 ∧ M 84 13 ≤ (5 : Int) := hIM.1 84 13
    refine CV_mono (c_X12_goesOn T (hIM)) (fun N244 hp245 => ?_)
    obtain ⟨hIN244, hk248, hp245⟩ := hp245
    have hna : NA N244 := NA_fr p10 hk248 rfl
    refine ⟨trivial, ?_⟩
    have hr252 : (0 : Int) ≤ N244 84 11 ∧ N244 84 11 ≤ (400 : Int) := hIN244.1 84 11
    have hr253 : (0 : Int) ≤ N244 84 13 ∧ N244 84 13 ≤ (5 : Int) := hIN244.1 84 13
    have hr254 : (0 : Int) ≤ N244 84 15 ∧ N244 84 15 ≤ (5 : Int) := hIN244.1 84 15
    have hc255 : N244 84 15 = M 84 15 := hk248 84 15 rfl
    refine CI_mono (c_X12_known T (hIN244) (by assumption)) (fun z249 N250 hp251 => ?_)
    obtain ⟨hIN250, hk256, hp251⟩ := hp251
    have hr257 : (0 : Int) ≤ N250 84 11 ∧ N250 84 11 ≤ (400 : Int) := hIN250.1 84 11
    have hr258 : (0 : Int) ≤ N250 84 12 ∧ N250 84 12 ≤ (7 : Int) := hIN250.1 84 12
    have hc259 : N250 84 12 = N244 84 12 := hk256 84 12 rfl
    have hc260 : N244 84 12 = M 84 12 := hk248 84 12 rfl
    have hr261 : (0 : Int) ≤ N250 84 13 ∧ N250 84 13 ≤ (5 : Int) := hIN250.1 84 13
    have hr262 : (0 : Int) ≤ N250 84 15 ∧ N250 84 15 ≤ (5 : Int) := hIN250.1 84 15
    have hr263 : (0 : Int) ≤ N250 84 18 ∧ N250 84 18 ≤ (1 : Int) := hIN250.1 84 18
    have hc264 : N250 84 18 = N244 84 18 := hk256 84 18 rfl
    have hc265 : N244 84 18 = M 84 18 := hk248 84 18 rfl
    have hr266 : (0 : Int) ≤ N250 84 19 ∧ N250 84 19 ≤ (1 : Int) := hIN250.1 84 19
    have hc267 : N250 84 19 = N244 84 19 := hk256 84 19 rfl
    have hc268 : N244 84 19 = M 84 19 := hk248 84 19 rfl
    have hr269 : (0 : Int) ≤ N250 84 20 ∧ N250 84 20 ≤ (11 : Int) := hIN250.1 84 20
    have hc270 : N250 84 20 = N244 84 20 := hk256 84 20 rfl
    have hc271 : N244 84 20 = M 84 20 := hk248 84 20 rfl
    have hc272 : N250 84 42 = N244 84 42 := hk256 84 42 rfl
    have hc273 : N244 84 42 = M 84 42 := hk248 84 42 rfl
    have hc274 : N250 84 48 = N244 84 48 := hk256 84 48 rfl
    have hc275 : N244 84 48 = M 84 48 := hk248 84 48 rfl
    have hgh : GH N250 := GH_fr (GH_fr p9 hk248 rfl (fun _ => by omega)) hk256 rfl (fun _ => by omega)
    refine ⟨fun hb276 => ?_, fun hb276 => ?_⟩
    · refine ⟨by omega, ?_⟩
      refine ⟨trivial, ?_⟩
      have hr280 : (0 : Int) ≤ N250 84 19 ∧ N250 84 19 ≤ (1 : Int) := hIN250.1 84 19
      have hc281 : N250 84 19 = N244 84 19 := hk256 84 19 rfl
      have hc282 : N244 84 19 = M 84 19 := hk248 84 19 rfl
      have hr283 : (0 : Int) ≤ N250 84 18 ∧ N250 84 18 ≤ (1 : Int) := hIN250.1 84 18
      have hc284 : N250 84 18 = N244 84 18 := hk256 84 18 rfl
      have hc285 : N244 84 18 = M 84 18 := hk248 84 18 rfl
      have hc286 : N250 84 48 = N244 84 48 := hk256 84 48 rfl
      have hc287 : N244 84 48 = M 84 48 := hk248 84 48 rfl
      have hr288 : (0 : Int) ≤ N250 84 11 ∧ N250 84 11 ≤ (400 : Int) := hIN250.1 84 11
      have hr289 : (0 : Int) ≤ N250 84 13 ∧ N250 84 13 ≤ (5 : Int) := hIN250.1 84 13
      have hr290 : (0 : Int) ≤ N250 84 12 ∧ N250 84 12 ≤ (7 : Int) := hIN250.1 84 12
      have hc291 : N250 84 12 = N244 84 12 := hk256 84 12 rfl
      have hc292 : N244 84 12 = M 84 12 := hk248 84 12 rfl
      have hc293 : N250 84 42 = N244 84 42 := hk256 84 42 rfl
      have hc294 : N244 84 42 = M 84 42 := hk248 84 42 rfl
      refine CV_mono (c_X12_tellLaw T (hIN250) (show N250 84 19 = 1 - N250 84 18 by omega) (by assumption) (show ((8 + z249) : Int) < 40 by omega) (show 420 * N250 84 19 ≤ N250 84 48 by omega) (show N250 84 48 - 420 * N250 84 19 ≤ N250 84 11 + 2 by omega) (show N250 84 13 = 0 → N250 84 12 = 0 ∧ N250 84 48 - 420 * N250 84 19 ≤ N250 84 11 ∧ 4 * (N250 84 42 - 130 * N250 84 19) + 2 ≤ N250 84 11 by omega) (show 130 * N250 84 19 ≤ N250 84 42 by omega) (show N250 84 42 ≤ 130 * N250 84 19 + 100 by omega)) (fun N278 hp279 => ?_)
      obtain ⟨hIN278, hk295, hj296, hj297, hp279⟩ := hp279
      have hr298 : (0 : Int) ≤ N278 84 11 ∧ N278 84 11 ≤ (400 : Int) := hIN278.1 84 11
      have hr299 : (0 : Int) ≤ N278 84 12 ∧ N278 84 12 ≤ (7 : Int) := hIN278.1 84 12
      have hr300 : (0 : Int) ≤ N278 84 13 ∧ N278 84 13 ≤ (5 : Int) := hIN278.1 84 13
      have hr301 : (0 : Int) ≤ N278 84 15 ∧ N278 84 15 ≤ (5 : Int) := hIN278.1 84 15
      have hc302 : N278 84 15 = N250 84 15 := hk295 84 15 rfl
      have hr303 : (0 : Int) ≤ N278 84 18 ∧ N278 84 18 ≤ (1 : Int) := hIN278.1 84 18
      have hc304 : N278 84 18 = N250 84 18 := hk295 84 18 rfl
      have hc305 : N250 84 18 = N244 84 18 := hk256 84 18 rfl
      have hc306 : N244 84 18 = M 84 18 := hk248 84 18 rfl
      have hr307 : (0 : Int) ≤ N278 84 19 ∧ N278 84 19 ≤ (1 : Int) := hIN278.1 84 19
      have hc308 : N278 84 19 = N250 84 19 := hk295 84 19 rfl
      have hc309 : N250 84 19 = N244 84 19 := hk256 84 19 rfl
      have hc310 : N244 84 19 = M 84 19 := hk248 84 19 rfl
      have hr311 : (0 : Int) ≤ N278 84 20 ∧ N278 84 20 ≤ (11 : Int) := hIN278.1 84 20
      have hc312 : N278 84 20 = N250 84 20 := hk295 84 20 rfl
      have hc313 : N250 84 20 = N244 84 20 := hk256 84 20 rfl
      have hc314 : N244 84 20 = M 84 20 := hk248 84 20 rfl
      have hGH := hp279.2.2.2.2.2.2
      have hNA : N278 84 13 = 0 → NA N278 := fun _ => NA_fr (NA_fr (NA_fr p10 hk248 rfl) hk256 rfl) hk295 rfl
      have hGG : GG N278 := GG_fr (GG_fr (GG_fr p11 hk248 rfl (fun _ => by omega) (fun _ _ => by omega)) hk256 rfl (fun _ => by omega) (fun _ _ => by omega)) hk295 rfl (fun _ => by omega) (fun _ _ => by omega)
      have hNM : N278 84 13 = 0 → N278 84 20 = N278 95 (M 84 19) + N278 100 (M 84 19) := fun h => by rw [hk295 84 20 rfl, hk256 84 20 rfl, hk248 84 20 rfl, hk295 95 _ rfl, hk256 95 _ rfl, hk248 95 _ rfl, hk295 100 _ rfl, hk256 100 _ rfl, hk248 100 _ rfl]; exact p8
      have hr315 : (0 : Int) ≤ N278 84 11 ∧ N278 84 11 ≤ (400 : Int) := hIN278.1 84 11
      have hr316 : (0 : Int) ≤ N278 84 13 ∧ N278 84 13 ≤ (5 : Int) := hIN278.1 84 13
      have hr317 : (0 : Int) ≤ N278 84 12 ∧ N278 84 12 ≤ (7 : Int) := hIN278.1 84 12
      have hr318 : (0 : Int) ≤ N278 84 20 ∧ N278 84 20 ≤ (11 : Int) := hIN278.1 84 20
      have hc319 : N278 84 20 = N250 84 20 := hk295 84 20 rfl
      have hc320 : N250 84 20 = N244 84 20 := hk256 84 20 rfl
      have hc321 : N244 84 20 = M 84 20 := hk248 84 20 rfl
      have hsm : qSm [(84, some 11), (84, some 12), (84, some 13), (84, some 14), (84, some 15), (84, some 16), (84, some 20), (84, some 42), (84, some 48), (84, some 52), (92, none), (93, none), (94, none), (95, none), (96, none), (97, none), (98, none), (99, none), (100, none), (101, none), (102, none), (103, none), (104, none), (105, none), (106, none), (107, none), (108, none), (109, none), (110, none), (111, none), (112, none), (113, none), (114, none), (115, none), (116, none), (117, none), (118, none), (119, none), (120, none)] M N278 := by
        intro b j hbj
        rw [hk295 b j (qSm_sub hbj rfl), hk256 b j (qSm_sub hbj rfl), hk248 b j (qSm_sub hbj rfl)]
      exact ⟨rfl, rfl, hIN278, hsm, by omega, by omega, by omega, by first | exact hNM | exact fun h1 => absurd h1 (by omega), by first | exact hGH | exact fun h1 => absurd h1 (by omega), by first | exact hNA | exact fun h1 => absurd h1 (by omega), by first | exact hGG | exact fun h1 _ => absurd h1 (by omega)⟩
    · refine ⟨trivial, ?_⟩
      have hr325 : (0 : Int) ≤ N250 84 19 ∧ N250 84 19 ≤ (1 : Int) := hIN250.1 84 19
      have hc326 : N250 84 19 = N244 84 19 := hk256 84 19 rfl
      have hc327 : N244 84 19 = M 84 19 := hk248 84 19 rfl
      have hr328 : (0 : Int) ≤ N250 84 18 ∧ N250 84 18 ≤ (1 : Int) := hIN250.1 84 18
      have hc329 : N250 84 18 = N244 84 18 := hk256 84 18 rfl
      have hc330 : N244 84 18 = M 84 18 := hk248 84 18 rfl
      have hc331 : N250 84 48 = N244 84 48 := hk256 84 48 rfl
      have hc332 : N244 84 48 = M 84 48 := hk248 84 48 rfl
      have hr333 : (0 : Int) ≤ N250 84 11 ∧ N250 84 11 ≤ (400 : Int) := hIN250.1 84 11
      have hr334 : (0 : Int) ≤ N250 84 13 ∧ N250 84 13 ≤ (5 : Int) := hIN250.1 84 13
      have hr335 : (0 : Int) ≤ N250 84 12 ∧ N250 84 12 ≤ (7 : Int) := hIN250.1 84 12
      have hc336 : N250 84 12 = N244 84 12 := hk256 84 12 rfl
      have hc337 : N244 84 12 = M 84 12 := hk248 84 12 rfl
      have hc338 : N250 84 42 = N244 84 42 := hk256 84 42 rfl
      have hc339 : N244 84 42 = M 84 42 := hk248 84 42 rfl
      refine CV_mono (c_X12_tellLaw T (hIN250) (show N250 84 19 = 1 - N250 84 18 by omega) (by assumption) (show (-1 : Int) < 40 by omega) (show 420 * N250 84 19 ≤ N250 84 48 by omega) (show N250 84 48 - 420 * N250 84 19 ≤ N250 84 11 + 2 by omega) (show N250 84 13 = 0 → N250 84 12 = 0 ∧ N250 84 48 - 420 * N250 84 19 ≤ N250 84 11 ∧ 4 * (N250 84 42 - 130 * N250 84 19) + 2 ≤ N250 84 11 by omega) (show 130 * N250 84 19 ≤ N250 84 42 by omega) (show N250 84 42 ≤ 130 * N250 84 19 + 100 by omega)) (fun N323 hp324 => ?_)
      obtain ⟨hIN323, hk340, hj341, hj342, hp324⟩ := hp324
      have hr343 : (0 : Int) ≤ N323 84 11 ∧ N323 84 11 ≤ (400 : Int) := hIN323.1 84 11
      have hr344 : (0 : Int) ≤ N323 84 12 ∧ N323 84 12 ≤ (7 : Int) := hIN323.1 84 12
      have hr345 : (0 : Int) ≤ N323 84 13 ∧ N323 84 13 ≤ (5 : Int) := hIN323.1 84 13
      have hr346 : (0 : Int) ≤ N323 84 15 ∧ N323 84 15 ≤ (5 : Int) := hIN323.1 84 15
      have hc347 : N323 84 15 = N250 84 15 := hk340 84 15 rfl
      have hr348 : (0 : Int) ≤ N323 84 18 ∧ N323 84 18 ≤ (1 : Int) := hIN323.1 84 18
      have hc349 : N323 84 18 = N250 84 18 := hk340 84 18 rfl
      have hc350 : N250 84 18 = N244 84 18 := hk256 84 18 rfl
      have hc351 : N244 84 18 = M 84 18 := hk248 84 18 rfl
      have hr352 : (0 : Int) ≤ N323 84 19 ∧ N323 84 19 ≤ (1 : Int) := hIN323.1 84 19
      have hc353 : N323 84 19 = N250 84 19 := hk340 84 19 rfl
      have hc354 : N250 84 19 = N244 84 19 := hk256 84 19 rfl
      have hc355 : N244 84 19 = M 84 19 := hk248 84 19 rfl
      have hr356 : (0 : Int) ≤ N323 84 20 ∧ N323 84 20 ≤ (11 : Int) := hIN323.1 84 20
      have hc357 : N323 84 20 = N250 84 20 := hk340 84 20 rfl
      have hc358 : N250 84 20 = N244 84 20 := hk256 84 20 rfl
      have hc359 : N244 84 20 = M 84 20 := hk248 84 20 rfl
      have hGH := hp324.2.2.2.2.2.2
      have hNA : N323 84 13 = 0 → NA N323 := fun _ => NA_fr (NA_fr (NA_fr p10 hk248 rfl) hk256 rfl) hk340 rfl
      have hGG : GG N323 := GG_fr (GG_fr (GG_fr p11 hk248 rfl (fun _ => by omega) (fun _ _ => by omega)) hk256 rfl (fun _ => by omega) (fun _ _ => by omega)) hk340 rfl (fun _ => by omega) (fun _ _ => by omega)
      have hNM : N323 84 13 = 0 → N323 84 20 = N323 95 (M 84 19) + N323 100 (M 84 19) := fun h => by rw [hk340 84 20 rfl, hk256 84 20 rfl, hk248 84 20 rfl, hk340 95 _ rfl, hk256 95 _ rfl, hk248 95 _ rfl, hk340 100 _ rfl, hk256 100 _ rfl, hk248 100 _ rfl]; exact p8
      have hr360 : (0 : Int) ≤ N323 84 11 ∧ N323 84 11 ≤ (400 : Int) := hIN323.1 84 11
      have hr361 : (0 : Int) ≤ N323 84 13 ∧ N323 84 13 ≤ (5 : Int) := hIN323.1 84 13
      have hr362 : (0 : Int) ≤ N323 84 12 ∧ N323 84 12 ≤ (7 : Int) := hIN323.1 84 12
      have hr363 : (0 : Int) ≤ N323 84 20 ∧ N323 84 20 ≤ (11 : Int) := hIN323.1 84 20
      have hc364 : N323 84 20 = N250 84 20 := hk340 84 20 rfl
      have hc365 : N250 84 20 = N244 84 20 := hk256 84 20 rfl
      have hc366 : N244 84 20 = M 84 20 := hk248 84 20 rfl
      have hsm : qSm [(84, some 11), (84, some 12), (84, some 13), (84, some 14), (84, some 15), (84, some 16), (84, some 20), (84, some 42), (84, some 48), (84, some 52), (92, none), (93, none), (94, none), (95, none), (96, none), (97, none), (98, none), (99, none), (100, none), (101, none), (102, none), (103, none), (104, none), (105, none), (106, none), (107, none), (108, none), (109, none), (110, none), (111, none), (112, none), (113, none), (114, none), (115, none), (116, none), (117, none), (118, none), (119, none), (120, none)] M N323 := by
        intro b j hbj
        rw [hk340 b j (qSm_sub hbj rfl), hk256 b j (qSm_sub hbj rfl), hk248 b j (qSm_sub hbj rfl)]
      exact ⟨rfl, rfl, hIN323, hsm, by omega, by omega, by omega, by first | exact hNM | exact fun h1 => absurd h1 (by omega), by first | exact hGH | exact fun h1 => absurd h1 (by omega), by first | exact hNA | exact fun h1 => absurd h1 (by omega), by first | exact hGG | exact fun h1 _ => absurd h1 (by omega)⟩
  · have hr367 : (0 : Int) ≤ M 84 19 ∧ M 84 19 ≤ (1 : Int) := hIM.1 84 19
    refine ⟨by omega, ?_⟩
    have hr368 : (0 : Int) ≤ M 103 (M 84 19) ∧ M 103 (M 84 19) ≤ (12 : Int) := hIM.1 103 (M 84 19)
    refine ⟨trivial, ?_⟩
    have hr372 : (0 : Int) ≤ M 84 11 ∧ M 84 11 ≤ (400 : Int) := hIM.1 84 11
    have hr373 : (0 : Int) ≤ M 84 13 ∧ M 84 13 ≤ (5 : Int) := hIM.1 84 13
    refine CV_mono (c_X12_roomFor T (hIM)) (fun N370 hp371 => ?_)
    obtain ⟨hIN370, hk374, hp371⟩ := hp371
    have hr375 : (0 : Int) ≤ N370 84 11 ∧ N370 84 11 ≤ (400 : Int) := hIN370.1 84 11
    have hr376 : (0 : Int) ≤ N370 84 12 ∧ N370 84 12 ≤ (7 : Int) := hIN370.1 84 12
    have hc377 : N370 84 12 = M 84 12 := hk374 84 12 rfl
    have hr378 : (0 : Int) ≤ N370 84 13 ∧ N370 84 13 ≤ (5 : Int) := hIN370.1 84 13
    have hr379 : (0 : Int) ≤ N370 84 15 ∧ N370 84 15 ≤ (5 : Int) := hIN370.1 84 15
    have hc380 : N370 84 15 = M 84 15 := hk374 84 15 rfl
    have hr381 : (0 : Int) ≤ N370 84 18 ∧ N370 84 18 ≤ (1 : Int) := hIN370.1 84 18
    have hc382 : N370 84 18 = M 84 18 := hk374 84 18 rfl
    have hr383 : (0 : Int) ≤ N370 84 19 ∧ N370 84 19 ≤ (1 : Int) := hIN370.1 84 19
    have hc384 : N370 84 19 = M 84 19 := hk374 84 19 rfl
    have hr385 : (0 : Int) ≤ N370 84 20 ∧ N370 84 20 ≤ (11 : Int) := hIN370.1 84 20
    have hc386 : N370 84 20 = M 84 20 := hk374 84 20 rfl
    have hc387 : N370 84 42 = M 84 42 := hk374 84 42 rfl
    have hc388 : N370 84 48 = M 84 48 := hk374 84 48 rfl
    have hr389 : (0 : Int) ≤ N370 103 (M 84 19) ∧ N370 103 (M 84 19) ≤ (12 : Int) := hIN370.1 103 (M 84 19)
    have hc390 : N370 103 (M 84 19) = M 103 (M 84 19) := hk374 103 (M 84 19) rfl
    have sc1 : N370 103 (N370 84 19) = M 103 (M 84 19) := by rw [show N370 84 19 = M 84 19 by omega]; exact hk374 103 _ rfl
    have hna : NA N370 := NA_fr p10 hk374 rfl
    have hr391 : (0 : Int) ≤ N370 84 19 ∧ N370 84 19 ≤ (1 : Int) := hIN370.1 84 19
    have hc392 : N370 84 19 = M 84 19 := hk374 84 19 rfl
    refine ⟨by omega, ?_⟩
    have hr393 : (0 : Int) ≤ N370 84 19 ∧ N370 84 19 ≤ (1 : Int) := hIN370.1 84 19
    have hc394 : N370 84 19 = M 84 19 := hk374 84 19 rfl
    refine ⟨by omega, ?_⟩
    have hr395 : (0 : Int) ≤ N370 103 (N370 84 19) ∧ N370 103 (N370 84 19) ≤ (12 : Int) := hIN370.1 103 (N370 84 19)
    have hc396 : N370 103 (N370 84 19) = M 103 (N370 84 19) := hk374 103 (N370 84 19) rfl
    refine ⟨fun hb397 => ?_, fun hb397 => ?_⟩
    · refine ⟨by omega, ?_⟩
      refine ⟨trivial, ?_⟩
      have hr401 : (0 : Int) ≤ N370 84 11 ∧ N370 84 11 ≤ (400 : Int) := hIN370.1 84 11
      have hr402 : (0 : Int) ≤ N370 84 13 ∧ N370 84 13 ≤ (5 : Int) := hIN370.1 84 13
      have hr403 : (0 : Int) ≤ N370 84 15 ∧ N370 84 15 ≤ (5 : Int) := hIN370.1 84 15
      have hc404 : N370 84 15 = M 84 15 := hk374 84 15 rfl
      refine CI_mono (c_X12_known T (hIN370) (by assumption)) (fun z398 N399 hp400 => ?_)
      obtain ⟨hIN399, hk405, hp400⟩ := hp400
      refine ⟨by omega, ?_⟩
      obtain ⟨N406, he407⟩ : ∃ X : qM, X = stM N399 104 ((12 * (N370 84 19)) + 0) z398 := ⟨_, rfl⟩
      rw [← he407]
      have hk408 := stM_k he407
      have hg409 := stM_g he407
      have hr410 : (0 : Int) ≤ N399 84 18 ∧ N399 84 18 ≤ (1 : Int) := hIN399.1 84 18
      have hc411 : N399 84 18 = N370 84 18 := hk405 84 18 rfl
      have hc412 : N370 84 18 = M 84 18 := hk374 84 18 rfl
      have hr413 : (0 : Int) ≤ N399 84 19 ∧ N399 84 19 ≤ (1 : Int) := hIN399.1 84 19
      have hc414 : N399 84 19 = N370 84 19 := hk405 84 19 rfl
      have hc415 : N370 84 19 = M 84 19 := hk374 84 19 rfl
      have hIN406 : INV S N406 := INV_side (w := 12) hIN399 he407 (qFree _ _ _ rfl) (by decide) (by omega)
      have hna : NA N406 := NA_fr (NA_fr hna hk405 rfl) (stM_s he407) rfl
      refine ⟨trivial, ?_⟩
      have hr419 : (0 : Int) ≤ N406 84 11 ∧ N406 84 11 ≤ (400 : Int) := hIN406.1 84 11
      have hc420 : N406 84 11 = N399 84 11 := hk408 84 11 (Or.inl (by decide))
      have hr421 : (0 : Int) ≤ N406 84 13 ∧ N406 84 13 ≤ (5 : Int) := hIN406.1 84 13
      have hc422 : N406 84 13 = N399 84 13 := hk408 84 13 (Or.inl (by decide))
      have hr423 : (0 : Int) ≤ N406 84 15 ∧ N406 84 15 ≤ (5 : Int) := hIN406.1 84 15
      have hc424 : N406 84 15 = N399 84 15 := hk408 84 15 (Or.inl (by decide))
      refine CI_mono (c_X12_known T (hIN406) (by assumption)) (fun z416 N417 hp418 => ?_)
      obtain ⟨hIN417, hk425, hp418⟩ := hp418
      refine ⟨by omega, ?_⟩
      obtain ⟨N426, he427⟩ : ∃ X : qM, X = stM N417 105 ((12 * (N370 84 19)) + 0) z416 := ⟨_, rfl⟩
      rw [← he427]
      have hk428 := stM_k he427
      have hg429 := stM_g he427
      have hr430 : (0 : Int) ≤ N417 84 18 ∧ N417 84 18 ≤ (1 : Int) := hIN417.1 84 18
      have hc431 : N417 84 18 = N406 84 18 := hk425 84 18 rfl
      have hc432 : N406 84 18 = N399 84 18 := hk408 84 18 (Or.inl (by decide))
      have hc433 : N399 84 18 = N370 84 18 := hk405 84 18 rfl
      have hc434 : N370 84 18 = M 84 18 := hk374 84 18 rfl
      have hr435 : (0 : Int) ≤ N417 84 19 ∧ N417 84 19 ≤ (1 : Int) := hIN417.1 84 19
      have hc436 : N417 84 19 = N406 84 19 := hk425 84 19 rfl
      have hc437 : N406 84 19 = N399 84 19 := hk408 84 19 (Or.inl (by decide))
      have hc438 : N399 84 19 = N370 84 19 := hk405 84 19 rfl
      have hc439 : N370 84 19 = M 84 19 := hk374 84 19 rfl
      have hIN426 : INV S N426 := INV_side (w := 12) hIN417 he427 (qFree _ _ _ rfl) (by decide) (by omega)
      have hr440 : (0 : Int) ≤ N426 84 11 ∧ N426 84 11 ≤ (400 : Int) := hIN426.1 84 11
      have hc441 : N426 84 11 = N417 84 11 := hk428 84 11 (Or.inl (by decide))
      have hr442 : (0 : Int) ≤ N426 84 12 ∧ N426 84 12 ≤ (7 : Int) := hIN426.1 84 12
      have hc443 : N426 84 12 = N417 84 12 := hk428 84 12 (Or.inl (by decide))
      have hc444 : N417 84 12 = N406 84 12 := hk425 84 12 rfl
      have hc445 : N406 84 12 = N399 84 12 := hk408 84 12 (Or.inl (by decide))
      have hc446 : N399 84 12 = N370 84 12 := hk405 84 12 rfl
      have hc447 : N370 84 12 = M 84 12 := hk374 84 12 rfl
      have hr448 : (0 : Int) ≤ N426 84 13 ∧ N426 84 13 ≤ (5 : Int) := hIN426.1 84 13
      have hc449 : N426 84 13 = N417 84 13 := hk428 84 13 (Or.inl (by decide))
      have hr450 : (0 : Int) ≤ N426 84 15 ∧ N426 84 15 ≤ (5 : Int) := hIN426.1 84 15
      have hc451 : N426 84 15 = N417 84 15 := hk428 84 15 (Or.inl (by decide))
      have hr452 : (0 : Int) ≤ N426 84 18 ∧ N426 84 18 ≤ (1 : Int) := hIN426.1 84 18
      have hc453 : N426 84 18 = N417 84 18 := hk428 84 18 (Or.inl (by decide))
      have hc454 : N417 84 18 = N406 84 18 := hk425 84 18 rfl
      have hc455 : N406 84 18 = N399 84 18 := hk408 84 18 (Or.inl (by decide))
      have hc456 : N399 84 18 = N370 84 18 := hk405 84 18 rfl
      have hc457 : N370 84 18 = M 84 18 := hk374 84 18 rfl
      have hr458 : (0 : Int) ≤ N426 84 19 ∧ N426 84 19 ≤ (1 : Int) := hIN426.1 84 19
      have hc459 : N426 84 19 = N417 84 19 := hk428 84 19 (Or.inl (by decide))
      have hc460 : N417 84 19 = N406 84 19 := hk425 84 19 rfl
      have hc461 : N406 84 19 = N399 84 19 := hk408 84 19 (Or.inl (by decide))
      have hc462 : N399 84 19 = N370 84 19 := hk405 84 19 rfl
      have hc463 : N370 84 19 = M 84 19 := hk374 84 19 rfl
      have hr464 : (0 : Int) ≤ N426 84 20 ∧ N426 84 20 ≤ (11 : Int) := hIN426.1 84 20
      have hc465 : N426 84 20 = N417 84 20 := hk428 84 20 (Or.inl (by decide))
      have hc466 : N417 84 20 = N406 84 20 := hk425 84 20 rfl
      have hc467 : N406 84 20 = N399 84 20 := hk408 84 20 (Or.inl (by decide))
      have hc468 : N399 84 20 = N370 84 20 := hk405 84 20 rfl
      have hc469 : N370 84 20 = M 84 20 := hk374 84 20 rfl
      have hc470 : N426 84 42 = N417 84 42 := hk428 84 42 (Or.inl (by decide))
      have hc471 : N417 84 42 = N406 84 42 := hk425 84 42 rfl
      have hc472 : N406 84 42 = N399 84 42 := hk408 84 42 (Or.inl (by decide))
      have hc473 : N399 84 42 = N370 84 42 := hk405 84 42 rfl
      have hc474 : N370 84 42 = M 84 42 := hk374 84 42 rfl
      have hc475 : N426 84 48 = N417 84 48 := hk428 84 48 (Or.inl (by decide))
      have hc476 : N417 84 48 = N406 84 48 := hk425 84 48 rfl
      have hc477 : N406 84 48 = N399 84 48 := hk408 84 48 (Or.inl (by decide))
      have hc478 : N399 84 48 = N370 84 48 := hk405 84 48 rfl
      have hc479 : N370 84 48 = M 84 48 := hk374 84 48 rfl
      have sc3 : N426 103 (N426 84 19) = M 103 (M 84 19) := by rw [show N426 84 19 = M 84 19 by omega]; exact (stM_k he427 103 _ (Or.inl (by decide))).trans ((hk425 103 _ rfl).trans ((stM_k he407 103 _ (Or.inl (by decide))).trans ((hk405 103 _ rfl).trans (hk374 103 _ rfl))))
      have hgh : GH N426 := GH_fr (GH_fr (GH_fr (GH_fr (GH_fr p9 hk374 rfl (fun _ => by omega)) hk405 rfl (fun _ => by omega)) (stM_s he407) rfl (fun _ => by omega)) hk425 rfl (fun _ => by omega)) (stM_s he427) rfl (fun _ => by omega)
      have hr480 : (0 : Int) ≤ N426 84 19 ∧ N426 84 19 ≤ (1 : Int) := hIN426.1 84 19
      have hc481 : N426 84 19 = N417 84 19 := hk428 84 19 (Or.inl (by decide))
      have hc482 : N417 84 19 = N406 84 19 := hk425 84 19 rfl
      have hc483 : N406 84 19 = N399 84 19 := hk408 84 19 (Or.inl (by decide))
      have hc484 : N399 84 19 = N370 84 19 := hk405 84 19 rfl
      have hc485 : N370 84 19 = M 84 19 := hk374 84 19 rfl
      refine ⟨by omega, ?_⟩
      have hr486 : (0 : Int) ≤ N426 103 (N426 84 19) ∧ N426 103 (N426 84 19) ≤ (12 : Int) := hIN426.1 103 (N426 84 19)
      have hc487 : N426 103 (N426 84 19) = N417 103 (N426 84 19) := hk428 103 (N426 84 19) (Or.inl (by decide))
      have hc488 : N417 103 (N426 84 19) = N406 103 (N426 84 19) := hk425 103 (N426 84 19) rfl
      have hc489 : N406 103 (N426 84 19) = N399 103 (N426 84 19) := hk408 103 (N426 84 19) (Or.inl (by decide))
      have hc490 : N399 103 (N426 84 19) = N370 103 (N426 84 19) := hk405 103 (N426 84 19) rfl
      have hc491 : N370 103 (N426 84 19) = M 103 (N426 84 19) := hk374 103 (N426 84 19) rfl
      refine ⟨fun hb492 => ?_, fun hb492 => ?_⟩
      · refine ⟨by omega, ?_⟩
        refine ⟨trivial, ?_⟩
        have hr496 : (0 : Int) ≤ N426 84 19 ∧ N426 84 19 ≤ (1 : Int) := hIN426.1 84 19
        have hc497 : N426 84 19 = N417 84 19 := hk428 84 19 (Or.inl (by decide))
        have hc498 : N417 84 19 = N406 84 19 := hk425 84 19 rfl
        have hc499 : N406 84 19 = N399 84 19 := hk408 84 19 (Or.inl (by decide))
        have hc500 : N399 84 19 = N370 84 19 := hk405 84 19 rfl
        have hc501 : N370 84 19 = M 84 19 := hk374 84 19 rfl
        have hr502 : (0 : Int) ≤ N426 84 18 ∧ N426 84 18 ≤ (1 : Int) := hIN426.1 84 18
        have hc503 : N426 84 18 = N417 84 18 := hk428 84 18 (Or.inl (by decide))
        have hc504 : N417 84 18 = N406 84 18 := hk425 84 18 rfl
        have hc505 : N406 84 18 = N399 84 18 := hk408 84 18 (Or.inl (by decide))
        have hc506 : N399 84 18 = N370 84 18 := hk405 84 18 rfl
        have hc507 : N370 84 18 = M 84 18 := hk374 84 18 rfl
        have hc508 : N426 84 48 = N417 84 48 := hk428 84 48 (Or.inl (by decide))
        have hc509 : N417 84 48 = N406 84 48 := hk425 84 48 rfl
        have hc510 : N406 84 48 = N399 84 48 := hk408 84 48 (Or.inl (by decide))
        have hc511 : N399 84 48 = N370 84 48 := hk405 84 48 rfl
        have hc512 : N370 84 48 = M 84 48 := hk374 84 48 rfl
        have hr513 : (0 : Int) ≤ N426 84 11 ∧ N426 84 11 ≤ (400 : Int) := hIN426.1 84 11
        have hc514 : N426 84 11 = N417 84 11 := hk428 84 11 (Or.inl (by decide))
        have hr515 : (0 : Int) ≤ N426 84 13 ∧ N426 84 13 ≤ (5 : Int) := hIN426.1 84 13
        have hc516 : N426 84 13 = N417 84 13 := hk428 84 13 (Or.inl (by decide))
        have hr517 : (0 : Int) ≤ N426 84 12 ∧ N426 84 12 ≤ (7 : Int) := hIN426.1 84 12
        have hc518 : N426 84 12 = N417 84 12 := hk428 84 12 (Or.inl (by decide))
        have hc519 : N417 84 12 = N406 84 12 := hk425 84 12 rfl
        have hc520 : N406 84 12 = N399 84 12 := hk408 84 12 (Or.inl (by decide))
        have hc521 : N399 84 12 = N370 84 12 := hk405 84 12 rfl
        have hc522 : N370 84 12 = M 84 12 := hk374 84 12 rfl
        have hc523 : N426 84 42 = N417 84 42 := hk428 84 42 (Or.inl (by decide))
        have hc524 : N417 84 42 = N406 84 42 := hk425 84 42 rfl
        have hc525 : N406 84 42 = N399 84 42 := hk408 84 42 (Or.inl (by decide))
        have hc526 : N399 84 42 = N370 84 42 := hk405 84 42 rfl
        have hc527 : N370 84 42 = M 84 42 := hk374 84 42 rfl
        refine CV_mono (c_X12_tellLaw T (hIN426) (show N426 84 19 = 1 - N426 84 18 by omega) (by assumption) (show ((16 + 0) : Int) < 40 by omega) (show 420 * N426 84 19 ≤ N426 84 48 by omega) (show N426 84 48 - 420 * N426 84 19 ≤ N426 84 11 + 2 by omega) (show N426 84 13 = 0 → N426 84 12 = 0 ∧ N426 84 48 - 420 * N426 84 19 ≤ N426 84 11 ∧ 4 * (N426 84 42 - 130 * N426 84 19) + 2 ≤ N426 84 11 by omega) (show 130 * N426 84 19 ≤ N426 84 42 by omega) (show N426 84 42 ≤ 130 * N426 84 19 + 100 by omega)) (fun N494 hp495 => ?_)
        obtain ⟨hIN494, hk528, hj529, hj530, hp495⟩ := hp495
        have hr531 : (0 : Int) ≤ N494 84 11 ∧ N494 84 11 ≤ (400 : Int) := hIN494.1 84 11
        have hr532 : (0 : Int) ≤ N494 84 12 ∧ N494 84 12 ≤ (7 : Int) := hIN494.1 84 12
        have hr533 : (0 : Int) ≤ N494 84 13 ∧ N494 84 13 ≤ (5 : Int) := hIN494.1 84 13
        have hr534 : (0 : Int) ≤ N494 84 15 ∧ N494 84 15 ≤ (5 : Int) := hIN494.1 84 15
        have hc535 : N494 84 15 = N426 84 15 := hk528 84 15 rfl
        have hc536 : N426 84 15 = N417 84 15 := hk428 84 15 (Or.inl (by decide))
        have hr537 : (0 : Int) ≤ N494 84 18 ∧ N494 84 18 ≤ (1 : Int) := hIN494.1 84 18
        have hc538 : N494 84 18 = N426 84 18 := hk528 84 18 rfl
        have hc539 : N426 84 18 = N417 84 18 := hk428 84 18 (Or.inl (by decide))
        have hc540 : N417 84 18 = N406 84 18 := hk425 84 18 rfl
        have hc541 : N406 84 18 = N399 84 18 := hk408 84 18 (Or.inl (by decide))
        have hc542 : N399 84 18 = N370 84 18 := hk405 84 18 rfl
        have hc543 : N370 84 18 = M 84 18 := hk374 84 18 rfl
        have hr544 : (0 : Int) ≤ N494 84 19 ∧ N494 84 19 ≤ (1 : Int) := hIN494.1 84 19
        have hc545 : N494 84 19 = N426 84 19 := hk528 84 19 rfl
        have hc546 : N426 84 19 = N417 84 19 := hk428 84 19 (Or.inl (by decide))
        have hc547 : N417 84 19 = N406 84 19 := hk425 84 19 rfl
        have hc548 : N406 84 19 = N399 84 19 := hk408 84 19 (Or.inl (by decide))
        have hc549 : N399 84 19 = N370 84 19 := hk405 84 19 rfl
        have hc550 : N370 84 19 = M 84 19 := hk374 84 19 rfl
        have hr551 : (0 : Int) ≤ N494 84 20 ∧ N494 84 20 ≤ (11 : Int) := hIN494.1 84 20
        have hc552 : N494 84 20 = N426 84 20 := hk528 84 20 rfl
        have hc553 : N426 84 20 = N417 84 20 := hk428 84 20 (Or.inl (by decide))
        have hc554 : N417 84 20 = N406 84 20 := hk425 84 20 rfl
        have hc555 : N406 84 20 = N399 84 20 := hk408 84 20 (Or.inl (by decide))
        have hc556 : N399 84 20 = N370 84 20 := hk405 84 20 rfl
        have hc557 : N370 84 20 = M 84 20 := hk374 84 20 rfl
        have sc4 : N494 103 (N494 84 19) = M 103 (M 84 19) := by rw [show N494 84 19 = M 84 19 by omega]; exact (hk528 103 _ rfl).trans ((stM_k he427 103 _ (Or.inl (by decide))).trans ((hk425 103 _ rfl).trans ((stM_k he407 103 _ (Or.inl (by decide))).trans ((hk405 103 _ rfl).trans (hk374 103 _ rfl)))))
        have hr558 : (0 : Int) ≤ N494 84 13 ∧ N494 84 13 ≤ (5 : Int) := hIN494.1 84 13
        refine ⟨fun hb559 => ?_, fun hb559 => ?_⟩
        · have hr560 : (0 : Int) ≤ N494 84 11 ∧ N494 84 11 ≤ (400 : Int) := hIN494.1 84 11
          have hr561 : (0 : Int) ≤ N494 84 13 ∧ N494 84 13 ≤ (5 : Int) := hIN494.1 84 13
          have hr562 : (0 : Int) ≤ N494 84 12 ∧ N494 84 12 ≤ (7 : Int) := hIN494.1 84 12
          have hr563 : (0 : Int) ≤ N494 84 20 ∧ N494 84 20 ≤ (11 : Int) := hIN494.1 84 20
          have hc564 : N494 84 20 = N426 84 20 := hk528 84 20 rfl
          have hc565 : N426 84 20 = N417 84 20 := hk428 84 20 (Or.inl (by decide))
          have hc566 : N417 84 20 = N406 84 20 := hk425 84 20 rfl
          have hc567 : N406 84 20 = N399 84 20 := hk408 84 20 (Or.inl (by decide))
          have hc568 : N399 84 20 = N370 84 20 := hk405 84 20 rfl
          have hc569 : N370 84 20 = M 84 20 := hk374 84 20 rfl
          have hsm : qSm [(84, some 11), (84, some 12), (84, some 13), (84, some 14), (84, some 15), (84, some 16), (84, some 20), (84, some 42), (84, some 48), (84, some 52), (92, none), (93, none), (94, none), (95, none), (96, none), (97, none), (98, none), (99, none), (100, none), (101, none), (102, none), (103, none), (104, none), (105, none), (106, none), (107, none), (108, none), (109, none), (110, none), (111, none), (112, none), (113, none), (114, none), (115, none), (116, none), (117, none), (118, none), (119, none), (120, none)] M N494 := by
            intro b j hbj
            rw [hk528 b j (qSm_sub hbj rfl), hk428 b j (qSm_ne hbj rfl), hk425 b j (qSm_sub hbj rfl), hk408 b j (qSm_ne hbj rfl), hk405 b j (qSm_sub hbj rfl), hk374 b j (qSm_sub hbj rfl)]
          exact ⟨rfl, rfl, hIN494, hsm, by omega, by omega, by omega, by first | exact hNM | exact fun h1 => absurd h1 (by omega), by first | exact hGH | exact fun h1 => absurd h1 (by omega), by first | exact hNA | exact fun h1 => absurd h1 (by omega), by first | exact hGG | exact fun h1 _ => absurd h1 (by omega)⟩
        · have hr570 : (0 : Int) ≤ N494 84 19 ∧ N494 84 19 ≤ (1 : Int) := hIN494.1 84 19
          have hc571 : N494 84 19 = N426 84 19 := hk528 84 19 rfl
          have hc572 : N426 84 19 = N417 84 19 := hk428 84 19 (Or.inl (by decide))
          have hc573 : N417 84 19 = N406 84 19 := hk425 84 19 rfl
          have hc574 : N406 84 19 = N399 84 19 := hk408 84 19 (Or.inl (by decide))
          have hc575 : N399 84 19 = N370 84 19 := hk405 84 19 rfl
          have hc576 : N370 84 19 = M 84 19 := hk374 84 19 rfl
          refine ⟨by omega, ?_⟩
          have hr577 : (0 : Int) ≤ N494 103 (N494 84 19) ∧ N494 103 (N494 84 19) ≤ (12 : Int) := hIN494.1 103 (N494 84 19)
          have hc578 : N494 103 (N494 84 19) = N426 103 (N494 84 19) := hk528 103 (N494 84 19) rfl
          have hc579 : N426 103 (N494 84 19) = N417 103 (N494 84 19) := hk428 103 (N494 84 19) (Or.inl (by decide))
          have hc580 : N417 103 (N494 84 19) = N406 103 (N494 84 19) := hk425 103 (N494 84 19) rfl
          have hc581 : N406 103 (N494 84 19) = N399 103 (N494 84 19) := hk408 103 (N494 84 19) (Or.inl (by decide))
          have hc582 : N399 103 (N494 84 19) = N370 103 (N494 84 19) := hk405 103 (N494 84 19) rfl
          have hc583 : N370 103 (N494 84 19) = M 103 (N494 84 19) := hk374 103 (N494 84 19) rfl
          refine ⟨by omega, ?_⟩
          refine ⟨by omega, ?_⟩
          obtain ⟨N584, he585⟩ : ∃ X : qM, X = stM N494 103 (N494 84 19) ((N494 103 (N494 84 19)) + 1) := ⟨_, rfl⟩
          rw [← he585]
          have hk586 := stM_k he585
          have hg587 := stM_g he585
          have hr588 : (0 : Int) ≤ N494 84 18 ∧ N494 84 18 ≤ (1 : Int) := hIN494.1 84 18
          have hc589 : N494 84 18 = N426 84 18 := hk528 84 18 rfl
          have hc590 : N426 84 18 = N417 84 18 := hk428 84 18 (Or.inl (by decide))
          have hc591 : N417 84 18 = N406 84 18 := hk425 84 18 rfl
          have hc592 : N406 84 18 = N399 84 18 := hk408 84 18 (Or.inl (by decide))
          have hc593 : N399 84 18 = N370 84 18 := hk405 84 18 rfl
          have hc594 : N370 84 18 = M 84 18 := hk374 84 18 rfl
          have hr595 : (0 : Int) ≤ N494 84 19 ∧ N494 84 19 ≤ (1 : Int) := hIN494.1 84 19
          have hc596 : N494 84 19 = N426 84 19 := hk528 84 19 rfl
          have hc597 : N426 84 19 = N417 84 19 := hk428 84 19 (Or.inl (by decide))
          have hc598 : N417 84 19 = N406 84 19 := hk425 84 19 rfl
          have hc599 : N406 84 19 = N399 84 19 := hk408 84 19 (Or.inl (by decide))
          have hc600 : N399 84 19 = N370 84 19 := hk405 84 19 rfl
          have hc601 : N370 84 19 = M 84 19 := hk374 84 19 rfl
          have hIN584 : INV S N584 := INV_side (w := 1) hIN494 he585 (show (0 : Int) ≤ _ ∧ _ ≤ (12 : Int) from ⟨by omega, by omega⟩) (by decide) (by omega)
          have hr602 : (0 : Int) ≤ N584 84 11 ∧ N584 84 11 ≤ (400 : Int) := hIN584.1 84 11
          have hc603 : N584 84 11 = N494 84 11 := hk586 84 11 (Or.inl (by decide))
          have hr604 : (0 : Int) ≤ N584 84 12 ∧ N584 84 12 ≤ (7 : Int) := hIN584.1 84 12
          have hc605 : N584 84 12 = N494 84 12 := hk586 84 12 (Or.inl (by decide))
          have hr606 : (0 : Int) ≤ N584 84 13 ∧ N584 84 13 ≤ (5 : Int) := hIN584.1 84 13
          have hc607 : N584 84 13 = N494 84 13 := hk586 84 13 (Or.inl (by decide))
          have hr608 : (0 : Int) ≤ N584 84 15 ∧ N584 84 15 ≤ (5 : Int) := hIN584.1 84 15
          have hc609 : N584 84 15 = N494 84 15 := hk586 84 15 (Or.inl (by decide))
          have hc610 : N494 84 15 = N426 84 15 := hk528 84 15 rfl
          have hc611 : N426 84 15 = N417 84 15 := hk428 84 15 (Or.inl (by decide))
          have hr612 : (0 : Int) ≤ N584 84 18 ∧ N584 84 18 ≤ (1 : Int) := hIN584.1 84 18
          have hc613 : N584 84 18 = N494 84 18 := hk586 84 18 (Or.inl (by decide))
          have hc614 : N494 84 18 = N426 84 18 := hk528 84 18 rfl
          have hc615 : N426 84 18 = N417 84 18 := hk428 84 18 (Or.inl (by decide))
          have hc616 : N417 84 18 = N406 84 18 := hk425 84 18 rfl
          have hc617 : N406 84 18 = N399 84 18 := hk408 84 18 (Or.inl (by decide))
          have hc618 : N399 84 18 = N370 84 18 := hk405 84 18 rfl
          have hc619 : N370 84 18 = M 84 18 := hk374 84 18 rfl
          have hr620 : (0 : Int) ≤ N584 84 19 ∧ N584 84 19 ≤ (1 : Int) := hIN584.1 84 19
          have hc621 : N584 84 19 = N494 84 19 := hk586 84 19 (Or.inl (by decide))
          have hc622 : N494 84 19 = N426 84 19 := hk528 84 19 rfl
          have hc623 : N426 84 19 = N417 84 19 := hk428 84 19 (Or.inl (by decide))
          have hc624 : N417 84 19 = N406 84 19 := hk425 84 19 rfl
          have hc625 : N406 84 19 = N399 84 19 := hk408 84 19 (Or.inl (by decide))
          have hc626 : N399 84 19 = N370 84 19 := hk405 84 19 rfl
          have hc627 : N370 84 19 = M 84 19 := hk374 84 19 rfl
          have hr628 : (0 : Int) ≤ N584 84 20 ∧ N584 84 20 ≤ (11 : Int) := hIN584.1 84 20
          have hc629 : N584 84 20 = N494 84 20 := hk586 84 20 (Or.inl (by decide))
          have hc630 : N494 84 20 = N426 84 20 := hk528 84 20 rfl
          have hc631 : N426 84 20 = N417 84 20 := hk428 84 20 (Or.inl (by decide))
          have hc632 : N417 84 20 = N406 84 20 := hk425 84 20 rfl
          have hc633 : N406 84 20 = N399 84 20 := hk408 84 20 (Or.inl (by decide))
          have hc634 : N399 84 20 = N370 84 20 := hk405 84 20 rfl
          have hc635 : N370 84 20 = M 84 20 := hk374 84 20 rfl
          have hc636 : N584 84 42 = N494 84 42 := hk586 84 42 (Or.inl (by decide))
          have hc637 : N584 84 48 = N494 84 48 := hk586 84 48 (Or.inl (by decide))
          have hGH : GH N584 := GH_fr hp495.2.2.2.2.2.2 (stM_s he585) rfl (fun _ => by omega)
          have hNA : N584 84 13 = 0 → NA N584 := fun _ => NA_fr (NA_fr (NA_fr (NA_fr hna hk425 rfl) (stM_s he427) rfl) hk528 rfl) (stM_s he585) rfl
          have hNM : N584 84 13 = 0 → N584 84 20 = N584 95 (M 84 19) + N584 100 (M 84 19) := fun h => by rw [stM_k he585 84 20 (Or.inl (by decide)), hk528 84 20 rfl, stM_k he427 84 20 (Or.inl (by decide)), hk425 84 20 rfl, stM_k he407 84 20 (Or.inl (by decide)), hk405 84 20 rfl, hk374 84 20 rfl, stM_k he585 95 _ (Or.inl (by decide)), hk528 95 _ rfl, stM_k he427 95 _ (Or.inl (by decide)), hk425 95 _ rfl, stM_k he407 95 _ (Or.inl (by decide)), hk405 95 _ rfl, hk374 95 _ rfl, stM_k he585 100 _ (Or.inl (by decide)), hk528 100 _ rfl, stM_k he427 100 _ (Or.inl (by decide)), hk425 100 _ rfl, stM_k he407 100 _ (Or.inl (by decide)), hk405 100 _ rfl, hk374 100 _ rfl]; exact p8
          have h103 : N584 103 (M 84 19) = M 103 (M 84 19) + 1 := by have e := stM_g he585; rw [show N494 84 19 = M 84 19 by omega] at e; have e2 := sc4; rw [show N494 84 19 = M 84 19 by omega] at e2; omega
          have hsm0 : qSm [(84, some 11), (84, some 12), (84, some 13), (84, some 14), (84, some 15), (84, some 16), (84, some 42), (84, some 48), (84, some 52), (103, none), (104, none), (105, none), (111, none), (112, none), (113, none), (114, none), (115, none), (116, none), (117, none), (118, none), (119, none), (120, none)] M N584 := (by intro b j hbj; rw [hk586 b j (qSm_ne hbj rfl), hk528 b j (qSm_sub hbj rfl), hk428 b j (qSm_ne hbj rfl), hk425 b j (qSm_sub hbj rfl), hk408 b j (qSm_ne hbj rfl), hk405 b j (qSm_sub hbj rfl), hk374 b j (qSm_sub hbj rfl)])
          have hGG : GG N584 := GG_buy p11 (by omega) (fun _ _ => by omega) (by omega) h103 (fun j hj => by rw [stM_k he585 104 _ (Or.inl (by decide)), hk528 104 _ rfl, stM_k he427 104 _ (Or.inl (by decide)), hk425 104 _ rfl, stM_k he407 104 _ (Or.inr (by omega)), hk405 104 _ rfl, hk374 104 _ rfl]) (fun j hj => by rw [stM_k he585 105 _ (Or.inl (by decide)), hk528 105 _ rfl, stM_k he427 105 _ (Or.inr (by omega)), hk425 105 _ rfl, stM_k he407 105 _ (Or.inl (by decide)), hk405 105 _ rfl, hk374 105 _ rfl]) (fun b hb => by
            simp only [List.contains_cons, List.contains_nil, Bool.or_false, Bool.or_eq_true, beq_iff_eq] at hb
            funext j
            exact hsm0 b j (by rcases hb with rfl | rfl | rfl | rfl | rfl | rfl | rfl | rfl | rfl | rfl <;> rfl)) (fun h1 h2 => by
            rw [stM_k he585 104 _ (Or.inl (by decide)), hk528 104 _ rfl, stM_k he427 104 _ (Or.inl (by decide)), hk425 104 _ rfl, show 12 * M 84 19 + M 103 (M 84 19) = ((12 * (N370 84 19)) + 0) by omega, stM_g he407, stM_k he585 105 _ (Or.inl (by decide)), hk528 105 _ rfl, stM_g he427]
            omega)
          have hr638 : (0 : Int) ≤ N584 84 11 ∧ N584 84 11 ≤ (400 : Int) := hIN584.1 84 11
          have hc639 : N584 84 11 = N494 84 11 := hk586 84 11 (Or.inl (by decide))
          have hr640 : (0 : Int) ≤ N584 84 13 ∧ N584 84 13 ≤ (5 : Int) := hIN584.1 84 13
          have hc641 : N584 84 13 = N494 84 13 := hk586 84 13 (Or.inl (by decide))
          have hr642 : (0 : Int) ≤ N584 84 12 ∧ N584 84 12 ≤ (7 : Int) := hIN584.1 84 12
          have hc643 : N584 84 12 = N494 84 12 := hk586 84 12 (Or.inl (by decide))
          have hc644 : N584 84 48 = N494 84 48 := hk586 84 48 (Or.inl (by decide))
          have hc645 : N584 84 42 = N494 84 42 := hk586 84 42 (Or.inl (by decide))
          have hr646 : (0 : Int) ≤ N584 84 20 ∧ N584 84 20 ≤ (11 : Int) := hIN584.1 84 20
          have hc647 : N584 84 20 = N494 84 20 := hk586 84 20 (Or.inl (by decide))
          have hc648 : N494 84 20 = N426 84 20 := hk528 84 20 rfl
          have hc649 : N426 84 20 = N417 84 20 := hk428 84 20 (Or.inl (by decide))
          have hc650 : N417 84 20 = N406 84 20 := hk425 84 20 rfl
          have hc651 : N406 84 20 = N399 84 20 := hk408 84 20 (Or.inl (by decide))
          have hc652 : N399 84 20 = N370 84 20 := hk405 84 20 rfl
          have hc653 : N370 84 20 = M 84 20 := hk374 84 20 rfl
          have hsm : qSm [(84, some 11), (84, some 12), (84, some 13), (84, some 14), (84, some 15), (84, some 16), (84, some 20), (84, some 42), (84, some 48), (84, some 52), (92, none), (93, none), (94, none), (95, none), (96, none), (97, none), (98, none), (99, none), (100, none), (101, none), (102, none), (103, none), (104, none), (105, none), (106, none), (107, none), (108, none), (109, none), (110, none), (111, none), (112, none), (113, none), (114, none), (115, none), (116, none), (117, none), (118, none), (119, none), (120, none)] M N584 := by
            intro b j hbj
            rw [hk586 b j (qSm_ne hbj rfl), hk528 b j (qSm_sub hbj rfl), hk428 b j (qSm_ne hbj rfl), hk425 b j (qSm_sub hbj rfl), hk408 b j (qSm_ne hbj rfl), hk405 b j (qSm_sub hbj rfl), hk374 b j (qSm_sub hbj rfl)]
          exact ⟨rfl, rfl, hIN584, hsm, by omega, by omega, by omega, by first | exact hNM | exact fun h1 => absurd h1 (by omega), by first | exact hGH | exact fun h1 => absurd h1 (by omega), by first | exact hNA | exact fun h1 => absurd h1 (by omega), by first | exact hGG | exact fun h1 _ => absurd h1 (by omega)⟩
      · have hr654 : (0 : Int) ≤ N426 84 19 ∧ N426 84 19 ≤ (1 : Int) := hIN426.1 84 19
        have hc655 : N426 84 19 = N417 84 19 := hk428 84 19 (Or.inl (by decide))
        have hc656 : N417 84 19 = N406 84 19 := hk425 84 19 rfl
        have hc657 : N406 84 19 = N399 84 19 := hk408 84 19 (Or.inl (by decide))
        have hc658 : N399 84 19 = N370 84 19 := hk405 84 19 rfl
        have hc659 : N370 84 19 = M 84 19 := hk374 84 19 rfl
        refine ⟨by omega, ?_⟩
        have hr660 : (0 : Int) ≤ N426 103 (N426 84 19) ∧ N426 103 (N426 84 19) ≤ (12 : Int) := hIN426.1 103 (N426 84 19)
        have hc661 : N426 103 (N426 84 19) = N417 103 (N426 84 19) := hk428 103 (N426 84 19) (Or.inl (by decide))
        have hc662 : N417 103 (N426 84 19) = N406 103 (N426 84 19) := hk425 103 (N426 84 19) rfl
        have hc663 : N406 103 (N426 84 19) = N399 103 (N426 84 19) := hk408 103 (N426 84 19) (Or.inl (by decide))
        have hc664 : N399 103 (N426 84 19) = N370 103 (N426 84 19) := hk405 103 (N426 84 19) rfl
        have hc665 : N370 103 (N426 84 19) = M 103 (N426 84 19) := hk374 103 (N426 84 19) rfl
        refine ⟨by omega, ?_⟩
        refine ⟨trivial, ?_⟩
        have hr669 : (0 : Int) ≤ N426 84 19 ∧ N426 84 19 ≤ (1 : Int) := hIN426.1 84 19
        have hc670 : N426 84 19 = N417 84 19 := hk428 84 19 (Or.inl (by decide))
        have hc671 : N417 84 19 = N406 84 19 := hk425 84 19 rfl
        have hc672 : N406 84 19 = N399 84 19 := hk408 84 19 (Or.inl (by decide))
        have hc673 : N399 84 19 = N370 84 19 := hk405 84 19 rfl
        have hc674 : N370 84 19 = M 84 19 := hk374 84 19 rfl
        have hr675 : (0 : Int) ≤ N426 84 18 ∧ N426 84 18 ≤ (1 : Int) := hIN426.1 84 18
        have hc676 : N426 84 18 = N417 84 18 := hk428 84 18 (Or.inl (by decide))
        have hc677 : N417 84 18 = N406 84 18 := hk425 84 18 rfl
        have hc678 : N406 84 18 = N399 84 18 := hk408 84 18 (Or.inl (by decide))
        have hc679 : N399 84 18 = N370 84 18 := hk405 84 18 rfl
        have hc680 : N370 84 18 = M 84 18 := hk374 84 18 rfl
        have hc681 : N426 84 48 = N417 84 48 := hk428 84 48 (Or.inl (by decide))
        have hc682 : N417 84 48 = N406 84 48 := hk425 84 48 rfl
        have hc683 : N406 84 48 = N399 84 48 := hk408 84 48 (Or.inl (by decide))
        have hc684 : N399 84 48 = N370 84 48 := hk405 84 48 rfl
        have hc685 : N370 84 48 = M 84 48 := hk374 84 48 rfl
        have hr686 : (0 : Int) ≤ N426 84 11 ∧ N426 84 11 ≤ (400 : Int) := hIN426.1 84 11
        have hc687 : N426 84 11 = N417 84 11 := hk428 84 11 (Or.inl (by decide))
        have hr688 : (0 : Int) ≤ N426 84 13 ∧ N426 84 13 ≤ (5 : Int) := hIN426.1 84 13
        have hc689 : N426 84 13 = N417 84 13 := hk428 84 13 (Or.inl (by decide))
        have hr690 : (0 : Int) ≤ N426 84 12 ∧ N426 84 12 ≤ (7 : Int) := hIN426.1 84 12
        have hc691 : N426 84 12 = N417 84 12 := hk428 84 12 (Or.inl (by decide))
        have hc692 : N417 84 12 = N406 84 12 := hk425 84 12 rfl
        have hc693 : N406 84 12 = N399 84 12 := hk408 84 12 (Or.inl (by decide))
        have hc694 : N399 84 12 = N370 84 12 := hk405 84 12 rfl
        have hc695 : N370 84 12 = M 84 12 := hk374 84 12 rfl
        have hc696 : N426 84 42 = N417 84 42 := hk428 84 42 (Or.inl (by decide))
        have hc697 : N417 84 42 = N406 84 42 := hk425 84 42 rfl
        have hc698 : N406 84 42 = N399 84 42 := hk408 84 42 (Or.inl (by decide))
        have hc699 : N399 84 42 = N370 84 42 := hk405 84 42 rfl
        have hc700 : N370 84 42 = M 84 42 := hk374 84 42 rfl
        refine CV_mono (c_X12_tellLaw T (hIN426) (show N426 84 19 = 1 - N426 84 18 by omega) (by assumption) (show ((16 + (N426 103 (N426 84 19))) : Int) < 40 by omega) (show 420 * N426 84 19 ≤ N426 84 48 by omega) (show N426 84 48 - 420 * N426 84 19 ≤ N426 84 11 + 2 by omega) (show N426 84 13 = 0 → N426 84 12 = 0 ∧ N426 84 48 - 420 * N426 84 19 ≤ N426 84 11 ∧ 4 * (N426 84 42 - 130 * N426 84 19) + 2 ≤ N426 84 11 by omega) (show 130 * N426 84 19 ≤ N426 84 42 by omega) (show N426 84 42 ≤ 130 * N426 84 19 + 100 by omega)) (fun N667 hp668 => ?_)
        obtain ⟨hIN667, hk701, hj702, hj703, hp668⟩ := hp668
        have hr704 : (0 : Int) ≤ N667 84 11 ∧ N667 84 11 ≤ (400 : Int) := hIN667.1 84 11
        have hr705 : (0 : Int) ≤ N667 84 12 ∧ N667 84 12 ≤ (7 : Int) := hIN667.1 84 12
        have hr706 : (0 : Int) ≤ N667 84 13 ∧ N667 84 13 ≤ (5 : Int) := hIN667.1 84 13
        have hr707 : (0 : Int) ≤ N667 84 15 ∧ N667 84 15 ≤ (5 : Int) := hIN667.1 84 15
        have hc708 : N667 84 15 = N426 84 15 := hk701 84 15 rfl
        have hc709 : N426 84 15 = N417 84 15 := hk428 84 15 (Or.inl (by decide))
        have hr710 : (0 : Int) ≤ N667 84 18 ∧ N667 84 18 ≤ (1 : Int) := hIN667.1 84 18
        have hc711 : N667 84 18 = N426 84 18 := hk701 84 18 rfl
        have hc712 : N426 84 18 = N417 84 18 := hk428 84 18 (Or.inl (by decide))
        have hc713 : N417 84 18 = N406 84 18 := hk425 84 18 rfl
        have hc714 : N406 84 18 = N399 84 18 := hk408 84 18 (Or.inl (by decide))
        have hc715 : N399 84 18 = N370 84 18 := hk405 84 18 rfl
        have hc716 : N370 84 18 = M 84 18 := hk374 84 18 rfl
        have hr717 : (0 : Int) ≤ N667 84 19 ∧ N667 84 19 ≤ (1 : Int) := hIN667.1 84 19
        have hc718 : N667 84 19 = N426 84 19 := hk701 84 19 rfl
        have hc719 : N426 84 19 = N417 84 19 := hk428 84 19 (Or.inl (by decide))
        have hc720 : N417 84 19 = N406 84 19 := hk425 84 19 rfl
        have hc721 : N406 84 19 = N399 84 19 := hk408 84 19 (Or.inl (by decide))
        have hc722 : N399 84 19 = N370 84 19 := hk405 84 19 rfl
        have hc723 : N370 84 19 = M 84 19 := hk374 84 19 rfl
        have hr724 : (0 : Int) ≤ N667 84 20 ∧ N667 84 20 ≤ (11 : Int) := hIN667.1 84 20
        have hc725 : N667 84 20 = N426 84 20 := hk701 84 20 rfl
        have hc726 : N426 84 20 = N417 84 20 := hk428 84 20 (Or.inl (by decide))
        have hc727 : N417 84 20 = N406 84 20 := hk425 84 20 rfl
        have hc728 : N406 84 20 = N399 84 20 := hk408 84 20 (Or.inl (by decide))
        have hc729 : N399 84 20 = N370 84 20 := hk405 84 20 rfl
        have hc730 : N370 84 20 = M 84 20 := hk374 84 20 rfl
        have sc4 : N667 103 (N667 84 19) = M 103 (M 84 19) := by rw [show N667 84 19 = M 84 19 by omega]; exact (hk701 103 _ rfl).trans ((stM_k he427 103 _ (Or.inl (by decide))).trans ((hk425 103 _ rfl).trans ((stM_k he407 103 _ (Or.inl (by decide))).trans ((hk405 103 _ rfl).trans (hk374 103 _ rfl)))))
        have hr731 : (0 : Int) ≤ N667 84 13 ∧ N667 84 13 ≤ (5 : Int) := hIN667.1 84 13
        refine ⟨fun hb732 => ?_, fun hb732 => ?_⟩
        · have hr733 : (0 : Int) ≤ N667 84 11 ∧ N667 84 11 ≤ (400 : Int) := hIN667.1 84 11
          have hr734 : (0 : Int) ≤ N667 84 13 ∧ N667 84 13 ≤ (5 : Int) := hIN667.1 84 13
          have hr735 : (0 : Int) ≤ N667 84 12 ∧ N667 84 12 ≤ (7 : Int) := hIN667.1 84 12
          have hr736 : (0 : Int) ≤ N667 84 20 ∧ N667 84 20 ≤ (11 : Int) := hIN667.1 84 20
          have hc737 : N667 84 20 = N426 84 20 := hk701 84 20 rfl
          have hc738 : N426 84 20 = N417 84 20 := hk428 84 20 (Or.inl (by decide))
          have hc739 : N417 84 20 = N406 84 20 := hk425 84 20 rfl
          have hc740 : N406 84 20 = N399 84 20 := hk408 84 20 (Or.inl (by decide))
          have hc741 : N399 84 20 = N370 84 20 := hk405 84 20 rfl
          have hc742 : N370 84 20 = M 84 20 := hk374 84 20 rfl
          have hsm : qSm [(84, some 11), (84, some 12), (84, some 13), (84, some 14), (84, some 15), (84, some 16), (84, some 20), (84, some 42), (84, some 48), (84, some 52), (92, none), (93, none), (94, none), (95, none), (96, none), (97, none), (98, none), (99, none), (100, none), (101, none), (102, none), (103, none), (104, none), (105, none), (106, none), (107, none), (108, none), (109, none), (110, none), (111, none), (112, none), (113, none), (114, none), (115, none), (116, none), (117, none), (118, none), (119, none), (120, none)] M N667 := by
            intro b j hbj
            rw [hk701 b j (qSm_sub hbj rfl), hk428 b j (qSm_ne hbj rfl), hk425 b j (qSm_sub hbj rfl), hk408 b j (qSm_ne hbj rfl), hk405 b j (qSm_sub hbj rfl), hk374 b j (qSm_sub hbj rfl)]
          exact ⟨rfl, rfl, hIN667, hsm, by omega, by omega, by omega, by first | exact hNM | exact fun h1 => absurd h1 (by omega), by first | exact hGH | exact fun h1 => absurd h1 (by omega), by first | exact hNA | exact fun h1 => absurd h1 (by omega), by first | exact hGG | exact fun h1 _ => absurd h1 (by omega)⟩
        · have hr743 : (0 : Int) ≤ N667 84 19 ∧ N667 84 19 ≤ (1 : Int) := hIN667.1 84 19
          have hc744 : N667 84 19 = N426 84 19 := hk701 84 19 rfl
          have hc745 : N426 84 19 = N417 84 19 := hk428 84 19 (Or.inl (by decide))
          have hc746 : N417 84 19 = N406 84 19 := hk425 84 19 rfl
          have hc747 : N406 84 19 = N399 84 19 := hk408 84 19 (Or.inl (by decide))
          have hc748 : N399 84 19 = N370 84 19 := hk405 84 19 rfl
          have hc749 : N370 84 19 = M 84 19 := hk374 84 19 rfl
          refine ⟨by omega, ?_⟩
          have hr750 : (0 : Int) ≤ N667 103 (N667 84 19) ∧ N667 103 (N667 84 19) ≤ (12 : Int) := hIN667.1 103 (N667 84 19)
          have hc751 : N667 103 (N667 84 19) = N426 103 (N667 84 19) := hk701 103 (N667 84 19) rfl
          have hc752 : N426 103 (N667 84 19) = N417 103 (N667 84 19) := hk428 103 (N667 84 19) (Or.inl (by decide))
          have hc753 : N417 103 (N667 84 19) = N406 103 (N667 84 19) := hk425 103 (N667 84 19) rfl
          have hc754 : N406 103 (N667 84 19) = N399 103 (N667 84 19) := hk408 103 (N667 84 19) (Or.inl (by decide))
          have hc755 : N399 103 (N667 84 19) = N370 103 (N667 84 19) := hk405 103 (N667 84 19) rfl
          have hc756 : N370 103 (N667 84 19) = M 103 (N667 84 19) := hk374 103 (N667 84 19) rfl
          refine ⟨by omega, ?_⟩
          refine ⟨by omega, ?_⟩
          obtain ⟨N757, he758⟩ : ∃ X : qM, X = stM N667 103 (N667 84 19) ((N667 103 (N667 84 19)) + 1) := ⟨_, rfl⟩
          rw [← he758]
          have hk759 := stM_k he758
          have hg760 := stM_g he758
          have hr761 : (0 : Int) ≤ N667 84 18 ∧ N667 84 18 ≤ (1 : Int) := hIN667.1 84 18
          have hc762 : N667 84 18 = N426 84 18 := hk701 84 18 rfl
          have hc763 : N426 84 18 = N417 84 18 := hk428 84 18 (Or.inl (by decide))
          have hc764 : N417 84 18 = N406 84 18 := hk425 84 18 rfl
          have hc765 : N406 84 18 = N399 84 18 := hk408 84 18 (Or.inl (by decide))
          have hc766 : N399 84 18 = N370 84 18 := hk405 84 18 rfl
          have hc767 : N370 84 18 = M 84 18 := hk374 84 18 rfl
          have hr768 : (0 : Int) ≤ N667 84 19 ∧ N667 84 19 ≤ (1 : Int) := hIN667.1 84 19
          have hc769 : N667 84 19 = N426 84 19 := hk701 84 19 rfl
          have hc770 : N426 84 19 = N417 84 19 := hk428 84 19 (Or.inl (by decide))
          have hc771 : N417 84 19 = N406 84 19 := hk425 84 19 rfl
          have hc772 : N406 84 19 = N399 84 19 := hk408 84 19 (Or.inl (by decide))
          have hc773 : N399 84 19 = N370 84 19 := hk405 84 19 rfl
          have hc774 : N370 84 19 = M 84 19 := hk374 84 19 rfl
          have hIN757 : INV S N757 := INV_side (w := 1) hIN667 he758 (show (0 : Int) ≤ _ ∧ _ ≤ (12 : Int) from ⟨by omega, by omega⟩) (by decide) (by omega)
          have hr775 : (0 : Int) ≤ N757 84 11 ∧ N757 84 11 ≤ (400 : Int) := hIN757.1 84 11
          have hc776 : N757 84 11 = N667 84 11 := hk759 84 11 (Or.inl (by decide))
          have hr777 : (0 : Int) ≤ N757 84 12 ∧ N757 84 12 ≤ (7 : Int) := hIN757.1 84 12
          have hc778 : N757 84 12 = N667 84 12 := hk759 84 12 (Or.inl (by decide))
          have hr779 : (0 : Int) ≤ N757 84 13 ∧ N757 84 13 ≤ (5 : Int) := hIN757.1 84 13
          have hc780 : N757 84 13 = N667 84 13 := hk759 84 13 (Or.inl (by decide))
          have hr781 : (0 : Int) ≤ N757 84 15 ∧ N757 84 15 ≤ (5 : Int) := hIN757.1 84 15
          have hc782 : N757 84 15 = N667 84 15 := hk759 84 15 (Or.inl (by decide))
          have hc783 : N667 84 15 = N426 84 15 := hk701 84 15 rfl
          have hc784 : N426 84 15 = N417 84 15 := hk428 84 15 (Or.inl (by decide))
          have hr785 : (0 : Int) ≤ N757 84 18 ∧ N757 84 18 ≤ (1 : Int) := hIN757.1 84 18
          have hc786 : N757 84 18 = N667 84 18 := hk759 84 18 (Or.inl (by decide))
          have hc787 : N667 84 18 = N426 84 18 := hk701 84 18 rfl
          have hc788 : N426 84 18 = N417 84 18 := hk428 84 18 (Or.inl (by decide))
          have hc789 : N417 84 18 = N406 84 18 := hk425 84 18 rfl
          have hc790 : N406 84 18 = N399 84 18 := hk408 84 18 (Or.inl (by decide))
          have hc791 : N399 84 18 = N370 84 18 := hk405 84 18 rfl
          have hc792 : N370 84 18 = M 84 18 := hk374 84 18 rfl
          have hr793 : (0 : Int) ≤ N757 84 19 ∧ N757 84 19 ≤ (1 : Int) := hIN757.1 84 19
          have hc794 : N757 84 19 = N667 84 19 := hk759 84 19 (Or.inl (by decide))
          have hc795 : N667 84 19 = N426 84 19 := hk701 84 19 rfl
          have hc796 : N426 84 19 = N417 84 19 := hk428 84 19 (Or.inl (by decide))
          have hc797 : N417 84 19 = N406 84 19 := hk425 84 19 rfl
          have hc798 : N406 84 19 = N399 84 19 := hk408 84 19 (Or.inl (by decide))
          have hc799 : N399 84 19 = N370 84 19 := hk405 84 19 rfl
          have hc800 : N370 84 19 = M 84 19 := hk374 84 19 rfl
          have hr801 : (0 : Int) ≤ N757 84 20 ∧ N757 84 20 ≤ (11 : Int) := hIN757.1 84 20
          have hc802 : N757 84 20 = N667 84 20 := hk759 84 20 (Or.inl (by decide))
          have hc803 : N667 84 20 = N426 84 20 := hk701 84 20 rfl
          have hc804 : N426 84 20 = N417 84 20 := hk428 84 20 (Or.inl (by decide))
          have hc805 : N417 84 20 = N406 84 20 := hk425 84 20 rfl
          have hc806 : N406 84 20 = N399 84 20 := hk408 84 20 (Or.inl (by decide))
          have hc807 : N399 84 20 = N370 84 20 := hk405 84 20 rfl
          have hc808 : N370 84 20 = M 84 20 := hk374 84 20 rfl
          have hc809 : N757 84 42 = N667 84 42 := hk759 84 42 (Or.inl (by decide))
          have hc810 : N757 84 48 = N667 84 48 := hk759 84 48 (Or.inl (by decide))
          have hGH : GH N757 := GH_fr hp668.2.2.2.2.2.2 (stM_s he758) rfl (fun _ => by omega)
          have hNA : N757 84 13 = 0 → NA N757 := fun _ => NA_fr (NA_fr (NA_fr (NA_fr hna hk425 rfl) (stM_s he427) rfl) hk701 rfl) (stM_s he758) rfl
          have hNM : N757 84 13 = 0 → N757 84 20 = N757 95 (M 84 19) + N757 100 (M 84 19) := fun h => by rw [stM_k he758 84 20 (Or.inl (by decide)), hk701 84 20 rfl, stM_k he427 84 20 (Or.inl (by decide)), hk425 84 20 rfl, stM_k he407 84 20 (Or.inl (by decide)), hk405 84 20 rfl, hk374 84 20 rfl, stM_k he758 95 _ (Or.inl (by decide)), hk701 95 _ rfl, stM_k he427 95 _ (Or.inl (by decide)), hk425 95 _ rfl, stM_k he407 95 _ (Or.inl (by decide)), hk405 95 _ rfl, hk374 95 _ rfl, stM_k he758 100 _ (Or.inl (by decide)), hk701 100 _ rfl, stM_k he427 100 _ (Or.inl (by decide)), hk425 100 _ rfl, stM_k he407 100 _ (Or.inl (by decide)), hk405 100 _ rfl, hk374 100 _ rfl]; exact p8
          have h103 : N757 103 (M 84 19) = M 103 (M 84 19) + 1 := by have e := stM_g he758; rw [show N667 84 19 = M 84 19 by omega] at e; have e2 := sc4; rw [show N667 84 19 = M 84 19 by omega] at e2; omega
          have hsm0 : qSm [(84, some 11), (84, some 12), (84, some 13), (84, some 14), (84, some 15), (84, some 16), (84, some 42), (84, some 48), (84, some 52), (103, none), (104, none), (105, none), (111, none), (112, none), (113, none), (114, none), (115, none), (116, none), (117, none), (118, none), (119, none), (120, none)] M N757 := (by intro b j hbj; rw [hk759 b j (qSm_ne hbj rfl), hk701 b j (qSm_sub hbj rfl), hk428 b j (qSm_ne hbj rfl), hk425 b j (qSm_sub hbj rfl), hk408 b j (qSm_ne hbj rfl), hk405 b j (qSm_sub hbj rfl), hk374 b j (qSm_sub hbj rfl)])
          have hGG : GG N757 := GG_buy p11 (by omega) (fun _ _ => by omega) (by omega) h103 (fun j hj => by rw [stM_k he758 104 _ (Or.inl (by decide)), hk701 104 _ rfl, stM_k he427 104 _ (Or.inl (by decide)), hk425 104 _ rfl, stM_k he407 104 _ (Or.inr (by omega)), hk405 104 _ rfl, hk374 104 _ rfl]) (fun j hj => by rw [stM_k he758 105 _ (Or.inl (by decide)), hk701 105 _ rfl, stM_k he427 105 _ (Or.inr (by omega)), hk425 105 _ rfl, stM_k he407 105 _ (Or.inl (by decide)), hk405 105 _ rfl, hk374 105 _ rfl]) (fun b hb => by
            simp only [List.contains_cons, List.contains_nil, Bool.or_false, Bool.or_eq_true, beq_iff_eq] at hb
            funext j
            exact hsm0 b j (by rcases hb with rfl | rfl | rfl | rfl | rfl | rfl | rfl | rfl | rfl | rfl <;> rfl)) (fun h1 h2 => by
            rw [stM_k he758 104 _ (Or.inl (by decide)), hk701 104 _ rfl, stM_k he427 104 _ (Or.inl (by decide)), hk425 104 _ rfl, show 12 * M 84 19 + M 103 (M 84 19) = ((12 * (N370 84 19)) + 0) by omega, stM_g he407, stM_k he758 105 _ (Or.inl (by decide)), hk701 105 _ rfl, stM_g he427]
            omega)
          have hr811 : (0 : Int) ≤ N757 84 11 ∧ N757 84 11 ≤ (400 : Int) := hIN757.1 84 11
          have hc812 : N757 84 11 = N667 84 11 := hk759 84 11 (Or.inl (by decide))
          have hr813 : (0 : Int) ≤ N757 84 13 ∧ N757 84 13 ≤ (5 : Int) := hIN757.1 84 13
          have hc814 : N757 84 13 = N667 84 13 := hk759 84 13 (Or.inl (by decide))
          have hr815 : (0 : Int) ≤ N757 84 12 ∧ N757 84 12 ≤ (7 : Int) := hIN757.1 84 12
          have hc816 : N757 84 12 = N667 84 12 := hk759 84 12 (Or.inl (by decide))
          have hc817 : N757 84 48 = N667 84 48 := hk759 84 48 (Or.inl (by decide))
          have hc818 : N757 84 42 = N667 84 42 := hk759 84 42 (Or.inl (by decide))
          have hr819 : (0 : Int) ≤ N757 84 20 ∧ N757 84 20 ≤ (11 : Int) := hIN757.1 84 20
          have hc820 : N757 84 20 = N667 84 20 := hk759 84 20 (Or.inl (by decide))
          have hc821 : N667 84 20 = N426 84 20 := hk701 84 20 rfl
          have hc822 : N426 84 20 = N417 84 20 := hk428 84 20 (Or.inl (by decide))
          have hc823 : N417 84 20 = N406 84 20 := hk425 84 20 rfl
          have hc824 : N406 84 20 = N399 84 20 := hk408 84 20 (Or.inl (by decide))
          have hc825 : N399 84 20 = N370 84 20 := hk405 84 20 rfl
          have hc826 : N370 84 20 = M 84 20 := hk374 84 20 rfl
          have hsm : qSm [(84, some 11), (84, some 12), (84, some 13), (84, some 14), (84, some 15), (84, some 16), (84, some 20), (84, some 42), (84, some 48), (84, some 52), (92, none), (93, none), (94, none), (95, none), (96, none), (97, none), (98, none), (99, none), (100, none), (101, none), (102, none), (103, none), (104, none), (105, none), (106, none), (107, none), (108, none), (109, none), (110, none), (111, none), (112, none), (113, none), (114, none), (115, none), (116, none), (117, none), (118, none), (119, none), (120, none)] M N757 := by
            intro b j hbj
            rw [hk759 b j (qSm_ne hbj rfl), hk701 b j (qSm_sub hbj rfl), hk428 b j (qSm_ne hbj rfl), hk425 b j (qSm_sub hbj rfl), hk408 b j (qSm_ne hbj rfl), hk405 b j (qSm_sub hbj rfl), hk374 b j (qSm_sub hbj rfl)]
          exact ⟨rfl, rfl, hIN757, hsm, by omega, by omega, by omega, by first | exact hNM | exact fun h1 => absurd h1 (by omega), by first | exact hGH | exact fun h1 => absurd h1 (by omega), by first | exact hNA | exact fun h1 => absurd h1 (by omega), by first | exact hGG | exact fun h1 _ => absurd h1 (by omega)⟩
    · have hr827 : (0 : Int) ≤ N370 84 19 ∧ N370 84 19 ≤ (1 : Int) := hIN370.1 84 19
      have hc828 : N370 84 19 = M 84 19 := hk374 84 19 rfl
      refine ⟨by omega, ?_⟩
      have hr829 : (0 : Int) ≤ N370 103 (N370 84 19) ∧ N370 103 (N370 84 19) ≤ (12 : Int) := hIN370.1 103 (N370 84 19)
      have hc830 : N370 103 (N370 84 19) = M 103 (N370 84 19) := hk374 103 (N370 84 19) rfl
      refine ⟨by omega, ?_⟩
      refine ⟨trivial, ?_⟩
      have hr834 : (0 : Int) ≤ N370 84 11 ∧ N370 84 11 ≤ (400 : Int) := hIN370.1 84 11
      have hr835 : (0 : Int) ≤ N370 84 13 ∧ N370 84 13 ≤ (5 : Int) := hIN370.1 84 13
      have hr836 : (0 : Int) ≤ N370 84 15 ∧ N370 84 15 ≤ (5 : Int) := hIN370.1 84 15
      have hc837 : N370 84 15 = M 84 15 := hk374 84 15 rfl
      refine CI_mono (c_X12_known T (hIN370) (by assumption)) (fun z831 N832 hp833 => ?_)
      obtain ⟨hIN832, hk838, hp833⟩ := hp833
      refine ⟨by omega, ?_⟩
      obtain ⟨N839, he840⟩ : ∃ X : qM, X = stM N832 104 ((12 * (N370 84 19)) + (N370 103 (N370 84 19))) z831 := ⟨_, rfl⟩
      rw [← he840]
      have hk841 := stM_k he840
      have hg842 := stM_g he840
      have hr843 : (0 : Int) ≤ N832 84 18 ∧ N832 84 18 ≤ (1 : Int) := hIN832.1 84 18
      have hc844 : N832 84 18 = N370 84 18 := hk838 84 18 rfl
      have hc845 : N370 84 18 = M 84 18 := hk374 84 18 rfl
      have hr846 : (0 : Int) ≤ N832 84 19 ∧ N832 84 19 ≤ (1 : Int) := hIN832.1 84 19
      have hc847 : N832 84 19 = N370 84 19 := hk838 84 19 rfl
      have hc848 : N370 84 19 = M 84 19 := hk374 84 19 rfl
      have hIN839 : INV S N839 := INV_side (w := 12) hIN832 he840 (qFree _ _ _ rfl) (by decide) (by omega)
      have hna : NA N839 := NA_fr (NA_fr hna hk838 rfl) (stM_s he840) rfl
      refine ⟨trivial, ?_⟩
      have hr852 : (0 : Int) ≤ N839 84 11 ∧ N839 84 11 ≤ (400 : Int) := hIN839.1 84 11
      have hc853 : N839 84 11 = N832 84 11 := hk841 84 11 (Or.inl (by decide))
      have hr854 : (0 : Int) ≤ N839 84 13 ∧ N839 84 13 ≤ (5 : Int) := hIN839.1 84 13
      have hc855 : N839 84 13 = N832 84 13 := hk841 84 13 (Or.inl (by decide))
      have hr856 : (0 : Int) ≤ N839 84 15 ∧ N839 84 15 ≤ (5 : Int) := hIN839.1 84 15
      have hc857 : N839 84 15 = N832 84 15 := hk841 84 15 (Or.inl (by decide))
      refine CI_mono (c_X12_known T (hIN839) (by assumption)) (fun z849 N850 hp851 => ?_)
      obtain ⟨hIN850, hk858, hp851⟩ := hp851
      refine ⟨by omega, ?_⟩
      obtain ⟨N859, he860⟩ : ∃ X : qM, X = stM N850 105 ((12 * (N370 84 19)) + (N370 103 (N370 84 19))) z849 := ⟨_, rfl⟩
      rw [← he860]
      have hk861 := stM_k he860
      have hg862 := stM_g he860
      have hr863 : (0 : Int) ≤ N850 84 18 ∧ N850 84 18 ≤ (1 : Int) := hIN850.1 84 18
      have hc864 : N850 84 18 = N839 84 18 := hk858 84 18 rfl
      have hc865 : N839 84 18 = N832 84 18 := hk841 84 18 (Or.inl (by decide))
      have hc866 : N832 84 18 = N370 84 18 := hk838 84 18 rfl
      have hc867 : N370 84 18 = M 84 18 := hk374 84 18 rfl
      have hr868 : (0 : Int) ≤ N850 84 19 ∧ N850 84 19 ≤ (1 : Int) := hIN850.1 84 19
      have hc869 : N850 84 19 = N839 84 19 := hk858 84 19 rfl
      have hc870 : N839 84 19 = N832 84 19 := hk841 84 19 (Or.inl (by decide))
      have hc871 : N832 84 19 = N370 84 19 := hk838 84 19 rfl
      have hc872 : N370 84 19 = M 84 19 := hk374 84 19 rfl
      have hIN859 : INV S N859 := INV_side (w := 12) hIN850 he860 (qFree _ _ _ rfl) (by decide) (by omega)
      have hr873 : (0 : Int) ≤ N859 84 11 ∧ N859 84 11 ≤ (400 : Int) := hIN859.1 84 11
      have hc874 : N859 84 11 = N850 84 11 := hk861 84 11 (Or.inl (by decide))
      have hr875 : (0 : Int) ≤ N859 84 12 ∧ N859 84 12 ≤ (7 : Int) := hIN859.1 84 12
      have hc876 : N859 84 12 = N850 84 12 := hk861 84 12 (Or.inl (by decide))
      have hc877 : N850 84 12 = N839 84 12 := hk858 84 12 rfl
      have hc878 : N839 84 12 = N832 84 12 := hk841 84 12 (Or.inl (by decide))
      have hc879 : N832 84 12 = N370 84 12 := hk838 84 12 rfl
      have hc880 : N370 84 12 = M 84 12 := hk374 84 12 rfl
      have hr881 : (0 : Int) ≤ N859 84 13 ∧ N859 84 13 ≤ (5 : Int) := hIN859.1 84 13
      have hc882 : N859 84 13 = N850 84 13 := hk861 84 13 (Or.inl (by decide))
      have hr883 : (0 : Int) ≤ N859 84 15 ∧ N859 84 15 ≤ (5 : Int) := hIN859.1 84 15
      have hc884 : N859 84 15 = N850 84 15 := hk861 84 15 (Or.inl (by decide))
      have hr885 : (0 : Int) ≤ N859 84 18 ∧ N859 84 18 ≤ (1 : Int) := hIN859.1 84 18
      have hc886 : N859 84 18 = N850 84 18 := hk861 84 18 (Or.inl (by decide))
      have hc887 : N850 84 18 = N839 84 18 := hk858 84 18 rfl
      have hc888 : N839 84 18 = N832 84 18 := hk841 84 18 (Or.inl (by decide))
      have hc889 : N832 84 18 = N370 84 18 := hk838 84 18 rfl
      have hc890 : N370 84 18 = M 84 18 := hk374 84 18 rfl
      have hr891 : (0 : Int) ≤ N859 84 19 ∧ N859 84 19 ≤ (1 : Int) := hIN859.1 84 19
      have hc892 : N859 84 19 = N850 84 19 := hk861 84 19 (Or.inl (by decide))
      have hc893 : N850 84 19 = N839 84 19 := hk858 84 19 rfl
      have hc894 : N839 84 19 = N832 84 19 := hk841 84 19 (Or.inl (by decide))
      have hc895 : N832 84 19 = N370 84 19 := hk838 84 19 rfl
      have hc896 : N370 84 19 = M 84 19 := hk374 84 19 rfl
      have hr897 : (0 : Int) ≤ N859 84 20 ∧ N859 84 20 ≤ (11 : Int) := hIN859.1 84 20
      have hc898 : N859 84 20 = N850 84 20 := hk861 84 20 (Or.inl (by decide))
      have hc899 : N850 84 20 = N839 84 20 := hk858 84 20 rfl
      have hc900 : N839 84 20 = N832 84 20 := hk841 84 20 (Or.inl (by decide))
      have hc901 : N832 84 20 = N370 84 20 := hk838 84 20 rfl
      have hc902 : N370 84 20 = M 84 20 := hk374 84 20 rfl
      have hc903 : N859 84 42 = N850 84 42 := hk861 84 42 (Or.inl (by decide))
      have hc904 : N850 84 42 = N839 84 42 := hk858 84 42 rfl
      have hc905 : N839 84 42 = N832 84 42 := hk841 84 42 (Or.inl (by decide))
      have hc906 : N832 84 42 = N370 84 42 := hk838 84 42 rfl
      have hc907 : N370 84 42 = M 84 42 := hk374 84 42 rfl
      have hc908 : N859 84 48 = N850 84 48 := hk861 84 48 (Or.inl (by decide))
      have hc909 : N850 84 48 = N839 84 48 := hk858 84 48 rfl
      have hc910 : N839 84 48 = N832 84 48 := hk841 84 48 (Or.inl (by decide))
      have hc911 : N832 84 48 = N370 84 48 := hk838 84 48 rfl
      have hc912 : N370 84 48 = M 84 48 := hk374 84 48 rfl
      have sc3 : N859 103 (N859 84 19) = M 103 (M 84 19) := by rw [show N859 84 19 = M 84 19 by omega]; exact (stM_k he860 103 _ (Or.inl (by decide))).trans ((hk858 103 _ rfl).trans ((stM_k he840 103 _ (Or.inl (by decide))).trans ((hk838 103 _ rfl).trans (hk374 103 _ rfl))))
      have hgh : GH N859 := GH_fr (GH_fr (GH_fr (GH_fr (GH_fr p9 hk374 rfl (fun _ => by omega)) hk838 rfl (fun _ => by omega)) (stM_s he840) rfl (fun _ => by omega)) hk858 rfl (fun _ => by omega)) (stM_s he860) rfl (fun _ => by omega)
      have hr913 : (0 : Int) ≤ N859 84 19 ∧ N859 84 19 ≤ (1 : Int) := hIN859.1 84 19
      have hc914 : N859 84 19 = N850 84 19 := hk861 84 19 (Or.inl (by decide))
      have hc915 : N850 84 19 = N839 84 19 := hk858 84 19 rfl
      have hc916 : N839 84 19 = N832 84 19 := hk841 84 19 (Or.inl (by decide))
      have hc917 : N832 84 19 = N370 84 19 := hk838 84 19 rfl
      have hc918 : N370 84 19 = M 84 19 := hk374 84 19 rfl
      refine ⟨by omega, ?_⟩
      have hr919 : (0 : Int) ≤ N859 103 (N859 84 19) ∧ N859 103 (N859 84 19) ≤ (12 : Int) := hIN859.1 103 (N859 84 19)
      have hc920 : N859 103 (N859 84 19) = N850 103 (N859 84 19) := hk861 103 (N859 84 19) (Or.inl (by decide))
      have hc921 : N850 103 (N859 84 19) = N839 103 (N859 84 19) := hk858 103 (N859 84 19) rfl
      have hc922 : N839 103 (N859 84 19) = N832 103 (N859 84 19) := hk841 103 (N859 84 19) (Or.inl (by decide))
      have hc923 : N832 103 (N859 84 19) = N370 103 (N859 84 19) := hk838 103 (N859 84 19) rfl
      have hc924 : N370 103 (N859 84 19) = M 103 (N859 84 19) := hk374 103 (N859 84 19) rfl
      refine ⟨fun hb925 => ?_, fun hb925 => ?_⟩
      · refine ⟨by omega, ?_⟩
        refine ⟨trivial, ?_⟩
        have hr929 : (0 : Int) ≤ N859 84 19 ∧ N859 84 19 ≤ (1 : Int) := hIN859.1 84 19
        have hc930 : N859 84 19 = N850 84 19 := hk861 84 19 (Or.inl (by decide))
        have hc931 : N850 84 19 = N839 84 19 := hk858 84 19 rfl
        have hc932 : N839 84 19 = N832 84 19 := hk841 84 19 (Or.inl (by decide))
        have hc933 : N832 84 19 = N370 84 19 := hk838 84 19 rfl
        have hc934 : N370 84 19 = M 84 19 := hk374 84 19 rfl
        have hr935 : (0 : Int) ≤ N859 84 18 ∧ N859 84 18 ≤ (1 : Int) := hIN859.1 84 18
        have hc936 : N859 84 18 = N850 84 18 := hk861 84 18 (Or.inl (by decide))
        have hc937 : N850 84 18 = N839 84 18 := hk858 84 18 rfl
        have hc938 : N839 84 18 = N832 84 18 := hk841 84 18 (Or.inl (by decide))
        have hc939 : N832 84 18 = N370 84 18 := hk838 84 18 rfl
        have hc940 : N370 84 18 = M 84 18 := hk374 84 18 rfl
        have hc941 : N859 84 48 = N850 84 48 := hk861 84 48 (Or.inl (by decide))
        have hc942 : N850 84 48 = N839 84 48 := hk858 84 48 rfl
        have hc943 : N839 84 48 = N832 84 48 := hk841 84 48 (Or.inl (by decide))
        have hc944 : N832 84 48 = N370 84 48 := hk838 84 48 rfl
        have hc945 : N370 84 48 = M 84 48 := hk374 84 48 rfl
        have hr946 : (0 : Int) ≤ N859 84 11 ∧ N859 84 11 ≤ (400 : Int) := hIN859.1 84 11
        have hc947 : N859 84 11 = N850 84 11 := hk861 84 11 (Or.inl (by decide))
        have hr948 : (0 : Int) ≤ N859 84 13 ∧ N859 84 13 ≤ (5 : Int) := hIN859.1 84 13
        have hc949 : N859 84 13 = N850 84 13 := hk861 84 13 (Or.inl (by decide))
        have hr950 : (0 : Int) ≤ N859 84 12 ∧ N859 84 12 ≤ (7 : Int) := hIN859.1 84 12
        have hc951 : N859 84 12 = N850 84 12 := hk861 84 12 (Or.inl (by decide))
        have hc952 : N850 84 12 = N839 84 12 := hk858 84 12 rfl
        have hc953 : N839 84 12 = N832 84 12 := hk841 84 12 (Or.inl (by decide))
        have hc954 : N832 84 12 = N370 84 12 := hk838 84 12 rfl
        have hc955 : N370 84 12 = M 84 12 := hk374 84 12 rfl
        have hc956 : N859 84 42 = N850 84 42 := hk861 84 42 (Or.inl (by decide))
        have hc957 : N850 84 42 = N839 84 42 := hk858 84 42 rfl
        have hc958 : N839 84 42 = N832 84 42 := hk841 84 42 (Or.inl (by decide))
        have hc959 : N832 84 42 = N370 84 42 := hk838 84 42 rfl
        have hc960 : N370 84 42 = M 84 42 := hk374 84 42 rfl
        refine CV_mono (c_X12_tellLaw T (hIN859) (show N859 84 19 = 1 - N859 84 18 by omega) (by assumption) (show ((16 + 0) : Int) < 40 by omega) (show 420 * N859 84 19 ≤ N859 84 48 by omega) (show N859 84 48 - 420 * N859 84 19 ≤ N859 84 11 + 2 by omega) (show N859 84 13 = 0 → N859 84 12 = 0 ∧ N859 84 48 - 420 * N859 84 19 ≤ N859 84 11 ∧ 4 * (N859 84 42 - 130 * N859 84 19) + 2 ≤ N859 84 11 by omega) (show 130 * N859 84 19 ≤ N859 84 42 by omega) (show N859 84 42 ≤ 130 * N859 84 19 + 100 by omega)) (fun N927 hp928 => ?_)
        obtain ⟨hIN927, hk961, hj962, hj963, hp928⟩ := hp928
        have hr964 : (0 : Int) ≤ N927 84 11 ∧ N927 84 11 ≤ (400 : Int) := hIN927.1 84 11
        have hr965 : (0 : Int) ≤ N927 84 12 ∧ N927 84 12 ≤ (7 : Int) := hIN927.1 84 12
        have hr966 : (0 : Int) ≤ N927 84 13 ∧ N927 84 13 ≤ (5 : Int) := hIN927.1 84 13
        have hr967 : (0 : Int) ≤ N927 84 15 ∧ N927 84 15 ≤ (5 : Int) := hIN927.1 84 15
        have hc968 : N927 84 15 = N859 84 15 := hk961 84 15 rfl
        have hc969 : N859 84 15 = N850 84 15 := hk861 84 15 (Or.inl (by decide))
        have hr970 : (0 : Int) ≤ N927 84 18 ∧ N927 84 18 ≤ (1 : Int) := hIN927.1 84 18
        have hc971 : N927 84 18 = N859 84 18 := hk961 84 18 rfl
        have hc972 : N859 84 18 = N850 84 18 := hk861 84 18 (Or.inl (by decide))
        have hc973 : N850 84 18 = N839 84 18 := hk858 84 18 rfl
        have hc974 : N839 84 18 = N832 84 18 := hk841 84 18 (Or.inl (by decide))
        have hc975 : N832 84 18 = N370 84 18 := hk838 84 18 rfl
        have hc976 : N370 84 18 = M 84 18 := hk374 84 18 rfl
        have hr977 : (0 : Int) ≤ N927 84 19 ∧ N927 84 19 ≤ (1 : Int) := hIN927.1 84 19
        have hc978 : N927 84 19 = N859 84 19 := hk961 84 19 rfl
        have hc979 : N859 84 19 = N850 84 19 := hk861 84 19 (Or.inl (by decide))
        have hc980 : N850 84 19 = N839 84 19 := hk858 84 19 rfl
        have hc981 : N839 84 19 = N832 84 19 := hk841 84 19 (Or.inl (by decide))
        have hc982 : N832 84 19 = N370 84 19 := hk838 84 19 rfl
        have hc983 : N370 84 19 = M 84 19 := hk374 84 19 rfl
        have hr984 : (0 : Int) ≤ N927 84 20 ∧ N927 84 20 ≤ (11 : Int) := hIN927.1 84 20
        have hc985 : N927 84 20 = N859 84 20 := hk961 84 20 rfl
        have hc986 : N859 84 20 = N850 84 20 := hk861 84 20 (Or.inl (by decide))
        have hc987 : N850 84 20 = N839 84 20 := hk858 84 20 rfl
        have hc988 : N839 84 20 = N832 84 20 := hk841 84 20 (Or.inl (by decide))
        have hc989 : N832 84 20 = N370 84 20 := hk838 84 20 rfl
        have hc990 : N370 84 20 = M 84 20 := hk374 84 20 rfl
        have sc4 : N927 103 (N927 84 19) = M 103 (M 84 19) := by rw [show N927 84 19 = M 84 19 by omega]; exact (hk961 103 _ rfl).trans ((stM_k he860 103 _ (Or.inl (by decide))).trans ((hk858 103 _ rfl).trans ((stM_k he840 103 _ (Or.inl (by decide))).trans ((hk838 103 _ rfl).trans (hk374 103 _ rfl)))))
        have hr991 : (0 : Int) ≤ N927 84 13 ∧ N927 84 13 ≤ (5 : Int) := hIN927.1 84 13
        refine ⟨fun hb992 => ?_, fun hb992 => ?_⟩
        · have hr993 : (0 : Int) ≤ N927 84 11 ∧ N927 84 11 ≤ (400 : Int) := hIN927.1 84 11
          have hr994 : (0 : Int) ≤ N927 84 13 ∧ N927 84 13 ≤ (5 : Int) := hIN927.1 84 13
          have hr995 : (0 : Int) ≤ N927 84 12 ∧ N927 84 12 ≤ (7 : Int) := hIN927.1 84 12
          have hr996 : (0 : Int) ≤ N927 84 20 ∧ N927 84 20 ≤ (11 : Int) := hIN927.1 84 20
          have hc997 : N927 84 20 = N859 84 20 := hk961 84 20 rfl
          have hc998 : N859 84 20 = N850 84 20 := hk861 84 20 (Or.inl (by decide))
          have hc999 : N850 84 20 = N839 84 20 := hk858 84 20 rfl
          have hc1000 : N839 84 20 = N832 84 20 := hk841 84 20 (Or.inl (by decide))
          have hc1001 : N832 84 20 = N370 84 20 := hk838 84 20 rfl
          have hc1002 : N370 84 20 = M 84 20 := hk374 84 20 rfl
          have hsm : qSm [(84, some 11), (84, some 12), (84, some 13), (84, some 14), (84, some 15), (84, some 16), (84, some 20), (84, some 42), (84, some 48), (84, some 52), (92, none), (93, none), (94, none), (95, none), (96, none), (97, none), (98, none), (99, none), (100, none), (101, none), (102, none), (103, none), (104, none), (105, none), (106, none), (107, none), (108, none), (109, none), (110, none), (111, none), (112, none), (113, none), (114, none), (115, none), (116, none), (117, none), (118, none), (119, none), (120, none)] M N927 := by
            intro b j hbj
            rw [hk961 b j (qSm_sub hbj rfl), hk861 b j (qSm_ne hbj rfl), hk858 b j (qSm_sub hbj rfl), hk841 b j (qSm_ne hbj rfl), hk838 b j (qSm_sub hbj rfl), hk374 b j (qSm_sub hbj rfl)]
          exact ⟨rfl, rfl, hIN927, hsm, by omega, by omega, by omega, by first | exact hNM | exact fun h1 => absurd h1 (by omega), by first | exact hGH | exact fun h1 => absurd h1 (by omega), by first | exact hNA | exact fun h1 => absurd h1 (by omega), by first | exact hGG | exact fun h1 _ => absurd h1 (by omega)⟩
        · have hr1003 : (0 : Int) ≤ N927 84 19 ∧ N927 84 19 ≤ (1 : Int) := hIN927.1 84 19
          have hc1004 : N927 84 19 = N859 84 19 := hk961 84 19 rfl
          have hc1005 : N859 84 19 = N850 84 19 := hk861 84 19 (Or.inl (by decide))
          have hc1006 : N850 84 19 = N839 84 19 := hk858 84 19 rfl
          have hc1007 : N839 84 19 = N832 84 19 := hk841 84 19 (Or.inl (by decide))
          have hc1008 : N832 84 19 = N370 84 19 := hk838 84 19 rfl
          have hc1009 : N370 84 19 = M 84 19 := hk374 84 19 rfl
          refine ⟨by omega, ?_⟩
          have hr1010 : (0 : Int) ≤ N927 103 (N927 84 19) ∧ N927 103 (N927 84 19) ≤ (12 : Int) := hIN927.1 103 (N927 84 19)
          have hc1011 : N927 103 (N927 84 19) = N859 103 (N927 84 19) := hk961 103 (N927 84 19) rfl
          have hc1012 : N859 103 (N927 84 19) = N850 103 (N927 84 19) := hk861 103 (N927 84 19) (Or.inl (by decide))
          have hc1013 : N850 103 (N927 84 19) = N839 103 (N927 84 19) := hk858 103 (N927 84 19) rfl
          have hc1014 : N839 103 (N927 84 19) = N832 103 (N927 84 19) := hk841 103 (N927 84 19) (Or.inl (by decide))
          have hc1015 : N832 103 (N927 84 19) = N370 103 (N927 84 19) := hk838 103 (N927 84 19) rfl
          have hc1016 : N370 103 (N927 84 19) = M 103 (N927 84 19) := hk374 103 (N927 84 19) rfl
          refine ⟨by omega, ?_⟩
          refine ⟨by omega, ?_⟩
          obtain ⟨N1017, he1018⟩ : ∃ X : qM, X = stM N927 103 (N927 84 19) ((N927 103 (N927 84 19)) + 1) := ⟨_, rfl⟩
          rw [← he1018]
          have hk1019 := stM_k he1018
          have hg1020 := stM_g he1018
          have hr1021 : (0 : Int) ≤ N927 84 18 ∧ N927 84 18 ≤ (1 : Int) := hIN927.1 84 18
          have hc1022 : N927 84 18 = N859 84 18 := hk961 84 18 rfl
          have hc1023 : N859 84 18 = N850 84 18 := hk861 84 18 (Or.inl (by decide))
          have hc1024 : N850 84 18 = N839 84 18 := hk858 84 18 rfl
          have hc1025 : N839 84 18 = N832 84 18 := hk841 84 18 (Or.inl (by decide))
          have hc1026 : N832 84 18 = N370 84 18 := hk838 84 18 rfl
          have hc1027 : N370 84 18 = M 84 18 := hk374 84 18 rfl
          have hr1028 : (0 : Int) ≤ N927 84 19 ∧ N927 84 19 ≤ (1 : Int) := hIN927.1 84 19
          have hc1029 : N927 84 19 = N859 84 19 := hk961 84 19 rfl
          have hc1030 : N859 84 19 = N850 84 19 := hk861 84 19 (Or.inl (by decide))
          have hc1031 : N850 84 19 = N839 84 19 := hk858 84 19 rfl
          have hc1032 : N839 84 19 = N832 84 19 := hk841 84 19 (Or.inl (by decide))
          have hc1033 : N832 84 19 = N370 84 19 := hk838 84 19 rfl
          have hc1034 : N370 84 19 = M 84 19 := hk374 84 19 rfl
          have hIN1017 : INV S N1017 := INV_side (w := 1) hIN927 he1018 (show (0 : Int) ≤ _ ∧ _ ≤ (12 : Int) from ⟨by omega, by omega⟩) (by decide) (by omega)
          have hr1035 : (0 : Int) ≤ N1017 84 11 ∧ N1017 84 11 ≤ (400 : Int) := hIN1017.1 84 11
          have hc1036 : N1017 84 11 = N927 84 11 := hk1019 84 11 (Or.inl (by decide))
          have hr1037 : (0 : Int) ≤ N1017 84 12 ∧ N1017 84 12 ≤ (7 : Int) := hIN1017.1 84 12
          have hc1038 : N1017 84 12 = N927 84 12 := hk1019 84 12 (Or.inl (by decide))
          have hr1039 : (0 : Int) ≤ N1017 84 13 ∧ N1017 84 13 ≤ (5 : Int) := hIN1017.1 84 13
          have hc1040 : N1017 84 13 = N927 84 13 := hk1019 84 13 (Or.inl (by decide))
          have hr1041 : (0 : Int) ≤ N1017 84 15 ∧ N1017 84 15 ≤ (5 : Int) := hIN1017.1 84 15
          have hc1042 : N1017 84 15 = N927 84 15 := hk1019 84 15 (Or.inl (by decide))
          have hc1043 : N927 84 15 = N859 84 15 := hk961 84 15 rfl
          have hc1044 : N859 84 15 = N850 84 15 := hk861 84 15 (Or.inl (by decide))
          have hr1045 : (0 : Int) ≤ N1017 84 18 ∧ N1017 84 18 ≤ (1 : Int) := hIN1017.1 84 18
          have hc1046 : N1017 84 18 = N927 84 18 := hk1019 84 18 (Or.inl (by decide))
          have hc1047 : N927 84 18 = N859 84 18 := hk961 84 18 rfl
          have hc1048 : N859 84 18 = N850 84 18 := hk861 84 18 (Or.inl (by decide))
          have hc1049 : N850 84 18 = N839 84 18 := hk858 84 18 rfl
          have hc1050 : N839 84 18 = N832 84 18 := hk841 84 18 (Or.inl (by decide))
          have hc1051 : N832 84 18 = N370 84 18 := hk838 84 18 rfl
          have hc1052 : N370 84 18 = M 84 18 := hk374 84 18 rfl
          have hr1053 : (0 : Int) ≤ N1017 84 19 ∧ N1017 84 19 ≤ (1 : Int) := hIN1017.1 84 19
          have hc1054 : N1017 84 19 = N927 84 19 := hk1019 84 19 (Or.inl (by decide))
          have hc1055 : N927 84 19 = N859 84 19 := hk961 84 19 rfl
          have hc1056 : N859 84 19 = N850 84 19 := hk861 84 19 (Or.inl (by decide))
          have hc1057 : N850 84 19 = N839 84 19 := hk858 84 19 rfl
          have hc1058 : N839 84 19 = N832 84 19 := hk841 84 19 (Or.inl (by decide))
          have hc1059 : N832 84 19 = N370 84 19 := hk838 84 19 rfl
          have hc1060 : N370 84 19 = M 84 19 := hk374 84 19 rfl
          have hr1061 : (0 : Int) ≤ N1017 84 20 ∧ N1017 84 20 ≤ (11 : Int) := hIN1017.1 84 20
          have hc1062 : N1017 84 20 = N927 84 20 := hk1019 84 20 (Or.inl (by decide))
          have hc1063 : N927 84 20 = N859 84 20 := hk961 84 20 rfl
          have hc1064 : N859 84 20 = N850 84 20 := hk861 84 20 (Or.inl (by decide))
          have hc1065 : N850 84 20 = N839 84 20 := hk858 84 20 rfl
          have hc1066 : N839 84 20 = N832 84 20 := hk841 84 20 (Or.inl (by decide))
          have hc1067 : N832 84 20 = N370 84 20 := hk838 84 20 rfl
          have hc1068 : N370 84 20 = M 84 20 := hk374 84 20 rfl
          have hc1069 : N1017 84 42 = N927 84 42 := hk1019 84 42 (Or.inl (by decide))
          have hc1070 : N1017 84 48 = N927 84 48 := hk1019 84 48 (Or.inl (by decide))
          have hGH : GH N1017 := GH_fr hp928.2.2.2.2.2.2 (stM_s he1018) rfl (fun _ => by omega)
          have hNA : N1017 84 13 = 0 → NA N1017 := fun _ => NA_fr (NA_fr (NA_fr (NA_fr hna hk858 rfl) (stM_s he860) rfl) hk961 rfl) (stM_s he1018) rfl
          have hNM : N1017 84 13 = 0 → N1017 84 20 = N1017 95 (M 84 19) + N1017 100 (M 84 19) := fun h => by rw [stM_k he1018 84 20 (Or.inl (by decide)), hk961 84 20 rfl, stM_k he860 84 20 (Or.inl (by decide)), hk858 84 20 rfl, stM_k he840 84 20 (Or.inl (by decide)), hk838 84 20 rfl, hk374 84 20 rfl, stM_k he1018 95 _ (Or.inl (by decide)), hk961 95 _ rfl, stM_k he860 95 _ (Or.inl (by decide)), hk858 95 _ rfl, stM_k he840 95 _ (Or.inl (by decide)), hk838 95 _ rfl, hk374 95 _ rfl, stM_k he1018 100 _ (Or.inl (by decide)), hk961 100 _ rfl, stM_k he860 100 _ (Or.inl (by decide)), hk858 100 _ rfl, stM_k he840 100 _ (Or.inl (by decide)), hk838 100 _ rfl, hk374 100 _ rfl]; exact p8
          have h103 : N1017 103 (M 84 19) = M 103 (M 84 19) + 1 := by have e := stM_g he1018; rw [show N927 84 19 = M 84 19 by omega] at e; have e2 := sc4; rw [show N927 84 19 = M 84 19 by omega] at e2; omega
          have hsm0 : qSm [(84, some 11), (84, some 12), (84, some 13), (84, some 14), (84, some 15), (84, some 16), (84, some 42), (84, some 48), (84, some 52), (103, none), (104, none), (105, none), (111, none), (112, none), (113, none), (114, none), (115, none), (116, none), (117, none), (118, none), (119, none), (120, none)] M N1017 := (by intro b j hbj; rw [hk1019 b j (qSm_ne hbj rfl), hk961 b j (qSm_sub hbj rfl), hk861 b j (qSm_ne hbj rfl), hk858 b j (qSm_sub hbj rfl), hk841 b j (qSm_ne hbj rfl), hk838 b j (qSm_sub hbj rfl), hk374 b j (qSm_sub hbj rfl)])
          have hGG : GG N1017 := GG_buy p11 (by omega) (fun _ _ => by omega) (by omega) h103 (fun j hj => by rw [stM_k he1018 104 _ (Or.inl (by decide)), hk961 104 _ rfl, stM_k he860 104 _ (Or.inl (by decide)), hk858 104 _ rfl, stM_k he840 104 _ (Or.inr (by omega)), hk838 104 _ rfl, hk374 104 _ rfl]) (fun j hj => by rw [stM_k he1018 105 _ (Or.inl (by decide)), hk961 105 _ rfl, stM_k he860 105 _ (Or.inr (by omega)), hk858 105 _ rfl, stM_k he840 105 _ (Or.inl (by decide)), hk838 105 _ rfl, hk374 105 _ rfl]) (fun b hb => by
            simp only [List.contains_cons, List.contains_nil, Bool.or_false, Bool.or_eq_true, beq_iff_eq] at hb
            funext j
            exact hsm0 b j (by rcases hb with rfl | rfl | rfl | rfl | rfl | rfl | rfl | rfl | rfl | rfl <;> rfl)) (fun h1 h2 => by
            rw [stM_k he1018 104 _ (Or.inl (by decide)), hk961 104 _ rfl, stM_k he860 104 _ (Or.inl (by decide)), hk858 104 _ rfl, show 12 * M 84 19 + M 103 (M 84 19) = ((12 * (N370 84 19)) + (N370 103 (N370 84 19))) by omega, stM_g he840, stM_k he1018 105 _ (Or.inl (by decide)), hk961 105 _ rfl, stM_g he860]
            omega)
          have hr1071 : (0 : Int) ≤ N1017 84 11 ∧ N1017 84 11 ≤ (400 : Int) := hIN1017.1 84 11
          have hc1072 : N1017 84 11 = N927 84 11 := hk1019 84 11 (Or.inl (by decide))
          have hr1073 : (0 : Int) ≤ N1017 84 13 ∧ N1017 84 13 ≤ (5 : Int) := hIN1017.1 84 13
          have hc1074 : N1017 84 13 = N927 84 13 := hk1019 84 13 (Or.inl (by decide))
          have hr1075 : (0 : Int) ≤ N1017 84 12 ∧ N1017 84 12 ≤ (7 : Int) := hIN1017.1 84 12
          have hc1076 : N1017 84 12 = N927 84 12 := hk1019 84 12 (Or.inl (by decide))
          have hc1077 : N1017 84 48 = N927 84 48 := hk1019 84 48 (Or.inl (by decide))
          have hc1078 : N1017 84 42 = N927 84 42 := hk1019 84 42 (Or.inl (by decide))
          have hr1079 : (0 : Int) ≤ N1017 84 20 ∧ N1017 84 20 ≤ (11 : Int) := hIN1017.1 84 20
          have hc1080 : N1017 84 20 = N927 84 20 := hk1019 84 20 (Or.inl (by decide))
          have hc1081 : N927 84 20 = N859 84 20 := hk961 84 20 rfl
          have hc1082 : N859 84 20 = N850 84 20 := hk861 84 20 (Or.inl (by decide))
          have hc1083 : N850 84 20 = N839 84 20 := hk858 84 20 rfl
          have hc1084 : N839 84 20 = N832 84 20 := hk841 84 20 (Or.inl (by decide))
          have hc1085 : N832 84 20 = N370 84 20 := hk838 84 20 rfl
          have hc1086 : N370 84 20 = M 84 20 := hk374 84 20 rfl
          have hsm : qSm [(84, some 11), (84, some 12), (84, some 13), (84, some 14), (84, some 15), (84, some 16), (84, some 20), (84, some 42), (84, some 48), (84, some 52), (92, none), (93, none), (94, none), (95, none), (96, none), (97, none), (98, none), (99, none), (100, none), (101, none), (102, none), (103, none), (104, none), (105, none), (106, none), (107, none), (108, none), (109, none), (110, none), (111, none), (112, none), (113, none), (114, none), (115, none), (116, none), (117, none), (118, none), (119, none), (120, none)] M N1017 := by
            intro b j hbj
            rw [hk1019 b j (qSm_ne hbj rfl), hk961 b j (qSm_sub hbj rfl), hk861 b j (qSm_ne hbj rfl), hk858 b j (qSm_sub hbj rfl), hk841 b j (qSm_ne hbj rfl), hk838 b j (qSm_sub hbj rfl), hk374 b j (qSm_sub hbj rfl)]
          exact ⟨rfl, rfl, hIN1017, hsm, by omega, by omega, by omega, by first | exact hNM | exact fun h1 => absurd h1 (by omega), by first | exact hGH | exact fun h1 => absurd h1 (by omega), by first | exact hNA | exact fun h1 => absurd h1 (by omega), by first | exact hGG | exact fun h1 _ => absurd h1 (by omega)⟩
      · have hr1087 : (0 : Int) ≤ N859 84 19 ∧ N859 84 19 ≤ (1 : Int) := hIN859.1 84 19
        have hc1088 : N859 84 19 = N850 84 19 := hk861 84 19 (Or.inl (by decide))
        have hc1089 : N850 84 19 = N839 84 19 := hk858 84 19 rfl
        have hc1090 : N839 84 19 = N832 84 19 := hk841 84 19 (Or.inl (by decide))
        have hc1091 : N832 84 19 = N370 84 19 := hk838 84 19 rfl
        have hc1092 : N370 84 19 = M 84 19 := hk374 84 19 rfl
        refine ⟨by omega, ?_⟩
        have hr1093 : (0 : Int) ≤ N859 103 (N859 84 19) ∧ N859 103 (N859 84 19) ≤ (12 : Int) := hIN859.1 103 (N859 84 19)
        have hc1094 : N859 103 (N859 84 19) = N850 103 (N859 84 19) := hk861 103 (N859 84 19) (Or.inl (by decide))
        have hc1095 : N850 103 (N859 84 19) = N839 103 (N859 84 19) := hk858 103 (N859 84 19) rfl
        have hc1096 : N839 103 (N859 84 19) = N832 103 (N859 84 19) := hk841 103 (N859 84 19) (Or.inl (by decide))
        have hc1097 : N832 103 (N859 84 19) = N370 103 (N859 84 19) := hk838 103 (N859 84 19) rfl
        have hc1098 : N370 103 (N859 84 19) = M 103 (N859 84 19) := hk374 103 (N859 84 19) rfl
        refine ⟨by omega, ?_⟩
        refine ⟨trivial, ?_⟩
        have hr1102 : (0 : Int) ≤ N859 84 19 ∧ N859 84 19 ≤ (1 : Int) := hIN859.1 84 19
        have hc1103 : N859 84 19 = N850 84 19 := hk861 84 19 (Or.inl (by decide))
        have hc1104 : N850 84 19 = N839 84 19 := hk858 84 19 rfl
        have hc1105 : N839 84 19 = N832 84 19 := hk841 84 19 (Or.inl (by decide))
        have hc1106 : N832 84 19 = N370 84 19 := hk838 84 19 rfl
        have hc1107 : N370 84 19 = M 84 19 := hk374 84 19 rfl
        have hr1108 : (0 : Int) ≤ N859 84 18 ∧ N859 84 18 ≤ (1 : Int) := hIN859.1 84 18
        have hc1109 : N859 84 18 = N850 84 18 := hk861 84 18 (Or.inl (by decide))
        have hc1110 : N850 84 18 = N839 84 18 := hk858 84 18 rfl
        have hc1111 : N839 84 18 = N832 84 18 := hk841 84 18 (Or.inl (by decide))
        have hc1112 : N832 84 18 = N370 84 18 := hk838 84 18 rfl
        have hc1113 : N370 84 18 = M 84 18 := hk374 84 18 rfl
        have hc1114 : N859 84 48 = N850 84 48 := hk861 84 48 (Or.inl (by decide))
        have hc1115 : N850 84 48 = N839 84 48 := hk858 84 48 rfl
        have hc1116 : N839 84 48 = N832 84 48 := hk841 84 48 (Or.inl (by decide))
        have hc1117 : N832 84 48 = N370 84 48 := hk838 84 48 rfl
        have hc1118 : N370 84 48 = M 84 48 := hk374 84 48 rfl
        have hr1119 : (0 : Int) ≤ N859 84 11 ∧ N859 84 11 ≤ (400 : Int) := hIN859.1 84 11
        have hc1120 : N859 84 11 = N850 84 11 := hk861 84 11 (Or.inl (by decide))
        have hr1121 : (0 : Int) ≤ N859 84 13 ∧ N859 84 13 ≤ (5 : Int) := hIN859.1 84 13
        have hc1122 : N859 84 13 = N850 84 13 := hk861 84 13 (Or.inl (by decide))
        have hr1123 : (0 : Int) ≤ N859 84 12 ∧ N859 84 12 ≤ (7 : Int) := hIN859.1 84 12
        have hc1124 : N859 84 12 = N850 84 12 := hk861 84 12 (Or.inl (by decide))
        have hc1125 : N850 84 12 = N839 84 12 := hk858 84 12 rfl
        have hc1126 : N839 84 12 = N832 84 12 := hk841 84 12 (Or.inl (by decide))
        have hc1127 : N832 84 12 = N370 84 12 := hk838 84 12 rfl
        have hc1128 : N370 84 12 = M 84 12 := hk374 84 12 rfl
        have hc1129 : N859 84 42 = N850 84 42 := hk861 84 42 (Or.inl (by decide))
        have hc1130 : N850 84 42 = N839 84 42 := hk858 84 42 rfl
        have hc1131 : N839 84 42 = N832 84 42 := hk841 84 42 (Or.inl (by decide))
        have hc1132 : N832 84 42 = N370 84 42 := hk838 84 42 rfl
        have hc1133 : N370 84 42 = M 84 42 := hk374 84 42 rfl
        refine CV_mono (c_X12_tellLaw T (hIN859) (show N859 84 19 = 1 - N859 84 18 by omega) (by assumption) (show ((16 + (N859 103 (N859 84 19))) : Int) < 40 by omega) (show 420 * N859 84 19 ≤ N859 84 48 by omega) (show N859 84 48 - 420 * N859 84 19 ≤ N859 84 11 + 2 by omega) (show N859 84 13 = 0 → N859 84 12 = 0 ∧ N859 84 48 - 420 * N859 84 19 ≤ N859 84 11 ∧ 4 * (N859 84 42 - 130 * N859 84 19) + 2 ≤ N859 84 11 by omega) (show 130 * N859 84 19 ≤ N859 84 42 by omega) (show N859 84 42 ≤ 130 * N859 84 19 + 100 by omega)) (fun N1100 hp1101 => ?_)
        obtain ⟨hIN1100, hk1134, hj1135, hj1136, hp1101⟩ := hp1101
        have hr1137 : (0 : Int) ≤ N1100 84 11 ∧ N1100 84 11 ≤ (400 : Int) := hIN1100.1 84 11
        have hr1138 : (0 : Int) ≤ N1100 84 12 ∧ N1100 84 12 ≤ (7 : Int) := hIN1100.1 84 12
        have hr1139 : (0 : Int) ≤ N1100 84 13 ∧ N1100 84 13 ≤ (5 : Int) := hIN1100.1 84 13
        have hr1140 : (0 : Int) ≤ N1100 84 15 ∧ N1100 84 15 ≤ (5 : Int) := hIN1100.1 84 15
        have hc1141 : N1100 84 15 = N859 84 15 := hk1134 84 15 rfl
        have hc1142 : N859 84 15 = N850 84 15 := hk861 84 15 (Or.inl (by decide))
        have hr1143 : (0 : Int) ≤ N1100 84 18 ∧ N1100 84 18 ≤ (1 : Int) := hIN1100.1 84 18
        have hc1144 : N1100 84 18 = N859 84 18 := hk1134 84 18 rfl
        have hc1145 : N859 84 18 = N850 84 18 := hk861 84 18 (Or.inl (by decide))
        have hc1146 : N850 84 18 = N839 84 18 := hk858 84 18 rfl
        have hc1147 : N839 84 18 = N832 84 18 := hk841 84 18 (Or.inl (by decide))
        have hc1148 : N832 84 18 = N370 84 18 := hk838 84 18 rfl
        have hc1149 : N370 84 18 = M 84 18 := hk374 84 18 rfl
        have hr1150 : (0 : Int) ≤ N1100 84 19 ∧ N1100 84 19 ≤ (1 : Int) := hIN1100.1 84 19
        have hc1151 : N1100 84 19 = N859 84 19 := hk1134 84 19 rfl
        have hc1152 : N859 84 19 = N850 84 19 := hk861 84 19 (Or.inl (by decide))
        have hc1153 : N850 84 19 = N839 84 19 := hk858 84 19 rfl
        have hc1154 : N839 84 19 = N832 84 19 := hk841 84 19 (Or.inl (by decide))
        have hc1155 : N832 84 19 = N370 84 19 := hk838 84 19 rfl
        have hc1156 : N370 84 19 = M 84 19 := hk374 84 19 rfl
        have hr1157 : (0 : Int) ≤ N1100 84 20 ∧ N1100 84 20 ≤ (11 : Int) := hIN1100.1 84 20
        have hc1158 : N1100 84 20 = N859 84 20 := hk1134 84 20 rfl
        have hc1159 : N859 84 20 = N850 84 20 := hk861 84 20 (Or.inl (by decide))
        have hc1160 : N850 84 20 = N839 84 20 := hk858 84 20 rfl
        have hc1161 : N839 84 20 = N832 84 20 := hk841 84 20 (Or.inl (by decide))
        have hc1162 : N832 84 20 = N370 84 20 := hk838 84 20 rfl
        have hc1163 : N370 84 20 = M 84 20 := hk374 84 20 rfl
        have sc4 : N1100 103 (N1100 84 19) = M 103 (M 84 19) := by rw [show N1100 84 19 = M 84 19 by omega]; exact (hk1134 103 _ rfl).trans ((stM_k he860 103 _ (Or.inl (by decide))).trans ((hk858 103 _ rfl).trans ((stM_k he840 103 _ (Or.inl (by decide))).trans ((hk838 103 _ rfl).trans (hk374 103 _ rfl)))))
        have hr1164 : (0 : Int) ≤ N1100 84 13 ∧ N1100 84 13 ≤ (5 : Int) := hIN1100.1 84 13
        refine ⟨fun hb1165 => ?_, fun hb1165 => ?_⟩
        · have hr1166 : (0 : Int) ≤ N1100 84 11 ∧ N1100 84 11 ≤ (400 : Int) := hIN1100.1 84 11
          have hr1167 : (0 : Int) ≤ N1100 84 13 ∧ N1100 84 13 ≤ (5 : Int) := hIN1100.1 84 13
          have hr1168 : (0 : Int) ≤ N1100 84 12 ∧ N1100 84 12 ≤ (7 : Int) := hIN1100.1 84 12
          have hr1169 : (0 : Int) ≤ N1100 84 20 ∧ N1100 84 20 ≤ (11 : Int) := hIN1100.1 84 20
          have hc1170 : N1100 84 20 = N859 84 20 := hk1134 84 20 rfl
          have hc1171 : N859 84 20 = N850 84 20 := hk861 84 20 (Or.inl (by decide))
          have hc1172 : N850 84 20 = N839 84 20 := hk858 84 20 rfl
          have hc1173 : N839 84 20 = N832 84 20 := hk841 84 20 (Or.inl (by decide))
          have hc1174 : N832 84 20 = N370 84 20 := hk838 84 20 rfl
          have hc1175 : N370 84 20 = M 84 20 := hk374 84 20 rfl
          have hsm : qSm [(84, some 11), (84, some 12), (84, some 13), (84, some 14), (84, some 15), (84, some 16), (84, some 20), (84, some 42), (84, some 48), (84, some 52), (92, none), (93, none), (94, none), (95, none), (96, none), (97, none), (98, none), (99, none), (100, none), (101, none), (102, none), (103, none), (104, none), (105, none), (106, none), (107, none), (108, none), (109, none), (110, none), (111, none), (112, none), (113, none), (114, none), (115, none), (116, none), (117, none), (118, none), (119, none), (120, none)] M N1100 := by
            intro b j hbj
            rw [hk1134 b j (qSm_sub hbj rfl), hk861 b j (qSm_ne hbj rfl), hk858 b j (qSm_sub hbj rfl), hk841 b j (qSm_ne hbj rfl), hk838 b j (qSm_sub hbj rfl), hk374 b j (qSm_sub hbj rfl)]
          exact ⟨rfl, rfl, hIN1100, hsm, by omega, by omega, by omega, by first | exact hNM | exact fun h1 => absurd h1 (by omega), by first | exact hGH | exact fun h1 => absurd h1 (by omega), by first | exact hNA | exact fun h1 => absurd h1 (by omega), by first | exact hGG | exact fun h1 _ => absurd h1 (by omega)⟩
        · have hr1176 : (0 : Int) ≤ N1100 84 19 ∧ N1100 84 19 ≤ (1 : Int) := hIN1100.1 84 19
          have hc1177 : N1100 84 19 = N859 84 19 := hk1134 84 19 rfl
          have hc1178 : N859 84 19 = N850 84 19 := hk861 84 19 (Or.inl (by decide))
          have hc1179 : N850 84 19 = N839 84 19 := hk858 84 19 rfl
          have hc1180 : N839 84 19 = N832 84 19 := hk841 84 19 (Or.inl (by decide))
          have hc1181 : N832 84 19 = N370 84 19 := hk838 84 19 rfl
          have hc1182 : N370 84 19 = M 84 19 := hk374 84 19 rfl
          refine ⟨by omega, ?_⟩
          have hr1183 : (0 : Int) ≤ N1100 103 (N1100 84 19) ∧ N1100 103 (N1100 84 19) ≤ (12 : Int) := hIN1100.1 103 (N1100 84 19)
          have hc1184 : N1100 103 (N1100 84 19) = N859 103 (N1100 84 19) := hk1134 103 (N1100 84 19) rfl
          have hc1185 : N859 103 (N1100 84 19) = N850 103 (N1100 84 19) := hk861 103 (N1100 84 19) (Or.inl (by decide))
          have hc1186 : N850 103 (N1100 84 19) = N839 103 (N1100 84 19) := hk858 103 (N1100 84 19) rfl
          have hc1187 : N839 103 (N1100 84 19) = N832 103 (N1100 84 19) := hk841 103 (N1100 84 19) (Or.inl (by decide))
          have hc1188 : N832 103 (N1100 84 19) = N370 103 (N1100 84 19) := hk838 103 (N1100 84 19) rfl
          have hc1189 : N370 103 (N1100 84 19) = M 103 (N1100 84 19) := hk374 103 (N1100 84 19) rfl
          refine ⟨by omega, ?_⟩
          refine ⟨by omega, ?_⟩
          obtain ⟨N1190, he1191⟩ : ∃ X : qM, X = stM N1100 103 (N1100 84 19) ((N1100 103 (N1100 84 19)) + 1) := ⟨_, rfl⟩
          rw [← he1191]
          have hk1192 := stM_k he1191
          have hg1193 := stM_g he1191
          have hr1194 : (0 : Int) ≤ N1100 84 18 ∧ N1100 84 18 ≤ (1 : Int) := hIN1100.1 84 18
          have hc1195 : N1100 84 18 = N859 84 18 := hk1134 84 18 rfl
          have hc1196 : N859 84 18 = N850 84 18 := hk861 84 18 (Or.inl (by decide))
          have hc1197 : N850 84 18 = N839 84 18 := hk858 84 18 rfl
          have hc1198 : N839 84 18 = N832 84 18 := hk841 84 18 (Or.inl (by decide))
          have hc1199 : N832 84 18 = N370 84 18 := hk838 84 18 rfl
          have hc1200 : N370 84 18 = M 84 18 := hk374 84 18 rfl
          have hr1201 : (0 : Int) ≤ N1100 84 19 ∧ N1100 84 19 ≤ (1 : Int) := hIN1100.1 84 19
          have hc1202 : N1100 84 19 = N859 84 19 := hk1134 84 19 rfl
          have hc1203 : N859 84 19 = N850 84 19 := hk861 84 19 (Or.inl (by decide))
          have hc1204 : N850 84 19 = N839 84 19 := hk858 84 19 rfl
          have hc1205 : N839 84 19 = N832 84 19 := hk841 84 19 (Or.inl (by decide))
          have hc1206 : N832 84 19 = N370 84 19 := hk838 84 19 rfl
          have hc1207 : N370 84 19 = M 84 19 := hk374 84 19 rfl
          have hIN1190 : INV S N1190 := INV_side (w := 1) hIN1100 he1191 (show (0 : Int) ≤ _ ∧ _ ≤ (12 : Int) from ⟨by omega, by omega⟩) (by decide) (by omega)
          have hr1208 : (0 : Int) ≤ N1190 84 11 ∧ N1190 84 11 ≤ (400 : Int) := hIN1190.1 84 11
          have hc1209 : N1190 84 11 = N1100 84 11 := hk1192 84 11 (Or.inl (by decide))
          have hr1210 : (0 : Int) ≤ N1190 84 12 ∧ N1190 84 12 ≤ (7 : Int) := hIN1190.1 84 12
          have hc1211 : N1190 84 12 = N1100 84 12 := hk1192 84 12 (Or.inl (by decide))
          have hr1212 : (0 : Int) ≤ N1190 84 13 ∧ N1190 84 13 ≤ (5 : Int) := hIN1190.1 84 13
          have hc1213 : N1190 84 13 = N1100 84 13 := hk1192 84 13 (Or.inl (by decide))
          have hr1214 : (0 : Int) ≤ N1190 84 15 ∧ N1190 84 15 ≤ (5 : Int) := hIN1190.1 84 15
          have hc1215 : N1190 84 15 = N1100 84 15 := hk1192 84 15 (Or.inl (by decide))
          have hc1216 : N1100 84 15 = N859 84 15 := hk1134 84 15 rfl
          have hc1217 : N859 84 15 = N850 84 15 := hk861 84 15 (Or.inl (by decide))
          have hr1218 : (0 : Int) ≤ N1190 84 18 ∧ N1190 84 18 ≤ (1 : Int) := hIN1190.1 84 18
          have hc1219 : N1190 84 18 = N1100 84 18 := hk1192 84 18 (Or.inl (by decide))
          have hc1220 : N1100 84 18 = N859 84 18 := hk1134 84 18 rfl
          have hc1221 : N859 84 18 = N850 84 18 := hk861 84 18 (Or.inl (by decide))
          have hc1222 : N850 84 18 = N839 84 18 := hk858 84 18 rfl
          have hc1223 : N839 84 18 = N832 84 18 := hk841 84 18 (Or.inl (by decide))
          have hc1224 : N832 84 18 = N370 84 18 := hk838 84 18 rfl
          have hc1225 : N370 84 18 = M 84 18 := hk374 84 18 rfl
          have hr1226 : (0 : Int) ≤ N1190 84 19 ∧ N1190 84 19 ≤ (1 : Int) := hIN1190.1 84 19
          have hc1227 : N1190 84 19 = N1100 84 19 := hk1192 84 19 (Or.inl (by decide))
          have hc1228 : N1100 84 19 = N859 84 19 := hk1134 84 19 rfl
          have hc1229 : N859 84 19 = N850 84 19 := hk861 84 19 (Or.inl (by decide))
          have hc1230 : N850 84 19 = N839 84 19 := hk858 84 19 rfl
          have hc1231 : N839 84 19 = N832 84 19 := hk841 84 19 (Or.inl (by decide))
          have hc1232 : N832 84 19 = N370 84 19 := hk838 84 19 rfl
          have hc1233 : N370 84 19 = M 84 19 := hk374 84 19 rfl
          have hr1234 : (0 : Int) ≤ N1190 84 20 ∧ N1190 84 20 ≤ (11 : Int) := hIN1190.1 84 20
          have hc1235 : N1190 84 20 = N1100 84 20 := hk1192 84 20 (Or.inl (by decide))
          have hc1236 : N1100 84 20 = N859 84 20 := hk1134 84 20 rfl
          have hc1237 : N859 84 20 = N850 84 20 := hk861 84 20 (Or.inl (by decide))
          have hc1238 : N850 84 20 = N839 84 20 := hk858 84 20 rfl
          have hc1239 : N839 84 20 = N832 84 20 := hk841 84 20 (Or.inl (by decide))
          have hc1240 : N832 84 20 = N370 84 20 := hk838 84 20 rfl
          have hc1241 : N370 84 20 = M 84 20 := hk374 84 20 rfl
          have hc1242 : N1190 84 42 = N1100 84 42 := hk1192 84 42 (Or.inl (by decide))
          have hc1243 : N1190 84 48 = N1100 84 48 := hk1192 84 48 (Or.inl (by decide))
          have hGH : GH N1190 := GH_fr hp1101.2.2.2.2.2.2 (stM_s he1191) rfl (fun _ => by omega)
          have hNA : N1190 84 13 = 0 → NA N1190 := fun _ => NA_fr (NA_fr (NA_fr (NA_fr hna hk858 rfl) (stM_s he860) rfl) hk1134 rfl) (stM_s he1191) rfl
          have hNM : N1190 84 13 = 0 → N1190 84 20 = N1190 95 (M 84 19) + N1190 100 (M 84 19) := fun h => by rw [stM_k he1191 84 20 (Or.inl (by decide)), hk1134 84 20 rfl, stM_k he860 84 20 (Or.inl (by decide)), hk858 84 20 rfl, stM_k he840 84 20 (Or.inl (by decide)), hk838 84 20 rfl, hk374 84 20 rfl, stM_k he1191 95 _ (Or.inl (by decide)), hk1134 95 _ rfl, stM_k he860 95 _ (Or.inl (by decide)), hk858 95 _ rfl, stM_k he840 95 _ (Or.inl (by decide)), hk838 95 _ rfl, hk374 95 _ rfl, stM_k he1191 100 _ (Or.inl (by decide)), hk1134 100 _ rfl, stM_k he860 100 _ (Or.inl (by decide)), hk858 100 _ rfl, stM_k he840 100 _ (Or.inl (by decide)), hk838 100 _ rfl, hk374 100 _ rfl]; exact p8
          have h103 : N1190 103 (M 84 19) = M 103 (M 84 19) + 1 := by have e := stM_g he1191; rw [show N1100 84 19 = M 84 19 by omega] at e; have e2 := sc4; rw [show N1100 84 19 = M 84 19 by omega] at e2; omega
          have hsm0 : qSm [(84, some 11), (84, some 12), (84, some 13), (84, some 14), (84, some 15), (84, some 16), (84, some 42), (84, some 48), (84, some 52), (103, none), (104, none), (105, none), (111, none), (112, none), (113, none), (114, none), (115, none), (116, none), (117, none), (118, none), (119, none), (120, none)] M N1190 := (by intro b j hbj; rw [hk1192 b j (qSm_ne hbj rfl), hk1134 b j (qSm_sub hbj rfl), hk861 b j (qSm_ne hbj rfl), hk858 b j (qSm_sub hbj rfl), hk841 b j (qSm_ne hbj rfl), hk838 b j (qSm_sub hbj rfl), hk374 b j (qSm_sub hbj rfl)])
          have hGG : GG N1190 := GG_buy p11 (by omega) (fun _ _ => by omega) (by omega) h103 (fun j hj => by rw [stM_k he1191 104 _ (Or.inl (by decide)), hk1134 104 _ rfl, stM_k he860 104 _ (Or.inl (by decide)), hk858 104 _ rfl, stM_k he840 104 _ (Or.inr (by omega)), hk838 104 _ rfl, hk374 104 _ rfl]) (fun j hj => by rw [stM_k he1191 105 _ (Or.inl (by decide)), hk1134 105 _ rfl, stM_k he860 105 _ (Or.inr (by omega)), hk858 105 _ rfl, stM_k he840 105 _ (Or.inl (by decide)), hk838 105 _ rfl, hk374 105 _ rfl]) (fun b hb => by
            simp only [List.contains_cons, List.contains_nil, Bool.or_false, Bool.or_eq_true, beq_iff_eq] at hb
            funext j
            exact hsm0 b j (by rcases hb with rfl | rfl | rfl | rfl | rfl | rfl | rfl | rfl | rfl | rfl <;> rfl)) (fun h1 h2 => by
            rw [stM_k he1191 104 _ (Or.inl (by decide)), hk1134 104 _ rfl, stM_k he860 104 _ (Or.inl (by decide)), hk858 104 _ rfl, show 12 * M 84 19 + M 103 (M 84 19) = ((12 * (N370 84 19)) + (N370 103 (N370 84 19))) by omega, stM_g he840, stM_k he1191 105 _ (Or.inl (by decide)), hk1134 105 _ rfl, stM_g he860]
            omega)
          have hr1244 : (0 : Int) ≤ N1190 84 11 ∧ N1190 84 11 ≤ (400 : Int) := hIN1190.1 84 11
          have hc1245 : N1190 84 11 = N1100 84 11 := hk1192 84 11 (Or.inl (by decide))
          have hr1246 : (0 : Int) ≤ N1190 84 13 ∧ N1190 84 13 ≤ (5 : Int) := hIN1190.1 84 13
          have hc1247 : N1190 84 13 = N1100 84 13 := hk1192 84 13 (Or.inl (by decide))
          have hr1248 : (0 : Int) ≤ N1190 84 12 ∧ N1190 84 12 ≤ (7 : Int) := hIN1190.1 84 12
          have hc1249 : N1190 84 12 = N1100 84 12 := hk1192 84 12 (Or.inl (by decide))
          have hc1250 : N1190 84 48 = N1100 84 48 := hk1192 84 48 (Or.inl (by decide))
          have hc1251 : N1190 84 42 = N1100 84 42 := hk1192 84 42 (Or.inl (by decide))
          have hr1252 : (0 : Int) ≤ N1190 84 20 ∧ N1190 84 20 ≤ (11 : Int) := hIN1190.1 84 20
          have hc1253 : N1190 84 20 = N1100 84 20 := hk1192 84 20 (Or.inl (by decide))
          have hc1254 : N1100 84 20 = N859 84 20 := hk1134 84 20 rfl
          have hc1255 : N859 84 20 = N850 84 20 := hk861 84 20 (Or.inl (by decide))
          have hc1256 : N850 84 20 = N839 84 20 := hk858 84 20 rfl
          have hc1257 : N839 84 20 = N832 84 20 := hk841 84 20 (Or.inl (by decide))
          have hc1258 : N832 84 20 = N370 84 20 := hk838 84 20 rfl
          have hc1259 : N370 84 20 = M 84 20 := hk374 84 20 rfl
          have hsm : qSm [(84, some 11), (84, some 12), (84, some 13), (84, some 14), (84, some 15), (84, some 16), (84, some 20), (84, some 42), (84, some 48), (84, some 52), (92, none), (93, none), (94, none), (95, none), (96, none), (97, none), (98, none), (99, none), (100, none), (101, none), (102, none), (103, none), (104, none), (105, none), (106, none), (107, none), (108, none), (109, none), (110, none), (111, none), (112, none), (113, none), (114, none), (115, none), (116, none), (117, none), (118, none), (119, none), (120, none)] M N1190 := by
            intro b j hbj
            rw [hk1192 b j (qSm_ne hbj rfl), hk1134 b j (qSm_sub hbj rfl), hk861 b j (qSm_ne hbj rfl), hk858 b j (qSm_sub hbj rfl), hk841 b j (qSm_ne hbj rfl), hk838 b j (qSm_sub hbj rfl), hk374 b j (qSm_sub hbj rfl)]
          exact ⟨rfl, rfl, hIN1190, hsm, by omega, by omega, by omega, by first | exact hNM | exact fun h1 => absurd h1 (by omega), by first | exact hGH | exact fun h1 => absurd h1 (by omega), by first | exact hNA | exact fun h1 => absurd h1 (by omega), by first | exact hGG | exact fun h1 _ => absurd h1 (by omega)⟩
  · have hr1260 : (0 : Int) ≤ M 84 19 ∧ M 84 19 ≤ (1 : Int) := hIM.1 84 19
    refine ⟨by omega, ?_⟩
    have hr1261 : (0 : Int) ≤ M 106 (M 84 19) ∧ M 106 (M 84 19) ≤ (12 : Int) := hIM.1 106 (M 84 19)
    refine ⟨trivial, ?_⟩
    have hr1265 : (0 : Int) ≤ M 84 11 ∧ M 84 11 ≤ (400 : Int) := hIM.1 84 11
    have hr1266 : (0 : Int) ≤ M 84 13 ∧ M 84 13 ≤ (5 : Int) := hIM.1 84 13
    refine CV_mono (c_X12_roomFor T (hIM)) (fun N1263 hp1264 => ?_)
    obtain ⟨hIN1263, hk1267, hp1264⟩ := hp1264
    have hr1268 : (0 : Int) ≤ N1263 84 11 ∧ N1263 84 11 ≤ (400 : Int) := hIN1263.1 84 11
    have hr1269 : (0 : Int) ≤ N1263 84 12 ∧ N1263 84 12 ≤ (7 : Int) := hIN1263.1 84 12
    have hc1270 : N1263 84 12 = M 84 12 := hk1267 84 12 rfl
    have hr1271 : (0 : Int) ≤ N1263 84 13 ∧ N1263 84 13 ≤ (5 : Int) := hIN1263.1 84 13
    have hr1272 : (0 : Int) ≤ N1263 84 15 ∧ N1263 84 15 ≤ (5 : Int) := hIN1263.1 84 15
    have hc1273 : N1263 84 15 = M 84 15 := hk1267 84 15 rfl
    have hr1274 : (0 : Int) ≤ N1263 84 18 ∧ N1263 84 18 ≤ (1 : Int) := hIN1263.1 84 18
    have hc1275 : N1263 84 18 = M 84 18 := hk1267 84 18 rfl
    have hr1276 : (0 : Int) ≤ N1263 84 19 ∧ N1263 84 19 ≤ (1 : Int) := hIN1263.1 84 19
    have hc1277 : N1263 84 19 = M 84 19 := hk1267 84 19 rfl
    have hr1278 : (0 : Int) ≤ N1263 84 20 ∧ N1263 84 20 ≤ (11 : Int) := hIN1263.1 84 20
    have hc1279 : N1263 84 20 = M 84 20 := hk1267 84 20 rfl
    have hc1280 : N1263 84 42 = M 84 42 := hk1267 84 42 rfl
    have hc1281 : N1263 84 48 = M 84 48 := hk1267 84 48 rfl
    have hr1282 : (0 : Int) ≤ N1263 106 (M 84 19) ∧ N1263 106 (M 84 19) ≤ (12 : Int) := hIN1263.1 106 (M 84 19)
    have hc1283 : N1263 106 (M 84 19) = M 106 (M 84 19) := hk1267 106 (M 84 19) rfl
    have sc1 : N1263 106 (N1263 84 19) = M 106 (M 84 19) := by rw [show N1263 84 19 = M 84 19 by omega]; exact hk1267 106 _ rfl
    have hna : NA N1263 := NA_fr p10 hk1267 rfl
    have hr1284 : (0 : Int) ≤ N1263 84 19 ∧ N1263 84 19 ≤ (1 : Int) := hIN1263.1 84 19
    have hc1285 : N1263 84 19 = M 84 19 := hk1267 84 19 rfl
    refine ⟨by omega, ?_⟩
    have hr1286 : (0 : Int) ≤ N1263 84 19 ∧ N1263 84 19 ≤ (1 : Int) := hIN1263.1 84 19
    have hc1287 : N1263 84 19 = M 84 19 := hk1267 84 19 rfl
    refine ⟨by omega, ?_⟩
    have hr1288 : (0 : Int) ≤ N1263 106 (N1263 84 19) ∧ N1263 106 (N1263 84 19) ≤ (12 : Int) := hIN1263.1 106 (N1263 84 19)
    have hc1289 : N1263 106 (N1263 84 19) = M 106 (N1263 84 19) := hk1267 106 (N1263 84 19) rfl
    refine ⟨fun hb1290 => ?_, fun hb1290 => ?_⟩
    · refine ⟨by omega, ?_⟩
      refine ⟨trivial, ?_⟩
      have hr1294 : (0 : Int) ≤ N1263 84 11 ∧ N1263 84 11 ≤ (400 : Int) := hIN1263.1 84 11
      have hr1295 : (0 : Int) ≤ N1263 84 13 ∧ N1263 84 13 ≤ (5 : Int) := hIN1263.1 84 13
      have hr1296 : (0 : Int) ≤ N1263 84 15 ∧ N1263 84 15 ≤ (5 : Int) := hIN1263.1 84 15
      have hc1297 : N1263 84 15 = M 84 15 := hk1267 84 15 rfl
      refine CI_mono (c_X12_known T (hIN1263) (by assumption)) (fun z1291 N1292 hp1293 => ?_)
      obtain ⟨hIN1292, hk1298, hp1293⟩ := hp1293
      refine ⟨by omega, ?_⟩
      obtain ⟨N1299, he1300⟩ : ∃ X : qM, X = stM N1292 107 ((12 * (N1263 84 19)) + 0) z1291 := ⟨_, rfl⟩
      rw [← he1300]
      have hk1301 := stM_k he1300
      have hg1302 := stM_g he1300
      have hr1303 : (0 : Int) ≤ N1292 84 18 ∧ N1292 84 18 ≤ (1 : Int) := hIN1292.1 84 18
      have hc1304 : N1292 84 18 = N1263 84 18 := hk1298 84 18 rfl
      have hc1305 : N1263 84 18 = M 84 18 := hk1267 84 18 rfl
      have hr1306 : (0 : Int) ≤ N1292 84 19 ∧ N1292 84 19 ≤ (1 : Int) := hIN1292.1 84 19
      have hc1307 : N1292 84 19 = N1263 84 19 := hk1298 84 19 rfl
      have hc1308 : N1263 84 19 = M 84 19 := hk1267 84 19 rfl
      have hIN1299 : INV S N1299 := INV_side (w := 12) hIN1292 he1300 (qFree _ _ _ rfl) (by decide) (by omega)
      have hna : NA N1299 := NA_fr (NA_fr hna hk1298 rfl) (stM_s he1300) rfl
      refine ⟨trivial, ?_⟩
      have hr1312 : (0 : Int) ≤ N1299 84 11 ∧ N1299 84 11 ≤ (400 : Int) := hIN1299.1 84 11
      have hc1313 : N1299 84 11 = N1292 84 11 := hk1301 84 11 (Or.inl (by decide))
      have hr1314 : (0 : Int) ≤ N1299 84 13 ∧ N1299 84 13 ≤ (5 : Int) := hIN1299.1 84 13
      have hc1315 : N1299 84 13 = N1292 84 13 := hk1301 84 13 (Or.inl (by decide))
      have hr1316 : (0 : Int) ≤ N1299 84 15 ∧ N1299 84 15 ≤ (5 : Int) := hIN1299.1 84 15
      have hc1317 : N1299 84 15 = N1292 84 15 := hk1301 84 15 (Or.inl (by decide))
      refine CI_mono (c_X12_known T (hIN1299) (by assumption)) (fun z1309 N1310 hp1311 => ?_)
      obtain ⟨hIN1310, hk1318, hp1311⟩ := hp1311
      refine ⟨by omega, ?_⟩
      obtain ⟨N1319, he1320⟩ : ∃ X : qM, X = stM N1310 108 ((12 * (N1263 84 19)) + 0) z1309 := ⟨_, rfl⟩
      rw [← he1320]
      have hk1321 := stM_k he1320
      have hg1322 := stM_g he1320
      have hr1323 : (0 : Int) ≤ N1310 84 18 ∧ N1310 84 18 ≤ (1 : Int) := hIN1310.1 84 18
      have hc1324 : N1310 84 18 = N1299 84 18 := hk1318 84 18 rfl
      have hc1325 : N1299 84 18 = N1292 84 18 := hk1301 84 18 (Or.inl (by decide))
      have hc1326 : N1292 84 18 = N1263 84 18 := hk1298 84 18 rfl
      have hc1327 : N1263 84 18 = M 84 18 := hk1267 84 18 rfl
      have hr1328 : (0 : Int) ≤ N1310 84 19 ∧ N1310 84 19 ≤ (1 : Int) := hIN1310.1 84 19
      have hc1329 : N1310 84 19 = N1299 84 19 := hk1318 84 19 rfl
      have hc1330 : N1299 84 19 = N1292 84 19 := hk1301 84 19 (Or.inl (by decide))
      have hc1331 : N1292 84 19 = N1263 84 19 := hk1298 84 19 rfl
      have hc1332 : N1263 84 19 = M 84 19 := hk1267 84 19 rfl
      have hIN1319 : INV S N1319 := INV_side (w := 12) hIN1310 he1320 (qFree _ _ _ rfl) (by decide) (by omega)
      have hr1333 : (0 : Int) ≤ N1319 84 11 ∧ N1319 84 11 ≤ (400 : Int) := hIN1319.1 84 11
      have hc1334 : N1319 84 11 = N1310 84 11 := hk1321 84 11 (Or.inl (by decide))
      have hr1335 : (0 : Int) ≤ N1319 84 12 ∧ N1319 84 12 ≤ (7 : Int) := hIN1319.1 84 12
      have hc1336 : N1319 84 12 = N1310 84 12 := hk1321 84 12 (Or.inl (by decide))
      have hc1337 : N1310 84 12 = N1299 84 12 := hk1318 84 12 rfl
      have hc1338 : N1299 84 12 = N1292 84 12 := hk1301 84 12 (Or.inl (by decide))
      have hc1339 : N1292 84 12 = N1263 84 12 := hk1298 84 12 rfl
      have hc1340 : N1263 84 12 = M 84 12 := hk1267 84 12 rfl
      have hr1341 : (0 : Int) ≤ N1319 84 13 ∧ N1319 84 13 ≤ (5 : Int) := hIN1319.1 84 13
      have hc1342 : N1319 84 13 = N1310 84 13 := hk1321 84 13 (Or.inl (by decide))
      have hr1343 : (0 : Int) ≤ N1319 84 15 ∧ N1319 84 15 ≤ (5 : Int) := hIN1319.1 84 15
      have hc1344 : N1319 84 15 = N1310 84 15 := hk1321 84 15 (Or.inl (by decide))
      have hr1345 : (0 : Int) ≤ N1319 84 18 ∧ N1319 84 18 ≤ (1 : Int) := hIN1319.1 84 18
      have hc1346 : N1319 84 18 = N1310 84 18 := hk1321 84 18 (Or.inl (by decide))
      have hc1347 : N1310 84 18 = N1299 84 18 := hk1318 84 18 rfl
      have hc1348 : N1299 84 18 = N1292 84 18 := hk1301 84 18 (Or.inl (by decide))
      have hc1349 : N1292 84 18 = N1263 84 18 := hk1298 84 18 rfl
      have hc1350 : N1263 84 18 = M 84 18 := hk1267 84 18 rfl
      have hr1351 : (0 : Int) ≤ N1319 84 19 ∧ N1319 84 19 ≤ (1 : Int) := hIN1319.1 84 19
      have hc1352 : N1319 84 19 = N1310 84 19 := hk1321 84 19 (Or.inl (by decide))
      have hc1353 : N1310 84 19 = N1299 84 19 := hk1318 84 19 rfl
      have hc1354 : N1299 84 19 = N1292 84 19 := hk1301 84 19 (Or.inl (by decide))
      have hc1355 : N1292 84 19 = N1263 84 19 := hk1298 84 19 rfl
      have hc1356 : N1263 84 19 = M 84 19 := hk1267 84 19 rfl
      have hr1357 : (0 : Int) ≤ N1319 84 20 ∧ N1319 84 20 ≤ (11 : Int) := hIN1319.1 84 20
      have hc1358 : N1319 84 20 = N1310 84 20 := hk1321 84 20 (Or.inl (by decide))
      have hc1359 : N1310 84 20 = N1299 84 20 := hk1318 84 20 rfl
      have hc1360 : N1299 84 20 = N1292 84 20 := hk1301 84 20 (Or.inl (by decide))
      have hc1361 : N1292 84 20 = N1263 84 20 := hk1298 84 20 rfl
      have hc1362 : N1263 84 20 = M 84 20 := hk1267 84 20 rfl
      have hc1363 : N1319 84 42 = N1310 84 42 := hk1321 84 42 (Or.inl (by decide))
      have hc1364 : N1310 84 42 = N1299 84 42 := hk1318 84 42 rfl
      have hc1365 : N1299 84 42 = N1292 84 42 := hk1301 84 42 (Or.inl (by decide))
      have hc1366 : N1292 84 42 = N1263 84 42 := hk1298 84 42 rfl
      have hc1367 : N1263 84 42 = M 84 42 := hk1267 84 42 rfl
      have hc1368 : N1319 84 48 = N1310 84 48 := hk1321 84 48 (Or.inl (by decide))
      have hc1369 : N1310 84 48 = N1299 84 48 := hk1318 84 48 rfl
      have hc1370 : N1299 84 48 = N1292 84 48 := hk1301 84 48 (Or.inl (by decide))
      have hc1371 : N1292 84 48 = N1263 84 48 := hk1298 84 48 rfl
      have hc1372 : N1263 84 48 = M 84 48 := hk1267 84 48 rfl
      have sc3 : N1319 106 (N1319 84 19) = M 106 (M 84 19) := by rw [show N1319 84 19 = M 84 19 by omega]; exact (stM_k he1320 106 _ (Or.inl (by decide))).trans ((hk1318 106 _ rfl).trans ((stM_k he1300 106 _ (Or.inl (by decide))).trans ((hk1298 106 _ rfl).trans (hk1267 106 _ rfl))))
      have hgh : GH N1319 := GH_fr (GH_fr (GH_fr (GH_fr (GH_fr p9 hk1267 rfl (fun _ => by omega)) hk1298 rfl (fun _ => by omega)) (stM_s he1300) rfl (fun _ => by omega)) hk1318 rfl (fun _ => by omega)) (stM_s he1320) rfl (fun _ => by omega)
      have hr1373 : (0 : Int) ≤ N1319 84 19 ∧ N1319 84 19 ≤ (1 : Int) := hIN1319.1 84 19
      have hc1374 : N1319 84 19 = N1310 84 19 := hk1321 84 19 (Or.inl (by decide))
      have hc1375 : N1310 84 19 = N1299 84 19 := hk1318 84 19 rfl
      have hc1376 : N1299 84 19 = N1292 84 19 := hk1301 84 19 (Or.inl (by decide))
      have hc1377 : N1292 84 19 = N1263 84 19 := hk1298 84 19 rfl
      have hc1378 : N1263 84 19 = M 84 19 := hk1267 84 19 rfl
      refine ⟨by omega, ?_⟩
      have hr1379 : (0 : Int) ≤ N1319 106 (N1319 84 19) ∧ N1319 106 (N1319 84 19) ≤ (12 : Int) := hIN1319.1 106 (N1319 84 19)
      have hc1380 : N1319 106 (N1319 84 19) = N1310 106 (N1319 84 19) := hk1321 106 (N1319 84 19) (Or.inl (by decide))
      have hc1381 : N1310 106 (N1319 84 19) = N1299 106 (N1319 84 19) := hk1318 106 (N1319 84 19) rfl
      have hc1382 : N1299 106 (N1319 84 19) = N1292 106 (N1319 84 19) := hk1301 106 (N1319 84 19) (Or.inl (by decide))
      have hc1383 : N1292 106 (N1319 84 19) = N1263 106 (N1319 84 19) := hk1298 106 (N1319 84 19) rfl
      have hc1384 : N1263 106 (N1319 84 19) = M 106 (N1319 84 19) := hk1267 106 (N1319 84 19) rfl
      refine ⟨fun hb1385 => ?_, fun hb1385 => ?_⟩
      · refine ⟨by omega, ?_⟩
        refine ⟨trivial, ?_⟩
        have hr1389 : (0 : Int) ≤ N1319 84 19 ∧ N1319 84 19 ≤ (1 : Int) := hIN1319.1 84 19
        have hc1390 : N1319 84 19 = N1310 84 19 := hk1321 84 19 (Or.inl (by decide))
        have hc1391 : N1310 84 19 = N1299 84 19 := hk1318 84 19 rfl
        have hc1392 : N1299 84 19 = N1292 84 19 := hk1301 84 19 (Or.inl (by decide))
        have hc1393 : N1292 84 19 = N1263 84 19 := hk1298 84 19 rfl
        have hc1394 : N1263 84 19 = M 84 19 := hk1267 84 19 rfl
        have hr1395 : (0 : Int) ≤ N1319 84 18 ∧ N1319 84 18 ≤ (1 : Int) := hIN1319.1 84 18
        have hc1396 : N1319 84 18 = N1310 84 18 := hk1321 84 18 (Or.inl (by decide))
        have hc1397 : N1310 84 18 = N1299 84 18 := hk1318 84 18 rfl
        have hc1398 : N1299 84 18 = N1292 84 18 := hk1301 84 18 (Or.inl (by decide))
        have hc1399 : N1292 84 18 = N1263 84 18 := hk1298 84 18 rfl
        have hc1400 : N1263 84 18 = M 84 18 := hk1267 84 18 rfl
        have hc1401 : N1319 84 48 = N1310 84 48 := hk1321 84 48 (Or.inl (by decide))
        have hc1402 : N1310 84 48 = N1299 84 48 := hk1318 84 48 rfl
        have hc1403 : N1299 84 48 = N1292 84 48 := hk1301 84 48 (Or.inl (by decide))
        have hc1404 : N1292 84 48 = N1263 84 48 := hk1298 84 48 rfl
        have hc1405 : N1263 84 48 = M 84 48 := hk1267 84 48 rfl
        have hr1406 : (0 : Int) ≤ N1319 84 11 ∧ N1319 84 11 ≤ (400 : Int) := hIN1319.1 84 11
        have hc1407 : N1319 84 11 = N1310 84 11 := hk1321 84 11 (Or.inl (by decide))
        have hr1408 : (0 : Int) ≤ N1319 84 13 ∧ N1319 84 13 ≤ (5 : Int) := hIN1319.1 84 13
        have hc1409 : N1319 84 13 = N1310 84 13 := hk1321 84 13 (Or.inl (by decide))
        have hr1410 : (0 : Int) ≤ N1319 84 12 ∧ N1319 84 12 ≤ (7 : Int) := hIN1319.1 84 12
        have hc1411 : N1319 84 12 = N1310 84 12 := hk1321 84 12 (Or.inl (by decide))
        have hc1412 : N1310 84 12 = N1299 84 12 := hk1318 84 12 rfl
        have hc1413 : N1299 84 12 = N1292 84 12 := hk1301 84 12 (Or.inl (by decide))
        have hc1414 : N1292 84 12 = N1263 84 12 := hk1298 84 12 rfl
        have hc1415 : N1263 84 12 = M 84 12 := hk1267 84 12 rfl
        have hc1416 : N1319 84 42 = N1310 84 42 := hk1321 84 42 (Or.inl (by decide))
        have hc1417 : N1310 84 42 = N1299 84 42 := hk1318 84 42 rfl
        have hc1418 : N1299 84 42 = N1292 84 42 := hk1301 84 42 (Or.inl (by decide))
        have hc1419 : N1292 84 42 = N1263 84 42 := hk1298 84 42 rfl
        have hc1420 : N1263 84 42 = M 84 42 := hk1267 84 42 rfl
        refine CV_mono (c_X12_tellLaw T (hIN1319) (show N1319 84 19 = 1 - N1319 84 18 by omega) (by assumption) (show ((28 + 0) : Int) < 40 by omega) (show 420 * N1319 84 19 ≤ N1319 84 48 by omega) (show N1319 84 48 - 420 * N1319 84 19 ≤ N1319 84 11 + 2 by omega) (show N1319 84 13 = 0 → N1319 84 12 = 0 ∧ N1319 84 48 - 420 * N1319 84 19 ≤ N1319 84 11 ∧ 4 * (N1319 84 42 - 130 * N1319 84 19) + 2 ≤ N1319 84 11 by omega) (show 130 * N1319 84 19 ≤ N1319 84 42 by omega) (show N1319 84 42 ≤ 130 * N1319 84 19 + 100 by omega)) (fun N1387 hp1388 => ?_)
        obtain ⟨hIN1387, hk1421, hj1422, hj1423, hp1388⟩ := hp1388
        have hr1424 : (0 : Int) ≤ N1387 84 11 ∧ N1387 84 11 ≤ (400 : Int) := hIN1387.1 84 11
        have hr1425 : (0 : Int) ≤ N1387 84 12 ∧ N1387 84 12 ≤ (7 : Int) := hIN1387.1 84 12
        have hr1426 : (0 : Int) ≤ N1387 84 13 ∧ N1387 84 13 ≤ (5 : Int) := hIN1387.1 84 13
        have hr1427 : (0 : Int) ≤ N1387 84 15 ∧ N1387 84 15 ≤ (5 : Int) := hIN1387.1 84 15
        have hc1428 : N1387 84 15 = N1319 84 15 := hk1421 84 15 rfl
        have hc1429 : N1319 84 15 = N1310 84 15 := hk1321 84 15 (Or.inl (by decide))
        have hr1430 : (0 : Int) ≤ N1387 84 18 ∧ N1387 84 18 ≤ (1 : Int) := hIN1387.1 84 18
        have hc1431 : N1387 84 18 = N1319 84 18 := hk1421 84 18 rfl
        have hc1432 : N1319 84 18 = N1310 84 18 := hk1321 84 18 (Or.inl (by decide))
        have hc1433 : N1310 84 18 = N1299 84 18 := hk1318 84 18 rfl
        have hc1434 : N1299 84 18 = N1292 84 18 := hk1301 84 18 (Or.inl (by decide))
        have hc1435 : N1292 84 18 = N1263 84 18 := hk1298 84 18 rfl
        have hc1436 : N1263 84 18 = M 84 18 := hk1267 84 18 rfl
        have hr1437 : (0 : Int) ≤ N1387 84 19 ∧ N1387 84 19 ≤ (1 : Int) := hIN1387.1 84 19
        have hc1438 : N1387 84 19 = N1319 84 19 := hk1421 84 19 rfl
        have hc1439 : N1319 84 19 = N1310 84 19 := hk1321 84 19 (Or.inl (by decide))
        have hc1440 : N1310 84 19 = N1299 84 19 := hk1318 84 19 rfl
        have hc1441 : N1299 84 19 = N1292 84 19 := hk1301 84 19 (Or.inl (by decide))
        have hc1442 : N1292 84 19 = N1263 84 19 := hk1298 84 19 rfl
        have hc1443 : N1263 84 19 = M 84 19 := hk1267 84 19 rfl
        have hr1444 : (0 : Int) ≤ N1387 84 20 ∧ N1387 84 20 ≤ (11 : Int) := hIN1387.1 84 20
        have hc1445 : N1387 84 20 = N1319 84 20 := hk1421 84 20 rfl
        have hc1446 : N1319 84 20 = N1310 84 20 := hk1321 84 20 (Or.inl (by decide))
        have hc1447 : N1310 84 20 = N1299 84 20 := hk1318 84 20 rfl
        have hc1448 : N1299 84 20 = N1292 84 20 := hk1301 84 20 (Or.inl (by decide))
        have hc1449 : N1292 84 20 = N1263 84 20 := hk1298 84 20 rfl
        have hc1450 : N1263 84 20 = M 84 20 := hk1267 84 20 rfl
        have sc4 : N1387 106 (N1387 84 19) = M 106 (M 84 19) := by rw [show N1387 84 19 = M 84 19 by omega]; exact (hk1421 106 _ rfl).trans ((stM_k he1320 106 _ (Or.inl (by decide))).trans ((hk1318 106 _ rfl).trans ((stM_k he1300 106 _ (Or.inl (by decide))).trans ((hk1298 106 _ rfl).trans (hk1267 106 _ rfl)))))
        have hr1451 : (0 : Int) ≤ N1387 84 13 ∧ N1387 84 13 ≤ (5 : Int) := hIN1387.1 84 13
        refine ⟨fun hb1452 => ?_, fun hb1452 => ?_⟩
        · have hr1453 : (0 : Int) ≤ N1387 84 11 ∧ N1387 84 11 ≤ (400 : Int) := hIN1387.1 84 11
          have hr1454 : (0 : Int) ≤ N1387 84 13 ∧ N1387 84 13 ≤ (5 : Int) := hIN1387.1 84 13
          have hr1455 : (0 : Int) ≤ N1387 84 12 ∧ N1387 84 12 ≤ (7 : Int) := hIN1387.1 84 12
          have hr1456 : (0 : Int) ≤ N1387 84 20 ∧ N1387 84 20 ≤ (11 : Int) := hIN1387.1 84 20
          have hc1457 : N1387 84 20 = N1319 84 20 := hk1421 84 20 rfl
          have hc1458 : N1319 84 20 = N1310 84 20 := hk1321 84 20 (Or.inl (by decide))
          have hc1459 : N1310 84 20 = N1299 84 20 := hk1318 84 20 rfl
          have hc1460 : N1299 84 20 = N1292 84 20 := hk1301 84 20 (Or.inl (by decide))
          have hc1461 : N1292 84 20 = N1263 84 20 := hk1298 84 20 rfl
          have hc1462 : N1263 84 20 = M 84 20 := hk1267 84 20 rfl
          have hsm : qSm [(84, some 11), (84, some 12), (84, some 13), (84, some 14), (84, some 15), (84, some 16), (84, some 20), (84, some 42), (84, some 48), (84, some 52), (92, none), (93, none), (94, none), (95, none), (96, none), (97, none), (98, none), (99, none), (100, none), (101, none), (102, none), (103, none), (104, none), (105, none), (106, none), (107, none), (108, none), (109, none), (110, none), (111, none), (112, none), (113, none), (114, none), (115, none), (116, none), (117, none), (118, none), (119, none), (120, none)] M N1387 := by
            intro b j hbj
            rw [hk1421 b j (qSm_sub hbj rfl), hk1321 b j (qSm_ne hbj rfl), hk1318 b j (qSm_sub hbj rfl), hk1301 b j (qSm_ne hbj rfl), hk1298 b j (qSm_sub hbj rfl), hk1267 b j (qSm_sub hbj rfl)]
          exact ⟨rfl, rfl, hIN1387, hsm, by omega, by omega, by omega, by first | exact hNM | exact fun h1 => absurd h1 (by omega), by first | exact hGH | exact fun h1 => absurd h1 (by omega), by first | exact hNA | exact fun h1 => absurd h1 (by omega), by first | exact hGG | exact fun h1 _ => absurd h1 (by omega)⟩
        · have hr1463 : (0 : Int) ≤ N1387 84 19 ∧ N1387 84 19 ≤ (1 : Int) := hIN1387.1 84 19
          have hc1464 : N1387 84 19 = N1319 84 19 := hk1421 84 19 rfl
          have hc1465 : N1319 84 19 = N1310 84 19 := hk1321 84 19 (Or.inl (by decide))
          have hc1466 : N1310 84 19 = N1299 84 19 := hk1318 84 19 rfl
          have hc1467 : N1299 84 19 = N1292 84 19 := hk1301 84 19 (Or.inl (by decide))
          have hc1468 : N1292 84 19 = N1263 84 19 := hk1298 84 19 rfl
          have hc1469 : N1263 84 19 = M 84 19 := hk1267 84 19 rfl
          refine ⟨by omega, ?_⟩
          have hr1470 : (0 : Int) ≤ N1387 106 (N1387 84 19) ∧ N1387 106 (N1387 84 19) ≤ (12 : Int) := hIN1387.1 106 (N1387 84 19)
          have hc1471 : N1387 106 (N1387 84 19) = N1319 106 (N1387 84 19) := hk1421 106 (N1387 84 19) rfl
          have hc1472 : N1319 106 (N1387 84 19) = N1310 106 (N1387 84 19) := hk1321 106 (N1387 84 19) (Or.inl (by decide))
          have hc1473 : N1310 106 (N1387 84 19) = N1299 106 (N1387 84 19) := hk1318 106 (N1387 84 19) rfl
          have hc1474 : N1299 106 (N1387 84 19) = N1292 106 (N1387 84 19) := hk1301 106 (N1387 84 19) (Or.inl (by decide))
          have hc1475 : N1292 106 (N1387 84 19) = N1263 106 (N1387 84 19) := hk1298 106 (N1387 84 19) rfl
          have hc1476 : N1263 106 (N1387 84 19) = M 106 (N1387 84 19) := hk1267 106 (N1387 84 19) rfl
          refine ⟨by omega, ?_⟩
          refine ⟨by omega, ?_⟩
          obtain ⟨N1477, he1478⟩ : ∃ X : qM, X = stM N1387 106 (N1387 84 19) ((N1387 106 (N1387 84 19)) + 1) := ⟨_, rfl⟩
          rw [← he1478]
          have hk1479 := stM_k he1478
          have hg1480 := stM_g he1478
          have hr1481 : (0 : Int) ≤ N1387 84 18 ∧ N1387 84 18 ≤ (1 : Int) := hIN1387.1 84 18
          have hc1482 : N1387 84 18 = N1319 84 18 := hk1421 84 18 rfl
          have hc1483 : N1319 84 18 = N1310 84 18 := hk1321 84 18 (Or.inl (by decide))
          have hc1484 : N1310 84 18 = N1299 84 18 := hk1318 84 18 rfl
          have hc1485 : N1299 84 18 = N1292 84 18 := hk1301 84 18 (Or.inl (by decide))
          have hc1486 : N1292 84 18 = N1263 84 18 := hk1298 84 18 rfl
          have hc1487 : N1263 84 18 = M 84 18 := hk1267 84 18 rfl
          have hr1488 : (0 : Int) ≤ N1387 84 19 ∧ N1387 84 19 ≤ (1 : Int) := hIN1387.1 84 19
          have hc1489 : N1387 84 19 = N1319 84 19 := hk1421 84 19 rfl
          have hc1490 : N1319 84 19 = N1310 84 19 := hk1321 84 19 (Or.inl (by decide))
          have hc1491 : N1310 84 19 = N1299 84 19 := hk1318 84 19 rfl
          have hc1492 : N1299 84 19 = N1292 84 19 := hk1301 84 19 (Or.inl (by decide))
          have hc1493 : N1292 84 19 = N1263 84 19 := hk1298 84 19 rfl
          have hc1494 : N1263 84 19 = M 84 19 := hk1267 84 19 rfl
          have hIN1477 : INV S N1477 := INV_side (w := 1) hIN1387 he1478 (show (0 : Int) ≤ _ ∧ _ ≤ (12 : Int) from ⟨by omega, by omega⟩) (by decide) (by omega)
          have hr1495 : (0 : Int) ≤ N1477 84 11 ∧ N1477 84 11 ≤ (400 : Int) := hIN1477.1 84 11
          have hc1496 : N1477 84 11 = N1387 84 11 := hk1479 84 11 (Or.inl (by decide))
          have hr1497 : (0 : Int) ≤ N1477 84 12 ∧ N1477 84 12 ≤ (7 : Int) := hIN1477.1 84 12
          have hc1498 : N1477 84 12 = N1387 84 12 := hk1479 84 12 (Or.inl (by decide))
          have hr1499 : (0 : Int) ≤ N1477 84 13 ∧ N1477 84 13 ≤ (5 : Int) := hIN1477.1 84 13
          have hc1500 : N1477 84 13 = N1387 84 13 := hk1479 84 13 (Or.inl (by decide))
          have hr1501 : (0 : Int) ≤ N1477 84 15 ∧ N1477 84 15 ≤ (5 : Int) := hIN1477.1 84 15
          have hc1502 : N1477 84 15 = N1387 84 15 := hk1479 84 15 (Or.inl (by decide))
          have hc1503 : N1387 84 15 = N1319 84 15 := hk1421 84 15 rfl
          have hc1504 : N1319 84 15 = N1310 84 15 := hk1321 84 15 (Or.inl (by decide))
          have hr1505 : (0 : Int) ≤ N1477 84 18 ∧ N1477 84 18 ≤ (1 : Int) := hIN1477.1 84 18
          have hc1506 : N1477 84 18 = N1387 84 18 := hk1479 84 18 (Or.inl (by decide))
          have hc1507 : N1387 84 18 = N1319 84 18 := hk1421 84 18 rfl
          have hc1508 : N1319 84 18 = N1310 84 18 := hk1321 84 18 (Or.inl (by decide))
          have hc1509 : N1310 84 18 = N1299 84 18 := hk1318 84 18 rfl
          have hc1510 : N1299 84 18 = N1292 84 18 := hk1301 84 18 (Or.inl (by decide))
          have hc1511 : N1292 84 18 = N1263 84 18 := hk1298 84 18 rfl
          have hc1512 : N1263 84 18 = M 84 18 := hk1267 84 18 rfl
          have hr1513 : (0 : Int) ≤ N1477 84 19 ∧ N1477 84 19 ≤ (1 : Int) := hIN1477.1 84 19
          have hc1514 : N1477 84 19 = N1387 84 19 := hk1479 84 19 (Or.inl (by decide))
          have hc1515 : N1387 84 19 = N1319 84 19 := hk1421 84 19 rfl
          have hc1516 : N1319 84 19 = N1310 84 19 := hk1321 84 19 (Or.inl (by decide))
          have hc1517 : N1310 84 19 = N1299 84 19 := hk1318 84 19 rfl
          have hc1518 : N1299 84 19 = N1292 84 19 := hk1301 84 19 (Or.inl (by decide))
          have hc1519 : N1292 84 19 = N1263 84 19 := hk1298 84 19 rfl
          have hc1520 : N1263 84 19 = M 84 19 := hk1267 84 19 rfl
          have hr1521 : (0 : Int) ≤ N1477 84 20 ∧ N1477 84 20 ≤ (11 : Int) := hIN1477.1 84 20
          have hc1522 : N1477 84 20 = N1387 84 20 := hk1479 84 20 (Or.inl (by decide))
          have hc1523 : N1387 84 20 = N1319 84 20 := hk1421 84 20 rfl
          have hc1524 : N1319 84 20 = N1310 84 20 := hk1321 84 20 (Or.inl (by decide))
          have hc1525 : N1310 84 20 = N1299 84 20 := hk1318 84 20 rfl
          have hc1526 : N1299 84 20 = N1292 84 20 := hk1301 84 20 (Or.inl (by decide))
          have hc1527 : N1292 84 20 = N1263 84 20 := hk1298 84 20 rfl
          have hc1528 : N1263 84 20 = M 84 20 := hk1267 84 20 rfl
          have hc1529 : N1477 84 42 = N1387 84 42 := hk1479 84 42 (Or.inl (by decide))
          have hc1530 : N1477 84 48 = N1387 84 48 := hk1479 84 48 (Or.inl (by decide))
          have hGH : GH N1477 := GH_fr hp1388.2.2.2.2.2.2 (stM_s he1478) rfl (fun _ => by omega)
          have hNA : N1477 84 13 = 0 → NA N1477 := fun _ => NA_fr (NA_fr (NA_fr (NA_fr hna hk1318 rfl) (stM_s he1320) rfl) hk1421 rfl) (stM_s he1478) rfl
          have hNM : N1477 84 13 = 0 → N1477 84 20 = N1477 95 (M 84 19) + N1477 100 (M 84 19) := fun h => by rw [stM_k he1478 84 20 (Or.inl (by decide)), hk1421 84 20 rfl, stM_k he1320 84 20 (Or.inl (by decide)), hk1318 84 20 rfl, stM_k he1300 84 20 (Or.inl (by decide)), hk1298 84 20 rfl, hk1267 84 20 rfl, stM_k he1478 95 _ (Or.inl (by decide)), hk1421 95 _ rfl, stM_k he1320 95 _ (Or.inl (by decide)), hk1318 95 _ rfl, stM_k he1300 95 _ (Or.inl (by decide)), hk1298 95 _ rfl, hk1267 95 _ rfl, stM_k he1478 100 _ (Or.inl (by decide)), hk1421 100 _ rfl, stM_k he1320 100 _ (Or.inl (by decide)), hk1318 100 _ rfl, stM_k he1300 100 _ (Or.inl (by decide)), hk1298 100 _ rfl, hk1267 100 _ rfl]; exact p8
          have h103 : N1477 106 (M 84 19) = M 106 (M 84 19) + 1 := by have e := stM_g he1478; rw [show N1387 84 19 = M 84 19 by omega] at e; have e2 := sc4; rw [show N1387 84 19 = M 84 19 by omega] at e2; omega
          have hsm0 : qSm [(84, some 11), (84, some 12), (84, some 13), (84, some 14), (84, some 15), (84, some 16), (84, some 42), (84, some 48), (84, some 52), (106, none), (107, none), (108, none), (111, none), (112, none), (113, none), (114, none), (115, none), (116, none), (117, none), (118, none), (119, none), (120, none)] M N1477 := (by intro b j hbj; rw [hk1479 b j (qSm_ne hbj rfl), hk1421 b j (qSm_sub hbj rfl), hk1321 b j (qSm_ne hbj rfl), hk1318 b j (qSm_sub hbj rfl), hk1301 b j (qSm_ne hbj rfl), hk1298 b j (qSm_sub hbj rfl), hk1267 b j (qSm_sub hbj rfl)])
          have hGG : GG N1477 := GG_want p11 (by omega) (fun _ _ => by omega) (by omega) h103 (fun j hj => by rw [stM_k he1478 107 _ (Or.inl (by decide)), hk1421 107 _ rfl, stM_k he1320 107 _ (Or.inl (by decide)), hk1318 107 _ rfl, stM_k he1300 107 _ (Or.inr (by omega)), hk1298 107 _ rfl, hk1267 107 _ rfl]) (fun j hj => by rw [stM_k he1478 108 _ (Or.inl (by decide)), hk1421 108 _ rfl, stM_k he1320 108 _ (Or.inr (by omega)), hk1318 108 _ rfl, stM_k he1300 108 _ (Or.inl (by decide)), hk1298 108 _ rfl, hk1267 108 _ rfl]) (fun b hb => by
            simp only [List.contains_cons, List.contains_nil, Bool.or_false, Bool.or_eq_true, beq_iff_eq] at hb
            funext j
            exact hsm0 b j (by rcases hb with rfl | rfl | rfl | rfl | rfl | rfl | rfl | rfl | rfl | rfl <;> rfl)) (fun h1 h2 => by
            rw [stM_k he1478 107 _ (Or.inl (by decide)), hk1421 107 _ rfl, stM_k he1320 107 _ (Or.inl (by decide)), hk1318 107 _ rfl, show 12 * M 84 19 + M 106 (M 84 19) = ((12 * (N1263 84 19)) + 0) by omega, stM_g he1300, stM_k he1478 108 _ (Or.inl (by decide)), hk1421 108 _ rfl, stM_g he1320]
            omega)
          have hr1531 : (0 : Int) ≤ N1477 84 11 ∧ N1477 84 11 ≤ (400 : Int) := hIN1477.1 84 11
          have hc1532 : N1477 84 11 = N1387 84 11 := hk1479 84 11 (Or.inl (by decide))
          have hr1533 : (0 : Int) ≤ N1477 84 13 ∧ N1477 84 13 ≤ (5 : Int) := hIN1477.1 84 13
          have hc1534 : N1477 84 13 = N1387 84 13 := hk1479 84 13 (Or.inl (by decide))
          have hr1535 : (0 : Int) ≤ N1477 84 12 ∧ N1477 84 12 ≤ (7 : Int) := hIN1477.1 84 12
          have hc1536 : N1477 84 12 = N1387 84 12 := hk1479 84 12 (Or.inl (by decide))
          have hc1537 : N1477 84 48 = N1387 84 48 := hk1479 84 48 (Or.inl (by decide))
          have hc1538 : N1477 84 42 = N1387 84 42 := hk1479 84 42 (Or.inl (by decide))
          have hr1539 : (0 : Int) ≤ N1477 84 20 ∧ N1477 84 20 ≤ (11 : Int) := hIN1477.1 84 20
          have hc1540 : N1477 84 20 = N1387 84 20 := hk1479 84 20 (Or.inl (by decide))
          have hc1541 : N1387 84 20 = N1319 84 20 := hk1421 84 20 rfl
          have hc1542 : N1319 84 20 = N1310 84 20 := hk1321 84 20 (Or.inl (by decide))
          have hc1543 : N1310 84 20 = N1299 84 20 := hk1318 84 20 rfl
          have hc1544 : N1299 84 20 = N1292 84 20 := hk1301 84 20 (Or.inl (by decide))
          have hc1545 : N1292 84 20 = N1263 84 20 := hk1298 84 20 rfl
          have hc1546 : N1263 84 20 = M 84 20 := hk1267 84 20 rfl
          have hsm : qSm [(84, some 11), (84, some 12), (84, some 13), (84, some 14), (84, some 15), (84, some 16), (84, some 20), (84, some 42), (84, some 48), (84, some 52), (92, none), (93, none), (94, none), (95, none), (96, none), (97, none), (98, none), (99, none), (100, none), (101, none), (102, none), (103, none), (104, none), (105, none), (106, none), (107, none), (108, none), (109, none), (110, none), (111, none), (112, none), (113, none), (114, none), (115, none), (116, none), (117, none), (118, none), (119, none), (120, none)] M N1477 := by
            intro b j hbj
            rw [hk1479 b j (qSm_ne hbj rfl), hk1421 b j (qSm_sub hbj rfl), hk1321 b j (qSm_ne hbj rfl), hk1318 b j (qSm_sub hbj rfl), hk1301 b j (qSm_ne hbj rfl), hk1298 b j (qSm_sub hbj rfl), hk1267 b j (qSm_sub hbj rfl)]
          exact ⟨rfl, rfl, hIN1477, hsm, by omega, by omega, by omega, by first | exact hNM | exact fun h1 => absurd h1 (by omega), by first | exact hGH | exact fun h1 => absurd h1 (by omega), by first | exact hNA | exact fun h1 => absurd h1 (by omega), by first | exact hGG | exact fun h1 _ => absurd h1 (by omega)⟩
      · have hr1547 : (0 : Int) ≤ N1319 84 19 ∧ N1319 84 19 ≤ (1 : Int) := hIN1319.1 84 19
        have hc1548 : N1319 84 19 = N1310 84 19 := hk1321 84 19 (Or.inl (by decide))
        have hc1549 : N1310 84 19 = N1299 84 19 := hk1318 84 19 rfl
        have hc1550 : N1299 84 19 = N1292 84 19 := hk1301 84 19 (Or.inl (by decide))
        have hc1551 : N1292 84 19 = N1263 84 19 := hk1298 84 19 rfl
        have hc1552 : N1263 84 19 = M 84 19 := hk1267 84 19 rfl
        refine ⟨by omega, ?_⟩
        have hr1553 : (0 : Int) ≤ N1319 106 (N1319 84 19) ∧ N1319 106 (N1319 84 19) ≤ (12 : Int) := hIN1319.1 106 (N1319 84 19)
        have hc1554 : N1319 106 (N1319 84 19) = N1310 106 (N1319 84 19) := hk1321 106 (N1319 84 19) (Or.inl (by decide))
        have hc1555 : N1310 106 (N1319 84 19) = N1299 106 (N1319 84 19) := hk1318 106 (N1319 84 19) rfl
        have hc1556 : N1299 106 (N1319 84 19) = N1292 106 (N1319 84 19) := hk1301 106 (N1319 84 19) (Or.inl (by decide))
        have hc1557 : N1292 106 (N1319 84 19) = N1263 106 (N1319 84 19) := hk1298 106 (N1319 84 19) rfl
        have hc1558 : N1263 106 (N1319 84 19) = M 106 (N1319 84 19) := hk1267 106 (N1319 84 19) rfl
        refine ⟨by omega, ?_⟩
        refine ⟨trivial, ?_⟩
        have hr1562 : (0 : Int) ≤ N1319 84 19 ∧ N1319 84 19 ≤ (1 : Int) := hIN1319.1 84 19
        have hc1563 : N1319 84 19 = N1310 84 19 := hk1321 84 19 (Or.inl (by decide))
        have hc1564 : N1310 84 19 = N1299 84 19 := hk1318 84 19 rfl
        have hc1565 : N1299 84 19 = N1292 84 19 := hk1301 84 19 (Or.inl (by decide))
        have hc1566 : N1292 84 19 = N1263 84 19 := hk1298 84 19 rfl
        have hc1567 : N1263 84 19 = M 84 19 := hk1267 84 19 rfl
        have hr1568 : (0 : Int) ≤ N1319 84 18 ∧ N1319 84 18 ≤ (1 : Int) := hIN1319.1 84 18
        have hc1569 : N1319 84 18 = N1310 84 18 := hk1321 84 18 (Or.inl (by decide))
        have hc1570 : N1310 84 18 = N1299 84 18 := hk1318 84 18 rfl
        have hc1571 : N1299 84 18 = N1292 84 18 := hk1301 84 18 (Or.inl (by decide))
        have hc1572 : N1292 84 18 = N1263 84 18 := hk1298 84 18 rfl
        have hc1573 : N1263 84 18 = M 84 18 := hk1267 84 18 rfl
        have hc1574 : N1319 84 48 = N1310 84 48 := hk1321 84 48 (Or.inl (by decide))
        have hc1575 : N1310 84 48 = N1299 84 48 := hk1318 84 48 rfl
        have hc1576 : N1299 84 48 = N1292 84 48 := hk1301 84 48 (Or.inl (by decide))
        have hc1577 : N1292 84 48 = N1263 84 48 := hk1298 84 48 rfl
        have hc1578 : N1263 84 48 = M 84 48 := hk1267 84 48 rfl
        have hr1579 : (0 : Int) ≤ N1319 84 11 ∧ N1319 84 11 ≤ (400 : Int) := hIN1319.1 84 11
        have hc1580 : N1319 84 11 = N1310 84 11 := hk1321 84 11 (Or.inl (by decide))
        have hr1581 : (0 : Int) ≤ N1319 84 13 ∧ N1319 84 13 ≤ (5 : Int) := hIN1319.1 84 13
        have hc1582 : N1319 84 13 = N1310 84 13 := hk1321 84 13 (Or.inl (by decide))
        have hr1583 : (0 : Int) ≤ N1319 84 12 ∧ N1319 84 12 ≤ (7 : Int) := hIN1319.1 84 12
        have hc1584 : N1319 84 12 = N1310 84 12 := hk1321 84 12 (Or.inl (by decide))
        have hc1585 : N1310 84 12 = N1299 84 12 := hk1318 84 12 rfl
        have hc1586 : N1299 84 12 = N1292 84 12 := hk1301 84 12 (Or.inl (by decide))
        have hc1587 : N1292 84 12 = N1263 84 12 := hk1298 84 12 rfl
        have hc1588 : N1263 84 12 = M 84 12 := hk1267 84 12 rfl
        have hc1589 : N1319 84 42 = N1310 84 42 := hk1321 84 42 (Or.inl (by decide))
        have hc1590 : N1310 84 42 = N1299 84 42 := hk1318 84 42 rfl
        have hc1591 : N1299 84 42 = N1292 84 42 := hk1301 84 42 (Or.inl (by decide))
        have hc1592 : N1292 84 42 = N1263 84 42 := hk1298 84 42 rfl
        have hc1593 : N1263 84 42 = M 84 42 := hk1267 84 42 rfl
        refine CV_mono (c_X12_tellLaw T (hIN1319) (show N1319 84 19 = 1 - N1319 84 18 by omega) (by assumption) (show ((28 + (N1319 106 (N1319 84 19))) : Int) < 40 by omega) (show 420 * N1319 84 19 ≤ N1319 84 48 by omega) (show N1319 84 48 - 420 * N1319 84 19 ≤ N1319 84 11 + 2 by omega) (show N1319 84 13 = 0 → N1319 84 12 = 0 ∧ N1319 84 48 - 420 * N1319 84 19 ≤ N1319 84 11 ∧ 4 * (N1319 84 42 - 130 * N1319 84 19) + 2 ≤ N1319 84 11 by omega) (show 130 * N1319 84 19 ≤ N1319 84 42 by omega) (show N1319 84 42 ≤ 130 * N1319 84 19 + 100 by omega)) (fun N1560 hp1561 => ?_)
        obtain ⟨hIN1560, hk1594, hj1595, hj1596, hp1561⟩ := hp1561
        have hr1597 : (0 : Int) ≤ N1560 84 11 ∧ N1560 84 11 ≤ (400 : Int) := hIN1560.1 84 11
        have hr1598 : (0 : Int) ≤ N1560 84 12 ∧ N1560 84 12 ≤ (7 : Int) := hIN1560.1 84 12
        have hr1599 : (0 : Int) ≤ N1560 84 13 ∧ N1560 84 13 ≤ (5 : Int) := hIN1560.1 84 13
        have hr1600 : (0 : Int) ≤ N1560 84 15 ∧ N1560 84 15 ≤ (5 : Int) := hIN1560.1 84 15
        have hc1601 : N1560 84 15 = N1319 84 15 := hk1594 84 15 rfl
        have hc1602 : N1319 84 15 = N1310 84 15 := hk1321 84 15 (Or.inl (by decide))
        have hr1603 : (0 : Int) ≤ N1560 84 18 ∧ N1560 84 18 ≤ (1 : Int) := hIN1560.1 84 18
        have hc1604 : N1560 84 18 = N1319 84 18 := hk1594 84 18 rfl
        have hc1605 : N1319 84 18 = N1310 84 18 := hk1321 84 18 (Or.inl (by decide))
        have hc1606 : N1310 84 18 = N1299 84 18 := hk1318 84 18 rfl
        have hc1607 : N1299 84 18 = N1292 84 18 := hk1301 84 18 (Or.inl (by decide))
        have hc1608 : N1292 84 18 = N1263 84 18 := hk1298 84 18 rfl
        have hc1609 : N1263 84 18 = M 84 18 := hk1267 84 18 rfl
        have hr1610 : (0 : Int) ≤ N1560 84 19 ∧ N1560 84 19 ≤ (1 : Int) := hIN1560.1 84 19
        have hc1611 : N1560 84 19 = N1319 84 19 := hk1594 84 19 rfl
        have hc1612 : N1319 84 19 = N1310 84 19 := hk1321 84 19 (Or.inl (by decide))
        have hc1613 : N1310 84 19 = N1299 84 19 := hk1318 84 19 rfl
        have hc1614 : N1299 84 19 = N1292 84 19 := hk1301 84 19 (Or.inl (by decide))
        have hc1615 : N1292 84 19 = N1263 84 19 := hk1298 84 19 rfl
        have hc1616 : N1263 84 19 = M 84 19 := hk1267 84 19 rfl
        have hr1617 : (0 : Int) ≤ N1560 84 20 ∧ N1560 84 20 ≤ (11 : Int) := hIN1560.1 84 20
        have hc1618 : N1560 84 20 = N1319 84 20 := hk1594 84 20 rfl
        have hc1619 : N1319 84 20 = N1310 84 20 := hk1321 84 20 (Or.inl (by decide))
        have hc1620 : N1310 84 20 = N1299 84 20 := hk1318 84 20 rfl
        have hc1621 : N1299 84 20 = N1292 84 20 := hk1301 84 20 (Or.inl (by decide))
        have hc1622 : N1292 84 20 = N1263 84 20 := hk1298 84 20 rfl
        have hc1623 : N1263 84 20 = M 84 20 := hk1267 84 20 rfl
        have sc4 : N1560 106 (N1560 84 19) = M 106 (M 84 19) := by rw [show N1560 84 19 = M 84 19 by omega]; exact (hk1594 106 _ rfl).trans ((stM_k he1320 106 _ (Or.inl (by decide))).trans ((hk1318 106 _ rfl).trans ((stM_k he1300 106 _ (Or.inl (by decide))).trans ((hk1298 106 _ rfl).trans (hk1267 106 _ rfl)))))
        have hr1624 : (0 : Int) ≤ N1560 84 13 ∧ N1560 84 13 ≤ (5 : Int) := hIN1560.1 84 13
        refine ⟨fun hb1625 => ?_, fun hb1625 => ?_⟩
        · have hr1626 : (0 : Int) ≤ N1560 84 11 ∧ N1560 84 11 ≤ (400 : Int) := hIN1560.1 84 11
          have hr1627 : (0 : Int) ≤ N1560 84 13 ∧ N1560 84 13 ≤ (5 : Int) := hIN1560.1 84 13
          have hr1628 : (0 : Int) ≤ N1560 84 12 ∧ N1560 84 12 ≤ (7 : Int) := hIN1560.1 84 12
          have hr1629 : (0 : Int) ≤ N1560 84 20 ∧ N1560 84 20 ≤ (11 : Int) := hIN1560.1 84 20
          have hc1630 : N1560 84 20 = N1319 84 20 := hk1594 84 20 rfl
          have hc1631 : N1319 84 20 = N1310 84 20 := hk1321 84 20 (Or.inl (by decide))
          have hc1632 : N1310 84 20 = N1299 84 20 := hk1318 84 20 rfl
          have hc1633 : N1299 84 20 = N1292 84 20 := hk1301 84 20 (Or.inl (by decide))
          have hc1634 : N1292 84 20 = N1263 84 20 := hk1298 84 20 rfl
          have hc1635 : N1263 84 20 = M 84 20 := hk1267 84 20 rfl
          have hsm : qSm [(84, some 11), (84, some 12), (84, some 13), (84, some 14), (84, some 15), (84, some 16), (84, some 20), (84, some 42), (84, some 48), (84, some 52), (92, none), (93, none), (94, none), (95, none), (96, none), (97, none), (98, none), (99, none), (100, none), (101, none), (102, none), (103, none), (104, none), (105, none), (106, none), (107, none), (108, none), (109, none), (110, none), (111, none), (112, none), (113, none), (114, none), (115, none), (116, none), (117, none), (118, none), (119, none), (120, none)] M N1560 := by
            intro b j hbj
            rw [hk1594 b j (qSm_sub hbj rfl), hk1321 b j (qSm_ne hbj rfl), hk1318 b j (qSm_sub hbj rfl), hk1301 b j (qSm_ne hbj rfl), hk1298 b j (qSm_sub hbj rfl), hk1267 b j (qSm_sub hbj rfl)]
          exact ⟨rfl, rfl, hIN1560, hsm, by omega, by omega, by omega, by first | exact hNM | exact fun h1 => absurd h1 (by omega), by first | exact hGH | exact fun h1 => absurd h1 (by omega), by first | exact hNA | exact fun h1 => absurd h1 (by omega), by first | exact hGG | exact fun h1 _ => absurd h1 (by omega)⟩
        · have hr1636 : (0 : Int) ≤ N1560 84 19 ∧ N1560 84 19 ≤ (1 : Int) := hIN1560.1 84 19
          have hc1637 : N1560 84 19 = N1319 84 19 := hk1594 84 19 rfl
          have hc1638 : N1319 84 19 = N1310 84 19 := hk1321 84 19 (Or.inl (by decide))
          have hc1639 : N1310 84 19 = N1299 84 19 := hk1318 84 19 rfl
          have hc1640 : N1299 84 19 = N1292 84 19 := hk1301 84 19 (Or.inl (by decide))
          have hc1641 : N1292 84 19 = N1263 84 19 := hk1298 84 19 rfl
          have hc1642 : N1263 84 19 = M 84 19 := hk1267 84 19 rfl
          refine ⟨by omega, ?_⟩
          have hr1643 : (0 : Int) ≤ N1560 106 (N1560 84 19) ∧ N1560 106 (N1560 84 19) ≤ (12 : Int) := hIN1560.1 106 (N1560 84 19)
          have hc1644 : N1560 106 (N1560 84 19) = N1319 106 (N1560 84 19) := hk1594 106 (N1560 84 19) rfl
          have hc1645 : N1319 106 (N1560 84 19) = N1310 106 (N1560 84 19) := hk1321 106 (N1560 84 19) (Or.inl (by decide))
          have hc1646 : N1310 106 (N1560 84 19) = N1299 106 (N1560 84 19) := hk1318 106 (N1560 84 19) rfl
          have hc1647 : N1299 106 (N1560 84 19) = N1292 106 (N1560 84 19) := hk1301 106 (N1560 84 19) (Or.inl (by decide))
          have hc1648 : N1292 106 (N1560 84 19) = N1263 106 (N1560 84 19) := hk1298 106 (N1560 84 19) rfl
          have hc1649 : N1263 106 (N1560 84 19) = M 106 (N1560 84 19) := hk1267 106 (N1560 84 19) rfl
          refine ⟨by omega, ?_⟩
          refine ⟨by omega, ?_⟩
          obtain ⟨N1650, he1651⟩ : ∃ X : qM, X = stM N1560 106 (N1560 84 19) ((N1560 106 (N1560 84 19)) + 1) := ⟨_, rfl⟩
          rw [← he1651]
          have hk1652 := stM_k he1651
          have hg1653 := stM_g he1651
          have hr1654 : (0 : Int) ≤ N1560 84 18 ∧ N1560 84 18 ≤ (1 : Int) := hIN1560.1 84 18
          have hc1655 : N1560 84 18 = N1319 84 18 := hk1594 84 18 rfl
          have hc1656 : N1319 84 18 = N1310 84 18 := hk1321 84 18 (Or.inl (by decide))
          have hc1657 : N1310 84 18 = N1299 84 18 := hk1318 84 18 rfl
          have hc1658 : N1299 84 18 = N1292 84 18 := hk1301 84 18 (Or.inl (by decide))
          have hc1659 : N1292 84 18 = N1263 84 18 := hk1298 84 18 rfl
          have hc1660 : N1263 84 18 = M 84 18 := hk1267 84 18 rfl
          have hr1661 : (0 : Int) ≤ N1560 84 19 ∧ N1560 84 19 ≤ (1 : Int) := hIN1560.1 84 19
          have hc1662 : N1560 84 19 = N1319 84 19 := hk1594 84 19 rfl
          have hc1663 : N1319 84 19 = N1310 84 19 := hk1321 84 19 (Or.inl (by decide))
          have hc1664 : N1310 84 19 = N1299 84 19 := hk1318 84 19 rfl
          have hc1665 : N1299 84 19 = N1292 84 19 := hk1301 84 19 (Or.inl (by decide))
          have hc1666 : N1292 84 19 = N1263 84 19 := hk1298 84 19 rfl
          have hc1667 : N1263 84 19 = M 84 19 := hk1267 84 19 rfl
          have hIN1650 : INV S N1650 := INV_side (w := 1) hIN1560 he1651 (show (0 : Int) ≤ _ ∧ _ ≤ (12 : Int) from ⟨by omega, by omega⟩) (by decide) (by omega)
          have hr1668 : (0 : Int) ≤ N1650 84 11 ∧ N1650 84 11 ≤ (400 : Int) := hIN1650.1 84 11
          have hc1669 : N1650 84 11 = N1560 84 11 := hk1652 84 11 (Or.inl (by decide))
          have hr1670 : (0 : Int) ≤ N1650 84 12 ∧ N1650 84 12 ≤ (7 : Int) := hIN1650.1 84 12
          have hc1671 : N1650 84 12 = N1560 84 12 := hk1652 84 12 (Or.inl (by decide))
          have hr1672 : (0 : Int) ≤ N1650 84 13 ∧ N1650 84 13 ≤ (5 : Int) := hIN1650.1 84 13
          have hc1673 : N1650 84 13 = N1560 84 13 := hk1652 84 13 (Or.inl (by decide))
          have hr1674 : (0 : Int) ≤ N1650 84 15 ∧ N1650 84 15 ≤ (5 : Int) := hIN1650.1 84 15
          have hc1675 : N1650 84 15 = N1560 84 15 := hk1652 84 15 (Or.inl (by decide))
          have hc1676 : N1560 84 15 = N1319 84 15 := hk1594 84 15 rfl
          have hc1677 : N1319 84 15 = N1310 84 15 := hk1321 84 15 (Or.inl (by decide))
          have hr1678 : (0 : Int) ≤ N1650 84 18 ∧ N1650 84 18 ≤ (1 : Int) := hIN1650.1 84 18
          have hc1679 : N1650 84 18 = N1560 84 18 := hk1652 84 18 (Or.inl (by decide))
          have hc1680 : N1560 84 18 = N1319 84 18 := hk1594 84 18 rfl
          have hc1681 : N1319 84 18 = N1310 84 18 := hk1321 84 18 (Or.inl (by decide))
          have hc1682 : N1310 84 18 = N1299 84 18 := hk1318 84 18 rfl
          have hc1683 : N1299 84 18 = N1292 84 18 := hk1301 84 18 (Or.inl (by decide))
          have hc1684 : N1292 84 18 = N1263 84 18 := hk1298 84 18 rfl
          have hc1685 : N1263 84 18 = M 84 18 := hk1267 84 18 rfl
          have hr1686 : (0 : Int) ≤ N1650 84 19 ∧ N1650 84 19 ≤ (1 : Int) := hIN1650.1 84 19
          have hc1687 : N1650 84 19 = N1560 84 19 := hk1652 84 19 (Or.inl (by decide))
          have hc1688 : N1560 84 19 = N1319 84 19 := hk1594 84 19 rfl
          have hc1689 : N1319 84 19 = N1310 84 19 := hk1321 84 19 (Or.inl (by decide))
          have hc1690 : N1310 84 19 = N1299 84 19 := hk1318 84 19 rfl
          have hc1691 : N1299 84 19 = N1292 84 19 := hk1301 84 19 (Or.inl (by decide))
          have hc1692 : N1292 84 19 = N1263 84 19 := hk1298 84 19 rfl
          have hc1693 : N1263 84 19 = M 84 19 := hk1267 84 19 rfl
          have hr1694 : (0 : Int) ≤ N1650 84 20 ∧ N1650 84 20 ≤ (11 : Int) := hIN1650.1 84 20
          have hc1695 : N1650 84 20 = N1560 84 20 := hk1652 84 20 (Or.inl (by decide))
          have hc1696 : N1560 84 20 = N1319 84 20 := hk1594 84 20 rfl
          have hc1697 : N1319 84 20 = N1310 84 20 := hk1321 84 20 (Or.inl (by decide))
          have hc1698 : N1310 84 20 = N1299 84 20 := hk1318 84 20 rfl
          have hc1699 : N1299 84 20 = N1292 84 20 := hk1301 84 20 (Or.inl (by decide))
          have hc1700 : N1292 84 20 = N1263 84 20 := hk1298 84 20 rfl
          have hc1701 : N1263 84 20 = M 84 20 := hk1267 84 20 rfl
          have hc1702 : N1650 84 42 = N1560 84 42 := hk1652 84 42 (Or.inl (by decide))
          have hc1703 : N1650 84 48 = N1560 84 48 := hk1652 84 48 (Or.inl (by decide))
          have hGH : GH N1650 := GH_fr hp1561.2.2.2.2.2.2 (stM_s he1651) rfl (fun _ => by omega)
          have hNA : N1650 84 13 = 0 → NA N1650 := fun _ => NA_fr (NA_fr (NA_fr (NA_fr hna hk1318 rfl) (stM_s he1320) rfl) hk1594 rfl) (stM_s he1651) rfl
          have hNM : N1650 84 13 = 0 → N1650 84 20 = N1650 95 (M 84 19) + N1650 100 (M 84 19) := fun h => by rw [stM_k he1651 84 20 (Or.inl (by decide)), hk1594 84 20 rfl, stM_k he1320 84 20 (Or.inl (by decide)), hk1318 84 20 rfl, stM_k he1300 84 20 (Or.inl (by decide)), hk1298 84 20 rfl, hk1267 84 20 rfl, stM_k he1651 95 _ (Or.inl (by decide)), hk1594 95 _ rfl, stM_k he1320 95 _ (Or.inl (by decide)), hk1318 95 _ rfl, stM_k he1300 95 _ (Or.inl (by decide)), hk1298 95 _ rfl, hk1267 95 _ rfl, stM_k he1651 100 _ (Or.inl (by decide)), hk1594 100 _ rfl, stM_k he1320 100 _ (Or.inl (by decide)), hk1318 100 _ rfl, stM_k he1300 100 _ (Or.inl (by decide)), hk1298 100 _ rfl, hk1267 100 _ rfl]; exact p8
          have h103 : N1650 106 (M 84 19) = M 106 (M 84 19) + 1 := by have e := stM_g he1651; rw [show N1560 84 19 = M 84 19 by omega] at e; have e2 := sc4; rw [show N1560 84 19 = M 84 19 by omega] at e2; omega
          have hsm0 : qSm [(84, some 11), (84, some 12), (84, some 13), (84, some 14), (84, some 15), (84, some 16), (84, some 42), (84, some 48), (84, some 52), (106, none), (107, none), (108, none), (111, none), (112, none), (113, none), (114, none), (115, none), (116, none), (117, none), (118, none), (119, none), (120, none)] M N1650 := (by intro b j hbj; rw [hk1652 b j (qSm_ne hbj rfl), hk1594 b j (qSm_sub hbj rfl), hk1321 b j (qSm_ne hbj rfl), hk1318 b j (qSm_sub hbj rfl), hk1301 b j (qSm_ne hbj rfl), hk1298 b j (qSm_sub hbj rfl), hk1267 b j (qSm_sub hbj rfl)])
          have hGG : GG N1650 := GG_want p11 (by omega) (fun _ _ => by omega) (by omega) h103 (fun j hj => by rw [stM_k he1651 107 _ (Or.inl (by decide)), hk1594 107 _ rfl, stM_k he1320 107 _ (Or.inl (by decide)), hk1318 107 _ rfl, stM_k he1300 107 _ (Or.inr (by omega)), hk1298 107 _ rfl, hk1267 107 _ rfl]) (fun j hj => by rw [stM_k he1651 108 _ (Or.inl (by decide)), hk1594 108 _ rfl, stM_k he1320 108 _ (Or.inr (by omega)), hk1318 108 _ rfl, stM_k he1300 108 _ (Or.inl (by decide)), hk1298 108 _ rfl, hk1267 108 _ rfl]) (fun b hb => by
            simp only [List.contains_cons, List.contains_nil, Bool.or_false, Bool.or_eq_true, beq_iff_eq] at hb
            funext j
            exact hsm0 b j (by rcases hb with rfl | rfl | rfl | rfl | rfl | rfl | rfl | rfl | rfl | rfl <;> rfl)) (fun h1 h2 => by
            rw [stM_k he1651 107 _ (Or.inl (by decide)), hk1594 107 _ rfl, stM_k he1320 107 _ (Or.inl (by decide)), hk1318 107 _ rfl, show 12 * M 84 19 + M 106 (M 84 19) = ((12 * (N1263 84 19)) + 0) by omega, stM_g he1300, stM_k he1651 108 _ (Or.inl (by decide)), hk1594 108 _ rfl, stM_g he1320]
            omega)
          have hr1704 : (0 : Int) ≤ N1650 84 11 ∧ N1650 84 11 ≤ (400 : Int) := hIN1650.1 84 11
          have hc1705 : N1650 84 11 = N1560 84 11 := hk1652 84 11 (Or.inl (by decide))
          have hr1706 : (0 : Int) ≤ N1650 84 13 ∧ N1650 84 13 ≤ (5 : Int) := hIN1650.1 84 13
          have hc1707 : N1650 84 13 = N1560 84 13 := hk1652 84 13 (Or.inl (by decide))
          have hr1708 : (0 : Int) ≤ N1650 84 12 ∧ N1650 84 12 ≤ (7 : Int) := hIN1650.1 84 12
          have hc1709 : N1650 84 12 = N1560 84 12 := hk1652 84 12 (Or.inl (by decide))
          have hc1710 : N1650 84 48 = N1560 84 48 := hk1652 84 48 (Or.inl (by decide))
          have hc1711 : N1650 84 42 = N1560 84 42 := hk1652 84 42 (Or.inl (by decide))
          have hr1712 : (0 : Int) ≤ N1650 84 20 ∧ N1650 84 20 ≤ (11 : Int) := hIN1650.1 84 20
          have hc1713 : N1650 84 20 = N1560 84 20 := hk1652 84 20 (Or.inl (by decide))
          have hc1714 : N1560 84 20 = N1319 84 20 := hk1594 84 20 rfl
          have hc1715 : N1319 84 20 = N1310 84 20 := hk1321 84 20 (Or.inl (by decide))
          have hc1716 : N1310 84 20 = N1299 84 20 := hk1318 84 20 rfl
          have hc1717 : N1299 84 20 = N1292 84 20 := hk1301 84 20 (Or.inl (by decide))
          have hc1718 : N1292 84 20 = N1263 84 20 := hk1298 84 20 rfl
          have hc1719 : N1263 84 20 = M 84 20 := hk1267 84 20 rfl
          have hsm : qSm [(84, some 11), (84, some 12), (84, some 13), (84, some 14), (84, some 15), (84, some 16), (84, some 20), (84, some 42), (84, some 48), (84, some 52), (92, none), (93, none), (94, none), (95, none), (96, none), (97, none), (98, none), (99, none), (100, none), (101, none), (102, none), (103, none), (104, none), (105, none), (106, none), (107, none), (108, none), (109, none), (110, none), (111, none), (112, none), (113, none), (114, none), (115, none), (116, none), (117, none), (118, none), (119, none), (120, none)] M N1650 := by
            intro b j hbj
            rw [hk1652 b j (qSm_ne hbj rfl), hk1594 b j (qSm_sub hbj rfl), hk1321 b j (qSm_ne hbj rfl), hk1318 b j (qSm_sub hbj rfl), hk1301 b j (qSm_ne hbj rfl), hk1298 b j (qSm_sub hbj rfl), hk1267 b j (qSm_sub hbj rfl)]
          exact ⟨rfl, rfl, hIN1650, hsm, by omega, by omega, by omega, by first | exact hNM | exact fun h1 => absurd h1 (by omega), by first | exact hGH | exact fun h1 => absurd h1 (by omega), by first | exact hNA | exact fun h1 => absurd h1 (by omega), by first | exact hGG | exact fun h1 _ => absurd h1 (by omega)⟩
    · have hr1720 : (0 : Int) ≤ N1263 84 19 ∧ N1263 84 19 ≤ (1 : Int) := hIN1263.1 84 19
      have hc1721 : N1263 84 19 = M 84 19 := hk1267 84 19 rfl
      refine ⟨by omega, ?_⟩
      have hr1722 : (0 : Int) ≤ N1263 106 (N1263 84 19) ∧ N1263 106 (N1263 84 19) ≤ (12 : Int) := hIN1263.1 106 (N1263 84 19)
      have hc1723 : N1263 106 (N1263 84 19) = M 106 (N1263 84 19) := hk1267 106 (N1263 84 19) rfl
      refine ⟨by omega, ?_⟩
      refine ⟨trivial, ?_⟩
      have hr1727 : (0 : Int) ≤ N1263 84 11 ∧ N1263 84 11 ≤ (400 : Int) := hIN1263.1 84 11
      have hr1728 : (0 : Int) ≤ N1263 84 13 ∧ N1263 84 13 ≤ (5 : Int) := hIN1263.1 84 13
      have hr1729 : (0 : Int) ≤ N1263 84 15 ∧ N1263 84 15 ≤ (5 : Int) := hIN1263.1 84 15
      have hc1730 : N1263 84 15 = M 84 15 := hk1267 84 15 rfl
      refine CI_mono (c_X12_known T (hIN1263) (by assumption)) (fun z1724 N1725 hp1726 => ?_)
      obtain ⟨hIN1725, hk1731, hp1726⟩ := hp1726
      refine ⟨by omega, ?_⟩
      obtain ⟨N1732, he1733⟩ : ∃ X : qM, X = stM N1725 107 ((12 * (N1263 84 19)) + (N1263 106 (N1263 84 19))) z1724 := ⟨_, rfl⟩
      rw [← he1733]
      have hk1734 := stM_k he1733
      have hg1735 := stM_g he1733
      have hr1736 : (0 : Int) ≤ N1725 84 18 ∧ N1725 84 18 ≤ (1 : Int) := hIN1725.1 84 18
      have hc1737 : N1725 84 18 = N1263 84 18 := hk1731 84 18 rfl
      have hc1738 : N1263 84 18 = M 84 18 := hk1267 84 18 rfl
      have hr1739 : (0 : Int) ≤ N1725 84 19 ∧ N1725 84 19 ≤ (1 : Int) := hIN1725.1 84 19
      have hc1740 : N1725 84 19 = N1263 84 19 := hk1731 84 19 rfl
      have hc1741 : N1263 84 19 = M 84 19 := hk1267 84 19 rfl
      have hIN1732 : INV S N1732 := INV_side (w := 12) hIN1725 he1733 (qFree _ _ _ rfl) (by decide) (by omega)
      have hna : NA N1732 := NA_fr (NA_fr hna hk1731 rfl) (stM_s he1733) rfl
      refine ⟨trivial, ?_⟩
      have hr1745 : (0 : Int) ≤ N1732 84 11 ∧ N1732 84 11 ≤ (400 : Int) := hIN1732.1 84 11
      have hc1746 : N1732 84 11 = N1725 84 11 := hk1734 84 11 (Or.inl (by decide))
      have hr1747 : (0 : Int) ≤ N1732 84 13 ∧ N1732 84 13 ≤ (5 : Int) := hIN1732.1 84 13
      have hc1748 : N1732 84 13 = N1725 84 13 := hk1734 84 13 (Or.inl (by decide))
      have hr1749 : (0 : Int) ≤ N1732 84 15 ∧ N1732 84 15 ≤ (5 : Int) := hIN1732.1 84 15
      have hc1750 : N1732 84 15 = N1725 84 15 := hk1734 84 15 (Or.inl (by decide))
      refine CI_mono (c_X12_known T (hIN1732) (by assumption)) (fun z1742 N1743 hp1744 => ?_)
      obtain ⟨hIN1743, hk1751, hp1744⟩ := hp1744
      refine ⟨by omega, ?_⟩
      obtain ⟨N1752, he1753⟩ : ∃ X : qM, X = stM N1743 108 ((12 * (N1263 84 19)) + (N1263 106 (N1263 84 19))) z1742 := ⟨_, rfl⟩
      rw [← he1753]
      have hk1754 := stM_k he1753
      have hg1755 := stM_g he1753
      have hr1756 : (0 : Int) ≤ N1743 84 18 ∧ N1743 84 18 ≤ (1 : Int) := hIN1743.1 84 18
      have hc1757 : N1743 84 18 = N1732 84 18 := hk1751 84 18 rfl
      have hc1758 : N1732 84 18 = N1725 84 18 := hk1734 84 18 (Or.inl (by decide))
      have hc1759 : N1725 84 18 = N1263 84 18 := hk1731 84 18 rfl
      have hc1760 : N1263 84 18 = M 84 18 := hk1267 84 18 rfl
      have hr1761 : (0 : Int) ≤ N1743 84 19 ∧ N1743 84 19 ≤ (1 : Int) := hIN1743.1 84 19
      have hc1762 : N1743 84 19 = N1732 84 19 := hk1751 84 19 rfl
      have hc1763 : N1732 84 19 = N1725 84 19 := hk1734 84 19 (Or.inl (by decide))
      have hc1764 : N1725 84 19 = N1263 84 19 := hk1731 84 19 rfl
      have hc1765 : N1263 84 19 = M 84 19 := hk1267 84 19 rfl
      have hIN1752 : INV S N1752 := INV_side (w := 12) hIN1743 he1753 (qFree _ _ _ rfl) (by decide) (by omega)
      have hr1766 : (0 : Int) ≤ N1752 84 11 ∧ N1752 84 11 ≤ (400 : Int) := hIN1752.1 84 11
      have hc1767 : N1752 84 11 = N1743 84 11 := hk1754 84 11 (Or.inl (by decide))
      have hr1768 : (0 : Int) ≤ N1752 84 12 ∧ N1752 84 12 ≤ (7 : Int) := hIN1752.1 84 12
      have hc1769 : N1752 84 12 = N1743 84 12 := hk1754 84 12 (Or.inl (by decide))
      have hc1770 : N1743 84 12 = N1732 84 12 := hk1751 84 12 rfl
      have hc1771 : N1732 84 12 = N1725 84 12 := hk1734 84 12 (Or.inl (by decide))
      have hc1772 : N1725 84 12 = N1263 84 12 := hk1731 84 12 rfl
      have hc1773 : N1263 84 12 = M 84 12 := hk1267 84 12 rfl
      have hr1774 : (0 : Int) ≤ N1752 84 13 ∧ N1752 84 13 ≤ (5 : Int) := hIN1752.1 84 13
      have hc1775 : N1752 84 13 = N1743 84 13 := hk1754 84 13 (Or.inl (by decide))
      have hr1776 : (0 : Int) ≤ N1752 84 15 ∧ N1752 84 15 ≤ (5 : Int) := hIN1752.1 84 15
      have hc1777 : N1752 84 15 = N1743 84 15 := hk1754 84 15 (Or.inl (by decide))
      have hr1778 : (0 : Int) ≤ N1752 84 18 ∧ N1752 84 18 ≤ (1 : Int) := hIN1752.1 84 18
      have hc1779 : N1752 84 18 = N1743 84 18 := hk1754 84 18 (Or.inl (by decide))
      have hc1780 : N1743 84 18 = N1732 84 18 := hk1751 84 18 rfl
      have hc1781 : N1732 84 18 = N1725 84 18 := hk1734 84 18 (Or.inl (by decide))
      have hc1782 : N1725 84 18 = N1263 84 18 := hk1731 84 18 rfl
      have hc1783 : N1263 84 18 = M 84 18 := hk1267 84 18 rfl
      have hr1784 : (0 : Int) ≤ N1752 84 19 ∧ N1752 84 19 ≤ (1 : Int) := hIN1752.1 84 19
      have hc1785 : N1752 84 19 = N1743 84 19 := hk1754 84 19 (Or.inl (by decide))
      have hc1786 : N1743 84 19 = N1732 84 19 := hk1751 84 19 rfl
      have hc1787 : N1732 84 19 = N1725 84 19 := hk1734 84 19 (Or.inl (by decide))
      have hc1788 : N1725 84 19 = N1263 84 19 := hk1731 84 19 rfl
      have hc1789 : N1263 84 19 = M 84 19 := hk1267 84 19 rfl
      have hr1790 : (0 : Int) ≤ N1752 84 20 ∧ N1752 84 20 ≤ (11 : Int) := hIN1752.1 84 20
      have hc1791 : N1752 84 20 = N1743 84 20 := hk1754 84 20 (Or.inl (by decide))
      have hc1792 : N1743 84 20 = N1732 84 20 := hk1751 84 20 rfl
      have hc1793 : N1732 84 20 = N1725 84 20 := hk1734 84 20 (Or.inl (by decide))
      have hc1794 : N1725 84 20 = N1263 84 20 := hk1731 84 20 rfl
      have hc1795 : N1263 84 20 = M 84 20 := hk1267 84 20 rfl
      have hc1796 : N1752 84 42 = N1743 84 42 := hk1754 84 42 (Or.inl (by decide))
      have hc1797 : N1743 84 42 = N1732 84 42 := hk1751 84 42 rfl
      have hc1798 : N1732 84 42 = N1725 84 42 := hk1734 84 42 (Or.inl (by decide))
      have hc1799 : N1725 84 42 = N1263 84 42 := hk1731 84 42 rfl
      have hc1800 : N1263 84 42 = M 84 42 := hk1267 84 42 rfl
      have hc1801 : N1752 84 48 = N1743 84 48 := hk1754 84 48 (Or.inl (by decide))
      have hc1802 : N1743 84 48 = N1732 84 48 := hk1751 84 48 rfl
      have hc1803 : N1732 84 48 = N1725 84 48 := hk1734 84 48 (Or.inl (by decide))
      have hc1804 : N1725 84 48 = N1263 84 48 := hk1731 84 48 rfl
      have hc1805 : N1263 84 48 = M 84 48 := hk1267 84 48 rfl
      have sc3 : N1752 106 (N1752 84 19) = M 106 (M 84 19) := by rw [show N1752 84 19 = M 84 19 by omega]; exact (stM_k he1753 106 _ (Or.inl (by decide))).trans ((hk1751 106 _ rfl).trans ((stM_k he1733 106 _ (Or.inl (by decide))).trans ((hk1731 106 _ rfl).trans (hk1267 106 _ rfl))))
      have hgh : GH N1752 := GH_fr (GH_fr (GH_fr (GH_fr (GH_fr p9 hk1267 rfl (fun _ => by omega)) hk1731 rfl (fun _ => by omega)) (stM_s he1733) rfl (fun _ => by omega)) hk1751 rfl (fun _ => by omega)) (stM_s he1753) rfl (fun _ => by omega)
      have hr1806 : (0 : Int) ≤ N1752 84 19 ∧ N1752 84 19 ≤ (1 : Int) := hIN1752.1 84 19
      have hc1807 : N1752 84 19 = N1743 84 19 := hk1754 84 19 (Or.inl (by decide))
      have hc1808 : N1743 84 19 = N1732 84 19 := hk1751 84 19 rfl
      have hc1809 : N1732 84 19 = N1725 84 19 := hk1734 84 19 (Or.inl (by decide))
      have hc1810 : N1725 84 19 = N1263 84 19 := hk1731 84 19 rfl
      have hc1811 : N1263 84 19 = M 84 19 := hk1267 84 19 rfl
      refine ⟨by omega, ?_⟩
      have hr1812 : (0 : Int) ≤ N1752 106 (N1752 84 19) ∧ N1752 106 (N1752 84 19) ≤ (12 : Int) := hIN1752.1 106 (N1752 84 19)
      have hc1813 : N1752 106 (N1752 84 19) = N1743 106 (N1752 84 19) := hk1754 106 (N1752 84 19) (Or.inl (by decide))
      have hc1814 : N1743 106 (N1752 84 19) = N1732 106 (N1752 84 19) := hk1751 106 (N1752 84 19) rfl
      have hc1815 : N1732 106 (N1752 84 19) = N1725 106 (N1752 84 19) := hk1734 106 (N1752 84 19) (Or.inl (by decide))
      have hc1816 : N1725 106 (N1752 84 19) = N1263 106 (N1752 84 19) := hk1731 106 (N1752 84 19) rfl
      have hc1817 : N1263 106 (N1752 84 19) = M 106 (N1752 84 19) := hk1267 106 (N1752 84 19) rfl
      refine ⟨fun hb1818 => ?_, fun hb1818 => ?_⟩
      · refine ⟨by omega, ?_⟩
        refine ⟨trivial, ?_⟩
        have hr1822 : (0 : Int) ≤ N1752 84 19 ∧ N1752 84 19 ≤ (1 : Int) := hIN1752.1 84 19
        have hc1823 : N1752 84 19 = N1743 84 19 := hk1754 84 19 (Or.inl (by decide))
        have hc1824 : N1743 84 19 = N1732 84 19 := hk1751 84 19 rfl
        have hc1825 : N1732 84 19 = N1725 84 19 := hk1734 84 19 (Or.inl (by decide))
        have hc1826 : N1725 84 19 = N1263 84 19 := hk1731 84 19 rfl
        have hc1827 : N1263 84 19 = M 84 19 := hk1267 84 19 rfl
        have hr1828 : (0 : Int) ≤ N1752 84 18 ∧ N1752 84 18 ≤ (1 : Int) := hIN1752.1 84 18
        have hc1829 : N1752 84 18 = N1743 84 18 := hk1754 84 18 (Or.inl (by decide))
        have hc1830 : N1743 84 18 = N1732 84 18 := hk1751 84 18 rfl
        have hc1831 : N1732 84 18 = N1725 84 18 := hk1734 84 18 (Or.inl (by decide))
        have hc1832 : N1725 84 18 = N1263 84 18 := hk1731 84 18 rfl
        have hc1833 : N1263 84 18 = M 84 18 := hk1267 84 18 rfl
        have hc1834 : N1752 84 48 = N1743 84 48 := hk1754 84 48 (Or.inl (by decide))
        have hc1835 : N1743 84 48 = N1732 84 48 := hk1751 84 48 rfl
        have hc1836 : N1732 84 48 = N1725 84 48 := hk1734 84 48 (Or.inl (by decide))
        have hc1837 : N1725 84 48 = N1263 84 48 := hk1731 84 48 rfl
        have hc1838 : N1263 84 48 = M 84 48 := hk1267 84 48 rfl
        have hr1839 : (0 : Int) ≤ N1752 84 11 ∧ N1752 84 11 ≤ (400 : Int) := hIN1752.1 84 11
        have hc1840 : N1752 84 11 = N1743 84 11 := hk1754 84 11 (Or.inl (by decide))
        have hr1841 : (0 : Int) ≤ N1752 84 13 ∧ N1752 84 13 ≤ (5 : Int) := hIN1752.1 84 13
        have hc1842 : N1752 84 13 = N1743 84 13 := hk1754 84 13 (Or.inl (by decide))
        have hr1843 : (0 : Int) ≤ N1752 84 12 ∧ N1752 84 12 ≤ (7 : Int) := hIN1752.1 84 12
        have hc1844 : N1752 84 12 = N1743 84 12 := hk1754 84 12 (Or.inl (by decide))
        have hc1845 : N1743 84 12 = N1732 84 12 := hk1751 84 12 rfl
        have hc1846 : N1732 84 12 = N1725 84 12 := hk1734 84 12 (Or.inl (by decide))
        have hc1847 : N1725 84 12 = N1263 84 12 := hk1731 84 12 rfl
        have hc1848 : N1263 84 12 = M 84 12 := hk1267 84 12 rfl
        have hc1849 : N1752 84 42 = N1743 84 42 := hk1754 84 42 (Or.inl (by decide))
        have hc1850 : N1743 84 42 = N1732 84 42 := hk1751 84 42 rfl
        have hc1851 : N1732 84 42 = N1725 84 42 := hk1734 84 42 (Or.inl (by decide))
        have hc1852 : N1725 84 42 = N1263 84 42 := hk1731 84 42 rfl
        have hc1853 : N1263 84 42 = M 84 42 := hk1267 84 42 rfl
        refine CV_mono (c_X12_tellLaw T (hIN1752) (show N1752 84 19 = 1 - N1752 84 18 by omega) (by assumption) (show ((28 + 0) : Int) < 40 by omega) (show 420 * N1752 84 19 ≤ N1752 84 48 by omega) (show N1752 84 48 - 420 * N1752 84 19 ≤ N1752 84 11 + 2 by omega) (show N1752 84 13 = 0 → N1752 84 12 = 0 ∧ N1752 84 48 - 420 * N1752 84 19 ≤ N1752 84 11 ∧ 4 * (N1752 84 42 - 130 * N1752 84 19) + 2 ≤ N1752 84 11 by omega) (show 130 * N1752 84 19 ≤ N1752 84 42 by omega) (show N1752 84 42 ≤ 130 * N1752 84 19 + 100 by omega)) (fun N1820 hp1821 => ?_)
        obtain ⟨hIN1820, hk1854, hj1855, hj1856, hp1821⟩ := hp1821
        have hr1857 : (0 : Int) ≤ N1820 84 11 ∧ N1820 84 11 ≤ (400 : Int) := hIN1820.1 84 11
        have hr1858 : (0 : Int) ≤ N1820 84 12 ∧ N1820 84 12 ≤ (7 : Int) := hIN1820.1 84 12
        have hr1859 : (0 : Int) ≤ N1820 84 13 ∧ N1820 84 13 ≤ (5 : Int) := hIN1820.1 84 13
        have hr1860 : (0 : Int) ≤ N1820 84 15 ∧ N1820 84 15 ≤ (5 : Int) := hIN1820.1 84 15
        have hc1861 : N1820 84 15 = N1752 84 15 := hk1854 84 15 rfl
        have hc1862 : N1752 84 15 = N1743 84 15 := hk1754 84 15 (Or.inl (by decide))
        have hr1863 : (0 : Int) ≤ N1820 84 18 ∧ N1820 84 18 ≤ (1 : Int) := hIN1820.1 84 18
        have hc1864 : N1820 84 18 = N1752 84 18 := hk1854 84 18 rfl
        have hc1865 : N1752 84 18 = N1743 84 18 := hk1754 84 18 (Or.inl (by decide))
        have hc1866 : N1743 84 18 = N1732 84 18 := hk1751 84 18 rfl
        have hc1867 : N1732 84 18 = N1725 84 18 := hk1734 84 18 (Or.inl (by decide))
        have hc1868 : N1725 84 18 = N1263 84 18 := hk1731 84 18 rfl
        have hc1869 : N1263 84 18 = M 84 18 := hk1267 84 18 rfl
        have hr1870 : (0 : Int) ≤ N1820 84 19 ∧ N1820 84 19 ≤ (1 : Int) := hIN1820.1 84 19
        have hc1871 : N1820 84 19 = N1752 84 19 := hk1854 84 19 rfl
        have hc1872 : N1752 84 19 = N1743 84 19 := hk1754 84 19 (Or.inl (by decide))
        have hc1873 : N1743 84 19 = N1732 84 19 := hk1751 84 19 rfl
        have hc1874 : N1732 84 19 = N1725 84 19 := hk1734 84 19 (Or.inl (by decide))
        have hc1875 : N1725 84 19 = N1263 84 19 := hk1731 84 19 rfl
        have hc1876 : N1263 84 19 = M 84 19 := hk1267 84 19 rfl
        have hr1877 : (0 : Int) ≤ N1820 84 20 ∧ N1820 84 20 ≤ (11 : Int) := hIN1820.1 84 20
        have hc1878 : N1820 84 20 = N1752 84 20 := hk1854 84 20 rfl
        have hc1879 : N1752 84 20 = N1743 84 20 := hk1754 84 20 (Or.inl (by decide))
        have hc1880 : N1743 84 20 = N1732 84 20 := hk1751 84 20 rfl
        have hc1881 : N1732 84 20 = N1725 84 20 := hk1734 84 20 (Or.inl (by decide))
        have hc1882 : N1725 84 20 = N1263 84 20 := hk1731 84 20 rfl
        have hc1883 : N1263 84 20 = M 84 20 := hk1267 84 20 rfl
        have sc4 : N1820 106 (N1820 84 19) = M 106 (M 84 19) := by rw [show N1820 84 19 = M 84 19 by omega]; exact (hk1854 106 _ rfl).trans ((stM_k he1753 106 _ (Or.inl (by decide))).trans ((hk1751 106 _ rfl).trans ((stM_k he1733 106 _ (Or.inl (by decide))).trans ((hk1731 106 _ rfl).trans (hk1267 106 _ rfl)))))
        have hr1884 : (0 : Int) ≤ N1820 84 13 ∧ N1820 84 13 ≤ (5 : Int) := hIN1820.1 84 13
        refine ⟨fun hb1885 => ?_, fun hb1885 => ?_⟩
        · have hr1886 : (0 : Int) ≤ N1820 84 11 ∧ N1820 84 11 ≤ (400 : Int) := hIN1820.1 84 11
          have hr1887 : (0 : Int) ≤ N1820 84 13 ∧ N1820 84 13 ≤ (5 : Int) := hIN1820.1 84 13
          have hr1888 : (0 : Int) ≤ N1820 84 12 ∧ N1820 84 12 ≤ (7 : Int) := hIN1820.1 84 12
          have hr1889 : (0 : Int) ≤ N1820 84 20 ∧ N1820 84 20 ≤ (11 : Int) := hIN1820.1 84 20
          have hc1890 : N1820 84 20 = N1752 84 20 := hk1854 84 20 rfl
          have hc1891 : N1752 84 20 = N1743 84 20 := hk1754 84 20 (Or.inl (by decide))
          have hc1892 : N1743 84 20 = N1732 84 20 := hk1751 84 20 rfl
          have hc1893 : N1732 84 20 = N1725 84 20 := hk1734 84 20 (Or.inl (by decide))
          have hc1894 : N1725 84 20 = N1263 84 20 := hk1731 84 20 rfl
          have hc1895 : N1263 84 20 = M 84 20 := hk1267 84 20 rfl
          have hsm : qSm [(84, some 11), (84, some 12), (84, some 13), (84, some 14), (84, some 15), (84, some 16), (84, some 20), (84, some 42), (84, some 48), (84, some 52), (92, none), (93, none), (94, none), (95, none), (96, none), (97, none), (98, none), (99, none), (100, none), (101, none), (102, none), (103, none), (104, none), (105, none), (106, none), (107, none), (108, none), (109, none), (110, none), (111, none), (112, none), (113, none), (114, none), (115, none), (116, none), (117, none), (118, none), (119, none), (120, none)] M N1820 := by
            intro b j hbj
            rw [hk1854 b j (qSm_sub hbj rfl), hk1754 b j (qSm_ne hbj rfl), hk1751 b j (qSm_sub hbj rfl), hk1734 b j (qSm_ne hbj rfl), hk1731 b j (qSm_sub hbj rfl), hk1267 b j (qSm_sub hbj rfl)]
          exact ⟨rfl, rfl, hIN1820, hsm, by omega, by omega, by omega, by first | exact hNM | exact fun h1 => absurd h1 (by omega), by first | exact hGH | exact fun h1 => absurd h1 (by omega), by first | exact hNA | exact fun h1 => absurd h1 (by omega), by first | exact hGG | exact fun h1 _ => absurd h1 (by omega)⟩
        · have hr1896 : (0 : Int) ≤ N1820 84 19 ∧ N1820 84 19 ≤ (1 : Int) := hIN1820.1 84 19
          have hc1897 : N1820 84 19 = N1752 84 19 := hk1854 84 19 rfl
          have hc1898 : N1752 84 19 = N1743 84 19 := hk1754 84 19 (Or.inl (by decide))
          have hc1899 : N1743 84 19 = N1732 84 19 := hk1751 84 19 rfl
          have hc1900 : N1732 84 19 = N1725 84 19 := hk1734 84 19 (Or.inl (by decide))
          have hc1901 : N1725 84 19 = N1263 84 19 := hk1731 84 19 rfl
          have hc1902 : N1263 84 19 = M 84 19 := hk1267 84 19 rfl
          refine ⟨by omega, ?_⟩
          have hr1903 : (0 : Int) ≤ N1820 106 (N1820 84 19) ∧ N1820 106 (N1820 84 19) ≤ (12 : Int) := hIN1820.1 106 (N1820 84 19)
          have hc1904 : N1820 106 (N1820 84 19) = N1752 106 (N1820 84 19) := hk1854 106 (N1820 84 19) rfl
          have hc1905 : N1752 106 (N1820 84 19) = N1743 106 (N1820 84 19) := hk1754 106 (N1820 84 19) (Or.inl (by decide))
          have hc1906 : N1743 106 (N1820 84 19) = N1732 106 (N1820 84 19) := hk1751 106 (N1820 84 19) rfl
          have hc1907 : N1732 106 (N1820 84 19) = N1725 106 (N1820 84 19) := hk1734 106 (N1820 84 19) (Or.inl (by decide))
          have hc1908 : N1725 106 (N1820 84 19) = N1263 106 (N1820 84 19) := hk1731 106 (N1820 84 19) rfl
          have hc1909 : N1263 106 (N1820 84 19) = M 106 (N1820 84 19) := hk1267 106 (N1820 84 19) rfl
          refine ⟨by omega, ?_⟩
          refine ⟨by omega, ?_⟩
          obtain ⟨N1910, he1911⟩ : ∃ X : qM, X = stM N1820 106 (N1820 84 19) ((N1820 106 (N1820 84 19)) + 1) := ⟨_, rfl⟩
          rw [← he1911]
          have hk1912 := stM_k he1911
          have hg1913 := stM_g he1911
          have hr1914 : (0 : Int) ≤ N1820 84 18 ∧ N1820 84 18 ≤ (1 : Int) := hIN1820.1 84 18
          have hc1915 : N1820 84 18 = N1752 84 18 := hk1854 84 18 rfl
          have hc1916 : N1752 84 18 = N1743 84 18 := hk1754 84 18 (Or.inl (by decide))
          have hc1917 : N1743 84 18 = N1732 84 18 := hk1751 84 18 rfl
          have hc1918 : N1732 84 18 = N1725 84 18 := hk1734 84 18 (Or.inl (by decide))
          have hc1919 : N1725 84 18 = N1263 84 18 := hk1731 84 18 rfl
          have hc1920 : N1263 84 18 = M 84 18 := hk1267 84 18 rfl
          have hr1921 : (0 : Int) ≤ N1820 84 19 ∧ N1820 84 19 ≤ (1 : Int) := hIN1820.1 84 19
          have hc1922 : N1820 84 19 = N1752 84 19 := hk1854 84 19 rfl
          have hc1923 : N1752 84 19 = N1743 84 19 := hk1754 84 19 (Or.inl (by decide))
          have hc1924 : N1743 84 19 = N1732 84 19 := hk1751 84 19 rfl
          have hc1925 : N1732 84 19 = N1725 84 19 := hk1734 84 19 (Or.inl (by decide))
          have hc1926 : N1725 84 19 = N1263 84 19 := hk1731 84 19 rfl
          have hc1927 : N1263 84 19 = M 84 19 := hk1267 84 19 rfl
          have hIN1910 : INV S N1910 := INV_side (w := 1) hIN1820 he1911 (show (0 : Int) ≤ _ ∧ _ ≤ (12 : Int) from ⟨by omega, by omega⟩) (by decide) (by omega)
          have hr1928 : (0 : Int) ≤ N1910 84 11 ∧ N1910 84 11 ≤ (400 : Int) := hIN1910.1 84 11
          have hc1929 : N1910 84 11 = N1820 84 11 := hk1912 84 11 (Or.inl (by decide))
          have hr1930 : (0 : Int) ≤ N1910 84 12 ∧ N1910 84 12 ≤ (7 : Int) := hIN1910.1 84 12
          have hc1931 : N1910 84 12 = N1820 84 12 := hk1912 84 12 (Or.inl (by decide))
          have hr1932 : (0 : Int) ≤ N1910 84 13 ∧ N1910 84 13 ≤ (5 : Int) := hIN1910.1 84 13
          have hc1933 : N1910 84 13 = N1820 84 13 := hk1912 84 13 (Or.inl (by decide))
          have hr1934 : (0 : Int) ≤ N1910 84 15 ∧ N1910 84 15 ≤ (5 : Int) := hIN1910.1 84 15
          have hc1935 : N1910 84 15 = N1820 84 15 := hk1912 84 15 (Or.inl (by decide))
          have hc1936 : N1820 84 15 = N1752 84 15 := hk1854 84 15 rfl
          have hc1937 : N1752 84 15 = N1743 84 15 := hk1754 84 15 (Or.inl (by decide))
          have hr1938 : (0 : Int) ≤ N1910 84 18 ∧ N1910 84 18 ≤ (1 : Int) := hIN1910.1 84 18
          have hc1939 : N1910 84 18 = N1820 84 18 := hk1912 84 18 (Or.inl (by decide))
          have hc1940 : N1820 84 18 = N1752 84 18 := hk1854 84 18 rfl
          have hc1941 : N1752 84 18 = N1743 84 18 := hk1754 84 18 (Or.inl (by decide))
          have hc1942 : N1743 84 18 = N1732 84 18 := hk1751 84 18 rfl
          have hc1943 : N1732 84 18 = N1725 84 18 := hk1734 84 18 (Or.inl (by decide))
          have hc1944 : N1725 84 18 = N1263 84 18 := hk1731 84 18 rfl
          have hc1945 : N1263 84 18 = M 84 18 := hk1267 84 18 rfl
          have hr1946 : (0 : Int) ≤ N1910 84 19 ∧ N1910 84 19 ≤ (1 : Int) := hIN1910.1 84 19
          have hc1947 : N1910 84 19 = N1820 84 19 := hk1912 84 19 (Or.inl (by decide))
          have hc1948 : N1820 84 19 = N1752 84 19 := hk1854 84 19 rfl
          have hc1949 : N1752 84 19 = N1743 84 19 := hk1754 84 19 (Or.inl (by decide))
          have hc1950 : N1743 84 19 = N1732 84 19 := hk1751 84 19 rfl
          have hc1951 : N1732 84 19 = N1725 84 19 := hk1734 84 19 (Or.inl (by decide))
          have hc1952 : N1725 84 19 = N1263 84 19 := hk1731 84 19 rfl
          have hc1953 : N1263 84 19 = M 84 19 := hk1267 84 19 rfl
          have hr1954 : (0 : Int) ≤ N1910 84 20 ∧ N1910 84 20 ≤ (11 : Int) := hIN1910.1 84 20
          have hc1955 : N1910 84 20 = N1820 84 20 := hk1912 84 20 (Or.inl (by decide))
          have hc1956 : N1820 84 20 = N1752 84 20 := hk1854 84 20 rfl
          have hc1957 : N1752 84 20 = N1743 84 20 := hk1754 84 20 (Or.inl (by decide))
          have hc1958 : N1743 84 20 = N1732 84 20 := hk1751 84 20 rfl
          have hc1959 : N1732 84 20 = N1725 84 20 := hk1734 84 20 (Or.inl (by decide))
          have hc1960 : N1725 84 20 = N1263 84 20 := hk1731 84 20 rfl
          have hc1961 : N1263 84 20 = M 84 20 := hk1267 84 20 rfl
          have hc1962 : N1910 84 42 = N1820 84 42 := hk1912 84 42 (Or.inl (by decide))
          have hc1963 : N1910 84 48 = N1820 84 48 := hk1912 84 48 (Or.inl (by decide))
          have hGH : GH N1910 := GH_fr hp1821.2.2.2.2.2.2 (stM_s he1911) rfl (fun _ => by omega)
          have hNA : N1910 84 13 = 0 → NA N1910 := fun _ => NA_fr (NA_fr (NA_fr (NA_fr hna hk1751 rfl) (stM_s he1753) rfl) hk1854 rfl) (stM_s he1911) rfl
          have hNM : N1910 84 13 = 0 → N1910 84 20 = N1910 95 (M 84 19) + N1910 100 (M 84 19) := fun h => by rw [stM_k he1911 84 20 (Or.inl (by decide)), hk1854 84 20 rfl, stM_k he1753 84 20 (Or.inl (by decide)), hk1751 84 20 rfl, stM_k he1733 84 20 (Or.inl (by decide)), hk1731 84 20 rfl, hk1267 84 20 rfl, stM_k he1911 95 _ (Or.inl (by decide)), hk1854 95 _ rfl, stM_k he1753 95 _ (Or.inl (by decide)), hk1751 95 _ rfl, stM_k he1733 95 _ (Or.inl (by decide)), hk1731 95 _ rfl, hk1267 95 _ rfl, stM_k he1911 100 _ (Or.inl (by decide)), hk1854 100 _ rfl, stM_k he1753 100 _ (Or.inl (by decide)), hk1751 100 _ rfl, stM_k he1733 100 _ (Or.inl (by decide)), hk1731 100 _ rfl, hk1267 100 _ rfl]; exact p8
          have h103 : N1910 106 (M 84 19) = M 106 (M 84 19) + 1 := by have e := stM_g he1911; rw [show N1820 84 19 = M 84 19 by omega] at e; have e2 := sc4; rw [show N1820 84 19 = M 84 19 by omega] at e2; omega
          have hsm0 : qSm [(84, some 11), (84, some 12), (84, some 13), (84, some 14), (84, some 15), (84, some 16), (84, some 42), (84, some 48), (84, some 52), (106, none), (107, none), (108, none), (111, none), (112, none), (113, none), (114, none), (115, none), (116, none), (117, none), (118, none), (119, none), (120, none)] M N1910 := (by intro b j hbj; rw [hk1912 b j (qSm_ne hbj rfl), hk1854 b j (qSm_sub hbj rfl), hk1754 b j (qSm_ne hbj rfl), hk1751 b j (qSm_sub hbj rfl), hk1734 b j (qSm_ne hbj rfl), hk1731 b j (qSm_sub hbj rfl), hk1267 b j (qSm_sub hbj rfl)])
          have hGG : GG N1910 := GG_want p11 (by omega) (fun _ _ => by omega) (by omega) h103 (fun j hj => by rw [stM_k he1911 107 _ (Or.inl (by decide)), hk1854 107 _ rfl, stM_k he1753 107 _ (Or.inl (by decide)), hk1751 107 _ rfl, stM_k he1733 107 _ (Or.inr (by omega)), hk1731 107 _ rfl, hk1267 107 _ rfl]) (fun j hj => by rw [stM_k he1911 108 _ (Or.inl (by decide)), hk1854 108 _ rfl, stM_k he1753 108 _ (Or.inr (by omega)), hk1751 108 _ rfl, stM_k he1733 108 _ (Or.inl (by decide)), hk1731 108 _ rfl, hk1267 108 _ rfl]) (fun b hb => by
            simp only [List.contains_cons, List.contains_nil, Bool.or_false, Bool.or_eq_true, beq_iff_eq] at hb
            funext j
            exact hsm0 b j (by rcases hb with rfl | rfl | rfl | rfl | rfl | rfl | rfl | rfl | rfl | rfl <;> rfl)) (fun h1 h2 => by
            rw [stM_k he1911 107 _ (Or.inl (by decide)), hk1854 107 _ rfl, stM_k he1753 107 _ (Or.inl (by decide)), hk1751 107 _ rfl, show 12 * M 84 19 + M 106 (M 84 19) = ((12 * (N1263 84 19)) + (N1263 106 (N1263 84 19))) by omega, stM_g he1733, stM_k he1911 108 _ (Or.inl (by decide)), hk1854 108 _ rfl, stM_g he1753]
            omega)
          have hr1964 : (0 : Int) ≤ N1910 84 11 ∧ N1910 84 11 ≤ (400 : Int) := hIN1910.1 84 11
          have hc1965 : N1910 84 11 = N1820 84 11 := hk1912 84 11 (Or.inl (by decide))
          have hr1966 : (0 : Int) ≤ N1910 84 13 ∧ N1910 84 13 ≤ (5 : Int) := hIN1910.1 84 13
          have hc1967 : N1910 84 13 = N1820 84 13 := hk1912 84 13 (Or.inl (by decide))
          have hr1968 : (0 : Int) ≤ N1910 84 12 ∧ N1910 84 12 ≤ (7 : Int) := hIN1910.1 84 12
          have hc1969 : N1910 84 12 = N1820 84 12 := hk1912 84 12 (Or.inl (by decide))
          have hc1970 : N1910 84 48 = N1820 84 48 := hk1912 84 48 (Or.inl (by decide))
          have hc1971 : N1910 84 42 = N1820 84 42 := hk1912 84 42 (Or.inl (by decide))
          have hr1972 : (0 : Int) ≤ N1910 84 20 ∧ N1910 84 20 ≤ (11 : Int) := hIN1910.1 84 20
          have hc1973 : N1910 84 20 = N1820 84 20 := hk1912 84 20 (Or.inl (by decide))
          have hc1974 : N1820 84 20 = N1752 84 20 := hk1854 84 20 rfl
          have hc1975 : N1752 84 20 = N1743 84 20 := hk1754 84 20 (Or.inl (by decide))
          have hc1976 : N1743 84 20 = N1732 84 20 := hk1751 84 20 rfl
          have hc1977 : N1732 84 20 = N1725 84 20 := hk1734 84 20 (Or.inl (by decide))
          have hc1978 : N1725 84 20 = N1263 84 20 := hk1731 84 20 rfl
          have hc1979 : N1263 84 20 = M 84 20 := hk1267 84 20 rfl
          have hsm : qSm [(84, some 11), (84, some 12), (84, some 13), (84, some 14), (84, some 15), (84, some 16), (84, some 20), (84, some 42), (84, some 48), (84, some 52), (92, none), (93, none), (94, none), (95, none), (96, none), (97, none), (98, none), (99, none), (100, none), (101, none), (102, none), (103, none), (104, none), (105, none), (106, none), (107, none), (108, none), (109, none), (110, none), (111, none), (112, none), (113, none), (114, none), (115, none), (116, none), (117, none), (118, none), (119, none), (120, none)] M N1910 := by
            intro b j hbj
            rw [hk1912 b j (qSm_ne hbj rfl), hk1854 b j (qSm_sub hbj rfl), hk1754 b j (qSm_ne hbj rfl), hk1751 b j (qSm_sub hbj rfl), hk1734 b j (qSm_ne hbj rfl), hk1731 b j (qSm_sub hbj rfl), hk1267 b j (qSm_sub hbj rfl)]
          exact ⟨rfl, rfl, hIN1910, hsm, by omega, by omega, by omega, by first | exact hNM | exact fun h1 => absurd h1 (by omega), by first | exact hGH | exact fun h1 => absurd h1 (by omega), by first | exact hNA | exact fun h1 => absurd h1 (by omega), by first | exact hGG | exact fun h1 _ => absurd h1 (by omega)⟩
      · have hr1980 : (0 : Int) ≤ N1752 84 19 ∧ N1752 84 19 ≤ (1 : Int) := hIN1752.1 84 19
        have hc1981 : N1752 84 19 = N1743 84 19 := hk1754 84 19 (Or.inl (by decide))
        have hc1982 : N1743 84 19 = N1732 84 19 := hk1751 84 19 rfl
        have hc1983 : N1732 84 19 = N1725 84 19 := hk1734 84 19 (Or.inl (by decide))
        have hc1984 : N1725 84 19 = N1263 84 19 := hk1731 84 19 rfl
        have hc1985 : N1263 84 19 = M 84 19 := hk1267 84 19 rfl
        refine ⟨by omega, ?_⟩
        have hr1986 : (0 : Int) ≤ N1752 106 (N1752 84 19) ∧ N1752 106 (N1752 84 19) ≤ (12 : Int) := hIN1752.1 106 (N1752 84 19)
        have hc1987 : N1752 106 (N1752 84 19) = N1743 106 (N1752 84 19) := hk1754 106 (N1752 84 19) (Or.inl (by decide))
        have hc1988 : N1743 106 (N1752 84 19) = N1732 106 (N1752 84 19) := hk1751 106 (N1752 84 19) rfl
        have hc1989 : N1732 106 (N1752 84 19) = N1725 106 (N1752 84 19) := hk1734 106 (N1752 84 19) (Or.inl (by decide))
        have hc1990 : N1725 106 (N1752 84 19) = N1263 106 (N1752 84 19) := hk1731 106 (N1752 84 19) rfl
        have hc1991 : N1263 106 (N1752 84 19) = M 106 (N1752 84 19) := hk1267 106 (N1752 84 19) rfl
        refine ⟨by omega, ?_⟩
        refine ⟨trivial, ?_⟩
        have hr1995 : (0 : Int) ≤ N1752 84 19 ∧ N1752 84 19 ≤ (1 : Int) := hIN1752.1 84 19
        have hc1996 : N1752 84 19 = N1743 84 19 := hk1754 84 19 (Or.inl (by decide))
        have hc1997 : N1743 84 19 = N1732 84 19 := hk1751 84 19 rfl
        have hc1998 : N1732 84 19 = N1725 84 19 := hk1734 84 19 (Or.inl (by decide))
        have hc1999 : N1725 84 19 = N1263 84 19 := hk1731 84 19 rfl
        have hc2000 : N1263 84 19 = M 84 19 := hk1267 84 19 rfl
        have hr2001 : (0 : Int) ≤ N1752 84 18 ∧ N1752 84 18 ≤ (1 : Int) := hIN1752.1 84 18
        have hc2002 : N1752 84 18 = N1743 84 18 := hk1754 84 18 (Or.inl (by decide))
        have hc2003 : N1743 84 18 = N1732 84 18 := hk1751 84 18 rfl
        have hc2004 : N1732 84 18 = N1725 84 18 := hk1734 84 18 (Or.inl (by decide))
        have hc2005 : N1725 84 18 = N1263 84 18 := hk1731 84 18 rfl
        have hc2006 : N1263 84 18 = M 84 18 := hk1267 84 18 rfl
        have hc2007 : N1752 84 48 = N1743 84 48 := hk1754 84 48 (Or.inl (by decide))
        have hc2008 : N1743 84 48 = N1732 84 48 := hk1751 84 48 rfl
        have hc2009 : N1732 84 48 = N1725 84 48 := hk1734 84 48 (Or.inl (by decide))
        have hc2010 : N1725 84 48 = N1263 84 48 := hk1731 84 48 rfl
        have hc2011 : N1263 84 48 = M 84 48 := hk1267 84 48 rfl
        have hr2012 : (0 : Int) ≤ N1752 84 11 ∧ N1752 84 11 ≤ (400 : Int) := hIN1752.1 84 11
        have hc2013 : N1752 84 11 = N1743 84 11 := hk1754 84 11 (Or.inl (by decide))
        have hr2014 : (0 : Int) ≤ N1752 84 13 ∧ N1752 84 13 ≤ (5 : Int) := hIN1752.1 84 13
        have hc2015 : N1752 84 13 = N1743 84 13 := hk1754 84 13 (Or.inl (by decide))
        have hr2016 : (0 : Int) ≤ N1752 84 12 ∧ N1752 84 12 ≤ (7 : Int) := hIN1752.1 84 12
        have hc2017 : N1752 84 12 = N1743 84 12 := hk1754 84 12 (Or.inl (by decide))
        have hc2018 : N1743 84 12 = N1732 84 12 := hk1751 84 12 rfl
        have hc2019 : N1732 84 12 = N1725 84 12 := hk1734 84 12 (Or.inl (by decide))
        have hc2020 : N1725 84 12 = N1263 84 12 := hk1731 84 12 rfl
        have hc2021 : N1263 84 12 = M 84 12 := hk1267 84 12 rfl
        have hc2022 : N1752 84 42 = N1743 84 42 := hk1754 84 42 (Or.inl (by decide))
        have hc2023 : N1743 84 42 = N1732 84 42 := hk1751 84 42 rfl
        have hc2024 : N1732 84 42 = N1725 84 42 := hk1734 84 42 (Or.inl (by decide))
        have hc2025 : N1725 84 42 = N1263 84 42 := hk1731 84 42 rfl
        have hc2026 : N1263 84 42 = M 84 42 := hk1267 84 42 rfl
        refine CV_mono (c_X12_tellLaw T (hIN1752) (show N1752 84 19 = 1 - N1752 84 18 by omega) (by assumption) (show ((28 + (N1752 106 (N1752 84 19))) : Int) < 40 by omega) (show 420 * N1752 84 19 ≤ N1752 84 48 by omega) (show N1752 84 48 - 420 * N1752 84 19 ≤ N1752 84 11 + 2 by omega) (show N1752 84 13 = 0 → N1752 84 12 = 0 ∧ N1752 84 48 - 420 * N1752 84 19 ≤ N1752 84 11 ∧ 4 * (N1752 84 42 - 130 * N1752 84 19) + 2 ≤ N1752 84 11 by omega) (show 130 * N1752 84 19 ≤ N1752 84 42 by omega) (show N1752 84 42 ≤ 130 * N1752 84 19 + 100 by omega)) (fun N1993 hp1994 => ?_)
        obtain ⟨hIN1993, hk2027, hj2028, hj2029, hp1994⟩ := hp1994
        have hr2030 : (0 : Int) ≤ N1993 84 11 ∧ N1993 84 11 ≤ (400 : Int) := hIN1993.1 84 11
        have hr2031 : (0 : Int) ≤ N1993 84 12 ∧ N1993 84 12 ≤ (7 : Int) := hIN1993.1 84 12
        have hr2032 : (0 : Int) ≤ N1993 84 13 ∧ N1993 84 13 ≤ (5 : Int) := hIN1993.1 84 13
        have hr2033 : (0 : Int) ≤ N1993 84 15 ∧ N1993 84 15 ≤ (5 : Int) := hIN1993.1 84 15
        have hc2034 : N1993 84 15 = N1752 84 15 := hk2027 84 15 rfl
        have hc2035 : N1752 84 15 = N1743 84 15 := hk1754 84 15 (Or.inl (by decide))
        have hr2036 : (0 : Int) ≤ N1993 84 18 ∧ N1993 84 18 ≤ (1 : Int) := hIN1993.1 84 18
        have hc2037 : N1993 84 18 = N1752 84 18 := hk2027 84 18 rfl
        have hc2038 : N1752 84 18 = N1743 84 18 := hk1754 84 18 (Or.inl (by decide))
        have hc2039 : N1743 84 18 = N1732 84 18 := hk1751 84 18 rfl
        have hc2040 : N1732 84 18 = N1725 84 18 := hk1734 84 18 (Or.inl (by decide))
        have hc2041 : N1725 84 18 = N1263 84 18 := hk1731 84 18 rfl
        have hc2042 : N1263 84 18 = M 84 18 := hk1267 84 18 rfl
        have hr2043 : (0 : Int) ≤ N1993 84 19 ∧ N1993 84 19 ≤ (1 : Int) := hIN1993.1 84 19
        have hc2044 : N1993 84 19 = N1752 84 19 := hk2027 84 19 rfl
        have hc2045 : N1752 84 19 = N1743 84 19 := hk1754 84 19 (Or.inl (by decide))
        have hc2046 : N1743 84 19 = N1732 84 19 := hk1751 84 19 rfl
        have hc2047 : N1732 84 19 = N1725 84 19 := hk1734 84 19 (Or.inl (by decide))
        have hc2048 : N1725 84 19 = N1263 84 19 := hk1731 84 19 rfl
        have hc2049 : N1263 84 19 = M 84 19 := hk1267 84 19 rfl
        have hr2050 : (0 : Int) ≤ N1993 84 20 ∧ N1993 84 20 ≤ (11 : Int) := hIN1993.1 84 20
        have hc2051 : N1993 84 20 = N1752 84 20 := hk2027 84 20 rfl
        have hc2052 : N1752 84 20 = N1743 84 20 := hk1754 84 20 (Or.inl (by decide))
        have hc2053 : N1743 84 20 = N1732 84 20 := hk1751 84 20 rfl
        have hc2054 : N1732 84 20 = N1725 84 20 := hk1734 84 20 (Or.inl (by decide))
        have hc2055 : N1725 84 20 = N1263 84 20 := hk1731 84 20 rfl
        have hc2056 : N1263 84 20 = M 84 20 := hk1267 84 20 rfl
        have sc4 : N1993 106 (N1993 84 19) = M 106 (M 84 19) := by rw [show N1993 84 19 = M 84 19 by omega]; exact (hk2027 106 _ rfl).trans ((stM_k he1753 106 _ (Or.inl (by decide))).trans ((hk1751 106 _ rfl).trans ((stM_k he1733 106 _ (Or.inl (by decide))).trans ((hk1731 106 _ rfl).trans (hk1267 106 _ rfl)))))
        have hr2057 : (0 : Int) ≤ N1993 84 13 ∧ N1993 84 13 ≤ (5 : Int) := hIN1993.1 84 13
        refine ⟨fun hb2058 => ?_, fun hb2058 => ?_⟩
        · have hr2059 : (0 : Int) ≤ N1993 84 11 ∧ N1993 84 11 ≤ (400 : Int) := hIN1993.1 84 11
          have hr2060 : (0 : Int) ≤ N1993 84 13 ∧ N1993 84 13 ≤ (5 : Int) := hIN1993.1 84 13
          have hr2061 : (0 : Int) ≤ N1993 84 12 ∧ N1993 84 12 ≤ (7 : Int) := hIN1993.1 84 12
          have hr2062 : (0 : Int) ≤ N1993 84 20 ∧ N1993 84 20 ≤ (11 : Int) := hIN1993.1 84 20
          have hc2063 : N1993 84 20 = N1752 84 20 := hk2027 84 20 rfl
          have hc2064 : N1752 84 20 = N1743 84 20 := hk1754 84 20 (Or.inl (by decide))
          have hc2065 : N1743 84 20 = N1732 84 20 := hk1751 84 20 rfl
          have hc2066 : N1732 84 20 = N1725 84 20 := hk1734 84 20 (Or.inl (by decide))
          have hc2067 : N1725 84 20 = N1263 84 20 := hk1731 84 20 rfl
          have hc2068 : N1263 84 20 = M 84 20 := hk1267 84 20 rfl
          have hsm : qSm [(84, some 11), (84, some 12), (84, some 13), (84, some 14), (84, some 15), (84, some 16), (84, some 20), (84, some 42), (84, some 48), (84, some 52), (92, none), (93, none), (94, none), (95, none), (96, none), (97, none), (98, none), (99, none), (100, none), (101, none), (102, none), (103, none), (104, none), (105, none), (106, none), (107, none), (108, none), (109, none), (110, none), (111, none), (112, none), (113, none), (114, none), (115, none), (116, none), (117, none), (118, none), (119, none), (120, none)] M N1993 := by
            intro b j hbj
            rw [hk2027 b j (qSm_sub hbj rfl), hk1754 b j (qSm_ne hbj rfl), hk1751 b j (qSm_sub hbj rfl), hk1734 b j (qSm_ne hbj rfl), hk1731 b j (qSm_sub hbj rfl), hk1267 b j (qSm_sub hbj rfl)]
          exact ⟨rfl, rfl, hIN1993, hsm, by omega, by omega, by omega, by first | exact hNM | exact fun h1 => absurd h1 (by omega), by first | exact hGH | exact fun h1 => absurd h1 (by omega), by first | exact hNA | exact fun h1 => absurd h1 (by omega), by first | exact hGG | exact fun h1 _ => absurd h1 (by omega)⟩
        · have hr2069 : (0 : Int) ≤ N1993 84 19 ∧ N1993 84 19 ≤ (1 : Int) := hIN1993.1 84 19
          have hc2070 : N1993 84 19 = N1752 84 19 := hk2027 84 19 rfl
          have hc2071 : N1752 84 19 = N1743 84 19 := hk1754 84 19 (Or.inl (by decide))
          have hc2072 : N1743 84 19 = N1732 84 19 := hk1751 84 19 rfl
          have hc2073 : N1732 84 19 = N1725 84 19 := hk1734 84 19 (Or.inl (by decide))
          have hc2074 : N1725 84 19 = N1263 84 19 := hk1731 84 19 rfl
          have hc2075 : N1263 84 19 = M 84 19 := hk1267 84 19 rfl
          refine ⟨by omega, ?_⟩
          have hr2076 : (0 : Int) ≤ N1993 106 (N1993 84 19) ∧ N1993 106 (N1993 84 19) ≤ (12 : Int) := hIN1993.1 106 (N1993 84 19)
          have hc2077 : N1993 106 (N1993 84 19) = N1752 106 (N1993 84 19) := hk2027 106 (N1993 84 19) rfl
          have hc2078 : N1752 106 (N1993 84 19) = N1743 106 (N1993 84 19) := hk1754 106 (N1993 84 19) (Or.inl (by decide))
          have hc2079 : N1743 106 (N1993 84 19) = N1732 106 (N1993 84 19) := hk1751 106 (N1993 84 19) rfl
          have hc2080 : N1732 106 (N1993 84 19) = N1725 106 (N1993 84 19) := hk1734 106 (N1993 84 19) (Or.inl (by decide))
          have hc2081 : N1725 106 (N1993 84 19) = N1263 106 (N1993 84 19) := hk1731 106 (N1993 84 19) rfl
          have hc2082 : N1263 106 (N1993 84 19) = M 106 (N1993 84 19) := hk1267 106 (N1993 84 19) rfl
          refine ⟨by omega, ?_⟩
          refine ⟨by omega, ?_⟩
          obtain ⟨N2083, he2084⟩ : ∃ X : qM, X = stM N1993 106 (N1993 84 19) ((N1993 106 (N1993 84 19)) + 1) := ⟨_, rfl⟩
          rw [← he2084]
          have hk2085 := stM_k he2084
          have hg2086 := stM_g he2084
          have hr2087 : (0 : Int) ≤ N1993 84 18 ∧ N1993 84 18 ≤ (1 : Int) := hIN1993.1 84 18
          have hc2088 : N1993 84 18 = N1752 84 18 := hk2027 84 18 rfl
          have hc2089 : N1752 84 18 = N1743 84 18 := hk1754 84 18 (Or.inl (by decide))
          have hc2090 : N1743 84 18 = N1732 84 18 := hk1751 84 18 rfl
          have hc2091 : N1732 84 18 = N1725 84 18 := hk1734 84 18 (Or.inl (by decide))
          have hc2092 : N1725 84 18 = N1263 84 18 := hk1731 84 18 rfl
          have hc2093 : N1263 84 18 = M 84 18 := hk1267 84 18 rfl
          have hr2094 : (0 : Int) ≤ N1993 84 19 ∧ N1993 84 19 ≤ (1 : Int) := hIN1993.1 84 19
          have hc2095 : N1993 84 19 = N1752 84 19 := hk2027 84 19 rfl
          have hc2096 : N1752 84 19 = N1743 84 19 := hk1754 84 19 (Or.inl (by decide))
          have hc2097 : N1743 84 19 = N1732 84 19 := hk1751 84 19 rfl
          have hc2098 : N1732 84 19 = N1725 84 19 := hk1734 84 19 (Or.inl (by decide))
          have hc2099 : N1725 84 19 = N1263 84 19 := hk1731 84 19 rfl
          have hc2100 : N1263 84 19 = M 84 19 := hk1267 84 19 rfl
          have hIN2083 : INV S N2083 := INV_side (w := 1) hIN1993 he2084 (show (0 : Int) ≤ _ ∧ _ ≤ (12 : Int) from ⟨by omega, by omega⟩) (by decide) (by omega)
          have hr2101 : (0 : Int) ≤ N2083 84 11 ∧ N2083 84 11 ≤ (400 : Int) := hIN2083.1 84 11
          have hc2102 : N2083 84 11 = N1993 84 11 := hk2085 84 11 (Or.inl (by decide))
          have hr2103 : (0 : Int) ≤ N2083 84 12 ∧ N2083 84 12 ≤ (7 : Int) := hIN2083.1 84 12
          have hc2104 : N2083 84 12 = N1993 84 12 := hk2085 84 12 (Or.inl (by decide))
          have hr2105 : (0 : Int) ≤ N2083 84 13 ∧ N2083 84 13 ≤ (5 : Int) := hIN2083.1 84 13
          have hc2106 : N2083 84 13 = N1993 84 13 := hk2085 84 13 (Or.inl (by decide))
          have hr2107 : (0 : Int) ≤ N2083 84 15 ∧ N2083 84 15 ≤ (5 : Int) := hIN2083.1 84 15
          have hc2108 : N2083 84 15 = N1993 84 15 := hk2085 84 15 (Or.inl (by decide))
          have hc2109 : N1993 84 15 = N1752 84 15 := hk2027 84 15 rfl
          have hc2110 : N1752 84 15 = N1743 84 15 := hk1754 84 15 (Or.inl (by decide))
          have hr2111 : (0 : Int) ≤ N2083 84 18 ∧ N2083 84 18 ≤ (1 : Int) := hIN2083.1 84 18
          have hc2112 : N2083 84 18 = N1993 84 18 := hk2085 84 18 (Or.inl (by decide))
          have hc2113 : N1993 84 18 = N1752 84 18 := hk2027 84 18 rfl
          have hc2114 : N1752 84 18 = N1743 84 18 := hk1754 84 18 (Or.inl (by decide))
          have hc2115 : N1743 84 18 = N1732 84 18 := hk1751 84 18 rfl
          have hc2116 : N1732 84 18 = N1725 84 18 := hk1734 84 18 (Or.inl (by decide))
          have hc2117 : N1725 84 18 = N1263 84 18 := hk1731 84 18 rfl
          have hc2118 : N1263 84 18 = M 84 18 := hk1267 84 18 rfl
          have hr2119 : (0 : Int) ≤ N2083 84 19 ∧ N2083 84 19 ≤ (1 : Int) := hIN2083.1 84 19
          have hc2120 : N2083 84 19 = N1993 84 19 := hk2085 84 19 (Or.inl (by decide))
          have hc2121 : N1993 84 19 = N1752 84 19 := hk2027 84 19 rfl
          have hc2122 : N1752 84 19 = N1743 84 19 := hk1754 84 19 (Or.inl (by decide))
          have hc2123 : N1743 84 19 = N1732 84 19 := hk1751 84 19 rfl
          have hc2124 : N1732 84 19 = N1725 84 19 := hk1734 84 19 (Or.inl (by decide))
          have hc2125 : N1725 84 19 = N1263 84 19 := hk1731 84 19 rfl
          have hc2126 : N1263 84 19 = M 84 19 := hk1267 84 19 rfl
          have hr2127 : (0 : Int) ≤ N2083 84 20 ∧ N2083 84 20 ≤ (11 : Int) := hIN2083.1 84 20
          have hc2128 : N2083 84 20 = N1993 84 20 := hk2085 84 20 (Or.inl (by decide))
          have hc2129 : N1993 84 20 = N1752 84 20 := hk2027 84 20 rfl
          have hc2130 : N1752 84 20 = N1743 84 20 := hk1754 84 20 (Or.inl (by decide))
          have hc2131 : N1743 84 20 = N1732 84 20 := hk1751 84 20 rfl
          have hc2132 : N1732 84 20 = N1725 84 20 := hk1734 84 20 (Or.inl (by decide))
          have hc2133 : N1725 84 20 = N1263 84 20 := hk1731 84 20 rfl
          have hc2134 : N1263 84 20 = M 84 20 := hk1267 84 20 rfl
          have hc2135 : N2083 84 42 = N1993 84 42 := hk2085 84 42 (Or.inl (by decide))
          have hc2136 : N2083 84 48 = N1993 84 48 := hk2085 84 48 (Or.inl (by decide))
          have hGH : GH N2083 := GH_fr hp1994.2.2.2.2.2.2 (stM_s he2084) rfl (fun _ => by omega)
          have hNA : N2083 84 13 = 0 → NA N2083 := fun _ => NA_fr (NA_fr (NA_fr (NA_fr hna hk1751 rfl) (stM_s he1753) rfl) hk2027 rfl) (stM_s he2084) rfl
          have hNM : N2083 84 13 = 0 → N2083 84 20 = N2083 95 (M 84 19) + N2083 100 (M 84 19) := fun h => by rw [stM_k he2084 84 20 (Or.inl (by decide)), hk2027 84 20 rfl, stM_k he1753 84 20 (Or.inl (by decide)), hk1751 84 20 rfl, stM_k he1733 84 20 (Or.inl (by decide)), hk1731 84 20 rfl, hk1267 84 20 rfl, stM_k he2084 95 _ (Or.inl (by decide)), hk2027 95 _ rfl, stM_k he1753 95 _ (Or.inl (by decide)), hk1751 95 _ rfl, stM_k he1733 95 _ (Or.inl (by decide)), hk1731 95 _ rfl, hk1267 95 _ rfl, stM_k he2084 100 _ (Or.inl (by decide)), hk2027 100 _ rfl, stM_k he1753 100 _ (Or.inl (by decide)), hk1751 100 _ rfl, stM_k he1733 100 _ (Or.inl (by decide)), hk1731 100 _ rfl, hk1267 100 _ rfl]; exact p8
          have h103 : N2083 106 (M 84 19) = M 106 (M 84 19) + 1 := by have e := stM_g he2084; rw [show N1993 84 19 = M 84 19 by omega] at e; have e2 := sc4; rw [show N1993 84 19 = M 84 19 by omega] at e2; omega
          have hsm0 : qSm [(84, some 11), (84, some 12), (84, some 13), (84, some 14), (84, some 15), (84, some 16), (84, some 42), (84, some 48), (84, some 52), (106, none), (107, none), (108, none), (111, none), (112, none), (113, none), (114, none), (115, none), (116, none), (117, none), (118, none), (119, none), (120, none)] M N2083 := (by intro b j hbj; rw [hk2085 b j (qSm_ne hbj rfl), hk2027 b j (qSm_sub hbj rfl), hk1754 b j (qSm_ne hbj rfl), hk1751 b j (qSm_sub hbj rfl), hk1734 b j (qSm_ne hbj rfl), hk1731 b j (qSm_sub hbj rfl), hk1267 b j (qSm_sub hbj rfl)])
          have hGG : GG N2083 := GG_want p11 (by omega) (fun _ _ => by omega) (by omega) h103 (fun j hj => by rw [stM_k he2084 107 _ (Or.inl (by decide)), hk2027 107 _ rfl, stM_k he1753 107 _ (Or.inl (by decide)), hk1751 107 _ rfl, stM_k he1733 107 _ (Or.inr (by omega)), hk1731 107 _ rfl, hk1267 107 _ rfl]) (fun j hj => by rw [stM_k he2084 108 _ (Or.inl (by decide)), hk2027 108 _ rfl, stM_k he1753 108 _ (Or.inr (by omega)), hk1751 108 _ rfl, stM_k he1733 108 _ (Or.inl (by decide)), hk1731 108 _ rfl, hk1267 108 _ rfl]) (fun b hb => by
            simp only [List.contains_cons, List.contains_nil, Bool.or_false, Bool.or_eq_true, beq_iff_eq] at hb
            funext j
            exact hsm0 b j (by rcases hb with rfl | rfl | rfl | rfl | rfl | rfl | rfl | rfl | rfl | rfl <;> rfl)) (fun h1 h2 => by
            rw [stM_k he2084 107 _ (Or.inl (by decide)), hk2027 107 _ rfl, stM_k he1753 107 _ (Or.inl (by decide)), hk1751 107 _ rfl, show 12 * M 84 19 + M 106 (M 84 19) = ((12 * (N1263 84 19)) + (N1263 106 (N1263 84 19))) by omega, stM_g he1733, stM_k he2084 108 _ (Or.inl (by decide)), hk2027 108 _ rfl, stM_g he1753]
            omega)
          have hr2137 : (0 : Int) ≤ N2083 84 11 ∧ N2083 84 11 ≤ (400 : Int) := hIN2083.1 84 11
          have hc2138 : N2083 84 11 = N1993 84 11 := hk2085 84 11 (Or.inl (by decide))
          have hr2139 : (0 : Int) ≤ N2083 84 13 ∧ N2083 84 13 ≤ (5 : Int) := hIN2083.1 84 13
          have hc2140 : N2083 84 13 = N1993 84 13 := hk2085 84 13 (Or.inl (by decide))
          have hr2141 : (0 : Int) ≤ N2083 84 12 ∧ N2083 84 12 ≤ (7 : Int) := hIN2083.1 84 12
          have hc2142 : N2083 84 12 = N1993 84 12 := hk2085 84 12 (Or.inl (by decide))
          have hc2143 : N2083 84 48 = N1993 84 48 := hk2085 84 48 (Or.inl (by decide))
          have hc2144 : N2083 84 42 = N1993 84 42 := hk2085 84 42 (Or.inl (by decide))
          have hr2145 : (0 : Int) ≤ N2083 84 20 ∧ N2083 84 20 ≤ (11 : Int) := hIN2083.1 84 20
          have hc2146 : N2083 84 20 = N1993 84 20 := hk2085 84 20 (Or.inl (by decide))
          have hc2147 : N1993 84 20 = N1752 84 20 := hk2027 84 20 rfl
          have hc2148 : N1752 84 20 = N1743 84 20 := hk1754 84 20 (Or.inl (by decide))
          have hc2149 : N1743 84 20 = N1732 84 20 := hk1751 84 20 rfl
          have hc2150 : N1732 84 20 = N1725 84 20 := hk1734 84 20 (Or.inl (by decide))
          have hc2151 : N1725 84 20 = N1263 84 20 := hk1731 84 20 rfl
          have hc2152 : N1263 84 20 = M 84 20 := hk1267 84 20 rfl
          have hsm : qSm [(84, some 11), (84, some 12), (84, some 13), (84, some 14), (84, some 15), (84, some 16), (84, some 20), (84, some 42), (84, some 48), (84, some 52), (92, none), (93, none), (94, none), (95, none), (96, none), (97, none), (98, none), (99, none), (100, none), (101, none), (102, none), (103, none), (104, none), (105, none), (106, none), (107, none), (108, none), (109, none), (110, none), (111, none), (112, none), (113, none), (114, none), (115, none), (116, none), (117, none), (118, none), (119, none), (120, none)] M N2083 := by
            intro b j hbj
            rw [hk2085 b j (qSm_ne hbj rfl), hk2027 b j (qSm_sub hbj rfl), hk1754 b j (qSm_ne hbj rfl), hk1751 b j (qSm_sub hbj rfl), hk1734 b j (qSm_ne hbj rfl), hk1731 b j (qSm_sub hbj rfl), hk1267 b j (qSm_sub hbj rfl)]
          exact ⟨rfl, rfl, hIN2083, hsm, by omega, by omega, by omega, by first | exact hNM | exact fun h1 => absurd h1 (by omega), by first | exact hGH | exact fun h1 => absurd h1 (by omega), by first | exact hNA | exact fun h1 => absurd h1 (by omega), by first | exact hGG | exact fun h1 _ => absurd h1 (by omega)⟩
  · refine ⟨trivial, ?_⟩
    have hr2156 : (0 : Int) ≤ M 84 11 ∧ M 84 11 ≤ (400 : Int) := hIM.1 84 11
    have hr2157 : (0 : Int) ≤ M 84 13 ∧ M 84 13 ≤ (5 : Int) := hIM.1 84 13
    refine CV_mono (c_X12_goesOn T (hIM)) (fun N2154 hp2155 => ?_)
    obtain ⟨hIN2154, hk2158, hp2155⟩ := hp2155
    have hr2159 : (0 : Int) ≤ N2154 84 19 ∧ N2154 84 19 ≤ (1 : Int) := hIN2154.1 84 19
    have hc2160 : N2154 84 19 = M 84 19 := hk2158 84 19 rfl
    refine ⟨trivial, ?_⟩
    have hr2164 : (0 : Int) ≤ N2154 84 11 ∧ N2154 84 11 ≤ (400 : Int) := hIN2154.1 84 11
    have hr2165 : (0 : Int) ≤ N2154 84 13 ∧ N2154 84 13 ≤ (5 : Int) := hIN2154.1 84 13
    have hr2166 : (0 : Int) ≤ N2154 84 15 ∧ N2154 84 15 ≤ (5 : Int) := hIN2154.1 84 15
    have hc2167 : N2154 84 15 = M 84 15 := hk2158 84 15 rfl
    refine CI_mono (c_X12_bounded T (hIN2154)) (fun z2161 N2162 hp2163 => ?_)
    obtain ⟨hIN2162, hk2168, hp2163⟩ := hp2163
    refine ⟨by omega, ?_⟩
    obtain ⟨N2169, he2170⟩ : ∃ X : qM, X = stM N2162 109 (N2154 84 19) z2161 := ⟨_, rfl⟩
    rw [← he2170]
    have hk2171 := stM_k he2170
    have hg2172 := stM_g he2170
    have hIN2169 : INV S N2169 := INV_st hIN2162 he2170 (qFree _ _ _ rfl) rfl
    refine ⟨trivial, ?_⟩
    have hr2176 : (0 : Int) ≤ N2169 84 11 ∧ N2169 84 11 ≤ (400 : Int) := hIN2169.1 84 11
    have hc2177 : N2169 84 11 = N2162 84 11 := hk2171 84 11 (Or.inl (by decide))
    have hr2178 : (0 : Int) ≤ N2169 84 13 ∧ N2169 84 13 ≤ (5 : Int) := hIN2169.1 84 13
    have hc2179 : N2169 84 13 = N2162 84 13 := hk2171 84 13 (Or.inl (by decide))
    refine CV_mono (c_X12_must T (hIN2169)) (fun N2174 hp2175 => ?_)
    obtain ⟨hIN2174, hk2180, hp2175⟩ := hp2175
    have hr2181 : (0 : Int) ≤ N2174 84 11 ∧ N2174 84 11 ≤ (400 : Int) := hIN2174.1 84 11
    have hr2182 : (0 : Int) ≤ N2174 84 12 ∧ N2174 84 12 ≤ (7 : Int) := hIN2174.1 84 12
    have hc2183 : N2174 84 12 = N2169 84 12 := hk2180 84 12 rfl
    have hc2184 : N2169 84 12 = N2162 84 12 := hk2171 84 12 (Or.inl (by decide))
    have hc2185 : N2162 84 12 = N2154 84 12 := hk2168 84 12 rfl
    have hc2186 : N2154 84 12 = M 84 12 := hk2158 84 12 rfl
    have hr2187 : (0 : Int) ≤ N2174 84 13 ∧ N2174 84 13 ≤ (5 : Int) := hIN2174.1 84 13
    have hr2188 : (0 : Int) ≤ N2174 84 15 ∧ N2174 84 15 ≤ (5 : Int) := hIN2174.1 84 15
    have hc2189 : N2174 84 15 = N2169 84 15 := hk2180 84 15 rfl
    have hc2190 : N2169 84 15 = N2162 84 15 := hk2171 84 15 (Or.inl (by decide))
    have hr2191 : (0 : Int) ≤ N2174 84 18 ∧ N2174 84 18 ≤ (1 : Int) := hIN2174.1 84 18
    have hc2192 : N2174 84 18 = N2169 84 18 := hk2180 84 18 rfl
    have hc2193 : N2169 84 18 = N2162 84 18 := hk2171 84 18 (Or.inl (by decide))
    have hc2194 : N2162 84 18 = N2154 84 18 := hk2168 84 18 rfl
    have hc2195 : N2154 84 18 = M 84 18 := hk2158 84 18 rfl
    have hr2196 : (0 : Int) ≤ N2174 84 19 ∧ N2174 84 19 ≤ (1 : Int) := hIN2174.1 84 19
    have hc2197 : N2174 84 19 = N2169 84 19 := hk2180 84 19 rfl
    have hc2198 : N2169 84 19 = N2162 84 19 := hk2171 84 19 (Or.inl (by decide))
    have hc2199 : N2162 84 19 = N2154 84 19 := hk2168 84 19 rfl
    have hc2200 : N2154 84 19 = M 84 19 := hk2158 84 19 rfl
    have hr2201 : (0 : Int) ≤ N2174 84 20 ∧ N2174 84 20 ≤ (11 : Int) := hIN2174.1 84 20
    have hc2202 : N2174 84 20 = N2169 84 20 := hk2180 84 20 rfl
    have hc2203 : N2169 84 20 = N2162 84 20 := hk2171 84 20 (Or.inl (by decide))
    have hc2204 : N2162 84 20 = N2154 84 20 := hk2168 84 20 rfl
    have hc2205 : N2154 84 20 = M 84 20 := hk2158 84 20 rfl
    have hc2206 : N2174 84 42 = N2169 84 42 := hk2180 84 42 rfl
    have hc2207 : N2169 84 42 = N2162 84 42 := hk2171 84 42 (Or.inl (by decide))
    have hc2208 : N2162 84 42 = N2154 84 42 := hk2168 84 42 rfl
    have hc2209 : N2154 84 42 = M 84 42 := hk2158 84 42 rfl
    have hc2210 : N2174 84 48 = N2169 84 48 := hk2180 84 48 rfl
    have hc2211 : N2169 84 48 = N2162 84 48 := hk2171 84 48 (Or.inl (by decide))
    have hc2212 : N2162 84 48 = N2154 84 48 := hk2168 84 48 rfl
    have hc2213 : N2154 84 48 = M 84 48 := hk2158 84 48 rfl
    have hGH : GH N2174 := GH_fr (GH_fr (GH_fr (GH_fr p9 hk2158 rfl (fun _ => by omega)) hk2168 rfl (fun _ => by omega)) (stM_s he2170) rfl (fun _ => by omega)) hk2180 rfl (fun _ => by omega)
    have hNA : N2174 84 13 = 0 → NA N2174 := fun _ => NA_fr (NA_fr (NA_fr (NA_fr p10 hk2158 rfl) hk2168 rfl) (stM_s he2170) rfl) hk2180 rfl
    have hGG : GG N2174 := GG_fr (GG_fr (GG_fr (GG_fr p11 hk2158 rfl (fun _ => by omega) (fun _ _ => by omega)) hk2168 rfl (fun _ => by omega) (fun _ _ => by omega)) (stM_s he2170) rfl (fun _ => by omega) (fun _ _ => by omega)) hk2180 rfl (fun _ => by omega) (fun _ _ => by omega)
    have hNM : N2174 84 13 = 0 → N2174 84 20 = N2174 95 (M 84 19) + N2174 100 (M 84 19) := fun h => by rw [hk2180 84 20 rfl, stM_k he2170 84 20 (Or.inl (by decide)), hk2168 84 20 rfl, hk2158 84 20 rfl, hk2180 95 _ rfl, stM_k he2170 95 _ (Or.inl (by decide)), hk2168 95 _ rfl, hk2158 95 _ rfl, hk2180 100 _ rfl, stM_k he2170 100 _ (Or.inl (by decide)), hk2168 100 _ rfl, hk2158 100 _ rfl]; exact p8
    have hr2214 : (0 : Int) ≤ N2174 84 11 ∧ N2174 84 11 ≤ (400 : Int) := hIN2174.1 84 11
    have hr2215 : (0 : Int) ≤ N2174 84 13 ∧ N2174 84 13 ≤ (5 : Int) := hIN2174.1 84 13
    have hr2216 : (0 : Int) ≤ N2174 84 12 ∧ N2174 84 12 ≤ (7 : Int) := hIN2174.1 84 12
    have hc2217 : N2174 84 12 = N2169 84 12 := hk2180 84 12 rfl
    have hc2218 : N2169 84 12 = N2162 84 12 := hk2171 84 12 (Or.inl (by decide))
    have hc2219 : N2162 84 12 = N2154 84 12 := hk2168 84 12 rfl
    have hc2220 : N2154 84 12 = M 84 12 := hk2158 84 12 rfl
    have hc2221 : N2174 84 48 = N2169 84 48 := hk2180 84 48 rfl
    have hc2222 : N2169 84 48 = N2162 84 48 := hk2171 84 48 (Or.inl (by decide))
    have hc2223 : N2162 84 48 = N2154 84 48 := hk2168 84 48 rfl
    have hc2224 : N2154 84 48 = M 84 48 := hk2158 84 48 rfl
    have hc2225 : N2174 84 42 = N2169 84 42 := hk2180 84 42 rfl
    have hc2226 : N2169 84 42 = N2162 84 42 := hk2171 84 42 (Or.inl (by decide))
    have hc2227 : N2162 84 42 = N2154 84 42 := hk2168 84 42 rfl
    have hc2228 : N2154 84 42 = M 84 42 := hk2158 84 42 rfl
    have hr2229 : (0 : Int) ≤ N2174 84 20 ∧ N2174 84 20 ≤ (11 : Int) := hIN2174.1 84 20
    have hc2230 : N2174 84 20 = N2169 84 20 := hk2180 84 20 rfl
    have hc2231 : N2169 84 20 = N2162 84 20 := hk2171 84 20 (Or.inl (by decide))
    have hc2232 : N2162 84 20 = N2154 84 20 := hk2168 84 20 rfl
    have hc2233 : N2154 84 20 = M 84 20 := hk2158 84 20 rfl
    have hsm : qSm [(84, some 11), (84, some 12), (84, some 13), (84, some 14), (84, some 15), (84, some 16), (84, some 20), (84, some 42), (84, some 48), (84, some 52), (92, none), (93, none), (94, none), (95, none), (96, none), (97, none), (98, none), (99, none), (100, none), (101, none), (102, none), (103, none), (104, none), (105, none), (106, none), (107, none), (108, none), (109, none), (110, none), (111, none), (112, none), (113, none), (114, none), (115, none), (116, none), (117, none), (118, none), (119, none), (120, none)] M N2174 := by
      intro b j hbj
      rw [hk2180 b j (qSm_sub hbj rfl), hk2171 b j (qSm_ne hbj rfl), hk2168 b j (qSm_sub hbj rfl), hk2158 b j (qSm_sub hbj rfl)]
    exact ⟨rfl, rfl, hIN2174, hsm, by omega, by omega, by omega, by first | exact hNM | exact fun h1 => absurd h1 (by omega), by first | exact hGH | exact fun h1 => absurd h1 (by omega), by first | exact hNA | exact fun h1 => absurd h1 (by omega), by first | exact hGG | exact fun h1 _ => absurd h1 (by omega)⟩
  · refine ⟨trivial, ?_⟩
    have hr2237 : (0 : Int) ≤ M 84 11 ∧ M 84 11 ≤ (400 : Int) := hIM.1 84 11
    have hr2238 : (0 : Int) ≤ M 84 13 ∧ M 84 13 ≤ (5 : Int) := hIM.1 84 13
    refine CV_mono (c_X12_goesOn T (hIM)) (fun N2235 hp2236 => ?_)
    obtain ⟨hIN2235, hk2239, hp2236⟩ := hp2236
    have hr2240 : (0 : Int) ≤ N2235 84 19 ∧ N2235 84 19 ≤ (1 : Int) := hIN2235.1 84 19
    have hc2241 : N2235 84 19 = M 84 19 := hk2239 84 19 rfl
    refine ⟨trivial, ?_⟩
    have hr2245 : (0 : Int) ≤ N2235 84 11 ∧ N2235 84 11 ≤ (400 : Int) := hIN2235.1 84 11
    have hr2246 : (0 : Int) ≤ N2235 84 13 ∧ N2235 84 13 ≤ (5 : Int) := hIN2235.1 84 13
    have hr2247 : (0 : Int) ≤ N2235 84 15 ∧ N2235 84 15 ≤ (5 : Int) := hIN2235.1 84 15
    have hc2248 : N2235 84 15 = M 84 15 := hk2239 84 15 rfl
    refine CI_mono (c_X12_bounded T (hIN2235)) (fun z2242 N2243 hp2244 => ?_)
    obtain ⟨hIN2243, hk2249, hp2244⟩ := hp2244
    refine ⟨by omega, ?_⟩
    obtain ⟨N2250, he2251⟩ : ∃ X : qM, X = stM N2243 110 (N2235 84 19) z2242 := ⟨_, rfl⟩
    rw [← he2251]
    have hk2252 := stM_k he2251
    have hg2253 := stM_g he2251
    have hIN2250 : INV S N2250 := INV_st hIN2243 he2251 (qFree _ _ _ rfl) rfl
    refine ⟨trivial, ?_⟩
    have hr2257 : (0 : Int) ≤ N2250 84 11 ∧ N2250 84 11 ≤ (400 : Int) := hIN2250.1 84 11
    have hc2258 : N2250 84 11 = N2243 84 11 := hk2252 84 11 (Or.inl (by decide))
    have hr2259 : (0 : Int) ≤ N2250 84 13 ∧ N2250 84 13 ≤ (5 : Int) := hIN2250.1 84 13
    have hc2260 : N2250 84 13 = N2243 84 13 := hk2252 84 13 (Or.inl (by decide))
    refine CV_mono (c_X12_must T (hIN2250)) (fun N2255 hp2256 => ?_)
    obtain ⟨hIN2255, hk2261, hp2256⟩ := hp2256
    have hr2262 : (0 : Int) ≤ N2255 84 11 ∧ N2255 84 11 ≤ (400 : Int) := hIN2255.1 84 11
    have hr2263 : (0 : Int) ≤ N2255 84 12 ∧ N2255 84 12 ≤ (7 : Int) := hIN2255.1 84 12
    have hc2264 : N2255 84 12 = N2250 84 12 := hk2261 84 12 rfl
    have hc2265 : N2250 84 12 = N2243 84 12 := hk2252 84 12 (Or.inl (by decide))
    have hc2266 : N2243 84 12 = N2235 84 12 := hk2249 84 12 rfl
    have hc2267 : N2235 84 12 = M 84 12 := hk2239 84 12 rfl
    have hr2268 : (0 : Int) ≤ N2255 84 13 ∧ N2255 84 13 ≤ (5 : Int) := hIN2255.1 84 13
    have hr2269 : (0 : Int) ≤ N2255 84 15 ∧ N2255 84 15 ≤ (5 : Int) := hIN2255.1 84 15
    have hc2270 : N2255 84 15 = N2250 84 15 := hk2261 84 15 rfl
    have hc2271 : N2250 84 15 = N2243 84 15 := hk2252 84 15 (Or.inl (by decide))
    have hr2272 : (0 : Int) ≤ N2255 84 18 ∧ N2255 84 18 ≤ (1 : Int) := hIN2255.1 84 18
    have hc2273 : N2255 84 18 = N2250 84 18 := hk2261 84 18 rfl
    have hc2274 : N2250 84 18 = N2243 84 18 := hk2252 84 18 (Or.inl (by decide))
    have hc2275 : N2243 84 18 = N2235 84 18 := hk2249 84 18 rfl
    have hc2276 : N2235 84 18 = M 84 18 := hk2239 84 18 rfl
    have hr2277 : (0 : Int) ≤ N2255 84 19 ∧ N2255 84 19 ≤ (1 : Int) := hIN2255.1 84 19
    have hc2278 : N2255 84 19 = N2250 84 19 := hk2261 84 19 rfl
    have hc2279 : N2250 84 19 = N2243 84 19 := hk2252 84 19 (Or.inl (by decide))
    have hc2280 : N2243 84 19 = N2235 84 19 := hk2249 84 19 rfl
    have hc2281 : N2235 84 19 = M 84 19 := hk2239 84 19 rfl
    have hr2282 : (0 : Int) ≤ N2255 84 20 ∧ N2255 84 20 ≤ (11 : Int) := hIN2255.1 84 20
    have hc2283 : N2255 84 20 = N2250 84 20 := hk2261 84 20 rfl
    have hc2284 : N2250 84 20 = N2243 84 20 := hk2252 84 20 (Or.inl (by decide))
    have hc2285 : N2243 84 20 = N2235 84 20 := hk2249 84 20 rfl
    have hc2286 : N2235 84 20 = M 84 20 := hk2239 84 20 rfl
    have hc2287 : N2255 84 42 = N2250 84 42 := hk2261 84 42 rfl
    have hc2288 : N2250 84 42 = N2243 84 42 := hk2252 84 42 (Or.inl (by decide))
    have hc2289 : N2243 84 42 = N2235 84 42 := hk2249 84 42 rfl
    have hc2290 : N2235 84 42 = M 84 42 := hk2239 84 42 rfl
    have hc2291 : N2255 84 48 = N2250 84 48 := hk2261 84 48 rfl
    have hc2292 : N2250 84 48 = N2243 84 48 := hk2252 84 48 (Or.inl (by decide))
    have hc2293 : N2243 84 48 = N2235 84 48 := hk2249 84 48 rfl
    have hc2294 : N2235 84 48 = M 84 48 := hk2239 84 48 rfl
    have hGH : GH N2255 := GH_fr (GH_fr (GH_fr (GH_fr p9 hk2239 rfl (fun _ => by omega)) hk2249 rfl (fun _ => by omega)) (stM_s he2251) rfl (fun _ => by omega)) hk2261 rfl (fun _ => by omega)
    have hNA : N2255 84 13 = 0 → NA N2255 := fun _ => NA_fr (NA_fr (NA_fr (NA_fr p10 hk2239 rfl) hk2249 rfl) (stM_s he2251) rfl) hk2261 rfl
    have hGG : GG N2255 := GG_fr (GG_fr (GG_fr (GG_fr p11 hk2239 rfl (fun _ => by omega) (fun _ _ => by omega)) hk2249 rfl (fun _ => by omega) (fun _ _ => by omega)) (stM_s he2251) rfl (fun _ => by omega) (fun _ _ => by omega)) hk2261 rfl (fun _ => by omega) (fun _ _ => by omega)
    have hNM : N2255 84 13 = 0 → N2255 84 20 = N2255 95 (M 84 19) + N2255 100 (M 84 19) := fun h => by rw [hk2261 84 20 rfl, stM_k he2251 84 20 (Or.inl (by decide)), hk2249 84 20 rfl, hk2239 84 20 rfl, hk2261 95 _ rfl, stM_k he2251 95 _ (Or.inl (by decide)), hk2249 95 _ rfl, hk2239 95 _ rfl, hk2261 100 _ rfl, stM_k he2251 100 _ (Or.inl (by decide)), hk2249 100 _ rfl, hk2239 100 _ rfl]; exact p8
    have hr2295 : (0 : Int) ≤ N2255 84 11 ∧ N2255 84 11 ≤ (400 : Int) := hIN2255.1 84 11
    have hr2296 : (0 : Int) ≤ N2255 84 13 ∧ N2255 84 13 ≤ (5 : Int) := hIN2255.1 84 13
    have hr2297 : (0 : Int) ≤ N2255 84 12 ∧ N2255 84 12 ≤ (7 : Int) := hIN2255.1 84 12
    have hc2298 : N2255 84 12 = N2250 84 12 := hk2261 84 12 rfl
    have hc2299 : N2250 84 12 = N2243 84 12 := hk2252 84 12 (Or.inl (by decide))
    have hc2300 : N2243 84 12 = N2235 84 12 := hk2249 84 12 rfl
    have hc2301 : N2235 84 12 = M 84 12 := hk2239 84 12 rfl
    have hc2302 : N2255 84 48 = N2250 84 48 := hk2261 84 48 rfl
    have hc2303 : N2250 84 48 = N2243 84 48 := hk2252 84 48 (Or.inl (by decide))
    have hc2304 : N2243 84 48 = N2235 84 48 := hk2249 84 48 rfl
    have hc2305 : N2235 84 48 = M 84 48 := hk2239 84 48 rfl
    have hc2306 : N2255 84 42 = N2250 84 42 := hk2261 84 42 rfl
    have hc2307 : N2250 84 42 = N2243 84 42 := hk2252 84 42 (Or.inl (by decide))
    have hc2308 : N2243 84 42 = N2235 84 42 := hk2249 84 42 rfl
    have hc2309 : N2235 84 42 = M 84 42 := hk2239 84 42 rfl
    have hr2310 : (0 : Int) ≤ N2255 84 20 ∧ N2255 84 20 ≤ (11 : Int) := hIN2255.1 84 20
    have hc2311 : N2255 84 20 = N2250 84 20 := hk2261 84 20 rfl
    have hc2312 : N2250 84 20 = N2243 84 20 := hk2252 84 20 (Or.inl (by decide))
    have hc2313 : N2243 84 20 = N2235 84 20 := hk2249 84 20 rfl
    have hc2314 : N2235 84 20 = M 84 20 := hk2239 84 20 rfl
    have hsm : qSm [(84, some 11), (84, some 12), (84, some 13), (84, some 14), (84, some 15), (84, some 16), (84, some 20), (84, some 42), (84, some 48), (84, some 52), (92, none), (93, none), (94, none), (95, none), (96, none), (97, none), (98, none), (99, none), (100, none), (101, none), (102, none), (103, none), (104, none), (105, none), (106, none), (107, none), (108, none), (109, none), (110, none), (111, none), (112, none), (113, none), (114, none), (115, none), (116, none), (117, none), (118, none), (119, none), (120, none)] M N2255 := by
      intro b j hbj
      rw [hk2261 b j (qSm_sub hbj rfl), hk2252 b j (qSm_ne hbj rfl), hk2249 b j (qSm_sub hbj rfl), hk2239 b j (qSm_sub hbj rfl)]
    exact ⟨rfl, rfl, hIN2255, hsm, by omega, by omega, by omega, by first | exact hNM | exact fun h1 => absurd h1 (by omega), by first | exact hGH | exact fun h1 => absurd h1 (by omega), by first | exact hNA | exact fun h1 => absurd h1 (by omega), by first | exact hGG | exact fun h1 _ => absurd h1 (by omega)⟩
  · refine ⟨trivial, ?_⟩
    refine CV_mono (c_X12_fail T (hIM) (show 1 ≤ (1 : Int) by omega) (show (1 : Int) ≤ 5 by omega)) (fun N2316 hp2317 => ?_)
    obtain ⟨hIN2316, hk2318, hp2317⟩ := hp2317
    have hr2319 : (0 : Int) ≤ N2316 84 11 ∧ N2316 84 11 ≤ (400 : Int) := hIN2316.1 84 11
    have hc2320 : N2316 84 11 = M 84 11 := hk2318 84 11 rfl
    have hr2321 : (0 : Int) ≤ N2316 84 13 ∧ N2316 84 13 ≤ (5 : Int) := hIN2316.1 84 13
    have hr2322 : (0 : Int) ≤ N2316 84 12 ∧ N2316 84 12 ≤ (7 : Int) := hIN2316.1 84 12
    have hc2323 : N2316 84 12 = M 84 12 := hk2318 84 12 rfl
    have hc2324 : N2316 84 48 = M 84 48 := hk2318 84 48 rfl
    have hc2325 : N2316 84 42 = M 84 42 := hk2318 84 42 rfl
    have hr2326 : (0 : Int) ≤ N2316 84 20 ∧ N2316 84 20 ≤ (11 : Int) := hIN2316.1 84 20
    have hc2327 : N2316 84 20 = M 84 20 := hk2318 84 20 rfl
    have hsm : qSm [(84, some 11), (84, some 12), (84, some 13), (84, some 14), (84, some 15), (84, some 16), (84, some 20), (84, some 42), (84, some 48), (84, some 52), (92, none), (93, none), (94, none), (95, none), (96, none), (97, none), (98, none), (99, none), (100, none), (101, none), (102, none), (103, none), (104, none), (105, none), (106, none), (107, none), (108, none), (109, none), (110, none), (111, none), (112, none), (113, none), (114, none), (115, none), (116, none), (117, none), (118, none), (119, none), (120, none)] M N2316 := by
      intro b j hbj
      rw [hk2318 b j (qSm_sub hbj rfl)]
    exact ⟨rfl, rfl, hIN2316, hsm, by omega, by omega, by omega, by first | exact hNM | exact fun h1 => absurd h1 (by omega), by first | exact hGH | exact fun h1 => absurd h1 (by omega), by first | exact hNA | exact fun h1 => absurd h1 (by omega), by first | exact hGG | exact fun h1 _ => absurd h1 (by omega)⟩
